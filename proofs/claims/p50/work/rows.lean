section
-- ===== PART A: goes FIRST, ahead of the names: the tables' words, and 'selects' of the private methods out of them =====
/-- a private method of a class that the tables say can be made, by its rows of tables_1 -/
def lw_okq (q : MethodName × Nat) : Prop := (q.1.cls ≠ "java/lang/invoke/MethodHandle" ∧ q.1.cls ≠ "java/lang/invoke/VarHandle") ∧ Cond.instantiable q.1.cls q.2 ∈ tables_1 ∧ Cond.privateMethod q.1 ∈ tables_1 ∧ Cond.instanceMethod q.1 ∈ tables_1
theorem lw_p0 : lw_okq (⟨"PepperTables$Told", "beginFormula", "()V"⟩, 19) := ⟨⟨by decide +kernel, by decide +kernel⟩, List.mem_of_getElem? (i := 34) (by decide +kernel), List.mem_of_getElem? (i := 40) (by decide +kernel), List.mem_of_getElem? (i := 41) (by decide +kernel)⟩
theorem lw_p1 : lw_okq (⟨"PepperTables$Reader", "step", "()V"⟩, 11) := ⟨⟨by decide +kernel, by decide +kernel⟩, List.mem_of_getElem? (i := 28) (by decide +kernel), List.mem_of_getElem? (i := 459) (by decide +kernel), List.mem_of_getElem? (i := 460) (by decide +kernel)⟩
theorem lw_p2 : lw_okq (⟨"PepperTables$Reader", "stepWord", "()V"⟩, 11) := ⟨⟨by decide +kernel, by decide +kernel⟩, List.mem_of_getElem? (i := 28) (by decide +kernel), List.mem_of_getElem? (i := 463) (by decide +kernel), List.mem_of_getElem? (i := 464) (by decide +kernel)⟩
theorem lw_p3 : lw_okq (⟨"PepperTables$Reader", "stepNumber", "()V"⟩, 11) := ⟨⟨by decide +kernel, by decide +kernel⟩, List.mem_of_getElem? (i := 28) (by decide +kernel), List.mem_of_getElem? (i := 467) (by decide +kernel), List.mem_of_getElem? (i := 468) (by decide +kernel)⟩
theorem lw_p4 : lw_okq (⟨"PepperTables$Reader", "readLine", "()V"⟩, 11) := ⟨⟨by decide +kernel, by decide +kernel⟩, List.mem_of_getElem? (i := 28) (by decide +kernel), List.mem_of_getElem? (i := 531) (by decide +kernel), List.mem_of_getElem? (i := 532) (by decide +kernel)⟩
theorem lw_p5 : lw_okq (⟨"PepperTables$Reader", "readPerson", "()V"⟩, 11) := ⟨⟨by decide +kernel, by decide +kernel⟩, List.mem_of_getElem? (i := 28) (by decide +kernel), List.mem_of_getElem? (i := 535) (by decide +kernel), List.mem_of_getElem? (i := 536) (by decide +kernel)⟩
theorem lw_p6 : lw_okq (⟨"PepperTables$Reader", "refuse", "()V"⟩, 11) := ⟨⟨by decide +kernel, by decide +kernel⟩, List.mem_of_getElem? (i := 28) (by decide +kernel), List.mem_of_getElem? (i := 539) (by decide +kernel), List.mem_of_getElem? (i := 540) (by decide +kernel)⟩
theorem lw_p7 : lw_okq (⟨"PepperTables$Reader", "fail", "(I)V"⟩, 11) := ⟨⟨by decide +kernel, by decide +kernel⟩, List.mem_of_getElem? (i := 28) (by decide +kernel), List.mem_of_getElem? (i := 543) (by decide +kernel), List.mem_of_getElem? (i := 544) (by decide +kernel)⟩
theorem lw_p8 : lw_okq (⟨"PepperTables$Reader", "takeNewName", "([JI)V"⟩, 11) := ⟨⟨by decide +kernel, by decide +kernel⟩, List.mem_of_getElem? (i := 28) (by decide +kernel), List.mem_of_getElem? (i := 547) (by decide +kernel), List.mem_of_getElem? (i := 548) (by decide +kernel)⟩
theorem lw_p9 : lw_okq (⟨"PepperTables$Reader", "indexOfName", "([JI)I"⟩, 11) := ⟨⟨by decide +kernel, by decide +kernel⟩, List.mem_of_getElem? (i := 28) (by decide +kernel), List.mem_of_getElem? (i := 551) (by decide +kernel), List.mem_of_getElem? (i := 552) (by decide +kernel)⟩
theorem lw_p10 : lw_okq (⟨"PepperTables$Reader", "takeNumber", "(II)I"⟩, 11) := ⟨⟨by decide +kernel, by decide +kernel⟩, List.mem_of_getElem? (i := 28) (by decide +kernel), List.mem_of_getElem? (i := 555) (by decide +kernel), List.mem_of_getElem? (i := 556) (by decide +kernel)⟩
theorem lw_p11 : lw_okq (⟨"PepperTables$Reader", "readSack", "()V"⟩, 11) := ⟨⟨by decide +kernel, by decide +kernel⟩, List.mem_of_getElem? (i := 28) (by decide +kernel), List.mem_of_getElem? (i := 559) (by decide +kernel), List.mem_of_getElem? (i := 560) (by decide +kernel)⟩
theorem lw_p12 : lw_okq (⟨"PepperTables$Reader", "readThing", "()V"⟩, 11) := ⟨⟨by decide +kernel, by decide +kernel⟩, List.mem_of_getElem? (i := 28) (by decide +kernel), List.mem_of_getElem? (i := 563) (by decide +kernel), List.mem_of_getElem? (i := 564) (by decide +kernel)⟩
theorem lw_p13 : lw_okq (⟨"PepperTables$Reader", "take", "(I)V"⟩, 11) := ⟨⟨by decide +kernel, by decide +kernel⟩, List.mem_of_getElem? (i := 28) (by decide +kernel), List.mem_of_getElem? (i := 567) (by decide +kernel), List.mem_of_getElem? (i := 568) (by decide +kernel)⟩
theorem lw_p14 : lw_okq (⟨"PepperTables$Reader", "takeKnownName", "([JII)I"⟩, 11) := ⟨⟨by decide +kernel, by decide +kernel⟩, List.mem_of_getElem? (i := 28) (by decide +kernel), List.mem_of_getElem? (i := 571) (by decide +kernel), List.mem_of_getElem? (i := 572) (by decide +kernel)⟩
theorem lw_p15 : lw_okq (⟨"PepperTables$Reader", "readFormula", "()V"⟩, 11) := ⟨⟨by decide +kernel, by decide +kernel⟩, List.mem_of_getElem? (i := 28) (by decide +kernel), List.mem_of_getElem? (i := 575) (by decide +kernel), List.mem_of_getElem? (i := 576) (by decide +kernel)⟩
def lw_privs_1 : List (MethodName × Nat) := [(⟨"PepperTables$Told", "beginFormula", "()V"⟩, 19), (⟨"PepperTables$Reader", "step", "()V"⟩, 11), (⟨"PepperTables$Reader", "stepWord", "()V"⟩, 11), (⟨"PepperTables$Reader", "stepNumber", "()V"⟩, 11), (⟨"PepperTables$Reader", "readLine", "()V"⟩, 11), (⟨"PepperTables$Reader", "readPerson", "()V"⟩, 11), (⟨"PepperTables$Reader", "refuse", "()V"⟩, 11), (⟨"PepperTables$Reader", "fail", "(I)V"⟩, 11), (⟨"PepperTables$Reader", "takeNewName", "([JI)V"⟩, 11), (⟨"PepperTables$Reader", "indexOfName", "([JI)I"⟩, 11), (⟨"PepperTables$Reader", "takeNumber", "(II)I"⟩, 11), (⟨"PepperTables$Reader", "readSack", "()V"⟩, 11), (⟨"PepperTables$Reader", "readThing", "()V"⟩, 11), (⟨"PepperTables$Reader", "take", "(I)V"⟩, 11), (⟨"PepperTables$Reader", "takeKnownName", "([JII)I"⟩, 11), (⟨"PepperTables$Reader", "readFormula", "()V"⟩, 11)]
theorem lw_r1 : ∀ q ∈ lw_privs_1, lw_okq q := List.forall_mem_cons.mpr ⟨lw_p0, List.forall_mem_cons.mpr ⟨lw_p1, List.forall_mem_cons.mpr ⟨lw_p2, List.forall_mem_cons.mpr ⟨lw_p3, List.forall_mem_cons.mpr ⟨lw_p4, List.forall_mem_cons.mpr ⟨lw_p5, List.forall_mem_cons.mpr ⟨lw_p6, List.forall_mem_cons.mpr ⟨lw_p7, List.forall_mem_cons.mpr ⟨lw_p8, List.forall_mem_cons.mpr ⟨lw_p9, List.forall_mem_cons.mpr ⟨lw_p10, List.forall_mem_cons.mpr ⟨lw_p11, List.forall_mem_cons.mpr ⟨lw_p12, List.forall_mem_cons.mpr ⟨lw_p13, List.forall_mem_cons.mpr ⟨lw_p14, List.forall_mem_cons.mpr ⟨lw_p15, fun _ h => absurd h List.not_mem_nil⟩⟩⟩⟩⟩⟩⟩⟩⟩⟩⟩⟩⟩⟩⟩⟩
theorem lw_p16 : lw_okq (⟨"PepperTables$Reader", "readEither", "(I)V"⟩, 11) := ⟨⟨by decide +kernel, by decide +kernel⟩, List.mem_of_getElem? (i := 28) (by decide +kernel), List.mem_of_getElem? (i := 579) (by decide +kernel), List.mem_of_getElem? (i := 580) (by decide +kernel)⟩
theorem lw_p17 : lw_okq (⟨"PepperTables$Reader", "readBoth", "(I)V"⟩, 11) := ⟨⟨by decide +kernel, by decide +kernel⟩, List.mem_of_getElem? (i := 28) (by decide +kernel), List.mem_of_getElem? (i := 583) (by decide +kernel), List.mem_of_getElem? (i := 584) (by decide +kernel)⟩
theorem lw_p18 : lw_okq (⟨"PepperTables$Reader", "readOne", "(I)V"⟩, 11) := ⟨⟨by decide +kernel, by decide +kernel⟩, List.mem_of_getElem? (i := 28) (by decide +kernel), List.mem_of_getElem? (i := 587) (by decide +kernel), List.mem_of_getElem? (i := 588) (by decide +kernel)⟩
theorem lw_p19 : lw_okq (⟨"PepperTables$Reader", "write", "(I)V"⟩, 11) := ⟨⟨by decide +kernel, by decide +kernel⟩, List.mem_of_getElem? (i := 28) (by decide +kernel), List.mem_of_getElem? (i := 591) (by decide +kernel), List.mem_of_getElem? (i := 592) (by decide +kernel)⟩
theorem lw_p20 : lw_okq (⟨"PepperTables$Reader", "readSum", "(I)V"⟩, 11) := ⟨⟨by decide +kernel, by decide +kernel⟩, List.mem_of_getElem? (i := 28) (by decide +kernel), List.mem_of_getElem? (i := 595) (by decide +kernel), List.mem_of_getElem? (i := 596) (by decide +kernel)⟩
theorem lw_p21 : lw_okq (⟨"PepperTables$Reader", "readTerm", "(I)V"⟩, 11) := ⟨⟨by decide +kernel, by decide +kernel⟩, List.mem_of_getElem? (i := 28) (by decide +kernel), List.mem_of_getElem? (i := 599) (by decide +kernel), List.mem_of_getElem? (i := 600) (by decide +kernel)⟩
theorem lw_p22 : lw_okq (⟨"PepperTables$Reader", "readUnit", "(I)V"⟩, 11) := ⟨⟨by decide +kernel, by decide +kernel⟩, List.mem_of_getElem? (i := 28) (by decide +kernel), List.mem_of_getElem? (i := 603) (by decide +kernel), List.mem_of_getElem? (i := 604) (by decide +kernel)⟩
theorem lw_p23 : lw_okq (⟨"PepperTables$Reader", "readSneeze", "()V"⟩, 11) := ⟨⟨by decide +kernel, by decide +kernel⟩, List.mem_of_getElem? (i := 28) (by decide +kernel), List.mem_of_getElem? (i := 607) (by decide +kernel), List.mem_of_getElem? (i := 608) (by decide +kernel)⟩
theorem lw_p24 : lw_okq (⟨"PepperTables$Reader", "readDraw", "()V"⟩, 11) := ⟨⟨by decide +kernel, by decide +kernel⟩, List.mem_of_getElem? (i := 28) (by decide +kernel), List.mem_of_getElem? (i := 611) (by decide +kernel), List.mem_of_getElem? (i := 612) (by decide +kernel)⟩
theorem lw_p25 : lw_okq (⟨"PepperTables", "isPerson", "(I)Z"⟩, 12) := ⟨⟨by decide +kernel, by decide +kernel⟩, List.mem_of_getElem? (i := 20) (by decide +kernel), List.mem_of_getElem? (i := 646) (by decide +kernel), List.mem_of_getElem? (i := 647) (by decide +kernel)⟩
theorem lw_p26 : lw_okq (⟨"PepperTables", "isThing", "(I)Z"⟩, 12) := ⟨⟨by decide +kernel, by decide +kernel⟩, List.mem_of_getElem? (i := 20) (by decide +kernel), List.mem_of_getElem? (i := 670) (by decide +kernel), List.mem_of_getElem? (i := 671) (by decide +kernel)⟩
theorem lw_p27 : lw_okq (⟨"PepperTables", "isSack", "(I)Z"⟩, 12) := ⟨⟨by decide +kernel, by decide +kernel⟩, List.mem_of_getElem? (i := 20) (by decide +kernel), List.mem_of_getElem? (i := 678) (by decide +kernel), List.mem_of_getElem? (i := 679) (by decide +kernel)⟩
theorem lw_p28 : lw_okq (⟨"PepperTables$Mill", "operand", "(I)I"⟩, 3) := ⟨⟨by decide +kernel, by decide +kernel⟩, List.mem_of_getElem? (i := 274) (by decide +kernel), List.mem_of_getElem? (i := 725) (by decide +kernel), List.mem_of_getElem? (i := 726) (by decide +kernel)⟩
theorem lw_p29 : lw_okq (⟨"PepperTables", "isSitting", "(I)Z"⟩, 12) := ⟨⟨by decide +kernel, by decide +kernel⟩, List.mem_of_getElem? (i := 20) (by decide +kernel), List.mem_of_getElem? (i := 736) (by decide +kernel), List.mem_of_getElem? (i := 737) (by decide +kernel)⟩
theorem lw_p30 : lw_okq (⟨"PepperTables", "isKept", "(I)Z"⟩, 12) := ⟨⟨by decide +kernel, by decide +kernel⟩, List.mem_of_getElem? (i := 20) (by decide +kernel), List.mem_of_getElem? (i := 764) (by decide +kernel), List.mem_of_getElem? (i := 765) (by decide +kernel)⟩
theorem lw_p31 : lw_okq (⟨"PepperTables", "sneezed", "()I"⟩, 12) := ⟨⟨by decide +kernel, by decide +kernel⟩, List.mem_of_getElem? (i := 20) (by decide +kernel), List.mem_of_getElem? (i := 772) (by decide +kernel), List.mem_of_getElem? (i := 773) (by decide +kernel)⟩
def lw_privs_2 : List (MethodName × Nat) := [(⟨"PepperTables$Reader", "readEither", "(I)V"⟩, 11), (⟨"PepperTables$Reader", "readBoth", "(I)V"⟩, 11), (⟨"PepperTables$Reader", "readOne", "(I)V"⟩, 11), (⟨"PepperTables$Reader", "write", "(I)V"⟩, 11), (⟨"PepperTables$Reader", "readSum", "(I)V"⟩, 11), (⟨"PepperTables$Reader", "readTerm", "(I)V"⟩, 11), (⟨"PepperTables$Reader", "readUnit", "(I)V"⟩, 11), (⟨"PepperTables$Reader", "readSneeze", "()V"⟩, 11), (⟨"PepperTables$Reader", "readDraw", "()V"⟩, 11), (⟨"PepperTables", "isPerson", "(I)Z"⟩, 12), (⟨"PepperTables", "isThing", "(I)Z"⟩, 12), (⟨"PepperTables", "isSack", "(I)Z"⟩, 12), (⟨"PepperTables$Mill", "operand", "(I)I"⟩, 3), (⟨"PepperTables", "isSitting", "(I)Z"⟩, 12), (⟨"PepperTables", "isKept", "(I)Z"⟩, 12), (⟨"PepperTables", "sneezed", "()I"⟩, 12)]
theorem lw_r2 : ∀ q ∈ lw_privs_2, lw_okq q := List.forall_mem_cons.mpr ⟨lw_p16, List.forall_mem_cons.mpr ⟨lw_p17, List.forall_mem_cons.mpr ⟨lw_p18, List.forall_mem_cons.mpr ⟨lw_p19, List.forall_mem_cons.mpr ⟨lw_p20, List.forall_mem_cons.mpr ⟨lw_p21, List.forall_mem_cons.mpr ⟨lw_p22, List.forall_mem_cons.mpr ⟨lw_p23, List.forall_mem_cons.mpr ⟨lw_p24, List.forall_mem_cons.mpr ⟨lw_p25, List.forall_mem_cons.mpr ⟨lw_p26, List.forall_mem_cons.mpr ⟨lw_p27, List.forall_mem_cons.mpr ⟨lw_p28, List.forall_mem_cons.mpr ⟨lw_p29, List.forall_mem_cons.mpr ⟨lw_p30, List.forall_mem_cons.mpr ⟨lw_p31, fun _ h => absurd h List.not_mem_nil⟩⟩⟩⟩⟩⟩⟩⟩⟩⟩⟩⟩⟩⟩⟩⟩
theorem lw_p32 : lw_okq (⟨"PepperTables", "scoreGrindings", "(I)V"⟩, 12) := ⟨⟨by decide +kernel, by decide +kernel⟩, List.mem_of_getElem? (i := 20) (by decide +kernel), List.mem_of_getElem? (i := 844) (by decide +kernel), List.mem_of_getElem? (i := 845) (by decide +kernel)⟩
theorem lw_p33 : lw_okq (⟨"PepperTables", "scoreOfRow", "(II)I"⟩, 12) := ⟨⟨by decide +kernel, by decide +kernel⟩, List.mem_of_getElem? (i := 20) (by decide +kernel), List.mem_of_getElem? (i := 852) (by decide +kernel), List.mem_of_getElem? (i := 853) (by decide +kernel)⟩
theorem lw_p34 : lw_okq (⟨"PepperTables", "layRow", "(II)V"⟩, 12) := ⟨⟨by decide +kernel, by decide +kernel⟩, List.mem_of_getElem? (i := 20) (by decide +kernel), List.mem_of_getElem? (i := 856) (by decide +kernel), List.mem_of_getElem? (i := 857) (by decide +kernel)⟩
theorem lw_p35 : lw_okq (⟨"PepperTables", "saidIfExchanged", "(III)I"⟩, 12) := ⟨⟨by decide +kernel, by decide +kernel⟩, List.mem_of_getElem? (i := 20) (by decide +kernel), List.mem_of_getElem? (i := 907) (by decide +kernel), List.mem_of_getElem? (i := 908) (by decide +kernel)⟩
theorem lw_p36 : lw_okq (⟨"PepperTables", "reckonGains", "(II)V"⟩, 12) := ⟨⟨by decide +kernel, by decide +kernel⟩, List.mem_of_getElem? (i := 20) (by decide +kernel), List.mem_of_getElem? (i := 923) (by decide +kernel), List.mem_of_getElem? (i := 924) (by decide +kernel)⟩
theorem lw_p37 : lw_okq (⟨"PepperTables", "gainOf", "(II)I"⟩, 12) := ⟨⟨by decide +kernel, by decide +kernel⟩, List.mem_of_getElem? (i := 20) (by decide +kernel), List.mem_of_getElem? (i := 927) (by decide +kernel), List.mem_of_getElem? (i := 928) (by decide +kernel)⟩
theorem lw_p38 : lw_okq (⟨"PepperTables$Lying", "goFurther", "(II)V"⟩, 5) := ⟨⟨by decide +kernel, by decide +kernel⟩, List.mem_of_getElem? (i := 325) (by decide +kernel), List.mem_of_getElem? (i := 943) (by decide +kernel), List.mem_of_getElem? (i := 944) (by decide +kernel)⟩
theorem lw_p39 : lw_okq (⟨"PepperTables", "hottestKeeper", "(I)I"⟩, 12) := ⟨⟨by decide +kernel, by decide +kernel⟩, List.mem_of_getElem? (i := 20) (by decide +kernel), List.mem_of_getElem? (i := 973) (by decide +kernel), List.mem_of_getElem? (i := 974) (by decide +kernel)⟩
theorem lw_p40 : lw_okq (⟨"PepperTables$Hearsay", "reckon", "(LPepperTables$Told;LPepperTables$Mill;)V"⟩, 13) := ⟨⟨by decide +kernel, by decide +kernel⟩, List.mem_of_getElem? (i := 348) (by decide +kernel), List.mem_of_getElem? (i := 1041) (by decide +kernel), List.mem_of_getElem? (i := 1042) (by decide +kernel)⟩
theorem lw_p41 : lw_okq (⟨"PepperTables$Hearsay", "agrees", "(II)Z"⟩, 13) := ⟨⟨by decide +kernel, by decide +kernel⟩, List.mem_of_getElem? (i := 348) (by decide +kernel), List.mem_of_getElem? (i := 1052) (by decide +kernel), List.mem_of_getElem? (i := 1053) (by decide +kernel)⟩
theorem lw_p42 : lw_okq (⟨"PepperTablesModel", "clearBank", "()V"⟩, 65) := ⟨⟨by decide +kernel, by decide +kernel⟩, List.mem_of_getElem? (i := 1095) (by decide +kernel), List.mem_of_getElem? (i := 1101) (by decide +kernel), List.mem_of_getElem? (i := 1102) (by decide +kernel)⟩
theorem lw_p43 : lw_okq (⟨"PepperTablesModel", "startAnew", "()V"⟩, 65) := ⟨⟨by decide +kernel, by decide +kernel⟩, List.mem_of_getElem? (i := 1095) (by decide +kernel), List.mem_of_getElem? (i := 1105) (by decide +kernel), List.mem_of_getElem? (i := 1106) (by decide +kernel)⟩
theorem lw_p44 : lw_okq (⟨"PepperTablesModel", "layTold", "()V"⟩, 65) := ⟨⟨by decide +kernel, by decide +kernel⟩, List.mem_of_getElem? (i := 1095) (by decide +kernel), List.mem_of_getElem? (i := 1109) (by decide +kernel), List.mem_of_getElem? (i := 1110) (by decide +kernel)⟩
theorem lw_p45 : lw_okq (⟨"PepperTablesModel", "many", "()I"⟩, 65) := ⟨⟨by decide +kernel, by decide +kernel⟩, List.mem_of_getElem? (i := 1095) (by decide +kernel), List.mem_of_getElem? (i := 1113) (by decide +kernel), List.mem_of_getElem? (i := 1114) (by decide +kernel)⟩
theorem lw_p46 : lw_okq (⟨"PepperTablesModel", "goOn", "()V"⟩, 65) := ⟨⟨by decide +kernel, by decide +kernel⟩, List.mem_of_getElem? (i := 1095) (by decide +kernel), List.mem_of_getElem? (i := 1317) (by decide +kernel), List.mem_of_getElem? (i := 1318) (by decide +kernel)⟩
theorem lw_p47 : lw_okq (⟨"PepperTablesModel", "sign", "(I)I"⟩, 65) := ⟨⟨by decide +kernel, by decide +kernel⟩, List.mem_of_getElem? (i := 1095) (by decide +kernel), List.mem_of_getElem? (i := 1321) (by decide +kernel), List.mem_of_getElem? (i := 1322) (by decide +kernel)⟩
def lw_privs_3 : List (MethodName × Nat) := [(⟨"PepperTables", "scoreGrindings", "(I)V"⟩, 12), (⟨"PepperTables", "scoreOfRow", "(II)I"⟩, 12), (⟨"PepperTables", "layRow", "(II)V"⟩, 12), (⟨"PepperTables", "saidIfExchanged", "(III)I"⟩, 12), (⟨"PepperTables", "reckonGains", "(II)V"⟩, 12), (⟨"PepperTables", "gainOf", "(II)I"⟩, 12), (⟨"PepperTables$Lying", "goFurther", "(II)V"⟩, 5), (⟨"PepperTables", "hottestKeeper", "(I)I"⟩, 12), (⟨"PepperTables$Hearsay", "reckon", "(LPepperTables$Told;LPepperTables$Mill;)V"⟩, 13), (⟨"PepperTables$Hearsay", "agrees", "(II)Z"⟩, 13), (⟨"PepperTablesModel", "clearBank", "()V"⟩, 65), (⟨"PepperTablesModel", "startAnew", "()V"⟩, 65), (⟨"PepperTablesModel", "layTold", "()V"⟩, 65), (⟨"PepperTablesModel", "many", "()I"⟩, 65), (⟨"PepperTablesModel", "goOn", "()V"⟩, 65), (⟨"PepperTablesModel", "sign", "(I)I"⟩, 65)]
theorem lw_r3 : ∀ q ∈ lw_privs_3, lw_okq q := List.forall_mem_cons.mpr ⟨lw_p32, List.forall_mem_cons.mpr ⟨lw_p33, List.forall_mem_cons.mpr ⟨lw_p34, List.forall_mem_cons.mpr ⟨lw_p35, List.forall_mem_cons.mpr ⟨lw_p36, List.forall_mem_cons.mpr ⟨lw_p37, List.forall_mem_cons.mpr ⟨lw_p38, List.forall_mem_cons.mpr ⟨lw_p39, List.forall_mem_cons.mpr ⟨lw_p40, List.forall_mem_cons.mpr ⟨lw_p41, List.forall_mem_cons.mpr ⟨lw_p42, List.forall_mem_cons.mpr ⟨lw_p43, List.forall_mem_cons.mpr ⟨lw_p44, List.forall_mem_cons.mpr ⟨lw_p45, List.forall_mem_cons.mpr ⟨lw_p46, List.forall_mem_cons.mpr ⟨lw_p47, fun _ h => absurd h List.not_mem_nil⟩⟩⟩⟩⟩⟩⟩⟩⟩⟩⟩⟩⟩⟩⟩⟩
theorem lw_p48 : lw_okq (⟨"PepperTablesModel", "isGood", "()Z"⟩, 65) := ⟨⟨by decide +kernel, by decide +kernel⟩, List.mem_of_getElem? (i := 1095) (by decide +kernel), List.mem_of_getElem? (i := 1355) (by decide +kernel), List.mem_of_getElem? (i := 1356) (by decide +kernel)⟩
theorem lw_p49 : lw_okq (⟨"PepperTablesModel", "readLine", "()V"⟩, 65) := ⟨⟨by decide +kernel, by decide +kernel⟩, List.mem_of_getElem? (i := 1095) (by decide +kernel), List.mem_of_getElem? (i := 1359) (by decide +kernel), List.mem_of_getElem? (i := 1360) (by decide +kernel)⟩
theorem lw_p50 : lw_okq (⟨"PepperTablesModel", "isFull", "()Z"⟩, 65) := ⟨⟨by decide +kernel, by decide +kernel⟩, List.mem_of_getElem? (i := 1095) (by decide +kernel), List.mem_of_getElem? (i := 1363) (by decide +kernel), List.mem_of_getElem? (i := 1364) (by decide +kernel)⟩
theorem lw_p51 : lw_okq (⟨"PepperTablesModel", "isWord", "(J)Z"⟩, 65) := ⟨⟨by decide +kernel, by decide +kernel⟩, List.mem_of_getElem? (i := 1095) (by decide +kernel), List.mem_of_getElem? (i := 1367) (by decide +kernel), List.mem_of_getElem? (i := 1368) (by decide +kernel)⟩
theorem lw_p52 : lw_okq (⟨"PepperTablesModel", "misplaced", "()V"⟩, 65) := ⟨⟨by decide +kernel, by decide +kernel⟩, List.mem_of_getElem? (i := 1095) (by decide +kernel), List.mem_of_getElem? (i := 1374) (by decide +kernel), List.mem_of_getElem? (i := 1375) (by decide +kernel)⟩
theorem lw_p53 : lw_okq (⟨"PepperTablesModel", "fails", "(II)V"⟩, 65) := ⟨⟨by decide +kernel, by decide +kernel⟩, List.mem_of_getElem? (i := 1095) (by decide +kernel), List.mem_of_getElem? (i := 1378) (by decide +kernel), List.mem_of_getElem? (i := 1379) (by decide +kernel)⟩
theorem lw_p54 : lw_okq (⟨"PepperTablesModel", "personHere", "()I"⟩, 65) := ⟨⟨by decide +kernel, by decide +kernel⟩, List.mem_of_getElem? (i := 1095) (by decide +kernel), List.mem_of_getElem? (i := 1382) (by decide +kernel), List.mem_of_getElem? (i := 1383) (by decide +kernel)⟩
theorem lw_p55 : lw_okq (⟨"PepperTablesModel", "here", "([JII)I"⟩, 65) := ⟨⟨by decide +kernel, by decide +kernel⟩, List.mem_of_getElem? (i := 1095) (by decide +kernel), List.mem_of_getElem? (i := 1386) (by decide +kernel), List.mem_of_getElem? (i := 1387) (by decide +kernel)⟩
theorem lw_p56 : lw_okq (⟨"PepperTablesModel", "fresh", "(I)J"⟩, 65) := ⟨⟨by decide +kernel, by decide +kernel⟩, List.mem_of_getElem? (i := 1095) (by decide +kernel), List.mem_of_getElem? (i := 1390) (by decide +kernel), List.mem_of_getElem? (i := 1391) (by decide +kernel)⟩
theorem lw_p57 : lw_okq (⟨"PepperTablesModel", "afterWord", "(JII)I"⟩, 65) := ⟨⟨by decide +kernel, by decide +kernel⟩, List.mem_of_getElem? (i := 1095) (by decide +kernel), List.mem_of_getElem? (i := 1394) (by decide +kernel), List.mem_of_getElem? (i := 1395) (by decide +kernel)⟩
theorem lw_p58 : lw_okq (⟨"PepperTablesModel", "must", "(Z)V"⟩, 65) := ⟨⟨by decide +kernel, by decide +kernel⟩, List.mem_of_getElem? (i := 1095) (by decide +kernel), List.mem_of_getElem? (i := 1398) (by decide +kernel), List.mem_of_getElem? (i := 1399) (by decide +kernel)⟩
theorem lw_p59 : lw_okq (⟨"PepperTablesModel", "numeral", "(II)I"⟩, 65) := ⟨⟨by decide +kernel, by decide +kernel⟩, List.mem_of_getElem? (i := 1095) (by decide +kernel), List.mem_of_getElem? (i := 1402) (by decide +kernel), List.mem_of_getElem? (i := 1403) (by decide +kernel)⟩
theorem lw_p60 : lw_okq (⟨"PepperTablesModel", "sackHere", "()I"⟩, 65) := ⟨⟨by decide +kernel, by decide +kernel⟩, List.mem_of_getElem? (i := 1095) (by decide +kernel), List.mem_of_getElem? (i := 1406) (by decide +kernel), List.mem_of_getElem? (i := 1407) (by decide +kernel)⟩
theorem lw_p61 : lw_okq (⟨"PepperTablesModel", "readThing", "()V"⟩, 65) := ⟨⟨by decide +kernel, by decide +kernel⟩, List.mem_of_getElem? (i := 1095) (by decide +kernel), List.mem_of_getElem? (i := 1410) (by decide +kernel), List.mem_of_getElem? (i := 1411) (by decide +kernel)⟩
theorem lw_p62 : lw_okq (⟨"PepperTablesModel", "known", "(I)I"⟩, 65) := ⟨⟨by decide +kernel, by decide +kernel⟩, List.mem_of_getElem? (i := 1095) (by decide +kernel), List.mem_of_getElem? (i := 1414) (by decide +kernel), List.mem_of_getElem? (i := 1415) (by decide +kernel)⟩
theorem lw_p63 : lw_okq (⟨"PepperTablesModel", "readRule", "()V"⟩, 65) := ⟨⟨by decide +kernel, by decide +kernel⟩, List.mem_of_getElem? (i := 1095) (by decide +kernel), List.mem_of_getElem? (i := 1418) (by decide +kernel), List.mem_of_getElem? (i := 1419) (by decide +kernel)⟩
def lw_privs_4 : List (MethodName × Nat) := [(⟨"PepperTablesModel", "isGood", "()Z"⟩, 65), (⟨"PepperTablesModel", "readLine", "()V"⟩, 65), (⟨"PepperTablesModel", "isFull", "()Z"⟩, 65), (⟨"PepperTablesModel", "isWord", "(J)Z"⟩, 65), (⟨"PepperTablesModel", "misplaced", "()V"⟩, 65), (⟨"PepperTablesModel", "fails", "(II)V"⟩, 65), (⟨"PepperTablesModel", "personHere", "()I"⟩, 65), (⟨"PepperTablesModel", "here", "([JII)I"⟩, 65), (⟨"PepperTablesModel", "fresh", "(I)J"⟩, 65), (⟨"PepperTablesModel", "afterWord", "(JII)I"⟩, 65), (⟨"PepperTablesModel", "must", "(Z)V"⟩, 65), (⟨"PepperTablesModel", "numeral", "(II)I"⟩, 65), (⟨"PepperTablesModel", "sackHere", "()I"⟩, 65), (⟨"PepperTablesModel", "readThing", "()V"⟩, 65), (⟨"PepperTablesModel", "known", "(I)I"⟩, 65), (⟨"PepperTablesModel", "readRule", "()V"⟩, 65)]
theorem lw_r4 : ∀ q ∈ lw_privs_4, lw_okq q := List.forall_mem_cons.mpr ⟨lw_p48, List.forall_mem_cons.mpr ⟨lw_p49, List.forall_mem_cons.mpr ⟨lw_p50, List.forall_mem_cons.mpr ⟨lw_p51, List.forall_mem_cons.mpr ⟨lw_p52, List.forall_mem_cons.mpr ⟨lw_p53, List.forall_mem_cons.mpr ⟨lw_p54, List.forall_mem_cons.mpr ⟨lw_p55, List.forall_mem_cons.mpr ⟨lw_p56, List.forall_mem_cons.mpr ⟨lw_p57, List.forall_mem_cons.mpr ⟨lw_p58, List.forall_mem_cons.mpr ⟨lw_p59, List.forall_mem_cons.mpr ⟨lw_p60, List.forall_mem_cons.mpr ⟨lw_p61, List.forall_mem_cons.mpr ⟨lw_p62, List.forall_mem_cons.mpr ⟨lw_p63, fun _ h => absurd h List.not_mem_nil⟩⟩⟩⟩⟩⟩⟩⟩⟩⟩⟩⟩⟩⟩⟩⟩
theorem lw_p64 : lw_okq (⟨"PepperTablesModel", "e", "()V"⟩, 65) := ⟨⟨by decide +kernel, by decide +kernel⟩, List.mem_of_getElem? (i := 1095) (by decide +kernel), List.mem_of_getElem? (i := 1422) (by decide +kernel), List.mem_of_getElem? (i := 1423) (by decide +kernel)⟩
theorem lw_p65 : lw_okq (⟨"PepperTablesModel", "pushE", "(II)V"⟩, 65) := ⟨⟨by decide +kernel, by decide +kernel⟩, List.mem_of_getElem? (i := 1095) (by decide +kernel), List.mem_of_getElem? (i := 1426) (by decide +kernel), List.mem_of_getElem? (i := 1427) (by decide +kernel)⟩
theorem lw_p66 : lw_okq (⟨"PepperTablesModel", "unit", "()Z"⟩, 65) := ⟨⟨by decide +kernel, by decide +kernel⟩, List.mem_of_getElem? (i := 1095) (by decide +kernel), List.mem_of_getElem? (i := 1430) (by decide +kernel), List.mem_of_getElem? (i := 1431) (by decide +kernel)⟩
theorem lw_p67 : lw_okq (⟨"PepperTablesModel", "isSignHere", "(I)Z"⟩, 65) := ⟨⟨by decide +kernel, by decide +kernel⟩, List.mem_of_getElem? (i := 1095) (by decide +kernel), List.mem_of_getElem? (i := 1434) (by decide +kernel), List.mem_of_getElem? (i := 1435) (by decide +kernel)⟩
theorem lw_p68 : lw_okq (⟨"PepperTablesModel", "wordHere", "()I"⟩, 65) := ⟨⟨by decide +kernel, by decide +kernel⟩, List.mem_of_getElem? (i := 1095) (by decide +kernel), List.mem_of_getElem? (i := 1438) (by decide +kernel), List.mem_of_getElem? (i := 1439) (by decide +kernel)⟩
theorem lw_p69 : lw_okq (⟨"PepperTablesModel", "emit", "(II)V"⟩, 65) := ⟨⟨by decide +kernel, by decide +kernel⟩, List.mem_of_getElem? (i := 1095) (by decide +kernel), List.mem_of_getElem? (i := 1442) (by decide +kernel), List.mem_of_getElem? (i := 1443) (by decide +kernel)⟩
theorem lw_p70 : lw_okq (⟨"PepperTablesModel", "behindUnit", "()Z"⟩, 65) := ⟨⟨by decide +kernel, by decide +kernel⟩, List.mem_of_getElem? (i := 1095) (by decide +kernel), List.mem_of_getElem? (i := 1446) (by decide +kernel), List.mem_of_getElem? (i := 1447) (by decide +kernel)⟩
theorem lw_p71 : lw_okq (⟨"PepperTablesModel", "rankHere", "()I"⟩, 65) := ⟨⟨by decide +kernel, by decide +kernel⟩, List.mem_of_getElem? (i := 1095) (by decide +kernel), List.mem_of_getElem? (i := 1450) (by decide +kernel), List.mem_of_getElem? (i := 1451) (by decide +kernel)⟩
theorem lw_p72 : lw_okq (⟨"PepperTablesModel", "isCompared", "()Z"⟩, 65) := ⟨⟨by decide +kernel, by decide +kernel⟩, List.mem_of_getElem? (i := 1095) (by decide +kernel), List.mem_of_getElem? (i := 1454) (by decide +kernel), List.mem_of_getElem? (i := 1455) (by decide +kernel)⟩
theorem lw_p73 : lw_okq (⟨"PepperTablesModel", "isPerson", "(I)Z"⟩, 65) := ⟨⟨by decide +kernel, by decide +kernel⟩, List.mem_of_getElem? (i := 1095) (by decide +kernel), List.mem_of_getElem? (i := 1466) (by decide +kernel), List.mem_of_getElem? (i := 1467) (by decide +kernel)⟩
theorem lw_p74 : lw_okq (⟨"PepperTablesModel", "folk", "()I"⟩, 65) := ⟨⟨by decide +kernel, by decide +kernel⟩, List.mem_of_getElem? (i := 1095) (by decide +kernel), List.mem_of_getElem? (i := 1470) (by decide +kernel), List.mem_of_getElem? (i := 1471) (by decide +kernel)⟩
theorem lw_p75 : lw_okq (⟨"PepperTablesModel", "byOf", "(I)I"⟩, 65) := ⟨⟨by decide +kernel, by decide +kernel⟩, List.mem_of_getElem? (i := 1095) (by decide +kernel), List.mem_of_getElem? (i := 1477) (by decide +kernel), List.mem_of_getElem? (i := 1478) (by decide +kernel)⟩
theorem lw_p76 : lw_okq (⟨"PepperTablesModel", "fromOf", "(I)I"⟩, 65) := ⟨⟨by decide +kernel, by decide +kernel⟩, List.mem_of_getElem? (i := 1095) (by decide +kernel), List.mem_of_getElem? (i := 1481) (by decide +kernel), List.mem_of_getElem? (i := 1482) (by decide +kernel)⟩
theorem lw_p77 : lw_okq (⟨"PepperTablesModel", "keptNow", "()I"⟩, 65) := ⟨⟨by decide +kernel, by decide +kernel⟩, List.mem_of_getElem? (i := 1095) (by decide +kernel), List.mem_of_getElem? (i := 1485) (by decide +kernel), List.mem_of_getElem? (i := 1486) (by decide +kernel)⟩
theorem lw_p78 : lw_okq (⟨"PepperTablesModel", "toOf", "(I)I"⟩, 65) := ⟨⟨by decide +kernel, by decide +kernel⟩, List.mem_of_getElem? (i := 1095) (by decide +kernel), List.mem_of_getElem? (i := 1489) (by decide +kernel), List.mem_of_getElem? (i := 1490) (by decide +kernel)⟩
theorem lw_p79 : lw_okq (⟨"PepperTablesModel", "whomOf", "(I)I"⟩, 65) := ⟨⟨by decide +kernel, by decide +kernel⟩, List.mem_of_getElem? (i := 1095) (by decide +kernel), List.mem_of_getElem? (i := 1493) (by decide +kernel), List.mem_of_getElem? (i := 1494) (by decide +kernel)⟩
def lw_privs_5 : List (MethodName × Nat) := [(⟨"PepperTablesModel", "e", "()V"⟩, 65), (⟨"PepperTablesModel", "pushE", "(II)V"⟩, 65), (⟨"PepperTablesModel", "unit", "()Z"⟩, 65), (⟨"PepperTablesModel", "isSignHere", "(I)Z"⟩, 65), (⟨"PepperTablesModel", "wordHere", "()I"⟩, 65), (⟨"PepperTablesModel", "emit", "(II)V"⟩, 65), (⟨"PepperTablesModel", "behindUnit", "()Z"⟩, 65), (⟨"PepperTablesModel", "rankHere", "()I"⟩, 65), (⟨"PepperTablesModel", "isCompared", "()Z"⟩, 65), (⟨"PepperTablesModel", "isPerson", "(I)Z"⟩, 65), (⟨"PepperTablesModel", "folk", "()I"⟩, 65), (⟨"PepperTablesModel", "byOf", "(I)I"⟩, 65), (⟨"PepperTablesModel", "fromOf", "(I)I"⟩, 65), (⟨"PepperTablesModel", "keptNow", "()I"⟩, 65), (⟨"PepperTablesModel", "toOf", "(I)I"⟩, 65), (⟨"PepperTablesModel", "whomOf", "(I)I"⟩, 65)]
theorem lw_r5 : ∀ q ∈ lw_privs_5, lw_okq q := List.forall_mem_cons.mpr ⟨lw_p64, List.forall_mem_cons.mpr ⟨lw_p65, List.forall_mem_cons.mpr ⟨lw_p66, List.forall_mem_cons.mpr ⟨lw_p67, List.forall_mem_cons.mpr ⟨lw_p68, List.forall_mem_cons.mpr ⟨lw_p69, List.forall_mem_cons.mpr ⟨lw_p70, List.forall_mem_cons.mpr ⟨lw_p71, List.forall_mem_cons.mpr ⟨lw_p72, List.forall_mem_cons.mpr ⟨lw_p73, List.forall_mem_cons.mpr ⟨lw_p74, List.forall_mem_cons.mpr ⟨lw_p75, List.forall_mem_cons.mpr ⟨lw_p76, List.forall_mem_cons.mpr ⟨lw_p77, List.forall_mem_cons.mpr ⟨lw_p78, List.forall_mem_cons.mpr ⟨lw_p79, fun _ h => absurd h List.not_mem_nil⟩⟩⟩⟩⟩⟩⟩⟩⟩⟩⟩⟩⟩⟩⟩⟩
theorem lw_p80 : lw_okq (⟨"PepperTablesModel", "isThing", "(I)Z"⟩, 65) := ⟨⟨by decide +kernel, by decide +kernel⟩, List.mem_of_getElem? (i := 1095) (by decide +kernel), List.mem_of_getElem? (i := 1501) (by decide +kernel), List.mem_of_getElem? (i := 1502) (by decide +kernel)⟩
theorem lw_p81 : lw_okq (⟨"PepperTablesModel", "hotOf", "(I)I"⟩, 65) := ⟨⟨by decide +kernel, by decide +kernel⟩, List.mem_of_getElem? (i := 1095) (by decide +kernel), List.mem_of_getElem? (i := 1505) (by decide +kernel), List.mem_of_getElem? (i := 1506) (by decide +kernel)⟩
theorem lw_p82 : lw_okq (⟨"PepperTablesModel", "isSack", "(I)Z"⟩, 65) := ⟨⟨by decide +kernel, by decide +kernel⟩, List.mem_of_getElem? (i := 1095) (by decide +kernel), List.mem_of_getElem? (i := 1513) (by decide +kernel), List.mem_of_getElem? (i := 1514) (by decide +kernel)⟩
theorem lw_p83 : lw_okq (⟨"PepperTablesModel", "bags", "()I"⟩, 65) := ⟨⟨by decide +kernel, by decide +kernel⟩, List.mem_of_getElem? (i := 1095) (by decide +kernel), List.mem_of_getElem? (i := 1517) (by decide +kernel), List.mem_of_getElem? (i := 1518) (by decide +kernel)⟩
theorem lw_p84 : lw_okq (⟨"PepperTablesModel", "inOf", "(I)I"⟩, 65) := ⟨⟨by decide +kernel, by decide +kernel⟩, List.mem_of_getElem? (i := 1095) (by decide +kernel), List.mem_of_getElem? (i := 1521) (by decide +kernel), List.mem_of_getElem? (i := 1522) (by decide +kernel)⟩
theorem lw_p85 : lw_okq (⟨"PepperTablesModel", "isStill", "(I)Z"⟩, 65) := ⟨⟨by decide +kernel, by decide +kernel⟩, List.mem_of_getElem? (i := 1095) (by decide +kernel), List.mem_of_getElem? (i := 1525) (by decide +kernel), List.mem_of_getElem? (i := 1526) (by decide +kernel)⟩
theorem lw_p86 : lw_okq (⟨"PepperTablesModel", "heatOf", "(I)I"⟩, 65) := ⟨⟨by decide +kernel, by decide +kernel⟩, List.mem_of_getElem? (i := 1095) (by decide +kernel), List.mem_of_getElem? (i := 1529) (by decide +kernel), List.mem_of_getElem? (i := 1530) (by decide +kernel)⟩
theorem lw_p87 : lw_okq (⟨"PepperTablesModel", "wouldOf", "(I)I"⟩, 65) := ⟨⟨by decide +kernel, by decide +kernel⟩, List.mem_of_getElem? (i := 1095) (by decide +kernel), List.mem_of_getElem? (i := 1537) (by decide +kernel), List.mem_of_getElem? (i := 1538) (by decide +kernel)⟩
theorem lw_p88 : lw_okq (⟨"PepperTablesModel", "isLetOut", "(II)Z"⟩, 65) := ⟨⟨by decide +kernel, by decide +kernel⟩, List.mem_of_getElem? (i := 1095) (by decide +kernel), List.mem_of_getElem? (i := 1541) (by decide +kernel), List.mem_of_getElem? (i := 1542) (by decide +kernel)⟩
theorem lw_p89 : lw_okq (⟨"PepperTablesModel", "doBothSit", "(I)Z"⟩, 65) := ⟨⟨by decide +kernel, by decide +kernel⟩, List.mem_of_getElem? (i := 1095) (by decide +kernel), List.mem_of_getElem? (i := 1545) (by decide +kernel), List.mem_of_getElem? (i := 1546) (by decide +kernel)⟩
theorem lw_p90 : lw_okq (⟨"PepperTablesModel", "comes", "()I"⟩, 65) := ⟨⟨by decide +kernel, by decide +kernel⟩, List.mem_of_getElem? (i := 1095) (by decide +kernel), List.mem_of_getElem? (i := 1549) (by decide +kernel), List.mem_of_getElem? (i := 1550) (by decide +kernel)⟩
theorem lw_p91 : lw_okq (⟨"PepperTablesModel", "asked", "(II)I"⟩, 65) := ⟨⟨by decide +kernel, by decide +kernel⟩, List.mem_of_getElem? (i := 1095) (by decide +kernel), List.mem_of_getElem? (i := 1553) (by decide +kernel), List.mem_of_getElem? (i := 1554) (by decide +kernel)⟩
theorem lw_p92 : lw_okq (⟨"PepperTablesModel", "allSacks", "()I"⟩, 65) := ⟨⟨by decide +kernel, by decide +kernel⟩, List.mem_of_getElem? (i := 1095) (by decide +kernel), List.mem_of_getElem? (i := 1587) (by decide +kernel), List.mem_of_getElem? (i := 1588) (by decide +kernel)⟩
theorem lw_p93 : lw_okq (⟨"PepperTablesModel", "saidBy", "(I)I"⟩, 65) := ⟨⟨by decide +kernel, by decide +kernel⟩, List.mem_of_getElem? (i := 1095) (by decide +kernel), List.mem_of_getElem? (i := 1591) (by decide +kernel), List.mem_of_getElem? (i := 1592) (by decide +kernel)⟩
theorem lw_p94 : lw_okq (⟨"PepperTablesModel", "sneezed", "()I"⟩, 65) := ⟨⟨by decide +kernel, by decide +kernel⟩, List.mem_of_getElem? (i := 1095) (by decide +kernel), List.mem_of_getElem? (i := 1607) (by decide +kernel), List.mem_of_getElem? (i := 1608) (by decide +kernel)⟩
theorem lw_p95 : lw_okq (⟨"PepperTablesModel", "keepAct", "()V"⟩, 65) := ⟨⟨by decide +kernel, by decide +kernel⟩, List.mem_of_getElem? (i := 1095) (by decide +kernel), List.mem_of_getElem? (i := 1623) (by decide +kernel), List.mem_of_getElem? (i := 1624) (by decide +kernel)⟩
def lw_privs_6 : List (MethodName × Nat) := [(⟨"PepperTablesModel", "isThing", "(I)Z"⟩, 65), (⟨"PepperTablesModel", "hotOf", "(I)I"⟩, 65), (⟨"PepperTablesModel", "isSack", "(I)Z"⟩, 65), (⟨"PepperTablesModel", "bags", "()I"⟩, 65), (⟨"PepperTablesModel", "inOf", "(I)I"⟩, 65), (⟨"PepperTablesModel", "isStill", "(I)Z"⟩, 65), (⟨"PepperTablesModel", "heatOf", "(I)I"⟩, 65), (⟨"PepperTablesModel", "wouldOf", "(I)I"⟩, 65), (⟨"PepperTablesModel", "isLetOut", "(II)Z"⟩, 65), (⟨"PepperTablesModel", "doBothSit", "(I)Z"⟩, 65), (⟨"PepperTablesModel", "comes", "()I"⟩, 65), (⟨"PepperTablesModel", "asked", "(II)I"⟩, 65), (⟨"PepperTablesModel", "allSacks", "()I"⟩, 65), (⟨"PepperTablesModel", "saidBy", "(I)I"⟩, 65), (⟨"PepperTablesModel", "sneezed", "()I"⟩, 65), (⟨"PepperTablesModel", "keepAct", "()V"⟩, 65)]
theorem lw_r6 : ∀ q ∈ lw_privs_6, lw_okq q := List.forall_mem_cons.mpr ⟨lw_p80, List.forall_mem_cons.mpr ⟨lw_p81, List.forall_mem_cons.mpr ⟨lw_p82, List.forall_mem_cons.mpr ⟨lw_p83, List.forall_mem_cons.mpr ⟨lw_p84, List.forall_mem_cons.mpr ⟨lw_p85, List.forall_mem_cons.mpr ⟨lw_p86, List.forall_mem_cons.mpr ⟨lw_p87, List.forall_mem_cons.mpr ⟨lw_p88, List.forall_mem_cons.mpr ⟨lw_p89, List.forall_mem_cons.mpr ⟨lw_p90, List.forall_mem_cons.mpr ⟨lw_p91, List.forall_mem_cons.mpr ⟨lw_p92, List.forall_mem_cons.mpr ⟨lw_p93, List.forall_mem_cons.mpr ⟨lw_p94, List.forall_mem_cons.mpr ⟨lw_p95, fun _ h => absurd h List.not_mem_nil⟩⟩⟩⟩⟩⟩⟩⟩⟩⟩⟩⟩⟩⟩⟩⟩
theorem lw_p96 : lw_okq (⟨"PepperTablesModel", "goGrind", "(I)I"⟩, 65) := ⟨⟨by decide +kernel, by decide +kernel⟩, List.mem_of_getElem? (i := 1095) (by decide +kernel), List.mem_of_getElem? (i := 1635) (by decide +kernel), List.mem_of_getElem? (i := 1636) (by decide +kernel)⟩
theorem lw_p97 : lw_okq (⟨"PepperTablesModel", "swapAll", "()V"⟩, 65) := ⟨⟨by decide +kernel, by decide +kernel⟩, List.mem_of_getElem? (i := 1095) (by decide +kernel), List.mem_of_getElem? (i := 1651) (by decide +kernel), List.mem_of_getElem? (i := 1652) (by decide +kernel)⟩
theorem lw_p98 : lw_okq (⟨"PepperTablesModel", "wouldWith", "(II)I"⟩, 65) := ⟨⟨by decide +kernel, by decide +kernel⟩, List.mem_of_getElem? (i := 1095) (by decide +kernel), List.mem_of_getElem? (i := 1667) (by decide +kernel), List.mem_of_getElem? (i := 1668) (by decide +kernel)⟩
theorem lw_p99 : lw_okq (⟨"PepperTablesModel", "saidWith", "(I)I"⟩, 65) := ⟨⟨by decide +kernel, by decide +kernel⟩, List.mem_of_getElem? (i := 1095) (by decide +kernel), List.mem_of_getElem? (i := 1675) (by decide +kernel), List.mem_of_getElem? (i := 1676) (by decide +kernel)⟩
theorem lw_p100 : lw_okq (⟨"PepperTablesModel", "worthTo", "(II)I"⟩, 65) := ⟨⟨by decide +kernel, by decide +kernel⟩, List.mem_of_getElem? (i := 1095) (by decide +kernel), List.mem_of_getElem? (i := 1703) (by decide +kernel), List.mem_of_getElem? (i := 1704) (by decide +kernel)⟩
theorem lw_p101 : lw_okq (⟨"PepperTablesModel", "keepNow", "()V"⟩, 65) := ⟨⟨by decide +kernel, by decide +kernel⟩, List.mem_of_getElem? (i := 1095) (by decide +kernel), List.mem_of_getElem? (i := 1714) (by decide +kernel), List.mem_of_getElem? (i := 1715) (by decide +kernel)⟩
theorem lw_p102 : lw_okq (⟨"PepperTablesModel", "inRow", "(III)I"⟩, 65) := ⟨⟨by decide +kernel, by decide +kernel⟩, List.mem_of_getElem? (i := 1095) (by decide +kernel), List.mem_of_getElem? (i := 1718) (by decide +kernel), List.mem_of_getElem? (i := 1719) (by decide +kernel)⟩
theorem lw_p103 : lw_okq (⟨"PepperTablesModel", "bringBack", "()V"⟩, 65) := ⟨⟨by decide +kernel, by decide +kernel⟩, List.mem_of_getElem? (i := 1095) (by decide +kernel), List.mem_of_getElem? (i := 1722) (by decide +kernel), List.mem_of_getElem? (i := 1723) (by decide +kernel)⟩
theorem lw_p104 : lw_okq (⟨"PepperTablesModel", "canChange", "(II)Z"⟩, 65) := ⟨⟨by decide +kernel, by decide +kernel⟩, List.mem_of_getElem? (i := 1095) (by decide +kernel), List.mem_of_getElem? (i := 1742) (by decide +kernel), List.mem_of_getElem? (i := 1743) (by decide +kernel)⟩
theorem lw_p105 : lw_okq (⟨"PepperTablesModel", "isLine", "(II)Z"⟩, 65) := ⟨⟨by decide +kernel, by decide +kernel⟩, List.mem_of_getElem? (i := 1095) (by decide +kernel), List.mem_of_getElem? (i := 1758) (by decide +kernel), List.mem_of_getElem? (i := 1759) (by decide +kernel)⟩
theorem lw_p106 : lw_okq (⟨"PepperTablesModel", "inOrder", "(III)I"⟩, 65) := ⟨⟨by decide +kernel, by decide +kernel⟩, List.mem_of_getElem? (i := 1095) (by decide +kernel), List.mem_of_getElem? (i := 1762) (by decide +kernel), List.mem_of_getElem? (i := 1763) (by decide +kernel)⟩
theorem lw_p107 : lw_okq (⟨"PepperTablesModel", "doesKeep", "(II)Z"⟩, 65) := ⟨⟨by decide +kernel, by decide +kernel⟩, List.mem_of_getElem? (i := 1095) (by decide +kernel), List.mem_of_getElem? (i := 1766) (by decide +kernel), List.mem_of_getElem? (i := 1767) (by decide +kernel)⟩
theorem lw_p108 : lw_okq (⟨"PepperTablesModel", "layRows", "(I)V"⟩, 65) := ⟨⟨by decide +kernel, by decide +kernel⟩, List.mem_of_getElem? (i := 1095) (by decide +kernel), List.mem_of_getElem? (i := 1802) (by decide +kernel), List.mem_of_getElem? (i := 1803) (by decide +kernel)⟩
theorem lw_p109 : lw_okq (⟨"PepperTablesModel", "layMany", "()V"⟩, 65) := ⟨⟨by decide +kernel, by decide +kernel⟩, List.mem_of_getElem? (i := 1095) (by decide +kernel), List.mem_of_getElem? (i := 1806) (by decide +kernel), List.mem_of_getElem? (i := 1807) (by decide +kernel)⟩
theorem lw_p110 : lw_okq (⟨"PepperTablesModel", "hidden", "()I"⟩, 65) := ⟨⟨by decide +kernel, by decide +kernel⟩, List.mem_of_getElem? (i := 1095) (by decide +kernel), List.mem_of_getElem? (i := 1810) (by decide +kernel), List.mem_of_getElem? (i := 1811) (by decide +kernel)⟩
theorem lw_p111 : lw_okq (⟨"PepperTablesModel", "sackIn", "(II)I"⟩, 65) := ⟨⟨by decide +kernel, by decide +kernel⟩, List.mem_of_getElem? (i := 1095) (by decide +kernel), List.mem_of_getElem? (i := 1814) (by decide +kernel), List.mem_of_getElem? (i := 1815) (by decide +kernel)⟩
def lw_privs_7 : List (MethodName × Nat) := [(⟨"PepperTablesModel", "goGrind", "(I)I"⟩, 65), (⟨"PepperTablesModel", "swapAll", "()V"⟩, 65), (⟨"PepperTablesModel", "wouldWith", "(II)I"⟩, 65), (⟨"PepperTablesModel", "saidWith", "(I)I"⟩, 65), (⟨"PepperTablesModel", "worthTo", "(II)I"⟩, 65), (⟨"PepperTablesModel", "keepNow", "()V"⟩, 65), (⟨"PepperTablesModel", "inRow", "(III)I"⟩, 65), (⟨"PepperTablesModel", "bringBack", "()V"⟩, 65), (⟨"PepperTablesModel", "canChange", "(II)Z"⟩, 65), (⟨"PepperTablesModel", "isLine", "(II)Z"⟩, 65), (⟨"PepperTablesModel", "inOrder", "(III)I"⟩, 65), (⟨"PepperTablesModel", "doesKeep", "(II)Z"⟩, 65), (⟨"PepperTablesModel", "layRows", "(I)V"⟩, 65), (⟨"PepperTablesModel", "layMany", "()V"⟩, 65), (⟨"PepperTablesModel", "hidden", "()I"⟩, 65), (⟨"PepperTablesModel", "sackIn", "(II)I"⟩, 65)]
theorem lw_r7 : ∀ q ∈ lw_privs_7, lw_okq q := List.forall_mem_cons.mpr ⟨lw_p96, List.forall_mem_cons.mpr ⟨lw_p97, List.forall_mem_cons.mpr ⟨lw_p98, List.forall_mem_cons.mpr ⟨lw_p99, List.forall_mem_cons.mpr ⟨lw_p100, List.forall_mem_cons.mpr ⟨lw_p101, List.forall_mem_cons.mpr ⟨lw_p102, List.forall_mem_cons.mpr ⟨lw_p103, List.forall_mem_cons.mpr ⟨lw_p104, List.forall_mem_cons.mpr ⟨lw_p105, List.forall_mem_cons.mpr ⟨lw_p106, List.forall_mem_cons.mpr ⟨lw_p107, List.forall_mem_cons.mpr ⟨lw_p108, List.forall_mem_cons.mpr ⟨lw_p109, List.forall_mem_cons.mpr ⟨lw_p110, List.forall_mem_cons.mpr ⟨lw_p111, fun _ h => absurd h List.not_mem_nil⟩⟩⟩⟩⟩⟩⟩⟩⟩⟩⟩⟩⟩⟩⟩⟩
theorem lw_p112 : lw_okq (⟨"PepperTablesModel", "allRows", "()I"⟩, 65) := ⟨⟨by decide +kernel, by decide +kernel⟩, List.mem_of_getElem? (i := 1095) (by decide +kernel), List.mem_of_getElem? (i := 1818) (by decide +kernel), List.mem_of_getElem? (i := 1819) (by decide +kernel)⟩
theorem lw_p113 : lw_okq (⟨"PepperTablesModel", "doesFit", "(II)Z"⟩, 65) := ⟨⟨by decide +kernel, by decide +kernel⟩, List.mem_of_getElem? (i := 1095) (by decide +kernel), List.mem_of_getElem? (i := 1822) (by decide +kernel), List.mem_of_getElem? (i := 1823) (by decide +kernel)⟩
theorem lw_p114 : lw_okq (⟨"PepperTablesModel", "mostBy", "(II)I"⟩, 65) := ⟨⟨by decide +kernel, by decide +kernel⟩, List.mem_of_getElem? (i := 1095) (by decide +kernel), List.mem_of_getElem? (i := 1834) (by decide +kernel), List.mem_of_getElem? (i := 1835) (by decide +kernel)⟩
def lw_privs_8 : List (MethodName × Nat) := [(⟨"PepperTablesModel", "allRows", "()I"⟩, 65), (⟨"PepperTablesModel", "doesFit", "(II)Z"⟩, 65), (⟨"PepperTablesModel", "mostBy", "(II)I"⟩, 65)]
theorem lw_r8 : ∀ q ∈ lw_privs_8, lw_okq q := List.forall_mem_cons.mpr ⟨lw_p112, List.forall_mem_cons.mpr ⟨lw_p113, List.forall_mem_cons.mpr ⟨lw_p114, fun _ h => absurd h List.not_mem_nil⟩⟩⟩
def lw_privs : List (MethodName × Nat) := lw_privs_1 ++ (lw_privs_2 ++ (lw_privs_3 ++ (lw_privs_4 ++ (lw_privs_5 ++ (lw_privs_6 ++ (lw_privs_7 ++ (lw_privs_8)))))))
def lw_tbl : List Cond := k2_sels lw_privs ++ tables_1
theorem lw_privs_ok : ∀ q ∈ lw_privs, lw_okq q := by
  show ∀ q ∈ lw_privs_1 ++ (lw_privs_2 ++ (lw_privs_3 ++ (lw_privs_4 ++ (lw_privs_5 ++ (lw_privs_6 ++ (lw_privs_7 ++ (lw_privs_8))))))), lw_okq q
  exact List.forall_mem_append.mpr ⟨lw_r1, List.forall_mem_append.mpr ⟨lw_r2, List.forall_mem_append.mpr ⟨lw_r3, List.forall_mem_append.mpr ⟨lw_r4, List.forall_mem_append.mpr ⟨lw_r5, List.forall_mem_append.mpr ⟨lw_r6, List.forall_mem_append.mpr ⟨lw_r7, lw_r8⟩⟩⟩⟩⟩⟩⟩
end
section
theorem goodIn_r {big : List Cond} (ws : List Cond) (ps : List Nat) (hp : ws = ps.filterMap (fun i => big[i]?)) (h : ws.all goodWord = true) : GoodIn big ws := by
  intro w hw
  have h1 := List.all_eq_true.mp h w hw
  rw [hp] at hw
  obtain ⟨i, -, hi⟩ := List.mem_filterMap.mp hw
  have hm : w ∈ big := by first | exact List.mem_of_getElem? hi | exact List.getElem?_mem hi
  exact ⟨hm, good_of_word h1⟩
theorem goodIn_app {big a b : List Cond} (ha : GoodIn big a) (hb : GoodIn big b) : GoodIn big (a ++ b) := fun w h => (List.mem_append.mp h).elim (ha w) (hb w)
theorem goodIn_ca {big a b : List Cond} {c : Cond} (ha : GoodIn big (c :: a)) (hb : GoodIn big b) : GoodIn big (c :: (a ++ b)) := fun w h => (List.mem_cons.mp h).elim (fun e => ha w (List.mem_cons.mpr (Or.inl e))) (fun h => (List.mem_append.mp h).elim (fun h => ha w (List.mem_cons.mpr (Or.inr h))) (hb w))
theorem goodIn_sub {big ws : List Cond} (hm : ∀ w ∈ ws, w ∈ big) (h : ws.all goodWord = true) : GoodIn big ws := fun w hw => ⟨hm w hw, good_of_word (List.all_eq_true.mp h w hw)⟩
def RX0 : String := "PepperTables$Acts"
def TX0 : u_T := fun k => match k with
  | 0 => ("PepperTables$Acts", "undoable", "I", false)
  | 1 => ("PepperTables$Acts", "redoable", "I", false)
  | 2 => ("PepperTables$Acts", "row", "I", false)
  | _ => ("PepperTables$Acts", "rows", "[I", true)
def tyX0 : Nat → FieldType := fun k => match k with
  | 0 => .int
  | 1 => .int
  | 2 => .int
  | _ => .array .int
theorem nmX0 : ∀ a, a < 4 → ∀ b, b < 4 → a ≠ b → (TX0 a).2.1 ≠ (TX0 b).2.1 := by decide +kernel
theorem tyX0_ok : ∀ k, k < 4 → parseFieldDescriptor (TX0 k).2.2.1 = some (tyX0 k) := by decide +kernel
theorem ee_dcX0 : ∀ k, k < 4 → (TX0 k).1 = RX0 := by decide +kernel
def RX1 : String := "PepperTables$Boxes"
def TX1 : u_T := fun k => match k with
  | 0 => ("PepperTables$Boxes", "rows", "[I", true)
  | _ => ("PepperTables$Boxes", "filled", "[Z", true)
def tyX1 : Nat → FieldType := fun k => match k with
  | 0 => .array .int
  | _ => .array .boolean
theorem nmX1 : ∀ a, a < 2 → ∀ b, b < 2 → a ≠ b → (TX1 a).2.1 ≠ (TX1 b).2.1 := by decide +kernel
theorem tyX1_ok : ∀ k, k < 2 → parseFieldDescriptor (TX1 k).2.2.1 = some (tyX1 k) := by decide +kernel
theorem ee_dcX1 : ∀ k, k < 2 → (TX1 k).1 = RX1 := by decide +kernel
def RX2 : String := "PepperTables$Hearsay"
def TX2 : u_T := fun k => match k with
  | 0 => ("PepperTables$Hearsay", "count", "I", false)
  | 1 => ("PepperTables$Hearsay", "time", "I", false)
  | 2 => ("PepperTables$Hearsay", "isReckoned", "Z", false)
  | 3 => ("PepperTables$Hearsay", "rowCount", "I", false)
  | 4 => ("PepperTables$Hearsay", "sacks", "[I", true)
  | 5 => ("PepperTables$Hearsay", "many", "[I", true)
  | 6 => ("PepperTables$Hearsay", "is", "[Z", true)
  | 7 => ("PepperTables$Hearsay", "toldAt", "[I", true)
  | 8 => ("PepperTables$Hearsay", "untoldAt", "[I", true)
  | 9 => ("PepperTables$Hearsay", "outs", "[I", true)
  | 10 => ("PepperTables$Hearsay", "isLeft", "[Z", true)
  | 11 => ("PepperTables$Hearsay", "tally", "[I", true)
  | _ => ("PepperTables$Hearsay", "scene", "LPepperTables$State;", true)
def tyX2 : Nat → FieldType := fun k => match k with
  | 0 => .int
  | 1 => .int
  | 2 => .boolean
  | 3 => .int
  | 4 => .array .int
  | 5 => .array .int
  | 6 => .array .boolean
  | 7 => .array .int
  | 8 => .array .int
  | 9 => .array .int
  | 10 => .array .boolean
  | 11 => .array .int
  | _ => .object "PepperTables$State"
theorem nmX2 : ∀ a, a < 13 → ∀ b, b < 13 → a ≠ b → (TX2 a).2.1 ≠ (TX2 b).2.1 := by decide +kernel
theorem tyX2_ok : ∀ k, k < 13 → parseFieldDescriptor (TX2 k).2.2.1 = some (tyX2 k) := by decide +kernel
theorem ee_dcX2 : ∀ k, k < 13 → (TX2 k).1 = RX2 := by decide +kernel
def RX3 : String := "PepperTables$Lying"
def TX3 : u_T := fun k => match k with
  | 0 => ("PepperTables$Lying", "count", "I", false)
  | 1 => ("PepperTables$Lying", "numbers", "[I", true)
  | 2 => ("PepperTables$Lying", "path", "[I", true)
  | 3 => ("PepperTables$Lying", "listeners", "[I", true)
  | _ => ("PepperTables$Lying", "people", "I", false)
def tyX3 : Nat → FieldType := fun k => match k with
  | 0 => .int
  | 1 => .array .int
  | 2 => .array .int
  | 3 => .array .int
  | _ => .int
theorem nmX3 : ∀ a, a < 5 → ∀ b, b < 5 → a ≠ b → (TX3 a).2.1 ≠ (TX3 b).2.1 := by decide +kernel
theorem tyX3_ok : ∀ k, k < 5 → parseFieldDescriptor (TX3 k).2.2.1 = some (tyX3 k) := by decide +kernel
theorem ee_dcX3 : ∀ k, k < 5 → (TX3 k).1 = RX3 := by decide +kernel
def RX4 : String := "PepperTables$Mill"
def TX4 : u_T := fun k => match k with
  | 0 => ("PepperTables$Mill", "inputs", "[I", true)
  | 1 => ("PepperTables$Mill", "stack", "[I", true)
  | _ => ("PepperTables$Mill", "passingBySize", "[I", true)
def tyX4 : Nat → FieldType := fun k => match k with
  | 0 => .array .int
  | 1 => .array .int
  | _ => .array .int
theorem nmX4 : ∀ a, a < 3 → ∀ b, b < 3 → a ≠ b → (TX4 a).2.1 ≠ (TX4 b).2.1 := by decide +kernel
theorem tyX4_ok : ∀ k, k < 3 → parseFieldDescriptor (TX4 k).2.2.1 = some (tyX4 k) := by decide +kernel
theorem ee_dcX4 : ∀ k, k < 3 → (TX4 k).1 = RX4 := by decide +kernel
def RX5 : String := "PepperTables$Reader"
def TX5 : u_T := fun k => match k with
  | 0 => ("PepperTables$Reader", "length", "I", false)
  | 1 => ("PepperTables$Reader", "fault", "I", false)
  | 2 => ("PepperTables$Reader", "faultPlace", "I", false)
  | 3 => ("PepperTables$Reader", "target", "LPepperTables$Told;", false)
  | 4 => ("PepperTables$Reader", "text", "[I", true)
  | 5 => ("PepperTables$Reader", "words", "[J", true)
  | 6 => ("PepperTables$Reader", "at", "I", false)
  | 7 => ("PepperTables$Reader", "kind", "I", false)
  | 8 => ("PepperTables$Reader", "place", "I", false)
  | 9 => ("PepperTables$Reader", "number", "I", false)
  | _ => ("PepperTables$Reader", "name", "J", false)
def tyX5 : Nat → FieldType := fun k => match k with
  | 0 => .int
  | 1 => .int
  | 2 => .int
  | 3 => .object "PepperTables$Told"
  | 4 => .array .int
  | 5 => .array .long
  | 6 => .int
  | 7 => .int
  | 8 => .int
  | 9 => .int
  | _ => .long
theorem nmX5 : ∀ a, a < 11 → ∀ b, b < 11 → a ≠ b → (TX5 a).2.1 ≠ (TX5 b).2.1 := by decide +kernel
theorem tyX5_ok : ∀ k, k < 11 → parseFieldDescriptor (TX5 k).2.2.1 = some (tyX5 k) := by decide +kernel
theorem ee_dcX5 : ∀ k, k < 11 → (TX5 k).1 = RX5 := by decide +kernel
def RX6 : String := "PepperTables$State"
def TX6 : u_T := fun k => match k with
  | 0 => ("PepperTables$State", "sits", "I", false)
  | 1 => ("PepperTables$State", "said", "I", false)
  | 2 => ("PepperTables$State", "course", "I", false)
  | 3 => ("PepperTables$State", "seed", "I", false)
  | 4 => ("PepperTables$State", "where", "[I", true)
  | _ => ("PepperTables$State", "ground", "[I", true)
def tyX6 : Nat → FieldType := fun k => match k with
  | 0 => .int
  | 1 => .int
  | 2 => .int
  | 3 => .int
  | 4 => .array .int
  | _ => .array .int
theorem nmX6 : ∀ a, a < 6 → ∀ b, b < 6 → a ≠ b → (TX6 a).2.1 ≠ (TX6 b).2.1 := by decide +kernel
theorem tyX6_ok : ∀ k, k < 6 → parseFieldDescriptor (TX6 k).2.2.1 = some (tyX6 k) := by decide +kernel
theorem ee_dcX6 : ∀ k, k < 6 → (TX6 k).1 = RX6 := by decide +kernel
def RX7 : String := "PepperTables$Told"
def TX7 : u_T := fun k => match k with
  | 0 => ("PepperTables$Told", "people", "I", false)
  | 1 => ("PepperTables$Told", "sacks", "I", false)
  | 2 => ("PepperTables$Told", "things", "I", false)
  | 3 => ("PepperTables$Told", "units", "I", false)
  | 4 => ("PepperTables$Told", "sneeze", "I", false)
  | 5 => ("PepperTables$Told", "draw", "I", false)
  | 6 => ("PepperTables$Told", "codeLength", "I", false)
  | 7 => ("PepperTables$Told", "hasFormula", "Z", false)
  | 8 => ("PepperTables$Told", "hasSneeze", "Z", false)
  | 9 => ("PepperTables$Told", "hasDraw", "Z", false)
  | 10 => ("PepperTables$Told", "shy", "[I", true)
  | 11 => ("PepperTables$Told", "by", "[I", true)
  | 12 => ("PepperTables$Told", "to", "[I", true)
  | 13 => ("PepperTables$Told", "hot", "[I", true)
  | 14 => ("PepperTables$Told", "in", "[I", true)
  | 15 => ("PepperTables$Told", "code", "[I", true)
  | 16 => ("PepperTables$Told", "personNames", "[J", true)
  | 17 => ("PepperTables$Told", "sackNames", "[J", true)
  | _ => ("PepperTables$Told", "thingNames", "[J", true)
def tyX7 : Nat → FieldType := fun k => match k with
  | 0 => .int
  | 1 => .int
  | 2 => .int
  | 3 => .int
  | 4 => .int
  | 5 => .int
  | 6 => .int
  | 7 => .boolean
  | 8 => .boolean
  | 9 => .boolean
  | 10 => .array .int
  | 11 => .array .int
  | 12 => .array .int
  | 13 => .array .int
  | 14 => .array .int
  | 15 => .array .int
  | 16 => .array .long
  | 17 => .array .long
  | _ => .array .long
theorem nmX7 : ∀ a, a < 19 → ∀ b, b < 19 → a ≠ b → (TX7 a).2.1 ≠ (TX7 b).2.1 := by decide +kernel
theorem tyX7_ok : ∀ k, k < 19 → parseFieldDescriptor (TX7 k).2.2.1 = some (tyX7 k) := by decide +kernel
theorem ee_dcX7 : ∀ k, k < 19 → (TX7 k).1 = RX7 := by decide +kernel
def RX8 : String := "PepperTables"
def TX8 : u_T := fun k => match k with
  | 0 => ("PepperTables", "reader", "LPepperTables$Reader;", true)
  | 1 => ("PepperTables", "told", "LPepperTables$Told;", false)
  | 2 => ("PepperTables", "now", "LPepperTables$State;", true)
  | 3 => ("PepperTables", "trial", "LPepperTables$State;", true)
  | 4 => ("PepperTables", "mill", "LPepperTables$Mill;", true)
  | 5 => ("PepperTables", "acts", "LPepperTables$Acts;", true)
  | 6 => ("PepperTables", "boxes", "LPepperTables$Boxes;", true)
  | 7 => ("PepperTables", "lying", "LPepperTables$Lying;", true)
  | 8 => ("PepperTables", "hearsay", "LPepperTables$Hearsay;", true)
  | 9 => ("PepperTables", "scores", "[I", true)
  | 10 => ("PepperTables", "firstGains", "[I", true)
  | _ => ("PepperTables", "otherGains", "[I", true)
def tyX8 : Nat → FieldType := fun k => match k with
  | 0 => .object "PepperTables$Reader"
  | 1 => .object "PepperTables$Told"
  | 2 => .object "PepperTables$State"
  | 3 => .object "PepperTables$State"
  | 4 => .object "PepperTables$Mill"
  | 5 => .object "PepperTables$Acts"
  | 6 => .object "PepperTables$Boxes"
  | 7 => .object "PepperTables$Lying"
  | 8 => .object "PepperTables$Hearsay"
  | 9 => .array .int
  | 10 => .array .int
  | _ => .array .int
theorem nmX8 : ∀ a, a < 12 → ∀ b, b < 12 → a ≠ b → (TX8 a).2.1 ≠ (TX8 b).2.1 := by decide +kernel
theorem tyX8_ok : ∀ k, k < 12 → parseFieldDescriptor (TX8 k).2.2.1 = some (tyX8 k) := by decide +kernel
theorem ee_dcX8 : ∀ k, k < 12 → (TX8 k).1 = RX8 := by decide +kernel
def RX9 : String := "PepperTablesModel"
def TX9 : u_T := fun k => match k with
  | 0 => ("PepperTablesModel", "tape", "[B", true)
  | 1 => ("PepperTablesModel", "text", "[B", true)
  | 2 => ("PepperTablesModel", "taped", "I", false)
  | 3 => ("PepperTablesModel", "size", "I", false)
  | 4 => ("PepperTablesModel", "faultKind", "I", false)
  | 5 => ("PepperTablesModel", "faultPlace", "I", false)
  | 6 => ("PepperTablesModel", "at", "I", false)
  | 7 => ("PepperTablesModel", "end", "I", false)
  | 8 => ("PepperTablesModel", "token", "I", false)
  | 9 => ("PepperTablesModel", "number", "I", false)
  | 10 => ("PepperTablesModel", "name", "J", false)
  | 11 => ("PepperTablesModel", "people", "[I", true)
  | 12 => ("PepperTablesModel", "sacks", "[I", true)
  | 13 => ("PepperTablesModel", "things", "[I", true)
  | 14 => ("PepperTablesModel", "units", "[I", true)
  | 15 => ("PepperTablesModel", "sneeze", "[I", true)
  | 16 => ("PepperTablesModel", "draw", "[I", true)
  | 17 => ("PepperTablesModel", "told", "[I", true)
  | 18 => ("PepperTablesModel", "shy", "[I", true)
  | 19 => ("PepperTablesModel", "from", "[I", true)
  | 20 => ("PepperTablesModel", "whom", "[I", true)
  | 21 => ("PepperTablesModel", "hot", "[I", true)
  | 22 => ("PepperTablesModel", "inSack", "[I", true)
  | 23 => ("PepperTablesModel", "ruleFrom", "[I", true)
  | 24 => ("PepperTablesModel", "ruleTo", "[I", true)
  | 25 => ("PepperTablesModel", "pName", "[J", true)
  | 26 => ("PepperTablesModel", "sName", "[J", true)
  | 27 => ("PepperTablesModel", "tName", "[J", true)
  | 28 => ("PepperTablesModel", "code", "[I", true)
  | 29 => ("PepperTablesModel", "codeNumber", "[I", true)
  | 30 => ("PepperTablesModel", "eWhat", "[I", true)
  | 31 => ("PepperTablesModel", "eSign", "[I", true)
  | 32 => ("PepperTablesModel", "pile", "[I", true)
  | 33 => ("PepperTablesModel", "bank", "I", false)
  | 34 => ("PepperTablesModel", "rb", "I", false)
  | 35 => ("PepperTablesModel", "codes", "I", false)
  | 36 => ("PepperTablesModel", "within", "I", false)
  | 37 => ("PepperTablesModel", "piled", "I", false)
  | 38 => ("PepperTablesModel", "unitsInRule", "I", false)
  | 39 => ("PepperTablesModel", "askThing", "I", false)
  | 40 => ("PepperTablesModel", "askSack", "I", false)
  | 41 => ("PepperTablesModel", "askShy", "I", false)
  | 42 => ("PepperTablesModel", "all", "[I", true)
  | 43 => ("PepperTablesModel", "thoughtThing", "I", false)
  | 44 => ("PepperTablesModel", "thoughtShy", "I", false)
  | 45 => ("PepperTablesModel", "was", "[I", true)
  | 46 => ("PepperTablesModel", "acts", "I", false)
  | 47 => ("PepperTablesModel", "undone", "I", false)
  | 48 => ("PepperTablesModel", "kept", "[I", true)
  | 49 => ("PepperTablesModel", "laidRow", "[I", true)
  | 50 => ("PepperTablesModel", "laid", "I", false)
  | 51 => ("PepperTablesModel", "feasts", "[I", true)
  | 52 => ("PepperTablesModel", "manyBy", "[I", true)
  | 53 => ("PepperTablesModel", "sSack", "[I", true)
  | 54 => ("PepperTablesModel", "sMany", "[I", true)
  | 55 => ("PepperTablesModel", "sIs", "[I", true)
  | 56 => ("PepperTablesModel", "sTold", "[I", true)
  | 57 => ("PepperTablesModel", "sUntold", "[I", true)
  | 58 => ("PepperTablesModel", "parts", "[I", true)
  | 59 => ("PepperTablesModel", "byMany", "[I", true)
  | 60 => ("PepperTablesModel", "heards", "I", false)
  | 61 => ("PepperTablesModel", "time", "I", false)
  | 62 => ("PepperTablesModel", "fitting", "I", false)
  | 63 => ("PepperTablesModel", "boxAll", "[I", true)
  | _ => ("PepperTablesModel", "isBoxed", "[Z", true)
def tyX9 : Nat → FieldType := fun k => match k with
  | 0 => .array .byte
  | 1 => .array .byte
  | 2 => .int
  | 3 => .int
  | 4 => .int
  | 5 => .int
  | 6 => .int
  | 7 => .int
  | 8 => .int
  | 9 => .int
  | 10 => .long
  | 11 => .array .int
  | 12 => .array .int
  | 13 => .array .int
  | 14 => .array .int
  | 15 => .array .int
  | 16 => .array .int
  | 17 => .array .int
  | 18 => .array .int
  | 19 => .array .int
  | 20 => .array .int
  | 21 => .array .int
  | 22 => .array .int
  | 23 => .array .int
  | 24 => .array .int
  | 25 => .array .long
  | 26 => .array .long
  | 27 => .array .long
  | 28 => .array .int
  | 29 => .array .int
  | 30 => .array .int
  | 31 => .array .int
  | 32 => .array .int
  | 33 => .int
  | 34 => .int
  | 35 => .int
  | 36 => .int
  | 37 => .int
  | 38 => .int
  | 39 => .int
  | 40 => .int
  | 41 => .int
  | 42 => .array .int
  | 43 => .int
  | 44 => .int
  | 45 => .array .int
  | 46 => .int
  | 47 => .int
  | 48 => .array .int
  | 49 => .array .int
  | 50 => .int
  | 51 => .array .int
  | 52 => .array .int
  | 53 => .array .int
  | 54 => .array .int
  | 55 => .array .int
  | 56 => .array .int
  | 57 => .array .int
  | 58 => .array .int
  | 59 => .array .int
  | 60 => .int
  | 61 => .int
  | 62 => .int
  | 63 => .array .int
  | _ => .array .boolean
theorem nmX9 : ∀ a, a < 65 → ∀ b, b < 65 → a ≠ b → (TX9 a).2.1 ≠ (TX9 b).2.1 := by decide +kernel
theorem tyX9_ok : ∀ k, k < 65 → parseFieldDescriptor (TX9 k).2.2.1 = some (tyX9 k) := by decide +kernel
theorem ee_dcX9 : ∀ k, k < 65 → (TX9 k).1 = RX9 := by decide +kernel
abbrev vwCl : List vw_C := [(RX0, TX0, 4), (RX1, TX1, 2), (RX2, TX2, 13), (RX3, TX3, 5), (RX4, TX4, 3), (RX5, TX5, 11), (RX6, TX6, 6), (RX7, TX7, 19), (RX8, TX8, 12), (RX9, TX9, 65)]
/-- the words that a callee may keep -/
def ee_tbl : List Cond := lw_tbl.filter goodWord
def ee_own : List String := [RX0, RX1, RX2, RX3, RX4, RX5, RX6, RX7, RX8, RX9, "PepperTablesLaw", "java/lang/Character", "java/lang/Integer", "java/lang/Math", "java/lang/String", "java/lang/StringLatin1", "jdk/internal/util/Preconditions"]
def ee_at (i : Nat) (w : Cond) : Bool := decide (lw_tbl[i]? = some w) && goodWord w
theorem ee_at.mem {i : Nat} {w : Cond} (h : ee_at i w = true) : w ∈ ee_tbl := by
  have h := Bool.and_eq_true_iff.mp h
  exact List.mem_filter.mpr ⟨List.mem_of_getElem? (of_decide_eq_true h.1), h.2⟩
def ee_atL (i : Nat) (w : Cond) : Bool := decide (lw_tbl[i]? = some w)
theorem ee_atL.mem {i : Nat} {w : Cond} (h : ee_atL i w = true) : w ∈ lw_tbl := List.mem_of_getElem? (of_decide_eq_true h)
theorem ee_tbl_good : ∀ w ∈ ee_tbl, goodWord w = true := fun w h => (List.mem_filter.mp h).2
theorem ee_tbl_lw : ∀ w ∈ ee_tbl, w ∈ lw_tbl := fun w h => (List.mem_filter.mp h).1
theorem ee_wsX0 : u_ws RX0 TX0 4 = [416, 418, 420, 422].filterMap (fun i => lw_tbl[i]?) ∧ (u_ws RX0 TX0 4).all goodWord = true := by decide +kernel
theorem ee_wsX1 : u_ws RX1 TX1 2 = [433, 435].filterMap (fun i => lw_tbl[i]?) ∧ (u_ws RX1 TX1 2).all goodWord = true := by decide +kernel
theorem ee_wsX2 : u_ws RX2 TX2 13 = [485, 487, 489, 491, 493, 495, 497, 499, 501, 503, 505, 507, 509].filterMap (fun i => lw_tbl[i]?) ∧ (u_ws RX2 TX2 13).all goodWord = true := by decide +kernel
theorem ee_wsX3 : u_ws RX3 TX3 5 = [451, 453, 455, 457, 459].filterMap (fun i => lw_tbl[i]?) ∧ (u_ws RX3 TX3 5).all goodWord = true := by decide +kernel
theorem ee_wsX4 : u_ws RX4 TX4 3 = [397, 399, 401].filterMap (fun i => lw_tbl[i]?) ∧ (u_ws RX4 TX4 3).all goodWord = true := by decide +kernel
theorem ee_wsX5 : u_ws RX5 TX5 11 = [326, 328, 330, 332, 334, 336, 338, 340, 342, 344, 346].filterMap (fun i => lw_tbl[i]?) ∧ (u_ws RX5 TX5 11).all goodWord = true := by decide +kernel
theorem ee_wsX6 : u_ws RX6 TX6 6 = [375, 377, 379, 381, 383, 385].filterMap (fun i => lw_tbl[i]?) ∧ (u_ws RX6 TX6 6).all goodWord = true := by decide +kernel
theorem ee_wsX7 : u_ws RX7 TX7 19 = [220, 222, 224, 226, 228, 230, 232, 234, 236, 238, 240, 242, 244, 246, 248, 250, 252, 254, 256].filterMap (fun i => lw_tbl[i]?) ∧ (u_ws RX7 TX7 19).all goodWord = true := by decide +kernel
theorem ee_wsX8 : u_ws RX8 TX8 12 = [524, 526, 528, 530, 532, 534, 536, 538, 540, 542, 544, 546].filterMap (fun i => lw_tbl[i]?) ∧ (u_ws RX8 TX8 12).all goodWord = true := by decide +kernel
theorem ee_wsX9 : u_ws RX9 TX9 65 = [1296, 1298, 1300, 1302, 1304, 1306, 1308, 1310, 1312, 1314, 1316, 1318, 1320, 1322, 1324, 1326, 1328, 1330, 1332, 1334, 1336, 1338, 1340, 1342, 1344, 1346, 1348, 1350, 1352, 1354, 1356, 1358, 1360, 1362, 1364, 1366, 1368, 1370, 1372, 1374, 1376, 1378, 1380, 1382, 1384, 1386, 1388, 1390, 1392, 1394, 1396, 1398, 1400, 1402, 1404, 1406, 1408, 1410, 1412, 1414, 1416, 1418, 1420, 1422, 1424].filterMap (fun i => lw_tbl[i]?) ∧ (u_ws RX9 TX9 65).all goodWord = true := by decide +kernel
theorem ee_in_of {ws : List Cond} {ps : List Nat} (h : ws = ps.filterMap (fun i => lw_tbl[i]?) ∧ ws.all goodWord = true) : ∀ w ∈ ws, w ∈ ee_tbl := fun w hw => by
  have hg := List.all_eq_true.mp h.2 w hw
  rw [h.1] at hw
  obtain ⟨i, -, hi⟩ := List.mem_filterMap.mp hw
  exact List.mem_filter.mpr ⟨List.mem_of_getElem? hi, hg⟩
/-- what the tables say of a kind -/
def ee_Kd (q : vw_C) : Prop := (∀ w ∈ u_ws q.1 q.2.1 q.2.2, w ∈ ee_tbl) ∧ (∀ a, a < q.2.2 → ∀ b, b < q.2.2 → a ≠ b → (q.2.1 a).2.1 ≠ (q.2.1 b).2.1) ∧ ∃ ty : Nat → FieldType, ∀ k, k < q.2.2 → (parseFieldDescriptor (q.2.1 k).2.2.1 = some (ty k) ∧ (q.2.1 k).1 = q.1)
theorem ee_kd : ∀ (k : Nat) (q : vw_C), vwCl[k]? = some q → ee_Kd q := by
  intro k q h
  match k, h with
  | 0, h => cases h; exact ⟨ee_in_of ee_wsX0, nmX0, tyX0, fun k hk => ⟨tyX0_ok k hk, ee_dcX0 k hk⟩⟩
  | 1, h => cases h; exact ⟨ee_in_of ee_wsX1, nmX1, tyX1, fun k hk => ⟨tyX1_ok k hk, ee_dcX1 k hk⟩⟩
  | 2, h => cases h; exact ⟨ee_in_of ee_wsX2, nmX2, tyX2, fun k hk => ⟨tyX2_ok k hk, ee_dcX2 k hk⟩⟩
  | 3, h => cases h; exact ⟨ee_in_of ee_wsX3, nmX3, tyX3, fun k hk => ⟨tyX3_ok k hk, ee_dcX3 k hk⟩⟩
  | 4, h => cases h; exact ⟨ee_in_of ee_wsX4, nmX4, tyX4, fun k hk => ⟨tyX4_ok k hk, ee_dcX4 k hk⟩⟩
  | 5, h => cases h; exact ⟨ee_in_of ee_wsX5, nmX5, tyX5, fun k hk => ⟨tyX5_ok k hk, ee_dcX5 k hk⟩⟩
  | 6, h => cases h; exact ⟨ee_in_of ee_wsX6, nmX6, tyX6, fun k hk => ⟨tyX6_ok k hk, ee_dcX6 k hk⟩⟩
  | 7, h => cases h; exact ⟨ee_in_of ee_wsX7, nmX7, tyX7, fun k hk => ⟨tyX7_ok k hk, ee_dcX7 k hk⟩⟩
  | 8, h => cases h; exact ⟨ee_in_of ee_wsX8, nmX8, tyX8, fun k hk => ⟨tyX8_ok k hk, ee_dcX8 k hk⟩⟩
  | 9, h => cases h; exact ⟨ee_in_of ee_wsX9, nmX9, tyX9, fun k hk => ⟨tyX9_ok k hk, ee_dcX9 k hk⟩⟩
  | k + 10, h => simp [vwCl] at h
theorem ee_okn : ∀ (k : Nat) (q : vw_C), vwCl[k]? = some q → ee_own[k]? = some q.1 := by
  intro k q h
  match k, h with
  | 0, h => cases h; rfl
  | 1, h => cases h; rfl
  | 2, h => cases h; rfl
  | 3, h => cases h; rfl
  | 4, h => cases h; rfl
  | 5, h => cases h; rfl
  | 6, h => cases h; rfl
  | 7, h => cases h; rfl
  | 8, h => cases h; rfl
  | 9, h => cases h; rfl
  | k + 10, h => simp [vwCl] at h
theorem ee_inst : ∀ (k : Nat) (q : vw_C), vwCl[k]? = some q → Cond.instantiable q.1 q.2.2 ∈ ee_tbl := by
  intro k q h
  match k, h with
  | 0, h => cases h; exact ee_at.mem (i := 405) (by decide +kernel)
  | 1, h => cases h; exact ee_at.mem (i := 426) (by decide +kernel)
  | 2, h => cases h; exact ee_at.mem (i := 463) (by decide +kernel)
  | 3, h => cases h; exact ee_at.mem (i := 440) (by decide +kernel)
  | 4, h => cases h; exact ee_at.mem (i := 389) (by decide +kernel)
  | 5, h => cases h; exact ee_at.mem (i := 143) (by decide +kernel)
  | 6, h => cases h; exact ee_at.mem (i := 353) (by decide +kernel)
  | 7, h => cases h; exact ee_at.mem (i := 149) (by decide +kernel)
  | 8, h => cases h; exact ee_at.mem (i := 135) (by decide +kernel)
  | 9, h => cases h; exact ee_at.mem (i := 1210) (by decide +kernel)
  | k + 10, h => simp [vwCl] at h
def ee_len : List Nat := [89, 11]
def ee_byt : List (List Int32) := [[112, 101, 114, 115, 111, 110, 32, 115, 97, 99, 107, 32, 116, 104, 105, 110, 103, 32, 115, 97, 105, 100, 32, 115, 110, 101, 101, 122, 101, 32, 100, 114, 97, 119, 32, 98, 121, 32, 116, 111, 32, 105, 110, 32, 111, 114, 32, 97, 110, 100, 32, 110, 111, 116, 32, 104, 111, 116, 32, 115, 104, 121, 32, 103, 117, 101, 115, 116, 115, 32, 103, 114, 111, 117, 110, 100, 32, 104, 101, 97, 116, 32, 99, 111, 117, 114, 115, 101, 32], [59, 40, 41, 60, 62, 61, 43, 45, 42, 47, 37]]
def ee_six : List Nat := [30, 73]
def ee_stx : List String := ["person sack thing said sneeze draw by to in or and not hot shy guests ground heat course ", ";()<>=+-*/%"]
end
section
/-! values, cells, symbols, and what they stand for -/
/-- a fact of a symbol: its kind, another symbol (or a modulus), a number -/
abbrev ee_fa : Type := Nat × Nat × Int
/-- of a symbol: its number, its bounds, facts -/
abbrev ee_ve : Type := Nat × Int × Int × List ee_fa
/-- how many symbols there are; what is known of them, the newest first -/
abbrev ee_iv : Type := Nat × List ee_ve
/-- a cell: an object (its kind's number, its fields), or an array (its kind: 0 int, 1 byte, 2 boolean, 3 long, 4 the formulas' code; its length; the period and the segments of its elements' bounds; elements that are named) -/
abbrev ee_cell : Type := (Nat × List Value) ⊕ (Nat × Nat × Nat × List (Nat × Int × Int) × List (Nat × Value))
abbrev ee_w : Type := List ee_cell
/-- pc, locals, stack, cells, symbols, cells and slots made so far, values kept for the callers -/
abbrev ee_st : Type := Nat × List (Nat × Value) × List Value × ee_w × ee_iv × Nat × Nat × List Value
def ee_all {α β : Type} (R : α → β → Prop) : List α → List β → Prop
  | [], [] => True
  | a :: l, b :: k => R a b ∧ ee_all R l k
  | _, _ => False
theorem ee_all.imp {α β : Type} {R S : α → β → Prop} (h : ∀ a b, R a b → S a b) : ∀ {l : List α} {k : List β}, ee_all R l k → ee_all S l k
  | [], [], _ => trivial
  | a :: l, b :: k, q => ⟨h a b q.1, ee_all.imp h q.2⟩
  | [], _ :: _, q => q.elim
  | _ :: _, [], q => q.elim
theorem ee_all.len {α β : Type} {R : α → β → Prop} : ∀ {l : List α} {k : List β}, ee_all R l k → l.length = k.length
  | [], [], _ => rfl
  | a :: l, b :: k, q => by rw [List.length_cons, List.length_cons, ee_all.len q.2]
  | [], _ :: _, q => q.elim
  | _ :: _, [], q => q.elim
theorem ee_all.get {α β : Type} {R : α → β → Prop} : ∀ {l : List α} {k : List β} {i : Nat} {a : α}, ee_all R l k → l[i]? = some a → ∃ b, k[i]? = some b ∧ R a b
  | [], [], i, a, _, h => by simp at h
  | x :: l, y :: k, 0, a, q, h => by
    rw [List.getElem?_cons_zero] at h
    cases h
    exact ⟨y, List.getElem?_cons_zero, q.1⟩
  | x :: l, y :: k, i + 1, a, q, h => by
    rw [List.getElem?_cons_succ] at h
    obtain ⟨b, h1, h2⟩ := ee_all.get q.2 h
    exact ⟨b, by rw [List.getElem?_cons_succ]; exact h1, h2⟩
  | [], _ :: _, _, _, q, _ => q.elim
  | _ :: _, [], _, _, q, _ => q.elim
theorem ee_all.set {α β : Type} {R : α → β → Prop} {a : α} {b : β} (hab : R a b) : ∀ {l : List α} {k : List β} {i : Nat}, ee_all R l k → ee_all R (l.set i a) (k.set i b)
  | [], [], _, _ => trivial
  | x :: l, y :: k, 0, q => ⟨hab, q.2⟩
  | x :: l, y :: k, i + 1, q => ⟨q.1, ee_all.set hab q.2⟩
  | [], _ :: _, _, q => q.elim
  | _ :: _, [], _, q => q.elim
theorem ee_all.app {α β : Type} {R : α → β → Prop} : ∀ {l l2 : List α} {k k2 : List β}, ee_all R l k → ee_all R l2 k2 → ee_all R (l ++ l2) (k ++ k2)
  | [], _, [], _, _, h => h
  | a :: l, _, b :: k, _, q, h => ⟨q.1, ee_all.app q.2 h⟩
  | [], _, _ :: _, _, q, _ => q.elim
  | _ :: _, _, [], _, q, _ => q.elim
theorem ee_all.split {α β : Type} {R : α → β → Prop} : ∀ {l l2 : List α} {k : List β}, ee_all R (l ++ l2) k → ∃ k1 k2, k = k1 ++ k2 ∧ ee_all R l k1 ∧ ee_all R l2 k2
  | [], _, k, h => ⟨[], k, rfl, trivial, h⟩
  | a :: l, l2, [], h => h.elim
  | a :: l, l2, b :: k, h => by
    obtain ⟨k1, k2, e, h1, h2⟩ := ee_all.split (l := l) (l2 := l2) (k := k) h.2
    exact ⟨b :: k1, k2, by rw [e]; rfl, ⟨h.1, h1⟩, h2⟩
theorem ee_all.split2 {α β : Type} {R : α → β → Prop} : ∀ {l : List α} {k1 k2 : List β}, ee_all R l (k1 ++ k2) → ee_all R (l.take k1.length) k1 ∧ ee_all R (l.drop k1.length) k2
  | l, [], k2, h => ⟨by simp [ee_all], by simpa using h⟩
  | [], b :: k1, k2, h => h.elim
  | a :: l, b :: k1, k2, h => by
    obtain ⟨h1, h2⟩ := ee_all.split2 (l := l) (k1 := k1) (k2 := k2) h.2
    exact ⟨⟨h.1, by simpa using h1⟩, by simpa using h2⟩
theorem ee_all.filter {α β : Type} {R : α → β → Prop} {p : α → Bool} {q : β → Bool} (h : ∀ a b, R a b → p a = q b) : ∀ {l : List α} {k : List β}, ee_all R l k → ee_all R (l.filter p) (k.filter q)
  | [], [], _ => trivial
  | a :: l, b :: k, z => by
    have ih := ee_all.filter h z.2
    have e := h a b z.1
    cases hp : p a with
    | true =>
      rw [List.filter_cons_of_pos hp, List.filter_cons_of_pos (by rw [← e]; exact hp)]
      exact ⟨z.1, ih⟩
    | false =>
      rw [List.filter_cons_of_neg (by rw [hp]; simp), List.filter_cons_of_neg (by rw [← e, hp]; simp)]
      exact ih
  | [], _ :: _, z => z.elim
  | _ :: _, [], z => z.elim
theorem ee_all.rev {α β : Type} {R : α → β → Prop} : ∀ {l : List α} {k : List β}, ee_all R l k → ee_all R l.reverse k.reverse
  | [], [], _ => trivial
  | a :: l, b :: k, q => by
    rw [List.reverse_cons, List.reverse_cons]
    exact ee_all.app (ee_all.rev q.2) ⟨q.1, trivial⟩
  | [], _ :: _, q => q.elim
  | _ :: _, [], q => q.elim
/-- what a symbolic value stands for: numbers of the symbols, addresses of the cells, what lies outside (addresses, and from 3000000 on longs). retAddr: a symbol; double 0: any long; double (k + 1): the long k of those outside; float: any reference -/
def ee_v (ns : List Int32) (as : List Nat) (ex : Nat → Nat) (x v : Value) : Prop := match x with
  | .int c => v = .int c
  | .retAddr k => ∃ z, ns[k]? = some z ∧ v = .int z
  | .ref k => if k < 1000000 then ∃ a, as[k]? = some a ∧ v = .ref a else v = .ref (ex k)
  | .null => v = .null
  | .long c => v = .long c
  | .float _ => v = .null ∨ ∃ a, v = .ref a
  | .double k => if k = 0 then ∃ z, v = .long z else v = .long (Int64.ofNat (ex (3000000 + k.toNat)))
theorem ee_get_app {α : Type} {l r : List α} {k : Nat} {a : α} (h : l[k]? = some a) : (l ++ r)[k]? = some a := by
  rw [List.getElem?_append_left (List.getElem?_eq_some_iff.mp h).1]
  exact h
theorem ee_v.mono {ns : List Int32} {as : List Nat} {ex : Nat → Nat} {x v : Value} (n2 : List Int32) (a2 : List Nat) (h : ee_v ns as ex x v) : ee_v (ns ++ n2) (as ++ a2) ex x v := by
  cases x with
  | int c => exact h
  | retAddr k =>
    obtain ⟨z, h1, h2⟩ := h
    exact ⟨z, ee_get_app h1, h2⟩
  | ref k =>
    unfold ee_v at h ⊢
    by_cases hk : k < 1000000
    · simp only [hk, if_true] at h ⊢
      obtain ⟨a, h1, h2⟩ := h
      exact ⟨a, ee_get_app h1, h2⟩
    · simp only [hk, if_false] at h ⊢
      exact h
  | null => exact h
  | long z => exact h
  | float z => exact h
  | double z => exact h
theorem ee_v.dbl {ns : List Int32} {as : List Nat} {ex : Nat → Nat} {k : UInt64} {v : Value} (h : ee_v ns as ex (.double k) v) : ∃ z, v = .long z := by
  unfold ee_v at h
  by_cases hk : k = 0
  · simp only [hk, if_true] at h
    exact h
  · simp only [hk, if_false] at h
    exact ⟨_, h⟩
def ee_cat (x : Value) : Nat := match x with
  | .long _ => 2
  | .double _ => 2
  | _ => 1
theorem ee_v.cat {ns : List Int32} {as : List Nat} {ex : Nat → Nat} {x v : Value} (h : ee_v ns as ex x v) : v.category = ee_cat x := by
  cases x with
  | int c => rw [show v = .int c from h]; rfl
  | retAddr k =>
    obtain ⟨z, h1, h2⟩ := h
    rw [h2]; rfl
  | ref k =>
    unfold ee_v at h
    by_cases hk : k < 1000000
    · simp only [hk, if_true] at h
      obtain ⟨a, h1, h2⟩ := h
      rw [h2]; rfl
    · simp only [hk, if_false] at h
      rw [h]; rfl
  | null => rw [show v = .null from h]; rfl
  | long z => rw [show v = .long z from h]; rfl
  | float z =>
    rcases h with h | ⟨a, h⟩ <;> (rw [h]; rfl)
  | double z =>
    obtain ⟨z, h⟩ := h.dbl
    rw [h]; rfl
/-- the bounds of an array's element -/
def ee_seg (P : Nat) (sg : List (Nat × Int × Int)) (j : Nat) : Option (Int × Int) := match sg.find? (fun s => Nat.blt (if P = 0 then j else j % P) s.1) with
  | some s => some s.2
  | none => none
def ee_sgp (P : Nat) (sg : List (Nat × Int × Int)) (j : Nat) (z : Int32) : Prop := match ee_seg P sg j with
  | some q => q.1 ≤ z.toInt ∧ z.toInt ≤ q.2
  | none => True
/-- what an array's element is -/
def ee_el (ns : List Int32) (as : List Nat) (ex : Nat → Nat) (P : Nat) (sg : List (Nat × Int × Int)) (ov : List (Nat × Value)) (j : Nat) (z : Int32) : Prop := match ov.lookup j with
  | some x => ee_v ns as ex x (.int z)
  | none => ee_sgp P sg j z
theorem ee_el.mono {ns : List Int32} {as : List Nat} {ex : Nat → Nat} {P : Nat} {sg : List (Nat × Int × Int)} {ov : List (Nat × Value)} {j : Nat} {z : Int32} (n2 : List Int32) (a2 : List Nat) (h : ee_el ns as ex P sg ov j z) : ee_el (ns ++ n2) (as ++ a2) ex P sg ov j z := by
  unfold ee_el at h ⊢
  cases hl : ov.lookup j with
  | none => rw [hl] at h; exact h
  | some x => rw [hl] at h; exact ee_v.mono n2 a2 h
/-- a formula's code: how high the pile is behind a code -/
def ee_rs (c : Int32) (h : Nat) : Option Nat := if c = 126 then (if 1 ≤ h then some h else none) else if 97 ≤ c.toInt ∧ c.toInt ≤ 122 then (if h < 60 then some (h + 1) else none) else (if 2 ≤ h then some (h - 1) else none)
def ee_rw (f : Nat → Int32) : Nat → Nat → Nat → Option Nat
  | _, 0, h => some h
  | a, n + 1, h => match ee_rs (f a) h with
    | some h' => ee_rw f (a + 1) n h'
    | none => none
/-- a formula's code from a place to another one is whole -/
def ee_rp (f : Nat → Int32) (a b : Int32) : Prop := 0 ≤ a.toInt ∧ b.toInt ≤ 1120 ∧ ∃ h, ee_rw f a.toInt.toNat (b.toInt - a.toInt).toNat 0 = some h
/-- the codes of both banks: if the told one has a formula, it is whole -/
def ee_rq (ns : List Int32) (as : List Nat) (ex : Nat → Nat) (ov : List (Nat × Value)) (f : Nat → Int32) : Prop := match ov with
  | [(_, b), (_, f0), (_, e0), (_, t0), (_, f1), (_, e1), (_, t1)] => ∃ zb a0 c0 d0 a1 c1 d1 : Int32, ee_v ns as ex b (.int zb) ∧ (ee_v ns as ex f0 (.int a0) ∧ ee_v ns as ex e0 (.int c0) ∧ ee_v ns as ex t0 (.int d0)) ∧ (ee_v ns as ex f1 (.int a1) ∧ ee_v ns as ex e1 (.int c1) ∧ ee_v ns as ex t1 (.int d1)) ∧ (zb = 0 → d0.toInt % 2 = 1 → ee_rp f a0 c0) ∧ (zb = 1 → d1.toInt % 2 = 1 → ee_rp f a1 c1)
  | _ => True
theorem ee_rq.mono {ns : List Int32} {as : List Nat} {ex : Nat → Nat} {ov : List (Nat × Value)} {f : Nat → Int32} (n2 : List Int32) (a2 : List Nat) (h : ee_rq ns as ex ov f) : ee_rq (ns ++ n2) (as ++ a2) ex ov f := by
  unfold ee_rq at h ⊢
  split at h
  · obtain ⟨zb, x0, c0, d0, x1, c1, d1, g1, ⟨g2, g3, g4⟩, ⟨g5, g6, g7⟩, g8⟩ := h
    exact ⟨zb, x0, c0, d0, x1, c1, d1, g1.mono n2 a2, ⟨g2.mono n2 a2, g3.mono n2 a2, g4.mono n2 a2⟩, ⟨g5.mono n2 a2, g6.mono n2 a2, g7.mono n2 a2⟩, g8⟩
  · trivial
def ee_c (ns : List Int32) (as : List Nat) (ex : Nat → Nat) (dA : Nat → ClassId) (x : ee_cell) (e : va_E) : Prop := match x with
  | .inl (ci, fs) => ∃ vs, e = .inr (ci, vs) ∧ ee_all (ee_v ns as ex) fs vs
  | .inr (t, n, P, sg, ov) => if t = 3 then ∃ f : Nat → Int64, e = .inl (dA 3, n, .inr (.inl f)) else if t = 4 then ∃ f : Nat → Int32, e = .inl (dA 0, n, .inl f) ∧ ee_rq ns as ex ov f else t < 3 ∧ ∃ f : Nat → Int32, e = .inl (dA t, n, .inl f) ∧ ∀ j, j < n → ee_el ns as ex P sg ov j (f j)
theorem ee_c.mono {ns : List Int32} {as : List Nat} {ex : Nat → Nat} {dA : Nat → ClassId} {x : ee_cell} {e : va_E} (n2 : List Int32) (a2 : List Nat) (h : ee_c ns as ex dA x e) : ee_c (ns ++ n2) (as ++ a2) ex dA x e := by
  match x, h with
  | .inl (ci, fs), ⟨vs, h1, h2⟩ => exact ⟨vs, h1, h2.imp (fun a b q => ee_v.mono n2 a2 q)⟩
  | .inr (t, n, P, sg, ov), h =>
    unfold ee_c at h ⊢
    by_cases ht : t = 3
    · simp only [ht, if_true] at h ⊢
      exact h
    · simp only [ht, if_false] at h ⊢
      by_cases h4 : t = 4
      · simp only [h4, if_true] at h ⊢
        obtain ⟨f, h1, h2⟩ := h
        exact ⟨f, h1, h2.mono n2 a2⟩
      · simp only [h4, if_false] at h ⊢
        obtain ⟨h0, f, h1, h2⟩ := h
        exact ⟨h0, f, h1, fun j hj => (h2 j hj).mono n2 a2⟩
/-- the cells -/
def ee_wr (ns : List Int32) (as : List Nat) (ex : Nat → Nat) (dA : Nat → ClassId) (w : ee_w) (ws : va_W) : Prop := as = ws.map (fun q => q.1) ∧ ee_all (fun x q => ee_c ns as ex dA x q.2) w ws
/-! the symbols -/
def ee_fp (ns : List Int32) (z : Int32) (f : ee_fa) : Prop := match f with
  | (0, j, d) => ∃ y, ns[j]? = some y ∧ z.toInt = y.toInt + d
  | (1, j, d) => ∃ y, ns[j]? = some y ∧ z.toInt ≤ y.toInt + d
  | (2, j, d) => ∃ y, ns[j]? = some y ∧ y.toInt + d ≤ z.toInt
  | (3, j, d) => ∃ y u, ns[j]? = some y ∧ ns[d.toNat]? = some u ∧ z = y + u
  | (4, j, d) => z.toInt % (j : Int) = d
  | (5, j, d) => ∃ y, ns[j]? = some y ∧ z.toInt + y.toInt ≤ d
  | (6, _, _) => z.toInt ≠ 0
  | _ => True
theorem ee_fp.mono {ns : List Int32} {z : Int32} {f : ee_fa} (n2 : List Int32) (h : ee_fp ns z f) : ee_fp (ns ++ n2) z f := by
  unfold ee_fp at h ⊢
  split at h
  · obtain ⟨y, h1, h2⟩ := h; exact ⟨y, ee_get_app h1, h2⟩
  · obtain ⟨y, h1, h2⟩ := h; exact ⟨y, ee_get_app h1, h2⟩
  · obtain ⟨y, h1, h2⟩ := h; exact ⟨y, ee_get_app h1, h2⟩
  · obtain ⟨y, u, h1, h2, h3⟩ := h; exact ⟨y, u, ee_get_app h1, ee_get_app h2, h3⟩
  · exact h
  · obtain ⟨y, h1, h2⟩ := h; exact ⟨y, ee_get_app h1, h2⟩
  · exact h
  · trivial
/-- what is known of a symbol holds -/
def ee_tr (ns : List Int32) (q : ee_ve) : Prop := ∃ z, ns[q.1]? = some z ∧ q.2.1 ≤ z.toInt ∧ z.toInt ≤ q.2.2.1 ∧ ∀ f ∈ q.2.2.2, ee_fp ns z f
theorem ee_tr.mono {ns : List Int32} {q : ee_ve} (n2 : List Int32) (h : ee_tr ns q) : ee_tr (ns ++ n2) q := by
  obtain ⟨z, h1, h2, h3, h4⟩ := h
  exact ⟨z, ee_get_app h1, h2, h3, fun f hf => (h4 f hf).mono n2⟩
def ee_ok (ns : List Int32) (iv : ee_iv) : Prop := iv.1 = ns.length ∧ ∀ q ∈ iv.2, ee_tr ns q
/-- one more symbol -/
def ee_ps (iv : ee_iv) (lo hi : Int) (fs : List ee_fa) : ee_iv := (iv.1 + 1, (iv.1, lo, hi, fs) :: iv.2)
theorem ee_last {ns : List Int32} (z : Int32) : (ns ++ [z])[ns.length]? = some z := by
  rw [List.getElem?_append_right (Nat.le_refl _), Nat.sub_self]; rfl
theorem ee_ok.push {ns : List Int32} {iv : ee_iv} (h : ee_ok ns iv) {z : Int32} {lo hi : Int} {fs : List ee_fa} (h1 : lo ≤ z.toInt) (h2 : z.toInt ≤ hi) (h3 : ∀ f ∈ fs, ee_fp ns z f) : ee_ok (ns ++ [z]) (ee_ps iv lo hi fs) := by
  refine ⟨by rw [List.length_append, ← h.1]; rfl, fun q hq => ?_⟩
  rcases List.mem_cons.mp hq with rfl | hq
  · exact ⟨z, by show (ns ++ [z])[iv.1]? = some z; rw [h.1]; exact ee_last z, h1, h2, fun f hf => (h3 f hf).mono [z]⟩
  · exact (h.2 q hq).mono [z]
theorem ee_ok.last {ns : List Int32} {iv : ee_iv} (h : ee_ok ns iv) (z : Int32) : (ns ++ [z])[iv.1]? = some z := by
  rw [h.1]; exact ee_last z
/-- what is known of a symbol, the newest -/
def ee_at1 (iv : ee_iv) (k : Nat) : Option ee_ve := iv.2.find? (fun q => Nat.beq q.1 k)
theorem ee_at1.ok {ns : List Int32} {iv : ee_iv} {k : Nat} {q : ee_ve} (h : ee_ok ns iv) (hq : ee_at1 iv k = some q) : ∃ z, ns[k]? = some z ∧ q.2.1 ≤ z.toInt ∧ z.toInt ≤ q.2.2.1 ∧ ∀ f ∈ q.2.2.2, ee_fp ns z f := by
  have h1 := h.2 q (List.mem_of_find?_eq_some hq)
  have h2 : Nat.beq q.1 k = true := List.find?_some (p := fun q : ee_ve => Nat.beq q.1 k) hq
  have h2 := Nat.eq_of_beq_eq_true h2
  rw [← h2]
  exact h1
/-- an int's bounds -/
def ee_it (iv : ee_iv) (x : Value) : Option (Int × Int) := match x with
  | .int c => some (c.toInt, c.toInt)
  | .retAddr k => match ee_at1 iv k with
    | some q => some (q.2.1, q.2.2.1)
    | none => none
  | _ => none
theorem ee_it.int {ns : List Int32} {as : List Nat} {ex : Nat → Nat} {iv : ee_iv} {x v : Value} {a b : Int} (hk : ee_ok ns iv) (h : ee_v ns as ex x v) (hi : ee_it iv x = some (a, b)) : ∃ z : Int32, v = .int z ∧ a ≤ z.toInt ∧ z.toInt ≤ b := by
  cases x with
  | int c =>
    cases hi
    exact ⟨c, h, Int.le_refl _, Int.le_refl _⟩
  | retAddr k =>
    obtain ⟨z, h1, h2⟩ := h
    simp only [ee_it] at hi
    cases hq : ee_at1 iv k with
    | none => rw [hq] at hi; cases hi
    | some q =>
      rw [hq] at hi
      cases hi
      obtain ⟨y, g1, g2, g3, -⟩ := ee_at1.ok hk hq
      rw [h1] at g1
      cases g1
      exact ⟨z, h2, g2, g3⟩
  | _ => cases hi
/-- an int that is known -/
def ee_cn (iv : ee_iv) (x : Value) : Option Int32 := match x with
  | .int c => some c
  | .retAddr k => match ee_at1 iv k with
    | some q => if q.2.1 = q.2.2.1 then some (Int32.ofInt q.2.1) else none
    | none => none
  | _ => none
theorem ee_cn.int {ns : List Int32} {as : List Nat} {ex : Nat → Nat} {iv : ee_iv} {x v : Value} {c : Int32} (hk : ee_ok ns iv) (h : ee_v ns as ex x v) (hi : ee_cn iv x = some c) : v = .int c := by
  cases x with
  | int d =>
    cases hi
    exact h
  | retAddr k =>
    obtain ⟨z, h1, h2⟩ := h
    simp only [ee_cn] at hi
    cases hq : ee_at1 iv k with
    | none => rw [hq] at hi; cases hi
    | some q =>
      rw [hq] at hi
      obtain ⟨y, g1, g2, g3, -⟩ := ee_at1.ok hk hq
      rw [h1] at g1
      cases g1
      by_cases e : q.2.1 = q.2.2.1
      · simp only [e, if_true] at hi
        cases hi
        rw [h2, ← show z.toInt = q.2.2.1 by omega, Int32.ofInt_toInt]
      · simp only [e, if_false] at hi
        cases hi
  | _ => cases hi
/-- closer bounds -/
def ee_put (iv : ee_iv) (x : Value) (lo hi : Int) : ee_iv := match x with
  | .retAddr k => match ee_at1 iv k with
    | some q => (iv.1, (k, lo, hi, q.2.2.2) :: iv.2)
    | none => iv
  | _ => iv
theorem ee_put.ok {ns : List Int32} {as : List Nat} {ex : Nat → Nat} {iv : ee_iv} {x : Value} {z : Int32} {lo hi : Int} (hk : ee_ok ns iv) (h : ee_v ns as ex x (.int z)) (h1 : lo ≤ z.toInt) (h2 : z.toInt ≤ hi) : ee_ok ns (ee_put iv x lo hi) := by
  cases x with
  | retAddr k =>
    obtain ⟨y, g1, g2⟩ := h
    cases g2
    simp only [ee_put]
    cases hq : ee_at1 iv k with
    | none => exact hk
    | some q =>
      refine ⟨hk.1, fun r hr => ?_⟩
      rcases List.mem_cons.mp hr with rfl | hr
      · obtain ⟨y, f1, -, -, f4⟩ := ee_at1.ok hk hq
        rw [g1] at f1
        cases f1
        exact ⟨z, g1, h1, h2, f4⟩
      · exact hk.2 r hr
  | _ => exact hk
def ee_mx (a b : Int) : Int := if a ≤ b then b else a
def ee_mn (a b : Int) : Int := if a ≤ b then a else b
theorem ee_mx_le {a b c : Int} (h1 : a ≤ c) (h2 : b ≤ c) : ee_mx a b ≤ c := by unfold ee_mx; split <;> assumption
theorem ee_le_mn {a b c : Int} (h1 : c ≤ a) (h2 : c ≤ b) : c ≤ ee_mn a b := by unfold ee_mn; split <;> assumption
/-- is one known not to be 0, and the other one 0? -/
def ee_nz (iv : ee_iv) (x y : Value) : Bool := match x, y with
  | .retAddr k, .int c => (match ee_at1 iv k with
    | some q => (match q.2.2.2 with
      | (6, _, _) :: _ => decide (c = 0)
      | _ => false)
    | none => false)
  | _, _ => false
theorem ee_nz.ok {ns : List Int32} {as : List Nat} {ex : Nat → Nat} {iv : ee_iv} {x y : Value} {p q : Int32} (hk : ee_ok ns iv) (hx : ee_v ns as ex x (.int p)) (hy : ee_v ns as ex y (.int q)) (h : ee_nz iv x y = true) : p.toInt ≠ q.toInt := by
  unfold ee_nz at h
  split at h
  · rename_i k c
    cases hq : ee_at1 iv k with
    | none => rw [hq] at h; cases h
    | some r =>
      rw [hq] at h
      simp only at h
      split at h
      · rename_i j d l hl
        have hc := of_decide_eq_true h
        subst hc
        obtain ⟨z, g1, -, -, g4⟩ := ee_at1.ok hk hq
        obtain ⟨z2, g5, g6⟩ := hx
        cases g6
        rw [g1] at g5
        cases g5
        have := g4 (6, j, d) (by rw [hl]; exact List.mem_cons_self)
        cases (show Value.int q = Value.int 0 from hy)
        rw [Int32.toInt_zero]
        exact this
      · cases h
  · cases h
/-- what the answer of a comparison says of both bounds; none: it cannot be -/
def ee_rf (c : ClassFile.Cond) (iv : ee_iv) (x y : Value) (a b d e : Int) : List ee_iv := match c with
  | .eq => if ee_nz iv x y = true then [] else if ee_mx a d ≤ ee_mn b e then [ee_put (ee_put iv x (ee_mx a d) (ee_mn b e)) y (ee_mx a d) (ee_mn b e)] else []
  | .ne => if x = y then [] else if d = e then
      (if a = d then (if b = d then [] else [ee_put iv x (a + 1) b]) else if b = d then [ee_put iv x a (b - 1)] else if a < d ∧ d < b then [ee_put iv x a (d - 1), ee_put iv x (d + 1) b] else [iv])
    else [iv]
  | .lt => if x = y then [] else if a ≤ ee_mn b (e - 1) ∧ ee_mx d (a + 1) ≤ e then [ee_put (ee_put iv x a (ee_mn b (e - 1))) y (ee_mx d (a + 1)) e] else []
  | .ge => if ee_mx a d ≤ b ∧ d ≤ ee_mn e b then [ee_put (ee_put iv x (ee_mx a d) b) y d (ee_mn e b)] else []
  | .gt => if x = y then [] else if d ≤ ee_mn e (b - 1) ∧ ee_mx a (d + 1) ≤ b then [ee_put (ee_put iv y d (ee_mn e (b - 1))) x (ee_mx a (d + 1)) b] else []
  | .le => if ee_mx d a ≤ e ∧ a ≤ ee_mn b e then [ee_put (ee_put iv y (ee_mx d a) e) x a (ee_mn b e)] else []
def ee_cd (c : ClassFile.Cond) (x y : Int) : Prop := match c with
  | .eq => x = y
  | .ne => x ≠ y
  | .lt => x < y
  | .ge => y ≤ x
  | .gt => y < x
  | .le => x ≤ y
theorem ee_v.one {ns : List Int32} {as : List Nat} {ex : Nat → Nat} {x : Value} {z y : Int32} (h : ee_v ns as ex x (.int z)) (h2 : ee_v ns as ex x (.int y)) : z = y := by
  cases x with
  | int c =>
    have e1 : Value.int z = Value.int c := h
    have e2 : Value.int y = Value.int c := h2
    cases e1; cases e2; rfl
  | retAddr k =>
    obtain ⟨q, g1, g2⟩ := h
    obtain ⟨r, g3, g4⟩ := h2
    rw [g1] at g3
    cases g3; cases g2; cases g4; rfl
  | ref k =>
    unfold ee_v at h
    by_cases hk : k < 1000000
    · simp only [hk, if_true] at h
      obtain ⟨a, h1, h2⟩ := h
      cases h2
    · simp only [hk, if_false] at h
      cases h
  | null => cases (show Value.int z = Value.null from h)
  | long q => cases (show Value.int z = Value.long q from h)
  | float q =>
    rcases h with h | ⟨a, h⟩ <;> cases h
  | double q =>
    obtain ⟨q, h⟩ := h.dbl
    cases h
theorem ee_rf.ok {ns : List Int32} {as : List Nat} {ex : Nat → Nat} {iv : ee_iv} {x y : Value} {p q : Int32} {a b d e : Int} {c : ClassFile.Cond} (hk : ee_ok ns iv) (hx : ee_v ns as ex x (.int p)) (hy : ee_v ns as ex y (.int q)) (h1 : a ≤ p.toInt) (h2 : p.toInt ≤ b) (h3 : d ≤ q.toInt) (h4 : q.toInt ≤ e) (hc : ee_cd c p.toInt q.toInt) : ∃ iv', iv' ∈ ee_rf c iv x y a b d e ∧ ee_ok ns iv' := by
  have same : x = y → p.toInt = q.toInt := fun h => by subst h; rw [ee_v.one hx hy]
  have mx : ∀ u v r : Int, u ≤ r → v ≤ r → ee_mx u v ≤ r := fun u v r => ee_mx_le
  have mn : ∀ u v r : Int, r ≤ u → r ≤ v → r ≤ ee_mn u v := fun u v r => ee_le_mn
  have one : ∀ {z : ee_iv}, ee_ok ns z → ∃ iv', iv' ∈ [z] ∧ ee_ok ns iv' := fun {z} h => ⟨z, List.mem_cons_self, h⟩
  cases c with
  | eq =>
    have hc : p.toInt = q.toInt := hc
    have e1 := mx a d p.toInt h1 (by omega)
    have e2 := mn b e p.toInt h2 (by omega)
    simp only [ee_rf]
    rw [if_neg (fun h => ee_nz.ok hk hx hy h hc), if_pos (by omega)]
    exact one (ee_put.ok (ee_put.ok hk hx e1 e2) hy (by omega) (by omega))
  | ne =>
    have hc : p.toInt ≠ q.toInt := hc
    simp only [ee_rf]
    rw [if_neg (fun h => hc (same h))]
    by_cases e1 : d = e
    · rw [if_pos e1]
      by_cases e2 : a = d
      · rw [if_pos e2]
        by_cases e3 : b = d
        · exact absurd (by omega) hc
        · rw [if_neg e3]
          exact one (ee_put.ok hk hx (by omega) h2)
      · rw [if_neg e2]
        by_cases e3 : b = d
        · rw [if_pos e3]
          exact one (ee_put.ok hk hx h1 (by omega))
        · rw [if_neg e3]
          by_cases e4 : a < d ∧ d < b
          · rw [if_pos e4]
            by_cases e5 : p.toInt < d
            · exact ⟨_, List.mem_cons_self, ee_put.ok hk hx h1 (by omega)⟩
            · exact ⟨_, List.mem_cons_of_mem _ List.mem_cons_self, ee_put.ok hk hx (by omega) h2⟩
          · rw [if_neg e4]
            exact one hk
    · rw [if_neg e1]
      exact one hk
  | lt =>
    have hc : p.toInt < q.toInt := hc
    have e1 := mn b (e - 1) p.toInt h2 (by omega)
    have e2 := mx d (a + 1) q.toInt h3 (by omega)
    simp only [ee_rf]
    rw [if_neg (fun h => by have := same h; omega), if_pos ⟨by omega, by omega⟩]
    exact one (ee_put.ok (ee_put.ok hk hx h1 e1) hy e2 h4)
  | ge =>
    have hc : q.toInt ≤ p.toInt := hc
    have e1 := mx a d p.toInt h1 (by omega)
    have e2 := mn e b q.toInt h4 (by omega)
    simp only [ee_rf]
    rw [if_pos ⟨by omega, by omega⟩]
    exact one (ee_put.ok (ee_put.ok hk hx e1 h2) hy h3 e2)
  | gt =>
    have hc : q.toInt < p.toInt := hc
    have e1 := mn e (b - 1) q.toInt h4 (by omega)
    have e2 := mx a (d + 1) p.toInt h1 (by omega)
    simp only [ee_rf]
    rw [if_neg (fun h => by have := same h; omega), if_pos ⟨by omega, by omega⟩]
    exact one (ee_put.ok (ee_put.ok hk hy h3 e1) hx e2 h2)
  | le =>
    have hc : p.toInt ≤ q.toInt := hc
    have e1 := mx d a q.toInt h3 (by omega)
    have e2 := mn b e p.toInt h2 (by omega)
    simp only [ee_rf]
    rw [if_pos ⟨by omega, by omega⟩]
    exact one (ee_put.ok (ee_put.ok hk hy e1 h4) hx h1 e2)
end
section
/-! the links of the code, each by its place in the tables -/
abbrev ee_en : Type := Nat × ClassFile.Instr × Nat × Nat × Nat × Nat × Int × Nat × Nat × Nat
def ee_FL : List (Nat × Nat × Nat × Nat × Nat × Nat) := [(8, 10, 8, 0, 512, 3), (8, 19, 8, 1, 513, 3), (8, 26, 8, 2, 514, 3), (8, 30, 8, 3, 515, 3), (8, 36, 8, 4, 516, 3), (8, 43, 8, 5, 517, 3), (8, 50, 8, 6, 518, 3), (8, 57, 8, 7, 519, 3), (8, 64, 8, 8, 520, 3), (8, 68, 8, 9, 521, 3), (8, 72, 8, 10, 522, 3), (8, 75, 8, 11, 523, 3), (8, 107, 7, 2, 171, 0), (8, 236, 7, 0, 163, 0), (8, 233, 7, 1, 168, 0), (8, 123, 6, 0, 360, 0), (8, 137, 6, 1, 363, 0), (8, 189, 6, 2, 366, 0), (8, 192, 6, 3, 368, 0), (8, 325, 0, 0, 411, 0), (8, 328, 0, 1, 413, 0), (8, 331, 2, 0, 471, 0), (8, 332, 2, 1, 473, 0), (8, 78, 5, 0, 311, 0), (8, 335, 7, 3, 177, 0), (8, 103, 3, 0, 446, 0), (8, 195, 7, 4, 180, 0), (8, 152, 6, 4, 371, 3), (8, 110, 5, 1, 314, 0), (8, 113, 5, 2, 316, 0), (8, 165, 6, 5, 374, 3), (8, 120, 7, 10, 194, 3), (8, 143, 7, 11, 198, 3), (8, 149, 7, 13, 205, 3), (8, 90, 5, 3, 318, 3), (8, 146, 7, 12, 202, 3), (0, 11, 0, 3, 415, 3), (0, 15, 0, 0, 410, 0), (0, 19, 0, 1, 412, 0), (0, 22, 0, 2, 414, 0), (1, 11, 1, 0, 431, 3), (1, 17, 1, 1, 432, 3), (2, 11, 2, 4, 476, 3), (2, 15, 2, 5, 477, 3), (2, 18, 2, 6, 478, 3), (2, 22, 2, 7, 479, 3), (2, 25, 2, 8, 480, 3), (2, 28, 2, 9, 481, 3), (2, 31, 2, 10, 482, 3), (2, 34, 2, 11, 483, 3), (2, 40, 2, 12, 484, 3), (2, 44, 2, 0, 470, 0), (2, 48, 2, 2, 474, 1), (2, 52, 2, 1, 472, 0), (2, 65, 2, 3, 475, 0), (2, 72, 7, 1, 166, 0), (2, 56, 7, 2, 172, 0), (2, 78, 6, 4, 370, 3), (2, 85, 7, 0, 161, 0), (3, 9, 3, 1, 447, 3), (3, 15, 3, 2, 448, 3), (3, 18, 3, 3, 449, 3), (3, 21, 3, 0, 445, 0), (3, 30, 3, 4, 450, 0), (3, 25, 7, 0, 159, 0), (4, 9, 4, 0, 394, 3), (4, 15, 4, 1, 395, 3), (4, 18, 4, 2, 396, 3), (4, 21, 6, 0, 359, 0), (4, 42, 7, 1, 165, 0), (4, 61, 7, 0, 160, 0), (4, 95, 7, 13, 206, 3), (4, 98, 7, 6, 185, 0), (4, 101, 7, 15, 212, 3), (4, 76, 7, 2, 173, 0), (4, 79, 7, 10, 195, 3), (4, 82, 7, 11, 199, 3), (4, 52, 6, 5, 373, 3), (4, 92, 6, 2, 365, 0), (4, 49, 6, 1, 362, 0), (5, 9, 5, 2, 315, 0), (5, 18, 5, 3, 317, 3), (5, 22, 5, 4, 319, 3), (5, 26, 5, 5, 320, 3), (5, 44, 5, 0, 312, 0), (5, 49, 5, 1, 313, 0), (5, 64, 5, 8, 323, 0), (5, 79, 5, 10, 325, 2), (5, 52, 5, 6, 321, 0), (5, 58, 5, 7, 322, 0), (5, 175, 7, 9, 192, 1), (5, 178, 7, 5, 183, 0), (5, 159, 7, 7, 188, 1), (5, 163, 7, 6, 186, 0), (5, 114, 7, 0, 162, 0), (5, 117, 7, 16, 215, 3), (5, 124, 7, 10, 196, 3), (5, 131, 7, 1, 167, 0), (5, 134, 7, 17, 217, 3), (5, 169, 7, 8, 190, 1), (5, 172, 7, 4, 179, 0), (5, 137, 7, 2, 174, 0), (5, 140, 7, 18, 219, 3), (5, 143, 7, 11, 200, 3), (5, 150, 7, 12, 203, 3), (5, 153, 7, 13, 207, 3), (5, 156, 7, 14, 210, 3), (5, 203, 7, 3, 176, 0), (5, 83, 5, 9, 324, 0), (5, 206, 7, 15, 213, 3), (6, 9, 6, 4, 369, 3), (6, 15, 6, 5, 372, 3), (6, 18, 6, 0, 358, 0), (6, 22, 6, 1, 361, 0), (6, 25, 6, 2, 364, 0), (6, 28, 7, 5, 181, 0), (6, 33, 6, 3, 367, 0), (6, 36, 7, 2, 170, 0), (6, 39, 7, 14, 209, 3), (7, 9, 7, 10, 193, 3), (7, 15, 7, 11, 197, 3), (7, 18, 7, 12, 201, 3), (7, 21, 7, 13, 204, 3), (7, 24, 7, 14, 208, 3), (7, 27, 7, 15, 211, 3), (7, 30, 7, 16, 214, 3), (7, 34, 7, 17, 216, 3), (7, 37, 7, 18, 218, 3), (7, 43, 7, 0, 158, 0), (7, 50, 7, 2, 169, 0), (7, 72, 7, 6, 184, 0), (7, 47, 7, 1, 164, 0), (7, 53, 7, 3, 175, 0), (7, 56, 7, 4, 178, 0), (7, 59, 7, 5, 182, 0), (7, 62, 7, 7, 187, 1), (7, 66, 7, 8, 189, 1), (7, 69, 7, 9, 191, 1), (9, 7, 9, 0, 1231, 3), (9, 13, 9, 1, 1232, 3), (9, 16, 9, 5, 1236, 0), (9, 20, 9, 11, 1242, 3), (9, 24, 9, 12, 1243, 3), (9, 27, 9, 13, 1244, 3), (9, 30, 9, 14, 1245, 3), (9, 33, 9, 15, 1246, 3), (9, 36, 9, 16, 1247, 3), (9, 39, 9, 17, 1248, 3), (9, 42, 9, 18, 1249, 3), (9, 45, 9, 19, 1250, 3), (9, 48, 9, 20, 1251, 3), (9, 51, 9, 21, 1252, 3), (9, 54, 9, 22, 1253, 3), (9, 57, 9, 23, 1254, 3), (9, 60, 9, 24, 1255, 3), (9, 63, 9, 25, 1256, 3), (9, 67, 9, 26, 1257, 3), (9, 70, 9, 27, 1258, 3), (9, 73, 9, 28, 1259, 3), (9, 76, 9, 29, 1260, 3), (9, 79, 9, 30, 1261, 3), (9, 82, 9, 31, 1262, 3), (9, 85, 9, 32, 1263, 3), (9, 88, 9, 42, 1273, 3), (9, 91, 9, 43, 1274, 0), (9, 94, 9, 45, 1276, 3), (9, 97, 9, 48, 1279, 3), (9, 100, 9, 49, 1280, 3), (9, 103, 9, 51, 1282, 3), (9, 106, 9, 52, 1283, 3), (9, 109, 9, 53, 1284, 3), (9, 112, 9, 54, 1285, 3), (9, 115, 9, 55, 1286, 3), (9, 118, 9, 56, 1287, 3), (9, 121, 9, 57, 1288, 3), (9, 124, 9, 58, 1289, 3), (9, 127, 9, 59, 1290, 3), (9, 130, 9, 63, 1294, 3), (9, 133, 9, 64, 1295, 3), (9, 374, 9, 46, 1277, 0), (9, 377, 9, 47, 1278, 0), (9, 380, 9, 60, 1291, 0), (9, 482, 9, 61, 1292, 0), (9, 250, 9, 2, 1233, 0), (9, 253, 9, 33, 1264, 0), (9, 383, 9, 50, 1281, 0), (9, 492, 9, 62, 1293, 0), (9, 330, 9, 39, 1270, 0), (9, 336, 9, 41, 1272, 0), (9, 342, 9, 40, 1271, 0), (9, 303, 9, 37, 1268, 0), (9, 306, 9, 36, 1267, 0), (9, 188, 9, 6, 1237, 0), (9, 244, 9, 34, 1265, 0), (9, 247, 9, 35, 1266, 0), (9, 146, 9, 4, 1235, 0), (9, 195, 9, 8, 1239, 0), (9, 202, 9, 10, 1241, 2), (9, 185, 9, 7, 1238, 0), (9, 143, 9, 3, 1234, 0), (9, 213, 9, 9, 1240, 0), (9, 398, 9, 44, 1275, 0), (9, 297, 9, 38, 1269, 0)]
def ee_SL : List (Nat × Nat × Nat × Nat) := [(14, 9, 1, 1972), (14, 15, 0, 1973)]
def ee_ZL : List (Nat × Nat × Nat × Nat) := [(14, 1053, 1, 286), (14, 38, 0, 270)]
def ee_KL : List (Nat × Nat × Int × Nat) := [(2, 55, 100000, 1146), (9, 485, 100000, 1911), (11, 110, 55232, 640), (11, 76, 56320, 644), (12, 265, 1431655765, 815), (12, 266, 858993459, 816), (12, 267, 252645135, 817)]
def ee_LL : List (Nat × Nat × Int64 × Nat) := [(5, 42, 256, 310), (9, 149, 123581014175598, 1445), (9, 153, 1935762283, 1447), (9, 155, 499967946343, 1448), (9, 165, 1935763812, 1453), (9, 167, 126917984746085, 1454), (9, 169, 1685217655, 1455), (9, 151, 7563385, 1446), (9, 157, 25209, 1449), (9, 159, 29807, 1450), (9, 161, 6844276, 1451), (9, 163, 26990, 1452), (9, 171, 113753910899827, 1456), (9, 173, 113741193899620, 1457), (9, 175, 1751474548, 1458), (9, 177, 109330362954597, 1459), (9, 179, 28530, 1460), (9, 181, 6385252, 1461), (9, 183, 7237492, 1462)]
def ee_NL : List (Nat × Nat × Nat × Nat × Nat × Nat) := [(8, 7, 5, 142, 143, 117), (8, 16, 7, 350, 149, 118), (8, 23, 6, 352, 353, 123), (8, 33, 4, 388, 389, 124), (8, 40, 0, 404, 405, 125), (8, 47, 1, 425, 426, 126), (8, 54, 3, 439, 440, 127), (8, 61, 2, 462, 463, 128), (2, 37, 6, 468, 353, 123), (5, 15, 7, 148, 149, 118), (10, 7, 8, 134, 135, 116), (10, 10, 9, 1209, 1210, 129)]
def ee_CL : List (Nat × Nat × Nat × Nat × Nat × Nat × Nat × Nat × Nat) := [(8, 9, 110, 2, 0, 144, 145, 0, 117), (8, 18, 144, 2, 0, 351, 151, 0, 118), (8, 25, 137, 2, 0, 354, 355, 0, 123), (8, 35, 98, 2, 0, 390, 391, 0, 124), (8, 42, 73, 2, 0, 406, 407, 0, 125), (8, 49, 78, 2, 0, 427, 428, 0, 126), (8, 56, 93, 2, 0, 441, 442, 0, 127), (8, 63, 82, 2, 0, 464, 465, 0, 128), (8, 126, 140, 0, 1, 764, 765, 766, 123), (8, 162, 149, 0, 1, 800, 801, 802, 118), (8, 186, 28, 0, 1, 878, 880, 30, 116), (8, 155, 30, 0, 1, 792, 794, 27, 116), (8, 253, 139, 0, 1, 962, 963, 964, 123), (8, 183, 109, 0, 3, 868, 869, 870, 124), (8, 209, 27, 1, 1, 914, 915, 0, 116), (8, 307, 90, 0, 3, 1151, 1152, 1153, 128), (8, 315, 86, 0, 1, 1182, 1183, 1184, 128), (8, 322, 81, 0, 2, 1200, 1201, 1202, 126), (8, 97, 74, 0, 1, 733, 734, 735, 125), (8, 158, 141, 0, 2, 796, 797, 798, 123), (8, 168, 101, 0, 3, 808, 809, 810, 124), (8, 178, 297, 1, 1, 859, 813, 0, 133), (8, 130, 152, 0, 1, 772, 773, 774, 118), (8, 198, 62, 0, 0, 886, 888, 31, 116), (8, 175, 75, 0, 1, 854, 855, 856, 125), (8, 134, 153, 0, 1, 776, 777, 778, 118), (8, 256, 103, 0, 2, 994, 995, 996, 124), (8, 271, 55, 0, 3, 1021, 1023, 35, 116), (8, 116, 29, 0, 1, 760, 762, 25, 116), (8, 275, 48, 0, 2, 1037, 1039, 36, 116), (8, 278, 94, 0, 1, 974, 975, 976, 127), (8, 82, 111, 0, 1, 553, 554, 555, 117), (8, 297, 92, 0, 3, 1126, 1127, 1128, 128), (8, 318, 79, 0, 2, 1191, 1192, 1193, 126), (8, 172, 31, 0, 1, 850, 852, 29, 116), (8, 140, 33, 0, 1, 784, 786, 26, 116), (8, 304, 85, 0, 1, 1142, 1143, 1144, 128), (8, 294, 97, 0, 1, 1118, 1119, 1120, 127), (8, 281, 96, 0, 2, 1049, 1050, 1051, 127), (8, 212, 146, 0, 0, 917, 769, 770, 118), (8, 239, 107, 0, 5, 941, 823, 824, 124), (8, 260, 151, 0, 1, 1010, 819, 820, 118), (8, 291, 7, 1, 2, 1111, 1112, 0, 116), (8, 288, 23, 0, 1, 1087, 1089, 39, 116), (8, 338, 18, 0, 2, 1041, 1043, 37, 116), (8, 206, 77, 0, 1, 906, 907, 908, 125), (8, 243, 57, 0, 1, 958, 960, 32, 116), (8, 246, 58, 0, 2, 966, 968, 33, 116), (8, 249, 37, 0, 2, 970, 972, 34, 116), (8, 285, 150, 0, 2, 1070, 1054, 1055, 118), (8, 215, 105, 0, 3, 918, 919, 920, 124), (8, 222, 102, 0, 2, 927, 928, 929, 124), (8, 225, 32, 1, 2, 931, 932, 0, 116), (8, 229, 8, 1, 2, 934, 935, 0, 116), (8, 263, 108, 0, 4, 1011, 828, 829, 124), (8, 267, 106, 0, 3, 1012, 833, 834, 124), (8, 219, 145, 0, 0, 923, 924, 925, 118), (8, 86, 114, 0, 0, 565, 566, 567, 117), (8, 93, 138, 0, 1, 729, 730, 731, 123), (8, 101, 80, 0, 0, 744, 745, 746, 126), (8, 106, 84, 0, 0, 748, 749, 750, 128), (8, 311, 89, 0, 2, 1174, 1175, 1176, 128), (8, 202, 76, 0, 1, 894, 895, 896, 125), (8, 301, 91, 0, 1, 1134, 1135, 1136, 128), (0, 25, 143, 0, 2, 737, 738, 739, 123), (0, 35, 142, 0, 2, 898, 899, 900, 123), (1, 21, 143, 0, 2, 1195, 738, 739, 123), (1, 25, 142, 0, 2, 1204, 899, 900, 123), (2, 39, 137, 2, 0, 469, 355, 0, 123), (2, 74, 138, 0, 1, 1159, 730, 731, 123), (2, 81, 87, 1, 3, 1160, 1161, 0, 128), (2, 88, 146, 0, 0, 1163, 769, 770, 118), (2, 92, 107, 0, 5, 1164, 823, 824, 124), (2, 98, 297, 1, 1, 1165, 813, 0, 133), (2, 61, 88, 0, 2, 1155, 1157, 40, 128), (2, 68, 83, 0, 2, 1166, 1168, 41, 128), (3, 35, 95, 0, 2, 1057, 1059, 38, 127), (3, 31, 150, 0, 2, 1053, 1054, 1055, 118), (4, 27, 297, 1, 1, 812, 813, 0, 133), (4, 33, 151, 0, 1, 818, 819, 820, 118), (4, 38, 107, 0, 5, 822, 823, 824, 124), (4, 45, 101, 0, 3, 872, 809, 810, 124), (4, 64, 146, 0, 0, 922, 769, 770, 118), (4, 104, 99, 1, 1, 836, 837, 0, 124), (4, 108, 104, 0, 1, 839, 841, 28, 124), (4, 113, 100, 1, 3, 843, 844, 0, 124), (4, 68, 141, 0, 2, 826, 797, 798, 123), (4, 72, 108, 0, 4, 827, 828, 829, 124), (4, 85, 106, 0, 3, 832, 833, 834, 124), (4, 89, 149, 0, 1, 831, 801, 802, 118), (5, 17, 144, 2, 0, 150, 151, 0, 118), (5, 32, 307, 0, 0, 262, 263, 264, 119), (5, 38, 300, 0, 1, 272, 273, 274, 119), (5, 46, 148, 0, 0, 569, 570, 571, 118), (5, 55, 129, 0, 0, 573, 575, 1, 117), (5, 61, 119, 0, 0, 645, 647, 4, 117), (5, 191, 120, 0, 1, 701, 703, 18, 117), (5, 188, 136, 0, 1, 705, 707, 19, 117), (5, 108, 128, 0, 0, 653, 655, 6, 117), (5, 127, 135, 0, 2, 669, 671, 10, 117), (5, 185, 115, 0, 1, 697, 699, 17, 117), (5, 166, 117, 0, 1, 693, 695, 16, 117), (5, 90, 121, 0, 0, 649, 651, 5, 117), (5, 93, 122, 0, 0, 673, 675, 11, 117), (5, 96, 126, 0, 0, 677, 679, 12, 117), (5, 99, 118, 0, 0, 689, 691, 15, 117), (5, 102, 123, 0, 0, 721, 723, 23, 117), (5, 105, 116, 0, 0, 725, 727, 24, 117), (5, 111, 132, 0, 1, 681, 683, 13, 117), (5, 194, 124, 0, 1, 709, 711, 20, 117), (5, 120, 134, 0, 2, 661, 663, 8, 117), (5, 197, 125, 0, 1, 713, 715, 21, 117), (5, 200, 127, 0, 1, 717, 719, 22, 117), (5, 146, 133, 0, 3, 685, 687, 14, 117), (5, 86, 112, 0, 1, 657, 659, 7, 117), (5, 67, 131, 0, 0, 577, 579, 2, 117), (5, 70, 130, 0, 0, 581, 583, 3, 117), (5, 75, 304, 0, 1, 586, 587, 588, 119), (5, 181, 113, 0, 2, 665, 667, 9, 117), (6, 48, 146, 0, 0, 768, 769, 770, 118), (7, 40, 147, 0, 0, 154, 156, 0, 118), (10, 9, 0, 2, 0, 136, 137, 0, 116), (10, 12, 155, 2, 0, 1211, 1212, 0, 129), (10, 13, 15, 0, 5, 549, 550, 551, 116), (10, 17, 188, 0, 5, 1964, 1965, 1966, 129), (10, 18, 11, 0, 1, 557, 558, 559, 116), (10, 22, 183, 0, 1, 1968, 1969, 1970, 129), (10, 23, 65, 0, 0, 561, 562, 563, 116), (10, 27, 277, 0, 0, 1427, 1428, 1429, 129), (10, 28, 13, 0, 1, 752, 753, 754, 116), (10, 31, 186, 0, 1, 1572, 1573, 1574, 129), (10, 32, 45, 0, 2, 756, 757, 758, 116), (10, 36, 248, 0, 2, 1576, 1577, 1578, 129), (10, 37, 69, 0, 2, 780, 781, 782, 116), (10, 40, 282, 0, 2, 1611, 1612, 1613, 129), (10, 41, 54, 0, 2, 788, 789, 790, 116), (10, 44, 263, 0, 2, 1623, 1624, 1625, 129), (10, 45, 72, 0, 1, 804, 805, 806, 116), (10, 48, 291, 0, 1, 1647, 1648, 1649, 129), (10, 49, 61, 0, 1, 846, 847, 848, 116), (10, 52, 272, 0, 1, 1733, 1734, 1735, 129), (10, 53, 50, 0, 1, 860, 861, 862, 116), (10, 56, 259, 0, 1, 1741, 1742, 1743, 129), (10, 57, 19, 0, 1, 864, 865, 866, 116), (10, 60, 196, 0, 1, 1745, 1746, 1747, 129), (10, 61, 46, 0, 2, 874, 875, 876, 116), (10, 64, 250, 0, 2, 1753, 1754, 1755, 129), (10, 65, 9, 0, 0, 882, 883, 884, 116), (10, 68, 175, 0, 0, 1757, 1758, 1759, 129), (10, 69, 70, 0, 0, 890, 891, 892, 116), (10, 73, 285, 0, 0, 1761, 1762, 1763, 129), (10, 74, 49, 0, 0, 902, 903, 904, 116), (10, 77, 258, 0, 0, 1769, 1770, 1771, 129), (10, 78, 68, 0, 3, 910, 911, 912, 116), (10, 82, 281, 0, 3, 1777, 1778, 1779, 129), (10, 83, 51, 0, 2, 954, 955, 956, 116), (10, 86, 260, 0, 2, 1821, 1822, 1823, 129), (10, 87, 40, 0, 0, 937, 938, 939, 116), (10, 90, 242, 0, 0, 1785, 1786, 1787, 129), (10, 91, 16, 0, 1, 978, 979, 980, 116), (10, 94, 189, 0, 1, 1840, 1841, 1842, 129), (10, 95, 59, 0, 2, 942, 943, 944, 116), (10, 98, 269, 0, 2, 1793, 1794, 1795, 129), (10, 99, 21, 0, 2, 1002, 1003, 1004, 116), (10, 102, 201, 0, 2, 1844, 1845, 1846, 129), (10, 103, 44, 0, 0, 1025, 1026, 1027, 116), (10, 106, 247, 0, 0, 1725, 1726, 1727, 129), (10, 107, 17, 0, 1, 1029, 1030, 1031, 116), (10, 110, 193, 0, 1, 1805, 1806, 1807, 129), (10, 111, 14, 0, 2, 1033, 1034, 1035, 116), (10, 114, 187, 0, 2, 1813, 1814, 1815, 129), (10, 115, 60, 0, 1, 1006, 1007, 1008, 116), (10, 118, 270, 0, 1, 1864, 1865, 1866, 129), (10, 119, 39, 0, 0, 1045, 1046, 1047, 116), (10, 122, 237, 0, 0, 1868, 1869, 1870, 129), (10, 123, 26, 0, 1, 1062, 1063, 1064, 116), (10, 126, 209, 0, 1, 1809, 1810, 1811, 129), (10, 127, 5, 0, 2, 1013, 1014, 1015, 116), (10, 130, 168, 0, 2, 1848, 1849, 1850, 129), (10, 131, 12, 0, 1, 1017, 1018, 1019, 116), (10, 134, 184, 0, 1, 1852, 1853, 1854, 129), (10, 135, 2, 0, 1, 982, 983, 984, 116), (10, 138, 157, 0, 1, 1860, 1861, 1862, 129), (10, 139, 53, 0, 2, 1066, 1067, 1068, 116), (10, 142, 262, 0, 2, 1888, 1889, 1890, 129), (10, 143, 34, 0, 2, 1071, 1072, 1073, 116), (10, 146, 228, 0, 2, 1677, 1678, 1679, 129), (10, 147, 10, 0, 0, 1075, 1076, 1077, 116), (10, 150, 180, 0, 0, 1681, 1682, 1683, 129), (10, 151, 63, 0, 1, 946, 947, 948, 116), (10, 154, 274, 0, 1, 1797, 1798, 1799, 129), (10, 155, 64, 0, 1, 950, 951, 952, 116), (10, 158, 275, 0, 1, 1801, 1802, 1803, 129), (10, 159, 24, 0, 0, 986, 987, 988, 116), (10, 162, 204, 0, 0, 1693, 1694, 1695, 129), (10, 163, 66, 0, 0, 990, 991, 992, 116), (10, 166, 278, 0, 0, 1697, 1698, 1699, 129), (10, 167, 22, 0, 0, 1091, 1092, 1093, 116), (10, 170, 203, 0, 0, 1689, 1690, 1691, 129), (10, 171, 6, 0, 0, 1079, 1080, 1081, 116), (10, 174, 173, 0, 0, 1685, 1686, 1687, 129), (10, 175, 47, 0, 0, 1083, 1084, 1085, 116), (10, 178, 253, 0, 0, 1884, 1885, 1886, 129), (10, 179, 41, 0, 0, 1095, 1096, 1097, 116), (10, 182, 243, 0, 0, 1713, 1714, 1715, 129), (10, 183, 56, 0, 0, 1099, 1100, 1101, 116), (10, 186, 268, 0, 0, 1709, 1710, 1711, 129), (10, 187, 36, 0, 2, 998, 999, 1000, 116), (10, 190, 232, 0, 2, 1729, 1730, 1731, 129), (10, 191, 42, 0, 0, 1103, 1104, 1105, 116), (10, 194, 244, 0, 0, 1717, 1718, 1719, 129), (10, 195, 43, 0, 2, 1107, 1108, 1109, 116), (10, 198, 246, 0, 2, 1892, 1893, 1894, 129), (10, 199, 38, 0, 1, 1114, 1115, 1116, 116), (10, 202, 236, 0, 1, 1773, 1774, 1775, 129), (10, 203, 20, 0, 3, 1122, 1123, 1124, 116), (10, 207, 197, 0, 3, 1899, 1900, 1901, 129), (10, 208, 71, 0, 1, 1130, 1131, 1132, 116), (10, 212, 287, 0, 1, 1903, 1904, 1905, 129), (10, 213, 35, 0, 1, 1138, 1139, 1140, 116), (10, 216, 231, 0, 1, 1907, 1908, 1909, 129), (10, 217, 52, 0, 1, 1147, 1148, 1149, 116), (10, 220, 261, 0, 1, 1912, 1913, 1914, 129), (10, 221, 67, 0, 2, 1170, 1171, 1172, 116), (10, 224, 279, 0, 2, 1940, 1941, 1942, 129), (10, 225, 3, 0, 2, 1178, 1179, 1180, 116), (10, 228, 161, 0, 2, 1944, 1945, 1946, 129), (10, 229, 25, 0, 1, 1187, 1188, 1189, 116), (10, 232, 205, 0, 1, 1952, 1953, 1954, 129), (10, 233, 4, 0, 1, 1196, 1197, 1198, 116), (10, 236, 163, 0, 1, 1956, 1957, 1958, 129), (10, 237, 1, 0, 1, 1205, 1206, 1207, 116), (10, 240, 156, 0, 1, 1960, 1961, 1962, 129), (9, 137, 172, 0, 0, 1215, 1217, 42, 129), (9, 140, 276, 0, 0, 1219, 1221, 43, 129), (9, 368, 238, 0, 0, 1227, 1229, 45, 129), (9, 358, 190, 0, 0, 1584, 1586, 74, 129), (9, 365, 164, 0, 0, 1631, 1633, 83, 129), (9, 416, 229, 0, 0, 1599, 1601, 77, 129), (9, 348, 198, 0, 1, 1643, 1645, 86, 129), (9, 422, 224, 0, 1, 1615, 1617, 80, 129), (9, 386, 223, 0, 1, 1639, 1641, 85, 129), (9, 458, 227, 0, 0, 1828, 1830, 101, 129), (9, 440, 194, 0, 1, 1749, 1751, 96, 129), (9, 464, 169, 0, 0, 1836, 1838, 103, 129), (9, 233, 225, 0, 1, 1481, 1483, 51, 129), (9, 236, 241, 0, 1, 1512, 1514, 58, 129), (9, 240, 245, 0, 2, 1516, 1518, 59, 129), (9, 486, 200, 0, 0, 1924, 1926, 110, 129), (9, 455, 251, 1, 2, 1825, 1826, 0, 129), (9, 361, 214, 1, 3, 1588, 1589, 0, 129), (9, 504, 234, 0, 1, 1916, 1918, 108, 129), (9, 508, 240, 0, 2, 1948, 1950, 114, 129), (9, 333, 202, 0, 1, 1619, 1621, 81, 129), (9, 339, 167, 1, 1, 1671, 1672, 0, 129), (9, 345, 206, 0, 1, 1635, 1637, 84, 129), (9, 324, 254, 0, 0, 1564, 1566, 71, 129), (9, 327, 210, 0, 0, 1568, 1570, 72, 129), (9, 230, 239, 0, 0, 1488, 1490, 52, 129), (9, 321, 182, 0, 2, 1556, 1558, 69, 129), (9, 191, 271, 0, 1, 1435, 1437, 47, 129), (9, 309, 252, 0, 2, 1540, 1542, 65, 129), (9, 227, 195, 0, 0, 1431, 1433, 46, 129), (9, 287, 222, 0, 1, 1548, 1550, 67, 129), (9, 425, 220, 0, 1, 1627, 1629, 82, 129), (9, 407, 292, 0, 1, 1651, 1653, 87, 129), (9, 389, 192, 0, 1, 1595, 1597, 76, 129), (9, 413, 170, 0, 1, 1591, 1593, 75, 129), (9, 198, 217, 1, 1, 1439, 1440, 0, 129), (9, 351, 162, 0, 2, 1667, 1669, 91, 129), (9, 354, 284, 1, 3, 1674, 1675, 0, 129), (9, 437, 226, 0, 0, 1737, 1739, 95, 129), (9, 434, 273, 0, 0, 1721, 1723, 94, 129), (9, 259, 166, 1, 2, 1485, 1486, 0, 129), (9, 392, 288, 0, 1, 1607, 1609, 79, 129), (9, 419, 283, 0, 1, 1603, 1605, 78, 129), (9, 223, 213, 0, 0, 1469, 1471, 48, 129), (9, 312, 286, 0, 0, 1544, 1546, 66, 129), (9, 315, 165, 0, 0, 1560, 1562, 70, 129), (9, 428, 160, 0, 0, 1701, 1703, 92, 129), (9, 431, 266, 0, 1, 1705, 1707, 93, 129), (9, 467, 171, 0, 2, 1856, 1858, 104, 129), (9, 410, 219, 0, 1, 1580, 1582, 73, 129), (9, 449, 267, 0, 1, 1789, 1791, 99, 129), (9, 452, 290, 0, 2, 1817, 1819, 100, 129), (9, 219, 185, 0, 2, 1492, 1494, 53, 129), (9, 206, 215, 1, 1, 1442, 1443, 0, 129), (9, 210, 211, 1, 1, 1463, 1464, 0, 129), (9, 216, 221, 1, 1, 1466, 1467, 0, 129), (9, 395, 177, 0, 1, 1659, 1661, 89, 129), (9, 401, 174, 0, 0, 1663, 1665, 90, 129), (9, 470, 207, 0, 3, 1876, 1878, 106, 129), (9, 473, 179, 0, 2, 1880, 1882, 107, 129), (9, 371, 235, 0, 0, 1223, 1225, 44, 129), (9, 489, 265, 0, 2, 1928, 1930, 111, 129), (9, 495, 233, 0, 0, 1920, 1922, 109, 129), (9, 498, 159, 0, 0, 1932, 1934, 112, 129), (9, 501, 178, 0, 2, 1936, 1938, 113, 129), (9, 476, 218, 0, 2, 1872, 1874, 105, 129), (9, 479, 176, 1, 2, 1896, 1897, 0, 129), (9, 290, 199, 0, 3, 1500, 1502, 55, 129), (9, 263, 212, 0, 0, 1477, 1479, 50, 129), (9, 266, 249, 0, 0, 1496, 1498, 54, 129), (9, 270, 191, 0, 1, 1504, 1506, 56, 129), (9, 274, 158, 0, 3, 1508, 1510, 57, 129), (9, 278, 264, 0, 0, 1520, 1522, 60, 129), (9, 281, 257, 0, 0, 1524, 1526, 61, 129), (9, 284, 256, 0, 0, 1532, 1534, 63, 129), (9, 300, 181, 0, 0, 1536, 1538, 64, 129), (9, 294, 230, 0, 1, 1528, 1530, 62, 129), (9, 443, 280, 0, 0, 1765, 1767, 97, 129), (9, 461, 208, 0, 3, 1832, 1834, 102, 129), (9, 446, 293, 0, 2, 1781, 1783, 98, 129), (9, 404, 216, 0, 2, 1655, 1657, 88, 129), (9, 256, 255, 0, 0, 1473, 1475, 49, 129), (9, 318, 289, 0, 0, 1552, 1554, 68, 129), (14, 492, 306, 0, 0, 276, 277, 278, 119), (14, 495, 309, 1, 2, 280, 281, 0, 120), (14, 1062, 312, 1, 4, 625, 626, 0, 121), (14, 1059, 313, 1, 3, 288, 289, 0, 121), (14, 633, 305, 0, 2, 590, 591, 592, 119), (14, 505, 307, 0, 0, 594, 263, 264, 119), (14, 637, 310, 1, 4, 595, 596, 0, 120), (14, 335, 303, 0, 0, 266, 267, 268, 119), (15, 9, 302, 1, 2, 283, 284, 0, 119), (15, 88, 308, 1, 1, 598, 599, 0, 120), (15, 95, 311, 1, 4, 607, 608, 0, 120)]
def ee_OL : List (Nat × Nat × Nat) := [(8, 1, 139), (0, 3, 409), (1, 3, 430), (2, 5, 467), (3, 3, 444), (4, 3, 393), (5, 3, 147), (6, 3, 357), (7, 3, 153), (9, 1, 1214)]
def ee_AL : List (Nat × Nat × Nat) := [(3, 39, 1061), (6, 42, 741)]
def ee_XL : List (Nat × Nat × Nat × Nat) := [(0, 29, 3, 858), (2, 104, 4, 1186), (4, 55, 3, 873), (15, 92, 4, 601), (15, 38, 3, 604)]
def ee_ow (i : Nat) : String := ee_own.getD i ""
def ee_tc (ty : FieldType) : Nat := match ty with
  | .int => 0
  | .boolean => 1
  | .long => 2
  | .object _ => 3
  | .array _ => 3
  | _ => 9
theorem ee_FLok : ∀ q ∈ ee_FL, ∃ r : vw_C, vwCl[q.2.2.1]? = some r ∧ q.2.2.2.1 < r.2.2 ∧ Cond.fieldLink (ee_ow q.1) q.2.1 (r.2.1 q.2.2.2.1).1 (r.2.1 q.2.2.2.1).2.1 (r.2.1 q.2.2.2.1).2.2.1 ∈ ee_tbl ∧ ∃ ty, parseFieldDescriptor (r.2.1 q.2.2.2.1).2.2.1 = some ty ∧ ee_tc ty = q.2.2.2.2.2 := by
  intro q hq
  have h : ee_FL.all (fun q => match vwCl[q.2.2.1]? with
    | some r => decide (q.2.2.2.1 < r.2.2) && (ee_at q.2.2.2.2.1 (.fieldLink (ee_ow q.1) q.2.1 (r.2.1 q.2.2.2.1).1 (r.2.1 q.2.2.2.1).2.1 (r.2.1 q.2.2.2.1).2.2.1) && (match parseFieldDescriptor (r.2.1 q.2.2.2.1).2.2.1 with
      | some ty => decide (ee_tc ty = q.2.2.2.2.2)
      | none => false))
    | none => false) = true := by decide +kernel
  have h := List.all_eq_true.mp h q hq
  cases hr : vwCl[q.2.2.1]? with
  | none => rw [hr] at h; cases h
  | some r =>
    rw [hr] at h
    have h := Bool.and_eq_true_iff.mp h
    have h2 := Bool.and_eq_true_iff.mp h.2
    refine ⟨r, rfl, of_decide_eq_true h.1, ee_at.mem h2.1, ?_⟩
    cases hp : parseFieldDescriptor (r.2.1 q.2.2.2.1).2.2.1 with
    | none => have h3 := h2.2; rw [hp] at h3; cases h3
    | some ty => have h3 := h2.2; rw [hp] at h3; exact ⟨ty, rfl, of_decide_eq_true h3⟩
def ee_sf (i : Nat) : String × String := if i = 0 then ("coder", "B") else ("value", "[B")
theorem ee_SLok : ∀ q ∈ ee_SL, Cond.fieldLink (ee_ow q.1) q.2.1 "java/lang/String" (ee_sf q.2.2.1).1 (ee_sf q.2.2.1).2 ∈ ee_tbl := by
  intro q hq
  have h : ee_SL.all (fun q => ee_at q.2.2.2 (.fieldLink (ee_ow q.1) q.2.1 "java/lang/String" (ee_sf q.2.2.1).1 (ee_sf q.2.2.1).2)) = true := by decide +kernel
  exact ee_at.mem (List.all_eq_true.mp h q hq)
def ee_zf (i : Nat) : String × String × String := if i = 0 then ("java/lang/String", "COMPACT_STRINGS", "Z") else ("jdk/internal/util/Preconditions", "SIOOBE_FORMATTER", "Ljava/util/function/BiFunction;")
theorem ee_ZLok : ∀ q ∈ ee_ZL, Cond.fieldLink (ee_ow q.1) q.2.1 (ee_zf q.2.2.1).1 (ee_zf q.2.2.1).2.1 (ee_zf q.2.2.1).2.2 ∈ ee_tbl := by
  intro q hq
  have h : ee_ZL.all (fun q => ee_at q.2.2.2 (.fieldLink (ee_ow q.1) q.2.1 (ee_zf q.2.2.1).1 (ee_zf q.2.2.1).2.1 (ee_zf q.2.2.1).2.2)) = true := by decide +kernel
  exact ee_at.mem (List.all_eq_true.mp h q hq)
theorem ee_KLok : ∀ q ∈ ee_KL, Cond.constant (ee_ow q.1) q.2.1 (Int32.ofInt q.2.2.1) ∈ ee_tbl := by
  intro q hq
  have h : ee_KL.all (fun q => ee_at q.2.2.2 (.constant (ee_ow q.1) q.2.1 (Int32.ofInt q.2.2.1))) = true := by decide +kernel
  exact ee_at.mem (List.all_eq_true.mp h q hq)
theorem ee_LLok : ∀ q ∈ ee_LL, Cond.constantLong (ee_ow q.1) q.2.1 q.2.2.1 ∈ ee_tbl := by
  intro q hq
  have h : ee_LL.all (fun q => ee_at q.2.2.2 (.constantLong (ee_ow q.1) q.2.1 q.2.2.1)) = true := by decide +kernel
  exact ee_at.mem (List.all_eq_true.mp h q hq)
theorem ee_NLok : ∀ q ∈ ee_NL, ∃ r : vw_C, vwCl[q.2.2.1]? = some r ∧ Cond.classLink (ee_ow q.1) q.2.1 r.1 ∈ ee_tbl ∧ Cond.instantiable r.1 r.2.2 ∈ ee_tbl ∧ Cond.initialized r.1 ∈ ee_tbl := by
  intro q hq
  have h : ee_NL.all (fun q => match vwCl[q.2.2.1]? with
    | some r => ee_at q.2.2.2.1 (.classLink (ee_ow q.1) q.2.1 r.1) && (ee_at q.2.2.2.2.1 (.instantiable r.1 r.2.2) && ee_at q.2.2.2.2.2 (.initialized r.1))
    | none => false) = true := by decide +kernel
  have h := List.all_eq_true.mp h q hq
  cases hr : vwCl[q.2.2.1]? with
  | none => rw [hr] at h; cases h
  | some r =>
    rw [hr] at h
    have h := Bool.and_eq_true_iff.mp h
    have h2 := Bool.and_eq_true_iff.mp h.2
    exact ⟨r, rfl, ee_at.mem h.1, ee_at.mem h2.1, ee_at.mem h2.2⟩
theorem ee_OLok : ∀ q ∈ ee_OL, Cond.methodLink (ee_ow q.1) q.2.1 objectInit ∈ ee_tbl := by
  intro q hq
  have h : ee_OL.all (fun q => ee_at q.2.2 (.methodLink (ee_ow q.1) q.2.1 objectInit)) = true := by decide +kernel
  exact ee_at.mem (List.all_eq_true.mp h q hq)
theorem ee_ALok : ∀ q ∈ ee_AL, Cond.methodLink (ee_ow q.1) q.2.1 arraycopyName ∈ ee_tbl := by
  intro q hq
  have h : ee_AL.all (fun q => ee_at q.2.2 (.methodLink (ee_ow q.1) q.2.1 arraycopyName)) = true := by decide +kernel
  exact ee_at.mem (List.all_eq_true.mp h q hq)
theorem ee_obj : Cond.instanceMethod objectInit ∈ ee_tbl ∧ Cond.code objectInit ⟨#[0xb1]⟩ 1 none ∈ ee_tbl := ⟨ee_at.mem (i := 140) (by decide +kernel), ee_at.mem (i := 141) (by decide +kernel)⟩
theorem ee_cpy : Cond.native arraycopyName ∈ ee_tbl ∧ Cond.static arraycopyName ∈ ee_tbl ∧ Cond.initialized "java/lang/System" ∈ ee_tbl := ⟨ee_at.mem (i := 743) (by decide +kernel), ee_at.mem (i := 742) (by decide +kernel), ee_at.mem (i := 132) (by decide +kernel)⟩
def ee_mname (k : Nat) : MethodName := if k = 3 then Lib.Math.min.name else Lib.Math.max.name
theorem ee_XLok : ∀ q ∈ ee_XL, Cond.methodLink (ee_ow q.1) q.2.1 (ee_mname q.2.2.1) ∈ ee_tbl := by
  intro q hq
  have h : ee_XL.all (fun q => ee_at q.2.2.2 (.methodLink (ee_ow q.1) q.2.1 (ee_mname q.2.2.1))) = true := by decide +kernel
  exact ee_at.mem (List.all_eq_true.mp h q hq)
theorem ee_math : Cond.static Lib.Math.min.name ∈ ee_tbl ∧ Cond.code Lib.Math.min.name Lib.Math.min.code 2 (some .int) ∈ ee_tbl ∧ Cond.static Lib.Math.max.name ∈ ee_tbl ∧ Cond.code Lib.Math.max.name Lib.Math.max.code 2 (some .int) ∈ ee_tbl ∧ Cond.initialized "java/lang/Math" ∈ ee_tbl := ⟨ee_at.mem (i := 605) (by decide +kernel), ee_at.mem (i := 606) (by decide +kernel), ee_at.mem (i := 602) (by decide +kernel), ee_at.mem (i := 603) (by decide +kernel), ee_at.mem (i := 130) (by decide +kernel)⟩
theorem ee_arr : Cond.arrayClass .int ∈ ee_tbl ∧ Cond.arrayClass .byte ∈ ee_tbl ∧ Cond.arrayClass .boolean ∈ ee_tbl ∧ Cond.arrayClass .long ∈ ee_tbl := ⟨ee_at.mem (i := 259) (by decide +kernel), ee_at.mem (i := 349) (by decide +kernel), ee_at.mem (i := 438) (by decide +kernel), ee_at.mem (i := 260) (by decide +kernel)⟩
/-- a final field is put -/
def ee_ini (e : ee_en) : Bool := match e.2.1 with
  | .putfield _ => (match ee_FL[e.2.2.2.2.1]? with
      | some q => (match vwCl[q.2.2.1]? with
        | some r => (r.2.1 q.2.2.2.1).2.2.2
        | none => false)
      | none => false)
  | _ => false
/-- an entry of the code: its links are those of its own file -/
def ee_eok (oc : Nat) (e : ee_en) : Bool := match e with
  | (_, ins, _, _, ea, eb, ez, qa, qb, qc) => match ins with
    | .getfield i => if eb = 0 then (match ee_FL[ea]? with
        | some q => decide (q.1 = oc) && (decide (q.2.1 = i) && (decide (q.2.2.1 = qa) && (decide (q.2.2.2.1 = qb) && decide (q.2.2.2.2.2 = qc))))
        | none => false) else (match ee_SL[ea]? with
        | some q => decide (q.1 = oc) && (decide (q.2.1 = i) && decide (q.2.2.1 = qa))
        | none => false)
    | .putfield i => (match ee_FL[ea]? with
        | some q => decide (q.1 = oc) && (decide (q.2.1 = i) && ((decide (q.2.2.1 = qa) && (decide (q.2.2.2.1 = qb) && decide (q.2.2.2.2.2 = qc))) && (!ee_ini e || decide (q.2.2.1 = oc))))
        | none => false)
    | .getstatic i => if eb = 0 then (match ee_ZL[ea]? with
        | some q => decide (q.1 = oc) && (decide (q.2.1 = i) && decide (q.2.2.1 = qa))
        | none => false) else true
    | .ldc i => if eb = 0 then (match ee_KL[ea]? with
        | some q => decide (q.1 = oc) && (decide (q.2.1 = i) && decide (q.2.2.1 = ez))
        | none => false) else if eb = 1 then decide (oc = 5) && (decide (ea < 2) && decide (ee_six.getD ea 0 = i)) else true
    | .ldc_w i => if eb = 0 then (match ee_KL[ea]? with
        | some q => decide (q.1 = oc) && (decide (q.2.1 = i) && decide (q.2.2.1 = ez))
        | none => false) else true
    | .ldc2_w i => (match ee_LL[ea]? with
        | some q => decide (q.1 = oc) && (decide (q.2.1 = i) && decide (q.2.2.1 = Int64.ofInt ez))
        | none => false)
    | .new i => (match ee_NL[ea]? with
        | some q => decide (q.1 = oc) && (decide (q.2.1 = i) && decide (q.2.2.1 = qa))
        | none => false)
    | .invokespecial i => if eb = 0 then (match ee_CL[ea]? with
        | some q => decide (q.1 = oc) && (decide (q.2.1 = i) && (decide (q.2.2.2.1 = 2) && (decide (q.2.2.1 = qa) && (decide (q.2.2.2.1 = qb) && decide (q.2.2.2.2.1 = qc)))))
        | none => false) else if eb = 1 then (match ee_OL[ea]? with
        | some q => decide (q.1 = oc) && decide (q.2.1 = i)
        | none => false) else true
    | .invokevirtual i => if eb = 0 then (match ee_CL[ea]? with
        | some q => decide (q.1 = oc) && (decide (q.2.1 = i) && (decide (q.2.2.2.1 = 0) && (decide (q.2.2.1 = qa) && (decide (q.2.2.2.1 = qb) && decide (q.2.2.2.2.1 = qc)))))
        | none => false) else true
    | .invokestatic i => if eb = 0 then (match ee_CL[ea]? with
        | some q => decide (q.1 = oc) && (decide (q.2.1 = i) && (decide (q.2.2.2.1 = 1) && (decide (q.2.2.1 = qa) && (decide (q.2.2.2.1 = qb) && decide (q.2.2.2.2.1 = qc)))))
        | none => false) else if eb = 2 then (match ee_AL[ea]? with
        | some q => decide (q.1 = oc) && decide (q.2.1 = i)
        | none => false) else if eb = 3 ∨ eb = 4 then (match ee_XL[ea]? with
        | some q => decide (q.1 = oc) && (decide (q.2.1 = i) && decide (q.2.2.1 = eb))
        | none => false) else true
    | _ => true
end
section
/-! the walker's frame: what holds while a method is walked -/
/-- program, launch, environment, room, start, method, arguments, frames below, method, code -/
abbrev ee_cx : Type := Program × Launch × Env × Room × State × MethodId × Array Value × List Frame × Method × Code
/-- which cells may change, numbers of the kinds, kinds of arrays, addresses outside, the first symbols, the first cells, the callers' values, how many locals -/
abbrev ee_cy : Type := (Nat → Prop) × va_G × (Nat → ClassId) × (Nat → Nat) × List Int32 × List Nat × List Value × Nat
def ee_lr (ns : List Int32) (as : List Nat) (ex : Nat → Nat) (a b : Nat × Value) : Prop := a.1 = b.1 ∧ ee_v ns as ex a.2 b.2
def ee_Wd (s : State) (A : Nat → Prop) (D : va_G) (dA : Nat → ClassId) (ex : Nat → Nat) (ns : List Int32) (as : List Nat) (w : ee_w) (H : Heap) (lc : List Loc) : Prop :=
  ∃ ws, ee_wr ns as ex dA w ws ∧ va_P D vwCl ws H ∧ va_D A ws ∧ va_S A s.heap H lc
def ee_Con (s : State) (A : Nat → Prop) (D : va_G) (dA : Nat → ClassId) (ex : Nat → Nat) (x0 : List Int32) (a0 : List Nat) (sv0 : List Value) (nL : Nat) (lo : List (Nat × Value)) (stk : List Value) (w : ee_w) (iv : ee_iv) (sv : List Value)
    (ns : List Int32) (as : List Nat) (H : Heap) (lc : List Loc) (ls : Array Slot) (vs : List Value) : Prop :=
  ee_ok ns iv ∧ ((∃ r, ns = x0 ++ r) ∧ ∃ r, as = a0 ++ r) ∧ (∃ lv, lv_has ls nL lv ∧ ee_all (ee_lr ns as ex) lo lv) ∧ ee_all (ee_v ns as ex) stk vs ∧ ee_all (ee_v ns as ex) sv sv0 ∧ ee_Wd s A D dA ex ns as w H lc
/-- the goal at a state: from all that it stands for the machine comes to Q -/
def ee_G (X : ee_cx) (Y : ee_cy) (Q : State → Prop) (st : ee_st) : Prop := match X, Y, st with
  | (p, l, e, R, s, m, args, below, meth, c), (A, D, dA, ex, x0, a0, sv0, nL), (pc, lo, stk, w, iv, kc, ks, sv) =>
    ∀ (ns : List Int32) (as : List Nat) (H : Heap) (lc : List Loc) (ls : Array Slot) (vs : List Value), ee_Con s A D dA ex x0 a0 sv0 nL lo stk w iv sv ns as H lc ls vs → W p l e R s m args below meth c H lc kc ks Q (F0 m pc ls vs)
abbrev ee_tys (dA : Nat → ClassId) : List (ClassId × FieldType) := [(dA 0, .int), (dA 1, .byte), (dA 2, .boolean), (dA 3, .long)]
/-- what lies outside: the texts, two statics -/
def ee_Ext (s : State) (A : Nat → Prop) (ex : Nat → Nat) : Prop :=
  vk_S 2 ee_len ee_byt (fun i => ex (1000000 + i)) (fun i => ex (1000100 + i)) A s s.heap ∧ (∀ i, i < 2 → vk_R RX5 (ee_six.getD i 0) (ee_stx.getD i "") (ex (1000000 + i)) s) ∧
  va_Z "java/lang/String" "COMPACT_STRINGS" "Z" (.int 1) A s s.heap ∧ va_Zq "jdk/internal/util/Preconditions" "SIOOBE_FORMATTER" "Ljava/util/function/BiFunction;" A s s.heap
/-- the law's script: its length, a place in it, the six numbers there -/
def ee_Scr (s : State) (A : Nat → Prop) (ex : Nat → Nat) (x0 : List Int32) : Prop :=
  ∃ (L i : Nat) (xs : Nat → Int32), va_X (ex 2000000) L xs s s.heap ∧ ex 2000000 < s.heap.size ∧ ¬ A (ex 2000000) ∧ L ≤ 3072 ∧ x0[0]? = some (nI i) ∧ x0[1]? = some (nI L) ∧ i + 6 ≤ L ∧ ∀ d, d < 6 → x0[2 + d]? = some (xs (i + d))
/-- what holds at a method's entry and stays -/
def ee_F (X : ee_cx) (Y : ee_cy) (own : String) (cc : ByteArray) (Ts : List Cond) (ini : Prop) (dm bc bs : Nat) : Prop := match X, Y with
  | (p, _, _, R, s, m, args, _, meth, c), (A, D, dA, ex, _, _, _, nL) =>
    p.tables.exec = Jvm.exec ∧ c.code = cc ∧ c.maxLocals = nL ∧ s.vm.findClass own = some m.cls ∧ (∀ w ∈ Ts, w.before args s = true) ∧ va_K D vwCl (ee_tys dA) s ∧ (∀ q, s.heap.size ≤ q → A q) ∧ (ini → meth.name = "<init>") ∧
    (dm ≤ R.frames ∧ 64 * dm ≤ R.locals ∧ bc ≤ R.cells ∧ bs ≤ R.slots) ∧ ee_Ext s A ex
/-- one more symbol -/
theorem ee_Con.grow {s : State} {A : Nat → Prop} {D : va_G} {dA : Nat → ClassId} {ex : Nat → Nat} {x0 : List Int32} {a0 : List Nat} {sv0 : List Value} {nL : Nat} {lo : List (Nat × Value)} {stk : List Value} {w : ee_w} {iv : ee_iv} {sv : List Value} {ns : List Int32} {as : List Nat} {H : Heap} {lc : List Loc} {ls : Array Slot} {vs : List Value}
    (h : ee_Con s A D dA ex x0 a0 sv0 nL lo stk w iv sv ns as H lc ls vs) {z : Int32} {a b : Int} {fs : List ee_fa} (h1 : a ≤ z.toInt) (h2 : z.toInt ≤ b) (h3 : ∀ f ∈ fs, ee_fp ns z f) :
    ee_Con s A D dA ex x0 a0 sv0 nL lo stk w (ee_ps iv a b fs) sv (ns ++ [z]) as H lc ls vs := by
  obtain ⟨hk, ⟨⟨r, hr⟩, ha0⟩, ⟨lv, hl, hll⟩, hs, hv, ws, ⟨ha, hw⟩, hP, hD, hS⟩ := h
  have mv : ∀ x v, ee_v ns as ex x v → ee_v (ns ++ [z]) as ex x v := fun x v q => by simpa using ee_v.mono [z] [] q
  refine ⟨hk.push h1 h2 h3, ⟨⟨r ++ [z], by rw [hr, List.append_assoc]⟩, ha0⟩, ⟨lv, hl, hll.imp (fun a b q => ⟨q.1, mv _ _ q.2⟩)⟩, hs.imp mv, hv.imp mv, ws, ⟨ha, hw.imp (fun x q g => by simpa using ee_c.mono [z] [] g)⟩, hP, hD, hS⟩
theorem ee_look {ns : List Int32} {as : List Nat} {ex : Nat → Nat} {i : Nat} {x : Value} : ∀ {lo lv : List (Nat × Value)}, ee_all (ee_lr ns as ex) lo lv → lo.lookup i = some x → ∃ v, (i, v) ∈ lv ∧ ee_v ns as ex x v
  | [], [], _, h => by simp at h
  | (a, y) :: lo, (b, u) :: lv, q, h => by
    rw [List.lookup_cons] at h
    obtain ⟨⟨q1, q2⟩, q3⟩ := q
    by_cases e : i = a
    · simp only [e, beq_self_eq_true] at h
      cases h
      refine ⟨u, ?_, q2⟩
      rw [e, show a = b from q1]
      exact List.mem_cons_self
    · have e' : (i == a) = false := by simpa using e
      rw [e'] at h
      obtain ⟨v, h1, h2⟩ := ee_look q3 h
      exact ⟨v, List.mem_cons_of_mem _ h1, h2⟩
  | [], _ :: _, q, _ => q.elim
  | _ :: _, [], q, _ => q.elim
theorem ee_no {α : Type} {x : α} {P : Prop} (h : (none : Option α) = some x) : P := by cases h
def ee_nx {α : Type} (n k : Nat) (r : α) : Option α := if n = k then some r else none
theorem ee_nx_some {α : Type} {n k : Nat} {r q : α} (h : ee_nx n k r = some q) : n = k ∧ r = q := by
  unfold ee_nx at h
  by_cases e : n = k
  · rw [if_pos e] at h
    cases h
    exact ⟨e, rfl⟩
  · rw [if_neg e] at h
    cases h
/-- a handler of instructions: how many locals, room for cells and slots, the entry, the state -/
abbrev ee_H : Type := Nat → Nat → Nat → ee_en → ee_st → Option (List ee_st)
def ee_Snd (h : ee_H) : Prop := ∀ (X : ee_cx) (Y : ee_cy) (oc : Nat) (own : String) (cc : ByteArray) (ini : Prop) (dm bc bs : Nat) (Q : State → Prop) (e : ee_en) (st : ee_st) (sts : List ee_st), ee_F X Y own cc ee_tbl ini (dm + 1) bc bs → ee_own[oc]? = some own → (ee_ini e = true → ini) → decode cc e.1 = .ok (e.2.1, e.2.2.1) → ee_eok oc e = true → st.1 = e.1 → h Y.2.2.2.2.2.2.2 bc bs e st = some sts → (∀ q ∈ sts, ee_G X Y Q q) → ee_G X Y Q st
/-- numbers pushed -/
def ee_h0 : ee_H := fun _ _ _ e st => match st with
  | (pc, lo, stk, w, iv, kc, ks, sv) => match e.2.1 with
    | .iconst n => ee_nx e.2.2.1 1 [(pc + 1, lo, .int (Int32.ofInt n) :: stk, w, iv, kc, ks, sv)]
    | .bipush n => ee_nx e.2.2.1 2 [(pc + 2, lo, .int (Int8.ofInt n).toInt32 :: stk, w, iv, kc, ks, sv)]
    | .sipush n => ee_nx e.2.2.1 3 [(pc + 3, lo, .int (Int16.ofInt n).toInt32 :: stk, w, iv, kc, ks, sv)]
    | .lconst _ => ee_nx e.2.2.1 1 [(pc + 1, lo, .double 0 :: stk, w, iv, kc, ks, sv)]
    | .goto o => if 0 ≤ (pc : Int) + o then ee_nx e.2.2.1 3 [(((pc : Int) + o).toNat, lo, stk, w, iv, kc, ks, sv)] else none
    | _ => none
set_option maxHeartbeats 2000000 in
theorem ee_h0.snd : ee_Snd ee_h0 := by
  intro X Y oc own cc ini dm bc bs Q e st sts F ho hi hd he hpc h k
  obtain ⟨p, l, en, R, s, m, args, below, meth, c⟩ := X
  obtain ⟨A, D, dA, ex, x0, a0, sv0, nL⟩ := Y
  obtain ⟨pc, lo, stk, w, iv, kc, ks, sv⟩ := st
  obtain ⟨pc', ins, len, hn, ea, eb, ez, qa, qb, qc⟩ := e
  obtain ⟨hx, hb, hml, hown, hts, hK, hA, hini, hR, hE⟩ := F
  have hpc : pc = pc' := hpc
  subst hpc
  have hd : decode cc pc = .ok (ins, len) := hd
  intro ns as H lc ls vs C
  obtain ⟨c1, c2, c3, c4, c5, c6⟩ := C
  show W p l en R s m args below meth c H lc kc ks Q (F0 m pc ls vs)
  cases ins with
  | iconst n =>
    obtain ⟨rfl, rfl⟩ := ee_nx_some (show ee_nx len 1 _ = some sts from h)
    exact lv_iconst hx hb hd rfl (k _ List.mem_cons_self ns as H lc ls _ ⟨c1, c2, c3, ⟨rfl, c4⟩, c5, c6⟩)
  | bipush n =>
    obtain ⟨rfl, rfl⟩ := ee_nx_some (show ee_nx len 2 _ = some sts from h)
    exact lv_bipush hx hb hd rfl (k _ List.mem_cons_self ns as H lc ls _ ⟨c1, c2, c3, ⟨rfl, c4⟩, c5, c6⟩)
  | sipush n =>
    obtain ⟨rfl, rfl⟩ := ee_nx_some (show ee_nx len 3 _ = some sts from h)
    exact lv_sipush hx hb hd rfl (k _ List.mem_cons_self ns as H lc ls _ ⟨c1, c2, c3, ⟨rfl, c4⟩, c5, c6⟩)
  | lconst n =>
    obtain ⟨rfl, rfl⟩ := ee_nx_some (show ee_nx len 1 _ = some sts from h)
    exact lv_lconst hx hb hd rfl (k _ List.mem_cons_self ns as H lc ls _ ⟨c1, c2, c3, ⟨⟨_, rfl⟩, c4⟩, c5, c6⟩)
  | goto o =>
    have h : (if 0 ≤ (pc : Int) + o then ee_nx len 3 [(((pc : Int) + o).toNat, lo, stk, w, iv, kc, ks, sv)] else none) = some sts := h
    by_cases ho : 0 ≤ (pc : Int) + o
    · rw [if_pos ho] at h
      obtain ⟨rfl, rfl⟩ := ee_nx_some h
      exact lv_goto hx hb hd (by omega) (k _ List.mem_cons_self ns as H lc ls _ ⟨c1, c2, c3, c4, c5, c6⟩)
    · rw [if_neg ho] at h
      exact ee_no h
  | _ => exact ee_no h
end
section
/-! handlers: loads, stores, numbers -/
theorem ee_own_ow {oc : Nat} {own : String} (h : ee_own[oc]? = some own) : ee_ow oc = own := by
  unfold ee_ow
  rw [List.getD_eq_getElem?_getD, h]; rfl
theorem ee_and {a b : Bool} (h : (a && b) = true) : a = true ∧ b = true := Bool.and_eq_true_iff.mp h
/-- an int out of the locals -/
def ee_ld (iv : ee_iv) (lo : List (Nat × Value)) (i : Nat) : Option Value := match lo.lookup i with
  | some x => (match ee_it iv x with
    | some _ => some x
    | none => none)
  | none => none
theorem ee_ld.ok {ns : List Int32} {as : List Nat} {ex : Nat → Nat} {iv : ee_iv} {lo lv : List (Nat × Value)} {ls : Array Slot} {nL i : Nat} {x : Value} (hk : ee_ok ns iv) (hl : lv_has ls nL lv) (ha : ee_all (ee_lr ns as ex) lo lv) (h : ee_ld iv lo i = some x) : ∃ z : Int32, (i, Value.int z) ∈ lv ∧ ls[i]? = some (.val (.int z)) ∧ ee_v ns as ex x (.int z) := by
  unfold ee_ld at h
  cases h1 : lo.lookup i with
  | none => rw [h1] at h; cases h
  | some y =>
    rw [h1] at h
    simp only at h
    cases h2 : ee_it iv y with
    | none => rw [h2] at h; cases h
    | some q =>
      rw [h2] at h
      cases h
      obtain ⟨v, g1, g2⟩ := ee_look ha h1
      obtain ⟨z, rfl, -, -⟩ := ee_it.int hk g2 h2
      exact ⟨z, g1, hl.2.2 _ g1, g2⟩
def ee_la (lo : List (Nat × Value)) (i : Nat) : Option Nat := match lo.lookup i with
  | some (.ref k) => some k
  | _ => none
theorem ee_v.ref {ns : List Int32} {as : List Nat} {ex : Nat → Nat} {k : Nat} {v : Value} (h : ee_v ns as ex (.ref k) v) : ∃ a, v = .ref a := by
  unfold ee_v at h
  by_cases hk : k < 1000000
  · simp only [hk, if_true] at h
    obtain ⟨a, -, h⟩ := h
    exact ⟨a, h⟩
  · simp only [hk, if_false] at h
    exact ⟨_, h⟩
theorem ee_la.ok {ns : List Int32} {as : List Nat} {ex : Nat → Nat} {lo lv : List (Nat × Value)} {ls : Array Slot} {nL i k : Nat} (hl : lv_has ls nL lv) (ha : ee_all (ee_lr ns as ex) lo lv) (h : ee_la lo i = some k) : ∃ a, ls[i]? = some (.val (.ref a)) ∧ ee_v ns as ex (.ref k) (.ref a) := by
  unfold ee_la at h
  split at h
  · rename_i j h1
    cases h
    obtain ⟨v, g1, g2⟩ := ee_look ha h1
    obtain ⟨a, rfl⟩ := ee_v.ref g2
    exact ⟨a, hl.2.2 _ g1, g2⟩
  · cases h
/-- a long, whatever is known of it -/
def ee_isl (x : Value) : Bool := match x with
  | .long _ => true
  | .double _ => true
  | _ => false
theorem ee_isl.ok {ns : List Int32} {as : List Nat} {ex : Nat → Nat} {x v : Value} (h : ee_v ns as ex x v) (hl : ee_isl x = true) : ∃ z, v = .long z := by
  cases x with
  | long q => exact ⟨q, h⟩
  | double q => exact h.dbl
  | _ => cases hl
def ee_ll (lo : List (Nat × Value)) (i : Nat) : Option Value := match lo.lookup i with
  | some x => if ee_isl x = true then some x else none
  | none => none
theorem ee_ll.ok {ns : List Int32} {as : List Nat} {ex : Nat → Nat} {lo lv : List (Nat × Value)} {ls : Array Slot} {nL i : Nat} {x : Value} (hl : lv_has ls nL lv) (ha : ee_all (ee_lr ns as ex) lo lv) (h : ee_ll lo i = some x) : ∃ z, ls[i]? = some (.val (.long z)) ∧ ee_v ns as ex x (.long z) := by
  unfold ee_ll at h
  cases h1 : lo.lookup i with
  | none => rw [h1] at h; cases h
  | some y =>
    rw [h1] at h
    simp only at h
    by_cases hc : ee_isl y = true
    · rw [if_pos hc] at h
      cases h
      obtain ⟨v, g1, g2⟩ := ee_look ha h1
      obtain ⟨z, rfl⟩ := ee_isl.ok g2 hc
      exact ⟨z, hl.2.2 _ g1, g2⟩
    · rw [if_neg hc] at h
      cases h
theorem ee_v.outs {ns : List Int32} {as : List Nat} {ex : Nat → Nat} {k : Nat} (hk : ¬ k < 1000000) : ee_v ns as ex (.ref k) (.ref (ex k)) := by
  show (if k < 1000000 then ∃ a, as[k]? = some a ∧ Value.ref (ex k) = Value.ref a else Value.ref (ex k) = Value.ref (ex k))
  rw [if_neg hk]
theorem ee_v.inw {ns : List Int32} {as : List Nat} {ex : Nat → Nat} {k a : Nat} (hk : k < 1000000) (h : as[k]? = some a) : ee_v ns as ex (.ref k) (.ref a) := by
  show (if k < 1000000 then ∃ b, as[k]? = some b ∧ Value.ref a = Value.ref b else Value.ref a = Value.ref (ex k))
  rw [if_pos hk]
  exact ⟨a, h, rfl⟩
def ee_isr (x : Value) : Bool := match x with
  | .ref _ => true
  | _ => false
theorem ee_isr.ok {ns : List Int32} {as : List Nat} {ex : Nat → Nat} {x v : Value} (h : ee_v ns as ex x v) (hl : ee_isr x = true) : ∃ a, v = .ref a := by
  cases x with
  | ref k => exact h.ref
  | _ => cases hl
def ee_h1 : ee_H := fun _ _ _ e st => match st with
  | (pc, lo, stk, w, iv, kc, ks, sv) => match e.2.1 with
    | .ldc _ => if e.2.2.2.2.2.1 = 0 then ee_nx e.2.2.1 2 [(pc + 2, lo, .int (Int32.ofInt e.2.2.2.2.2.2.1) :: stk, w, iv, kc, ks, sv)] else if e.2.2.2.2.2.1 = 1 then ee_nx e.2.2.1 2 [(pc + 2, lo, .ref (1000000 + e.2.2.2.2.1) :: stk, w, iv, kc, ks, sv)] else none
    | .ldc_w _ => if e.2.2.2.2.2.1 = 0 then ee_nx e.2.2.1 3 [(pc + 3, lo, .int (Int32.ofInt e.2.2.2.2.2.2.1) :: stk, w, iv, kc, ks, sv)] else none
    | .ldc2_w _ => ee_nx e.2.2.1 3 [(pc + 3, lo, .long (Int64.ofInt e.2.2.2.2.2.2.1) :: stk, w, iv, kc, ks, sv)]
    | _ => none
set_option maxHeartbeats 2000000 in
theorem ee_h1.snd : ee_Snd ee_h1 := by
  intro X Y oc own cc ini dm bc bs Q e st sts F ho hi hd he hpc h k
  obtain ⟨p, l, en, R, s, m, args, below, meth, c⟩ := X
  obtain ⟨A, D, dA, ex, x0, a0, sv0, nL⟩ := Y
  obtain ⟨pc, lo, stk, w, iv, kc, ks, sv⟩ := st
  obtain ⟨pc', ins, len, hn, ea, eb, ez, qa, qb, qc⟩ := e
  obtain ⟨hx, hb, hml, hown, hts, hK, hA, hini, hR, hE⟩ := F
  have hpc : pc = pc' := hpc
  subst hpc
  have hd : decode cc pc = .ok (ins, len) := hd
  intro ns as H lc ls vs C
  obtain ⟨c1, c2, c3, c4, c5, c6⟩ := C
  show W p l en R s m args below meth c H lc kc ks Q (F0 m pc ls vs)
  cases ins with
  | ldc i =>
    replace h : (if eb = 0 then ee_nx len 2 [(pc + 2, lo, Value.int (Int32.ofInt ez) :: stk, w, iv, kc, ks, sv)] else if eb = 1 then ee_nx len 2 [(pc + 2, lo, Value.ref (1000000 + ea) :: stk, w, iv, kc, ks, sv)] else none) = some sts := h
    have hee : (if eb = 0 then (match ee_KL[ea]? with
      | some q => decide (q.1 = oc) && (decide (q.2.1 = i) && decide (q.2.2.1 = ez))
      | none => false) else if eb = 1 then decide (oc = 5) && (decide (ea < 2) && decide (ee_six.getD ea 0 = i)) else true) = true := he
    by_cases h0 : eb = 0
    · rw [if_pos h0] at h hee
      obtain ⟨rfl, rfl⟩ := ee_nx_some h
      cases hq : ee_KL[ea]? with
      | none => rw [hq] at hee; cases hee
      | some q =>
        rw [hq] at hee
        obtain ⟨e1, e2⟩ := ee_and hee
        obtain ⟨e2, e3⟩ := ee_and e2
        have e1 := of_decide_eq_true e1
        have e2 := of_decide_eq_true e2
        have e3 := of_decide_eq_true e3
        have hm := ee_KLok q (List.mem_of_getElem? hq)
        rw [e1, ee_own_ow ho, e2, e3] at hm
        exact lv_ldc hx hb hown (hts _ hm) hd (k _ List.mem_cons_self ns as H lc ls _ ⟨c1, c2, c3, ⟨rfl, c4⟩, c5, c6⟩)
    · rw [if_neg h0] at h hee
      by_cases h1 : eb = 1
      · rw [if_pos h1] at h hee
        obtain ⟨rfl, rfl⟩ := ee_nx_some h
        obtain ⟨e1, e2⟩ := ee_and hee
        obtain ⟨e2, e3⟩ := ee_and e2
        have e1 := of_decide_eq_true e1
        have e2 := of_decide_eq_true e2
        have e3 := of_decide_eq_true e3
        have hR5 : own = RX5 := by
          rw [e1] at ho
          exact (Option.some.inj (ho.symm.trans rfl))
        have hz := hE.2.1 ea e2
        rw [e3, ← hR5] at hz
        exact va_ldcS hx hb hown hz hd (k _ List.mem_cons_self ns as H lc ls _ ⟨c1, c2, c3, ⟨ee_v.outs (by omega), c4⟩, c5, c6⟩)
      · rw [if_neg h1] at h
        exact ee_no h
  | ldc_w i =>
    replace h : (if eb = 0 then ee_nx len 3 [(pc + 3, lo, Value.int (Int32.ofInt ez) :: stk, w, iv, kc, ks, sv)] else none) = some sts := h
    have hee : (if eb = 0 then (match ee_KL[ea]? with
      | some q => decide (q.1 = oc) && (decide (q.2.1 = i) && decide (q.2.2.1 = ez))
      | none => false) else true) = true := he
    by_cases h0 : eb = 0
    · rw [if_pos h0] at h hee
      obtain ⟨rfl, rfl⟩ := ee_nx_some h
      cases hq : ee_KL[ea]? with
      | none => rw [hq] at hee; cases hee
      | some q =>
        rw [hq] at hee
        obtain ⟨e1, e2⟩ := ee_and hee
        obtain ⟨e2, e3⟩ := ee_and e2
        have e1 := of_decide_eq_true e1
        have e2 := of_decide_eq_true e2
        have e3 := of_decide_eq_true e3
        have hm := ee_KLok q (List.mem_of_getElem? hq)
        rw [e1, ee_own_ow ho, e2, e3] at hm
        exact lv_ldcw hx hb hown (hts _ hm) hd (k _ List.mem_cons_self ns as H lc ls _ ⟨c1, c2, c3, ⟨rfl, c4⟩, c5, c6⟩)
    · rw [if_neg h0] at h
      exact ee_no h
  | ldc2_w i =>
    replace h : ee_nx len 3 [(pc + 3, lo, Value.long (Int64.ofInt ez) :: stk, w, iv, kc, ks, sv)] = some sts := h
    have hee : (match ee_LL[ea]? with
      | some q => decide (q.1 = oc) && (decide (q.2.1 = i) && decide (q.2.2.1 = Int64.ofInt ez))
      | none => false) = true := he
    obtain ⟨rfl, rfl⟩ := ee_nx_some h
    cases hq : ee_LL[ea]? with
    | none => rw [hq] at hee; cases hee
    | some q =>
      rw [hq] at hee
      obtain ⟨e1, e2⟩ := ee_and hee
      obtain ⟨e2, e3⟩ := ee_and e2
      have e1 := of_decide_eq_true e1
      have e2 := of_decide_eq_true e2
      have e3 := of_decide_eq_true e3
      have hm := ee_LLok q (List.mem_of_getElem? hq)
      rw [e1, ee_own_ow ho, e2, e3] at hm
      exact lv_ldc2 hx hb hown (hts _ hm) hd (k _ List.mem_cons_self ns as H lc ls _ ⟨c1, c2, c3, ⟨rfl, c4⟩, c5, c6⟩)
  | _ => exact ee_no h
def ee_h2 : ee_H := fun _ _ _ e st => match st with
  | (pc, lo, stk, w, iv, kc, ks, sv) => match e.2.1 with
    | .iload i => (match ee_ld iv lo i with
      | some x => ee_nx e.2.2.1 2 [(pc + 2, lo, x :: stk, w, iv, kc, ks, sv)]
      | none => none)
    | .iload_n i => (match ee_ld iv lo i.val with
      | some x => ee_nx e.2.2.1 1 [(pc + 1, lo, x :: stk, w, iv, kc, ks, sv)]
      | none => none)
    | _ => none
set_option maxHeartbeats 2000000 in
theorem ee_h2.snd : ee_Snd ee_h2 := by
  intro X Y oc own cc ini dm bc bs Q e st sts F ho hi hd he hpc h k
  obtain ⟨p, l, en, R, s, m, args, below, meth, c⟩ := X
  obtain ⟨A, D, dA, ex, x0, a0, sv0, nL⟩ := Y
  obtain ⟨pc, lo, stk, w, iv, kc, ks, sv⟩ := st
  obtain ⟨pc', ins, len, hn, ea, eb, ez, qa, qb, qc⟩ := e
  obtain ⟨hx, hb, hml, hown, hts, hK, hA, hini, hR, hE⟩ := F
  have hpc : pc = pc' := hpc
  subst hpc
  have hd : decode cc pc = .ok (ins, len) := hd
  intro ns as H lc ls vs C
  obtain ⟨c1, c2, c3, c4, c5, c6⟩ := C
  show W p l en R s m args below meth c H lc kc ks Q (F0 m pc ls vs)
  obtain ⟨lv, c3, c3l⟩ := c3
  cases ins with
  | iload i =>
    replace h : (match ee_ld iv lo i with
      | some x => ee_nx len 2 [(pc + 2, lo, x :: stk, w, iv, kc, ks, sv)]
      | none => none) = some sts := h
    cases hq : ee_ld iv lo i with
    | none => rw [hq] at h; exact ee_no h
    | some x =>
      rw [hq] at h
      obtain ⟨rfl, rfl⟩ := ee_nx_some h
      obtain ⟨z, -, g1, g2⟩ := ee_ld.ok c1 c3 c3l hq
      exact lv_iload hx hb hd g1 (k _ List.mem_cons_self ns as H lc ls _ ⟨c1, c2, ⟨lv, c3, c3l⟩, ⟨g2, c4⟩, c5, c6⟩)
  | iload_n i =>
    replace h : (match ee_ld iv lo i.val with
      | some x => ee_nx len 1 [(pc + 1, lo, x :: stk, w, iv, kc, ks, sv)]
      | none => none) = some sts := h
    cases hq : ee_ld iv lo i.val with
    | none => rw [hq] at h; exact ee_no h
    | some x =>
      rw [hq] at h
      obtain ⟨rfl, rfl⟩ := ee_nx_some h
      obtain ⟨z, -, g1, g2⟩ := ee_ld.ok c1 c3 c3l hq
      exact lv_iload_n hx hb hd rfl g1 (k _ List.mem_cons_self ns as H lc ls _ ⟨c1, c2, ⟨lv, c3, c3l⟩, ⟨g2, c4⟩, c5, c6⟩)
  | _ => exact ee_no h
def ee_h3 : ee_H := fun _ _ _ e st => match st with
  | (pc, lo, stk, w, iv, kc, ks, sv) => match e.2.1 with
    | .aload i => (match ee_la lo i with
      | some x => ee_nx e.2.2.1 2 [(pc + 2, lo, .ref x :: stk, w, iv, kc, ks, sv)]
      | none => none)
    | .aload_n i => (match ee_la lo i.val with
      | some x => ee_nx e.2.2.1 1 [(pc + 1, lo, .ref x :: stk, w, iv, kc, ks, sv)]
      | none => none)
    | .lload i => (match ee_ll lo i with
      | some x => ee_nx e.2.2.1 2 [(pc + 2, lo, x :: stk, w, iv, kc, ks, sv)]
      | none => none)
    | .lload_n i => (match ee_ll lo i.val with
      | some x => ee_nx e.2.2.1 1 [(pc + 1, lo, x :: stk, w, iv, kc, ks, sv)]
      | none => none)
    | _ => none
set_option maxHeartbeats 2000000 in
theorem ee_h3.snd : ee_Snd ee_h3 := by
  intro X Y oc own cc ini dm bc bs Q e st sts F ho hi hd he hpc h k
  obtain ⟨p, l, en, R, s, m, args, below, meth, c⟩ := X
  obtain ⟨A, D, dA, ex, x0, a0, sv0, nL⟩ := Y
  obtain ⟨pc, lo, stk, w, iv, kc, ks, sv⟩ := st
  obtain ⟨pc', ins, len, hn, ea, eb, ez, qa, qb, qc⟩ := e
  obtain ⟨hx, hb, hml, hown, hts, hK, hA, hini, hR, hE⟩ := F
  have hpc : pc = pc' := hpc
  subst hpc
  have hd : decode cc pc = .ok (ins, len) := hd
  intro ns as H lc ls vs C
  obtain ⟨c1, c2, c3, c4, c5, c6⟩ := C
  show W p l en R s m args below meth c H lc kc ks Q (F0 m pc ls vs)
  obtain ⟨lv, c3, c3l⟩ := c3
  cases ins with
  | aload i =>
    replace h : (match ee_la lo i with
      | some x => ee_nx len 2 [(pc + 2, lo, Value.ref x :: stk, w, iv, kc, ks, sv)]
      | none => none) = some sts := h
    cases hq : ee_la lo i with
    | none => rw [hq] at h; exact ee_no h
    | some x =>
      rw [hq] at h
      obtain ⟨rfl, rfl⟩ := ee_nx_some h
      obtain ⟨a, g1, g2⟩ := ee_la.ok c3 c3l hq
      exact lv_aload hx hb hd g1 (k _ List.mem_cons_self ns as H lc ls _ ⟨c1, c2, ⟨lv, c3, c3l⟩, ⟨g2, c4⟩, c5, c6⟩)
  | aload_n i =>
    replace h : (match ee_la lo i.val with
      | some x => ee_nx len 1 [(pc + 1, lo, Value.ref x :: stk, w, iv, kc, ks, sv)]
      | none => none) = some sts := h
    cases hq : ee_la lo i.val with
    | none => rw [hq] at h; exact ee_no h
    | some x =>
      rw [hq] at h
      obtain ⟨rfl, rfl⟩ := ee_nx_some h
      obtain ⟨a, g1, g2⟩ := ee_la.ok c3 c3l hq
      exact lv_aload_n hx hb hd rfl g1 (k _ List.mem_cons_self ns as H lc ls _ ⟨c1, c2, ⟨lv, c3, c3l⟩, ⟨g2, c4⟩, c5, c6⟩)
  | lload i =>
    replace h : (match ee_ll lo i with
      | some x => ee_nx len 2 [(pc + 2, lo, x :: stk, w, iv, kc, ks, sv)]
      | none => none) = some sts := h
    cases hq : ee_ll lo i with
    | none => rw [hq] at h; exact ee_no h
    | some x =>
      rw [hq] at h
      obtain ⟨rfl, rfl⟩ := ee_nx_some h
      obtain ⟨z, g1, g2⟩ := ee_ll.ok c3 c3l hq
      exact lv_lload hx hb hd g1 (k _ List.mem_cons_self ns as H lc ls _ ⟨c1, c2, ⟨lv, c3, c3l⟩, ⟨g2, c4⟩, c5, c6⟩)
  | lload_n i =>
    replace h : (match ee_ll lo i.val with
      | some x => ee_nx len 1 [(pc + 1, lo, x :: stk, w, iv, kc, ks, sv)]
      | none => none) = some sts := h
    cases hq : ee_ll lo i.val with
    | none => rw [hq] at h; exact ee_no h
    | some x =>
      rw [hq] at h
      obtain ⟨rfl, rfl⟩ := ee_nx_some h
      obtain ⟨z, g1, g2⟩ := ee_ll.ok c3 c3l hq
      exact lv_lload_n hx hb hd rfl g1 (k _ List.mem_cons_self ns as H lc ls _ ⟨c1, c2, ⟨lv, c3, c3l⟩, ⟨g2, c4⟩, c5, c6⟩)
  | _ => exact ee_no h
def ee_sl (i : Nat) (x : Value) (lo : List (Nat × Value)) : List (Nat × Value) := (i, x) :: lo.filter (fun q => !(q.1 == i) && !(q.1 + 1 == i && ee_cat q.2 == 2))
theorem ee_sl.ok {ns : List Int32} {as : List Nat} {ex : Nat → Nat} {i : Nat} {x v : Value} {lo lv : List (Nat × Value)} (h : ee_all (ee_lr ns as ex) lo lv) (hv : ee_v ns as ex x v) : ee_all (ee_lr ns as ex) (ee_sl i x lo) ((i, v) :: lv.filter (fun q => !(q.1 == i) && !(q.1 + 1 == i && q.2.category == 2))) :=
  ⟨⟨rfl, hv⟩, h.filter (fun a b q => by rw [q.1, q.2.cat])⟩
def ee_sl2 (i : Nat) (x : Value) (lo : List (Nat × Value)) : List (Nat × Value) := (i, x) :: lo.filter (fun q => !(q.1 == i) && (!(q.1 == i + 1) && !(q.1 + 1 == i && ee_cat q.2 == 2)))
theorem ee_sl2.ok {ns : List Int32} {as : List Nat} {ex : Nat → Nat} {i : Nat} {x v : Value} {lo lv : List (Nat × Value)} (h : ee_all (ee_lr ns as ex) lo lv) (hv : ee_v ns as ex x v) : ee_all (ee_lr ns as ex) (ee_sl2 i x lo) ((i, v) :: lv.filter (fun q => !(q.1 == i) && (!(q.1 == i + 1) && !(q.1 + 1 == i && q.2.category == 2)))) :=
  ⟨⟨rfl, hv⟩, h.filter (fun a b q => by rw [q.1, q.2.cat])⟩
def ee_h4 : ee_H := fun nL _ _ e st => match st with
  | (pc, lo, x :: stk, w, iv, kc, ks, sv) => (match ee_it iv x with
    | some _ => (match e.2.1 with
      | .istore i => if i < nL then ee_nx e.2.2.1 2 [(pc + 2, ee_sl i x lo, stk, w, iv, kc, ks, sv)] else none
      | .istore_n i => if i.val < nL then ee_nx e.2.2.1 1 [(pc + 1, ee_sl i.val x lo, stk, w, iv, kc, ks, sv)] else none
      | _ => none)
    | none => none)
  | _ => none
set_option maxHeartbeats 2000000 in
theorem ee_h4.snd : ee_Snd ee_h4 := by
  intro X Y oc own cc ini dm bc bs Q e st sts F ho hi hd he hpc h k
  obtain ⟨p, l, en, R, s, m, args, below, meth, c⟩ := X
  obtain ⟨A, D, dA, ex, x0, a0, sv0, nL⟩ := Y
  obtain ⟨pc, lo, stk, w, iv, kc, ks, sv⟩ := st
  obtain ⟨pc', ins, len, hn, ea, eb, ez, qa, qb, qc⟩ := e
  obtain ⟨hx, hb, hml, hown, hts, hK, hA, hini, hR, hE⟩ := F
  have hpc : pc = pc' := hpc
  subst hpc
  have hd : decode cc pc = .ok (ins, len) := hd
  intro ns as H lc ls vs C
  obtain ⟨c1, c2, c3, c4, c5, c6⟩ := C
  show W p l en R s m args below meth c H lc kc ks Q (F0 m pc ls vs)
  obtain ⟨lv, c3, c3l⟩ := c3
  cases stk with
  | nil => exact ee_no h
  | cons x stk =>
    cases vs with
    | nil => exact c4.elim
    | cons v vs =>
      obtain ⟨c4v, c4⟩ := c4
      replace h : (match ee_it iv x with
        | some _ => (match (generalizing := false) ins with
          | .istore i => if i < nL then ee_nx len 2 [(pc + 2, ee_sl i x lo, stk, w, iv, kc, ks, sv)] else none
          | .istore_n i => if i.val < nL then ee_nx len 1 [(pc + 1, ee_sl i.val x lo, stk, w, iv, kc, ks, sv)] else none
          | _ => none)
        | none => none) = some sts := h
      cases hq : ee_it iv x with
      | none => rw [hq] at h; exact ee_no h
      | some q =>
        rw [hq] at h
        obtain ⟨z, rfl, -, -⟩ := ee_it.int c1 c4v hq
        cases ins with
        | istore i =>
          replace h : (if i < nL then ee_nx len 2 [(pc + 2, ee_sl i x lo, stk, w, iv, kc, ks, sv)] else none) = some sts := h
          by_cases hl : i < nL
          · rw [if_pos hl] at h
            obtain ⟨rfl, rfl⟩ := ee_nx_some h
            exact lv_istore hx hb hd c3 hl rfl (fun ls' hl' => k _ List.mem_cons_self ns as H lc ls' _ ⟨c1, c2, ⟨_, hl', ee_sl.ok c3l c4v⟩, c4, c5, c6⟩)
          · rw [if_neg hl] at h
            exact ee_no h
        | istore_n i =>
          replace h : (if i.val < nL then ee_nx len 1 [(pc + 1, ee_sl i.val x lo, stk, w, iv, kc, ks, sv)] else none) = some sts := h
          by_cases hl : i.val < nL
          · rw [if_pos hl] at h
            obtain ⟨rfl, rfl⟩ := ee_nx_some h
            exact lv_istore_n hx hb hd rfl c3 hl rfl (fun ls' hl' => k _ List.mem_cons_self ns as H lc ls' _ ⟨c1, c2, ⟨_, hl', ee_sl.ok c3l c4v⟩, c4, c5, c6⟩)
          · rw [if_neg hl] at h
            exact ee_no h
        | _ => exact ee_no h
def ee_h5 : ee_H := fun nL _ _ e st => match st with
  | (pc, lo, x :: stk, w, iv, kc, ks, sv) => (match e.2.1 with
      | .astore i => if ee_isr x = true ∧ i < nL then ee_nx e.2.2.1 2 [(pc + 2, ee_sl i x lo, stk, w, iv, kc, ks, sv)] else none
      | .astore_n i => if ee_isr x = true ∧ i.val < nL then ee_nx e.2.2.1 1 [(pc + 1, ee_sl i.val x lo, stk, w, iv, kc, ks, sv)] else none
      | .lstore i => if ee_isl x = true ∧ i + 1 < nL then ee_nx e.2.2.1 2 [(pc + 2, ee_sl2 i x lo, stk, w, iv, kc, ks, sv)] else none
      | .lstore_n i => if ee_isl x = true ∧ i.val + 1 < nL then ee_nx e.2.2.1 1 [(pc + 1, ee_sl2 i.val x lo, stk, w, iv, kc, ks, sv)] else none
      | _ => none)
  | _ => none
set_option maxHeartbeats 2000000 in
theorem ee_h5.snd : ee_Snd ee_h5 := by
  intro X Y oc own cc ini dm bc bs Q e st sts F ho hi hd he hpc h k
  obtain ⟨p, l, en, R, s, m, args, below, meth, c⟩ := X
  obtain ⟨A, D, dA, ex, x0, a0, sv0, nL⟩ := Y
  obtain ⟨pc, lo, stk, w, iv, kc, ks, sv⟩ := st
  obtain ⟨pc', ins, len, hn, ea, eb, ez, qa, qb, qc⟩ := e
  obtain ⟨hx, hb, hml, hown, hts, hK, hA, hini, hR, hE⟩ := F
  have hpc : pc = pc' := hpc
  subst hpc
  have hd : decode cc pc = .ok (ins, len) := hd
  intro ns as H lc ls vs C
  obtain ⟨c1, c2, c3, c4, c5, c6⟩ := C
  show W p l en R s m args below meth c H lc kc ks Q (F0 m pc ls vs)
  obtain ⟨lv, c3, c3l⟩ := c3
  cases stk with
  | nil => exact ee_no h
  | cons x stk =>
    cases vs with
    | nil => exact c4.elim
    | cons v vs =>
      obtain ⟨c4v, c4⟩ := c4
      cases ins with
      | astore i =>
        replace h : (if ee_isr x = true ∧ i < nL then ee_nx len 2 [(pc + 2, ee_sl i x lo, stk, w, iv, kc, ks, sv)] else none) = some sts := h
        by_cases hl : ee_isr x = true ∧ i < nL
        · rw [if_pos hl] at h
          obtain ⟨rfl, rfl⟩ := ee_nx_some h
          obtain ⟨a, rfl⟩ := ee_isr.ok c4v hl.1
          exact lv_astore hx hb hd c3 hl.2 rfl (fun ls' hl' => k _ List.mem_cons_self ns as H lc ls' _ ⟨c1, c2, ⟨_, hl', ee_sl.ok c3l c4v⟩, c4, c5, c6⟩)
        · rw [if_neg hl] at h
          exact ee_no h
      | astore_n i =>
        replace h : (if ee_isr x = true ∧ i.val < nL then ee_nx len 1 [(pc + 1, ee_sl i.val x lo, stk, w, iv, kc, ks, sv)] else none) = some sts := h
        by_cases hl : ee_isr x = true ∧ i.val < nL
        · rw [if_pos hl] at h
          obtain ⟨rfl, rfl⟩ := ee_nx_some h
          obtain ⟨a, rfl⟩ := ee_isr.ok c4v hl.1
          exact lv_astore_n hx hb hd rfl c3 hl.2 rfl (fun ls' hl' => k _ List.mem_cons_self ns as H lc ls' _ ⟨c1, c2, ⟨_, hl', ee_sl.ok c3l c4v⟩, c4, c5, c6⟩)
        · rw [if_neg hl] at h
          exact ee_no h
      | lstore i =>
        replace h : (if ee_isl x = true ∧ i + 1 < nL then ee_nx len 2 [(pc + 2, ee_sl2 i x lo, stk, w, iv, kc, ks, sv)] else none) = some sts := h
        by_cases hl : ee_isl x = true ∧ i + 1 < nL
        · rw [if_pos hl] at h
          obtain ⟨rfl, rfl⟩ := ee_nx_some h
          obtain ⟨z, rfl⟩ := ee_isl.ok c4v hl.1
          exact lv_lstore hx hb hd c3 hl.2 rfl (fun ls' hl' => k _ List.mem_cons_self ns as H lc ls' _ ⟨c1, c2, ⟨_, hl', ee_sl2.ok c3l c4v⟩, c4, c5, c6⟩)
        · rw [if_neg hl] at h
          exact ee_no h
      | lstore_n i =>
        replace h : (if ee_isl x = true ∧ i.val + 1 < nL then ee_nx len 1 [(pc + 1, ee_sl2 i.val x lo, stk, w, iv, kc, ks, sv)] else none) = some sts := h
        by_cases hl : ee_isl x = true ∧ i.val + 1 < nL
        · rw [if_pos hl] at h
          obtain ⟨rfl, rfl⟩ := ee_nx_some h
          obtain ⟨z, rfl⟩ := ee_isl.ok c4v hl.1
          exact lv_lstore_n hx hb hd rfl c3 hl.2 rfl (fun ls' hl' => k _ List.mem_cons_self ns as H lc ls' _ ⟨c1, c2, ⟨_, hl', ee_sl2.ok c3l c4v⟩, c4, c5, c6⟩)
        · rw [if_neg hl] at h
          exact ee_no h
      | _ => exact ee_no h
end
section
/-! handlers: arithmetic, comparisons -/
theorem ee_rng (x : Int32) : -2147483648 ≤ x.toInt ∧ x.toInt ≤ 2147483647 := by
  have h1 := Int32.le_toInt x
  have h2 := Int32.toInt_lt x
  omega
theorem ee_bmod {z : Int} (h1 : -2147483648 ≤ z) (h2 : z ≤ 2147483647) : z.bmod (2 ^ 32) = z := by
  rw [Int.bmod_eq_of_le (by omega) (by omega)]
def ee_op (ins : ClassFile.Instr) (x y : Int32) : Int32 := match ins with
  | .iadd => x + y
  | .isub => x - y
  | .imul => x * y
  | .iand => x &&& y
  | .ior => x ||| y
  | .ixor => x ^^^ y
  | .ishl => x <<< (y &&& 31)
  | .ishr => x >>> (y &&& 31)
  | .iushr => (x.toUInt32 >>> (y.toUInt32 &&& Int32.toUInt32 31)).toInt32
  | .idiv => x / y
  | .irem => x - x / y * y
  | _ => 0
def ee_rg (a b : Int) : Int × Int := if -2147483648 ≤ a ∧ b ≤ 2147483647 then (a, b) else (-2147483648, 2147483647)
theorem ee_rg.ok {a b : Int} {z : Int32} {t : Int} (e : z.toInt = t.bmod (2 ^ 32)) (h1 : a ≤ t) (h2 : t ≤ b) : (ee_rg a b).1 ≤ z.toInt ∧ z.toInt ≤ (ee_rg a b).2 := by
  unfold ee_rg
  by_cases h : -2147483648 ≤ a ∧ b ≤ 2147483647
  · rw [if_pos h, e, ee_bmod (by omega) (by omega)]
    exact ⟨h1, h2⟩
  · rw [if_neg h]
    exact ee_rng z
theorem ee_toNat {y : Int32} (h : 0 ≤ y.toInt) : (y.toBitVec.toNat : Int) = y.toInt ∧ y.toBitVec.toNat < 2 ^ 31 := by
  have h1 : y.toInt = y.toBitVec.toInt := rfl
  have h2 := BitVec.toInt_eq_toNat_cond y.toBitVec
  have h3 := y.toBitVec.isLt
  rw [h1] at h ⊢
  rw [h2] at h ⊢
  split at h
  · rename_i q
    rw [if_pos q]
    exact ⟨rfl, by omega⟩
  · omega
theorem ee_and_le (x y : Int32) (h : 0 ≤ y.toInt) : 0 ≤ (x &&& y).toInt ∧ (x &&& y).toInt ≤ y.toInt := by
  obtain ⟨h1, h2⟩ := ee_toNat h
  have e : (x &&& y).toBitVec.toNat = x.toBitVec.toNat &&& y.toBitVec.toNat := by
    rw [show (x &&& y).toBitVec = x.toBitVec &&& y.toBitVec from rfl, BitVec.toNat_and]
  have hle : (x &&& y).toBitVec.toNat ≤ y.toBitVec.toNat := by rw [e]; exact Nat.and_le_right
  have q : (x &&& y).toInt = ((x &&& y).toBitVec.toNat : Int) := by
    show (x &&& y).toBitVec.toInt = _
    rw [BitVec.toInt_eq_toNat_cond, if_pos (by omega)]
  omega
theorem ee_and_comm (x y : Int32) : x &&& y = y &&& x := by
  apply Int32.toBitVec_inj.mp
  show x.toBitVec &&& y.toBitVec = y.toBitVec &&& x.toBitVec
  exact BitVec.and_comm _ _
theorem ee_zero {z : Int32} (h1 : 0 ≤ z.toInt) (h2 : z.toInt ≤ 0) : z = 0 := Int32.toInt_inj.mp (by rw [Int32.toInt_zero]; omega)
theorem ee_cast {x : Int32} (h1 : 0 ≤ x.toInt) : (x.toBitVec.toNat : Int) = x.toInt := (ee_toNat h1).1
theorem ee_ofBits {x : Int32} {n : Nat} (h : x.toBitVec.toNat = n) (hn : n < 2 ^ 31) : x.toInt = (n : Int) := by
  show x.toBitVec.toInt = _
  rw [BitVec.toInt_eq_toNat_cond, if_pos (by omega), h]
/-- the least 2^k - 1 that is no less -/
def ee_up (m : Int) : Int := match [(1 : Int), 3, 7, 15, 31, 63, 127, 255, 511, 1023, 65535].find? (fun k => decide (m ≤ k)) with
  | some k => k
  | none => 2147483647
theorem ee_up.ok {m : Int} (h : m ≤ 2147483647) : m ≤ ee_up m ∧ ∃ n : Nat, n ≤ 31 ∧ ee_up m = 2 ^ n - 1 := by
  unfold ee_up
  cases hf : [(1 : Int), 3, 7, 15, 31, 63, 127, 255, 511, 1023, 65535].find? (fun k => decide (m ≤ k)) with
  | none => exact ⟨h, 31, by decide, by decide⟩
  | some k =>
    have h1 : decide (m ≤ k) = true := List.find?_some (p := fun k : Int => decide (m ≤ k)) hf
    have h1 := of_decide_eq_true h1
    have h2 := List.mem_of_find?_eq_some hf
    refine ⟨h1, ?_⟩
    simp only [List.mem_cons, List.not_mem_nil, or_false] at h2
    rcases h2 with rfl | rfl | rfl | rfl | rfl | rfl | rfl | rfl | rfl | rfl | rfl
    · exact ⟨1, by decide, by decide⟩
    · exact ⟨2, by decide, by decide⟩
    · exact ⟨3, by decide, by decide⟩
    · exact ⟨4, by decide, by decide⟩
    · exact ⟨5, by decide, by decide⟩
    · exact ⟨6, by decide, by decide⟩
    · exact ⟨7, by decide, by decide⟩
    · exact ⟨8, by decide, by decide⟩
    · exact ⟨9, by decide, by decide⟩
    · exact ⟨10, by decide, by decide⟩
    · exact ⟨16, by decide, by decide⟩
theorem ee_pow_lt {n k : Nat} {a : Int} (hk : k ≤ 31) (ha : (n : Int) ≤ a) (he : a = 2 ^ k - 1) : n < 2 ^ k := by
  have h1 : (n : Int) < 2 ^ k := by omega
  have h2 : ((2 ^ k : Nat) : Int) = 2 ^ k := by simp
  omega
theorem ee_orx {x y z : Int32} {b e : Int} (op : Nat → Nat → Nat) (hop : ∀ {m n k : Nat}, m < 2 ^ k → n < 2 ^ k → op m n < 2 ^ k) (hz : z.toBitVec.toNat = op x.toBitVec.toNat y.toBitVec.toNat) (h1 : 0 ≤ x.toInt) (h2 : x.toInt ≤ b) (h3 : 0 ≤ y.toInt) (h4 : y.toInt ≤ e) : 0 ≤ z.toInt ∧ z.toInt ≤ ee_up (ee_mx b e) := by
  have hb := ee_rng x
  have he := ee_rng y
  by_cases hm : ee_mx b e ≤ 2147483647
  · obtain ⟨g1, k, g2, g3⟩ := ee_up.ok hm
    have m1 : b ≤ ee_mx b e := by unfold ee_mx; split <;> omega
    have m2 : e ≤ ee_mx b e := by unfold ee_mx; split <;> omega
    have x1 := ee_cast h1
    have y1 := ee_cast h3
    have l1 : x.toBitVec.toNat < 2 ^ k := ee_pow_lt g2 (a := ee_up (ee_mx b e)) (by omega) g3
    have l2 : y.toBitVec.toNat < 2 ^ k := ee_pow_lt g2 (a := ee_up (ee_mx b e)) (by omega) g3
    have l3 := hop l1 l2
    have l4 : 2 ^ k ≤ 2 ^ 31 := Nat.pow_le_pow_right (by decide) g2
    rw [ee_ofBits hz (by omega)]
    have h2 : ((2 ^ k : Nat) : Int) = 2 ^ k := by simp
    omega
  · have e0 : ee_up (ee_mx b e) = 2147483647 := by
      unfold ee_up
      rw [show [(1 : Int), 3, 7, 15, 31, 63, 127, 255, 511, 1023, 65535].find? (fun k => decide (ee_mx b e ≤ k)) = none from ?_]
      rw [List.find?_eq_none]
      intro k hk
      simp only [List.mem_cons, List.not_mem_nil, or_false] at hk
      rcases hk with rfl | rfl | rfl | rfl | rfl | rfl | rfl | rfl | rfl | rfl | rfl <;> simp <;> omega
    rw [e0]
    have x1 := (ee_toNat h1).2
    have y1 := (ee_toNat h3).2
    have l3 := hop x1 y1
    rw [ee_ofBits hz l3]
    omega
theorem ee_or {x y : Int32} {b e : Int} (h1 : 0 ≤ x.toInt) (h2 : x.toInt ≤ b) (h3 : 0 ≤ y.toInt) (h4 : y.toInt ≤ e) : 0 ≤ (x ||| y).toInt ∧ (x ||| y).toInt ≤ ee_up (ee_mx b e) :=
  ee_orx (fun m n => m ||| n) (fun h1 h2 => Nat.or_lt_two_pow h1 h2) (by rw [show (x ||| y).toBitVec = x.toBitVec ||| y.toBitVec from rfl, BitVec.toNat_or]) h1 h2 h3 h4
theorem ee_xor {x y : Int32} {b e : Int} (h1 : 0 ≤ x.toInt) (h2 : x.toInt ≤ b) (h3 : 0 ≤ y.toInt) (h4 : y.toInt ≤ e) : 0 ≤ (x ^^^ y).toInt ∧ (x ^^^ y).toInt ≤ ee_up (ee_mx b e) :=
  ee_orx (fun m n => m ^^^ n) (fun h1 h2 => Nat.xor_lt_two_pow h1 h2) (by rw [show (x ^^^ y).toBitVec = x.toBitVec ^^^ y.toBitVec from rfl, BitVec.toNat_xor]) h1 h2 h3 h4
theorem ee_of {x : Int32} {n : Nat} (h : x.toInt = (n : Int)) : x = Int32.ofNat n := by
  rw [← Int32.ofInt_toInt x, h]; rfl
theorem ee_shl0 : ∀ n, n < 4 → ∀ k, k < 21 → ((Int32.ofNat n) <<< ((Int32.ofNat k) &&& 31)).toInt = (n : Int) * 2 ^ k := by decide +kernel
theorem ee_shl {x y : Int32} (h1 : 0 ≤ x.toInt) (h2 : x.toInt ≤ 3) (h3 : 0 ≤ y.toInt) (h4 : y.toInt ≤ 20) : (x <<< (y &&& 31)).toInt = x.toInt * 2 ^ y.toInt.toNat := by
  have e1 := ee_of (x := x) (n := x.toInt.toNat) (by omega)
  have e2 := ee_of (x := y) (n := y.toInt.toNat) (by omega)
  have h := ee_shl0 x.toInt.toNat (by omega) y.toInt.toNat (by omega)
  rw [← e1, ← e2] at h
  rw [h, show ((x.toInt.toNat : Nat) : Int) = x.toInt by omega]
theorem ee_shr {x y : Int32} (h1 : 0 ≤ x.toInt) : 0 ≤ (x >>> y).toInt ∧ (x >>> y).toInt ≤ x.toInt := by
  have e : (x >>> y).toInt = x.toInt >>> (y.toBitVec.smod 32).toNat := by
    show (x >>> y).toBitVec.toInt = x.toBitVec.toInt >>> _
    rw [show (x >>> y).toBitVec = x.toBitVec.sshiftRight' (y.toBitVec.smod 32) from rfl]
    exact BitVec.toInt_sshiftRight'
  rw [e, Int.shiftRight_eq_div_pow]
  have hp : (0 : Int) < ((2 ^ (y.toBitVec.smod 32).toNat : Nat) : Int) := by
    have := Nat.two_pow_pos (y.toBitVec.smod 32).toNat
    omega
  exact ⟨Int.ediv_nonneg h1 (by omega), Int.ediv_le_self _ h1⟩
theorem ee_div {x y : Int32} (h1 : 0 ≤ x.toInt) (h2 : 1 ≤ y.toInt) : (x / y).toInt = x.toInt / y.toInt := by
  have hx := ee_rng x
  rw [Int32.toInt_div, Int.tdiv_eq_ediv_of_nonneg h1]
  have g1 : 0 ≤ x.toInt / y.toInt := Int.ediv_nonneg h1 (by omega)
  have g2 : x.toInt / y.toInt ≤ x.toInt := Int.ediv_le_self _ h1
  exact ee_bmod (by omega) (by omega)
theorem ee_rem {x y : Int32} (h1 : 0 ≤ x.toInt) (h2 : 1 ≤ y.toInt) : (x - x / y * y).toInt = x.toInt % y.toInt := by
  have hx := ee_rng x
  have g1 : 0 ≤ x.toInt / y.toInt := Int.ediv_nonneg h1 (by omega)
  have g3 : 0 ≤ x.toInt % y.toInt := Int.emod_nonneg _ (by omega)
  have g4 : x.toInt % y.toInt + x.toInt / y.toInt * y.toInt = x.toInt := Int.emod_add_ediv_mul x.toInt y.toInt
  have g5 : 0 ≤ x.toInt / y.toInt * y.toInt := Int.mul_nonneg g1 (by omega)
  rw [Int32.toInt_sub, Int32.toInt_mul, ee_div h1 h2]
  generalize x.toInt / y.toInt * y.toInt = t at g4 g5 ⊢
  rw [ee_bmod (z := t) (by omega) (by omega), ee_bmod (by omega) (by omega)]
  omega
/-- bounds of what comes -/
def ee_ap (ins : ClassFile.Instr) (a b d e : Int) : Int × Int := match ins with
  | .iadd => ee_rg (a + d) (b + e)
  | .isub => ee_rg (a - e) (b - d)
  | .imul => if 0 ≤ a ∧ 0 ≤ d then ee_rg (a * d) (b * e) else (-2147483648, 2147483647)
  | .idiv => if 0 ≤ a ∧ 1 ≤ d then (0, b / d) else (-2147483648, 2147483647)
  | .irem => if 0 ≤ a ∧ 1 ≤ d then (0, ee_mn b (e - 1)) else (-2147483648, 2147483647)
  | .iand => if 0 ≤ d then (0, e) else if 0 ≤ a then (0, b) else (-2147483648, 2147483647)
  | .ior => if 0 ≤ a ∧ 0 ≤ d then (0, ee_up (ee_mx b e)) else (-2147483648, 2147483647)
  | .ixor => if 0 ≤ a ∧ 0 ≤ d then (0, ee_up (ee_mx b e)) else (-2147483648, 2147483647)
  | .ishl => if (0 ≤ a ∧ b ≤ 3) ∧ 0 ≤ d ∧ e ≤ 20 then (a * 2 ^ d.toNat, b * 2 ^ e.toNat) else (-2147483648, 2147483647)
  | .ishr => if 0 ≤ a then (0, b) else (-2147483648, 2147483647)
  | _ => (-2147483648, 2147483647)
theorem ee_mulb {a b d e p q : Int} (h0 : 0 ≤ a) (h0' : 0 ≤ d) (h1 : a ≤ p) (h2 : p ≤ b) (h3 : d ≤ q) (h4 : q ≤ e) : a * d ≤ p * q ∧ p * q ≤ b * e :=
  ⟨Int.mul_le_mul h1 h3 h0' (by omega), Int.mul_le_mul h2 h4 (by omega) (by omega)⟩
theorem ee_ap.ok {ins : ClassFile.Instr} {a b d e : Int} {x y : Int32} (h1 : a ≤ x.toInt) (h2 : x.toInt ≤ b) (h3 : d ≤ y.toInt) (h4 : y.toInt ≤ e) : (ee_ap ins a b d e).1 ≤ (ee_op ins x y).toInt ∧ (ee_op ins x y).toInt ≤ (ee_ap ins a b d e).2 := by
  cases ins with
  | iadd => exact ee_rg.ok (Int32.toInt_add x y) (by omega) (by omega)
  | isub => exact ee_rg.ok (Int32.toInt_sub x y) (by omega) (by omega)
  | imul =>
    simp only [ee_ap, ee_op]
    by_cases q : 0 ≤ a ∧ 0 ≤ d
    · rw [if_pos q]
      have := ee_mulb q.1 q.2 h1 h2 h3 h4
      exact ee_rg.ok (Int32.toInt_mul x y) this.1 this.2
    · rw [if_neg q]; exact ee_rng _
  | idiv =>
    simp only [ee_ap, ee_op]
    by_cases q : 0 ≤ a ∧ 1 ≤ d
    · rw [if_pos q, ee_div (by omega) (by omega)]
      refine ⟨Int.ediv_nonneg (by omega) (by omega), ?_⟩
      show x.toInt / y.toInt ≤ b / d
      have g0 : 0 ≤ x.toInt / y.toInt := Int.ediv_nonneg (by omega) (by omega)
      have g3 : x.toInt / y.toInt * d ≤ x.toInt / y.toInt * y.toInt := Int.mul_le_mul_of_nonneg_left h3 g0
      have g4 : x.toInt / y.toInt * y.toInt ≤ x.toInt := Int.ediv_mul_le _ (by omega)
      have g1 : x.toInt / y.toInt ≤ x.toInt / d := Int.le_ediv_of_mul_le (by omega) (by omega)
      have g2 : x.toInt / d ≤ b / d := Int.ediv_le_ediv (by omega) h2
      omega
    · rw [if_neg q]; exact ee_rng _
  | irem =>
    simp only [ee_ap, ee_op]
    by_cases q : 0 ≤ a ∧ 1 ≤ d
    · rw [if_pos q, ee_rem (by omega) (by omega)]
      have g1 : 0 ≤ x.toInt % y.toInt := Int.emod_nonneg _ (by omega)
      have g2 : x.toInt % y.toInt < y.toInt := Int.emod_lt_of_pos _ (by omega)
      have g0 : 0 ≤ x.toInt / y.toInt := Int.ediv_nonneg (by omega) (by omega)
      have g5 : 0 ≤ x.toInt / y.toInt * y.toInt := Int.mul_nonneg g0 (by omega)
      have g4 : x.toInt % y.toInt + x.toInt / y.toInt * y.toInt = x.toInt := Int.emod_add_ediv_mul x.toInt y.toInt
      have g3 : x.toInt % y.toInt ≤ x.toInt := by omega
      exact ⟨g1, ee_le_mn (by omega) (by omega)⟩
    · rw [if_neg q]; exact ee_rng _
  | iand =>
    simp only [ee_ap, ee_op]
    by_cases q : 0 ≤ d
    · rw [if_pos q]
      have := ee_and_le x y (by omega)
      exact ⟨this.1, by show (x &&& y).toInt ≤ e; omega⟩
    · rw [if_neg q]
      by_cases r : 0 ≤ a
      · rw [if_pos r]
        have := ee_and_le y x (by omega)
        rw [ee_and_comm y x] at this
        exact ⟨this.1, by show (x &&& y).toInt ≤ b; omega⟩
      · rw [if_neg r]
        exact ee_rng _
  | ior =>
    simp only [ee_ap, ee_op]
    by_cases q : 0 ≤ a ∧ 0 ≤ d
    · rw [if_pos q]; exact ee_or (by omega) h2 (by omega) h4
    · rw [if_neg q]; exact ee_rng _
  | ixor =>
    simp only [ee_ap, ee_op]
    by_cases q : 0 ≤ a ∧ 0 ≤ d
    · rw [if_pos q]; exact ee_xor (by omega) h2 (by omega) h4
    · rw [if_neg q]; exact ee_rng _
  | ishl =>
    simp only [ee_ap, ee_op]
    by_cases q : (0 ≤ a ∧ b ≤ 3) ∧ 0 ≤ d ∧ e ≤ 20
    · rw [if_pos q, ee_shl (by omega) (by omega) (by omega) (by omega)]
      obtain ⟨⟨q1, q2⟩, q3, q4⟩ := q
      have pw : ∀ {m n : Nat}, m ≤ n → (2 : Int) ^ m ≤ 2 ^ n := fun {m n} hmn => by
        have := Nat.pow_le_pow_right (show 0 < 2 by decide) hmn
        have e1 : ((2 ^ m : Nat) : Int) = 2 ^ m := by simp
        have e2 : ((2 ^ n : Nat) : Int) = 2 ^ n := by simp
        omega
      have p0 : ∀ m : Nat, (0 : Int) ≤ 2 ^ m := fun m => Int.pow_nonneg (by decide)
      exact ee_mulb q1 (p0 _) h1 h2 (pw (by omega)) (pw (by omega))
    · rw [if_neg q]; exact ee_rng _
  | ishr =>
    simp only [ee_ap, ee_op]
    by_cases q : 0 ≤ a
    · rw [if_pos q]
      have := ee_shr (x := x) (y := y &&& 31) (by omega)
      exact ⟨this.1, by show (x >>> (y &&& 31)).toInt ≤ b; omega⟩
    · rw [if_neg q]; exact ee_rng _
  | _ => exact ee_rng _
def ee_add (ins : ClassFile.Instr) : Bool := match ins with
  | .iadd => true
  | _ => false
end
section
/-! operations on two ints, with what is known of what comes -/
/-- a symbol as another one and a number -/
def ee_rt (iv : ee_iv) (j : Nat) : Nat × Int := match ee_at1 iv j with
  | some q => (match q.2.2.2 with
    | (0, j', d') :: _ => (j', d')
    | _ => (j, 0))
  | none => (j, 0)
theorem ee_rt.ok {ns : List Int32} {iv : ee_iv} {j : Nat} {z : Int32} (h : ee_ok ns iv) (hz : ns[j]? = some z) : ∃ y, ns[(ee_rt iv j).1]? = some y ∧ z.toInt = y.toInt + (ee_rt iv j).2 := by
  unfold ee_rt
  cases hq : ee_at1 iv j with
  | none => exact ⟨z, hz, by show z.toInt = z.toInt + 0; omega⟩
  | some q =>
    simp only
    split
    · rename_i j' d' l hl
      obtain ⟨y, g1, -, -, g4⟩ := ee_at1.ok h hq
      rw [hz] at g1
      cases g1
      exact g4 (0, j', d') (by rw [hl]; exact List.mem_cons_self)
    · exact ⟨z, hz, by show z.toInt = z.toInt + 0; omega⟩
/-- the rest that is known of a symbol -/
def ee_md (iv : ee_iv) (j : Nat) (d : Int) : List ee_fa := match ee_at1 iv j with
  | some q => (match q.2.2.2.find? (fun f => Nat.beq f.1 4) with
    | some f => [(4, f.2.1, (f.2.2 + d) % (f.2.1 : Int))]
    | none => [])
  | none => []
theorem ee_md.ok {ns : List Int32} {iv : ee_iv} {j : Nat} {z r : Int32} {d : Int} (h : ee_ok ns iv) (hz : ns[j]? = some z) (hr : r.toInt = z.toInt + d) : ∀ f ∈ ee_md iv j d, ee_fp ns r f := by
  intro f hf
  unfold ee_md at hf
  cases hq : ee_at1 iv j with
  | none => rw [hq] at hf; cases hf
  | some q =>
    rw [hq] at hf
    simp only at hf
    cases hg : q.2.2.2.find? (fun f => Nat.beq f.1 4) with
    | none => rw [hg] at hf; cases hf
    | some g =>
      rw [hg] at hf
      simp only [List.mem_cons, List.not_mem_nil, or_false] at hf
      subst hf
      obtain ⟨y, g1, -, -, g4⟩ := ee_at1.ok h hq
      rw [hz] at g1
      cases g1
      have e4 : Nat.beq g.1 4 = true := List.find?_some (p := fun f : ee_fa => Nat.beq f.1 4) hg
      have e4 := Nat.eq_of_beq_eq_true e4
      have g5 := g4 g (List.mem_of_find?_eq_some hg)
      obtain ⟨g, m, s⟩ := g
      have e4 : g = 4 := e4
      subst e4
      have g5 : z.toInt % (m : Int) = s := g5
      show r.toInt % (m : Int) = (s + d) % (m : Int)
      rw [hr, ← g5, Int.emod_add_emod]
def ee_fad (iv : ee_iv) (j : Nat) (d : Int) : List ee_fa := (0, (ee_rt iv j).1, (ee_rt iv j).2 + d) :: ee_md iv j d
theorem ee_fad.ok {ns : List Int32} {iv : ee_iv} {j : Nat} {z r : Int32} {d : Int} (h : ee_ok ns iv) (hz : ns[j]? = some z) (hr : r.toInt = z.toInt + d) : ∀ f ∈ ee_fad iv j d, ee_fp ns r f := by
  intro f hf
  rcases List.mem_cons.mp hf with rfl | hf
  · obtain ⟨y, g1, g2⟩ := ee_rt.ok h hz
    exact ⟨y, g1, by omega⟩
  · exact ee_md.ok h hz hr f hf
def ee_in (a b : Int) : Bool := decide (-2147483648 ≤ a) && decide (b ≤ 2147483647)
/-- what is known of what comes -/
def ee_fc (ins : ClassFile.Instr) (iv : ee_iv) (x y : Value) (a b d e : Int) : List ee_fa := match ins with
  | .iadd => if d = e then (match x with
      | .retAddr j => if ee_in (a + d) (b + d) = true then ee_fad iv j d else []
      | _ => []) else if a = b then (match y with
      | .retAddr j => if ee_in (d + a) (e + a) = true then ee_fad iv j a else []
      | _ => []) else (match x, y with
      | .retAddr j, .retAddr k => [(3, j, (k : Int))]
      | _, _ => [])
  | .isub => if d = e then (match x with
      | .retAddr j => if ee_in (a - d) (b - d) = true then ee_fad iv j (-d) else []
      | _ => []) else []
  | .imul => if (d = e ∧ 1 ≤ d) ∧ 0 ≤ a then (if ee_in (a * d) (b * d) = true then [(4, d.toNat, 0)] else []) else if (a = b ∧ 1 ≤ a) ∧ 0 ≤ d then (if ee_in (a * d) (a * e) = true then [(4, a.toNat, 0)] else []) else []
  | .irem => if 0 ≤ a ∧ 1 ≤ d then (match y with
      | .retAddr j => [(1, j, -1)]
      | _ => []) else []
  | _ => []
theorem ee_in.ok {a b : Int} (h : ee_in a b = true) : -2147483648 ≤ a ∧ b ≤ 2147483647 := by
  obtain ⟨h1, h2⟩ := ee_and h
  exact ⟨of_decide_eq_true h1, of_decide_eq_true h2⟩
theorem ee_v.sy {ns : List Int32} {as : List Nat} {ex : Nat → Nat} {j : Nat} {z : Int32} (h : ee_v ns as ex (.retAddr j) (.int z)) : ns[j]? = some z := by
  obtain ⟨y, h1, h2⟩ := h
  cases h2
  exact h1
theorem ee_fc.ok {ns : List Int32} {as : List Nat} {ex : Nat → Nat} {ins : ClassFile.Instr} {iv : ee_iv} {x y : Value} {p q : Int32} {a b d e : Int} (hk : ee_ok ns iv) (hx : ee_v ns as ex x (.int p)) (hy : ee_v ns as ex y (.int q)) (h1 : a ≤ p.toInt) (h2 : p.toInt ≤ b) (h3 : d ≤ q.toInt) (h4 : q.toInt ≤ e) : ∀ f ∈ ee_fc ins iv x y a b d e, ee_fp ns (ee_op ins p q) f := by
  intro f hf
  cases ins with
  | iadd =>
    simp only [ee_fc, ee_op] at hf ⊢
    by_cases e1 : d = e
    · rw [if_pos e1] at hf
      split at hf
      · by_cases e2 : ee_in (a + d) (b + d) = true
        · rw [if_pos e2] at hf
          have := ee_in.ok e2
          exact ee_fad.ok hk hx.sy (by rw [Int32.toInt_add, ee_bmod (by omega) (by omega)]; omega) f hf
        · rw [if_neg e2] at hf; cases hf
      · cases hf
    · rw [if_neg e1] at hf
      by_cases e3 : a = b
      · rw [if_pos e3] at hf
        split at hf
        · by_cases e2 : ee_in (d + a) (e + a) = true
          · rw [if_pos e2] at hf
            have := ee_in.ok e2
            exact ee_fad.ok hk hy.sy (by rw [Int32.toInt_add, ee_bmod (by omega) (by omega)]; omega) f hf
          · rw [if_neg e2] at hf; cases hf
        · cases hf
      · rw [if_neg e3] at hf
        split at hf
        · simp only [List.mem_cons, List.not_mem_nil, or_false] at hf
          subst hf
          exact ⟨p, q, hx.sy, by rw [Int.toNat_natCast]; exact hy.sy, rfl⟩
        · cases hf
  | isub =>
    simp only [ee_fc, ee_op] at hf ⊢
    by_cases e1 : d = e
    · rw [if_pos e1] at hf
      split at hf
      · by_cases e2 : ee_in (a - d) (b - d) = true
        · rw [if_pos e2] at hf
          have := ee_in.ok e2
          exact ee_fad.ok hk hx.sy (by rw [Int32.toInt_sub, ee_bmod (by omega) (by omega)]; omega) f hf
        · rw [if_neg e2] at hf; cases hf
      · cases hf
    · rw [if_neg e1] at hf; cases hf
  | imul =>
    simp only [ee_fc, ee_op] at hf ⊢
    by_cases e1 : (d = e ∧ 1 ≤ d) ∧ 0 ≤ a
    · rw [if_pos e1] at hf
      obtain ⟨⟨e1, e2⟩, e3⟩ := e1
      by_cases e4 : ee_in (a * d) (b * d) = true
      · rw [if_pos e4] at hf
        simp only [List.mem_cons, List.not_mem_nil, or_false] at hf
        subst hf
        have r := ee_in.ok e4
        have hq : q.toInt = d := by omega
        have mb := ee_mulb e3 (show 0 ≤ d by omega) h1 h2 (Int.le_refl d) (Int.le_refl d)
        show (p * q).toInt % ((d.toNat : Nat) : Int) = 0
        rw [Int32.toInt_mul, hq, ee_bmod (by omega) (by omega), show ((d.toNat : Nat) : Int) = d by omega, Int.mul_emod_left]
      · rw [if_neg e4] at hf; cases hf
    · rw [if_neg e1] at hf
      by_cases e1 : (a = b ∧ 1 ≤ a) ∧ 0 ≤ d
      · rw [if_pos e1] at hf
        obtain ⟨⟨e1, e2⟩, e3⟩ := e1
        by_cases e4 : ee_in (a * d) (a * e) = true
        · rw [if_pos e4] at hf
          simp only [List.mem_cons, List.not_mem_nil, or_false] at hf
          subst hf
          have r := ee_in.ok e4
          have hq : p.toInt = a := by omega
          have mb := ee_mulb (show 0 ≤ a by omega) e3 (Int.le_refl a) (Int.le_refl a) h3 h4
          show (p * q).toInt % ((a.toNat : Nat) : Int) = 0
          rw [Int32.toInt_mul, hq, ee_bmod (by omega) (by omega), show ((a.toNat : Nat) : Int) = a by omega, Int.mul_emod_right]
        · rw [if_neg e4] at hf; cases hf
      · rw [if_neg e1] at hf; cases hf
  | irem =>
    simp only [ee_fc, ee_op] at hf ⊢
    by_cases e1 : 0 ≤ a ∧ 1 ≤ d
    · rw [if_pos e1] at hf
      split at hf
      · simp only [List.mem_cons, List.not_mem_nil, or_false] at hf
        subst hf
        refine ⟨q, hy.sy, ?_⟩
        rw [ee_rem (by omega) (by omega)]
        have := Int.emod_lt_of_pos p.toInt (show 0 < q.toInt by omega)
        omega
      · cases hf
    · rw [if_neg e1] at hf; cases hf
  | _ => cases hf
/-- a symbol that is so already -/
def ee_old (iv : ee_iv) (fs : List ee_fa) : Option Nat := match fs with
  | f :: _ => if f.1 = 0 ∨ f.1 = 3 then (match iv.2.find? (fun q => match q.2.2.2 with
      | g :: _ => decide (g = f)
      | [] => false) with
    | some q => some q.1
    | none => none) else none
  | [] => none
theorem ee_fp.one {ns : List Int32} {z y : Int32} {f : ee_fa} (hf : f.1 = 0 ∨ f.1 = 3) (h1 : ee_fp ns z f) (h2 : ee_fp ns y f) : z = y := by
  obtain ⟨kd, j, d⟩ := f
  rcases hf with hf | hf
  · have hf : kd = 0 := hf
    subst hf
    obtain ⟨u, g1, g2⟩ := h1
    obtain ⟨v, g3, g4⟩ := h2
    rw [g1] at g3
    cases g3
    exact Int32.toInt_inj.mp (by omega)
  · have hf : kd = 3 := hf
    subst hf
    obtain ⟨u, u2, g1, g2, g3⟩ := h1
    obtain ⟨v, v2, g4, g5, g6⟩ := h2
    rw [g1] at g4
    rw [g2] at g5
    cases g4; cases g5
    rw [g3, g6]
theorem ee_old.ok {ns : List Int32} {as : List Nat} {ex : Nat → Nat} {iv : ee_iv} {fs : List ee_fa} {k : Nat} {z : Int32} (hk : ee_ok ns iv) (h : ee_old iv fs = some k) (hz : ∀ f ∈ fs, ee_fp ns z f) : ee_v ns as ex (.retAddr k) (.int z) := by
  unfold ee_old at h
  cases fs with
  | nil => cases h
  | cons f fs =>
    simp only at h
    by_cases hf : f.1 = 0 ∨ f.1 = 3
    · rw [if_pos hf] at h
      split at h
      · rename_i q hq
        cases h
        obtain ⟨y, g1, -, -, g4⟩ := hk.2 q (List.mem_of_find?_eq_some hq)
        have hp : (match q.2.2.2 with
          | g :: _ => decide (g = f)
          | [] => false) = true := List.find?_some (p := fun q : ee_ve => match q.2.2.2 with
            | g :: _ => decide (g = f)
            | [] => false) hq
        split at hp
        · rename_i g l hl
          have e := of_decide_eq_true hp
          subst e
          have := ee_fp.one hf (g4 g (by rw [hl]; exact List.mem_cons_self)) (hz g List.mem_cons_self)
          exact ⟨y, g1, by rw [this]⟩
        · cases hp
      · cases h
    · rw [if_neg hf] at h; cases h
/-- an operation on two ints -/
def ee_bin (ins : ClassFile.Instr) (iv : ee_iv) (x y : Value) : Option (Value × ee_iv) := match ee_cn iv x, ee_cn iv y with
  | some a, some b => some (.int (ee_op ins a b), iv)
  | _, _ => (match ee_it iv x, ee_it iv y with
    | some (a, b), some (d, e) => if ee_add ins = true ∧ d = 0 ∧ e = 0 then some (x, iv) else if ee_add ins = true ∧ a = 0 ∧ b = 0 then some (y, iv) else (match ee_old iv (ee_fc ins iv x y a b d e) with
      | some k => some (.retAddr k, iv)
      | none => some (.retAddr iv.1, ee_ps iv (ee_ap ins a b d e).1 (ee_ap ins a b d e).2 (ee_fc ins iv x y a b d e)))
    | _, _ => none)
theorem ee_bin.ok {ns : List Int32} {as : List Nat} {ex : Nat → Nat} {ins : ClassFile.Instr} {iv iv' : ee_iv} {x y r vx vy : Value} (hk : ee_ok ns iv) (hx : ee_v ns as ex x vx) (hy : ee_v ns as ex y vy) (h : ee_bin ins iv x y = some (r, iv')) :
    ∃ a b : Int32, vx = .int a ∧ vy = .int b ∧ ((iv' = iv ∧ ee_v ns as ex r (.int (ee_op ins a b))) ∨ ∃ (lo hi : Int) (fs : List ee_fa), r = .retAddr iv.1 ∧ iv' = ee_ps iv lo hi fs ∧ lo ≤ (ee_op ins a b).toInt ∧ (ee_op ins a b).toInt ≤ hi ∧ ∀ f ∈ fs, ee_fp ns (ee_op ins a b) f) := by
  unfold ee_bin at h
  split at h
  · rename_i a b h1 h2
    cases h
    exact ⟨a, b, ee_cn.int hk hx h1, ee_cn.int hk hy h2, Or.inl ⟨rfl, rfl⟩⟩
  · split at h
    · rename_i a b d e h1 h2
      obtain ⟨p, rfl, p1, p2⟩ := ee_it.int hk hx h1
      obtain ⟨q, rfl, q1, q2⟩ := ee_it.int hk hy h2
      refine ⟨p, q, rfl, rfl, ?_⟩
      split at h
      · rename_i hc
        cases h
        obtain ⟨h0, rfl, rfl⟩ := hc
        have hz := ee_zero q1 q2
        subst hz
        left
        refine ⟨rfl, ?_⟩
        cases ins with
        | iadd => rw [show ee_op .iadd p 0 = p from Int32.add_zero p]; exact hx
        | _ => cases h0
      · split at h
        · rename_i hc
          cases h
          obtain ⟨h0, rfl, rfl⟩ := hc
          have hz := ee_zero p1 p2
          subst hz
          left
          refine ⟨rfl, ?_⟩
          cases ins with
          | iadd => rw [show ee_op .iadd 0 q = q from Int32.zero_add q]; exact hy
          | _ => cases h0
        · have hfc := ee_fc.ok (ins := ins) hk hx hy p1 p2 q1 q2
          split at h
          · rename_i k ho
            cases h
            exact Or.inl ⟨rfl, ee_old.ok hk ho hfc⟩
          · cases h
            have := ee_ap.ok (ins := ins) p1 p2 q1 q2
            exact Or.inr ⟨_, _, _, rfl, rfl, this.1, this.2, hfc⟩
    · cases h
def ee_h6 : ee_H := fun nL _ _ e st => match st with
  | (pc, lo, stk, w, iv, kc, ks, sv) => (match e.2.1 with
      | .iinc i n => (match ee_ld iv lo i with
        | some x => (match ee_bin .iadd iv x (.int (Int32.ofInt n)) with
          | some (r, iv') => if i < nL then ee_nx e.2.2.1 3 [(pc + 3, ee_sl i r lo, stk, w, iv', kc, ks, sv)] else none
          | none => none)
        | none => none)
      | _ => none)
set_option maxHeartbeats 2000000 in
theorem ee_h6.snd : ee_Snd ee_h6 := by
  intro X Y oc own cc ini dm bc bs Q e st sts F ho hi hd he hpc h k
  obtain ⟨p, l, en, R, s, m, args, below, meth, c⟩ := X
  obtain ⟨A, D, dA, ex, x0, a0, sv0, nL⟩ := Y
  obtain ⟨pc, lo, stk, w, iv, kc, ks, sv⟩ := st
  obtain ⟨pc', ins, len, hn, ea, eb, ez, qa, qb, qc⟩ := e
  obtain ⟨hx, hb, hml, hown, hts, hK, hA, hini, hR, hE⟩ := F
  have hpc : pc = pc' := hpc
  subst hpc
  have hd : decode cc pc = .ok (ins, len) := hd
  intro ns as H lc ls vs C
  obtain ⟨c1, c2, c3, c4, c5, c6⟩ := C
  show W p l en R s m args below meth c H lc kc ks Q (F0 m pc ls vs)
  cases ins with
  | iinc i n =>
    replace h : (match ee_ld iv lo i with
        | some x => (match ee_bin .iadd iv x (.int (Int32.ofInt n)) with
          | some (r, iv') => if i < nL then ee_nx len 3 [(pc + 3, ee_sl i r lo, stk, w, iv', kc, ks, sv)] else none
          | none => none)
        | none => none) = some sts := h
    cases hq : ee_ld iv lo i with
    | none => rw [hq] at h; exact ee_no h
    | some x =>
      rw [hq] at h
      simp only at h
      cases hr : ee_bin .iadd iv x (.int (Int32.ofInt n)) with
      | none => rw [hr] at h; exact ee_no h
      | some r =>
        obtain ⟨r, iv'⟩ := r
        rw [hr] at h
        simp only at h
        by_cases hl : i < nL
        · rw [if_pos hl] at h
          obtain ⟨rfl, rfl⟩ := ee_nx_some h
          obtain ⟨lv, c3, c3l⟩ := c3
          obtain ⟨z, g0, g1, g2⟩ := ee_ld.ok c1 c3 c3l hq
          obtain ⟨j, hj⟩ := List.getElem?_of_mem g0
          obtain ⟨a, b, ea1, eb1, g3⟩ := ee_bin.ok c1 g2 (show ee_v ns as ex (.int (Int32.ofInt n)) (.int (Int32.ofInt n)) from rfl) hr
          cases ea1
          cases eb1
          rcases g3 with ⟨rfl, g3⟩ | ⟨lo1, hi1, fs1, rfl, rfl, g4, g5, g6⟩
          · exact lv_iinc hx hb hd c3 hj rfl hl rfl (fun ls' hl' => k _ List.mem_cons_self ns as H lc ls' _ ⟨c1, c2, ⟨_, hl', ee_sl.ok c3l g3⟩, c4, c5, c6⟩)
          · refine lv_iinc hx hb hd c3 hj rfl hl rfl (fun ls' hl' => ?_)
            obtain ⟨d1, d2, d3, d4, d5, d6⟩ := ee_Con.grow (s := s) (A := A) (D := D) (dA := dA) (ex := ex) (x0 := x0) (a0 := a0) (sv0 := sv0) (nL := nL) (lo := lo) (ls := ls) ⟨c1, c2, ⟨lv, c3, c3l⟩, c4, c5, c6⟩ g4 g5 (fs := fs1) g6
            refine k _ List.mem_cons_self _ as H lc ls' _ ⟨d1, d2, ⟨_, hl', ee_sl.ok (c3l.imp (fun a b q => ⟨q.1, by simpa using ee_v.mono [_] [] q.2⟩)) ⟨_, c1.last _, rfl⟩⟩, d4, d5, d6⟩
        · rw [if_neg hl] at h
          exact ee_no h
  | _ => exact ee_no h
/-- a symbol of few numbers, one by one -/
def ee_sp (iv : ee_iv) (x : Value) : List ee_iv := match ee_it iv x with
  | some q => if q.1 < q.2 ∧ q.2 - q.1 < 1100 then (List.range (q.2 - q.1 + 1).toNat).map (fun (j : Nat) => ee_put iv x (q.1 + j) (q.1 + j)) else []
  | none => []
theorem ee_sp.ok {ns : List Int32} {as : List Nat} {ex : Nat → Nat} {iv : ee_iv} {x v : Value} (hk : ee_ok ns iv) (hx : ee_v ns as ex x v) (h : ee_sp iv x ≠ []) : ∃ iv', iv' ∈ ee_sp iv x ∧ ee_ok ns iv' := by
  unfold ee_sp at h ⊢
  cases hq : ee_it iv x with
  | none => rw [hq] at h; exact absurd rfl h
  | some q =>
    rw [hq] at h
    simp only at h ⊢
    obtain ⟨z, rfl, z1, z2⟩ := ee_it.int hk hx hq
    by_cases hc : q.1 < q.2 ∧ q.2 - q.1 < 1100
    · rw [if_pos hc]
      refine ⟨_, List.mem_map.mpr ⟨(z.toInt - q.1).toNat, List.mem_range.mpr (by omega), rfl⟩, ?_⟩
      exact ee_put.ok hk hx (by omega) (by omega)
    · rw [if_neg hc] at h
      exact absurd rfl h
def ee_two (ins : ClassFile.Instr) : Bool := match ins with
  | .iadd => true
  | .isub => true
  | .imul => true
  | .iand => true
  | .ior => true
  | .ixor => true
  | .ishl => true
  | .ishr => true
  | .iushr => true
  | _ => false
def ee_h7 : ee_H := fun _ _ _ e st => match st with
  | (pc, lo, y :: x :: stk, w, iv, kc, ks, sv) => if ee_two e.2.1 = true then (match ee_bin e.2.1 iv x y with
      | some (r, iv') => ee_nx e.2.2.1 1 [(pc + 1, lo, r :: stk, w, iv', kc, ks, sv)]
      | none => none) else none
  | _ => none
set_option maxHeartbeats 2000000 in
theorem ee_h7.snd : ee_Snd ee_h7 := by
  intro X Y oc own cc ini dm bc bs Q e st sts F ho hi hd he hpc h k
  obtain ⟨p, l, en, R, s, m, args, below, meth, c⟩ := X
  obtain ⟨A, D, dA, ex, x0, a0, sv0, nL⟩ := Y
  obtain ⟨pc, lo, stk, w, iv, kc, ks, sv⟩ := st
  obtain ⟨pc', ins, len, hn, ea, eb, ez, qa, qb, qc⟩ := e
  obtain ⟨hx, hb, hml, hown, hts, hK, hA, hini, hR, hE⟩ := F
  have hpc : pc = pc' := hpc
  subst hpc
  have hd : decode cc pc = .ok (ins, len) := hd
  intro ns as H lc ls vs C
  obtain ⟨c1, c2, c3, c4, c5, c6⟩ := C
  show W p l en R s m args below meth c H lc kc ks Q (F0 m pc ls vs)
  match stk, vs, c4, h with
  | [], _, _, h => exact ee_no h
  | [_], _, _, h => exact ee_no h
  | y :: x :: stk, [], c4, h => exact c4.elim
  | y :: x :: stk, [_], c4, h => exact c4.2.elim
  | y :: x :: stk, vy :: vx :: vs, ⟨cy, cx, c4⟩, h =>
    replace h : (if ee_two ins = true then (match ee_bin ins iv x y with
      | some (r, iv') => ee_nx len 1 [(pc + 1, lo, r :: stk, w, iv', kc, ks, sv)]
      | none => none) else none) = some sts := h
    by_cases ht : ee_two ins = true
    · rw [if_pos ht] at h
      cases hr : ee_bin ins iv x y with
      | none => rw [hr] at h; exact ee_no h
      | some r =>
        obtain ⟨r, iv'⟩ := r
        rw [hr] at h
        obtain ⟨rfl, rfl⟩ := ee_nx_some h
        obtain ⟨a, b, rfl, rfl, g3⟩ := ee_bin.ok c1 cx cy hr
        have key : W p l en R s m args below meth c H lc kc ks Q (F0 m (pc + 1) ls (.int (ee_op ins a b) :: vs)) := by
          rcases g3 with ⟨rfl, g3⟩ | ⟨lo1, hi1, fs1, rfl, rfl, g4, g5, g6⟩
          · exact k _ List.mem_cons_self ns as H lc ls _ ⟨c1, c2, c3, ⟨g3, c4⟩, c5, c6⟩
          · obtain ⟨d1, d2, d3, d4, d5, d6⟩ := ee_Con.grow (s := s) (A := A) (D := D) (dA := dA) (ex := ex) (x0 := x0) (a0 := a0) (sv0 := sv0) (nL := nL) (lo := lo) (ls := ls) ⟨c1, c2, c3, c4, c5, c6⟩ g4 g5 (fs := fs1) g6
            exact k _ List.mem_cons_self _ as H lc ls _ ⟨d1, d2, d3, ⟨⟨_, c1.last _, rfl⟩, d4⟩, d5, d6⟩
        cases ins with
        | iadd => exact lv_iadd hx hb hd key
        | isub => exact lv_isub hx hb hd key
        | imul => exact lv_imul hx hb hd key
        | iand => exact lv_iand hx hb hd key
        | ior => exact lv_ior hx hb hd key
        | ixor => exact lv_ixor hx hb hd key
        | ishl => exact lv_ishl hx hb hd key
        | ishr => exact lv_ishr hx hb hd key
        | iushr => exact lv_iushr hx hb hd rfl key
        | _ => cases ht
    · rw [if_neg ht] at h
      exact ee_no h
def ee_h8 : ee_H := fun _ _ _ e st => match st with
  | (pc, lo, y :: x :: stk, w, iv, kc, ks, sv) => (match ee_it iv y with
    | some (d, u) => if 0 < d ∨ u < 0 then (match e.2.1 with
      | .idiv => (match ee_bin .idiv iv x y with
        | some (r, iv') => ee_nx e.2.2.1 1 [(pc + 1, lo, r :: stk, w, iv', kc, ks, sv)]
        | none => none)
      | .irem => (match ee_bin .irem iv x y with
        | some (r, iv') => ee_nx e.2.2.1 1 [(pc + 1, lo, r :: stk, w, iv', kc, ks, sv)]
        | none => none)
      | _ => none) else none
    | none => none)
  | _ => none
set_option maxHeartbeats 2000000 in
theorem ee_h8.snd : ee_Snd ee_h8 := by
  intro X Y oc own cc ini dm bc bs Q e st sts F ho hi hd he hpc h k
  obtain ⟨p, l, en, R, s, m, args, below, meth, c⟩ := X
  obtain ⟨A, D, dA, ex, x0, a0, sv0, nL⟩ := Y
  obtain ⟨pc, lo, stk, w, iv, kc, ks, sv⟩ := st
  obtain ⟨pc', ins, len, hn, ea, eb, ez, qa, qb, qc⟩ := e
  obtain ⟨hx, hb, hml, hown, hts, hK, hA, hini, hR, hE⟩ := F
  have hpc : pc = pc' := hpc
  subst hpc
  have hd : decode cc pc = .ok (ins, len) := hd
  intro ns as H lc ls vs C
  obtain ⟨c1, c2, c3, c4, c5, c6⟩ := C
  show W p l en R s m args below meth c H lc kc ks Q (F0 m pc ls vs)
  match stk, vs, c4, h with
  | [], _, _, h => exact ee_no h
  | [_], _, _, h => exact ee_no h
  | y :: x :: stk, [], c4, h => exact c4.elim
  | y :: x :: stk, [_], c4, h => exact c4.2.elim
  | y :: x :: stk, vy :: vx :: vs, ⟨cy, cx, c4⟩, h =>
    replace h : (match ee_it iv y with
      | some (d, u) => if 0 < d ∨ u < 0 then (match (generalizing := false) ins with
        | .idiv => (match ee_bin .idiv iv x y with
          | some (r, iv') => ee_nx len 1 [(pc + 1, lo, r :: stk, w, iv', kc, ks, sv)]
          | none => none)
        | .irem => (match ee_bin .irem iv x y with
          | some (r, iv') => ee_nx len 1 [(pc + 1, lo, r :: stk, w, iv', kc, ks, sv)]
          | none => none)
        | _ => none) else none
      | none => none) = some sts := h
    cases hq : ee_it iv y with
    | none => rw [hq] at h; exact ee_no h
    | some q =>
      obtain ⟨d, u⟩ := q
      rw [hq] at h
      simp only at h
      by_cases hc : 0 < d ∨ u < 0
      · rw [if_pos hc] at h
        obtain ⟨b0, rfl, b1, b2⟩ := ee_it.int c1 cy hq
        have hne : ¬ b0 = 0 := fun z => by
          rw [z, Int32.toInt_zero] at b1 b2
          omega
        have go : ∀ ins' : ClassFile.Instr, (match ee_bin ins' iv x y with
          | some (r, iv') => ee_nx len 1 [(pc + 1, lo, r :: stk, w, iv', kc, ks, sv)]
          | none => none) = some sts → len = 1 ∧ ∃ a : Int32, vx = .int a ∧ W p l en R s m args below meth c H lc kc ks Q (F0 m (pc + 1) ls (.int (ee_op ins' a b0) :: vs)) := by
          intro ins' h
          cases hr : ee_bin ins' iv x y with
          | none => rw [hr] at h; exact ee_no h
          | some r =>
            obtain ⟨r, iv'⟩ := r
            rw [hr] at h
            obtain ⟨rfl, rfl⟩ := ee_nx_some h
            obtain ⟨a, b, rfl, eb1, g3⟩ := ee_bin.ok c1 cx cy hr
            cases eb1
            refine ⟨rfl, a, rfl, ?_⟩
            rcases g3 with ⟨rfl, g3⟩ | ⟨lo1, hi1, fs1, rfl, rfl, g4, g5, g6⟩
            · exact k _ List.mem_cons_self ns as H lc ls _ ⟨c1, c2, c3, ⟨g3, c4⟩, c5, c6⟩
            · obtain ⟨d1, d2, d3, d4, d5, d6⟩ := ee_Con.grow (s := s) (A := A) (D := D) (dA := dA) (ex := ex) (x0 := x0) (a0 := a0) (sv0 := sv0) (nL := nL) (lo := lo) (ls := ls) ⟨c1, c2, c3, c4, c5, c6⟩ g4 g5 (fs := fs1) g6
              exact k _ List.mem_cons_self _ as H lc ls _ ⟨d1, d2, d3, ⟨⟨_, c1.last _, rfl⟩, d4⟩, d5, d6⟩
        cases ins with
        | idiv =>
          obtain ⟨rfl, a, rfl, key⟩ := go .idiv h
          exact lv_idiv hx hb hd hne key
        | irem =>
          obtain ⟨rfl, a, rfl, key⟩ := go .irem h
          exact lv_irem hx hb hd hne key
        | _ => exact ee_no h
      · rw [if_neg hc] at h
        exact ee_no h
end
section
/-! handlers: longs, narrow ints, the stack, branches -/
theorem ee_lcmp (x y : Int64) : -1 ≤ (lg_cmp x y).toInt ∧ (lg_cmp x y).toInt ≤ 1 := by
  unfold lg_cmp
  split
  · decide
  · split <;> decide
theorem ee_lcmp0 (x : Int64) : lg_cmp x x = 0 := by
  unfold lg_cmp
  rw [if_neg (fun h => absurd (Int64.lt_iff_toInt_lt.mp h) (by omega)), if_pos rfl]
theorem ee_lcmpn {x y : Int64} (h : x ≠ y) : (lg_cmp x y).toInt ≠ 0 := by
  unfold lg_cmp
  split
  · decide
  · first | decide | (rw [if_neg h]; decide)
/-- a long of those outside, by its number -/
def ee_lk (x : Value) : Option UInt64 := match x with
  | .double k => if k = 0 then none else some k
  | _ => none
def ee_lc (x : Value) : Option Int64 := match x with
  | .long c => some c
  | _ => none
theorem ee_lk.ok {x : Value} {k : UInt64} (h : ee_lk x = some k) : x = .double k ∧ k ≠ 0 := by
  unfold ee_lk at h
  split at h
  · rename_i j
    by_cases hj : j = 0
    · rw [if_pos hj] at h; cases h
    · rw [if_neg hj] at h
      cases h
      exact ⟨rfl, hj⟩
  · cases h
theorem ee_lc.ok {x : Value} {c : Int64} (h : ee_lc x = some c) : x = .long c := by
  unfold ee_lc at h
  split at h
  · cases h; rfl
  · cases h
theorem ee_v.lsy {ns : List Int32} {as : List Nat} {ex : Nat → Nat} {k : UInt64} {z : Int64} (hk : k ≠ 0) (h : ee_v ns as ex (.double k) (.long z)) : z = Int64.ofNat (ex (3000000 + k.toNat)) := by
  unfold ee_v at h
  simp only [hk, if_false] at h
  cases h
  rfl
/-- that long put in place of its name -/
def ee_sb (k : UInt64) (c : Int64) (x : Value) : Value := if x = .double k then .long c else x
theorem ee_sb.ok {ns : List Int32} {as : List Nat} {ex : Nat → Nat} {k : UInt64} {c : Int64} {x v : Value} (hk : k ≠ 0) (hc : Int64.ofNat (ex (3000000 + k.toNat)) = c) (h : ee_v ns as ex x v) : ee_v ns as ex (ee_sb k c x) v := by
  unfold ee_sb
  by_cases e : x = .double k
  · rw [if_pos e]
    subst e
    obtain ⟨z, rfl⟩ := h.dbl
    rw [ee_v.lsy hk h, hc]
    rfl
  · rw [if_neg e]; exact h
def ee_sbc (k : UInt64) (c : Int64) (x : ee_cell) : ee_cell := match x with
  | .inl (ci, fs) => .inl (ci, fs.map (ee_sb k c))
  | .inr q => .inr q
theorem ee_all.mapl {α β : Type} {R : α → β → Prop} {g : α → α} (h : ∀ a b, R a b → R (g a) b) : ∀ {l : List α} {k : List β}, ee_all R l k → ee_all R (l.map g) k
  | [], [], _ => trivial
  | a :: l, b :: k, q => ⟨h a b q.1, ee_all.mapl h q.2⟩
  | [], _ :: _, q => q.elim
  | _ :: _, [], q => q.elim
theorem ee_sbc.ok {ns : List Int32} {as : List Nat} {ex : Nat → Nat} {dA : Nat → ClassId} {k : UInt64} {c : Int64} {x : ee_cell} {e : va_E} (hk : k ≠ 0) (hc : Int64.ofNat (ex (3000000 + k.toNat)) = c) (h : ee_c ns as ex dA x e) : ee_c ns as ex dA (ee_sbc k c x) e := by
  match x, h with
  | .inl (ci, fs), ⟨vs, h1, h2⟩ => exact ⟨vs, h1, h2.mapl (fun a b q => ee_sb.ok hk hc q)⟩
  | .inr q, h => exact h
def ee_lq (pc : Nat) (k : UInt64) (c : Int64) (lo : List (Nat × Value)) (stk : List Value) (w : ee_w) (iv : ee_iv) (kc ks : Nat) (sv : List Value) : List ee_st :=
  [(pc + 1, lo.map (fun q => (q.1, ee_sb k c q.2)), .int 0 :: stk.map (ee_sb k c), w.map (ee_sbc k c), iv, kc, ks, sv.map (ee_sb k c)), (pc + 1, lo, .retAddr iv.1 :: stk, w, ee_ps iv (-1) 1 [(6, 0, 0)], kc, ks, sv)]
def ee_la2 (pc : Nat) (lo : List (Nat × Value)) (stk : List Value) (w : ee_w) (iv : ee_iv) (kc ks : Nat) (sv : List Value) : List ee_st := [(pc + 1, lo, .retAddr iv.1 :: stk, w, ee_ps iv (-1) 1 [], kc, ks, sv)]
/-- the states behind lcmp of y and x -/
def ee_lcm (pc : Nat) (y x : Value) (lo : List (Nat × Value)) (stk : List Value) (w : ee_w) (iv : ee_iv) (kc ks : Nat) (sv : List Value) : List ee_st := match ee_lc x with
  | some c => (match ee_lc y with
    | some d => [(pc + 1, lo, .int (lg_cmp d c) :: stk, w, iv, kc, ks, sv)]
    | none => (match ee_lk y with
      | some k => ee_lq pc k c lo stk w iv kc ks sv
      | none => ee_la2 pc lo stk w iv kc ks sv))
  | none => (match ee_lc y with
    | some d => (match ee_lk x with
      | some k => ee_lq pc k d lo stk w iv kc ks sv
      | none => ee_la2 pc lo stk w iv kc ks sv)
    | none => ee_la2 pc lo stk w iv kc ks sv)
theorem ee_lcm.ok {p : Program} {l : Launch} {en : Env} {R : Room} {s : State} {m : MethodId} {args : Array Value} {below : List Frame} {meth : Method} {c : Code} {A : Nat → Prop} {D : va_G} {dA : Nat → ClassId} {ex : Nat → Nat} {x0 : List Int32} {a0 : List Nat} {sv0 : List Value} {nL : Nat} {Q : State → Prop} {pc : Nat} {y x : Value} {lo : List (Nat × Value)} {stk : List Value} {w : ee_w} {iv : ee_iv} {kc ks : Nat} {sv : List Value} (k : ∀ q ∈ ee_lcm pc y x lo stk w iv kc ks sv, ee_G (p, l, en, R, s, m, args, below, meth, c) (A, D, dA, ex, x0, a0, sv0, nL) Q q) {ns : List Int32} {as : List Nat} {H : Heap} {lc : List Loc} {ls : Array Slot} {vs : List Value} {a b : Int64} (C : ee_Con s A D dA ex x0 a0 sv0 nL lo stk w iv sv ns as H lc ls vs) (hx : ee_v ns as ex x (.long a)) (hy : ee_v ns as ex y (.long b)) :
    W p l en R s m args below meth c H lc kc ks Q (F0 m (pc + 1) ls (.int (lg_cmp b a) :: vs)) := by
  have any : (∀ q ∈ ee_la2 pc lo stk w iv kc ks sv, ee_G (p, l, en, R, s, m, args, below, meth, c) (A, D, dA, ex, x0, a0, sv0, nL) Q q) → W p l en R s m args below meth c H lc kc ks Q (F0 m (pc + 1) ls (.int (lg_cmp b a) :: vs)) := fun k => by
    have g := ee_lcmp b a
    obtain ⟨d1, d2, d3, d4, d5, d6⟩ := C.grow g.1 g.2 (fs := []) (fun _ q => by cases q)
    exact k _ List.mem_cons_self _ as H lc ls _ ⟨d1, d2, d3, ⟨⟨_, C.1.last _, rfl⟩, d4⟩, d5, d6⟩
  have one : ∀ (j : UInt64) (d : Int64), j ≠ 0 → (Int64.ofNat (ex (3000000 + j.toNat)) = d ↔ b = a) → (∀ q ∈ ee_lq pc j d lo stk w iv kc ks sv, ee_G (p, l, en, R, s, m, args, below, meth, c) (A, D, dA, ex, x0, a0, sv0, nL) Q q) → W p l en R s m args below meth c H lc kc ks Q (F0 m (pc + 1) ls (.int (lg_cmp b a) :: vs)) := fun j d hj hq k => by
    by_cases e : b = a
    · have hc := hq.mpr e
      subst e
      rw [ee_lcmp0]
      obtain ⟨c1, c2, ⟨lv, c3, c3l⟩, c4, c5, ws, ⟨cw1, cw2⟩, c6⟩ := C
      exact k _ List.mem_cons_self ns as H lc ls _ ⟨c1, c2, ⟨lv, c3, c3l.mapl (fun q r z => ⟨z.1, ee_sb.ok hj hc z.2⟩)⟩, ⟨rfl, c4.mapl (fun _ _ z => ee_sb.ok hj hc z)⟩, c5.mapl (fun _ _ z => ee_sb.ok hj hc z), ws, ⟨cw1, ee_all.mapl (R := fun (x : ee_cell) (q : Nat × va_E) => ee_c ns as ex dA x q.2) (fun _ _ z => ee_sbc.ok hj hc z) cw2⟩, c6⟩
    · have g := ee_lcmp b a
      obtain ⟨d1, d2, d3, d4, d5, d6⟩ := C.grow g.1 g.2 (fs := [(6, 0, 0)]) (fun f q => by
        simp only [List.mem_cons, List.not_mem_nil, or_false] at q
        subst q
        exact ee_lcmpn e)
      exact k _ (List.mem_cons_of_mem _ List.mem_cons_self) _ as H lc ls _ ⟨d1, d2, d3, ⟨⟨_, C.1.last _, rfl⟩, d4⟩, d5, d6⟩
  unfold ee_lcm at k
  cases hlx : ee_lc x with
  | some c =>
    rw [hlx] at k
    have ex1 := ee_lc.ok hlx
    subst ex1
    cases (show Value.long a = Value.long c from hx)
    simp only at k
    cases hly : ee_lc y with
    | some d =>
      rw [hly] at k
      have ey1 := ee_lc.ok hly
      subst ey1
      cases (show Value.long b = Value.long d from hy)
      obtain ⟨c1, c2, c3, c4, c5, c6⟩ := C
      exact k _ List.mem_cons_self ns as H lc ls _ ⟨c1, c2, c3, ⟨rfl, c4⟩, c5, c6⟩
    | none =>
      rw [hly] at k
      simp only at k
      cases hky : ee_lk y with
      | none => rw [hky] at k; exact any k
      | some j =>
        rw [hky] at k
        obtain ⟨e1, e2⟩ := ee_lk.ok hky
        subst e1
        exact one j a e2 (by rw [ee_v.lsy e2 hy]) k
  | none =>
    rw [hlx] at k
    simp only at k
    cases hly : ee_lc y with
    | none => rw [hly] at k; exact any k
    | some d =>
      rw [hly] at k
      have ey1 := ee_lc.ok hly
      subst ey1
      cases (show Value.long b = Value.long d from hy)
      simp only at k
      cases hkx : ee_lk x with
      | none => rw [hkx] at k; exact any k
      | some j =>
        rw [hkx] at k
        obtain ⟨e1, e2⟩ := ee_lk.ok hkx
        subst e1
        exact one j b e2 (by rw [ee_v.lsy e2 hx]; exact eq_comm) k
def ee_h9 : ee_H := fun _ _ _ e st => match st with
  | (pc, lo, x :: y :: stk, w, iv, kc, ks, sv) => if ee_isl x = true ∧ ee_isl y = true then (match e.2.1 with
      | .ladd => ee_nx e.2.2.1 1 [(pc + 1, lo, .double 0 :: stk, w, iv, kc, ks, sv)]
      | .lmul => ee_nx e.2.2.1 1 [(pc + 1, lo, .double 0 :: stk, w, iv, kc, ks, sv)]
      | .lor => ee_nx e.2.2.1 1 [(pc + 1, lo, .double 0 :: stk, w, iv, kc, ks, sv)]
      | .lcmp => ee_nx e.2.2.1 1 (ee_lcm pc y x lo stk w iv kc ks sv)
      | _ => none) else (match ee_it iv x with
      | some _ => (match e.2.1 with
        | .i2l => ee_nx e.2.2.1 1 [(pc + 1, lo, .double 0 :: y :: stk, w, iv, kc, ks, sv)]
        | .lshl => if ee_isl y = true then ee_nx e.2.2.1 1 [(pc + 1, lo, .double 0 :: stk, w, iv, kc, ks, sv)] else none
        | _ => none)
      | none => none)
  | _ => none
set_option maxHeartbeats 2000000 in
theorem ee_h9.snd : ee_Snd ee_h9 := by
  intro X Y oc own cc ini dm bc bs Q e st sts F ho hi hd he hpc h k
  obtain ⟨p, l, en, R, s, m, args, below, meth, c⟩ := X
  obtain ⟨A, D, dA, ex, x0, a0, sv0, nL⟩ := Y
  obtain ⟨pc, lo, stk, w, iv, kc, ks, sv⟩ := st
  obtain ⟨pc', ins, len, hn, ea, eb, ez, qa, qb, qc⟩ := e
  obtain ⟨hx, hb, hml, hown, hts, hK, hA, hini, hR, hE⟩ := F
  have hpc : pc = pc' := hpc
  subst hpc
  have hd : decode cc pc = .ok (ins, len) := hd
  intro ns as H lc ls vs C
  obtain ⟨c1, c2, c3, c4, c5, c6⟩ := C
  show W p l en R s m args below meth c H lc kc ks Q (F0 m pc ls vs)
  match stk, vs, c4, h with
  | [], _, _, h => exact ee_no h
  | [_], _, _, h => exact ee_no h
  | x :: y :: stk, [], c4, h => exact c4.elim
  | x :: y :: stk, [_], c4, h => exact c4.2.elim
  | x :: y :: stk, vx :: vy :: vs, ⟨cx, cy, c4⟩, h =>
    replace h : (if ee_isl x = true ∧ ee_isl y = true then (match (generalizing := false) ins with
      | .ladd => ee_nx len 1 [(pc + 1, lo, .double 0 :: stk, w, iv, kc, ks, sv)]
      | .lmul => ee_nx len 1 [(pc + 1, lo, .double 0 :: stk, w, iv, kc, ks, sv)]
      | .lor => ee_nx len 1 [(pc + 1, lo, .double 0 :: stk, w, iv, kc, ks, sv)]
      | .lcmp => ee_nx len 1 (ee_lcm pc y x lo stk w iv kc ks sv)
      | _ => none) else (match ee_it iv x with
      | some _ => (match (generalizing := false) ins with
        | .i2l => ee_nx len 1 [(pc + 1, lo, .double 0 :: y :: stk, w, iv, kc, ks, sv)]
        | .lshl => if ee_isl y = true then ee_nx len 1 [(pc + 1, lo, .double 0 :: stk, w, iv, kc, ks, sv)] else none
        | _ => none)
      | none => none)) = some sts := h
    by_cases hc : ee_isl x = true ∧ ee_isl y = true
    · rw [if_pos hc] at h
      obtain ⟨a, rfl⟩ := ee_isl.ok cx hc.1
      obtain ⟨b, rfl⟩ := ee_isl.ok cy hc.2
      cases ins with
      | ladd =>
        obtain ⟨rfl, rfl⟩ := ee_nx_some (show ee_nx len 1 _ = some sts from h)
        exact lv_ladd hx hb hd (k _ List.mem_cons_self ns as H lc ls _ ⟨c1, c2, c3, ⟨⟨_, rfl⟩, c4⟩, c5, c6⟩)
      | lmul =>
        obtain ⟨rfl, rfl⟩ := ee_nx_some (show ee_nx len 1 _ = some sts from h)
        exact lv_lmul hx hb hd (k _ List.mem_cons_self ns as H lc ls _ ⟨c1, c2, c3, ⟨⟨_, rfl⟩, c4⟩, c5, c6⟩)
      | lor =>
        obtain ⟨rfl, rfl⟩ := ee_nx_some (show ee_nx len 1 _ = some sts from h)
        exact lv_lor hx hb hd (k _ List.mem_cons_self ns as H lc ls _ ⟨c1, c2, c3, ⟨⟨_, rfl⟩, c4⟩, c5, c6⟩)
      | lcmp =>
        obtain ⟨rfl, rfl⟩ := ee_nx_some (show ee_nx len 1 (ee_lcm pc y x lo stk w iv kc ks sv) = some sts from h)
        exact W.lcmp hx hb hd (ee_lcm.ok k ⟨c1, c2, c3, c4, c5, c6⟩ cx cy)
      | _ => exact ee_no h
    · rw [if_neg hc] at h
      cases hq : ee_it iv x with
      | none => rw [hq] at h; exact ee_no h
      | some q =>
        rw [hq] at h
        obtain ⟨z, rfl, -, -⟩ := ee_it.int c1 cx hq
        cases ins with
        | i2l =>
          obtain ⟨rfl, rfl⟩ := ee_nx_some (show ee_nx len 1 _ = some sts from h)
          exact lv_i2l hx hb hd rfl (k _ List.mem_cons_self ns as H lc ls _ ⟨c1, c2, c3, ⟨⟨_, rfl⟩, cy, c4⟩, c5, c6⟩)
        | lshl =>
          replace h : (if ee_isl y = true then ee_nx len 1 [(pc + 1, lo, Value.double 0 :: stk, w, iv, kc, ks, sv)] else none) = some sts := h
          by_cases hy : ee_isl y = true
          · rw [if_pos hy] at h
            obtain ⟨rfl, rfl⟩ := ee_nx_some h
            obtain ⟨b, rfl⟩ := ee_isl.ok cy hy
            exact lv_lshl hx hb hd rfl (k _ List.mem_cons_self ns as H lc ls _ ⟨c1, c2, c3, ⟨⟨_, rfl⟩, c4⟩, c5, c6⟩)
          · rw [if_neg hy] at h
            exact ee_no h
        | _ => exact ee_no h
theorem ee_i2c (x : Int32) : 0 ≤ (x.toUInt32 % 65536).toInt32.toInt ∧ (x.toUInt32 % 65536).toInt32.toInt ≤ 65535 := by
  rw [pk_char, nI_toInt (by have := Nat.mod_lt x.toBitVec.toNat (show 0 < 65536 by decide); omega)]
  have := Nat.mod_lt x.toBitVec.toNat (show 0 < 65536 by decide)
  omega
theorem ee_i2b (x : Int32) : -128 ≤ x.toInt8.toInt32.toInt ∧ x.toInt8.toInt32.toInt ≤ 127 := by
  rw [Int8.toInt_toInt32]
  have h1 := Int8.le_toInt x.toInt8
  have h2 := Int8.toInt_lt x.toInt8
  omega
def ee_h10 : ee_H := fun _ _ _ e st => match st with
  | (pc, lo, x :: stk, w, iv, kc, ks, sv) => (match ee_cn iv x with
    | some z => (match e.2.1 with
      | .i2b => ee_nx e.2.2.1 1 [(pc + 1, lo, .int z.toInt8.toInt32 :: stk, w, iv, kc, ks, sv)]
      | .i2c => ee_nx e.2.2.1 1 [(pc + 1, lo, .int (z.toUInt32 % 65536).toInt32 :: stk, w, iv, kc, ks, sv)]
      | _ => none)
    | none => (match ee_it iv x with
      | some _ => (match e.2.1 with
        | .i2b => ee_nx e.2.2.1 1 [(pc + 1, lo, .retAddr iv.1 :: stk, w, ee_ps iv (-128) 127 [], kc, ks, sv)]
        | .i2c => ee_nx e.2.2.1 1 [(pc + 1, lo, .retAddr iv.1 :: stk, w, ee_ps iv 0 65535 [], kc, ks, sv)]
        | _ => none)
      | none => none))
  | _ => none
set_option maxHeartbeats 2000000 in
theorem ee_h10.snd : ee_Snd ee_h10 := by
  intro X Y oc own cc ini dm bc bs Q e st sts F ho hi hd he hpc h k
  obtain ⟨p, l, en, R, s, m, args, below, meth, c⟩ := X
  obtain ⟨A, D, dA, ex, x0, a0, sv0, nL⟩ := Y
  obtain ⟨pc, lo, stk, w, iv, kc, ks, sv⟩ := st
  obtain ⟨pc', ins, len, hn, ea, eb, ez, qa, qb, qc⟩ := e
  obtain ⟨hx, hb, hml, hown, hts, hK, hA, hini, hR, hE⟩ := F
  have hpc : pc = pc' := hpc
  subst hpc
  have hd : decode cc pc = .ok (ins, len) := hd
  intro ns as H lc ls vs C
  obtain ⟨c1, c2, c3, c4, c5, c6⟩ := C
  show W p l en R s m args below meth c H lc kc ks Q (F0 m pc ls vs)
  cases stk with
  | nil => exact ee_no h
  | cons x stk =>
    cases vs with
    | nil => exact c4.elim
    | cons v vs =>
      obtain ⟨c4v, c4⟩ := c4
      replace h : (match ee_cn iv x with
        | some z => (match (generalizing := false) ins with
          | .i2b => ee_nx len 1 [(pc + 1, lo, .int z.toInt8.toInt32 :: stk, w, iv, kc, ks, sv)]
          | .i2c => ee_nx len 1 [(pc + 1, lo, .int (z.toUInt32 % 65536).toInt32 :: stk, w, iv, kc, ks, sv)]
          | _ => none)
        | none => (match ee_it iv x with
          | some _ => (match (generalizing := false) ins with
            | .i2b => ee_nx len 1 [(pc + 1, lo, .retAddr iv.1 :: stk, w, ee_ps iv (-128) 127 [], kc, ks, sv)]
            | .i2c => ee_nx len 1 [(pc + 1, lo, .retAddr iv.1 :: stk, w, ee_ps iv 0 65535 [], kc, ks, sv)]
            | _ => none)
          | none => none)) = some sts := h
      cases hq : ee_cn iv x with
      | some z =>
        rw [hq] at h
        have hv := ee_cn.int c1 c4v hq
        subst hv
        cases ins with
        | i2b =>
          obtain ⟨rfl, rfl⟩ := ee_nx_some (show ee_nx len 1 _ = some sts from h)
          exact lv_i2b hx hb hd rfl (k _ List.mem_cons_self ns as H lc ls _ ⟨c1, c2, c3, ⟨rfl, c4⟩, c5, c6⟩)
        | i2c =>
          obtain ⟨rfl, rfl⟩ := ee_nx_some (show ee_nx len 1 _ = some sts from h)
          exact lv_i2c hx hb hd rfl (k _ List.mem_cons_self ns as H lc ls _ ⟨c1, c2, c3, ⟨rfl, c4⟩, c5, c6⟩)
        | _ => exact ee_no h
      | none =>
        rw [hq] at h
        simp only at h
        cases hr : ee_it iv x with
        | none => rw [hr] at h; exact ee_no h
        | some q =>
          rw [hr] at h
          obtain ⟨z, rfl, -, -⟩ := ee_it.int c1 c4v hr
          cases ins with
          | i2b =>
            obtain ⟨rfl, rfl⟩ := ee_nx_some (show ee_nx len 1 _ = some sts from h)
            have g := ee_i2b z
            obtain ⟨d1, d2, d3, d4, d5, d6⟩ := ee_Con.grow (s := s) (A := A) (D := D) (dA := dA) (ex := ex) (x0 := x0) (a0 := a0) (sv0 := sv0) (nL := nL) (lo := lo) (ls := ls) ⟨c1, c2, c3, c4, c5, c6⟩ g.1 g.2 (fs := []) (fun _ q => by cases q)
            exact lv_i2b hx hb hd rfl (k _ List.mem_cons_self _ as H lc ls _ ⟨d1, d2, d3, ⟨⟨_, c1.last _, rfl⟩, d4⟩, d5, d6⟩)
          | i2c =>
            obtain ⟨rfl, rfl⟩ := ee_nx_some (show ee_nx len 1 _ = some sts from h)
            have g := ee_i2c z
            obtain ⟨d1, d2, d3, d4, d5, d6⟩ := ee_Con.grow (s := s) (A := A) (D := D) (dA := dA) (ex := ex) (x0 := x0) (a0 := a0) (sv0 := sv0) (nL := nL) (lo := lo) (ls := ls) ⟨c1, c2, c3, c4, c5, c6⟩ g.1 g.2 (fs := []) (fun _ q => by cases q)
            exact lv_i2c hx hb hd rfl (k _ List.mem_cons_self _ as H lc ls _ ⟨d1, d2, d3, ⟨⟨_, c1.last _, rfl⟩, d4⟩, d5, d6⟩)
          | _ => exact ee_no h
def ee_h11 : ee_H := fun _ _ _ e st => match st with
  | (pc, lo, x :: stk, w, iv, kc, ks, sv) => if ee_cat x = 1 then (match e.2.1 with
      | .dup => ee_nx e.2.2.1 1 [(pc + 1, lo, x :: x :: stk, w, iv, kc, ks, sv)]
      | .pop => ee_nx e.2.2.1 1 [(pc + 1, lo, stk, w, iv, kc, ks, sv)]
      | .dup2 => (match stk with
        | y :: stk => if ee_cat y = 1 then ee_nx e.2.2.1 1 [(pc + 1, lo, x :: y :: x :: y :: stk, w, iv, kc, ks, sv)] else none
        | [] => none)
      | _ => none) else none
  | _ => none
set_option maxHeartbeats 2000000 in
theorem ee_h11.snd : ee_Snd ee_h11 := by
  intro X Y oc own cc ini dm bc bs Q e st sts F ho hi hd he hpc h k
  obtain ⟨p, l, en, R, s, m, args, below, meth, c⟩ := X
  obtain ⟨A, D, dA, ex, x0, a0, sv0, nL⟩ := Y
  obtain ⟨pc, lo, stk, w, iv, kc, ks, sv⟩ := st
  obtain ⟨pc', ins, len, hn, ea, eb, ez, qa, qb, qc⟩ := e
  obtain ⟨hx, hb, hml, hown, hts, hK, hA, hini, hR, hE⟩ := F
  have hpc : pc = pc' := hpc
  subst hpc
  have hd : decode cc pc = .ok (ins, len) := hd
  intro ns as H lc ls vs C
  obtain ⟨c1, c2, c3, c4, c5, c6⟩ := C
  show W p l en R s m args below meth c H lc kc ks Q (F0 m pc ls vs)
  cases stk with
  | nil => exact ee_no h
  | cons x stk =>
    cases vs with
    | nil => exact c4.elim
    | cons v vs =>
      obtain ⟨c4v, c4⟩ := c4
      replace h : (if ee_cat x = 1 then (match (generalizing := false) ins with
        | .dup => ee_nx len 1 [(pc + 1, lo, x :: x :: stk, w, iv, kc, ks, sv)]
        | .pop => ee_nx len 1 [(pc + 1, lo, stk, w, iv, kc, ks, sv)]
        | .dup2 => (match (generalizing := false) stk with
          | y :: stk => if ee_cat y = 1 then ee_nx len 1 [(pc + 1, lo, x :: y :: x :: y :: stk, w, iv, kc, ks, sv)] else none
          | [] => none)
        | _ => none) else none) = some sts := h
      by_cases hc : ee_cat x = 1
      · rw [if_pos hc] at h
        have hc1 : v.category = 1 := by rw [c4v.cat, hc]
        cases ins with
        | dup =>
          obtain ⟨rfl, rfl⟩ := ee_nx_some (show ee_nx len 1 _ = some sts from h)
          exact lv_dup hx hb hd hc1 (k _ List.mem_cons_self ns as H lc ls _ ⟨c1, c2, c3, ⟨c4v, c4v, c4⟩, c5, c6⟩)
        | pop =>
          obtain ⟨rfl, rfl⟩ := ee_nx_some (show ee_nx len 1 _ = some sts from h)
          exact lv_pop hx hb hd hc1 (k _ List.mem_cons_self ns as H lc ls _ ⟨c1, c2, c3, c4, c5, c6⟩)
        | dup2 =>
          cases stk with
          | nil => exact ee_no h
          | cons y stk =>
            cases vs with
            | nil => exact c4.elim
            | cons u vs =>
              obtain ⟨c4u, c4⟩ := c4
              replace h : (if ee_cat y = 1 then ee_nx len 1 [(pc + 1, lo, x :: y :: x :: y :: stk, w, iv, kc, ks, sv)] else none) = some sts := h
              by_cases hy : ee_cat y = 1
              · rw [if_pos hy] at h
                obtain ⟨rfl, rfl⟩ := ee_nx_some h
                exact lv_dup2_11 hx hb hd hc1 (by rw [c4u.cat, hy]) (k _ List.mem_cons_self ns as H lc ls _ ⟨c1, c2, c3, ⟨c4v, c4u, c4v, c4u, c4⟩, c5, c6⟩)
              · rw [if_neg hy] at h
                exact ee_no h
        | _ => exact ee_no h
      · rw [if_neg hc] at h
        exact ee_no h
def ee_ng (c : ClassFile.Cond) : ClassFile.Cond := match c with
  | .eq => .ne
  | .ne => .eq
  | .lt => .ge
  | .ge => .lt
  | .gt => .le
  | .le => .gt
/-- both ways of a comparison -/
def ee_fork (c : ClassFile.Cond) (pc : Nat) (o : Int) (lo : List (Nat × Value)) (stk : List Value) (w : ee_w) (iv : ee_iv) (kc ks : Nat) (sv : List Value) (x y : Value) : Option (List ee_st) := match ee_it iv x, ee_it iv y with
  | some (a, b), some (d, e) => if 0 ≤ (pc : Int) + o then some ((ee_rf c iv x y a b d e).map (fun iv' => (((pc : Int) + o).toNat, lo, stk, w, iv', kc, ks, sv)) ++ (ee_rf (ee_ng c) iv x y a b d e).map (fun iv' => (pc + 3, lo, stk, w, iv', kc, ks, sv))) else none
  | _, _ => none
theorem ee_fork.ok {X : ee_cx} {Y : ee_cy} {Q : State → Prop} {c : ClassFile.Cond} {pc : Nat} {o : Int} {lo : List (Nat × Value)} {stk : List Value} {w : ee_w} {iv : ee_iv} {kc ks : Nat} {sv : List Value} {x y : Value} {sts : List ee_st} (h : ee_fork c pc o lo stk w iv kc ks sv x y = some sts) (k : ∀ q ∈ sts, ee_G X Y Q q) :
    ∃ t : Nat, (pc : Int) + o = t ∧ ∀ (ns : List Int32) (as : List Nat) (vx vy : Value), ee_ok ns iv → ee_v ns as Y.2.2.2.1 x vx → ee_v ns as Y.2.2.2.1 y vy → ∃ p q : Int32, vx = .int p ∧ vy = .int q ∧ (ee_cd c p.toInt q.toInt → ∃ iv', ee_ok ns iv' ∧ ee_G X Y Q (t, lo, stk, w, iv', kc, ks, sv)) ∧ (ee_cd (ee_ng c) p.toInt q.toInt → ∃ iv', ee_ok ns iv' ∧ ee_G X Y Q (pc + 3, lo, stk, w, iv', kc, ks, sv)) := by
  unfold ee_fork at h
  split at h
  · rename_i a b d e h1 h2
    split at h
    · rename_i ht
      cases h
      refine ⟨((pc : Int) + o).toNat, by omega, fun ns as vx vy hk hvx hvy => ?_⟩
      obtain ⟨p, rfl, p1, p2⟩ := ee_it.int hk hvx h1
      obtain ⟨q, rfl, q1, q2⟩ := ee_it.int hk hvy h2
      refine ⟨p, q, rfl, rfl, fun hc => ?_, fun hc => ?_⟩
      · obtain ⟨iv', g1, g2⟩ := ee_rf.ok hk hvx hvy p1 p2 q1 q2 hc
        exact ⟨iv', g2, k _ (List.mem_append_left _ (List.mem_map.mpr ⟨iv', g1, rfl⟩))⟩
      · obtain ⟨iv', g1, g2⟩ := ee_rf.ok hk hvx hvy p1 p2 q1 q2 hc
        exact ⟨iv', g2, k _ (List.mem_append_right _ (List.mem_map.mpr ⟨iv', g1, rfl⟩))⟩
    · cases h
  · cases h
def ee_h12 : ee_H := fun _ _ _ e st => match st with
  | (pc, lo, x :: stk, w, iv, kc, ks, sv) => (match e.2.1 with
      | .ifCond c o => if e.2.2.1 = 3 then ee_fork c pc o lo stk w iv kc ks sv x (.int 0) else none
      | .if_icmp c o => (match stk with
        | y :: stk => if e.2.2.1 = 3 then ee_fork c pc o lo stk w iv kc ks sv y x else none
        | [] => none)
      | _ => none)
  | _ => none
theorem ee_lt (a b : Int32) : a < b ↔ a.toInt < b.toInt := Int32.lt_iff_toInt_lt
theorem ee_le (a b : Int32) : a ≤ b ↔ a.toInt ≤ b.toInt := Int32.le_iff_toInt_le
theorem ee_eq (a b : Int32) : a = b ↔ a.toInt = b.toInt := Int32.toInt_inj.symm
set_option maxHeartbeats 2000000 in
theorem ee_h12.snd : ee_Snd ee_h12 := by
  intro X Y oc own cc ini dm bc bs Q e st sts F ho hi hd he hpc h k
  obtain ⟨p, l, en, R, s, m, args, below, meth, c⟩ := X
  obtain ⟨A, D, dA, ex, x0, a0, sv0, nL⟩ := Y
  obtain ⟨pc, lo, stk, w, iv, kc, ks, sv⟩ := st
  obtain ⟨pc', ins, len, hn, ea, eb, ez, qa, qb, qc⟩ := e
  obtain ⟨hx, hb, hml, hown, hts, hK, hA, hini, hR, hE⟩ := F
  have hpc : pc = pc' := hpc
  subst hpc
  have hd : decode cc pc = .ok (ins, len) := hd
  intro ns as H lc ls vs C
  obtain ⟨c1, c2, c3, c4, c5, c6⟩ := C
  show W p l en R s m args below meth c H lc kc ks Q (F0 m pc ls vs)
  cases stk with
  | nil => exact ee_no h
  | cons x stk =>
    cases vs with
    | nil => exact c4.elim
    | cons v vs =>
      obtain ⟨c4v, c4⟩ := c4
      cases ins with
      | ifCond cd o =>
        replace h : (if len = 3 then ee_fork cd pc o lo stk w iv kc ks sv x (.int 0) else none) = some sts := h
        by_cases hl : len = 3
        · subst hl
          rw [if_pos rfl] at h
          obtain ⟨t, ht, g⟩ := ee_fork.ok (X := (p, l, en, R, s, m, args, below, meth, c)) (Y := (A, D, dA, ex, x0, a0, sv0, nL)) (Q := Q) h k
          obtain ⟨a, b, rfl, eb1, gt, gf⟩ := g ns as v (.int 0) c1 c4v rfl
          cases eb1
          have kt : ee_cd cd a.toInt (0 : Int32).toInt → W p l en R s m args below meth c H lc kc ks Q (F0 m t ls vs) := fun hc => by
            obtain ⟨iv', g1, g2⟩ := gt hc
            exact g2 ns as H lc ls _ ⟨g1, c2, c3, c4, c5, c6⟩
          have kf : ee_cd (ee_ng cd) a.toInt (0 : Int32).toInt → W p l en R s m args below meth c H lc kc ks Q (F0 m (pc + 3) ls vs) := fun hc => by
            obtain ⟨iv', g1, g2⟩ := gf hc
            exact g2 ns as H lc ls _ ⟨g1, c2, c3, c4, c5, c6⟩
          cases cd with
          | eq => exact lv_if_eq hx hb hd ht (fun q => kt ((ee_eq _ _).mp q)) (fun q => kf (fun z => q ((ee_eq _ _).mpr z)))
          | ne => exact lv_if_ne hx hb hd ht (fun q => kt (fun z => q ((ee_eq _ _).mpr z))) (fun q => kf ((ee_eq _ _).mp q))
          | lt => exact lv_if_lt hx hb hd ht (fun q => kt ((ee_lt _ _).mp q)) (fun q => kf (Int.not_lt.mp (fun z => q ((ee_lt _ _).mpr z))))
          | ge => exact lv_if_ge hx hb hd ht (fun q => kt ((ee_le _ _).mp q)) (fun q => kf (Int.not_le.mp (fun z => q ((ee_le _ _).mpr z))))
          | gt => exact lv_if_gt hx hb hd ht (fun q => kt ((ee_lt _ _).mp q)) (fun q => kf (Int.not_lt.mp (fun z => q ((ee_lt _ _).mpr z))))
          | le => exact lv_if_le hx hb hd ht (fun q => kt ((ee_le _ _).mp q)) (fun q => kf (Int.not_le.mp (fun z => q ((ee_le _ _).mpr z))))
        · rw [if_neg hl] at h
          exact ee_no h
      | if_icmp cd o =>
        cases stk with
        | nil => exact ee_no h
        | cons y stk =>
          cases vs with
          | nil => exact c4.elim
          | cons u vs =>
            obtain ⟨c4u, c4⟩ := c4
            replace h : (if len = 3 then ee_fork cd pc o lo stk w iv kc ks sv y x else none) = some sts := h
            by_cases hl : len = 3
            · subst hl
              rw [if_pos rfl] at h
              obtain ⟨t, ht, g⟩ := ee_fork.ok (X := (p, l, en, R, s, m, args, below, meth, c)) (Y := (A, D, dA, ex, x0, a0, sv0, nL)) (Q := Q) h k
              obtain ⟨a, b, rfl, rfl, gt, gf⟩ := g ns as u v c1 c4u c4v
              have kt : ee_cd cd a.toInt b.toInt → W p l en R s m args below meth c H lc kc ks Q (F0 m t ls vs) := fun hc => by
                obtain ⟨iv', g1, g2⟩ := gt hc
                exact g2 ns as H lc ls _ ⟨g1, c2, c3, c4, c5, c6⟩
              have kf : ee_cd (ee_ng cd) a.toInt b.toInt → W p l en R s m args below meth c H lc kc ks Q (F0 m (pc + 3) ls vs) := fun hc => by
                obtain ⟨iv', g1, g2⟩ := gf hc
                exact g2 ns as H lc ls _ ⟨g1, c2, c3, c4, c5, c6⟩
              cases cd with
              | eq => exact lv_icmp_eq hx hb hd ht (fun q => kt ((ee_eq _ _).mp q)) (fun q => kf (fun z => q ((ee_eq _ _).mpr z)))
              | ne => exact lv_icmp_ne hx hb hd ht (fun q => kt (fun z => q ((ee_eq _ _).mpr z))) (fun q => kf ((ee_eq _ _).mp q))
              | lt => exact lv_icmp_lt hx hb hd ht (fun q => kt ((ee_lt _ _).mp q)) (fun q => kf (Int.not_lt.mp (fun z => q ((ee_lt _ _).mpr z))))
              | ge => exact lv_icmp_ge hx hb hd ht (fun q => kt ((ee_le _ _).mp q)) (fun q => kf (Int.not_le.mp (fun z => q ((ee_le _ _).mpr z))))
              | gt => exact lv_icmp_gt hx hb hd ht (fun q => kt ((ee_lt _ _).mp q)) (fun q => kf (Int.not_lt.mp (fun z => q ((ee_lt _ _).mpr z))))
              | le => exact lv_icmp_le hx hb hd ht (fun q => kt ((ee_le _ _).mp q)) (fun q => kf (Int.not_le.mp (fun z => q ((ee_le _ _).mpr z))))
            · rw [if_neg hl] at h
              exact ee_no h
      | _ => exact ee_no h
/-- the states behind a table of places -/
def ee_sw (pc : Nat) (df lw hg : Int) (os : List Int) (lo : List (Nat × Value)) (stk : List Value) (w : ee_w) (iv : ee_iv) (kc ks : Nat) (sv : List Value) (x : Value) (a b : Int) : List ee_st :=
  (if a < lw then [(((pc : Int) + df).toNat, lo, stk, w, ee_put iv x a (ee_mn b (lw - 1)), kc, ks, sv)] else []) ++ ((if hg < b then [(((pc : Int) + df).toNat, lo, stk, w, ee_put iv x (ee_mx a (hg + 1)) b, kc, ks, sv)] else []) ++
  (List.range os.length).flatMap (fun (j : Nat) => if a ≤ lw + j ∧ lw + j ≤ b then [(((pc : Int) + os.getD j 0).toNat, lo, stk, w, ee_put iv x (lw + j) (lw + j), kc, ks, sv)] else []))
def ee_h13 : ee_H := fun _ _ _ e st => match st with
  | (pc, lo, x :: stk, w, iv, kc, ks, sv) => (match e.2.1 with
      | .tableswitch df lw hg os => (match ee_it iv x with
        | some (a, b) => if 0 ≤ (pc : Int) + df ∧ hg - lw + 1 = (os.toList.length : Int) ∧ os.toList.all (fun o => decide (0 ≤ (pc : Int) + o)) = true then some (ee_sw pc df lw hg os.toList lo stk w iv kc ks sv x a b) else none
        | none => none)
      | .lookupswitch df ps => (match ee_it iv x with
        | some (a, b) => if 0 ≤ (pc : Int) + df ∧ (ps.toList.zip (ps.toList.drop 1)).all (fun (a, next) => a.1 < next.1) = true ∧ ps.toList.all (fun o => decide (0 ≤ (pc : Int) + o.2)) = true then some ((((pc : Int) + df).toNat, lo, stk, w, iv, kc, ks, sv) :: ps.toList.filterMap (fun o => if a ≤ o.1 ∧ o.1 ≤ b then some (((pc : Int) + o.2).toNat, lo, stk, w, ee_put iv x o.1 o.1, kc, ks, sv) else none)) else none
        | none => none)
      | _ => none)
  | _ => none
theorem ee_lsw : ∀ (l : List (Int × Int)) (df z : Int), Op.lookupswitch.offset l df z = df ∨ ∃ o, (z, o) ∈ l ∧ Op.lookupswitch.offset l df z = o
  | [], df, z => Or.inl rfl
  | (a, o) :: l, df, z => by
    rw [Op.lookupswitch.offset_cons]
    by_cases e : a = z
    · rw [if_pos e]
      subst e
      exact Or.inr ⟨o, List.mem_cons_self, rfl⟩
    · rw [if_neg e]
      rcases ee_lsw l df z with h | ⟨o', h1, h2⟩
      · exact Or.inl h
      · exact Or.inr ⟨o', List.mem_cons_of_mem _ h1, h2⟩
set_option maxHeartbeats 2000000 in
theorem ee_h13.snd : ee_Snd ee_h13 := by
  intro X Y oc own cc ini dm bc bs Q e st sts F ho hi hd he hpc h k
  obtain ⟨p, l, en, R, s, m, args, below, meth, c⟩ := X
  obtain ⟨A, D, dA, ex, x0, a0, sv0, nL⟩ := Y
  obtain ⟨pc, lo, stk, w, iv, kc, ks, sv⟩ := st
  obtain ⟨pc', ins, len, hn, ea, eb, ez, qa, qb, qc⟩ := e
  obtain ⟨hx, hb, hml, hown, hts, hK, hA, hini, hR, hE⟩ := F
  have hpc : pc = pc' := hpc
  subst hpc
  have hd : decode cc pc = .ok (ins, len) := hd
  intro ns as H lc ls vs C
  obtain ⟨c1, c2, c3, c4, c5, c6⟩ := C
  show W p l en R s m args below meth c H lc kc ks Q (F0 m pc ls vs)
  cases stk with
  | nil => exact ee_no h
  | cons x stk =>
    cases vs with
    | nil => exact c4.elim
    | cons v vs =>
      obtain ⟨c4v, c4⟩ := c4
      cases ins with
      | tableswitch df lw hg os =>
        replace h : (match ee_it iv x with
          | some (a, b) => if 0 ≤ (pc : Int) + df ∧ hg - lw + 1 = (os.toList.length : Int) ∧ os.toList.all (fun o => decide (0 ≤ (pc : Int) + o)) = true then some (ee_sw pc df lw hg os.toList lo stk w iv kc ks sv x a b) else none
          | none => none) = some sts := h
        cases hq : ee_it iv x with
        | none => rw [hq] at h; exact ee_no h
        | some q =>
          obtain ⟨a, b⟩ := q
          rw [hq] at h
          simp only at h
          by_cases hc : 0 ≤ (pc : Int) + df ∧ hg - lw + 1 = (os.toList.length : Int) ∧ os.toList.all (fun o => decide (0 ≤ (pc : Int) + o)) = true
          · rw [if_pos hc] at h
            cases h
            obtain ⟨z, rfl, z1, z2⟩ := ee_it.int c1 c4v hq
            obtain ⟨hc1, hc2, hc3⟩ := hc
            by_cases h1 : z.toInt < lw
            · refine lv_tableOut hx hb hd (Or.inl h1) (tgt := ((pc : Int) + df).toNat) (by omega) ?_
              refine k _ (List.mem_append_left _ (by rw [if_pos (by omega)]; exact List.mem_cons_self)) ns as H lc ls _ ⟨ee_put.ok (lo := a) (hi := ee_mn b (lw - 1)) c1 c4v z1 (ee_le_mn z2 (by omega)), c2, c3, c4, c5, c6⟩
            · by_cases h2 : hg < z.toInt
              · refine lv_tableOut hx hb hd (Or.inr h2) (tgt := ((pc : Int) + df).toNat) (by omega) ?_
                refine k _ (List.mem_append_right _ (List.mem_append_left _ (by rw [if_pos (by omega)]; exact List.mem_cons_self))) ns as H lc ls _ ⟨ee_put.ok (lo := ee_mx a (hg + 1)) (hi := b) c1 c4v (ee_mx_le z1 (by omega)) z2, c2, c3, c4, c5, c6⟩
              · have hj : (z.toInt - lw).toNat < os.toList.length := by omega
                have ho' : os[(z.toInt - lw).toNat]? = some (os.toList.getD (z.toInt - lw).toNat 0) := by
                  rw [← Array.getElem?_toList, List.getD_eq_getElem?_getD, List.getElem?_eq_getElem hj]; rfl
                have hp := of_decide_eq_true (List.all_eq_true.mp hc3 (os.toList.getD (z.toInt - lw).toNat 0) (by
                  rw [List.getD_eq_getElem?_getD, List.getElem?_eq_getElem hj]
                  exact List.getElem_mem hj))
                refine lv_tableIn hx hb hd h1 h2 ho' (tgt := ((pc : Int) + os.toList.getD (z.toInt - lw).toNat 0).toNat) (by omega) ?_
                refine k _ (List.mem_append_right _ (List.mem_append_right _ (List.mem_flatMap.mpr ⟨(z.toInt - lw).toNat, List.mem_range.mpr hj, by rw [if_pos (by omega)]; exact List.mem_cons_self⟩))) ns as H lc ls _ ⟨ee_put.ok (lo := lw + ((z.toInt - lw).toNat : Nat)) (hi := lw + ((z.toInt - lw).toNat : Nat)) c1 c4v (by omega) (by omega), c2, c3, c4, c5, c6⟩
          · rw [if_neg hc] at h
            exact ee_no h
      | lookupswitch df ps =>
        replace h : (match ee_it iv x with
          | some (a, b) => if 0 ≤ (pc : Int) + df ∧ (ps.toList.zip (ps.toList.drop 1)).all (fun (a, next) => a.1 < next.1) = true ∧ ps.toList.all (fun o => decide (0 ≤ (pc : Int) + o.2)) = true then some ((((pc : Int) + df).toNat, lo, stk, w, iv, kc, ks, sv) :: ps.toList.filterMap (fun o => if a ≤ o.1 ∧ o.1 ≤ b then some (((pc : Int) + o.2).toNat, lo, stk, w, ee_put iv x o.1 o.1, kc, ks, sv) else none)) else none
          | none => none) = some sts := h
        cases hq : ee_it iv x with
        | none => rw [hq] at h; exact ee_no h
        | some q =>
          obtain ⟨a, b⟩ := q
          rw [hq] at h
          simp only at h
          by_cases hc : 0 ≤ (pc : Int) + df ∧ (ps.toList.zip (ps.toList.drop 1)).all (fun (a, next) => a.1 < next.1) = true ∧ ps.toList.all (fun o => decide (0 ≤ (pc : Int) + o.2)) = true
          · rw [if_pos hc] at h
            cases h
            obtain ⟨z, rfl, z1, z2⟩ := ee_it.int c1 c4v hq
            obtain ⟨hc1, hc2, hc3⟩ := hc
            rcases ee_lsw ps.toList df z.toInt with hz | ⟨o, hz1, hz2⟩
            · exact lv_lookup hx hb hd hc2 hz (tgt := ((pc : Int) + df).toNat) (by omega) (k _ List.mem_cons_self ns as H lc ls _ ⟨c1, c2, c3, c4, c5, c6⟩)
            · have hp := of_decide_eq_true (List.all_eq_true.mp hc3 (z.toInt, o) hz1)
              refine lv_lookup hx hb hd hc2 hz2 (tgt := ((pc : Int) + o).toNat) (by omega) ?_
              refine k _ (List.mem_cons_of_mem _ (List.mem_filterMap.mpr ⟨(z.toInt, o), hz1, by rw [if_pos ⟨z1, z2⟩]⟩)) ns as H lc ls _ ⟨ee_put.ok c1 c4v (Int.le_refl _) (Int.le_refl _), c2, c3, c4, c5, c6⟩
          · rw [if_neg hc] at h
            exact ee_no h
      | _ => exact ee_no h
end
section
/-! handlers: the heap -/
theorem ee_v.at {ns : List Int32} {as : List Nat} {ex : Nat → Nat} {k : Nat} {a : Nat} (h : ee_v ns as ex (.ref k) (.ref a)) (hk : k < 1000000) : as[k]? = some a := by
  unfold ee_v at h
  simp only [hk, if_true] at h
  obtain ⟨b, h1, h2⟩ := h
  cases h2
  exact h1
theorem ee_v.out {ns : List Int32} {as : List Nat} {ex : Nat → Nat} {k : Nat} {a : Nat} (h : ee_v ns as ex (.ref k) (.ref a)) (hk : ¬ k < 1000000) : a = ex k := by
  unfold ee_v at h
  simp only [hk, if_false] at h
  cases h
  rfl
/-- the cell at a place of the world -/
theorem ee_wr.at {ns : List Int32} {as : List Nat} {ex : Nat → Nat} {dA : Nat → ClassId} {w : ee_w} {ws : va_W} {k a : Nat} {x : ee_cell} (h : ee_wr ns as ex dA w ws) (hk : w[k]? = some x) (ha : as[k]? = some a) : ∃ e, ws[k]? = some (a, e) ∧ ee_c ns as ex dA x e := by
  obtain ⟨⟨b, e⟩, h1, h2⟩ := h.2.get hk
  rw [h.1, List.getElem?_map, h1] at ha
  cases ha
  exact ⟨e, h1, h2⟩
theorem ee_map_set {ws : va_W} {k a : Nat} {e e2 : va_E} (h : ws[k]? = some (a, e)) : (ws.set k (a, e2)).map (fun q => q.1) = ws.map (fun q => q.1) := by
  apply List.ext_getElem?
  intro i
  rw [List.getElem?_map, List.getElem?_map]
  by_cases hi : i = k
  · subst hi
    rw [List.getElem?_set_self (List.getElem?_eq_some_iff.mp h).1, h]; rfl
  · rw [List.getElem?_set_ne (Ne.symm hi)]
theorem ee_wr.set {ns : List Int32} {as : List Nat} {ex : Nat → Nat} {dA : Nat → ClassId} {w : ee_w} {ws : va_W} {k a : Nat} {x : ee_cell} {e e2 : va_E} (h : ee_wr ns as ex dA w ws) (ha : ws[k]? = some (a, e)) (hc : ee_c ns as ex dA x e2) : ee_wr ns as ex dA (w.set k x) (ws.set k (a, e2)) :=
  ⟨by rw [ee_map_set ha]; exact h.1, h.2.set (a := x) (b := (a, e2)) hc⟩
theorem ee_wr.push {ns : List Int32} {as : List Nat} {ex : Nat → Nat} {dA : Nat → ClassId} {w : ee_w} {ws : va_W} {a : Nat} {x : ee_cell} {e : va_E} (h : ee_wr ns as ex dA w ws) (hc : ee_c ns (as ++ [a]) ex dA x e) : ee_wr ns (as ++ [a]) ex dA (w ++ [x]) (ws ++ [(a, e)]) :=
  ⟨by rw [h.1, List.map_append]; rfl, (h.2.imp (fun x q g => by simpa using ee_c.mono [] [a] g)).app ⟨hc, trivial⟩⟩
theorem ee_wr.len {ns : List Int32} {as : List Nat} {ex : Nat → Nat} {dA : Nat → ClassId} {w : ee_w} {ws : va_W} (h : ee_wr ns as ex dA w ws) : as.length = w.length := by
  rw [h.1, List.length_map, h.2.len]
/-- a new cell -/
theorem ee_Con.born {s : State} {A : Nat → Prop} {D : va_G} {dA : Nat → ClassId} {ex : Nat → Nat} {x0 : List Int32} {a0 : List Nat} {sv0 : List Value} {nL : Nat} {lo : List (Nat × Value)} {stk : List Value} {w : ee_w} {iv : ee_iv} {sv : List Value} {ns : List Int32} {as : List Nat} {H1 : Heap} {lc : List Loc} {ls : Array Slot} {vs : List Value} {ws : va_W} {a : Nat} {x : ee_cell} {e : va_E}
    (c1 : ee_ok ns iv) (c2 : (∃ r, ns = x0 ++ r) ∧ ∃ r, as = a0 ++ r) (c3 : ∃ lv, lv_has ls nL lv ∧ ee_all (ee_lr ns as ex) lo lv) (c4 : ee_all (ee_v ns as ex) stk vs) (c5 : ee_all (ee_v ns as ex) sv sv0) (hw : ee_wr ns as ex dA w ws) (hc : ee_c ns (as ++ [a]) ex dA x e) (hP : va_P D vwCl (ws ++ [(a, e)]) H1) (hD : va_D A (ws ++ [(a, e)])) (hS : va_S A s.heap H1 lc) (hl : w.length < 1000000) :
    ee_Con s A D dA ex x0 a0 sv0 nL lo (.ref w.length :: stk) (w ++ [x]) iv sv ns (as ++ [a]) H1 lc ls (.ref a :: vs) := by
  have mv : ∀ x v, ee_v ns as ex x v → ee_v ns (as ++ [a]) ex x v := fun x v q => by simpa using ee_v.mono [] [a] q
  obtain ⟨lv, c3, c3l⟩ := c3
  obtain ⟨c2, r, c2a⟩ := c2
  refine ⟨c1, ⟨c2, r ++ [a], by rw [c2a, List.append_assoc]⟩, ⟨lv, c3, c3l.imp (fun x y q => ⟨q.1, mv _ _ q.2⟩)⟩, ⟨?_, c4.imp mv⟩, c5.imp mv, _, hw.push hc, hP, hD, hS⟩
  refine ee_v.inw hl ?_
  rw [← hw.len, List.getElem?_append_right (Nat.le_refl _), Nat.sub_self]; rfl
def ee_h14 : ee_H := fun _ _ _ e st => match st with
  | (pc, lo, .ref k :: stk, w, iv, kc, ks, sv) => (match e with
    | (_, .getfield _, len, _, _, eb, _, qa, qb, _) => if eb = 0 then (match w[k]? with
          | some (.inl (ci, fs)) => (match fs[qb]? with
            | some x => if k < 1000000 ∧ ci = qa then ee_nx len 3 [(pc + 3, lo, x :: stk, w, iv, kc, ks, sv)] else none
            | none => none)
          | _ => none)
        else if 1000000 ≤ k ∧ k < 1000002 then ee_nx len 3 [(pc + 3, lo, (if qa = 0 then .int 0 else .ref (k + 100)) :: stk, w, iv, kc, ks, sv)] else none
    | _ => none)
  | _ => none
set_option maxHeartbeats 2000000 in
theorem ee_h14.snd : ee_Snd ee_h14 := by
  intro X Y oc own cc ini dm bc bs Q e st sts F ho hi hd he hpc h k
  obtain ⟨p, l, en, R, s, m, args, below, meth, c⟩ := X
  obtain ⟨A, D, dA, ex, x0, a0, sv0, nL⟩ := Y
  obtain ⟨pc, lo, stk, w, iv, kc, ks, sv⟩ := st
  obtain ⟨pc', ins, len, hn, ea, eb, ez, qa, qb, qc⟩ := e
  obtain ⟨hx, hb, hml, hown, hts, hK, hA, hini, hR, hE⟩ := F
  have hpc : pc = pc' := hpc
  subst hpc
  have hd : decode cc pc = .ok (ins, len) := hd
  intro ns as H lc ls vs C
  obtain ⟨c1, c2, c3, c4, c5, c6⟩ := C
  show W p l en R s m args below meth c H lc kc ks Q (F0 m pc ls vs)
  cases stk with
  | nil => exact ee_no h
  | cons x stk =>
    cases vs with
    | nil => exact c4.elim
    | cons v vs =>
      obtain ⟨c4v, c4⟩ := c4
      cases x with
      | ref j =>
        obtain ⟨a, rfl⟩ := ee_v.ref c4v
        cases ins with
        | getfield i =>
          replace h : (if eb = 0 then (match w[j]? with
              | some (.inl (ci, fs)) => (match fs[qb]? with
                | some x => if j < 1000000 ∧ ci = qa then ee_nx len 3 [(pc + 3, lo, x :: stk, w, iv, kc, ks, sv)] else none
                | none => none)
              | _ => none)
            else if 1000000 ≤ j ∧ j < 1000002 then ee_nx len 3 [(pc + 3, lo, (if qa = 0 then .int 0 else .ref (j + 100)) :: stk, w, iv, kc, ks, sv)] else none) = some sts := h
          have hee : (if eb = 0 then (match ee_FL[ea]? with
              | some q => decide (q.1 = oc) && (decide (q.2.1 = i) && (decide (q.2.2.1 = qa) && (decide (q.2.2.2.1 = qb) && decide (q.2.2.2.2.2 = qc))))
              | none => false) else (match ee_SL[ea]? with
              | some q => decide (q.1 = oc) && (decide (q.2.1 = i) && decide (q.2.2.1 = qa))
              | none => false)) = true := he
          by_cases h0 : eb = 0
          · rw [if_pos h0] at h hee
            cases hq : ee_FL[ea]? with
            | none => rw [hq] at hee; cases hee
            | some q =>
              rw [hq] at hee
              simp only at hee
              obtain ⟨u1, u2⟩ := ee_and hee
              obtain ⟨u3, u4⟩ := ee_and u2
              obtain ⟨u5, u6⟩ := ee_and u4
              obtain ⟨u7, -⟩ := ee_and u6
              have e1 := of_decide_eq_true u1
              have e2 := of_decide_eq_true u3
              have e3 := of_decide_eq_true u5
              have e4 := of_decide_eq_true u7
              subst e3
              subst e4
              obtain ⟨r, f1, f2, f3, -⟩ := ee_FLok q (List.mem_of_getElem? hq)
              rw [e1, ee_own_ow ho, e2] at f3
              split at h
              · rename_i ci fs hw
                cases hf : fs[q.2.2.2.1]? with
                | none => rw [hf] at h; exact ee_no h
                | some x =>
                  rw [hf] at h
                  simp only at h
                  by_cases hc : j < 1000000 ∧ ci = q.2.2.1
                  · rw [if_pos hc] at h
                    obtain ⟨rfl, rfl⟩ := ee_nx_some h
                    obtain ⟨ws, c6w, hP, hD, hS⟩ := c6
                    obtain ⟨ec, g1, vs1, rfl, g3⟩ := c6w.at hw (c4v.at hc.1)
                    obtain ⟨u, g4, g5⟩ := g3.get hf
                    rw [hc.2] at g1
                    obtain ⟨C, T, N⟩ := r
                    exact va_get (C := C) (T := T) (N := N) hx hb hts (ee_kd _ _ f1).1 hown hK hP j g1 f1 q.2.2.2.1 f2 (hts _ f3) (fun _ z => z) g4 hd (k _ List.mem_cons_self ns as H lc ls _ ⟨c1, c2, c3, ⟨g5, c4⟩, c5, ws, c6w, hP, hD, hS⟩)
                  · rw [if_neg hc] at h
                    exact ee_no h
              · exact ee_no h
          · rw [if_neg h0] at h hee
            cases hq : ee_SL[ea]? with
            | none => rw [hq] at hee; cases hee
            | some q =>
              rw [hq] at hee
              simp only at hee
              obtain ⟨e1, e2⟩ := ee_and hee
              obtain ⟨e2, e3⟩ := ee_and e2
              have e1 := of_decide_eq_true e1
              have e2 := of_decide_eq_true e2
              have e3 := of_decide_eq_true e3
              have f3 := ee_SLok q (List.mem_of_getElem? hq)
              rw [e1, ee_own_ow ho, e2, e3] at f3
              by_cases hc : 1000000 ≤ j ∧ j < 1000002
              · rw [if_pos hc] at h
                obtain ⟨rfl, rfl⟩ := ee_nx_some h
                obtain ⟨hc1, hc2⟩ := hc
                have ha := c4v.out (Nat.not_lt.mpr hc1)
                subst ha
                obtain ⟨ws, c6w, hP, hD, hS⟩ := c6
                obtain ⟨i0, hi0, rfl⟩ : ∃ i0, i0 < 2 ∧ j = 1000000 + i0 := ⟨j - 1000000, Nat.sub_lt_left_of_lt_add hc1 hc2, (Nat.add_sub_of_le hc1).symm⟩
                obtain ⟨g1, g2, g3, g4⟩ := hE.1.1 i0 hi0
                have g3 : va_OF "java/lang/String" "value" "[B" (.ref (ex (1000000 + i0 + 100))) (ex (1000000 + i0)) A s s.heap := by
                  rw [show 1000000 + i0 + 100 = 1000100 + i0 from Nat.add_right_comm 1000000 i0 100]
                  exact g3
                by_cases hz : qa = 0
                · rw [if_pos hz] at k
                  rw [hz] at f3
                  exact vk_getf hx hb g2 hS hown (hts _ f3) (fun _ z => z) hd (k _ List.mem_cons_self ns as H lc ls _ ⟨c1, c2, c3, ⟨rfl, c4⟩, c5, ws, c6w, hP, hD, hS⟩)
                · rw [if_neg hz] at k
                  rw [show ee_sf qa = ("value", "[B") by unfold ee_sf; rw [if_neg hz]] at f3
                  exact vk_getf hx hb g3 hS hown (hts _ f3) (fun _ z => z) hd (k _ List.mem_cons_self ns as H lc ls _ ⟨c1, c2, c3, ⟨ee_v.outs (Nat.not_lt.mpr (Nat.le_trans hc1 (Nat.le_add_right _ _))), c4⟩, c5, ws, c6w, hP, hD, hS⟩)
              · rw [if_neg hc] at h
                exact ee_no h
        | _ => exact ee_no h
      | _ => exact ee_no h
end
section
/-! handlers: fields put, arrays, new cells, statics -/
def ee_fit (tc : Nat) (iv : ee_iv) (x : Value) : Bool := match tc with
  | 0 => (ee_it iv x).isSome
  | 1 => (match ee_it iv x with
    | some (a, b) => decide (0 ≤ a) && decide (b ≤ 1)
    | none => false)
  | 2 => ee_isl x
  | 3 => (match x with
    | .ref _ => true
    | .null => true
    | _ => false)
  | _ => false
theorem ee_01 {z : Int32} (h1 : 0 ≤ z.toInt) (h2 : z.toInt ≤ 1) : z = 0 ∨ z = 1 := by
  by_cases h : z.toInt = 0
  · exact Or.inl (ee_zero (by omega) (by omega))
  · exact Or.inr (Int32.toInt_inj.mp (by rw [show (1 : Int32).toInt = 1 by decide]; omega))
theorem ee_fit.ok {ns : List Int32} {as : List Nat} {ex : Nat → Nat} {iv : ee_iv} {x v : Value} {tc : Nat} {ty : FieldType} (hk : ee_ok ns iv) (hx : ee_v ns as ex x v) (hf : ee_fit tc iv x = true) (ht : ee_tc ty = tc) : narrow ty v = v ∧ fits ty v = true := by
  subst ht
  cases ty with
  | int =>
    have hf : (ee_it iv x).isSome = true := hf
    obtain ⟨q, hq⟩ := Option.isSome_iff_exists.mp hf
    obtain ⟨z, rfl, -, -⟩ := ee_it.int hk hx hq
    exact ⟨rfl, rfl⟩
  | boolean =>
    have hf : (match ee_it iv x with
      | some (a, b) => decide (0 ≤ a) && decide (b ≤ 1)
      | none => false) = true := hf
    cases hq : ee_it iv x with
    | none => rw [hq] at hf; cases hf
    | some q =>
      obtain ⟨a, b⟩ := q
      rw [hq] at hf
      obtain ⟨e1, e2⟩ := ee_and hf
      have e1 := of_decide_eq_true e1
      have e2 := of_decide_eq_true e2
      obtain ⟨z, rfl, z1, z2⟩ := ee_it.int hk hx hq
      rcases ee_01 (z := z) (by omega) (by omega) with rfl | rfl <;> exact ⟨by decide, by decide⟩
  | long =>
    obtain ⟨z, rfl⟩ := ee_isl.ok hx hf
    exact ⟨rfl, rfl⟩
  | object n =>
    cases x with
    | ref j =>
      obtain ⟨a, rfl⟩ := ee_v.ref hx
      exact ⟨rfl, rfl⟩
    | null =>
      cases (show v = .null from hx)
      exact ⟨rfl, rfl⟩
    | _ => cases hf
  | array n =>
    cases x with
    | ref j =>
      obtain ⟨a, rfl⟩ := ee_v.ref hx
      exact ⟨rfl, rfl⟩
    | null =>
      cases (show v = .null from hx)
      exact ⟨rfl, rfl⟩
    | _ => cases hf
  | _ => cases hf
def ee_h15 : ee_H := fun _ _ _ e st => match st with
  | (pc, lo, x :: .ref k :: stk, w, iv, kc, ks, sv) => (match e with
    | (_, .putfield _, len, _, _, _, _, qa, qb, qc) => (match w[k]? with
          | some (.inl (ci, fs)) => if (k < 1000000 ∧ ci = qa) ∧ qb < fs.length ∧ ee_fit qc iv x = true then ee_nx len 3 [(pc + 3, lo, stk, w.set k (.inl (ci, fs.set qb x)), iv, kc, ks, sv)] else none
          | _ => none)
    | _ => none)
  | _ => none
set_option maxHeartbeats 2000000 in
theorem ee_h15.snd : ee_Snd ee_h15 := by
  intro X Y oc own cc ini dm bc bs Q e st sts F ho hi hd he hpc h k
  obtain ⟨p, l, en, R, s, m, args, below, meth, c⟩ := X
  obtain ⟨A, D, dA, ex, x0, a0, sv0, nL⟩ := Y
  obtain ⟨pc, lo, stk, w, iv, kc, ks, sv⟩ := st
  obtain ⟨pc', ins, len, hn, ea, eb, ez, qa, qb, qc⟩ := e
  obtain ⟨hx, hb, hml, hown, hts, hK, hA, hini, hR, hE⟩ := F
  have hpc : pc = pc' := hpc
  subst hpc
  have hd : decode cc pc = .ok (ins, len) := hd
  intro ns as H lc ls vs C
  obtain ⟨c1, c2, c3, c4, c5, c6⟩ := C
  show W p l en R s m args below meth c H lc kc ks Q (F0 m pc ls vs)
  match stk, vs, c4, h with
  | [], _, _, h => exact ee_no h
  | [_], _, _, h => exact ee_no h
  | y :: x :: stk, [], c4, h => exact c4.elim
  | y :: x :: stk, [_], c4, h => exact c4.2.elim
  | x :: y :: stk, vx :: vy :: vs, ⟨cx, cy, c4⟩, h =>
    cases y with
    | ref j =>
      obtain ⟨a, rfl⟩ := ee_v.ref cy
      cases ins with
      | putfield i =>
        replace h : (match w[j]? with
          | some (.inl (ci, fs)) => if (j < 1000000 ∧ ci = qa) ∧ qb < fs.length ∧ ee_fit qc iv x = true then ee_nx len 3 [(pc + 3, lo, stk, w.set j (.inl (ci, fs.set qb x)), iv, kc, ks, sv)] else none
          | _ => none) = some sts := h
        have hee : (match ee_FL[ea]? with
          | some q => decide (q.1 = oc) && (decide (q.2.1 = i) && ((decide (q.2.2.1 = qa) && (decide (q.2.2.2.1 = qb) && decide (q.2.2.2.2.2 = qc))) && (!ee_ini (pc, ClassFile.Instr.putfield i, len, hn, ea, eb, ez, qa, qb, qc) || decide (q.2.2.1 = oc))))
          | none => false) = true := he
        cases hq : ee_FL[ea]? with
        | none => rw [hq] at hee; cases hee
        | some q =>
          rw [hq] at hee
          simp only at hee
          obtain ⟨u1, u2⟩ := ee_and hee
          obtain ⟨u3, u4⟩ := ee_and u2
          obtain ⟨u5, e3⟩ := ee_and u4
          obtain ⟨u6, u7⟩ := ee_and u5
          obtain ⟨u8, u9⟩ := ee_and u7
          have e1 := of_decide_eq_true u1
          have e2 := of_decide_eq_true u3
          have eqa := of_decide_eq_true u6
          have eqb := of_decide_eq_true u8
          have eqc := of_decide_eq_true u9
          obtain ⟨r, f1, f2, f3, ty, f4, f5⟩ := ee_FLok q (List.mem_of_getElem? hq)
          rw [e1, ee_own_ow ho, e2] at f3
          rw [eqa] at f1
          rw [eqb] at f2 f3 f4
          rw [eqc] at f5
          split at h
          · rename_i ci fs hw
            by_cases hc : (j < 1000000 ∧ ci = qa) ∧ qb < fs.length ∧ ee_fit qc iv x = true
            · rw [if_pos hc] at h
              obtain ⟨rfl, rfl⟩ := ee_nx_some h
              obtain ⟨⟨hc1, hc2⟩, hc3, hc4⟩ := hc
              obtain ⟨ws, c6w, hP, hD, hS⟩ := c6
              obtain ⟨ec, g1, vs1, rfl, g3⟩ := c6w.at hw (cy.at hc1)
              subst hc2
              obtain ⟨n1, n2⟩ := ee_fit.ok c1 cx hc4 f5
              have hlen : qb < vs1.length := by rw [← g3.len]; exact hc3
              obtain ⟨C, T, N⟩ := r
              obtain ⟨k1, k2, ty0, k3⟩ := ee_kd _ _ f1
              have next : ∀ (H1 : Heap) (lc1 : List Loc), va_P D vwCl (ws.set j (a, .inr (ci, vs1.set qb vx))) H1 → va_D A (ws.set j (a, .inr (ci, vs1.set qb vx))) → va_S A s.heap H1 lc1 → W p l en R s m args below meth c H1 lc1 kc ks Q (F0 m (pc + 3) ls vs) := fun H1 lc1 hP1 hD1 hS1 =>
                k _ List.mem_cons_self ns as H1 lc1 ls _ ⟨c1, c2, c3, c4, c5, _, c6w.set g1 ⟨_, rfl, g3.set cx⟩, hP1, hD1, hS1⟩
              by_cases hf : (T qb).2.2.2 = true
              · have hi2 : ee_ini (pc, ClassFile.Instr.putfield i, 3, hn, ea, eb, ez, ci, qb, qc) = true := by
                  show (match ee_FL[ea]? with
                    | some q => (match vwCl[q.2.2.1]? with
                      | some r => (r.2.1 q.2.2.2.1).2.2.2
                      | none => false)
                    | none => false) = true
                  rw [hq]
                  simp only
                  rw [eqa, f1, eqb]
                  exact hf
                have hoc : ci = oc := by
                  rw [hi2] at e3
                  rw [← eqa]
                  exact of_decide_eq_true (by simpa using e3)
                have hdc : (T qb).1 = own := by
                  rw [(k3 _ f2).2]
                  have := ee_okn _ _ f1
                  rw [hoc, ho] at this
                  exact (Option.some.inj this).symm
                exact va_putF (C := C) (T := T) (N := N) hx hb hts k1 ty0 (fun z hz => (k3 z hz).1) k2 hown hK hP hD hS j g1 f1 qb f2 (hts _ f3) (fun _ z => z) hf (hini (hi hi2)) hdc f4 n1 n2 hlen hd next
              · exact va_put (C := C) (T := T) (N := N) hx hb hts k1 ty0 (fun z hz => (k3 z hz).1) k2 hown hK hP hD hS j g1 f1 qb f2 (hts _ f3) (fun _ z => z) (by simpa using hf) f4 n1 n2 hlen hd next
            · rw [if_neg hc] at h
              exact ee_no h
          · exact ee_no h
      | _ => exact ee_no h
    | _ => exact ee_no h
/-- an index that is known and in its row -/
def ee_ix (iv : ee_iv) (i : Value) (n : Nat) : Option Nat := match ee_cn iv i with
  | some z => if 0 ≤ z.toInt ∧ z.toInt < (n : Int) then some z.toInt.toNat else none
  | none => none
theorem ee_ix.ok {ns : List Int32} {as : List Nat} {ex : Nat → Nat} {iv : ee_iv} {i v : Value} {n j : Nat} (hk : ee_ok ns iv) (hv : ee_v ns as ex i v) (h : ee_ix iv i n = some j) : ∃ z : Int32, v = .int z ∧ z.toNatClampNeg = j ∧ j < n ∧ vp_in z n := by
  unfold ee_ix at h
  cases hq : ee_cn iv i with
  | none => rw [hq] at h; cases h
  | some z =>
    rw [hq] at h
    simp only at h
    by_cases hc : 0 ≤ z.toInt ∧ z.toInt < (n : Int)
    · rw [if_pos hc] at h
      cases h
      exact ⟨z, ee_cn.int hk hv hq, rfl, by omega, vp_in_iff.mpr hc⟩
    · rw [if_neg hc] at h
      cases h
/-- an index in its row -/
def ee_ib (iv : ee_iv) (i : Value) (n : Nat) : Bool := match ee_it iv i with
  | some (a, b) => decide (0 ≤ a) && decide (b < (n : Int))
  | none => false
theorem ee_ib.ok {ns : List Int32} {as : List Nat} {ex : Nat → Nat} {iv : ee_iv} {i v : Value} {n : Nat} (hk : ee_ok ns iv) (hv : ee_v ns as ex i v) (h : ee_ib iv i n = true) : ∃ z : Int32, v = .int z ∧ vp_in z n := by
  unfold ee_ib at h
  cases hq : ee_it iv i with
  | none => rw [hq] at h; cases h
  | some q =>
    obtain ⟨a, b⟩ := q
    rw [hq] at h
    obtain ⟨e1, e2⟩ := ee_and h
    have e1 := of_decide_eq_true e1
    have e2 := of_decide_eq_true e2
    obtain ⟨z, rfl, z1, z2⟩ := ee_it.int hk hv hq
    exact ⟨z, rfl, vp_in_iff.mpr ⟨by omega, by omega⟩⟩
end
section
/-! handlers: arrays read -/
def ee_h16 : ee_H := fun _ _ _ e st => match st with
  | (pc, lo, .ref k :: stk, w, iv, kc, ks, sv) => (match e.2.1 with
      | .arraylength => if 1000100 ≤ k ∧ k < 1000102 then ee_nx e.2.2.1 1 [(pc + 1, lo, .int (Int32.ofNat (ee_len.getD (k - 1000100) 0)) :: stk, w, iv, kc, ks, sv)] else (match w[k]? with
        | some (.inr (_, n, _, _, _)) => if k < 1000000 then ee_nx e.2.2.1 1 [(pc + 1, lo, .int (Int32.ofNat n) :: stk, w, iv, kc, ks, sv)] else none
        | _ => none)
      | _ => none)
  | _ => none
/-- an array's cell, whatever its kind -/
theorem ee_c.arr {ns : List Int32} {as : List Nat} {ex : Nat → Nat} {dA : Nat → ClassId} {t n P : Nat} {sg : List (Nat × Int × Int)} {ov : List (Nat × Value)} {e : va_E} (h : ee_c ns as ex dA (.inr (t, n, P, sg, ov)) e) : ∃ t', t' < 4 ∧ ∃ y : vp_A, e = .inl (dA t', y) ∧ y.1 = n := by
  unfold ee_c at h
  by_cases ht : t = 3
  · simp only [ht, if_true] at h
    obtain ⟨f, rfl⟩ := h
    exact ⟨3, by omega, _, rfl, rfl⟩
  · simp only [ht, if_false] at h
    by_cases h4 : t = 4
    · simp only [h4, if_true] at h
      obtain ⟨f, rfl, -⟩ := h
      exact ⟨0, by omega, _, rfl, rfl⟩
    · simp only [h4, if_false] at h
      obtain ⟨h0, f, rfl, -⟩ := h
      exact ⟨t, by omega, _, rfl, rfl⟩
theorem ee_c.ints {ns : List Int32} {as : List Nat} {ex : Nat → Nat} {dA : Nat → ClassId} {t n P : Nat} {sg : List (Nat × Int × Int)} {ov : List (Nat × Value)} {e : va_E} (h : ee_c ns as ex dA (.inr (t, n, P, sg, ov)) e) (ht : t < 3) : ∃ f : Nat → Int32, e = .inl (dA t, n, .inl f) ∧ ∀ j, j < n → ee_el ns as ex P sg ov j (f j) := by
  unfold ee_c at h
  simp only [show ¬ t = 3 by omega, show ¬ t = 4 by omega, if_false] at h
  obtain ⟨-, f, h1, h2⟩ := h
  exact ⟨f, h1, h2⟩
theorem ee_c.mk {ns : List Int32} {as : List Nat} {ex : Nat → Nat} {dA : Nat → ClassId} {t n P : Nat} {sg : List (Nat × Int × Int)} {ov : List (Nat × Value)} {f : Nat → Int32} (ht : t < 3) (h : ∀ j, j < n → ee_el ns as ex P sg ov j (f j)) : ee_c ns as ex dA (.inr (t, n, P, sg, ov)) (.inl (dA t, n, .inl f)) := by
  unfold ee_c
  simp only [show ¬ t = 3 by omega, show ¬ t = 4 by omega, if_false]
  exact ⟨ht, f, rfl, h⟩
theorem ee_c.lngs {ns : List Int32} {as : List Nat} {ex : Nat → Nat} {dA : Nat → ClassId} {n P : Nat} {sg : List (Nat × Int × Int)} {ov : List (Nat × Value)} {e : va_E} (h : ee_c ns as ex dA (.inr (3, n, P, sg, ov)) e) : ∃ f : Nat → Int64, e = .inl (dA 3, n, .inr (.inl f)) := by
  unfold ee_c at h
  simp only [if_true] at h
  exact h
theorem ee_c.mkl {ns : List Int32} {as : List Nat} {ex : Nat → Nat} {dA : Nat → ClassId} {n P : Nat} {sg : List (Nat × Int × Int)} {ov : List (Nat × Value)} {f : Nat → Int64} : ee_c ns as ex dA (.inr (3, n, P, sg, ov)) (.inl (dA 3, n, .inr (.inl f))) := by
  unfold ee_c
  simp only [if_true]
  exact ⟨f, rfl⟩
theorem ee_tys_at {dA : Nat → ClassId} {t : Nat} (h : t < 4) : ∃ ty, (ee_tys dA)[t]? = some (dA t, ty) := by
  match t, h with
  | 0, _ => exact ⟨_, rfl⟩
  | 1, _ => exact ⟨_, rfl⟩
  | 2, _ => exact ⟨_, rfl⟩
  | 3, _ => exact ⟨_, rfl⟩
set_option maxHeartbeats 2000000 in
theorem ee_h16.snd : ee_Snd ee_h16 := by
  intro X Y oc own cc ini dm bc bs Q e st sts F ho hi hd he hpc h k
  obtain ⟨p, l, en, R, s, m, args, below, meth, c⟩ := X
  obtain ⟨A, D, dA, ex, x0, a0, sv0, nL⟩ := Y
  obtain ⟨pc, lo, stk, w, iv, kc, ks, sv⟩ := st
  obtain ⟨pc', ins, len, hn, ea, eb, ez, qa, qb, qc⟩ := e
  obtain ⟨hx, hb, hml, hown, hts, hK, hA, hini, hR, hE⟩ := F
  have hpc : pc = pc' := hpc
  subst hpc
  have hd : decode cc pc = .ok (ins, len) := hd
  intro ns as H lc ls vs C
  obtain ⟨c1, c2, c3, c4, c5, c6⟩ := C
  show W p l en R s m args below meth c H lc kc ks Q (F0 m pc ls vs)
  cases stk with
  | nil => exact ee_no h
  | cons x stk =>
    cases vs with
    | nil => exact c4.elim
    | cons v vs =>
      obtain ⟨c4v, c4⟩ := c4
      cases x with
      | ref j =>
        obtain ⟨a, rfl⟩ := ee_v.ref c4v
        cases ins with
        | arraylength =>
          replace h : (if 1000100 ≤ j ∧ j < 1000102 then ee_nx len 1 [(pc + 1, lo, .int (Int32.ofNat (ee_len.getD (j - 1000100) 0)) :: stk, w, iv, kc, ks, sv)] else (match w[j]? with
            | some (.inr (_, n, _, _, _)) => if j < 1000000 then ee_nx len 1 [(pc + 1, lo, .int (Int32.ofNat n) :: stk, w, iv, kc, ks, sv)] else none
            | _ => none)) = some sts := h
          obtain ⟨ws, c6w, hP, hD, hS⟩ := c6
          by_cases h2 : 1000100 ≤ j ∧ j < 1000102
          · rw [if_pos h2] at h
            obtain ⟨rfl, rfl⟩ := ee_nx_some h
            obtain ⟨h21, h22⟩ := h2
            have ha := c4v.out (Nat.not_lt.mpr (Nat.le_trans (by decide) h21))
            subst ha
            obtain ⟨i0, hi0, rfl⟩ : ∃ i0, i0 < 2 ∧ j = 1000100 + i0 := ⟨j - 1000100, Nat.sub_lt_left_of_lt_add h21 h22, (Nat.add_sub_of_le h21).symm⟩
            obtain ⟨-, -, -, g4⟩ := hE.1.1 i0 hi0
            rw [Nat.add_sub_cancel_left] at k
            exact va_tlen hx hb g4 hS rfl hd (k _ List.mem_cons_self ns as H lc ls _ ⟨c1, c2, c3, ⟨rfl, c4⟩, c5, ws, c6w, hP, hD, hS⟩)
          · rw [if_neg h2] at h
            split at h
            · rename_i t n a1 b1 ov hw
              by_cases h3 : j < 1000000
              · rw [if_pos h3] at h
                obtain ⟨rfl, rfl⟩ := ee_nx_some h
                obtain ⟨ec, g1, g2⟩ := c6w.at hw (c4v.at h3)
                obtain ⟨t', t4, y, rfl, g3⟩ := g2.arr
                obtain ⟨ty, hty⟩ := ee_tys_at (dA := dA) t4
                exact va_alen hx hb hK hP j t' g1 hty (by rw [g3]) hd (k _ List.mem_cons_self ns as H lc ls _ ⟨c1, c2, c3, ⟨rfl, c4⟩, c5, ws, c6w, hP, hD, hS⟩)
              · rw [if_neg h3] at h
                exact ee_no h
            · exact ee_no h
        | _ => exact ee_no h
      | _ => exact ee_no h
end
section
/-! handlers: arrays read -/
def ee_sg1 (sg : List (Nat × Int × Int)) (j : Nat) : Option (Int × Int) := match sg.find? (fun s => Nat.blt j s.1) with
  | some s => some s.2
  | none => none
def ee_rj (P j : Nat) : Nat := if P = 0 then j else j % P
theorem ee_seg_eq (P : Nat) (sg : List (Nat × Int × Int)) (j : Nat) : ee_seg P sg j = ee_sg1 sg (ee_rj P j) := rfl
def ee_bd (q : Option (Int × Int)) (z : Int) : Prop := match q with
  | some q => q.1 ≤ z ∧ z ≤ q.2
  | none => True
theorem ee_sgp_eq (P : Nat) (sg : List (Nat × Int × Int)) (j : Nat) (z : Int32) : ee_sgp P sg j z ↔ ee_bd (ee_sg1 sg (ee_rj P j)) z.toInt := Iff.rfl
/-- bounds of the elements from a to b -/
def ee_jn : List (Nat × Int × Int) → Nat → Int → Int → Option (Int × Int)
  | [], st, _, b => if (st : Int) ≤ b then some (-2147483648, 2147483647) else none
  | (u, lo, hi) :: r, st, a, b => match ee_jn r u a b with
    | none => if (st : Int) ≤ b ∧ a < u then some (lo, hi) else none
    | some q => if (st : Int) ≤ b ∧ a < u then some (ee_mn lo q.1, ee_mx hi q.2) else some q
theorem ee_mn_le {a b : Int} : ee_mn a b ≤ a ∧ ee_mn a b ≤ b := by unfold ee_mn; split <;> omega
theorem ee_le_mx {a b : Int} : a ≤ ee_mx a b ∧ b ≤ ee_mx a b := by unfold ee_mx; split <;> omega
theorem ee_sg1_cons (u : Nat) (q : Int × Int) (r : List (Nat × Int × Int)) (j : Nat) : ee_sg1 ((u, q) :: r) j = if j < u then some q else ee_sg1 r j := by
  unfold ee_sg1
  rw [List.find?_cons]
  by_cases h : j < u
  · have : Nat.blt j u = true := by rw [Nat.blt_eq]; exact h
    simp only [this, h, if_true]
  · have : Nat.blt j u = false := by
      cases hb : Nat.blt j u with
      | false => rfl
      | true => exact absurd (Nat.blt_eq.mp hb) h
    simp only [this, h, if_false]
theorem ee_jn.ok {a b : Int} {j : Nat} {z : Int} (h1 : a ≤ j) (h2 : (j : Int) ≤ b) (hz : -2147483648 ≤ z ∧ z ≤ 2147483647) : ∀ {sg : List (Nat × Int × Int)} {st : Nat}, st ≤ j → ee_bd (ee_sg1 sg j) z → ∃ q, ee_jn sg st a b = some q ∧ q.1 ≤ z ∧ z ≤ q.2
  | [], st, hs, _ => ⟨(-2147483648, 2147483647), by unfold ee_jn; rw [if_pos (by omega)], hz⟩
  | (u, lo, hi) :: r, st, hs, hb => by
    rw [ee_sg1_cons] at hb
    unfold ee_jn
    by_cases hj : j < u
    · rw [if_pos hj] at hb
      have hb : lo ≤ z ∧ z ≤ hi := hb
      have hc : (st : Int) ≤ b ∧ a < u := ⟨by omega, by omega⟩
      cases ee_jn r u a b with
      | none => exact ⟨(lo, hi), by simp only [hc, and_self, if_true], hb⟩
      | some q =>
        refine ⟨(ee_mn lo q.1, ee_mx hi q.2), by simp only [hc, and_self, if_true], ?_⟩
        have m1 := ee_mn_le (a := lo) (b := q.1)
        have m2 := ee_le_mx (a := hi) (b := q.2)
        exact ⟨by show ee_mn lo q.1 ≤ z; omega, by show z ≤ ee_mx hi q.2; omega⟩
    · rw [if_neg hj] at hb
      obtain ⟨q, g1, g2, g3⟩ := ee_jn.ok h1 h2 hz (sg := r) (st := u) (by omega) hb
      rw [g1]
      simp only
      by_cases hc : (st : Int) ≤ b ∧ a < u
      · rw [if_pos hc]
        have m1 := ee_mn_le (a := lo) (b := q.1)
        have m2 := ee_le_mx (a := hi) (b := q.2)
        exact ⟨_, rfl, by show ee_mn lo q.1 ≤ z; omega, by show z ≤ ee_mx hi q.2; omega⟩
      · rw [if_neg hc]
        exact ⟨q, rfl, g2, g3⟩
/-- may a number between u and v be put there? -/
def ee_wk : List (Nat × Int × Int) → Nat → Int → Int → Int → Int → Bool
  | [], _, _, _, _, _ => true
  | (t, lo, hi) :: r, st, a, b, u, v => (!decide ((st : Int) ≤ b ∧ a < t) || (decide (lo ≤ u) && decide (v ≤ hi))) && ee_wk r t a b u v
theorem ee_wk.ok {a b u v : Int} {j : Nat} {z : Int} (h1 : a ≤ j) (h2 : (j : Int) ≤ b) (h3 : u ≤ z) (h4 : z ≤ v) : ∀ {sg : List (Nat × Int × Int)} {st : Nat}, st ≤ j → ee_wk sg st a b u v = true → ee_bd (ee_sg1 sg j) z
  | [], _, _, _ => trivial
  | (t, lo, hi) :: r, st, hs, h => by
    unfold ee_wk at h
    obtain ⟨g1, g2⟩ := ee_and h
    rw [ee_sg1_cons]
    by_cases hj : j < t
    · rw [if_pos hj]
      have hc : (st : Int) ≤ b ∧ a < t := ⟨by omega, by omega⟩
      rw [decide_eq_true hc] at g1
      obtain ⟨e1, e2⟩ := ee_and (show (decide (lo ≤ u) && decide (v ≤ hi)) = true by simpa using g1)
      have e1 := of_decide_eq_true e1
      have e2 := of_decide_eq_true e2
      exact ⟨by show lo ≤ z; omega, by show z ≤ hi; omega⟩
    · rw [if_neg hj]
      exact ee_wk.ok h1 h2 h3 h4 (by omega) g2
/-- the rest by a period, if it is known -/
def ee_rs1 (iv : ee_iv) (i : Value) (P : Nat) : Option Nat := match i with
  | .int c => if 0 ≤ c.toInt then some (c.toInt.toNat % P) else none
  | .retAddr k => (match ee_at1 iv k with
    | some q => (match q.2.2.2.find? (fun f => Nat.beq f.1 4 && Nat.beq f.2.1 P) with
      | some f => if 0 ≤ f.2.2 then some f.2.2.toNat else none
      | none => none)
    | none => none)
  | _ => none
theorem ee_rs1.ok {ns : List Int32} {as : List Nat} {ex : Nat → Nat} {iv : ee_iv} {i : Value} {P r : Nat} {z : Int32} (hk : ee_ok ns iv) (hv : ee_v ns as ex i (.int z)) (hz : 0 ≤ z.toInt) (h : ee_rs1 iv i P = some r) : z.toInt.toNat % P = r := by
  cases i with
  | int c =>
    cases (show Value.int z = Value.int c from hv)
    unfold ee_rs1 at h
    simp only at h
    rw [if_pos hz] at h
    exact Option.some.inj h
  | retAddr k =>
    unfold ee_rs1 at h
    simp only at h
    cases hq : ee_at1 iv k with
    | none => rw [hq] at h; cases h
    | some q =>
      rw [hq] at h
      simp only at h
      cases hf : q.2.2.2.find? (fun f => Nat.beq f.1 4 && Nat.beq f.2.1 P) with
      | none => rw [hf] at h; cases h
      | some f =>
        rw [hf] at h
        simp only at h
        obtain ⟨y, g1, -, -, g4⟩ := ee_at1.ok hk hq
        rw [hv.sy] at g1
        cases g1
        have e4 : (Nat.beq f.1 4 && Nat.beq f.2.1 P) = true := List.find?_some (p := fun f : ee_fa => Nat.beq f.1 4 && Nat.beq f.2.1 P) hf
        obtain ⟨e4, e5⟩ := ee_and e4
        have e4 := Nat.eq_of_beq_eq_true e4
        have e5 := Nat.eq_of_beq_eq_true e5
        have g5 := g4 f (List.mem_of_find?_eq_some hf)
        obtain ⟨kd, m, s⟩ := f
        have e4 : kd = 4 := e4
        have e5 : m = P := e5
        subst e4
        subst e5
        have g5 : z.toInt % (m : Int) = s := g5
        by_cases hs : 0 ≤ s
        · rw [if_pos hs] at h
          have h : s.toNat = r := Option.some.inj h
          show z.toInt.toNat % m = r
          have : ((z.toInt.toNat % m : Nat) : Int) = s := by rw [Int.natCast_emod, show ((z.toInt.toNat : Nat) : Int) = z.toInt by omega]; exact g5
          omega
        · rw [if_neg hs] at h; cases h
  | _ => cases h
/-- which elements of the period an index may mean -/
def ee_wh (iv : ee_iv) (i : Value) (P : Nat) (a b : Int) : Int × Int := if P = 0 then (a, b) else (match ee_rs1 iv i P with
  | some r => ((r : Int), (r : Int))
  | none => (0, (P : Int) - 1))
theorem ee_wh.ok {ns : List Int32} {as : List Nat} {ex : Nat → Nat} {iv : ee_iv} {i : Value} {P : Nat} {a b : Int} {z : Int32} (hk : ee_ok ns iv) (hv : ee_v ns as ex i (.int z)) (hz : 0 ≤ z.toInt) (h1 : a ≤ z.toInt) (h2 : z.toInt ≤ b) : (ee_wh iv i P a b).1 ≤ (ee_rj P z.toInt.toNat : Nat) ∧ ((ee_rj P z.toInt.toNat : Nat) : Int) ≤ (ee_wh iv i P a b).2 := by
  unfold ee_wh ee_rj
  by_cases hP : P = 0
  · rw [if_pos hP, if_pos hP]
    exact ⟨by show a ≤ _; omega, by show _ ≤ b; omega⟩
  · rw [if_neg hP, if_neg hP]
    cases hr : ee_rs1 iv i P with
    | none =>
      have := Nat.mod_lt z.toInt.toNat (show 0 < P by omega)
      exact ⟨by show (0 : Int) ≤ _; omega, by show _ ≤ (P : Int) - 1; omega⟩
    | some r =>
      rw [ee_rs1.ok hk hv hz hr]
      exact ⟨Int.le_refl _, Int.le_refl _⟩
/-- the named elements from a to b, joined to q -/
def ee_jo (iv : ee_iv) (a b : Int) : List (Nat × Value) → Option (Int × Int) → Option (Option (Int × Int))
  | [], q => some q
  | (j, x) :: l, q => match ee_jo iv a b l q with
    | none => none
    | some q => if a ≤ (j : Int) ∧ (j : Int) ≤ b then (match ee_it iv x with
        | none => none
        | some r => (match q with
          | none => some (some r)
          | some s => some (some (ee_mn r.1 s.1, ee_mx r.2 s.2)))) else some q
theorem ee_jo.ok {iv : ee_iv} {a b z : Int} : ∀ {ov : List (Nat × Value)} {q q' : Option (Int × Int)}, ee_jo iv a b ov q = some q' → (∃ r, q = some r ∧ r.1 ≤ z ∧ z ≤ r.2) ∨ (∃ (j : Nat) (x : Value) (r : Int × Int), (j, x) ∈ ov ∧ (a ≤ (j : Int) ∧ (j : Int) ≤ b) ∧ ee_it iv x = some r ∧ r.1 ≤ z ∧ z ≤ r.2) → ∃ r, q' = some r ∧ r.1 ≤ z ∧ z ≤ r.2
  | [], q, q', h, hz => by
    cases h
    rcases hz with h | ⟨j, x, r, h, -⟩
    · exact h
    · cases h
  | (j, x) :: l, q, q', h, hz => by
    unfold ee_jo at h
    cases h1 : ee_jo iv a b l q with
    | none => rw [h1] at h; cases h
    | some q1 =>
      rw [h1] at h
      simp only at h
      have old : ((∃ r, q = some r ∧ r.1 ≤ z ∧ z ≤ r.2) ∨ (∃ (j : Nat) (x : Value) (r : Int × Int), (j, x) ∈ l ∧ (a ≤ (j : Int) ∧ (j : Int) ≤ b) ∧ ee_it iv x = some r ∧ r.1 ≤ z ∧ z ≤ r.2)) → ∃ r, q1 = some r ∧ r.1 ≤ z ∧ z ≤ r.2 := fun g => ee_jo.ok h1 g
      by_cases hc : a ≤ (j : Int) ∧ (j : Int) ≤ b
      · rw [if_pos hc] at h
        cases hx : ee_it iv x with
        | none => rw [hx] at h; cases h
        | some r =>
          rw [hx] at h
          simp only at h
          have new : (∃ r, q1 = some r ∧ r.1 ≤ z ∧ z ≤ r.2) ∨ (r.1 ≤ z ∧ z ≤ r.2) := by
            rcases hz with g | ⟨j2, x2, r2, g1, g2, g3, g4⟩
            · exact Or.inl (old (Or.inl g))
            · rcases List.mem_cons.mp g1 with g1 | g1
              · cases g1
                rw [hx] at g3
                cases g3
                exact Or.inr g4
              · exact Or.inl (old (Or.inr ⟨j2, x2, r2, g1, g2, g3, g4⟩))
          cases q1 with
          | none =>
            cases h
            rcases new with ⟨r, g, -⟩ | g
            · cases g
            · exact ⟨r, rfl, g⟩
          | some s =>
            cases h
            have m1 := ee_mn_le (a := r.1) (b := s.1)
            have m2 := ee_le_mx (a := r.2) (b := s.2)
            refine ⟨_, rfl, ?_⟩
            rcases new with ⟨r', g, g2⟩ | g
            · cases g
              exact ⟨by show ee_mn r.1 s.1 ≤ z; omega, by show z ≤ ee_mx r.2 s.2; omega⟩
            · exact ⟨by show ee_mn r.1 s.1 ≤ z; omega, by show z ≤ ee_mx r.2 s.2; omega⟩
      · rw [if_neg hc] at h
        cases h
        refine old ?_
        rcases hz with g | ⟨j2, x2, r2, g1, g2, g3, g4⟩
        · exact Or.inl g
        · rcases List.mem_cons.mp g1 with g1 | g1
          · cases g1
            exact absurd g2 hc
          · exact Or.inr ⟨j2, x2, r2, g1, g2, g3, g4⟩
/-- an element read: its value, the symbols then, the named elements if there is one more -/
def ee_rd (iv : ee_iv) (n P : Nat) (sg : List (Nat × Int × Int)) (ov : List (Nat × Value)) (i : Value) : Option (Value × ee_iv × Option (List (Nat × Value))) := match ee_ix iv i n with
  | some j => (match ov.lookup j with
    | some x => some (x, iv, none)
    | none => (match ee_sg1 sg (ee_rj P j) with
      | some q => if q.1 = q.2 then some (.int (Int32.ofInt q.1), iv, none) else some (.retAddr iv.1, ee_ps iv q.1 q.2 [], some ((j, .retAddr iv.1) :: ov))
      | none => some (.retAddr iv.1, ee_ps iv (-2147483648) 2147483647 [], some ((j, .retAddr iv.1) :: ov))))
  | none => (match ee_it iv i with
    | some (a, b) => if 0 ≤ a ∧ b < (n : Int) then (match ee_jo iv a b ov (ee_jn sg 0 (ee_wh iv i P a b).1 (ee_wh iv i P a b).2) with
        | some (some q) => some (.retAddr iv.1, ee_ps iv q.1 q.2 [], none)
        | _ => none) else none
    | none => none)
theorem ee_mem_lookup {ov : List (Nat × Value)} {j : Nat} {x : Value} (h : ov.lookup j = some x) : (j, x) ∈ ov := by
  induction ov with
  | nil => cases h
  | cons p l ih =>
    obtain ⟨a, y⟩ := p
    rw [List.lookup_cons] at h
    cases hb : j == a with
    | true =>
      rw [hb] at h
      cases h
      rw [show j = a by simpa using hb]
      exact List.mem_cons_self
    | false =>
      rw [hb] at h
      exact List.mem_cons_of_mem _ (ih h)
theorem ee_rd.ok {ns : List Int32} {as : List Nat} {ex : Nat → Nat} {iv iv' : ee_iv} {n P : Nat} {sg : List (Nat × Int × Int)} {ov : List (Nat × Value)} {i vi x : Value} {o : Option (List (Nat × Value))} {f : Nat → Int32} (hk : ee_ok ns iv) (hi : ee_v ns as ex i vi) (hf : ∀ j, j < n → ee_el ns as ex P sg ov j (f j)) (h : ee_rd iv n P sg ov i = some (x, iv', o)) :
    ∃ q : Int32, vi = .int q ∧ vp_in q n ∧ ((iv' = iv ∧ o = none ∧ ee_v ns as ex x (.int (f q.toNatClampNeg))) ∨ ∃ lo hi : Int, x = .retAddr iv.1 ∧ iv' = ee_ps iv lo hi [] ∧ lo ≤ (f q.toNatClampNeg).toInt ∧ (f q.toNatClampNeg).toInt ≤ hi ∧ (o = none ∨ o = some ((q.toNatClampNeg, x) :: ov))) := by
  unfold ee_rd at h
  cases hx : ee_ix iv i n with
  | some j =>
    rw [hx] at h
    simp only at h
    obtain ⟨q, rfl, f1, f2, f3⟩ := ee_ix.ok hk hi hx
    refine ⟨q, rfl, f3, ?_⟩
    have hel := hf j f2
    rw [f1]
    unfold ee_el at hel
    cases hl : ov.lookup j with
    | some y =>
      rw [hl] at h hel
      cases h
      exact Or.inl ⟨rfl, rfl, hel⟩
    | none =>
      rw [hl] at h hel
      simp only at h hel
      rw [ee_sgp_eq] at hel
      cases hs : ee_sg1 sg (ee_rj P j) with
      | none =>
        rw [hs] at h
        cases h
        exact Or.inr ⟨_, _, rfl, rfl, (ee_rng _).1, (ee_rng _).2, Or.inr rfl⟩
      | some r =>
        rw [hs] at h hel
        have hel : r.1 ≤ (f j).toInt ∧ (f j).toInt ≤ r.2 := hel
        simp only at h
        by_cases hr : r.1 = r.2
        · rw [if_pos hr] at h
          cases h
          refine Or.inl ⟨rfl, rfl, ?_⟩
          show Value.int (f j) = Value.int (Int32.ofInt r.1)
          rw [← show (f j).toInt = r.1 by omega, Int32.ofInt_toInt]
        · rw [if_neg hr] at h
          cases h
          exact Or.inr ⟨_, _, rfl, rfl, hel.1, hel.2, Or.inr rfl⟩
  | none =>
    rw [hx] at h
    simp only at h
    cases ht : ee_it iv i with
    | none => rw [ht] at h; cases h
    | some q =>
      obtain ⟨a, b⟩ := q
      rw [ht] at h
      simp only at h
      by_cases hc : 0 ≤ a ∧ b < (n : Int)
      · rw [if_pos hc] at h
        obtain ⟨z, rfl, z1, z2⟩ := ee_it.int hk hi ht
        refine ⟨z, rfl, vp_in_iff.mpr ⟨by omega, by omega⟩, ?_⟩
        have hz : z.toNatClampNeg = z.toInt.toNat := rfl
        rw [hz]
        split at h
        · rename_i r hr
          cases h
          have hel := hf z.toInt.toNat (by omega)
          have w := ee_wh.ok (P := P) hk hi (by omega) z1 z2
          have key : ∃ r', some r = some r' ∧ r'.1 ≤ (f z.toInt.toNat).toInt ∧ (f z.toInt.toNat).toInt ≤ r'.2 := by
            refine ee_jo.ok hr ?_
            unfold ee_el at hel
            cases hl : ov.lookup z.toInt.toNat with
            | some y =>
              rw [hl] at hel
              have hm := ee_mem_lookup hl
              by_cases hyi : ∃ s, ee_it iv y = some s
              · obtain ⟨s, hs⟩ := hyi
                obtain ⟨u, e1, e2, e3⟩ := ee_it.int (a := s.1) (b := s.2) hk hel hs
                cases e1
                exact Or.inr ⟨_, y, s, hm, ⟨by omega, by omega⟩, hs, e2, e3⟩
              · exfalso
                have bad : ∀ {l : List (Nat × Value)} {q0 q1 : Option (Int × Int)}, ee_jo iv a b l q0 = some q1 → (z.toInt.toNat, y) ∈ l → False := by
                  intro l
                  induction l with
                  | nil => intro q0 q1 _ hm; cases hm
                  | cons c l ih =>
                    intro q0 q1 hj hm
                    obtain ⟨j, x⟩ := c
                    unfold ee_jo at hj
                    cases h1 : ee_jo iv a b l q0 with
                    | none => rw [h1] at hj; cases hj
                    | some q2 =>
                      rcases List.mem_cons.mp hm with e | hm
                      · cases e
                        rw [h1] at hj
                        simp only at hj
                        rw [if_pos ⟨by omega, by omega⟩] at hj
                        cases hy2 : ee_it iv y with
                        | none => rw [hy2] at hj; cases hj
                        | some s => exact hyi ⟨s, hy2⟩
                      · exact ih h1 hm
                exact bad hr hm
            | none =>
              rw [hl] at hel
              simp only at hel
              rw [ee_sgp_eq] at hel
              exact Or.inl (ee_jn.ok w.1 w.2 (ee_rng _) (Nat.zero_le _) hel)
          obtain ⟨r', e, e1, e2⟩ := key
          cases e
          exact Or.inr ⟨_, _, rfl, rfl, e1, e2, Or.inl rfl⟩
        · cases h
      · rw [if_neg hc] at h; cases h
theorem ee_el.more {ns : List Int32} {as : List Nat} {ex : Nat → Nat} {P : Nat} {sg : List (Nat × Int × Int)} {ov : List (Nat × Value)} {f : Nat → Int32} {n j : Nat} {x : Value} (h : ∀ i, i < n → ee_el ns as ex P sg ov i (f i)) (hx : ee_v ns as ex x (.int (f j))) : ∀ i, i < n → ee_el ns as ex P sg ((j, x) :: ov) i (f i) := by
  intro i hi
  unfold ee_el
  rw [List.lookup_cons]
  by_cases e : i = j
  · subst e
    simp only [beq_self_eq_true]
    exact hx
  · have e' : (i == j) = false := by simpa using e
    rw [e']
    exact h i hi
def ee_ow1 (k t n P : Nat) (sg : List (Nat × Int × Int)) (w : ee_w) (o : Option (List (Nat × Value))) : ee_w := match o with
  | some ov => w.set k (.inr (t, n, P, sg, ov))
  | none => w
def ee_h22 : ee_H := fun _ _ _ e st => match st with
  | (pc, lo, i :: .ref k :: stk, w, iv, kc, ks, sv) => (match e.2.1 with
      | .iaload => (match w[k]? with
          | some (.inr (t, n, P, sg, ov)) => if t = 0 ∧ k < 1000000 then (match ee_rd iv n P sg ov i with
            | some (x, iv', o) => ee_nx e.2.2.1 1 [(pc + 1, lo, x :: stk, ee_ow1 k t n P sg w o, iv', kc, ks, sv)]
            | none => none) else none
          | _ => none)
      | .baload => if 1000100 ≤ k ∧ k < 1000102 then (match ee_ix iv i (ee_len.getD (k - 1000100) 0) with
          | some j => ee_nx e.2.2.1 1 [(pc + 1, lo, .int ((ee_byt.getD (k - 1000100) []).getD j 0) :: stk, w, iv, kc, ks, sv)]
          | none => none) else (match w[k]? with
          | some (.inr (t, n, P, sg, ov)) => if (t = 1 ∨ t = 2) ∧ k < 1000000 then (match ee_rd iv n P sg ov i with
            | some (x, iv', o) => ee_nx e.2.2.1 1 [(pc + 1, lo, x :: stk, ee_ow1 k t n P sg w o, iv', kc, ks, sv)]
            | none => none) else none
          | _ => none)
      | .laload => (match w[k]? with
          | some (.inr (t, n, _, _, _)) => if t = 3 ∧ k < 1000000 ∧ ee_ib iv i n = true then ee_nx e.2.2.1 1 [(pc + 1, lo, .double 0 :: stk, w, iv, kc, ks, sv)] else none
          | _ => none)
      | _ => none)
  | _ => none
theorem ee_set_self {α : Type} {l : List α} {k : Nat} {a : α} (h : l[k]? = some a) : l.set k a = l := by
  apply List.ext_getElem?
  intro i
  by_cases hi : i = k
  · subst hi
    rw [List.getElem?_set_self (List.getElem?_eq_some_iff.mp h).1, h]
  · rw [List.getElem?_set_ne (Ne.symm hi)]
theorem ee_wr.same {ns : List Int32} {as : List Nat} {ex : Nat → Nat} {dA : Nat → ClassId} {w : ee_w} {ws : va_W} {k a : Nat} {x : ee_cell} {e : va_E} (h : ee_wr ns as ex dA w ws) (ha : ws[k]? = some (a, e)) (hc : ee_c ns as ex dA x e) : ee_wr ns as ex dA (w.set k x) ws := by
  have := h.set ha hc
  rwa [ee_set_self ha] at this
set_option maxHeartbeats 2000000 in
theorem ee_h22.snd : ee_Snd ee_h22 := by
  intro X Y oc own cc ini dm bc bs Q e st sts F ho hi hd he hpc h k
  obtain ⟨p, l, en, R, s, m, args, below, meth, c⟩ := X
  obtain ⟨A, D, dA, ex, x0, a0, sv0, nL⟩ := Y
  obtain ⟨pc, lo, stk, w, iv, kc, ks, sv⟩ := st
  obtain ⟨pc', ins, len, hn, ea, eb, ez, qa, qb, qc⟩ := e
  obtain ⟨hx, hb, hml, hown, hts, hK, hA, hini, hR, hE⟩ := F
  have hpc : pc = pc' := hpc
  subst hpc
  have hd : decode cc pc = .ok (ins, len) := hd
  intro ns as H lc ls vs C
  obtain ⟨c1, c2, c3, c4, c5, c6⟩ := C
  show W p l en R s m args below meth c H lc kc ks Q (F0 m pc ls vs)
  match stk, vs, c4, h with
  | [], _, _, h => exact ee_no h
  | [_], _, _, h => exact ee_no h
  | y :: x :: stk, [], c4, h => exact c4.elim
  | y :: x :: stk, [_], c4, h => exact c4.2.elim
  | i :: y :: stk, vi :: vy :: vs, ⟨ci, cy, c4⟩, h =>
    cases y with
    | ref j =>
      obtain ⟨a, rfl⟩ := ee_v.ref cy
      obtain ⟨ws, c6w, hP, hD, hS⟩ := c6
      have go : ∀ (t n P1 : Nat) (sg : List (Nat × Int × Int)) (ov : List (Nat × Value)), w[j]? = some (.inr (t, n, P1, sg, ov)) → t < 3 → j < 1000000 → (match ee_rd iv n P1 sg ov i with
            | some (x, iv', o) => ee_nx len 1 [(pc + 1, lo, x :: stk, ee_ow1 j t n P1 sg w o, iv', kc, ks, sv)]
            | none => none) = some sts → len = 1 ∧ ∃ (f : Nat → Int32) (q : Int32), vi = .int q ∧ vp_in q n ∧ ws[j]? = some (a, .inl (dA t, n, .inl f)) ∧ W p l en R s m args below meth c H lc kc ks Q (F0 m (pc + 1) ls (.int (f q.toNatClampNeg) :: vs)) := by
        intro t n P1 sg ov hw ht hj h
        obtain ⟨ec, g1, g2⟩ := c6w.at hw (cy.at hj)
        obtain ⟨f, rfl, g3⟩ := g2.ints ht
        cases hr : ee_rd iv n P1 sg ov i with
        | none => rw [hr] at h; exact ee_no h
        | some r =>
          obtain ⟨x, iv', o⟩ := r
          rw [hr] at h
          obtain ⟨rfl, rfl⟩ := ee_nx_some h
          obtain ⟨q, rfl, f3, hcase⟩ := ee_rd.ok c1 ci g3 hr
          refine ⟨rfl, f, q, rfl, f3, g1, ?_⟩
          rcases hcase with ⟨rfl, rfl, hv⟩ | ⟨lo1, hi1, rfl, rfl, b1, b2, ho⟩
          · exact k _ List.mem_cons_self ns as H lc ls _ ⟨c1, c2, c3, ⟨hv, c4⟩, c5, ws, c6w, hP, hD, hS⟩
          · obtain ⟨d1, d2, d3, d4, d5, ws', d6w, dP, dD, dS⟩ := ee_Con.grow (s := s) (A := A) (D := D) (dA := dA) (ex := ex) (x0 := x0) (a0 := a0) (sv0 := sv0) (nL := nL) (lo := lo) (ls := ls) ⟨c1, c2, c3, c4, c5, ws, c6w, hP, hD, hS⟩ b1 b2 (fs := []) (fun _ q => by cases q)
            have hxv : ee_v (ns ++ [f q.toNatClampNeg]) as ex (.retAddr iv.1) (.int (f q.toNatClampNeg)) := ⟨_, c1.last _, rfl⟩
            rcases ho with rfl | rfl
            · exact k _ List.mem_cons_self _ as H lc ls _ ⟨d1, d2, d3, ⟨hxv, d4⟩, d5, ws', d6w, dP, dD, dS⟩
            · have c6g : ee_wr (ns ++ [f q.toNatClampNeg]) as ex dA w ws := ⟨c6w.1, c6w.2.imp (fun x q g => by simpa using ee_c.mono [_] [] g)⟩
              refine k _ List.mem_cons_self _ as H lc ls _ ⟨d1, d2, d3, ⟨hxv, d4⟩, d5, ws, c6g.same g1 (ee_c.mk ht (ee_el.more (fun i hi => by simpa using ee_el.mono [_] [] (g3 i hi)) hxv)), hP, hD, hS⟩
      cases ins with
      | iaload =>
        replace h : (match w[j]? with
          | some (.inr (t, n, P, sg, ov)) => if t = 0 ∧ j < 1000000 then (match ee_rd iv n P sg ov i with
            | some (x, iv', o) => ee_nx len 1 [(pc + 1, lo, x :: stk, ee_ow1 j t n P sg w o, iv', kc, ks, sv)]
            | none => none) else none
          | _ => none) = some sts := h
        split at h
        · rename_i t n P1 sg ov hw
          by_cases h2 : t = 0 ∧ j < 1000000
          · rw [if_pos h2] at h
            obtain ⟨rfl, f, q, rfl, f3, g1, kk⟩ := go t n P1 sg ov hw (by omega) h2.2 h
            rw [h2.1] at g1
            exact va_iald hx hb hK hP j 0 g1 rfl f3 hd kk
          · rw [if_neg h2] at h
            exact ee_no h
        · exact ee_no h
      | baload =>
        replace h : (if 1000100 ≤ j ∧ j < 1000102 then (match ee_ix iv i (ee_len.getD (j - 1000100) 0) with
          | some z => ee_nx len 1 [(pc + 1, lo, .int ((ee_byt.getD (j - 1000100) []).getD z 0) :: stk, w, iv, kc, ks, sv)]
          | none => none) else (match w[j]? with
          | some (.inr (t, n, P, sg, ov)) => if (t = 1 ∨ t = 2) ∧ j < 1000000 then (match ee_rd iv n P sg ov i with
            | some (x, iv', o) => ee_nx len 1 [(pc + 1, lo, x :: stk, ee_ow1 j t n P sg w o, iv', kc, ks, sv)]
            | none => none) else none
          | _ => none)) = some sts := h
        by_cases h1 : 1000100 ≤ j ∧ j < 1000102
        · rw [if_pos h1] at h
          obtain ⟨h21, h22⟩ := h1
          have ha := cy.out (Nat.not_lt.mpr (Nat.le_trans (by decide) h21))
          subst ha
          obtain ⟨i0, hi0, rfl⟩ : ∃ i0, i0 < 2 ∧ j = 1000100 + i0 := ⟨j - 1000100, Nat.sub_lt_left_of_lt_add h21 h22, (Nat.add_sub_of_le h21).symm⟩
          obtain ⟨-, -, -, g4⟩ := hE.1.1 i0 hi0
          rw [Nat.add_sub_cancel_left] at h
          cases hr : ee_ix iv i (ee_len.getD i0 0) with
          | none => rw [hr] at h; exact ee_no h
          | some z =>
            rw [hr] at h
            obtain ⟨rfl, rfl⟩ := ee_nx_some h
            obtain ⟨q, rfl, f1, f2, f3⟩ := ee_ix.ok c1 ci hr
            exact va_tb hx hb g4 hS f3 rfl hd (k _ List.mem_cons_self ns as H lc ls _ ⟨c1, c2, c3, ⟨by rw [f1]; rfl, c4⟩, c5, ws, c6w, hP, hD, hS⟩)
        · rw [if_neg h1] at h
          split at h
          · rename_i t n P1 sg ov hw
            by_cases h2 : (t = 1 ∨ t = 2) ∧ j < 1000000
            · rw [if_pos h2] at h
              obtain ⟨ht, h3⟩ := h2
              obtain ⟨rfl, f, q, rfl, f3, g1, kk⟩ := go t n P1 sg ov hw (by omega) h3 h
              rcases ht with rfl | rfl
              · exact va_bald hx hb hK hP j 1 g1 rfl f3 hd kk
              · exact va_zald hx hb hK hP j 2 g1 rfl f3 hd kk
            · rw [if_neg h2] at h
              exact ee_no h
          · exact ee_no h
      | laload =>
        replace h : (match w[j]? with
          | some (.inr (t, n, _, _, _)) => if t = 3 ∧ j < 1000000 ∧ ee_ib iv i n = true then ee_nx len 1 [(pc + 1, lo, .double 0 :: stk, w, iv, kc, ks, sv)] else none
          | _ => none) = some sts := h
        split at h
        · rename_i t n P1 sg ov hw
          by_cases h2 : t = 3 ∧ j < 1000000 ∧ ee_ib iv i n = true
          · rw [if_pos h2] at h
            obtain ⟨rfl, rfl⟩ := ee_nx_some h
            obtain ⟨rfl, h3, h4⟩ := h2
            obtain ⟨ec, g1, g2⟩ := c6w.at hw (cy.at h3)
            obtain ⟨f, rfl⟩ := g2.lngs
            obtain ⟨q, rfl, f3⟩ := ee_ib.ok c1 ci h4
            exact va_lald hx hb hK hP j 3 g1 rfl f3 hd (k _ List.mem_cons_self ns as H lc ls _ ⟨c1, c2, c3, ⟨⟨_, rfl⟩, c4⟩, c5, ws, c6w, hP, hD, hS⟩)
          · rw [if_neg h2] at h
            exact ee_no h
        · exact ee_no h
      | _ => exact ee_no h
    | _ => exact ee_no h
end
section
/-! handlers: arrays written, cells made, statics read -/
theorem ee_lookup_filter {pk : Nat → Bool} {i : Nat} : ∀ {ov : List (Nat × Value)}, (ov.filter (fun q => pk q.1)).lookup i = if pk i = true then ov.lookup i else none
  | [] => by split <;> rfl
  | (a, x) :: l => by
    have ih := ee_lookup_filter (pk := pk) (i := i) (ov := l)
    by_cases ha : pk a = true
    · rw [List.filter_cons_of_pos (by exact ha), List.lookup_cons, List.lookup_cons, ih]
      cases hb : i == a with
      | true =>
        have : i = a := by simpa using hb
        subst this
        simp only [ha, if_true]
      | false => rfl
    · rw [List.filter_cons_of_neg (by exact ha), ih, List.lookup_cons]
      cases hb : i == a with
      | true =>
        have : i = a := by simpa using hb
        subst this
        simp only [ha, if_false]
        rfl
      | false => rfl
theorem ee_byte {x : Int32} (h1 : -128 ≤ x.toInt) (h2 : x.toInt ≤ 127) : vp_nar .byte x = x := by
  rw [vp_nar_byte]
  apply Int32.toInt_inj.mp
  rw [Int8.toInt_toInt32, Int32.toInt_toInt8]
  exact Int.bmod_eq_of_le (by omega) (by omega)
/-- a named element keeps its segment's bounds -/
def ee_ent (iv : ee_iv) (sg : List (Nat × Int × Int)) (P : Nat) (q : Nat × Value) : Bool := match ee_sg1 sg (ee_rj P q.1) with
  | some r => (match ee_it iv q.2 with
    | some s => decide (r.1 ≤ s.1) && decide (s.2 ≤ r.2)
    | none => false)
  | none => true
theorem ee_ent.ok {ns : List Int32} {as : List Nat} {ex : Nat → Nat} {iv : ee_iv} {sg : List (Nat × Int × Int)} {P j : Nat} {y : Value} {z : Int32} (hk : ee_ok ns iv) (h : ee_ent iv sg P (j, y) = true) (hv : ee_v ns as ex y (.int z)) : ee_sgp P sg j z := by
  rw [ee_sgp_eq]
  unfold ee_ent at h
  simp only at h
  cases hs : ee_sg1 sg (ee_rj P j) with
  | none => trivial
  | some r =>
    rw [hs] at h
    simp only at h
    cases ht : ee_it iv y with
    | none => rw [ht] at h; cases h
    | some s =>
      rw [ht] at h
      obtain ⟨e1, e2⟩ := ee_and h
      have e1 := of_decide_eq_true e1
      have e2 := of_decide_eq_true e2
      obtain ⟨u, g1, g2, g3⟩ := ee_it.int (a := s.1) (b := s.2) hk hv ht
      cases g1
      exact ⟨by omega, by omega⟩
def ee_ing (a b : Int) (j : Nat) : Bool := decide (a ≤ (j : Int)) && decide ((j : Int) ≤ b)
/-- an element written: the named elements then -/
def ee_wt (iv : ee_iv) (n P : Nat) (sg : List (Nat × Int × Int)) (ov : List (Nat × Value)) (i x : Value) : Option (List (Nat × Value)) := match ee_it iv x with
  | none => none
  | some (u, v) => (match ee_ix iv i n with
    | some j => some ((j, x) :: ov.filter (fun q => !Nat.beq q.1 j))
    | none => (match ee_it iv i with
      | some (a, b) => if (0 ≤ a ∧ b < (n : Int)) ∧ ee_wk sg 0 (ee_wh iv i P a b).1 (ee_wh iv i P a b).2 u v = true ∧ ov.all (fun q => !ee_ing a b q.1 || ee_ent iv sg P q) = true then some (ov.filter (fun q => !ee_ing a b q.1)) else none
      | none => none))
theorem ee_wt.ok {ns : List Int32} {as : List Nat} {ex : Nat → Nat} {iv : ee_iv} {n P : Nat} {sg : List (Nat × Int × Int)} {ov ov' : List (Nat × Value)} {i vi x vx : Value} {f : Nat → Int32} (hk : ee_ok ns iv) (hi : ee_v ns as ex i vi) (hx : ee_v ns as ex x vx) (hf : ∀ j, j < n → ee_el ns as ex P sg ov j (f j)) (h : ee_wt iv n P sg ov i x = some ov') :
    ∃ (q z : Int32), vi = .int q ∧ vx = .int z ∧ vp_in q n ∧ ∀ j, j < n → ee_el ns as ex P sg ov' j (upd f q.toNatClampNeg z j) := by
  unfold ee_wt at h
  cases hxt : ee_it iv x with
  | none => rw [hxt] at h; cases h
  | some r =>
    obtain ⟨u, v⟩ := r
    rw [hxt] at h
    simp only at h
    obtain ⟨z, rfl, z1, z2⟩ := ee_it.int hk hx hxt
    cases hxi : ee_ix iv i n with
    | some j =>
      rw [hxi] at h
      cases h
      obtain ⟨q, rfl, f1, f2, f3⟩ := ee_ix.ok hk hi hxi
      refine ⟨q, z, rfl, rfl, f3, fun k hk1 => ?_⟩
      rw [f1]
      unfold ee_el
      rw [List.lookup_cons]
      by_cases e : k = j
      · subst e
        simp only [beq_self_eq_true, upd, if_true]
        exact hx
      · have e' : (k == j) = false := by simpa using e
        have e2 : (!Nat.beq k j) = true := by
          cases hb : Nat.beq k j with
          | false => rfl
          | true => exact absurd (Nat.eq_of_beq_eq_true hb) e
        rw [e', ee_lookup_filter (pk := fun q => !Nat.beq q j)]
        simp only [e2, if_true, upd, e, if_false]
        exact hf k hk1
    | none =>
      rw [hxi] at h
      simp only at h
      cases hit : ee_it iv i with
      | none => rw [hit] at h; cases h
      | some r =>
        obtain ⟨a, b⟩ := r
        rw [hit] at h
        simp only at h
        by_cases hc : (0 ≤ a ∧ b < (n : Int)) ∧ ee_wk sg 0 (ee_wh iv i P a b).1 (ee_wh iv i P a b).2 u v = true ∧ ov.all (fun q => !ee_ing a b q.1 || ee_ent iv sg P q) = true
        · rw [if_pos hc] at h
          cases h
          obtain ⟨⟨hc1, hc2⟩, hc3, hc4⟩ := hc
          obtain ⟨q, rfl, q1, q2⟩ := ee_it.int hk hi hit
          refine ⟨q, z, rfl, rfl, vp_in_iff.mpr ⟨by omega, by omega⟩, fun k hk1 => ?_⟩
          have w := ee_wh.ok (P := P) hk hi (by omega) q1 q2
          have hq : q.toNatClampNeg = q.toInt.toNat := rfl
          rw [hq]
          unfold ee_el
          rw [ee_lookup_filter (pk := fun j => !ee_ing a b j)]
          by_cases e : k = q.toInt.toNat
          · subst e
            have hin : ee_ing a b q.toInt.toNat = true := by
              unfold ee_ing
              rw [decide_eq_true (show a ≤ ((q.toInt.toNat : Nat) : Int) by omega), decide_eq_true (show ((q.toInt.toNat : Nat) : Int) ≤ b by omega)]
              rfl
            simp only [hin, Bool.not_true, Bool.false_eq_true, if_false, upd, if_true]
            rw [ee_sgp_eq]
            exact ee_wk.ok w.1 w.2 z1 z2 (Nat.zero_le _) hc3
          · have hel := hf k hk1
            unfold ee_el at hel
            simp only [upd, e, if_false]
            cases hin : ee_ing a b k with
            | false =>
              simp only [Bool.not_false, if_true]
              exact hel
            | true =>
              simp only [Bool.not_true, Bool.false_eq_true, if_false]
              cases hl : ov.lookup k with
              | none => rw [hl] at hel; exact hel
              | some y =>
                rw [hl] at hel
                have hm := List.all_eq_true.mp hc4 (k, y) (ee_mem_lookup hl)
                rw [show ee_ing a b (k, y).1 = true from hin] at hm
                exact ee_ent.ok hk (by simpa using hm) hel
        · rw [if_neg hc] at h; cases h
def ee_h17 : ee_H := fun _ _ _ e st => match st with
  | (pc, lo, x :: i :: .ref k :: stk, w, iv, kc, ks, sv) => (match w[k]? with
      | some (.inr (t, n, P, sg, ov)) => if k < 1000000 then (match e.2.1 with
        | .iastore => (match ee_wt iv n P sg ov i x with
          | some ov' => if t = 0 then ee_nx e.2.2.1 1 [(pc + 1, lo, stk, w.set k (.inr (t, n, P, sg, ov')), iv, kc, ks, sv)] else none
          | none => none)
        | .bastore => (match ee_wt iv n P sg ov i x, ee_it iv x with
          | some ov', some (u, v) => if (t = 1 ∧ -128 ≤ u ∧ v ≤ 127) ∨ (t = 2 ∧ 0 ≤ u ∧ v ≤ 1) then ee_nx e.2.2.1 1 [(pc + 1, lo, stk, w.set k (.inr (t, n, P, sg, ov')), iv, kc, ks, sv)] else none
          | _, _ => none)
        | .lastore => if t = 3 ∧ ee_isl x = true ∧ ee_ib iv i n = true then ee_nx e.2.2.1 1 [(pc + 1, lo, stk, w, iv, kc, ks, sv)] else none
        | _ => none) else none
      | _ => none)
  | _ => none
set_option maxHeartbeats 2000000 in
theorem ee_h17.snd : ee_Snd ee_h17 := by
  intro X Y oc own cc ini dm bc bs Q e st sts F ho hi hd he hpc h k
  obtain ⟨p, l, en, R, s, m, args, below, meth, c⟩ := X
  obtain ⟨A, D, dA, ex, x0, a0, sv0, nL⟩ := Y
  obtain ⟨pc, lo, stk, w, iv, kc, ks, sv⟩ := st
  obtain ⟨pc', ins, len, hn, ea, eb, ez, qa, qb, qc⟩ := e
  obtain ⟨hx, hb, hml, hown, hts, hK, hA, hini, hR, hE⟩ := F
  have hpc : pc = pc' := hpc
  subst hpc
  have hd : decode cc pc = .ok (ins, len) := hd
  intro ns as H lc ls vs C
  obtain ⟨c1, c2, c3, c4, c5, c6⟩ := C
  show W p l en R s m args below meth c H lc kc ks Q (F0 m pc ls vs)
  match stk, vs, c4, h with
  | [], _, _, h => exact ee_no h
  | [_], _, _, h => exact ee_no h
  | [_, _], _, _, h => exact ee_no h
  | _ :: _ :: _ :: _, [], c4, h => exact c4.elim
  | _ :: _ :: _ :: _, [_], c4, h => exact c4.2.elim
  | _ :: _ :: _ :: _, [_, _], c4, h => exact c4.2.2.elim
  | x :: i :: y :: stk, vx :: vi :: vy :: vs, ⟨cx, ci, cy, c4⟩, h =>
    cases y with
    | ref j =>
      obtain ⟨a, rfl⟩ := ee_v.ref cy
      obtain ⟨ws, c6w, hP, hD, hS⟩ := c6
      replace h : (match w[j]? with
        | some (.inr (t, n, P, sg, ov)) => if j < 1000000 then (match (generalizing := false) ins with
          | .iastore => (match ee_wt iv n P sg ov i x with
            | some ov' => if t = 0 then ee_nx len 1 [(pc + 1, lo, stk, w.set j (.inr (t, n, P, sg, ov')), iv, kc, ks, sv)] else none
            | none => none)
          | .bastore => (match ee_wt iv n P sg ov i x, ee_it iv x with
            | some ov', some (u, v) => if (t = 1 ∧ -128 ≤ u ∧ v ≤ 127) ∨ (t = 2 ∧ 0 ≤ u ∧ v ≤ 1) then ee_nx len 1 [(pc + 1, lo, stk, w.set j (.inr (t, n, P, sg, ov')), iv, kc, ks, sv)] else none
            | _, _ => none)
          | .lastore => if t = 3 ∧ ee_isl x = true ∧ ee_ib iv i n = true then ee_nx len 1 [(pc + 1, lo, stk, w, iv, kc, ks, sv)] else none
          | _ => none) else none
        | _ => none) = some sts := h
      split at h
      · rename_i t n P1 sg ov hw
        by_cases h3 : j < 1000000
        · rw [if_pos h3] at h
          obtain ⟨ec, g1, g2⟩ := c6w.at hw (cy.at h3)
          cases ins with
          | iastore =>
            replace h : (match ee_wt iv n P1 sg ov i x with
              | some ov' => if t = 0 then ee_nx len 1 [(pc + 1, lo, stk, w.set j (.inr (t, n, P1, sg, ov')), iv, kc, ks, sv)] else none
              | none => none) = some sts := h
            cases hr : ee_wt iv n P1 sg ov i x with
            | none => rw [hr] at h; exact ee_no h
            | some ov' =>
              rw [hr] at h
              simp only at h
              by_cases hc : t = 0
              · rw [if_pos hc] at h
                obtain ⟨rfl, rfl⟩ := ee_nx_some h
                subst hc
                obtain ⟨f, rfl, g3⟩ := g2.ints (by omega)
                obtain ⟨q, z, rfl, rfl, f3, f4⟩ := ee_wt.ok c1 ci cx g3 hr
                exact va_iast hx hb hK hP hD hS j 0 g1 rfl f3 hd (fun H1 lc1 hP1 hD1 hS1 => k _ List.mem_cons_self ns as H1 lc1 ls _ ⟨c1, c2, c3, c4, c5, _, c6w.set g1 (ee_c.mk (by omega) f4), hP1, hD1, hS1⟩)
              · rw [if_neg hc] at h
                exact ee_no h
          | bastore =>
            replace h : (match ee_wt iv n P1 sg ov i x, ee_it iv x with
              | some ov', some (u, v) => if (t = 1 ∧ -128 ≤ u ∧ v ≤ 127) ∨ (t = 2 ∧ 0 ≤ u ∧ v ≤ 1) then ee_nx len 1 [(pc + 1, lo, stk, w.set j (.inr (t, n, P1, sg, ov')), iv, kc, ks, sv)] else none
              | _, _ => none) = some sts := h
            split at h
            · rename_i ov' u v hr hq
              by_cases hc : (t = 1 ∧ -128 ≤ u ∧ v ≤ 127) ∨ (t = 2 ∧ 0 ≤ u ∧ v ≤ 1)
              · rw [if_pos hc] at h
                obtain ⟨rfl, rfl⟩ := ee_nx_some h
                obtain ⟨f, rfl, g3⟩ := g2.ints (by omega)
                obtain ⟨q, z, rfl, rfl, f3, f4⟩ := ee_wt.ok c1 ci cx g3 hr
                obtain ⟨z', ez', x1, x2⟩ := ee_it.int c1 cx hq
                cases ez'
                rcases hc with ⟨rfl, hc⟩ | ⟨rfl, hc⟩
                · refine va_bast hx hb hK hP hD hS j 1 g1 rfl f3 hd (fun H1 lc1 hP1 hD1 hS1 => k _ List.mem_cons_self ns as H1 lc1 ls _ ⟨c1, c2, c3, c4, c5, _, c6w.set g1 ?_, hP1, hD1, hS1⟩)
                  rw [ee_byte (by omega) (by omega)]
                  exact ee_c.mk (by omega) f4
                · refine va_zast hx hb hK hP hD hS j 2 g1 rfl f3 hd (fun H1 lc1 hP1 hD1 hS1 => k _ List.mem_cons_self ns as H1 lc1 ls _ ⟨c1, c2, c3, c4, c5, _, c6w.set g1 ?_, hP1, hD1, hS1⟩)
                  have hb1 : vp_nar .boolean z = z := by
                    rcases ee_01 (z := z) (by omega) (by omega) with rfl | rfl <;> decide
                  rw [hb1]
                  exact ee_c.mk (by omega) f4
              · rw [if_neg hc] at h
                exact ee_no h
            · exact ee_no h
          | lastore =>
            replace h : (if t = 3 ∧ ee_isl x = true ∧ ee_ib iv i n = true then ee_nx len 1 [(pc + 1, lo, stk, w, iv, kc, ks, sv)] else none) = some sts := h
            by_cases hc : t = 3 ∧ ee_isl x = true ∧ ee_ib iv i n = true
            · rw [if_pos hc] at h
              obtain ⟨rfl, rfl⟩ := ee_nx_some h
              obtain ⟨rfl, hc1, hc2⟩ := hc
              obtain ⟨u, rfl⟩ := ee_isl.ok cx hc1
              obtain ⟨zi, rfl, f3⟩ := ee_ib.ok c1 ci hc2
              obtain ⟨f, rfl⟩ := g2.lngs
              refine va_last hx hb hK hP hD hS j 3 g1 rfl f3 hd (fun H1 lc1 hP1 hD1 hS1 => k _ List.mem_cons_self ns as H1 lc1 ls _ ⟨c1, c2, c3, c4, c5, _, ?_, hP1, hD1, hS1⟩)
              have := c6w.set g1 (ee_c.mkl (ns := ns) (as := as) (ex := ex) (dA := dA) (n := n) (P := P1) (sg := sg) (ov := ov) (f := vp_updL f zi.toNatClampNeg u))
              rwa [ee_set_self hw] at this
            · rw [if_neg hc] at h
              exact ee_no h
          | _ => exact ee_no h
        · rw [if_neg h3] at h
          exact ee_no h
      · exact ee_no h
    | _ => exact ee_no h
def ee_dv (o : Option FieldType) : Value := match o with
  | some ty => defaultValue ty
  | none => .null
def ee_df (r : vw_C) : List Value := (List.range r.2.2).map (fun j => ee_dv (parseFieldDescriptor (r.2.1 j).2.2.1))
def ee_dok (x : Value) : Bool := match x with
  | .int _ => true
  | .long _ => true
  | .null => true
  | _ => false
theorem ee_dok.all {ns : List Int32} {as : List Nat} {ex : Nat → Nat} : ∀ {l : List Value}, l.all ee_dok = true → ee_all (ee_v ns as ex) l l
  | [], _ => trivial
  | x :: l, h => by
    rw [List.all_cons] at h
    obtain ⟨h1, h2⟩ := ee_and h
    refine ⟨?_, ee_dok.all h2⟩
    cases x with
    | int c => rfl
    | long z => rfl
    | null => rfl
    | _ => cases h1
def ee_atp (t : ClassFile.ArrayType) : Nat := match t with
  | .int => 0
  | .byte => 1
  | .boolean => 2
  | .long => 3
  | _ => 9
def ee_h18 : ee_H := fun _ bc bs e st => match st with
  | (pc, lo, stk, w, iv, kc, ks, sv) => if w.length < 1000000 ∧ kc + 1 ≤ bc then (match e.2.1 with
      | .new _ => (match ee_NL[e.2.2.2.2.1]? with
        | some q => (match vwCl[q.2.2.1]? with
          | some r => if ks + r.2.2 ≤ bs ∧ (ee_df r).all ee_dok = true then ee_nx e.2.2.1 3 [(pc + 3, lo, .ref w.length :: stk, w ++ [.inl (q.2.2.1, ee_df r)], iv, kc + 1, ks + r.2.2, sv)] else none
          | none => none)
        | none => none)
      | .newarray at' => (match stk with
        | x :: stk => (match ee_cn iv x with
          | some z => if 0 ≤ z.toInt ∧ z.toInt ≤ 100000 ∧ ks + z.toInt.toNat ≤ bs ∧ ee_atp at' < 4 then ee_nx e.2.2.1 2 [(pc + 2, lo, .ref w.length :: stk, w ++ [.inr (ee_atp at', z.toInt.toNat, 0, [(z.toInt.toNat, 0, 0)], [])], iv, kc + 1, ks + z.toInt.toNat, sv)] else none
          | none => none)
        | [] => none)
      | _ => none) else none
theorem ee_one {s : State} {D : va_G} {dA : Nat → ClassId} {cA : ClassId} {ty : FieldType} {t : Nat} (h : va_K D vwCl (ee_tys dA ++ [(cA, ty)]) s) (ht : (ee_tys dA)[t]? = some (dA t, ty)) (hp : ∀ C, ty ≠ .object C) : cA = dA t := by
  have h1 := (h.2 4 (cA, ty) rfl).2
  have h2 := (h.2 t (dA t, ty) (ee_get_app ht)).2
  cases ty with
  | object C => exact absurd rfl (hp C)
  | _ =>
    have h1 : s.vm.findClass _ = some cA := h1
    have h2 : s.vm.findClass _ = some (dA t) := h2
    rw [h1] at h2
    exact Option.some.inj h2
theorem ee_el0 {ns : List Int32} {as : List Nat} {ex : Nat → Nat} {n : Nat} : ∀ j, j < n → ee_el ns as ex 0 [(n, 0, 0)] [] j ((fun _ => (0 : Int32)) j) := fun j hj => by
  show ee_sgp 0 [(n, 0, 0)] j 0
  rw [ee_sgp_eq, ee_sg1_cons, if_pos (show ee_rj 0 j < n from hj)]
  exact ⟨by decide, by decide⟩
set_option maxHeartbeats 2000000 in
theorem ee_h18.snd : ee_Snd ee_h18 := by
  intro X Y oc own cc ini dm bc bs Q e st sts F ho hi hd he hpc h k
  obtain ⟨p, l, en, R, s, m, args, below, meth, c⟩ := X
  obtain ⟨A, D, dA, ex, x0, a0, sv0, nL⟩ := Y
  obtain ⟨pc, lo, stk, w, iv, kc, ks, sv⟩ := st
  obtain ⟨pc', ins, len, hn, ea, eb, ez, qa, qb, qc⟩ := e
  obtain ⟨hx, hb, hml, hown, hts, hK, hA, hini, hR, hE⟩ := F
  have hpc : pc = pc' := hpc
  subst hpc
  have hd : decode cc pc = .ok (ins, len) := hd
  intro ns as H lc ls vs C
  obtain ⟨c1, c2, c3, c4, c5, c6⟩ := C
  show W p l en R s m args below meth c H lc kc ks Q (F0 m pc ls vs)
  replace h : (if w.length < 1000000 ∧ kc + 1 ≤ bc then (match (generalizing := false) ins with
      | .new _ => (match ee_NL[ea]? with
        | some q => (match vwCl[q.2.2.1]? with
          | some r => if ks + r.2.2 ≤ bs ∧ (ee_df r).all ee_dok = true then ee_nx len 3 [(pc + 3, lo, .ref w.length :: stk, w ++ [.inl (q.2.2.1, ee_df r)], iv, kc + 1, ks + r.2.2, sv)] else none
          | none => none)
        | none => none)
      | .newarray at' => (match (generalizing := false) stk with
        | x :: stk => (match ee_cn iv x with
          | some z => if 0 ≤ z.toInt ∧ z.toInt ≤ 100000 ∧ ks + z.toInt.toNat ≤ bs ∧ ee_atp at' < 4 then ee_nx len 2 [(pc + 2, lo, .ref w.length :: stk, w ++ [.inr (ee_atp at', z.toInt.toNat, 0, [(z.toInt.toNat, 0, 0)], [])], iv, kc + 1, ks + z.toInt.toNat, sv)] else none
          | none => none)
        | [] => none)
      | _ => none) else none) = some sts := h
  by_cases hc : w.length < 1000000 ∧ kc + 1 ≤ bc
  · rw [if_pos hc] at h
    obtain ⟨hwl, hkc⟩ := hc
    obtain ⟨ws, c6w, hP, hD, hS⟩ := c6
    cases ins with
    | new i =>
      replace h : (match ee_NL[ea]? with
        | some q => (match vwCl[q.2.2.1]? with
          | some r => if ks + r.2.2 ≤ bs ∧ (ee_df r).all ee_dok = true then ee_nx len 3 [(pc + 3, lo, Value.ref w.length :: stk, w ++ [.inl (q.2.2.1, ee_df r)], iv, kc + 1, ks + r.2.2, sv)] else none
          | none => none)
        | none => none) = some sts := h
      have hee : (match ee_NL[ea]? with
        | some q => decide (q.1 = oc) && (decide (q.2.1 = i) && decide (q.2.2.1 = qa))
        | none => false) = true := he
      cases hq : ee_NL[ea]? with
      | none => rw [hq] at hee; cases hee
      | some q =>
        rw [hq] at h hee
        simp only at h hee
        obtain ⟨e1, e2⟩ := ee_and hee
        obtain ⟨e2, -⟩ := ee_and e2
        have e1 := of_decide_eq_true e1
        have e2 := of_decide_eq_true e2
        obtain ⟨r, f1, f2, f3, f4⟩ := ee_NLok q (List.mem_of_getElem? hq)
        rw [e1, ee_own_ow ho, e2] at f2
        rw [f1] at h
        simp only at h
        by_cases hc2 : ks + r.2.2 ≤ bs ∧ (ee_df r).all ee_dok = true
        · rw [if_pos hc2] at h
          obtain ⟨rfl, rfl⟩ := ee_nx_some h
          obtain ⟨C, T, N⟩ := r
          obtain ⟨k1, k2, ty0, k3⟩ := ee_kd _ _ f1
          have hks : ks + N ≤ bs := hc2.1
          refine va_new (C := C) (T := T) (N := N) (fs := ee_df (C, T, N)) hx hb hts k1 ty0 (fun z hz => (k3 z hz).1) hown (hts _ f2) (hts _ f3) (hts _ f4) hK hP hD hS hA f1 (fun j hj => ?_) (Nat.le_trans hkc hR.2.2.1) (Nat.le_trans hks hR.2.2.2) hd (fun q9 H1 hP1 hD1 hS1 => ?_)
          · unfold vp_V ee_df
            rw [List.getD_eq_getElem?_getD, List.getElem?_map, List.getElem?_range hj]
            simp only [Option.map_some, Option.getD_some]
            have h3 := (k3 j hj).1
            rw [show parseFieldDescriptor (((C, T, N) : vw_C).2.1 j).2.2.1 = some (ty0 j) from h3]
            rfl
          · exact k _ List.mem_cons_self ns (as ++ [q9]) H1 lc ls _ (ee_Con.born c1 c2 c3 c4 c5 c6w ⟨_, rfl, ee_dok.all hc2.2⟩ hP1 hD1 hS1 hwl)
        · rw [if_neg hc2] at h
          exact ee_no h
    | newarray at' =>
      cases stk with
      | nil => exact ee_no h
      | cons x stk =>
        cases vs with
        | nil => exact c4.elim
        | cons v vs =>
          obtain ⟨c4v, c4⟩ := c4
          replace h : (match ee_cn iv x with
            | some z => if 0 ≤ z.toInt ∧ z.toInt ≤ 100000 ∧ ks + z.toInt.toNat ≤ bs ∧ ee_atp at' < 4 then ee_nx len 2 [(pc + 2, lo, Value.ref w.length :: stk, w ++ [.inr (ee_atp at', z.toInt.toNat, 0, [(z.toInt.toNat, 0, 0)], [])], iv, kc + 1, ks + z.toInt.toNat, sv)] else none
            | none => none) = some sts := h
          cases hq : ee_cn iv x with
          | none => rw [hq] at h; exact ee_no h
          | some z =>
            rw [hq] at h
            simp only at h
            have hv := ee_cn.int c1 c4v hq
            subst hv
            by_cases hc2 : 0 ≤ z.toInt ∧ z.toInt ≤ 100000 ∧ ks + z.toInt.toNat ≤ bs ∧ ee_atp at' < 4
            · rw [if_pos hc2] at h
              obtain ⟨rfl, rfl⟩ := ee_nx_some h
              obtain ⟨z1, z2, z3, z4⟩ := hc2
              have zn : ¬ z < 0 := fun q => by
                have := Int32.lt_iff_toInt_lt.mp q
                rw [Int32.toInt_zero] at this
                omega
              have zc : z.toNatClampNeg = z.toInt.toNat := rfl
              have hcl : kc + 1 ≤ R.cells := Nat.le_trans hkc hR.2.2.1
              have hsl : ks + z.toInt.toNat ≤ R.slots := Nat.le_trans z3 hR.2.2.2
              obtain ⟨a1, a2, a3, a4⟩ := ee_arr
              cases at' with
              | int =>
                refine va_newa (atype := .int) (ty := .int) (a0 := (z.toInt.toNat, .inl (fun _ => 0))) hx hb (hts _ a1) rfl hK hP hD hS hA (fun cA => rfl) zn zc (by show z.toInt.toNat * 4 ≤ _; omega) hcl hsl hd (fun q9 cA H1 hK1 hP1 hD1 hS1 => ?_)
                have hcA := ee_one hK1 (t := 0) rfl (fun _ q => by cases q)
                subst hcA
                exact k _ List.mem_cons_self ns (as ++ [q9]) H1 lc ls _ (ee_Con.born c1 c2 c3 c4 c5 c6w (ee_c.mk (by decide) ee_el0) hP1 hD1 hS1 hwl)
              | byte =>
                refine va_newa (atype := .byte) (ty := .byte) (a0 := (z.toInt.toNat, .inl (fun _ => 0))) hx hb (hts _ a2) rfl hK hP hD hS hA (fun cA => rfl) zn zc (by show z.toInt.toNat * 1 ≤ _; omega) hcl hsl hd (fun q9 cA H1 hK1 hP1 hD1 hS1 => ?_)
                have hcA := ee_one hK1 (t := 1) rfl (fun _ q => by cases q)
                subst hcA
                exact k _ List.mem_cons_self ns (as ++ [q9]) H1 lc ls _ (ee_Con.born c1 c2 c3 c4 c5 c6w (ee_c.mk (by decide) ee_el0) hP1 hD1 hS1 hwl)
              | boolean =>
                refine va_newa (atype := .boolean) (ty := .boolean) (a0 := (z.toInt.toNat, .inl (fun _ => 0))) hx hb (hts _ a3) rfl hK hP hD hS hA (fun cA => rfl) zn zc (by show z.toInt.toNat * 1 ≤ _; omega) hcl hsl hd (fun q9 cA H1 hK1 hP1 hD1 hS1 => ?_)
                have hcA := ee_one hK1 (t := 2) rfl (fun _ q => by cases q)
                subst hcA
                exact k _ List.mem_cons_self ns (as ++ [q9]) H1 lc ls _ (ee_Con.born c1 c2 c3 c4 c5 c6w (ee_c.mk (by decide) ee_el0) hP1 hD1 hS1 hwl)
              | long =>
                refine va_newa (atype := .long) (ty := .long) (a0 := (z.toInt.toNat, .inr (.inl (fun _ => 0)))) hx hb (hts _ a4) rfl hK hP hD hS hA (fun cA => rfl) zn zc (by show z.toInt.toNat * 8 ≤ _; omega) hcl hsl hd (fun q9 cA H1 hK1 hP1 hD1 hS1 => ?_)
                have hcA := ee_one hK1 (t := 3) rfl (fun _ q => by cases q)
                subst hcA
                exact k _ List.mem_cons_self ns (as ++ [q9]) H1 lc ls _ (ee_Con.born c1 c2 c3 c4 c5 c6w ee_c.mkl hP1 hD1 hS1 hwl)
              | _ => exact absurd z4 (by decide)
            · rw [if_neg hc2] at h
              exact ee_no h
    | _ => exact ee_no h
  · rw [if_neg hc] at h
    exact ee_no h
def ee_h19 : ee_H := fun _ _ _ e st => match st with
  | (pc, lo, stk, w, iv, kc, ks, sv) => (match e.2.1 with
      | .getstatic _ => if e.2.2.2.2.2.1 = 0 then (match ee_ZL[e.2.2.2.2.1]? with
        | some q => ee_nx e.2.2.1 3 [(pc + 3, lo, (if q.2.2.1 = 0 then .int 1 else .float 0) :: stk, w, iv, kc, ks, sv)]
        | none => none) else none
      | _ => none)
set_option maxHeartbeats 2000000 in
theorem ee_h19.snd : ee_Snd ee_h19 := by
  intro X Y oc own cc ini dm bc bs Q e st sts F ho hi hd he hpc h k
  obtain ⟨p, l, en, R, s, m, args, below, meth, c⟩ := X
  obtain ⟨A, D, dA, ex, x0, a0, sv0, nL⟩ := Y
  obtain ⟨pc, lo, stk, w, iv, kc, ks, sv⟩ := st
  obtain ⟨pc', ins, len, hn, ea, eb, ez, qa, qb, qc⟩ := e
  obtain ⟨hx, hb, hml, hown, hts, hK, hA, hini, hR, hE⟩ := F
  have hpc : pc = pc' := hpc
  subst hpc
  have hd : decode cc pc = .ok (ins, len) := hd
  intro ns as H lc ls vs C
  obtain ⟨c1, c2, c3, c4, c5, c6⟩ := C
  show W p l en R s m args below meth c H lc kc ks Q (F0 m pc ls vs)
  cases ins with
  | getstatic i =>
    replace h : (if eb = 0 then (match ee_ZL[ea]? with
        | some q => ee_nx len 3 [(pc + 3, lo, (if q.2.2.1 = 0 then .int 1 else .float 0) :: stk, w, iv, kc, ks, sv)]
        | none => none) else none) = some sts := h
    have hee : (if eb = 0 then (match ee_ZL[ea]? with
        | some q => decide (q.1 = oc) && (decide (q.2.1 = i) && decide (q.2.2.1 = qa))
        | none => false) else true) = true := he
    by_cases h0 : eb = 0
    · rw [if_pos h0] at h hee
      cases hq : ee_ZL[ea]? with
      | none => rw [hq] at hee; cases hee
      | some q =>
        rw [hq] at h hee
        simp only at h hee
        obtain ⟨e1, e2⟩ := ee_and hee
        obtain ⟨e2, -⟩ := ee_and e2
        have e1 := of_decide_eq_true e1
        have e2 := of_decide_eq_true e2
        have f3 := ee_ZLok q (List.mem_of_getElem? hq)
        rw [e1, ee_own_ow ho, e2] at f3
        obtain ⟨rfl, rfl⟩ := ee_nx_some h
        obtain ⟨ws, c6w, hP, hD, hS⟩ := c6
        by_cases hz : q.2.2.1 = 0
        · rw [if_pos hz] at k
          rw [hz] at f3
          exact va_gets hx hb hE.2.2.1 hS hown (hts _ f3) (fun _ z => z) hd (k _ List.mem_cons_self ns as H lc ls _ ⟨c1, c2, c3, ⟨rfl, c4⟩, c5, ws, c6w, hP, hD, hS⟩)
        · rw [if_neg hz] at k
          rw [show ee_zf q.2.2.1 = ("jdk/internal/util/Preconditions", "SIOOBE_FORMATTER", "Ljava/util/function/BiFunction;") by unfold ee_zf; rw [if_neg hz]] at f3
          rcases hE.2.2.2 with g | ⟨t, g⟩
          · exact va_gets hx hb g hS hown (hts _ f3) (fun _ z => z) hd (k _ List.mem_cons_self ns as H lc ls _ ⟨c1, c2, c3, ⟨Or.inl rfl, c4⟩, c5, ws, c6w, hP, hD, hS⟩)
          · exact va_gets hx hb g hS hown (hts _ f3) (fun _ z => z) hd (k _ List.mem_cons_self ns as H lc ls _ ⟨c1, c2, c3, ⟨Or.inr ⟨t, rfl⟩, c4⟩, c5, ws, c6w, hP, hD, hS⟩)
    · rw [if_neg h0] at h
      exact ee_no h
  | _ => exact ee_no h
end
section
/-! the handler of Object's constructor and of arraycopy -/
/-- bounds of all elements of an array -/
def ee_bds (iv : ee_iv) (n P : Nat) (sg : List (Nat × Int × Int)) (ov : List (Nat × Value)) : Option (Int × Int) := if P = 0 then (match ee_jo iv 0 ((n : Int) - 1) ov (ee_jn sg 0 0 ((n : Int) - 1)) with
  | some q => q
  | none => none) else none
theorem ee_bds.ok {ns : List Int32} {as : List Nat} {ex : Nat → Nat} {iv : ee_iv} {n P : Nat} {sg : List (Nat × Int × Int)} {ov : List (Nat × Value)} {f : Nat → Int32} {q : Int × Int} (hk : ee_ok ns iv) (hf : ∀ j, j < n → ee_el ns as ex P sg ov j (f j)) (h : ee_bds iv n P sg ov = some q) : ∀ j, j < n → q.1 ≤ (f j).toInt ∧ (f j).toInt ≤ q.2 := by
  intro j hj
  unfold ee_bds at h
  by_cases hP : P = 0
  · subst hP
    rw [if_pos rfl] at h
    split at h
    · rename_i q1 hr
      subst h
      have hel := hf j hj
      have key : ∃ r', some q = some r' ∧ r'.1 ≤ (f j).toInt ∧ (f j).toInt ≤ r'.2 := by
        refine ee_jo.ok hr ?_
        unfold ee_el at hel
        cases hl : ov.lookup j with
        | some y =>
          rw [hl] at hel
          have hm := ee_mem_lookup hl
          by_cases hyi : ∃ s, ee_it iv y = some s
          · obtain ⟨s, hs⟩ := hyi
            obtain ⟨u, e1, e2, e3⟩ := ee_it.int (a := s.1) (b := s.2) hk hel hs
            cases e1
            exact Or.inr ⟨_, y, s, hm, ⟨by omega, by omega⟩, hs, e2, e3⟩
          · exfalso
            have bad : ∀ {l : List (Nat × Value)} {q0 q1 : Option (Int × Int)}, ee_jo iv 0 ((n : Int) - 1) l q0 = some q1 → (j, y) ∈ l → False := by
              intro l
              induction l with
              | nil => intro q0 q1 _ hm; cases hm
              | cons c l ih =>
                intro q0 q1 hj2 hm
                obtain ⟨j2, x⟩ := c
                unfold ee_jo at hj2
                cases h1 : ee_jo iv 0 ((n : Int) - 1) l q0 with
                | none => rw [h1] at hj2; cases hj2
                | some q2 =>
                  rcases List.mem_cons.mp hm with e | hm
                  · cases e
                    rw [h1] at hj2
                    simp only at hj2
                    rw [if_pos ⟨by omega, by omega⟩] at hj2
                    cases hy2 : ee_it iv y with
                    | none => rw [hy2] at hj2; cases hj2
                    | some s => exact hyi ⟨s, hy2⟩
                  · exact ih h1 hm
            exact bad hr hm
        | none =>
          rw [hl] at hel
          simp only at hel
          rw [ee_sgp_eq] at hel
          exact Or.inl (ee_jn.ok (a := 0) (b := (n : Int) - 1) (j := j) (by omega) (by omega) (ee_rng _) (Nat.zero_le _) hel)
      obtain ⟨r', e, e1, e2⟩ := key
      cases e
      exact ⟨e1, e2⟩
    · cases h
  · rw [if_neg hP] at h; cases h
/-- may all elements of one be put anywhere into the other one? -/
def ee_cp (iv : ee_iv) (n0 P0 : Nat) (sg0 : List (Nat × Int × Int)) (ov0 : List (Nat × Value)) (n1 P1 : Nat) (sg1 : List (Nat × Int × Int)) (ov1 : List (Nat × Value)) : Bool := match ee_bds iv n0 P0 sg0 ov0 with
  | some q => decide (P1 = 0) && (ee_wk sg1 0 0 ((n1 : Int) - 1) q.1 q.2 && ov1.all (ee_ent iv sg1 P1))
  | none => false
theorem ee_cp.ok {ns : List Int32} {as : List Nat} {ex : Nat → Nat} {iv : ee_iv} {n0 P0 n1 P1 sp dp n : Nat} {sg0 sg1 : List (Nat × Int × Int)} {ov0 ov1 : List (Nat × Value)} {f g : Nat → Int32} (hk : ee_ok ns iv) (hf : ∀ j, j < n0 → ee_el ns as ex P0 sg0 ov0 j (f j)) (hg : ∀ j, j < n1 → ee_el ns as ex P1 sg1 ov1 j (g j)) (h4 : sp + n ≤ n0) (h : ee_cp iv n0 P0 sg0 ov0 n1 P1 sg1 ov1 = true) : ∀ j, j < n1 → ee_el ns as ex P1 sg1 [] j (va_cpy f g sp dp n j) := by
  intro j hj
  unfold ee_cp at h
  cases hb : ee_bds iv n0 P0 sg0 ov0 with
  | none => rw [hb] at h; cases h
  | some q =>
    rw [hb] at h
    obtain ⟨u1, u2⟩ := ee_and h
    obtain ⟨h2, h3⟩ := ee_and u2
    have h1 := of_decide_eq_true u1
    subst h1
    show ee_sgp 0 sg1 j _
    by_cases hc : dp ≤ j ∧ j < dp + n
    · rw [pk_cpy_in hc.1 hc.2, ee_sgp_eq]
      have := ee_bds.ok hk hf hb (sp + (j - dp)) (by omega)
      exact ee_wk.ok (a := 0) (b := (n1 : Int) - 1) (j := j) (by omega) (by omega) this.1 this.2 (Nat.zero_le _) h2
    · rw [pk_cpy_out (by omega)]
      have hel := hg j hj
      unfold ee_el at hel
      cases hl : ov1.lookup j with
      | none => rw [hl] at hel; exact hel
      | some y =>
        rw [hl] at hel
        exact ee_ent.ok hk (List.all_eq_true.mp h3 (j, y) (ee_mem_lookup hl)) hel
/-- n, sp, dp fit: bounds alone -/
def ee_cf (iv : ee_iv) (n sp dp : Value) (n0 n1 : Nat) : Bool := match ee_it iv n, ee_it iv sp, ee_it iv dp with
  | some a, some b, some c => (decide (0 ≤ a.1) && (decide (0 ≤ b.1) && decide (0 ≤ c.1))) && (decide (b.2 + a.2 ≤ (n0 : Int)) && decide (c.2 + a.2 ≤ (n1 : Int)))
  | _, _, _ => false
theorem ee_nn {z : Int32} (h : 0 ≤ z.toInt) : ¬ z < 0 ∧ (z.toNatClampNeg : Int) = z.toInt := by
  refine ⟨fun q => ?_, ?_⟩
  · have := Int32.lt_iff_toInt_lt.mp q
    rw [Int32.toInt_zero] at this
    omega
  · have : z.toNatClampNeg = z.toInt.toNat := rfl
    omega
theorem ee_cf.ok {ns : List Int32} {as : List Nat} {ex : Nat → Nat} {iv : ee_iv} {n sp dp vn vsp vd : Value} {n0 n1 : Nat} (hk : ee_ok ns iv) (hn : ee_v ns as ex n vn) (hs : ee_v ns as ex sp vsp) (hd : ee_v ns as ex dp vd) (h : ee_cf iv n sp dp n0 n1 = true) : ∃ zn zs zd : Int32, vn = .int zn ∧ vsp = .int zs ∧ vd = .int zd ∧ (¬ zs < 0 ∧ ¬ zd < 0 ∧ ¬ zn < 0) ∧ zs.toNatClampNeg + zn.toNatClampNeg ≤ n0 ∧ zd.toNatClampNeg + zn.toNatClampNeg ≤ n1 := by
  unfold ee_cf at h
  split at h
  · rename_i a b c h1 h2 h3
    obtain ⟨g1, g2⟩ := ee_and h
    obtain ⟨g1, g3⟩ := ee_and g1
    obtain ⟨g3, g4⟩ := ee_and g3
    obtain ⟨g2, g5⟩ := ee_and g2
    have g1 := of_decide_eq_true g1
    have g2 := of_decide_eq_true g2
    have g3 := of_decide_eq_true g3
    have g4 := of_decide_eq_true g4
    have g5 := of_decide_eq_true g5
    obtain ⟨zn, rfl, n1', n2'⟩ := ee_it.int (a := a.1) (b := a.2) hk hn h1
    obtain ⟨zs, rfl, s1, s2⟩ := ee_it.int (a := b.1) (b := b.2) hk hs h2
    obtain ⟨zd, rfl, d1, d2⟩ := ee_it.int (a := c.1) (b := c.2) hk hd h3
    have p1 := ee_nn (z := zn) (by omega)
    have p2 := ee_nn (z := zs) (by omega)
    have p3 := ee_nn (z := zd) (by omega)
    exact ⟨zn, zs, zd, rfl, rfl, rfl, ⟨p2.1, p3.1, p1.1⟩, by omega, by omega⟩
  · cases h
def ee_a5 (stk : List Value) : Option (Value × Value × Nat × Value × Nat × List Value) := match stk with
  | n :: dp :: .ref b :: sp :: .ref a :: r => some (n, dp, b, sp, a, r)
  | _ => none
theorem ee_a5.ok {stk r : List Value} {n dp sp : Value} {a b : Nat} (h : ee_a5 stk = some (n, dp, b, sp, a, r)) : stk = n :: dp :: .ref b :: sp :: .ref a :: r := by
  unfold ee_a5 at h
  split at h
  · cases h
    rfl
  · cases h
theorem ee_all.cons {α β : Type} {R : α → β → Prop} {a : α} {l : List α} {k : List β} (h : ee_all R (a :: l) k) : ∃ b k', k = b :: k' ∧ R a b ∧ ee_all R l k' := by
  cases k with
  | nil => exact h.elim
  | cons b k => exact ⟨b, k, rfl, h.1, h.2⟩
def ee_h20 : ee_H := fun _ _ _ e st => match st with
  | (pc, lo, stk, w, iv, kc, ks, sv) => (match e.2.1 with
      | .invokespecial _ => (match stk with
        | .ref _ :: stk => if e.2.2.2.2.2.1 = 1 ∧ (stk.map ee_cat).sum ≤ 8 then ee_nx e.2.2.1 3 [(pc + 3, lo, stk, w, iv, kc, ks, sv)] else none
        | _ => none)
      | .invokestatic _ => (match ee_a5 stk with
        | some (n, dp, b, sp, a, stk) => if (e.2.2.2.2.2.1 = 2 ∧ (stk.map ee_cat).sum ≤ 8) ∧ a < 1000000 ∧ b < 1000000 then (match w[a]?, w[b]? with
          | some (.inr (t0, n0, P0, sg0, ov0)), some (.inr (t1, n1, P1, sg1, ov1)) => if (t0 = 0 ∧ t1 = 0) ∧ ee_cf iv n sp dp n0 n1 = true ∧ ee_cp iv n0 P0 sg0 ov0 n1 P1 sg1 ov1 = true then ee_nx e.2.2.1 3 [(pc + 3, lo, stk, w.set b (.inr (t1, n1, P1, sg1, [])), iv, kc, ks, sv)] else none
          | _, _ => none) else none
        | none => none)
      | _ => none)
theorem ee_cats {ns : List Int32} {as : List Nat} {ex : Nat → Nat} : ∀ {stk vs : List Value}, ee_all (ee_v ns as ex) stk vs → (vs.map fun v => v.category) = stk.map ee_cat
  | [], [], _ => rfl
  | x :: stk, v :: vs, h => by
    rw [List.map_cons, List.map_cons, ee_cats h.2, h.1.cat]
  | [], _ :: _, h => h.elim
  | _ :: _, [], h => h.elim
set_option maxHeartbeats 2000000 in
theorem ee_h20.snd : ee_Snd ee_h20 := by
  intro X Y oc own cc ini dm bc bs Q e st sts F ho hi hd he hpc h k
  obtain ⟨p, l, en, R, s, m, args, below, meth, c⟩ := X
  obtain ⟨A, D, dA, ex, x0, a0, sv0, nL⟩ := Y
  obtain ⟨pc, lo, stk, w, iv, kc, ks, sv⟩ := st
  obtain ⟨pc', ins, len, hn, ea, eb, ez, qa, qb, qc⟩ := e
  obtain ⟨hx, hb, hml, hown, hts, hK, hA, hini, hR, hE⟩ := F
  have hpc : pc = pc' := hpc
  subst hpc
  have hd : decode cc pc = .ok (ins, len) := hd
  intro ns as H lc ls vs C
  obtain ⟨c1, c2, c3, c4, c5, c6⟩ := C
  show W p l en R s m args below meth c H lc kc ks Q (F0 m pc ls vs)
  cases ins with
  | invokespecial i =>
    cases stk with
    | nil => exact ee_no h
    | cons x stk =>
      cases vs with
      | nil => exact c4.elim
      | cons v vs =>
        obtain ⟨c4v, c4⟩ := c4
        cases x with
        | ref j =>
          obtain ⟨a, rfl⟩ := ee_v.ref c4v
          replace h : (if eb = 1 ∧ (stk.map ee_cat).sum ≤ 8 then ee_nx len 3 [(pc + 3, lo, stk, w, iv, kc, ks, sv)] else none) = some sts := h
          have hee : (if eb = 0 then (match ee_CL[ea]? with
            | some q => decide (q.1 = oc) && (decide (q.2.1 = i) && (decide (q.2.2.2.1 = 2) && (decide (q.2.2.1 = qa) && (decide (q.2.2.2.1 = qb) && decide (q.2.2.2.2.1 = qc)))))
            | none => false) else if eb = 1 then (match ee_OL[ea]? with
            | some q => decide (q.1 = oc) && decide (q.2.1 = i)
            | none => false) else true) = true := he
          by_cases hc : eb = 1 ∧ (stk.map ee_cat).sum ≤ 8
          · rw [if_pos hc] at h
            obtain ⟨rfl, rfl⟩ := ee_nx_some h
            rw [if_neg (by omega), if_pos hc.1] at hee
            cases hq : ee_OL[ea]? with
            | none => rw [hq] at hee; cases hee
            | some q =>
              rw [hq] at hee
              obtain ⟨e1, e2⟩ := ee_and hee
              have e1 := of_decide_eq_true e1
              have e2 := of_decide_eq_true e2
              have hm := ee_OLok q (List.mem_of_getElem? hq)
              rw [e1, ee_own_ow ho, e2] at hm
              obtain ⟨lv, c3, c3l⟩ := c3
              refine W.objInit hx hb hown (hts _ hm) (hts _ ee_obj.1) (hts _ ee_obj.2) rfl (by rw [hml]; exact c3.1) rfl hd (by omega) ?_ (k _ List.mem_cons_self ns as H lc ls _ ⟨c1, c2, ⟨lv, c3, c3l⟩, c4, c5, c6⟩)
              have hs := hc.2
              rw [← ee_cats c4] at hs
              have := lv_room (m := m) (pc := pc) (ls := ls) (rest := Value.ref a :: vs) hs
              omega
          · rw [if_neg hc] at h
            exact ee_no h
        | _ => exact ee_no h
  | invokestatic i =>
    replace h : (match ee_a5 stk with
        | some (n, dp, b, sp, a, stk) => if (eb = 2 ∧ (stk.map ee_cat).sum ≤ 8) ∧ a < 1000000 ∧ b < 1000000 then (match w[a]?, w[b]? with
          | some (.inr (t0, n0, P0, sg0, ov0)), some (.inr (t1, n1, P1, sg1, ov1)) => if (t0 = 0 ∧ t1 = 0) ∧ ee_cf iv n sp dp n0 n1 = true ∧ ee_cp iv n0 P0 sg0 ov0 n1 P1 sg1 ov1 = true then ee_nx len 3 [(pc + 3, lo, stk, w.set b (.inr (t1, n1, P1, sg1, [])), iv, kc, ks, sv)] else none
          | _, _ => none) else none
        | none => none) = some sts := h
    cases h5 : ee_a5 stk with
    | none => rw [h5] at h; exact ee_no h
    | some t5 =>
      obtain ⟨n, dp, b, sp, a, stk2⟩ := t5
      rw [h5] at h
      simp only at h
      have e5 := ee_a5.ok h5
      subst e5
      obtain ⟨vn, vs1, rfl, cn0, c4a⟩ := c4.cons
      obtain ⟨vd, vs2, rfl, cd0, c4b⟩ := c4a.cons
      obtain ⟨vb, vs3, rfl, cb0, c4c⟩ := c4b.cons
      obtain ⟨vsp, vs4, rfl, cs0, c4d⟩ := c4c.cons
      obtain ⟨va, vs, rfl, ca0, c4e⟩ := c4d.cons
      obtain ⟨ab, rfl⟩ := ee_v.ref cb0
      obtain ⟨aa, rfl⟩ := ee_v.ref ca0
      have hee : (if eb = 0 then (match ee_CL[ea]? with
        | some q => decide (q.1 = oc) && (decide (q.2.1 = i) && (decide (q.2.2.2.1 = 1) && (decide (q.2.2.1 = qa) && (decide (q.2.2.2.1 = qb) && decide (q.2.2.2.2.1 = qc)))))
        | none => false) else if eb = 2 then (match ee_AL[ea]? with
        | some q => decide (q.1 = oc) && decide (q.2.1 = i)
        | none => false) else if eb = 3 ∨ eb = 4 then (match ee_XL[ea]? with
        | some q => decide (q.1 = oc) && (decide (q.2.1 = i) && decide (q.2.2.1 = eb))
        | none => false) else true) = true := he
      by_cases hc : (eb = 2 ∧ (stk2.map ee_cat).sum ≤ 8) ∧ a < 1000000 ∧ b < 1000000
      · rw [if_pos hc] at h
        obtain ⟨⟨hc1, hc2⟩, hc3, hc4⟩ := hc
        rw [if_neg (by omega), if_pos hc1] at hee
        cases hq : ee_AL[ea]? with
        | none => rw [hq] at hee; cases hee
        | some q =>
          rw [hq] at hee
          obtain ⟨e1, e2⟩ := ee_and hee
          have e1 := of_decide_eq_true e1
          have e2 := of_decide_eq_true e2
          have hm := ee_ALok q (List.mem_of_getElem? hq)
          rw [e1, ee_own_ow ho, e2] at hm
          split at h
          · rename_i t0 n0 P0 sg0 ov0 t1 n1 P1 sg1 ov1 hw0 hw1
            by_cases hc5 : (t0 = 0 ∧ t1 = 0) ∧ ee_cf iv n sp dp n0 n1 = true ∧ ee_cp iv n0 P0 sg0 ov0 n1 P1 sg1 ov1 = true
            · rw [if_pos hc5] at h
              obtain ⟨rfl, rfl⟩ := ee_nx_some h
              obtain ⟨⟨rfl, rfl⟩, g5, g6⟩ := hc5
              obtain ⟨zn, zs, zd, rfl, rfl, rfl, ⟨f1, f2, f3⟩, f4, f5⟩ := ee_cf.ok c1 cn0 cs0 cd0 g5
              obtain ⟨lv, c3, c3l⟩ := c3
              obtain ⟨ws, c6w, hP, hD, hS⟩ := c6
              obtain ⟨ec0, p1, p2⟩ := c6w.at hw0 (ca0.at hc3)
              obtain ⟨ec1, p3, p4⟩ := c6w.at hw1 (cb0.at hc4)
              obtain ⟨f, rfl, p5⟩ := p2.ints (by omega)
              obtain ⟨g, rfl, p6⟩ := p4.ints (by omega)
              refine va_copyi hx hb (by rw [hml]; exact c3.1.symm) hown (hts _ hm) (hts _ ee_cpy.1) (hts _ ee_cpy.2.1) (hts _ ee_cpy.2.2) hK hP hD hS a b 0 0 p1 p3 rfl rfl rfl f1 f2 f3 f4 f5 (fun _ _ => rfl) (by omega) ?_ hd (fun H1 lc1 hP1 hD1 hS1 => k _ List.mem_cons_self ns as H1 lc1 ls _ ⟨c1, c2, ⟨lv, c3, c3l⟩, c4e, c5, _, c6w.set p3 (ee_c.mk (by omega) (ee_cp.ok c1 p5 p6 f4 g6)), hP1, hD1, hS1⟩)
              rw [ee_cats c4e]
              have : nativeFrameWords "java/lang/System" "arraycopy" 5 = 7 := by decide +kernel
              omega
            · rw [if_neg hc5] at h
              exact ee_no h
          · exact ee_no h
      · rw [if_neg hc] at h
        exact ee_no h
  | _ => exact ee_no h
end
section
/-! the handler of Math.min and Math.max -/
def ee_mm (k : Nat) (x y : Int32) : Int32 := if k = 3 then (if y < x then y else x) else (if x < y then y else x)
def ee_mb (k : Nat) (a b d e : Int) : Int × Int := if k = 3 then (ee_mn a d, ee_mn b e) else (ee_mx a d, ee_mx b e)
theorem ee_mb.ok {k : Nat} {a b d e : Int} {x y : Int32} (h1 : a ≤ x.toInt) (h2 : x.toInt ≤ b) (h3 : d ≤ y.toInt) (h4 : y.toInt ≤ e) : (ee_mb k a b d e).1 ≤ (ee_mm k x y).toInt ∧ (ee_mm k x y).toInt ≤ (ee_mb k a b d e).2 := by
  unfold ee_mb ee_mm ee_mn ee_mx
  by_cases hk : k = 3
  · rw [if_pos hk, if_pos hk]
    by_cases hc : y < x
    · rw [if_pos hc]
      have := (ee_lt y x).mp hc
      refine ⟨?_, ?_⟩
      · show (if a ≤ d then a else d) ≤ y.toInt
        split <;> omega
      · show y.toInt ≤ (if b ≤ e then b else e)
        split <;> omega
    · rw [if_neg hc]
      have : ¬ y.toInt < x.toInt := fun q => hc ((ee_lt y x).mpr q)
      refine ⟨?_, ?_⟩
      · show (if a ≤ d then a else d) ≤ x.toInt
        split <;> omega
      · show x.toInt ≤ (if b ≤ e then b else e)
        split <;> omega
  · rw [if_neg hk, if_neg hk]
    by_cases hc : x < y
    · rw [if_pos hc]
      have := (ee_lt x y).mp hc
      refine ⟨?_, ?_⟩
      · show (if a ≤ d then d else a) ≤ y.toInt
        split <;> omega
      · show y.toInt ≤ (if b ≤ e then e else b)
        split <;> omega
    · rw [if_neg hc]
      have : ¬ x.toInt < y.toInt := fun q => hc ((ee_lt x y).mpr q)
      refine ⟨?_, ?_⟩
      · show (if a ≤ d then d else a) ≤ x.toInt
        split <;> omega
      · show x.toInt ≤ (if b ≤ e then e else b)
        split <;> omega
def ee_h24 : ee_H := fun _ bc bs e st => match st with
  | (pc, lo, y :: x :: stk, w, iv, kc, ks, sv) => (match e.2.1 with
      | .invokestatic _ => if ((e.2.2.2.2.2.1 = 3 ∨ e.2.2.2.2.2.1 = 4) ∧ (stk.map ee_cat).sum ≤ 8) ∧ kc ≤ bc ∧ ks ≤ bs then (match ee_cn iv x, ee_cn iv y with
        | some a, some b => ee_nx e.2.2.1 3 [(pc + 3, lo, .int (ee_mm e.2.2.2.2.2.1 a b) :: stk, w, iv, kc, ks, sv)]
        | _, _ => (match ee_it iv x, ee_it iv y with
          | some (a, b), some (d, u) => ee_nx e.2.2.1 3 [(pc + 3, lo, .retAddr iv.1 :: stk, w, ee_ps iv (ee_mb e.2.2.2.2.2.1 a b d u).1 (ee_mb e.2.2.2.2.2.1 a b d u).2 [], kc, ks, sv)]
          | _, _ => none)) else none
      | _ => none)
  | _ => none
set_option maxHeartbeats 2000000 in
theorem ee_h24.snd : ee_Snd ee_h24 := by
  intro X Y oc own cc ini dm bc bs Q e st sts F ho hi hd he hpc h k
  obtain ⟨p, l, en, R, s, m, args, below, meth, c⟩ := X
  obtain ⟨A, D, dA, ex, x0, a0, sv0, nL⟩ := Y
  obtain ⟨pc, lo, stk, w, iv, kc, ks, sv⟩ := st
  obtain ⟨pc', ins, len, hn, ea, eb, ez, qa, qb, qc⟩ := e
  obtain ⟨hx, hb, hml, hown, hts, hK, hA, hini, hR, hE⟩ := F
  have hpc : pc = pc' := hpc
  subst hpc
  have hd : decode cc pc = .ok (ins, len) := hd
  intro ns as H lc ls vs C
  obtain ⟨c1, c2, c3, c4, c5, c6⟩ := C
  show W p l en R s m args below meth c H lc kc ks Q (F0 m pc ls vs)
  match stk, vs, c4, h with
  | [], _, _, h => exact ee_no h
  | [_], _, _, h => exact ee_no h
  | y :: x :: stk, [], c4, h => exact c4.elim
  | y :: x :: stk, [_], c4, h => exact c4.2.elim
  | y :: x :: stk, vy :: vx :: vs, ⟨cy, cx, c4⟩, h =>
    cases ins with
    | invokestatic i =>
      replace h : (if ((eb = 3 ∨ eb = 4) ∧ (stk.map ee_cat).sum ≤ 8) ∧ kc ≤ bc ∧ ks ≤ bs then (match ee_cn iv x, ee_cn iv y with
        | some a, some b => ee_nx len 3 [(pc + 3, lo, .int (ee_mm eb a b) :: stk, w, iv, kc, ks, sv)]
        | _, _ => (match ee_it iv x, ee_it iv y with
          | some (a, b), some (d, u) => ee_nx len 3 [(pc + 3, lo, .retAddr iv.1 :: stk, w, ee_ps iv (ee_mb eb a b d u).1 (ee_mb eb a b d u).2 [], kc, ks, sv)]
          | _, _ => none)) else none) = some sts := h
      have hee : (if eb = 0 then (match ee_CL[ea]? with
        | some q => decide (q.1 = oc) && (decide (q.2.1 = i) && (decide (q.2.2.2.1 = 1) && (decide (q.2.2.1 = qa) && (decide (q.2.2.2.1 = qb) && decide (q.2.2.2.2.1 = qc)))))
        | none => false) else if eb = 2 then (match ee_AL[ea]? with
        | some q => decide (q.1 = oc) && decide (q.2.1 = i)
        | none => false) else if eb = 3 ∨ eb = 4 then (match ee_XL[ea]? with
        | some q => decide (q.1 = oc) && (decide (q.2.1 = i) && decide (q.2.2.1 = eb))
        | none => false) else true) = true := he
      by_cases hc : ((eb = 3 ∨ eb = 4) ∧ (stk.map ee_cat).sum ≤ 8) ∧ kc ≤ bc ∧ ks ≤ bs
      · rw [if_pos hc] at h
        obtain ⟨⟨hc1, hc2⟩, hc3, hc4⟩ := hc
        rw [if_neg (by omega), if_neg (by omega), if_pos hc1] at hee
        cases hq : ee_XL[ea]? with
        | none => rw [hq] at hee; cases hee
        | some q =>
          rw [hq] at hee
          obtain ⟨e1, e2⟩ := ee_and hee
          obtain ⟨e2, e3⟩ := ee_and e2
          have e1 := of_decide_eq_true e1
          have e2 := of_decide_eq_true e2
          have e3 := of_decide_eq_true e3
          have hm := ee_XLok q (List.mem_of_getElem? hq)
          rw [e1, ee_own_ow ho, e2, e3] at hm
          have key : len = 3 ∧ ∃ a b : Int32, vx = .int a ∧ vy = .int b ∧ W p l en R s m args below meth c H lc kc ks Q (F0 m (pc + 3) ls (.int (ee_mm eb a b) :: vs)) := by
            split at h
            · rename_i a b h1 h2
              obtain ⟨rfl, rfl⟩ := ee_nx_some h
              exact ⟨rfl, a, b, ee_cn.int c1 cx h1, ee_cn.int c1 cy h2, k _ List.mem_cons_self ns as H lc ls _ ⟨c1, c2, c3, ⟨rfl, c4⟩, c5, c6⟩⟩
            · split at h
              · rename_i a b d u h1 h2
                obtain ⟨rfl, rfl⟩ := ee_nx_some h
                obtain ⟨za, rfl, z1, z2⟩ := ee_it.int c1 cx h1
                obtain ⟨zb, rfl, z3, z4⟩ := ee_it.int c1 cy h2
                have g := ee_mb.ok (k := eb) z1 z2 z3 z4
                obtain ⟨d1, d2, d3, d4, d5, d6⟩ := ee_Con.grow (s := s) (A := A) (D := D) (dA := dA) (ex := ex) (x0 := x0) (a0 := a0) (sv0 := sv0) (nL := nL) (lo := lo) (ls := ls) ⟨c1, c2, c3, c4, c5, c6⟩ g.1 g.2 (fs := []) (fun _ q => by cases q)
                exact ⟨rfl, za, zb, rfl, rfl, k _ List.mem_cons_self _ as H lc ls _ ⟨d1, d2, d3, ⟨⟨_, c1.last _, rfl⟩, d4⟩, d5, d6⟩⟩
              · exact ee_no h
          obtain ⟨rfl, a, b, rfl, rfl, kk⟩ := key
          obtain ⟨lv, c3, c3l⟩ := c3
          have hl1 : (vs.map fun v => v.category).sum + 13 ≤ R.locals := by
            rw [ee_cats c4]
            omega
          rcases hc1 with rfl | rfl
          · exact va_mmin hx hb (by rw [hml]; exact c3.1.symm) hown (hts _ hm) (hts _ ee_math.1) (hts _ ee_math.2.2.2.2) (hts _ ee_math.2.1) (by omega) hl1 (Nat.le_trans hc3 hR.2.2.1) (Nat.le_trans hc4 hR.2.2.2) hd kk
          · exact va_mmax hx hb (by rw [hml]; exact c3.1.symm) hown (hts _ hm) (hts _ ee_math.2.2.1) (hts _ ee_math.2.2.2.2) (hts _ ee_math.2.2.2.1) (by omega) hl1 (Nat.le_trans hc3 hR.2.2.1) (Nat.le_trans hc4 hR.2.2.2) hd kk
      · rw [if_neg hc] at h
        exact ee_no h
    | _ => exact ee_no h
end
section
/-- a method: number of its file, name, code, locals, what it returns, its code as entries in blocks (each with the first place behind it), cells and slots that it makes -/
abbrev ee_me : Type := Nat × MethodName × ByteArray × Nat × Option FieldType × List (Nat × List ee_en) × Nat × Nat
/-- the entries of a method are what its bytes say -/
def ee_eb (oc : Nat) (cc : ByteArray) (b : Bool) (e : ee_en) : Bool := decide (decode cc e.1 = .ok (e.2.1, e.2.2.1)) && (ee_eok oc e && (!ee_ini e || b))
def ee_Bb (oc : Nat) (cc : ByteArray) (b : Bool) (q : Nat × List ee_en) : Bool := q.2.all (ee_eb oc cc b)
def ee_Mb (M : ee_me) : Bool := decide (ee_own[M.1]? = some M.2.1.cls) && M.2.2.2.2.2.1.all (ee_Bb M.1 M.2.2.1 (decide (M.2.1.name = "<init>")))
def ee_Mok (M : ee_me) : Prop := ee_own[M.1]? = some M.2.1.cls ∧ ∀ q ∈ M.2.2.2.2.2.1, ∀ e ∈ q.2, decode M.2.2.1 e.1 = .ok (e.2.1, e.2.2.1) ∧ ee_eok M.1 e = true ∧ (ee_ini e = true → M.2.1.name = "<init>")
theorem ee_Mb.ok {M : ee_me} (h : ee_Mb M = true) : ee_Mok M := by
  obtain ⟨h1, h2⟩ := Bool.and_eq_true_iff.mp h
  refine ⟨of_decide_eq_true h1, fun q hq e he => ?_⟩
  have h3 := List.all_eq_true.mp h2 q hq
  obtain ⟨g1, g2⟩ := Bool.and_eq_true_iff.mp (List.all_eq_true.mp h3 e he)
  obtain ⟨g2, g3⟩ := Bool.and_eq_true_iff.mp g2
  refine ⟨of_decide_eq_true g1, g2, fun hi => ?_⟩
  rw [hi] at g3
  exact of_decide_eq_true (by simpa using g3)

/- 0: PepperTables.<init>()V -/
def ee_B0 : List (Nat × List ee_en) := [(26, [(0, .aload_n 0, 1, 3, 0, 0, 0, 0, 0, 0), (1, .invokespecial 1, 3, 20, 0, 1, 0, 0, 0, 0), (4, .aload_n 0, 1, 3, 0, 0, 0, 0, 0, 0), (5, .new 7, 3, 18, 0, 0, 0, 5, 11, 0), (8, .dup, 1, 11, 0, 0, 0, 0, 0, 0), (9, .invokespecial 9, 3, 23, 0, 0, 0, 110, 2, 0), (12, .putfield 10, 3, 15, 0, 0, 0, 8, 0, 3), (15, .aload_n 0, 1, 3, 0, 0, 0, 0, 0, 0), (16, .new 16, 3, 18, 1, 0, 0, 7, 19, 0), (19, .dup, 1, 11, 0, 0, 0, 0, 0, 0), (20, .invokespecial 18, 3, 23, 1, 0, 0, 144, 2, 0), (23, .putfield 19, 3, 15, 1, 0, 0, 8, 1, 3)]), (52, [(26, .aload_n 0, 1, 3, 0, 0, 0, 0, 0, 0), (27, .new 23, 3, 18, 2, 0, 0, 6, 6, 0), (30, .dup, 1, 11, 0, 0, 0, 0, 0, 0), (31, .invokespecial 25, 3, 23, 2, 0, 0, 137, 2, 0), (34, .putfield 26, 3, 15, 2, 0, 0, 8, 2, 3), (37, .aload_n 0, 1, 3, 0, 0, 0, 0, 0, 0), (38, .new 23, 3, 18, 2, 0, 0, 6, 6, 0), (41, .dup, 1, 11, 0, 0, 0, 0, 0, 0), (42, .invokespecial 25, 3, 23, 2, 0, 0, 137, 2, 0), (45, .putfield 30, 3, 15, 3, 0, 0, 8, 3, 3), (48, .aload_n 0, 1, 3, 0, 0, 0, 0, 0, 0), (49, .new 33, 3, 18, 3, 0, 0, 4, 3, 0)]), (78, [(52, .dup, 1, 11, 0, 0, 0, 0, 0, 0), (53, .invokespecial 35, 3, 23, 3, 0, 0, 98, 2, 0), (56, .putfield 36, 3, 15, 4, 0, 0, 8, 4, 3), (59, .aload_n 0, 1, 3, 0, 0, 0, 0, 0, 0), (60, .new 40, 3, 18, 4, 0, 0, 0, 4, 0), (63, .dup, 1, 11, 0, 0, 0, 0, 0, 0), (64, .invokespecial 42, 3, 23, 4, 0, 0, 73, 2, 0), (67, .putfield 43, 3, 15, 5, 0, 0, 8, 5, 3), (70, .aload_n 0, 1, 3, 0, 0, 0, 0, 0, 0), (71, .new 47, 3, 18, 5, 0, 0, 1, 2, 0), (74, .dup, 1, 11, 0, 0, 0, 0, 0, 0), (75, .invokespecial 49, 3, 23, 5, 0, 0, 78, 2, 0)]), (104, [(78, .putfield 50, 3, 15, 6, 0, 0, 8, 6, 3), (81, .aload_n 0, 1, 3, 0, 0, 0, 0, 0, 0), (82, .new 54, 3, 18, 6, 0, 0, 3, 5, 0), (85, .dup, 1, 11, 0, 0, 0, 0, 0, 0), (86, .invokespecial 56, 3, 23, 6, 0, 0, 93, 2, 0), (89, .putfield 57, 3, 15, 7, 0, 0, 8, 7, 3), (92, .aload_n 0, 1, 3, 0, 0, 0, 0, 0, 0), (93, .new 61, 3, 18, 7, 0, 0, 2, 13, 0), (96, .dup, 1, 11, 0, 0, 0, 0, 0, 0), (97, .invokespecial 63, 3, 23, 7, 0, 0, 82, 2, 0), (100, .putfield 64, 3, 15, 8, 0, 0, 8, 8, 3), (103, .aload_n 0, 1, 3, 0, 0, 0, 0, 0, 0)]), (126, [(104, .bipush 20, 2, 0, 0, 0, 0, 0, 0, 0), (106, .newarray .int, 2, 18, 0, 0, 0, 0, 0, 0), (108, .putfield 68, 3, 15, 9, 0, 0, 8, 9, 3), (111, .aload_n 0, 1, 3, 0, 0, 0, 0, 0, 0), (112, .iconst 4, 1, 0, 0, 0, 0, 0, 0, 0), (113, .newarray .int, 2, 18, 0, 0, 0, 0, 0, 0), (115, .putfield 72, 3, 15, 10, 0, 0, 8, 10, 3), (118, .aload_n 0, 1, 3, 0, 0, 0, 0, 0, 0), (119, .iconst 4, 1, 0, 0, 0, 0, 0, 0, 0), (120, .newarray .int, 2, 18, 0, 0, 0, 0, 0, 0), (122, .putfield 75, 3, 15, 11, 0, 0, 8, 11, 3), (125, .return_, 1, 21, 0, 0, 0, 0, 0, 0)])]
def ee_me0 : ee_me := (8, ⟨"PepperTables", "<init>", "()V"⟩, prog_1_method_1_code, 1, none, ee_B0, 57, 3870)
set_option maxRecDepth 100000 in
theorem ee_me0ok : ee_Mb ee_me0 = true := by decide +kernel
/- 1: PepperTables.about(I)I -/
def ee_B1 : List (Nat × List ee_en) := [(100, [(0, .iload_n 1, 1, 2, 0, 0, 0, 0, 0, 0), (1, .tableswitch 218 0 15 #[79, 87, 95, 103, 111, 119, 127, 135, 143, 151, 159, 167, 175, 183, 191, 199], 79, 13, 0, 0, 0, 0, 0, 0), (80, .aload_n 0, 1, 3, 0, 0, 0, 0, 0, 0), (81, .getfield 19, 3, 14, 1, 0, 0, 8, 1, 3), (84, .getfield 107, 3, 14, 12, 0, 0, 7, 2, 0), (87, .ireturn, 1, 21, 0, 0, 0, 0, 0, 0), (88, .aload_n 0, 1, 3, 0, 0, 0, 0, 0, 0), (89, .getfield 19, 3, 14, 1, 0, 0, 8, 1, 3), (92, .getfield 236, 3, 14, 13, 0, 0, 7, 0, 0), (95, .ireturn, 1, 21, 0, 0, 0, 0, 0, 0), (96, .aload_n 0, 1, 3, 0, 0, 0, 0, 0, 0), (97, .getfield 19, 3, 14, 1, 0, 0, 8, 1, 3)]), (124, [(100, .getfield 233, 3, 14, 14, 0, 0, 7, 1, 0), (103, .ireturn, 1, 21, 0, 0, 0, 0, 0, 0), (104, .aload_n 0, 1, 3, 0, 0, 0, 0, 0, 0), (105, .getfield 26, 3, 14, 2, 0, 0, 8, 2, 3), (108, .getfield 123, 3, 14, 15, 0, 0, 6, 0, 0), (111, .ireturn, 1, 21, 0, 0, 0, 0, 0, 0), (112, .aload_n 0, 1, 3, 0, 0, 0, 0, 0, 0), (113, .getfield 26, 3, 14, 2, 0, 0, 8, 2, 3), (116, .getfield 137, 3, 14, 16, 0, 0, 6, 1, 0), (119, .ireturn, 1, 21, 0, 0, 0, 0, 0, 0), (120, .aload_n 0, 1, 3, 0, 0, 0, 0, 0, 0), (121, .getfield 26, 3, 14, 2, 0, 0, 8, 2, 3)]), (148, [(124, .getfield 189, 3, 14, 17, 0, 0, 6, 2, 0), (127, .ireturn, 1, 21, 0, 0, 0, 0, 0, 0), (128, .aload_n 0, 1, 3, 0, 0, 0, 0, 0, 0), (129, .getfield 26, 3, 14, 2, 0, 0, 8, 2, 3), (132, .getfield 192, 3, 14, 18, 0, 0, 6, 3, 0), (135, .ireturn, 1, 21, 0, 0, 0, 0, 0, 0), (136, .aload_n 0, 1, 3, 0, 0, 0, 0, 0, 0), (137, .getfield 43, 3, 14, 5, 0, 0, 8, 5, 3), (140, .getfield 325, 3, 14, 19, 0, 0, 0, 0, 0), (143, .ireturn, 1, 21, 0, 0, 0, 0, 0, 0), (144, .aload_n 0, 1, 3, 0, 0, 0, 0, 0, 0), (145, .getfield 43, 3, 14, 5, 0, 0, 8, 5, 3)]), (172, [(148, .getfield 328, 3, 14, 20, 0, 0, 0, 1, 0), (151, .ireturn, 1, 21, 0, 0, 0, 0, 0, 0), (152, .aload_n 0, 1, 3, 0, 0, 0, 0, 0, 0), (153, .getfield 64, 3, 14, 8, 0, 0, 8, 8, 3), (156, .getfield 331, 3, 14, 21, 0, 0, 2, 0, 0), (159, .ireturn, 1, 21, 0, 0, 0, 0, 0, 0), (160, .aload_n 0, 1, 3, 0, 0, 0, 0, 0, 0), (161, .getfield 64, 3, 14, 8, 0, 0, 8, 8, 3), (164, .getfield 332, 3, 14, 22, 0, 0, 2, 1, 0), (167, .ireturn, 1, 21, 0, 0, 0, 0, 0, 0), (168, .aload_n 0, 1, 3, 0, 0, 0, 0, 0, 0), (169, .getfield 10, 3, 14, 0, 0, 0, 8, 0, 3)]), (196, [(172, .getfield 78, 3, 14, 23, 0, 0, 5, 0, 0), (175, .ireturn, 1, 21, 0, 0, 0, 0, 0, 0), (176, .aload_n 0, 1, 3, 0, 0, 0, 0, 0, 0), (177, .getfield 19, 3, 14, 1, 0, 0, 8, 1, 3), (180, .getfield 335, 3, 14, 24, 0, 0, 7, 3, 0), (183, .ireturn, 1, 21, 0, 0, 0, 0, 0, 0), (184, .aload_n 0, 1, 3, 0, 0, 0, 0, 0, 0), (185, .getfield 57, 3, 14, 7, 0, 0, 8, 7, 3), (188, .getfield 103, 3, 14, 25, 0, 0, 3, 0, 0), (191, .ireturn, 1, 21, 0, 0, 0, 0, 0, 0), (192, .aload_n 0, 1, 3, 0, 0, 0, 0, 0, 0), (193, .getfield 19, 3, 14, 1, 0, 0, 8, 1, 3)]), (220, [(196, .getfield 195, 3, 14, 26, 0, 0, 7, 4, 0), (199, .ireturn, 1, 21, 0, 0, 0, 0, 0, 0), (200, .aload_n 0, 1, 3, 0, 0, 0, 0, 0, 0), (201, .getfield 19, 3, 14, 1, 0, 0, 8, 1, 3), (204, .aload_n 0, 1, 3, 0, 0, 0, 0, 0, 0), (205, .getfield 26, 3, 14, 2, 0, 0, 8, 2, 3), (208, .aload_n 0, 1, 3, 0, 0, 0, 0, 0, 0), (209, .getfield 19, 3, 14, 1, 0, 0, 8, 1, 3), (212, .invokevirtual 126, 3, 23, 8, 0, 0, 140, 0, 1), (215, .invokevirtual 162, 3, 23, 9, 0, 0, 149, 0, 1), (218, .ireturn, 1, 21, 0, 0, 0, 0, 0, 0), (219, .iconst (-1), 1, 0, 0, 0, 0, 0, 0, 0)]), (221, [(220, .ireturn, 1, 21, 0, 0, 0, 0, 0, 0)])]
def ee_me1 : ee_me := (8, ⟨"PepperTables", "about", "(I)I"⟩, prog_1_method_56_code, 2, (some .int), ee_B1, 0, 0)
set_option maxRecDepth 100000 in
theorem ee_me1ok : ee_Mb ee_me1 = true := by decide +kernel
/- 2: PepperTables.after(I)I -/
def ee_B2 : List (Nat × List ee_en) := [(24, [(0, .aload_n 0, 1, 3, 0, 0, 0, 0, 0, 0), (1, .iload_n 1, 1, 2, 0, 0, 0, 0, 0, 0), (2, .invokevirtual 186, 3, 23, 10, 0, 0, 28, 0, 1), (5, .ifCond .eq 19, 3, 12, 0, 0, 0, 0, 0, 0), (8, .aload_n 0, 1, 3, 0, 0, 0, 0, 0, 0), (9, .aload_n 0, 1, 3, 0, 0, 0, 0, 0, 0), (10, .getfield 26, 3, 14, 2, 0, 0, 8, 2, 3), (13, .getfield 152, 3, 14, 27, 0, 0, 6, 4, 3), (16, .iload_n 1, 1, 2, 0, 0, 0, 0, 0, 0), (17, .iaload, 1, 22, 0, 0, 0, 0, 0, 0), (18, .invokevirtual 155, 3, 23, 11, 0, 0, 30, 0, 1), (21, .ifCond .ne 5, 3, 12, 0, 0, 0, 0, 0, 0)]), (45, [(24, .iconst (-1), 1, 0, 0, 0, 0, 0, 0, 0), (25, .ireturn, 1, 21, 0, 0, 0, 0, 0, 0), (26, .aload_n 0, 1, 3, 0, 0, 0, 0, 0, 0), (27, .getfield 30, 3, 14, 3, 0, 0, 8, 3, 3), (30, .aload_n 0, 1, 3, 0, 0, 0, 0, 0, 0), (31, .getfield 26, 3, 14, 2, 0, 0, 8, 2, 3), (34, .invokevirtual 253, 3, 23, 12, 0, 0, 139, 0, 1), (37, .iconst 1, 1, 0, 0, 0, 0, 0, 0, 0), (38, .istore_n 2, 1, 4, 0, 0, 0, 0, 0, 0), (39, .iload_n 2, 1, 2, 0, 0, 0, 0, 0, 0), (40, .bipush 9, 2, 0, 0, 0, 0, 0, 0, 0), (42, .if_icmp .gt 44, 3, 12, 0, 0, 0, 0, 0, 0)]), (69, [(45, .aload_n 0, 1, 3, 0, 0, 0, 0, 0, 0), (46, .getfield 36, 3, 14, 4, 0, 0, 8, 4, 3), (49, .aload_n 0, 1, 3, 0, 0, 0, 0, 0, 0), (50, .getfield 19, 3, 14, 1, 0, 0, 8, 1, 3), (53, .aload_n 0, 1, 3, 0, 0, 0, 0, 0, 0), (54, .getfield 30, 3, 14, 3, 0, 0, 8, 3, 3), (57, .aload_n 0, 1, 3, 0, 0, 0, 0, 0, 0), (58, .getfield 26, 3, 14, 2, 0, 0, 8, 2, 3), (61, .getfield 152, 3, 14, 27, 0, 0, 6, 4, 3), (64, .iload_n 1, 1, 2, 0, 0, 0, 0, 0, 0), (65, .iaload, 1, 22, 0, 0, 0, 0, 0, 0), (66, .invokevirtual 183, 3, 23, 13, 0, 0, 109, 0, 3)]), (87, [(69, .istore_n 3, 1, 4, 0, 0, 0, 0, 0, 0), (70, .iload_n 3, 1, 2, 0, 0, 0, 0, 0, 0), (71, .iload_n 1, 1, 2, 0, 0, 0, 0, 0, 0), (72, .ishr, 1, 7, 0, 0, 0, 0, 0, 0), (73, .iconst 1, 1, 0, 0, 0, 0, 0, 0, 0), (74, .iand, 1, 7, 0, 0, 0, 0, 0, 0), (75, .ifCond .eq 5, 3, 12, 0, 0, 0, 0, 0, 0), (78, .iload_n 2, 1, 2, 0, 0, 0, 0, 0, 0), (79, .ireturn, 1, 21, 0, 0, 0, 0, 0, 0), (80, .iinc 2 1, 3, 6, 0, 0, 0, 0, 0, 0), (83, .goto (-44), 3, 0, 0, 0, 0, 0, 0, 0), (86, .iconst (-1), 1, 0, 0, 0, 0, 0, 0, 0)]), (88, [(87, .ireturn, 1, 21, 0, 0, 0, 0, 0, 0)])]
def ee_me2 : ee_me := (8, ⟨"PepperTables", "after", "(I)I"⟩, prog_1_method_24_code, 4, (some .int), ee_B2, 0, 0)
set_option maxRecDepth 100000 in
theorem ee_me2ok : ee_Mb ee_me2 = true := by decide +kernel
/- 3: PepperTables.ask(II)I -/
def ee_B3 : List (Nat × List ee_en) := [(26, [(0, .iload_n 1, 1, 2, 0, 0, 0, 0, 0, 0), (1, .invokestatic 209, 3, 23, 14, 0, 0, 27, 1, 1), (4, .ifCond .eq 22, 3, 12, 0, 0, 0, 0, 0, 0), (7, .aload_n 0, 1, 3, 0, 0, 0, 0, 0, 0), (8, .getfield 64, 3, 14, 8, 0, 0, 8, 8, 3), (11, .aload_n 0, 1, 3, 0, 0, 0, 0, 0, 0), (12, .getfield 19, 3, 14, 1, 0, 0, 8, 1, 3), (15, .aload_n 0, 1, 3, 0, 0, 0, 0, 0, 0), (16, .getfield 36, 3, 14, 4, 0, 0, 8, 4, 3), (19, .iload_n 2, 1, 2, 0, 0, 0, 0, 0, 0), (20, .invokevirtual 307, 3, 23, 15, 0, 0, 90, 0, 3), (23, .ifCond .ne 5, 3, 12, 0, 0, 0, 0, 0, 0)]), (46, [(26, .iconst (-1), 1, 0, 0, 0, 0, 0, 0, 0), (27, .ireturn, 1, 21, 0, 0, 0, 0, 0, 0), (28, .iconst (-1), 1, 0, 0, 0, 0, 0, 0, 0), (29, .istore_n 3, 1, 4, 0, 0, 0, 0, 0, 0), (30, .bipush 37, 2, 0, 0, 0, 0, 0, 0, 0), (32, .istore 4, 2, 4, 0, 0, 0, 0, 0, 0), (34, .iconst 0, 1, 0, 0, 0, 0, 0, 0, 0), (35, .istore 5, 2, 4, 0, 0, 0, 0, 0, 0), (37, .iload 5, 2, 2, 0, 0, 0, 0, 0, 0), (39, .aload_n 0, 1, 3, 0, 0, 0, 0, 0, 0), (40, .getfield 19, 3, 14, 1, 0, 0, 8, 1, 3), (43, .getfield 233, 3, 14, 14, 0, 0, 7, 1, 0)]), (72, [(46, .if_icmp .ge 34, 3, 12, 0, 0, 0, 0, 0, 0), (49, .aload_n 0, 1, 3, 0, 0, 0, 0, 0, 0), (50, .getfield 64, 3, 14, 8, 0, 0, 8, 8, 3), (53, .iload 5, 2, 2, 0, 0, 0, 0, 0, 0), (55, .invokevirtual 315, 3, 23, 16, 0, 0, 86, 0, 1), (58, .istore 6, 2, 4, 0, 0, 0, 0, 0, 0), (60, .iload 6, 2, 2, 0, 0, 0, 0, 0, 0), (62, .iload 4, 2, 2, 0, 0, 0, 0, 0, 0), (64, .if_icmp .ge 10, 3, 12, 0, 0, 0, 0, 0, 0), (67, .iload 5, 2, 2, 0, 0, 0, 0, 0, 0), (69, .istore_n 3, 1, 4, 0, 0, 0, 0, 0, 0), (70, .iload 6, 2, 2, 0, 0, 0, 0, 0, 0)]), (95, [(72, .istore 4, 2, 4, 0, 0, 0, 0, 0, 0), (74, .iinc 5 1, 3, 6, 0, 0, 0, 0, 0, 0), (77, .goto (-40), 3, 0, 0, 0, 0, 0, 0, 0), (80, .iload_n 3, 1, 2, 0, 0, 0, 0, 0, 0), (81, .iconst (-1), 1, 0, 0, 0, 0, 0, 0, 0), (82, .if_icmp .ne 5, 3, 12, 0, 0, 0, 0, 0, 0), (85, .iconst (-1), 1, 0, 0, 0, 0, 0, 0, 0), (86, .ireturn, 1, 21, 0, 0, 0, 0, 0, 0), (87, .iload_n 1, 1, 2, 0, 0, 0, 0, 0, 0), (88, .ifCond .ne 7, 3, 12, 0, 0, 0, 0, 0, 0), (91, .iload_n 3, 1, 2, 0, 0, 0, 0, 0, 0), (92, .goto 5, 3, 0, 0, 0, 0, 0, 0, 0)]), (98, [(95, .iload 4, 2, 2, 0, 0, 0, 0, 0, 0), (97, .ireturn, 1, 21, 0, 0, 0, 0, 0, 0)])]
def ee_me3 : ee_me := (8, ⟨"PepperTables", "ask", "(II)I"⟩, prog_1_method_53_code, 7, (some .int), ee_B3, 0, 0)
set_option maxRecDepth 100000 in
theorem ee_me3ok : ee_Mb ee_me3 = true := by decide +kernel
/- 4: PepperTables.back(I)I -/
def ee_B4 : List (Nat × List ee_en) := [(22, [(0, .aload_n 0, 1, 3, 0, 0, 0, 0, 0, 0), (1, .getfield 50, 3, 14, 6, 0, 0, 8, 6, 3), (4, .iload_n 1, 1, 2, 0, 0, 0, 0, 0, 0), (5, .aload_n 0, 1, 3, 0, 0, 0, 0, 0, 0), (6, .getfield 26, 3, 14, 2, 0, 0, 8, 2, 3), (9, .invokevirtual 322, 3, 23, 17, 0, 0, 81, 0, 2), (12, .ifCond .ne 5, 3, 12, 0, 0, 0, 0, 0, 0), (15, .iconst (-1), 1, 0, 0, 0, 0, 0, 0, 0), (16, .ireturn, 1, 21, 0, 0, 0, 0, 0, 0), (17, .aload_n 0, 1, 3, 0, 0, 0, 0, 0, 0), (18, .getfield 43, 3, 14, 5, 0, 0, 8, 5, 3), (21, .aload_n 0, 1, 3, 0, 0, 0, 0, 0, 0)]), (36, [(22, .getfield 26, 3, 14, 2, 0, 0, 8, 2, 3), (25, .invokevirtual 97, 3, 23, 18, 0, 0, 74, 0, 1), (28, .aload_n 0, 1, 3, 0, 0, 0, 0, 0, 0), (29, .getfield 26, 3, 14, 2, 0, 0, 8, 2, 3), (32, .getfield 189, 3, 14, 17, 0, 0, 6, 2, 0), (35, .ireturn, 1, 21, 0, 0, 0, 0, 0, 0)])]
def ee_me4 : ee_me := (8, ⟨"PepperTables", "back", "(I)I"⟩, prog_1_method_55_code, 2, (some .int), ee_B4, 0, 0)
set_option maxRecDepth 100000 in
theorem ee_me4ok : ee_Mb ee_me4 = true := by decide +kernel
/- 5: PepperTables.blend(II)I -/
def ee_B5 : List (Nat × List ee_en) := [(22, [(0, .aload_n 0, 1, 3, 0, 0, 0, 0, 0, 0), (1, .iload_n 1, 1, 2, 0, 0, 0, 0, 0, 0), (2, .invokevirtual 155, 3, 23, 11, 0, 0, 30, 0, 1), (5, .ifCond .eq 16, 3, 12, 0, 0, 0, 0, 0, 0), (8, .aload_n 0, 1, 3, 0, 0, 0, 0, 0, 0), (9, .iload_n 2, 1, 2, 0, 0, 0, 0, 0, 0), (10, .invokevirtual 155, 3, 23, 11, 0, 0, 30, 0, 1), (13, .ifCond .eq 8, 3, 12, 0, 0, 0, 0, 0, 0), (16, .iload_n 1, 1, 2, 0, 0, 0, 0, 0, 0), (17, .iload_n 2, 1, 2, 0, 0, 0, 0, 0, 0), (18, .if_icmp .ne 5, 3, 12, 0, 0, 0, 0, 0, 0), (21, .iconst (-1), 1, 0, 0, 0, 0, 0, 0, 0)]), (44, [(22, .ireturn, 1, 21, 0, 0, 0, 0, 0, 0), (23, .aload_n 0, 1, 3, 0, 0, 0, 0, 0, 0), (24, .getfield 26, 3, 14, 2, 0, 0, 8, 2, 3), (27, .aload_n 0, 1, 3, 0, 0, 0, 0, 0, 0), (28, .getfield 19, 3, 14, 1, 0, 0, 8, 1, 3), (31, .iload_n 2, 1, 2, 0, 0, 0, 0, 0, 0), (32, .invokevirtual 158, 3, 23, 19, 0, 0, 141, 0, 2), (35, .istore_n 3, 1, 4, 0, 0, 0, 0, 0, 0), (36, .aload_n 0, 1, 3, 0, 0, 0, 0, 0, 0), (37, .getfield 30, 3, 14, 3, 0, 0, 8, 3, 3), (40, .aload_n 0, 1, 3, 0, 0, 0, 0, 0, 0), (41, .getfield 26, 3, 14, 2, 0, 0, 8, 2, 3)]), (67, [(44, .invokevirtual 253, 3, 23, 12, 0, 0, 139, 0, 1), (47, .iconst 0, 1, 0, 0, 0, 0, 0, 0, 0), (48, .istore 4, 2, 4, 0, 0, 0, 0, 0, 0), (50, .iload 4, 2, 2, 0, 0, 0, 0, 0, 0), (52, .aload_n 0, 1, 3, 0, 0, 0, 0, 0, 0), (53, .getfield 19, 3, 14, 1, 0, 0, 8, 1, 3), (56, .getfield 107, 3, 14, 12, 0, 0, 7, 2, 0), (59, .if_icmp .ge 29, 3, 12, 0, 0, 0, 0, 0, 0), (62, .iload_n 3, 1, 2, 0, 0, 0, 0, 0, 0), (63, .iload 4, 2, 2, 0, 0, 0, 0, 0, 0), (65, .ishr, 1, 7, 0, 0, 0, 0, 0, 0), (66, .iconst 1, 1, 0, 0, 0, 0, 0, 0, 0)]), (92, [(67, .iand, 1, 7, 0, 0, 0, 0, 0, 0), (68, .ifCond .eq 14, 3, 12, 0, 0, 0, 0, 0, 0), (71, .aload_n 0, 1, 3, 0, 0, 0, 0, 0, 0), (72, .getfield 30, 3, 14, 3, 0, 0, 8, 3, 3), (75, .getfield 152, 3, 14, 27, 0, 0, 6, 4, 3), (78, .iload 4, 2, 2, 0, 0, 0, 0, 0, 0), (80, .iload_n 1, 1, 2, 0, 0, 0, 0, 0, 0), (81, .iastore, 1, 17, 0, 0, 0, 0, 0, 0), (82, .iinc 4 1, 3, 6, 0, 0, 0, 0, 0, 0), (85, .goto (-35), 3, 0, 0, 0, 0, 0, 0, 0), (88, .aload_n 0, 1, 3, 0, 0, 0, 0, 0, 0), (89, .getfield 36, 3, 14, 4, 0, 0, 8, 4, 3)]), (108, [(92, .aload_n 0, 1, 3, 0, 0, 0, 0, 0, 0), (93, .getfield 19, 3, 14, 1, 0, 0, 8, 1, 3), (96, .aload_n 0, 1, 3, 0, 0, 0, 0, 0, 0), (97, .getfield 30, 3, 14, 3, 0, 0, 8, 3, 3), (100, .iload_n 1, 1, 2, 0, 0, 0, 0, 0, 0), (101, .invokevirtual 168, 3, 23, 20, 0, 0, 101, 0, 3), (104, .invokestatic 178, 3, 23, 21, 0, 0, 297, 1, 1), (107, .ireturn, 1, 21, 0, 0, 0, 0, 0, 0)])]
def ee_me5 : ee_me := (8, ⟨"PepperTables", "blend", "(II)I"⟩, prog_1_method_30_code, 5, (some .int), ee_B5, 0, 0)
set_option maxRecDepth 100000 in
theorem ee_me5ok : ee_Mb ee_me5 = true := by decide +kernel
/- 6: PepperTables.closest()I -/
def ee_B6 : List (Nat × List ee_en) := [(18, [(0, .iconst (-1), 1, 0, 0, 0, 0, 0, 0, 0), (1, .istore_n 1, 1, 4, 0, 0, 0, 0, 0, 0), (2, .iconst (-1), 1, 0, 0, 0, 0, 0, 0, 0), (3, .istore_n 2, 1, 4, 0, 0, 0, 0, 0, 0), (4, .iconst 0, 1, 0, 0, 0, 0, 0, 0, 0), (5, .istore_n 3, 1, 4, 0, 0, 0, 0, 0, 0), (6, .iload_n 3, 1, 2, 0, 0, 0, 0, 0, 0), (7, .aload_n 0, 1, 3, 0, 0, 0, 0, 0, 0), (8, .getfield 19, 3, 14, 1, 0, 0, 8, 1, 3), (11, .getfield 236, 3, 14, 13, 0, 0, 7, 0, 0), (14, .if_icmp .ge 45, 3, 12, 0, 0, 0, 0, 0, 0), (17, .aload_n 0, 1, 3, 0, 0, 0, 0, 0, 0)]), (44, [(18, .getfield 26, 3, 14, 2, 0, 0, 8, 2, 3), (21, .aload_n 0, 1, 3, 0, 0, 0, 0, 0, 0), (22, .getfield 19, 3, 14, 1, 0, 0, 8, 1, 3), (25, .invokevirtual 126, 3, 23, 8, 0, 0, 140, 0, 1), (28, .aload_n 0, 1, 3, 0, 0, 0, 0, 0, 0), (29, .getfield 19, 3, 14, 1, 0, 0, 8, 1, 3), (32, .iload_n 3, 1, 2, 0, 0, 0, 0, 0, 0), (33, .invokevirtual 130, 3, 23, 22, 0, 0, 152, 0, 1), (36, .iand, 1, 7, 0, 0, 0, 0, 0, 0), (37, .invokestatic 178, 3, 23, 21, 0, 0, 297, 1, 1), (40, .istore 4, 2, 4, 0, 0, 0, 0, 0, 0), (42, .iload 4, 2, 2, 0, 0, 0, 0, 0, 0)]), (61, [(44, .iload_n 2, 1, 2, 0, 0, 0, 0, 0, 0), (45, .if_icmp .le 8, 3, 12, 0, 0, 0, 0, 0, 0), (48, .iload_n 3, 1, 2, 0, 0, 0, 0, 0, 0), (49, .istore_n 1, 1, 4, 0, 0, 0, 0, 0, 0), (50, .iload 4, 2, 2, 0, 0, 0, 0, 0, 0), (52, .istore_n 2, 1, 4, 0, 0, 0, 0, 0, 0), (53, .iinc 3 1, 3, 6, 0, 0, 0, 0, 0, 0), (56, .goto (-50), 3, 0, 0, 0, 0, 0, 0, 0), (59, .iload_n 1, 1, 2, 0, 0, 0, 0, 0, 0), (60, .ireturn, 1, 21, 0, 0, 0, 0, 0, 0)])]
def ee_me6 : ee_me := (8, ⟨"PepperTables", "closest", "()I"⟩, prog_1_method_40_code, 5, (some .int), ee_B6, 0, 0)
set_option maxRecDepth 100000 in
theorem ee_me6ok : ee_Mb ee_me6 = true := by decide +kernel
/- 7: PepperTables.commonDivisor(II)I -/
def ee_B7 : List (Nat × List ee_en) := [(16, [(0, .iload_n 1, 1, 2, 0, 0, 0, 0, 0, 0), (1, .istore_n 2, 1, 4, 0, 0, 0, 0, 0, 0), (2, .iload_n 2, 1, 2, 0, 0, 0, 0, 0, 0), (3, .iconst 1, 1, 0, 0, 0, 0, 0, 0, 0), (4, .if_icmp .le 23, 3, 12, 0, 0, 0, 0, 0, 0), (7, .iload_n 0, 1, 2, 0, 0, 0, 0, 0, 0), (8, .iload_n 2, 1, 2, 0, 0, 0, 0, 0, 0), (9, .irem, 1, 8, 0, 0, 0, 0, 0, 0), (10, .ifCond .ne 11, 3, 12, 0, 0, 0, 0, 0, 0), (13, .iload_n 1, 1, 2, 0, 0, 0, 0, 0, 0), (14, .iload_n 2, 1, 2, 0, 0, 0, 0, 0, 0), (15, .irem, 1, 8, 0, 0, 0, 0, 0, 0)]), (29, [(16, .ifCond .ne 5, 3, 12, 0, 0, 0, 0, 0, 0), (19, .iload_n 2, 1, 2, 0, 0, 0, 0, 0, 0), (20, .ireturn, 1, 21, 0, 0, 0, 0, 0, 0), (21, .iinc 2 (-1), 3, 6, 0, 0, 0, 0, 0, 0), (24, .goto (-22), 3, 0, 0, 0, 0, 0, 0, 0), (27, .iconst 1, 1, 0, 0, 0, 0, 0, 0, 0), (28, .ireturn, 1, 21, 0, 0, 0, 0, 0, 0)])]
def ee_me7 : ee_me := (8, ⟨"PepperTables", "commonDivisor", "(II)I"⟩, prog_1_method_73_code, 3, (some .int), ee_B7, 0, 0)
set_option maxRecDepth 100000 in
theorem ee_me7ok : ee_Mb ee_me7 = true := by decide +kernel
/- 8: PepperTables.counted(II)I -/
def ee_B8 : List (Nat × List ee_en) := [(20, [(0, .iload_n 0, 1, 2, 0, 0, 0, 0, 0, 0), (1, .iconst (-1), 1, 0, 0, 0, 0, 0, 0, 0), (2, .if_icmp .ne 5, 3, 12, 0, 0, 0, 0, 0, 0), (5, .iconst (-1), 1, 0, 0, 0, 0, 0, 0, 0), (6, .ireturn, 1, 21, 0, 0, 0, 0, 0, 0), (7, .iload_n 1, 1, 2, 0, 0, 0, 0, 0, 0), (8, .ifCond .ne 10, 3, 12, 0, 0, 0, 0, 0, 0), (11, .iload_n 0, 1, 2, 0, 0, 0, 0, 0, 0), (12, .invokestatic 178, 3, 23, 21, 0, 0, 297, 1, 1), (15, .goto 4, 3, 0, 0, 0, 0, 0, 0, 0), (18, .iload_n 0, 1, 2, 0, 0, 0, 0, 0, 0), (19, .ireturn, 1, 21, 0, 0, 0, 0, 0, 0)])]
def ee_me8 : ee_me := (8, ⟨"PepperTables", "counted", "(II)I"⟩, prog_1_method_64_code, 2, (some .int), ee_B8, 0, 0)
set_option maxRecDepth 100000 in
theorem ee_me8ok : ee_Mb ee_me8 = true := by decide +kernel
/- 9: PepperTables.course()I -/
def ee_B9 : List (Nat × List ee_en) := [(25, [(0, .aload_n 0, 1, 3, 0, 0, 0, 0, 0, 0), (1, .getfield 26, 3, 14, 2, 0, 0, 8, 2, 3), (4, .getfield 189, 3, 14, 17, 0, 0, 6, 2, 0), (7, .sipush 999, 3, 0, 0, 0, 0, 0, 0, 0), (10, .if_icmp .lt 6, 3, 12, 0, 0, 0, 0, 0, 0), (13, .bipush (-2), 2, 0, 0, 0, 0, 0, 0, 0), (15, .ireturn, 1, 21, 0, 0, 0, 0, 0, 0), (16, .aload_n 0, 1, 3, 0, 0, 0, 0, 0, 0), (17, .getfield 26, 3, 14, 2, 0, 0, 8, 2, 3), (20, .dup, 1, 11, 0, 0, 0, 0, 0, 0), (21, .getfield 189, 3, 14, 17, 0, 0, 6, 2, 0), (24, .iconst 1, 1, 0, 0, 0, 0, 0, 0, 0)]), (50, [(25, .iadd, 1, 7, 0, 0, 0, 0, 0, 0), (26, .putfield 189, 3, 15, 17, 0, 0, 6, 2, 0), (29, .aload_n 0, 1, 3, 0, 0, 0, 0, 0, 0), (30, .getfield 26, 3, 14, 2, 0, 0, 8, 2, 3), (33, .aload_n 0, 1, 3, 0, 0, 0, 0, 0, 0), (34, .getfield 26, 3, 14, 2, 0, 0, 8, 2, 3), (37, .getfield 192, 3, 14, 18, 0, 0, 6, 3, 0), (40, .sipush 137, 3, 0, 0, 0, 0, 0, 0, 0), (43, .imul, 1, 7, 0, 0, 0, 0, 0, 0), (44, .bipush 71, 2, 0, 0, 0, 0, 0, 0, 0), (46, .iadd, 1, 7, 0, 0, 0, 0, 0, 0), (47, .sipush 1000, 3, 0, 0, 0, 0, 0, 0, 0)]), (73, [(50, .irem, 1, 8, 0, 0, 0, 0, 0, 0), (51, .putfield 192, 3, 15, 18, 0, 0, 6, 3, 0), (54, .iconst (-1), 1, 0, 0, 0, 0, 0, 0, 0), (55, .istore_n 1, 1, 4, 0, 0, 0, 0, 0, 0), (56, .aload_n 0, 1, 3, 0, 0, 0, 0, 0, 0), (57, .getfield 26, 3, 14, 2, 0, 0, 8, 2, 3), (60, .getfield 192, 3, 14, 18, 0, 0, 6, 3, 0), (63, .bipush 100, 2, 0, 0, 0, 0, 0, 0, 0), (65, .irem, 1, 8, 0, 0, 0, 0, 0, 0), (66, .aload_n 0, 1, 3, 0, 0, 0, 0, 0, 0), (67, .getfield 19, 3, 14, 1, 0, 0, 8, 1, 3), (70, .getfield 195, 3, 14, 26, 0, 0, 7, 4, 0)]), (95, [(73, .if_icmp .ge 8, 3, 12, 0, 0, 0, 0, 0, 0), (76, .aload_n 0, 1, 3, 0, 0, 0, 0, 0, 0), (77, .invokevirtual 198, 3, 23, 23, 0, 0, 62, 0, 0), (80, .istore_n 1, 1, 4, 0, 0, 0, 0, 0, 0), (81, .iload_n 1, 1, 2, 0, 0, 0, 0, 0, 0), (82, .iconst (-1), 1, 0, 0, 0, 0, 0, 0, 0), (83, .if_icmp .eq 18, 3, 12, 0, 0, 0, 0, 0, 0), (86, .aload_n 0, 1, 3, 0, 0, 0, 0, 0, 0), (87, .getfield 26, 3, 14, 2, 0, 0, 8, 2, 3), (90, .dup, 1, 11, 0, 0, 0, 0, 0, 0), (91, .getfield 137, 3, 14, 16, 0, 0, 6, 1, 0), (94, .iconst 1, 1, 0, 0, 0, 0, 0, 0, 0)]), (114, [(95, .iload_n 1, 1, 2, 0, 0, 0, 0, 0, 0), (96, .ishl, 1, 7, 0, 0, 0, 0, 0, 0), (97, .ior, 1, 7, 0, 0, 0, 0, 0, 0), (98, .putfield 137, 3, 15, 16, 0, 0, 6, 1, 0), (101, .aload_n 0, 1, 3, 0, 0, 0, 0, 0, 0), (102, .getfield 43, 3, 14, 5, 0, 0, 8, 5, 3), (105, .aload_n 0, 1, 3, 0, 0, 0, 0, 0, 0), (106, .getfield 26, 3, 14, 2, 0, 0, 8, 2, 3), (109, .invokevirtual 175, 3, 23, 24, 0, 0, 75, 0, 1), (112, .iload_n 1, 1, 2, 0, 0, 0, 0, 0, 0), (113, .ireturn, 1, 21, 0, 0, 0, 0, 0, 0)])]
def ee_me9 : ee_me := (8, ⟨"PepperTables", "course", "()I"⟩, prog_1_method_14_code, 2, (some .int), ee_B9, 0, 0)
set_option maxRecDepth 100000 in
theorem ee_me9ok : ee_Mb ee_me9 = true := by decide +kernel
/- 10: PepperTables.dupe()I -/
def ee_B10 : List (Nat × List ee_en) := [(18, [(0, .iconst (-1), 1, 0, 0, 0, 0, 0, 0, 0), (1, .istore_n 1, 1, 4, 0, 0, 0, 0, 0, 0), (2, .iconst (-1), 1, 0, 0, 0, 0, 0, 0, 0), (3, .istore_n 2, 1, 4, 0, 0, 0, 0, 0, 0), (4, .iconst 0, 1, 0, 0, 0, 0, 0, 0, 0), (5, .istore_n 3, 1, 4, 0, 0, 0, 0, 0, 0), (6, .iload_n 3, 1, 2, 0, 0, 0, 0, 0, 0), (7, .aload_n 0, 1, 3, 0, 0, 0, 0, 0, 0), (8, .getfield 19, 3, 14, 1, 0, 0, 8, 1, 3), (11, .getfield 236, 3, 14, 13, 0, 0, 7, 0, 0), (14, .if_icmp .ge 49, 3, 12, 0, 0, 0, 0, 0, 0), (17, .aload_n 0, 1, 3, 0, 0, 0, 0, 0, 0)]), (44, [(18, .getfield 19, 3, 14, 1, 0, 0, 8, 1, 3), (21, .aload_n 0, 1, 3, 0, 0, 0, 0, 0, 0), (22, .getfield 26, 3, 14, 2, 0, 0, 8, 2, 3), (25, .aload_n 0, 1, 3, 0, 0, 0, 0, 0, 0), (26, .getfield 19, 3, 14, 1, 0, 0, 8, 1, 3), (29, .invokevirtual 126, 3, 23, 8, 0, 0, 140, 0, 1), (32, .aload_n 0, 1, 3, 0, 0, 0, 0, 0, 0), (33, .getfield 19, 3, 14, 1, 0, 0, 8, 1, 3), (36, .iload_n 3, 1, 2, 0, 0, 0, 0, 0, 0), (37, .invokevirtual 134, 3, 23, 25, 0, 0, 153, 0, 1), (40, .iand, 1, 7, 0, 0, 0, 0, 0, 0), (41, .invokevirtual 162, 3, 23, 9, 0, 0, 149, 0, 1)]), (65, [(44, .istore 4, 2, 4, 0, 0, 0, 0, 0, 0), (46, .iload 4, 2, 2, 0, 0, 0, 0, 0, 0), (48, .iload_n 2, 1, 2, 0, 0, 0, 0, 0, 0), (49, .if_icmp .le 8, 3, 12, 0, 0, 0, 0, 0, 0), (52, .iload_n 3, 1, 2, 0, 0, 0, 0, 0, 0), (53, .istore_n 1, 1, 4, 0, 0, 0, 0, 0, 0), (54, .iload 4, 2, 2, 0, 0, 0, 0, 0, 0), (56, .istore_n 2, 1, 4, 0, 0, 0, 0, 0, 0), (57, .iinc 3 1, 3, 6, 0, 0, 0, 0, 0, 0), (60, .goto (-54), 3, 0, 0, 0, 0, 0, 0, 0), (63, .iload_n 1, 1, 2, 0, 0, 0, 0, 0, 0), (64, .ireturn, 1, 21, 0, 0, 0, 0, 0, 0)])]
def ee_me10 : ee_me := (8, ⟨"PepperTables", "dupe", "()I"⟩, prog_1_method_39_code, 5, (some .int), ee_B10, 0, 0)
set_option maxRecDepth 100000 in
theorem ee_me10ok : ee_Mb ee_me10 = true := by decide +kernel
end
section
/- 11: PepperTables.end(I)I -/
def ee_B11 : List (Nat × List ee_en) := [(22, [(0, .iload_n 1, 1, 2, 0, 0, 0, 0, 0, 0), (1, .ifCond .lt 14, 3, 12, 0, 0, 0, 0, 0, 0), (4, .iload_n 1, 1, 2, 0, 0, 0, 0, 0, 0), (5, .aload_n 0, 1, 3, 0, 0, 0, 0, 0, 0), (6, .getfield 10, 3, 14, 0, 0, 0, 8, 0, 3), (9, .getfield 78, 3, 14, 23, 0, 0, 5, 0, 0), (12, .if_icmp .le 5, 3, 12, 0, 0, 0, 0, 0, 0), (15, .iconst (-1), 1, 0, 0, 0, 0, 0, 0, 0), (16, .ireturn, 1, 21, 0, 0, 0, 0, 0, 0), (17, .aload_n 0, 1, 3, 0, 0, 0, 0, 0, 0), (18, .getfield 10, 3, 14, 0, 0, 0, 8, 0, 3), (21, .iload_n 1, 1, 2, 0, 0, 0, 0, 0, 0)]), (27, [(22, .putfield 78, 3, 15, 23, 0, 0, 5, 0, 0), (25, .iload_n 1, 1, 2, 0, 0, 0, 0, 0, 0), (26, .ireturn, 1, 21, 0, 0, 0, 0, 0, 0)])]
def ee_me11 : ee_me := (8, ⟨"PepperTables", "end", "(I)I"⟩, prog_1_method_3_code, 2, (some .int), ee_B11, 0, 0)
set_option maxRecDepth 100000 in
theorem ee_me11ok : ee_Mb ee_me11 = true := by decide +kernel
/- 12: PepperTables.exchange(I)I -/
def ee_B12 : List (Nat × List ee_en) := [(20, [(0, .iload_n 1, 1, 2, 0, 0, 0, 0, 0, 0), (1, .ifCond .lt 8, 3, 12, 0, 0, 0, 0, 0, 0), (4, .iload_n 1, 1, 2, 0, 0, 0, 0, 0, 0), (5, .iconst 2, 1, 0, 0, 0, 0, 0, 0, 0), (6, .if_icmp .le 5, 3, 12, 0, 0, 0, 0, 0, 0), (9, .iconst (-1), 1, 0, 0, 0, 0, 0, 0, 0), (10, .ireturn, 1, 21, 0, 0, 0, 0, 0, 0), (11, .aload_n 0, 1, 3, 0, 0, 0, 0, 0, 0), (12, .getfield 36, 3, 14, 4, 0, 0, 8, 4, 3), (15, .aload_n 0, 1, 3, 0, 0, 0, 0, 0, 0), (16, .getfield 19, 3, 14, 1, 0, 0, 8, 1, 3), (19, .aload_n 0, 1, 3, 0, 0, 0, 0, 0, 0)]), (41, [(20, .getfield 26, 3, 14, 2, 0, 0, 8, 2, 3), (23, .invokevirtual 256, 3, 23, 26, 0, 0, 103, 0, 2), (26, .istore_n 2, 1, 4, 0, 0, 0, 0, 0, 0), (27, .iload_n 2, 1, 2, 0, 0, 0, 0, 0, 0), (28, .invokestatic 178, 3, 23, 21, 0, 0, 297, 1, 1), (31, .istore_n 3, 1, 4, 0, 0, 0, 0, 0, 0), (32, .iconst (-1), 1, 0, 0, 0, 0, 0, 0, 0), (33, .istore 4, 2, 4, 0, 0, 0, 0, 0, 0), (35, .iconst (-1), 1, 0, 0, 0, 0, 0, 0, 0), (36, .istore 5, 2, 4, 0, 0, 0, 0, 0, 0), (38, .iconst 0, 1, 0, 0, 0, 0, 0, 0, 0), (39, .istore 6, 2, 4, 0, 0, 0, 0, 0, 0)]), (65, [(41, .iload 6, 2, 2, 0, 0, 0, 0, 0, 0), (43, .aload_n 0, 1, 3, 0, 0, 0, 0, 0, 0), (44, .getfield 19, 3, 14, 1, 0, 0, 8, 1, 3), (47, .getfield 107, 3, 14, 12, 0, 0, 7, 2, 0), (50, .if_icmp .ge 61, 3, 12, 0, 0, 0, 0, 0, 0), (53, .iload 6, 2, 2, 0, 0, 0, 0, 0, 0), (55, .iconst 1, 1, 0, 0, 0, 0, 0, 0, 0), (56, .iadd, 1, 7, 0, 0, 0, 0, 0, 0), (57, .istore 7, 2, 4, 0, 0, 0, 0, 0, 0), (59, .iload 7, 2, 2, 0, 0, 0, 0, 0, 0), (61, .aload_n 0, 1, 3, 0, 0, 0, 0, 0, 0), (62, .getfield 19, 3, 14, 1, 0, 0, 8, 1, 3)]), (90, [(65, .getfield 107, 3, 14, 12, 0, 0, 7, 2, 0), (68, .if_icmp .ge 37, 3, 12, 0, 0, 0, 0, 0, 0), (71, .aload_n 0, 1, 3, 0, 0, 0, 0, 0, 0), (72, .iload 6, 2, 2, 0, 0, 0, 0, 0, 0), (74, .iload 7, 2, 2, 0, 0, 0, 0, 0, 0), (76, .iload_n 2, 1, 2, 0, 0, 0, 0, 0, 0), (77, .invokevirtual 271, 3, 23, 27, 0, 0, 55, 0, 3), (80, .istore 8, 2, 4, 0, 0, 0, 0, 0, 0), (82, .iload 8, 2, 2, 0, 0, 0, 0, 0, 0), (84, .iload_n 3, 1, 2, 0, 0, 0, 0, 0, 0), (85, .if_icmp .le 14, 3, 12, 0, 0, 0, 0, 0, 0), (88, .iload 6, 2, 2, 0, 0, 0, 0, 0, 0)]), (117, [(90, .istore 4, 2, 4, 0, 0, 0, 0, 0, 0), (92, .iload 7, 2, 2, 0, 0, 0, 0, 0, 0), (94, .istore 5, 2, 4, 0, 0, 0, 0, 0, 0), (96, .iload 8, 2, 2, 0, 0, 0, 0, 0, 0), (98, .istore_n 3, 1, 4, 0, 0, 0, 0, 0, 0), (99, .iinc 7 1, 3, 6, 0, 0, 0, 0, 0, 0), (102, .goto (-43), 3, 0, 0, 0, 0, 0, 0, 0), (105, .iinc 6 1, 3, 6, 0, 0, 0, 0, 0, 0), (108, .goto (-67), 3, 0, 0, 0, 0, 0, 0, 0), (111, .iload 4, 2, 2, 0, 0, 0, 0, 0, 0), (113, .iconst (-1), 1, 0, 0, 0, 0, 0, 0, 0), (114, .if_icmp .ne 5, 3, 12, 0, 0, 0, 0, 0, 0)]), (137, [(117, .iconst (-1), 1, 0, 0, 0, 0, 0, 0, 0), (118, .ireturn, 1, 21, 0, 0, 0, 0, 0, 0), (119, .iload_n 1, 1, 2, 0, 0, 0, 0, 0, 0), (120, .iconst 2, 1, 0, 0, 0, 0, 0, 0, 0), (121, .if_icmp .ne 5, 3, 12, 0, 0, 0, 0, 0, 0), (124, .iload_n 3, 1, 2, 0, 0, 0, 0, 0, 0), (125, .ireturn, 1, 21, 0, 0, 0, 0, 0, 0), (126, .iload_n 1, 1, 2, 0, 0, 0, 0, 0, 0), (127, .ifCond .ne 8, 3, 12, 0, 0, 0, 0, 0, 0), (130, .iload 4, 2, 2, 0, 0, 0, 0, 0, 0), (132, .goto 5, 3, 0, 0, 0, 0, 0, 0, 0), (135, .iload 5, 2, 2, 0, 0, 0, 0, 0, 0)]), (138, [(137, .ireturn, 1, 21, 0, 0, 0, 0, 0, 0)])]
def ee_me12 : ee_me := (8, ⟨"PepperTables", "exchange", "(I)I"⟩, prog_1_method_31_code, 9, (some .int), ee_B12, 0, 0)
set_option maxRecDepth 100000 in
theorem ee_me12ok : ee_Mb ee_me12 = true := by decide +kernel
/- 13: PepperTables.fault(I)I -/
def ee_B13 : List (Nat × List ee_en) := [(24, [(0, .iload_n 1, 1, 2, 0, 0, 0, 0, 0, 0), (1, .ifCond .ne 11, 3, 12, 0, 0, 0, 0, 0, 0), (4, .aload_n 0, 1, 3, 0, 0, 0, 0, 0, 0), (5, .getfield 10, 3, 14, 0, 0, 0, 8, 0, 3), (8, .getfield 110, 3, 14, 28, 0, 0, 5, 1, 0), (11, .ireturn, 1, 21, 0, 0, 0, 0, 0, 0), (12, .iload_n 1, 1, 2, 0, 0, 0, 0, 0, 0), (13, .iconst 1, 1, 0, 0, 0, 0, 0, 0, 0), (14, .if_icmp .ne 13, 3, 12, 0, 0, 0, 0, 0, 0), (17, .aload_n 0, 1, 3, 0, 0, 0, 0, 0, 0), (18, .getfield 10, 3, 14, 0, 0, 0, 8, 0, 3), (21, .getfield 113, 3, 14, 29, 0, 0, 5, 2, 0)]), (29, [(24, .goto 4, 3, 0, 0, 0, 0, 0, 0, 0), (27, .iconst (-1), 1, 0, 0, 0, 0, 0, 0, 0), (28, .ireturn, 1, 21, 0, 0, 0, 0, 0, 0)])]
def ee_me13 : ee_me := (8, ⟨"PepperTables", "fault", "(I)I"⟩, prog_1_method_5_code, 2, (some .int), ee_B13, 0, 0)
set_option maxRecDepth 100000 in
theorem ee_me13ok : ee_Mb ee_me13 = true := by decide +kernel
/- 14: PepperTables.feast(II)I -/
def ee_B14 : List (Nat × List ee_en) := [(24, [(0, .aload_n 0, 1, 3, 0, 0, 0, 0, 0, 0), (1, .getfield 57, 3, 14, 7, 0, 0, 8, 7, 3), (4, .iconst 0, 1, 0, 0, 0, 0, 0, 0, 0), (5, .putfield 103, 3, 15, 25, 0, 0, 3, 0, 0), (8, .aload_n 0, 1, 3, 0, 0, 0, 0, 0, 0), (9, .iload_n 1, 1, 2, 0, 0, 0, 0, 0, 0), (10, .invokevirtual 116, 3, 23, 28, 0, 0, 29, 0, 1), (13, .ifCond .eq 16, 3, 12, 0, 0, 0, 0, 0, 0), (16, .aload_n 0, 1, 3, 0, 0, 0, 0, 0, 0), (17, .iload_n 2, 1, 2, 0, 0, 0, 0, 0, 0), (18, .invokevirtual 116, 3, 23, 28, 0, 0, 29, 0, 1), (21, .ifCond .eq 8, 3, 12, 0, 0, 0, 0, 0, 0)]), (40, [(24, .iload_n 1, 1, 2, 0, 0, 0, 0, 0, 0), (25, .iload_n 2, 1, 2, 0, 0, 0, 0, 0, 0), (26, .if_icmp .ne 5, 3, 12, 0, 0, 0, 0, 0, 0), (29, .iconst (-1), 1, 0, 0, 0, 0, 0, 0, 0), (30, .ireturn, 1, 21, 0, 0, 0, 0, 0, 0), (31, .aload_n 0, 1, 3, 0, 0, 0, 0, 0, 0), (32, .iload_n 1, 1, 2, 0, 0, 0, 0, 0, 0), (33, .iload_n 2, 1, 2, 0, 0, 0, 0, 0, 0), (34, .invokevirtual 275, 3, 23, 29, 0, 0, 48, 0, 2), (37, .iconst 0, 1, 0, 0, 0, 0, 0, 0, 0), (38, .istore_n 3, 1, 4, 0, 0, 0, 0, 0, 0), (39, .iconst 0, 1, 0, 0, 0, 0, 0, 0, 0)]), (62, [(40, .istore 4, 2, 4, 0, 0, 0, 0, 0, 0), (42, .iload 4, 2, 2, 0, 0, 0, 0, 0, 0), (44, .iconst 4, 1, 0, 0, 0, 0, 0, 0, 0), (45, .if_icmp .ge 101, 3, 12, 0, 0, 0, 0, 0, 0), (48, .aload_n 0, 1, 3, 0, 0, 0, 0, 0, 0), (49, .getfield 72, 3, 14, 10, 0, 0, 8, 10, 3), (52, .iload 4, 2, 2, 0, 0, 0, 0, 0, 0), (54, .iaload, 1, 22, 0, 0, 0, 0, 0, 0), (55, .aload_n 0, 1, 3, 0, 0, 0, 0, 0, 0), (56, .getfield 72, 3, 14, 10, 0, 0, 8, 10, 3), (59, .iload 4, 2, 2, 0, 0, 0, 0, 0, 0), (61, .iconst 2, 1, 0, 0, 0, 0, 0, 0, 0)]), (82, [(62, .ixor, 1, 7, 0, 0, 0, 0, 0, 0), (63, .iaload, 1, 22, 0, 0, 0, 0, 0, 0), (64, .if_icmp .lt 7, 3, 12, 0, 0, 0, 0, 0, 0), (67, .iconst 1, 1, 0, 0, 0, 0, 0, 0, 0), (68, .goto 4, 3, 0, 0, 0, 0, 0, 0, 0), (71, .iconst 0, 1, 0, 0, 0, 0, 0, 0, 0), (72, .istore 5, 2, 4, 0, 0, 0, 0, 0, 0), (74, .aload_n 0, 1, 3, 0, 0, 0, 0, 0, 0), (75, .getfield 75, 3, 14, 11, 0, 0, 8, 11, 3), (78, .iload 4, 2, 2, 0, 0, 0, 0, 0, 0), (80, .iaload, 1, 22, 0, 0, 0, 0, 0, 0), (81, .aload_n 0, 1, 3, 0, 0, 0, 0, 0, 0)]), (105, [(82, .getfield 75, 3, 14, 11, 0, 0, 8, 11, 3), (85, .iload 4, 2, 2, 0, 0, 0, 0, 0, 0), (87, .iconst 1, 1, 0, 0, 0, 0, 0, 0, 0), (88, .ixor, 1, 7, 0, 0, 0, 0, 0, 0), (89, .iaload, 1, 22, 0, 0, 0, 0, 0, 0), (90, .if_icmp .lt 7, 3, 12, 0, 0, 0, 0, 0, 0), (93, .iconst 1, 1, 0, 0, 0, 0, 0, 0, 0), (94, .goto 4, 3, 0, 0, 0, 0, 0, 0, 0), (97, .iconst 0, 1, 0, 0, 0, 0, 0, 0, 0), (98, .istore 6, 2, 4, 0, 0, 0, 0, 0, 0), (100, .iload 5, 2, 2, 0, 0, 0, 0, 0, 0), (102, .ifCond .eq 38, 3, 12, 0, 0, 0, 0, 0, 0)]), (129, [(105, .iload 6, 2, 2, 0, 0, 0, 0, 0, 0), (107, .ifCond .eq 33, 3, 12, 0, 0, 0, 0, 0, 0), (110, .iinc 3 1, 3, 6, 0, 0, 0, 0, 0, 0), (113, .iload_n 3, 1, 2, 0, 0, 0, 0, 0, 0), (114, .iconst 1, 1, 0, 0, 0, 0, 0, 0, 0), (115, .if_icmp .ne 25, 3, 12, 0, 0, 0, 0, 0, 0), (118, .aload_n 0, 1, 3, 0, 0, 0, 0, 0, 0), (119, .getfield 57, 3, 14, 7, 0, 0, 8, 7, 3), (122, .iload 4, 2, 2, 0, 0, 0, 0, 0, 0), (124, .iconst 1, 1, 0, 0, 0, 0, 0, 0, 0), (125, .ishr, 1, 7, 0, 0, 0, 0, 0, 0), (126, .invokevirtual 278, 3, 23, 30, 0, 0, 94, 0, 1)]), (148, [(129, .aload_n 0, 1, 3, 0, 0, 0, 0, 0, 0), (130, .getfield 57, 3, 14, 7, 0, 0, 8, 7, 3), (133, .iload 4, 2, 2, 0, 0, 0, 0, 0, 0), (135, .iconst 1, 1, 0, 0, 0, 0, 0, 0, 0), (136, .iand, 1, 7, 0, 0, 0, 0, 0, 0), (137, .invokevirtual 278, 3, 23, 30, 0, 0, 94, 0, 1), (140, .iinc 4 1, 3, 6, 0, 0, 0, 0, 0, 0), (143, .goto (-101), 3, 0, 0, 0, 0, 0, 0, 0), (146, .iload_n 3, 1, 2, 0, 0, 0, 0, 0, 0), (147, .ireturn, 1, 21, 0, 0, 0, 0, 0, 0)])]
def ee_me14 : ee_me := (8, ⟨"PepperTables", "feast", "(II)I"⟩, prog_1_method_34_code, 7, (some .int), ee_B14, 0, 0)
set_option maxRecDepth 100000 in
theorem ee_me14ok : ee_Mb ee_me14 = true := by decide +kernel
/- 15: PepperTables.feed(IIIII)I -/
def ee_B15 : List (Nat × List ee_en) := [(23, [(0, .aload_n 0, 1, 3, 0, 0, 0, 0, 0, 0), (1, .getfield 10, 3, 14, 0, 0, 0, 8, 0, 3), (4, .getfield 78, 3, 14, 23, 0, 0, 5, 0, 0), (7, .bipush 20, 2, 0, 0, 0, 0, 0, 0, 0), (9, .iadd, 1, 7, 0, 0, 0, 0, 0, 0), (10, .sipush 1600, 3, 0, 0, 0, 0, 0, 0, 0), (13, .if_icmp .le 5, 3, 12, 0, 0, 0, 0, 0, 0), (16, .iconst (-1), 1, 0, 0, 0, 0, 0, 0, 0), (17, .ireturn, 1, 21, 0, 0, 0, 0, 0, 0), (18, .aload_n 0, 1, 3, 0, 0, 0, 0, 0, 0), (19, .getfield 10, 3, 14, 0, 0, 0, 8, 0, 3), (22, .iload_n 1, 1, 2, 0, 0, 0, 0, 0, 0)]), (48, [(23, .invokevirtual 82, 3, 23, 31, 0, 0, 111, 0, 1), (26, .aload_n 0, 1, 3, 0, 0, 0, 0, 0, 0), (27, .getfield 10, 3, 14, 0, 0, 0, 8, 0, 3), (30, .iload_n 2, 1, 2, 0, 0, 0, 0, 0, 0), (31, .invokevirtual 82, 3, 23, 31, 0, 0, 111, 0, 1), (34, .aload_n 0, 1, 3, 0, 0, 0, 0, 0, 0), (35, .getfield 10, 3, 14, 0, 0, 0, 8, 0, 3), (38, .iload_n 3, 1, 2, 0, 0, 0, 0, 0, 0), (39, .invokevirtual 82, 3, 23, 31, 0, 0, 111, 0, 1), (42, .aload_n 0, 1, 3, 0, 0, 0, 0, 0, 0), (43, .getfield 10, 3, 14, 0, 0, 0, 8, 0, 3), (46, .iload 4, 2, 2, 0, 0, 0, 0, 0, 0)]), (68, [(48, .invokevirtual 82, 3, 23, 31, 0, 0, 111, 0, 1), (51, .aload_n 0, 1, 3, 0, 0, 0, 0, 0, 0), (52, .getfield 10, 3, 14, 0, 0, 0, 8, 0, 3), (55, .iload 5, 2, 2, 0, 0, 0, 0, 0, 0), (57, .invokevirtual 82, 3, 23, 31, 0, 0, 111, 0, 1), (60, .aload_n 0, 1, 3, 0, 0, 0, 0, 0, 0), (61, .getfield 10, 3, 14, 0, 0, 0, 8, 0, 3), (64, .getfield 78, 3, 14, 23, 0, 0, 5, 0, 0), (67, .ireturn, 1, 21, 0, 0, 0, 0, 0, 0)])]
def ee_me15 : ee_me := (8, ⟨"PepperTables", "feed", "(IIIII)I"⟩, prog_1_method_2_code, 6, (some .int), ee_B15, 0, 0)
set_option maxRecDepth 100000 in
theorem ee_me15ok : ee_Mb ee_me15 = true := by decide +kernel
/- 16: PepperTables.fewest(I)I -/
def ee_B16 : List (Nat × List ee_en) := [(20, [(0, .iconst 0, 1, 0, 0, 0, 0, 0, 0, 0), (1, .istore_n 2, 1, 4, 0, 0, 0, 0, 0, 0), (2, .iconst 0, 1, 0, 0, 0, 0, 0, 0, 0), (3, .istore_n 3, 1, 4, 0, 0, 0, 0, 0, 0), (4, .iconst 0, 1, 0, 0, 0, 0, 0, 0, 0), (5, .istore 4, 2, 4, 0, 0, 0, 0, 0, 0), (7, .iload 4, 2, 2, 0, 0, 0, 0, 0, 0), (9, .aload_n 0, 1, 3, 0, 0, 0, 0, 0, 0), (10, .getfield 19, 3, 14, 1, 0, 0, 8, 1, 3), (13, .getfield 233, 3, 14, 14, 0, 0, 7, 1, 0), (16, .if_icmp .ge 45, 3, 12, 0, 0, 0, 0, 0, 0), (19, .aload_n 0, 1, 3, 0, 0, 0, 0, 0, 0)]), (43, [(20, .getfield 36, 3, 14, 4, 0, 0, 8, 4, 3), (23, .aload_n 0, 1, 3, 0, 0, 0, 0, 0, 0), (24, .getfield 19, 3, 14, 1, 0, 0, 8, 1, 3), (27, .aload_n 0, 1, 3, 0, 0, 0, 0, 0, 0), (28, .getfield 26, 3, 14, 2, 0, 0, 8, 2, 3), (31, .iload 4, 2, 2, 0, 0, 0, 0, 0, 0), (33, .invokevirtual 168, 3, 23, 20, 0, 0, 101, 0, 3), (36, .istore 5, 2, 4, 0, 0, 0, 0, 0, 0), (38, .iload_n 3, 1, 2, 0, 0, 0, 0, 0, 0), (39, .iload 5, 2, 2, 0, 0, 0, 0, 0, 0), (41, .ior, 1, 7, 0, 0, 0, 0, 0, 0), (42, .istore_n 3, 1, 4, 0, 0, 0, 0, 0, 0)]), (88, [(43, .iload 5, 2, 2, 0, 0, 0, 0, 0, 0), (45, .ifCond .eq 10, 3, 12, 0, 0, 0, 0, 0, 0), (48, .iload_n 2, 1, 2, 0, 0, 0, 0, 0, 0), (49, .iconst 1, 1, 0, 0, 0, 0, 0, 0, 0), (50, .iload 4, 2, 2, 0, 0, 0, 0, 0, 0), (52, .ishl, 1, 7, 0, 0, 0, 0, 0, 0), (53, .ior, 1, 7, 0, 0, 0, 0, 0, 0), (54, .istore_n 2, 1, 4, 0, 0, 0, 0, 0, 0), (55, .iinc 4 1, 3, 6, 0, 0, 0, 0, 0, 0), (58, .goto (-51), 3, 0, 0, 0, 0, 0, 0, 0), (61, .iload_n 1, 1, 2, 0, 0, 0, 0, 0, 0), (62, .tableswitch 35 0 2 #[26, 31, 33], 26, 13, 0, 0, 0, 0, 0, 0)]), (99, [(88, .iload_n 2, 1, 2, 0, 0, 0, 0, 0, 0), (89, .invokestatic 178, 3, 23, 21, 0, 0, 297, 1, 1), (92, .ireturn, 1, 21, 0, 0, 0, 0, 0, 0), (93, .iload_n 2, 1, 2, 0, 0, 0, 0, 0, 0), (94, .ireturn, 1, 21, 0, 0, 0, 0, 0, 0), (95, .iload_n 3, 1, 2, 0, 0, 0, 0, 0, 0), (96, .ireturn, 1, 21, 0, 0, 0, 0, 0, 0), (97, .iconst (-1), 1, 0, 0, 0, 0, 0, 0, 0), (98, .ireturn, 1, 21, 0, 0, 0, 0, 0, 0)])]
def ee_me16 : ee_me := (8, ⟨"PepperTables", "fewest", "(I)I"⟩, prog_1_method_23_code, 6, (some .int), ee_B16, 0, 0)
set_option maxRecDepth 100000 in
theorem ee_me16ok : ee_Mb ee_me16 = true := by decide +kernel
/- 17: PepperTables.gain(I)I -/
def ee_B17 : List (Nat × List ee_en) := [(22, [(0, .aload_n 0, 1, 3, 0, 0, 0, 0, 0, 0), (1, .iload_n 1, 1, 2, 0, 0, 0, 0, 0, 0), (2, .invokevirtual 116, 3, 23, 28, 0, 0, 29, 0, 1), (5, .ifCond .ne 5, 3, 12, 0, 0, 0, 0, 0, 0), (8, .iconst (-1), 1, 0, 0, 0, 0, 0, 0, 0), (9, .ireturn, 1, 21, 0, 0, 0, 0, 0, 0), (10, .aload_n 0, 1, 3, 0, 0, 0, 0, 0, 0), (11, .getfield 30, 3, 14, 3, 0, 0, 8, 3, 3), (14, .aload_n 0, 1, 3, 0, 0, 0, 0, 0, 0), (15, .getfield 26, 3, 14, 2, 0, 0, 8, 2, 3), (18, .invokevirtual 253, 3, 23, 12, 0, 0, 139, 0, 1), (21, .aload_n 0, 1, 3, 0, 0, 0, 0, 0, 0)]), (44, [(22, .getfield 30, 3, 14, 3, 0, 0, 8, 3, 3), (25, .dup, 1, 11, 0, 0, 0, 0, 0, 0), (26, .getfield 123, 3, 14, 15, 0, 0, 6, 0, 0), (29, .iconst 1, 1, 0, 0, 0, 0, 0, 0, 0), (30, .iload_n 1, 1, 2, 0, 0, 0, 0, 0, 0), (31, .ishl, 1, 7, 0, 0, 0, 0, 0, 0), (32, .ior, 1, 7, 0, 0, 0, 0, 0, 0), (33, .putfield 123, 3, 15, 15, 0, 0, 6, 0, 0), (36, .aload_n 0, 1, 3, 0, 0, 0, 0, 0, 0), (37, .getfield 19, 3, 14, 1, 0, 0, 8, 1, 3), (40, .aload_n 0, 1, 3, 0, 0, 0, 0, 0, 0), (41, .getfield 36, 3, 14, 4, 0, 0, 8, 4, 3)]), (68, [(44, .aload_n 0, 1, 3, 0, 0, 0, 0, 0, 0), (45, .getfield 19, 3, 14, 1, 0, 0, 8, 1, 3), (48, .aload_n 0, 1, 3, 0, 0, 0, 0, 0, 0), (49, .getfield 30, 3, 14, 3, 0, 0, 8, 3, 3), (52, .invokevirtual 256, 3, 23, 26, 0, 0, 103, 0, 2), (55, .aload_n 0, 1, 3, 0, 0, 0, 0, 0, 0), (56, .getfield 19, 3, 14, 1, 0, 0, 8, 1, 3), (59, .iload_n 1, 1, 2, 0, 0, 0, 0, 0, 0), (60, .invokevirtual 134, 3, 23, 25, 0, 0, 153, 0, 1), (63, .iand, 1, 7, 0, 0, 0, 0, 0, 0), (64, .invokevirtual 162, 3, 23, 9, 0, 0, 149, 0, 1), (67, .ireturn, 1, 21, 0, 0, 0, 0, 0, 0)])]
def ee_me17 : ee_me := (8, ⟨"PepperTables", "gain", "(I)I"⟩, prog_1_method_33_code, 2, (some .int), ee_B17, 0, 0)
set_option maxRecDepth 100000 in
theorem ee_me17ok : ee_Mb ee_me17 = true := by decide +kernel
/- 18: PepperTables.gainOf(II)I -/
def ee_B18 : List (Nat × List ee_en) := [(22, [(0, .aload_n 0, 1, 3, 0, 0, 0, 0, 0, 0), (1, .getfield 19, 3, 14, 1, 0, 0, 8, 1, 3), (4, .iload_n 2, 1, 2, 0, 0, 0, 0, 0, 0), (5, .aload_n 0, 1, 3, 0, 0, 0, 0, 0, 0), (6, .getfield 19, 3, 14, 1, 0, 0, 8, 1, 3), (9, .iload_n 1, 1, 2, 0, 0, 0, 0, 0, 0), (10, .invokevirtual 134, 3, 23, 25, 0, 0, 153, 0, 1), (13, .iand, 1, 7, 0, 0, 0, 0, 0, 0), (14, .invokevirtual 162, 3, 23, 9, 0, 0, 149, 0, 1), (17, .aload_n 0, 1, 3, 0, 0, 0, 0, 0, 0), (18, .getfield 19, 3, 14, 1, 0, 0, 8, 1, 3), (21, .iload_n 2, 1, 2, 0, 0, 0, 0, 0, 0)]), (36, [(22, .aload_n 0, 1, 3, 0, 0, 0, 0, 0, 0), (23, .getfield 19, 3, 14, 1, 0, 0, 8, 1, 3), (26, .iload_n 1, 1, 2, 0, 0, 0, 0, 0, 0), (27, .invokevirtual 130, 3, 23, 22, 0, 0, 152, 0, 1), (30, .iand, 1, 7, 0, 0, 0, 0, 0, 0), (31, .invokevirtual 162, 3, 23, 9, 0, 0, 149, 0, 1), (34, .isub, 1, 7, 0, 0, 0, 0, 0, 0), (35, .ireturn, 1, 21, 0, 0, 0, 0, 0, 0)])]
def ee_me18 : ee_me := (8, ⟨"PepperTables", "gainOf", "(II)I"⟩, prog_1_method_71_code, 3, (some .int), ee_B18, 0, 0)
set_option maxRecDepth 100000 in
theorem ee_me18ok : ee_Mb ee_me18 = true := by decide +kernel
/- 19: PepperTables.grind(I)I -/
def ee_B19 : List (Nat × List ee_en) := [(22, [(0, .aload_n 0, 1, 3, 0, 0, 0, 0, 0, 0), (1, .iload_n 1, 1, 2, 0, 0, 0, 0, 0, 0), (2, .invokevirtual 155, 3, 23, 11, 0, 0, 30, 0, 1), (5, .ifCond .ne 5, 3, 12, 0, 0, 0, 0, 0, 0), (8, .iconst (-1), 1, 0, 0, 0, 0, 0, 0, 0), (9, .ireturn, 1, 21, 0, 0, 0, 0, 0, 0), (10, .aload_n 0, 1, 3, 0, 0, 0, 0, 0, 0), (11, .getfield 36, 3, 14, 4, 0, 0, 8, 4, 3), (14, .aload_n 0, 1, 3, 0, 0, 0, 0, 0, 0), (15, .getfield 19, 3, 14, 1, 0, 0, 8, 1, 3), (18, .aload_n 0, 1, 3, 0, 0, 0, 0, 0, 0), (19, .getfield 26, 3, 14, 2, 0, 0, 8, 2, 3)]), (40, [(22, .iload_n 1, 1, 2, 0, 0, 0, 0, 0, 0), (23, .invokevirtual 183, 3, 23, 13, 0, 0, 109, 0, 3), (26, .istore_n 2, 1, 4, 0, 0, 0, 0, 0, 0), (27, .aload_n 0, 1, 3, 0, 0, 0, 0, 0, 0), (28, .getfield 43, 3, 14, 5, 0, 0, 8, 5, 3), (31, .aload_n 0, 1, 3, 0, 0, 0, 0, 0, 0), (32, .getfield 26, 3, 14, 2, 0, 0, 8, 2, 3), (35, .invokevirtual 175, 3, 23, 24, 0, 0, 75, 0, 1), (38, .iload_n 2, 1, 2, 0, 0, 0, 0, 0, 0), (39, .ireturn, 1, 21, 0, 0, 0, 0, 0, 0)])]
def ee_me19 : ee_me := (8, ⟨"PepperTables", "grind", "(I)I"⟩, prog_1_method_12_code, 3, (some .int), ee_B19, 0, 0)
set_option maxRecDepth 100000 in
theorem ee_me19ok : ee_Mb ee_me19 = true := by decide +kernel
/- 20: PepperTables.heard(IIZ)I -/
def ee_B20 : List (Nat × List ee_en) := [(25, [(0, .aload_n 0, 1, 3, 0, 0, 0, 0, 0, 0), (1, .iload_n 1, 1, 2, 0, 0, 0, 0, 0, 0), (2, .invokevirtual 155, 3, 23, 11, 0, 0, 30, 0, 1), (5, .ifCond .eq 23, 3, 12, 0, 0, 0, 0, 0, 0), (8, .iload_n 2, 1, 2, 0, 0, 0, 0, 0, 0), (9, .ifCond .lt 19, 3, 12, 0, 0, 0, 0, 0, 0), (12, .iload_n 2, 1, 2, 0, 0, 0, 0, 0, 0), (13, .bipush 10, 2, 0, 0, 0, 0, 0, 0, 0), (15, .if_icmp .gt 13, 3, 12, 0, 0, 0, 0, 0, 0), (18, .aload_n 0, 1, 3, 0, 0, 0, 0, 0, 0), (19, .getfield 19, 3, 14, 1, 0, 0, 8, 1, 3), (22, .getfield 107, 3, 14, 12, 0, 0, 7, 2, 0)]), (41, [(25, .ifCond .ne 5, 3, 12, 0, 0, 0, 0, 0, 0), (28, .iconst (-1), 1, 0, 0, 0, 0, 0, 0, 0), (29, .ireturn, 1, 21, 0, 0, 0, 0, 0, 0), (30, .aload_n 0, 1, 3, 0, 0, 0, 0, 0, 0), (31, .getfield 64, 3, 14, 8, 0, 0, 8, 8, 3), (34, .iload_n 1, 1, 2, 0, 0, 0, 0, 0, 0), (35, .iload_n 2, 1, 2, 0, 0, 0, 0, 0, 0), (36, .iload_n 3, 1, 2, 0, 0, 0, 0, 0, 0), (37, .invokevirtual 297, 3, 23, 32, 0, 0, 92, 0, 3), (40, .ireturn, 1, 21, 0, 0, 0, 0, 0, 0)])]
def ee_me20 : ee_me := (8, ⟨"PepperTables", "heard", "(IIZ)I"⟩, prog_1_method_48_code, 4, (some .int), ee_B20, 0, 0)
set_option maxRecDepth 100000 in
theorem ee_me20ok : ee_Mb ee_me20 = true := by decide +kernel
/- 21: PepperTables.hide(II)I -/
def ee_B21 : List (Nat × List ee_en) := [(21, [(0, .aload_n 0, 1, 3, 0, 0, 0, 0, 0, 0), (1, .iload_n 1, 1, 2, 0, 0, 0, 0, 0, 0), (2, .invokevirtual 186, 3, 23, 10, 0, 0, 28, 0, 1), (5, .ifCond .eq 10, 3, 12, 0, 0, 0, 0, 0, 0), (8, .iload_n 2, 1, 2, 0, 0, 0, 0, 0, 0), (9, .invokestatic 209, 3, 23, 14, 0, 0, 27, 1, 1), (12, .ifCond .ne 5, 3, 12, 0, 0, 0, 0, 0, 0), (15, .iconst (-1), 1, 0, 0, 0, 0, 0, 0, 0), (16, .ireturn, 1, 21, 0, 0, 0, 0, 0, 0), (17, .iconst (-1), 1, 0, 0, 0, 0, 0, 0, 0), (18, .istore_n 3, 1, 4, 0, 0, 0, 0, 0, 0), (19, .bipush 11, 2, 0, 0, 0, 0, 0, 0, 0)]), (46, [(21, .istore 4, 2, 4, 0, 0, 0, 0, 0, 0), (23, .iconst 0, 1, 0, 0, 0, 0, 0, 0, 0), (24, .istore 5, 2, 4, 0, 0, 0, 0, 0, 0), (26, .iload 5, 2, 2, 0, 0, 0, 0, 0, 0), (28, .aload_n 0, 1, 3, 0, 0, 0, 0, 0, 0), (29, .getfield 19, 3, 14, 1, 0, 0, 8, 1, 3), (32, .getfield 233, 3, 14, 14, 0, 0, 7, 1, 0), (35, .if_icmp .ge 80, 3, 12, 0, 0, 0, 0, 0, 0), (38, .aload_n 0, 1, 3, 0, 0, 0, 0, 0, 0), (39, .getfield 30, 3, 14, 3, 0, 0, 8, 3, 3), (42, .aload_n 0, 1, 3, 0, 0, 0, 0, 0, 0), (43, .getfield 26, 3, 14, 2, 0, 0, 8, 2, 3)]), (69, [(46, .invokevirtual 253, 3, 23, 12, 0, 0, 139, 0, 1), (49, .aload_n 0, 1, 3, 0, 0, 0, 0, 0, 0), (50, .getfield 30, 3, 14, 3, 0, 0, 8, 3, 3), (53, .getfield 152, 3, 14, 27, 0, 0, 6, 4, 3), (56, .iload_n 1, 1, 2, 0, 0, 0, 0, 0, 0), (57, .iload 5, 2, 2, 0, 0, 0, 0, 0, 0), (59, .iastore, 1, 17, 0, 0, 0, 0, 0, 0), (60, .aload_n 0, 1, 3, 0, 0, 0, 0, 0, 0), (61, .getfield 36, 3, 14, 4, 0, 0, 8, 4, 3), (64, .aload_n 0, 1, 3, 0, 0, 0, 0, 0, 0), (65, .getfield 19, 3, 14, 1, 0, 0, 8, 1, 3), (68, .aload_n 0, 1, 3, 0, 0, 0, 0, 0, 0)]), (92, [(69, .getfield 30, 3, 14, 3, 0, 0, 8, 3, 3), (72, .iload 5, 2, 2, 0, 0, 0, 0, 0, 0), (74, .invokevirtual 168, 3, 23, 20, 0, 0, 101, 0, 3), (77, .istore 6, 2, 4, 0, 0, 0, 0, 0, 0), (79, .iload 6, 2, 2, 0, 0, 0, 0, 0, 0), (81, .invokestatic 178, 3, 23, 21, 0, 0, 297, 1, 1), (84, .istore 7, 2, 4, 0, 0, 0, 0, 0, 0), (86, .iload 6, 2, 2, 0, 0, 0, 0, 0, 0), (88, .iload_n 1, 1, 2, 0, 0, 0, 0, 0, 0), (89, .ishr, 1, 7, 0, 0, 0, 0, 0, 0), (90, .iconst 1, 1, 0, 0, 0, 0, 0, 0, 0), (91, .iand, 1, 7, 0, 0, 0, 0, 0, 0)]), (117, [(92, .ifCond .ne 17, 3, 12, 0, 0, 0, 0, 0, 0), (95, .iload 7, 2, 2, 0, 0, 0, 0, 0, 0), (97, .iload 4, 2, 2, 0, 0, 0, 0, 0, 0), (99, .if_icmp .ge 10, 3, 12, 0, 0, 0, 0, 0, 0), (102, .iload 5, 2, 2, 0, 0, 0, 0, 0, 0), (104, .istore_n 3, 1, 4, 0, 0, 0, 0, 0, 0), (105, .iload 7, 2, 2, 0, 0, 0, 0, 0, 0), (107, .istore 4, 2, 4, 0, 0, 0, 0, 0, 0), (109, .iinc 5 1, 3, 6, 0, 0, 0, 0, 0, 0), (112, .goto (-86), 3, 0, 0, 0, 0, 0, 0, 0), (115, .iload_n 3, 1, 2, 0, 0, 0, 0, 0, 0), (116, .iconst (-1), 1, 0, 0, 0, 0, 0, 0, 0)]), (133, [(117, .if_icmp .ne 5, 3, 12, 0, 0, 0, 0, 0, 0), (120, .iconst (-1), 1, 0, 0, 0, 0, 0, 0, 0), (121, .ireturn, 1, 21, 0, 0, 0, 0, 0, 0), (122, .iload_n 2, 1, 2, 0, 0, 0, 0, 0, 0), (123, .ifCond .ne 7, 3, 12, 0, 0, 0, 0, 0, 0), (126, .iload_n 3, 1, 2, 0, 0, 0, 0, 0, 0), (127, .goto 5, 3, 0, 0, 0, 0, 0, 0, 0), (130, .iload 4, 2, 2, 0, 0, 0, 0, 0, 0), (132, .ireturn, 1, 21, 0, 0, 0, 0, 0, 0)])]
def ee_me21 : ee_me := (8, ⟨"PepperTables", "hide", "(II)I"⟩, prog_1_method_28_code, 8, (some .int), ee_B21, 0, 0)
set_option maxRecDepth 100000 in
theorem ee_me21ok : ee_Mb ee_me21 = true := by decide +kernel
/- 22: PepperTables.hottest()I -/
def ee_B22 : List (Nat × List ee_en) := [(18, [(0, .iconst (-1), 1, 0, 0, 0, 0, 0, 0, 0), (1, .istore_n 1, 1, 4, 0, 0, 0, 0, 0, 0), (2, .iconst (-1), 1, 0, 0, 0, 0, 0, 0, 0), (3, .istore_n 2, 1, 4, 0, 0, 0, 0, 0, 0), (4, .iconst 0, 1, 0, 0, 0, 0, 0, 0, 0), (5, .istore_n 3, 1, 4, 0, 0, 0, 0, 0, 0), (6, .iload_n 3, 1, 2, 0, 0, 0, 0, 0, 0), (7, .aload_n 0, 1, 3, 0, 0, 0, 0, 0, 0), (8, .getfield 19, 3, 14, 1, 0, 0, 8, 1, 3), (11, .getfield 233, 3, 14, 14, 0, 0, 7, 1, 0), (14, .if_icmp .ge 41, 3, 12, 0, 0, 0, 0, 0, 0), (17, .aload_n 0, 1, 3, 0, 0, 0, 0, 0, 0)]), (44, [(18, .getfield 19, 3, 14, 1, 0, 0, 8, 1, 3), (21, .aload_n 0, 1, 3, 0, 0, 0, 0, 0, 0), (22, .getfield 26, 3, 14, 2, 0, 0, 8, 2, 3), (25, .aload_n 0, 1, 3, 0, 0, 0, 0, 0, 0), (26, .getfield 19, 3, 14, 1, 0, 0, 8, 1, 3), (29, .iload_n 3, 1, 2, 0, 0, 0, 0, 0, 0), (30, .invokevirtual 158, 3, 23, 19, 0, 0, 141, 0, 2), (33, .invokevirtual 162, 3, 23, 9, 0, 0, 149, 0, 1), (36, .istore 4, 2, 4, 0, 0, 0, 0, 0, 0), (38, .iload 4, 2, 2, 0, 0, 0, 0, 0, 0), (40, .iload_n 2, 1, 2, 0, 0, 0, 0, 0, 0), (41, .if_icmp .le 8, 3, 12, 0, 0, 0, 0, 0, 0)]), (57, [(44, .iload_n 3, 1, 2, 0, 0, 0, 0, 0, 0), (45, .istore_n 1, 1, 4, 0, 0, 0, 0, 0, 0), (46, .iload 4, 2, 2, 0, 0, 0, 0, 0, 0), (48, .istore_n 2, 1, 4, 0, 0, 0, 0, 0, 0), (49, .iinc 3 1, 3, 6, 0, 0, 0, 0, 0, 0), (52, .goto (-46), 3, 0, 0, 0, 0, 0, 0, 0), (55, .iload_n 1, 1, 2, 0, 0, 0, 0, 0, 0), (56, .ireturn, 1, 21, 0, 0, 0, 0, 0, 0)])]
def ee_me22 : ee_me := (8, ⟨"PepperTables", "hottest", "()I"⟩, prog_1_method_42_code, 5, (some .int), ee_B22, 0, 0)
set_option maxRecDepth 100000 in
theorem ee_me22ok : ee_Mb ee_me22 = true := by decide +kernel
end
section
/- 23: PepperTables.hottestKeeper(I)I -/
def ee_B23 : List (Nat × List ee_en) := [(20, [(0, .iconst (-1), 1, 0, 0, 0, 0, 0, 0, 0), (1, .istore_n 2, 1, 4, 0, 0, 0, 0, 0, 0), (2, .iconst (-1), 1, 0, 0, 0, 0, 0, 0, 0), (3, .istore_n 3, 1, 4, 0, 0, 0, 0, 0, 0), (4, .iconst 0, 1, 0, 0, 0, 0, 0, 0, 0), (5, .istore 4, 2, 4, 0, 0, 0, 0, 0, 0), (7, .iload 4, 2, 2, 0, 0, 0, 0, 0, 0), (9, .aload_n 0, 1, 3, 0, 0, 0, 0, 0, 0), (10, .getfield 19, 3, 14, 1, 0, 0, 8, 1, 3), (13, .getfield 236, 3, 14, 13, 0, 0, 7, 0, 0), (16, .if_icmp .ge 60, 3, 12, 0, 0, 0, 0, 0, 0), (19, .aload_n 0, 1, 3, 0, 0, 0, 0, 0, 0)]), (47, [(20, .getfield 19, 3, 14, 1, 0, 0, 8, 1, 3), (23, .aload_n 0, 1, 3, 0, 0, 0, 0, 0, 0), (24, .getfield 26, 3, 14, 2, 0, 0, 8, 2, 3), (27, .aload_n 0, 1, 3, 0, 0, 0, 0, 0, 0), (28, .getfield 19, 3, 14, 1, 0, 0, 8, 1, 3), (31, .invokevirtual 126, 3, 23, 8, 0, 0, 140, 0, 1), (34, .aload_n 0, 1, 3, 0, 0, 0, 0, 0, 0), (35, .getfield 19, 3, 14, 1, 0, 0, 8, 1, 3), (38, .iload 4, 2, 2, 0, 0, 0, 0, 0, 0), (40, .invokevirtual 130, 3, 23, 22, 0, 0, 152, 0, 1), (43, .iand, 1, 7, 0, 0, 0, 0, 0, 0), (44, .invokevirtual 162, 3, 23, 9, 0, 0, 149, 0, 1)]), (67, [(47, .istore 5, 2, 4, 0, 0, 0, 0, 0, 0), (49, .iload_n 1, 1, 2, 0, 0, 0, 0, 0, 0), (50, .iload 4, 2, 2, 0, 0, 0, 0, 0, 0), (52, .ishr, 1, 7, 0, 0, 0, 0, 0, 0), (53, .iconst 1, 1, 0, 0, 0, 0, 0, 0, 0), (54, .iand, 1, 7, 0, 0, 0, 0, 0, 0), (55, .ifCond .ne 15, 3, 12, 0, 0, 0, 0, 0, 0), (58, .iload 5, 2, 2, 0, 0, 0, 0, 0, 0), (60, .iload_n 3, 1, 2, 0, 0, 0, 0, 0, 0), (61, .if_icmp .le 9, 3, 12, 0, 0, 0, 0, 0, 0), (64, .iload 4, 2, 2, 0, 0, 0, 0, 0, 0), (66, .istore_n 2, 1, 4, 0, 0, 0, 0, 0, 0)]), (78, [(67, .iload 5, 2, 2, 0, 0, 0, 0, 0, 0), (69, .istore_n 3, 1, 4, 0, 0, 0, 0, 0, 0), (70, .iinc 4 1, 3, 6, 0, 0, 0, 0, 0, 0), (73, .goto (-66), 3, 0, 0, 0, 0, 0, 0, 0), (76, .iload_n 2, 1, 2, 0, 0, 0, 0, 0, 0), (77, .ireturn, 1, 21, 0, 0, 0, 0, 0, 0)])]
def ee_me23 : ee_me := (8, ⟨"PepperTables", "hottestKeeper", "(I)I"⟩, prog_1_method_72_code, 6, (some .int), ee_B23, 0, 0)
set_option maxRecDepth 100000 in
theorem ee_me23ok : ee_Mb ee_me23 = true := by decide +kernel
/- 24: PepperTables.idle()I -/
def ee_B24 : List (Nat × List ee_en) := [(20, [(0, .iconst 0, 1, 0, 0, 0, 0, 0, 0, 0), (1, .istore_n 1, 1, 4, 0, 0, 0, 0, 0, 0), (2, .iconst 0, 1, 0, 0, 0, 0, 0, 0, 0), (3, .istore_n 2, 1, 4, 0, 0, 0, 0, 0, 0), (4, .iload_n 2, 1, 2, 0, 0, 0, 0, 0, 0), (5, .aload_n 0, 1, 3, 0, 0, 0, 0, 0, 0), (6, .getfield 19, 3, 14, 1, 0, 0, 8, 1, 3), (9, .getfield 233, 3, 14, 14, 0, 0, 7, 1, 0), (12, .if_icmp .ge 34, 3, 12, 0, 0, 0, 0, 0, 0), (15, .aload_n 0, 1, 3, 0, 0, 0, 0, 0, 0), (16, .getfield 36, 3, 14, 4, 0, 0, 8, 4, 3), (19, .aload_n 0, 1, 3, 0, 0, 0, 0, 0, 0)]), (40, [(20, .getfield 19, 3, 14, 1, 0, 0, 8, 1, 3), (23, .aload_n 0, 1, 3, 0, 0, 0, 0, 0, 0), (24, .getfield 26, 3, 14, 2, 0, 0, 8, 2, 3), (27, .iload_n 2, 1, 2, 0, 0, 0, 0, 0, 0), (28, .invokevirtual 168, 3, 23, 20, 0, 0, 101, 0, 3), (31, .ifCond .ne 9, 3, 12, 0, 0, 0, 0, 0, 0), (34, .iload_n 1, 1, 2, 0, 0, 0, 0, 0, 0), (35, .iconst 1, 1, 0, 0, 0, 0, 0, 0, 0), (36, .iload_n 2, 1, 2, 0, 0, 0, 0, 0, 0), (37, .ishl, 1, 7, 0, 0, 0, 0, 0, 0), (38, .ior, 1, 7, 0, 0, 0, 0, 0, 0), (39, .istore_n 1, 1, 4, 0, 0, 0, 0, 0, 0)]), (48, [(40, .iinc 2 1, 3, 6, 0, 0, 0, 0, 0, 0), (43, .goto (-39), 3, 0, 0, 0, 0, 0, 0, 0), (46, .iload_n 1, 1, 2, 0, 0, 0, 0, 0, 0), (47, .ireturn, 1, 21, 0, 0, 0, 0, 0, 0)])]
def ee_me24 : ee_me := (8, ⟨"PepperTables", "idle", "()I"⟩, prog_1_method_25_code, 3, (some .int), ee_B24, 0, 0)
set_option maxRecDepth 100000 in
theorem ee_me24ok : ee_Mb ee_me24 = true := by decide +kernel
/- 25: PepperTables.image(I)I -/
def ee_B25 : List (Nat × List ee_en) := [(26, [(0, .aload_n 0, 1, 3, 0, 0, 0, 0, 0, 0), (1, .getfield 50, 3, 14, 6, 0, 0, 8, 6, 3), (4, .iload_n 1, 1, 2, 0, 0, 0, 0, 0, 0), (5, .aload_n 0, 1, 3, 0, 0, 0, 0, 0, 0), (6, .getfield 26, 3, 14, 2, 0, 0, 8, 2, 3), (9, .invokevirtual 318, 3, 23, 33, 0, 0, 79, 0, 2), (12, .ifCond .eq 13, 3, 12, 0, 0, 0, 0, 0, 0), (15, .aload_n 0, 1, 3, 0, 0, 0, 0, 0, 0), (16, .getfield 26, 3, 14, 2, 0, 0, 8, 2, 3), (19, .getfield 189, 3, 14, 17, 0, 0, 6, 2, 0), (22, .goto 4, 3, 0, 0, 0, 0, 0, 0, 0), (25, .iconst (-1), 1, 0, 0, 0, 0, 0, 0, 0)]), (27, [(26, .ireturn, 1, 21, 0, 0, 0, 0, 0, 0)])]
def ee_me25 : ee_me := (8, ⟨"PepperTables", "image", "(I)I"⟩, prog_1_method_54_code, 2, (some .int), ee_B25, 0, 0)
set_option maxRecDepth 100000 in
theorem ee_me25ok : ee_Mb ee_me25 = true := by decide +kernel
/- 26: PepperTables.invite(I)I -/
def ee_B26 : List (Nat × List ee_en) := [(18, [(0, .iload_n 1, 1, 2, 0, 0, 0, 0, 0, 0), (1, .invokestatic 209, 3, 23, 14, 0, 0, 27, 1, 1), (4, .ifCond .ne 5, 3, 12, 0, 0, 0, 0, 0, 0), (7, .iconst (-1), 1, 0, 0, 0, 0, 0, 0, 0), (8, .ireturn, 1, 21, 0, 0, 0, 0, 0, 0), (9, .iconst (-1), 1, 0, 0, 0, 0, 0, 0, 0), (10, .istore_n 2, 1, 4, 0, 0, 0, 0, 0, 0), (11, .iconst (-1), 1, 0, 0, 0, 0, 0, 0, 0), (12, .istore_n 3, 1, 4, 0, 0, 0, 0, 0, 0), (13, .iconst 0, 1, 0, 0, 0, 0, 0, 0, 0), (14, .istore 4, 2, 4, 0, 0, 0, 0, 0, 0), (16, .iload 4, 2, 2, 0, 0, 0, 0, 0, 0)]), (45, [(18, .aload_n 0, 1, 3, 0, 0, 0, 0, 0, 0), (19, .getfield 19, 3, 14, 1, 0, 0, 8, 1, 3), (22, .getfield 236, 3, 14, 13, 0, 0, 7, 0, 0), (25, .if_icmp .ge 77, 3, 12, 0, 0, 0, 0, 0, 0), (28, .aload_n 0, 1, 3, 0, 0, 0, 0, 0, 0), (29, .iload 4, 2, 2, 0, 0, 0, 0, 0, 0), (31, .invokevirtual 172, 3, 23, 34, 0, 0, 31, 0, 1), (34, .ifCond .ne 62, 3, 12, 0, 0, 0, 0, 0, 0), (37, .aload_n 0, 1, 3, 0, 0, 0, 0, 0, 0), (38, .getfield 30, 3, 14, 3, 0, 0, 8, 3, 3), (41, .aload_n 0, 1, 3, 0, 0, 0, 0, 0, 0), (42, .getfield 26, 3, 14, 2, 0, 0, 8, 2, 3)]), (68, [(45, .invokevirtual 253, 3, 23, 12, 0, 0, 139, 0, 1), (48, .aload_n 0, 1, 3, 0, 0, 0, 0, 0, 0), (49, .getfield 30, 3, 14, 3, 0, 0, 8, 3, 3), (52, .dup, 1, 11, 0, 0, 0, 0, 0, 0), (53, .getfield 123, 3, 14, 15, 0, 0, 6, 0, 0), (56, .iconst 1, 1, 0, 0, 0, 0, 0, 0, 0), (57, .iload 4, 2, 2, 0, 0, 0, 0, 0, 0), (59, .ishl, 1, 7, 0, 0, 0, 0, 0, 0), (60, .ior, 1, 7, 0, 0, 0, 0, 0, 0), (61, .putfield 123, 3, 15, 15, 0, 0, 6, 0, 0), (64, .aload_n 0, 1, 3, 0, 0, 0, 0, 0, 0), (65, .getfield 36, 3, 14, 4, 0, 0, 8, 4, 3)]), (93, [(68, .aload_n 0, 1, 3, 0, 0, 0, 0, 0, 0), (69, .getfield 19, 3, 14, 1, 0, 0, 8, 1, 3), (72, .aload_n 0, 1, 3, 0, 0, 0, 0, 0, 0), (73, .getfield 30, 3, 14, 3, 0, 0, 8, 3, 3), (76, .invokevirtual 256, 3, 23, 26, 0, 0, 103, 0, 2), (79, .invokestatic 178, 3, 23, 21, 0, 0, 297, 1, 1), (82, .istore 5, 2, 4, 0, 0, 0, 0, 0, 0), (84, .iload 5, 2, 2, 0, 0, 0, 0, 0, 0), (86, .iload_n 3, 1, 2, 0, 0, 0, 0, 0, 0), (87, .if_icmp .le 9, 3, 12, 0, 0, 0, 0, 0, 0), (90, .iload 4, 2, 2, 0, 0, 0, 0, 0, 0), (92, .istore_n 2, 1, 4, 0, 0, 0, 0, 0, 0)]), (112, [(93, .iload 5, 2, 2, 0, 0, 0, 0, 0, 0), (95, .istore_n 3, 1, 4, 0, 0, 0, 0, 0, 0), (96, .iinc 4 1, 3, 6, 0, 0, 0, 0, 0, 0), (99, .goto (-83), 3, 0, 0, 0, 0, 0, 0, 0), (102, .iload_n 1, 1, 2, 0, 0, 0, 0, 0, 0), (103, .ifCond .ne 7, 3, 12, 0, 0, 0, 0, 0, 0), (106, .iload_n 2, 1, 2, 0, 0, 0, 0, 0, 0), (107, .goto 4, 3, 0, 0, 0, 0, 0, 0, 0), (110, .iload_n 3, 1, 2, 0, 0, 0, 0, 0, 0), (111, .ireturn, 1, 21, 0, 0, 0, 0, 0, 0)])]
def ee_me26 : ee_me := (8, ⟨"PepperTables", "invite", "(I)I"⟩, prog_1_method_36_code, 6, (some .int), ee_B26, 0, 0)
set_option maxRecDepth 100000 in
theorem ee_me26ok : ee_Mb ee_me26 = true := by decide +kernel
/- 27: PepperTables.isEither(I)Z -/
def ee_B27 : List (Nat × List ee_en) := [(15, [(0, .iload_n 0, 1, 2, 0, 0, 0, 0, 0, 0), (1, .ifCond .eq 8, 3, 12, 0, 0, 0, 0, 0, 0), (4, .iload_n 0, 1, 2, 0, 0, 0, 0, 0, 0), (5, .iconst 1, 1, 0, 0, 0, 0, 0, 0, 0), (6, .if_icmp .ne 7, 3, 12, 0, 0, 0, 0, 0, 0), (9, .iconst 1, 1, 0, 0, 0, 0, 0, 0, 0), (10, .goto 4, 3, 0, 0, 0, 0, 0, 0, 0), (13, .iconst 0, 1, 0, 0, 0, 0, 0, 0, 0), (14, .ireturn, 1, 21, 0, 0, 0, 0, 0, 0)])]
def ee_me27 : ee_me := (8, ⟨"PepperTables", "isEither", "(I)Z"⟩, prog_1_method_62_code, 1, (some .boolean), ee_B27, 0, 0)
set_option maxRecDepth 100000 in
theorem ee_me27ok : ee_Mb ee_me27 = true := by decide +kernel
/- 28: PepperTables.isKept(I)Z -/
def ee_B28 : List (Nat × List ee_en) := [(22, [(0, .aload_n 0, 1, 3, 0, 0, 0, 0, 0, 0), (1, .iload_n 1, 1, 2, 0, 0, 0, 0, 0, 0), (2, .invokevirtual 140, 3, 23, 35, 0, 0, 33, 0, 1), (5, .ifCond .eq 21, 3, 12, 0, 0, 0, 0, 0, 0), (8, .aload_n 0, 1, 3, 0, 0, 0, 0, 0, 0), (9, .getfield 26, 3, 14, 2, 0, 0, 8, 2, 3), (12, .getfield 137, 3, 14, 16, 0, 0, 6, 1, 0), (15, .iload_n 1, 1, 2, 0, 0, 0, 0, 0, 0), (16, .ishr, 1, 7, 0, 0, 0, 0, 0, 0), (17, .iconst 1, 1, 0, 0, 0, 0, 0, 0, 0), (18, .iand, 1, 7, 0, 0, 0, 0, 0, 0), (19, .ifCond .ne 7, 3, 12, 0, 0, 0, 0, 0, 0)]), (28, [(22, .iconst 1, 1, 0, 0, 0, 0, 0, 0, 0), (23, .goto 4, 3, 0, 0, 0, 0, 0, 0, 0), (26, .iconst 0, 1, 0, 0, 0, 0, 0, 0, 0), (27, .ireturn, 1, 21, 0, 0, 0, 0, 0, 0)])]
def ee_me28 : ee_me := (8, ⟨"PepperTables", "isKept", "(I)Z"⟩, prog_1_method_60_code, 2, (some .boolean), ee_B28, 0, 0)
set_option maxRecDepth 100000 in
theorem ee_me28ok : ee_Mb ee_me28 = true := by decide +kernel
/- 29: PepperTables.isPerson(I)Z -/
def ee_B29 : List (Nat × List ee_en) := [(21, [(0, .iload_n 1, 1, 2, 0, 0, 0, 0, 0, 0), (1, .ifCond .lt 18, 3, 12, 0, 0, 0, 0, 0, 0), (4, .iload_n 1, 1, 2, 0, 0, 0, 0, 0, 0), (5, .aload_n 0, 1, 3, 0, 0, 0, 0, 0, 0), (6, .getfield 19, 3, 14, 1, 0, 0, 8, 1, 3), (9, .getfield 236, 3, 14, 13, 0, 0, 7, 0, 0), (12, .if_icmp .ge 7, 3, 12, 0, 0, 0, 0, 0, 0), (15, .iconst 1, 1, 0, 0, 0, 0, 0, 0, 0), (16, .goto 4, 3, 0, 0, 0, 0, 0, 0, 0), (19, .iconst 0, 1, 0, 0, 0, 0, 0, 0, 0), (20, .ireturn, 1, 21, 0, 0, 0, 0, 0, 0)])]
def ee_me29 : ee_me := (8, ⟨"PepperTables", "isPerson", "(I)Z"⟩, prog_1_method_57_code, 2, (some .boolean), ee_B29, 0, 0)
set_option maxRecDepth 100000 in
theorem ee_me29ok : ee_Mb ee_me29 = true := by decide +kernel
/- 30: PepperTables.isSack(I)Z -/
def ee_B30 : List (Nat × List ee_en) := [(21, [(0, .iload_n 1, 1, 2, 0, 0, 0, 0, 0, 0), (1, .ifCond .lt 18, 3, 12, 0, 0, 0, 0, 0, 0), (4, .iload_n 1, 1, 2, 0, 0, 0, 0, 0, 0), (5, .aload_n 0, 1, 3, 0, 0, 0, 0, 0, 0), (6, .getfield 19, 3, 14, 1, 0, 0, 8, 1, 3), (9, .getfield 233, 3, 14, 14, 0, 0, 7, 1, 0), (12, .if_icmp .ge 7, 3, 12, 0, 0, 0, 0, 0, 0), (15, .iconst 1, 1, 0, 0, 0, 0, 0, 0, 0), (16, .goto 4, 3, 0, 0, 0, 0, 0, 0, 0), (19, .iconst 0, 1, 0, 0, 0, 0, 0, 0, 0), (20, .ireturn, 1, 21, 0, 0, 0, 0, 0, 0)])]
def ee_me30 : ee_me := (8, ⟨"PepperTables", "isSack", "(I)Z"⟩, prog_1_method_59_code, 2, (some .boolean), ee_B30, 0, 0)
set_option maxRecDepth 100000 in
theorem ee_me30ok : ee_Mb ee_me30 = true := by decide +kernel
/- 31: PepperTables.isSitting(I)Z -/
def ee_B31 : List (Nat × List ee_en) := [(20, [(0, .aload_n 0, 1, 3, 0, 0, 0, 0, 0, 0), (1, .getfield 26, 3, 14, 2, 0, 0, 8, 2, 3), (4, .getfield 123, 3, 14, 15, 0, 0, 6, 0, 0), (7, .iload_n 1, 1, 2, 0, 0, 0, 0, 0, 0), (8, .ishr, 1, 7, 0, 0, 0, 0, 0, 0), (9, .iconst 1, 1, 0, 0, 0, 0, 0, 0, 0), (10, .iand, 1, 7, 0, 0, 0, 0, 0, 0), (11, .ifCond .eq 7, 3, 12, 0, 0, 0, 0, 0, 0), (14, .iconst 1, 1, 0, 0, 0, 0, 0, 0, 0), (15, .goto 4, 3, 0, 0, 0, 0, 0, 0, 0), (18, .iconst 0, 1, 0, 0, 0, 0, 0, 0, 0), (19, .ireturn, 1, 21, 0, 0, 0, 0, 0, 0)])]
def ee_me31 : ee_me := (8, ⟨"PepperTables", "isSitting", "(I)Z"⟩, prog_1_method_61_code, 2, (some .boolean), ee_B31, 0, 0)
set_option maxRecDepth 100000 in
theorem ee_me31ok : ee_Mb ee_me31 = true := by decide +kernel
/- 32: PepperTables.isSmaller(II)Z -/
def ee_B32 : List (Nat × List ee_en) := [(22, [(0, .iload_n 1, 1, 2, 0, 0, 0, 0, 0, 0), (1, .iconst (-1), 1, 0, 0, 0, 0, 0, 0, 0), (2, .if_icmp .eq 14, 3, 12, 0, 0, 0, 0, 0, 0), (5, .iload_n 0, 1, 2, 0, 0, 0, 0, 0, 0), (6, .invokestatic 178, 3, 23, 21, 0, 0, 297, 1, 1), (9, .iload_n 1, 1, 2, 0, 0, 0, 0, 0, 0), (10, .invokestatic 178, 3, 23, 21, 0, 0, 297, 1, 1), (13, .if_icmp .ge 7, 3, 12, 0, 0, 0, 0, 0, 0), (16, .iconst 1, 1, 0, 0, 0, 0, 0, 0, 0), (17, .goto 4, 3, 0, 0, 0, 0, 0, 0, 0), (20, .iconst 0, 1, 0, 0, 0, 0, 0, 0, 0), (21, .ireturn, 1, 21, 0, 0, 0, 0, 0, 0)])]
def ee_me32 : ee_me := (8, ⟨"PepperTables", "isSmaller", "(II)Z"⟩, prog_1_method_63_code, 2, (some .boolean), ee_B32, 0, 0)
set_option maxRecDepth 100000 in
theorem ee_me32ok : ee_Mb ee_me32 = true := by decide +kernel
/- 33: PepperTables.isThing(I)Z -/
def ee_B33 : List (Nat × List ee_en) := [(21, [(0, .iload_n 1, 1, 2, 0, 0, 0, 0, 0, 0), (1, .ifCond .lt 18, 3, 12, 0, 0, 0, 0, 0, 0), (4, .iload_n 1, 1, 2, 0, 0, 0, 0, 0, 0), (5, .aload_n 0, 1, 3, 0, 0, 0, 0, 0, 0), (6, .getfield 19, 3, 14, 1, 0, 0, 8, 1, 3), (9, .getfield 107, 3, 14, 12, 0, 0, 7, 2, 0), (12, .if_icmp .ge 7, 3, 12, 0, 0, 0, 0, 0, 0), (15, .iconst 1, 1, 0, 0, 0, 0, 0, 0, 0), (16, .goto 4, 3, 0, 0, 0, 0, 0, 0, 0), (19, .iconst 0, 1, 0, 0, 0, 0, 0, 0, 0), (20, .ireturn, 1, 21, 0, 0, 0, 0, 0, 0)])]
def ee_me33 : ee_me := (8, ⟨"PepperTables", "isThing", "(I)Z"⟩, prog_1_method_58_code, 2, (some .boolean), ee_B33, 0, 0)
set_option maxRecDepth 100000 in
theorem ee_me33ok : ee_Mb ee_me33 = true := by decide +kernel
/- 34: PepperTables.keeps(II)I -/
def ee_B34 : List (Nat × List ee_en) := [(22, [(0, .aload_n 0, 1, 3, 0, 0, 0, 0, 0, 0), (1, .iload_n 1, 1, 2, 0, 0, 0, 0, 0, 0), (2, .invokevirtual 116, 3, 23, 28, 0, 0, 29, 0, 1), (5, .ifCond .eq 11, 3, 12, 0, 0, 0, 0, 0, 0), (8, .aload_n 0, 1, 3, 0, 0, 0, 0, 0, 0), (9, .iload_n 2, 1, 2, 0, 0, 0, 0, 0, 0), (10, .invokevirtual 116, 3, 23, 28, 0, 0, 29, 0, 1), (13, .ifCond .ne 5, 3, 12, 0, 0, 0, 0, 0, 0), (16, .iconst (-1), 1, 0, 0, 0, 0, 0, 0, 0), (17, .ireturn, 1, 21, 0, 0, 0, 0, 0, 0), (18, .aload_n 0, 1, 3, 0, 0, 0, 0, 0, 0), (19, .getfield 19, 3, 14, 1, 0, 0, 8, 1, 3)]), (46, [(22, .aload_n 0, 1, 3, 0, 0, 0, 0, 0, 0), (23, .getfield 26, 3, 14, 2, 0, 0, 8, 2, 3), (26, .aload_n 0, 1, 3, 0, 0, 0, 0, 0, 0), (27, .getfield 19, 3, 14, 1, 0, 0, 8, 1, 3), (30, .invokevirtual 126, 3, 23, 8, 0, 0, 140, 0, 1), (33, .aload_n 0, 1, 3, 0, 0, 0, 0, 0, 0), (34, .getfield 19, 3, 14, 1, 0, 0, 8, 1, 3), (37, .iload_n 1, 1, 2, 0, 0, 0, 0, 0, 0), (38, .invokevirtual 130, 3, 23, 22, 0, 0, 152, 0, 1), (41, .iand, 1, 7, 0, 0, 0, 0, 0, 0), (42, .aload_n 0, 1, 3, 0, 0, 0, 0, 0, 0), (43, .getfield 19, 3, 14, 1, 0, 0, 8, 1, 3)]), (55, [(46, .iload_n 2, 1, 2, 0, 0, 0, 0, 0, 0), (47, .invokevirtual 134, 3, 23, 25, 0, 0, 153, 0, 1), (50, .iand, 1, 7, 0, 0, 0, 0, 0, 0), (51, .invokevirtual 162, 3, 23, 9, 0, 0, 149, 0, 1), (54, .ireturn, 1, 21, 0, 0, 0, 0, 0, 0)])]
def ee_me34 : ee_me := (8, ⟨"PepperTables", "keeps", "(II)I"⟩, prog_1_method_38_code, 3, (some .int), ee_B34, 0, 0)
set_option maxRecDepth 100000 in
theorem ee_me34ok : ee_Mb ee_me34 = true := by decide +kernel
/- 35: PepperTables.later(I)I -/
def ee_B35 : List (Nat × List ee_en) := [(9, [(0, .aload_n 0, 1, 3, 0, 0, 0, 0, 0, 0), (1, .getfield 64, 3, 14, 8, 0, 0, 8, 8, 3), (4, .iload_n 1, 1, 2, 0, 0, 0, 0, 0, 0), (5, .invokevirtual 304, 3, 23, 36, 0, 0, 85, 0, 1), (8, .ireturn, 1, 21, 0, 0, 0, 0, 0, 0)])]
def ee_me35 : ee_me := (8, ⟨"PepperTables", "later", "(I)I"⟩, prog_1_method_50_code, 2, (some .int), ee_B35, 0, 0)
set_option maxRecDepth 100000 in
theorem ee_me35ok : ee_Mb ee_me35 = true := by decide +kernel
/- 36: PepperTables.law(II)I -/
def ee_B36 : List (Nat × List ee_en) := [(21, [(0, .aload_n 0, 1, 3, 0, 0, 0, 0, 0, 0), (1, .iload_n 1, 1, 2, 0, 0, 0, 0, 0, 0), (2, .invokevirtual 155, 3, 23, 11, 0, 0, 30, 0, 1), (5, .ifCond .eq 13, 3, 12, 0, 0, 0, 0, 0, 0), (8, .iload_n 2, 1, 2, 0, 0, 0, 0, 0, 0), (9, .ifCond .lt 9, 3, 12, 0, 0, 0, 0, 0, 0), (12, .iload_n 2, 1, 2, 0, 0, 0, 0, 0, 0), (13, .bipush 99, 2, 0, 0, 0, 0, 0, 0, 0), (15, .if_icmp .le 5, 3, 12, 0, 0, 0, 0, 0, 0), (18, .iconst (-1), 1, 0, 0, 0, 0, 0, 0, 0), (19, .ireturn, 1, 21, 0, 0, 0, 0, 0, 0), (20, .aload_n 0, 1, 3, 0, 0, 0, 0, 0, 0)]), (45, [(21, .getfield 30, 3, 14, 3, 0, 0, 8, 3, 3), (24, .aload_n 0, 1, 3, 0, 0, 0, 0, 0, 0), (25, .getfield 26, 3, 14, 2, 0, 0, 8, 2, 3), (28, .invokevirtual 253, 3, 23, 12, 0, 0, 139, 0, 1), (31, .aload_n 0, 1, 3, 0, 0, 0, 0, 0, 0), (32, .getfield 30, 3, 14, 3, 0, 0, 8, 3, 3), (35, .getfield 165, 3, 14, 30, 0, 0, 6, 5, 3), (38, .iload_n 1, 1, 2, 0, 0, 0, 0, 0, 0), (39, .iload_n 2, 1, 2, 0, 0, 0, 0, 0, 0), (40, .iastore, 1, 17, 0, 0, 0, 0, 0, 0), (41, .aload_n 0, 1, 3, 0, 0, 0, 0, 0, 0), (42, .getfield 36, 3, 14, 4, 0, 0, 8, 4, 3)]), (61, [(45, .aload_n 0, 1, 3, 0, 0, 0, 0, 0, 0), (46, .getfield 19, 3, 14, 1, 0, 0, 8, 1, 3), (49, .aload_n 0, 1, 3, 0, 0, 0, 0, 0, 0), (50, .getfield 30, 3, 14, 3, 0, 0, 8, 3, 3), (53, .iload_n 1, 1, 2, 0, 0, 0, 0, 0, 0), (54, .invokevirtual 168, 3, 23, 20, 0, 0, 101, 0, 3), (57, .invokestatic 178, 3, 23, 21, 0, 0, 297, 1, 1), (60, .ireturn, 1, 21, 0, 0, 0, 0, 0, 0)])]
def ee_me36 : ee_me := (8, ⟨"PepperTables", "law", "(II)I"⟩, prog_1_method_27_code, 3, (some .int), ee_B36, 0, 0)
set_option maxRecDepth 100000 in
theorem ee_me36ok : ee_Mb ee_me36 = true := by decide +kernel
/- 37: PepperTables.layRow(II)V -/
def ee_B37 : List (Nat × List ee_en) := [(20, [(0, .iconst 1, 1, 0, 0, 0, 0, 0, 0, 0), (1, .istore_n 3, 1, 4, 0, 0, 0, 0, 0, 0), (2, .iconst 1, 1, 0, 0, 0, 0, 0, 0, 0), (3, .istore 4, 2, 4, 0, 0, 0, 0, 0, 0), (5, .iload 4, 2, 2, 0, 0, 0, 0, 0, 0), (7, .iload_n 2, 1, 2, 0, 0, 0, 0, 0, 0), (8, .if_icmp .ge 19, 3, 12, 0, 0, 0, 0, 0, 0), (11, .iload_n 3, 1, 2, 0, 0, 0, 0, 0, 0), (12, .aload_n 0, 1, 3, 0, 0, 0, 0, 0, 0), (13, .getfield 19, 3, 14, 1, 0, 0, 8, 1, 3), (16, .getfield 233, 3, 14, 14, 0, 0, 7, 1, 0), (19, .imul, 1, 7, 0, 0, 0, 0, 0, 0)]), (43, [(20, .istore_n 3, 1, 4, 0, 0, 0, 0, 0, 0), (21, .iinc 4 1, 3, 6, 0, 0, 0, 0, 0, 0), (24, .goto (-19), 3, 0, 0, 0, 0, 0, 0, 0), (27, .iload_n 1, 1, 2, 0, 0, 0, 0, 0, 0), (28, .istore 4, 2, 4, 0, 0, 0, 0, 0, 0), (30, .iconst 0, 1, 0, 0, 0, 0, 0, 0, 0), (31, .istore 5, 2, 4, 0, 0, 0, 0, 0, 0), (33, .iload 5, 2, 2, 0, 0, 0, 0, 0, 0), (35, .iload_n 2, 1, 2, 0, 0, 0, 0, 0, 0), (36, .if_icmp .ge 50, 3, 12, 0, 0, 0, 0, 0, 0), (39, .iload_n 3, 1, 2, 0, 0, 0, 0, 0, 0), (40, .ifCond .le 46, 3, 12, 0, 0, 0, 0, 0, 0)]), (67, [(43, .aload_n 0, 1, 3, 0, 0, 0, 0, 0, 0), (44, .getfield 19, 3, 14, 1, 0, 0, 8, 1, 3), (47, .getfield 233, 3, 14, 14, 0, 0, 7, 1, 0), (50, .ifCond .le 36, 3, 12, 0, 0, 0, 0, 0, 0), (53, .aload_n 0, 1, 3, 0, 0, 0, 0, 0, 0), (54, .getfield 57, 3, 14, 7, 0, 0, 8, 7, 3), (57, .iload 4, 2, 2, 0, 0, 0, 0, 0, 0), (59, .iload_n 3, 1, 2, 0, 0, 0, 0, 0, 0), (60, .idiv, 1, 8, 0, 0, 0, 0, 0, 0), (61, .invokevirtual 278, 3, 23, 30, 0, 0, 94, 0, 1), (64, .iload 4, 2, 2, 0, 0, 0, 0, 0, 0), (66, .iload_n 3, 1, 2, 0, 0, 0, 0, 0, 0)]), (87, [(67, .irem, 1, 8, 0, 0, 0, 0, 0, 0), (68, .istore 4, 2, 4, 0, 0, 0, 0, 0, 0), (70, .iload_n 3, 1, 2, 0, 0, 0, 0, 0, 0), (71, .aload_n 0, 1, 3, 0, 0, 0, 0, 0, 0), (72, .getfield 19, 3, 14, 1, 0, 0, 8, 1, 3), (75, .getfield 233, 3, 14, 14, 0, 0, 7, 1, 0), (78, .idiv, 1, 8, 0, 0, 0, 0, 0, 0), (79, .istore_n 3, 1, 4, 0, 0, 0, 0, 0, 0), (80, .iinc 5 1, 3, 6, 0, 0, 0, 0, 0, 0), (83, .goto (-50), 3, 0, 0, 0, 0, 0, 0, 0), (86, .return_, 1, 21, 0, 0, 0, 0, 0, 0)])]
def ee_me37 : ee_me := (8, ⟨"PepperTables", "layRow", "(II)V"⟩, prog_1_method_68_code, 6, none, ee_B37, 0, 0)
set_option maxRecDepth 100000 in
theorem ee_me37ok : ee_Mb ee_me37 = true := by decide +kernel
/- 38: PepperTables.lies(I)I -/
def ee_B38 : List (Nat × List ee_en) := [(9, [(0, .aload_n 0, 1, 3, 0, 0, 0, 0, 0, 0), (1, .getfield 57, 3, 14, 7, 0, 0, 8, 7, 3), (4, .iload_n 1, 1, 2, 0, 0, 0, 0, 0, 0), (5, .invokevirtual 294, 3, 23, 37, 0, 0, 97, 0, 1), (8, .ireturn, 1, 21, 0, 0, 0, 0, 0, 0)])]
def ee_me38 : ee_me := (8, ⟨"PepperTables", "lies", "(I)I"⟩, prog_1_method_47_code, 2, (some .int), ee_B38, 0, 0)
set_option maxRecDepth 100000 in
theorem ee_me38ok : ee_Mb ee_me38 = true := by decide +kernel
/- 39: PepperTables.line()I -/
def ee_B39 : List (Nat × List ee_en) := [(26, [(0, .aload_n 0, 1, 3, 0, 0, 0, 0, 0, 0), (1, .getfield 57, 3, 14, 7, 0, 0, 8, 7, 3), (4, .aload_n 0, 1, 3, 0, 0, 0, 0, 0, 0), (5, .getfield 19, 3, 14, 1, 0, 0, 8, 1, 3), (8, .aload_n 0, 1, 3, 0, 0, 0, 0, 0, 0), (9, .getfield 26, 3, 14, 2, 0, 0, 8, 2, 3), (12, .aload_n 0, 1, 3, 0, 0, 0, 0, 0, 0), (13, .getfield 19, 3, 14, 1, 0, 0, 8, 1, 3), (16, .invokevirtual 126, 3, 23, 8, 0, 0, 140, 0, 1), (19, .invokevirtual 281, 3, 23, 38, 0, 0, 96, 0, 2), (22, .aload_n 0, 1, 3, 0, 0, 0, 0, 0, 0), (23, .getfield 57, 3, 14, 7, 0, 0, 8, 7, 3)]), (30, [(26, .getfield 103, 3, 14, 25, 0, 0, 3, 0, 0), (29, .ireturn, 1, 21, 0, 0, 0, 0, 0, 0)])]
def ee_me39 : ee_me := (8, ⟨"PepperTables", "line", "()I"⟩, prog_1_method_35_code, 1, (some .int), ee_B39, 0, 0)
set_option maxRecDepth 100000 in
theorem ee_me39ok : ee_Mb ee_me39 = true := by decide +kernel
/- 40: PepperTables.mute()I -/
def ee_B40 : List (Nat × List ee_en) := [(22, [(0, .aload_n 0, 1, 3, 0, 0, 0, 0, 0, 0), (1, .getfield 26, 3, 14, 2, 0, 0, 8, 2, 3), (4, .aload_n 0, 1, 3, 0, 0, 0, 0, 0, 0), (5, .getfield 19, 3, 14, 1, 0, 0, 8, 1, 3), (8, .invokevirtual 126, 3, 23, 8, 0, 0, 140, 0, 1), (11, .istore_n 1, 1, 4, 0, 0, 0, 0, 0, 0), (12, .iconst 0, 1, 0, 0, 0, 0, 0, 0, 0), (13, .istore_n 2, 1, 4, 0, 0, 0, 0, 0, 0), (14, .iload_n 2, 1, 2, 0, 0, 0, 0, 0, 0), (15, .aload_n 0, 1, 3, 0, 0, 0, 0, 0, 0), (16, .getfield 19, 3, 14, 1, 0, 0, 8, 1, 3), (19, .getfield 233, 3, 14, 14, 0, 0, 7, 1, 0)]), (44, [(22, .if_icmp .ge 57, 3, 12, 0, 0, 0, 0, 0, 0), (25, .iconst 2, 1, 0, 0, 0, 0, 0, 0, 0), (26, .istore_n 3, 1, 4, 0, 0, 0, 0, 0, 0), (27, .iload_n 3, 1, 2, 0, 0, 0, 0, 0, 0), (28, .aload_n 0, 1, 3, 0, 0, 0, 0, 0, 0), (29, .getfield 19, 3, 14, 1, 0, 0, 8, 1, 3), (32, .getfield 236, 3, 14, 13, 0, 0, 7, 0, 0), (35, .if_icmp .gt 38, 3, 12, 0, 0, 0, 0, 0, 0), (38, .iload_n 1, 1, 2, 0, 0, 0, 0, 0, 0), (39, .aload_n 0, 1, 3, 0, 0, 0, 0, 0, 0), (40, .getfield 36, 3, 14, 4, 0, 0, 8, 4, 3), (43, .aload_n 0, 1, 3, 0, 0, 0, 0, 0, 0)]), (66, [(44, .getfield 19, 3, 14, 1, 0, 0, 8, 1, 3), (47, .aload_n 0, 1, 3, 0, 0, 0, 0, 0, 0), (48, .getfield 26, 3, 14, 2, 0, 0, 8, 2, 3), (51, .iload_n 2, 1, 2, 0, 0, 0, 0, 0, 0), (52, .iload_n 3, 1, 2, 0, 0, 0, 0, 0, 0), (53, .aload_n 0, 1, 3, 0, 0, 0, 0, 0, 0), (54, .getfield 19, 3, 14, 1, 0, 0, 8, 1, 3), (57, .invokevirtual 212, 3, 23, 39, 0, 0, 146, 0, 0), (60, .invokevirtual 239, 3, 23, 40, 0, 0, 107, 0, 5), (63, .iconst (-1), 1, 0, 0, 0, 0, 0, 0, 0), (64, .ixor, 1, 7, 0, 0, 0, 0, 0, 0), (65, .iand, 1, 7, 0, 0, 0, 0, 0, 0)]), (81, [(66, .istore_n 1, 1, 4, 0, 0, 0, 0, 0, 0), (67, .iinc 3 1, 3, 6, 0, 0, 0, 0, 0, 0), (70, .goto (-43), 3, 0, 0, 0, 0, 0, 0, 0), (73, .iinc 2 1, 3, 6, 0, 0, 0, 0, 0, 0), (76, .goto (-62), 3, 0, 0, 0, 0, 0, 0, 0), (79, .iload_n 1, 1, 2, 0, 0, 0, 0, 0, 0), (80, .ireturn, 1, 21, 0, 0, 0, 0, 0, 0)])]
def ee_me40 : ee_me := (8, ⟨"PepperTables", "mute", "()I"⟩, prog_1_method_18_code, 4, (some .int), ee_B40, 0, 0)
set_option maxRecDepth 100000 in
theorem ee_me40ok : ee_Mb ee_me40 = true := by decide +kernel
/- 41: PepperTables.near()I -/
def ee_B41 : List (Nat × List ee_en) := [(26, [(0, .aload_n 0, 1, 3, 0, 0, 0, 0, 0, 0), (1, .getfield 26, 3, 14, 2, 0, 0, 8, 2, 3), (4, .aload_n 0, 1, 3, 0, 0, 0, 0, 0, 0), (5, .getfield 19, 3, 14, 1, 0, 0, 8, 1, 3), (8, .invokevirtual 126, 3, 23, 8, 0, 0, 140, 0, 1), (11, .aload_n 0, 1, 3, 0, 0, 0, 0, 0, 0), (12, .getfield 19, 3, 14, 1, 0, 0, 8, 1, 3), (15, .aload_n 0, 1, 3, 0, 0, 0, 0, 0, 0), (16, .getfield 26, 3, 14, 2, 0, 0, 8, 2, 3), (19, .getfield 123, 3, 14, 15, 0, 0, 6, 0, 0), (22, .invokevirtual 260, 3, 23, 41, 0, 0, 151, 0, 1), (25, .iand, 1, 7, 0, 0, 0, 0, 0, 0)]), (27, [(26, .ireturn, 1, 21, 0, 0, 0, 0, 0, 0)])]
def ee_me41 : ee_me := (8, ⟨"PepperTables", "near", "()I"⟩, prog_1_method_43_code, 1, (some .int), ee_B41, 0, 0)
set_option maxRecDepth 100000 in
theorem ee_me41ok : ee_Mb ee_me41 = true := by decide +kernel
/- 42: PepperTables.next()I -/
def ee_B42 : List (Nat × List ee_en) := [(5, [(0, .aload_n 0, 1, 3, 0, 0, 0, 0, 0, 0), (1, .invokevirtual 198, 3, 23, 23, 0, 0, 62, 0, 0), (4, .ireturn, 1, 21, 0, 0, 0, 0, 0, 0)])]
def ee_me42 : ee_me := (8, ⟨"PepperTables", "next", "()I"⟩, prog_1_method_45_code, 1, (some .int), ee_B42, 0, 0)
set_option maxRecDepth 100000 in
theorem ee_me42ok : ee_Mb ee_me42 = true := by decide +kernel
/- 43: PepperTables.odds(II)I -/
def ee_B43 : List (Nat × List ee_en) := [(21, [(0, .iload_n 1, 1, 2, 0, 0, 0, 0, 0, 0), (1, .ifCond .lt 15, 3, 12, 0, 0, 0, 0, 0, 0), (4, .iload_n 1, 1, 2, 0, 0, 0, 0, 0, 0), (5, .iconst 4, 1, 0, 0, 0, 0, 0, 0, 0), (6, .if_icmp .gt 10, 3, 12, 0, 0, 0, 0, 0, 0), (9, .iload_n 2, 1, 2, 0, 0, 0, 0, 0, 0), (10, .invokestatic 209, 3, 23, 14, 0, 0, 27, 1, 1), (13, .ifCond .ne 5, 3, 12, 0, 0, 0, 0, 0, 0), (16, .iconst (-1), 1, 0, 0, 0, 0, 0, 0, 0), (17, .ireturn, 1, 21, 0, 0, 0, 0, 0, 0), (18, .bipush 100, 2, 0, 0, 0, 0, 0, 0, 0), (20, .aload_n 0, 1, 3, 0, 0, 0, 0, 0, 0)]), (44, [(21, .getfield 19, 3, 14, 1, 0, 0, 8, 1, 3), (24, .getfield 195, 3, 14, 26, 0, 0, 7, 4, 0), (27, .isub, 1, 7, 0, 0, 0, 0, 0, 0), (28, .istore_n 3, 1, 4, 0, 0, 0, 0, 0, 0), (29, .iload_n 3, 1, 2, 0, 0, 0, 0, 0, 0), (30, .bipush 100, 2, 0, 0, 0, 0, 0, 0, 0), (32, .invokestatic 291, 3, 23, 42, 0, 0, 7, 1, 2), (35, .istore 4, 2, 4, 0, 0, 0, 0, 0, 0), (37, .iload_n 2, 1, 2, 0, 0, 0, 0, 0, 0), (38, .ifCond .ne 10, 3, 12, 0, 0, 0, 0, 0, 0), (41, .iload_n 3, 1, 2, 0, 0, 0, 0, 0, 0), (42, .iload 4, 2, 2, 0, 0, 0, 0, 0, 0)]), (64, [(44, .idiv, 1, 8, 0, 0, 0, 0, 0, 0), (45, .goto 8, 3, 0, 0, 0, 0, 0, 0, 0), (48, .bipush 100, 2, 0, 0, 0, 0, 0, 0, 0), (50, .iload 4, 2, 2, 0, 0, 0, 0, 0, 0), (52, .idiv, 1, 8, 0, 0, 0, 0, 0, 0), (53, .istore 5, 2, 4, 0, 0, 0, 0, 0, 0), (55, .iconst 1, 1, 0, 0, 0, 0, 0, 0, 0), (56, .istore 6, 2, 4, 0, 0, 0, 0, 0, 0), (58, .iconst 0, 1, 0, 0, 0, 0, 0, 0, 0), (59, .istore 7, 2, 4, 0, 0, 0, 0, 0, 0), (61, .iload 7, 2, 2, 0, 0, 0, 0, 0, 0), (63, .iload_n 1, 1, 2, 0, 0, 0, 0, 0, 0)]), (83, [(64, .if_icmp .ge 16, 3, 12, 0, 0, 0, 0, 0, 0), (67, .iload 6, 2, 2, 0, 0, 0, 0, 0, 0), (69, .iload 5, 2, 2, 0, 0, 0, 0, 0, 0), (71, .imul, 1, 7, 0, 0, 0, 0, 0, 0), (72, .istore 6, 2, 4, 0, 0, 0, 0, 0, 0), (74, .iinc 7 1, 3, 6, 0, 0, 0, 0, 0, 0), (77, .goto (-16), 3, 0, 0, 0, 0, 0, 0, 0), (80, .iload 6, 2, 2, 0, 0, 0, 0, 0, 0), (82, .ireturn, 1, 21, 0, 0, 0, 0, 0, 0)])]
def ee_me43 : ee_me := (8, ⟨"PepperTables", "odds", "(II)I"⟩, prog_1_method_46_code, 8, (some .int), ee_B43, 0, 0)
set_option maxRecDepth 100000 in
theorem ee_me43ok : ee_Mb ee_me43 = true := by decide +kernel
end
section
/- 44: PepperTables.pairs()I -/
def ee_B44 : List (Nat × List ee_en) := [(18, [(0, .iconst 0, 1, 0, 0, 0, 0, 0, 0, 0), (1, .istore_n 1, 1, 4, 0, 0, 0, 0, 0, 0), (2, .iconst 0, 1, 0, 0, 0, 0, 0, 0, 0), (3, .istore_n 2, 1, 4, 0, 0, 0, 0, 0, 0), (4, .iload_n 2, 1, 2, 0, 0, 0, 0, 0, 0), (5, .aload_n 0, 1, 3, 0, 0, 0, 0, 0, 0), (6, .getfield 19, 3, 14, 1, 0, 0, 8, 1, 3), (9, .getfield 236, 3, 14, 13, 0, 0, 7, 0, 0), (12, .if_icmp .ge 97, 3, 12, 0, 0, 0, 0, 0, 0), (15, .iload_n 2, 1, 2, 0, 0, 0, 0, 0, 0), (16, .iconst 1, 1, 0, 0, 0, 0, 0, 0, 0), (17, .iadd, 1, 7, 0, 0, 0, 0, 0, 0)]), (42, [(18, .istore_n 3, 1, 4, 0, 0, 0, 0, 0, 0), (19, .iload_n 3, 1, 2, 0, 0, 0, 0, 0, 0), (20, .aload_n 0, 1, 3, 0, 0, 0, 0, 0, 0), (21, .getfield 19, 3, 14, 1, 0, 0, 8, 1, 3), (24, .getfield 236, 3, 14, 13, 0, 0, 7, 0, 0), (27, .if_icmp .ge 76, 3, 12, 0, 0, 0, 0, 0, 0), (30, .aload_n 0, 1, 3, 0, 0, 0, 0, 0, 0), (31, .getfield 26, 3, 14, 2, 0, 0, 8, 2, 3), (34, .getfield 137, 3, 14, 16, 0, 0, 6, 1, 0), (37, .aload_n 0, 1, 3, 0, 0, 0, 0, 0, 0), (38, .getfield 19, 3, 14, 1, 0, 0, 8, 1, 3), (41, .iload_n 2, 1, 2, 0, 0, 0, 0, 0, 0)]), (65, [(42, .invokevirtual 130, 3, 23, 22, 0, 0, 152, 0, 1), (45, .iand, 1, 7, 0, 0, 0, 0, 0, 0), (46, .aload_n 0, 1, 3, 0, 0, 0, 0, 0, 0), (47, .getfield 19, 3, 14, 1, 0, 0, 8, 1, 3), (50, .iload_n 3, 1, 2, 0, 0, 0, 0, 0, 0), (51, .invokevirtual 134, 3, 23, 25, 0, 0, 153, 0, 1), (54, .iand, 1, 7, 0, 0, 0, 0, 0, 0), (55, .istore 4, 2, 4, 0, 0, 0, 0, 0, 0), (57, .aload_n 0, 1, 3, 0, 0, 0, 0, 0, 0), (58, .getfield 26, 3, 14, 2, 0, 0, 8, 2, 3), (61, .getfield 137, 3, 14, 16, 0, 0, 6, 1, 0), (64, .aload_n 0, 1, 3, 0, 0, 0, 0, 0, 0)]), (89, [(65, .getfield 19, 3, 14, 1, 0, 0, 8, 1, 3), (68, .iload_n 3, 1, 2, 0, 0, 0, 0, 0, 0), (69, .invokevirtual 130, 3, 23, 22, 0, 0, 152, 0, 1), (72, .iand, 1, 7, 0, 0, 0, 0, 0, 0), (73, .aload_n 0, 1, 3, 0, 0, 0, 0, 0, 0), (74, .getfield 19, 3, 14, 1, 0, 0, 8, 1, 3), (77, .iload_n 2, 1, 2, 0, 0, 0, 0, 0, 0), (78, .invokevirtual 134, 3, 23, 25, 0, 0, 153, 0, 1), (81, .iand, 1, 7, 0, 0, 0, 0, 0, 0), (82, .istore 5, 2, 4, 0, 0, 0, 0, 0, 0), (84, .iload 4, 2, 2, 0, 0, 0, 0, 0, 0), (86, .ifCond .eq 11, 3, 12, 0, 0, 0, 0, 0, 0)]), (111, [(89, .iload 5, 2, 2, 0, 0, 0, 0, 0, 0), (91, .ifCond .eq 6, 3, 12, 0, 0, 0, 0, 0, 0), (94, .iinc 1 1, 3, 6, 0, 0, 0, 0, 0, 0), (97, .iinc 3 1, 3, 6, 0, 0, 0, 0, 0, 0), (100, .goto (-81), 3, 0, 0, 0, 0, 0, 0, 0), (103, .iinc 2 1, 3, 6, 0, 0, 0, 0, 0, 0), (106, .goto (-102), 3, 0, 0, 0, 0, 0, 0, 0), (109, .iload_n 1, 1, 2, 0, 0, 0, 0, 0, 0), (110, .ireturn, 1, 21, 0, 0, 0, 0, 0, 0)])]
def ee_me44 : ee_me := (8, ⟨"PepperTables", "pairs", "()I"⟩, prog_1_method_32_code, 6, (some .int), ee_B44, 0, 0)
set_option maxRecDepth 100000 in
theorem ee_me44ok : ee_Mb ee_me44 = true := by decide +kernel
/- 45: PepperTables.person(II)I -/
def ee_B45 : List (Nat × List ee_en) := [(56, [(0, .aload_n 0, 1, 3, 0, 0, 0, 0, 0, 0), (1, .iload_n 1, 1, 2, 0, 0, 0, 0, 0, 0), (2, .invokevirtual 116, 3, 23, 28, 0, 0, 29, 0, 1), (5, .ifCond .ne 6, 3, 12, 0, 0, 0, 0, 0, 0), (8, .bipush (-2), 2, 0, 0, 0, 0, 0, 0, 0), (10, .ireturn, 1, 21, 0, 0, 0, 0, 0, 0), (11, .iload_n 2, 1, 2, 0, 0, 0, 0, 0, 0), (12, .tableswitch 117 0 4 #[36, 46, 58, 79, 100], 36, 13, 0, 0, 0, 0, 0, 0), (48, .aload_n 0, 1, 3, 0, 0, 0, 0, 0, 0), (49, .getfield 19, 3, 14, 1, 0, 0, 8, 1, 3), (52, .getfield 120, 3, 14, 31, 0, 0, 7, 10, 3), (55, .iload_n 1, 1, 2, 0, 0, 0, 0, 0, 0)]), (74, [(56, .iaload, 1, 22, 0, 0, 0, 0, 0, 0), (57, .ireturn, 1, 21, 0, 0, 0, 0, 0, 0), (58, .aload_n 0, 1, 3, 0, 0, 0, 0, 0, 0), (59, .getfield 26, 3, 14, 2, 0, 0, 8, 2, 3), (62, .getfield 123, 3, 14, 15, 0, 0, 6, 0, 0), (65, .iload_n 1, 1, 2, 0, 0, 0, 0, 0, 0), (66, .ishr, 1, 7, 0, 0, 0, 0, 0, 0), (67, .iconst 1, 1, 0, 0, 0, 0, 0, 0, 0), (68, .iand, 1, 7, 0, 0, 0, 0, 0, 0), (69, .ireturn, 1, 21, 0, 0, 0, 0, 0, 0), (70, .aload_n 0, 1, 3, 0, 0, 0, 0, 0, 0), (71, .getfield 26, 3, 14, 2, 0, 0, 8, 2, 3)]), (96, [(74, .aload_n 0, 1, 3, 0, 0, 0, 0, 0, 0), (75, .getfield 19, 3, 14, 1, 0, 0, 8, 1, 3), (78, .invokevirtual 126, 3, 23, 8, 0, 0, 140, 0, 1), (81, .aload_n 0, 1, 3, 0, 0, 0, 0, 0, 0), (82, .getfield 19, 3, 14, 1, 0, 0, 8, 1, 3), (85, .iload_n 1, 1, 2, 0, 0, 0, 0, 0, 0), (86, .invokevirtual 130, 3, 23, 22, 0, 0, 152, 0, 1), (89, .iand, 1, 7, 0, 0, 0, 0, 0, 0), (90, .ireturn, 1, 21, 0, 0, 0, 0, 0, 0), (91, .aload_n 0, 1, 3, 0, 0, 0, 0, 0, 0), (92, .getfield 26, 3, 14, 2, 0, 0, 8, 2, 3), (95, .aload_n 0, 1, 3, 0, 0, 0, 0, 0, 0)]), (120, [(96, .getfield 19, 3, 14, 1, 0, 0, 8, 1, 3), (99, .invokevirtual 126, 3, 23, 8, 0, 0, 140, 0, 1), (102, .aload_n 0, 1, 3, 0, 0, 0, 0, 0, 0), (103, .getfield 19, 3, 14, 1, 0, 0, 8, 1, 3), (106, .iload_n 1, 1, 2, 0, 0, 0, 0, 0, 0), (107, .invokevirtual 134, 3, 23, 25, 0, 0, 153, 0, 1), (110, .iand, 1, 7, 0, 0, 0, 0, 0, 0), (111, .ireturn, 1, 21, 0, 0, 0, 0, 0, 0), (112, .aload_n 0, 1, 3, 0, 0, 0, 0, 0, 0), (113, .getfield 26, 3, 14, 2, 0, 0, 8, 2, 3), (116, .getfield 137, 3, 14, 16, 0, 0, 6, 1, 0), (119, .aload_n 0, 1, 3, 0, 0, 0, 0, 0, 0)]), (132, [(120, .getfield 19, 3, 14, 1, 0, 0, 8, 1, 3), (123, .iload_n 1, 1, 2, 0, 0, 0, 0, 0, 0), (124, .invokevirtual 134, 3, 23, 25, 0, 0, 153, 0, 1), (127, .iand, 1, 7, 0, 0, 0, 0, 0, 0), (128, .ireturn, 1, 21, 0, 0, 0, 0, 0, 0), (129, .bipush (-2), 2, 0, 0, 0, 0, 0, 0, 0), (131, .ireturn, 1, 21, 0, 0, 0, 0, 0, 0)])]
def ee_me45 : ee_me := (8, ⟨"PepperTables", "person", "(II)I"⟩, prog_1_method_6_code, 3, (some .int), ee_B45, 0, 0)
set_option maxRecDepth 100000 in
theorem ee_me45ok : ee_Mb ee_me45 = true := by decide +kernel
/- 46: PepperTables.pour(II)I -/
def ee_B46 : List (Nat × List ee_en) := [(22, [(0, .aload_n 0, 1, 3, 0, 0, 0, 0, 0, 0), (1, .iload_n 1, 1, 2, 0, 0, 0, 0, 0, 0), (2, .invokevirtual 186, 3, 23, 10, 0, 0, 28, 0, 1), (5, .ifCond .eq 29, 3, 12, 0, 0, 0, 0, 0, 0), (8, .iload_n 2, 1, 2, 0, 0, 0, 0, 0, 0), (9, .iconst (-1), 1, 0, 0, 0, 0, 0, 0, 0), (10, .if_icmp .eq 11, 3, 12, 0, 0, 0, 0, 0, 0), (13, .aload_n 0, 1, 3, 0, 0, 0, 0, 0, 0), (14, .iload_n 2, 1, 2, 0, 0, 0, 0, 0, 0), (15, .invokevirtual 155, 3, 23, 11, 0, 0, 30, 0, 1), (18, .ifCond .eq 16, 3, 12, 0, 0, 0, 0, 0, 0), (21, .aload_n 0, 1, 3, 0, 0, 0, 0, 0, 0)]), (45, [(22, .getfield 26, 3, 14, 2, 0, 0, 8, 2, 3), (25, .getfield 152, 3, 14, 27, 0, 0, 6, 4, 3), (28, .iload_n 1, 1, 2, 0, 0, 0, 0, 0, 0), (29, .iaload, 1, 22, 0, 0, 0, 0, 0, 0), (30, .iload_n 2, 1, 2, 0, 0, 0, 0, 0, 0), (31, .if_icmp .ne 6, 3, 12, 0, 0, 0, 0, 0, 0), (34, .bipush (-2), 2, 0, 0, 0, 0, 0, 0, 0), (36, .ireturn, 1, 21, 0, 0, 0, 0, 0, 0), (37, .aload_n 0, 1, 3, 0, 0, 0, 0, 0, 0), (38, .getfield 26, 3, 14, 2, 0, 0, 8, 2, 3), (41, .getfield 152, 3, 14, 27, 0, 0, 6, 4, 3), (44, .iload_n 1, 1, 2, 0, 0, 0, 0, 0, 0)]), (65, [(45, .iaload, 1, 22, 0, 0, 0, 0, 0, 0), (46, .istore_n 3, 1, 4, 0, 0, 0, 0, 0, 0), (47, .aload_n 0, 1, 3, 0, 0, 0, 0, 0, 0), (48, .getfield 26, 3, 14, 2, 0, 0, 8, 2, 3), (51, .getfield 152, 3, 14, 27, 0, 0, 6, 4, 3), (54, .iload_n 1, 1, 2, 0, 0, 0, 0, 0, 0), (55, .iload_n 2, 1, 2, 0, 0, 0, 0, 0, 0), (56, .iastore, 1, 17, 0, 0, 0, 0, 0, 0), (57, .aload_n 0, 1, 3, 0, 0, 0, 0, 0, 0), (58, .getfield 43, 3, 14, 5, 0, 0, 8, 5, 3), (61, .aload_n 0, 1, 3, 0, 0, 0, 0, 0, 0), (62, .getfield 26, 3, 14, 2, 0, 0, 8, 2, 3)]), (70, [(65, .invokevirtual 175, 3, 23, 24, 0, 0, 75, 0, 1), (68, .iload_n 3, 1, 2, 0, 0, 0, 0, 0, 0), (69, .ireturn, 1, 21, 0, 0, 0, 0, 0, 0)])]
def ee_me46 : ee_me := (8, ⟨"PepperTables", "pour", "(II)I"⟩, prog_1_method_13_code, 4, (some .int), ee_B46, 0, 0)
set_option maxRecDepth 100000 in
theorem ee_me46ok : ee_Mb ee_me46 = true := by decide +kernel
/- 47: PepperTables.rank()I -/
def ee_B47 : List (Nat × List ee_en) := [(20, [(0, .aload_n 0, 1, 3, 0, 0, 0, 0, 0, 0), (1, .getfield 57, 3, 14, 7, 0, 0, 8, 7, 3), (4, .iconst 0, 1, 0, 0, 0, 0, 0, 0, 0), (5, .putfield 103, 3, 15, 25, 0, 0, 3, 0, 0), (8, .iconst 0, 1, 0, 0, 0, 0, 0, 0, 0), (9, .istore_n 1, 1, 4, 0, 0, 0, 0, 0, 0), (10, .iconst 0, 1, 0, 0, 0, 0, 0, 0, 0), (11, .istore_n 2, 1, 4, 0, 0, 0, 0, 0, 0), (12, .iload_n 2, 1, 2, 0, 0, 0, 0, 0, 0), (13, .aload_n 0, 1, 3, 0, 0, 0, 0, 0, 0), (14, .getfield 19, 3, 14, 1, 0, 0, 8, 1, 3), (17, .getfield 236, 3, 14, 13, 0, 0, 7, 0, 0)]), (38, [(20, .if_icmp .ge 34, 3, 12, 0, 0, 0, 0, 0, 0), (23, .aload_n 0, 1, 3, 0, 0, 0, 0, 0, 0), (24, .iload_n 1, 1, 2, 0, 0, 0, 0, 0, 0), (25, .invokevirtual 288, 3, 23, 43, 0, 0, 23, 0, 1), (28, .istore_n 3, 1, 4, 0, 0, 0, 0, 0, 0), (29, .iload_n 3, 1, 2, 0, 0, 0, 0, 0, 0), (30, .iconst (-1), 1, 0, 0, 0, 0, 0, 0, 0), (31, .if_icmp .eq 17, 3, 12, 0, 0, 0, 0, 0, 0), (34, .iload_n 1, 1, 2, 0, 0, 0, 0, 0, 0), (35, .iconst 1, 1, 0, 0, 0, 0, 0, 0, 0), (36, .iload_n 3, 1, 2, 0, 0, 0, 0, 0, 0), (37, .ishl, 1, 7, 0, 0, 0, 0, 0, 0)]), (62, [(38, .ior, 1, 7, 0, 0, 0, 0, 0, 0), (39, .istore_n 1, 1, 4, 0, 0, 0, 0, 0, 0), (40, .aload_n 0, 1, 3, 0, 0, 0, 0, 0, 0), (41, .getfield 57, 3, 14, 7, 0, 0, 8, 7, 3), (44, .iload_n 3, 1, 2, 0, 0, 0, 0, 0, 0), (45, .invokevirtual 278, 3, 23, 30, 0, 0, 94, 0, 1), (48, .iinc 2 1, 3, 6, 0, 0, 0, 0, 0, 0), (51, .goto (-39), 3, 0, 0, 0, 0, 0, 0, 0), (54, .aload_n 0, 1, 3, 0, 0, 0, 0, 0, 0), (55, .getfield 19, 3, 14, 1, 0, 0, 8, 1, 3), (58, .getfield 236, 3, 14, 13, 0, 0, 7, 0, 0), (61, .ireturn, 1, 21, 0, 0, 0, 0, 0, 0)])]
def ee_me47 : ee_me := (8, ⟨"PepperTables", "rank", "()I"⟩, prog_1_method_41_code, 4, (some .int), ee_B47, 0, 0)
set_option maxRecDepth 100000 in
theorem ee_me47ok : ee_Mb ee_me47 = true := by decide +kernel
/- 48: PepperTables.reckonGains(II)V -/
def ee_B48 : List (Nat × List ee_en) := [(22, [(0, .iconst 0, 1, 0, 0, 0, 0, 0, 0, 0), (1, .istore_n 3, 1, 4, 0, 0, 0, 0, 0, 0), (2, .iload_n 3, 1, 2, 0, 0, 0, 0, 0, 0), (3, .iconst 4, 1, 0, 0, 0, 0, 0, 0, 0), (4, .if_icmp .ge 118, 3, 12, 0, 0, 0, 0, 0, 0), (7, .aload_n 0, 1, 3, 0, 0, 0, 0, 0, 0), (8, .getfield 30, 3, 14, 3, 0, 0, 8, 3, 3), (11, .aload_n 0, 1, 3, 0, 0, 0, 0, 0, 0), (12, .getfield 26, 3, 14, 2, 0, 0, 8, 2, 3), (15, .invokevirtual 253, 3, 23, 12, 0, 0, 139, 0, 1), (18, .aload_n 0, 1, 3, 0, 0, 0, 0, 0, 0), (19, .getfield 30, 3, 14, 3, 0, 0, 8, 3, 3)]), (36, [(22, .dup, 1, 11, 0, 0, 0, 0, 0, 0), (23, .getfield 123, 3, 14, 15, 0, 0, 6, 0, 0), (26, .iconst 1, 1, 0, 0, 0, 0, 0, 0, 0), (27, .iload_n 1, 1, 2, 0, 0, 0, 0, 0, 0), (28, .ishl, 1, 7, 0, 0, 0, 0, 0, 0), (29, .iconst 1, 1, 0, 0, 0, 0, 0, 0, 0), (30, .iload_n 2, 1, 2, 0, 0, 0, 0, 0, 0), (31, .ishl, 1, 7, 0, 0, 0, 0, 0, 0), (32, .ior, 1, 7, 0, 0, 0, 0, 0, 0), (33, .iconst (-1), 1, 0, 0, 0, 0, 0, 0, 0), (34, .ixor, 1, 7, 0, 0, 0, 0, 0, 0), (35, .iand, 1, 7, 0, 0, 0, 0, 0, 0)]), (56, [(36, .putfield 123, 3, 15, 15, 0, 0, 6, 0, 0), (39, .aload_n 0, 1, 3, 0, 0, 0, 0, 0, 0), (40, .getfield 30, 3, 14, 3, 0, 0, 8, 3, 3), (43, .dup, 1, 11, 0, 0, 0, 0, 0, 0), (44, .getfield 123, 3, 14, 15, 0, 0, 6, 0, 0), (47, .iload_n 3, 1, 2, 0, 0, 0, 0, 0, 0), (48, .iconst 1, 1, 0, 0, 0, 0, 0, 0, 0), (49, .ishr, 1, 7, 0, 0, 0, 0, 0, 0), (50, .iload_n 1, 1, 2, 0, 0, 0, 0, 0, 0), (51, .ishl, 1, 7, 0, 0, 0, 0, 0, 0), (52, .ior, 1, 7, 0, 0, 0, 0, 0, 0), (53, .putfield 123, 3, 15, 15, 0, 0, 6, 0, 0)]), (74, [(56, .aload_n 0, 1, 3, 0, 0, 0, 0, 0, 0), (57, .getfield 30, 3, 14, 3, 0, 0, 8, 3, 3), (60, .dup, 1, 11, 0, 0, 0, 0, 0, 0), (61, .getfield 123, 3, 14, 15, 0, 0, 6, 0, 0), (64, .iload_n 3, 1, 2, 0, 0, 0, 0, 0, 0), (65, .iconst 1, 1, 0, 0, 0, 0, 0, 0, 0), (66, .iand, 1, 7, 0, 0, 0, 0, 0, 0), (67, .iload_n 2, 1, 2, 0, 0, 0, 0, 0, 0), (68, .ishl, 1, 7, 0, 0, 0, 0, 0, 0), (69, .ior, 1, 7, 0, 0, 0, 0, 0, 0), (70, .putfield 123, 3, 15, 15, 0, 0, 6, 0, 0), (73, .aload_n 0, 1, 3, 0, 0, 0, 0, 0, 0)]), (97, [(74, .getfield 36, 3, 14, 4, 0, 0, 8, 4, 3), (77, .aload_n 0, 1, 3, 0, 0, 0, 0, 0, 0), (78, .getfield 19, 3, 14, 1, 0, 0, 8, 1, 3), (81, .aload_n 0, 1, 3, 0, 0, 0, 0, 0, 0), (82, .getfield 30, 3, 14, 3, 0, 0, 8, 3, 3), (85, .invokevirtual 256, 3, 23, 26, 0, 0, 103, 0, 2), (88, .istore 4, 2, 4, 0, 0, 0, 0, 0, 0), (90, .aload_n 0, 1, 3, 0, 0, 0, 0, 0, 0), (91, .getfield 72, 3, 14, 10, 0, 0, 8, 10, 3), (94, .iload_n 3, 1, 2, 0, 0, 0, 0, 0, 0), (95, .aload_n 0, 1, 3, 0, 0, 0, 0, 0, 0), (96, .iload_n 1, 1, 2, 0, 0, 0, 0, 0, 0)]), (119, [(97, .iload 4, 2, 2, 0, 0, 0, 0, 0, 0), (99, .invokevirtual 338, 3, 23, 44, 0, 0, 18, 0, 2), (102, .iastore, 1, 17, 0, 0, 0, 0, 0, 0), (103, .aload_n 0, 1, 3, 0, 0, 0, 0, 0, 0), (104, .getfield 75, 3, 14, 11, 0, 0, 8, 11, 3), (107, .iload_n 3, 1, 2, 0, 0, 0, 0, 0, 0), (108, .aload_n 0, 1, 3, 0, 0, 0, 0, 0, 0), (109, .iload_n 2, 1, 2, 0, 0, 0, 0, 0, 0), (110, .iload 4, 2, 2, 0, 0, 0, 0, 0, 0), (112, .invokevirtual 338, 3, 23, 44, 0, 0, 18, 0, 2), (115, .iastore, 1, 17, 0, 0, 0, 0, 0, 0), (116, .iinc 3 1, 3, 6, 0, 0, 0, 0, 0, 0)]), (123, [(119, .goto (-117), 3, 0, 0, 0, 0, 0, 0, 0), (122, .return_, 1, 21, 0, 0, 0, 0, 0, 0)])]
def ee_me48 : ee_me := (8, ⟨"PepperTables", "reckonGains", "(II)V"⟩, prog_1_method_70_code, 5, none, ee_B48, 0, 0)
set_option maxRecDepth 100000 in
theorem ee_me48ok : ee_Mb ee_me48 = true := by decide +kernel
/- 49: PepperTables.redo()Z -/
def ee_B49 : List (Nat × List ee_en) := [(12, [(0, .aload_n 0, 1, 3, 0, 0, 0, 0, 0, 0), (1, .getfield 43, 3, 14, 5, 0, 0, 8, 5, 3), (4, .aload_n 0, 1, 3, 0, 0, 0, 0, 0, 0), (5, .getfield 26, 3, 14, 2, 0, 0, 8, 2, 3), (8, .invokevirtual 206, 3, 23, 45, 0, 0, 77, 0, 1), (11, .ireturn, 1, 21, 0, 0, 0, 0, 0, 0)])]
def ee_me49 : ee_me := (8, ⟨"PepperTables", "redo", "()Z"⟩, prog_1_method_16_code, 1, (some .boolean), ee_B49, 0, 0)
set_option maxRecDepth 100000 in
theorem ee_me49ok : ee_Mb ee_me49 = true := by decide +kernel
/- 50: PepperTables.rise(I)I -/
def ee_B50 : List (Nat × List ee_en) := [(22, [(0, .aload_n 0, 1, 3, 0, 0, 0, 0, 0, 0), (1, .iload_n 1, 1, 2, 0, 0, 0, 0, 0, 0), (2, .invokevirtual 116, 3, 23, 28, 0, 0, 29, 0, 1), (5, .ifCond .eq 11, 3, 12, 0, 0, 0, 0, 0, 0), (8, .aload_n 0, 1, 3, 0, 0, 0, 0, 0, 0), (9, .iload_n 1, 1, 2, 0, 0, 0, 0, 0, 0), (10, .invokevirtual 172, 3, 23, 34, 0, 0, 31, 0, 1), (13, .ifCond .ne 5, 3, 12, 0, 0, 0, 0, 0, 0), (16, .iconst (-1), 1, 0, 0, 0, 0, 0, 0, 0), (17, .ireturn, 1, 21, 0, 0, 0, 0, 0, 0), (18, .aload_n 0, 1, 3, 0, 0, 0, 0, 0, 0), (19, .getfield 26, 3, 14, 2, 0, 0, 8, 2, 3)]), (40, [(22, .dup, 1, 11, 0, 0, 0, 0, 0, 0), (23, .getfield 123, 3, 14, 15, 0, 0, 6, 0, 0), (26, .iconst 1, 1, 0, 0, 0, 0, 0, 0, 0), (27, .iload_n 1, 1, 2, 0, 0, 0, 0, 0, 0), (28, .ishl, 1, 7, 0, 0, 0, 0, 0, 0), (29, .iconst (-1), 1, 0, 0, 0, 0, 0, 0, 0), (30, .ixor, 1, 7, 0, 0, 0, 0, 0, 0), (31, .iand, 1, 7, 0, 0, 0, 0, 0, 0), (32, .putfield 123, 3, 15, 15, 0, 0, 6, 0, 0), (35, .aload_n 0, 1, 3, 0, 0, 0, 0, 0, 0), (36, .getfield 43, 3, 14, 5, 0, 0, 8, 5, 3), (39, .aload_n 0, 1, 3, 0, 0, 0, 0, 0, 0)]), (57, [(40, .getfield 26, 3, 14, 2, 0, 0, 8, 2, 3), (43, .invokevirtual 175, 3, 23, 24, 0, 0, 75, 0, 1), (46, .aload_n 0, 1, 3, 0, 0, 0, 0, 0, 0), (47, .getfield 26, 3, 14, 2, 0, 0, 8, 2, 3), (50, .getfield 123, 3, 14, 15, 0, 0, 6, 0, 0), (53, .invokestatic 178, 3, 23, 21, 0, 0, 297, 1, 1), (56, .ireturn, 1, 21, 0, 0, 0, 0, 0, 0)])]
def ee_me50 : ee_me := (8, ⟨"PepperTables", "rise", "(I)I"⟩, prog_1_method_11_code, 2, (some .int), ee_B50, 0, 0)
set_option maxRecDepth 100000 in
theorem ee_me50ok : ee_Mb ee_me50 = true := by decide +kernel
/- 51: PepperTables.round(II)I -/
def ee_B51 : List (Nat × List ee_en) := [(24, [(0, .aload_n 0, 1, 3, 0, 0, 0, 0, 0, 0), (1, .getfield 57, 3, 14, 7, 0, 0, 8, 7, 3), (4, .iconst 0, 1, 0, 0, 0, 0, 0, 0, 0), (5, .putfield 103, 3, 15, 25, 0, 0, 3, 0, 0), (8, .aload_n 0, 1, 3, 0, 0, 0, 0, 0, 0), (9, .getfield 19, 3, 14, 1, 0, 0, 8, 1, 3), (12, .getfield 233, 3, 14, 14, 0, 0, 7, 1, 0), (15, .ifCond .eq 19, 3, 12, 0, 0, 0, 0, 0, 0), (18, .iload_n 1, 1, 2, 0, 0, 0, 0, 0, 0), (19, .ifCond .lt 15, 3, 12, 0, 0, 0, 0, 0, 0), (22, .iload_n 1, 1, 2, 0, 0, 0, 0, 0, 0), (23, .iconst 4, 1, 0, 0, 0, 0, 0, 0, 0)]), (44, [(24, .if_icmp .gt 10, 3, 12, 0, 0, 0, 0, 0, 0), (27, .iload_n 2, 1, 2, 0, 0, 0, 0, 0, 0), (28, .invokestatic 209, 3, 23, 14, 0, 0, 27, 1, 1), (31, .ifCond .ne 5, 3, 12, 0, 0, 0, 0, 0, 0), (34, .iconst (-1), 1, 0, 0, 0, 0, 0, 0, 0), (35, .ireturn, 1, 21, 0, 0, 0, 0, 0, 0), (36, .aload_n 0, 1, 3, 0, 0, 0, 0, 0, 0), (37, .iload_n 1, 1, 2, 0, 0, 0, 0, 0, 0), (38, .invokevirtual 243, 3, 23, 46, 0, 0, 57, 0, 1), (41, .iconst 1, 1, 0, 0, 0, 0, 0, 0, 0), (42, .istore_n 3, 1, 4, 0, 0, 0, 0, 0, 0), (43, .iconst 0, 1, 0, 0, 0, 0, 0, 0, 0)]), (68, [(44, .istore 4, 2, 4, 0, 0, 0, 0, 0, 0), (46, .iload 4, 2, 2, 0, 0, 0, 0, 0, 0), (48, .iload_n 1, 1, 2, 0, 0, 0, 0, 0, 0), (49, .if_icmp .ge 19, 3, 12, 0, 0, 0, 0, 0, 0), (52, .iload_n 3, 1, 2, 0, 0, 0, 0, 0, 0), (53, .aload_n 0, 1, 3, 0, 0, 0, 0, 0, 0), (54, .getfield 19, 3, 14, 1, 0, 0, 8, 1, 3), (57, .getfield 233, 3, 14, 14, 0, 0, 7, 1, 0), (60, .imul, 1, 7, 0, 0, 0, 0, 0, 0), (61, .istore_n 3, 1, 4, 0, 0, 0, 0, 0, 0), (62, .iinc 4 1, 3, 6, 0, 0, 0, 0, 0, 0), (65, .goto (-19), 3, 0, 0, 0, 0, 0, 0, 0)]), (87, [(68, .iconst 0, 1, 0, 0, 0, 0, 0, 0, 0), (69, .istore 4, 2, 4, 0, 0, 0, 0, 0, 0), (71, .iconst (-1), 1, 0, 0, 0, 0, 0, 0, 0), (72, .istore 5, 2, 4, 0, 0, 0, 0, 0, 0), (74, .iconst 0, 1, 0, 0, 0, 0, 0, 0, 0), (75, .istore 6, 2, 4, 0, 0, 0, 0, 0, 0), (77, .iload 6, 2, 2, 0, 0, 0, 0, 0, 0), (79, .iload_n 3, 1, 2, 0, 0, 0, 0, 0, 0), (80, .if_icmp .ge 33, 3, 12, 0, 0, 0, 0, 0, 0), (83, .aload_n 0, 1, 3, 0, 0, 0, 0, 0, 0), (84, .iload 6, 2, 2, 0, 0, 0, 0, 0, 0), (86, .iload_n 1, 1, 2, 0, 0, 0, 0, 0, 0)]), (114, [(87, .invokevirtual 246, 3, 23, 47, 0, 0, 58, 0, 2), (90, .istore 7, 2, 4, 0, 0, 0, 0, 0, 0), (92, .iload 7, 2, 2, 0, 0, 0, 0, 0, 0), (94, .iload 5, 2, 2, 0, 0, 0, 0, 0, 0), (96, .if_icmp .le 11, 3, 12, 0, 0, 0, 0, 0, 0), (99, .iload 6, 2, 2, 0, 0, 0, 0, 0, 0), (101, .istore 4, 2, 4, 0, 0, 0, 0, 0, 0), (103, .iload 7, 2, 2, 0, 0, 0, 0, 0, 0), (105, .istore 5, 2, 4, 0, 0, 0, 0, 0, 0), (107, .iinc 6 1, 3, 6, 0, 0, 0, 0, 0, 0), (110, .goto (-33), 3, 0, 0, 0, 0, 0, 0, 0), (113, .aload_n 0, 1, 3, 0, 0, 0, 0, 0, 0)]), (139, [(114, .iload 4, 2, 2, 0, 0, 0, 0, 0, 0), (116, .iload_n 1, 1, 2, 0, 0, 0, 0, 0, 0), (117, .invokevirtual 249, 3, 23, 48, 0, 0, 37, 0, 2), (120, .iload_n 2, 1, 2, 0, 0, 0, 0, 0, 0), (121, .ifCond .ne 12, 3, 12, 0, 0, 0, 0, 0, 0), (124, .iload 5, 2, 2, 0, 0, 0, 0, 0, 0), (126, .sipush 1000, 3, 0, 0, 0, 0, 0, 0, 0), (129, .idiv, 1, 8, 0, 0, 0, 0, 0, 0), (130, .goto 9, 3, 0, 0, 0, 0, 0, 0, 0), (133, .iload 5, 2, 2, 0, 0, 0, 0, 0, 0), (135, .sipush 1000, 3, 0, 0, 0, 0, 0, 0, 0), (138, .irem, 1, 8, 0, 0, 0, 0, 0, 0)]), (140, [(139, .ireturn, 1, 21, 0, 0, 0, 0, 0, 0)])]
def ee_me51 : ee_me := (8, ⟨"PepperTables", "round", "(II)I"⟩, prog_1_method_22_code, 8, (some .int), ee_B51, 0, 0)
set_option maxRecDepth 100000 in
theorem ee_me51ok : ee_Mb ee_me51 = true := by decide +kernel
/- 52: PepperTables.rows(I)I -/
def ee_B52 : List (Nat × List ee_en) := [(17, [(0, .aload_n 0, 1, 3, 0, 0, 0, 0, 0, 0), (1, .getfield 64, 3, 14, 8, 0, 0, 8, 8, 3), (4, .aload_n 0, 1, 3, 0, 0, 0, 0, 0, 0), (5, .getfield 19, 3, 14, 1, 0, 0, 8, 1, 3), (8, .aload_n 0, 1, 3, 0, 0, 0, 0, 0, 0), (9, .getfield 36, 3, 14, 4, 0, 0, 8, 4, 3), (12, .iload_n 1, 1, 2, 0, 0, 0, 0, 0, 0), (13, .invokevirtual 307, 3, 23, 15, 0, 0, 90, 0, 3), (16, .ireturn, 1, 21, 0, 0, 0, 0, 0, 0)])]
def ee_me52 : ee_me := (8, ⟨"PepperTables", "rows", "(I)I"⟩, prog_1_method_51_code, 2, (some .int), ee_B52, 0, 0)
set_option maxRecDepth 100000 in
theorem ee_me52ok : ee_Mb ee_me52 = true := by decide +kernel
/- 53: PepperTables.rumour(II)I -/
def ee_B53 : List (Nat × List ee_en) := [(20, [(0, .aload_n 0, 1, 3, 0, 0, 0, 0, 0, 0), (1, .iload_n 1, 1, 2, 0, 0, 0, 0, 0, 0), (2, .invokevirtual 116, 3, 23, 28, 0, 0, 29, 0, 1), (5, .ifCond .eq 11, 3, 12, 0, 0, 0, 0, 0, 0), (8, .aload_n 0, 1, 3, 0, 0, 0, 0, 0, 0), (9, .iload_n 2, 1, 2, 0, 0, 0, 0, 0, 0), (10, .invokevirtual 116, 3, 23, 28, 0, 0, 29, 0, 1), (13, .ifCond .ne 5, 3, 12, 0, 0, 0, 0, 0, 0), (16, .iconst (-1), 1, 0, 0, 0, 0, 0, 0, 0), (17, .ireturn, 1, 21, 0, 0, 0, 0, 0, 0), (18, .iconst 1, 1, 0, 0, 0, 0, 0, 0, 0), (19, .iload_n 1, 1, 2, 0, 0, 0, 0, 0, 0)]), (40, [(20, .ishl, 1, 7, 0, 0, 0, 0, 0, 0), (21, .istore_n 3, 1, 4, 0, 0, 0, 0, 0, 0), (22, .iconst 0, 1, 0, 0, 0, 0, 0, 0, 0), (23, .istore 4, 2, 4, 0, 0, 0, 0, 0, 0), (25, .iload 4, 2, 2, 0, 0, 0, 0, 0, 0), (27, .aload_n 0, 1, 3, 0, 0, 0, 0, 0, 0), (28, .getfield 19, 3, 14, 1, 0, 0, 8, 1, 3), (31, .getfield 236, 3, 14, 13, 0, 0, 7, 0, 0), (34, .if_icmp .ge 38, 3, 12, 0, 0, 0, 0, 0, 0), (37, .iload_n 3, 1, 2, 0, 0, 0, 0, 0, 0), (38, .iload_n 2, 1, 2, 0, 0, 0, 0, 0, 0), (39, .ishr, 1, 7, 0, 0, 0, 0, 0, 0)]), (61, [(40, .iconst 1, 1, 0, 0, 0, 0, 0, 0, 0), (41, .iand, 1, 7, 0, 0, 0, 0, 0, 0), (42, .ifCond .eq 6, 3, 12, 0, 0, 0, 0, 0, 0), (45, .iload 4, 2, 2, 0, 0, 0, 0, 0, 0), (47, .ireturn, 1, 21, 0, 0, 0, 0, 0, 0), (48, .iload_n 3, 1, 2, 0, 0, 0, 0, 0, 0), (49, .aload_n 0, 1, 3, 0, 0, 0, 0, 0, 0), (50, .getfield 19, 3, 14, 1, 0, 0, 8, 1, 3), (53, .iload_n 3, 1, 2, 0, 0, 0, 0, 0, 0), (54, .aload_n 0, 1, 3, 0, 0, 0, 0, 0, 0), (55, .getfield 26, 3, 14, 2, 0, 0, 8, 2, 3), (58, .getfield 137, 3, 14, 16, 0, 0, 6, 1, 0)]), (74, [(61, .invokevirtual 285, 3, 23, 49, 0, 0, 150, 0, 2), (64, .ior, 1, 7, 0, 0, 0, 0, 0, 0), (65, .istore_n 3, 1, 4, 0, 0, 0, 0, 0, 0), (66, .iinc 4 1, 3, 6, 0, 0, 0, 0, 0, 0), (69, .goto (-44), 3, 0, 0, 0, 0, 0, 0, 0), (72, .iconst (-1), 1, 0, 0, 0, 0, 0, 0, 0), (73, .ireturn, 1, 21, 0, 0, 0, 0, 0, 0)])]
def ee_me53 : ee_me := (8, ⟨"PepperTables", "rumour", "(II)I"⟩, prog_1_method_37_code, 5, (some .int), ee_B53, 0, 0)
set_option maxRecDepth 100000 in
theorem ee_me53ok : ee_Mb ee_me53 = true := by decide +kernel
/- 54: PepperTables.sack(II)I -/
def ee_B54 : List (Nat × List ee_en) := [(44, [(0, .aload_n 0, 1, 3, 0, 0, 0, 0, 0, 0), (1, .iload_n 1, 1, 2, 0, 0, 0, 0, 0, 0), (2, .invokevirtual 155, 3, 23, 11, 0, 0, 30, 0, 1), (5, .ifCond .ne 5, 3, 12, 0, 0, 0, 0, 0, 0), (8, .iconst (-1), 1, 0, 0, 0, 0, 0, 0, 0), (9, .ireturn, 1, 21, 0, 0, 0, 0, 0, 0), (10, .iload_n 2, 1, 2, 0, 0, 0, 0, 0, 0), (11, .tableswitch 68 0 2 #[25, 45, 58], 25, 13, 0, 0, 0, 0, 0, 0), (36, .aload_n 0, 1, 3, 0, 0, 0, 0, 0, 0), (37, .getfield 19, 3, 14, 1, 0, 0, 8, 1, 3), (40, .aload_n 0, 1, 3, 0, 0, 0, 0, 0, 0), (41, .getfield 26, 3, 14, 2, 0, 0, 8, 2, 3)]), (68, [(44, .aload_n 0, 1, 3, 0, 0, 0, 0, 0, 0), (45, .getfield 19, 3, 14, 1, 0, 0, 8, 1, 3), (48, .iload_n 1, 1, 2, 0, 0, 0, 0, 0, 0), (49, .invokevirtual 158, 3, 23, 19, 0, 0, 141, 0, 2), (52, .invokevirtual 162, 3, 23, 9, 0, 0, 149, 0, 1), (55, .ireturn, 1, 21, 0, 0, 0, 0, 0, 0), (56, .aload_n 0, 1, 3, 0, 0, 0, 0, 0, 0), (57, .getfield 26, 3, 14, 2, 0, 0, 8, 2, 3), (60, .aload_n 0, 1, 3, 0, 0, 0, 0, 0, 0), (61, .getfield 19, 3, 14, 1, 0, 0, 8, 1, 3), (64, .iload_n 1, 1, 2, 0, 0, 0, 0, 0, 0), (65, .invokevirtual 158, 3, 23, 19, 0, 0, 141, 0, 2)]), (81, [(68, .ireturn, 1, 21, 0, 0, 0, 0, 0, 0), (69, .aload_n 0, 1, 3, 0, 0, 0, 0, 0, 0), (70, .getfield 26, 3, 14, 2, 0, 0, 8, 2, 3), (73, .getfield 165, 3, 14, 30, 0, 0, 6, 5, 3), (76, .iload_n 1, 1, 2, 0, 0, 0, 0, 0, 0), (77, .iaload, 1, 22, 0, 0, 0, 0, 0, 0), (78, .ireturn, 1, 21, 0, 0, 0, 0, 0, 0), (79, .iconst (-1), 1, 0, 0, 0, 0, 0, 0, 0), (80, .ireturn, 1, 21, 0, 0, 0, 0, 0, 0)])]
def ee_me54 : ee_me := (8, ⟨"PepperTables", "sack", "(II)I"⟩, prog_1_method_8_code, 3, (some .int), ee_B54, 0, 0)
set_option maxRecDepth 100000 in
theorem ee_me54ok : ee_Mb ee_me54 = true := by decide +kernel
end
section
/- 55: PepperTables.saidIfExchanged(III)I -/
def ee_B55 : List (Nat × List ee_en) := [(22, [(0, .aload_n 0, 1, 3, 0, 0, 0, 0, 0, 0), (1, .getfield 26, 3, 14, 2, 0, 0, 8, 2, 3), (4, .getfield 152, 3, 14, 27, 0, 0, 6, 4, 3), (7, .iload_n 1, 1, 2, 0, 0, 0, 0, 0, 0), (8, .iaload, 1, 22, 0, 0, 0, 0, 0, 0), (9, .istore 4, 2, 4, 0, 0, 0, 0, 0, 0), (11, .aload_n 0, 1, 3, 0, 0, 0, 0, 0, 0), (12, .getfield 26, 3, 14, 2, 0, 0, 8, 2, 3), (15, .getfield 152, 3, 14, 27, 0, 0, 6, 4, 3), (18, .iload_n 2, 1, 2, 0, 0, 0, 0, 0, 0), (19, .iaload, 1, 22, 0, 0, 0, 0, 0, 0), (20, .istore 5, 2, 4, 0, 0, 0, 0, 0, 0)]), (46, [(22, .aload_n 0, 1, 3, 0, 0, 0, 0, 0, 0), (23, .iload_n 1, 1, 2, 0, 0, 0, 0, 0, 0), (24, .invokevirtual 186, 3, 23, 10, 0, 0, 28, 0, 1), (27, .ifCond .eq 30, 3, 12, 0, 0, 0, 0, 0, 0), (30, .aload_n 0, 1, 3, 0, 0, 0, 0, 0, 0), (31, .iload_n 2, 1, 2, 0, 0, 0, 0, 0, 0), (32, .invokevirtual 186, 3, 23, 10, 0, 0, 28, 0, 1), (35, .ifCond .eq 22, 3, 12, 0, 0, 0, 0, 0, 0), (38, .iload 4, 2, 2, 0, 0, 0, 0, 0, 0), (40, .iconst (-1), 1, 0, 0, 0, 0, 0, 0, 0), (41, .if_icmp .eq 16, 3, 12, 0, 0, 0, 0, 0, 0), (44, .iload 5, 2, 2, 0, 0, 0, 0, 0, 0)]), (70, [(46, .iconst (-1), 1, 0, 0, 0, 0, 0, 0, 0), (47, .if_icmp .eq 10, 3, 12, 0, 0, 0, 0, 0, 0), (50, .iload 4, 2, 2, 0, 0, 0, 0, 0, 0), (52, .iload 5, 2, 2, 0, 0, 0, 0, 0, 0), (54, .if_icmp .ne 5, 3, 12, 0, 0, 0, 0, 0, 0), (57, .iconst (-1), 1, 0, 0, 0, 0, 0, 0, 0), (58, .ireturn, 1, 21, 0, 0, 0, 0, 0, 0), (59, .aload_n 0, 1, 3, 0, 0, 0, 0, 0, 0), (60, .getfield 30, 3, 14, 3, 0, 0, 8, 3, 3), (63, .aload_n 0, 1, 3, 0, 0, 0, 0, 0, 0), (64, .getfield 26, 3, 14, 2, 0, 0, 8, 2, 3), (67, .invokevirtual 253, 3, 23, 12, 0, 0, 139, 0, 1)]), (92, [(70, .aload_n 0, 1, 3, 0, 0, 0, 0, 0, 0), (71, .getfield 30, 3, 14, 3, 0, 0, 8, 3, 3), (74, .getfield 152, 3, 14, 27, 0, 0, 6, 4, 3), (77, .iload_n 1, 1, 2, 0, 0, 0, 0, 0, 0), (78, .iload 5, 2, 2, 0, 0, 0, 0, 0, 0), (80, .iastore, 1, 17, 0, 0, 0, 0, 0, 0), (81, .aload_n 0, 1, 3, 0, 0, 0, 0, 0, 0), (82, .getfield 30, 3, 14, 3, 0, 0, 8, 3, 3), (85, .getfield 152, 3, 14, 27, 0, 0, 6, 4, 3), (88, .iload_n 2, 1, 2, 0, 0, 0, 0, 0, 0), (89, .iload 4, 2, 2, 0, 0, 0, 0, 0, 0), (91, .iastore, 1, 17, 0, 0, 0, 0, 0, 0)]), (116, [(92, .iload_n 3, 1, 2, 0, 0, 0, 0, 0, 0), (93, .aload_n 0, 1, 3, 0, 0, 0, 0, 0, 0), (94, .getfield 26, 3, 14, 2, 0, 0, 8, 2, 3), (97, .aload_n 0, 1, 3, 0, 0, 0, 0, 0, 0), (98, .getfield 19, 3, 14, 1, 0, 0, 8, 1, 3), (101, .iload 4, 2, 2, 0, 0, 0, 0, 0, 0), (103, .invokevirtual 158, 3, 23, 19, 0, 0, 141, 0, 2), (106, .aload_n 0, 1, 3, 0, 0, 0, 0, 0, 0), (107, .getfield 26, 3, 14, 2, 0, 0, 8, 2, 3), (110, .aload_n 0, 1, 3, 0, 0, 0, 0, 0, 0), (111, .getfield 19, 3, 14, 1, 0, 0, 8, 1, 3), (114, .iload 5, 2, 2, 0, 0, 0, 0, 0, 0)]), (136, [(116, .invokevirtual 158, 3, 23, 19, 0, 0, 141, 0, 2), (119, .ior, 1, 7, 0, 0, 0, 0, 0, 0), (120, .iconst (-1), 1, 0, 0, 0, 0, 0, 0, 0), (121, .ixor, 1, 7, 0, 0, 0, 0, 0, 0), (122, .iand, 1, 7, 0, 0, 0, 0, 0, 0), (123, .istore 6, 2, 4, 0, 0, 0, 0, 0, 0), (125, .iload 6, 2, 2, 0, 0, 0, 0, 0, 0), (127, .aload_n 0, 1, 3, 0, 0, 0, 0, 0, 0), (128, .getfield 36, 3, 14, 4, 0, 0, 8, 4, 3), (131, .aload_n 0, 1, 3, 0, 0, 0, 0, 0, 0), (132, .getfield 19, 3, 14, 1, 0, 0, 8, 1, 3), (135, .aload_n 0, 1, 3, 0, 0, 0, 0, 0, 0)]), (162, [(136, .getfield 30, 3, 14, 3, 0, 0, 8, 3, 3), (139, .iload 4, 2, 2, 0, 0, 0, 0, 0, 0), (141, .invokevirtual 168, 3, 23, 20, 0, 0, 101, 0, 3), (144, .ior, 1, 7, 0, 0, 0, 0, 0, 0), (145, .aload_n 0, 1, 3, 0, 0, 0, 0, 0, 0), (146, .getfield 36, 3, 14, 4, 0, 0, 8, 4, 3), (149, .aload_n 0, 1, 3, 0, 0, 0, 0, 0, 0), (150, .getfield 19, 3, 14, 1, 0, 0, 8, 1, 3), (153, .aload_n 0, 1, 3, 0, 0, 0, 0, 0, 0), (154, .getfield 30, 3, 14, 3, 0, 0, 8, 3, 3), (157, .iload 5, 2, 2, 0, 0, 0, 0, 0, 0), (159, .invokevirtual 168, 3, 23, 20, 0, 0, 101, 0, 3)]), (167, [(162, .ior, 1, 7, 0, 0, 0, 0, 0, 0), (163, .invokestatic 178, 3, 23, 21, 0, 0, 297, 1, 1), (166, .ireturn, 1, 21, 0, 0, 0, 0, 0, 0)])]
def ee_me55 : ee_me := (8, ⟨"PepperTables", "saidIfExchanged", "(III)I"⟩, prog_1_method_69_code, 7, (some .int), ee_B55, 0, 0)
set_option maxRecDepth 100000 in
theorem ee_me55ok : ee_Mb ee_me55 = true := by decide +kernel
/- 56: PepperTables.scandal()I -/
def ee_B56 : List (Nat × List ee_en) := [(15, [(0, .aload_n 0, 1, 3, 0, 0, 0, 0, 0, 0), (1, .getfield 19, 3, 14, 1, 0, 0, 8, 1, 3), (4, .aload_n 0, 1, 3, 0, 0, 0, 0, 0, 0), (5, .getfield 26, 3, 14, 2, 0, 0, 8, 2, 3), (8, .getfield 137, 3, 14, 16, 0, 0, 6, 1, 0), (11, .invokevirtual 162, 3, 23, 9, 0, 0, 149, 0, 1), (14, .ireturn, 1, 21, 0, 0, 0, 0, 0, 0)])]
def ee_me56 : ee_me := (8, ⟨"PepperTables", "scandal", "()I"⟩, prog_1_method_44_code, 1, (some .int), ee_B56, 0, 0)
set_option maxRecDepth 100000 in
theorem ee_me56ok : ee_Mb ee_me56 = true := by decide +kernel
/- 57: PepperTables.scoreGrindings(I)V -/
def ee_B57 : List (Nat × List ee_en) := [(24, [(0, .aload_n 0, 1, 3, 0, 0, 0, 0, 0, 0), (1, .getfield 30, 3, 14, 3, 0, 0, 8, 3, 3), (4, .aload_n 0, 1, 3, 0, 0, 0, 0, 0, 0), (5, .getfield 26, 3, 14, 2, 0, 0, 8, 2, 3), (8, .invokevirtual 253, 3, 23, 12, 0, 0, 139, 0, 1), (11, .iconst 0, 1, 0, 0, 0, 0, 0, 0, 0), (12, .istore_n 2, 1, 4, 0, 0, 0, 0, 0, 0), (13, .iload_n 2, 1, 2, 0, 0, 0, 0, 0, 0), (14, .aload_n 0, 1, 3, 0, 0, 0, 0, 0, 0), (15, .getfield 19, 3, 14, 1, 0, 0, 8, 1, 3), (18, .getfield 233, 3, 14, 14, 0, 0, 7, 1, 0), (21, .if_icmp .ge 74, 3, 12, 0, 0, 0, 0, 0, 0)]), (44, [(24, .iconst 0, 1, 0, 0, 0, 0, 0, 0, 0), (25, .istore_n 3, 1, 4, 0, 0, 0, 0, 0, 0), (26, .iload_n 3, 1, 2, 0, 0, 0, 0, 0, 0), (27, .iload_n 1, 1, 2, 0, 0, 0, 0, 0, 0), (28, .if_icmp .ge 61, 3, 12, 0, 0, 0, 0, 0, 0), (31, .iload_n 3, 1, 2, 0, 0, 0, 0, 0, 0), (32, .iconst 4, 1, 0, 0, 0, 0, 0, 0, 0), (33, .if_icmp .ge 56, 3, 12, 0, 0, 0, 0, 0, 0), (36, .aload_n 0, 1, 3, 0, 0, 0, 0, 0, 0), (37, .getfield 36, 3, 14, 4, 0, 0, 8, 4, 3), (40, .aload_n 0, 1, 3, 0, 0, 0, 0, 0, 0), (41, .getfield 19, 3, 14, 1, 0, 0, 8, 1, 3)]), (63, [(44, .aload_n 0, 1, 3, 0, 0, 0, 0, 0, 0), (45, .getfield 30, 3, 14, 3, 0, 0, 8, 3, 3), (48, .iload_n 2, 1, 2, 0, 0, 0, 0, 0, 0), (49, .invokevirtual 183, 3, 23, 13, 0, 0, 109, 0, 3), (52, .istore 4, 2, 4, 0, 0, 0, 0, 0, 0), (54, .aload_n 0, 1, 3, 0, 0, 0, 0, 0, 0), (55, .getfield 68, 3, 14, 9, 0, 0, 8, 9, 3), (58, .iload_n 2, 1, 2, 0, 0, 0, 0, 0, 0), (59, .iconst 4, 1, 0, 0, 0, 0, 0, 0, 0), (60, .imul, 1, 7, 0, 0, 0, 0, 0, 0), (61, .iload_n 3, 1, 2, 0, 0, 0, 0, 0, 0), (62, .iadd, 1, 7, 0, 0, 0, 0, 0, 0)]), (89, [(63, .iload 4, 2, 2, 0, 0, 0, 0, 0, 0), (65, .invokestatic 178, 3, 23, 21, 0, 0, 297, 1, 1), (68, .sipush 1000, 3, 0, 0, 0, 0, 0, 0, 0), (71, .imul, 1, 7, 0, 0, 0, 0, 0, 0), (72, .aload_n 0, 1, 3, 0, 0, 0, 0, 0, 0), (73, .getfield 19, 3, 14, 1, 0, 0, 8, 1, 3), (76, .iload 4, 2, 2, 0, 0, 0, 0, 0, 0), (78, .invokevirtual 162, 3, 23, 9, 0, 0, 149, 0, 1), (81, .iadd, 1, 7, 0, 0, 0, 0, 0, 0), (82, .iastore, 1, 17, 0, 0, 0, 0, 0, 0), (83, .iinc 3 1, 3, 6, 0, 0, 0, 0, 0, 0), (86, .goto (-60), 3, 0, 0, 0, 0, 0, 0, 0)]), (96, [(89, .iinc 2 1, 3, 6, 0, 0, 0, 0, 0, 0), (92, .goto (-79), 3, 0, 0, 0, 0, 0, 0, 0), (95, .return_, 1, 21, 0, 0, 0, 0, 0, 0)])]
def ee_me57 : ee_me := (8, ⟨"PepperTables", "scoreGrindings", "(I)V"⟩, prog_1_method_66_code, 5, none, ee_B57, 0, 0)
set_option maxRecDepth 100000 in
theorem ee_me57ok : ee_Mb ee_me57 = true := by decide +kernel
/- 58: PepperTables.scoreOfRow(II)I -/
def ee_B58 : List (Nat × List ee_en) := [(19, [(0, .iconst 0, 1, 0, 0, 0, 0, 0, 0, 0), (1, .istore_n 3, 1, 4, 0, 0, 0, 0, 0, 0), (2, .iload_n 1, 1, 2, 0, 0, 0, 0, 0, 0), (3, .istore 4, 2, 4, 0, 0, 0, 0, 0, 0), (5, .iconst 0, 1, 0, 0, 0, 0, 0, 0, 0), (6, .istore 5, 2, 4, 0, 0, 0, 0, 0, 0), (8, .iconst 0, 1, 0, 0, 0, 0, 0, 0, 0), (9, .istore 6, 2, 4, 0, 0, 0, 0, 0, 0), (11, .iload 6, 2, 2, 0, 0, 0, 0, 0, 0), (13, .iload_n 2, 1, 2, 0, 0, 0, 0, 0, 0), (14, .if_icmp .ge 87, 3, 12, 0, 0, 0, 0, 0, 0), (17, .iload 6, 2, 2, 0, 0, 0, 0, 0, 0)]), (45, [(19, .iconst 4, 1, 0, 0, 0, 0, 0, 0, 0), (20, .if_icmp .ge 81, 3, 12, 0, 0, 0, 0, 0, 0), (23, .aload_n 0, 1, 3, 0, 0, 0, 0, 0, 0), (24, .getfield 19, 3, 14, 1, 0, 0, 8, 1, 3), (27, .getfield 233, 3, 14, 14, 0, 0, 7, 1, 0), (30, .ifCond .le 71, 3, 12, 0, 0, 0, 0, 0, 0), (33, .iload 4, 2, 2, 0, 0, 0, 0, 0, 0), (35, .aload_n 0, 1, 3, 0, 0, 0, 0, 0, 0), (36, .getfield 19, 3, 14, 1, 0, 0, 8, 1, 3), (39, .getfield 233, 3, 14, 14, 0, 0, 7, 1, 0), (42, .irem, 1, 8, 0, 0, 0, 0, 0, 0), (43, .istore 7, 2, 4, 0, 0, 0, 0, 0, 0)]), (66, [(45, .iload 4, 2, 2, 0, 0, 0, 0, 0, 0), (47, .aload_n 0, 1, 3, 0, 0, 0, 0, 0, 0), (48, .getfield 19, 3, 14, 1, 0, 0, 8, 1, 3), (51, .getfield 233, 3, 14, 14, 0, 0, 7, 1, 0), (54, .idiv, 1, 8, 0, 0, 0, 0, 0, 0), (55, .istore 4, 2, 4, 0, 0, 0, 0, 0, 0), (57, .iload 5, 2, 2, 0, 0, 0, 0, 0, 0), (59, .iconst 4, 1, 0, 0, 0, 0, 0, 0, 0), (60, .iload 7, 2, 2, 0, 0, 0, 0, 0, 0), (62, .imul, 1, 7, 0, 0, 0, 0, 0, 0), (63, .ishr, 1, 7, 0, 0, 0, 0, 0, 0), (64, .bipush 15, 2, 0, 0, 0, 0, 0, 0, 0)]), (83, [(66, .iand, 1, 7, 0, 0, 0, 0, 0, 0), (67, .istore 8, 2, 4, 0, 0, 0, 0, 0, 0), (69, .iload_n 3, 1, 2, 0, 0, 0, 0, 0, 0), (70, .aload_n 0, 1, 3, 0, 0, 0, 0, 0, 0), (71, .getfield 68, 3, 14, 9, 0, 0, 8, 9, 3), (74, .iload 7, 2, 2, 0, 0, 0, 0, 0, 0), (76, .iconst 4, 1, 0, 0, 0, 0, 0, 0, 0), (77, .imul, 1, 7, 0, 0, 0, 0, 0, 0), (78, .iload 8, 2, 2, 0, 0, 0, 0, 0, 0), (80, .iadd, 1, 7, 0, 0, 0, 0, 0, 0), (81, .iaload, 1, 22, 0, 0, 0, 0, 0, 0), (82, .iadd, 1, 7, 0, 0, 0, 0, 0, 0)]), (102, [(83, .istore_n 3, 1, 4, 0, 0, 0, 0, 0, 0), (84, .iload 5, 2, 2, 0, 0, 0, 0, 0, 0), (86, .iconst 1, 1, 0, 0, 0, 0, 0, 0, 0), (87, .iconst 4, 1, 0, 0, 0, 0, 0, 0, 0), (88, .iload 7, 2, 2, 0, 0, 0, 0, 0, 0), (90, .imul, 1, 7, 0, 0, 0, 0, 0, 0), (91, .ishl, 1, 7, 0, 0, 0, 0, 0, 0), (92, .iadd, 1, 7, 0, 0, 0, 0, 0, 0), (93, .istore 5, 2, 4, 0, 0, 0, 0, 0, 0), (95, .iinc 6 1, 3, 6, 0, 0, 0, 0, 0, 0), (98, .goto (-87), 3, 0, 0, 0, 0, 0, 0, 0), (101, .iload_n 3, 1, 2, 0, 0, 0, 0, 0, 0)]), (103, [(102, .ireturn, 1, 21, 0, 0, 0, 0, 0, 0)])]
def ee_me58 : ee_me := (8, ⟨"PepperTables", "scoreOfRow", "(II)I"⟩, prog_1_method_67_code, 9, (some .int), ee_B58, 0, 0)
set_option maxRecDepth 100000 in
theorem ee_me58ok : ee_Mb ee_me58 = true := by decide +kernel
/- 59: PepperTables.send(II)I -/
def ee_B59 : List (Nat × List ee_en) := [(22, [(0, .aload_n 0, 1, 3, 0, 0, 0, 0, 0, 0), (1, .iload_n 1, 1, 2, 0, 0, 0, 0, 0, 0), (2, .invokevirtual 155, 3, 23, 11, 0, 0, 30, 0, 1), (5, .ifCond .eq 10, 3, 12, 0, 0, 0, 0, 0, 0), (8, .iload_n 2, 1, 2, 0, 0, 0, 0, 0, 0), (9, .invokestatic 209, 3, 23, 14, 0, 0, 27, 1, 1), (12, .ifCond .ne 5, 3, 12, 0, 0, 0, 0, 0, 0), (15, .iconst (-1), 1, 0, 0, 0, 0, 0, 0, 0), (16, .ireturn, 1, 21, 0, 0, 0, 0, 0, 0), (17, .aload_n 0, 1, 3, 0, 0, 0, 0, 0, 0), (18, .getfield 36, 3, 14, 4, 0, 0, 8, 4, 3), (21, .aload_n 0, 1, 3, 0, 0, 0, 0, 0, 0)]), (44, [(22, .getfield 19, 3, 14, 1, 0, 0, 8, 1, 3), (25, .aload_n 0, 1, 3, 0, 0, 0, 0, 0, 0), (26, .getfield 26, 3, 14, 2, 0, 0, 8, 2, 3), (29, .iload_n 1, 1, 2, 0, 0, 0, 0, 0, 0), (30, .invokevirtual 215, 3, 23, 50, 0, 0, 105, 0, 3), (33, .iconst (-1), 1, 0, 0, 0, 0, 0, 0, 0), (34, .istore_n 3, 1, 4, 0, 0, 0, 0, 0, 0), (35, .iconst 0, 1, 0, 0, 0, 0, 0, 0, 0), (36, .istore 4, 2, 4, 0, 0, 0, 0, 0, 0), (38, .iload 4, 2, 2, 0, 0, 0, 0, 0, 0), (40, .aload_n 0, 1, 3, 0, 0, 0, 0, 0, 0), (41, .getfield 26, 3, 14, 2, 0, 0, 8, 2, 3)]), (69, [(44, .getfield 123, 3, 14, 15, 0, 0, 6, 0, 0), (47, .if_icmp .gt 74, 3, 12, 0, 0, 0, 0, 0, 0), (50, .iload 4, 2, 2, 0, 0, 0, 0, 0, 0), (52, .aload_n 0, 1, 3, 0, 0, 0, 0, 0, 0), (53, .getfield 26, 3, 14, 2, 0, 0, 8, 2, 3), (56, .getfield 123, 3, 14, 15, 0, 0, 6, 0, 0), (59, .iconst (-1), 1, 0, 0, 0, 0, 0, 0, 0), (60, .ixor, 1, 7, 0, 0, 0, 0, 0, 0), (61, .iand, 1, 7, 0, 0, 0, 0, 0, 0), (62, .ifCond .ne 7, 3, 12, 0, 0, 0, 0, 0, 0), (65, .iconst 1, 1, 0, 0, 0, 0, 0, 0, 0), (66, .goto 4, 3, 0, 0, 0, 0, 0, 0, 0)]), (94, [(69, .iconst 0, 1, 0, 0, 0, 0, 0, 0, 0), (70, .istore 5, 2, 4, 0, 0, 0, 0, 0, 0), (72, .iload 5, 2, 2, 0, 0, 0, 0, 0, 0), (74, .ifCond .eq 41, 3, 12, 0, 0, 0, 0, 0, 0), (77, .aload_n 0, 1, 3, 0, 0, 0, 0, 0, 0), (78, .getfield 36, 3, 14, 4, 0, 0, 8, 4, 3), (81, .aload_n 0, 1, 3, 0, 0, 0, 0, 0, 0), (82, .getfield 19, 3, 14, 1, 0, 0, 8, 1, 3), (85, .aload_n 0, 1, 3, 0, 0, 0, 0, 0, 0), (86, .getfield 26, 3, 14, 2, 0, 0, 8, 2, 3), (89, .getfield 123, 3, 14, 15, 0, 0, 6, 0, 0), (92, .iload 4, 2, 2, 0, 0, 0, 0, 0, 0)]), (118, [(94, .iconst (-1), 1, 0, 0, 0, 0, 0, 0, 0), (95, .ixor, 1, 7, 0, 0, 0, 0, 0, 0), (96, .iand, 1, 7, 0, 0, 0, 0, 0, 0), (97, .invokevirtual 222, 3, 23, 51, 0, 0, 102, 0, 2), (100, .ifCond .ne 15, 3, 12, 0, 0, 0, 0, 0, 0), (103, .iload 4, 2, 2, 0, 0, 0, 0, 0, 0), (105, .iload_n 3, 1, 2, 0, 0, 0, 0, 0, 0), (106, .invokestatic 225, 3, 23, 52, 0, 0, 32, 1, 2), (109, .ifCond .eq 6, 3, 12, 0, 0, 0, 0, 0, 0), (112, .iload 4, 2, 2, 0, 0, 0, 0, 0, 0), (114, .istore_n 3, 1, 4, 0, 0, 0, 0, 0, 0), (115, .iinc 4 1, 3, 6, 0, 0, 0, 0, 0, 0)]), (127, [(118, .goto (-80), 3, 0, 0, 0, 0, 0, 0, 0), (121, .iload_n 3, 1, 2, 0, 0, 0, 0, 0, 0), (122, .iload_n 2, 1, 2, 0, 0, 0, 0, 0, 0), (123, .invokestatic 229, 3, 23, 53, 0, 0, 8, 1, 2), (126, .ireturn, 1, 21, 0, 0, 0, 0, 0, 0)])]
def ee_me59 : ee_me := (8, ⟨"PepperTables", "send", "(II)I"⟩, prog_1_method_19_code, 6, (some .int), ee_B59, 0, 0)
set_option maxRecDepth 100000 in
theorem ee_me59ok : ee_Mb ee_me59 = true := by decide +kernel
/- 60: PepperTables.shyest(I)I -/
def ee_B60 : List (Nat × List ee_en) := [(24, [(0, .aload_n 0, 1, 3, 0, 0, 0, 0, 0, 0), (1, .iload_n 1, 1, 2, 0, 0, 0, 0, 0, 0), (2, .invokevirtual 186, 3, 23, 10, 0, 0, 28, 0, 1), (5, .ifCond .eq 19, 3, 12, 0, 0, 0, 0, 0, 0), (8, .aload_n 0, 1, 3, 0, 0, 0, 0, 0, 0), (9, .aload_n 0, 1, 3, 0, 0, 0, 0, 0, 0), (10, .getfield 26, 3, 14, 2, 0, 0, 8, 2, 3), (13, .getfield 152, 3, 14, 27, 0, 0, 6, 4, 3), (16, .iload_n 1, 1, 2, 0, 0, 0, 0, 0, 0), (17, .iaload, 1, 22, 0, 0, 0, 0, 0, 0), (18, .invokevirtual 155, 3, 23, 11, 0, 0, 30, 0, 1), (21, .ifCond .ne 5, 3, 12, 0, 0, 0, 0, 0, 0)]), (44, [(24, .iconst (-1), 1, 0, 0, 0, 0, 0, 0, 0), (25, .ireturn, 1, 21, 0, 0, 0, 0, 0, 0), (26, .aload_n 0, 1, 3, 0, 0, 0, 0, 0, 0), (27, .getfield 19, 3, 14, 1, 0, 0, 8, 1, 3), (30, .aload_n 0, 1, 3, 0, 0, 0, 0, 0, 0), (31, .getfield 26, 3, 14, 2, 0, 0, 8, 2, 3), (34, .getfield 123, 3, 14, 15, 0, 0, 6, 0, 0), (37, .invokevirtual 260, 3, 23, 41, 0, 0, 151, 0, 1), (40, .iload_n 1, 1, 2, 0, 0, 0, 0, 0, 0), (41, .ishr, 1, 7, 0, 0, 0, 0, 0, 0), (42, .iconst 1, 1, 0, 0, 0, 0, 0, 0, 0), (43, .iand, 1, 7, 0, 0, 0, 0, 0, 0)]), (68, [(44, .ifCond .ne 5, 3, 12, 0, 0, 0, 0, 0, 0), (47, .iconst (-1), 1, 0, 0, 0, 0, 0, 0, 0), (48, .ireturn, 1, 21, 0, 0, 0, 0, 0, 0), (49, .aload_n 0, 1, 3, 0, 0, 0, 0, 0, 0), (50, .getfield 36, 3, 14, 4, 0, 0, 8, 4, 3), (53, .aload_n 0, 1, 3, 0, 0, 0, 0, 0, 0), (54, .getfield 19, 3, 14, 1, 0, 0, 8, 1, 3), (57, .aload_n 0, 1, 3, 0, 0, 0, 0, 0, 0), (58, .getfield 26, 3, 14, 2, 0, 0, 8, 2, 3), (61, .aload_n 0, 1, 3, 0, 0, 0, 0, 0, 0), (62, .getfield 26, 3, 14, 2, 0, 0, 8, 2, 3), (65, .getfield 152, 3, 14, 27, 0, 0, 6, 4, 3)]), (91, [(68, .iload_n 1, 1, 2, 0, 0, 0, 0, 0, 0), (69, .iaload, 1, 22, 0, 0, 0, 0, 0, 0), (70, .aload_n 0, 1, 3, 0, 0, 0, 0, 0, 0), (71, .getfield 26, 3, 14, 2, 0, 0, 8, 2, 3), (74, .getfield 123, 3, 14, 15, 0, 0, 6, 0, 0), (77, .invokestatic 178, 3, 23, 21, 0, 0, 297, 1, 1), (80, .invokevirtual 263, 3, 23, 54, 0, 0, 108, 0, 4), (83, .bipush 9, 2, 0, 0, 0, 0, 0, 0, 0), (85, .istore_n 2, 1, 4, 0, 0, 0, 0, 0, 0), (86, .iload_n 2, 1, 2, 0, 0, 0, 0, 0, 0), (87, .ifCond .lt 27, 3, 12, 0, 0, 0, 0, 0, 0), (90, .aload_n 0, 1, 3, 0, 0, 0, 0, 0, 0)]), (115, [(91, .getfield 36, 3, 14, 4, 0, 0, 8, 4, 3), (94, .aload_n 0, 1, 3, 0, 0, 0, 0, 0, 0), (95, .getfield 19, 3, 14, 1, 0, 0, 8, 1, 3), (98, .iload_n 1, 1, 2, 0, 0, 0, 0, 0, 0), (99, .iload_n 2, 1, 2, 0, 0, 0, 0, 0, 0), (100, .invokevirtual 267, 3, 23, 55, 0, 0, 106, 0, 3), (103, .ifCond .eq 5, 3, 12, 0, 0, 0, 0, 0, 0), (106, .iload_n 2, 1, 2, 0, 0, 0, 0, 0, 0), (107, .ireturn, 1, 21, 0, 0, 0, 0, 0, 0), (108, .iinc 2 (-1), 3, 6, 0, 0, 0, 0, 0, 0), (111, .goto (-25), 3, 0, 0, 0, 0, 0, 0, 0), (114, .iconst (-1), 1, 0, 0, 0, 0, 0, 0, 0)]), (116, [(115, .ireturn, 1, 21, 0, 0, 0, 0, 0, 0)])]
def ee_me60 : ee_me := (8, ⟨"PepperTables", "shyest", "(I)I"⟩, prog_1_method_29_code, 3, (some .int), ee_B60, 0, 0)
set_option maxRecDepth 100000 in
theorem ee_me60ok : ee_Mb ee_me60 = true := by decide +kernel
/- 61: PepperTables.sit(I)I -/
def ee_B61 : List (Nat × List ee_en) := [(22, [(0, .aload_n 0, 1, 3, 0, 0, 0, 0, 0, 0), (1, .iload_n 1, 1, 2, 0, 0, 0, 0, 0, 0), (2, .invokevirtual 116, 3, 23, 28, 0, 0, 29, 0, 1), (5, .ifCond .eq 11, 3, 12, 0, 0, 0, 0, 0, 0), (8, .aload_n 0, 1, 3, 0, 0, 0, 0, 0, 0), (9, .iload_n 1, 1, 2, 0, 0, 0, 0, 0, 0), (10, .invokevirtual 172, 3, 23, 34, 0, 0, 31, 0, 1), (13, .ifCond .eq 5, 3, 12, 0, 0, 0, 0, 0, 0), (16, .iconst (-1), 1, 0, 0, 0, 0, 0, 0, 0), (17, .ireturn, 1, 21, 0, 0, 0, 0, 0, 0), (18, .aload_n 0, 1, 3, 0, 0, 0, 0, 0, 0), (19, .getfield 26, 3, 14, 2, 0, 0, 8, 2, 3)]), (44, [(22, .dup, 1, 11, 0, 0, 0, 0, 0, 0), (23, .getfield 123, 3, 14, 15, 0, 0, 6, 0, 0), (26, .iconst 1, 1, 0, 0, 0, 0, 0, 0, 0), (27, .iload_n 1, 1, 2, 0, 0, 0, 0, 0, 0), (28, .ishl, 1, 7, 0, 0, 0, 0, 0, 0), (29, .ior, 1, 7, 0, 0, 0, 0, 0, 0), (30, .putfield 123, 3, 15, 15, 0, 0, 6, 0, 0), (33, .aload_n 0, 1, 3, 0, 0, 0, 0, 0, 0), (34, .getfield 43, 3, 14, 5, 0, 0, 8, 5, 3), (37, .aload_n 0, 1, 3, 0, 0, 0, 0, 0, 0), (38, .getfield 26, 3, 14, 2, 0, 0, 8, 2, 3), (41, .invokevirtual 175, 3, 23, 24, 0, 0, 75, 0, 1)]), (55, [(44, .aload_n 0, 1, 3, 0, 0, 0, 0, 0, 0), (45, .getfield 26, 3, 14, 2, 0, 0, 8, 2, 3), (48, .getfield 123, 3, 14, 15, 0, 0, 6, 0, 0), (51, .invokestatic 178, 3, 23, 21, 0, 0, 297, 1, 1), (54, .ireturn, 1, 21, 0, 0, 0, 0, 0, 0)])]
def ee_me61 : ee_me := (8, ⟨"PepperTables", "sit", "(I)I"⟩, prog_1_method_10_code, 2, (some .int), ee_B61, 0, 0)
set_option maxRecDepth 100000 in
theorem ee_me61ok : ee_Mb ee_me61 = true := by decide +kernel
/- 62: PepperTables.sneezed()I -/
def ee_B62 : List (Nat × List ee_en) := [(18, [(0, .iconst (-1), 1, 0, 0, 0, 0, 0, 0, 0), (1, .istore_n 1, 1, 4, 0, 0, 0, 0, 0, 0), (2, .aload_n 0, 1, 3, 0, 0, 0, 0, 0, 0), (3, .getfield 26, 3, 14, 2, 0, 0, 8, 2, 3), (6, .aload_n 0, 1, 3, 0, 0, 0, 0, 0, 0), (7, .getfield 19, 3, 14, 1, 0, 0, 8, 1, 3), (10, .invokevirtual 126, 3, 23, 8, 0, 0, 140, 0, 1), (13, .istore_n 2, 1, 4, 0, 0, 0, 0, 0, 0), (14, .iconst 0, 1, 0, 0, 0, 0, 0, 0, 0), (15, .istore_n 3, 1, 4, 0, 0, 0, 0, 0, 0), (16, .iload_n 3, 1, 2, 0, 0, 0, 0, 0, 0), (17, .aload_n 0, 1, 3, 0, 0, 0, 0, 0, 0)]), (40, [(18, .getfield 19, 3, 14, 1, 0, 0, 8, 1, 3), (21, .getfield 107, 3, 14, 12, 0, 0, 7, 2, 0), (24, .if_icmp .ge 73, 3, 12, 0, 0, 0, 0, 0, 0), (27, .iload_n 2, 1, 2, 0, 0, 0, 0, 0, 0), (28, .iload_n 3, 1, 2, 0, 0, 0, 0, 0, 0), (29, .ishr, 1, 7, 0, 0, 0, 0, 0, 0), (30, .iconst 1, 1, 0, 0, 0, 0, 0, 0, 0), (31, .iand, 1, 7, 0, 0, 0, 0, 0, 0), (32, .ifCond .eq 23, 3, 12, 0, 0, 0, 0, 0, 0), (35, .aload_n 0, 1, 3, 0, 0, 0, 0, 0, 0), (36, .aload_n 0, 1, 3, 0, 0, 0, 0, 0, 0), (37, .getfield 19, 3, 14, 1, 0, 0, 8, 1, 3)]), (64, [(40, .getfield 143, 3, 14, 32, 0, 0, 7, 11, 3), (43, .iload_n 3, 1, 2, 0, 0, 0, 0, 0, 0), (44, .iaload, 1, 22, 0, 0, 0, 0, 0, 0), (45, .invokevirtual 172, 3, 23, 34, 0, 0, 31, 0, 1), (48, .ifCond .eq 7, 3, 12, 0, 0, 0, 0, 0, 0), (51, .iconst 1, 1, 0, 0, 0, 0, 0, 0, 0), (52, .goto 4, 3, 0, 0, 0, 0, 0, 0, 0), (55, .iconst 0, 1, 0, 0, 0, 0, 0, 0, 0), (56, .istore 4, 2, 4, 0, 0, 0, 0, 0, 0), (58, .iload 4, 2, 2, 0, 0, 0, 0, 0, 0), (60, .ifCond .eq 31, 3, 12, 0, 0, 0, 0, 0, 0), (63, .iload_n 1, 1, 2, 0, 0, 0, 0, 0, 0)]), (86, [(64, .iconst (-1), 1, 0, 0, 0, 0, 0, 0, 0), (65, .if_icmp .eq 24, 3, 12, 0, 0, 0, 0, 0, 0), (68, .aload_n 0, 1, 3, 0, 0, 0, 0, 0, 0), (69, .getfield 19, 3, 14, 1, 0, 0, 8, 1, 3), (72, .getfield 149, 3, 14, 33, 0, 0, 7, 13, 3), (75, .iload_n 3, 1, 2, 0, 0, 0, 0, 0, 0), (76, .iaload, 1, 22, 0, 0, 0, 0, 0, 0), (77, .aload_n 0, 1, 3, 0, 0, 0, 0, 0, 0), (78, .getfield 19, 3, 14, 1, 0, 0, 8, 1, 3), (81, .getfield 149, 3, 14, 33, 0, 0, 7, 13, 3), (84, .iload_n 1, 1, 2, 0, 0, 0, 0, 0, 0), (85, .iaload, 1, 22, 0, 0, 0, 0, 0, 0)]), (99, [(86, .if_icmp .le 5, 3, 12, 0, 0, 0, 0, 0, 0), (89, .iload_n 3, 1, 2, 0, 0, 0, 0, 0, 0), (90, .istore_n 1, 1, 4, 0, 0, 0, 0, 0, 0), (91, .iinc 3 1, 3, 6, 0, 0, 0, 0, 0, 0), (94, .goto (-78), 3, 0, 0, 0, 0, 0, 0, 0), (97, .iload_n 1, 1, 2, 0, 0, 0, 0, 0, 0), (98, .ireturn, 1, 21, 0, 0, 0, 0, 0, 0)])]
def ee_me62 : ee_me := (8, ⟨"PepperTables", "sneezed", "()I"⟩, prog_1_method_65_code, 5, (some .int), ee_B62, 0, 0)
set_option maxRecDepth 100000 in
theorem ee_me62ok : ee_Mb ee_me62 = true := by decide +kernel
/- 63: PepperTables.spark(I)I -/
def ee_B63 : List (Nat × List ee_en) := [(22, [(0, .aload_n 0, 1, 3, 0, 0, 0, 0, 0, 0), (1, .iload_n 1, 1, 2, 0, 0, 0, 0, 0, 0), (2, .invokevirtual 155, 3, 23, 11, 0, 0, 30, 0, 1), (5, .ifCond .ne 5, 3, 12, 0, 0, 0, 0, 0, 0), (8, .iconst (-1), 1, 0, 0, 0, 0, 0, 0, 0), (9, .ireturn, 1, 21, 0, 0, 0, 0, 0, 0), (10, .aload_n 0, 1, 3, 0, 0, 0, 0, 0, 0), (11, .getfield 36, 3, 14, 4, 0, 0, 8, 4, 3), (14, .aload_n 0, 1, 3, 0, 0, 0, 0, 0, 0), (15, .getfield 19, 3, 14, 1, 0, 0, 8, 1, 3), (18, .aload_n 0, 1, 3, 0, 0, 0, 0, 0, 0), (19, .getfield 26, 3, 14, 2, 0, 0, 8, 2, 3)]), (42, [(22, .iload_n 1, 1, 2, 0, 0, 0, 0, 0, 0), (23, .invokevirtual 215, 3, 23, 50, 0, 0, 105, 0, 3), (26, .iconst (-1), 1, 0, 0, 0, 0, 0, 0, 0), (27, .istore_n 2, 1, 4, 0, 0, 0, 0, 0, 0), (28, .iconst 0, 1, 0, 0, 0, 0, 0, 0, 0), (29, .istore_n 3, 1, 4, 0, 0, 0, 0, 0, 0), (30, .iload_n 3, 1, 2, 0, 0, 0, 0, 0, 0), (31, .aload_n 0, 1, 3, 0, 0, 0, 0, 0, 0), (32, .getfield 19, 3, 14, 1, 0, 0, 8, 1, 3), (35, .invokevirtual 219, 3, 23, 56, 0, 0, 145, 0, 0), (38, .if_icmp .gt 60, 3, 12, 0, 0, 0, 0, 0, 0), (41, .aload_n 0, 1, 3, 0, 0, 0, 0, 0, 0)]), (64, [(42, .getfield 26, 3, 14, 2, 0, 0, 8, 2, 3), (45, .getfield 123, 3, 14, 15, 0, 0, 6, 0, 0), (48, .iload_n 3, 1, 2, 0, 0, 0, 0, 0, 0), (49, .iconst (-1), 1, 0, 0, 0, 0, 0, 0, 0), (50, .ixor, 1, 7, 0, 0, 0, 0, 0, 0), (51, .iand, 1, 7, 0, 0, 0, 0, 0, 0), (52, .ifCond .ne 7, 3, 12, 0, 0, 0, 0, 0, 0), (55, .iconst 1, 1, 0, 0, 0, 0, 0, 0, 0), (56, .goto 4, 3, 0, 0, 0, 0, 0, 0, 0), (59, .iconst 0, 1, 0, 0, 0, 0, 0, 0, 0), (60, .istore 4, 2, 4, 0, 0, 0, 0, 0, 0), (62, .iload 4, 2, 2, 0, 0, 0, 0, 0, 0)]), (90, [(64, .ifCond .eq 28, 3, 12, 0, 0, 0, 0, 0, 0), (67, .aload_n 0, 1, 3, 0, 0, 0, 0, 0, 0), (68, .getfield 36, 3, 14, 4, 0, 0, 8, 4, 3), (71, .aload_n 0, 1, 3, 0, 0, 0, 0, 0, 0), (72, .getfield 19, 3, 14, 1, 0, 0, 8, 1, 3), (75, .iload_n 3, 1, 2, 0, 0, 0, 0, 0, 0), (76, .invokevirtual 222, 3, 23, 51, 0, 0, 102, 0, 2), (79, .ifCond .eq 13, 3, 12, 0, 0, 0, 0, 0, 0), (82, .iload_n 3, 1, 2, 0, 0, 0, 0, 0, 0), (83, .iload_n 2, 1, 2, 0, 0, 0, 0, 0, 0), (84, .invokestatic 225, 3, 23, 52, 0, 0, 32, 1, 2), (87, .ifCond .eq 5, 3, 12, 0, 0, 0, 0, 0, 0)]), (112, [(90, .iload_n 3, 1, 2, 0, 0, 0, 0, 0, 0), (91, .istore_n 2, 1, 4, 0, 0, 0, 0, 0, 0), (92, .iinc 3 1, 3, 6, 0, 0, 0, 0, 0, 0), (95, .goto (-65), 3, 0, 0, 0, 0, 0, 0, 0), (98, .iload_n 2, 1, 2, 0, 0, 0, 0, 0, 0), (99, .iconst (-1), 1, 0, 0, 0, 0, 0, 0, 0), (100, .if_icmp .ne 7, 3, 12, 0, 0, 0, 0, 0, 0), (103, .iconst (-1), 1, 0, 0, 0, 0, 0, 0, 0), (104, .goto 18, 3, 0, 0, 0, 0, 0, 0, 0), (107, .iload_n 2, 1, 2, 0, 0, 0, 0, 0, 0), (108, .invokestatic 178, 3, 23, 21, 0, 0, 297, 1, 1), (111, .aload_n 0, 1, 3, 0, 0, 0, 0, 0, 0)]), (123, [(112, .getfield 26, 3, 14, 2, 0, 0, 8, 2, 3), (115, .getfield 123, 3, 14, 15, 0, 0, 6, 0, 0), (118, .invokestatic 178, 3, 23, 21, 0, 0, 297, 1, 1), (121, .isub, 1, 7, 0, 0, 0, 0, 0, 0), (122, .ireturn, 1, 21, 0, 0, 0, 0, 0, 0)])]
def ee_me63 : ee_me := (8, ⟨"PepperTables", "spark", "(I)I"⟩, prog_1_method_20_code, 5, (some .int), ee_B63, 0, 0)
set_option maxRecDepth 100000 in
theorem ee_me63ok : ee_Mb ee_me63 = true := by decide +kernel
end
section
/- 64: PepperTables.spine(I)I -/
def ee_B64 : List (Nat × List ee_en) := [(22, [(0, .aload_n 0, 1, 3, 0, 0, 0, 0, 0, 0), (1, .iload_n 1, 1, 2, 0, 0, 0, 0, 0, 0), (2, .invokevirtual 155, 3, 23, 11, 0, 0, 30, 0, 1), (5, .ifCond .ne 5, 3, 12, 0, 0, 0, 0, 0, 0), (8, .iconst (-1), 1, 0, 0, 0, 0, 0, 0, 0), (9, .ireturn, 1, 21, 0, 0, 0, 0, 0, 0), (10, .aload_n 0, 1, 3, 0, 0, 0, 0, 0, 0), (11, .getfield 36, 3, 14, 4, 0, 0, 8, 4, 3), (14, .aload_n 0, 1, 3, 0, 0, 0, 0, 0, 0), (15, .getfield 19, 3, 14, 1, 0, 0, 8, 1, 3), (18, .aload_n 0, 1, 3, 0, 0, 0, 0, 0, 0), (19, .getfield 26, 3, 14, 2, 0, 0, 8, 2, 3)]), (42, [(22, .iload_n 1, 1, 2, 0, 0, 0, 0, 0, 0), (23, .invokevirtual 215, 3, 23, 50, 0, 0, 105, 0, 3), (26, .iconst (-1), 1, 0, 0, 0, 0, 0, 0, 0), (27, .istore_n 2, 1, 4, 0, 0, 0, 0, 0, 0), (28, .iconst 0, 1, 0, 0, 0, 0, 0, 0, 0), (29, .istore_n 3, 1, 4, 0, 0, 0, 0, 0, 0), (30, .iload_n 3, 1, 2, 0, 0, 0, 0, 0, 0), (31, .aload_n 0, 1, 3, 0, 0, 0, 0, 0, 0), (32, .getfield 19, 3, 14, 1, 0, 0, 8, 1, 3), (35, .invokevirtual 219, 3, 23, 56, 0, 0, 145, 0, 0), (38, .if_icmp .gt 28, 3, 12, 0, 0, 0, 0, 0, 0), (41, .aload_n 0, 1, 3, 0, 0, 0, 0, 0, 0)]), (66, [(42, .getfield 36, 3, 14, 4, 0, 0, 8, 4, 3), (45, .aload_n 0, 1, 3, 0, 0, 0, 0, 0, 0), (46, .getfield 19, 3, 14, 1, 0, 0, 8, 1, 3), (49, .iload_n 3, 1, 2, 0, 0, 0, 0, 0, 0), (50, .invokevirtual 222, 3, 23, 51, 0, 0, 102, 0, 2), (53, .ifCond .eq 7, 3, 12, 0, 0, 0, 0, 0, 0), (56, .iload_n 2, 1, 2, 0, 0, 0, 0, 0, 0), (57, .iload_n 3, 1, 2, 0, 0, 0, 0, 0, 0), (58, .iand, 1, 7, 0, 0, 0, 0, 0, 0), (59, .istore_n 2, 1, 4, 0, 0, 0, 0, 0, 0), (60, .iinc 3 1, 3, 6, 0, 0, 0, 0, 0, 0), (63, .goto (-33), 3, 0, 0, 0, 0, 0, 0, 0)]), (68, [(66, .iload_n 2, 1, 2, 0, 0, 0, 0, 0, 0), (67, .ireturn, 1, 21, 0, 0, 0, 0, 0, 0)])]
def ee_me64 : ee_me := (8, ⟨"PepperTables", "spine", "(I)I"⟩, prog_1_method_21_code, 4, (some .int), ee_B64, 0, 0)
set_option maxRecDepth 100000 in
theorem ee_me64ok : ee_Mb ee_me64 = true := by decide +kernel
/- 65: PepperTables.store()I -/
def ee_B65 : List (Nat × List ee_en) := [(22, [(0, .aload_n 0, 1, 3, 0, 0, 0, 0, 0, 0), (1, .getfield 10, 3, 14, 0, 0, 0, 8, 0, 3), (4, .invokevirtual 86, 3, 23, 57, 0, 0, 114, 0, 0), (7, .ifCond .ne 5, 3, 12, 0, 0, 0, 0, 0, 0), (10, .iconst (-1), 1, 0, 0, 0, 0, 0, 0, 0), (11, .ireturn, 1, 21, 0, 0, 0, 0, 0, 0), (12, .aload_n 0, 1, 3, 0, 0, 0, 0, 0, 0), (13, .getfield 19, 3, 14, 1, 0, 0, 8, 1, 3), (16, .astore_n 1, 1, 5, 0, 0, 0, 0, 0, 0), (17, .aload_n 0, 1, 3, 0, 0, 0, 0, 0, 0), (18, .aload_n 0, 1, 3, 0, 0, 0, 0, 0, 0), (19, .getfield 10, 3, 14, 0, 0, 0, 8, 0, 3)]), (48, [(22, .getfield 90, 3, 14, 34, 0, 0, 5, 3, 3), (25, .putfield 19, 3, 15, 1, 0, 0, 8, 1, 3), (28, .aload_n 0, 1, 3, 0, 0, 0, 0, 0, 0), (29, .getfield 10, 3, 14, 0, 0, 0, 8, 0, 3), (32, .aload_n 1, 1, 3, 0, 0, 0, 0, 0, 0), (33, .putfield 90, 3, 15, 34, 0, 0, 5, 3, 3), (36, .aload_n 0, 1, 3, 0, 0, 0, 0, 0, 0), (37, .getfield 10, 3, 14, 0, 0, 0, 8, 0, 3), (40, .iconst 0, 1, 0, 0, 0, 0, 0, 0, 0), (41, .putfield 78, 3, 15, 23, 0, 0, 5, 0, 0), (44, .aload_n 0, 1, 3, 0, 0, 0, 0, 0, 0), (45, .getfield 26, 3, 14, 2, 0, 0, 8, 2, 3)]), (74, [(48, .aload_n 0, 1, 3, 0, 0, 0, 0, 0, 0), (49, .getfield 19, 3, 14, 1, 0, 0, 8, 1, 3), (52, .invokevirtual 93, 3, 23, 58, 0, 0, 138, 0, 1), (55, .aload_n 0, 1, 3, 0, 0, 0, 0, 0, 0), (56, .getfield 43, 3, 14, 5, 0, 0, 8, 5, 3), (59, .aload_n 0, 1, 3, 0, 0, 0, 0, 0, 0), (60, .getfield 26, 3, 14, 2, 0, 0, 8, 2, 3), (63, .invokevirtual 97, 3, 23, 18, 0, 0, 74, 0, 1), (66, .aload_n 0, 1, 3, 0, 0, 0, 0, 0, 0), (67, .getfield 50, 3, 14, 6, 0, 0, 8, 6, 3), (70, .invokevirtual 101, 3, 23, 59, 0, 0, 80, 0, 0), (73, .aload_n 0, 1, 3, 0, 0, 0, 0, 0, 0)]), (96, [(74, .getfield 57, 3, 14, 7, 0, 0, 8, 7, 3), (77, .iconst 0, 1, 0, 0, 0, 0, 0, 0, 0), (78, .putfield 103, 3, 15, 25, 0, 0, 3, 0, 0), (81, .aload_n 0, 1, 3, 0, 0, 0, 0, 0, 0), (82, .getfield 64, 3, 14, 8, 0, 0, 8, 8, 3), (85, .invokevirtual 106, 3, 23, 60, 0, 0, 84, 0, 0), (88, .aload_n 0, 1, 3, 0, 0, 0, 0, 0, 0), (89, .getfield 19, 3, 14, 1, 0, 0, 8, 1, 3), (92, .getfield 107, 3, 14, 12, 0, 0, 7, 2, 0), (95, .ireturn, 1, 21, 0, 0, 0, 0, 0, 0)])]
def ee_me65 : ee_me := (8, ⟨"PepperTables", "store", "()I"⟩, prog_1_method_4_code, 2, (some .int), ee_B65, 0, 0)
set_option maxRecDepth 100000 in
theorem ee_me65ok : ee_Mb ee_me65 = true := by decide +kernel
/- 66: PepperTables.storm()I -/
def ee_B66 : List (Nat × List ee_en) := [(23, [(0, .aload_n 0, 1, 3, 0, 0, 0, 0, 0, 0), (1, .getfield 19, 3, 14, 1, 0, 0, 8, 1, 3), (4, .aload_n 0, 1, 3, 0, 0, 0, 0, 0, 0), (5, .getfield 36, 3, 14, 4, 0, 0, 8, 4, 3), (8, .aload_n 0, 1, 3, 0, 0, 0, 0, 0, 0), (9, .getfield 19, 3, 14, 1, 0, 0, 8, 1, 3), (12, .aload_n 0, 1, 3, 0, 0, 0, 0, 0, 0), (13, .getfield 26, 3, 14, 2, 0, 0, 8, 2, 3), (16, .invokevirtual 256, 3, 23, 26, 0, 0, 103, 0, 2), (19, .invokevirtual 162, 3, 23, 9, 0, 0, 149, 0, 1), (22, .ireturn, 1, 21, 0, 0, 0, 0, 0, 0)])]
def ee_me66 : ee_me := (8, ⟨"PepperTables", "storm", "()I"⟩, prog_1_method_26_code, 1, (some .int), ee_B66, 0, 0)
set_option maxRecDepth 100000 in
theorem ee_me66ok : ee_Mb ee_me66 = true := by decide +kernel
/- 67: PepperTables.sure(II)I -/
def ee_B67 : List (Nat × List ee_en) := [(24, [(0, .iload_n 1, 1, 2, 0, 0, 0, 0, 0, 0), (1, .ifCond .ne 22, 3, 12, 0, 0, 0, 0, 0, 0), (4, .aload_n 0, 1, 3, 0, 0, 0, 0, 0, 0), (5, .getfield 19, 3, 14, 1, 0, 0, 8, 1, 3), (8, .getfield 107, 3, 14, 12, 0, 0, 7, 2, 0), (11, .iconst 1, 1, 0, 0, 0, 0, 0, 0, 0), (12, .if_icmp .lt 7, 3, 12, 0, 0, 0, 0, 0, 0), (15, .iconst 1, 1, 0, 0, 0, 0, 0, 0, 0), (16, .goto 28, 3, 0, 0, 0, 0, 0, 0, 0), (19, .iconst 0, 1, 0, 0, 0, 0, 0, 0, 0), (20, .goto 24, 3, 0, 0, 0, 0, 0, 0, 0), (23, .iload_n 1, 1, 2, 0, 0, 0, 0, 0, 0)]), (46, [(24, .iconst 1, 1, 0, 0, 0, 0, 0, 0, 0), (25, .if_icmp .ne 18, 3, 12, 0, 0, 0, 0, 0, 0), (28, .aload_n 0, 1, 3, 0, 0, 0, 0, 0, 0), (29, .getfield 19, 3, 14, 1, 0, 0, 8, 1, 3), (32, .getfield 107, 3, 14, 12, 0, 0, 7, 2, 0), (35, .iconst 2, 1, 0, 0, 0, 0, 0, 0, 0), (36, .if_icmp .lt 7, 3, 12, 0, 0, 0, 0, 0, 0), (39, .iconst 1, 1, 0, 0, 0, 0, 0, 0, 0), (40, .goto 4, 3, 0, 0, 0, 0, 0, 0, 0), (43, .iconst 0, 1, 0, 0, 0, 0, 0, 0, 0), (44, .istore_n 3, 1, 4, 0, 0, 0, 0, 0, 0), (45, .iload_n 3, 1, 2, 0, 0, 0, 0, 0, 0)]), (71, [(46, .ifCond .eq 22, 3, 12, 0, 0, 0, 0, 0, 0), (49, .aload_n 0, 1, 3, 0, 0, 0, 0, 0, 0), (50, .getfield 64, 3, 14, 8, 0, 0, 8, 8, 3), (53, .aload_n 0, 1, 3, 0, 0, 0, 0, 0, 0), (54, .getfield 19, 3, 14, 1, 0, 0, 8, 1, 3), (57, .aload_n 0, 1, 3, 0, 0, 0, 0, 0, 0), (58, .getfield 36, 3, 14, 4, 0, 0, 8, 4, 3), (61, .iload_n 2, 1, 2, 0, 0, 0, 0, 0, 0), (62, .invokevirtual 307, 3, 23, 15, 0, 0, 90, 0, 3), (65, .ifCond .ne 6, 3, 12, 0, 0, 0, 0, 0, 0), (68, .bipush (-3), 2, 0, 0, 0, 0, 0, 0, 0), (70, .ireturn, 1, 21, 0, 0, 0, 0, 0, 0)]), (92, [(71, .aload_n 0, 1, 3, 0, 0, 0, 0, 0, 0), (72, .getfield 64, 3, 14, 8, 0, 0, 8, 8, 3), (75, .aload_n 0, 1, 3, 0, 0, 0, 0, 0, 0), (76, .getfield 19, 3, 14, 1, 0, 0, 8, 1, 3), (79, .iload_n 1, 1, 2, 0, 0, 0, 0, 0, 0), (80, .ifCond .ne 7, 3, 12, 0, 0, 0, 0, 0, 0), (83, .iconst 1, 1, 0, 0, 0, 0, 0, 0, 0), (84, .goto 4, 3, 0, 0, 0, 0, 0, 0, 0), (87, .iconst 0, 1, 0, 0, 0, 0, 0, 0, 0), (88, .invokevirtual 311, 3, 23, 61, 0, 0, 89, 0, 2), (91, .ireturn, 1, 21, 0, 0, 0, 0, 0, 0)])]
def ee_me67 : ee_me := (8, ⟨"PepperTables", "sure", "(II)I"⟩, prog_1_method_52_code, 4, (some .int), ee_B67, 0, 0)
set_option maxRecDepth 100000 in
theorem ee_me67ok : ee_Mb ee_me67 = true := by decide +kernel
/- 68: PepperTables.table(III)I -/
def ee_B68 : List (Nat × List ee_en) := [(24, [(0, .aload_n 0, 1, 3, 0, 0, 0, 0, 0, 0), (1, .iload_n 2, 1, 2, 0, 0, 0, 0, 0, 0), (2, .invokevirtual 155, 3, 23, 11, 0, 0, 30, 0, 1), (5, .ifCond .eq 24, 3, 12, 0, 0, 0, 0, 0, 0), (8, .iload_n 3, 1, 2, 0, 0, 0, 0, 0, 0), (9, .invokestatic 209, 3, 23, 14, 0, 0, 27, 1, 1), (12, .ifCond .eq 17, 3, 12, 0, 0, 0, 0, 0, 0), (15, .iload_n 1, 1, 2, 0, 0, 0, 0, 0, 0), (16, .aload_n 0, 1, 3, 0, 0, 0, 0, 0, 0), (17, .getfield 19, 3, 14, 1, 0, 0, 8, 1, 3), (20, .invokevirtual 212, 3, 23, 39, 0, 0, 146, 0, 0), (23, .iconst (-1), 1, 0, 0, 0, 0, 0, 0, 0)]), (44, [(24, .ixor, 1, 7, 0, 0, 0, 0, 0, 0), (25, .iand, 1, 7, 0, 0, 0, 0, 0, 0), (26, .ifCond .eq 5, 3, 12, 0, 0, 0, 0, 0, 0), (29, .iconst (-1), 1, 0, 0, 0, 0, 0, 0, 0), (30, .ireturn, 1, 21, 0, 0, 0, 0, 0, 0), (31, .aload_n 0, 1, 3, 0, 0, 0, 0, 0, 0), (32, .getfield 36, 3, 14, 4, 0, 0, 8, 4, 3), (35, .aload_n 0, 1, 3, 0, 0, 0, 0, 0, 0), (36, .getfield 19, 3, 14, 1, 0, 0, 8, 1, 3), (39, .aload_n 0, 1, 3, 0, 0, 0, 0, 0, 0), (40, .getfield 26, 3, 14, 2, 0, 0, 8, 2, 3), (43, .iload_n 2, 1, 2, 0, 0, 0, 0, 0, 0)]), (69, [(44, .invokevirtual 215, 3, 23, 50, 0, 0, 105, 0, 3), (47, .iconst (-1), 1, 0, 0, 0, 0, 0, 0, 0), (48, .istore 4, 2, 4, 0, 0, 0, 0, 0, 0), (50, .iconst 0, 1, 0, 0, 0, 0, 0, 0, 0), (51, .istore 5, 2, 4, 0, 0, 0, 0, 0, 0), (53, .iload 5, 2, 2, 0, 0, 0, 0, 0, 0), (55, .aload_n 0, 1, 3, 0, 0, 0, 0, 0, 0), (56, .getfield 19, 3, 14, 1, 0, 0, 8, 1, 3), (59, .invokevirtual 219, 3, 23, 56, 0, 0, 145, 0, 0), (62, .if_icmp .gt 40, 3, 12, 0, 0, 0, 0, 0, 0), (65, .aload_n 0, 1, 3, 0, 0, 0, 0, 0, 0), (66, .getfield 36, 3, 14, 4, 0, 0, 8, 4, 3)]), (96, [(69, .aload_n 0, 1, 3, 0, 0, 0, 0, 0, 0), (70, .getfield 19, 3, 14, 1, 0, 0, 8, 1, 3), (73, .iload 5, 2, 2, 0, 0, 0, 0, 0, 0), (75, .invokevirtual 222, 3, 23, 51, 0, 0, 102, 0, 2), (78, .iload_n 1, 1, 2, 0, 0, 0, 0, 0, 0), (79, .if_icmp .ne 17, 3, 12, 0, 0, 0, 0, 0, 0), (82, .iload 5, 2, 2, 0, 0, 0, 0, 0, 0), (84, .iload 4, 2, 2, 0, 0, 0, 0, 0, 0), (86, .invokestatic 225, 3, 23, 52, 0, 0, 32, 1, 2), (89, .ifCond .eq 7, 3, 12, 0, 0, 0, 0, 0, 0), (92, .iload 5, 2, 2, 0, 0, 0, 0, 0, 0), (94, .istore 4, 2, 4, 0, 0, 0, 0, 0, 0)]), (109, [(96, .iinc 5 1, 3, 6, 0, 0, 0, 0, 0, 0), (99, .goto (-46), 3, 0, 0, 0, 0, 0, 0, 0), (102, .iload 4, 2, 2, 0, 0, 0, 0, 0, 0), (104, .iload_n 3, 1, 2, 0, 0, 0, 0, 0, 0), (105, .invokestatic 229, 3, 23, 53, 0, 0, 8, 1, 2), (108, .ireturn, 1, 21, 0, 0, 0, 0, 0, 0)])]
def ee_me68 : ee_me := (8, ⟨"PepperTables", "table", "(III)I"⟩, prog_1_method_17_code, 6, (some .int), ee_B68, 0, 0)
set_option maxRecDepth 100000 in
theorem ee_me68ok : ee_Mb ee_me68 = true := by decide +kernel
/- 69: PepperTables.thing(II)I -/
def ee_B69 : List (Nat × List ee_en) := [(56, [(0, .aload_n 0, 1, 3, 0, 0, 0, 0, 0, 0), (1, .iload_n 1, 1, 2, 0, 0, 0, 0, 0, 0), (2, .invokevirtual 140, 3, 23, 35, 0, 0, 33, 0, 1), (5, .ifCond .ne 6, 3, 12, 0, 0, 0, 0, 0, 0), (8, .bipush (-2), 2, 0, 0, 0, 0, 0, 0, 0), (10, .ireturn, 1, 21, 0, 0, 0, 0, 0, 0), (11, .iload_n 2, 1, 2, 0, 0, 0, 0, 0, 0), (12, .tableswitch 88 0 4 #[36, 46, 56, 66, 76], 36, 13, 0, 0, 0, 0, 0, 0), (48, .aload_n 0, 1, 3, 0, 0, 0, 0, 0, 0), (49, .getfield 19, 3, 14, 1, 0, 0, 8, 1, 3), (52, .getfield 143, 3, 14, 32, 0, 0, 7, 11, 3), (55, .iload_n 1, 1, 2, 0, 0, 0, 0, 0, 0)]), (76, [(56, .iaload, 1, 22, 0, 0, 0, 0, 0, 0), (57, .ireturn, 1, 21, 0, 0, 0, 0, 0, 0), (58, .aload_n 0, 1, 3, 0, 0, 0, 0, 0, 0), (59, .getfield 19, 3, 14, 1, 0, 0, 8, 1, 3), (62, .getfield 146, 3, 14, 35, 0, 0, 7, 12, 3), (65, .iload_n 1, 1, 2, 0, 0, 0, 0, 0, 0), (66, .iaload, 1, 22, 0, 0, 0, 0, 0, 0), (67, .ireturn, 1, 21, 0, 0, 0, 0, 0, 0), (68, .aload_n 0, 1, 3, 0, 0, 0, 0, 0, 0), (69, .getfield 19, 3, 14, 1, 0, 0, 8, 1, 3), (72, .getfield 149, 3, 14, 33, 0, 0, 7, 13, 3), (75, .iload_n 1, 1, 2, 0, 0, 0, 0, 0, 0)]), (96, [(76, .iaload, 1, 22, 0, 0, 0, 0, 0, 0), (77, .ireturn, 1, 21, 0, 0, 0, 0, 0, 0), (78, .aload_n 0, 1, 3, 0, 0, 0, 0, 0, 0), (79, .getfield 26, 3, 14, 2, 0, 0, 8, 2, 3), (82, .getfield 152, 3, 14, 27, 0, 0, 6, 4, 3), (85, .iload_n 1, 1, 2, 0, 0, 0, 0, 0, 0), (86, .iaload, 1, 22, 0, 0, 0, 0, 0, 0), (87, .ireturn, 1, 21, 0, 0, 0, 0, 0, 0), (88, .aload_n 0, 1, 3, 0, 0, 0, 0, 0, 0), (89, .getfield 26, 3, 14, 2, 0, 0, 8, 2, 3), (92, .getfield 137, 3, 14, 16, 0, 0, 6, 1, 0), (95, .iload_n 1, 1, 2, 0, 0, 0, 0, 0, 0)]), (103, [(96, .ishr, 1, 7, 0, 0, 0, 0, 0, 0), (97, .iconst 1, 1, 0, 0, 0, 0, 0, 0, 0), (98, .iand, 1, 7, 0, 0, 0, 0, 0, 0), (99, .ireturn, 1, 21, 0, 0, 0, 0, 0, 0), (100, .bipush (-2), 2, 0, 0, 0, 0, 0, 0, 0), (102, .ireturn, 1, 21, 0, 0, 0, 0, 0, 0)])]
def ee_me69 : ee_me := (8, ⟨"PepperTables", "thing", "(II)I"⟩, prog_1_method_7_code, 3, (some .int), ee_B69, 0, 0)
set_option maxRecDepth 100000 in
theorem ee_me69ok : ee_Mb ee_me69 = true := by decide +kernel
/- 70: PepperTables.undo()Z -/
def ee_B70 : List (Nat × List ee_en) := [(12, [(0, .aload_n 0, 1, 3, 0, 0, 0, 0, 0, 0), (1, .getfield 43, 3, 14, 5, 0, 0, 8, 5, 3), (4, .aload_n 0, 1, 3, 0, 0, 0, 0, 0, 0), (5, .getfield 26, 3, 14, 2, 0, 0, 8, 2, 3), (8, .invokevirtual 202, 3, 23, 62, 0, 0, 76, 0, 1), (11, .ireturn, 1, 21, 0, 0, 0, 0, 0, 0)])]
def ee_me70 : ee_me := (8, ⟨"PepperTables", "undo", "()Z"⟩, prog_1_method_15_code, 1, (some .boolean), ee_B70, 0, 0)
set_option maxRecDepth 100000 in
theorem ee_me70ok : ee_Mb ee_me70 = true := by decide +kernel
/- 71: PepperTables.untell(I)Z -/
def ee_B71 : List (Nat × List ee_en) := [(9, [(0, .aload_n 0, 1, 3, 0, 0, 0, 0, 0, 0), (1, .getfield 64, 3, 14, 8, 0, 0, 8, 8, 3), (4, .iload_n 1, 1, 2, 0, 0, 0, 0, 0, 0), (5, .invokevirtual 301, 3, 23, 63, 0, 0, 91, 0, 1), (8, .ireturn, 1, 21, 0, 0, 0, 0, 0, 0)])]
def ee_me71 : ee_me := (8, ⟨"PepperTables", "untell", "(I)Z"⟩, prog_1_method_49_code, 2, (some .boolean), ee_B71, 0, 0)
set_option maxRecDepth 100000 in
theorem ee_me71ok : ee_Mb ee_me71 = true := by decide +kernel
/- 72: PepperTables.would(I)I -/
def ee_B72 : List (Nat × List ee_en) := [(24, [(0, .aload_n 0, 1, 3, 0, 0, 0, 0, 0, 0), (1, .iload_n 1, 1, 2, 0, 0, 0, 0, 0, 0), (2, .invokevirtual 155, 3, 23, 11, 0, 0, 30, 0, 1), (5, .ifCond .eq 22, 3, 12, 0, 0, 0, 0, 0, 0), (8, .aload_n 0, 1, 3, 0, 0, 0, 0, 0, 0), (9, .getfield 36, 3, 14, 4, 0, 0, 8, 4, 3), (12, .aload_n 0, 1, 3, 0, 0, 0, 0, 0, 0), (13, .getfield 19, 3, 14, 1, 0, 0, 8, 1, 3), (16, .aload_n 0, 1, 3, 0, 0, 0, 0, 0, 0), (17, .getfield 26, 3, 14, 2, 0, 0, 8, 2, 3), (20, .iload_n 1, 1, 2, 0, 0, 0, 0, 0, 0), (21, .invokevirtual 168, 3, 23, 20, 0, 0, 101, 0, 3)]), (29, [(24, .goto 4, 3, 0, 0, 0, 0, 0, 0, 0), (27, .iconst (-1), 1, 0, 0, 0, 0, 0, 0, 0), (28, .ireturn, 1, 21, 0, 0, 0, 0, 0, 0)])]
def ee_me72 : ee_me := (8, ⟨"PepperTables", "would", "(I)I"⟩, prog_1_method_9_code, 2, (some .int), ee_B72, 0, 0)
set_option maxRecDepth 100000 in
theorem ee_me72ok : ee_Mb ee_me72 = true := by decide +kernel
/- 73: PepperTables$Acts.<init>()V -/
def ee_B73 : List (Nat × List ee_en) := [(14, [(0, .aload_n 0, 1, 3, 0, 0, 0, 0, 0, 0), (1, .invokespecial 3, 3, 20, 1, 1, 0, 0, 0, 0), (4, .aload_n 0, 1, 3, 0, 0, 0, 0, 0, 0), (5, .sipush 779, 3, 0, 0, 0, 0, 0, 0, 0), (8, .newarray .int, 2, 18, 0, 0, 0, 0, 0, 0), (10, .putfield 11, 3, 15, 36, 0, 0, 0, 3, 3), (13, .return_, 1, 21, 0, 0, 0, 0, 0, 0)])]
def ee_me73 : ee_me := (0, ⟨"PepperTables$Acts", "<init>", "()V"⟩, prog_2_method_1_code, 1, none, ee_B73, 1, 779)
set_option maxRecDepth 100000 in
theorem ee_me73ok : ee_Mb ee_me73 = true := by decide +kernel
/- 74: PepperTables$Acts.forget(LPepperTables$State;)V -/
def ee_B74 : List (Nat × List ee_en) := [(20, [(0, .aload_n 0, 1, 3, 0, 0, 0, 0, 0, 0), (1, .iconst 0, 1, 0, 0, 0, 0, 0, 0, 0), (2, .putfield 15, 3, 15, 37, 0, 0, 0, 0, 0), (5, .aload_n 0, 1, 3, 0, 0, 0, 0, 0, 0), (6, .iconst 0, 1, 0, 0, 0, 0, 0, 0, 0), (7, .putfield 19, 3, 15, 38, 0, 0, 0, 1, 0), (10, .aload_n 0, 1, 3, 0, 0, 0, 0, 0, 0), (11, .iconst 0, 1, 0, 0, 0, 0, 0, 0, 0), (12, .putfield 22, 3, 15, 39, 0, 0, 0, 2, 0), (15, .aload_n 1, 1, 3, 0, 0, 0, 0, 0, 0), (16, .aload_n 0, 1, 3, 0, 0, 0, 0, 0, 0), (17, .getfield 11, 3, 14, 36, 0, 0, 0, 3, 3)]), (28, [(20, .aload_n 0, 1, 3, 0, 0, 0, 0, 0, 0), (21, .getfield 22, 3, 14, 39, 0, 0, 0, 2, 0), (24, .invokevirtual 25, 3, 23, 64, 0, 0, 143, 0, 2), (27, .return_, 1, 21, 0, 0, 0, 0, 0, 0)])]
def ee_me74 : ee_me := (0, ⟨"PepperTables$Acts", "forget", "(LPepperTables$State;)V"⟩, prog_2_method_2_code, 2, none, ee_B74, 0, 0)
set_option maxRecDepth 100000 in
theorem ee_me74ok : ee_Mb ee_me74 = true := by decide +kernel
/- 75: PepperTables$Acts.keep(LPepperTables$State;)V -/
def ee_B75 : List (Nat × List ee_en) := [(19, [(0, .aload_n 0, 1, 3, 0, 0, 0, 0, 0, 0), (1, .aload_n 0, 1, 3, 0, 0, 0, 0, 0, 0), (2, .getfield 22, 3, 14, 39, 0, 0, 0, 2, 0), (5, .iconst 1, 1, 0, 0, 0, 0, 0, 0, 0), (6, .iadd, 1, 7, 0, 0, 0, 0, 0, 0), (7, .bipush 41, 2, 0, 0, 0, 0, 0, 0, 0), (9, .irem, 1, 8, 0, 0, 0, 0, 0, 0), (10, .putfield 22, 3, 15, 39, 0, 0, 0, 2, 0), (13, .aload_n 1, 1, 3, 0, 0, 0, 0, 0, 0), (14, .aload_n 0, 1, 3, 0, 0, 0, 0, 0, 0), (15, .getfield 11, 3, 14, 36, 0, 0, 0, 3, 3), (18, .aload_n 0, 1, 3, 0, 0, 0, 0, 0, 0)]), (42, [(19, .getfield 22, 3, 14, 39, 0, 0, 0, 2, 0), (22, .invokevirtual 25, 3, 23, 64, 0, 0, 143, 0, 2), (25, .aload_n 0, 1, 3, 0, 0, 0, 0, 0, 0), (26, .aload_n 0, 1, 3, 0, 0, 0, 0, 0, 0), (27, .getfield 15, 3, 14, 37, 0, 0, 0, 0, 0), (30, .iconst 1, 1, 0, 0, 0, 0, 0, 0, 0), (31, .iadd, 1, 7, 0, 0, 0, 0, 0, 0), (32, .bipush 40, 2, 0, 0, 0, 0, 0, 0, 0), (34, .invokestatic 29, 3, 24, 0, 3, 0, 0, 0, 0), (37, .putfield 15, 3, 15, 37, 0, 0, 0, 0, 0), (40, .aload_n 0, 1, 3, 0, 0, 0, 0, 0, 0), (41, .iconst 0, 1, 0, 0, 0, 0, 0, 0, 0)]), (46, [(42, .putfield 19, 3, 15, 38, 0, 0, 0, 1, 0), (45, .return_, 1, 21, 0, 0, 0, 0, 0, 0)])]
def ee_me75 : ee_me := (0, ⟨"PepperTables$Acts", "keep", "(LPepperTables$State;)V"⟩, prog_2_method_3_code, 2, none, ee_B75, 0, 0)
set_option maxRecDepth 100000 in
theorem ee_me75ok : ee_Mb ee_me75 = true := by decide +kernel
/- 76: PepperTables$Acts.stepBack(LPepperTables$State;)Z -/
def ee_B76 : List (Nat × List ee_en) := [(19, [(0, .aload_n 0, 1, 3, 0, 0, 0, 0, 0, 0), (1, .getfield 15, 3, 14, 37, 0, 0, 0, 0, 0), (4, .ifCond .ne 5, 3, 12, 0, 0, 0, 0, 0, 0), (7, .iconst 0, 1, 0, 0, 0, 0, 0, 0, 0), (8, .ireturn, 1, 21, 0, 0, 0, 0, 0, 0), (9, .aload_n 0, 1, 3, 0, 0, 0, 0, 0, 0), (10, .aload_n 0, 1, 3, 0, 0, 0, 0, 0, 0), (11, .getfield 22, 3, 14, 39, 0, 0, 0, 2, 0), (14, .bipush 41, 2, 0, 0, 0, 0, 0, 0, 0), (16, .iadd, 1, 7, 0, 0, 0, 0, 0, 0), (17, .iconst 1, 1, 0, 0, 0, 0, 0, 0, 0), (18, .isub, 1, 7, 0, 0, 0, 0, 0, 0)]), (42, [(19, .bipush 41, 2, 0, 0, 0, 0, 0, 0, 0), (21, .irem, 1, 8, 0, 0, 0, 0, 0, 0), (22, .putfield 22, 3, 15, 39, 0, 0, 0, 2, 0), (25, .aload_n 1, 1, 3, 0, 0, 0, 0, 0, 0), (26, .aload_n 0, 1, 3, 0, 0, 0, 0, 0, 0), (27, .getfield 11, 3, 14, 36, 0, 0, 0, 3, 3), (30, .aload_n 0, 1, 3, 0, 0, 0, 0, 0, 0), (31, .getfield 22, 3, 14, 39, 0, 0, 0, 2, 0), (34, .invokevirtual 35, 3, 23, 65, 0, 0, 142, 0, 2), (37, .aload_n 0, 1, 3, 0, 0, 0, 0, 0, 0), (38, .dup, 1, 11, 0, 0, 0, 0, 0, 0), (39, .getfield 15, 3, 14, 37, 0, 0, 0, 0, 0)]), (59, [(42, .iconst 1, 1, 0, 0, 0, 0, 0, 0, 0), (43, .isub, 1, 7, 0, 0, 0, 0, 0, 0), (44, .putfield 15, 3, 15, 37, 0, 0, 0, 0, 0), (47, .aload_n 0, 1, 3, 0, 0, 0, 0, 0, 0), (48, .dup, 1, 11, 0, 0, 0, 0, 0, 0), (49, .getfield 19, 3, 14, 38, 0, 0, 0, 1, 0), (52, .iconst 1, 1, 0, 0, 0, 0, 0, 0, 0), (53, .iadd, 1, 7, 0, 0, 0, 0, 0, 0), (54, .putfield 19, 3, 15, 38, 0, 0, 0, 1, 0), (57, .iconst 1, 1, 0, 0, 0, 0, 0, 0, 0), (58, .ireturn, 1, 21, 0, 0, 0, 0, 0, 0)])]
def ee_me76 : ee_me := (0, ⟨"PepperTables$Acts", "stepBack", "(LPepperTables$State;)Z"⟩, prog_2_method_4_code, 2, (some .boolean), ee_B76, 0, 0)
set_option maxRecDepth 100000 in
theorem ee_me76ok : ee_Mb ee_me76 = true := by decide +kernel
/- 77: PepperTables$Acts.stepOn(LPepperTables$State;)Z -/
def ee_B77 : List (Nat × List ee_en) := [(19, [(0, .aload_n 0, 1, 3, 0, 0, 0, 0, 0, 0), (1, .getfield 19, 3, 14, 38, 0, 0, 0, 1, 0), (4, .ifCond .ne 5, 3, 12, 0, 0, 0, 0, 0, 0), (7, .iconst 0, 1, 0, 0, 0, 0, 0, 0, 0), (8, .ireturn, 1, 21, 0, 0, 0, 0, 0, 0), (9, .aload_n 0, 1, 3, 0, 0, 0, 0, 0, 0), (10, .aload_n 0, 1, 3, 0, 0, 0, 0, 0, 0), (11, .getfield 22, 3, 14, 39, 0, 0, 0, 2, 0), (14, .iconst 1, 1, 0, 0, 0, 0, 0, 0, 0), (15, .iadd, 1, 7, 0, 0, 0, 0, 0, 0), (16, .bipush 41, 2, 0, 0, 0, 0, 0, 0, 0), (18, .irem, 1, 8, 0, 0, 0, 0, 0, 0)]), (41, [(19, .putfield 22, 3, 15, 39, 0, 0, 0, 2, 0), (22, .aload_n 1, 1, 3, 0, 0, 0, 0, 0, 0), (23, .aload_n 0, 1, 3, 0, 0, 0, 0, 0, 0), (24, .getfield 11, 3, 14, 36, 0, 0, 0, 3, 3), (27, .aload_n 0, 1, 3, 0, 0, 0, 0, 0, 0), (28, .getfield 22, 3, 14, 39, 0, 0, 0, 2, 0), (31, .invokevirtual 35, 3, 23, 65, 0, 0, 142, 0, 2), (34, .aload_n 0, 1, 3, 0, 0, 0, 0, 0, 0), (35, .dup, 1, 11, 0, 0, 0, 0, 0, 0), (36, .getfield 19, 3, 14, 38, 0, 0, 0, 1, 0), (39, .iconst 1, 1, 0, 0, 0, 0, 0, 0, 0), (40, .isub, 1, 7, 0, 0, 0, 0, 0, 0)]), (56, [(41, .putfield 19, 3, 15, 38, 0, 0, 0, 1, 0), (44, .aload_n 0, 1, 3, 0, 0, 0, 0, 0, 0), (45, .dup, 1, 11, 0, 0, 0, 0, 0, 0), (46, .getfield 15, 3, 14, 37, 0, 0, 0, 0, 0), (49, .iconst 1, 1, 0, 0, 0, 0, 0, 0, 0), (50, .iadd, 1, 7, 0, 0, 0, 0, 0, 0), (51, .putfield 15, 3, 15, 37, 0, 0, 0, 0, 0), (54, .iconst 1, 1, 0, 0, 0, 0, 0, 0, 0), (55, .ireturn, 1, 21, 0, 0, 0, 0, 0, 0)])]
def ee_me77 : ee_me := (0, ⟨"PepperTables$Acts", "stepOn", "(LPepperTables$State;)Z"⟩, prog_2_method_5_code, 2, (some .boolean), ee_B77, 0, 0)
set_option maxRecDepth 100000 in
theorem ee_me77ok : ee_Mb ee_me77 = true := by decide +kernel
/- 78: PepperTables$Boxes.<init>()V -/
def ee_B78 : List (Nat × List ee_en) := [(20, [(0, .aload_n 0, 1, 3, 0, 0, 0, 0, 0, 0), (1, .invokespecial 3, 3, 20, 2, 1, 0, 0, 0, 0), (4, .aload_n 0, 1, 3, 0, 0, 0, 0, 0, 0), (5, .bipush 57, 2, 0, 0, 0, 0, 0, 0, 0), (7, .newarray .int, 2, 18, 0, 0, 0, 0, 0, 0), (9, .putfield 11, 3, 15, 40, 0, 0, 1, 0, 3), (12, .aload_n 0, 1, 3, 0, 0, 0, 0, 0, 0), (13, .iconst 3, 1, 0, 0, 0, 0, 0, 0, 0), (14, .newarray .boolean, 2, 18, 0, 0, 0, 0, 0, 0), (16, .putfield 17, 3, 15, 41, 0, 0, 1, 1, 3), (19, .return_, 1, 21, 0, 0, 0, 0, 0, 0)])]
def ee_me78 : ee_me := (1, ⟨"PepperTables$Boxes", "<init>", "()V"⟩, prog_3_method_1_code, 1, none, ee_B78, 2, 60)
set_option maxRecDepth 100000 in
theorem ee_me78ok : ee_Mb ee_me78 = true := by decide +kernel
/- 79: PepperTables$Boxes.fill(ILPepperTables$State;)Z -/
def ee_B79 : List (Nat × List ee_en) := [(20, [(0, .iload_n 1, 1, 2, 0, 0, 0, 0, 0, 0), (1, .ifCond .lt 8, 3, 12, 0, 0, 0, 0, 0, 0), (4, .iload_n 1, 1, 2, 0, 0, 0, 0, 0, 0), (5, .iconst 3, 1, 0, 0, 0, 0, 0, 0, 0), (6, .if_icmp .lt 5, 3, 12, 0, 0, 0, 0, 0, 0), (9, .iconst 0, 1, 0, 0, 0, 0, 0, 0, 0), (10, .ireturn, 1, 21, 0, 0, 0, 0, 0, 0), (11, .aload_n 2, 1, 3, 0, 0, 0, 0, 0, 0), (12, .aload_n 0, 1, 3, 0, 0, 0, 0, 0, 0), (13, .getfield 11, 3, 14, 40, 0, 0, 1, 0, 3), (16, .iload_n 1, 1, 2, 0, 0, 0, 0, 0, 0), (17, .invokevirtual 21, 3, 23, 66, 0, 0, 143, 0, 2)]), (29, [(20, .aload_n 0, 1, 3, 0, 0, 0, 0, 0, 0), (21, .getfield 17, 3, 14, 41, 0, 0, 1, 1, 3), (24, .iload_n 1, 1, 2, 0, 0, 0, 0, 0, 0), (25, .iconst 1, 1, 0, 0, 0, 0, 0, 0, 0), (26, .bastore, 1, 17, 0, 0, 0, 0, 0, 0), (27, .iconst 1, 1, 0, 0, 0, 0, 0, 0, 0), (28, .ireturn, 1, 21, 0, 0, 0, 0, 0, 0)])]
def ee_me79 : ee_me := (1, ⟨"PepperTables$Boxes", "fill", "(ILPepperTables$State;)Z"⟩, prog_3_method_3_code, 3, (some .boolean), ee_B79, 0, 0)
set_option maxRecDepth 100000 in
theorem ee_me79ok : ee_Mb ee_me79 = true := by decide +kernel
/- 80: PepperTables$Boxes.forget()V -/
def ee_B80 : List (Nat × List ee_en) := [(20, [(0, .iconst 0, 1, 0, 0, 0, 0, 0, 0, 0), (1, .istore_n 1, 1, 4, 0, 0, 0, 0, 0, 0), (2, .iload_n 1, 1, 2, 0, 0, 0, 0, 0, 0), (3, .iconst 3, 1, 0, 0, 0, 0, 0, 0, 0), (4, .if_icmp .ge 16, 3, 12, 0, 0, 0, 0, 0, 0), (7, .aload_n 0, 1, 3, 0, 0, 0, 0, 0, 0), (8, .getfield 17, 3, 14, 41, 0, 0, 1, 1, 3), (11, .iload_n 1, 1, 2, 0, 0, 0, 0, 0, 0), (12, .iconst 0, 1, 0, 0, 0, 0, 0, 0, 0), (13, .bastore, 1, 17, 0, 0, 0, 0, 0, 0), (14, .iinc 1 1, 3, 6, 0, 0, 0, 0, 0, 0), (17, .goto (-15), 3, 0, 0, 0, 0, 0, 0, 0)]), (21, [(20, .return_, 1, 21, 0, 0, 0, 0, 0, 0)])]
def ee_me80 : ee_me := (1, ⟨"PepperTables$Boxes", "forget", "()V"⟩, prog_3_method_2_code, 2, none, ee_B80, 0, 0)
set_option maxRecDepth 100000 in
theorem ee_me80ok : ee_Mb ee_me80 = true := by decide +kernel
/- 81: PepperTables$Boxes.restore(ILPepperTables$State;)Z -/
def ee_B81 : List (Nat × List ee_en) := [(20, [(0, .iload_n 1, 1, 2, 0, 0, 0, 0, 0, 0), (1, .ifCond .lt 17, 3, 12, 0, 0, 0, 0, 0, 0), (4, .iload_n 1, 1, 2, 0, 0, 0, 0, 0, 0), (5, .iconst 3, 1, 0, 0, 0, 0, 0, 0, 0), (6, .if_icmp .ge 12, 3, 12, 0, 0, 0, 0, 0, 0), (9, .aload_n 0, 1, 3, 0, 0, 0, 0, 0, 0), (10, .getfield 17, 3, 14, 41, 0, 0, 1, 1, 3), (13, .iload_n 1, 1, 2, 0, 0, 0, 0, 0, 0), (14, .baload, 1, 22, 0, 0, 0, 0, 0, 0), (15, .ifCond .ne 5, 3, 12, 0, 0, 0, 0, 0, 0), (18, .iconst 0, 1, 0, 0, 0, 0, 0, 0, 0), (19, .ireturn, 1, 21, 0, 0, 0, 0, 0, 0)]), (31, [(20, .aload_n 2, 1, 3, 0, 0, 0, 0, 0, 0), (21, .aload_n 0, 1, 3, 0, 0, 0, 0, 0, 0), (22, .getfield 11, 3, 14, 40, 0, 0, 1, 0, 3), (25, .iload_n 1, 1, 2, 0, 0, 0, 0, 0, 0), (26, .invokevirtual 25, 3, 23, 67, 0, 0, 142, 0, 2), (29, .iconst 1, 1, 0, 0, 0, 0, 0, 0, 0), (30, .ireturn, 1, 21, 0, 0, 0, 0, 0, 0)])]
def ee_me81 : ee_me := (1, ⟨"PepperTables$Boxes", "restore", "(ILPepperTables$State;)Z"⟩, prog_3_method_4_code, 3, (some .boolean), ee_B81, 0, 0)
set_option maxRecDepth 100000 in
theorem ee_me81ok : ee_Mb ee_me81 = true := by decide +kernel
/- 82: PepperTables$Hearsay.<init>()V -/
def ee_B82 : List (Nat × List ee_en) := [(23, [(0, .aload_n 0, 1, 3, 0, 0, 0, 0, 0, 0), (1, .invokespecial 5, 3, 20, 3, 1, 0, 0, 0, 0), (4, .aload_n 0, 1, 3, 0, 0, 0, 0, 0, 0), (5, .bipush 30, 2, 0, 0, 0, 0, 0, 0, 0), (7, .newarray .int, 2, 18, 0, 0, 0, 0, 0, 0), (9, .putfield 11, 3, 15, 42, 0, 0, 2, 4, 3), (12, .aload_n 0, 1, 3, 0, 0, 0, 0, 0, 0), (13, .bipush 30, 2, 0, 0, 0, 0, 0, 0, 0), (15, .newarray .int, 2, 18, 0, 0, 0, 0, 0, 0), (17, .putfield 15, 3, 15, 43, 0, 0, 2, 5, 3), (20, .aload_n 0, 1, 3, 0, 0, 0, 0, 0, 0), (21, .bipush 30, 2, 0, 0, 0, 0, 0, 0, 0)]), (48, [(23, .newarray .boolean, 2, 18, 0, 0, 0, 0, 0, 0), (25, .putfield 18, 3, 15, 44, 0, 0, 2, 6, 3), (28, .aload_n 0, 1, 3, 0, 0, 0, 0, 0, 0), (29, .bipush 30, 2, 0, 0, 0, 0, 0, 0, 0), (31, .newarray .int, 2, 18, 0, 0, 0, 0, 0, 0), (33, .putfield 22, 3, 15, 45, 0, 0, 2, 7, 3), (36, .aload_n 0, 1, 3, 0, 0, 0, 0, 0, 0), (37, .bipush 30, 2, 0, 0, 0, 0, 0, 0, 0), (39, .newarray .int, 2, 18, 0, 0, 0, 0, 0, 0), (41, .putfield 25, 3, 15, 46, 0, 0, 2, 8, 3), (44, .aload_n 0, 1, 3, 0, 0, 0, 0, 0, 0), (45, .sipush 180, 3, 0, 0, 0, 0, 0, 0, 0)]), (73, [(48, .newarray .int, 2, 18, 0, 0, 0, 0, 0, 0), (50, .putfield 28, 3, 15, 47, 0, 0, 2, 9, 3), (53, .aload_n 0, 1, 3, 0, 0, 0, 0, 0, 0), (54, .bipush 36, 2, 0, 0, 0, 0, 0, 0, 0), (56, .newarray .boolean, 2, 18, 0, 0, 0, 0, 0, 0), (58, .putfield 31, 3, 15, 48, 0, 0, 2, 10, 3), (61, .aload_n 0, 1, 3, 0, 0, 0, 0, 0, 0), (62, .bipush 11, 2, 0, 0, 0, 0, 0, 0, 0), (64, .newarray .int, 2, 18, 0, 0, 0, 0, 0, 0), (66, .putfield 34, 3, 15, 49, 0, 0, 2, 11, 3), (69, .aload_n 0, 1, 3, 0, 0, 0, 0, 0, 0), (70, .new 37, 3, 18, 8, 0, 0, 6, 6, 0)]), (81, [(73, .dup, 1, 11, 0, 0, 0, 0, 0, 0), (74, .invokespecial 39, 3, 23, 68, 0, 0, 137, 2, 0), (77, .putfield 40, 3, 15, 50, 0, 0, 2, 12, 3), (80, .return_, 1, 21, 0, 0, 0, 0, 0, 0)])]
def ee_me82 : ee_me := (2, ⟨"PepperTables$Hearsay", "<init>", "()V"⟩, prog_4_method_1_code, 1, none, ee_B82, 11, 398)
set_option maxRecDepth 100000 in
theorem ee_me82ok : ee_Mb ee_me82 = true := by decide +kernel
end
section
/- 83: PepperTables$Hearsay.agrees(II)Z -/
def ee_B83 : List (Nat × List ee_en) := [(20, [(0, .iconst 0, 1, 0, 0, 0, 0, 0, 0, 0), (1, .istore_n 3, 1, 4, 0, 0, 0, 0, 0, 0), (2, .iload_n 3, 1, 2, 0, 0, 0, 0, 0, 0), (3, .aload_n 0, 1, 3, 0, 0, 0, 0, 0, 0), (4, .getfield 44, 3, 14, 51, 0, 0, 2, 0, 0), (7, .if_icmp .ge 107, 3, 12, 0, 0, 0, 0, 0, 0), (10, .aload_n 0, 1, 3, 0, 0, 0, 0, 0, 0), (11, .getfield 25, 3, 14, 46, 0, 0, 2, 8, 3), (14, .iload_n 3, 1, 2, 0, 0, 0, 0, 0, 0), (15, .iaload, 1, 22, 0, 0, 0, 0, 0, 0), (16, .iconst (-1), 1, 0, 0, 0, 0, 0, 0, 0), (17, .if_icmp .eq 17, 3, 12, 0, 0, 0, 0, 0, 0)]), (41, [(20, .aload_n 0, 1, 3, 0, 0, 0, 0, 0, 0), (21, .getfield 25, 3, 14, 46, 0, 0, 2, 8, 3), (24, .iload_n 3, 1, 2, 0, 0, 0, 0, 0, 0), (25, .iaload, 1, 22, 0, 0, 0, 0, 0, 0), (26, .iload_n 2, 1, 2, 0, 0, 0, 0, 0, 0), (27, .if_icmp .gt 7, 3, 12, 0, 0, 0, 0, 0, 0), (30, .iconst 1, 1, 0, 0, 0, 0, 0, 0, 0), (31, .goto 4, 3, 0, 0, 0, 0, 0, 0, 0), (34, .iconst 0, 1, 0, 0, 0, 0, 0, 0, 0), (35, .istore 4, 2, 4, 0, 0, 0, 0, 0, 0), (37, .aload_n 0, 1, 3, 0, 0, 0, 0, 0, 0), (38, .getfield 22, 3, 14, 45, 0, 0, 2, 7, 3)]), (63, [(41, .iload_n 3, 1, 2, 0, 0, 0, 0, 0, 0), (42, .iaload, 1, 22, 0, 0, 0, 0, 0, 0), (43, .iload_n 2, 1, 2, 0, 0, 0, 0, 0, 0), (44, .if_icmp .gt 12, 3, 12, 0, 0, 0, 0, 0, 0), (47, .iload 4, 2, 2, 0, 0, 0, 0, 0, 0), (49, .ifCond .ne 7, 3, 12, 0, 0, 0, 0, 0, 0), (52, .iconst 1, 1, 0, 0, 0, 0, 0, 0, 0), (53, .goto 4, 3, 0, 0, 0, 0, 0, 0, 0), (56, .iconst 0, 1, 0, 0, 0, 0, 0, 0, 0), (57, .istore 5, 2, 4, 0, 0, 0, 0, 0, 0), (59, .aload_n 0, 1, 3, 0, 0, 0, 0, 0, 0), (60, .getfield 28, 3, 14, 47, 0, 0, 2, 9, 3)]), (79, [(63, .iload_n 1, 1, 2, 0, 0, 0, 0, 0, 0), (64, .iconst 5, 1, 0, 0, 0, 0, 0, 0, 0), (65, .imul, 1, 7, 0, 0, 0, 0, 0, 0), (66, .aload_n 0, 1, 3, 0, 0, 0, 0, 0, 0), (67, .getfield 11, 3, 14, 42, 0, 0, 2, 4, 3), (70, .iload_n 3, 1, 2, 0, 0, 0, 0, 0, 0), (71, .iaload, 1, 22, 0, 0, 0, 0, 0, 0), (72, .iadd, 1, 7, 0, 0, 0, 0, 0, 0), (73, .iaload, 1, 22, 0, 0, 0, 0, 0, 0), (74, .aload_n 0, 1, 3, 0, 0, 0, 0, 0, 0), (75, .getfield 15, 3, 14, 43, 0, 0, 2, 5, 3), (78, .iload_n 3, 1, 2, 0, 0, 0, 0, 0, 0)]), (102, [(79, .iaload, 1, 22, 0, 0, 0, 0, 0, 0), (80, .if_icmp .lt 7, 3, 12, 0, 0, 0, 0, 0, 0), (83, .iconst 1, 1, 0, 0, 0, 0, 0, 0, 0), (84, .goto 4, 3, 0, 0, 0, 0, 0, 0, 0), (87, .iconst 0, 1, 0, 0, 0, 0, 0, 0, 0), (88, .istore 6, 2, 4, 0, 0, 0, 0, 0, 0), (90, .iload 5, 2, 2, 0, 0, 0, 0, 0, 0), (92, .ifCond .eq 16, 3, 12, 0, 0, 0, 0, 0, 0), (95, .iload 6, 2, 2, 0, 0, 0, 0, 0, 0), (97, .aload_n 0, 1, 3, 0, 0, 0, 0, 0, 0), (98, .getfield 18, 3, 14, 44, 0, 0, 2, 6, 3), (101, .iload_n 3, 1, 2, 0, 0, 0, 0, 0, 0)]), (116, [(102, .baload, 1, 22, 0, 0, 0, 0, 0, 0), (103, .if_icmp .eq 5, 3, 12, 0, 0, 0, 0, 0, 0), (106, .iconst 0, 1, 0, 0, 0, 0, 0, 0, 0), (107, .ireturn, 1, 21, 0, 0, 0, 0, 0, 0), (108, .iinc 3 1, 3, 6, 0, 0, 0, 0, 0, 0), (111, .goto (-109), 3, 0, 0, 0, 0, 0, 0, 0), (114, .iconst 1, 1, 0, 0, 0, 0, 0, 0, 0), (115, .ireturn, 1, 21, 0, 0, 0, 0, 0, 0)])]
def ee_me83 : ee_me := (2, ⟨"PepperTables$Hearsay", "agrees", "(II)Z"⟩, prog_4_method_9_code, 7, (some .boolean), ee_B83, 0, 0)
set_option maxRecDepth 100000 in
theorem ee_me83ok : ee_Mb ee_me83 = true := by decide +kernel
/- 84: PepperTables$Hearsay.forget()V -/
def ee_B84 : List (Nat × List ee_en) := [(11, [(0, .aload_n 0, 1, 3, 0, 0, 0, 0, 0, 0), (1, .iconst 0, 1, 0, 0, 0, 0, 0, 0, 0), (2, .putfield 44, 3, 15, 51, 0, 0, 2, 0, 0), (5, .aload_n 0, 1, 3, 0, 0, 0, 0, 0, 0), (6, .iconst 0, 1, 0, 0, 0, 0, 0, 0, 0), (7, .putfield 48, 3, 15, 52, 0, 0, 2, 2, 1), (10, .return_, 1, 21, 0, 0, 0, 0, 0, 0)])]
def ee_me84 : ee_me := (2, ⟨"PepperTables$Hearsay", "forget", "()V"⟩, prog_4_method_2_code, 1, none, ee_B84, 0, 0)
set_option maxRecDepth 100000 in
theorem ee_me84ok : ee_Mb ee_me84 = true := by decide +kernel
/- 85: PepperTables$Hearsay.goOn(I)I -/
def ee_B85 : List (Nat × List ee_en) := [(23, [(0, .iload_n 1, 1, 2, 0, 0, 0, 0, 0, 0), (1, .ifCond .lt 21, 3, 12, 0, 0, 0, 0, 0, 0), (4, .iload_n 1, 1, 2, 0, 0, 0, 0, 0, 0), (5, .sipush 1000, 3, 0, 0, 0, 0, 0, 0, 0), (8, .if_icmp .gt 14, 3, 12, 0, 0, 0, 0, 0, 0), (11, .aload_n 0, 1, 3, 0, 0, 0, 0, 0, 0), (12, .getfield 52, 3, 14, 53, 0, 0, 2, 1, 0), (15, .iload_n 1, 1, 2, 0, 0, 0, 0, 0, 0), (16, .iadd, 1, 7, 0, 0, 0, 0, 0, 0), (17, .ldc 55, 2, 1, 0, 0, 100000, 0, 0, 0), (19, .if_icmp .le 5, 3, 12, 0, 0, 0, 0, 0, 0), (22, .iconst (-1), 1, 0, 0, 0, 0, 0, 0, 0)]), (39, [(23, .ireturn, 1, 21, 0, 0, 0, 0, 0, 0), (24, .aload_n 0, 1, 3, 0, 0, 0, 0, 0, 0), (25, .dup, 1, 11, 0, 0, 0, 0, 0, 0), (26, .getfield 52, 3, 14, 53, 0, 0, 2, 1, 0), (29, .iload_n 1, 1, 2, 0, 0, 0, 0, 0, 0), (30, .iadd, 1, 7, 0, 0, 0, 0, 0, 0), (31, .putfield 52, 3, 15, 53, 0, 0, 2, 1, 0), (34, .aload_n 0, 1, 3, 0, 0, 0, 0, 0, 0), (35, .getfield 52, 3, 14, 53, 0, 0, 2, 1, 0), (38, .ireturn, 1, 21, 0, 0, 0, 0, 0, 0)])]
def ee_me85 : ee_me := (2, ⟨"PepperTables$Hearsay", "goOn", "(I)I"⟩, prog_4_method_5_code, 2, (some .int), ee_B85, 0, 0)
set_option maxRecDepth 100000 in
theorem ee_me85ok : ee_Mb ee_me85 = true := by decide +kernel
/- 86: PepperTables$Hearsay.mostLeftBy(I)I -/
def ee_B86 : List (Nat × List ee_en) := [(21, [(0, .iconst 0, 1, 0, 0, 0, 0, 0, 0, 0), (1, .istore_n 2, 1, 4, 0, 0, 0, 0, 0, 0), (2, .iload_n 2, 1, 2, 0, 0, 0, 0, 0, 0), (3, .bipush 10, 2, 0, 0, 0, 0, 0, 0, 0), (5, .if_icmp .gt 16, 3, 12, 0, 0, 0, 0, 0, 0), (8, .aload_n 0, 1, 3, 0, 0, 0, 0, 0, 0), (9, .getfield 34, 3, 14, 49, 0, 0, 2, 11, 3), (12, .iload_n 2, 1, 2, 0, 0, 0, 0, 0, 0), (13, .iconst 0, 1, 0, 0, 0, 0, 0, 0, 0), (14, .iastore, 1, 17, 0, 0, 0, 0, 0, 0), (15, .iinc 2 1, 3, 6, 0, 0, 0, 0, 0, 0), (18, .goto (-16), 3, 0, 0, 0, 0, 0, 0, 0)]), (39, [(21, .iconst 0, 1, 0, 0, 0, 0, 0, 0, 0), (22, .istore_n 2, 1, 4, 0, 0, 0, 0, 0, 0), (23, .iconst 0, 1, 0, 0, 0, 0, 0, 0, 0), (24, .istore_n 3, 1, 4, 0, 0, 0, 0, 0, 0), (25, .iload_n 3, 1, 2, 0, 0, 0, 0, 0, 0), (26, .aload_n 0, 1, 3, 0, 0, 0, 0, 0, 0), (27, .getfield 65, 3, 14, 54, 0, 0, 2, 3, 0), (30, .if_icmp .ge 53, 3, 12, 0, 0, 0, 0, 0, 0), (33, .aload_n 0, 1, 3, 0, 0, 0, 0, 0, 0), (34, .getfield 31, 3, 14, 48, 0, 0, 2, 10, 3), (37, .iload_n 3, 1, 2, 0, 0, 0, 0, 0, 0), (38, .baload, 1, 22, 0, 0, 0, 0, 0, 0)]), (58, [(39, .ifCond .eq 38, 3, 12, 0, 0, 0, 0, 0, 0), (42, .aload_n 0, 1, 3, 0, 0, 0, 0, 0, 0), (43, .getfield 28, 3, 14, 47, 0, 0, 2, 9, 3), (46, .iload_n 3, 1, 2, 0, 0, 0, 0, 0, 0), (47, .iconst 5, 1, 0, 0, 0, 0, 0, 0, 0), (48, .imul, 1, 7, 0, 0, 0, 0, 0, 0), (49, .iload_n 1, 1, 2, 0, 0, 0, 0, 0, 0), (50, .iadd, 1, 7, 0, 0, 0, 0, 0, 0), (51, .iaload, 1, 22, 0, 0, 0, 0, 0, 0), (52, .istore 4, 2, 4, 0, 0, 0, 0, 0, 0), (54, .aload_n 0, 1, 3, 0, 0, 0, 0, 0, 0), (55, .getfield 34, 3, 14, 49, 0, 0, 2, 11, 3)]), (76, [(58, .iload 4, 2, 2, 0, 0, 0, 0, 0, 0), (60, .dup2, 1, 11, 0, 0, 0, 0, 0, 0), (61, .iaload, 1, 22, 0, 0, 0, 0, 0, 0), (62, .iconst 1, 1, 0, 0, 0, 0, 0, 0, 0), (63, .iadd, 1, 7, 0, 0, 0, 0, 0, 0), (64, .iastore, 1, 17, 0, 0, 0, 0, 0, 0), (65, .iload_n 2, 1, 2, 0, 0, 0, 0, 0, 0), (66, .aload_n 0, 1, 3, 0, 0, 0, 0, 0, 0), (67, .getfield 34, 3, 14, 49, 0, 0, 2, 11, 3), (70, .iload 4, 2, 2, 0, 0, 0, 0, 0, 0), (72, .iaload, 1, 22, 0, 0, 0, 0, 0, 0), (73, .invokestatic 104, 3, 24, 1, 4, 0, 0, 0, 0)]), (85, [(76, .istore_n 2, 1, 4, 0, 0, 0, 0, 0, 0), (77, .iinc 3 1, 3, 6, 0, 0, 0, 0, 0, 0), (80, .goto (-55), 3, 0, 0, 0, 0, 0, 0, 0), (83, .iload_n 2, 1, 2, 0, 0, 0, 0, 0, 0), (84, .ireturn, 1, 21, 0, 0, 0, 0, 0, 0)])]
def ee_me86 : ee_me := (2, ⟨"PepperTables$Hearsay", "mostLeftBy", "(I)I"⟩, prog_4_method_11_code, 5, (some .int), ee_B86, 0, 0)
set_option maxRecDepth 100000 in
theorem ee_me86ok : ee_Mb ee_me86 = true := by decide +kernel
/- 87: PepperTables$Hearsay.placeIn(IIZ)I -/
def ee_B87 : List (Nat × List ee_en) := [(18, [(0, .iload_n 1, 1, 2, 0, 0, 0, 0, 0, 0), (1, .iconst 1, 1, 0, 0, 0, 0, 0, 0, 0), (2, .if_icmp .ge 5, 3, 12, 0, 0, 0, 0, 0, 0), (5, .iconst (-1), 1, 0, 0, 0, 0, 0, 0, 0), (6, .ireturn, 1, 21, 0, 0, 0, 0, 0, 0), (7, .iload_n 2, 1, 2, 0, 0, 0, 0, 0, 0), (8, .ifCond .eq 9, 3, 12, 0, 0, 0, 0, 0, 0), (11, .iload_n 0, 1, 2, 0, 0, 0, 0, 0, 0), (12, .iload_n 1, 1, 2, 0, 0, 0, 0, 0, 0), (13, .irem, 1, 8, 0, 0, 0, 0, 0, 0), (14, .goto 6, 3, 0, 0, 0, 0, 0, 0, 0), (17, .iload_n 0, 1, 2, 0, 0, 0, 0, 0, 0)]), (23, [(18, .iload_n 1, 1, 2, 0, 0, 0, 0, 0, 0), (19, .idiv, 1, 8, 0, 0, 0, 0, 0, 0), (20, .iconst 1, 1, 0, 0, 0, 0, 0, 0, 0), (21, .isub, 1, 7, 0, 0, 0, 0, 0, 0), (22, .ireturn, 1, 21, 0, 0, 0, 0, 0, 0)])]
def ee_me87 : ee_me := (2, ⟨"PepperTables$Hearsay", "placeIn", "(IIZ)I"⟩, prog_4_method_8_code, 3, (some .int), ee_B87, 0, 0)
set_option maxRecDepth 100000 in
theorem ee_me87ok : ee_Mb ee_me87 = true := by decide +kernel
/- 88: PepperTables$Hearsay.reckon(LPepperTables$Told;LPepperTables$Mill;)V -/
def ee_B88 : List (Nat × List ee_en) := [(20, [(0, .aload_n 0, 1, 3, 0, 0, 0, 0, 0, 0), (1, .getfield 48, 3, 14, 52, 0, 0, 2, 2, 1), (4, .ifCond .eq 4, 3, 12, 0, 0, 0, 0, 0, 0), (7, .return_, 1, 21, 0, 0, 0, 0, 0, 0), (8, .aload_n 1, 1, 3, 0, 0, 0, 0, 0, 0), (9, .getfield 72, 3, 14, 55, 0, 0, 7, 1, 0), (12, .iconst 1, 1, 0, 0, 0, 0, 0, 0, 0), (13, .iadd, 1, 7, 0, 0, 0, 0, 0, 0), (14, .istore_n 3, 1, 4, 0, 0, 0, 0, 0, 0), (15, .aload_n 0, 1, 3, 0, 0, 0, 0, 0, 0), (16, .aload_n 1, 1, 3, 0, 0, 0, 0, 0, 0), (17, .getfield 56, 3, 14, 56, 0, 0, 7, 2, 0)]), (42, [(20, .iconst 2, 1, 0, 0, 0, 0, 0, 0, 0), (21, .if_icmp .lt 9, 3, 12, 0, 0, 0, 0, 0, 0), (24, .iload_n 3, 1, 2, 0, 0, 0, 0, 0, 0), (25, .iload_n 3, 1, 2, 0, 0, 0, 0, 0, 0), (26, .imul, 1, 7, 0, 0, 0, 0, 0, 0), (27, .goto 4, 3, 0, 0, 0, 0, 0, 0, 0), (30, .iload_n 3, 1, 2, 0, 0, 0, 0, 0, 0), (31, .putfield 65, 3, 15, 54, 0, 0, 2, 3, 0), (34, .aload_n 0, 1, 3, 0, 0, 0, 0, 0, 0), (35, .getfield 40, 3, 14, 50, 0, 0, 2, 12, 3), (38, .aload_n 1, 1, 3, 0, 0, 0, 0, 0, 0), (39, .invokevirtual 74, 3, 23, 69, 0, 0, 138, 0, 1)]), (66, [(42, .iconst 0, 1, 0, 0, 0, 0, 0, 0, 0), (43, .istore 4, 2, 4, 0, 0, 0, 0, 0, 0), (45, .iload 4, 2, 2, 0, 0, 0, 0, 0, 0), (47, .aload_n 0, 1, 3, 0, 0, 0, 0, 0, 0), (48, .getfield 65, 3, 14, 54, 0, 0, 2, 3, 0), (51, .if_icmp .ge 115, 3, 12, 0, 0, 0, 0, 0, 0), (54, .aload_n 0, 1, 3, 0, 0, 0, 0, 0, 0), (55, .getfield 40, 3, 14, 50, 0, 0, 2, 12, 3), (58, .getfield 78, 3, 14, 57, 0, 0, 6, 4, 3), (61, .aload_n 1, 1, 3, 0, 0, 0, 0, 0, 0), (62, .getfield 56, 3, 14, 56, 0, 0, 7, 2, 0), (65, .iconst 1, 1, 0, 0, 0, 0, 0, 0, 0)]), (87, [(66, .isub, 1, 7, 0, 0, 0, 0, 0, 0), (67, .iload 4, 2, 2, 0, 0, 0, 0, 0, 0), (69, .iload_n 3, 1, 2, 0, 0, 0, 0, 0, 0), (70, .iconst 1, 1, 0, 0, 0, 0, 0, 0, 0), (71, .invokestatic 81, 3, 23, 70, 0, 0, 87, 1, 3), (74, .iastore, 1, 17, 0, 0, 0, 0, 0, 0), (75, .aload_n 1, 1, 3, 0, 0, 0, 0, 0, 0), (76, .getfield 56, 3, 14, 56, 0, 0, 7, 2, 0), (79, .iconst 2, 1, 0, 0, 0, 0, 0, 0, 0), (80, .if_icmp .lt 24, 3, 12, 0, 0, 0, 0, 0, 0), (83, .aload_n 0, 1, 3, 0, 0, 0, 0, 0, 0), (84, .getfield 40, 3, 14, 50, 0, 0, 2, 12, 3)]), (107, [(87, .getfield 78, 3, 14, 57, 0, 0, 6, 4, 3), (90, .aload_n 1, 1, 3, 0, 0, 0, 0, 0, 0), (91, .getfield 56, 3, 14, 56, 0, 0, 7, 2, 0), (94, .iconst 2, 1, 0, 0, 0, 0, 0, 0, 0), (95, .isub, 1, 7, 0, 0, 0, 0, 0, 0), (96, .iload 4, 2, 2, 0, 0, 0, 0, 0, 0), (98, .iload_n 3, 1, 2, 0, 0, 0, 0, 0, 0), (99, .iconst 0, 1, 0, 0, 0, 0, 0, 0, 0), (100, .invokestatic 81, 3, 23, 70, 0, 0, 87, 1, 3), (103, .iastore, 1, 17, 0, 0, 0, 0, 0, 0), (104, .iconst 0, 1, 0, 0, 0, 0, 0, 0, 0), (105, .istore 5, 2, 4, 0, 0, 0, 0, 0, 0)]), (129, [(107, .iload 5, 2, 2, 0, 0, 0, 0, 0, 0), (109, .aload_n 1, 1, 3, 0, 0, 0, 0, 0, 0), (110, .getfield 72, 3, 14, 55, 0, 0, 7, 1, 0), (113, .if_icmp .ge 47, 3, 12, 0, 0, 0, 0, 0, 0), (116, .aload_n 2, 1, 3, 0, 0, 0, 0, 0, 0), (117, .aload_n 1, 1, 3, 0, 0, 0, 0, 0, 0), (118, .aload_n 0, 1, 3, 0, 0, 0, 0, 0, 0), (119, .getfield 40, 3, 14, 50, 0, 0, 2, 12, 3), (122, .iload 5, 2, 2, 0, 0, 0, 0, 0, 0), (124, .aload_n 1, 1, 3, 0, 0, 0, 0, 0, 0), (125, .getfield 85, 3, 14, 58, 0, 0, 7, 0, 0), (128, .aload_n 1, 1, 3, 0, 0, 0, 0, 0, 0)]), (153, [(129, .invokevirtual 88, 3, 23, 71, 0, 0, 146, 0, 0), (132, .invokevirtual 92, 3, 23, 72, 0, 0, 107, 0, 5), (135, .istore 6, 2, 4, 0, 0, 0, 0, 0, 0), (137, .aload_n 0, 1, 3, 0, 0, 0, 0, 0, 0), (138, .getfield 28, 3, 14, 47, 0, 0, 2, 9, 3), (141, .iload 4, 2, 2, 0, 0, 0, 0, 0, 0), (143, .iconst 5, 1, 0, 0, 0, 0, 0, 0, 0), (144, .imul, 1, 7, 0, 0, 0, 0, 0, 0), (145, .iload 5, 2, 2, 0, 0, 0, 0, 0, 0), (147, .iadd, 1, 7, 0, 0, 0, 0, 0, 0), (148, .iload 6, 2, 2, 0, 0, 0, 0, 0, 0), (150, .invokestatic 98, 3, 23, 73, 0, 0, 297, 1, 1)]), (172, [(153, .iastore, 1, 17, 0, 0, 0, 0, 0, 0), (154, .iinc 5 1, 3, 6, 0, 0, 0, 0, 0, 0), (157, .goto (-50), 3, 0, 0, 0, 0, 0, 0, 0), (160, .iinc 4 1, 3, 6, 0, 0, 0, 0, 0, 0), (163, .goto (-118), 3, 0, 0, 0, 0, 0, 0, 0), (166, .aload_n 0, 1, 3, 0, 0, 0, 0, 0, 0), (167, .iconst 1, 1, 0, 0, 0, 0, 0, 0, 0), (168, .putfield 48, 3, 15, 52, 0, 0, 2, 2, 1), (171, .return_, 1, 21, 0, 0, 0, 0, 0, 0)])]
def ee_me88 : ee_me := (2, ⟨"PepperTables$Hearsay", "reckon", "(LPepperTables$Told;LPepperTables$Mill;)V"⟩, prog_4_method_7_code, 7, none, ee_B88, 0, 0)
set_option maxRecDepth 100000 in
theorem ee_me88ok : ee_Mb ee_me88 = true := by decide +kernel
/- 89: PepperTables$Hearsay.sameInAll(LPepperTables$Told;Z)I -/
def ee_B89 : List (Nat × List ee_en) := [(21, [(0, .iconst 1, 1, 0, 0, 0, 0, 0, 0, 0), (1, .istore_n 3, 1, 4, 0, 0, 0, 0, 0, 0), (2, .iconst (-1), 1, 0, 0, 0, 0, 0, 0, 0), (3, .istore 4, 2, 4, 0, 0, 0, 0, 0, 0), (5, .iconst 0, 1, 0, 0, 0, 0, 0, 0, 0), (6, .istore 5, 2, 4, 0, 0, 0, 0, 0, 0), (8, .iload 5, 2, 2, 0, 0, 0, 0, 0, 0), (10, .aload_n 0, 1, 3, 0, 0, 0, 0, 0, 0), (11, .getfield 65, 3, 14, 54, 0, 0, 2, 3, 0), (14, .if_icmp .ge 53, 3, 12, 0, 0, 0, 0, 0, 0), (17, .aload_n 0, 1, 3, 0, 0, 0, 0, 0, 0), (18, .getfield 31, 3, 14, 48, 0, 0, 2, 10, 3)]), (42, [(21, .iload 5, 2, 2, 0, 0, 0, 0, 0, 0), (23, .baload, 1, 22, 0, 0, 0, 0, 0, 0), (24, .ifCond .eq 37, 3, 12, 0, 0, 0, 0, 0, 0), (27, .iload 5, 2, 2, 0, 0, 0, 0, 0, 0), (29, .aload_n 1, 1, 3, 0, 0, 0, 0, 0, 0), (30, .getfield 72, 3, 14, 55, 0, 0, 7, 1, 0), (33, .iconst 1, 1, 0, 0, 0, 0, 0, 0, 0), (34, .iadd, 1, 7, 0, 0, 0, 0, 0, 0), (35, .iload_n 2, 1, 2, 0, 0, 0, 0, 0, 0), (36, .invokestatic 81, 3, 23, 70, 0, 0, 87, 1, 3), (39, .istore 6, 2, 4, 0, 0, 0, 0, 0, 0), (41, .iload_n 3, 1, 2, 0, 0, 0, 0, 0, 0)]), (67, [(42, .ifCond .ne 13, 3, 12, 0, 0, 0, 0, 0, 0), (45, .iload 6, 2, 2, 0, 0, 0, 0, 0, 0), (47, .iload 4, 2, 2, 0, 0, 0, 0, 0, 0), (49, .if_icmp .eq 6, 3, 12, 0, 0, 0, 0, 0, 0), (52, .bipush (-2), 2, 0, 0, 0, 0, 0, 0, 0), (54, .ireturn, 1, 21, 0, 0, 0, 0, 0, 0), (55, .iload 6, 2, 2, 0, 0, 0, 0, 0, 0), (57, .istore 4, 2, 4, 0, 0, 0, 0, 0, 0), (59, .iconst 0, 1, 0, 0, 0, 0, 0, 0, 0), (60, .istore_n 3, 1, 4, 0, 0, 0, 0, 0, 0), (61, .iinc 5 1, 3, 6, 0, 0, 0, 0, 0, 0), (64, .goto (-56), 3, 0, 0, 0, 0, 0, 0, 0)]), (70, [(67, .iload 4, 2, 2, 0, 0, 0, 0, 0, 0), (69, .ireturn, 1, 21, 0, 0, 0, 0, 0, 0)])]
def ee_me89 : ee_me := (2, ⟨"PepperTables$Hearsay", "sameInAll", "(LPepperTables$Told;Z)I"⟩, prog_4_method_10_code, 7, (some .int), ee_B89, 0, 0)
set_option maxRecDepth 100000 in
theorem ee_me89ok : ee_Mb ee_me89 = true := by decide +kernel
/- 90: PepperTables$Hearsay.sift(LPepperTables$Told;LPepperTables$Mill;I)I -/
def ee_B90 : List (Nat × List ee_en) := [(19, [(0, .aload_n 1, 1, 3, 0, 0, 0, 0, 0, 0), (1, .getfield 56, 3, 14, 56, 0, 0, 7, 2, 0), (4, .ifCond .ne 5, 3, 12, 0, 0, 0, 0, 0, 0), (7, .iconst 0, 1, 0, 0, 0, 0, 0, 0, 0), (8, .ireturn, 1, 21, 0, 0, 0, 0, 0, 0), (9, .aload_n 0, 1, 3, 0, 0, 0, 0, 0, 0), (10, .aload_n 1, 1, 3, 0, 0, 0, 0, 0, 0), (11, .aload_n 2, 1, 3, 0, 0, 0, 0, 0, 0), (12, .invokevirtual 61, 3, 23, 74, 0, 0, 88, 0, 2), (15, .iconst 0, 1, 0, 0, 0, 0, 0, 0, 0), (16, .istore 4, 2, 4, 0, 0, 0, 0, 0, 0), (18, .iconst 0, 1, 0, 0, 0, 0, 0, 0, 0)]), (43, [(19, .istore 5, 2, 4, 0, 0, 0, 0, 0, 0), (21, .iload 5, 2, 2, 0, 0, 0, 0, 0, 0), (23, .aload_n 0, 1, 3, 0, 0, 0, 0, 0, 0), (24, .getfield 65, 3, 14, 54, 0, 0, 2, 3, 0), (27, .if_icmp .ge 36, 3, 12, 0, 0, 0, 0, 0, 0), (30, .aload_n 0, 1, 3, 0, 0, 0, 0, 0, 0), (31, .getfield 31, 3, 14, 48, 0, 0, 2, 10, 3), (34, .iload 5, 2, 2, 0, 0, 0, 0, 0, 0), (36, .aload_n 0, 1, 3, 0, 0, 0, 0, 0, 0), (37, .iload 5, 2, 2, 0, 0, 0, 0, 0, 0), (39, .iload_n 3, 1, 2, 0, 0, 0, 0, 0, 0), (40, .invokevirtual 68, 3, 23, 75, 0, 0, 83, 0, 2)]), (66, [(43, .bastore, 1, 17, 0, 0, 0, 0, 0, 0), (44, .aload_n 0, 1, 3, 0, 0, 0, 0, 0, 0), (45, .getfield 31, 3, 14, 48, 0, 0, 2, 10, 3), (48, .iload 5, 2, 2, 0, 0, 0, 0, 0, 0), (50, .baload, 1, 22, 0, 0, 0, 0, 0, 0), (51, .ifCond .eq 6, 3, 12, 0, 0, 0, 0, 0, 0), (54, .iinc 4 1, 3, 6, 0, 0, 0, 0, 0, 0), (57, .iinc 5 1, 3, 6, 0, 0, 0, 0, 0, 0), (60, .goto (-39), 3, 0, 0, 0, 0, 0, 0, 0), (63, .iload 4, 2, 2, 0, 0, 0, 0, 0, 0), (65, .ireturn, 1, 21, 0, 0, 0, 0, 0, 0)])]
def ee_me90 : ee_me := (2, ⟨"PepperTables$Hearsay", "sift", "(LPepperTables$Told;LPepperTables$Mill;I)I"⟩, prog_4_method_6_code, 6, (some .int), ee_B90, 0, 0)
set_option maxRecDepth 100000 in
theorem ee_me90ok : ee_Mb ee_me90 = true := by decide +kernel
/- 91: PepperTables$Hearsay.takeBack(I)Z -/
def ee_B91 : List (Nat × List ee_en) := [(22, [(0, .iload_n 1, 1, 2, 0, 0, 0, 0, 0, 0), (1, .ifCond .lt 21, 3, 12, 0, 0, 0, 0, 0, 0), (4, .iload_n 1, 1, 2, 0, 0, 0, 0, 0, 0), (5, .aload_n 0, 1, 3, 0, 0, 0, 0, 0, 0), (6, .getfield 44, 3, 14, 51, 0, 0, 2, 0, 0), (9, .if_icmp .ge 13, 3, 12, 0, 0, 0, 0, 0, 0), (12, .aload_n 0, 1, 3, 0, 0, 0, 0, 0, 0), (13, .getfield 25, 3, 14, 46, 0, 0, 2, 8, 3), (16, .iload_n 1, 1, 2, 0, 0, 0, 0, 0, 0), (17, .iaload, 1, 22, 0, 0, 0, 0, 0, 0), (18, .iconst (-1), 1, 0, 0, 0, 0, 0, 0, 0), (19, .if_icmp .eq 5, 3, 12, 0, 0, 0, 0, 0, 0)]), (36, [(22, .iconst 0, 1, 0, 0, 0, 0, 0, 0, 0), (23, .ireturn, 1, 21, 0, 0, 0, 0, 0, 0), (24, .aload_n 0, 1, 3, 0, 0, 0, 0, 0, 0), (25, .getfield 25, 3, 14, 46, 0, 0, 2, 8, 3), (28, .iload_n 1, 1, 2, 0, 0, 0, 0, 0, 0), (29, .aload_n 0, 1, 3, 0, 0, 0, 0, 0, 0), (30, .getfield 52, 3, 14, 53, 0, 0, 2, 1, 0), (33, .iastore, 1, 17, 0, 0, 0, 0, 0, 0), (34, .iconst 1, 1, 0, 0, 0, 0, 0, 0, 0), (35, .ireturn, 1, 21, 0, 0, 0, 0, 0, 0)])]
def ee_me91 : ee_me := (2, ⟨"PepperTables$Hearsay", "takeBack", "(I)Z"⟩, prog_4_method_4_code, 2, (some .boolean), ee_B91, 0, 0)
set_option maxRecDepth 100000 in
theorem ee_me91ok : ee_Mb ee_me91 = true := by decide +kernel
/- 92: PepperTables$Hearsay.tell(IIZ)I -/
def ee_B92 : List (Nat × List ee_en) := [(21, [(0, .aload_n 0, 1, 3, 0, 0, 0, 0, 0, 0), (1, .getfield 44, 3, 14, 51, 0, 0, 2, 0, 0), (4, .bipush 30, 2, 0, 0, 0, 0, 0, 0, 0), (6, .if_icmp .lt 5, 3, 12, 0, 0, 0, 0, 0, 0), (9, .iconst (-1), 1, 0, 0, 0, 0, 0, 0, 0), (10, .ireturn, 1, 21, 0, 0, 0, 0, 0, 0), (11, .aload_n 0, 1, 3, 0, 0, 0, 0, 0, 0), (12, .getfield 11, 3, 14, 42, 0, 0, 2, 4, 3), (15, .aload_n 0, 1, 3, 0, 0, 0, 0, 0, 0), (16, .getfield 44, 3, 14, 51, 0, 0, 2, 0, 0), (19, .iload_n 1, 1, 2, 0, 0, 0, 0, 0, 0), (20, .iastore, 1, 17, 0, 0, 0, 0, 0, 0)]), (41, [(21, .aload_n 0, 1, 3, 0, 0, 0, 0, 0, 0), (22, .getfield 15, 3, 14, 43, 0, 0, 2, 5, 3), (25, .aload_n 0, 1, 3, 0, 0, 0, 0, 0, 0), (26, .getfield 44, 3, 14, 51, 0, 0, 2, 0, 0), (29, .iload_n 2, 1, 2, 0, 0, 0, 0, 0, 0), (30, .iastore, 1, 17, 0, 0, 0, 0, 0, 0), (31, .aload_n 0, 1, 3, 0, 0, 0, 0, 0, 0), (32, .getfield 18, 3, 14, 44, 0, 0, 2, 6, 3), (35, .aload_n 0, 1, 3, 0, 0, 0, 0, 0, 0), (36, .getfield 44, 3, 14, 51, 0, 0, 2, 0, 0), (39, .iload_n 3, 1, 2, 0, 0, 0, 0, 0, 0), (40, .bastore, 1, 17, 0, 0, 0, 0, 0, 0)]), (63, [(41, .aload_n 0, 1, 3, 0, 0, 0, 0, 0, 0), (42, .getfield 22, 3, 14, 45, 0, 0, 2, 7, 3), (45, .aload_n 0, 1, 3, 0, 0, 0, 0, 0, 0), (46, .getfield 44, 3, 14, 51, 0, 0, 2, 0, 0), (49, .aload_n 0, 1, 3, 0, 0, 0, 0, 0, 0), (50, .getfield 52, 3, 14, 53, 0, 0, 2, 1, 0), (53, .iastore, 1, 17, 0, 0, 0, 0, 0, 0), (54, .aload_n 0, 1, 3, 0, 0, 0, 0, 0, 0), (55, .getfield 25, 3, 14, 46, 0, 0, 2, 8, 3), (58, .aload_n 0, 1, 3, 0, 0, 0, 0, 0, 0), (59, .getfield 44, 3, 14, 51, 0, 0, 2, 0, 0), (62, .iconst (-1), 1, 0, 0, 0, 0, 0, 0, 0)]), (81, [(63, .iastore, 1, 17, 0, 0, 0, 0, 0, 0), (64, .aload_n 0, 1, 3, 0, 0, 0, 0, 0, 0), (65, .dup, 1, 11, 0, 0, 0, 0, 0, 0), (66, .getfield 44, 3, 14, 51, 0, 0, 2, 0, 0), (69, .iconst 1, 1, 0, 0, 0, 0, 0, 0, 0), (70, .iadd, 1, 7, 0, 0, 0, 0, 0, 0), (71, .putfield 44, 3, 15, 51, 0, 0, 2, 0, 0), (74, .aload_n 0, 1, 3, 0, 0, 0, 0, 0, 0), (75, .getfield 44, 3, 14, 51, 0, 0, 2, 0, 0), (78, .iconst 1, 1, 0, 0, 0, 0, 0, 0, 0), (79, .isub, 1, 7, 0, 0, 0, 0, 0, 0), (80, .ireturn, 1, 21, 0, 0, 0, 0, 0, 0)])]
def ee_me92 : ee_me := (2, ⟨"PepperTables$Hearsay", "tell", "(IIZ)I"⟩, prog_4_method_3_code, 4, (some .int), ee_B92, 0, 0)
set_option maxRecDepth 100000 in
theorem ee_me92ok : ee_Mb ee_me92 = true := by decide +kernel
/- 93: PepperTables$Lying.<init>()V -/
def ee_B93 : List (Nat × List ee_en) := [(23, [(0, .aload_n 0, 1, 3, 0, 0, 0, 0, 0, 0), (1, .invokespecial 3, 3, 20, 4, 1, 0, 0, 0, 0), (4, .aload_n 0, 1, 3, 0, 0, 0, 0, 0, 0), (5, .bipush 6, 2, 0, 0, 0, 0, 0, 0, 0), (7, .newarray .int, 2, 18, 0, 0, 0, 0, 0, 0), (9, .putfield 9, 3, 15, 59, 0, 0, 3, 1, 3), (12, .aload_n 0, 1, 3, 0, 0, 0, 0, 0, 0), (13, .bipush 6, 2, 0, 0, 0, 0, 0, 0, 0), (15, .newarray .int, 2, 18, 0, 0, 0, 0, 0, 0), (17, .putfield 15, 3, 15, 60, 0, 0, 3, 2, 3), (20, .aload_n 0, 1, 3, 0, 0, 0, 0, 0, 0), (21, .bipush 6, 2, 0, 0, 0, 0, 0, 0, 0)]), (29, [(23, .newarray .int, 2, 18, 0, 0, 0, 0, 0, 0), (25, .putfield 18, 3, 15, 61, 0, 0, 3, 3, 3), (28, .return_, 1, 21, 0, 0, 0, 0, 0, 0)])]
def ee_me93 : ee_me := (3, ⟨"PepperTables$Lying", "<init>", "()V"⟩, prog_5_method_1_code, 1, none, ee_B93, 3, 18)
set_option maxRecDepth 100000 in
theorem ee_me93ok : ee_Mb ee_me93 = true := by decide +kernel
/- 94: PepperTables$Lying.add(I)V -/
def ee_B94 : List (Nat × List ee_en) := [(22, [(0, .aload_n 0, 1, 3, 0, 0, 0, 0, 0, 0), (1, .getfield 21, 3, 14, 62, 0, 0, 3, 0, 0), (4, .aload_n 0, 1, 3, 0, 0, 0, 0, 0, 0), (5, .getfield 9, 3, 14, 59, 0, 0, 3, 1, 3), (8, .arraylength, 1, 16, 0, 0, 0, 0, 0, 0), (9, .if_icmp .ge 23, 3, 12, 0, 0, 0, 0, 0, 0), (12, .aload_n 0, 1, 3, 0, 0, 0, 0, 0, 0), (13, .getfield 9, 3, 14, 59, 0, 0, 3, 1, 3), (16, .aload_n 0, 1, 3, 0, 0, 0, 0, 0, 0), (17, .getfield 21, 3, 14, 62, 0, 0, 3, 0, 0), (20, .iload_n 1, 1, 2, 0, 0, 0, 0, 0, 0), (21, .iastore, 1, 17, 0, 0, 0, 0, 0, 0)]), (33, [(22, .aload_n 0, 1, 3, 0, 0, 0, 0, 0, 0), (23, .dup, 1, 11, 0, 0, 0, 0, 0, 0), (24, .getfield 21, 3, 14, 62, 0, 0, 3, 0, 0), (27, .iconst 1, 1, 0, 0, 0, 0, 0, 0, 0), (28, .iadd, 1, 7, 0, 0, 0, 0, 0, 0), (29, .putfield 21, 3, 15, 62, 0, 0, 3, 0, 0), (32, .return_, 1, 21, 0, 0, 0, 0, 0, 0)])]
def ee_me94 : ee_me := (3, ⟨"PepperTables$Lying", "add", "(I)V"⟩, prog_5_method_2_code, 2, none, ee_B94, 0, 0)
set_option maxRecDepth 100000 in
theorem ee_me94ok : ee_Mb ee_me94 = true := by decide +kernel
/- 95: PepperTables$Lying.goFurther(II)V -/
def ee_B95 : List (Nat × List ee_en) := [(22, [(0, .iload_n 1, 1, 2, 0, 0, 0, 0, 0, 0), (1, .aload_n 0, 1, 3, 0, 0, 0, 0, 0, 0), (2, .getfield 21, 3, 14, 62, 0, 0, 3, 0, 0), (5, .if_icmp .le 22, 3, 12, 0, 0, 0, 0, 0, 0), (8, .aload_n 0, 1, 3, 0, 0, 0, 0, 0, 0), (9, .getfield 15, 3, 14, 60, 0, 0, 3, 2, 3), (12, .iconst 0, 1, 0, 0, 0, 0, 0, 0, 0), (13, .aload_n 0, 1, 3, 0, 0, 0, 0, 0, 0), (14, .getfield 9, 3, 14, 59, 0, 0, 3, 1, 3), (17, .iconst 0, 1, 0, 0, 0, 0, 0, 0, 0), (18, .iload_n 1, 1, 2, 0, 0, 0, 0, 0, 0), (19, .invokestatic 39, 3, 20, 0, 2, 0, 0, 0, 0)]), (43, [(22, .aload_n 0, 1, 3, 0, 0, 0, 0, 0, 0), (23, .iload_n 1, 1, 2, 0, 0, 0, 0, 0, 0), (24, .putfield 21, 3, 15, 62, 0, 0, 3, 0, 0), (27, .iload_n 1, 1, 2, 0, 0, 0, 0, 0, 0), (28, .aload_n 0, 1, 3, 0, 0, 0, 0, 0, 0), (29, .getfield 30, 3, 14, 63, 0, 0, 3, 4, 0), (32, .if_icmp .ge 9, 3, 12, 0, 0, 0, 0, 0, 0), (35, .iload_n 1, 1, 2, 0, 0, 0, 0, 0, 0), (36, .bipush 6, 2, 0, 0, 0, 0, 0, 0, 0), (38, .if_icmp .lt 4, 3, 12, 0, 0, 0, 0, 0, 0), (41, .return_, 1, 21, 0, 0, 0, 0, 0, 0), (42, .iload_n 2, 1, 2, 0, 0, 0, 0, 0, 0)]), (63, [(43, .iconst (-1), 1, 0, 0, 0, 0, 0, 0, 0), (44, .ixor, 1, 7, 0, 0, 0, 0, 0, 0), (45, .iload_n 1, 1, 2, 0, 0, 0, 0, 0, 0), (46, .ifCond .ne 7, 3, 12, 0, 0, 0, 0, 0, 0), (49, .iconst (-1), 1, 0, 0, 0, 0, 0, 0, 0), (50, .goto 16, 3, 0, 0, 0, 0, 0, 0, 0), (53, .aload_n 0, 1, 3, 0, 0, 0, 0, 0, 0), (54, .getfield 18, 3, 14, 61, 0, 0, 3, 3, 3), (57, .aload_n 0, 1, 3, 0, 0, 0, 0, 0, 0), (58, .getfield 15, 3, 14, 60, 0, 0, 3, 2, 3), (61, .iload_n 1, 1, 2, 0, 0, 0, 0, 0, 0), (62, .iconst 1, 1, 0, 0, 0, 0, 0, 0, 0)]), (81, [(63, .isub, 1, 7, 0, 0, 0, 0, 0, 0), (64, .iaload, 1, 22, 0, 0, 0, 0, 0, 0), (65, .iaload, 1, 22, 0, 0, 0, 0, 0, 0), (66, .iand, 1, 7, 0, 0, 0, 0, 0, 0), (67, .istore_n 3, 1, 4, 0, 0, 0, 0, 0, 0), (68, .iconst 0, 1, 0, 0, 0, 0, 0, 0, 0), (69, .istore 4, 2, 4, 0, 0, 0, 0, 0, 0), (71, .iload 4, 2, 2, 0, 0, 0, 0, 0, 0), (73, .aload_n 0, 1, 3, 0, 0, 0, 0, 0, 0), (74, .getfield 30, 3, 14, 63, 0, 0, 3, 4, 0), (77, .if_icmp .ge 39, 3, 12, 0, 0, 0, 0, 0, 0), (80, .iload_n 3, 1, 2, 0, 0, 0, 0, 0, 0)]), (99, [(81, .iload 4, 2, 2, 0, 0, 0, 0, 0, 0), (83, .ishr, 1, 7, 0, 0, 0, 0, 0, 0), (84, .iconst 1, 1, 0, 0, 0, 0, 0, 0, 0), (85, .iand, 1, 7, 0, 0, 0, 0, 0, 0), (86, .ifCond .eq 24, 3, 12, 0, 0, 0, 0, 0, 0), (89, .aload_n 0, 1, 3, 0, 0, 0, 0, 0, 0), (90, .getfield 15, 3, 14, 60, 0, 0, 3, 2, 3), (93, .iload_n 1, 1, 2, 0, 0, 0, 0, 0, 0), (94, .iload 4, 2, 2, 0, 0, 0, 0, 0, 0), (96, .iastore, 1, 17, 0, 0, 0, 0, 0, 0), (97, .aload_n 0, 1, 3, 0, 0, 0, 0, 0, 0), (98, .iload_n 1, 1, 2, 0, 0, 0, 0, 0, 0)]), (117, [(99, .iconst 1, 1, 0, 0, 0, 0, 0, 0, 0), (100, .iadd, 1, 7, 0, 0, 0, 0, 0, 0), (101, .iload_n 2, 1, 2, 0, 0, 0, 0, 0, 0), (102, .iconst 1, 1, 0, 0, 0, 0, 0, 0, 0), (103, .iload 4, 2, 2, 0, 0, 0, 0, 0, 0), (105, .ishl, 1, 7, 0, 0, 0, 0, 0, 0), (106, .ior, 1, 7, 0, 0, 0, 0, 0, 0), (107, .invokevirtual 35, 3, 23, 76, 0, 0, 95, 0, 2), (110, .iinc 4 1, 3, 6, 0, 0, 0, 0, 0, 0), (113, .goto (-42), 3, 0, 0, 0, 0, 0, 0, 0), (116, .return_, 1, 21, 0, 0, 0, 0, 0, 0)])]
def ee_me95 : ee_me := (3, ⟨"PepperTables$Lying", "goFurther", "(II)V"⟩, prog_5_method_5_code, 5, none, ee_B95, 0, 0)
set_option maxRecDepth 100000 in
theorem ee_me95ok : ee_Mb ee_me95 = true := by decide +kernel
end
section
/- 96: PepperTables$Lying.layLongestLine(LPepperTables$Told;I)V -/
def ee_B96 : List (Nat × List ee_en) := [(20, [(0, .aload_n 0, 1, 3, 0, 0, 0, 0, 0, 0), (1, .iconst 0, 1, 0, 0, 0, 0, 0, 0, 0), (2, .putfield 21, 3, 15, 62, 0, 0, 3, 0, 0), (5, .aload_n 0, 1, 3, 0, 0, 0, 0, 0, 0), (6, .aload_n 1, 1, 3, 0, 0, 0, 0, 0, 0), (7, .getfield 25, 3, 14, 64, 0, 0, 7, 0, 0), (10, .putfield 30, 3, 15, 63, 0, 0, 3, 4, 0), (13, .iconst 0, 1, 0, 0, 0, 0, 0, 0, 0), (14, .istore_n 3, 1, 4, 0, 0, 0, 0, 0, 0), (15, .iload_n 3, 1, 2, 0, 0, 0, 0, 0, 0), (16, .aload_n 0, 1, 3, 0, 0, 0, 0, 0, 0), (17, .getfield 30, 3, 14, 63, 0, 0, 3, 4, 0)]), (40, [(20, .if_icmp .ge 23, 3, 12, 0, 0, 0, 0, 0, 0), (23, .aload_n 0, 1, 3, 0, 0, 0, 0, 0, 0), (24, .getfield 18, 3, 14, 61, 0, 0, 3, 3, 3), (27, .iload_n 3, 1, 2, 0, 0, 0, 0, 0, 0), (28, .aload_n 1, 1, 3, 0, 0, 0, 0, 0, 0), (29, .iconst 1, 1, 0, 0, 0, 0, 0, 0, 0), (30, .iload_n 3, 1, 2, 0, 0, 0, 0, 0, 0), (31, .ishl, 1, 7, 0, 0, 0, 0, 0, 0), (32, .iload_n 2, 1, 2, 0, 0, 0, 0, 0, 0), (33, .invokevirtual 31, 3, 23, 77, 0, 0, 150, 0, 2), (36, .iastore, 1, 17, 0, 0, 0, 0, 0, 0), (37, .iinc 3 1, 3, 6, 0, 0, 0, 0, 0, 0)]), (50, [(40, .goto (-25), 3, 0, 0, 0, 0, 0, 0, 0), (43, .aload_n 0, 1, 3, 0, 0, 0, 0, 0, 0), (44, .iconst 0, 1, 0, 0, 0, 0, 0, 0, 0), (45, .iconst 0, 1, 0, 0, 0, 0, 0, 0, 0), (46, .invokevirtual 35, 3, 23, 76, 0, 0, 95, 0, 2), (49, .return_, 1, 21, 0, 0, 0, 0, 0, 0)])]
def ee_me96 : ee_me := (3, ⟨"PepperTables$Lying", "layLongestLine", "(LPepperTables$Told;I)V"⟩, prog_5_method_4_code, 4, none, ee_B96, 0, 0)
set_option maxRecDepth 100000 in
theorem ee_me96ok : ee_Mb ee_me96 = true := by decide +kernel
/- 97: PepperTables$Lying.numberAt(I)I -/
def ee_B97 : List (Nat × List ee_en) := [(22, [(0, .iload_n 1, 1, 2, 0, 0, 0, 0, 0, 0), (1, .ifCond .lt 20, 3, 12, 0, 0, 0, 0, 0, 0), (4, .iload_n 1, 1, 2, 0, 0, 0, 0, 0, 0), (5, .aload_n 0, 1, 3, 0, 0, 0, 0, 0, 0), (6, .getfield 21, 3, 14, 62, 0, 0, 3, 0, 0), (9, .if_icmp .ge 12, 3, 12, 0, 0, 0, 0, 0, 0), (12, .aload_n 0, 1, 3, 0, 0, 0, 0, 0, 0), (13, .getfield 9, 3, 14, 59, 0, 0, 3, 1, 3), (16, .iload_n 1, 1, 2, 0, 0, 0, 0, 0, 0), (17, .iaload, 1, 22, 0, 0, 0, 0, 0, 0), (18, .goto 4, 3, 0, 0, 0, 0, 0, 0, 0), (21, .iconst (-1), 1, 0, 0, 0, 0, 0, 0, 0)]), (23, [(22, .ireturn, 1, 21, 0, 0, 0, 0, 0, 0)])]
def ee_me97 : ee_me := (3, ⟨"PepperTables$Lying", "numberAt", "(I)I"⟩, prog_5_method_3_code, 2, (some .int), ee_B97, 0, 0)
set_option maxRecDepth 100000 in
theorem ee_me97ok : ee_Mb ee_me97 = true := by decide +kernel
/- 98: PepperTables$Mill.<init>()V -/
def ee_B98 : List (Nat × List ee_en) := [(23, [(0, .aload_n 0, 1, 3, 0, 0, 0, 0, 0, 0), (1, .invokespecial 3, 3, 20, 5, 1, 0, 0, 0, 0), (4, .aload_n 0, 1, 3, 0, 0, 0, 0, 0, 0), (5, .bipush 6, 2, 0, 0, 0, 0, 0, 0, 0), (7, .newarray .int, 2, 18, 0, 0, 0, 0, 0, 0), (9, .putfield 9, 3, 15, 65, 0, 0, 4, 0, 3), (12, .aload_n 0, 1, 3, 0, 0, 0, 0, 0, 0), (13, .bipush 64, 2, 0, 0, 0, 0, 0, 0, 0), (15, .newarray .int, 2, 18, 0, 0, 0, 0, 0, 0), (17, .putfield 15, 3, 15, 66, 0, 0, 4, 1, 3), (20, .aload_n 0, 1, 3, 0, 0, 0, 0, 0, 0), (21, .bipush 7, 2, 0, 0, 0, 0, 0, 0, 0)]), (29, [(23, .newarray .int, 2, 18, 0, 0, 0, 0, 0, 0), (25, .putfield 18, 3, 15, 67, 0, 0, 4, 2, 3), (28, .return_, 1, 21, 0, 0, 0, 0, 0, 0)])]
def ee_me98 : ee_me := (4, ⟨"PepperTables$Mill", "<init>", "()V"⟩, prog_6_method_1_code, 1, none, ee_B98, 3, 77)
set_option maxRecDepth 100000 in
theorem ee_me98ok : ee_Mb ee_me98 = true := by decide +kernel
/- 99: PepperTables$Mill.isOperand(I)Z -/
def ee_B99 : List (Nat × List ee_en) := [(24, [(0, .iload_n 0, 1, 2, 0, 0, 0, 0, 0, 0), (1, .sipush 128, 3, 0, 0, 0, 0, 0, 0, 0), (4, .if_icmp .ge 15, 3, 12, 0, 0, 0, 0, 0, 0), (7, .iload_n 0, 1, 2, 0, 0, 0, 0, 0, 0), (8, .bipush 16, 2, 0, 0, 0, 0, 0, 0, 0), (10, .if_icmp .lt 13, 3, 12, 0, 0, 0, 0, 0, 0), (13, .iload_n 0, 1, 2, 0, 0, 0, 0, 0, 0), (14, .bipush 21, 2, 0, 0, 0, 0, 0, 0, 0), (16, .if_icmp .gt 7, 3, 12, 0, 0, 0, 0, 0, 0), (19, .iconst 1, 1, 0, 0, 0, 0, 0, 0, 0), (20, .goto 4, 3, 0, 0, 0, 0, 0, 0, 0), (23, .iconst 0, 1, 0, 0, 0, 0, 0, 0, 0)]), (25, [(24, .ireturn, 1, 21, 0, 0, 0, 0, 0, 0)])]
def ee_me99 : ee_me := (4, ⟨"PepperTables$Mill", "isOperand", "(I)Z"⟩, prog_6_method_10_code, 1, (some .boolean), ee_B99, 0, 0)
set_option maxRecDepth 100000 in
theorem ee_me99ok : ee_Mb ee_me99 = true := by decide +kernel
/- 100: PepperTables$Mill.joined(III)I -/
def ee_B100 : List (Nat × List ee_en) := [(110, [(0, .iload_n 0, 1, 2, 0, 0, 0, 0, 0, 0), (1, .lookupswitch 188 #[(13, 91), (14, 105), (37, 176), (42, 160), (43, 152), (45, 156), (47, 164), (60, 119), (61, 141), (62, 130)], 91, 13, 0, 0, 0, 0, 0, 0), (92, .iload_n 1, 1, 2, 0, 0, 0, 0, 0, 0), (93, .ifCond .ne 7, 3, 12, 0, 0, 0, 0, 0, 0), (96, .iload_n 2, 1, 2, 0, 0, 0, 0, 0, 0), (97, .ifCond .eq 7, 3, 12, 0, 0, 0, 0, 0, 0), (100, .iconst 1, 1, 0, 0, 0, 0, 0, 0, 0), (101, .goto 4, 3, 0, 0, 0, 0, 0, 0, 0), (104, .iconst 0, 1, 0, 0, 0, 0, 0, 0, 0), (105, .ireturn, 1, 21, 0, 0, 0, 0, 0, 0), (106, .iload_n 1, 1, 2, 0, 0, 0, 0, 0, 0), (107, .ifCond .eq 11, 3, 12, 0, 0, 0, 0, 0, 0)]), (130, [(110, .iload_n 2, 1, 2, 0, 0, 0, 0, 0, 0), (111, .ifCond .eq 7, 3, 12, 0, 0, 0, 0, 0, 0), (114, .iconst 1, 1, 0, 0, 0, 0, 0, 0, 0), (115, .goto 4, 3, 0, 0, 0, 0, 0, 0, 0), (118, .iconst 0, 1, 0, 0, 0, 0, 0, 0, 0), (119, .ireturn, 1, 21, 0, 0, 0, 0, 0, 0), (120, .iload_n 1, 1, 2, 0, 0, 0, 0, 0, 0), (121, .iload_n 2, 1, 2, 0, 0, 0, 0, 0, 0), (122, .if_icmp .ge 7, 3, 12, 0, 0, 0, 0, 0, 0), (125, .iconst 1, 1, 0, 0, 0, 0, 0, 0, 0), (126, .goto 4, 3, 0, 0, 0, 0, 0, 0, 0), (129, .iconst 0, 1, 0, 0, 0, 0, 0, 0, 0)]), (148, [(130, .ireturn, 1, 21, 0, 0, 0, 0, 0, 0), (131, .iload_n 1, 1, 2, 0, 0, 0, 0, 0, 0), (132, .iload_n 2, 1, 2, 0, 0, 0, 0, 0, 0), (133, .if_icmp .le 7, 3, 12, 0, 0, 0, 0, 0, 0), (136, .iconst 1, 1, 0, 0, 0, 0, 0, 0, 0), (137, .goto 4, 3, 0, 0, 0, 0, 0, 0, 0), (140, .iconst 0, 1, 0, 0, 0, 0, 0, 0, 0), (141, .ireturn, 1, 21, 0, 0, 0, 0, 0, 0), (142, .iload_n 1, 1, 2, 0, 0, 0, 0, 0, 0), (143, .iload_n 2, 1, 2, 0, 0, 0, 0, 0, 0), (144, .if_icmp .ne 7, 3, 12, 0, 0, 0, 0, 0, 0), (147, .iconst 1, 1, 0, 0, 0, 0, 0, 0, 0)]), (162, [(148, .goto 4, 3, 0, 0, 0, 0, 0, 0, 0), (151, .iconst 0, 1, 0, 0, 0, 0, 0, 0, 0), (152, .ireturn, 1, 21, 0, 0, 0, 0, 0, 0), (153, .iload_n 1, 1, 2, 0, 0, 0, 0, 0, 0), (154, .iload_n 2, 1, 2, 0, 0, 0, 0, 0, 0), (155, .iadd, 1, 7, 0, 0, 0, 0, 0, 0), (156, .ireturn, 1, 21, 0, 0, 0, 0, 0, 0), (157, .iload_n 1, 1, 2, 0, 0, 0, 0, 0, 0), (158, .iload_n 2, 1, 2, 0, 0, 0, 0, 0, 0), (159, .isub, 1, 7, 0, 0, 0, 0, 0, 0), (160, .ireturn, 1, 21, 0, 0, 0, 0, 0, 0), (161, .iload_n 1, 1, 2, 0, 0, 0, 0, 0, 0)]), (178, [(162, .iload_n 2, 1, 2, 0, 0, 0, 0, 0, 0), (163, .imul, 1, 7, 0, 0, 0, 0, 0, 0), (164, .ireturn, 1, 21, 0, 0, 0, 0, 0, 0), (165, .iload_n 2, 1, 2, 0, 0, 0, 0, 0, 0), (166, .ifCond .ne 7, 3, 12, 0, 0, 0, 0, 0, 0), (169, .iconst 0, 1, 0, 0, 0, 0, 0, 0, 0), (170, .goto 6, 3, 0, 0, 0, 0, 0, 0, 0), (173, .iload_n 1, 1, 2, 0, 0, 0, 0, 0, 0), (174, .iload_n 2, 1, 2, 0, 0, 0, 0, 0, 0), (175, .idiv, 1, 8, 0, 0, 0, 0, 0, 0), (176, .ireturn, 1, 21, 0, 0, 0, 0, 0, 0), (177, .iload_n 2, 1, 2, 0, 0, 0, 0, 0, 0)]), (191, [(178, .ifCond .ne 7, 3, 12, 0, 0, 0, 0, 0, 0), (181, .iconst 0, 1, 0, 0, 0, 0, 0, 0, 0), (182, .goto 6, 3, 0, 0, 0, 0, 0, 0, 0), (185, .iload_n 1, 1, 2, 0, 0, 0, 0, 0, 0), (186, .iload_n 2, 1, 2, 0, 0, 0, 0, 0, 0), (187, .irem, 1, 8, 0, 0, 0, 0, 0, 0), (188, .ireturn, 1, 21, 0, 0, 0, 0, 0, 0), (189, .iconst 0, 1, 0, 0, 0, 0, 0, 0, 0), (190, .ireturn, 1, 21, 0, 0, 0, 0, 0, 0)])]
def ee_me100 : ee_me := (4, ⟨"PepperTables$Mill", "joined", "(III)I"⟩, prog_6_method_12_code, 3, (some .int), ee_B100, 0, 0)
set_option maxRecDepth 100000 in
theorem ee_me100ok : ee_Mb ee_me100 = true := by decide +kernel
/- 101: PepperTables$Mill.letOut(LPepperTables$Told;LPepperTables$State;I)I -/
def ee_B101 : List (Nat × List ee_en) := [(22, [(0, .aload_n 0, 1, 3, 0, 0, 0, 0, 0, 0), (1, .aload_n 1, 1, 3, 0, 0, 0, 0, 0, 0), (2, .aload_n 2, 1, 3, 0, 0, 0, 0, 0, 0), (3, .iload_n 3, 1, 2, 0, 0, 0, 0, 0, 0), (4, .aload_n 2, 1, 3, 0, 0, 0, 0, 0, 0), (5, .getfield 21, 3, 14, 68, 0, 0, 6, 0, 0), (8, .invokestatic 27, 3, 23, 78, 0, 0, 297, 1, 1), (11, .aload_n 1, 1, 3, 0, 0, 0, 0, 0, 0), (12, .aload_n 2, 1, 3, 0, 0, 0, 0, 0, 0), (13, .getfield 21, 3, 14, 68, 0, 0, 6, 0, 0), (16, .invokevirtual 33, 3, 23, 79, 0, 0, 151, 0, 1), (19, .invokevirtual 38, 3, 23, 80, 0, 0, 107, 0, 5)]), (23, [(22, .ireturn, 1, 21, 0, 0, 0, 0, 0, 0)])]
def ee_me101 : ee_me := (4, ⟨"PepperTables$Mill", "letOut", "(LPepperTables$Told;LPepperTables$State;I)I"⟩, prog_6_method_2_code, 4, (some .int), ee_B101, 0, 0)
set_option maxRecDepth 100000 in
theorem ee_me101ok : ee_Mb ee_me101 = true := by decide +kernel
/- 102: PepperTables$Mill.letOutAt(LPepperTables$Told;I)I -/
def ee_B102 : List (Nat × List ee_en) := [(21, [(0, .aload_n 0, 1, 3, 0, 0, 0, 0, 0, 0), (1, .getfield 18, 3, 14, 67, 0, 0, 4, 2, 3), (4, .iload_n 2, 1, 2, 0, 0, 0, 0, 0, 0), (5, .invokestatic 27, 3, 23, 78, 0, 0, 297, 1, 1), (8, .bipush 6, 2, 0, 0, 0, 0, 0, 0, 0), (10, .invokestatic 55, 3, 24, 2, 3, 0, 0, 0, 0), (13, .iaload, 1, 22, 0, 0, 0, 0, 0, 0), (14, .aload_n 1, 1, 3, 0, 0, 0, 0, 0, 0), (15, .iload_n 2, 1, 2, 0, 0, 0, 0, 0, 0), (16, .invokevirtual 33, 3, 23, 79, 0, 0, 151, 0, 1), (19, .iand, 1, 7, 0, 0, 0, 0, 0, 0), (20, .ireturn, 1, 21, 0, 0, 0, 0, 0, 0)])]
def ee_me102 : ee_me := (4, ⟨"PepperTables$Mill", "letOutAt", "(LPepperTables$Told;I)I"⟩, prog_6_method_6_code, 3, (some .int), ee_B102, 0, 0)
set_option maxRecDepth 100000 in
theorem ee_me102ok : ee_Mb ee_me102 = true := by decide +kernel
/- 103: PepperTables$Mill.letOutOfAll(LPepperTables$Told;LPepperTables$State;)I -/
def ee_B103 : List (Nat × List ee_en) := [(18, [(0, .iconst 0, 1, 0, 0, 0, 0, 0, 0, 0), (1, .istore_n 3, 1, 4, 0, 0, 0, 0, 0, 0), (2, .iconst 0, 1, 0, 0, 0, 0, 0, 0, 0), (3, .istore 4, 2, 4, 0, 0, 0, 0, 0, 0), (5, .iload 4, 2, 2, 0, 0, 0, 0, 0, 0), (7, .aload_n 1, 1, 3, 0, 0, 0, 0, 0, 0), (8, .getfield 42, 3, 14, 69, 0, 0, 7, 1, 0), (11, .if_icmp .ge 20, 3, 12, 0, 0, 0, 0, 0, 0), (14, .iload_n 3, 1, 2, 0, 0, 0, 0, 0, 0), (15, .aload_n 0, 1, 3, 0, 0, 0, 0, 0, 0), (16, .aload_n 1, 1, 3, 0, 0, 0, 0, 0, 0), (17, .aload_n 2, 1, 3, 0, 0, 0, 0, 0, 0)]), (33, [(18, .iload 4, 2, 2, 0, 0, 0, 0, 0, 0), (20, .invokevirtual 45, 3, 23, 81, 0, 0, 101, 0, 3), (23, .ior, 1, 7, 0, 0, 0, 0, 0, 0), (24, .istore_n 3, 1, 4, 0, 0, 0, 0, 0, 0), (25, .iinc 4 1, 3, 6, 0, 0, 0, 0, 0, 0), (28, .goto (-23), 3, 0, 0, 0, 0, 0, 0, 0), (31, .iload_n 3, 1, 2, 0, 0, 0, 0, 0, 0), (32, .ireturn, 1, 21, 0, 0, 0, 0, 0, 0)])]
def ee_me103 : ee_me := (4, ⟨"PepperTables$Mill", "letOutOfAll", "(LPepperTables$Told;LPepperTables$State;)I"⟩, prog_6_method_3_code, 5, (some .int), ee_B103, 0, 0)
set_option maxRecDepth 100000 in
theorem ee_me103ok : ee_Mb ee_me103 = true := by decide +kernel
/- 104: PepperTables$Mill.operand(I)I -/
def ee_B104 : List (Nat × List ee_en) := [(23, [(0, .iload_n 1, 1, 2, 0, 0, 0, 0, 0, 0), (1, .sipush 128, 3, 0, 0, 0, 0, 0, 0, 0), (4, .if_icmp .lt 11, 3, 12, 0, 0, 0, 0, 0, 0), (7, .iload_n 1, 1, 2, 0, 0, 0, 0, 0, 0), (8, .sipush 128, 3, 0, 0, 0, 0, 0, 0, 0), (11, .isub, 1, 7, 0, 0, 0, 0, 0, 0), (12, .goto 12, 3, 0, 0, 0, 0, 0, 0, 0), (15, .aload_n 0, 1, 3, 0, 0, 0, 0, 0, 0), (16, .getfield 9, 3, 14, 65, 0, 0, 4, 0, 3), (19, .iload_n 1, 1, 2, 0, 0, 0, 0, 0, 0), (20, .bipush 16, 2, 0, 0, 0, 0, 0, 0, 0), (22, .isub, 1, 7, 0, 0, 0, 0, 0, 0)]), (25, [(23, .iaload, 1, 22, 0, 0, 0, 0, 0, 0), (24, .ireturn, 1, 21, 0, 0, 0, 0, 0, 0)])]
def ee_me104 : ee_me := (4, ⟨"PepperTables$Mill", "operand", "(I)I"⟩, prog_6_method_11_code, 2, (some .int), ee_B104, 0, 0)
set_option maxRecDepth 100000 in
theorem ee_me104ok : ee_Mb ee_me104 = true := by decide +kernel
/- 105: PepperTables$Mill.passAtAllSizes(LPepperTables$Told;LPepperTables$State;I)V -/
def ee_B105 : List (Nat × List ee_en) := [(25, [(0, .iconst 0, 1, 0, 0, 0, 0, 0, 0, 0), (1, .istore 4, 2, 4, 0, 0, 0, 0, 0, 0), (3, .iload 4, 2, 2, 0, 0, 0, 0, 0, 0), (5, .bipush 6, 2, 0, 0, 0, 0, 0, 0, 0), (7, .if_icmp .gt 60, 3, 12, 0, 0, 0, 0, 0, 0), (10, .iload 4, 2, 2, 0, 0, 0, 0, 0, 0), (12, .iconst 2, 1, 0, 0, 0, 0, 0, 0, 0), (13, .if_icmp .lt 16, 3, 12, 0, 0, 0, 0, 0, 0), (16, .iload 4, 2, 2, 0, 0, 0, 0, 0, 0), (18, .aload_n 1, 1, 3, 0, 0, 0, 0, 0, 0), (19, .getfield 61, 3, 14, 70, 0, 0, 7, 0, 0), (22, .if_icmp .gt 7, 3, 12, 0, 0, 0, 0, 0, 0)]), (46, [(25, .iconst 1, 1, 0, 0, 0, 0, 0, 0, 0), (26, .goto 4, 3, 0, 0, 0, 0, 0, 0, 0), (29, .iconst 0, 1, 0, 0, 0, 0, 0, 0, 0), (30, .istore 5, 2, 4, 0, 0, 0, 0, 0, 0), (32, .aload_n 0, 1, 3, 0, 0, 0, 0, 0, 0), (33, .getfield 18, 3, 14, 67, 0, 0, 4, 2, 3), (36, .iload 4, 2, 2, 0, 0, 0, 0, 0, 0), (38, .iload 5, 2, 2, 0, 0, 0, 0, 0, 0), (40, .ifCond .eq 19, 3, 12, 0, 0, 0, 0, 0, 0), (43, .aload_n 0, 1, 3, 0, 0, 0, 0, 0, 0), (44, .aload_n 1, 1, 3, 0, 0, 0, 0, 0, 0), (45, .aload_n 2, 1, 3, 0, 0, 0, 0, 0, 0)]), (68, [(46, .iload_n 3, 1, 2, 0, 0, 0, 0, 0, 0), (47, .iload 4, 2, 2, 0, 0, 0, 0, 0, 0), (49, .aload_n 1, 1, 3, 0, 0, 0, 0, 0, 0), (50, .invokevirtual 64, 3, 23, 82, 0, 0, 146, 0, 0), (53, .invokevirtual 38, 3, 23, 80, 0, 0, 107, 0, 5), (56, .goto 4, 3, 0, 0, 0, 0, 0, 0, 0), (59, .iconst 0, 1, 0, 0, 0, 0, 0, 0, 0), (60, .iastore, 1, 17, 0, 0, 0, 0, 0, 0), (61, .iinc 4 1, 3, 6, 0, 0, 0, 0, 0, 0), (64, .goto (-61), 3, 0, 0, 0, 0, 0, 0, 0), (67, .return_, 1, 21, 0, 0, 0, 0, 0, 0)])]
def ee_me105 : ee_me := (4, ⟨"PepperTables$Mill", "passAtAllSizes", "(LPepperTables$Told;LPepperTables$State;I)V"⟩, prog_6_method_5_code, 6, none, ee_B105, 0, 0)
set_option maxRecDepth 100000 in
theorem ee_me105ok : ee_Mb ee_me105 = true := by decide +kernel
/- 106: PepperTables$Mill.passes(LPepperTables$Told;II)Z -/
def ee_B106 : List (Nat × List ee_en) := [(18, [(0, .aload_n 0, 1, 3, 0, 0, 0, 0, 0, 0), (1, .getfield 9, 3, 14, 65, 0, 0, 4, 0, 3), (4, .iconst 0, 1, 0, 0, 0, 0, 0, 0, 0), (5, .aload_n 1, 1, 3, 0, 0, 0, 0, 0, 0), (6, .getfield 95, 3, 14, 71, 0, 0, 7, 13, 3), (9, .iload_n 2, 1, 2, 0, 0, 0, 0, 0, 0), (10, .iaload, 1, 22, 0, 0, 0, 0, 0, 0), (11, .iastore, 1, 17, 0, 0, 0, 0, 0, 0), (12, .aload_n 0, 1, 3, 0, 0, 0, 0, 0, 0), (13, .getfield 9, 3, 14, 65, 0, 0, 4, 0, 3), (16, .iconst 1, 1, 0, 0, 0, 0, 0, 0, 0), (17, .iload_n 3, 1, 2, 0, 0, 0, 0, 0, 0)]), (42, [(18, .iastore, 1, 17, 0, 0, 0, 0, 0, 0), (19, .iconst 0, 1, 0, 0, 0, 0, 0, 0, 0), (20, .istore 4, 2, 4, 0, 0, 0, 0, 0, 0), (22, .iconst 0, 1, 0, 0, 0, 0, 0, 0, 0), (23, .istore 5, 2, 4, 0, 0, 0, 0, 0, 0), (25, .iload 5, 2, 2, 0, 0, 0, 0, 0, 0), (27, .aload_n 1, 1, 3, 0, 0, 0, 0, 0, 0), (28, .getfield 98, 3, 14, 72, 0, 0, 7, 6, 0), (31, .if_icmp .ge 140, 3, 12, 0, 0, 0, 0, 0, 0), (34, .iload 5, 2, 2, 0, 0, 0, 0, 0, 0), (36, .sipush 320, 3, 0, 0, 0, 0, 0, 0, 0), (39, .if_icmp .ge 132, 3, 12, 0, 0, 0, 0, 0, 0)]), (67, [(42, .aload_n 1, 1, 3, 0, 0, 0, 0, 0, 0), (43, .getfield 101, 3, 14, 73, 0, 0, 7, 15, 3), (46, .iload 5, 2, 2, 0, 0, 0, 0, 0, 0), (48, .iaload, 1, 22, 0, 0, 0, 0, 0, 0), (49, .istore 6, 2, 4, 0, 0, 0, 0, 0, 0), (51, .iload 6, 2, 2, 0, 0, 0, 0, 0, 0), (53, .invokestatic 104, 3, 23, 83, 0, 0, 99, 1, 1), (56, .ifCond .eq 29, 3, 12, 0, 0, 0, 0, 0, 0), (59, .iload 4, 2, 2, 0, 0, 0, 0, 0, 0), (61, .bipush 64, 2, 0, 0, 0, 0, 0, 0, 0), (63, .if_icmp .ge 102, 3, 12, 0, 0, 0, 0, 0, 0), (66, .aload_n 0, 1, 3, 0, 0, 0, 0, 0, 0)]), (94, [(67, .getfield 15, 3, 14, 66, 0, 0, 4, 1, 3), (70, .iload 4, 2, 2, 0, 0, 0, 0, 0, 0), (72, .aload_n 0, 1, 3, 0, 0, 0, 0, 0, 0), (73, .iload 6, 2, 2, 0, 0, 0, 0, 0, 0), (75, .invokevirtual 108, 3, 23, 84, 0, 0, 104, 0, 1), (78, .iastore, 1, 17, 0, 0, 0, 0, 0, 0), (79, .iinc 4 1, 3, 6, 0, 0, 0, 0, 0, 0), (82, .goto 83, 3, 0, 0, 0, 0, 0, 0, 0), (85, .iload 6, 2, 2, 0, 0, 0, 0, 0, 0), (87, .bipush 15, 2, 0, 0, 0, 0, 0, 0, 0), (89, .if_icmp .ne 37, 3, 12, 0, 0, 0, 0, 0, 0), (92, .iload 4, 2, 2, 0, 0, 0, 0, 0, 0)]), (114, [(94, .ifCond .le 71, 3, 12, 0, 0, 0, 0, 0, 0), (97, .aload_n 0, 1, 3, 0, 0, 0, 0, 0, 0), (98, .getfield 15, 3, 14, 66, 0, 0, 4, 1, 3), (101, .iload 4, 2, 2, 0, 0, 0, 0, 0, 0), (103, .iconst 1, 1, 0, 0, 0, 0, 0, 0, 0), (104, .isub, 1, 7, 0, 0, 0, 0, 0, 0), (105, .aload_n 0, 1, 3, 0, 0, 0, 0, 0, 0), (106, .getfield 15, 3, 14, 66, 0, 0, 4, 1, 3), (109, .iload 4, 2, 2, 0, 0, 0, 0, 0, 0), (111, .iconst 1, 1, 0, 0, 0, 0, 0, 0, 0), (112, .isub, 1, 7, 0, 0, 0, 0, 0, 0), (113, .iaload, 1, 22, 0, 0, 0, 0, 0, 0)]), (139, [(114, .ifCond .ne 7, 3, 12, 0, 0, 0, 0, 0, 0), (117, .iconst 1, 1, 0, 0, 0, 0, 0, 0, 0), (118, .goto 4, 3, 0, 0, 0, 0, 0, 0, 0), (121, .iconst 0, 1, 0, 0, 0, 0, 0, 0, 0), (122, .iastore, 1, 17, 0, 0, 0, 0, 0, 0), (123, .goto 42, 3, 0, 0, 0, 0, 0, 0, 0), (126, .iload 4, 2, 2, 0, 0, 0, 0, 0, 0), (128, .iconst 1, 1, 0, 0, 0, 0, 0, 0, 0), (129, .if_icmp .le 36, 3, 12, 0, 0, 0, 0, 0, 0), (132, .iinc 4 (-1), 3, 6, 0, 0, 0, 0, 0, 0), (135, .aload_n 0, 1, 3, 0, 0, 0, 0, 0, 0), (136, .getfield 15, 3, 14, 66, 0, 0, 4, 1, 3)]), (158, [(139, .iload 4, 2, 2, 0, 0, 0, 0, 0, 0), (141, .iconst 1, 1, 0, 0, 0, 0, 0, 0, 0), (142, .isub, 1, 7, 0, 0, 0, 0, 0, 0), (143, .iload 6, 2, 2, 0, 0, 0, 0, 0, 0), (145, .aload_n 0, 1, 3, 0, 0, 0, 0, 0, 0), (146, .getfield 15, 3, 14, 66, 0, 0, 4, 1, 3), (149, .iload 4, 2, 2, 0, 0, 0, 0, 0, 0), (151, .iconst 1, 1, 0, 0, 0, 0, 0, 0, 0), (152, .isub, 1, 7, 0, 0, 0, 0, 0, 0), (153, .iaload, 1, 22, 0, 0, 0, 0, 0, 0), (154, .aload_n 0, 1, 3, 0, 0, 0, 0, 0, 0), (155, .getfield 15, 3, 14, 66, 0, 0, 4, 1, 3)]), (183, [(158, .iload 4, 2, 2, 0, 0, 0, 0, 0, 0), (160, .iaload, 1, 22, 0, 0, 0, 0, 0, 0), (161, .invokestatic 113, 3, 23, 85, 0, 0, 100, 1, 3), (164, .iastore, 1, 17, 0, 0, 0, 0, 0, 0), (165, .iinc 5 1, 3, 6, 0, 0, 0, 0, 0, 0), (168, .goto (-143), 3, 0, 0, 0, 0, 0, 0, 0), (171, .iload 4, 2, 2, 0, 0, 0, 0, 0, 0), (173, .ifCond .le 19, 3, 12, 0, 0, 0, 0, 0, 0), (176, .aload_n 0, 1, 3, 0, 0, 0, 0, 0, 0), (177, .getfield 15, 3, 14, 66, 0, 0, 4, 1, 3), (180, .iload 4, 2, 2, 0, 0, 0, 0, 0, 0), (182, .iconst 1, 1, 0, 0, 0, 0, 0, 0, 0)]), (194, [(183, .isub, 1, 7, 0, 0, 0, 0, 0, 0), (184, .iaload, 1, 22, 0, 0, 0, 0, 0, 0), (185, .ifCond .eq 7, 3, 12, 0, 0, 0, 0, 0, 0), (188, .iconst 1, 1, 0, 0, 0, 0, 0, 0, 0), (189, .goto 4, 3, 0, 0, 0, 0, 0, 0, 0), (192, .iconst 0, 1, 0, 0, 0, 0, 0, 0, 0), (193, .ireturn, 1, 21, 0, 0, 0, 0, 0, 0)])]
def ee_me106 : ee_me := (4, ⟨"PepperTables$Mill", "passes", "(LPepperTables$Told;II)Z"⟩, prog_6_method_9_code, 7, (some .boolean), ee_B106, 0, 0)
set_option maxRecDepth 100000 in
theorem ee_me106ok : ee_Mb ee_me106 = true := by decide +kernel
/- 107: PepperTables$Mill.passing(LPepperTables$Told;LPepperTables$State;III)I -/
def ee_B107 : List (Nat × List ee_en) := [(19, [(0, .aload_n 2, 1, 3, 0, 0, 0, 0, 0, 0), (1, .aload_n 1, 1, 3, 0, 0, 0, 0, 0, 0), (2, .iload_n 3, 1, 2, 0, 0, 0, 0, 0, 0), (3, .invokevirtual 68, 3, 23, 86, 0, 0, 141, 0, 2), (6, .iload 5, 2, 2, 0, 0, 0, 0, 0, 0), (8, .iand, 1, 7, 0, 0, 0, 0, 0, 0), (9, .istore 6, 2, 4, 0, 0, 0, 0, 0, 0), (11, .iload 6, 2, 2, 0, 0, 0, 0, 0, 0), (13, .ifCond .ne 5, 3, 12, 0, 0, 0, 0, 0, 0), (16, .iconst 0, 1, 0, 0, 0, 0, 0, 0, 0), (17, .ireturn, 1, 21, 0, 0, 0, 0, 0, 0), (18, .aload_n 0, 1, 3, 0, 0, 0, 0, 0, 0)]), (39, [(19, .aload_n 1, 1, 3, 0, 0, 0, 0, 0, 0), (20, .aload_n 2, 1, 3, 0, 0, 0, 0, 0, 0), (21, .iload_n 3, 1, 2, 0, 0, 0, 0, 0, 0), (22, .iload 4, 2, 2, 0, 0, 0, 0, 0, 0), (24, .invokevirtual 72, 3, 23, 87, 0, 0, 108, 0, 4), (27, .iconst 0, 1, 0, 0, 0, 0, 0, 0, 0), (28, .istore 7, 2, 4, 0, 0, 0, 0, 0, 0), (30, .iconst 0, 1, 0, 0, 0, 0, 0, 0, 0), (31, .istore 8, 2, 4, 0, 0, 0, 0, 0, 0), (33, .iload 8, 2, 2, 0, 0, 0, 0, 0, 0), (35, .aload_n 1, 1, 3, 0, 0, 0, 0, 0, 0), (36, .getfield 76, 3, 14, 74, 0, 0, 7, 2, 0)]), (60, [(39, .if_icmp .ge 50, 3, 12, 0, 0, 0, 0, 0, 0), (42, .iload 6, 2, 2, 0, 0, 0, 0, 0, 0), (44, .iload 8, 2, 2, 0, 0, 0, 0, 0, 0), (46, .ishr, 1, 7, 0, 0, 0, 0, 0, 0), (47, .iconst 1, 1, 0, 0, 0, 0, 0, 0, 0), (48, .iand, 1, 7, 0, 0, 0, 0, 0, 0), (49, .ifCond .eq 34, 3, 12, 0, 0, 0, 0, 0, 0), (52, .aload_n 0, 1, 3, 0, 0, 0, 0, 0, 0), (53, .aload_n 1, 1, 3, 0, 0, 0, 0, 0, 0), (54, .iload 8, 2, 2, 0, 0, 0, 0, 0, 0), (56, .aload_n 1, 1, 3, 0, 0, 0, 0, 0, 0), (57, .getfield 79, 3, 14, 75, 0, 0, 7, 10, 3)]), (81, [(60, .aload_n 1, 1, 3, 0, 0, 0, 0, 0, 0), (61, .getfield 82, 3, 14, 76, 0, 0, 7, 11, 3), (64, .iload 8, 2, 2, 0, 0, 0, 0, 0, 0), (66, .iaload, 1, 22, 0, 0, 0, 0, 0, 0), (67, .iaload, 1, 22, 0, 0, 0, 0, 0, 0), (68, .invokevirtual 85, 3, 23, 88, 0, 0, 106, 0, 3), (71, .ifCond .eq 12, 3, 12, 0, 0, 0, 0, 0, 0), (74, .iload 7, 2, 2, 0, 0, 0, 0, 0, 0), (76, .iconst 1, 1, 0, 0, 0, 0, 0, 0, 0), (77, .iload 8, 2, 2, 0, 0, 0, 0, 0, 0), (79, .ishl, 1, 7, 0, 0, 0, 0, 0, 0), (80, .ior, 1, 7, 0, 0, 0, 0, 0, 0)]), (92, [(81, .istore 7, 2, 4, 0, 0, 0, 0, 0, 0), (83, .iinc 8 1, 3, 6, 0, 0, 0, 0, 0, 0), (86, .goto (-53), 3, 0, 0, 0, 0, 0, 0, 0), (89, .iload 7, 2, 2, 0, 0, 0, 0, 0, 0), (91, .ireturn, 1, 21, 0, 0, 0, 0, 0, 0)])]
def ee_me107 : ee_me := (4, ⟨"PepperTables$Mill", "passing", "(LPepperTables$Told;LPepperTables$State;III)I"⟩, prog_6_method_7_code, 9, (some .int), ee_B107, 0, 0)
set_option maxRecDepth 100000 in
theorem ee_me107ok : ee_Mb ee_me107 = true := by decide +kernel
/- 108: PepperTables$Mill.setUp(LPepperTables$Told;LPepperTables$State;II)V -/
def ee_B108 : List (Nat × List ee_en) := [(19, [(0, .aload_n 0, 1, 3, 0, 0, 0, 0, 0, 0), (1, .getfield 9, 3, 14, 65, 0, 0, 4, 0, 3), (4, .iconst 2, 1, 0, 0, 0, 0, 0, 0, 0), (5, .iload 4, 2, 2, 0, 0, 0, 0, 0, 0), (7, .iastore, 1, 17, 0, 0, 0, 0, 0, 0), (8, .aload_n 0, 1, 3, 0, 0, 0, 0, 0, 0), (9, .getfield 9, 3, 14, 65, 0, 0, 4, 0, 3), (12, .iconst 3, 1, 0, 0, 0, 0, 0, 0, 0), (13, .iload_n 3, 1, 2, 0, 0, 0, 0, 0, 0), (14, .ifCond .lt 17, 3, 12, 0, 0, 0, 0, 0, 0), (17, .iload_n 3, 1, 2, 0, 0, 0, 0, 0, 0), (18, .iconst 5, 1, 0, 0, 0, 0, 0, 0, 0)]), (39, [(19, .if_icmp .ge 12, 3, 12, 0, 0, 0, 0, 0, 0), (22, .aload_n 2, 1, 3, 0, 0, 0, 0, 0, 0), (23, .getfield 52, 3, 14, 77, 0, 0, 6, 5, 3), (26, .iload_n 3, 1, 2, 0, 0, 0, 0, 0, 0), (27, .iaload, 1, 22, 0, 0, 0, 0, 0, 0), (28, .goto 4, 3, 0, 0, 0, 0, 0, 0, 0), (31, .iconst 0, 1, 0, 0, 0, 0, 0, 0, 0), (32, .iastore, 1, 17, 0, 0, 0, 0, 0, 0), (33, .aload_n 0, 1, 3, 0, 0, 0, 0, 0, 0), (34, .getfield 9, 3, 14, 65, 0, 0, 4, 0, 3), (37, .iconst 4, 1, 0, 0, 0, 0, 0, 0, 0), (38, .aload_n 1, 1, 3, 0, 0, 0, 0, 0, 0)]), (59, [(39, .aload_n 2, 1, 3, 0, 0, 0, 0, 0, 0), (40, .aload_n 1, 1, 3, 0, 0, 0, 0, 0, 0), (41, .iload_n 3, 1, 2, 0, 0, 0, 0, 0, 0), (42, .invokevirtual 68, 3, 23, 86, 0, 0, 141, 0, 2), (45, .invokevirtual 89, 3, 23, 89, 0, 0, 149, 0, 1), (48, .iastore, 1, 17, 0, 0, 0, 0, 0, 0), (49, .aload_n 0, 1, 3, 0, 0, 0, 0, 0, 0), (50, .getfield 9, 3, 14, 65, 0, 0, 4, 0, 3), (53, .iconst 5, 1, 0, 0, 0, 0, 0, 0, 0), (54, .aload_n 2, 1, 3, 0, 0, 0, 0, 0, 0), (55, .getfield 92, 3, 14, 78, 0, 0, 6, 2, 0), (58, .iastore, 1, 17, 0, 0, 0, 0, 0, 0)]), (60, [(59, .return_, 1, 21, 0, 0, 0, 0, 0, 0)])]
def ee_me108 : ee_me := (4, ⟨"PepperTables$Mill", "setUp", "(LPepperTables$Told;LPepperTables$State;II)V"⟩, prog_6_method_8_code, 5, none, ee_B108, 0, 0)
set_option maxRecDepth 100000 in
theorem ee_me108ok : ee_Mb ee_me108 = true := by decide +kernel
/- 109: PepperTables$Mill.turn(LPepperTables$Told;LPepperTables$State;I)I -/
def ee_B109 : List (Nat × List ee_en) := [(18, [(0, .iload_n 3, 1, 2, 0, 0, 0, 0, 0, 0), (1, .ifCond .lt 11, 3, 12, 0, 0, 0, 0, 0, 0), (4, .iload_n 3, 1, 2, 0, 0, 0, 0, 0, 0), (5, .aload_n 1, 1, 3, 0, 0, 0, 0, 0, 0), (6, .getfield 42, 3, 14, 69, 0, 0, 7, 1, 0), (9, .if_icmp .lt 5, 3, 12, 0, 0, 0, 0, 0, 0), (12, .iconst 0, 1, 0, 0, 0, 0, 0, 0, 0), (13, .ireturn, 1, 21, 0, 0, 0, 0, 0, 0), (14, .aload_n 0, 1, 3, 0, 0, 0, 0, 0, 0), (15, .aload_n 1, 1, 3, 0, 0, 0, 0, 0, 0), (16, .aload_n 2, 1, 3, 0, 0, 0, 0, 0, 0), (17, .iload_n 3, 1, 2, 0, 0, 0, 0, 0, 0)]), (40, [(18, .invokevirtual 45, 3, 23, 81, 0, 0, 101, 0, 3), (21, .istore 4, 2, 4, 0, 0, 0, 0, 0, 0), (23, .aload_n 2, 1, 3, 0, 0, 0, 0, 0, 0), (24, .dup, 1, 11, 0, 0, 0, 0, 0, 0), (25, .getfield 49, 3, 14, 79, 0, 0, 6, 1, 0), (28, .iload 4, 2, 2, 0, 0, 0, 0, 0, 0), (30, .ior, 1, 7, 0, 0, 0, 0, 0, 0), (31, .putfield 49, 3, 15, 79, 0, 0, 6, 1, 0), (34, .aload_n 2, 1, 3, 0, 0, 0, 0, 0, 0), (35, .getfield 52, 3, 14, 77, 0, 0, 6, 5, 3), (38, .iload_n 3, 1, 2, 0, 0, 0, 0, 0, 0), (39, .aload_n 2, 1, 3, 0, 0, 0, 0, 0, 0)]), (56, [(40, .getfield 52, 3, 14, 77, 0, 0, 6, 5, 3), (43, .iload_n 3, 1, 2, 0, 0, 0, 0, 0, 0), (44, .iaload, 1, 22, 0, 0, 0, 0, 0, 0), (45, .iconst 1, 1, 0, 0, 0, 0, 0, 0, 0), (46, .iadd, 1, 7, 0, 0, 0, 0, 0, 0), (47, .bipush 99, 2, 0, 0, 0, 0, 0, 0, 0), (49, .invokestatic 55, 3, 24, 2, 3, 0, 0, 0, 0), (52, .iastore, 1, 17, 0, 0, 0, 0, 0, 0), (53, .iload 4, 2, 2, 0, 0, 0, 0, 0, 0), (55, .ireturn, 1, 21, 0, 0, 0, 0, 0, 0)])]
def ee_me109 : ee_me := (4, ⟨"PepperTables$Mill", "turn", "(LPepperTables$Told;LPepperTables$State;I)I"⟩, prog_6_method_4_code, 5, (some .int), ee_B109, 0, 0)
set_option maxRecDepth 100000 in
theorem ee_me109ok : ee_Mb ee_me109 = true := by decide +kernel
end
section
/- 110: PepperTables$Reader.<init>()V -/
def ee_B110 : List (Nat × List ee_en) := [(24, [(0, .aload_n 0, 1, 3, 0, 0, 0, 0, 0, 0), (1, .invokespecial 3, 3, 20, 6, 1, 0, 0, 0, 0), (4, .aload_n 0, 1, 3, 0, 0, 0, 0, 0, 0), (5, .iconst (-1), 1, 0, 0, 0, 0, 0, 0, 0), (6, .putfield 9, 3, 15, 80, 0, 0, 5, 2, 0), (9, .aload_n 0, 1, 3, 0, 0, 0, 0, 0, 0), (10, .new 15, 3, 18, 9, 0, 0, 7, 19, 0), (13, .dup, 1, 11, 0, 0, 0, 0, 0, 0), (14, .invokespecial 17, 3, 23, 90, 0, 0, 144, 2, 0), (17, .putfield 18, 3, 15, 81, 0, 0, 5, 3, 3), (20, .aload_n 0, 1, 3, 0, 0, 0, 0, 0, 0), (21, .sipush 1600, 3, 0, 0, 0, 0, 0, 0, 0)]), (44, [(24, .newarray .int, 2, 18, 0, 0, 0, 0, 0, 0), (26, .putfield 22, 3, 15, 82, 0, 0, 5, 4, 3), (29, .aload_n 0, 1, 3, 0, 0, 0, 0, 0, 0), (30, .bipush 18, 2, 0, 0, 0, 0, 0, 0, 0), (32, .newarray .long, 2, 18, 0, 0, 0, 0, 0, 0), (34, .putfield 26, 3, 15, 83, 0, 0, 5, 5, 3), (37, .iconst 0, 1, 0, 0, 0, 0, 0, 0, 0), (38, .istore_n 1, 1, 4, 0, 0, 0, 0, 0, 0), (39, .iconst 0, 1, 0, 0, 0, 0, 0, 0, 0), (40, .istore_n 2, 1, 4, 0, 0, 0, 0, 0, 0), (41, .iload_n 2, 1, 2, 0, 0, 0, 0, 0, 0), (42, .ldc 30, 2, 1, 0, 1, 0, 0, 0, 0)]), (73, [(44, .invokevirtual 32, 3, 23, 91, 0, 0, 307, 0, 0), (47, .if_icmp .ge 56, 3, 12, 0, 0, 0, 0, 0, 0), (50, .iload_n 1, 1, 2, 0, 0, 0, 0, 0, 0), (51, .bipush 18, 2, 0, 0, 0, 0, 0, 0, 0), (53, .if_icmp .ge 50, 3, 12, 0, 0, 0, 0, 0, 0), (56, .ldc 30, 2, 1, 0, 1, 0, 0, 0, 0), (58, .iload_n 2, 1, 2, 0, 0, 0, 0, 0, 0), (59, .invokevirtual 38, 3, 23, 92, 0, 0, 300, 0, 1), (62, .bipush 32, 2, 0, 0, 0, 0, 0, 0, 0), (64, .if_icmp .ne 9, 3, 12, 0, 0, 0, 0, 0, 0), (67, .iinc 1 1, 3, 6, 0, 0, 0, 0, 0, 0), (70, .goto 27, 3, 0, 0, 0, 0, 0, 0, 0)]), (94, [(73, .aload_n 0, 1, 3, 0, 0, 0, 0, 0, 0), (74, .getfield 26, 3, 14, 83, 0, 0, 5, 5, 3), (77, .iload_n 1, 1, 2, 0, 0, 0, 0, 0, 0), (78, .aload_n 0, 1, 3, 0, 0, 0, 0, 0, 0), (79, .getfield 26, 3, 14, 83, 0, 0, 5, 5, 3), (82, .iload_n 1, 1, 2, 0, 0, 0, 0, 0, 0), (83, .laload, 1, 22, 0, 0, 0, 0, 0, 0), (84, .ldc2_w 42, 3, 1, 0, 0, 256, 0, 0, 0), (87, .lmul, 1, 9, 0, 0, 0, 0, 0, 0), (88, .ldc 30, 2, 1, 0, 1, 0, 0, 0, 0), (90, .iload_n 2, 1, 2, 0, 0, 0, 0, 0, 0), (91, .invokevirtual 38, 3, 23, 92, 0, 0, 300, 0, 1)]), (104, [(94, .i2l, 1, 9, 0, 0, 0, 0, 0, 0), (95, .ladd, 1, 9, 0, 0, 0, 0, 0, 0), (96, .lastore, 1, 17, 0, 0, 0, 0, 0, 0), (97, .iinc 2 1, 3, 6, 0, 0, 0, 0, 0, 0), (100, .goto (-59), 3, 0, 0, 0, 0, 0, 0, 0), (103, .return_, 1, 21, 0, 0, 0, 0, 0, 0)])]
def ee_me110 : ee_me := (5, ⟨"PepperTables$Reader", "<init>", "()V"⟩, prog_7_method_1_code, 3, none, ee_B110, 12, 2024)
set_option maxRecDepth 100000 in
theorem ee_me110ok : ee_Mb ee_me110 = true := by decide +kernel
/- 111: PepperTables$Reader.addNumber(I)V -/
def ee_B111 : List (Nat × List ee_en) := [(25, [(0, .bipush 24, 2, 0, 0, 0, 0, 0, 0, 0), (2, .istore_n 2, 1, 4, 0, 0, 0, 0, 0, 0), (3, .iload_n 2, 1, 2, 0, 0, 0, 0, 0, 0), (4, .ifCond .lt 45, 3, 12, 0, 0, 0, 0, 0, 0), (7, .aload_n 0, 1, 3, 0, 0, 0, 0, 0, 0), (8, .getfield 44, 3, 14, 84, 0, 0, 5, 0, 0), (11, .sipush 1600, 3, 0, 0, 0, 0, 0, 0, 0), (14, .if_icmp .ge 35, 3, 12, 0, 0, 0, 0, 0, 0), (17, .aload_n 0, 1, 3, 0, 0, 0, 0, 0, 0), (18, .getfield 22, 3, 14, 82, 0, 0, 5, 4, 3), (21, .aload_n 0, 1, 3, 0, 0, 0, 0, 0, 0), (22, .getfield 44, 3, 14, 84, 0, 0, 5, 0, 0)]), (43, [(25, .iload_n 1, 1, 2, 0, 0, 0, 0, 0, 0), (26, .iload_n 2, 1, 2, 0, 0, 0, 0, 0, 0), (27, .ishr, 1, 7, 0, 0, 0, 0, 0, 0), (28, .sipush 255, 3, 0, 0, 0, 0, 0, 0, 0), (31, .iand, 1, 7, 0, 0, 0, 0, 0, 0), (32, .iastore, 1, 17, 0, 0, 0, 0, 0, 0), (33, .aload_n 0, 1, 3, 0, 0, 0, 0, 0, 0), (34, .dup, 1, 11, 0, 0, 0, 0, 0, 0), (35, .getfield 44, 3, 14, 84, 0, 0, 5, 0, 0), (38, .iconst 1, 1, 0, 0, 0, 0, 0, 0, 0), (39, .iadd, 1, 7, 0, 0, 0, 0, 0, 0), (40, .putfield 44, 3, 15, 84, 0, 0, 5, 0, 0)]), (50, [(43, .iinc 2 (-8), 3, 6, 0, 0, 0, 0, 0, 0), (46, .goto (-43), 3, 0, 0, 0, 0, 0, 0, 0), (49, .return_, 1, 21, 0, 0, 0, 0, 0, 0)])]
def ee_me111 : ee_me := (5, ⟨"PepperTables$Reader", "addNumber", "(I)V"⟩, prog_7_method_2_code, 3, none, ee_B111, 0, 0)
set_option maxRecDepth 100000 in
theorem ee_me111ok : ee_Mb ee_me111 = true := by decide +kernel
/- 112: PepperTables$Reader.fail(I)V -/
def ee_B112 : List (Nat × List ee_en) := [(21, [(0, .aload_n 0, 1, 3, 0, 0, 0, 0, 0, 0), (1, .getfield 49, 3, 14, 85, 0, 0, 5, 1, 0), (4, .ifCond .ne 16, 3, 12, 0, 0, 0, 0, 0, 0), (7, .aload_n 0, 1, 3, 0, 0, 0, 0, 0, 0), (8, .iload_n 1, 1, 2, 0, 0, 0, 0, 0, 0), (9, .putfield 49, 3, 15, 85, 0, 0, 5, 1, 0), (12, .aload_n 0, 1, 3, 0, 0, 0, 0, 0, 0), (13, .aload_n 0, 1, 3, 0, 0, 0, 0, 0, 0), (14, .getfield 64, 3, 14, 86, 0, 0, 5, 8, 0), (17, .putfield 9, 3, 15, 80, 0, 0, 5, 2, 0), (20, .return_, 1, 21, 0, 0, 0, 0, 0, 0)])]
def ee_me112 : ee_me := (5, ⟨"PepperTables$Reader", "fail", "(I)V"⟩, prog_7_method_7_code, 2, none, ee_B112, 0, 0)
set_option maxRecDepth 100000 in
theorem ee_me112ok : ee_Mb ee_me112 = true := by decide +kernel
/- 113: PepperTables$Reader.indexOfName([JI)I -/
def ee_B113 : List (Nat × List ee_en) := [(16, [(0, .iconst 0, 1, 0, 0, 0, 0, 0, 0, 0), (1, .istore_n 3, 1, 4, 0, 0, 0, 0, 0, 0), (2, .iload_n 3, 1, 2, 0, 0, 0, 0, 0, 0), (3, .iload_n 2, 1, 2, 0, 0, 0, 0, 0, 0), (4, .if_icmp .ge 28, 3, 12, 0, 0, 0, 0, 0, 0), (7, .iload_n 3, 1, 2, 0, 0, 0, 0, 0, 0), (8, .aload_n 1, 1, 3, 0, 0, 0, 0, 0, 0), (9, .arraylength, 1, 16, 0, 0, 0, 0, 0, 0), (10, .if_icmp .ge 22, 3, 12, 0, 0, 0, 0, 0, 0), (13, .aload_n 1, 1, 3, 0, 0, 0, 0, 0, 0), (14, .iload_n 3, 1, 2, 0, 0, 0, 0, 0, 0), (15, .laload, 1, 22, 0, 0, 0, 0, 0, 0)]), (34, [(16, .aload_n 0, 1, 3, 0, 0, 0, 0, 0, 0), (17, .getfield 79, 3, 14, 87, 0, 0, 5, 10, 2), (20, .lcmp, 1, 9, 0, 0, 0, 0, 0, 0), (21, .ifCond .ne 5, 3, 12, 0, 0, 0, 0, 0, 0), (24, .iload_n 3, 1, 2, 0, 0, 0, 0, 0, 0), (25, .ireturn, 1, 21, 0, 0, 0, 0, 0, 0), (26, .iinc 3 1, 3, 6, 0, 0, 0, 0, 0, 0), (29, .goto (-27), 3, 0, 0, 0, 0, 0, 0, 0), (32, .iconst (-1), 1, 0, 0, 0, 0, 0, 0, 0), (33, .ireturn, 1, 21, 0, 0, 0, 0, 0, 0)])]
def ee_me113 : ee_me := (5, ⟨"PepperTables$Reader", "indexOfName", "([JI)I"⟩, prog_7_method_20_code, 4, (some .int), ee_B113, 0, 0)
set_option maxRecDepth 100000 in
theorem ee_me113ok : ee_Mb ee_me113 = true := by decide +kernel
/- 114: PepperTables$Reader.readAll()Z -/
def ee_B114 : List (Nat × List ee_en) := [(22, [(0, .aload_n 0, 1, 3, 0, 0, 0, 0, 0, 0), (1, .getfield 18, 3, 14, 81, 0, 0, 5, 3, 3), (4, .invokevirtual 46, 3, 23, 93, 0, 0, 148, 0, 0), (7, .aload_n 0, 1, 3, 0, 0, 0, 0, 0, 0), (8, .iconst 0, 1, 0, 0, 0, 0, 0, 0, 0), (9, .putfield 49, 3, 15, 85, 0, 0, 5, 1, 0), (12, .aload_n 0, 1, 3, 0, 0, 0, 0, 0, 0), (13, .iconst (-1), 1, 0, 0, 0, 0, 0, 0, 0), (14, .putfield 9, 3, 15, 80, 0, 0, 5, 2, 0), (17, .aload_n 0, 1, 3, 0, 0, 0, 0, 0, 0), (18, .iconst 0, 1, 0, 0, 0, 0, 0, 0, 0), (19, .putfield 52, 3, 15, 88, 0, 0, 5, 6, 0)]), (46, [(22, .aload_n 0, 1, 3, 0, 0, 0, 0, 0, 0), (23, .invokevirtual 55, 3, 23, 94, 0, 0, 129, 0, 0), (26, .iconst 0, 1, 0, 0, 0, 0, 0, 0, 0), (27, .istore_n 1, 1, 4, 0, 0, 0, 0, 0, 0), (28, .iload_n 1, 1, 2, 0, 0, 0, 0, 0, 0), (29, .sipush 1600, 3, 0, 0, 0, 0, 0, 0, 0), (32, .if_icmp .gt 27, 3, 12, 0, 0, 0, 0, 0, 0), (35, .aload_n 0, 1, 3, 0, 0, 0, 0, 0, 0), (36, .getfield 49, 3, 14, 85, 0, 0, 5, 1, 0), (39, .ifCond .ne 20, 3, 12, 0, 0, 0, 0, 0, 0), (42, .aload_n 0, 1, 3, 0, 0, 0, 0, 0, 0), (43, .getfield 58, 3, 14, 89, 0, 0, 5, 7, 0)]), (72, [(46, .ifCond .eq 13, 3, 12, 0, 0, 0, 0, 0, 0), (49, .aload_n 0, 1, 3, 0, 0, 0, 0, 0, 0), (50, .invokevirtual 61, 3, 23, 95, 0, 0, 119, 0, 0), (53, .iinc 1 1, 3, 6, 0, 0, 0, 0, 0, 0), (56, .goto (-28), 3, 0, 0, 0, 0, 0, 0, 0), (59, .aload_n 0, 1, 3, 0, 0, 0, 0, 0, 0), (60, .getfield 49, 3, 14, 85, 0, 0, 5, 1, 0), (63, .ifCond .ne 7, 3, 12, 0, 0, 0, 0, 0, 0), (66, .iconst 1, 1, 0, 0, 0, 0, 0, 0, 0), (67, .goto 4, 3, 0, 0, 0, 0, 0, 0, 0), (70, .iconst 0, 1, 0, 0, 0, 0, 0, 0, 0), (71, .ireturn, 1, 21, 0, 0, 0, 0, 0, 0)])]
def ee_me114 : ee_me := (5, ⟨"PepperTables$Reader", "readAll", "()Z"⟩, prog_7_method_3_code, 2, (some .boolean), ee_B114, 0, 0)
set_option maxRecDepth 100000 in
theorem ee_me114ok : ee_Mb ee_me114 = true := by decide +kernel
/- 115: PepperTables$Reader.readBoth(I)V -/
def ee_B115 : List (Nat × List ee_en) := [(21, [(0, .aload_n 0, 1, 3, 0, 0, 0, 0, 0, 0), (1, .iload_n 1, 1, 2, 0, 0, 0, 0, 0, 0), (2, .invokevirtual 191, 3, 23, 96, 0, 0, 120, 0, 1), (5, .iconst 0, 1, 0, 0, 0, 0, 0, 0, 0), (6, .istore_n 2, 1, 4, 0, 0, 0, 0, 0, 0), (7, .iload_n 2, 1, 2, 0, 0, 0, 0, 0, 0), (8, .bipush 60, 2, 0, 0, 0, 0, 0, 0, 0), (10, .if_icmp .ge 40, 3, 12, 0, 0, 0, 0, 0, 0), (13, .aload_n 0, 1, 3, 0, 0, 0, 0, 0, 0), (14, .getfield 49, 3, 14, 85, 0, 0, 5, 1, 0), (17, .ifCond .ne 33, 3, 12, 0, 0, 0, 0, 0, 0), (20, .aload_n 0, 1, 3, 0, 0, 0, 0, 0, 0)]), (47, [(21, .getfield 58, 3, 14, 89, 0, 0, 5, 7, 0), (24, .bipush 14, 2, 0, 0, 0, 0, 0, 0, 0), (26, .if_icmp .ne 24, 3, 12, 0, 0, 0, 0, 0, 0), (29, .aload_n 0, 1, 3, 0, 0, 0, 0, 0, 0), (30, .invokevirtual 55, 3, 23, 94, 0, 0, 129, 0, 0), (33, .aload_n 0, 1, 3, 0, 0, 0, 0, 0, 0), (34, .iload_n 1, 1, 2, 0, 0, 0, 0, 0, 0), (35, .invokevirtual 191, 3, 23, 96, 0, 0, 120, 0, 1), (38, .aload_n 0, 1, 3, 0, 0, 0, 0, 0, 0), (39, .bipush 14, 2, 0, 0, 0, 0, 0, 0, 0), (41, .invokevirtual 188, 3, 23, 97, 0, 0, 136, 0, 1), (44, .iinc 2 1, 3, 6, 0, 0, 0, 0, 0, 0)]), (51, [(47, .goto (-40), 3, 0, 0, 0, 0, 0, 0, 0), (50, .return_, 1, 21, 0, 0, 0, 0, 0, 0)])]
def ee_me115 : ee_me := (5, ⟨"PepperTables$Reader", "readBoth", "(I)V"⟩, prog_7_method_22_code, 3, none, ee_B115, 0, 0)
set_option maxRecDepth 100000 in
theorem ee_me115ok : ee_Mb ee_me115 = true := by decide +kernel
/- 116: PepperTables$Reader.readDraw()V -/
def ee_B116 : List (Nat × List ee_en) := [(24, [(0, .aload_n 0, 1, 3, 0, 0, 0, 0, 0, 0), (1, .getfield 18, 3, 14, 81, 0, 0, 5, 3, 3), (4, .getfield 175, 3, 14, 90, 0, 0, 7, 9, 1), (7, .ifCond .eq 8, 3, 12, 0, 0, 0, 0, 0, 0), (10, .aload_n 0, 1, 3, 0, 0, 0, 0, 0, 0), (11, .invokevirtual 108, 3, 23, 98, 0, 0, 128, 0, 0), (14, .return_, 1, 21, 0, 0, 0, 0, 0, 0), (15, .aload_n 0, 1, 3, 0, 0, 0, 0, 0, 0), (16, .invokevirtual 55, 3, 23, 94, 0, 0, 129, 0, 0), (19, .aload_n 0, 1, 3, 0, 0, 0, 0, 0, 0), (20, .getfield 18, 3, 14, 81, 0, 0, 5, 3, 3), (23, .iconst 1, 1, 0, 0, 0, 0, 0, 0, 0)]), (43, [(24, .putfield 175, 3, 15, 90, 0, 0, 7, 9, 1), (27, .aload_n 0, 1, 3, 0, 0, 0, 0, 0, 0), (28, .getfield 18, 3, 14, 81, 0, 0, 5, 3, 3), (31, .aload_n 0, 1, 3, 0, 0, 0, 0, 0, 0), (32, .iconst 0, 1, 0, 0, 0, 0, 0, 0, 0), (33, .sipush 999, 3, 0, 0, 0, 0, 0, 0, 0), (36, .invokevirtual 127, 3, 23, 99, 0, 0, 135, 0, 2), (39, .putfield 178, 3, 15, 91, 0, 0, 7, 5, 0), (42, .return_, 1, 21, 0, 0, 0, 0, 0, 0)])]
def ee_me116 : ee_me := (5, ⟨"PepperTables$Reader", "readDraw", "()V"⟩, prog_7_method_15_code, 1, none, ee_B116, 0, 0)
set_option maxRecDepth 100000 in
theorem ee_me116ok : ee_Mb ee_me116 = true := by decide +kernel
/- 117: PepperTables$Reader.readEither(I)V -/
def ee_B117 : List (Nat × List ee_en) := [(21, [(0, .aload_n 0, 1, 3, 0, 0, 0, 0, 0, 0), (1, .iload_n 1, 1, 2, 0, 0, 0, 0, 0, 0), (2, .invokevirtual 185, 3, 23, 100, 0, 0, 115, 0, 1), (5, .iconst 0, 1, 0, 0, 0, 0, 0, 0, 0), (6, .istore_n 2, 1, 4, 0, 0, 0, 0, 0, 0), (7, .iload_n 2, 1, 2, 0, 0, 0, 0, 0, 0), (8, .bipush 60, 2, 0, 0, 0, 0, 0, 0, 0), (10, .if_icmp .ge 40, 3, 12, 0, 0, 0, 0, 0, 0), (13, .aload_n 0, 1, 3, 0, 0, 0, 0, 0, 0), (14, .getfield 49, 3, 14, 85, 0, 0, 5, 1, 0), (17, .ifCond .ne 33, 3, 12, 0, 0, 0, 0, 0, 0), (20, .aload_n 0, 1, 3, 0, 0, 0, 0, 0, 0)]), (47, [(21, .getfield 58, 3, 14, 89, 0, 0, 5, 7, 0), (24, .bipush 13, 2, 0, 0, 0, 0, 0, 0, 0), (26, .if_icmp .ne 24, 3, 12, 0, 0, 0, 0, 0, 0), (29, .aload_n 0, 1, 3, 0, 0, 0, 0, 0, 0), (30, .invokevirtual 55, 3, 23, 94, 0, 0, 129, 0, 0), (33, .aload_n 0, 1, 3, 0, 0, 0, 0, 0, 0), (34, .iload_n 1, 1, 2, 0, 0, 0, 0, 0, 0), (35, .invokevirtual 185, 3, 23, 100, 0, 0, 115, 0, 1), (38, .aload_n 0, 1, 3, 0, 0, 0, 0, 0, 0), (39, .bipush 13, 2, 0, 0, 0, 0, 0, 0, 0), (41, .invokevirtual 188, 3, 23, 97, 0, 0, 136, 0, 1), (44, .iinc 2 1, 3, 6, 0, 0, 0, 0, 0, 0)]), (51, [(47, .goto (-40), 3, 0, 0, 0, 0, 0, 0, 0), (50, .return_, 1, 21, 0, 0, 0, 0, 0, 0)])]
def ee_me117 : ee_me := (5, ⟨"PepperTables$Reader", "readEither", "(I)V"⟩, prog_7_method_21_code, 3, none, ee_B117, 0, 0)
set_option maxRecDepth 100000 in
theorem ee_me117ok : ee_Mb ee_me117 = true := by decide +kernel
/- 118: PepperTables$Reader.readFormula()V -/
def ee_B118 : List (Nat × List ee_en) := [(24, [(0, .aload_n 0, 1, 3, 0, 0, 0, 0, 0, 0), (1, .getfield 18, 3, 14, 81, 0, 0, 5, 3, 3), (4, .getfield 159, 3, 14, 92, 0, 0, 7, 7, 1), (7, .ifCond .eq 8, 3, 12, 0, 0, 0, 0, 0, 0), (10, .aload_n 0, 1, 3, 0, 0, 0, 0, 0, 0), (11, .invokevirtual 108, 3, 23, 98, 0, 0, 128, 0, 0), (14, .return_, 1, 21, 0, 0, 0, 0, 0, 0), (15, .aload_n 0, 1, 3, 0, 0, 0, 0, 0, 0), (16, .invokevirtual 55, 3, 23, 94, 0, 0, 129, 0, 0), (19, .aload_n 0, 1, 3, 0, 0, 0, 0, 0, 0), (20, .getfield 18, 3, 14, 81, 0, 0, 5, 3, 3), (23, .iconst 1, 1, 0, 0, 0, 0, 0, 0, 0)]), (41, [(24, .putfield 159, 3, 15, 92, 0, 0, 7, 7, 1), (27, .aload_n 0, 1, 3, 0, 0, 0, 0, 0, 0), (28, .getfield 18, 3, 14, 81, 0, 0, 5, 3, 3), (31, .iconst 0, 1, 0, 0, 0, 0, 0, 0, 0), (32, .putfield 163, 3, 15, 93, 0, 0, 7, 6, 0), (35, .aload_n 0, 1, 3, 0, 0, 0, 0, 0, 0), (36, .iconst 0, 1, 0, 0, 0, 0, 0, 0, 0), (37, .invokevirtual 166, 3, 23, 101, 0, 0, 117, 0, 1), (40, .return_, 1, 21, 0, 0, 0, 0, 0, 0)])]
def ee_me118 : ee_me := (5, ⟨"PepperTables$Reader", "readFormula", "()V"⟩, prog_7_method_13_code, 1, none, ee_B118, 0, 0)
set_option maxRecDepth 100000 in
theorem ee_me118ok : ee_Mb ee_me118 = true := by decide +kernel
/- 119: PepperTables$Reader.readLine()V -/
def ee_B119 : List (Nat × List ee_en) := [(65, [(0, .aload_n 0, 1, 3, 0, 0, 0, 0, 0, 0), (1, .getfield 58, 3, 14, 89, 0, 0, 5, 7, 0), (4, .tableswitch 82 4 9 #[40, 47, 54, 61, 68, 75], 40, 13, 0, 0, 0, 0, 0, 0), (44, .aload_n 0, 1, 3, 0, 0, 0, 0, 0, 0), (45, .invokevirtual 90, 3, 23, 102, 0, 0, 121, 0, 0), (48, .goto 42, 3, 0, 0, 0, 0, 0, 0, 0), (51, .aload_n 0, 1, 3, 0, 0, 0, 0, 0, 0), (52, .invokevirtual 93, 3, 23, 103, 0, 0, 122, 0, 0), (55, .goto 35, 3, 0, 0, 0, 0, 0, 0, 0), (58, .aload_n 0, 1, 3, 0, 0, 0, 0, 0, 0), (59, .invokevirtual 96, 3, 23, 104, 0, 0, 126, 0, 0), (62, .goto 28, 3, 0, 0, 0, 0, 0, 0, 0)]), (91, [(65, .aload_n 0, 1, 3, 0, 0, 0, 0, 0, 0), (66, .invokevirtual 99, 3, 23, 105, 0, 0, 118, 0, 0), (69, .goto 21, 3, 0, 0, 0, 0, 0, 0, 0), (72, .aload_n 0, 1, 3, 0, 0, 0, 0, 0, 0), (73, .invokevirtual 102, 3, 23, 106, 0, 0, 123, 0, 0), (76, .goto 14, 3, 0, 0, 0, 0, 0, 0, 0), (79, .aload_n 0, 1, 3, 0, 0, 0, 0, 0, 0), (80, .invokevirtual 105, 3, 23, 107, 0, 0, 116, 0, 0), (83, .goto 7, 3, 0, 0, 0, 0, 0, 0, 0), (86, .aload_n 0, 1, 3, 0, 0, 0, 0, 0, 0), (87, .invokevirtual 108, 3, 23, 98, 0, 0, 128, 0, 0), (90, .aload_n 0, 1, 3, 0, 0, 0, 0, 0, 0)]), (97, [(91, .bipush 59, 2, 0, 0, 0, 0, 0, 0, 0), (93, .invokevirtual 111, 3, 23, 108, 0, 0, 132, 0, 1), (96, .return_, 1, 21, 0, 0, 0, 0, 0, 0)])]
def ee_me119 : ee_me := (5, ⟨"PepperTables$Reader", "readLine", "()V"⟩, prog_7_method_9_code, 1, none, ee_B119, 0, 0)
set_option maxRecDepth 100000 in
theorem ee_me119ok : ee_Mb ee_me119 = true := by decide +kernel
/- 120: PepperTables$Reader.readOne(I)V -/
def ee_B120 : List (Nat × List ee_en) := [(26, [(0, .aload_n 0, 1, 3, 0, 0, 0, 0, 0, 0), (1, .getfield 49, 3, 14, 85, 0, 0, 5, 1, 0), (4, .ifCond .ne 41, 3, 12, 0, 0, 0, 0, 0, 0), (7, .aload_n 0, 1, 3, 0, 0, 0, 0, 0, 0), (8, .getfield 58, 3, 14, 89, 0, 0, 5, 7, 0), (11, .bipush 15, 2, 0, 0, 0, 0, 0, 0, 0), (13, .if_icmp .ne 32, 3, 12, 0, 0, 0, 0, 0, 0), (16, .iload_n 1, 1, 2, 0, 0, 0, 0, 0, 0), (17, .bipush 7, 2, 0, 0, 0, 0, 0, 0, 0), (19, .if_icmp .lt 8, 3, 12, 0, 0, 0, 0, 0, 0), (22, .aload_n 0, 1, 3, 0, 0, 0, 0, 0, 0), (23, .invokevirtual 108, 3, 23, 98, 0, 0, 128, 0, 0)]), (45, [(26, .return_, 1, 21, 0, 0, 0, 0, 0, 0), (27, .aload_n 0, 1, 3, 0, 0, 0, 0, 0, 0), (28, .invokevirtual 55, 3, 23, 94, 0, 0, 129, 0, 0), (31, .aload_n 0, 1, 3, 0, 0, 0, 0, 0, 0), (32, .iload_n 1, 1, 2, 0, 0, 0, 0, 0, 0), (33, .iconst 1, 1, 0, 0, 0, 0, 0, 0, 0), (34, .iadd, 1, 7, 0, 0, 0, 0, 0, 0), (35, .invokevirtual 191, 3, 23, 96, 0, 0, 120, 0, 1), (38, .aload_n 0, 1, 3, 0, 0, 0, 0, 0, 0), (39, .bipush 15, 2, 0, 0, 0, 0, 0, 0, 0), (41, .invokevirtual 188, 3, 23, 97, 0, 0, 136, 0, 1), (44, .return_, 1, 21, 0, 0, 0, 0, 0, 0)]), (70, [(45, .aload_n 0, 1, 3, 0, 0, 0, 0, 0, 0), (46, .iload_n 1, 1, 2, 0, 0, 0, 0, 0, 0), (47, .invokevirtual 194, 3, 23, 109, 0, 0, 124, 0, 1), (50, .aload_n 0, 1, 3, 0, 0, 0, 0, 0, 0), (51, .getfield 49, 3, 14, 85, 0, 0, 5, 1, 0), (54, .ifCond .ne 49, 3, 12, 0, 0, 0, 0, 0, 0), (57, .aload_n 0, 1, 3, 0, 0, 0, 0, 0, 0), (58, .getfield 58, 3, 14, 89, 0, 0, 5, 7, 0), (61, .bipush 60, 2, 0, 0, 0, 0, 0, 0, 0), (63, .if_icmp .eq 21, 3, 12, 0, 0, 0, 0, 0, 0), (66, .aload_n 0, 1, 3, 0, 0, 0, 0, 0, 0), (67, .getfield 58, 3, 14, 89, 0, 0, 5, 7, 0)]), (94, [(70, .bipush 62, 2, 0, 0, 0, 0, 0, 0, 0), (72, .if_icmp .eq 12, 3, 12, 0, 0, 0, 0, 0, 0), (75, .aload_n 0, 1, 3, 0, 0, 0, 0, 0, 0), (76, .getfield 58, 3, 14, 89, 0, 0, 5, 7, 0), (79, .bipush 61, 2, 0, 0, 0, 0, 0, 0, 0), (81, .if_icmp .ne 22, 3, 12, 0, 0, 0, 0, 0, 0), (84, .aload_n 0, 1, 3, 0, 0, 0, 0, 0, 0), (85, .getfield 58, 3, 14, 89, 0, 0, 5, 7, 0), (88, .istore_n 2, 1, 4, 0, 0, 0, 0, 0, 0), (89, .aload_n 0, 1, 3, 0, 0, 0, 0, 0, 0), (90, .invokevirtual 55, 3, 23, 94, 0, 0, 129, 0, 0), (93, .aload_n 0, 1, 3, 0, 0, 0, 0, 0, 0)]), (104, [(94, .iload_n 1, 1, 2, 0, 0, 0, 0, 0, 0), (95, .invokevirtual 194, 3, 23, 109, 0, 0, 124, 0, 1), (98, .aload_n 0, 1, 3, 0, 0, 0, 0, 0, 0), (99, .iload_n 2, 1, 2, 0, 0, 0, 0, 0, 0), (100, .invokevirtual 188, 3, 23, 97, 0, 0, 136, 0, 1), (103, .return_, 1, 21, 0, 0, 0, 0, 0, 0)])]
def ee_me120 : ee_me := (5, ⟨"PepperTables$Reader", "readOne", "(I)V"⟩, prog_7_method_23_code, 3, none, ee_B120, 0, 0)
set_option maxRecDepth 100000 in
theorem ee_me120ok : ee_Mb ee_me120 = true := by decide +kernel
/- 121: PepperTables$Reader.readPerson()V -/
def ee_B121 : List (Nat × List ee_en) := [(23, [(0, .aload_n 0, 1, 3, 0, 0, 0, 0, 0, 0), (1, .getfield 18, 3, 14, 81, 0, 0, 5, 3, 3), (4, .getfield 114, 3, 14, 94, 0, 0, 7, 0, 0), (7, .istore_n 1, 1, 4, 0, 0, 0, 0, 0, 0), (8, .iload_n 1, 1, 2, 0, 0, 0, 0, 0, 0), (9, .bipush 6, 2, 0, 0, 0, 0, 0, 0, 0), (11, .if_icmp .lt 8, 3, 12, 0, 0, 0, 0, 0, 0), (14, .aload_n 0, 1, 3, 0, 0, 0, 0, 0, 0), (15, .invokevirtual 108, 3, 23, 98, 0, 0, 128, 0, 0), (18, .return_, 1, 21, 0, 0, 0, 0, 0, 0), (19, .aload_n 0, 1, 3, 0, 0, 0, 0, 0, 0), (20, .invokevirtual 55, 3, 23, 94, 0, 0, 129, 0, 0)]), (45, [(23, .aload_n 0, 1, 3, 0, 0, 0, 0, 0, 0), (24, .aload_n 0, 1, 3, 0, 0, 0, 0, 0, 0), (25, .getfield 18, 3, 14, 81, 0, 0, 5, 3, 3), (28, .getfield 117, 3, 14, 95, 0, 0, 7, 16, 3), (31, .iload_n 1, 1, 2, 0, 0, 0, 0, 0, 0), (32, .invokevirtual 120, 3, 23, 110, 0, 0, 134, 0, 2), (35, .aload_n 0, 1, 3, 0, 0, 0, 0, 0, 0), (36, .getfield 18, 3, 14, 81, 0, 0, 5, 3, 3), (39, .getfield 124, 3, 14, 96, 0, 0, 7, 10, 3), (42, .iload_n 1, 1, 2, 0, 0, 0, 0, 0, 0), (43, .iconst 0, 1, 0, 0, 0, 0, 0, 0, 0), (44, .iastore, 1, 17, 0, 0, 0, 0, 0, 0)]), (72, [(45, .aload_n 0, 1, 3, 0, 0, 0, 0, 0, 0), (46, .getfield 49, 3, 14, 85, 0, 0, 5, 1, 0), (49, .ifCond .ne 32, 3, 12, 0, 0, 0, 0, 0, 0), (52, .aload_n 0, 1, 3, 0, 0, 0, 0, 0, 0), (53, .getfield 58, 3, 14, 89, 0, 0, 5, 7, 0), (56, .bipush 17, 2, 0, 0, 0, 0, 0, 0, 0), (58, .if_icmp .ne 23, 3, 12, 0, 0, 0, 0, 0, 0), (61, .aload_n 0, 1, 3, 0, 0, 0, 0, 0, 0), (62, .invokevirtual 55, 3, 23, 94, 0, 0, 129, 0, 0), (65, .aload_n 0, 1, 3, 0, 0, 0, 0, 0, 0), (66, .getfield 18, 3, 14, 81, 0, 0, 5, 3, 3), (69, .getfield 124, 3, 14, 96, 0, 0, 7, 10, 3)]), (91, [(72, .iload_n 1, 1, 2, 0, 0, 0, 0, 0, 0), (73, .aload_n 0, 1, 3, 0, 0, 0, 0, 0, 0), (74, .iconst 0, 1, 0, 0, 0, 0, 0, 0, 0), (75, .bipush 9, 2, 0, 0, 0, 0, 0, 0, 0), (77, .invokevirtual 127, 3, 23, 99, 0, 0, 135, 0, 2), (80, .iastore, 1, 17, 0, 0, 0, 0, 0, 0), (81, .aload_n 0, 1, 3, 0, 0, 0, 0, 0, 0), (82, .getfield 18, 3, 14, 81, 0, 0, 5, 3, 3), (85, .dup, 1, 11, 0, 0, 0, 0, 0, 0), (86, .getfield 114, 3, 14, 94, 0, 0, 7, 0, 0), (89, .iconst 1, 1, 0, 0, 0, 0, 0, 0, 0), (90, .iadd, 1, 7, 0, 0, 0, 0, 0, 0)]), (95, [(91, .putfield 114, 3, 15, 94, 0, 0, 7, 0, 0), (94, .return_, 1, 21, 0, 0, 0, 0, 0, 0)])]
def ee_me121 : ee_me := (5, ⟨"PepperTables$Reader", "readPerson", "()V"⟩, prog_7_method_10_code, 2, none, ee_B121, 0, 0)
set_option maxRecDepth 100000 in
theorem ee_me121ok : ee_Mb ee_me121 = true := by decide +kernel
/- 122: PepperTables$Reader.readSack()V -/
def ee_B122 : List (Nat × List ee_en) := [(22, [(0, .aload_n 0, 1, 3, 0, 0, 0, 0, 0, 0), (1, .getfield 18, 3, 14, 81, 0, 0, 5, 3, 3), (4, .getfield 131, 3, 14, 97, 0, 0, 7, 1, 0), (7, .iconst 5, 1, 0, 0, 0, 0, 0, 0, 0), (8, .if_icmp .lt 8, 3, 12, 0, 0, 0, 0, 0, 0), (11, .aload_n 0, 1, 3, 0, 0, 0, 0, 0, 0), (12, .invokevirtual 108, 3, 23, 98, 0, 0, 128, 0, 0), (15, .return_, 1, 21, 0, 0, 0, 0, 0, 0), (16, .aload_n 0, 1, 3, 0, 0, 0, 0, 0, 0), (17, .invokevirtual 55, 3, 23, 94, 0, 0, 129, 0, 0), (20, .aload_n 0, 1, 3, 0, 0, 0, 0, 0, 0), (21, .aload_n 0, 1, 3, 0, 0, 0, 0, 0, 0)]), (48, [(22, .getfield 18, 3, 14, 81, 0, 0, 5, 3, 3), (25, .getfield 134, 3, 14, 98, 0, 0, 7, 17, 3), (28, .aload_n 0, 1, 3, 0, 0, 0, 0, 0, 0), (29, .getfield 18, 3, 14, 81, 0, 0, 5, 3, 3), (32, .getfield 131, 3, 14, 97, 0, 0, 7, 1, 0), (35, .invokevirtual 120, 3, 23, 110, 0, 0, 134, 0, 2), (38, .aload_n 0, 1, 3, 0, 0, 0, 0, 0, 0), (39, .getfield 18, 3, 14, 81, 0, 0, 5, 3, 3), (42, .dup, 1, 11, 0, 0, 0, 0, 0, 0), (43, .getfield 131, 3, 14, 97, 0, 0, 7, 1, 0), (46, .iconst 1, 1, 0, 0, 0, 0, 0, 0, 0), (47, .iadd, 1, 7, 0, 0, 0, 0, 0, 0)]), (52, [(48, .putfield 131, 3, 15, 97, 0, 0, 7, 1, 0), (51, .return_, 1, 21, 0, 0, 0, 0, 0, 0)])]
def ee_me122 : ee_me := (5, ⟨"PepperTables$Reader", "readSack", "()V"⟩, prog_7_method_11_code, 1, none, ee_B122, 0, 0)
set_option maxRecDepth 100000 in
theorem ee_me122ok : ee_Mb ee_me122 = true := by decide +kernel
/- 123: PepperTables$Reader.readSneeze()V -/
def ee_B123 : List (Nat × List ee_en) := [(24, [(0, .aload_n 0, 1, 3, 0, 0, 0, 0, 0, 0), (1, .getfield 18, 3, 14, 81, 0, 0, 5, 3, 3), (4, .getfield 169, 3, 14, 99, 0, 0, 7, 8, 1), (7, .ifCond .eq 8, 3, 12, 0, 0, 0, 0, 0, 0), (10, .aload_n 0, 1, 3, 0, 0, 0, 0, 0, 0), (11, .invokevirtual 108, 3, 23, 98, 0, 0, 128, 0, 0), (14, .return_, 1, 21, 0, 0, 0, 0, 0, 0), (15, .aload_n 0, 1, 3, 0, 0, 0, 0, 0, 0), (16, .invokevirtual 55, 3, 23, 94, 0, 0, 129, 0, 0), (19, .aload_n 0, 1, 3, 0, 0, 0, 0, 0, 0), (20, .getfield 18, 3, 14, 81, 0, 0, 5, 3, 3), (23, .iconst 1, 1, 0, 0, 0, 0, 0, 0, 0)]), (42, [(24, .putfield 169, 3, 15, 99, 0, 0, 7, 8, 1), (27, .aload_n 0, 1, 3, 0, 0, 0, 0, 0, 0), (28, .getfield 18, 3, 14, 81, 0, 0, 5, 3, 3), (31, .aload_n 0, 1, 3, 0, 0, 0, 0, 0, 0), (32, .iconst 0, 1, 0, 0, 0, 0, 0, 0, 0), (33, .bipush 100, 2, 0, 0, 0, 0, 0, 0, 0), (35, .invokevirtual 127, 3, 23, 99, 0, 0, 135, 0, 2), (38, .putfield 172, 3, 15, 100, 0, 0, 7, 4, 0), (41, .return_, 1, 21, 0, 0, 0, 0, 0, 0)])]
def ee_me123 : ee_me := (5, ⟨"PepperTables$Reader", "readSneeze", "()V"⟩, prog_7_method_14_code, 1, none, ee_B123, 0, 0)
set_option maxRecDepth 100000 in
theorem ee_me123ok : ee_Mb ee_me123 = true := by decide +kernel
/- 124: PepperTables$Reader.readSum(I)V -/
def ee_B124 : List (Nat × List ee_en) := [(21, [(0, .aload_n 0, 1, 3, 0, 0, 0, 0, 0, 0), (1, .iload_n 1, 1, 2, 0, 0, 0, 0, 0, 0), (2, .invokevirtual 197, 3, 23, 111, 0, 0, 125, 0, 1), (5, .iconst 0, 1, 0, 0, 0, 0, 0, 0, 0), (6, .istore_n 2, 1, 4, 0, 0, 0, 0, 0, 0), (7, .iload_n 2, 1, 2, 0, 0, 0, 0, 0, 0), (8, .bipush 60, 2, 0, 0, 0, 0, 0, 0, 0), (10, .if_icmp .ge 53, 3, 12, 0, 0, 0, 0, 0, 0), (13, .aload_n 0, 1, 3, 0, 0, 0, 0, 0, 0), (14, .getfield 49, 3, 14, 85, 0, 0, 5, 1, 0), (17, .ifCond .ne 46, 3, 12, 0, 0, 0, 0, 0, 0), (20, .aload_n 0, 1, 3, 0, 0, 0, 0, 0, 0)]), (47, [(21, .getfield 58, 3, 14, 89, 0, 0, 5, 7, 0), (24, .bipush 43, 2, 0, 0, 0, 0, 0, 0, 0), (26, .if_icmp .eq 12, 3, 12, 0, 0, 0, 0, 0, 0), (29, .aload_n 0, 1, 3, 0, 0, 0, 0, 0, 0), (30, .getfield 58, 3, 14, 89, 0, 0, 5, 7, 0), (33, .bipush 45, 2, 0, 0, 0, 0, 0, 0, 0), (35, .if_icmp .ne 28, 3, 12, 0, 0, 0, 0, 0, 0), (38, .aload_n 0, 1, 3, 0, 0, 0, 0, 0, 0), (39, .getfield 58, 3, 14, 89, 0, 0, 5, 7, 0), (42, .istore_n 3, 1, 4, 0, 0, 0, 0, 0, 0), (43, .aload_n 0, 1, 3, 0, 0, 0, 0, 0, 0), (44, .invokevirtual 55, 3, 23, 94, 0, 0, 129, 0, 0)]), (64, [(47, .aload_n 0, 1, 3, 0, 0, 0, 0, 0, 0), (48, .iload_n 1, 1, 2, 0, 0, 0, 0, 0, 0), (49, .invokevirtual 197, 3, 23, 111, 0, 0, 125, 0, 1), (52, .aload_n 0, 1, 3, 0, 0, 0, 0, 0, 0), (53, .iload_n 3, 1, 2, 0, 0, 0, 0, 0, 0), (54, .invokevirtual 188, 3, 23, 97, 0, 0, 136, 0, 1), (57, .iinc 2 1, 3, 6, 0, 0, 0, 0, 0, 0), (60, .goto (-53), 3, 0, 0, 0, 0, 0, 0, 0), (63, .return_, 1, 21, 0, 0, 0, 0, 0, 0)])]
def ee_me124 : ee_me := (5, ⟨"PepperTables$Reader", "readSum", "(I)V"⟩, prog_7_method_24_code, 4, none, ee_B124, 0, 0)
set_option maxRecDepth 100000 in
theorem ee_me124ok : ee_Mb ee_me124 = true := by decide +kernel
end
section
/- 125: PepperTables$Reader.readTerm(I)V -/
def ee_B125 : List (Nat × List ee_en) := [(21, [(0, .aload_n 0, 1, 3, 0, 0, 0, 0, 0, 0), (1, .iload_n 1, 1, 2, 0, 0, 0, 0, 0, 0), (2, .invokevirtual 200, 3, 23, 112, 0, 0, 127, 0, 1), (5, .iconst 0, 1, 0, 0, 0, 0, 0, 0, 0), (6, .istore_n 2, 1, 4, 0, 0, 0, 0, 0, 0), (7, .iload_n 2, 1, 2, 0, 0, 0, 0, 0, 0), (8, .bipush 60, 2, 0, 0, 0, 0, 0, 0, 0), (10, .if_icmp .ge 62, 3, 12, 0, 0, 0, 0, 0, 0), (13, .aload_n 0, 1, 3, 0, 0, 0, 0, 0, 0), (14, .getfield 49, 3, 14, 85, 0, 0, 5, 1, 0), (17, .ifCond .ne 55, 3, 12, 0, 0, 0, 0, 0, 0), (20, .aload_n 0, 1, 3, 0, 0, 0, 0, 0, 0)]), (48, [(21, .getfield 58, 3, 14, 89, 0, 0, 5, 7, 0), (24, .bipush 42, 2, 0, 0, 0, 0, 0, 0, 0), (26, .if_icmp .eq 21, 3, 12, 0, 0, 0, 0, 0, 0), (29, .aload_n 0, 1, 3, 0, 0, 0, 0, 0, 0), (30, .getfield 58, 3, 14, 89, 0, 0, 5, 7, 0), (33, .bipush 47, 2, 0, 0, 0, 0, 0, 0, 0), (35, .if_icmp .eq 12, 3, 12, 0, 0, 0, 0, 0, 0), (38, .aload_n 0, 1, 3, 0, 0, 0, 0, 0, 0), (39, .getfield 58, 3, 14, 89, 0, 0, 5, 7, 0), (42, .bipush 37, 2, 0, 0, 0, 0, 0, 0, 0), (44, .if_icmp .ne 28, 3, 12, 0, 0, 0, 0, 0, 0), (47, .aload_n 0, 1, 3, 0, 0, 0, 0, 0, 0)]), (72, [(48, .getfield 58, 3, 14, 89, 0, 0, 5, 7, 0), (51, .istore_n 3, 1, 4, 0, 0, 0, 0, 0, 0), (52, .aload_n 0, 1, 3, 0, 0, 0, 0, 0, 0), (53, .invokevirtual 55, 3, 23, 94, 0, 0, 129, 0, 0), (56, .aload_n 0, 1, 3, 0, 0, 0, 0, 0, 0), (57, .iload_n 1, 1, 2, 0, 0, 0, 0, 0, 0), (58, .invokevirtual 200, 3, 23, 112, 0, 0, 127, 0, 1), (61, .aload_n 0, 1, 3, 0, 0, 0, 0, 0, 0), (62, .iload_n 3, 1, 2, 0, 0, 0, 0, 0, 0), (63, .invokevirtual 188, 3, 23, 97, 0, 0, 136, 0, 1), (66, .iinc 2 1, 3, 6, 0, 0, 0, 0, 0, 0), (69, .goto (-62), 3, 0, 0, 0, 0, 0, 0, 0)]), (73, [(72, .return_, 1, 21, 0, 0, 0, 0, 0, 0)])]
def ee_me125 : ee_me := (5, ⟨"PepperTables$Reader", "readTerm", "(I)V"⟩, prog_7_method_25_code, 4, none, ee_B125, 0, 0)
set_option maxRecDepth 100000 in
theorem ee_me125ok : ee_Mb ee_me125 = true := by decide +kernel
/- 126: PepperTables$Reader.readThing()V -/
def ee_B126 : List (Nat × List ee_en) := [(23, [(0, .aload_n 0, 1, 3, 0, 0, 0, 0, 0, 0), (1, .getfield 18, 3, 14, 81, 0, 0, 5, 3, 3), (4, .getfield 137, 3, 14, 101, 0, 0, 7, 2, 0), (7, .istore_n 1, 1, 4, 0, 0, 0, 0, 0, 0), (8, .iload_n 1, 1, 2, 0, 0, 0, 0, 0, 0), (9, .bipush 10, 2, 0, 0, 0, 0, 0, 0, 0), (11, .if_icmp .lt 8, 3, 12, 0, 0, 0, 0, 0, 0), (14, .aload_n 0, 1, 3, 0, 0, 0, 0, 0, 0), (15, .invokevirtual 108, 3, 23, 98, 0, 0, 128, 0, 0), (18, .return_, 1, 21, 0, 0, 0, 0, 0, 0), (19, .aload_n 0, 1, 3, 0, 0, 0, 0, 0, 0), (20, .invokevirtual 55, 3, 23, 94, 0, 0, 129, 0, 0)]), (48, [(23, .aload_n 0, 1, 3, 0, 0, 0, 0, 0, 0), (24, .aload_n 0, 1, 3, 0, 0, 0, 0, 0, 0), (25, .getfield 18, 3, 14, 81, 0, 0, 5, 3, 3), (28, .getfield 140, 3, 14, 102, 0, 0, 7, 18, 3), (31, .iload_n 1, 1, 2, 0, 0, 0, 0, 0, 0), (32, .invokevirtual 120, 3, 23, 110, 0, 0, 134, 0, 2), (35, .aload_n 0, 1, 3, 0, 0, 0, 0, 0, 0), (36, .bipush 10, 2, 0, 0, 0, 0, 0, 0, 0), (38, .invokevirtual 111, 3, 23, 108, 0, 0, 132, 0, 1), (41, .aload_n 0, 1, 3, 0, 0, 0, 0, 0, 0), (42, .getfield 18, 3, 14, 81, 0, 0, 5, 3, 3), (45, .getfield 143, 3, 14, 103, 0, 0, 7, 11, 3)]), (70, [(48, .iload_n 1, 1, 2, 0, 0, 0, 0, 0, 0), (49, .aload_n 0, 1, 3, 0, 0, 0, 0, 0, 0), (50, .aload_n 0, 1, 3, 0, 0, 0, 0, 0, 0), (51, .getfield 18, 3, 14, 81, 0, 0, 5, 3, 3), (54, .getfield 117, 3, 14, 95, 0, 0, 7, 16, 3), (57, .aload_n 0, 1, 3, 0, 0, 0, 0, 0, 0), (58, .getfield 18, 3, 14, 81, 0, 0, 5, 3, 3), (61, .getfield 114, 3, 14, 94, 0, 0, 7, 0, 0), (64, .iconst (-1), 1, 0, 0, 0, 0, 0, 0, 0), (65, .invokevirtual 146, 3, 23, 113, 0, 0, 133, 0, 3), (68, .iastore, 1, 17, 0, 0, 0, 0, 0, 0), (69, .aload_n 0, 1, 3, 0, 0, 0, 0, 0, 0)]), (95, [(70, .bipush 11, 2, 0, 0, 0, 0, 0, 0, 0), (72, .invokevirtual 111, 3, 23, 108, 0, 0, 132, 0, 1), (75, .aload_n 0, 1, 3, 0, 0, 0, 0, 0, 0), (76, .getfield 18, 3, 14, 81, 0, 0, 5, 3, 3), (79, .getfield 150, 3, 14, 104, 0, 0, 7, 12, 3), (82, .iload_n 1, 1, 2, 0, 0, 0, 0, 0, 0), (83, .aload_n 0, 1, 3, 0, 0, 0, 0, 0, 0), (84, .aload_n 0, 1, 3, 0, 0, 0, 0, 0, 0), (85, .getfield 18, 3, 14, 81, 0, 0, 5, 3, 3), (88, .getfield 117, 3, 14, 95, 0, 0, 7, 16, 3), (91, .aload_n 0, 1, 3, 0, 0, 0, 0, 0, 0), (92, .getfield 18, 3, 14, 81, 0, 0, 5, 3, 3)]), (118, [(95, .getfield 114, 3, 14, 94, 0, 0, 7, 0, 0), (98, .aload_n 0, 1, 3, 0, 0, 0, 0, 0, 0), (99, .getfield 18, 3, 14, 81, 0, 0, 5, 3, 3), (102, .getfield 143, 3, 14, 103, 0, 0, 7, 11, 3), (105, .iload_n 1, 1, 2, 0, 0, 0, 0, 0, 0), (106, .iaload, 1, 22, 0, 0, 0, 0, 0, 0), (107, .invokevirtual 146, 3, 23, 113, 0, 0, 133, 0, 3), (110, .iastore, 1, 17, 0, 0, 0, 0, 0, 0), (111, .aload_n 0, 1, 3, 0, 0, 0, 0, 0, 0), (112, .bipush 16, 2, 0, 0, 0, 0, 0, 0, 0), (114, .invokevirtual 111, 3, 23, 108, 0, 0, 132, 0, 1), (117, .aload_n 0, 1, 3, 0, 0, 0, 0, 0, 0)]), (141, [(118, .getfield 18, 3, 14, 81, 0, 0, 5, 3, 3), (121, .getfield 153, 3, 14, 105, 0, 0, 7, 13, 3), (124, .iload_n 1, 1, 2, 0, 0, 0, 0, 0, 0), (125, .aload_n 0, 1, 3, 0, 0, 0, 0, 0, 0), (126, .iconst 1, 1, 0, 0, 0, 0, 0, 0, 0), (127, .bipush 9, 2, 0, 0, 0, 0, 0, 0, 0), (129, .invokevirtual 127, 3, 23, 99, 0, 0, 135, 0, 2), (132, .iastore, 1, 17, 0, 0, 0, 0, 0, 0), (133, .aload_n 0, 1, 3, 0, 0, 0, 0, 0, 0), (134, .getfield 18, 3, 14, 81, 0, 0, 5, 3, 3), (137, .getfield 156, 3, 14, 106, 0, 0, 7, 14, 3), (140, .iload_n 1, 1, 2, 0, 0, 0, 0, 0, 0)]), (164, [(141, .iconst (-1), 1, 0, 0, 0, 0, 0, 0, 0), (142, .iastore, 1, 17, 0, 0, 0, 0, 0, 0), (143, .aload_n 0, 1, 3, 0, 0, 0, 0, 0, 0), (144, .getfield 49, 3, 14, 85, 0, 0, 5, 1, 0), (147, .ifCond .ne 44, 3, 12, 0, 0, 0, 0, 0, 0), (150, .aload_n 0, 1, 3, 0, 0, 0, 0, 0, 0), (151, .getfield 58, 3, 14, 89, 0, 0, 5, 7, 0), (154, .bipush 12, 2, 0, 0, 0, 0, 0, 0, 0), (156, .if_icmp .ne 35, 3, 12, 0, 0, 0, 0, 0, 0), (159, .aload_n 0, 1, 3, 0, 0, 0, 0, 0, 0), (160, .invokevirtual 55, 3, 23, 94, 0, 0, 129, 0, 0), (163, .aload_n 0, 1, 3, 0, 0, 0, 0, 0, 0)]), (190, [(164, .getfield 18, 3, 14, 81, 0, 0, 5, 3, 3), (167, .getfield 156, 3, 14, 106, 0, 0, 7, 14, 3), (170, .iload_n 1, 1, 2, 0, 0, 0, 0, 0, 0), (171, .aload_n 0, 1, 3, 0, 0, 0, 0, 0, 0), (172, .aload_n 0, 1, 3, 0, 0, 0, 0, 0, 0), (173, .getfield 18, 3, 14, 81, 0, 0, 5, 3, 3), (176, .getfield 134, 3, 14, 98, 0, 0, 7, 17, 3), (179, .aload_n 0, 1, 3, 0, 0, 0, 0, 0, 0), (180, .getfield 18, 3, 14, 81, 0, 0, 5, 3, 3), (183, .getfield 131, 3, 14, 97, 0, 0, 7, 1, 0), (186, .iconst (-1), 1, 0, 0, 0, 0, 0, 0, 0), (187, .invokevirtual 146, 3, 23, 113, 0, 0, 133, 0, 3)]), (205, [(190, .iastore, 1, 17, 0, 0, 0, 0, 0, 0), (191, .aload_n 0, 1, 3, 0, 0, 0, 0, 0, 0), (192, .getfield 18, 3, 14, 81, 0, 0, 5, 3, 3), (195, .dup, 1, 11, 0, 0, 0, 0, 0, 0), (196, .getfield 137, 3, 14, 101, 0, 0, 7, 2, 0), (199, .iconst 1, 1, 0, 0, 0, 0, 0, 0, 0), (200, .iadd, 1, 7, 0, 0, 0, 0, 0, 0), (201, .putfield 137, 3, 15, 101, 0, 0, 7, 2, 0), (204, .return_, 1, 21, 0, 0, 0, 0, 0, 0)])]
def ee_me126 : ee_me := (5, ⟨"PepperTables$Reader", "readThing", "()V"⟩, prog_7_method_12_code, 2, none, ee_B126, 0, 0)
set_option maxRecDepth 100000 in
theorem ee_me126ok : ee_Mb ee_me126 = true := by decide +kernel
/- 127: PepperTables$Reader.readUnit(I)V -/
def ee_B127 : List (Nat × List ee_en) := [(27, [(0, .aload_n 0, 1, 3, 0, 0, 0, 0, 0, 0), (1, .getfield 49, 3, 14, 85, 0, 0, 5, 1, 0), (4, .ifCond .eq 4, 3, 12, 0, 0, 0, 0, 0, 0), (7, .return_, 1, 21, 0, 0, 0, 0, 0, 0), (8, .aload_n 0, 1, 3, 0, 0, 0, 0, 0, 0), (9, .getfield 18, 3, 14, 81, 0, 0, 5, 3, 3), (12, .getfield 203, 3, 14, 107, 0, 0, 7, 3, 0), (15, .bipush 60, 2, 0, 0, 0, 0, 0, 0, 0), (17, .if_icmp .ge 15, 3, 12, 0, 0, 0, 0, 0, 0), (20, .aload_n 0, 1, 3, 0, 0, 0, 0, 0, 0), (21, .getfield 18, 3, 14, 81, 0, 0, 5, 3, 3), (24, .getfield 203, 3, 14, 107, 0, 0, 7, 3, 0)]), (50, [(27, .bipush 30, 2, 0, 0, 0, 0, 0, 0, 0), (29, .if_icmp .lt 8, 3, 12, 0, 0, 0, 0, 0, 0), (32, .aload_n 0, 1, 3, 0, 0, 0, 0, 0, 0), (33, .invokevirtual 108, 3, 23, 98, 0, 0, 128, 0, 0), (36, .return_, 1, 21, 0, 0, 0, 0, 0, 0), (37, .aload_n 0, 1, 3, 0, 0, 0, 0, 0, 0), (38, .getfield 18, 3, 14, 81, 0, 0, 5, 3, 3), (41, .dup, 1, 11, 0, 0, 0, 0, 0, 0), (42, .getfield 203, 3, 14, 107, 0, 0, 7, 3, 0), (45, .iconst 1, 1, 0, 0, 0, 0, 0, 0, 0), (46, .iadd, 1, 7, 0, 0, 0, 0, 0, 0), (47, .putfield 203, 3, 15, 107, 0, 0, 7, 3, 0)]), (74, [(50, .aload_n 0, 1, 3, 0, 0, 0, 0, 0, 0), (51, .getfield 58, 3, 14, 89, 0, 0, 5, 7, 0), (54, .iconst 2, 1, 0, 0, 0, 0, 0, 0, 0), (55, .if_icmp .ne 22, 3, 12, 0, 0, 0, 0, 0, 0), (58, .aload_n 0, 1, 3, 0, 0, 0, 0, 0, 0), (59, .sipush 128, 3, 0, 0, 0, 0, 0, 0, 0), (62, .aload_n 0, 1, 3, 0, 0, 0, 0, 0, 0), (63, .getfield 83, 3, 14, 108, 0, 0, 5, 9, 0), (66, .iadd, 1, 7, 0, 0, 0, 0, 0, 0), (67, .invokevirtual 188, 3, 23, 97, 0, 0, 136, 0, 1), (70, .aload_n 0, 1, 3, 0, 0, 0, 0, 0, 0), (71, .invokevirtual 55, 3, 23, 94, 0, 0, 129, 0, 0)]), (100, [(74, .goto 75, 3, 0, 0, 0, 0, 0, 0, 0), (77, .aload_n 0, 1, 3, 0, 0, 0, 0, 0, 0), (78, .getfield 58, 3, 14, 89, 0, 0, 5, 7, 0), (81, .bipush 16, 2, 0, 0, 0, 0, 0, 0, 0), (83, .if_icmp .lt 27, 3, 12, 0, 0, 0, 0, 0, 0), (86, .aload_n 0, 1, 3, 0, 0, 0, 0, 0, 0), (87, .getfield 58, 3, 14, 89, 0, 0, 5, 7, 0), (90, .bipush 21, 2, 0, 0, 0, 0, 0, 0, 0), (92, .if_icmp .gt 18, 3, 12, 0, 0, 0, 0, 0, 0), (95, .aload_n 0, 1, 3, 0, 0, 0, 0, 0, 0), (96, .aload_n 0, 1, 3, 0, 0, 0, 0, 0, 0), (97, .getfield 58, 3, 14, 89, 0, 0, 5, 7, 0)]), (126, [(100, .invokevirtual 188, 3, 23, 97, 0, 0, 136, 0, 1), (103, .aload_n 0, 1, 3, 0, 0, 0, 0, 0, 0), (104, .invokevirtual 55, 3, 23, 94, 0, 0, 129, 0, 0), (107, .goto 42, 3, 0, 0, 0, 0, 0, 0, 0), (110, .aload_n 0, 1, 3, 0, 0, 0, 0, 0, 0), (111, .getfield 58, 3, 14, 89, 0, 0, 5, 7, 0), (114, .bipush 40, 2, 0, 0, 0, 0, 0, 0, 0), (116, .if_icmp .ne 29, 3, 12, 0, 0, 0, 0, 0, 0), (119, .iload_n 1, 1, 2, 0, 0, 0, 0, 0, 0), (120, .bipush 7, 2, 0, 0, 0, 0, 0, 0, 0), (122, .if_icmp .ge 23, 3, 12, 0, 0, 0, 0, 0, 0), (125, .aload_n 0, 1, 3, 0, 0, 0, 0, 0, 0)]), (149, [(126, .invokevirtual 55, 3, 23, 94, 0, 0, 129, 0, 0), (129, .aload_n 0, 1, 3, 0, 0, 0, 0, 0, 0), (130, .iload_n 1, 1, 2, 0, 0, 0, 0, 0, 0), (131, .iconst 1, 1, 0, 0, 0, 0, 0, 0, 0), (132, .iadd, 1, 7, 0, 0, 0, 0, 0, 0), (133, .invokevirtual 166, 3, 23, 101, 0, 0, 117, 0, 1), (136, .aload_n 0, 1, 3, 0, 0, 0, 0, 0, 0), (137, .bipush 41, 2, 0, 0, 0, 0, 0, 0, 0), (139, .invokevirtual 111, 3, 23, 108, 0, 0, 132, 0, 1), (142, .goto 7, 3, 0, 0, 0, 0, 0, 0, 0), (145, .aload_n 0, 1, 3, 0, 0, 0, 0, 0, 0), (146, .invokevirtual 108, 3, 23, 98, 0, 0, 128, 0, 0)]), (150, [(149, .return_, 1, 21, 0, 0, 0, 0, 0, 0)])]
def ee_me127 : ee_me := (5, ⟨"PepperTables$Reader", "readUnit", "(I)V"⟩, prog_7_method_26_code, 2, none, ee_B127, 0, 0)
set_option maxRecDepth 100000 in
theorem ee_me127ok : ee_Mb ee_me127 = true := by decide +kernel
/- 128: PepperTables$Reader.refuse()V -/
def ee_B128 : List (Nat × List ee_en) := [(18, [(0, .aload_n 0, 1, 3, 0, 0, 0, 0, 0, 0), (1, .aload_n 0, 1, 3, 0, 0, 0, 0, 0, 0), (2, .getfield 58, 3, 14, 89, 0, 0, 5, 7, 0), (5, .iconst 1, 1, 0, 0, 0, 0, 0, 0, 0), (6, .if_icmp .ne 7, 3, 12, 0, 0, 0, 0, 0, 0), (9, .iconst 1, 1, 0, 0, 0, 0, 0, 0, 0), (10, .goto 4, 3, 0, 0, 0, 0, 0, 0, 0), (13, .iconst 2, 1, 0, 0, 0, 0, 0, 0, 0), (14, .invokevirtual 86, 3, 23, 114, 0, 0, 112, 0, 1), (17, .return_, 1, 21, 0, 0, 0, 0, 0, 0)])]
def ee_me128 : ee_me := (5, ⟨"PepperTables$Reader", "refuse", "()V"⟩, prog_7_method_8_code, 1, none, ee_B128, 0, 0)
set_option maxRecDepth 100000 in
theorem ee_me128ok : ee_Mb ee_me128 = true := by decide +kernel
/- 129: PepperTables$Reader.step()V -/
def ee_B129 : List (Nat × List ee_en) := [(26, [(0, .aload_n 0, 1, 3, 0, 0, 0, 0, 0, 0), (1, .getfield 52, 3, 14, 88, 0, 0, 5, 6, 0), (4, .aload_n 0, 1, 3, 0, 0, 0, 0, 0, 0), (5, .getfield 44, 3, 14, 84, 0, 0, 5, 0, 0), (8, .if_icmp .ge 54, 3, 12, 0, 0, 0, 0, 0, 0), (11, .aload_n 0, 1, 3, 0, 0, 0, 0, 0, 0), (12, .getfield 52, 3, 14, 88, 0, 0, 5, 6, 0), (15, .sipush 1600, 3, 0, 0, 0, 0, 0, 0, 0), (18, .if_icmp .ge 44, 3, 12, 0, 0, 0, 0, 0, 0), (21, .aload_n 0, 1, 3, 0, 0, 0, 0, 0, 0), (22, .getfield 22, 3, 14, 82, 0, 0, 5, 4, 3), (25, .aload_n 0, 1, 3, 0, 0, 0, 0, 0, 0)]), (50, [(26, .getfield 52, 3, 14, 88, 0, 0, 5, 6, 0), (29, .iaload, 1, 22, 0, 0, 0, 0, 0, 0), (30, .bipush 32, 2, 0, 0, 0, 0, 0, 0, 0), (32, .if_icmp .eq 17, 3, 12, 0, 0, 0, 0, 0, 0), (35, .aload_n 0, 1, 3, 0, 0, 0, 0, 0, 0), (36, .getfield 22, 3, 14, 82, 0, 0, 5, 4, 3), (39, .aload_n 0, 1, 3, 0, 0, 0, 0, 0, 0), (40, .getfield 52, 3, 14, 88, 0, 0, 5, 6, 0), (43, .iaload, 1, 22, 0, 0, 0, 0, 0, 0), (44, .bipush 10, 2, 0, 0, 0, 0, 0, 0, 0), (46, .if_icmp .ne 16, 3, 12, 0, 0, 0, 0, 0, 0), (49, .aload_n 0, 1, 3, 0, 0, 0, 0, 0, 0)]), (74, [(50, .dup, 1, 11, 0, 0, 0, 0, 0, 0), (51, .getfield 52, 3, 14, 88, 0, 0, 5, 6, 0), (54, .iconst 1, 1, 0, 0, 0, 0, 0, 0, 0), (55, .iadd, 1, 7, 0, 0, 0, 0, 0, 0), (56, .putfield 52, 3, 15, 88, 0, 0, 5, 6, 0), (59, .goto (-59), 3, 0, 0, 0, 0, 0, 0, 0), (62, .aload_n 0, 1, 3, 0, 0, 0, 0, 0, 0), (63, .aload_n 0, 1, 3, 0, 0, 0, 0, 0, 0), (64, .getfield 52, 3, 14, 88, 0, 0, 5, 6, 0), (67, .putfield 64, 3, 15, 86, 0, 0, 5, 8, 0), (70, .aload_n 0, 1, 3, 0, 0, 0, 0, 0, 0), (71, .getfield 52, 3, 14, 88, 0, 0, 5, 6, 0)]), (100, [(74, .aload_n 0, 1, 3, 0, 0, 0, 0, 0, 0), (75, .getfield 44, 3, 14, 84, 0, 0, 5, 0, 0), (78, .if_icmp .ge 13, 3, 12, 0, 0, 0, 0, 0, 0), (81, .aload_n 0, 1, 3, 0, 0, 0, 0, 0, 0), (82, .getfield 52, 3, 14, 88, 0, 0, 5, 6, 0), (85, .sipush 1600, 3, 0, 0, 0, 0, 0, 0, 0), (88, .if_icmp .lt 11, 3, 12, 0, 0, 0, 0, 0, 0), (91, .aload_n 0, 1, 3, 0, 0, 0, 0, 0, 0), (92, .iconst 0, 1, 0, 0, 0, 0, 0, 0, 0), (93, .putfield 58, 3, 15, 89, 0, 0, 5, 7, 0), (96, .goto 122, 3, 0, 0, 0, 0, 0, 0, 0), (99, .aload_n 0, 1, 3, 0, 0, 0, 0, 0, 0)]), (124, [(100, .getfield 22, 3, 14, 82, 0, 0, 5, 4, 3), (103, .aload_n 0, 1, 3, 0, 0, 0, 0, 0, 0), (104, .getfield 52, 3, 14, 88, 0, 0, 5, 6, 0), (107, .iaload, 1, 22, 0, 0, 0, 0, 0, 0), (108, .bipush 97, 2, 0, 0, 0, 0, 0, 0, 0), (110, .if_icmp .lt 24, 3, 12, 0, 0, 0, 0, 0, 0), (113, .aload_n 0, 1, 3, 0, 0, 0, 0, 0, 0), (114, .getfield 22, 3, 14, 82, 0, 0, 5, 4, 3), (117, .aload_n 0, 1, 3, 0, 0, 0, 0, 0, 0), (118, .getfield 52, 3, 14, 88, 0, 0, 5, 6, 0), (121, .iaload, 1, 22, 0, 0, 0, 0, 0, 0), (122, .bipush 122, 2, 0, 0, 0, 0, 0, 0, 0)]), (149, [(124, .if_icmp .gt 10, 3, 12, 0, 0, 0, 0, 0, 0), (127, .aload_n 0, 1, 3, 0, 0, 0, 0, 0, 0), (128, .invokevirtual 67, 3, 23, 115, 0, 0, 131, 0, 0), (131, .goto 87, 3, 0, 0, 0, 0, 0, 0, 0), (134, .aload_n 0, 1, 3, 0, 0, 0, 0, 0, 0), (135, .getfield 22, 3, 14, 82, 0, 0, 5, 4, 3), (138, .aload_n 0, 1, 3, 0, 0, 0, 0, 0, 0), (139, .getfield 52, 3, 14, 88, 0, 0, 5, 6, 0), (142, .iaload, 1, 22, 0, 0, 0, 0, 0, 0), (143, .bipush 48, 2, 0, 0, 0, 0, 0, 0, 0), (145, .if_icmp .lt 24, 3, 12, 0, 0, 0, 0, 0, 0), (148, .aload_n 0, 1, 3, 0, 0, 0, 0, 0, 0)]), (175, [(149, .getfield 22, 3, 14, 82, 0, 0, 5, 4, 3), (152, .aload_n 0, 1, 3, 0, 0, 0, 0, 0, 0), (153, .getfield 52, 3, 14, 88, 0, 0, 5, 6, 0), (156, .iaload, 1, 22, 0, 0, 0, 0, 0, 0), (157, .bipush 57, 2, 0, 0, 0, 0, 0, 0, 0), (159, .if_icmp .gt 10, 3, 12, 0, 0, 0, 0, 0, 0), (162, .aload_n 0, 1, 3, 0, 0, 0, 0, 0, 0), (163, .invokevirtual 70, 3, 23, 116, 0, 0, 130, 0, 0), (166, .goto 52, 3, 0, 0, 0, 0, 0, 0, 0), (169, .ldc 73, 2, 1, 1, 1, 0, 0, 0, 0), (171, .aload_n 0, 1, 3, 0, 0, 0, 0, 0, 0), (172, .getfield 22, 3, 14, 82, 0, 0, 5, 4, 3)]), (197, [(175, .aload_n 0, 1, 3, 0, 0, 0, 0, 0, 0), (176, .getfield 52, 3, 14, 88, 0, 0, 5, 6, 0), (179, .iaload, 1, 22, 0, 0, 0, 0, 0, 0), (180, .i2c, 1, 10, 0, 0, 0, 0, 0, 0), (181, .invokevirtual 75, 3, 23, 117, 0, 0, 304, 0, 1), (184, .ifCond .lt 29, 3, 12, 0, 0, 0, 0, 0, 0), (187, .aload_n 0, 1, 3, 0, 0, 0, 0, 0, 0), (188, .aload_n 0, 1, 3, 0, 0, 0, 0, 0, 0), (189, .getfield 22, 3, 14, 82, 0, 0, 5, 4, 3), (192, .aload_n 0, 1, 3, 0, 0, 0, 0, 0, 0), (193, .getfield 52, 3, 14, 88, 0, 0, 5, 6, 0), (196, .iaload, 1, 22, 0, 0, 0, 0, 0, 0)]), (219, [(197, .putfield 58, 3, 15, 89, 0, 0, 5, 7, 0), (200, .aload_n 0, 1, 3, 0, 0, 0, 0, 0, 0), (201, .dup, 1, 11, 0, 0, 0, 0, 0, 0), (202, .getfield 52, 3, 14, 88, 0, 0, 5, 6, 0), (205, .iconst 1, 1, 0, 0, 0, 0, 0, 0, 0), (206, .iadd, 1, 7, 0, 0, 0, 0, 0, 0), (207, .putfield 52, 3, 15, 88, 0, 0, 5, 6, 0), (210, .goto 8, 3, 0, 0, 0, 0, 0, 0, 0), (213, .aload_n 0, 1, 3, 0, 0, 0, 0, 0, 0), (214, .iconst 1, 1, 0, 0, 0, 0, 0, 0, 0), (215, .putfield 58, 3, 15, 89, 0, 0, 5, 7, 0), (218, .return_, 1, 21, 0, 0, 0, 0, 0, 0)])]
def ee_me129 : ee_me := (5, ⟨"PepperTables$Reader", "step", "()V"⟩, prog_7_method_4_code, 1, none, ee_B129, 0, 0)
set_option maxRecDepth 100000 in
theorem ee_me129ok : ee_Mb ee_me129 = true := by decide +kernel
/- 130: PepperTables$Reader.stepNumber()V -/
def ee_B130 : List (Nat × List ee_en) := [(26, [(0, .aload_n 0, 1, 3, 0, 0, 0, 0, 0, 0), (1, .iconst 0, 1, 0, 0, 0, 0, 0, 0, 0), (2, .putfield 83, 3, 15, 108, 0, 0, 5, 9, 0), (5, .aload_n 0, 1, 3, 0, 0, 0, 0, 0, 0), (6, .getfield 52, 3, 14, 88, 0, 0, 5, 6, 0), (9, .aload_n 0, 1, 3, 0, 0, 0, 0, 0, 0), (10, .getfield 44, 3, 14, 84, 0, 0, 5, 0, 0), (13, .if_icmp .ge 78, 3, 12, 0, 0, 0, 0, 0, 0), (16, .aload_n 0, 1, 3, 0, 0, 0, 0, 0, 0), (17, .getfield 52, 3, 14, 88, 0, 0, 5, 6, 0), (20, .sipush 1600, 3, 0, 0, 0, 0, 0, 0, 0), (23, .if_icmp .ge 68, 3, 12, 0, 0, 0, 0, 0, 0)]), (49, [(26, .aload_n 0, 1, 3, 0, 0, 0, 0, 0, 0), (27, .getfield 22, 3, 14, 82, 0, 0, 5, 4, 3), (30, .aload_n 0, 1, 3, 0, 0, 0, 0, 0, 0), (31, .getfield 52, 3, 14, 88, 0, 0, 5, 6, 0), (34, .iaload, 1, 22, 0, 0, 0, 0, 0, 0), (35, .bipush 48, 2, 0, 0, 0, 0, 0, 0, 0), (37, .if_icmp .lt 54, 3, 12, 0, 0, 0, 0, 0, 0), (40, .aload_n 0, 1, 3, 0, 0, 0, 0, 0, 0), (41, .getfield 22, 3, 14, 82, 0, 0, 5, 4, 3), (44, .aload_n 0, 1, 3, 0, 0, 0, 0, 0, 0), (45, .getfield 52, 3, 14, 88, 0, 0, 5, 6, 0), (48, .iaload, 1, 22, 0, 0, 0, 0, 0, 0)]), (71, [(49, .bipush 57, 2, 0, 0, 0, 0, 0, 0, 0), (51, .if_icmp .gt 40, 3, 12, 0, 0, 0, 0, 0, 0), (54, .aload_n 0, 1, 3, 0, 0, 0, 0, 0, 0), (55, .aload_n 0, 1, 3, 0, 0, 0, 0, 0, 0), (56, .getfield 83, 3, 14, 108, 0, 0, 5, 9, 0), (59, .bipush 10, 2, 0, 0, 0, 0, 0, 0, 0), (61, .imul, 1, 7, 0, 0, 0, 0, 0, 0), (62, .aload_n 0, 1, 3, 0, 0, 0, 0, 0, 0), (63, .getfield 22, 3, 14, 82, 0, 0, 5, 4, 3), (66, .aload_n 0, 1, 3, 0, 0, 0, 0, 0, 0), (67, .getfield 52, 3, 14, 88, 0, 0, 5, 6, 0), (70, .iaload, 1, 22, 0, 0, 0, 0, 0, 0)]), (92, [(71, .bipush 48, 2, 0, 0, 0, 0, 0, 0, 0), (73, .isub, 1, 7, 0, 0, 0, 0, 0, 0), (74, .iadd, 1, 7, 0, 0, 0, 0, 0, 0), (75, .putfield 83, 3, 15, 108, 0, 0, 5, 9, 0), (78, .aload_n 0, 1, 3, 0, 0, 0, 0, 0, 0), (79, .dup, 1, 11, 0, 0, 0, 0, 0, 0), (80, .getfield 52, 3, 14, 88, 0, 0, 5, 6, 0), (83, .iconst 1, 1, 0, 0, 0, 0, 0, 0, 0), (84, .iadd, 1, 7, 0, 0, 0, 0, 0, 0), (85, .putfield 52, 3, 15, 88, 0, 0, 5, 6, 0), (88, .goto (-83), 3, 0, 0, 0, 0, 0, 0, 0), (91, .aload_n 0, 1, 3, 0, 0, 0, 0, 0, 0)]), (120, [(92, .getfield 52, 3, 14, 88, 0, 0, 5, 6, 0), (95, .aload_n 0, 1, 3, 0, 0, 0, 0, 0, 0), (96, .getfield 44, 3, 14, 84, 0, 0, 5, 0, 0), (99, .if_icmp .ge 45, 3, 12, 0, 0, 0, 0, 0, 0), (102, .aload_n 0, 1, 3, 0, 0, 0, 0, 0, 0), (103, .getfield 52, 3, 14, 88, 0, 0, 5, 6, 0), (106, .sipush 1600, 3, 0, 0, 0, 0, 0, 0, 0), (109, .if_icmp .ge 35, 3, 12, 0, 0, 0, 0, 0, 0), (112, .aload_n 0, 1, 3, 0, 0, 0, 0, 0, 0), (113, .getfield 22, 3, 14, 82, 0, 0, 5, 4, 3), (116, .aload_n 0, 1, 3, 0, 0, 0, 0, 0, 0), (117, .getfield 52, 3, 14, 88, 0, 0, 5, 6, 0)]), (144, [(120, .iaload, 1, 22, 0, 0, 0, 0, 0, 0), (121, .bipush 97, 2, 0, 0, 0, 0, 0, 0, 0), (123, .if_icmp .lt 21, 3, 12, 0, 0, 0, 0, 0, 0), (126, .aload_n 0, 1, 3, 0, 0, 0, 0, 0, 0), (127, .getfield 22, 3, 14, 82, 0, 0, 5, 4, 3), (130, .aload_n 0, 1, 3, 0, 0, 0, 0, 0, 0), (131, .getfield 52, 3, 14, 88, 0, 0, 5, 6, 0), (134, .iaload, 1, 22, 0, 0, 0, 0, 0, 0), (135, .bipush 122, 2, 0, 0, 0, 0, 0, 0, 0), (137, .if_icmp .gt 7, 3, 12, 0, 0, 0, 0, 0, 0), (140, .iconst 1, 1, 0, 0, 0, 0, 0, 0, 0), (141, .goto 4, 3, 0, 0, 0, 0, 0, 0, 0)]), (164, [(144, .iconst 0, 1, 0, 0, 0, 0, 0, 0, 0), (145, .istore_n 1, 1, 4, 0, 0, 0, 0, 0, 0), (146, .aload_n 0, 1, 3, 0, 0, 0, 0, 0, 0), (147, .iload_n 1, 1, 2, 0, 0, 0, 0, 0, 0), (148, .ifCond .ne 16, 3, 12, 0, 0, 0, 0, 0, 0), (151, .aload_n 0, 1, 3, 0, 0, 0, 0, 0, 0), (152, .getfield 52, 3, 14, 88, 0, 0, 5, 6, 0), (155, .aload_n 0, 1, 3, 0, 0, 0, 0, 0, 0), (156, .getfield 64, 3, 14, 86, 0, 0, 5, 8, 0), (159, .isub, 1, 7, 0, 0, 0, 0, 0, 0), (160, .iconst 4, 1, 0, 0, 0, 0, 0, 0, 0), (161, .if_icmp .le 7, 3, 12, 0, 0, 0, 0, 0, 0)]), (173, [(164, .iconst 1, 1, 0, 0, 0, 0, 0, 0, 0), (165, .goto 4, 3, 0, 0, 0, 0, 0, 0, 0), (168, .iconst 2, 1, 0, 0, 0, 0, 0, 0, 0), (169, .putfield 58, 3, 15, 89, 0, 0, 5, 7, 0), (172, .return_, 1, 21, 0, 0, 0, 0, 0, 0)])]
def ee_me130 : ee_me := (5, ⟨"PepperTables$Reader", "stepNumber", "()V"⟩, prog_7_method_6_code, 2, none, ee_B130, 0, 0)
set_option maxRecDepth 100000 in
theorem ee_me130ok : ee_Mb ee_me130 = true := by decide +kernel
/- 131: PepperTables$Reader.stepWord()V -/
def ee_B131 : List (Nat × List ee_en) := [(26, [(0, .aload_n 0, 1, 3, 0, 0, 0, 0, 0, 0), (1, .lconst 0, 1, 0, 0, 0, 0, 0, 0, 0), (2, .putfield 79, 3, 15, 87, 0, 0, 5, 10, 2), (5, .aload_n 0, 1, 3, 0, 0, 0, 0, 0, 0), (6, .getfield 52, 3, 14, 88, 0, 0, 5, 6, 0), (9, .aload_n 0, 1, 3, 0, 0, 0, 0, 0, 0), (10, .getfield 44, 3, 14, 84, 0, 0, 5, 0, 0), (13, .if_icmp .ge 77, 3, 12, 0, 0, 0, 0, 0, 0), (16, .aload_n 0, 1, 3, 0, 0, 0, 0, 0, 0), (17, .getfield 52, 3, 14, 88, 0, 0, 5, 6, 0), (20, .sipush 1600, 3, 0, 0, 0, 0, 0, 0, 0), (23, .if_icmp .ge 67, 3, 12, 0, 0, 0, 0, 0, 0)]), (49, [(26, .aload_n 0, 1, 3, 0, 0, 0, 0, 0, 0), (27, .getfield 22, 3, 14, 82, 0, 0, 5, 4, 3), (30, .aload_n 0, 1, 3, 0, 0, 0, 0, 0, 0), (31, .getfield 52, 3, 14, 88, 0, 0, 5, 6, 0), (34, .iaload, 1, 22, 0, 0, 0, 0, 0, 0), (35, .bipush 97, 2, 0, 0, 0, 0, 0, 0, 0), (37, .if_icmp .lt 53, 3, 12, 0, 0, 0, 0, 0, 0), (40, .aload_n 0, 1, 3, 0, 0, 0, 0, 0, 0), (41, .getfield 22, 3, 14, 82, 0, 0, 5, 4, 3), (44, .aload_n 0, 1, 3, 0, 0, 0, 0, 0, 0), (45, .getfield 52, 3, 14, 88, 0, 0, 5, 6, 0), (48, .iaload, 1, 22, 0, 0, 0, 0, 0, 0)]), (72, [(49, .bipush 122, 2, 0, 0, 0, 0, 0, 0, 0), (51, .if_icmp .gt 39, 3, 12, 0, 0, 0, 0, 0, 0), (54, .aload_n 0, 1, 3, 0, 0, 0, 0, 0, 0), (55, .aload_n 0, 1, 3, 0, 0, 0, 0, 0, 0), (56, .getfield 79, 3, 14, 87, 0, 0, 5, 10, 2), (59, .ldc2_w 42, 3, 1, 0, 0, 256, 0, 0, 0), (62, .lmul, 1, 9, 0, 0, 0, 0, 0, 0), (63, .aload_n 0, 1, 3, 0, 0, 0, 0, 0, 0), (64, .getfield 22, 3, 14, 82, 0, 0, 5, 4, 3), (67, .aload_n 0, 1, 3, 0, 0, 0, 0, 0, 0), (68, .getfield 52, 3, 14, 88, 0, 0, 5, 6, 0), (71, .iaload, 1, 22, 0, 0, 0, 0, 0, 0)]), (92, [(72, .i2l, 1, 9, 0, 0, 0, 0, 0, 0), (73, .ladd, 1, 9, 0, 0, 0, 0, 0, 0), (74, .putfield 79, 3, 15, 87, 0, 0, 5, 10, 2), (77, .aload_n 0, 1, 3, 0, 0, 0, 0, 0, 0), (78, .dup, 1, 11, 0, 0, 0, 0, 0, 0), (79, .getfield 52, 3, 14, 88, 0, 0, 5, 6, 0), (82, .iconst 1, 1, 0, 0, 0, 0, 0, 0, 0), (83, .iadd, 1, 7, 0, 0, 0, 0, 0, 0), (84, .putfield 52, 3, 15, 88, 0, 0, 5, 6, 0), (87, .goto (-82), 3, 0, 0, 0, 0, 0, 0, 0), (90, .aload_n 0, 1, 3, 0, 0, 0, 0, 0, 0), (91, .aload_n 0, 1, 3, 0, 0, 0, 0, 0, 0)]), (115, [(92, .getfield 52, 3, 14, 88, 0, 0, 5, 6, 0), (95, .aload_n 0, 1, 3, 0, 0, 0, 0, 0, 0), (96, .getfield 64, 3, 14, 86, 0, 0, 5, 8, 0), (99, .isub, 1, 7, 0, 0, 0, 0, 0, 0), (100, .bipush 8, 2, 0, 0, 0, 0, 0, 0, 0), (102, .if_icmp .le 7, 3, 12, 0, 0, 0, 0, 0, 0), (105, .iconst 1, 1, 0, 0, 0, 0, 0, 0, 0), (106, .goto 4, 3, 0, 0, 0, 0, 0, 0, 0), (109, .iconst 3, 1, 0, 0, 0, 0, 0, 0, 0), (110, .putfield 58, 3, 15, 89, 0, 0, 5, 7, 0), (113, .iconst 0, 1, 0, 0, 0, 0, 0, 0, 0), (114, .istore_n 1, 1, 4, 0, 0, 0, 0, 0, 0)]), (136, [(115, .iload_n 1, 1, 2, 0, 0, 0, 0, 0, 0), (116, .bipush 18, 2, 0, 0, 0, 0, 0, 0, 0), (118, .if_icmp .ge 38, 3, 12, 0, 0, 0, 0, 0, 0), (121, .aload_n 0, 1, 3, 0, 0, 0, 0, 0, 0), (122, .getfield 58, 3, 14, 89, 0, 0, 5, 7, 0), (125, .iconst 3, 1, 0, 0, 0, 0, 0, 0, 0), (126, .if_icmp .ne 30, 3, 12, 0, 0, 0, 0, 0, 0), (129, .aload_n 0, 1, 3, 0, 0, 0, 0, 0, 0), (130, .getfield 26, 3, 14, 83, 0, 0, 5, 5, 3), (133, .iload_n 1, 1, 2, 0, 0, 0, 0, 0, 0), (134, .laload, 1, 22, 0, 0, 0, 0, 0, 0), (135, .aload_n 0, 1, 3, 0, 0, 0, 0, 0, 0)]), (157, [(136, .getfield 79, 3, 14, 87, 0, 0, 5, 10, 2), (139, .lcmp, 1, 9, 0, 0, 0, 0, 0, 0), (140, .ifCond .ne 10, 3, 12, 0, 0, 0, 0, 0, 0), (143, .aload_n 0, 1, 3, 0, 0, 0, 0, 0, 0), (144, .iconst 4, 1, 0, 0, 0, 0, 0, 0, 0), (145, .iload_n 1, 1, 2, 0, 0, 0, 0, 0, 0), (146, .iadd, 1, 7, 0, 0, 0, 0, 0, 0), (147, .putfield 58, 3, 15, 89, 0, 0, 5, 7, 0), (150, .iinc 1 1, 3, 6, 0, 0, 0, 0, 0, 0), (153, .goto (-38), 3, 0, 0, 0, 0, 0, 0, 0), (156, .return_, 1, 21, 0, 0, 0, 0, 0, 0)])]
def ee_me131 : ee_me := (5, ⟨"PepperTables$Reader", "stepWord", "()V"⟩, prog_7_method_5_code, 2, none, ee_B131, 0, 0)
set_option maxRecDepth 100000 in
theorem ee_me131ok : ee_Mb ee_me131 = true := by decide +kernel
end
section
/- 132: PepperTables$Reader.take(I)V -/
def ee_B132 : List (Nat × List ee_en) := [(24, [(0, .aload_n 0, 1, 3, 0, 0, 0, 0, 0, 0), (1, .getfield 49, 3, 14, 85, 0, 0, 5, 1, 0), (4, .ifCond .eq 4, 3, 12, 0, 0, 0, 0, 0, 0), (7, .return_, 1, 21, 0, 0, 0, 0, 0, 0), (8, .aload_n 0, 1, 3, 0, 0, 0, 0, 0, 0), (9, .getfield 58, 3, 14, 89, 0, 0, 5, 7, 0), (12, .iload_n 1, 1, 2, 0, 0, 0, 0, 0, 0), (13, .if_icmp .ne 10, 3, 12, 0, 0, 0, 0, 0, 0), (16, .aload_n 0, 1, 3, 0, 0, 0, 0, 0, 0), (17, .invokevirtual 55, 3, 23, 94, 0, 0, 129, 0, 0), (20, .goto 7, 3, 0, 0, 0, 0, 0, 0, 0), (23, .aload_n 0, 1, 3, 0, 0, 0, 0, 0, 0)]), (28, [(24, .invokevirtual 108, 3, 23, 98, 0, 0, 128, 0, 0), (27, .return_, 1, 21, 0, 0, 0, 0, 0, 0)])]
def ee_me132 : ee_me := (5, ⟨"PepperTables$Reader", "take", "(I)V"⟩, prog_7_method_16_code, 2, none, ee_B132, 0, 0)
set_option maxRecDepth 100000 in
theorem ee_me132ok : ee_Mb ee_me132 = true := by decide +kernel
/- 133: PepperTables$Reader.takeKnownName([JII)I -/
def ee_B133 : List (Nat × List ee_en) := [(22, [(0, .aload_n 0, 1, 3, 0, 0, 0, 0, 0, 0), (1, .getfield 49, 3, 14, 85, 0, 0, 5, 1, 0), (4, .ifCond .eq 5, 3, 12, 0, 0, 0, 0, 0, 0), (7, .iconst 0, 1, 0, 0, 0, 0, 0, 0, 0), (8, .ireturn, 1, 21, 0, 0, 0, 0, 0, 0), (9, .aload_n 0, 1, 3, 0, 0, 0, 0, 0, 0), (10, .getfield 58, 3, 14, 89, 0, 0, 5, 7, 0), (13, .iconst 3, 1, 0, 0, 0, 0, 0, 0, 0), (14, .if_icmp .eq 9, 3, 12, 0, 0, 0, 0, 0, 0), (17, .aload_n 0, 1, 3, 0, 0, 0, 0, 0, 0), (18, .invokevirtual 108, 3, 23, 98, 0, 0, 128, 0, 0), (21, .iconst 0, 1, 0, 0, 0, 0, 0, 0, 0)]), (42, [(22, .ireturn, 1, 21, 0, 0, 0, 0, 0, 0), (23, .aload_n 0, 1, 3, 0, 0, 0, 0, 0, 0), (24, .aload_n 1, 1, 3, 0, 0, 0, 0, 0, 0), (25, .iload_n 2, 1, 2, 0, 0, 0, 0, 0, 0), (26, .invokevirtual 181, 3, 23, 118, 0, 0, 113, 0, 2), (29, .istore 4, 2, 4, 0, 0, 0, 0, 0, 0), (31, .iload 4, 2, 2, 0, 0, 0, 0, 0, 0), (33, .iconst (-1), 1, 0, 0, 0, 0, 0, 0, 0), (34, .if_icmp .ne 10, 3, 12, 0, 0, 0, 0, 0, 0), (37, .aload_n 0, 1, 3, 0, 0, 0, 0, 0, 0), (38, .iconst 5, 1, 0, 0, 0, 0, 0, 0, 0), (39, .invokevirtual 86, 3, 23, 114, 0, 0, 112, 0, 1)]), (61, [(42, .iconst 0, 1, 0, 0, 0, 0, 0, 0, 0), (43, .ireturn, 1, 21, 0, 0, 0, 0, 0, 0), (44, .iload 4, 2, 2, 0, 0, 0, 0, 0, 0), (46, .iload_n 3, 1, 2, 0, 0, 0, 0, 0, 0), (47, .if_icmp .ne 10, 3, 12, 0, 0, 0, 0, 0, 0), (50, .aload_n 0, 1, 3, 0, 0, 0, 0, 0, 0), (51, .iconst 3, 1, 0, 0, 0, 0, 0, 0, 0), (52, .invokevirtual 86, 3, 23, 114, 0, 0, 112, 0, 1), (55, .iconst 0, 1, 0, 0, 0, 0, 0, 0, 0), (56, .ireturn, 1, 21, 0, 0, 0, 0, 0, 0), (57, .aload_n 0, 1, 3, 0, 0, 0, 0, 0, 0), (58, .invokevirtual 55, 3, 23, 94, 0, 0, 129, 0, 0)]), (64, [(61, .iload 4, 2, 2, 0, 0, 0, 0, 0, 0), (63, .ireturn, 1, 21, 0, 0, 0, 0, 0, 0)])]
def ee_me133 : ee_me := (5, ⟨"PepperTables$Reader", "takeKnownName", "([JII)I"⟩, prog_7_method_19_code, 5, (some .int), ee_B133, 0, 0)
set_option maxRecDepth 100000 in
theorem ee_me133ok : ee_Mb ee_me133 = true := by decide +kernel
/- 134: PepperTables$Reader.takeNewName([JI)V -/
def ee_B134 : List (Nat × List ee_en) := [(22, [(0, .aload_n 0, 1, 3, 0, 0, 0, 0, 0, 0), (1, .getfield 49, 3, 14, 85, 0, 0, 5, 1, 0), (4, .ifCond .eq 4, 3, 12, 0, 0, 0, 0, 0, 0), (7, .return_, 1, 21, 0, 0, 0, 0, 0, 0), (8, .aload_n 0, 1, 3, 0, 0, 0, 0, 0, 0), (9, .getfield 58, 3, 14, 89, 0, 0, 5, 7, 0), (12, .iconst 3, 1, 0, 0, 0, 0, 0, 0, 0), (13, .if_icmp .ne 9, 3, 12, 0, 0, 0, 0, 0, 0), (16, .iload_n 2, 1, 2, 0, 0, 0, 0, 0, 0), (17, .aload_n 1, 1, 3, 0, 0, 0, 0, 0, 0), (18, .arraylength, 1, 16, 0, 0, 0, 0, 0, 0), (19, .if_icmp .lt 10, 3, 12, 0, 0, 0, 0, 0, 0)]), (44, [(22, .aload_n 0, 1, 3, 0, 0, 0, 0, 0, 0), (23, .invokevirtual 108, 3, 23, 98, 0, 0, 128, 0, 0), (26, .goto 32, 3, 0, 0, 0, 0, 0, 0, 0), (29, .aload_n 0, 1, 3, 0, 0, 0, 0, 0, 0), (30, .aload_n 1, 1, 3, 0, 0, 0, 0, 0, 0), (31, .iload_n 2, 1, 2, 0, 0, 0, 0, 0, 0), (32, .invokevirtual 181, 3, 23, 118, 0, 0, 113, 0, 2), (35, .iconst (-1), 1, 0, 0, 0, 0, 0, 0, 0), (36, .if_icmp .eq 11, 3, 12, 0, 0, 0, 0, 0, 0), (39, .aload_n 0, 1, 3, 0, 0, 0, 0, 0, 0), (40, .iconst 3, 1, 0, 0, 0, 0, 0, 0, 0), (41, .invokevirtual 86, 3, 23, 114, 0, 0, 112, 0, 1)]), (59, [(44, .goto 14, 3, 0, 0, 0, 0, 0, 0, 0), (47, .aload_n 1, 1, 3, 0, 0, 0, 0, 0, 0), (48, .iload_n 2, 1, 2, 0, 0, 0, 0, 0, 0), (49, .aload_n 0, 1, 3, 0, 0, 0, 0, 0, 0), (50, .getfield 79, 3, 14, 87, 0, 0, 5, 10, 2), (53, .lastore, 1, 17, 0, 0, 0, 0, 0, 0), (54, .aload_n 0, 1, 3, 0, 0, 0, 0, 0, 0), (55, .invokevirtual 55, 3, 23, 94, 0, 0, 129, 0, 0), (58, .return_, 1, 21, 0, 0, 0, 0, 0, 0)])]
def ee_me134 : ee_me := (5, ⟨"PepperTables$Reader", "takeNewName", "([JI)V"⟩, prog_7_method_18_code, 3, none, ee_B134, 0, 0)
set_option maxRecDepth 100000 in
theorem ee_me134ok : ee_Mb ee_me134 = true := by decide +kernel
/- 135: PepperTables$Reader.takeNumber(II)I -/
def ee_B135 : List (Nat × List ee_en) := [(22, [(0, .aload_n 0, 1, 3, 0, 0, 0, 0, 0, 0), (1, .getfield 49, 3, 14, 85, 0, 0, 5, 1, 0), (4, .ifCond .eq 5, 3, 12, 0, 0, 0, 0, 0, 0), (7, .iload_n 1, 1, 2, 0, 0, 0, 0, 0, 0), (8, .ireturn, 1, 21, 0, 0, 0, 0, 0, 0), (9, .aload_n 0, 1, 3, 0, 0, 0, 0, 0, 0), (10, .getfield 58, 3, 14, 89, 0, 0, 5, 7, 0), (13, .iconst 2, 1, 0, 0, 0, 0, 0, 0, 0), (14, .if_icmp .eq 9, 3, 12, 0, 0, 0, 0, 0, 0), (17, .aload_n 0, 1, 3, 0, 0, 0, 0, 0, 0), (18, .invokevirtual 108, 3, 23, 98, 0, 0, 128, 0, 0), (21, .iload_n 1, 1, 2, 0, 0, 0, 0, 0, 0)]), (44, [(22, .ireturn, 1, 21, 0, 0, 0, 0, 0, 0), (23, .aload_n 0, 1, 3, 0, 0, 0, 0, 0, 0), (24, .getfield 83, 3, 14, 108, 0, 0, 5, 9, 0), (27, .iload_n 1, 1, 2, 0, 0, 0, 0, 0, 0), (28, .if_icmp .lt 11, 3, 12, 0, 0, 0, 0, 0, 0), (31, .aload_n 0, 1, 3, 0, 0, 0, 0, 0, 0), (32, .getfield 83, 3, 14, 108, 0, 0, 5, 9, 0), (35, .iload_n 2, 1, 2, 0, 0, 0, 0, 0, 0), (36, .if_icmp .le 10, 3, 12, 0, 0, 0, 0, 0, 0), (39, .aload_n 0, 1, 3, 0, 0, 0, 0, 0, 0), (40, .iconst 4, 1, 0, 0, 0, 0, 0, 0, 0), (41, .invokevirtual 86, 3, 23, 114, 0, 0, 112, 0, 1)]), (57, [(44, .iload_n 1, 1, 2, 0, 0, 0, 0, 0, 0), (45, .ireturn, 1, 21, 0, 0, 0, 0, 0, 0), (46, .aload_n 0, 1, 3, 0, 0, 0, 0, 0, 0), (47, .getfield 83, 3, 14, 108, 0, 0, 5, 9, 0), (50, .istore_n 3, 1, 4, 0, 0, 0, 0, 0, 0), (51, .aload_n 0, 1, 3, 0, 0, 0, 0, 0, 0), (52, .invokevirtual 55, 3, 23, 94, 0, 0, 129, 0, 0), (55, .iload_n 3, 1, 2, 0, 0, 0, 0, 0, 0), (56, .ireturn, 1, 21, 0, 0, 0, 0, 0, 0)])]
def ee_me135 : ee_me := (5, ⟨"PepperTables$Reader", "takeNumber", "(II)I"⟩, prog_7_method_17_code, 4, (some .int), ee_B135, 0, 0)
set_option maxRecDepth 100000 in
theorem ee_me135ok : ee_Mb ee_me135 = true := by decide +kernel
/- 136: PepperTables$Reader.write(I)V -/
def ee_B136 : List (Nat × List ee_en) := [(28, [(0, .aload_n 0, 1, 3, 0, 0, 0, 0, 0, 0), (1, .getfield 49, 3, 14, 85, 0, 0, 5, 1, 0), (4, .ifCond .ne 45, 3, 12, 0, 0, 0, 0, 0, 0), (7, .aload_n 0, 1, 3, 0, 0, 0, 0, 0, 0), (8, .getfield 18, 3, 14, 81, 0, 0, 5, 3, 3), (11, .getfield 163, 3, 14, 93, 0, 0, 7, 6, 0), (14, .sipush 320, 3, 0, 0, 0, 0, 0, 0, 0), (17, .if_icmp .ge 32, 3, 12, 0, 0, 0, 0, 0, 0), (20, .aload_n 0, 1, 3, 0, 0, 0, 0, 0, 0), (21, .getfield 18, 3, 14, 81, 0, 0, 5, 3, 3), (24, .getfield 206, 3, 14, 109, 0, 0, 7, 15, 3), (27, .aload_n 0, 1, 3, 0, 0, 0, 0, 0, 0)]), (50, [(28, .getfield 18, 3, 14, 81, 0, 0, 5, 3, 3), (31, .getfield 163, 3, 14, 93, 0, 0, 7, 6, 0), (34, .iload_n 1, 1, 2, 0, 0, 0, 0, 0, 0), (35, .iastore, 1, 17, 0, 0, 0, 0, 0, 0), (36, .aload_n 0, 1, 3, 0, 0, 0, 0, 0, 0), (37, .getfield 18, 3, 14, 81, 0, 0, 5, 3, 3), (40, .dup, 1, 11, 0, 0, 0, 0, 0, 0), (41, .getfield 163, 3, 14, 93, 0, 0, 7, 6, 0), (44, .iconst 1, 1, 0, 0, 0, 0, 0, 0, 0), (45, .iadd, 1, 7, 0, 0, 0, 0, 0, 0), (46, .putfield 163, 3, 15, 93, 0, 0, 7, 6, 0), (49, .return_, 1, 21, 0, 0, 0, 0, 0, 0)])]
def ee_me136 : ee_me := (5, ⟨"PepperTables$Reader", "write", "(I)V"⟩, prog_7_method_27_code, 2, none, ee_B136, 0, 0)
set_option maxRecDepth 100000 in
theorem ee_me136ok : ee_Mb ee_me136 = true := by decide +kernel
/- 137: PepperTables$State.<init>()V -/
def ee_B137 : List (Nat × List ee_en) := [(20, [(0, .aload_n 0, 1, 3, 0, 0, 0, 0, 0, 0), (1, .invokespecial 3, 3, 20, 7, 1, 0, 0, 0, 0), (4, .aload_n 0, 1, 3, 0, 0, 0, 0, 0, 0), (5, .bipush 10, 2, 0, 0, 0, 0, 0, 0, 0), (7, .newarray .int, 2, 18, 0, 0, 0, 0, 0, 0), (9, .putfield 9, 3, 15, 110, 0, 0, 6, 4, 3), (12, .aload_n 0, 1, 3, 0, 0, 0, 0, 0, 0), (13, .iconst 5, 1, 0, 0, 0, 0, 0, 0, 0), (14, .newarray .int, 2, 18, 0, 0, 0, 0, 0, 0), (16, .putfield 15, 3, 15, 111, 0, 0, 6, 5, 3), (19, .return_, 1, 21, 0, 0, 0, 0, 0, 0)])]
def ee_me137 : ee_me := (6, ⟨"PepperTables$State", "<init>", "()V"⟩, prog_8_method_1_code, 1, none, ee_B137, 2, 15)
set_option maxRecDepth 100000 in
theorem ee_me137ok : ee_Mb ee_me137 = true := by decide +kernel
/- 138: PepperTables$State.begin(LPepperTables$Told;)V -/
def ee_B138 : List (Nat × List ee_en) := [(20, [(0, .aload_n 0, 1, 3, 0, 0, 0, 0, 0, 0), (1, .iconst 0, 1, 0, 0, 0, 0, 0, 0, 0), (2, .putfield 18, 3, 15, 112, 0, 0, 6, 0, 0), (5, .aload_n 0, 1, 3, 0, 0, 0, 0, 0, 0), (6, .iconst 0, 1, 0, 0, 0, 0, 0, 0, 0), (7, .putfield 22, 3, 15, 113, 0, 0, 6, 1, 0), (10, .aload_n 0, 1, 3, 0, 0, 0, 0, 0, 0), (11, .iconst 0, 1, 0, 0, 0, 0, 0, 0, 0), (12, .putfield 25, 3, 15, 114, 0, 0, 6, 2, 0), (15, .aload_n 0, 1, 3, 0, 0, 0, 0, 0, 0), (16, .aload_n 1, 1, 3, 0, 0, 0, 0, 0, 0), (17, .getfield 28, 3, 14, 115, 0, 0, 7, 5, 0)]), (41, [(20, .putfield 33, 3, 15, 116, 0, 0, 6, 3, 0), (23, .iconst 0, 1, 0, 0, 0, 0, 0, 0, 0), (24, .istore_n 2, 1, 4, 0, 0, 0, 0, 0, 0), (25, .iload_n 2, 1, 2, 0, 0, 0, 0, 0, 0), (26, .bipush 10, 2, 0, 0, 0, 0, 0, 0, 0), (28, .if_icmp .ge 33, 3, 12, 0, 0, 0, 0, 0, 0), (31, .aload_n 0, 1, 3, 0, 0, 0, 0, 0, 0), (32, .getfield 9, 3, 14, 110, 0, 0, 6, 4, 3), (35, .iload_n 2, 1, 2, 0, 0, 0, 0, 0, 0), (36, .iload_n 2, 1, 2, 0, 0, 0, 0, 0, 0), (37, .aload_n 1, 1, 3, 0, 0, 0, 0, 0, 0), (38, .getfield 36, 3, 14, 117, 0, 0, 7, 2, 0)]), (63, [(41, .if_icmp .ge 12, 3, 12, 0, 0, 0, 0, 0, 0), (44, .aload_n 1, 1, 3, 0, 0, 0, 0, 0, 0), (45, .getfield 39, 3, 14, 118, 0, 0, 7, 14, 3), (48, .iload_n 2, 1, 2, 0, 0, 0, 0, 0, 0), (49, .iaload, 1, 22, 0, 0, 0, 0, 0, 0), (50, .goto 4, 3, 0, 0, 0, 0, 0, 0, 0), (53, .iconst (-1), 1, 0, 0, 0, 0, 0, 0, 0), (54, .iastore, 1, 17, 0, 0, 0, 0, 0, 0), (55, .iinc 2 1, 3, 6, 0, 0, 0, 0, 0, 0), (58, .goto (-33), 3, 0, 0, 0, 0, 0, 0, 0), (61, .iconst 0, 1, 0, 0, 0, 0, 0, 0, 0), (62, .istore_n 2, 1, 4, 0, 0, 0, 0, 0, 0)]), (82, [(63, .iload_n 2, 1, 2, 0, 0, 0, 0, 0, 0), (64, .iconst 5, 1, 0, 0, 0, 0, 0, 0, 0), (65, .if_icmp .ge 16, 3, 12, 0, 0, 0, 0, 0, 0), (68, .aload_n 0, 1, 3, 0, 0, 0, 0, 0, 0), (69, .getfield 15, 3, 14, 111, 0, 0, 6, 5, 3), (72, .iload_n 2, 1, 2, 0, 0, 0, 0, 0, 0), (73, .iconst 0, 1, 0, 0, 0, 0, 0, 0, 0), (74, .iastore, 1, 17, 0, 0, 0, 0, 0, 0), (75, .iinc 2 1, 3, 6, 0, 0, 0, 0, 0, 0), (78, .goto (-15), 3, 0, 0, 0, 0, 0, 0, 0), (81, .return_, 1, 21, 0, 0, 0, 0, 0, 0)])]
def ee_me138 : ee_me := (6, ⟨"PepperTables$State", "begin", "(LPepperTables$Told;)V"⟩, prog_8_method_2_code, 3, none, ee_B138, 0, 0)
set_option maxRecDepth 100000 in
theorem ee_me138ok : ee_Mb ee_me138 = true := by decide +kernel
/- 139: PepperTables$State.copyFrom(LPepperTables$State;)V -/
def ee_B139 : List (Nat × List ee_en) := [(24, [(0, .aload_n 0, 1, 3, 0, 0, 0, 0, 0, 0), (1, .aload_n 1, 1, 3, 0, 0, 0, 0, 0, 0), (2, .getfield 18, 3, 14, 112, 0, 0, 6, 0, 0), (5, .putfield 18, 3, 15, 112, 0, 0, 6, 0, 0), (8, .aload_n 0, 1, 3, 0, 0, 0, 0, 0, 0), (9, .aload_n 1, 1, 3, 0, 0, 0, 0, 0, 0), (10, .getfield 22, 3, 14, 113, 0, 0, 6, 1, 0), (13, .putfield 22, 3, 15, 113, 0, 0, 6, 1, 0), (16, .aload_n 0, 1, 3, 0, 0, 0, 0, 0, 0), (17, .aload_n 1, 1, 3, 0, 0, 0, 0, 0, 0), (18, .getfield 25, 3, 14, 114, 0, 0, 6, 2, 0), (21, .putfield 25, 3, 15, 114, 0, 0, 6, 2, 0)]), (47, [(24, .aload_n 0, 1, 3, 0, 0, 0, 0, 0, 0), (25, .aload_n 1, 1, 3, 0, 0, 0, 0, 0, 0), (26, .getfield 33, 3, 14, 116, 0, 0, 6, 3, 0), (29, .putfield 33, 3, 15, 116, 0, 0, 6, 3, 0), (32, .aload_n 1, 1, 3, 0, 0, 0, 0, 0, 0), (33, .getfield 9, 3, 14, 110, 0, 0, 6, 4, 3), (36, .iconst 0, 1, 0, 0, 0, 0, 0, 0, 0), (37, .aload_n 0, 1, 3, 0, 0, 0, 0, 0, 0), (38, .getfield 9, 3, 14, 110, 0, 0, 6, 4, 3), (41, .iconst 0, 1, 0, 0, 0, 0, 0, 0, 0), (42, .bipush 10, 2, 0, 0, 0, 0, 0, 0, 0), (44, .invokestatic 42, 3, 20, 1, 2, 0, 0, 0, 0)]), (62, [(47, .aload_n 1, 1, 3, 0, 0, 0, 0, 0, 0), (48, .getfield 15, 3, 14, 111, 0, 0, 6, 5, 3), (51, .iconst 0, 1, 0, 0, 0, 0, 0, 0, 0), (52, .aload_n 0, 1, 3, 0, 0, 0, 0, 0, 0), (53, .getfield 15, 3, 14, 111, 0, 0, 6, 5, 3), (56, .iconst 0, 1, 0, 0, 0, 0, 0, 0, 0), (57, .iconst 5, 1, 0, 0, 0, 0, 0, 0, 0), (58, .invokestatic 42, 3, 20, 1, 2, 0, 0, 0, 0), (61, .return_, 1, 21, 0, 0, 0, 0, 0, 0)])]
def ee_me139 : ee_me := (6, ⟨"PepperTables$State", "copyFrom", "(LPepperTables$State;)V"⟩, prog_8_method_3_code, 2, none, ee_B139, 0, 0)
set_option maxRecDepth 100000 in
theorem ee_me139ok : ee_Mb ee_me139 = true := by decide +kernel
/- 140: PepperTables$State.kept(LPepperTables$Told;)I -/
def ee_B140 : List (Nat × List ee_en) := [(12, [(0, .aload_n 1, 1, 3, 0, 0, 0, 0, 0, 0), (1, .invokevirtual 48, 3, 23, 119, 0, 0, 146, 0, 0), (4, .aload_n 0, 1, 3, 0, 0, 0, 0, 0, 0), (5, .getfield 22, 3, 14, 113, 0, 0, 6, 1, 0), (8, .iconst (-1), 1, 0, 0, 0, 0, 0, 0, 0), (9, .ixor, 1, 7, 0, 0, 0, 0, 0, 0), (10, .iand, 1, 7, 0, 0, 0, 0, 0, 0), (11, .ireturn, 1, 21, 0, 0, 0, 0, 0, 0)])]
def ee_me140 : ee_me := (6, ⟨"PepperTables$State", "kept", "(LPepperTables$Told;)I"⟩, prog_8_method_6_code, 2, (some .int), ee_B140, 0, 0)
set_option maxRecDepth 100000 in
theorem ee_me140ok : ee_Mb ee_me140 = true := by decide +kernel
/- 141: PepperTables$State.keptIn(LPepperTables$Told;I)I -/
def ee_B141 : List (Nat × List ee_en) := [(21, [(0, .iconst 0, 1, 0, 0, 0, 0, 0, 0, 0), (1, .istore_n 3, 1, 4, 0, 0, 0, 0, 0, 0), (2, .iconst 0, 1, 0, 0, 0, 0, 0, 0, 0), (3, .istore 4, 2, 4, 0, 0, 0, 0, 0, 0), (5, .iload 4, 2, 2, 0, 0, 0, 0, 0, 0), (7, .aload_n 1, 1, 3, 0, 0, 0, 0, 0, 0), (8, .getfield 36, 3, 14, 117, 0, 0, 7, 2, 0), (11, .if_icmp .ge 27, 3, 12, 0, 0, 0, 0, 0, 0), (14, .aload_n 0, 1, 3, 0, 0, 0, 0, 0, 0), (15, .getfield 9, 3, 14, 110, 0, 0, 6, 4, 3), (18, .iload 4, 2, 2, 0, 0, 0, 0, 0, 0), (20, .iaload, 1, 22, 0, 0, 0, 0, 0, 0)]), (40, [(21, .iload_n 2, 1, 2, 0, 0, 0, 0, 0, 0), (22, .if_icmp .ne 10, 3, 12, 0, 0, 0, 0, 0, 0), (25, .iload_n 3, 1, 2, 0, 0, 0, 0, 0, 0), (26, .iconst 1, 1, 0, 0, 0, 0, 0, 0, 0), (27, .iload 4, 2, 2, 0, 0, 0, 0, 0, 0), (29, .ishl, 1, 7, 0, 0, 0, 0, 0, 0), (30, .ior, 1, 7, 0, 0, 0, 0, 0, 0), (31, .istore_n 3, 1, 4, 0, 0, 0, 0, 0, 0), (32, .iinc 4 1, 3, 6, 0, 0, 0, 0, 0, 0), (35, .goto (-30), 3, 0, 0, 0, 0, 0, 0, 0), (38, .iload_n 3, 1, 2, 0, 0, 0, 0, 0, 0), (39, .aload_n 0, 1, 3, 0, 0, 0, 0, 0, 0)]), (47, [(40, .getfield 22, 3, 14, 113, 0, 0, 6, 1, 0), (43, .iconst (-1), 1, 0, 0, 0, 0, 0, 0, 0), (44, .ixor, 1, 7, 0, 0, 0, 0, 0, 0), (45, .iand, 1, 7, 0, 0, 0, 0, 0, 0), (46, .ireturn, 1, 21, 0, 0, 0, 0, 0, 0)])]
def ee_me141 : ee_me := (6, ⟨"PepperTables$State", "keptIn", "(LPepperTables$Told;I)I"⟩, prog_8_method_7_code, 5, (some .int), ee_B141, 0, 0)
set_option maxRecDepth 100000 in
theorem ee_me141ok : ee_Mb ee_me141 = true := by decide +kernel
/- 142: PepperTables$State.loadFrom([II)V -/
def ee_B142 : List (Nat × List ee_en) := [(18, [(0, .iload_n 2, 1, 2, 0, 0, 0, 0, 0, 0), (1, .bipush 19, 2, 0, 0, 0, 0, 0, 0, 0), (3, .imul, 1, 7, 0, 0, 0, 0, 0, 0), (4, .istore_n 3, 1, 4, 0, 0, 0, 0, 0, 0), (5, .iload_n 3, 1, 2, 0, 0, 0, 0, 0, 0), (6, .ifCond .lt 12, 3, 12, 0, 0, 0, 0, 0, 0), (9, .iload_n 3, 1, 2, 0, 0, 0, 0, 0, 0), (10, .bipush 19, 2, 0, 0, 0, 0, 0, 0, 0), (12, .iadd, 1, 7, 0, 0, 0, 0, 0, 0), (13, .aload_n 1, 1, 3, 0, 0, 0, 0, 0, 0), (14, .arraylength, 1, 16, 0, 0, 0, 0, 0, 0), (15, .if_icmp .le 4, 3, 12, 0, 0, 0, 0, 0, 0)]), (32, [(18, .return_, 1, 21, 0, 0, 0, 0, 0, 0), (19, .aload_n 0, 1, 3, 0, 0, 0, 0, 0, 0), (20, .aload_n 1, 1, 3, 0, 0, 0, 0, 0, 0), (21, .iload_n 3, 1, 2, 0, 0, 0, 0, 0, 0), (22, .iaload, 1, 22, 0, 0, 0, 0, 0, 0), (23, .putfield 18, 3, 15, 112, 0, 0, 6, 0, 0), (26, .aload_n 0, 1, 3, 0, 0, 0, 0, 0, 0), (27, .aload_n 1, 1, 3, 0, 0, 0, 0, 0, 0), (28, .iload_n 3, 1, 2, 0, 0, 0, 0, 0, 0), (29, .iconst 1, 1, 0, 0, 0, 0, 0, 0, 0), (30, .iadd, 1, 7, 0, 0, 0, 0, 0, 0), (31, .iaload, 1, 22, 0, 0, 0, 0, 0, 0)]), (48, [(32, .putfield 22, 3, 15, 113, 0, 0, 6, 1, 0), (35, .aload_n 0, 1, 3, 0, 0, 0, 0, 0, 0), (36, .aload_n 1, 1, 3, 0, 0, 0, 0, 0, 0), (37, .iload_n 3, 1, 2, 0, 0, 0, 0, 0, 0), (38, .iconst 2, 1, 0, 0, 0, 0, 0, 0, 0), (39, .iadd, 1, 7, 0, 0, 0, 0, 0, 0), (40, .iaload, 1, 22, 0, 0, 0, 0, 0, 0), (41, .putfield 25, 3, 15, 114, 0, 0, 6, 2, 0), (44, .aload_n 0, 1, 3, 0, 0, 0, 0, 0, 0), (45, .aload_n 1, 1, 3, 0, 0, 0, 0, 0, 0), (46, .iload_n 3, 1, 2, 0, 0, 0, 0, 0, 0), (47, .iconst 3, 1, 0, 0, 0, 0, 0, 0, 0)]), (67, [(48, .iadd, 1, 7, 0, 0, 0, 0, 0, 0), (49, .iaload, 1, 22, 0, 0, 0, 0, 0, 0), (50, .putfield 33, 3, 15, 116, 0, 0, 6, 3, 0), (53, .aload_n 1, 1, 3, 0, 0, 0, 0, 0, 0), (54, .iload_n 3, 1, 2, 0, 0, 0, 0, 0, 0), (55, .iconst 4, 1, 0, 0, 0, 0, 0, 0, 0), (56, .iadd, 1, 7, 0, 0, 0, 0, 0, 0), (57, .aload_n 0, 1, 3, 0, 0, 0, 0, 0, 0), (58, .getfield 9, 3, 14, 110, 0, 0, 6, 4, 3), (61, .iconst 0, 1, 0, 0, 0, 0, 0, 0, 0), (62, .bipush 10, 2, 0, 0, 0, 0, 0, 0, 0), (64, .invokestatic 42, 3, 20, 1, 2, 0, 0, 0, 0)]), (84, [(67, .aload_n 1, 1, 3, 0, 0, 0, 0, 0, 0), (68, .iload_n 3, 1, 2, 0, 0, 0, 0, 0, 0), (69, .iconst 4, 1, 0, 0, 0, 0, 0, 0, 0), (70, .iadd, 1, 7, 0, 0, 0, 0, 0, 0), (71, .bipush 10, 2, 0, 0, 0, 0, 0, 0, 0), (73, .iadd, 1, 7, 0, 0, 0, 0, 0, 0), (74, .aload_n 0, 1, 3, 0, 0, 0, 0, 0, 0), (75, .getfield 15, 3, 14, 111, 0, 0, 6, 5, 3), (78, .iconst 0, 1, 0, 0, 0, 0, 0, 0, 0), (79, .iconst 5, 1, 0, 0, 0, 0, 0, 0, 0), (80, .invokestatic 42, 3, 20, 1, 2, 0, 0, 0, 0), (83, .return_, 1, 21, 0, 0, 0, 0, 0, 0)])]
def ee_me142 : ee_me := (6, ⟨"PepperTables$State", "loadFrom", "([II)V"⟩, prog_8_method_5_code, 4, none, ee_B142, 0, 0)
set_option maxRecDepth 100000 in
theorem ee_me142ok : ee_Mb ee_me142 = true := by decide +kernel
/- 143: PepperTables$State.saveTo([II)V -/
def ee_B143 : List (Nat × List ee_en) := [(18, [(0, .iload_n 2, 1, 2, 0, 0, 0, 0, 0, 0), (1, .bipush 19, 2, 0, 0, 0, 0, 0, 0, 0), (3, .imul, 1, 7, 0, 0, 0, 0, 0, 0), (4, .istore_n 3, 1, 4, 0, 0, 0, 0, 0, 0), (5, .iload_n 3, 1, 2, 0, 0, 0, 0, 0, 0), (6, .ifCond .lt 12, 3, 12, 0, 0, 0, 0, 0, 0), (9, .iload_n 3, 1, 2, 0, 0, 0, 0, 0, 0), (10, .bipush 19, 2, 0, 0, 0, 0, 0, 0, 0), (12, .iadd, 1, 7, 0, 0, 0, 0, 0, 0), (13, .aload_n 1, 1, 3, 0, 0, 0, 0, 0, 0), (14, .arraylength, 1, 16, 0, 0, 0, 0, 0, 0), (15, .if_icmp .le 4, 3, 12, 0, 0, 0, 0, 0, 0)]), (34, [(18, .return_, 1, 21, 0, 0, 0, 0, 0, 0), (19, .aload_n 1, 1, 3, 0, 0, 0, 0, 0, 0), (20, .iload_n 3, 1, 2, 0, 0, 0, 0, 0, 0), (21, .aload_n 0, 1, 3, 0, 0, 0, 0, 0, 0), (22, .getfield 18, 3, 14, 112, 0, 0, 6, 0, 0), (25, .iastore, 1, 17, 0, 0, 0, 0, 0, 0), (26, .aload_n 1, 1, 3, 0, 0, 0, 0, 0, 0), (27, .iload_n 3, 1, 2, 0, 0, 0, 0, 0, 0), (28, .iconst 1, 1, 0, 0, 0, 0, 0, 0, 0), (29, .iadd, 1, 7, 0, 0, 0, 0, 0, 0), (30, .aload_n 0, 1, 3, 0, 0, 0, 0, 0, 0), (31, .getfield 22, 3, 14, 113, 0, 0, 6, 1, 0)]), (48, [(34, .iastore, 1, 17, 0, 0, 0, 0, 0, 0), (35, .aload_n 1, 1, 3, 0, 0, 0, 0, 0, 0), (36, .iload_n 3, 1, 2, 0, 0, 0, 0, 0, 0), (37, .iconst 2, 1, 0, 0, 0, 0, 0, 0, 0), (38, .iadd, 1, 7, 0, 0, 0, 0, 0, 0), (39, .aload_n 0, 1, 3, 0, 0, 0, 0, 0, 0), (40, .getfield 25, 3, 14, 114, 0, 0, 6, 2, 0), (43, .iastore, 1, 17, 0, 0, 0, 0, 0, 0), (44, .aload_n 1, 1, 3, 0, 0, 0, 0, 0, 0), (45, .iload_n 3, 1, 2, 0, 0, 0, 0, 0, 0), (46, .iconst 3, 1, 0, 0, 0, 0, 0, 0, 0), (47, .iadd, 1, 7, 0, 0, 0, 0, 0, 0)]), (67, [(48, .aload_n 0, 1, 3, 0, 0, 0, 0, 0, 0), (49, .getfield 33, 3, 14, 116, 0, 0, 6, 3, 0), (52, .iastore, 1, 17, 0, 0, 0, 0, 0, 0), (53, .aload_n 0, 1, 3, 0, 0, 0, 0, 0, 0), (54, .getfield 9, 3, 14, 110, 0, 0, 6, 4, 3), (57, .iconst 0, 1, 0, 0, 0, 0, 0, 0, 0), (58, .aload_n 1, 1, 3, 0, 0, 0, 0, 0, 0), (59, .iload_n 3, 1, 2, 0, 0, 0, 0, 0, 0), (60, .iconst 4, 1, 0, 0, 0, 0, 0, 0, 0), (61, .iadd, 1, 7, 0, 0, 0, 0, 0, 0), (62, .bipush 10, 2, 0, 0, 0, 0, 0, 0, 0), (64, .invokestatic 42, 3, 20, 1, 2, 0, 0, 0, 0)]), (84, [(67, .aload_n 0, 1, 3, 0, 0, 0, 0, 0, 0), (68, .getfield 15, 3, 14, 111, 0, 0, 6, 5, 3), (71, .iconst 0, 1, 0, 0, 0, 0, 0, 0, 0), (72, .aload_n 1, 1, 3, 0, 0, 0, 0, 0, 0), (73, .iload_n 3, 1, 2, 0, 0, 0, 0, 0, 0), (74, .iconst 4, 1, 0, 0, 0, 0, 0, 0, 0), (75, .iadd, 1, 7, 0, 0, 0, 0, 0, 0), (76, .bipush 10, 2, 0, 0, 0, 0, 0, 0, 0), (78, .iadd, 1, 7, 0, 0, 0, 0, 0, 0), (79, .iconst 5, 1, 0, 0, 0, 0, 0, 0, 0), (80, .invokestatic 42, 3, 20, 1, 2, 0, 0, 0, 0), (83, .return_, 1, 21, 0, 0, 0, 0, 0, 0)])]
def ee_me143 : ee_me := (6, ⟨"PepperTables$State", "saveTo", "([II)V"⟩, prog_8_method_4_code, 4, none, ee_B143, 0, 0)
set_option maxRecDepth 100000 in
theorem ee_me143ok : ee_Mb ee_me143 = true := by decide +kernel
/- 144: PepperTables$Told.<init>()V -/
def ee_B144 : List (Nat × List ee_en) := [(23, [(0, .aload_n 0, 1, 3, 0, 0, 0, 0, 0, 0), (1, .invokespecial 3, 3, 20, 8, 1, 0, 0, 0, 0), (4, .aload_n 0, 1, 3, 0, 0, 0, 0, 0, 0), (5, .bipush 6, 2, 0, 0, 0, 0, 0, 0, 0), (7, .newarray .int, 2, 18, 0, 0, 0, 0, 0, 0), (9, .putfield 9, 3, 15, 119, 0, 0, 7, 10, 3), (12, .aload_n 0, 1, 3, 0, 0, 0, 0, 0, 0), (13, .bipush 10, 2, 0, 0, 0, 0, 0, 0, 0), (15, .newarray .int, 2, 18, 0, 0, 0, 0, 0, 0), (17, .putfield 15, 3, 15, 120, 0, 0, 7, 11, 3), (20, .aload_n 0, 1, 3, 0, 0, 0, 0, 0, 0), (21, .bipush 10, 2, 0, 0, 0, 0, 0, 0, 0)]), (48, [(23, .newarray .int, 2, 18, 0, 0, 0, 0, 0, 0), (25, .putfield 18, 3, 15, 121, 0, 0, 7, 12, 3), (28, .aload_n 0, 1, 3, 0, 0, 0, 0, 0, 0), (29, .bipush 10, 2, 0, 0, 0, 0, 0, 0, 0), (31, .newarray .int, 2, 18, 0, 0, 0, 0, 0, 0), (33, .putfield 21, 3, 15, 122, 0, 0, 7, 13, 3), (36, .aload_n 0, 1, 3, 0, 0, 0, 0, 0, 0), (37, .bipush 10, 2, 0, 0, 0, 0, 0, 0, 0), (39, .newarray .int, 2, 18, 0, 0, 0, 0, 0, 0), (41, .putfield 24, 3, 15, 123, 0, 0, 7, 14, 3), (44, .aload_n 0, 1, 3, 0, 0, 0, 0, 0, 0), (45, .sipush 320, 3, 0, 0, 0, 0, 0, 0, 0)]), (71, [(48, .newarray .int, 2, 18, 0, 0, 0, 0, 0, 0), (50, .putfield 27, 3, 15, 124, 0, 0, 7, 15, 3), (53, .aload_n 0, 1, 3, 0, 0, 0, 0, 0, 0), (54, .bipush 6, 2, 0, 0, 0, 0, 0, 0, 0), (56, .newarray .long, 2, 18, 0, 0, 0, 0, 0, 0), (58, .putfield 30, 3, 15, 125, 0, 0, 7, 16, 3), (61, .aload_n 0, 1, 3, 0, 0, 0, 0, 0, 0), (62, .iconst 5, 1, 0, 0, 0, 0, 0, 0, 0), (63, .newarray .long, 2, 18, 0, 0, 0, 0, 0, 0), (65, .putfield 34, 3, 15, 126, 0, 0, 7, 17, 3), (68, .aload_n 0, 1, 3, 0, 0, 0, 0, 0, 0), (69, .bipush 10, 2, 0, 0, 0, 0, 0, 0, 0)]), (81, [(71, .newarray .long, 2, 18, 0, 0, 0, 0, 0, 0), (73, .putfield 37, 3, 15, 127, 0, 0, 7, 18, 3), (76, .aload_n 0, 1, 3, 0, 0, 0, 0, 0, 0), (77, .invokevirtual 40, 3, 23, 120, 0, 0, 147, 0, 0), (80, .return_, 1, 21, 0, 0, 0, 0, 0, 0)])]
def ee_me144 : ee_me := (7, ⟨"PepperTables$Told", "<init>", "()V"⟩, prog_9_method_1_code, 1, none, ee_B144, 9, 387)
set_option maxRecDepth 100000 in
theorem ee_me144ok : ee_Mb ee_me144 = true := by decide +kernel
/- 145: PepperTables$Told.allPeople()I -/
def ee_B145 : List (Nat × List ee_en) := [(9, [(0, .iconst 1, 1, 0, 0, 0, 0, 0, 0, 0), (1, .aload_n 0, 1, 3, 0, 0, 0, 0, 0, 0), (2, .getfield 43, 3, 14, 128, 0, 0, 7, 0, 0), (5, .ishl, 1, 7, 0, 0, 0, 0, 0, 0), (6, .iconst 1, 1, 0, 0, 0, 0, 0, 0, 0), (7, .isub, 1, 7, 0, 0, 0, 0, 0, 0), (8, .ireturn, 1, 21, 0, 0, 0, 0, 0, 0)])]
def ee_me145 : ee_me := (7, ⟨"PepperTables$Told", "allPeople", "()I"⟩, prog_9_method_4_code, 1, (some .int), ee_B145, 0, 0)
set_option maxRecDepth 100000 in
theorem ee_me145ok : ee_Mb ee_me145 = true := by decide +kernel
/- 146: PepperTables$Told.allThings()I -/
def ee_B146 : List (Nat × List ee_en) := [(9, [(0, .iconst 1, 1, 0, 0, 0, 0, 0, 0, 0), (1, .aload_n 0, 1, 3, 0, 0, 0, 0, 0, 0), (2, .getfield 50, 3, 14, 129, 0, 0, 7, 2, 0), (5, .ishl, 1, 7, 0, 0, 0, 0, 0, 0), (6, .iconst 1, 1, 0, 0, 0, 0, 0, 0, 0), (7, .isub, 1, 7, 0, 0, 0, 0, 0, 0), (8, .ireturn, 1, 21, 0, 0, 0, 0, 0, 0)])]
def ee_me146 : ee_me := (7, ⟨"PepperTables$Told", "allThings", "()I"⟩, prog_9_method_5_code, 1, (some .int), ee_B146, 0, 0)
set_option maxRecDepth 100000 in
theorem ee_me146ok : ee_Mb ee_me146 = true := by decide +kernel
/- 147: PepperTables$Told.beginFormula()V -/
def ee_B147 : List (Nat × List ee_en) := [(20, [(0, .aload_n 0, 1, 3, 0, 0, 0, 0, 0, 0), (1, .iconst 3, 1, 0, 0, 0, 0, 0, 0, 0), (2, .putfield 72, 3, 15, 130, 0, 0, 7, 6, 0), (5, .aload_n 0, 1, 3, 0, 0, 0, 0, 0, 0), (6, .getfield 27, 3, 14, 124, 0, 0, 7, 15, 3), (9, .iconst 0, 1, 0, 0, 0, 0, 0, 0, 0), (10, .bipush 16, 2, 0, 0, 0, 0, 0, 0, 0), (12, .iastore, 1, 17, 0, 0, 0, 0, 0, 0), (13, .aload_n 0, 1, 3, 0, 0, 0, 0, 0, 0), (14, .getfield 27, 3, 14, 124, 0, 0, 7, 15, 3), (17, .iconst 1, 1, 0, 0, 0, 0, 0, 0, 0), (18, .bipush 17, 2, 0, 0, 0, 0, 0, 0, 0)]), (30, [(20, .iastore, 1, 17, 0, 0, 0, 0, 0, 0), (21, .aload_n 0, 1, 3, 0, 0, 0, 0, 0, 0), (22, .getfield 27, 3, 14, 124, 0, 0, 7, 15, 3), (25, .iconst 2, 1, 0, 0, 0, 0, 0, 0, 0), (26, .bipush 62, 2, 0, 0, 0, 0, 0, 0, 0), (28, .iastore, 1, 17, 0, 0, 0, 0, 0, 0), (29, .return_, 1, 21, 0, 0, 0, 0, 0, 0)])]
def ee_me147 : ee_me := (7, ⟨"PepperTables$Told", "beginFormula", "()V"⟩, prog_9_method_3_code, 1, none, ee_B147, 0, 0)
set_option maxRecDepth 100000 in
theorem ee_me147ok : ee_Mb ee_me147 = true := by decide +kernel
end
section
/- 148: PepperTables$Told.clear()V -/
def ee_B148 : List (Nat × List ee_en) := [(20, [(0, .aload_n 0, 1, 3, 0, 0, 0, 0, 0, 0), (1, .iconst 0, 1, 0, 0, 0, 0, 0, 0, 0), (2, .putfield 43, 3, 15, 128, 0, 0, 7, 0, 0), (5, .aload_n 0, 1, 3, 0, 0, 0, 0, 0, 0), (6, .iconst 0, 1, 0, 0, 0, 0, 0, 0, 0), (7, .putfield 47, 3, 15, 131, 0, 0, 7, 1, 0), (10, .aload_n 0, 1, 3, 0, 0, 0, 0, 0, 0), (11, .iconst 0, 1, 0, 0, 0, 0, 0, 0, 0), (12, .putfield 50, 3, 15, 129, 0, 0, 7, 2, 0), (15, .aload_n 0, 1, 3, 0, 0, 0, 0, 0, 0), (16, .iconst 0, 1, 0, 0, 0, 0, 0, 0, 0), (17, .putfield 53, 3, 15, 132, 0, 0, 7, 3, 0)]), (40, [(20, .aload_n 0, 1, 3, 0, 0, 0, 0, 0, 0), (21, .iconst 0, 1, 0, 0, 0, 0, 0, 0, 0), (22, .putfield 56, 3, 15, 133, 0, 0, 7, 4, 0), (25, .aload_n 0, 1, 3, 0, 0, 0, 0, 0, 0), (26, .iconst 0, 1, 0, 0, 0, 0, 0, 0, 0), (27, .putfield 59, 3, 15, 134, 0, 0, 7, 5, 0), (30, .aload_n 0, 1, 3, 0, 0, 0, 0, 0, 0), (31, .iconst 0, 1, 0, 0, 0, 0, 0, 0, 0), (32, .putfield 62, 3, 15, 135, 0, 0, 7, 7, 1), (35, .aload_n 0, 1, 3, 0, 0, 0, 0, 0, 0), (36, .iconst 0, 1, 0, 0, 0, 0, 0, 0, 0), (37, .putfield 66, 3, 15, 136, 0, 0, 7, 8, 1)]), (50, [(40, .aload_n 0, 1, 3, 0, 0, 0, 0, 0, 0), (41, .iconst 0, 1, 0, 0, 0, 0, 0, 0, 0), (42, .putfield 69, 3, 15, 137, 0, 0, 7, 9, 1), (45, .aload_n 0, 1, 3, 0, 0, 0, 0, 0, 0), (46, .invokevirtual 40, 3, 23, 120, 0, 0, 147, 0, 0), (49, .return_, 1, 21, 0, 0, 0, 0, 0, 0)])]
def ee_me148 : ee_me := (7, ⟨"PepperTables$Told", "clear", "()V"⟩, prog_9_method_2_code, 1, none, ee_B148, 0, 0)
set_option maxRecDepth 100000 in
theorem ee_me148ok : ee_Mb ee_me148 = true := by decide +kernel
/- 149: PepperTables$Told.heatOf(I)I -/
def ee_B149 : List (Nat × List ee_en) := [(16, [(0, .iconst 0, 1, 0, 0, 0, 0, 0, 0, 0), (1, .istore_n 2, 1, 4, 0, 0, 0, 0, 0, 0), (2, .iconst 0, 1, 0, 0, 0, 0, 0, 0, 0), (3, .istore_n 3, 1, 4, 0, 0, 0, 0, 0, 0), (4, .iload_n 3, 1, 2, 0, 0, 0, 0, 0, 0), (5, .aload_n 0, 1, 3, 0, 0, 0, 0, 0, 0), (6, .getfield 50, 3, 14, 129, 0, 0, 7, 2, 0), (9, .if_icmp .ge 26, 3, 12, 0, 0, 0, 0, 0, 0), (12, .iload_n 1, 1, 2, 0, 0, 0, 0, 0, 0), (13, .iload_n 3, 1, 2, 0, 0, 0, 0, 0, 0), (14, .ishr, 1, 7, 0, 0, 0, 0, 0, 0), (15, .iconst 1, 1, 0, 0, 0, 0, 0, 0, 0)]), (36, [(16, .iand, 1, 7, 0, 0, 0, 0, 0, 0), (17, .ifCond .eq 12, 3, 12, 0, 0, 0, 0, 0, 0), (20, .iload_n 2, 1, 2, 0, 0, 0, 0, 0, 0), (21, .aload_n 0, 1, 3, 0, 0, 0, 0, 0, 0), (22, .getfield 21, 3, 14, 122, 0, 0, 7, 13, 3), (25, .iload_n 3, 1, 2, 0, 0, 0, 0, 0, 0), (26, .iaload, 1, 22, 0, 0, 0, 0, 0, 0), (27, .iadd, 1, 7, 0, 0, 0, 0, 0, 0), (28, .istore_n 2, 1, 4, 0, 0, 0, 0, 0, 0), (29, .iinc 3 1, 3, 6, 0, 0, 0, 0, 0, 0), (32, .goto (-28), 3, 0, 0, 0, 0, 0, 0, 0), (35, .iload_n 2, 1, 2, 0, 0, 0, 0, 0, 0)]), (37, [(36, .ireturn, 1, 21, 0, 0, 0, 0, 0, 0)])]
def ee_me149 : ee_me := (7, ⟨"PepperTables$Told", "heatOf", "(I)I"⟩, prog_9_method_6_code, 4, (some .int), ee_B149, 0, 0)
set_option maxRecDepth 100000 in
theorem ee_me149ok : ee_Mb ee_me149 = true := by decide +kernel
/- 150: PepperTables$Told.listenersOf(II)I -/
def ee_B150 : List (Nat × List ee_en) := [(19, [(0, .iconst 0, 1, 0, 0, 0, 0, 0, 0, 0), (1, .istore_n 3, 1, 4, 0, 0, 0, 0, 0, 0), (2, .iconst 0, 1, 0, 0, 0, 0, 0, 0, 0), (3, .istore 4, 2, 4, 0, 0, 0, 0, 0, 0), (5, .iload 4, 2, 2, 0, 0, 0, 0, 0, 0), (7, .aload_n 0, 1, 3, 0, 0, 0, 0, 0, 0), (8, .getfield 50, 3, 14, 129, 0, 0, 7, 2, 0), (11, .if_icmp .ge 40, 3, 12, 0, 0, 0, 0, 0, 0), (14, .iload_n 2, 1, 2, 0, 0, 0, 0, 0, 0), (15, .iload 4, 2, 2, 0, 0, 0, 0, 0, 0), (17, .ishr, 1, 7, 0, 0, 0, 0, 0, 0), (18, .iload_n 1, 1, 2, 0, 0, 0, 0, 0, 0)]), (36, [(19, .aload_n 0, 1, 3, 0, 0, 0, 0, 0, 0), (20, .getfield 15, 3, 14, 120, 0, 0, 7, 11, 3), (23, .iload 4, 2, 2, 0, 0, 0, 0, 0, 0), (25, .iaload, 1, 22, 0, 0, 0, 0, 0, 0), (26, .ishr, 1, 7, 0, 0, 0, 0, 0, 0), (27, .iand, 1, 7, 0, 0, 0, 0, 0, 0), (28, .iconst 1, 1, 0, 0, 0, 0, 0, 0, 0), (29, .iand, 1, 7, 0, 0, 0, 0, 0, 0), (30, .ifCond .eq 15, 3, 12, 0, 0, 0, 0, 0, 0), (33, .iload_n 3, 1, 2, 0, 0, 0, 0, 0, 0), (34, .iconst 1, 1, 0, 0, 0, 0, 0, 0, 0), (35, .aload_n 0, 1, 3, 0, 0, 0, 0, 0, 0)]), (53, [(36, .getfield 18, 3, 14, 121, 0, 0, 7, 12, 3), (39, .iload 4, 2, 2, 0, 0, 0, 0, 0, 0), (41, .iaload, 1, 22, 0, 0, 0, 0, 0, 0), (42, .ishl, 1, 7, 0, 0, 0, 0, 0, 0), (43, .ior, 1, 7, 0, 0, 0, 0, 0, 0), (44, .istore_n 3, 1, 4, 0, 0, 0, 0, 0, 0), (45, .iinc 4 1, 3, 6, 0, 0, 0, 0, 0, 0), (48, .goto (-43), 3, 0, 0, 0, 0, 0, 0, 0), (51, .iload_n 3, 1, 2, 0, 0, 0, 0, 0, 0), (52, .ireturn, 1, 21, 0, 0, 0, 0, 0, 0)])]
def ee_me150 : ee_me := (7, ⟨"PepperTables$Told", "listenersOf", "(II)I"⟩, prog_9_method_10_code, 5, (some .int), ee_B150, 0, 0)
set_option maxRecDepth 100000 in
theorem ee_me150ok : ee_Mb ee_me150 = true := by decide +kernel
/- 151: PepperTables$Told.thingsAmong(I)I -/
def ee_B151 : List (Nat × List ee_en) := [(18, [(0, .iconst 0, 1, 0, 0, 0, 0, 0, 0, 0), (1, .istore_n 2, 1, 4, 0, 0, 0, 0, 0, 0), (2, .iconst 0, 1, 0, 0, 0, 0, 0, 0, 0), (3, .istore_n 3, 1, 4, 0, 0, 0, 0, 0, 0), (4, .iload_n 3, 1, 2, 0, 0, 0, 0, 0, 0), (5, .aload_n 0, 1, 3, 0, 0, 0, 0, 0, 0), (6, .getfield 50, 3, 14, 129, 0, 0, 7, 2, 0), (9, .if_icmp .ge 37, 3, 12, 0, 0, 0, 0, 0, 0), (12, .iload_n 1, 1, 2, 0, 0, 0, 0, 0, 0), (13, .aload_n 0, 1, 3, 0, 0, 0, 0, 0, 0), (14, .getfield 15, 3, 14, 120, 0, 0, 7, 11, 3), (17, .iload_n 3, 1, 2, 0, 0, 0, 0, 0, 0)]), (34, [(18, .iaload, 1, 22, 0, 0, 0, 0, 0, 0), (19, .ishr, 1, 7, 0, 0, 0, 0, 0, 0), (20, .iload_n 1, 1, 2, 0, 0, 0, 0, 0, 0), (21, .aload_n 0, 1, 3, 0, 0, 0, 0, 0, 0), (22, .getfield 18, 3, 14, 121, 0, 0, 7, 12, 3), (25, .iload_n 3, 1, 2, 0, 0, 0, 0, 0, 0), (26, .iaload, 1, 22, 0, 0, 0, 0, 0, 0), (27, .ishr, 1, 7, 0, 0, 0, 0, 0, 0), (28, .iand, 1, 7, 0, 0, 0, 0, 0, 0), (29, .iconst 1, 1, 0, 0, 0, 0, 0, 0, 0), (30, .iand, 1, 7, 0, 0, 0, 0, 0, 0), (31, .ifCond .eq 9, 3, 12, 0, 0, 0, 0, 0, 0)]), (48, [(34, .iload_n 2, 1, 2, 0, 0, 0, 0, 0, 0), (35, .iconst 1, 1, 0, 0, 0, 0, 0, 0, 0), (36, .iload_n 3, 1, 2, 0, 0, 0, 0, 0, 0), (37, .ishl, 1, 7, 0, 0, 0, 0, 0, 0), (38, .ior, 1, 7, 0, 0, 0, 0, 0, 0), (39, .istore_n 2, 1, 4, 0, 0, 0, 0, 0, 0), (40, .iinc 3 1, 3, 6, 0, 0, 0, 0, 0, 0), (43, .goto (-39), 3, 0, 0, 0, 0, 0, 0, 0), (46, .iload_n 2, 1, 2, 0, 0, 0, 0, 0, 0), (47, .ireturn, 1, 21, 0, 0, 0, 0, 0, 0)])]
def ee_me151 : ee_me := (7, ⟨"PepperTables$Told", "thingsAmong", "(I)I"⟩, prog_9_method_9_code, 4, (some .int), ee_B151, 0, 0)
set_option maxRecDepth 100000 in
theorem ee_me151ok : ee_Mb ee_me151 = true := by decide +kernel
/- 152: PepperTables$Told.thingsBy(I)I -/
def ee_B152 : List (Nat × List ee_en) := [(18, [(0, .iconst 0, 1, 0, 0, 0, 0, 0, 0, 0), (1, .istore_n 2, 1, 4, 0, 0, 0, 0, 0, 0), (2, .iconst 0, 1, 0, 0, 0, 0, 0, 0, 0), (3, .istore_n 3, 1, 4, 0, 0, 0, 0, 0, 0), (4, .iload_n 3, 1, 2, 0, 0, 0, 0, 0, 0), (5, .aload_n 0, 1, 3, 0, 0, 0, 0, 0, 0), (6, .getfield 50, 3, 14, 129, 0, 0, 7, 2, 0), (9, .if_icmp .ge 25, 3, 12, 0, 0, 0, 0, 0, 0), (12, .aload_n 0, 1, 3, 0, 0, 0, 0, 0, 0), (13, .getfield 15, 3, 14, 120, 0, 0, 7, 11, 3), (16, .iload_n 3, 1, 2, 0, 0, 0, 0, 0, 0), (17, .iaload, 1, 22, 0, 0, 0, 0, 0, 0)]), (36, [(18, .iload_n 1, 1, 2, 0, 0, 0, 0, 0, 0), (19, .if_icmp .ne 9, 3, 12, 0, 0, 0, 0, 0, 0), (22, .iload_n 2, 1, 2, 0, 0, 0, 0, 0, 0), (23, .iconst 1, 1, 0, 0, 0, 0, 0, 0, 0), (24, .iload_n 3, 1, 2, 0, 0, 0, 0, 0, 0), (25, .ishl, 1, 7, 0, 0, 0, 0, 0, 0), (26, .ior, 1, 7, 0, 0, 0, 0, 0, 0), (27, .istore_n 2, 1, 4, 0, 0, 0, 0, 0, 0), (28, .iinc 3 1, 3, 6, 0, 0, 0, 0, 0, 0), (31, .goto (-27), 3, 0, 0, 0, 0, 0, 0, 0), (34, .iload_n 2, 1, 2, 0, 0, 0, 0, 0, 0), (35, .ireturn, 1, 21, 0, 0, 0, 0, 0, 0)])]
def ee_me152 : ee_me := (7, ⟨"PepperTables$Told", "thingsBy", "(I)I"⟩, prog_9_method_7_code, 4, (some .int), ee_B152, 0, 0)
set_option maxRecDepth 100000 in
theorem ee_me152ok : ee_Mb ee_me152 = true := by decide +kernel
/- 153: PepperTables$Told.thingsTo(I)I -/
def ee_B153 : List (Nat × List ee_en) := [(18, [(0, .iconst 0, 1, 0, 0, 0, 0, 0, 0, 0), (1, .istore_n 2, 1, 4, 0, 0, 0, 0, 0, 0), (2, .iconst 0, 1, 0, 0, 0, 0, 0, 0, 0), (3, .istore_n 3, 1, 4, 0, 0, 0, 0, 0, 0), (4, .iload_n 3, 1, 2, 0, 0, 0, 0, 0, 0), (5, .aload_n 0, 1, 3, 0, 0, 0, 0, 0, 0), (6, .getfield 50, 3, 14, 129, 0, 0, 7, 2, 0), (9, .if_icmp .ge 25, 3, 12, 0, 0, 0, 0, 0, 0), (12, .aload_n 0, 1, 3, 0, 0, 0, 0, 0, 0), (13, .getfield 18, 3, 14, 121, 0, 0, 7, 12, 3), (16, .iload_n 3, 1, 2, 0, 0, 0, 0, 0, 0), (17, .iaload, 1, 22, 0, 0, 0, 0, 0, 0)]), (36, [(18, .iload_n 1, 1, 2, 0, 0, 0, 0, 0, 0), (19, .if_icmp .ne 9, 3, 12, 0, 0, 0, 0, 0, 0), (22, .iload_n 2, 1, 2, 0, 0, 0, 0, 0, 0), (23, .iconst 1, 1, 0, 0, 0, 0, 0, 0, 0), (24, .iload_n 3, 1, 2, 0, 0, 0, 0, 0, 0), (25, .ishl, 1, 7, 0, 0, 0, 0, 0, 0), (26, .ior, 1, 7, 0, 0, 0, 0, 0, 0), (27, .istore_n 2, 1, 4, 0, 0, 0, 0, 0, 0), (28, .iinc 3 1, 3, 6, 0, 0, 0, 0, 0, 0), (31, .goto (-27), 3, 0, 0, 0, 0, 0, 0, 0), (34, .iload_n 2, 1, 2, 0, 0, 0, 0, 0, 0), (35, .ireturn, 1, 21, 0, 0, 0, 0, 0, 0)])]
def ee_me153 : ee_me := (7, ⟨"PepperTables$Told", "thingsTo", "(I)I"⟩, prog_9_method_8_code, 4, (some .int), ee_B153, 0, 0)
set_option maxRecDepth 100000 in
theorem ee_me153ok : ee_Mb ee_me153 = true := by decide +kernel
end
section
def ee_B154_0 : List (Nat × List ee_en) := [(20, [(0, .new 7, 3, 18, 10, 0, 0, 8, 12, 0), (3, .dup, 1, 11, 0, 0, 0, 0, 0, 0), (4, .invokespecial 9, 3, 23, 121, 0, 0, 0, 2, 0), (7, .astore_n 1, 1, 5, 0, 0, 0, 0, 0, 0), (8, .new 10, 3, 18, 11, 0, 0, 9, 65, 0), (11, .dup, 1, 11, 0, 0, 0, 0, 0, 0), (12, .invokespecial 12, 3, 23, 122, 0, 0, 155, 2, 0), (15, .astore_n 2, 1, 5, 0, 0, 0, 0, 0, 0), (16, .iconst 0, 1, 0, 0, 0, 0, 0, 0, 0), (17, .istore_n 3, 1, 4, 0, 0, 0, 0, 0, 0), (18, .iload_n 3, 1, 2, 0, 0, 0, 0, 0, 0), (19, .aload_n 0, 1, 3, 0, 0, 0, 0, 0, 0)]), (270, [(20, .arraylength, 1, 16, 0, 0, 0, 0, 0, 0), (21, .bipush 6, 2, 0, 0, 0, 0, 0, 0, 0), (23, .isub, 1, 7, 0, 0, 0, 0, 0, 0), (24, .if_icmp .gt 1601, 3, 12, 0, 0, 0, 0, 0, 0), (27, .aload_n 0, 1, 3, 0, 0, 0, 0, 0, 0), (28, .iload_n 3, 1, 2, 0, 0, 0, 0, 0, 0), (29, .iaload, 1, 22, 0, 0, 0, 0, 0, 0), (30, .bipush 63, 2, 0, 0, 0, 0, 0, 0, 0), (32, .iand, 1, 7, 0, 0, 0, 0, 0, 0), (33, .tableswitch 1586 0 54 #[235, 298, 321, 334, 357, 390, 423, 456, 479, 502, 525, 548, 581, 594, 607, 620, 663, 696, 709, 732, 765, 798, 811, 834, 867, 890, 903, 926, 959, 982, 1005, 1038, 1071, 1084, 1107, 1130, 1143, 1156, 1169, 1182, 1195, 1208, 1221, 1254, 1267, 1300, 1323, 1382, 1405, 1428, 1451, 1484, 1517, 1540, 1563], 235, 13, 0, 0, 0, 0, 0, 0), (268, .aload_n 1, 1, 3, 0, 0, 0, 0, 0, 0), (269, .aload_n 0, 1, 3, 0, 0, 0, 0, 0, 0)]), (282, [(270, .iload_n 3, 1, 2, 0, 0, 0, 0, 0, 0), (271, .iconst 1, 1, 0, 0, 0, 0, 0, 0, 0), (272, .iadd, 1, 7, 0, 0, 0, 0, 0, 0), (273, .iaload, 1, 22, 0, 0, 0, 0, 0, 0), (274, .aload_n 0, 1, 3, 0, 0, 0, 0, 0, 0), (275, .iload_n 3, 1, 2, 0, 0, 0, 0, 0, 0), (276, .iconst 2, 1, 0, 0, 0, 0, 0, 0, 0), (277, .iadd, 1, 7, 0, 0, 0, 0, 0, 0), (278, .iaload, 1, 22, 0, 0, 0, 0, 0, 0), (279, .aload_n 0, 1, 3, 0, 0, 0, 0, 0, 0), (280, .iload_n 3, 1, 2, 0, 0, 0, 0, 0, 0), (281, .iconst 3, 1, 0, 0, 0, 0, 0, 0, 0)])]
set_option maxRecDepth 100000 in
theorem ee_B154_0ok : ee_B154_0.all (ee_Bb 10 code false) = true := by decide +kernel
def ee_B154_1 : List (Nat × List ee_en) := [(294, [(282, .iadd, 1, 7, 0, 0, 0, 0, 0, 0), (283, .iaload, 1, 22, 0, 0, 0, 0, 0, 0), (284, .aload_n 0, 1, 3, 0, 0, 0, 0, 0, 0), (285, .iload_n 3, 1, 2, 0, 0, 0, 0, 0, 0), (286, .iconst 4, 1, 0, 0, 0, 0, 0, 0, 0), (287, .iadd, 1, 7, 0, 0, 0, 0, 0, 0), (288, .iaload, 1, 22, 0, 0, 0, 0, 0, 0), (289, .aload_n 0, 1, 3, 0, 0, 0, 0, 0, 0), (290, .iload_n 3, 1, 2, 0, 0, 0, 0, 0, 0), (291, .iconst 5, 1, 0, 0, 0, 0, 0, 0, 0), (292, .iadd, 1, 7, 0, 0, 0, 0, 0, 0), (293, .iaload, 1, 22, 0, 0, 0, 0, 0, 0)]), (308, [(294, .invokevirtual 13, 3, 23, 123, 0, 0, 15, 0, 5), (297, .pop, 1, 11, 0, 0, 0, 0, 0, 0), (298, .aload_n 2, 1, 3, 0, 0, 0, 0, 0, 0), (299, .aload_n 0, 1, 3, 0, 0, 0, 0, 0, 0), (300, .iload_n 3, 1, 2, 0, 0, 0, 0, 0, 0), (301, .iconst 1, 1, 0, 0, 0, 0, 0, 0, 0), (302, .iadd, 1, 7, 0, 0, 0, 0, 0, 0), (303, .iaload, 1, 22, 0, 0, 0, 0, 0, 0), (304, .aload_n 0, 1, 3, 0, 0, 0, 0, 0, 0), (305, .iload_n 3, 1, 2, 0, 0, 0, 0, 0, 0), (306, .iconst 2, 1, 0, 0, 0, 0, 0, 0, 0), (307, .iadd, 1, 7, 0, 0, 0, 0, 0, 0)]), (320, [(308, .iaload, 1, 22, 0, 0, 0, 0, 0, 0), (309, .aload_n 0, 1, 3, 0, 0, 0, 0, 0, 0), (310, .iload_n 3, 1, 2, 0, 0, 0, 0, 0, 0), (311, .iconst 3, 1, 0, 0, 0, 0, 0, 0, 0), (312, .iadd, 1, 7, 0, 0, 0, 0, 0, 0), (313, .iaload, 1, 22, 0, 0, 0, 0, 0, 0), (314, .aload_n 0, 1, 3, 0, 0, 0, 0, 0, 0), (315, .iload_n 3, 1, 2, 0, 0, 0, 0, 0, 0), (316, .iconst 4, 1, 0, 0, 0, 0, 0, 0, 0), (317, .iadd, 1, 7, 0, 0, 0, 0, 0, 0), (318, .iaload, 1, 22, 0, 0, 0, 0, 0, 0), (319, .aload_n 0, 1, 3, 0, 0, 0, 0, 0, 0)])]
set_option maxRecDepth 100000 in
theorem ee_B154_1ok : ee_B154_1.all (ee_Bb 10 code false) = true := by decide +kernel
def ee_B154_2 : List (Nat × List ee_en) := [(336, [(320, .iload_n 3, 1, 2, 0, 0, 0, 0, 0, 0), (321, .iconst 5, 1, 0, 0, 0, 0, 0, 0, 0), (322, .iadd, 1, 7, 0, 0, 0, 0, 0, 0), (323, .iaload, 1, 22, 0, 0, 0, 0, 0, 0), (324, .invokevirtual 17, 3, 23, 124, 0, 0, 188, 0, 5), (327, .pop, 1, 11, 0, 0, 0, 0, 0, 0), (328, .goto 1291, 3, 0, 0, 0, 0, 0, 0, 0), (331, .aload_n 1, 1, 3, 0, 0, 0, 0, 0, 0), (332, .aload_n 0, 1, 3, 0, 0, 0, 0, 0, 0), (333, .iload_n 3, 1, 2, 0, 0, 0, 0, 0, 0), (334, .iconst 1, 1, 0, 0, 0, 0, 0, 0, 0), (335, .iadd, 1, 7, 0, 0, 0, 0, 0, 0)]), (354, [(336, .iaload, 1, 22, 0, 0, 0, 0, 0, 0), (337, .invokevirtual 18, 3, 23, 125, 0, 0, 11, 0, 1), (340, .pop, 1, 11, 0, 0, 0, 0, 0, 0), (341, .aload_n 2, 1, 3, 0, 0, 0, 0, 0, 0), (342, .aload_n 0, 1, 3, 0, 0, 0, 0, 0, 0), (343, .iload_n 3, 1, 2, 0, 0, 0, 0, 0, 0), (344, .iconst 1, 1, 0, 0, 0, 0, 0, 0, 0), (345, .iadd, 1, 7, 0, 0, 0, 0, 0, 0), (346, .iaload, 1, 22, 0, 0, 0, 0, 0, 0), (347, .invokevirtual 22, 3, 23, 126, 0, 0, 183, 0, 1), (350, .pop, 1, 11, 0, 0, 0, 0, 0, 0), (351, .goto 1268, 3, 0, 0, 0, 0, 0, 0, 0)]), (372, [(354, .aload_n 1, 1, 3, 0, 0, 0, 0, 0, 0), (355, .invokevirtual 23, 3, 23, 127, 0, 0, 65, 0, 0), (358, .pop, 1, 11, 0, 0, 0, 0, 0, 0), (359, .aload_n 2, 1, 3, 0, 0, 0, 0, 0, 0), (360, .invokevirtual 27, 3, 23, 128, 0, 0, 277, 0, 0), (363, .pop, 1, 11, 0, 0, 0, 0, 0, 0), (364, .goto 1255, 3, 0, 0, 0, 0, 0, 0, 0), (367, .aload_n 1, 1, 3, 0, 0, 0, 0, 0, 0), (368, .aload_n 0, 1, 3, 0, 0, 0, 0, 0, 0), (369, .iload_n 3, 1, 2, 0, 0, 0, 0, 0, 0), (370, .iconst 1, 1, 0, 0, 0, 0, 0, 0, 0), (371, .iadd, 1, 7, 0, 0, 0, 0, 0, 0)])]
set_option maxRecDepth 100000 in
theorem ee_B154_2ok : ee_B154_2.all (ee_Bb 10 code false) = true := by decide +kernel
def ee_B154_3 : List (Nat × List ee_en) := [(390, [(372, .iaload, 1, 22, 0, 0, 0, 0, 0, 0), (373, .invokevirtual 28, 3, 23, 129, 0, 0, 13, 0, 1), (376, .pop, 1, 11, 0, 0, 0, 0, 0, 0), (377, .aload_n 2, 1, 3, 0, 0, 0, 0, 0, 0), (378, .aload_n 0, 1, 3, 0, 0, 0, 0, 0, 0), (379, .iload_n 3, 1, 2, 0, 0, 0, 0, 0, 0), (380, .iconst 1, 1, 0, 0, 0, 0, 0, 0, 0), (381, .iadd, 1, 7, 0, 0, 0, 0, 0, 0), (382, .iaload, 1, 22, 0, 0, 0, 0, 0, 0), (383, .invokevirtual 31, 3, 23, 130, 0, 0, 186, 0, 1), (386, .pop, 1, 11, 0, 0, 0, 0, 0, 0), (387, .goto 1232, 3, 0, 0, 0, 0, 0, 0, 0)]), (404, [(390, .aload_n 1, 1, 3, 0, 0, 0, 0, 0, 0), (391, .aload_n 0, 1, 3, 0, 0, 0, 0, 0, 0), (392, .iload_n 3, 1, 2, 0, 0, 0, 0, 0, 0), (393, .iconst 1, 1, 0, 0, 0, 0, 0, 0, 0), (394, .iadd, 1, 7, 0, 0, 0, 0, 0, 0), (395, .iaload, 1, 22, 0, 0, 0, 0, 0, 0), (396, .aload_n 0, 1, 3, 0, 0, 0, 0, 0, 0), (397, .iload_n 3, 1, 2, 0, 0, 0, 0, 0, 0), (398, .iconst 2, 1, 0, 0, 0, 0, 0, 0, 0), (399, .iadd, 1, 7, 0, 0, 0, 0, 0, 0), (400, .iaload, 1, 22, 0, 0, 0, 0, 0, 0), (401, .invokevirtual 32, 3, 23, 131, 0, 0, 45, 0, 2)]), (416, [(404, .pop, 1, 11, 0, 0, 0, 0, 0, 0), (405, .aload_n 2, 1, 3, 0, 0, 0, 0, 0, 0), (406, .aload_n 0, 1, 3, 0, 0, 0, 0, 0, 0), (407, .iload_n 3, 1, 2, 0, 0, 0, 0, 0, 0), (408, .iconst 1, 1, 0, 0, 0, 0, 0, 0, 0), (409, .iadd, 1, 7, 0, 0, 0, 0, 0, 0), (410, .iaload, 1, 22, 0, 0, 0, 0, 0, 0), (411, .aload_n 0, 1, 3, 0, 0, 0, 0, 0, 0), (412, .iload_n 3, 1, 2, 0, 0, 0, 0, 0, 0), (413, .iconst 2, 1, 0, 0, 0, 0, 0, 0, 0), (414, .iadd, 1, 7, 0, 0, 0, 0, 0, 0), (415, .iaload, 1, 22, 0, 0, 0, 0, 0, 0)])]
set_option maxRecDepth 100000 in
theorem ee_B154_3ok : ee_B154_3.all (ee_Bb 10 code false) = true := by decide +kernel
end
section
def ee_B154_4 : List (Nat × List ee_en) := [(432, [(416, .invokevirtual 36, 3, 23, 132, 0, 0, 248, 0, 2), (419, .pop, 1, 11, 0, 0, 0, 0, 0, 0), (420, .goto 1199, 3, 0, 0, 0, 0, 0, 0, 0), (423, .aload_n 1, 1, 3, 0, 0, 0, 0, 0, 0), (424, .aload_n 0, 1, 3, 0, 0, 0, 0, 0, 0), (425, .iload_n 3, 1, 2, 0, 0, 0, 0, 0, 0), (426, .iconst 1, 1, 0, 0, 0, 0, 0, 0, 0), (427, .iadd, 1, 7, 0, 0, 0, 0, 0, 0), (428, .iaload, 1, 22, 0, 0, 0, 0, 0, 0), (429, .aload_n 0, 1, 3, 0, 0, 0, 0, 0, 0), (430, .iload_n 3, 1, 2, 0, 0, 0, 0, 0, 0), (431, .iconst 2, 1, 0, 0, 0, 0, 0, 0, 0)]), (446, [(432, .iadd, 1, 7, 0, 0, 0, 0, 0, 0), (433, .iaload, 1, 22, 0, 0, 0, 0, 0, 0), (434, .invokevirtual 37, 3, 23, 133, 0, 0, 69, 0, 2), (437, .pop, 1, 11, 0, 0, 0, 0, 0, 0), (438, .aload_n 2, 1, 3, 0, 0, 0, 0, 0, 0), (439, .aload_n 0, 1, 3, 0, 0, 0, 0, 0, 0), (440, .iload_n 3, 1, 2, 0, 0, 0, 0, 0, 0), (441, .iconst 1, 1, 0, 0, 0, 0, 0, 0, 0), (442, .iadd, 1, 7, 0, 0, 0, 0, 0, 0), (443, .iaload, 1, 22, 0, 0, 0, 0, 0, 0), (444, .aload_n 0, 1, 3, 0, 0, 0, 0, 0, 0), (445, .iload_n 3, 1, 2, 0, 0, 0, 0, 0, 0)]), (462, [(446, .iconst 2, 1, 0, 0, 0, 0, 0, 0, 0), (447, .iadd, 1, 7, 0, 0, 0, 0, 0, 0), (448, .iaload, 1, 22, 0, 0, 0, 0, 0, 0), (449, .invokevirtual 40, 3, 23, 134, 0, 0, 282, 0, 2), (452, .pop, 1, 11, 0, 0, 0, 0, 0, 0), (453, .goto 1166, 3, 0, 0, 0, 0, 0, 0, 0), (456, .aload_n 1, 1, 3, 0, 0, 0, 0, 0, 0), (457, .aload_n 0, 1, 3, 0, 0, 0, 0, 0, 0), (458, .iload_n 3, 1, 2, 0, 0, 0, 0, 0, 0), (459, .iconst 1, 1, 0, 0, 0, 0, 0, 0, 0), (460, .iadd, 1, 7, 0, 0, 0, 0, 0, 0), (461, .iaload, 1, 22, 0, 0, 0, 0, 0, 0)])]
set_option maxRecDepth 100000 in
theorem ee_B154_4ok : ee_B154_4.all (ee_Bb 10 code false) = true := by decide +kernel
def ee_B154_5 : List (Nat × List ee_en) := [(476, [(462, .aload_n 0, 1, 3, 0, 0, 0, 0, 0, 0), (463, .iload_n 3, 1, 2, 0, 0, 0, 0, 0, 0), (464, .iconst 2, 1, 0, 0, 0, 0, 0, 0, 0), (465, .iadd, 1, 7, 0, 0, 0, 0, 0, 0), (466, .iaload, 1, 22, 0, 0, 0, 0, 0, 0), (467, .invokevirtual 41, 3, 23, 135, 0, 0, 54, 0, 2), (470, .pop, 1, 11, 0, 0, 0, 0, 0, 0), (471, .aload_n 2, 1, 3, 0, 0, 0, 0, 0, 0), (472, .aload_n 0, 1, 3, 0, 0, 0, 0, 0, 0), (473, .iload_n 3, 1, 2, 0, 0, 0, 0, 0, 0), (474, .iconst 1, 1, 0, 0, 0, 0, 0, 0, 0), (475, .iadd, 1, 7, 0, 0, 0, 0, 0, 0)]), (492, [(476, .iaload, 1, 22, 0, 0, 0, 0, 0, 0), (477, .aload_n 0, 1, 3, 0, 0, 0, 0, 0, 0), (478, .iload_n 3, 1, 2, 0, 0, 0, 0, 0, 0), (479, .iconst 2, 1, 0, 0, 0, 0, 0, 0, 0), (480, .iadd, 1, 7, 0, 0, 0, 0, 0, 0), (481, .iaload, 1, 22, 0, 0, 0, 0, 0, 0), (482, .invokevirtual 44, 3, 23, 136, 0, 0, 263, 0, 2), (485, .pop, 1, 11, 0, 0, 0, 0, 0, 0), (486, .goto 1133, 3, 0, 0, 0, 0, 0, 0, 0), (489, .aload_n 1, 1, 3, 0, 0, 0, 0, 0, 0), (490, .aload_n 0, 1, 3, 0, 0, 0, 0, 0, 0), (491, .iload_n 3, 1, 2, 0, 0, 0, 0, 0, 0)]), (508, [(492, .iconst 1, 1, 0, 0, 0, 0, 0, 0, 0), (493, .iadd, 1, 7, 0, 0, 0, 0, 0, 0), (494, .iaload, 1, 22, 0, 0, 0, 0, 0, 0), (495, .invokevirtual 45, 3, 23, 137, 0, 0, 72, 0, 1), (498, .pop, 1, 11, 0, 0, 0, 0, 0, 0), (499, .aload_n 2, 1, 3, 0, 0, 0, 0, 0, 0), (500, .aload_n 0, 1, 3, 0, 0, 0, 0, 0, 0), (501, .iload_n 3, 1, 2, 0, 0, 0, 0, 0, 0), (502, .iconst 1, 1, 0, 0, 0, 0, 0, 0, 0), (503, .iadd, 1, 7, 0, 0, 0, 0, 0, 0), (504, .iaload, 1, 22, 0, 0, 0, 0, 0, 0), (505, .invokevirtual 48, 3, 23, 138, 0, 0, 291, 0, 1)])]
set_option maxRecDepth 100000 in
theorem ee_B154_5ok : ee_B154_5.all (ee_Bb 10 code false) = true := by decide +kernel
def ee_B154_6 : List (Nat × List ee_en) := [(524, [(508, .pop, 1, 11, 0, 0, 0, 0, 0, 0), (509, .goto 1110, 3, 0, 0, 0, 0, 0, 0, 0), (512, .aload_n 1, 1, 3, 0, 0, 0, 0, 0, 0), (513, .aload_n 0, 1, 3, 0, 0, 0, 0, 0, 0), (514, .iload_n 3, 1, 2, 0, 0, 0, 0, 0, 0), (515, .iconst 1, 1, 0, 0, 0, 0, 0, 0, 0), (516, .iadd, 1, 7, 0, 0, 0, 0, 0, 0), (517, .iaload, 1, 22, 0, 0, 0, 0, 0, 0), (518, .invokevirtual 49, 3, 23, 139, 0, 0, 61, 0, 1), (521, .pop, 1, 11, 0, 0, 0, 0, 0, 0), (522, .aload_n 2, 1, 3, 0, 0, 0, 0, 0, 0), (523, .aload_n 0, 1, 3, 0, 0, 0, 0, 0, 0)]), (540, [(524, .iload_n 3, 1, 2, 0, 0, 0, 0, 0, 0), (525, .iconst 1, 1, 0, 0, 0, 0, 0, 0, 0), (526, .iadd, 1, 7, 0, 0, 0, 0, 0, 0), (527, .iaload, 1, 22, 0, 0, 0, 0, 0, 0), (528, .invokevirtual 52, 3, 23, 140, 0, 0, 272, 0, 1), (531, .pop, 1, 11, 0, 0, 0, 0, 0, 0), (532, .goto 1087, 3, 0, 0, 0, 0, 0, 0, 0), (535, .aload_n 1, 1, 3, 0, 0, 0, 0, 0, 0), (536, .aload_n 0, 1, 3, 0, 0, 0, 0, 0, 0), (537, .iload_n 3, 1, 2, 0, 0, 0, 0, 0, 0), (538, .iconst 1, 1, 0, 0, 0, 0, 0, 0, 0), (539, .iadd, 1, 7, 0, 0, 0, 0, 0, 0)]), (558, [(540, .iaload, 1, 22, 0, 0, 0, 0, 0, 0), (541, .invokevirtual 53, 3, 23, 141, 0, 0, 50, 0, 1), (544, .pop, 1, 11, 0, 0, 0, 0, 0, 0), (545, .aload_n 2, 1, 3, 0, 0, 0, 0, 0, 0), (546, .aload_n 0, 1, 3, 0, 0, 0, 0, 0, 0), (547, .iload_n 3, 1, 2, 0, 0, 0, 0, 0, 0), (548, .iconst 1, 1, 0, 0, 0, 0, 0, 0, 0), (549, .iadd, 1, 7, 0, 0, 0, 0, 0, 0), (550, .iaload, 1, 22, 0, 0, 0, 0, 0, 0), (551, .invokevirtual 56, 3, 23, 142, 0, 0, 259, 0, 1), (554, .pop, 1, 11, 0, 0, 0, 0, 0, 0), (555, .goto 1064, 3, 0, 0, 0, 0, 0, 0, 0)])]
set_option maxRecDepth 100000 in
theorem ee_B154_6ok : ee_B154_6.all (ee_Bb 10 code false) = true := by decide +kernel
def ee_B154_7 : List (Nat × List ee_en) := [(572, [(558, .aload_n 1, 1, 3, 0, 0, 0, 0, 0, 0), (559, .aload_n 0, 1, 3, 0, 0, 0, 0, 0, 0), (560, .iload_n 3, 1, 2, 0, 0, 0, 0, 0, 0), (561, .iconst 1, 1, 0, 0, 0, 0, 0, 0, 0), (562, .iadd, 1, 7, 0, 0, 0, 0, 0, 0), (563, .iaload, 1, 22, 0, 0, 0, 0, 0, 0), (564, .invokevirtual 57, 3, 23, 143, 0, 0, 19, 0, 1), (567, .pop, 1, 11, 0, 0, 0, 0, 0, 0), (568, .aload_n 2, 1, 3, 0, 0, 0, 0, 0, 0), (569, .aload_n 0, 1, 3, 0, 0, 0, 0, 0, 0), (570, .iload_n 3, 1, 2, 0, 0, 0, 0, 0, 0), (571, .iconst 1, 1, 0, 0, 0, 0, 0, 0, 0)]), (588, [(572, .iadd, 1, 7, 0, 0, 0, 0, 0, 0), (573, .iaload, 1, 22, 0, 0, 0, 0, 0, 0), (574, .invokevirtual 60, 3, 23, 144, 0, 0, 196, 0, 1), (577, .pop, 1, 11, 0, 0, 0, 0, 0, 0), (578, .goto 1041, 3, 0, 0, 0, 0, 0, 0, 0), (581, .aload_n 1, 1, 3, 0, 0, 0, 0, 0, 0), (582, .aload_n 0, 1, 3, 0, 0, 0, 0, 0, 0), (583, .iload_n 3, 1, 2, 0, 0, 0, 0, 0, 0), (584, .iconst 1, 1, 0, 0, 0, 0, 0, 0, 0), (585, .iadd, 1, 7, 0, 0, 0, 0, 0, 0), (586, .iaload, 1, 22, 0, 0, 0, 0, 0, 0), (587, .aload_n 0, 1, 3, 0, 0, 0, 0, 0, 0)]), (602, [(588, .iload_n 3, 1, 2, 0, 0, 0, 0, 0, 0), (589, .iconst 2, 1, 0, 0, 0, 0, 0, 0, 0), (590, .iadd, 1, 7, 0, 0, 0, 0, 0, 0), (591, .iaload, 1, 22, 0, 0, 0, 0, 0, 0), (592, .invokevirtual 61, 3, 23, 145, 0, 0, 46, 0, 2), (595, .pop, 1, 11, 0, 0, 0, 0, 0, 0), (596, .aload_n 2, 1, 3, 0, 0, 0, 0, 0, 0), (597, .aload_n 0, 1, 3, 0, 0, 0, 0, 0, 0), (598, .iload_n 3, 1, 2, 0, 0, 0, 0, 0, 0), (599, .iconst 1, 1, 0, 0, 0, 0, 0, 0, 0), (600, .iadd, 1, 7, 0, 0, 0, 0, 0, 0), (601, .iaload, 1, 22, 0, 0, 0, 0, 0, 0)])]
set_option maxRecDepth 100000 in
theorem ee_B154_7ok : ee_B154_7.all (ee_Bb 10 code false) = true := by decide +kernel
end
section
def ee_B154_8 : List (Nat × List ee_en) := [(620, [(602, .aload_n 0, 1, 3, 0, 0, 0, 0, 0, 0), (603, .iload_n 3, 1, 2, 0, 0, 0, 0, 0, 0), (604, .iconst 2, 1, 0, 0, 0, 0, 0, 0, 0), (605, .iadd, 1, 7, 0, 0, 0, 0, 0, 0), (606, .iaload, 1, 22, 0, 0, 0, 0, 0, 0), (607, .invokevirtual 64, 3, 23, 146, 0, 0, 250, 0, 2), (610, .pop, 1, 11, 0, 0, 0, 0, 0, 0), (611, .goto 1008, 3, 0, 0, 0, 0, 0, 0, 0), (614, .aload_n 1, 1, 3, 0, 0, 0, 0, 0, 0), (615, .invokevirtual 65, 3, 23, 147, 0, 0, 9, 0, 0), (618, .pop, 1, 11, 0, 0, 0, 0, 0, 0), (619, .aload_n 2, 1, 3, 0, 0, 0, 0, 0, 0)]), (644, [(620, .invokevirtual 68, 3, 23, 148, 0, 0, 175, 0, 0), (623, .pop, 1, 11, 0, 0, 0, 0, 0, 0), (624, .goto 995, 3, 0, 0, 0, 0, 0, 0, 0), (627, .aload_n 1, 1, 3, 0, 0, 0, 0, 0, 0), (628, .invokevirtual 69, 3, 23, 149, 0, 0, 70, 0, 0), (631, .pop, 1, 11, 0, 0, 0, 0, 0, 0), (632, .aload_n 2, 1, 3, 0, 0, 0, 0, 0, 0), (633, .invokevirtual 73, 3, 23, 150, 0, 0, 285, 0, 0), (636, .pop, 1, 11, 0, 0, 0, 0, 0, 0), (637, .goto 982, 3, 0, 0, 0, 0, 0, 0, 0), (640, .aload_n 1, 1, 3, 0, 0, 0, 0, 0, 0), (641, .invokevirtual 74, 3, 23, 151, 0, 0, 49, 0, 0)]), (660, [(644, .pop, 1, 11, 0, 0, 0, 0, 0, 0), (645, .aload_n 2, 1, 3, 0, 0, 0, 0, 0, 0), (646, .invokevirtual 77, 3, 23, 152, 0, 0, 258, 0, 0), (649, .pop, 1, 11, 0, 0, 0, 0, 0, 0), (650, .goto 969, 3, 0, 0, 0, 0, 0, 0, 0), (653, .aload_n 1, 1, 3, 0, 0, 0, 0, 0, 0), (654, .aload_n 0, 1, 3, 0, 0, 0, 0, 0, 0), (655, .iload_n 3, 1, 2, 0, 0, 0, 0, 0, 0), (656, .iconst 1, 1, 0, 0, 0, 0, 0, 0, 0), (657, .iadd, 1, 7, 0, 0, 0, 0, 0, 0), (658, .iaload, 1, 22, 0, 0, 0, 0, 0, 0), (659, .aload_n 0, 1, 3, 0, 0, 0, 0, 0, 0)])]
set_option maxRecDepth 100000 in
theorem ee_B154_8ok : ee_B154_8.all (ee_Bb 10 code false) = true := by decide +kernel
def ee_B154_9 : List (Nat × List ee_en) := [(674, [(660, .iload_n 3, 1, 2, 0, 0, 0, 0, 0, 0), (661, .iconst 2, 1, 0, 0, 0, 0, 0, 0, 0), (662, .iadd, 1, 7, 0, 0, 0, 0, 0, 0), (663, .iaload, 1, 22, 0, 0, 0, 0, 0, 0), (664, .aload_n 0, 1, 3, 0, 0, 0, 0, 0, 0), (665, .iload_n 3, 1, 2, 0, 0, 0, 0, 0, 0), (666, .iconst 3, 1, 0, 0, 0, 0, 0, 0, 0), (667, .iadd, 1, 7, 0, 0, 0, 0, 0, 0), (668, .iaload, 1, 22, 0, 0, 0, 0, 0, 0), (669, .invokevirtual 78, 3, 23, 153, 0, 0, 68, 0, 3), (672, .pop, 1, 11, 0, 0, 0, 0, 0, 0), (673, .aload_n 2, 1, 3, 0, 0, 0, 0, 0, 0)]), (686, [(674, .aload_n 0, 1, 3, 0, 0, 0, 0, 0, 0), (675, .iload_n 3, 1, 2, 0, 0, 0, 0, 0, 0), (676, .iconst 1, 1, 0, 0, 0, 0, 0, 0, 0), (677, .iadd, 1, 7, 0, 0, 0, 0, 0, 0), (678, .iaload, 1, 22, 0, 0, 0, 0, 0, 0), (679, .aload_n 0, 1, 3, 0, 0, 0, 0, 0, 0), (680, .iload_n 3, 1, 2, 0, 0, 0, 0, 0, 0), (681, .iconst 2, 1, 0, 0, 0, 0, 0, 0, 0), (682, .iadd, 1, 7, 0, 0, 0, 0, 0, 0), (683, .iaload, 1, 22, 0, 0, 0, 0, 0, 0), (684, .aload_n 0, 1, 3, 0, 0, 0, 0, 0, 0), (685, .iload_n 3, 1, 2, 0, 0, 0, 0, 0, 0)]), (702, [(686, .iconst 3, 1, 0, 0, 0, 0, 0, 0, 0), (687, .iadd, 1, 7, 0, 0, 0, 0, 0, 0), (688, .iaload, 1, 22, 0, 0, 0, 0, 0, 0), (689, .invokevirtual 82, 3, 23, 154, 0, 0, 281, 0, 3), (692, .pop, 1, 11, 0, 0, 0, 0, 0, 0), (693, .goto 926, 3, 0, 0, 0, 0, 0, 0, 0), (696, .aload_n 1, 1, 3, 0, 0, 0, 0, 0, 0), (697, .aload_n 0, 1, 3, 0, 0, 0, 0, 0, 0), (698, .iload_n 3, 1, 2, 0, 0, 0, 0, 0, 0), (699, .iconst 1, 1, 0, 0, 0, 0, 0, 0, 0), (700, .iadd, 1, 7, 0, 0, 0, 0, 0, 0), (701, .iaload, 1, 22, 0, 0, 0, 0, 0, 0)])]
set_option maxRecDepth 100000 in
theorem ee_B154_9ok : ee_B154_9.all (ee_Bb 10 code false) = true := by decide +kernel
def ee_B154_10 : List (Nat × List ee_en) := [(716, [(702, .aload_n 0, 1, 3, 0, 0, 0, 0, 0, 0), (703, .iload_n 3, 1, 2, 0, 0, 0, 0, 0, 0), (704, .iconst 2, 1, 0, 0, 0, 0, 0, 0, 0), (705, .iadd, 1, 7, 0, 0, 0, 0, 0, 0), (706, .iaload, 1, 22, 0, 0, 0, 0, 0, 0), (707, .invokevirtual 83, 3, 23, 155, 0, 0, 51, 0, 2), (710, .pop, 1, 11, 0, 0, 0, 0, 0, 0), (711, .aload_n 2, 1, 3, 0, 0, 0, 0, 0, 0), (712, .aload_n 0, 1, 3, 0, 0, 0, 0, 0, 0), (713, .iload_n 3, 1, 2, 0, 0, 0, 0, 0, 0), (714, .iconst 1, 1, 0, 0, 0, 0, 0, 0, 0), (715, .iadd, 1, 7, 0, 0, 0, 0, 0, 0)]), (734, [(716, .iaload, 1, 22, 0, 0, 0, 0, 0, 0), (717, .aload_n 0, 1, 3, 0, 0, 0, 0, 0, 0), (718, .iload_n 3, 1, 2, 0, 0, 0, 0, 0, 0), (719, .iconst 2, 1, 0, 0, 0, 0, 0, 0, 0), (720, .iadd, 1, 7, 0, 0, 0, 0, 0, 0), (721, .iaload, 1, 22, 0, 0, 0, 0, 0, 0), (722, .invokevirtual 86, 3, 23, 156, 0, 0, 260, 0, 2), (725, .pop, 1, 11, 0, 0, 0, 0, 0, 0), (726, .goto 893, 3, 0, 0, 0, 0, 0, 0, 0), (729, .aload_n 1, 1, 3, 0, 0, 0, 0, 0, 0), (730, .invokevirtual 87, 3, 23, 157, 0, 0, 40, 0, 0), (733, .pop, 1, 11, 0, 0, 0, 0, 0, 0)]), (752, [(734, .aload_n 2, 1, 3, 0, 0, 0, 0, 0, 0), (735, .invokevirtual 90, 3, 23, 158, 0, 0, 242, 0, 0), (738, .pop, 1, 11, 0, 0, 0, 0, 0, 0), (739, .goto 880, 3, 0, 0, 0, 0, 0, 0, 0), (742, .aload_n 1, 1, 3, 0, 0, 0, 0, 0, 0), (743, .aload_n 0, 1, 3, 0, 0, 0, 0, 0, 0), (744, .iload_n 3, 1, 2, 0, 0, 0, 0, 0, 0), (745, .iconst 1, 1, 0, 0, 0, 0, 0, 0, 0), (746, .iadd, 1, 7, 0, 0, 0, 0, 0, 0), (747, .iaload, 1, 22, 0, 0, 0, 0, 0, 0), (748, .invokevirtual 91, 3, 23, 159, 0, 0, 16, 0, 1), (751, .pop, 1, 11, 0, 0, 0, 0, 0, 0)])]
set_option maxRecDepth 100000 in
theorem ee_B154_10ok : ee_B154_10.all (ee_Bb 10 code false) = true := by decide +kernel
def ee_B154_11 : List (Nat × List ee_en) := [(768, [(752, .aload_n 2, 1, 3, 0, 0, 0, 0, 0, 0), (753, .aload_n 0, 1, 3, 0, 0, 0, 0, 0, 0), (754, .iload_n 3, 1, 2, 0, 0, 0, 0, 0, 0), (755, .iconst 1, 1, 0, 0, 0, 0, 0, 0, 0), (756, .iadd, 1, 7, 0, 0, 0, 0, 0, 0), (757, .iaload, 1, 22, 0, 0, 0, 0, 0, 0), (758, .invokevirtual 94, 3, 23, 160, 0, 0, 189, 0, 1), (761, .pop, 1, 11, 0, 0, 0, 0, 0, 0), (762, .goto 857, 3, 0, 0, 0, 0, 0, 0, 0), (765, .aload_n 1, 1, 3, 0, 0, 0, 0, 0, 0), (766, .aload_n 0, 1, 3, 0, 0, 0, 0, 0, 0), (767, .iload_n 3, 1, 2, 0, 0, 0, 0, 0, 0)]), (782, [(768, .iconst 1, 1, 0, 0, 0, 0, 0, 0, 0), (769, .iadd, 1, 7, 0, 0, 0, 0, 0, 0), (770, .iaload, 1, 22, 0, 0, 0, 0, 0, 0), (771, .aload_n 0, 1, 3, 0, 0, 0, 0, 0, 0), (772, .iload_n 3, 1, 2, 0, 0, 0, 0, 0, 0), (773, .iconst 2, 1, 0, 0, 0, 0, 0, 0, 0), (774, .iadd, 1, 7, 0, 0, 0, 0, 0, 0), (775, .iaload, 1, 22, 0, 0, 0, 0, 0, 0), (776, .invokevirtual 95, 3, 23, 161, 0, 0, 59, 0, 2), (779, .pop, 1, 11, 0, 0, 0, 0, 0, 0), (780, .aload_n 2, 1, 3, 0, 0, 0, 0, 0, 0), (781, .aload_n 0, 1, 3, 0, 0, 0, 0, 0, 0)]), (798, [(782, .iload_n 3, 1, 2, 0, 0, 0, 0, 0, 0), (783, .iconst 1, 1, 0, 0, 0, 0, 0, 0, 0), (784, .iadd, 1, 7, 0, 0, 0, 0, 0, 0), (785, .iaload, 1, 22, 0, 0, 0, 0, 0, 0), (786, .aload_n 0, 1, 3, 0, 0, 0, 0, 0, 0), (787, .iload_n 3, 1, 2, 0, 0, 0, 0, 0, 0), (788, .iconst 2, 1, 0, 0, 0, 0, 0, 0, 0), (789, .iadd, 1, 7, 0, 0, 0, 0, 0, 0), (790, .iaload, 1, 22, 0, 0, 0, 0, 0, 0), (791, .invokevirtual 98, 3, 23, 162, 0, 0, 269, 0, 2), (794, .pop, 1, 11, 0, 0, 0, 0, 0, 0), (795, .goto 824, 3, 0, 0, 0, 0, 0, 0, 0)])]
set_option maxRecDepth 100000 in
theorem ee_B154_11ok : ee_B154_11.all (ee_Bb 10 code false) = true := by decide +kernel
end
section
def ee_B154_12 : List (Nat × List ee_en) := [(812, [(798, .aload_n 1, 1, 3, 0, 0, 0, 0, 0, 0), (799, .aload_n 0, 1, 3, 0, 0, 0, 0, 0, 0), (800, .iload_n 3, 1, 2, 0, 0, 0, 0, 0, 0), (801, .iconst 1, 1, 0, 0, 0, 0, 0, 0, 0), (802, .iadd, 1, 7, 0, 0, 0, 0, 0, 0), (803, .iaload, 1, 22, 0, 0, 0, 0, 0, 0), (804, .aload_n 0, 1, 3, 0, 0, 0, 0, 0, 0), (805, .iload_n 3, 1, 2, 0, 0, 0, 0, 0, 0), (806, .iconst 2, 1, 0, 0, 0, 0, 0, 0, 0), (807, .iadd, 1, 7, 0, 0, 0, 0, 0, 0), (808, .iaload, 1, 22, 0, 0, 0, 0, 0, 0), (809, .invokevirtual 99, 3, 23, 163, 0, 0, 21, 0, 2)]), (824, [(812, .pop, 1, 11, 0, 0, 0, 0, 0, 0), (813, .aload_n 2, 1, 3, 0, 0, 0, 0, 0, 0), (814, .aload_n 0, 1, 3, 0, 0, 0, 0, 0, 0), (815, .iload_n 3, 1, 2, 0, 0, 0, 0, 0, 0), (816, .iconst 1, 1, 0, 0, 0, 0, 0, 0, 0), (817, .iadd, 1, 7, 0, 0, 0, 0, 0, 0), (818, .iaload, 1, 22, 0, 0, 0, 0, 0, 0), (819, .aload_n 0, 1, 3, 0, 0, 0, 0, 0, 0), (820, .iload_n 3, 1, 2, 0, 0, 0, 0, 0, 0), (821, .iconst 2, 1, 0, 0, 0, 0, 0, 0, 0), (822, .iadd, 1, 7, 0, 0, 0, 0, 0, 0), (823, .iaload, 1, 22, 0, 0, 0, 0, 0, 0)]), (846, [(824, .invokevirtual 102, 3, 23, 164, 0, 0, 201, 0, 2), (827, .pop, 1, 11, 0, 0, 0, 0, 0, 0), (828, .goto 791, 3, 0, 0, 0, 0, 0, 0, 0), (831, .aload_n 1, 1, 3, 0, 0, 0, 0, 0, 0), (832, .invokevirtual 103, 3, 23, 165, 0, 0, 44, 0, 0), (835, .pop, 1, 11, 0, 0, 0, 0, 0, 0), (836, .aload_n 2, 1, 3, 0, 0, 0, 0, 0, 0), (837, .invokevirtual 106, 3, 23, 166, 0, 0, 247, 0, 0), (840, .pop, 1, 11, 0, 0, 0, 0, 0, 0), (841, .goto 778, 3, 0, 0, 0, 0, 0, 0, 0), (844, .aload_n 1, 1, 3, 0, 0, 0, 0, 0, 0), (845, .aload_n 0, 1, 3, 0, 0, 0, 0, 0, 0)])]
set_option maxRecDepth 100000 in
theorem ee_B154_12ok : ee_B154_12.all (ee_Bb 10 code false) = true := by decide +kernel
def ee_B154_13 : List (Nat × List ee_en) := [(860, [(846, .iload_n 3, 1, 2, 0, 0, 0, 0, 0, 0), (847, .iconst 1, 1, 0, 0, 0, 0, 0, 0, 0), (848, .iadd, 1, 7, 0, 0, 0, 0, 0, 0), (849, .iaload, 1, 22, 0, 0, 0, 0, 0, 0), (850, .invokevirtual 107, 3, 23, 167, 0, 0, 17, 0, 1), (853, .pop, 1, 11, 0, 0, 0, 0, 0, 0), (854, .aload_n 2, 1, 3, 0, 0, 0, 0, 0, 0), (855, .aload_n 0, 1, 3, 0, 0, 0, 0, 0, 0), (856, .iload_n 3, 1, 2, 0, 0, 0, 0, 0, 0), (857, .iconst 1, 1, 0, 0, 0, 0, 0, 0, 0), (858, .iadd, 1, 7, 0, 0, 0, 0, 0, 0), (859, .iaload, 1, 22, 0, 0, 0, 0, 0, 0)]), (876, [(860, .invokevirtual 110, 3, 23, 168, 0, 0, 193, 0, 1), (863, .pop, 1, 11, 0, 0, 0, 0, 0, 0), (864, .goto 755, 3, 0, 0, 0, 0, 0, 0, 0), (867, .aload_n 1, 1, 3, 0, 0, 0, 0, 0, 0), (868, .aload_n 0, 1, 3, 0, 0, 0, 0, 0, 0), (869, .iload_n 3, 1, 2, 0, 0, 0, 0, 0, 0), (870, .iconst 1, 1, 0, 0, 0, 0, 0, 0, 0), (871, .iadd, 1, 7, 0, 0, 0, 0, 0, 0), (872, .iaload, 1, 22, 0, 0, 0, 0, 0, 0), (873, .aload_n 0, 1, 3, 0, 0, 0, 0, 0, 0), (874, .iload_n 3, 1, 2, 0, 0, 0, 0, 0, 0), (875, .iconst 2, 1, 0, 0, 0, 0, 0, 0, 0)]), (890, [(876, .iadd, 1, 7, 0, 0, 0, 0, 0, 0), (877, .iaload, 1, 22, 0, 0, 0, 0, 0, 0), (878, .invokevirtual 111, 3, 23, 169, 0, 0, 14, 0, 2), (881, .pop, 1, 11, 0, 0, 0, 0, 0, 0), (882, .aload_n 2, 1, 3, 0, 0, 0, 0, 0, 0), (883, .aload_n 0, 1, 3, 0, 0, 0, 0, 0, 0), (884, .iload_n 3, 1, 2, 0, 0, 0, 0, 0, 0), (885, .iconst 1, 1, 0, 0, 0, 0, 0, 0, 0), (886, .iadd, 1, 7, 0, 0, 0, 0, 0, 0), (887, .iaload, 1, 22, 0, 0, 0, 0, 0, 0), (888, .aload_n 0, 1, 3, 0, 0, 0, 0, 0, 0), (889, .iload_n 3, 1, 2, 0, 0, 0, 0, 0, 0)])]
set_option maxRecDepth 100000 in
theorem ee_B154_13ok : ee_B154_13.all (ee_Bb 10 code false) = true := by decide +kernel
def ee_B154_14 : List (Nat × List ee_en) := [(906, [(890, .iconst 2, 1, 0, 0, 0, 0, 0, 0, 0), (891, .iadd, 1, 7, 0, 0, 0, 0, 0, 0), (892, .iaload, 1, 22, 0, 0, 0, 0, 0, 0), (893, .invokevirtual 114, 3, 23, 170, 0, 0, 187, 0, 2), (896, .pop, 1, 11, 0, 0, 0, 0, 0, 0), (897, .goto 722, 3, 0, 0, 0, 0, 0, 0, 0), (900, .aload_n 1, 1, 3, 0, 0, 0, 0, 0, 0), (901, .aload_n 0, 1, 3, 0, 0, 0, 0, 0, 0), (902, .iload_n 3, 1, 2, 0, 0, 0, 0, 0, 0), (903, .iconst 1, 1, 0, 0, 0, 0, 0, 0, 0), (904, .iadd, 1, 7, 0, 0, 0, 0, 0, 0), (905, .iaload, 1, 22, 0, 0, 0, 0, 0, 0)]), (924, [(906, .invokevirtual 115, 3, 23, 171, 0, 0, 60, 0, 1), (909, .pop, 1, 11, 0, 0, 0, 0, 0, 0), (910, .aload_n 2, 1, 3, 0, 0, 0, 0, 0, 0), (911, .aload_n 0, 1, 3, 0, 0, 0, 0, 0, 0), (912, .iload_n 3, 1, 2, 0, 0, 0, 0, 0, 0), (913, .iconst 1, 1, 0, 0, 0, 0, 0, 0, 0), (914, .iadd, 1, 7, 0, 0, 0, 0, 0, 0), (915, .iaload, 1, 22, 0, 0, 0, 0, 0, 0), (916, .invokevirtual 118, 3, 23, 172, 0, 0, 270, 0, 1), (919, .pop, 1, 11, 0, 0, 0, 0, 0, 0), (920, .goto 699, 3, 0, 0, 0, 0, 0, 0, 0), (923, .aload_n 1, 1, 3, 0, 0, 0, 0, 0, 0)]), (942, [(924, .invokevirtual 119, 3, 23, 173, 0, 0, 39, 0, 0), (927, .pop, 1, 11, 0, 0, 0, 0, 0, 0), (928, .aload_n 2, 1, 3, 0, 0, 0, 0, 0, 0), (929, .invokevirtual 122, 3, 23, 174, 0, 0, 237, 0, 0), (932, .pop, 1, 11, 0, 0, 0, 0, 0, 0), (933, .goto 686, 3, 0, 0, 0, 0, 0, 0, 0), (936, .aload_n 1, 1, 3, 0, 0, 0, 0, 0, 0), (937, .aload_n 0, 1, 3, 0, 0, 0, 0, 0, 0), (938, .iload_n 3, 1, 2, 0, 0, 0, 0, 0, 0), (939, .iconst 1, 1, 0, 0, 0, 0, 0, 0, 0), (940, .iadd, 1, 7, 0, 0, 0, 0, 0, 0), (941, .iaload, 1, 22, 0, 0, 0, 0, 0, 0)])]
set_option maxRecDepth 100000 in
theorem ee_B154_14ok : ee_B154_14.all (ee_Bb 10 code false) = true := by decide +kernel
def ee_B154_15 : List (Nat × List ee_en) := [(960, [(942, .invokevirtual 123, 3, 23, 175, 0, 0, 26, 0, 1), (945, .pop, 1, 11, 0, 0, 0, 0, 0, 0), (946, .aload_n 2, 1, 3, 0, 0, 0, 0, 0, 0), (947, .aload_n 0, 1, 3, 0, 0, 0, 0, 0, 0), (948, .iload_n 3, 1, 2, 0, 0, 0, 0, 0, 0), (949, .iconst 1, 1, 0, 0, 0, 0, 0, 0, 0), (950, .iadd, 1, 7, 0, 0, 0, 0, 0, 0), (951, .iaload, 1, 22, 0, 0, 0, 0, 0, 0), (952, .invokevirtual 126, 3, 23, 176, 0, 0, 209, 0, 1), (955, .pop, 1, 11, 0, 0, 0, 0, 0, 0), (956, .goto 663, 3, 0, 0, 0, 0, 0, 0, 0), (959, .aload_n 1, 1, 3, 0, 0, 0, 0, 0, 0)]), (974, [(960, .aload_n 0, 1, 3, 0, 0, 0, 0, 0, 0), (961, .iload_n 3, 1, 2, 0, 0, 0, 0, 0, 0), (962, .iconst 1, 1, 0, 0, 0, 0, 0, 0, 0), (963, .iadd, 1, 7, 0, 0, 0, 0, 0, 0), (964, .iaload, 1, 22, 0, 0, 0, 0, 0, 0), (965, .aload_n 0, 1, 3, 0, 0, 0, 0, 0, 0), (966, .iload_n 3, 1, 2, 0, 0, 0, 0, 0, 0), (967, .iconst 2, 1, 0, 0, 0, 0, 0, 0, 0), (968, .iadd, 1, 7, 0, 0, 0, 0, 0, 0), (969, .iaload, 1, 22, 0, 0, 0, 0, 0, 0), (970, .invokevirtual 127, 3, 23, 177, 0, 0, 5, 0, 2), (973, .pop, 1, 11, 0, 0, 0, 0, 0, 0)]), (988, [(974, .aload_n 2, 1, 3, 0, 0, 0, 0, 0, 0), (975, .aload_n 0, 1, 3, 0, 0, 0, 0, 0, 0), (976, .iload_n 3, 1, 2, 0, 0, 0, 0, 0, 0), (977, .iconst 1, 1, 0, 0, 0, 0, 0, 0, 0), (978, .iadd, 1, 7, 0, 0, 0, 0, 0, 0), (979, .iaload, 1, 22, 0, 0, 0, 0, 0, 0), (980, .aload_n 0, 1, 3, 0, 0, 0, 0, 0, 0), (981, .iload_n 3, 1, 2, 0, 0, 0, 0, 0, 0), (982, .iconst 2, 1, 0, 0, 0, 0, 0, 0, 0), (983, .iadd, 1, 7, 0, 0, 0, 0, 0, 0), (984, .iaload, 1, 22, 0, 0, 0, 0, 0, 0), (985, .invokevirtual 130, 3, 23, 178, 0, 0, 168, 0, 2)])]
set_option maxRecDepth 100000 in
theorem ee_B154_15ok : ee_B154_15.all (ee_Bb 10 code false) = true := by decide +kernel
end
section
def ee_B154_16 : List (Nat × List ee_en) := [(1004, [(988, .pop, 1, 11, 0, 0, 0, 0, 0, 0), (989, .goto 630, 3, 0, 0, 0, 0, 0, 0, 0), (992, .aload_n 1, 1, 3, 0, 0, 0, 0, 0, 0), (993, .aload_n 0, 1, 3, 0, 0, 0, 0, 0, 0), (994, .iload_n 3, 1, 2, 0, 0, 0, 0, 0, 0), (995, .iconst 1, 1, 0, 0, 0, 0, 0, 0, 0), (996, .iadd, 1, 7, 0, 0, 0, 0, 0, 0), (997, .iaload, 1, 22, 0, 0, 0, 0, 0, 0), (998, .invokevirtual 131, 3, 23, 179, 0, 0, 12, 0, 1), (1001, .pop, 1, 11, 0, 0, 0, 0, 0, 0), (1002, .aload_n 2, 1, 3, 0, 0, 0, 0, 0, 0), (1003, .aload_n 0, 1, 3, 0, 0, 0, 0, 0, 0)]), (1020, [(1004, .iload_n 3, 1, 2, 0, 0, 0, 0, 0, 0), (1005, .iconst 1, 1, 0, 0, 0, 0, 0, 0, 0), (1006, .iadd, 1, 7, 0, 0, 0, 0, 0, 0), (1007, .iaload, 1, 22, 0, 0, 0, 0, 0, 0), (1008, .invokevirtual 134, 3, 23, 180, 0, 0, 184, 0, 1), (1011, .pop, 1, 11, 0, 0, 0, 0, 0, 0), (1012, .goto 607, 3, 0, 0, 0, 0, 0, 0, 0), (1015, .aload_n 1, 1, 3, 0, 0, 0, 0, 0, 0), (1016, .aload_n 0, 1, 3, 0, 0, 0, 0, 0, 0), (1017, .iload_n 3, 1, 2, 0, 0, 0, 0, 0, 0), (1018, .iconst 1, 1, 0, 0, 0, 0, 0, 0, 0), (1019, .iadd, 1, 7, 0, 0, 0, 0, 0, 0)]), (1038, [(1020, .iaload, 1, 22, 0, 0, 0, 0, 0, 0), (1021, .invokevirtual 135, 3, 23, 181, 0, 0, 2, 0, 1), (1024, .pop, 1, 11, 0, 0, 0, 0, 0, 0), (1025, .aload_n 2, 1, 3, 0, 0, 0, 0, 0, 0), (1026, .aload_n 0, 1, 3, 0, 0, 0, 0, 0, 0), (1027, .iload_n 3, 1, 2, 0, 0, 0, 0, 0, 0), (1028, .iconst 1, 1, 0, 0, 0, 0, 0, 0, 0), (1029, .iadd, 1, 7, 0, 0, 0, 0, 0, 0), (1030, .iaload, 1, 22, 0, 0, 0, 0, 0, 0), (1031, .invokevirtual 138, 3, 23, 182, 0, 0, 157, 0, 1), (1034, .pop, 1, 11, 0, 0, 0, 0, 0, 0), (1035, .goto 584, 3, 0, 0, 0, 0, 0, 0, 0)])]
set_option maxRecDepth 100000 in
theorem ee_B154_16ok : ee_B154_16.all (ee_Bb 10 code false) = true := by decide +kernel
def ee_B154_17 : List (Nat × List ee_en) := [(1052, [(1038, .aload_n 1, 1, 3, 0, 0, 0, 0, 0, 0), (1039, .aload_n 0, 1, 3, 0, 0, 0, 0, 0, 0), (1040, .iload_n 3, 1, 2, 0, 0, 0, 0, 0, 0), (1041, .iconst 1, 1, 0, 0, 0, 0, 0, 0, 0), (1042, .iadd, 1, 7, 0, 0, 0, 0, 0, 0), (1043, .iaload, 1, 22, 0, 0, 0, 0, 0, 0), (1044, .aload_n 0, 1, 3, 0, 0, 0, 0, 0, 0), (1045, .iload_n 3, 1, 2, 0, 0, 0, 0, 0, 0), (1046, .iconst 2, 1, 0, 0, 0, 0, 0, 0, 0), (1047, .iadd, 1, 7, 0, 0, 0, 0, 0, 0), (1048, .iaload, 1, 22, 0, 0, 0, 0, 0, 0), (1049, .invokevirtual 139, 3, 23, 183, 0, 0, 53, 0, 2)]), (1064, [(1052, .pop, 1, 11, 0, 0, 0, 0, 0, 0), (1053, .aload_n 2, 1, 3, 0, 0, 0, 0, 0, 0), (1054, .aload_n 0, 1, 3, 0, 0, 0, 0, 0, 0), (1055, .iload_n 3, 1, 2, 0, 0, 0, 0, 0, 0), (1056, .iconst 1, 1, 0, 0, 0, 0, 0, 0, 0), (1057, .iadd, 1, 7, 0, 0, 0, 0, 0, 0), (1058, .iaload, 1, 22, 0, 0, 0, 0, 0, 0), (1059, .aload_n 0, 1, 3, 0, 0, 0, 0, 0, 0), (1060, .iload_n 3, 1, 2, 0, 0, 0, 0, 0, 0), (1061, .iconst 2, 1, 0, 0, 0, 0, 0, 0, 0), (1062, .iadd, 1, 7, 0, 0, 0, 0, 0, 0), (1063, .iaload, 1, 22, 0, 0, 0, 0, 0, 0)]), (1080, [(1064, .invokevirtual 142, 3, 23, 184, 0, 0, 262, 0, 2), (1067, .pop, 1, 11, 0, 0, 0, 0, 0, 0), (1068, .goto 551, 3, 0, 0, 0, 0, 0, 0, 0), (1071, .aload_n 1, 1, 3, 0, 0, 0, 0, 0, 0), (1072, .aload_n 0, 1, 3, 0, 0, 0, 0, 0, 0), (1073, .iload_n 3, 1, 2, 0, 0, 0, 0, 0, 0), (1074, .iconst 1, 1, 0, 0, 0, 0, 0, 0, 0), (1075, .iadd, 1, 7, 0, 0, 0, 0, 0, 0), (1076, .iaload, 1, 22, 0, 0, 0, 0, 0, 0), (1077, .aload_n 0, 1, 3, 0, 0, 0, 0, 0, 0), (1078, .iload_n 3, 1, 2, 0, 0, 0, 0, 0, 0), (1079, .iconst 2, 1, 0, 0, 0, 0, 0, 0, 0)])]
set_option maxRecDepth 100000 in
theorem ee_B154_17ok : ee_B154_17.all (ee_Bb 10 code false) = true := by decide +kernel
def ee_B154_18 : List (Nat × List ee_en) := [(1094, [(1080, .iadd, 1, 7, 0, 0, 0, 0, 0, 0), (1081, .iaload, 1, 22, 0, 0, 0, 0, 0, 0), (1082, .invokevirtual 143, 3, 23, 185, 0, 0, 34, 0, 2), (1085, .pop, 1, 11, 0, 0, 0, 0, 0, 0), (1086, .aload_n 2, 1, 3, 0, 0, 0, 0, 0, 0), (1087, .aload_n 0, 1, 3, 0, 0, 0, 0, 0, 0), (1088, .iload_n 3, 1, 2, 0, 0, 0, 0, 0, 0), (1089, .iconst 1, 1, 0, 0, 0, 0, 0, 0, 0), (1090, .iadd, 1, 7, 0, 0, 0, 0, 0, 0), (1091, .iaload, 1, 22, 0, 0, 0, 0, 0, 0), (1092, .aload_n 0, 1, 3, 0, 0, 0, 0, 0, 0), (1093, .iload_n 3, 1, 2, 0, 0, 0, 0, 0, 0)]), (1114, [(1094, .iconst 2, 1, 0, 0, 0, 0, 0, 0, 0), (1095, .iadd, 1, 7, 0, 0, 0, 0, 0, 0), (1096, .iaload, 1, 22, 0, 0, 0, 0, 0, 0), (1097, .invokevirtual 146, 3, 23, 186, 0, 0, 228, 0, 2), (1100, .pop, 1, 11, 0, 0, 0, 0, 0, 0), (1101, .goto 518, 3, 0, 0, 0, 0, 0, 0, 0), (1104, .aload_n 1, 1, 3, 0, 0, 0, 0, 0, 0), (1105, .invokevirtual 147, 3, 23, 187, 0, 0, 10, 0, 0), (1108, .pop, 1, 11, 0, 0, 0, 0, 0, 0), (1109, .aload_n 2, 1, 3, 0, 0, 0, 0, 0, 0), (1110, .invokevirtual 150, 3, 23, 188, 0, 0, 180, 0, 0), (1113, .pop, 1, 11, 0, 0, 0, 0, 0, 0)]), (1130, [(1114, .goto 505, 3, 0, 0, 0, 0, 0, 0, 0), (1117, .aload_n 1, 1, 3, 0, 0, 0, 0, 0, 0), (1118, .aload_n 0, 1, 3, 0, 0, 0, 0, 0, 0), (1119, .iload_n 3, 1, 2, 0, 0, 0, 0, 0, 0), (1120, .iconst 1, 1, 0, 0, 0, 0, 0, 0, 0), (1121, .iadd, 1, 7, 0, 0, 0, 0, 0, 0), (1122, .iaload, 1, 22, 0, 0, 0, 0, 0, 0), (1123, .invokevirtual 151, 3, 23, 189, 0, 0, 63, 0, 1), (1126, .pop, 1, 11, 0, 0, 0, 0, 0, 0), (1127, .aload_n 2, 1, 3, 0, 0, 0, 0, 0, 0), (1128, .aload_n 0, 1, 3, 0, 0, 0, 0, 0, 0), (1129, .iload_n 3, 1, 2, 0, 0, 0, 0, 0, 0)])]
set_option maxRecDepth 100000 in
theorem ee_B154_18ok : ee_B154_18.all (ee_Bb 10 code false) = true := by decide +kernel
def ee_B154_19 : List (Nat × List ee_en) := [(1146, [(1130, .iconst 1, 1, 0, 0, 0, 0, 0, 0, 0), (1131, .iadd, 1, 7, 0, 0, 0, 0, 0, 0), (1132, .iaload, 1, 22, 0, 0, 0, 0, 0, 0), (1133, .invokevirtual 154, 3, 23, 190, 0, 0, 274, 0, 1), (1136, .pop, 1, 11, 0, 0, 0, 0, 0, 0), (1137, .goto 482, 3, 0, 0, 0, 0, 0, 0, 0), (1140, .aload_n 1, 1, 3, 0, 0, 0, 0, 0, 0), (1141, .aload_n 0, 1, 3, 0, 0, 0, 0, 0, 0), (1142, .iload_n 3, 1, 2, 0, 0, 0, 0, 0, 0), (1143, .iconst 1, 1, 0, 0, 0, 0, 0, 0, 0), (1144, .iadd, 1, 7, 0, 0, 0, 0, 0, 0), (1145, .iaload, 1, 22, 0, 0, 0, 0, 0, 0)]), (1164, [(1146, .invokevirtual 155, 3, 23, 191, 0, 0, 64, 0, 1), (1149, .pop, 1, 11, 0, 0, 0, 0, 0, 0), (1150, .aload_n 2, 1, 3, 0, 0, 0, 0, 0, 0), (1151, .aload_n 0, 1, 3, 0, 0, 0, 0, 0, 0), (1152, .iload_n 3, 1, 2, 0, 0, 0, 0, 0, 0), (1153, .iconst 1, 1, 0, 0, 0, 0, 0, 0, 0), (1154, .iadd, 1, 7, 0, 0, 0, 0, 0, 0), (1155, .iaload, 1, 22, 0, 0, 0, 0, 0, 0), (1156, .invokevirtual 158, 3, 23, 192, 0, 0, 275, 0, 1), (1159, .pop, 1, 11, 0, 0, 0, 0, 0, 0), (1160, .goto 459, 3, 0, 0, 0, 0, 0, 0, 0), (1163, .aload_n 1, 1, 3, 0, 0, 0, 0, 0, 0)]), (1186, [(1164, .invokevirtual 159, 3, 23, 193, 0, 0, 24, 0, 0), (1167, .pop, 1, 11, 0, 0, 0, 0, 0, 0), (1168, .aload_n 2, 1, 3, 0, 0, 0, 0, 0, 0), (1169, .invokevirtual 162, 3, 23, 194, 0, 0, 204, 0, 0), (1172, .pop, 1, 11, 0, 0, 0, 0, 0, 0), (1173, .goto 446, 3, 0, 0, 0, 0, 0, 0, 0), (1176, .aload_n 1, 1, 3, 0, 0, 0, 0, 0, 0), (1177, .invokevirtual 163, 3, 23, 195, 0, 0, 66, 0, 0), (1180, .pop, 1, 11, 0, 0, 0, 0, 0, 0), (1181, .aload_n 2, 1, 3, 0, 0, 0, 0, 0, 0), (1182, .invokevirtual 166, 3, 23, 196, 0, 0, 278, 0, 0), (1185, .pop, 1, 11, 0, 0, 0, 0, 0, 0)])]
set_option maxRecDepth 100000 in
theorem ee_B154_19ok : ee_B154_19.all (ee_Bb 10 code false) = true := by decide +kernel
end
section
def ee_B154_20 : List (Nat × List ee_en) := [(1208, [(1186, .goto 433, 3, 0, 0, 0, 0, 0, 0, 0), (1189, .aload_n 1, 1, 3, 0, 0, 0, 0, 0, 0), (1190, .invokevirtual 167, 3, 23, 197, 0, 0, 22, 0, 0), (1193, .pop, 1, 11, 0, 0, 0, 0, 0, 0), (1194, .aload_n 2, 1, 3, 0, 0, 0, 0, 0, 0), (1195, .invokevirtual 170, 3, 23, 198, 0, 0, 203, 0, 0), (1198, .pop, 1, 11, 0, 0, 0, 0, 0, 0), (1199, .goto 420, 3, 0, 0, 0, 0, 0, 0, 0), (1202, .aload_n 1, 1, 3, 0, 0, 0, 0, 0, 0), (1203, .invokevirtual 171, 3, 23, 199, 0, 0, 6, 0, 0), (1206, .pop, 1, 11, 0, 0, 0, 0, 0, 0), (1207, .aload_n 2, 1, 3, 0, 0, 0, 0, 0, 0)]), (1232, [(1208, .invokevirtual 174, 3, 23, 200, 0, 0, 173, 0, 0), (1211, .pop, 1, 11, 0, 0, 0, 0, 0, 0), (1212, .goto 407, 3, 0, 0, 0, 0, 0, 0, 0), (1215, .aload_n 1, 1, 3, 0, 0, 0, 0, 0, 0), (1216, .invokevirtual 175, 3, 23, 201, 0, 0, 47, 0, 0), (1219, .pop, 1, 11, 0, 0, 0, 0, 0, 0), (1220, .aload_n 2, 1, 3, 0, 0, 0, 0, 0, 0), (1221, .invokevirtual 178, 3, 23, 202, 0, 0, 253, 0, 0), (1224, .pop, 1, 11, 0, 0, 0, 0, 0, 0), (1225, .goto 394, 3, 0, 0, 0, 0, 0, 0, 0), (1228, .aload_n 1, 1, 3, 0, 0, 0, 0, 0, 0), (1229, .invokevirtual 179, 3, 23, 203, 0, 0, 41, 0, 0)]), (1254, [(1232, .pop, 1, 11, 0, 0, 0, 0, 0, 0), (1233, .aload_n 2, 1, 3, 0, 0, 0, 0, 0, 0), (1234, .invokevirtual 182, 3, 23, 204, 0, 0, 243, 0, 0), (1237, .pop, 1, 11, 0, 0, 0, 0, 0, 0), (1238, .goto 381, 3, 0, 0, 0, 0, 0, 0, 0), (1241, .aload_n 1, 1, 3, 0, 0, 0, 0, 0, 0), (1242, .invokevirtual 183, 3, 23, 205, 0, 0, 56, 0, 0), (1245, .pop, 1, 11, 0, 0, 0, 0, 0, 0), (1246, .aload_n 2, 1, 3, 0, 0, 0, 0, 0, 0), (1247, .invokevirtual 186, 3, 23, 206, 0, 0, 268, 0, 0), (1250, .pop, 1, 11, 0, 0, 0, 0, 0, 0), (1251, .goto 368, 3, 0, 0, 0, 0, 0, 0, 0)])]
set_option maxRecDepth 100000 in
theorem ee_B154_20ok : ee_B154_20.all (ee_Bb 10 code false) = true := by decide +kernel
def ee_B154_21 : List (Nat × List ee_en) := [(1268, [(1254, .aload_n 1, 1, 3, 0, 0, 0, 0, 0, 0), (1255, .aload_n 0, 1, 3, 0, 0, 0, 0, 0, 0), (1256, .iload_n 3, 1, 2, 0, 0, 0, 0, 0, 0), (1257, .iconst 1, 1, 0, 0, 0, 0, 0, 0, 0), (1258, .iadd, 1, 7, 0, 0, 0, 0, 0, 0), (1259, .iaload, 1, 22, 0, 0, 0, 0, 0, 0), (1260, .aload_n 0, 1, 3, 0, 0, 0, 0, 0, 0), (1261, .iload_n 3, 1, 2, 0, 0, 0, 0, 0, 0), (1262, .iconst 2, 1, 0, 0, 0, 0, 0, 0, 0), (1263, .iadd, 1, 7, 0, 0, 0, 0, 0, 0), (1264, .iaload, 1, 22, 0, 0, 0, 0, 0, 0), (1265, .invokevirtual 187, 3, 23, 207, 0, 0, 36, 0, 2)]), (1280, [(1268, .pop, 1, 11, 0, 0, 0, 0, 0, 0), (1269, .aload_n 2, 1, 3, 0, 0, 0, 0, 0, 0), (1270, .aload_n 0, 1, 3, 0, 0, 0, 0, 0, 0), (1271, .iload_n 3, 1, 2, 0, 0, 0, 0, 0, 0), (1272, .iconst 1, 1, 0, 0, 0, 0, 0, 0, 0), (1273, .iadd, 1, 7, 0, 0, 0, 0, 0, 0), (1274, .iaload, 1, 22, 0, 0, 0, 0, 0, 0), (1275, .aload_n 0, 1, 3, 0, 0, 0, 0, 0, 0), (1276, .iload_n 3, 1, 2, 0, 0, 0, 0, 0, 0), (1277, .iconst 2, 1, 0, 0, 0, 0, 0, 0, 0), (1278, .iadd, 1, 7, 0, 0, 0, 0, 0, 0), (1279, .iaload, 1, 22, 0, 0, 0, 0, 0, 0)]), (1302, [(1280, .invokevirtual 190, 3, 23, 208, 0, 0, 232, 0, 2), (1283, .pop, 1, 11, 0, 0, 0, 0, 0, 0), (1284, .goto 335, 3, 0, 0, 0, 0, 0, 0, 0), (1287, .aload_n 1, 1, 3, 0, 0, 0, 0, 0, 0), (1288, .invokevirtual 191, 3, 23, 209, 0, 0, 42, 0, 0), (1291, .pop, 1, 11, 0, 0, 0, 0, 0, 0), (1292, .aload_n 2, 1, 3, 0, 0, 0, 0, 0, 0), (1293, .invokevirtual 194, 3, 23, 210, 0, 0, 244, 0, 0), (1296, .pop, 1, 11, 0, 0, 0, 0, 0, 0), (1297, .goto 322, 3, 0, 0, 0, 0, 0, 0, 0), (1300, .aload_n 1, 1, 3, 0, 0, 0, 0, 0, 0), (1301, .aload_n 0, 1, 3, 0, 0, 0, 0, 0, 0)])]
set_option maxRecDepth 100000 in
theorem ee_B154_21ok : ee_B154_21.all (ee_Bb 10 code false) = true := by decide +kernel
def ee_B154_22 : List (Nat × List ee_en) := [(1316, [(1302, .iload_n 3, 1, 2, 0, 0, 0, 0, 0, 0), (1303, .iconst 1, 1, 0, 0, 0, 0, 0, 0, 0), (1304, .iadd, 1, 7, 0, 0, 0, 0, 0, 0), (1305, .iaload, 1, 22, 0, 0, 0, 0, 0, 0), (1306, .aload_n 0, 1, 3, 0, 0, 0, 0, 0, 0), (1307, .iload_n 3, 1, 2, 0, 0, 0, 0, 0, 0), (1308, .iconst 2, 1, 0, 0, 0, 0, 0, 0, 0), (1309, .iadd, 1, 7, 0, 0, 0, 0, 0, 0), (1310, .iaload, 1, 22, 0, 0, 0, 0, 0, 0), (1311, .invokevirtual 195, 3, 23, 211, 0, 0, 43, 0, 2), (1314, .pop, 1, 11, 0, 0, 0, 0, 0, 0), (1315, .aload_n 2, 1, 3, 0, 0, 0, 0, 0, 0)]), (1330, [(1316, .aload_n 0, 1, 3, 0, 0, 0, 0, 0, 0), (1317, .iload_n 3, 1, 2, 0, 0, 0, 0, 0, 0), (1318, .iconst 1, 1, 0, 0, 0, 0, 0, 0, 0), (1319, .iadd, 1, 7, 0, 0, 0, 0, 0, 0), (1320, .iaload, 1, 22, 0, 0, 0, 0, 0, 0), (1321, .aload_n 0, 1, 3, 0, 0, 0, 0, 0, 0), (1322, .iload_n 3, 1, 2, 0, 0, 0, 0, 0, 0), (1323, .iconst 2, 1, 0, 0, 0, 0, 0, 0, 0), (1324, .iadd, 1, 7, 0, 0, 0, 0, 0, 0), (1325, .iaload, 1, 22, 0, 0, 0, 0, 0, 0), (1326, .invokevirtual 198, 3, 23, 212, 0, 0, 246, 0, 2), (1329, .pop, 1, 11, 0, 0, 0, 0, 0, 0)]), (1346, [(1330, .goto 289, 3, 0, 0, 0, 0, 0, 0, 0), (1333, .aload_n 1, 1, 3, 0, 0, 0, 0, 0, 0), (1334, .aload_n 0, 1, 3, 0, 0, 0, 0, 0, 0), (1335, .iload_n 3, 1, 2, 0, 0, 0, 0, 0, 0), (1336, .iconst 1, 1, 0, 0, 0, 0, 0, 0, 0), (1337, .iadd, 1, 7, 0, 0, 0, 0, 0, 0), (1338, .iaload, 1, 22, 0, 0, 0, 0, 0, 0), (1339, .invokevirtual 199, 3, 23, 213, 0, 0, 38, 0, 1), (1342, .pop, 1, 11, 0, 0, 0, 0, 0, 0), (1343, .aload_n 2, 1, 3, 0, 0, 0, 0, 0, 0), (1344, .aload_n 0, 1, 3, 0, 0, 0, 0, 0, 0), (1345, .iload_n 3, 1, 2, 0, 0, 0, 0, 0, 0)])]
set_option maxRecDepth 100000 in
theorem ee_B154_22ok : ee_B154_22.all (ee_Bb 10 code false) = true := by decide +kernel
def ee_B154_23 : List (Nat × List ee_en) := [(1362, [(1346, .iconst 1, 1, 0, 0, 0, 0, 0, 0, 0), (1347, .iadd, 1, 7, 0, 0, 0, 0, 0, 0), (1348, .iaload, 1, 22, 0, 0, 0, 0, 0, 0), (1349, .invokevirtual 202, 3, 23, 214, 0, 0, 236, 0, 1), (1352, .pop, 1, 11, 0, 0, 0, 0, 0, 0), (1353, .goto 266, 3, 0, 0, 0, 0, 0, 0, 0), (1356, .aload_n 1, 1, 3, 0, 0, 0, 0, 0, 0), (1357, .aload_n 0, 1, 3, 0, 0, 0, 0, 0, 0), (1358, .iload_n 3, 1, 2, 0, 0, 0, 0, 0, 0), (1359, .iconst 1, 1, 0, 0, 0, 0, 0, 0, 0), (1360, .iadd, 1, 7, 0, 0, 0, 0, 0, 0), (1361, .iaload, 1, 22, 0, 0, 0, 0, 0, 0)]), (1376, [(1362, .aload_n 0, 1, 3, 0, 0, 0, 0, 0, 0), (1363, .iload_n 3, 1, 2, 0, 0, 0, 0, 0, 0), (1364, .iconst 2, 1, 0, 0, 0, 0, 0, 0, 0), (1365, .iadd, 1, 7, 0, 0, 0, 0, 0, 0), (1366, .iaload, 1, 22, 0, 0, 0, 0, 0, 0), (1367, .aload_n 0, 1, 3, 0, 0, 0, 0, 0, 0), (1368, .iload_n 3, 1, 2, 0, 0, 0, 0, 0, 0), (1369, .iconst 3, 1, 0, 0, 0, 0, 0, 0, 0), (1370, .iadd, 1, 7, 0, 0, 0, 0, 0, 0), (1371, .iaload, 1, 22, 0, 0, 0, 0, 0, 0), (1372, .ifCond .eq 7, 3, 12, 0, 0, 0, 0, 0, 0), (1375, .iconst 1, 1, 0, 0, 0, 0, 0, 0, 0)]), (1392, [(1376, .goto 4, 3, 0, 0, 0, 0, 0, 0, 0), (1379, .iconst 0, 1, 0, 0, 0, 0, 0, 0, 0), (1380, .invokevirtual 203, 3, 23, 215, 0, 0, 20, 0, 3), (1383, .pop, 1, 11, 0, 0, 0, 0, 0, 0), (1384, .aload_n 2, 1, 3, 0, 0, 0, 0, 0, 0), (1385, .aload_n 0, 1, 3, 0, 0, 0, 0, 0, 0), (1386, .iload_n 3, 1, 2, 0, 0, 0, 0, 0, 0), (1387, .iconst 1, 1, 0, 0, 0, 0, 0, 0, 0), (1388, .iadd, 1, 7, 0, 0, 0, 0, 0, 0), (1389, .iaload, 1, 22, 0, 0, 0, 0, 0, 0), (1390, .aload_n 0, 1, 3, 0, 0, 0, 0, 0, 0), (1391, .iload_n 3, 1, 2, 0, 0, 0, 0, 0, 0)])]
set_option maxRecDepth 100000 in
theorem ee_B154_23ok : ee_B154_23.all (ee_Bb 10 code false) = true := by decide +kernel
end
section
def ee_B154_24 : List (Nat × List ee_en) := [(1408, [(1392, .iconst 2, 1, 0, 0, 0, 0, 0, 0, 0), (1393, .iadd, 1, 7, 0, 0, 0, 0, 0, 0), (1394, .iaload, 1, 22, 0, 0, 0, 0, 0, 0), (1395, .aload_n 0, 1, 3, 0, 0, 0, 0, 0, 0), (1396, .iload_n 3, 1, 2, 0, 0, 0, 0, 0, 0), (1397, .iconst 3, 1, 0, 0, 0, 0, 0, 0, 0), (1398, .iadd, 1, 7, 0, 0, 0, 0, 0, 0), (1399, .iaload, 1, 22, 0, 0, 0, 0, 0, 0), (1400, .ifCond .eq 7, 3, 12, 0, 0, 0, 0, 0, 0), (1403, .iconst 1, 1, 0, 0, 0, 0, 0, 0, 0), (1404, .goto 4, 3, 0, 0, 0, 0, 0, 0, 0), (1407, .iconst 0, 1, 0, 0, 0, 0, 0, 0, 0)]), (1426, [(1408, .invokevirtual 207, 3, 23, 216, 0, 0, 197, 0, 3), (1411, .pop, 1, 11, 0, 0, 0, 0, 0, 0), (1412, .goto 207, 3, 0, 0, 0, 0, 0, 0, 0), (1415, .aload_n 1, 1, 3, 0, 0, 0, 0, 0, 0), (1416, .aload_n 0, 1, 3, 0, 0, 0, 0, 0, 0), (1417, .iload_n 3, 1, 2, 0, 0, 0, 0, 0, 0), (1418, .iconst 1, 1, 0, 0, 0, 0, 0, 0, 0), (1419, .iadd, 1, 7, 0, 0, 0, 0, 0, 0), (1420, .iaload, 1, 22, 0, 0, 0, 0, 0, 0), (1421, .invokevirtual 208, 3, 23, 217, 0, 0, 71, 0, 1), (1424, .pop, 1, 11, 0, 0, 0, 0, 0, 0), (1425, .aload_n 2, 1, 3, 0, 0, 0, 0, 0, 0)]), (1442, [(1426, .aload_n 0, 1, 3, 0, 0, 0, 0, 0, 0), (1427, .iload_n 3, 1, 2, 0, 0, 0, 0, 0, 0), (1428, .iconst 1, 1, 0, 0, 0, 0, 0, 0, 0), (1429, .iadd, 1, 7, 0, 0, 0, 0, 0, 0), (1430, .iaload, 1, 22, 0, 0, 0, 0, 0, 0), (1431, .invokevirtual 212, 3, 23, 218, 0, 0, 287, 0, 1), (1434, .pop, 1, 11, 0, 0, 0, 0, 0, 0), (1435, .goto 184, 3, 0, 0, 0, 0, 0, 0, 0), (1438, .aload_n 1, 1, 3, 0, 0, 0, 0, 0, 0), (1439, .aload_n 0, 1, 3, 0, 0, 0, 0, 0, 0), (1440, .iload_n 3, 1, 2, 0, 0, 0, 0, 0, 0), (1441, .iconst 1, 1, 0, 0, 0, 0, 0, 0, 0)])]
set_option maxRecDepth 100000 in
theorem ee_B154_24ok : ee_B154_24.all (ee_Bb 10 code false) = true := by decide +kernel
def ee_B154_25 : List (Nat × List ee_en) := [(1460, [(1442, .iadd, 1, 7, 0, 0, 0, 0, 0, 0), (1443, .iaload, 1, 22, 0, 0, 0, 0, 0, 0), (1444, .invokevirtual 213, 3, 23, 219, 0, 0, 35, 0, 1), (1447, .aload_n 2, 1, 3, 0, 0, 0, 0, 0, 0), (1448, .aload_n 0, 1, 3, 0, 0, 0, 0, 0, 0), (1449, .iload_n 3, 1, 2, 0, 0, 0, 0, 0, 0), (1450, .iconst 1, 1, 0, 0, 0, 0, 0, 0, 0), (1451, .iadd, 1, 7, 0, 0, 0, 0, 0, 0), (1452, .iaload, 1, 22, 0, 0, 0, 0, 0, 0), (1453, .invokevirtual 216, 3, 23, 220, 0, 0, 231, 0, 1), (1456, .if_icmp .eq 163, 3, 12, 0, 0, 0, 0, 0, 0), (1459, .iconst 0, 1, 0, 0, 0, 0, 0, 0, 0)]), (1474, [(1460, .ireturn, 1, 21, 0, 0, 0, 0, 0, 0), (1461, .aload_n 1, 1, 3, 0, 0, 0, 0, 0, 0), (1462, .aload_n 0, 1, 3, 0, 0, 0, 0, 0, 0), (1463, .iload_n 3, 1, 2, 0, 0, 0, 0, 0, 0), (1464, .iconst 1, 1, 0, 0, 0, 0, 0, 0, 0), (1465, .iadd, 1, 7, 0, 0, 0, 0, 0, 0), (1466, .iaload, 1, 22, 0, 0, 0, 0, 0, 0), (1467, .invokevirtual 217, 3, 23, 221, 0, 0, 52, 0, 1), (1470, .pop, 1, 11, 0, 0, 0, 0, 0, 0), (1471, .aload_n 2, 1, 3, 0, 0, 0, 0, 0, 0), (1472, .aload_n 0, 1, 3, 0, 0, 0, 0, 0, 0), (1473, .iload_n 3, 1, 2, 0, 0, 0, 0, 0, 0)]), (1490, [(1474, .iconst 1, 1, 0, 0, 0, 0, 0, 0, 0), (1475, .iadd, 1, 7, 0, 0, 0, 0, 0, 0), (1476, .iaload, 1, 22, 0, 0, 0, 0, 0, 0), (1477, .invokevirtual 220, 3, 23, 222, 0, 0, 261, 0, 1), (1480, .pop, 1, 11, 0, 0, 0, 0, 0, 0), (1481, .goto 138, 3, 0, 0, 0, 0, 0, 0, 0), (1484, .aload_n 1, 1, 3, 0, 0, 0, 0, 0, 0), (1485, .aload_n 0, 1, 3, 0, 0, 0, 0, 0, 0), (1486, .iload_n 3, 1, 2, 0, 0, 0, 0, 0, 0), (1487, .iconst 1, 1, 0, 0, 0, 0, 0, 0, 0), (1488, .iadd, 1, 7, 0, 0, 0, 0, 0, 0), (1489, .iaload, 1, 22, 0, 0, 0, 0, 0, 0)])]
set_option maxRecDepth 100000 in
theorem ee_B154_25ok : ee_B154_25.all (ee_Bb 10 code false) = true := by decide +kernel
def ee_B154_26 : List (Nat × List ee_en) := [(1504, [(1490, .aload_n 0, 1, 3, 0, 0, 0, 0, 0, 0), (1491, .iload_n 3, 1, 2, 0, 0, 0, 0, 0, 0), (1492, .iconst 2, 1, 0, 0, 0, 0, 0, 0, 0), (1493, .iadd, 1, 7, 0, 0, 0, 0, 0, 0), (1494, .iaload, 1, 22, 0, 0, 0, 0, 0, 0), (1495, .invokevirtual 221, 3, 23, 223, 0, 0, 67, 0, 2), (1498, .pop, 1, 11, 0, 0, 0, 0, 0, 0), (1499, .aload_n 2, 1, 3, 0, 0, 0, 0, 0, 0), (1500, .aload_n 0, 1, 3, 0, 0, 0, 0, 0, 0), (1501, .iload_n 3, 1, 2, 0, 0, 0, 0, 0, 0), (1502, .iconst 1, 1, 0, 0, 0, 0, 0, 0, 0), (1503, .iadd, 1, 7, 0, 0, 0, 0, 0, 0)]), (1520, [(1504, .iaload, 1, 22, 0, 0, 0, 0, 0, 0), (1505, .aload_n 0, 1, 3, 0, 0, 0, 0, 0, 0), (1506, .iload_n 3, 1, 2, 0, 0, 0, 0, 0, 0), (1507, .iconst 2, 1, 0, 0, 0, 0, 0, 0, 0), (1508, .iadd, 1, 7, 0, 0, 0, 0, 0, 0), (1509, .iaload, 1, 22, 0, 0, 0, 0, 0, 0), (1510, .invokevirtual 224, 3, 23, 224, 0, 0, 279, 0, 2), (1513, .pop, 1, 11, 0, 0, 0, 0, 0, 0), (1514, .goto 105, 3, 0, 0, 0, 0, 0, 0, 0), (1517, .aload_n 1, 1, 3, 0, 0, 0, 0, 0, 0), (1518, .aload_n 0, 1, 3, 0, 0, 0, 0, 0, 0), (1519, .iload_n 3, 1, 2, 0, 0, 0, 0, 0, 0)]), (1534, [(1520, .iconst 1, 1, 0, 0, 0, 0, 0, 0, 0), (1521, .iadd, 1, 7, 0, 0, 0, 0, 0, 0), (1522, .iaload, 1, 22, 0, 0, 0, 0, 0, 0), (1523, .aload_n 0, 1, 3, 0, 0, 0, 0, 0, 0), (1524, .iload_n 3, 1, 2, 0, 0, 0, 0, 0, 0), (1525, .iconst 2, 1, 0, 0, 0, 0, 0, 0, 0), (1526, .iadd, 1, 7, 0, 0, 0, 0, 0, 0), (1527, .iaload, 1, 22, 0, 0, 0, 0, 0, 0), (1528, .invokevirtual 225, 3, 23, 225, 0, 0, 3, 0, 2), (1531, .pop, 1, 11, 0, 0, 0, 0, 0, 0), (1532, .aload_n 2, 1, 3, 0, 0, 0, 0, 0, 0), (1533, .aload_n 0, 1, 3, 0, 0, 0, 0, 0, 0)])]
set_option maxRecDepth 100000 in
theorem ee_B154_26ok : ee_B154_26.all (ee_Bb 10 code false) = true := by decide +kernel
def ee_B154_27 : List (Nat × List ee_en) := [(1550, [(1534, .iload_n 3, 1, 2, 0, 0, 0, 0, 0, 0), (1535, .iconst 1, 1, 0, 0, 0, 0, 0, 0, 0), (1536, .iadd, 1, 7, 0, 0, 0, 0, 0, 0), (1537, .iaload, 1, 22, 0, 0, 0, 0, 0, 0), (1538, .aload_n 0, 1, 3, 0, 0, 0, 0, 0, 0), (1539, .iload_n 3, 1, 2, 0, 0, 0, 0, 0, 0), (1540, .iconst 2, 1, 0, 0, 0, 0, 0, 0, 0), (1541, .iadd, 1, 7, 0, 0, 0, 0, 0, 0), (1542, .iaload, 1, 22, 0, 0, 0, 0, 0, 0), (1543, .invokevirtual 228, 3, 23, 226, 0, 0, 161, 0, 2), (1546, .pop, 1, 11, 0, 0, 0, 0, 0, 0), (1547, .goto 72, 3, 0, 0, 0, 0, 0, 0, 0)]), (1564, [(1550, .aload_n 1, 1, 3, 0, 0, 0, 0, 0, 0), (1551, .aload_n 0, 1, 3, 0, 0, 0, 0, 0, 0), (1552, .iload_n 3, 1, 2, 0, 0, 0, 0, 0, 0), (1553, .iconst 1, 1, 0, 0, 0, 0, 0, 0, 0), (1554, .iadd, 1, 7, 0, 0, 0, 0, 0, 0), (1555, .iaload, 1, 22, 0, 0, 0, 0, 0, 0), (1556, .invokevirtual 229, 3, 23, 227, 0, 0, 25, 0, 1), (1559, .pop, 1, 11, 0, 0, 0, 0, 0, 0), (1560, .aload_n 2, 1, 3, 0, 0, 0, 0, 0, 0), (1561, .aload_n 0, 1, 3, 0, 0, 0, 0, 0, 0), (1562, .iload_n 3, 1, 2, 0, 0, 0, 0, 0, 0), (1563, .iconst 1, 1, 0, 0, 0, 0, 0, 0, 0)]), (1582, [(1564, .iadd, 1, 7, 0, 0, 0, 0, 0, 0), (1565, .iaload, 1, 22, 0, 0, 0, 0, 0, 0), (1566, .invokevirtual 232, 3, 23, 228, 0, 0, 205, 0, 1), (1569, .pop, 1, 11, 0, 0, 0, 0, 0, 0), (1570, .goto 49, 3, 0, 0, 0, 0, 0, 0, 0), (1573, .aload_n 1, 1, 3, 0, 0, 0, 0, 0, 0), (1574, .aload_n 0, 1, 3, 0, 0, 0, 0, 0, 0), (1575, .iload_n 3, 1, 2, 0, 0, 0, 0, 0, 0), (1576, .iconst 1, 1, 0, 0, 0, 0, 0, 0, 0), (1577, .iadd, 1, 7, 0, 0, 0, 0, 0, 0), (1578, .iaload, 1, 22, 0, 0, 0, 0, 0, 0), (1579, .invokevirtual 233, 3, 23, 229, 0, 0, 4, 0, 1)])]
set_option maxRecDepth 100000 in
theorem ee_B154_27ok : ee_B154_27.all (ee_Bb 10 code false) = true := by decide +kernel
end
section
def ee_B154_28 : List (Nat × List ee_en) := [(1598, [(1582, .pop, 1, 11, 0, 0, 0, 0, 0, 0), (1583, .aload_n 2, 1, 3, 0, 0, 0, 0, 0, 0), (1584, .aload_n 0, 1, 3, 0, 0, 0, 0, 0, 0), (1585, .iload_n 3, 1, 2, 0, 0, 0, 0, 0, 0), (1586, .iconst 1, 1, 0, 0, 0, 0, 0, 0, 0), (1587, .iadd, 1, 7, 0, 0, 0, 0, 0, 0), (1588, .iaload, 1, 22, 0, 0, 0, 0, 0, 0), (1589, .invokevirtual 236, 3, 23, 230, 0, 0, 163, 0, 1), (1592, .pop, 1, 11, 0, 0, 0, 0, 0, 0), (1593, .goto 26, 3, 0, 0, 0, 0, 0, 0, 0), (1596, .aload_n 1, 1, 3, 0, 0, 0, 0, 0, 0), (1597, .aload_n 0, 1, 3, 0, 0, 0, 0, 0, 0)]), (1612, [(1598, .iload_n 3, 1, 2, 0, 0, 0, 0, 0, 0), (1599, .iconst 1, 1, 0, 0, 0, 0, 0, 0, 0), (1600, .iadd, 1, 7, 0, 0, 0, 0, 0, 0), (1601, .iaload, 1, 22, 0, 0, 0, 0, 0, 0), (1602, .invokevirtual 237, 3, 23, 231, 0, 0, 1, 0, 1), (1605, .pop, 1, 11, 0, 0, 0, 0, 0, 0), (1606, .aload_n 2, 1, 3, 0, 0, 0, 0, 0, 0), (1607, .aload_n 0, 1, 3, 0, 0, 0, 0, 0, 0), (1608, .iload_n 3, 1, 2, 0, 0, 0, 0, 0, 0), (1609, .iconst 1, 1, 0, 0, 0, 0, 0, 0, 0), (1610, .iadd, 1, 7, 0, 0, 0, 0, 0, 0), (1611, .iaload, 1, 22, 0, 0, 0, 0, 0, 0)]), (1627, [(1612, .invokevirtual 240, 3, 23, 232, 0, 0, 156, 0, 1), (1615, .pop, 1, 11, 0, 0, 0, 0, 0, 0), (1616, .goto 3, 3, 0, 0, 0, 0, 0, 0, 0), (1619, .iinc 3 6, 3, 6, 0, 0, 0, 0, 0, 0), (1622, .goto (-1604), 3, 0, 0, 0, 0, 0, 0, 0), (1625, .iconst 1, 1, 0, 0, 0, 0, 0, 0, 0), (1626, .ireturn, 1, 21, 0, 0, 0, 0, 0, 0)])]
set_option maxRecDepth 100000 in
theorem ee_B154_28ok : ee_B154_28.all (ee_Bb 10 code false) = true := by decide +kernel
def ee_B154 : List (Nat × List ee_en) := ee_B154_0 ++ (ee_B154_1 ++ (ee_B154_2 ++ (ee_B154_3 ++ (ee_B154_4 ++ (ee_B154_5 ++ (ee_B154_6 ++ (ee_B154_7 ++ (ee_B154_8 ++ (ee_B154_9 ++ (ee_B154_10 ++ (ee_B154_11 ++ (ee_B154_12 ++ (ee_B154_13 ++ (ee_B154_14 ++ (ee_B154_15 ++ (ee_B154_16 ++ (ee_B154_17 ++ (ee_B154_18 ++ (ee_B154_19 ++ (ee_B154_20 ++ (ee_B154_21 ++ (ee_B154_22 ++ (ee_B154_23 ++ (ee_B154_24 ++ (ee_B154_25 ++ (ee_B154_26 ++ (ee_B154_27 ++ (ee_B154_28))))))))))))))))))))))))))))
def ee_me154 : ee_me := (10, ⟨"PepperTablesLaw", "law", "([I)Z"⟩, code, 4, (some .boolean), ee_B154, 98, 11043)
theorem ee_B154ok : ee_B154.all (ee_Bb 10 code false) = true := by
  unfold ee_B154
  simp only [List.all_append, ee_B154_0ok, ee_B154_1ok, ee_B154_2ok, ee_B154_3ok, ee_B154_4ok, ee_B154_5ok, ee_B154_6ok, ee_B154_7ok, ee_B154_8ok, ee_B154_9ok, ee_B154_10ok, ee_B154_11ok, ee_B154_12ok, ee_B154_13ok, ee_B154_14ok, ee_B154_15ok, ee_B154_16ok, ee_B154_17ok, ee_B154_18ok, ee_B154_19ok, ee_B154_20ok, ee_B154_21ok, ee_B154_22ok, ee_B154_23ok, ee_B154_24ok, ee_B154_25ok, ee_B154_26ok, ee_B154_27ok, ee_B154_28ok, Bool.and_self]
theorem ee_me154ok : ee_Mb ee_me154 = true := by
  have h : decide (ee_own[10]? = some (⟨"PepperTablesLaw", "law", "([I)Z"⟩ : MethodName).cls) = true := by decide +kernel
  show (decide (ee_own[10]? = some (⟨"PepperTablesLaw", "law", "([I)Z"⟩ : MethodName).cls) && ee_B154.all (ee_Bb 10 code (decide ((⟨"PepperTablesLaw", "law", "([I)Z"⟩ : MethodName).name = "<init>")))) = true
  have h2 : decide ((⟨"PepperTablesLaw", "law", "([I)Z"⟩ : MethodName).name = "<init>") = false := by decide +kernel
  rw [h, h2, ee_B154ok]
  rfl
end
section
/- 155: PepperTablesModel.<init>()V -/
def ee_B155 : List (Nat × List ee_en) := [(24, [(0, .aload_n 0, 1, 3, 0, 0, 0, 0, 0, 0), (1, .invokespecial 1, 3, 20, 9, 1, 0, 0, 0, 0), (4, .aload_n 0, 1, 3, 0, 0, 0, 0, 0, 0), (5, .sipush 1620, 3, 0, 0, 0, 0, 0, 0, 0), (8, .newarray .byte, 2, 18, 0, 0, 0, 0, 0, 0), (10, .putfield 7, 3, 15, 138, 0, 0, 9, 0, 3), (13, .aload_n 0, 1, 3, 0, 0, 0, 0, 0, 0), (14, .sipush 1600, 3, 0, 0, 0, 0, 0, 0, 0), (17, .newarray .byte, 2, 18, 0, 0, 0, 0, 0, 0), (19, .putfield 13, 3, 15, 139, 0, 0, 9, 1, 3), (22, .aload_n 0, 1, 3, 0, 0, 0, 0, 0, 0), (23, .iconst (-1), 1, 0, 0, 0, 0, 0, 0, 0)]), (45, [(24, .putfield 16, 3, 15, 140, 0, 0, 9, 5, 0), (27, .aload_n 0, 1, 3, 0, 0, 0, 0, 0, 0), (28, .iconst 2, 1, 0, 0, 0, 0, 0, 0, 0), (29, .newarray .int, 2, 18, 0, 0, 0, 0, 0, 0), (31, .putfield 20, 3, 15, 141, 0, 0, 9, 11, 3), (34, .aload_n 0, 1, 3, 0, 0, 0, 0, 0, 0), (35, .iconst 2, 1, 0, 0, 0, 0, 0, 0, 0), (36, .newarray .int, 2, 18, 0, 0, 0, 0, 0, 0), (38, .putfield 24, 3, 15, 142, 0, 0, 9, 12, 3), (41, .aload_n 0, 1, 3, 0, 0, 0, 0, 0, 0), (42, .iconst 2, 1, 0, 0, 0, 0, 0, 0, 0), (43, .newarray .int, 2, 18, 0, 0, 0, 0, 0, 0)]), (66, [(45, .putfield 27, 3, 15, 143, 0, 0, 9, 13, 3), (48, .aload_n 0, 1, 3, 0, 0, 0, 0, 0, 0), (49, .iconst 2, 1, 0, 0, 0, 0, 0, 0, 0), (50, .newarray .int, 2, 18, 0, 0, 0, 0, 0, 0), (52, .putfield 30, 3, 15, 144, 0, 0, 9, 14, 3), (55, .aload_n 0, 1, 3, 0, 0, 0, 0, 0, 0), (56, .iconst 2, 1, 0, 0, 0, 0, 0, 0, 0), (57, .newarray .int, 2, 18, 0, 0, 0, 0, 0, 0), (59, .putfield 33, 3, 15, 145, 0, 0, 9, 15, 3), (62, .aload_n 0, 1, 3, 0, 0, 0, 0, 0, 0), (63, .iconst 2, 1, 0, 0, 0, 0, 0, 0, 0), (64, .newarray .int, 2, 18, 0, 0, 0, 0, 0, 0)]), (89, [(66, .putfield 36, 3, 15, 146, 0, 0, 9, 16, 3), (69, .aload_n 0, 1, 3, 0, 0, 0, 0, 0, 0), (70, .iconst 2, 1, 0, 0, 0, 0, 0, 0, 0), (71, .newarray .int, 2, 18, 0, 0, 0, 0, 0, 0), (73, .putfield 39, 3, 15, 147, 0, 0, 9, 17, 3), (76, .aload_n 0, 1, 3, 0, 0, 0, 0, 0, 0), (77, .bipush 12, 2, 0, 0, 0, 0, 0, 0, 0), (79, .newarray .int, 2, 18, 0, 0, 0, 0, 0, 0), (81, .putfield 42, 3, 15, 148, 0, 0, 9, 18, 3), (84, .aload_n 0, 1, 3, 0, 0, 0, 0, 0, 0), (85, .bipush 20, 2, 0, 0, 0, 0, 0, 0, 0), (87, .newarray .int, 2, 18, 0, 0, 0, 0, 0, 0)]), (113, [(89, .putfield 45, 3, 15, 149, 0, 0, 9, 19, 3), (92, .aload_n 0, 1, 3, 0, 0, 0, 0, 0, 0), (93, .bipush 20, 2, 0, 0, 0, 0, 0, 0, 0), (95, .newarray .int, 2, 18, 0, 0, 0, 0, 0, 0), (97, .putfield 48, 3, 15, 150, 0, 0, 9, 20, 3), (100, .aload_n 0, 1, 3, 0, 0, 0, 0, 0, 0), (101, .bipush 20, 2, 0, 0, 0, 0, 0, 0, 0), (103, .newarray .int, 2, 18, 0, 0, 0, 0, 0, 0), (105, .putfield 51, 3, 15, 151, 0, 0, 9, 21, 3), (108, .aload_n 0, 1, 3, 0, 0, 0, 0, 0, 0), (109, .bipush 20, 2, 0, 0, 0, 0, 0, 0, 0), (111, .newarray .int, 2, 18, 0, 0, 0, 0, 0, 0)]), (135, [(113, .putfield 54, 3, 15, 152, 0, 0, 9, 22, 3), (116, .aload_n 0, 1, 3, 0, 0, 0, 0, 0, 0), (117, .iconst 2, 1, 0, 0, 0, 0, 0, 0, 0), (118, .newarray .int, 2, 18, 0, 0, 0, 0, 0, 0), (120, .putfield 57, 3, 15, 153, 0, 0, 9, 23, 3), (123, .aload_n 0, 1, 3, 0, 0, 0, 0, 0, 0), (124, .iconst 2, 1, 0, 0, 0, 0, 0, 0, 0), (125, .newarray .int, 2, 18, 0, 0, 0, 0, 0, 0), (127, .putfield 60, 3, 15, 154, 0, 0, 9, 24, 3), (130, .aload_n 0, 1, 3, 0, 0, 0, 0, 0, 0), (131, .bipush 12, 2, 0, 0, 0, 0, 0, 0, 0), (133, .newarray .long, 2, 18, 0, 0, 0, 0, 0, 0)]), (160, [(135, .putfield 63, 3, 15, 155, 0, 0, 9, 25, 3), (138, .aload_n 0, 1, 3, 0, 0, 0, 0, 0, 0), (139, .bipush 10, 2, 0, 0, 0, 0, 0, 0, 0), (141, .newarray .long, 2, 18, 0, 0, 0, 0, 0, 0), (143, .putfield 67, 3, 15, 156, 0, 0, 9, 26, 3), (146, .aload_n 0, 1, 3, 0, 0, 0, 0, 0, 0), (147, .bipush 20, 2, 0, 0, 0, 0, 0, 0, 0), (149, .newarray .long, 2, 18, 0, 0, 0, 0, 0, 0), (151, .putfield 70, 3, 15, 157, 0, 0, 9, 27, 3), (154, .aload_n 0, 1, 3, 0, 0, 0, 0, 0, 0), (155, .sipush 1120, 3, 0, 0, 0, 0, 0, 0, 0), (158, .newarray .int, 2, 18, 0, 0, 0, 0, 0, 0)]), (185, [(160, .putfield 73, 3, 15, 158, 0, 0, 9, 28, 3), (163, .aload_n 0, 1, 3, 0, 0, 0, 0, 0, 0), (164, .sipush 1120, 3, 0, 0, 0, 0, 0, 0, 0), (167, .newarray .int, 2, 18, 0, 0, 0, 0, 0, 0), (169, .putfield 76, 3, 15, 159, 0, 0, 9, 29, 3), (172, .aload_n 0, 1, 3, 0, 0, 0, 0, 0, 0), (173, .bipush 90, 2, 0, 0, 0, 0, 0, 0, 0), (175, .newarray .int, 2, 18, 0, 0, 0, 0, 0, 0), (177, .putfield 79, 3, 15, 160, 0, 0, 9, 30, 3), (180, .aload_n 0, 1, 3, 0, 0, 0, 0, 0, 0), (181, .bipush 90, 2, 0, 0, 0, 0, 0, 0, 0), (183, .newarray .int, 2, 18, 0, 0, 0, 0, 0, 0)]), (209, [(185, .putfield 82, 3, 15, 161, 0, 0, 9, 31, 3), (188, .aload_n 0, 1, 3, 0, 0, 0, 0, 0, 0), (189, .bipush 60, 2, 0, 0, 0, 0, 0, 0, 0), (191, .newarray .int, 2, 18, 0, 0, 0, 0, 0, 0), (193, .putfield 85, 3, 15, 162, 0, 0, 9, 32, 3), (196, .aload_n 0, 1, 3, 0, 0, 0, 0, 0, 0), (197, .bipush 19, 2, 0, 0, 0, 0, 0, 0, 0), (199, .newarray .int, 2, 18, 0, 0, 0, 0, 0, 0), (201, .putfield 88, 3, 15, 163, 0, 0, 9, 42, 3), (204, .aload_n 0, 1, 3, 0, 0, 0, 0, 0, 0), (205, .iconst (-1), 1, 0, 0, 0, 0, 0, 0, 0), (206, .putfield 91, 3, 15, 164, 0, 0, 9, 43, 0)]), (234, [(209, .aload_n 0, 1, 3, 0, 0, 0, 0, 0, 0), (210, .sipush 779, 3, 0, 0, 0, 0, 0, 0, 0), (213, .newarray .int, 2, 18, 0, 0, 0, 0, 0, 0), (215, .putfield 94, 3, 15, 165, 0, 0, 9, 45, 3), (218, .aload_n 0, 1, 3, 0, 0, 0, 0, 0, 0), (219, .bipush 19, 2, 0, 0, 0, 0, 0, 0, 0), (221, .newarray .int, 2, 18, 0, 0, 0, 0, 0, 0), (223, .putfield 97, 3, 15, 166, 0, 0, 9, 48, 3), (226, .aload_n 0, 1, 3, 0, 0, 0, 0, 0, 0), (227, .bipush 6, 2, 0, 0, 0, 0, 0, 0, 0), (229, .newarray .int, 2, 18, 0, 0, 0, 0, 0, 0), (231, .putfield 100, 3, 15, 167, 0, 0, 9, 49, 3)]), (259, [(234, .aload_n 0, 1, 3, 0, 0, 0, 0, 0, 0), (235, .bipush 8, 2, 0, 0, 0, 0, 0, 0, 0), (237, .newarray .int, 2, 18, 0, 0, 0, 0, 0, 0), (239, .putfield 103, 3, 15, 168, 0, 0, 9, 51, 3), (242, .aload_n 0, 1, 3, 0, 0, 0, 0, 0, 0), (243, .sipush 180, 3, 0, 0, 0, 0, 0, 0, 0), (246, .newarray .int, 2, 18, 0, 0, 0, 0, 0, 0), (248, .putfield 106, 3, 15, 169, 0, 0, 9, 52, 3), (251, .aload_n 0, 1, 3, 0, 0, 0, 0, 0, 0), (252, .bipush 30, 2, 0, 0, 0, 0, 0, 0, 0), (254, .newarray .int, 2, 18, 0, 0, 0, 0, 0, 0), (256, .putfield 109, 3, 15, 170, 0, 0, 9, 53, 3)]), (283, [(259, .aload_n 0, 1, 3, 0, 0, 0, 0, 0, 0), (260, .bipush 30, 2, 0, 0, 0, 0, 0, 0, 0), (262, .newarray .int, 2, 18, 0, 0, 0, 0, 0, 0), (264, .putfield 112, 3, 15, 171, 0, 0, 9, 54, 3), (267, .aload_n 0, 1, 3, 0, 0, 0, 0, 0, 0), (268, .bipush 30, 2, 0, 0, 0, 0, 0, 0, 0), (270, .newarray .int, 2, 18, 0, 0, 0, 0, 0, 0), (272, .putfield 115, 3, 15, 172, 0, 0, 9, 55, 3), (275, .aload_n 0, 1, 3, 0, 0, 0, 0, 0, 0), (276, .bipush 30, 2, 0, 0, 0, 0, 0, 0, 0), (278, .newarray .int, 2, 18, 0, 0, 0, 0, 0, 0), (280, .putfield 118, 3, 15, 173, 0, 0, 9, 56, 3)]), (307, [(283, .aload_n 0, 1, 3, 0, 0, 0, 0, 0, 0), (284, .bipush 30, 2, 0, 0, 0, 0, 0, 0, 0), (286, .newarray .int, 2, 18, 0, 0, 0, 0, 0, 0), (288, .putfield 121, 3, 15, 174, 0, 0, 9, 57, 3), (291, .aload_n 0, 1, 3, 0, 0, 0, 0, 0, 0), (292, .bipush 12, 2, 0, 0, 0, 0, 0, 0, 0), (294, .newarray .int, 2, 18, 0, 0, 0, 0, 0, 0), (296, .putfield 124, 3, 15, 175, 0, 0, 9, 58, 3), (299, .aload_n 0, 1, 3, 0, 0, 0, 0, 0, 0), (300, .bipush 11, 2, 0, 0, 0, 0, 0, 0, 0), (302, .newarray .int, 2, 18, 0, 0, 0, 0, 0, 0), (304, .putfield 127, 3, 15, 176, 0, 0, 9, 59, 3)]), (330, [(307, .aload_n 0, 1, 3, 0, 0, 0, 0, 0, 0), (308, .bipush 57, 2, 0, 0, 0, 0, 0, 0, 0), (310, .newarray .int, 2, 18, 0, 0, 0, 0, 0, 0), (312, .putfield 130, 3, 15, 177, 0, 0, 9, 63, 3), (315, .aload_n 0, 1, 3, 0, 0, 0, 0, 0, 0), (316, .iconst 3, 1, 0, 0, 0, 0, 0, 0, 0), (317, .newarray .boolean, 2, 18, 0, 0, 0, 0, 0, 0), (319, .putfield 133, 3, 15, 178, 0, 0, 9, 64, 3), (322, .aload_n 0, 1, 3, 0, 0, 0, 0, 0, 0), (323, .invokevirtual 137, 3, 23, 233, 0, 0, 172, 0, 0), (326, .aload_n 0, 1, 3, 0, 0, 0, 0, 0, 0), (327, .invokevirtual 140, 3, 23, 234, 0, 0, 276, 0, 0)]), (331, [(330, .return_, 1, 21, 0, 0, 0, 0, 0, 0)])]
def ee_me155 : ee_me := (9, ⟨"PepperTablesModel", "<init>", "()V"⟩, prog_11_method_1_code, 1, none, ee_B155, 39, 7096)
set_option maxRecDepth 100000 in
theorem ee_me155ok : ee_Mb ee_me155 = true := by decide +kernel
/- 156: PepperTablesModel.about(I)I -/
def ee_B156 : List (Nat × List ee_en) := [(96, [(0, .iload_n 1, 1, 2, 0, 0, 0, 0, 0, 0), (1, .tableswitch 183 0 15 #[79, 84, 89, 94, 101, 108, 116, 124, 129, 134, 139, 144, 149, 159, 164, 174], 79, 13, 0, 0, 0, 0, 0, 0), (80, .aload_n 0, 1, 3, 0, 0, 0, 0, 0, 0), (81, .invokevirtual 368, 3, 23, 235, 0, 0, 238, 0, 0), (84, .ireturn, 1, 21, 0, 0, 0, 0, 0, 0), (85, .aload_n 0, 1, 3, 0, 0, 0, 0, 0, 0), (86, .invokevirtual 358, 3, 23, 236, 0, 0, 190, 0, 0), (89, .ireturn, 1, 21, 0, 0, 0, 0, 0, 0), (90, .aload_n 0, 1, 3, 0, 0, 0, 0, 0, 0), (91, .invokevirtual 365, 3, 23, 237, 0, 0, 164, 0, 0), (94, .ireturn, 1, 21, 0, 0, 0, 0, 0, 0), (95, .aload_n 0, 1, 3, 0, 0, 0, 0, 0, 0)]), (115, [(96, .getfield 88, 3, 14, 163, 0, 0, 9, 42, 3), (99, .iconst 0, 1, 0, 0, 0, 0, 0, 0, 0), (100, .iaload, 1, 22, 0, 0, 0, 0, 0, 0), (101, .ireturn, 1, 21, 0, 0, 0, 0, 0, 0), (102, .aload_n 0, 1, 3, 0, 0, 0, 0, 0, 0), (103, .getfield 88, 3, 14, 163, 0, 0, 9, 42, 3), (106, .iconst 1, 1, 0, 0, 0, 0, 0, 0, 0), (107, .iaload, 1, 22, 0, 0, 0, 0, 0, 0), (108, .ireturn, 1, 21, 0, 0, 0, 0, 0, 0), (109, .aload_n 0, 1, 3, 0, 0, 0, 0, 0, 0), (110, .getfield 88, 3, 14, 163, 0, 0, 9, 42, 3), (113, .bipush 17, 2, 0, 0, 0, 0, 0, 0, 0)]), (134, [(115, .iaload, 1, 22, 0, 0, 0, 0, 0, 0), (116, .ireturn, 1, 21, 0, 0, 0, 0, 0, 0), (117, .aload_n 0, 1, 3, 0, 0, 0, 0, 0, 0), (118, .getfield 88, 3, 14, 163, 0, 0, 9, 42, 3), (121, .bipush 18, 2, 0, 0, 0, 0, 0, 0, 0), (123, .iaload, 1, 22, 0, 0, 0, 0, 0, 0), (124, .ireturn, 1, 21, 0, 0, 0, 0, 0, 0), (125, .aload_n 0, 1, 3, 0, 0, 0, 0, 0, 0), (126, .getfield 374, 3, 14, 179, 0, 0, 9, 46, 0), (129, .ireturn, 1, 21, 0, 0, 0, 0, 0, 0), (130, .aload_n 0, 1, 3, 0, 0, 0, 0, 0, 0), (131, .getfield 377, 3, 14, 180, 0, 0, 9, 47, 0)]), (154, [(134, .ireturn, 1, 21, 0, 0, 0, 0, 0, 0), (135, .aload_n 0, 1, 3, 0, 0, 0, 0, 0, 0), (136, .getfield 380, 3, 14, 181, 0, 0, 9, 60, 0), (139, .ireturn, 1, 21, 0, 0, 0, 0, 0, 0), (140, .aload_n 0, 1, 3, 0, 0, 0, 0, 0, 0), (141, .getfield 482, 3, 14, 182, 0, 0, 9, 61, 0), (144, .ireturn, 1, 21, 0, 0, 0, 0, 0, 0), (145, .aload_n 0, 1, 3, 0, 0, 0, 0, 0, 0), (146, .getfield 250, 3, 14, 183, 0, 0, 9, 2, 0), (149, .ireturn, 1, 21, 0, 0, 0, 0, 0, 0), (150, .aload_n 0, 1, 3, 0, 0, 0, 0, 0, 0), (151, .getfield 30, 3, 14, 144, 0, 0, 9, 14, 3)]), (174, [(154, .aload_n 0, 1, 3, 0, 0, 0, 0, 0, 0), (155, .getfield 253, 3, 14, 184, 0, 0, 9, 33, 0), (158, .iaload, 1, 22, 0, 0, 0, 0, 0, 0), (159, .ireturn, 1, 21, 0, 0, 0, 0, 0, 0), (160, .aload_n 0, 1, 3, 0, 0, 0, 0, 0, 0), (161, .getfield 383, 3, 14, 185, 0, 0, 9, 50, 0), (164, .ireturn, 1, 21, 0, 0, 0, 0, 0, 0), (165, .aload_n 0, 1, 3, 0, 0, 0, 0, 0, 0), (166, .getfield 33, 3, 14, 145, 0, 0, 9, 15, 3), (169, .aload_n 0, 1, 3, 0, 0, 0, 0, 0, 0), (170, .getfield 253, 3, 14, 184, 0, 0, 9, 33, 0), (173, .iaload, 1, 22, 0, 0, 0, 0, 0, 0)]), (186, [(174, .ireturn, 1, 21, 0, 0, 0, 0, 0, 0), (175, .aload_n 0, 1, 3, 0, 0, 0, 0, 0, 0), (176, .aload_n 0, 1, 3, 0, 0, 0, 0, 0, 0), (177, .invokevirtual 416, 3, 23, 238, 0, 0, 229, 0, 0), (180, .invokevirtual 348, 3, 23, 239, 0, 0, 198, 0, 1), (183, .ireturn, 1, 21, 0, 0, 0, 0, 0, 0), (184, .iconst (-1), 1, 0, 0, 0, 0, 0, 0, 0), (185, .ireturn, 1, 21, 0, 0, 0, 0, 0, 0)])]
def ee_me156 : ee_me := (9, ⟨"PepperTablesModel", "about", "(I)I"⟩, prog_11_method_137_code, 2, (some .int), ee_B156, 0, 0)
set_option maxRecDepth 100000 in
theorem ee_me156ok : ee_Mb ee_me156 = true := by decide +kernel
/- 157: PepperTablesModel.after(I)I -/
def ee_B157 : List (Nat × List ee_en) := [(22, [(0, .aload_n 0, 1, 3, 0, 0, 0, 0, 0, 0), (1, .iload_n 1, 1, 2, 0, 0, 0, 0, 0, 0), (2, .invokevirtual 422, 3, 23, 240, 0, 0, 224, 0, 1), (5, .ifCond .eq 22, 3, 12, 0, 0, 0, 0, 0, 0), (8, .aload_n 0, 1, 3, 0, 0, 0, 0, 0, 0), (9, .iload_n 1, 1, 2, 0, 0, 0, 0, 0, 0), (10, .invokevirtual 386, 3, 23, 241, 0, 0, 223, 0, 1), (13, .ifCond .eq 14, 3, 12, 0, 0, 0, 0, 0, 0), (16, .aload_n 0, 1, 3, 0, 0, 0, 0, 0, 0), (17, .getfield 88, 3, 14, 163, 0, 0, 9, 42, 3), (20, .iconst 2, 1, 0, 0, 0, 0, 0, 0, 0), (21, .iload_n 1, 1, 2, 0, 0, 0, 0, 0, 0)]), (41, [(22, .iadd, 1, 7, 0, 0, 0, 0, 0, 0), (23, .iaload, 1, 22, 0, 0, 0, 0, 0, 0), (24, .ifCond .ge 5, 3, 12, 0, 0, 0, 0, 0, 0), (27, .iconst (-1), 1, 0, 0, 0, 0, 0, 0, 0), (28, .ireturn, 1, 21, 0, 0, 0, 0, 0, 0), (29, .aload_n 0, 1, 3, 0, 0, 0, 0, 0, 0), (30, .invokevirtual 458, 3, 23, 242, 0, 0, 227, 0, 0), (33, .iconst 0, 1, 0, 0, 0, 0, 0, 0, 0), (34, .istore_n 2, 1, 4, 0, 0, 0, 0, 0, 0), (35, .iload_n 2, 1, 2, 0, 0, 0, 0, 0, 0), (36, .bipush 9, 2, 0, 0, 0, 0, 0, 0, 0), (38, .if_icmp .ge 30, 3, 12, 0, 0, 0, 0, 0, 0)]), (61, [(41, .aload_n 0, 1, 3, 0, 0, 0, 0, 0, 0), (42, .iload_n 1, 1, 2, 0, 0, 0, 0, 0, 0), (43, .invokevirtual 386, 3, 23, 241, 0, 0, 223, 0, 1), (46, .ifCond .eq 22, 3, 12, 0, 0, 0, 0, 0, 0), (49, .aload_n 0, 1, 3, 0, 0, 0, 0, 0, 0), (50, .aload_n 0, 1, 3, 0, 0, 0, 0, 0, 0), (51, .getfield 97, 3, 14, 166, 0, 0, 9, 48, 3), (54, .iconst 2, 1, 0, 0, 0, 0, 0, 0, 0), (55, .iload_n 1, 1, 2, 0, 0, 0, 0, 0, 0), (56, .iadd, 1, 7, 0, 0, 0, 0, 0, 0), (57, .iaload, 1, 22, 0, 0, 0, 0, 0, 0), (58, .invokevirtual 440, 3, 23, 243, 0, 0, 194, 0, 1)]), (83, [(61, .istore_n 3, 1, 4, 0, 0, 0, 0, 0, 0), (62, .iinc 2 1, 3, 6, 0, 0, 0, 0, 0, 0), (65, .goto (-30), 3, 0, 0, 0, 0, 0, 0, 0), (68, .aload_n 0, 1, 3, 0, 0, 0, 0, 0, 0), (69, .iload_n 1, 1, 2, 0, 0, 0, 0, 0, 0), (70, .invokevirtual 386, 3, 23, 241, 0, 0, 223, 0, 1), (73, .ifCond .ne 7, 3, 12, 0, 0, 0, 0, 0, 0), (76, .iconst 1, 1, 0, 0, 0, 0, 0, 0, 0), (77, .goto 4, 3, 0, 0, 0, 0, 0, 0, 0), (80, .iconst 0, 1, 0, 0, 0, 0, 0, 0, 0), (81, .istore_n 3, 1, 4, 0, 0, 0, 0, 0, 0), (82, .aload_n 0, 1, 3, 0, 0, 0, 0, 0, 0)]), (96, [(83, .invokevirtual 464, 3, 23, 244, 0, 0, 169, 0, 0), (86, .iload_n 3, 1, 2, 0, 0, 0, 0, 0, 0), (87, .ifCond .eq 7, 3, 12, 0, 0, 0, 0, 0, 0), (90, .iload_n 2, 1, 2, 0, 0, 0, 0, 0, 0), (91, .goto 4, 3, 0, 0, 0, 0, 0, 0, 0), (94, .iconst (-1), 1, 0, 0, 0, 0, 0, 0, 0), (95, .ireturn, 1, 21, 0, 0, 0, 0, 0, 0)])]
def ee_me157 : ee_me := (9, ⟨"PepperTablesModel", "after", "(I)I"⟩, prog_11_method_113_code, 4, (some .int), ee_B157, 0, 0)
set_option maxRecDepth 100000 in
theorem ee_me157ok : ee_Mb ee_me157 = true := by decide +kernel
/- 158: PepperTablesModel.afterWord(JII)I -/
def ee_B158 : List (Nat × List ee_en) := [(17, [(0, .aload_n 0, 1, 3, 0, 0, 0, 0, 0, 0), (1, .aload_n 0, 1, 3, 0, 0, 0, 0, 0, 0), (2, .lload_n 1, 1, 3, 0, 0, 0, 0, 0, 0), (3, .invokevirtual 233, 3, 23, 245, 0, 0, 225, 0, 1), (6, .invokevirtual 236, 3, 23, 246, 0, 0, 241, 0, 1), (9, .aload_n 0, 1, 3, 0, 0, 0, 0, 0, 0), (10, .iload_n 3, 1, 2, 0, 0, 0, 0, 0, 0), (11, .iload 4, 2, 2, 0, 0, 0, 0, 0, 0), (13, .invokevirtual 240, 3, 23, 247, 0, 0, 245, 0, 2), (16, .ireturn, 1, 21, 0, 0, 0, 0, 0, 0)])]
def ee_me158 : ee_me := (9, ⟨"PepperTablesModel", "afterWord", "(JII)I"⟩, prog_11_method_15_code, 5, (some .int), ee_B158, 0, 0)
set_option maxRecDepth 100000 in
theorem ee_me158ok : ee_Mb ee_me158 = true := by decide +kernel
/- 159: PepperTablesModel.allRows()I -/
def ee_B159 : List (Nat × List ee_en) := [(24, [(0, .aload_n 0, 1, 3, 0, 0, 0, 0, 0, 0), (1, .invokevirtual 368, 3, 23, 235, 0, 0, 238, 0, 0), (4, .ifCond .ne 7, 3, 12, 0, 0, 0, 0, 0, 0), (7, .iconst 0, 1, 0, 0, 0, 0, 0, 0, 0), (8, .goto 16, 3, 0, 0, 0, 0, 0, 0, 0), (11, .aload_n 0, 1, 3, 0, 0, 0, 0, 0, 0), (12, .invokevirtual 365, 3, 23, 237, 0, 0, 164, 0, 0), (15, .iconst 1, 1, 0, 0, 0, 0, 0, 0, 0), (16, .iadd, 1, 7, 0, 0, 0, 0, 0, 0), (17, .aload_n 0, 1, 3, 0, 0, 0, 0, 0, 0), (18, .invokevirtual 486, 3, 23, 248, 0, 0, 200, 0, 0), (21, .invokestatic 455, 3, 23, 249, 0, 0, 251, 1, 2)]), (25, [(24, .ireturn, 1, 21, 0, 0, 0, 0, 0, 0)])]
def ee_me159 : ee_me := (9, ⟨"PepperTablesModel", "allRows", "()I"⟩, prog_11_method_129_code, 1, (some .int), ee_B159, 0, 0)
set_option maxRecDepth 100000 in
theorem ee_me159ok : ee_Mb ee_me159 = true := by decide +kernel
/- 160: PepperTablesModel.allSacks()I -/
def ee_B160 : List (Nat × List ee_en) := [(9, [(0, .iconst 1, 1, 0, 0, 0, 0, 0, 0, 0), (1, .aload_n 0, 1, 3, 0, 0, 0, 0, 0, 0), (2, .invokevirtual 365, 3, 23, 237, 0, 0, 164, 0, 0), (5, .ishl, 1, 7, 0, 0, 0, 0, 0, 0), (6, .iconst 1, 1, 0, 0, 0, 0, 0, 0, 0), (7, .isub, 1, 7, 0, 0, 0, 0, 0, 0), (8, .ireturn, 1, 21, 0, 0, 0, 0, 0, 0)])]
def ee_me160 : ee_me := (9, ⟨"PepperTablesModel", "allSacks", "()I"⟩, prog_11_method_66_code, 1, (some .int), ee_B160, 0, 0)
set_option maxRecDepth 100000 in
theorem ee_me160ok : ee_Mb ee_me160 = true := by decide +kernel
/- 161: PepperTablesModel.ask(II)I -/
def ee_B161 : List (Nat × List ee_en) := [(20, [(0, .iload_n 1, 1, 2, 0, 0, 0, 0, 0, 0), (1, .iconst 0, 1, 0, 0, 0, 0, 0, 0, 0), (2, .iconst 1, 1, 0, 0, 0, 0, 0, 0, 0), (3, .invokestatic 361, 3, 23, 250, 0, 0, 214, 1, 3), (6, .ifCond .eq 10, 3, 12, 0, 0, 0, 0, 0, 0), (9, .aload_n 0, 1, 3, 0, 0, 0, 0, 0, 0), (10, .invokevirtual 365, 3, 23, 237, 0, 0, 164, 0, 0), (13, .ifCond .ne 5, 3, 12, 0, 0, 0, 0, 0, 0), (16, .iconst (-1), 1, 0, 0, 0, 0, 0, 0, 0), (17, .ireturn, 1, 21, 0, 0, 0, 0, 0, 0), (18, .aload_n 0, 1, 3, 0, 0, 0, 0, 0, 0), (19, .iload_n 2, 1, 2, 0, 0, 0, 0, 0, 0)]), (40, [(20, .invokevirtual 504, 3, 23, 251, 0, 0, 234, 0, 1), (23, .aload_n 0, 1, 3, 0, 0, 0, 0, 0, 0), (24, .getfield 492, 3, 14, 186, 0, 0, 9, 62, 0), (27, .ifCond .ne 5, 3, 12, 0, 0, 0, 0, 0, 0), (30, .iconst (-1), 1, 0, 0, 0, 0, 0, 0, 0), (31, .ireturn, 1, 21, 0, 0, 0, 0, 0, 0), (32, .iconst 0, 1, 0, 0, 0, 0, 0, 0, 0), (33, .istore_n 3, 1, 4, 0, 0, 0, 0, 0, 0), (34, .iconst 1, 1, 0, 0, 0, 0, 0, 0, 0), (35, .istore 4, 2, 4, 0, 0, 0, 0, 0, 0), (37, .iload 4, 2, 2, 0, 0, 0, 0, 0, 0), (39, .aload_n 0, 1, 3, 0, 0, 0, 0, 0, 0)]), (64, [(40, .invokevirtual 365, 3, 23, 237, 0, 0, 164, 0, 0), (43, .if_icmp .ge 28, 3, 12, 0, 0, 0, 0, 0, 0), (46, .aload_n 0, 1, 3, 0, 0, 0, 0, 0, 0), (47, .iload 4, 2, 2, 0, 0, 0, 0, 0, 0), (49, .iload_n 2, 1, 2, 0, 0, 0, 0, 0, 0), (50, .invokevirtual 508, 3, 23, 252, 0, 0, 240, 0, 2), (53, .aload_n 0, 1, 3, 0, 0, 0, 0, 0, 0), (54, .iload_n 3, 1, 2, 0, 0, 0, 0, 0, 0), (55, .iload_n 2, 1, 2, 0, 0, 0, 0, 0, 0), (56, .invokevirtual 508, 3, 23, 252, 0, 0, 240, 0, 2), (59, .if_icmp .ge 6, 3, 12, 0, 0, 0, 0, 0, 0), (62, .iload 4, 2, 2, 0, 0, 0, 0, 0, 0)]), (86, [(64, .istore_n 3, 1, 4, 0, 0, 0, 0, 0, 0), (65, .iinc 4 1, 3, 6, 0, 0, 0, 0, 0, 0), (68, .goto (-31), 3, 0, 0, 0, 0, 0, 0, 0), (71, .iload_n 1, 1, 2, 0, 0, 0, 0, 0, 0), (72, .ifCond .ne 7, 3, 12, 0, 0, 0, 0, 0, 0), (75, .iload_n 3, 1, 2, 0, 0, 0, 0, 0, 0), (76, .goto 9, 3, 0, 0, 0, 0, 0, 0, 0), (79, .aload_n 0, 1, 3, 0, 0, 0, 0, 0, 0), (80, .iload_n 3, 1, 2, 0, 0, 0, 0, 0, 0), (81, .iload_n 2, 1, 2, 0, 0, 0, 0, 0, 0), (82, .invokevirtual 508, 3, 23, 252, 0, 0, 240, 0, 2), (85, .ireturn, 1, 21, 0, 0, 0, 0, 0, 0)])]
def ee_me161 : ee_me := (9, ⟨"PepperTablesModel", "ask", "(II)I"⟩, prog_11_method_134_code, 5, (some .int), ee_B161, 0, 0)
set_option maxRecDepth 100000 in
theorem ee_me161ok : ee_Mb ee_me161 = true := by decide +kernel
/- 162: PepperTablesModel.asked(II)I -/
def ee_B162 : List (Nat × List ee_en) := [(106, [(0, .iload_n 1, 1, 2, 0, 0, 0, 0, 0, 0), (1, .tableswitch 145 99 116 #[137, 145, 145, 145, 101, 87, 145, 145, 145, 145, 145, 145, 145, 145, 145, 111, 96, 124], 87, 13, 0, 0, 0, 0, 0, 0), (88, .aload_n 0, 1, 3, 0, 0, 0, 0, 0, 0), (89, .aload_n 0, 1, 3, 0, 0, 0, 0, 0, 0), (90, .getfield 330, 3, 14, 187, 0, 0, 9, 39, 0), (93, .invokevirtual 333, 3, 23, 253, 0, 0, 202, 0, 1), (96, .ireturn, 1, 21, 0, 0, 0, 0, 0, 0), (97, .aload_n 0, 1, 3, 0, 0, 0, 0, 0, 0), (98, .getfield 336, 3, 14, 188, 0, 0, 9, 41, 0), (101, .ireturn, 1, 21, 0, 0, 0, 0, 0, 0), (102, .aload_n 0, 1, 3, 0, 0, 0, 0, 0, 0), (103, .getfield 88, 3, 14, 163, 0, 0, 9, 42, 3)]), (125, [(106, .iconst 0, 1, 0, 0, 0, 0, 0, 0, 0), (107, .iaload, 1, 22, 0, 0, 0, 0, 0, 0), (108, .invokestatic 339, 3, 23, 254, 0, 0, 167, 1, 1), (111, .ireturn, 1, 21, 0, 0, 0, 0, 0, 0), (112, .aload_n 0, 1, 3, 0, 0, 0, 0, 0, 0), (113, .getfield 88, 3, 14, 163, 0, 0, 9, 42, 3), (116, .bipush 12, 2, 0, 0, 0, 0, 0, 0, 0), (118, .aload_n 0, 1, 3, 0, 0, 0, 0, 0, 0), (119, .getfield 342, 3, 14, 189, 0, 0, 9, 40, 0), (122, .iadd, 1, 7, 0, 0, 0, 0, 0, 0), (123, .iaload, 1, 22, 0, 0, 0, 0, 0, 0), (124, .ireturn, 1, 21, 0, 0, 0, 0, 0, 0)]), (146, [(125, .aload_n 0, 1, 3, 0, 0, 0, 0, 0, 0), (126, .aload_n 0, 1, 3, 0, 0, 0, 0, 0, 0), (127, .aload_n 0, 1, 3, 0, 0, 0, 0, 0, 0), (128, .getfield 342, 3, 14, 189, 0, 0, 9, 40, 0), (131, .invokevirtual 345, 3, 23, 255, 0, 0, 206, 0, 1), (134, .invokevirtual 348, 3, 23, 239, 0, 0, 198, 0, 1), (137, .ireturn, 1, 21, 0, 0, 0, 0, 0, 0), (138, .aload_n 0, 1, 3, 0, 0, 0, 0, 0, 0), (139, .getfield 88, 3, 14, 163, 0, 0, 9, 42, 3), (142, .bipush 17, 2, 0, 0, 0, 0, 0, 0, 0), (144, .iaload, 1, 22, 0, 0, 0, 0, 0, 0), (145, .ireturn, 1, 21, 0, 0, 0, 0, 0, 0)]), (148, [(146, .iload_n 2, 1, 2, 0, 0, 0, 0, 0, 0), (147, .ireturn, 1, 21, 0, 0, 0, 0, 0, 0)])]
def ee_me162 : ee_me := (9, ⟨"PepperTablesModel", "asked", "(II)I"⟩, prog_11_method_36_code, 3, (some .int), ee_B162, 0, 0)
set_option maxRecDepth 100000 in
theorem ee_me162ok : ee_Mb ee_me162 = true := by decide +kernel
/- 163: PepperTablesModel.back(I)I -/
def ee_B163 : List (Nat × List ee_en) := [(20, [(0, .iload_n 1, 1, 2, 0, 0, 0, 0, 0, 0), (1, .iconst 0, 1, 0, 0, 0, 0, 0, 0, 0), (2, .iconst 2, 1, 0, 0, 0, 0, 0, 0, 0), (3, .invokestatic 361, 3, 23, 250, 0, 0, 214, 1, 3), (6, .ifCond .eq 12, 3, 12, 0, 0, 0, 0, 0, 0), (9, .aload_n 0, 1, 3, 0, 0, 0, 0, 0, 0), (10, .getfield 133, 3, 14, 178, 0, 0, 9, 64, 3), (13, .iload_n 1, 1, 2, 0, 0, 0, 0, 0, 0), (14, .baload, 1, 22, 0, 0, 0, 0, 0, 0), (15, .ifCond .ne 5, 3, 12, 0, 0, 0, 0, 0, 0), (18, .iconst (-1), 1, 0, 0, 0, 0, 0, 0, 0), (19, .ireturn, 1, 21, 0, 0, 0, 0, 0, 0)]), (40, [(20, .iconst 0, 1, 0, 0, 0, 0, 0, 0, 0), (21, .istore_n 2, 1, 4, 0, 0, 0, 0, 0, 0), (22, .iload_n 2, 1, 2, 0, 0, 0, 0, 0, 0), (23, .bipush 19, 2, 0, 0, 0, 0, 0, 0, 0), (25, .if_icmp .ge 26, 3, 12, 0, 0, 0, 0, 0, 0), (28, .aload_n 0, 1, 3, 0, 0, 0, 0, 0, 0), (29, .getfield 88, 3, 14, 163, 0, 0, 9, 42, 3), (32, .iload_n 2, 1, 2, 0, 0, 0, 0, 0, 0), (33, .aload_n 0, 1, 3, 0, 0, 0, 0, 0, 0), (34, .getfield 130, 3, 14, 177, 0, 0, 9, 63, 3), (37, .bipush 19, 2, 0, 0, 0, 0, 0, 0, 0), (39, .iload_n 1, 1, 2, 0, 0, 0, 0, 0, 0)]), (58, [(40, .imul, 1, 7, 0, 0, 0, 0, 0, 0), (41, .iload_n 2, 1, 2, 0, 0, 0, 0, 0, 0), (42, .iadd, 1, 7, 0, 0, 0, 0, 0, 0), (43, .iaload, 1, 22, 0, 0, 0, 0, 0, 0), (44, .iastore, 1, 17, 0, 0, 0, 0, 0, 0), (45, .iinc 2 1, 3, 6, 0, 0, 0, 0, 0, 0), (48, .goto (-26), 3, 0, 0, 0, 0, 0, 0, 0), (51, .aload_n 0, 1, 3, 0, 0, 0, 0, 0, 0), (52, .iconst 0, 1, 0, 0, 0, 0, 0, 0, 0), (53, .putfield 374, 3, 15, 179, 0, 0, 9, 46, 0), (56, .aload_n 0, 1, 3, 0, 0, 0, 0, 0, 0), (57, .iconst 0, 1, 0, 0, 0, 0, 0, 0, 0)]), (69, [(58, .putfield 377, 3, 15, 180, 0, 0, 9, 47, 0), (61, .aload_n 0, 1, 3, 0, 0, 0, 0, 0, 0), (62, .getfield 88, 3, 14, 163, 0, 0, 9, 42, 3), (65, .bipush 17, 2, 0, 0, 0, 0, 0, 0, 0), (67, .iaload, 1, 22, 0, 0, 0, 0, 0, 0), (68, .ireturn, 1, 21, 0, 0, 0, 0, 0, 0)])]
def ee_me163 : ee_me := (9, ⟨"PepperTablesModel", "back", "(I)I"⟩, prog_11_method_136_code, 3, (some .int), ee_B163, 0, 0)
set_option maxRecDepth 100000 in
theorem ee_me163ok : ee_Mb ee_me163 = true := by decide +kernel
/- 164: PepperTablesModel.bags()I -/
def ee_B164 : List (Nat × List ee_en) := [(10, [(0, .aload_n 0, 1, 3, 0, 0, 0, 0, 0, 0), (1, .getfield 24, 3, 14, 142, 0, 0, 9, 12, 3), (4, .aload_n 0, 1, 3, 0, 0, 0, 0, 0, 0), (5, .getfield 253, 3, 14, 184, 0, 0, 9, 33, 0), (8, .iaload, 1, 22, 0, 0, 0, 0, 0, 0), (9, .ireturn, 1, 21, 0, 0, 0, 0, 0, 0)])]
def ee_me164 : ee_me := (9, ⟨"PepperTablesModel", "bags", "()I"⟩, prog_11_method_45_code, 1, (some .int), ee_B164, 0, 0)
set_option maxRecDepth 100000 in
theorem ee_me164ok : ee_Mb ee_me164 = true := by decide +kernel
end
section
/- 165: PepperTablesModel.behindUnit()Z -/
def ee_B165 : List (Nat × List ee_en) := [(22, [(0, .aload_n 0, 1, 3, 0, 0, 0, 0, 0, 0), (1, .invokevirtual 324, 3, 23, 256, 0, 0, 254, 0, 0), (4, .istore_n 1, 1, 4, 0, 0, 0, 0, 0, 0), (5, .iload_n 1, 1, 2, 0, 0, 0, 0, 0, 0), (6, .iconst 4, 1, 0, 0, 0, 0, 0, 0, 0), (7, .if_icmp .ne 16, 3, 12, 0, 0, 0, 0, 0, 0), (10, .aload_n 0, 1, 3, 0, 0, 0, 0, 0, 0), (11, .invokevirtual 327, 3, 23, 257, 0, 0, 210, 0, 0), (14, .ifCond .eq 9, 3, 12, 0, 0, 0, 0, 0, 0), (17, .aload_n 0, 1, 3, 0, 0, 0, 0, 0, 0), (18, .invokevirtual 230, 3, 23, 258, 0, 0, 239, 0, 0), (21, .iconst 1, 1, 0, 0, 0, 0, 0, 0, 0)]), (43, [(22, .ireturn, 1, 21, 0, 0, 0, 0, 0, 0), (23, .aload_n 0, 1, 3, 0, 0, 0, 0, 0, 0), (24, .getfield 79, 3, 14, 160, 0, 0, 9, 30, 3), (27, .aload_n 0, 1, 3, 0, 0, 0, 0, 0, 0), (28, .getfield 303, 3, 14, 190, 0, 0, 9, 37, 0), (31, .iconst 1, 1, 0, 0, 0, 0, 0, 0, 0), (32, .isub, 1, 7, 0, 0, 0, 0, 0, 0), (33, .iaload, 1, 22, 0, 0, 0, 0, 0, 0), (34, .bipush 6, 2, 0, 0, 0, 0, 0, 0, 0), (36, .if_icmp .gt 68, 3, 12, 0, 0, 0, 0, 0, 0), (39, .aload_n 0, 1, 3, 0, 0, 0, 0, 0, 0), (40, .getfield 79, 3, 14, 160, 0, 0, 9, 30, 3)]), (61, [(43, .aload_n 0, 1, 3, 0, 0, 0, 0, 0, 0), (44, .getfield 303, 3, 14, 190, 0, 0, 9, 37, 0), (47, .iconst 1, 1, 0, 0, 0, 0, 0, 0, 0), (48, .isub, 1, 7, 0, 0, 0, 0, 0, 0), (49, .iaload, 1, 22, 0, 0, 0, 0, 0, 0), (50, .iload_n 1, 1, 2, 0, 0, 0, 0, 0, 0), (51, .if_icmp .lt 53, 3, 12, 0, 0, 0, 0, 0, 0), (54, .aload_n 0, 1, 3, 0, 0, 0, 0, 0, 0), (55, .dup, 1, 11, 0, 0, 0, 0, 0, 0), (56, .getfield 303, 3, 14, 190, 0, 0, 9, 37, 0), (59, .iconst 1, 1, 0, 0, 0, 0, 0, 0, 0), (60, .isub, 1, 7, 0, 0, 0, 0, 0, 0)]), (83, [(61, .putfield 303, 3, 15, 190, 0, 0, 9, 37, 0), (64, .aload_n 0, 1, 3, 0, 0, 0, 0, 0, 0), (65, .getfield 79, 3, 14, 160, 0, 0, 9, 30, 3), (68, .aload_n 0, 1, 3, 0, 0, 0, 0, 0, 0), (69, .getfield 303, 3, 14, 190, 0, 0, 9, 37, 0), (72, .iaload, 1, 22, 0, 0, 0, 0, 0, 0), (73, .iconst 3, 1, 0, 0, 0, 0, 0, 0, 0), (74, .if_icmp .ne 13, 3, 12, 0, 0, 0, 0, 0, 0), (77, .aload_n 0, 1, 3, 0, 0, 0, 0, 0, 0), (78, .dup, 1, 11, 0, 0, 0, 0, 0, 0), (79, .getfield 306, 3, 14, 191, 0, 0, 9, 36, 0), (82, .iconst 1, 1, 0, 0, 0, 0, 0, 0, 0)]), (105, [(83, .isub, 1, 7, 0, 0, 0, 0, 0, 0), (84, .putfield 306, 3, 15, 191, 0, 0, 9, 36, 0), (87, .aload_n 0, 1, 3, 0, 0, 0, 0, 0, 0), (88, .aload_n 0, 1, 3, 0, 0, 0, 0, 0, 0), (89, .getfield 82, 3, 14, 161, 0, 0, 9, 31, 3), (92, .aload_n 0, 1, 3, 0, 0, 0, 0, 0, 0), (93, .getfield 303, 3, 14, 190, 0, 0, 9, 37, 0), (96, .iaload, 1, 22, 0, 0, 0, 0, 0, 0), (97, .iconst 0, 1, 0, 0, 0, 0, 0, 0, 0), (98, .invokevirtual 321, 3, 23, 259, 0, 0, 182, 0, 2), (101, .goto (-78), 3, 0, 0, 0, 0, 0, 0, 0), (104, .iload_n 1, 1, 2, 0, 0, 0, 0, 0, 0)]), (127, [(105, .ifCond .le 42, 3, 12, 0, 0, 0, 0, 0, 0), (108, .aload_n 0, 1, 3, 0, 0, 0, 0, 0, 0), (109, .iload_n 1, 1, 2, 0, 0, 0, 0, 0, 0), (110, .iload_n 1, 1, 2, 0, 0, 0, 0, 0, 0), (111, .iconst 2, 1, 0, 0, 0, 0, 0, 0, 0), (112, .if_icmp .ne 8, 3, 12, 0, 0, 0, 0, 0, 0), (115, .bipush 38, 2, 0, 0, 0, 0, 0, 0, 0), (117, .goto 21, 3, 0, 0, 0, 0, 0, 0, 0), (120, .iload_n 1, 1, 2, 0, 0, 0, 0, 0, 0), (121, .iconst 1, 1, 0, 0, 0, 0, 0, 0, 0), (122, .if_icmp .ne 8, 3, 12, 0, 0, 0, 0, 0, 0), (125, .bipush 124, 2, 0, 0, 0, 0, 0, 0, 0)]), (149, [(127, .goto 11, 3, 0, 0, 0, 0, 0, 0, 0), (130, .aload_n 0, 1, 3, 0, 0, 0, 0, 0, 0), (131, .aload_n 0, 1, 3, 0, 0, 0, 0, 0, 0), (132, .getfield 188, 3, 14, 192, 0, 0, 9, 6, 0), (135, .invokevirtual 191, 3, 23, 260, 0, 0, 271, 0, 1), (138, .invokevirtual 309, 3, 23, 261, 0, 0, 252, 0, 2), (141, .aload_n 0, 1, 3, 0, 0, 0, 0, 0, 0), (142, .invokevirtual 227, 3, 23, 262, 0, 0, 195, 0, 0), (145, .iconst 1, 1, 0, 0, 0, 0, 0, 0, 0), (146, .ireturn, 1, 21, 0, 0, 0, 0, 0, 0), (147, .aload_n 0, 1, 3, 0, 0, 0, 0, 0, 0), (148, .dup, 1, 11, 0, 0, 0, 0, 0, 0)]), (172, [(149, .getfield 303, 3, 14, 190, 0, 0, 9, 37, 0), (152, .iconst 1, 1, 0, 0, 0, 0, 0, 0, 0), (153, .isub, 1, 7, 0, 0, 0, 0, 0, 0), (154, .putfield 303, 3, 15, 190, 0, 0, 9, 37, 0), (157, .aload_n 0, 1, 3, 0, 0, 0, 0, 0, 0), (158, .getfield 79, 3, 14, 160, 0, 0, 9, 30, 3), (161, .aload_n 0, 1, 3, 0, 0, 0, 0, 0, 0), (162, .getfield 303, 3, 14, 190, 0, 0, 9, 37, 0), (165, .iaload, 1, 22, 0, 0, 0, 0, 0, 0), (166, .bipush 7, 2, 0, 0, 0, 0, 0, 0, 0), (168, .if_icmp .ne 23, 3, 12, 0, 0, 0, 0, 0, 0), (171, .aload_n 0, 1, 3, 0, 0, 0, 0, 0, 0)]), (193, [(172, .dup, 1, 11, 0, 0, 0, 0, 0, 0), (173, .getfield 306, 3, 14, 191, 0, 0, 9, 36, 0), (176, .iconst 1, 1, 0, 0, 0, 0, 0, 0, 0), (177, .isub, 1, 7, 0, 0, 0, 0, 0, 0), (178, .putfield 306, 3, 15, 191, 0, 0, 9, 36, 0), (181, .aload_n 0, 1, 3, 0, 0, 0, 0, 0, 0), (182, .aload_n 0, 1, 3, 0, 0, 0, 0, 0, 0), (183, .bipush 41, 2, 0, 0, 0, 0, 0, 0, 0), (185, .invokevirtual 287, 3, 23, 263, 0, 0, 222, 0, 1), (188, .invokevirtual 236, 3, 23, 246, 0, 0, 241, 0, 1), (191, .iconst 0, 1, 0, 0, 0, 0, 0, 0, 0), (192, .ireturn, 1, 21, 0, 0, 0, 0, 0, 0)])]
def ee_me165 : ee_me := (9, ⟨"PepperTablesModel", "behindUnit", "()Z"⟩, prog_11_method_34_code, 2, (some .boolean), ee_B165, 0, 0)
set_option maxRecDepth 100000 in
theorem ee_me165ok : ee_Mb ee_me165 = true := by decide +kernel
/- 166: PepperTablesModel.bit(II)Z -/
def ee_B166 : List (Nat × List ee_en) := [(15, [(0, .iload_n 0, 1, 2, 0, 0, 0, 0, 0, 0), (1, .iload_n 1, 1, 2, 0, 0, 0, 0, 0, 0), (2, .ishr, 1, 7, 0, 0, 0, 0, 0, 0), (3, .iconst 1, 1, 0, 0, 0, 0, 0, 0, 0), (4, .iand, 1, 7, 0, 0, 0, 0, 0, 0), (5, .iconst 1, 1, 0, 0, 0, 0, 0, 0, 0), (6, .if_icmp .ne 7, 3, 12, 0, 0, 0, 0, 0, 0), (9, .iconst 1, 1, 0, 0, 0, 0, 0, 0, 0), (10, .goto 4, 3, 0, 0, 0, 0, 0, 0, 0), (13, .iconst 0, 1, 0, 0, 0, 0, 0, 0, 0), (14, .ireturn, 1, 21, 0, 0, 0, 0, 0, 0)])]
def ee_me166 : ee_me := (9, ⟨"PepperTablesModel", "bit", "(II)Z"⟩, prog_11_method_40_code, 2, (some .boolean), ee_B166, 0, 0)
set_option maxRecDepth 100000 in
theorem ee_me166ok : ee_Mb ee_me166 = true := by decide +kernel
/- 167: PepperTablesModel.bitsOf(I)I -/
def ee_B167 : List (Nat × List ee_en) := [(16, [(0, .iconst 0, 1, 0, 0, 0, 0, 0, 0, 0), (1, .istore_n 1, 1, 4, 0, 0, 0, 0, 0, 0), (2, .iload_n 0, 1, 2, 0, 0, 0, 0, 0, 0), (3, .istore_n 2, 1, 4, 0, 0, 0, 0, 0, 0), (4, .iload_n 2, 1, 2, 0, 0, 0, 0, 0, 0), (5, .ifCond .eq 15, 3, 12, 0, 0, 0, 0, 0, 0), (8, .iinc 1 1, 3, 6, 0, 0, 0, 0, 0, 0), (11, .iload_n 2, 1, 2, 0, 0, 0, 0, 0, 0), (12, .iload_n 2, 1, 2, 0, 0, 0, 0, 0, 0), (13, .iconst 1, 1, 0, 0, 0, 0, 0, 0, 0), (14, .isub, 1, 7, 0, 0, 0, 0, 0, 0), (15, .iand, 1, 7, 0, 0, 0, 0, 0, 0)]), (22, [(16, .istore_n 2, 1, 4, 0, 0, 0, 0, 0, 0), (17, .goto (-13), 3, 0, 0, 0, 0, 0, 0, 0), (20, .iload_n 1, 1, 2, 0, 0, 0, 0, 0, 0), (21, .ireturn, 1, 21, 0, 0, 0, 0, 0, 0)])]
def ee_me167 : ee_me := (9, ⟨"PepperTablesModel", "bitsOf", "(I)I"⟩, prog_11_method_41_code, 3, (some .int), ee_B167, 0, 0)
set_option maxRecDepth 100000 in
theorem ee_me167ok : ee_Mb ee_me167 = true := by decide +kernel
/- 168: PepperTablesModel.blend(II)I -/
def ee_B168 : List (Nat × List ee_en) := [(22, [(0, .aload_n 0, 1, 3, 0, 0, 0, 0, 0, 0), (1, .iload_n 1, 1, 2, 0, 0, 0, 0, 0, 0), (2, .invokevirtual 425, 3, 23, 264, 0, 0, 220, 0, 1), (5, .ifCond .eq 16, 3, 12, 0, 0, 0, 0, 0, 0), (8, .aload_n 0, 1, 3, 0, 0, 0, 0, 0, 0), (9, .iload_n 2, 1, 2, 0, 0, 0, 0, 0, 0), (10, .invokevirtual 425, 3, 23, 264, 0, 0, 220, 0, 1), (13, .ifCond .eq 8, 3, 12, 0, 0, 0, 0, 0, 0), (16, .iload_n 1, 1, 2, 0, 0, 0, 0, 0, 0), (17, .iload_n 2, 1, 2, 0, 0, 0, 0, 0, 0), (18, .if_icmp .ne 5, 3, 12, 0, 0, 0, 0, 0, 0), (21, .iconst (-1), 1, 0, 0, 0, 0, 0, 0, 0)]), (42, [(22, .ireturn, 1, 21, 0, 0, 0, 0, 0, 0), (23, .aload_n 0, 1, 3, 0, 0, 0, 0, 0, 0), (24, .invokevirtual 458, 3, 23, 242, 0, 0, 227, 0, 0), (27, .iconst 0, 1, 0, 0, 0, 0, 0, 0, 0), (28, .istore_n 3, 1, 4, 0, 0, 0, 0, 0, 0), (29, .iload_n 3, 1, 2, 0, 0, 0, 0, 0, 0), (30, .aload_n 0, 1, 3, 0, 0, 0, 0, 0, 0), (31, .invokevirtual 368, 3, 23, 235, 0, 0, 238, 0, 0), (34, .if_icmp .ge 38, 3, 12, 0, 0, 0, 0, 0, 0), (37, .aload_n 0, 1, 3, 0, 0, 0, 0, 0, 0), (38, .iload_n 3, 1, 2, 0, 0, 0, 0, 0, 0), (39, .invokevirtual 386, 3, 23, 241, 0, 0, 223, 0, 1)]), (62, [(42, .ifCond .eq 24, 3, 12, 0, 0, 0, 0, 0, 0), (45, .aload_n 0, 1, 3, 0, 0, 0, 0, 0, 0), (46, .getfield 88, 3, 14, 163, 0, 0, 9, 42, 3), (49, .iconst 2, 1, 0, 0, 0, 0, 0, 0, 0), (50, .iload_n 3, 1, 2, 0, 0, 0, 0, 0, 0), (51, .iadd, 1, 7, 0, 0, 0, 0, 0, 0), (52, .iaload, 1, 22, 0, 0, 0, 0, 0, 0), (53, .iload_n 2, 1, 2, 0, 0, 0, 0, 0, 0), (54, .if_icmp .ne 12, 3, 12, 0, 0, 0, 0, 0, 0), (57, .aload_n 0, 1, 3, 0, 0, 0, 0, 0, 0), (58, .getfield 88, 3, 14, 163, 0, 0, 9, 42, 3), (61, .iconst 2, 1, 0, 0, 0, 0, 0, 0, 0)]), (82, [(62, .iload_n 3, 1, 2, 0, 0, 0, 0, 0, 0), (63, .iadd, 1, 7, 0, 0, 0, 0, 0, 0), (64, .iload_n 1, 1, 2, 0, 0, 0, 0, 0, 0), (65, .iastore, 1, 17, 0, 0, 0, 0, 0, 0), (66, .iinc 3 1, 3, 6, 0, 0, 0, 0, 0, 0), (69, .goto (-40), 3, 0, 0, 0, 0, 0, 0, 0), (72, .aload_n 0, 1, 3, 0, 0, 0, 0, 0, 0), (73, .iload_n 1, 1, 2, 0, 0, 0, 0, 0, 0), (74, .invokevirtual 407, 3, 23, 265, 0, 0, 292, 0, 1), (77, .invokestatic 339, 3, 23, 254, 0, 0, 167, 1, 1), (80, .istore_n 3, 1, 4, 0, 0, 0, 0, 0, 0), (81, .aload_n 0, 1, 3, 0, 0, 0, 0, 0, 0)]), (87, [(82, .invokevirtual 464, 3, 23, 244, 0, 0, 169, 0, 0), (85, .iload_n 3, 1, 2, 0, 0, 0, 0, 0, 0), (86, .ireturn, 1, 21, 0, 0, 0, 0, 0, 0)])]
def ee_me168 : ee_me := (9, ⟨"PepperTablesModel", "blend", "(II)I"⟩, prog_11_method_110_code, 4, (some .int), ee_B168, 0, 0)
set_option maxRecDepth 100000 in
theorem ee_me168ok : ee_Mb ee_me168 = true := by decide +kernel
/- 169: PepperTablesModel.bringBack()V -/
def ee_B169 : List (Nat × List ee_en) := [(19, [(0, .iconst 0, 1, 0, 0, 0, 0, 0, 0, 0), (1, .istore_n 1, 1, 4, 0, 0, 0, 0, 0, 0), (2, .iload_n 1, 1, 2, 0, 0, 0, 0, 0, 0), (3, .bipush 19, 2, 0, 0, 0, 0, 0, 0, 0), (5, .if_icmp .ge 21, 3, 12, 0, 0, 0, 0, 0, 0), (8, .aload_n 0, 1, 3, 0, 0, 0, 0, 0, 0), (9, .getfield 88, 3, 14, 163, 0, 0, 9, 42, 3), (12, .iload_n 1, 1, 2, 0, 0, 0, 0, 0, 0), (13, .aload_n 0, 1, 3, 0, 0, 0, 0, 0, 0), (14, .getfield 97, 3, 14, 166, 0, 0, 9, 48, 3), (17, .iload_n 1, 1, 2, 0, 0, 0, 0, 0, 0), (18, .iaload, 1, 22, 0, 0, 0, 0, 0, 0)]), (27, [(19, .iastore, 1, 17, 0, 0, 0, 0, 0, 0), (20, .iinc 1 1, 3, 6, 0, 0, 0, 0, 0, 0), (23, .goto (-21), 3, 0, 0, 0, 0, 0, 0, 0), (26, .return_, 1, 21, 0, 0, 0, 0, 0, 0)])]
def ee_me169 : ee_me := (9, ⟨"PepperTablesModel", "bringBack", "()V"⟩, prog_11_method_94_code, 2, none, ee_B169, 0, 0)
set_option maxRecDepth 100000 in
theorem ee_me169ok : ee_Mb ee_me169 = true := by decide +kernel
/- 170: PepperTablesModel.byOf(I)I -/
def ee_B170 : List (Nat × List ee_en) := [(18, [(0, .iconst 0, 1, 0, 0, 0, 0, 0, 0, 0), (1, .istore_n 2, 1, 4, 0, 0, 0, 0, 0, 0), (2, .iconst 0, 1, 0, 0, 0, 0, 0, 0, 0), (3, .istore_n 3, 1, 4, 0, 0, 0, 0, 0, 0), (4, .iload_n 3, 1, 2, 0, 0, 0, 0, 0, 0), (5, .aload_n 0, 1, 3, 0, 0, 0, 0, 0, 0), (6, .invokevirtual 368, 3, 23, 235, 0, 0, 238, 0, 0), (9, .if_icmp .ge 24, 3, 12, 0, 0, 0, 0, 0, 0), (12, .aload_n 0, 1, 3, 0, 0, 0, 0, 0, 0), (13, .iload_n 3, 1, 2, 0, 0, 0, 0, 0, 0), (14, .invokevirtual 389, 3, 23, 266, 0, 0, 192, 0, 1), (17, .iload_n 1, 1, 2, 0, 0, 0, 0, 0, 0)]), (35, [(18, .if_icmp .ne 9, 3, 12, 0, 0, 0, 0, 0, 0), (21, .iload_n 2, 1, 2, 0, 0, 0, 0, 0, 0), (22, .iconst 1, 1, 0, 0, 0, 0, 0, 0, 0), (23, .iload_n 3, 1, 2, 0, 0, 0, 0, 0, 0), (24, .ishl, 1, 7, 0, 0, 0, 0, 0, 0), (25, .ior, 1, 7, 0, 0, 0, 0, 0, 0), (26, .istore_n 2, 1, 4, 0, 0, 0, 0, 0, 0), (27, .iinc 3 1, 3, 6, 0, 0, 0, 0, 0, 0), (30, .goto (-26), 3, 0, 0, 0, 0, 0, 0, 0), (33, .iload_n 2, 1, 2, 0, 0, 0, 0, 0, 0), (34, .ireturn, 1, 21, 0, 0, 0, 0, 0, 0)])]
def ee_me170 : ee_me := (9, ⟨"PepperTablesModel", "byOf", "(I)I"⟩, prog_11_method_59_code, 4, (some .int), ee_B170, 0, 0)
set_option maxRecDepth 100000 in
theorem ee_me170ok : ee_Mb ee_me170 = true := by decide +kernel
/- 171: PepperTablesModel.canChange(II)Z -/
def ee_B171 : List (Nat × List ee_en) := [(22, [(0, .aload_n 0, 1, 3, 0, 0, 0, 0, 0, 0), (1, .iload_n 1, 1, 2, 0, 0, 0, 0, 0, 0), (2, .invokevirtual 386, 3, 23, 241, 0, 0, 223, 0, 1), (5, .ifCond .eq 56, 3, 12, 0, 0, 0, 0, 0, 0), (8, .aload_n 0, 1, 3, 0, 0, 0, 0, 0, 0), (9, .iload_n 2, 1, 2, 0, 0, 0, 0, 0, 0), (10, .invokevirtual 386, 3, 23, 241, 0, 0, 223, 0, 1), (13, .ifCond .eq 48, 3, 12, 0, 0, 0, 0, 0, 0), (16, .aload_n 0, 1, 3, 0, 0, 0, 0, 0, 0), (17, .getfield 88, 3, 14, 163, 0, 0, 9, 42, 3), (20, .iconst 2, 1, 0, 0, 0, 0, 0, 0, 0), (21, .iload_n 1, 1, 2, 0, 0, 0, 0, 0, 0)]), (42, [(22, .iadd, 1, 7, 0, 0, 0, 0, 0, 0), (23, .iaload, 1, 22, 0, 0, 0, 0, 0, 0), (24, .ifCond .lt 37, 3, 12, 0, 0, 0, 0, 0, 0), (27, .aload_n 0, 1, 3, 0, 0, 0, 0, 0, 0), (28, .getfield 88, 3, 14, 163, 0, 0, 9, 42, 3), (31, .iconst 2, 1, 0, 0, 0, 0, 0, 0, 0), (32, .iload_n 2, 1, 2, 0, 0, 0, 0, 0, 0), (33, .iadd, 1, 7, 0, 0, 0, 0, 0, 0), (34, .iaload, 1, 22, 0, 0, 0, 0, 0, 0), (35, .ifCond .lt 26, 3, 12, 0, 0, 0, 0, 0, 0), (38, .aload_n 0, 1, 3, 0, 0, 0, 0, 0, 0), (39, .getfield 88, 3, 14, 163, 0, 0, 9, 42, 3)]), (58, [(42, .iconst 2, 1, 0, 0, 0, 0, 0, 0, 0), (43, .iload_n 1, 1, 2, 0, 0, 0, 0, 0, 0), (44, .iadd, 1, 7, 0, 0, 0, 0, 0, 0), (45, .iaload, 1, 22, 0, 0, 0, 0, 0, 0), (46, .aload_n 0, 1, 3, 0, 0, 0, 0, 0, 0), (47, .getfield 88, 3, 14, 163, 0, 0, 9, 42, 3), (50, .iconst 2, 1, 0, 0, 0, 0, 0, 0, 0), (51, .iload_n 2, 1, 2, 0, 0, 0, 0, 0, 0), (52, .iadd, 1, 7, 0, 0, 0, 0, 0, 0), (53, .iaload, 1, 22, 0, 0, 0, 0, 0, 0), (54, .if_icmp .eq 7, 3, 12, 0, 0, 0, 0, 0, 0), (57, .iconst 1, 1, 0, 0, 0, 0, 0, 0, 0)]), (63, [(58, .goto 4, 3, 0, 0, 0, 0, 0, 0, 0), (61, .iconst 0, 1, 0, 0, 0, 0, 0, 0, 0), (62, .ireturn, 1, 21, 0, 0, 0, 0, 0, 0)])]
def ee_me171 : ee_me := (9, ⟨"PepperTablesModel", "canChange", "(II)Z"⟩, prog_11_method_111_code, 3, (some .boolean), ee_B171, 0, 0)
set_option maxRecDepth 100000 in
theorem ee_me171ok : ee_Mb ee_me171 = true := by decide +kernel
/- 172: PepperTablesModel.clearBank()V -/
def ee_B172 : List (Nat × List ee_en) := [(20, [(0, .aload_n 0, 1, 3, 0, 0, 0, 0, 0, 0), (1, .getfield 20, 3, 14, 141, 0, 0, 9, 11, 3), (4, .aload_n 0, 1, 3, 0, 0, 0, 0, 0, 0), (5, .getfield 244, 3, 14, 193, 0, 0, 9, 34, 0), (8, .iconst 0, 1, 0, 0, 0, 0, 0, 0, 0), (9, .iastore, 1, 17, 0, 0, 0, 0, 0, 0), (10, .aload_n 0, 1, 3, 0, 0, 0, 0, 0, 0), (11, .getfield 24, 3, 14, 142, 0, 0, 9, 12, 3), (14, .aload_n 0, 1, 3, 0, 0, 0, 0, 0, 0), (15, .getfield 244, 3, 14, 193, 0, 0, 9, 34, 0), (18, .iconst 0, 1, 0, 0, 0, 0, 0, 0, 0), (19, .iastore, 1, 17, 0, 0, 0, 0, 0, 0)]), (40, [(20, .aload_n 0, 1, 3, 0, 0, 0, 0, 0, 0), (21, .getfield 27, 3, 14, 143, 0, 0, 9, 13, 3), (24, .aload_n 0, 1, 3, 0, 0, 0, 0, 0, 0), (25, .getfield 244, 3, 14, 193, 0, 0, 9, 34, 0), (28, .iconst 0, 1, 0, 0, 0, 0, 0, 0, 0), (29, .iastore, 1, 17, 0, 0, 0, 0, 0, 0), (30, .aload_n 0, 1, 3, 0, 0, 0, 0, 0, 0), (31, .getfield 30, 3, 14, 144, 0, 0, 9, 14, 3), (34, .aload_n 0, 1, 3, 0, 0, 0, 0, 0, 0), (35, .getfield 244, 3, 14, 193, 0, 0, 9, 34, 0), (38, .iconst 0, 1, 0, 0, 0, 0, 0, 0, 0), (39, .iastore, 1, 17, 0, 0, 0, 0, 0, 0)]), (60, [(40, .aload_n 0, 1, 3, 0, 0, 0, 0, 0, 0), (41, .getfield 33, 3, 14, 145, 0, 0, 9, 15, 3), (44, .aload_n 0, 1, 3, 0, 0, 0, 0, 0, 0), (45, .getfield 244, 3, 14, 193, 0, 0, 9, 34, 0), (48, .iconst 0, 1, 0, 0, 0, 0, 0, 0, 0), (49, .iastore, 1, 17, 0, 0, 0, 0, 0, 0), (50, .aload_n 0, 1, 3, 0, 0, 0, 0, 0, 0), (51, .getfield 36, 3, 14, 146, 0, 0, 9, 16, 3), (54, .aload_n 0, 1, 3, 0, 0, 0, 0, 0, 0), (55, .getfield 244, 3, 14, 193, 0, 0, 9, 34, 0), (58, .iconst 0, 1, 0, 0, 0, 0, 0, 0, 0), (59, .iastore, 1, 17, 0, 0, 0, 0, 0, 0)]), (82, [(60, .aload_n 0, 1, 3, 0, 0, 0, 0, 0, 0), (61, .getfield 39, 3, 14, 147, 0, 0, 9, 17, 3), (64, .aload_n 0, 1, 3, 0, 0, 0, 0, 0, 0), (65, .getfield 244, 3, 14, 193, 0, 0, 9, 34, 0), (68, .iconst 0, 1, 0, 0, 0, 0, 0, 0, 0), (69, .iastore, 1, 17, 0, 0, 0, 0, 0, 0), (70, .aload_n 0, 1, 3, 0, 0, 0, 0, 0, 0), (71, .sipush 560, 3, 0, 0, 0, 0, 0, 0, 0), (74, .aload_n 0, 1, 3, 0, 0, 0, 0, 0, 0), (75, .getfield 244, 3, 14, 193, 0, 0, 9, 34, 0), (78, .imul, 1, 7, 0, 0, 0, 0, 0, 0), (79, .putfield 247, 3, 15, 194, 0, 0, 9, 35, 0)]), (83, [(82, .return_, 1, 21, 0, 0, 0, 0, 0, 0)])]
def ee_me172 : ee_me := (9, ⟨"PepperTablesModel", "clearBank", "()V"⟩, prog_11_method_16_code, 1, none, ee_B172, 0, 0)
set_option maxRecDepth 100000 in
theorem ee_me172ok : ee_Mb ee_me172 = true := by decide +kernel
/- 173: PepperTablesModel.closest()I -/
def ee_B173 : List (Nat × List ee_en) := [(18, [(0, .iconst (-1), 1, 0, 0, 0, 0, 0, 0, 0), (1, .istore_n 1, 1, 4, 0, 0, 0, 0, 0, 0), (2, .iconst 0, 1, 0, 0, 0, 0, 0, 0, 0), (3, .istore_n 2, 1, 4, 0, 0, 0, 0, 0, 0), (4, .iload_n 2, 1, 2, 0, 0, 0, 0, 0, 0), (5, .aload_n 0, 1, 3, 0, 0, 0, 0, 0, 0), (6, .invokevirtual 358, 3, 23, 236, 0, 0, 190, 0, 0), (9, .if_icmp .ge 44, 3, 12, 0, 0, 0, 0, 0, 0), (12, .iload_n 1, 1, 2, 0, 0, 0, 0, 0, 0), (13, .ifCond .lt 32, 3, 12, 0, 0, 0, 0, 0, 0), (16, .aload_n 0, 1, 3, 0, 0, 0, 0, 0, 0), (17, .iload_n 2, 1, 2, 0, 0, 0, 0, 0, 0)]), (42, [(18, .invokevirtual 413, 3, 23, 267, 0, 0, 170, 0, 1), (21, .aload_n 0, 1, 3, 0, 0, 0, 0, 0, 0), (22, .invokevirtual 416, 3, 23, 238, 0, 0, 229, 0, 0), (25, .iand, 1, 7, 0, 0, 0, 0, 0, 0), (26, .invokestatic 339, 3, 23, 254, 0, 0, 167, 1, 1), (29, .aload_n 0, 1, 3, 0, 0, 0, 0, 0, 0), (30, .iload_n 1, 1, 2, 0, 0, 0, 0, 0, 0), (31, .invokevirtual 413, 3, 23, 267, 0, 0, 170, 0, 1), (34, .aload_n 0, 1, 3, 0, 0, 0, 0, 0, 0), (35, .invokevirtual 416, 3, 23, 238, 0, 0, 229, 0, 0), (38, .iand, 1, 7, 0, 0, 0, 0, 0, 0), (39, .invokestatic 339, 3, 23, 254, 0, 0, 167, 1, 1)]), (55, [(42, .if_icmp .le 5, 3, 12, 0, 0, 0, 0, 0, 0), (45, .iload_n 2, 1, 2, 0, 0, 0, 0, 0, 0), (46, .istore_n 1, 1, 4, 0, 0, 0, 0, 0, 0), (47, .iinc 2 1, 3, 6, 0, 0, 0, 0, 0, 0), (50, .goto (-46), 3, 0, 0, 0, 0, 0, 0, 0), (53, .iload_n 1, 1, 2, 0, 0, 0, 0, 0, 0), (54, .ireturn, 1, 21, 0, 0, 0, 0, 0, 0)])]
def ee_me173 : ee_me := (9, ⟨"PepperTablesModel", "closest", "()I"⟩, prog_11_method_74_code, 3, (some .int), ee_B173, 0, 0)
set_option maxRecDepth 100000 in
theorem ee_me173ok : ee_Mb ee_me173 = true := by decide +kernel
/- 174: PepperTablesModel.comes()I -/
def ee_B174 : List (Nat × List ee_en) := [(18, [(0, .iconst 0, 1, 0, 0, 0, 0, 0, 0, 0), (1, .istore_n 1, 1, 4, 0, 0, 0, 0, 0, 0), (2, .aload_n 0, 1, 3, 0, 0, 0, 0, 0, 0), (3, .getfield 57, 3, 14, 153, 0, 0, 9, 23, 3), (6, .aload_n 0, 1, 3, 0, 0, 0, 0, 0, 0), (7, .getfield 253, 3, 14, 184, 0, 0, 9, 33, 0), (10, .iaload, 1, 22, 0, 0, 0, 0, 0, 0), (11, .istore_n 2, 1, 4, 0, 0, 0, 0, 0, 0), (12, .iload_n 2, 1, 2, 0, 0, 0, 0, 0, 0), (13, .aload_n 0, 1, 3, 0, 0, 0, 0, 0, 0), (14, .getfield 60, 3, 14, 154, 0, 0, 9, 24, 3), (17, .aload_n 0, 1, 3, 0, 0, 0, 0, 0, 0)]), (39, [(18, .getfield 253, 3, 14, 184, 0, 0, 9, 33, 0), (21, .iaload, 1, 22, 0, 0, 0, 0, 0, 0), (22, .if_icmp .ge 108, 3, 12, 0, 0, 0, 0, 0, 0), (25, .aload_n 0, 1, 3, 0, 0, 0, 0, 0, 0), (26, .getfield 73, 3, 14, 158, 0, 0, 9, 28, 3), (29, .iload_n 2, 1, 2, 0, 0, 0, 0, 0, 0), (30, .iaload, 1, 22, 0, 0, 0, 0, 0, 0), (31, .istore_n 3, 1, 4, 0, 0, 0, 0, 0, 0), (32, .iload_n 3, 1, 2, 0, 0, 0, 0, 0, 0), (33, .bipush 126, 2, 0, 0, 0, 0, 0, 0, 0), (35, .if_icmp .ne 30, 3, 12, 0, 0, 0, 0, 0, 0), (38, .aload_n 0, 1, 3, 0, 0, 0, 0, 0, 0)]), (57, [(39, .getfield 85, 3, 14, 162, 0, 0, 9, 32, 3), (42, .iload_n 1, 1, 2, 0, 0, 0, 0, 0, 0), (43, .iconst 1, 1, 0, 0, 0, 0, 0, 0, 0), (44, .isub, 1, 7, 0, 0, 0, 0, 0, 0), (45, .aload_n 0, 1, 3, 0, 0, 0, 0, 0, 0), (46, .getfield 85, 3, 14, 162, 0, 0, 9, 32, 3), (49, .iload_n 1, 1, 2, 0, 0, 0, 0, 0, 0), (50, .iconst 1, 1, 0, 0, 0, 0, 0, 0, 0), (51, .isub, 1, 7, 0, 0, 0, 0, 0, 0), (52, .iaload, 1, 22, 0, 0, 0, 0, 0, 0), (53, .ifCond .ne 7, 3, 12, 0, 0, 0, 0, 0, 0), (56, .iconst 1, 1, 0, 0, 0, 0, 0, 0, 0)]), (79, [(57, .goto 4, 3, 0, 0, 0, 0, 0, 0, 0), (60, .iconst 0, 1, 0, 0, 0, 0, 0, 0, 0), (61, .iastore, 1, 17, 0, 0, 0, 0, 0, 0), (62, .goto 62, 3, 0, 0, 0, 0, 0, 0, 0), (65, .iload_n 3, 1, 2, 0, 0, 0, 0, 0, 0), (66, .invokestatic 198, 3, 23, 268, 0, 0, 217, 1, 1), (69, .ifCond .eq 26, 3, 12, 0, 0, 0, 0, 0, 0), (72, .aload_n 0, 1, 3, 0, 0, 0, 0, 0, 0), (73, .getfield 85, 3, 14, 162, 0, 0, 9, 32, 3), (76, .iload_n 1, 1, 2, 0, 0, 0, 0, 0, 0), (77, .aload_n 0, 1, 3, 0, 0, 0, 0, 0, 0), (78, .iload_n 3, 1, 2, 0, 0, 0, 0, 0, 0)]), (103, [(79, .aload_n 0, 1, 3, 0, 0, 0, 0, 0, 0), (80, .getfield 76, 3, 14, 159, 0, 0, 9, 29, 3), (83, .iload_n 2, 1, 2, 0, 0, 0, 0, 0, 0), (84, .iaload, 1, 22, 0, 0, 0, 0, 0, 0), (85, .invokevirtual 351, 3, 23, 269, 0, 0, 162, 0, 2), (88, .iastore, 1, 17, 0, 0, 0, 0, 0, 0), (89, .iinc 1 1, 3, 6, 0, 0, 0, 0, 0, 0), (92, .goto 32, 3, 0, 0, 0, 0, 0, 0, 0), (95, .iinc 1 (-1), 3, 6, 0, 0, 0, 0, 0, 0), (98, .aload_n 0, 1, 3, 0, 0, 0, 0, 0, 0), (99, .getfield 85, 3, 14, 162, 0, 0, 9, 32, 3), (102, .iload_n 1, 1, 2, 0, 0, 0, 0, 0, 0)]), (119, [(103, .iconst 1, 1, 0, 0, 0, 0, 0, 0, 0), (104, .isub, 1, 7, 0, 0, 0, 0, 0, 0), (105, .iload_n 3, 1, 2, 0, 0, 0, 0, 0, 0), (106, .aload_n 0, 1, 3, 0, 0, 0, 0, 0, 0), (107, .getfield 85, 3, 14, 162, 0, 0, 9, 32, 3), (110, .iload_n 1, 1, 2, 0, 0, 0, 0, 0, 0), (111, .iconst 1, 1, 0, 0, 0, 0, 0, 0, 0), (112, .isub, 1, 7, 0, 0, 0, 0, 0, 0), (113, .iaload, 1, 22, 0, 0, 0, 0, 0, 0), (114, .aload_n 0, 1, 3, 0, 0, 0, 0, 0, 0), (115, .getfield 85, 3, 14, 162, 0, 0, 9, 32, 3), (118, .iload_n 1, 1, 2, 0, 0, 0, 0, 0, 0)]), (137, [(119, .iaload, 1, 22, 0, 0, 0, 0, 0, 0), (120, .invokestatic 354, 3, 23, 270, 0, 0, 284, 1, 3), (123, .iastore, 1, 17, 0, 0, 0, 0, 0, 0), (124, .iinc 2 1, 3, 6, 0, 0, 0, 0, 0, 0), (127, .goto (-115), 3, 0, 0, 0, 0, 0, 0, 0), (130, .aload_n 0, 1, 3, 0, 0, 0, 0, 0, 0), (131, .getfield 85, 3, 14, 162, 0, 0, 9, 32, 3), (134, .iconst 0, 1, 0, 0, 0, 0, 0, 0, 0), (135, .iaload, 1, 22, 0, 0, 0, 0, 0, 0), (136, .ireturn, 1, 21, 0, 0, 0, 0, 0, 0)])]
def ee_me174 : ee_me := (9, ⟨"PepperTablesModel", "comes", "()I"⟩, prog_11_method_37_code, 4, (some .int), ee_B174, 0, 0)
set_option maxRecDepth 100000 in
theorem ee_me174ok : ee_Mb ee_me174 = true := by decide +kernel
/- 175: PepperTablesModel.course()I -/
def ee_B175 : List (Nat × List ee_en) := [(24, [(0, .aload_n 0, 1, 3, 0, 0, 0, 0, 0, 0), (1, .getfield 88, 3, 14, 163, 0, 0, 9, 42, 3), (4, .bipush 17, 2, 0, 0, 0, 0, 0, 0, 0), (6, .iaload, 1, 22, 0, 0, 0, 0, 0, 0), (7, .sipush 999, 3, 0, 0, 0, 0, 0, 0, 0), (10, .if_icmp .ne 6, 3, 12, 0, 0, 0, 0, 0, 0), (13, .bipush (-2), 2, 0, 0, 0, 0, 0, 0, 0), (15, .ireturn, 1, 21, 0, 0, 0, 0, 0, 0), (16, .aload_n 0, 1, 3, 0, 0, 0, 0, 0, 0), (17, .invokevirtual 437, 3, 23, 271, 0, 0, 226, 0, 0), (20, .aload_n 0, 1, 3, 0, 0, 0, 0, 0, 0), (21, .getfield 88, 3, 14, 163, 0, 0, 9, 42, 3)]), (44, [(24, .bipush 17, 2, 0, 0, 0, 0, 0, 0, 0), (26, .dup2, 1, 11, 0, 0, 0, 0, 0, 0), (27, .iaload, 1, 22, 0, 0, 0, 0, 0, 0), (28, .iconst 1, 1, 0, 0, 0, 0, 0, 0, 0), (29, .iadd, 1, 7, 0, 0, 0, 0, 0, 0), (30, .iastore, 1, 17, 0, 0, 0, 0, 0, 0), (31, .aload_n 0, 1, 3, 0, 0, 0, 0, 0, 0), (32, .getfield 88, 3, 14, 163, 0, 0, 9, 42, 3), (35, .bipush 18, 2, 0, 0, 0, 0, 0, 0, 0), (37, .sipush 137, 3, 0, 0, 0, 0, 0, 0, 0), (40, .aload_n 0, 1, 3, 0, 0, 0, 0, 0, 0), (41, .getfield 88, 3, 14, 163, 0, 0, 9, 42, 3)]), (63, [(44, .bipush 18, 2, 0, 0, 0, 0, 0, 0, 0), (46, .iaload, 1, 22, 0, 0, 0, 0, 0, 0), (47, .imul, 1, 7, 0, 0, 0, 0, 0, 0), (48, .bipush 71, 2, 0, 0, 0, 0, 0, 0, 0), (50, .iadd, 1, 7, 0, 0, 0, 0, 0, 0), (51, .sipush 1000, 3, 0, 0, 0, 0, 0, 0, 0), (54, .irem, 1, 8, 0, 0, 0, 0, 0, 0), (55, .iastore, 1, 17, 0, 0, 0, 0, 0, 0), (56, .aload_n 0, 1, 3, 0, 0, 0, 0, 0, 0), (57, .getfield 88, 3, 14, 163, 0, 0, 9, 42, 3), (60, .bipush 18, 2, 0, 0, 0, 0, 0, 0, 0), (62, .iaload, 1, 22, 0, 0, 0, 0, 0, 0)]), (86, [(63, .bipush 100, 2, 0, 0, 0, 0, 0, 0, 0), (65, .irem, 1, 8, 0, 0, 0, 0, 0, 0), (66, .aload_n 0, 1, 3, 0, 0, 0, 0, 0, 0), (67, .getfield 33, 3, 14, 145, 0, 0, 9, 15, 3), (70, .aload_n 0, 1, 3, 0, 0, 0, 0, 0, 0), (71, .getfield 253, 3, 14, 184, 0, 0, 9, 33, 0), (74, .iaload, 1, 22, 0, 0, 0, 0, 0, 0), (75, .if_icmp .ge 10, 3, 12, 0, 0, 0, 0, 0, 0), (78, .aload_n 0, 1, 3, 0, 0, 0, 0, 0, 0), (79, .invokevirtual 434, 3, 23, 272, 0, 0, 273, 0, 0), (82, .goto 4, 3, 0, 0, 0, 0, 0, 0, 0), (85, .iconst (-1), 1, 0, 0, 0, 0, 0, 0, 0)]), (102, [(86, .istore_n 1, 1, 4, 0, 0, 0, 0, 0, 0), (87, .iload_n 1, 1, 2, 0, 0, 0, 0, 0, 0), (88, .ifCond .lt 15, 3, 12, 0, 0, 0, 0, 0, 0), (91, .aload_n 0, 1, 3, 0, 0, 0, 0, 0, 0), (92, .getfield 88, 3, 14, 163, 0, 0, 9, 42, 3), (95, .iconst 1, 1, 0, 0, 0, 0, 0, 0, 0), (96, .dup2, 1, 11, 0, 0, 0, 0, 0, 0), (97, .iaload, 1, 22, 0, 0, 0, 0, 0, 0), (98, .iconst 1, 1, 0, 0, 0, 0, 0, 0, 0), (99, .iload_n 1, 1, 2, 0, 0, 0, 0, 0, 0), (100, .ishl, 1, 7, 0, 0, 0, 0, 0, 0), (101, .ior, 1, 7, 0, 0, 0, 0, 0, 0)]), (105, [(102, .iastore, 1, 17, 0, 0, 0, 0, 0, 0), (103, .iload_n 1, 1, 2, 0, 0, 0, 0, 0, 0), (104, .ireturn, 1, 21, 0, 0, 0, 0, 0, 0)])]
def ee_me175 : ee_me := (9, ⟨"PepperTablesModel", "course", "()I"⟩, prog_11_method_89_code, 2, (some .int), ee_B175, 0, 0)
set_option maxRecDepth 100000 in
theorem ee_me175ok : ee_Mb ee_me175 = true := by decide +kernel
end
section
/- 176: PepperTablesModel.divisor(II)I -/
def ee_B176 : List (Nat × List ee_en) := [(15, [(0, .iload_n 0, 1, 2, 0, 0, 0, 0, 0, 0), (1, .istore_n 2, 1, 4, 0, 0, 0, 0, 0, 0), (2, .iload_n 1, 1, 2, 0, 0, 0, 0, 0, 0), (3, .istore_n 3, 1, 4, 0, 0, 0, 0, 0, 0), (4, .iload_n 3, 1, 2, 0, 0, 0, 0, 0, 0), (5, .ifCond .le 16, 3, 12, 0, 0, 0, 0, 0, 0), (8, .iload_n 2, 1, 2, 0, 0, 0, 0, 0, 0), (9, .iload_n 3, 1, 2, 0, 0, 0, 0, 0, 0), (10, .irem, 1, 8, 0, 0, 0, 0, 0, 0), (11, .istore 4, 2, 4, 0, 0, 0, 0, 0, 0), (13, .iload_n 3, 1, 2, 0, 0, 0, 0, 0, 0), (14, .istore_n 2, 1, 4, 0, 0, 0, 0, 0, 0)]), (23, [(15, .iload 4, 2, 2, 0, 0, 0, 0, 0, 0), (17, .istore_n 3, 1, 4, 0, 0, 0, 0, 0, 0), (18, .goto (-14), 3, 0, 0, 0, 0, 0, 0, 0), (21, .iload_n 2, 1, 2, 0, 0, 0, 0, 0, 0), (22, .ireturn, 1, 21, 0, 0, 0, 0, 0, 0)])]
def ee_me176 : ee_me := (9, ⟨"PepperTablesModel", "divisor", "(II)I"⟩, prog_11_method_42_code, 5, (some .int), ee_B176, 0, 0)
set_option maxRecDepth 100000 in
theorem ee_me176ok : ee_Mb ee_me176 = true := by decide +kernel
/- 177: PepperTablesModel.doBothSit(I)Z -/
def ee_B177 : List (Nat × List ee_en) := [(22, [(0, .aload_n 0, 1, 3, 0, 0, 0, 0, 0, 0), (1, .getfield 88, 3, 14, 163, 0, 0, 9, 42, 3), (4, .iconst 0, 1, 0, 0, 0, 0, 0, 0, 0), (5, .iaload, 1, 22, 0, 0, 0, 0, 0, 0), (6, .aload_n 0, 1, 3, 0, 0, 0, 0, 0, 0), (7, .iload_n 1, 1, 2, 0, 0, 0, 0, 0, 0), (8, .invokevirtual 389, 3, 23, 266, 0, 0, 192, 0, 1), (11, .invokestatic 259, 3, 23, 273, 0, 0, 166, 1, 2), (14, .ifCond .eq 24, 3, 12, 0, 0, 0, 0, 0, 0), (17, .aload_n 0, 1, 3, 0, 0, 0, 0, 0, 0), (18, .getfield 88, 3, 14, 163, 0, 0, 9, 42, 3), (21, .iconst 0, 1, 0, 0, 0, 0, 0, 0, 0)]), (40, [(22, .iaload, 1, 22, 0, 0, 0, 0, 0, 0), (23, .aload_n 0, 1, 3, 0, 0, 0, 0, 0, 0), (24, .iload_n 1, 1, 2, 0, 0, 0, 0, 0, 0), (25, .invokevirtual 392, 3, 23, 274, 0, 0, 288, 0, 1), (28, .invokestatic 259, 3, 23, 273, 0, 0, 166, 1, 2), (31, .ifCond .eq 7, 3, 12, 0, 0, 0, 0, 0, 0), (34, .iconst 1, 1, 0, 0, 0, 0, 0, 0, 0), (35, .goto 4, 3, 0, 0, 0, 0, 0, 0, 0), (38, .iconst 0, 1, 0, 0, 0, 0, 0, 0, 0), (39, .ireturn, 1, 21, 0, 0, 0, 0, 0, 0)])]
def ee_me177 : ee_me := (9, ⟨"PepperTablesModel", "doBothSit", "(I)Z"⟩, prog_11_method_61_code, 2, (some .boolean), ee_B177, 0, 0)
set_option maxRecDepth 100000 in
theorem ee_me177ok : ee_Mb ee_me177 = true := by decide +kernel
/- 178: PepperTablesModel.doesFit(II)Z -/
def ee_B178 : List (Nat × List ee_en) := [(20, [(0, .iconst 0, 1, 0, 0, 0, 0, 0, 0, 0), (1, .istore_n 3, 1, 4, 0, 0, 0, 0, 0, 0), (2, .iload_n 3, 1, 2, 0, 0, 0, 0, 0, 0), (3, .aload_n 0, 1, 3, 0, 0, 0, 0, 0, 0), (4, .getfield 380, 3, 14, 181, 0, 0, 9, 60, 0), (7, .if_icmp .ge 85, 3, 12, 0, 0, 0, 0, 0, 0), (10, .aload_n 0, 1, 3, 0, 0, 0, 0, 0, 0), (11, .getfield 118, 3, 14, 173, 0, 0, 9, 56, 3), (14, .iload_n 3, 1, 2, 0, 0, 0, 0, 0, 0), (15, .iaload, 1, 22, 0, 0, 0, 0, 0, 0), (16, .iload_n 2, 1, 2, 0, 0, 0, 0, 0, 0), (17, .if_icmp .gt 69, 3, 12, 0, 0, 0, 0, 0, 0)]), (42, [(20, .aload_n 0, 1, 3, 0, 0, 0, 0, 0, 0), (21, .getfield 121, 3, 14, 174, 0, 0, 9, 57, 3), (24, .iload_n 3, 1, 2, 0, 0, 0, 0, 0, 0), (25, .iaload, 1, 22, 0, 0, 0, 0, 0, 0), (26, .ifCond .lt 16, 3, 12, 0, 0, 0, 0, 0, 0), (29, .aload_n 0, 1, 3, 0, 0, 0, 0, 0, 0), (30, .getfield 121, 3, 14, 174, 0, 0, 9, 57, 3), (33, .iload_n 3, 1, 2, 0, 0, 0, 0, 0, 0), (34, .iaload, 1, 22, 0, 0, 0, 0, 0, 0), (35, .iload_n 2, 1, 2, 0, 0, 0, 0, 0, 0), (36, .if_icmp .gt 6, 3, 12, 0, 0, 0, 0, 0, 0), (39, .goto 47, 3, 0, 0, 0, 0, 0, 0, 0)]), (58, [(42, .aload_n 0, 1, 3, 0, 0, 0, 0, 0, 0), (43, .getfield 106, 3, 14, 169, 0, 0, 9, 52, 3), (46, .iconst 5, 1, 0, 0, 0, 0, 0, 0, 0), (47, .iload_n 1, 1, 2, 0, 0, 0, 0, 0, 0), (48, .imul, 1, 7, 0, 0, 0, 0, 0, 0), (49, .aload_n 0, 1, 3, 0, 0, 0, 0, 0, 0), (50, .getfield 109, 3, 14, 170, 0, 0, 9, 53, 3), (53, .iload_n 3, 1, 2, 0, 0, 0, 0, 0, 0), (54, .iaload, 1, 22, 0, 0, 0, 0, 0, 0), (55, .iadd, 1, 7, 0, 0, 0, 0, 0, 0), (56, .iaload, 1, 22, 0, 0, 0, 0, 0, 0), (57, .aload_n 0, 1, 3, 0, 0, 0, 0, 0, 0)]), (80, [(58, .getfield 112, 3, 14, 171, 0, 0, 9, 54, 3), (61, .iload_n 3, 1, 2, 0, 0, 0, 0, 0, 0), (62, .iaload, 1, 22, 0, 0, 0, 0, 0, 0), (63, .if_icmp .lt 7, 3, 12, 0, 0, 0, 0, 0, 0), (66, .iconst 1, 1, 0, 0, 0, 0, 0, 0, 0), (67, .goto 4, 3, 0, 0, 0, 0, 0, 0, 0), (70, .iconst 0, 1, 0, 0, 0, 0, 0, 0, 0), (71, .istore 4, 2, 4, 0, 0, 0, 0, 0, 0), (73, .iload 4, 2, 2, 0, 0, 0, 0, 0, 0), (75, .aload_n 0, 1, 3, 0, 0, 0, 0, 0, 0), (76, .getfield 115, 3, 14, 172, 0, 0, 9, 55, 3), (79, .iload_n 3, 1, 2, 0, 0, 0, 0, 0, 0)]), (94, [(80, .iaload, 1, 22, 0, 0, 0, 0, 0, 0), (81, .if_icmp .eq 5, 3, 12, 0, 0, 0, 0, 0, 0), (84, .iconst 0, 1, 0, 0, 0, 0, 0, 0, 0), (85, .ireturn, 1, 21, 0, 0, 0, 0, 0, 0), (86, .iinc 3 1, 3, 6, 0, 0, 0, 0, 0, 0), (89, .goto (-87), 3, 0, 0, 0, 0, 0, 0, 0), (92, .iconst 1, 1, 0, 0, 0, 0, 0, 0, 0), (93, .ireturn, 1, 21, 0, 0, 0, 0, 0, 0)])]
def ee_me178 : ee_me := (9, ⟨"PepperTablesModel", "doesFit", "(II)Z"⟩, prog_11_method_128_code, 5, (some .boolean), ee_B178, 0, 0)
set_option maxRecDepth 100000 in
theorem ee_me178ok : ee_Mb ee_me178 = true := by decide +kernel
/- 179: PepperTablesModel.doesKeep(II)Z -/
def ee_B179 : List (Nat × List ee_en) := [(20, [(0, .aload_n 0, 1, 3, 0, 0, 0, 0, 0, 0), (1, .iload_n 1, 1, 2, 0, 0, 0, 0, 0, 0), (2, .invokevirtual 413, 3, 23, 267, 0, 0, 170, 0, 1), (5, .aload_n 0, 1, 3, 0, 0, 0, 0, 0, 0), (6, .iload_n 2, 1, 2, 0, 0, 0, 0, 0, 0), (7, .invokevirtual 419, 3, 23, 275, 0, 0, 283, 0, 1), (10, .iand, 1, 7, 0, 0, 0, 0, 0, 0), (11, .aload_n 0, 1, 3, 0, 0, 0, 0, 0, 0), (12, .invokevirtual 416, 3, 23, 238, 0, 0, 229, 0, 0), (15, .iand, 1, 7, 0, 0, 0, 0, 0, 0), (16, .ifCond .eq 7, 3, 12, 0, 0, 0, 0, 0, 0), (19, .iconst 1, 1, 0, 0, 0, 0, 0, 0, 0)]), (25, [(20, .goto 4, 3, 0, 0, 0, 0, 0, 0, 0), (23, .iconst 0, 1, 0, 0, 0, 0, 0, 0, 0), (24, .ireturn, 1, 21, 0, 0, 0, 0, 0, 0)])]
def ee_me179 : ee_me := (9, ⟨"PepperTablesModel", "doesKeep", "(II)Z"⟩, prog_11_method_115_code, 3, (some .boolean), ee_B179, 0, 0)
set_option maxRecDepth 100000 in
theorem ee_me179ok : ee_Mb ee_me179 = true := by decide +kernel
/- 180: PepperTablesModel.dupe()I -/
def ee_B180 : List (Nat × List ee_en) := [(18, [(0, .iconst (-1), 1, 0, 0, 0, 0, 0, 0, 0), (1, .istore_n 1, 1, 4, 0, 0, 0, 0, 0, 0), (2, .iconst 0, 1, 0, 0, 0, 0, 0, 0, 0), (3, .istore_n 2, 1, 4, 0, 0, 0, 0, 0, 0), (4, .iload_n 2, 1, 2, 0, 0, 0, 0, 0, 0), (5, .aload_n 0, 1, 3, 0, 0, 0, 0, 0, 0), (6, .invokevirtual 358, 3, 23, 236, 0, 0, 190, 0, 0), (9, .if_icmp .ge 46, 3, 12, 0, 0, 0, 0, 0, 0), (12, .iload_n 1, 1, 2, 0, 0, 0, 0, 0, 0), (13, .ifCond .lt 34, 3, 12, 0, 0, 0, 0, 0, 0), (16, .aload_n 0, 1, 3, 0, 0, 0, 0, 0, 0), (17, .aload_n 0, 1, 3, 0, 0, 0, 0, 0, 0)]), (40, [(18, .iload_n 2, 1, 2, 0, 0, 0, 0, 0, 0), (19, .invokevirtual 419, 3, 23, 275, 0, 0, 283, 0, 1), (22, .aload_n 0, 1, 3, 0, 0, 0, 0, 0, 0), (23, .invokevirtual 416, 3, 23, 238, 0, 0, 229, 0, 0), (26, .iand, 1, 7, 0, 0, 0, 0, 0, 0), (27, .invokevirtual 348, 3, 23, 239, 0, 0, 198, 0, 1), (30, .aload_n 0, 1, 3, 0, 0, 0, 0, 0, 0), (31, .aload_n 0, 1, 3, 0, 0, 0, 0, 0, 0), (32, .iload_n 1, 1, 2, 0, 0, 0, 0, 0, 0), (33, .invokevirtual 419, 3, 23, 275, 0, 0, 283, 0, 1), (36, .aload_n 0, 1, 3, 0, 0, 0, 0, 0, 0), (37, .invokevirtual 416, 3, 23, 238, 0, 0, 229, 0, 0)]), (57, [(40, .iand, 1, 7, 0, 0, 0, 0, 0, 0), (41, .invokevirtual 348, 3, 23, 239, 0, 0, 198, 0, 1), (44, .if_icmp .le 5, 3, 12, 0, 0, 0, 0, 0, 0), (47, .iload_n 2, 1, 2, 0, 0, 0, 0, 0, 0), (48, .istore_n 1, 1, 4, 0, 0, 0, 0, 0, 0), (49, .iinc 2 1, 3, 6, 0, 0, 0, 0, 0, 0), (52, .goto (-48), 3, 0, 0, 0, 0, 0, 0, 0), (55, .iload_n 1, 1, 2, 0, 0, 0, 0, 0, 0), (56, .ireturn, 1, 21, 0, 0, 0, 0, 0, 0)])]
def ee_me180 : ee_me := (9, ⟨"PepperTablesModel", "dupe", "()I"⟩, prog_11_method_73_code, 3, (some .int), ee_B180, 0, 0)
set_option maxRecDepth 100000 in
theorem ee_me180ok : ee_Mb ee_me180 = true := by decide +kernel
/- 181: PepperTablesModel.e()V -/
def ee_B181 : List (Nat × List ee_en) := [(19, [(0, .aload_n 0, 1, 3, 0, 0, 0, 0, 0, 0), (1, .iconst 0, 1, 0, 0, 0, 0, 0, 0, 0), (2, .putfield 303, 3, 15, 190, 0, 0, 9, 37, 0), (5, .aload_n 0, 1, 3, 0, 0, 0, 0, 0, 0), (6, .iconst 0, 1, 0, 0, 0, 0, 0, 0, 0), (7, .putfield 306, 3, 15, 191, 0, 0, 9, 36, 0), (10, .aload_n 0, 1, 3, 0, 0, 0, 0, 0, 0), (11, .bipush 8, 2, 0, 0, 0, 0, 0, 0, 0), (13, .iconst 0, 1, 0, 0, 0, 0, 0, 0, 0), (14, .invokevirtual 309, 3, 23, 261, 0, 0, 252, 0, 2), (17, .iconst 1, 1, 0, 0, 0, 0, 0, 0, 0), (18, .istore_n 1, 1, 4, 0, 0, 0, 0, 0, 0)]), (45, [(19, .aload_n 0, 1, 3, 0, 0, 0, 0, 0, 0), (20, .invokevirtual 223, 3, 23, 276, 0, 0, 213, 0, 0), (23, .ifCond .eq 29, 3, 12, 0, 0, 0, 0, 0, 0), (26, .aload_n 0, 1, 3, 0, 0, 0, 0, 0, 0), (27, .getfield 303, 3, 14, 190, 0, 0, 9, 37, 0), (30, .ifCond .le 22, 3, 12, 0, 0, 0, 0, 0, 0), (33, .iload_n 1, 1, 2, 0, 0, 0, 0, 0, 0), (34, .ifCond .eq 10, 3, 12, 0, 0, 0, 0, 0, 0), (37, .aload_n 0, 1, 3, 0, 0, 0, 0, 0, 0), (38, .invokevirtual 312, 3, 23, 277, 0, 0, 286, 0, 0), (41, .goto 7, 3, 0, 0, 0, 0, 0, 0, 0), (44, .aload_n 0, 1, 3, 0, 0, 0, 0, 0, 0)]), (53, [(45, .invokevirtual 315, 3, 23, 278, 0, 0, 165, 0, 0), (48, .istore_n 1, 1, 4, 0, 0, 0, 0, 0, 0), (49, .goto (-30), 3, 0, 0, 0, 0, 0, 0, 0), (52, .return_, 1, 21, 0, 0, 0, 0, 0, 0)])]
def ee_me181 : ee_me := (9, ⟨"PepperTablesModel", "e", "()V"⟩, prog_11_method_29_code, 2, none, ee_B181, 0, 0)
set_option maxRecDepth 100000 in
theorem ee_me181ok : ee_Mb ee_me181 = true := by decide +kernel
/- 182: PepperTablesModel.emit(II)V -/
def ee_B182 : List (Nat × List ee_en) := [(20, [(0, .aload_n 0, 1, 3, 0, 0, 0, 0, 0, 0), (1, .getfield 73, 3, 14, 158, 0, 0, 9, 28, 3), (4, .aload_n 0, 1, 3, 0, 0, 0, 0, 0, 0), (5, .getfield 247, 3, 14, 194, 0, 0, 9, 35, 0), (8, .iload_n 1, 1, 2, 0, 0, 0, 0, 0, 0), (9, .iastore, 1, 17, 0, 0, 0, 0, 0, 0), (10, .aload_n 0, 1, 3, 0, 0, 0, 0, 0, 0), (11, .getfield 76, 3, 14, 159, 0, 0, 9, 29, 3), (14, .aload_n 0, 1, 3, 0, 0, 0, 0, 0, 0), (15, .getfield 247, 3, 14, 194, 0, 0, 9, 35, 0), (18, .iload_n 2, 1, 2, 0, 0, 0, 0, 0, 0), (19, .iastore, 1, 17, 0, 0, 0, 0, 0, 0)]), (31, [(20, .aload_n 0, 1, 3, 0, 0, 0, 0, 0, 0), (21, .dup, 1, 11, 0, 0, 0, 0, 0, 0), (22, .getfield 247, 3, 14, 194, 0, 0, 9, 35, 0), (25, .iconst 1, 1, 0, 0, 0, 0, 0, 0, 0), (26, .iadd, 1, 7, 0, 0, 0, 0, 0, 0), (27, .putfield 247, 3, 15, 194, 0, 0, 9, 35, 0), (30, .return_, 1, 21, 0, 0, 0, 0, 0, 0)])]
def ee_me182 : ee_me := (9, ⟨"PepperTablesModel", "emit", "(II)V"⟩, prog_11_method_27_code, 3, none, ee_B182, 0, 0)
set_option maxRecDepth 100000 in
theorem ee_me182ok : ee_Mb ee_me182 = true := by decide +kernel
/- 183: PepperTablesModel.end(I)I -/
def ee_B183 : List (Nat × List ee_en) := [(20, [(0, .iload_n 1, 1, 2, 0, 0, 0, 0, 0, 0), (1, .ifCond .lt 11, 3, 12, 0, 0, 0, 0, 0, 0), (4, .iload_n 1, 1, 2, 0, 0, 0, 0, 0, 0), (5, .aload_n 0, 1, 3, 0, 0, 0, 0, 0, 0), (6, .getfield 250, 3, 14, 183, 0, 0, 9, 2, 0), (9, .if_icmp .le 5, 3, 12, 0, 0, 0, 0, 0, 0), (12, .iconst (-1), 1, 0, 0, 0, 0, 0, 0, 0), (13, .ireturn, 1, 21, 0, 0, 0, 0, 0, 0), (14, .aload_n 0, 1, 3, 0, 0, 0, 0, 0, 0), (15, .iload_n 1, 1, 2, 0, 0, 0, 0, 0, 0), (16, .putfield 250, 3, 15, 183, 0, 0, 9, 2, 0), (19, .iload_n 1, 1, 2, 0, 0, 0, 0, 0, 0)]), (21, [(20, .ireturn, 1, 21, 0, 0, 0, 0, 0, 0)])]
def ee_me183 : ee_me := (9, ⟨"PepperTablesModel", "end", "(I)I"⟩, prog_11_method_139_code, 2, (some .int), ee_B183, 0, 0)
set_option maxRecDepth 100000 in
theorem ee_me183ok : ee_Mb ee_me183 = true := by decide +kernel
/- 184: PepperTablesModel.exchange(I)I -/
def ee_B184 : List (Nat × List ee_en) := [(18, [(0, .iload_n 1, 1, 2, 0, 0, 0, 0, 0, 0), (1, .iconst 0, 1, 0, 0, 0, 0, 0, 0, 0), (2, .iconst 2, 1, 0, 0, 0, 0, 0, 0, 0), (3, .invokestatic 361, 3, 23, 250, 0, 0, 214, 1, 3), (6, .ifCond .ne 5, 3, 12, 0, 0, 0, 0, 0, 0), (9, .iconst (-1), 1, 0, 0, 0, 0, 0, 0, 0), (10, .ireturn, 1, 21, 0, 0, 0, 0, 0, 0), (11, .iconst (-1), 1, 0, 0, 0, 0, 0, 0, 0), (12, .istore_n 2, 1, 4, 0, 0, 0, 0, 0, 0), (13, .aload_n 0, 1, 3, 0, 0, 0, 0, 0, 0), (14, .aload_n 0, 1, 3, 0, 0, 0, 0, 0, 0), (15, .invokevirtual 428, 3, 23, 279, 0, 0, 160, 0, 0)]), (42, [(18, .invokevirtual 431, 3, 23, 280, 0, 0, 266, 0, 1), (21, .invokestatic 339, 3, 23, 254, 0, 0, 167, 1, 1), (24, .istore_n 3, 1, 4, 0, 0, 0, 0, 0, 0), (25, .iconst 0, 1, 0, 0, 0, 0, 0, 0, 0), (26, .istore 4, 2, 4, 0, 0, 0, 0, 0, 0), (28, .iload 4, 2, 2, 0, 0, 0, 0, 0, 0), (30, .aload_n 0, 1, 3, 0, 0, 0, 0, 0, 0), (31, .invokevirtual 368, 3, 23, 235, 0, 0, 238, 0, 0), (34, .aload_n 0, 1, 3, 0, 0, 0, 0, 0, 0), (35, .invokevirtual 368, 3, 23, 235, 0, 0, 238, 0, 0), (38, .imul, 1, 7, 0, 0, 0, 0, 0, 0), (39, .if_icmp .ge 120, 3, 12, 0, 0, 0, 0, 0, 0)]), (64, [(42, .iload 4, 2, 2, 0, 0, 0, 0, 0, 0), (44, .aload_n 0, 1, 3, 0, 0, 0, 0, 0, 0), (45, .invokevirtual 368, 3, 23, 235, 0, 0, 238, 0, 0), (48, .idiv, 1, 8, 0, 0, 0, 0, 0, 0), (49, .istore 5, 2, 4, 0, 0, 0, 0, 0, 0), (51, .iload 4, 2, 2, 0, 0, 0, 0, 0, 0), (53, .aload_n 0, 1, 3, 0, 0, 0, 0, 0, 0), (54, .invokevirtual 368, 3, 23, 235, 0, 0, 238, 0, 0), (57, .irem, 1, 8, 0, 0, 0, 0, 0, 0), (58, .istore 6, 2, 4, 0, 0, 0, 0, 0, 0), (60, .iload 5, 2, 2, 0, 0, 0, 0, 0, 0), (62, .iload 6, 2, 2, 0, 0, 0, 0, 0, 0)]), (90, [(64, .if_icmp .ge 89, 3, 12, 0, 0, 0, 0, 0, 0), (67, .aload_n 0, 1, 3, 0, 0, 0, 0, 0, 0), (68, .iload 5, 2, 2, 0, 0, 0, 0, 0, 0), (70, .iload 6, 2, 2, 0, 0, 0, 0, 0, 0), (72, .invokevirtual 467, 3, 23, 281, 0, 0, 171, 0, 2), (75, .ifCond .ne 6, 3, 12, 0, 0, 0, 0, 0, 0), (78, .goto 75, 3, 0, 0, 0, 0, 0, 0, 0), (81, .aload_n 0, 1, 3, 0, 0, 0, 0, 0, 0), (82, .invokevirtual 458, 3, 23, 242, 0, 0, 227, 0, 0), (85, .aload_n 0, 1, 3, 0, 0, 0, 0, 0, 0), (86, .getfield 88, 3, 14, 163, 0, 0, 9, 42, 3), (89, .iconst 2, 1, 0, 0, 0, 0, 0, 0, 0)]), (108, [(90, .iload 5, 2, 2, 0, 0, 0, 0, 0, 0), (92, .iadd, 1, 7, 0, 0, 0, 0, 0, 0), (93, .aload_n 0, 1, 3, 0, 0, 0, 0, 0, 0), (94, .getfield 97, 3, 14, 166, 0, 0, 9, 48, 3), (97, .iconst 2, 1, 0, 0, 0, 0, 0, 0, 0), (98, .iload 6, 2, 2, 0, 0, 0, 0, 0, 0), (100, .iadd, 1, 7, 0, 0, 0, 0, 0, 0), (101, .iaload, 1, 22, 0, 0, 0, 0, 0, 0), (102, .iastore, 1, 17, 0, 0, 0, 0, 0, 0), (103, .aload_n 0, 1, 3, 0, 0, 0, 0, 0, 0), (104, .getfield 88, 3, 14, 163, 0, 0, 9, 42, 3), (107, .iconst 2, 1, 0, 0, 0, 0, 0, 0, 0)]), (126, [(108, .iload 6, 2, 2, 0, 0, 0, 0, 0, 0), (110, .iadd, 1, 7, 0, 0, 0, 0, 0, 0), (111, .aload_n 0, 1, 3, 0, 0, 0, 0, 0, 0), (112, .getfield 97, 3, 14, 166, 0, 0, 9, 48, 3), (115, .iconst 2, 1, 0, 0, 0, 0, 0, 0, 0), (116, .iload 5, 2, 2, 0, 0, 0, 0, 0, 0), (118, .iadd, 1, 7, 0, 0, 0, 0, 0, 0), (119, .iaload, 1, 22, 0, 0, 0, 0, 0, 0), (120, .iastore, 1, 17, 0, 0, 0, 0, 0, 0), (121, .aload_n 0, 1, 3, 0, 0, 0, 0, 0, 0), (122, .aload_n 0, 1, 3, 0, 0, 0, 0, 0, 0), (123, .invokevirtual 428, 3, 23, 279, 0, 0, 160, 0, 0)]), (152, [(126, .invokevirtual 431, 3, 23, 280, 0, 0, 266, 0, 1), (129, .invokestatic 339, 3, 23, 254, 0, 0, 167, 1, 1), (132, .istore 7, 2, 4, 0, 0, 0, 0, 0, 0), (134, .aload_n 0, 1, 3, 0, 0, 0, 0, 0, 0), (135, .invokevirtual 464, 3, 23, 244, 0, 0, 169, 0, 0), (138, .iload 7, 2, 2, 0, 0, 0, 0, 0, 0), (140, .iload_n 3, 1, 2, 0, 0, 0, 0, 0, 0), (141, .if_icmp .gt 6, 3, 12, 0, 0, 0, 0, 0, 0), (144, .goto 9, 3, 0, 0, 0, 0, 0, 0, 0), (147, .iload 4, 2, 2, 0, 0, 0, 0, 0, 0), (149, .istore_n 2, 1, 4, 0, 0, 0, 0, 0, 0), (150, .iload 7, 2, 2, 0, 0, 0, 0, 0, 0)]), (176, [(152, .istore_n 3, 1, 4, 0, 0, 0, 0, 0, 0), (153, .iinc 4 1, 3, 6, 0, 0, 0, 0, 0, 0), (156, .goto (-128), 3, 0, 0, 0, 0, 0, 0, 0), (159, .iload_n 2, 1, 2, 0, 0, 0, 0, 0, 0), (160, .ifCond .ge 7, 3, 12, 0, 0, 0, 0, 0, 0), (163, .iconst (-1), 1, 0, 0, 0, 0, 0, 0, 0), (164, .goto 31, 3, 0, 0, 0, 0, 0, 0, 0), (167, .iload_n 1, 1, 2, 0, 0, 0, 0, 0, 0), (168, .ifCond .ne 12, 3, 12, 0, 0, 0, 0, 0, 0), (171, .iload_n 2, 1, 2, 0, 0, 0, 0, 0, 0), (172, .aload_n 0, 1, 3, 0, 0, 0, 0, 0, 0), (173, .invokevirtual 368, 3, 23, 235, 0, 0, 238, 0, 0)]), (196, [(176, .idiv, 1, 8, 0, 0, 0, 0, 0, 0), (177, .goto 18, 3, 0, 0, 0, 0, 0, 0, 0), (180, .iload_n 1, 1, 2, 0, 0, 0, 0, 0, 0), (181, .iconst 1, 1, 0, 0, 0, 0, 0, 0, 0), (182, .if_icmp .ne 12, 3, 12, 0, 0, 0, 0, 0, 0), (185, .iload_n 2, 1, 2, 0, 0, 0, 0, 0, 0), (186, .aload_n 0, 1, 3, 0, 0, 0, 0, 0, 0), (187, .invokevirtual 368, 3, 23, 235, 0, 0, 238, 0, 0), (190, .irem, 1, 8, 0, 0, 0, 0, 0, 0), (191, .goto 4, 3, 0, 0, 0, 0, 0, 0, 0), (194, .iload_n 3, 1, 2, 0, 0, 0, 0, 0, 0), (195, .ireturn, 1, 21, 0, 0, 0, 0, 0, 0)])]
def ee_me184 : ee_me := (9, ⟨"PepperTablesModel", "exchange", "(I)I"⟩, prog_11_method_112_code, 8, (some .int), ee_B184, 0, 0)
set_option maxRecDepth 100000 in
theorem ee_me184ok : ee_Mb ee_me184 = true := by decide +kernel
/- 185: PepperTablesModel.fails(II)V -/
def ee_B185 : List (Nat × List ee_en) := [(19, [(0, .aload_n 0, 1, 3, 0, 0, 0, 0, 0, 0), (1, .getfield 146, 3, 14, 195, 0, 0, 9, 4, 0), (4, .ifCond .le 4, 3, 12, 0, 0, 0, 0, 0, 0), (7, .return_, 1, 21, 0, 0, 0, 0, 0, 0), (8, .aload_n 0, 1, 3, 0, 0, 0, 0, 0, 0), (9, .iload_n 1, 1, 2, 0, 0, 0, 0, 0, 0), (10, .putfield 146, 3, 15, 195, 0, 0, 9, 4, 0), (13, .aload_n 0, 1, 3, 0, 0, 0, 0, 0, 0), (14, .iload_n 2, 1, 2, 0, 0, 0, 0, 0, 0), (15, .putfield 16, 3, 15, 140, 0, 0, 9, 5, 0), (18, .return_, 1, 21, 0, 0, 0, 0, 0, 0)])]
def ee_me185 : ee_me := (9, ⟨"PepperTablesModel", "fails", "(II)V"⟩, prog_11_method_5_code, 3, none, ee_B185, 0, 0)
set_option maxRecDepth 100000 in
theorem ee_me185ok : ee_Mb ee_me185 = true := by decide +kernel
/- 186: PepperTablesModel.fault(I)I -/
def ee_B186 : List (Nat × List ee_en) := [(24, [(0, .iload_n 1, 1, 2, 0, 0, 0, 0, 0, 0), (1, .ifCond .ne 10, 3, 12, 0, 0, 0, 0, 0, 0), (4, .aload_n 0, 1, 3, 0, 0, 0, 0, 0, 0), (5, .getfield 146, 3, 14, 195, 0, 0, 9, 4, 0), (8, .goto 16, 3, 0, 0, 0, 0, 0, 0, 0), (11, .iload_n 1, 1, 2, 0, 0, 0, 0, 0, 0), (12, .iconst 1, 1, 0, 0, 0, 0, 0, 0, 0), (13, .if_icmp .ne 10, 3, 12, 0, 0, 0, 0, 0, 0), (16, .aload_n 0, 1, 3, 0, 0, 0, 0, 0, 0), (17, .getfield 16, 3, 14, 140, 0, 0, 9, 5, 0), (20, .goto 4, 3, 0, 0, 0, 0, 0, 0, 0), (23, .iconst (-1), 1, 0, 0, 0, 0, 0, 0, 0)]), (25, [(24, .ireturn, 1, 21, 0, 0, 0, 0, 0, 0)])]
def ee_me186 : ee_me := (9, ⟨"PepperTablesModel", "fault", "(I)I"⟩, prog_11_method_38_code, 2, (some .int), ee_B186, 0, 0)
set_option maxRecDepth 100000 in
theorem ee_me186ok : ee_Mb ee_me186 = true := by decide +kernel
/- 187: PepperTablesModel.feast(II)I -/
def ee_B187 : List (Nat × List ee_en) := [(22, [(0, .aload_n 0, 1, 3, 0, 0, 0, 0, 0, 0), (1, .iconst 0, 1, 0, 0, 0, 0, 0, 0, 0), (2, .putfield 383, 3, 15, 185, 0, 0, 9, 50, 0), (5, .aload_n 0, 1, 3, 0, 0, 0, 0, 0, 0), (6, .iload_n 1, 1, 2, 0, 0, 0, 0, 0, 0), (7, .invokevirtual 410, 3, 23, 282, 0, 0, 219, 0, 1), (10, .ifCond .eq 16, 3, 12, 0, 0, 0, 0, 0, 0), (13, .aload_n 0, 1, 3, 0, 0, 0, 0, 0, 0), (14, .iload_n 2, 1, 2, 0, 0, 0, 0, 0, 0), (15, .invokevirtual 410, 3, 23, 282, 0, 0, 219, 0, 1), (18, .ifCond .eq 8, 3, 12, 0, 0, 0, 0, 0, 0), (21, .iload_n 1, 1, 2, 0, 0, 0, 0, 0, 0)]), (40, [(22, .iload_n 2, 1, 2, 0, 0, 0, 0, 0, 0), (23, .if_icmp .ne 5, 3, 12, 0, 0, 0, 0, 0, 0), (26, .iconst (-1), 1, 0, 0, 0, 0, 0, 0, 0), (27, .ireturn, 1, 21, 0, 0, 0, 0, 0, 0), (28, .iconst 0, 1, 0, 0, 0, 0, 0, 0, 0), (29, .istore_n 3, 1, 4, 0, 0, 0, 0, 0, 0), (30, .iload_n 3, 1, 2, 0, 0, 0, 0, 0, 0), (31, .iconst 4, 1, 0, 0, 0, 0, 0, 0, 0), (32, .if_icmp .ge 73, 3, 12, 0, 0, 0, 0, 0, 0), (35, .aload_n 0, 1, 3, 0, 0, 0, 0, 0, 0), (36, .aload_n 0, 1, 3, 0, 0, 0, 0, 0, 0), (37, .getfield 88, 3, 14, 163, 0, 0, 9, 42, 3)]), (52, [(40, .iconst 0, 1, 0, 0, 0, 0, 0, 0, 0), (41, .iaload, 1, 22, 0, 0, 0, 0, 0, 0), (42, .iconst 1, 1, 0, 0, 0, 0, 0, 0, 0), (43, .iload_n 1, 1, 2, 0, 0, 0, 0, 0, 0), (44, .ishl, 1, 7, 0, 0, 0, 0, 0, 0), (45, .iconst (-1), 1, 0, 0, 0, 0, 0, 0, 0), (46, .ixor, 1, 7, 0, 0, 0, 0, 0, 0), (47, .iand, 1, 7, 0, 0, 0, 0, 0, 0), (48, .iconst 1, 1, 0, 0, 0, 0, 0, 0, 0), (49, .iload_n 2, 1, 2, 0, 0, 0, 0, 0, 0), (50, .ishl, 1, 7, 0, 0, 0, 0, 0, 0), (51, .iconst (-1), 1, 0, 0, 0, 0, 0, 0, 0)]), (64, [(52, .ixor, 1, 7, 0, 0, 0, 0, 0, 0), (53, .iand, 1, 7, 0, 0, 0, 0, 0, 0), (54, .iload_n 3, 1, 2, 0, 0, 0, 0, 0, 0), (55, .iconst 2, 1, 0, 0, 0, 0, 0, 0, 0), (56, .idiv, 1, 8, 0, 0, 0, 0, 0, 0), (57, .iload_n 1, 1, 2, 0, 0, 0, 0, 0, 0), (58, .ishl, 1, 7, 0, 0, 0, 0, 0, 0), (59, .ior, 1, 7, 0, 0, 0, 0, 0, 0), (60, .iload_n 3, 1, 2, 0, 0, 0, 0, 0, 0), (61, .iconst 2, 1, 0, 0, 0, 0, 0, 0, 0), (62, .irem, 1, 8, 0, 0, 0, 0, 0, 0), (63, .iload_n 2, 1, 2, 0, 0, 0, 0, 0, 0)]), (84, [(64, .ishl, 1, 7, 0, 0, 0, 0, 0, 0), (65, .ior, 1, 7, 0, 0, 0, 0, 0, 0), (66, .invokevirtual 449, 3, 23, 283, 0, 0, 267, 0, 1), (69, .istore 4, 2, 4, 0, 0, 0, 0, 0, 0), (71, .aload_n 0, 1, 3, 0, 0, 0, 0, 0, 0), (72, .getfield 103, 3, 14, 168, 0, 0, 9, 51, 3), (75, .iload_n 3, 1, 2, 0, 0, 0, 0, 0, 0), (76, .aload_n 0, 1, 3, 0, 0, 0, 0, 0, 0), (77, .iload_n 1, 1, 2, 0, 0, 0, 0, 0, 0), (78, .iload 4, 2, 2, 0, 0, 0, 0, 0, 0), (80, .invokevirtual 452, 3, 23, 284, 0, 0, 290, 0, 2), (83, .iastore, 1, 17, 0, 0, 0, 0, 0, 0)]), (105, [(84, .aload_n 0, 1, 3, 0, 0, 0, 0, 0, 0), (85, .getfield 103, 3, 14, 168, 0, 0, 9, 51, 3), (88, .iconst 4, 1, 0, 0, 0, 0, 0, 0, 0), (89, .iload_n 3, 1, 2, 0, 0, 0, 0, 0, 0), (90, .iadd, 1, 7, 0, 0, 0, 0, 0, 0), (91, .aload_n 0, 1, 3, 0, 0, 0, 0, 0, 0), (92, .iload_n 2, 1, 2, 0, 0, 0, 0, 0, 0), (93, .iload 4, 2, 2, 0, 0, 0, 0, 0, 0), (95, .invokevirtual 452, 3, 23, 284, 0, 0, 290, 0, 2), (98, .iastore, 1, 17, 0, 0, 0, 0, 0, 0), (99, .iinc 3 1, 3, 6, 0, 0, 0, 0, 0, 0), (102, .goto (-72), 3, 0, 0, 0, 0, 0, 0, 0)]), (124, [(105, .iconst 0, 1, 0, 0, 0, 0, 0, 0, 0), (106, .istore_n 3, 1, 4, 0, 0, 0, 0, 0, 0), (107, .iconst 0, 1, 0, 0, 0, 0, 0, 0, 0), (108, .istore 4, 2, 4, 0, 0, 0, 0, 0, 0), (110, .iload 4, 2, 2, 0, 0, 0, 0, 0, 0), (112, .iconst 4, 1, 0, 0, 0, 0, 0, 0, 0), (113, .if_icmp .ge 86, 3, 12, 0, 0, 0, 0, 0, 0), (116, .aload_n 0, 1, 3, 0, 0, 0, 0, 0, 0), (117, .getfield 103, 3, 14, 168, 0, 0, 9, 51, 3), (120, .iload 4, 2, 2, 0, 0, 0, 0, 0, 0), (122, .iconst 2, 1, 0, 0, 0, 0, 0, 0, 0), (123, .ixor, 1, 7, 0, 0, 0, 0, 0, 0)]), (144, [(124, .iaload, 1, 22, 0, 0, 0, 0, 0, 0), (125, .aload_n 0, 1, 3, 0, 0, 0, 0, 0, 0), (126, .getfield 103, 3, 14, 168, 0, 0, 9, 51, 3), (129, .iload 4, 2, 2, 0, 0, 0, 0, 0, 0), (131, .iaload, 1, 22, 0, 0, 0, 0, 0, 0), (132, .if_icmp .gt 61, 3, 12, 0, 0, 0, 0, 0, 0), (135, .aload_n 0, 1, 3, 0, 0, 0, 0, 0, 0), (136, .getfield 103, 3, 14, 168, 0, 0, 9, 51, 3), (139, .iconst 4, 1, 0, 0, 0, 0, 0, 0, 0), (140, .iload 4, 2, 2, 0, 0, 0, 0, 0, 0), (142, .iconst 1, 1, 0, 0, 0, 0, 0, 0, 0), (143, .ixor, 1, 7, 0, 0, 0, 0, 0, 0)]), (165, [(144, .iadd, 1, 7, 0, 0, 0, 0, 0, 0), (145, .iaload, 1, 22, 0, 0, 0, 0, 0, 0), (146, .aload_n 0, 1, 3, 0, 0, 0, 0, 0, 0), (147, .getfield 103, 3, 14, 168, 0, 0, 9, 51, 3), (150, .iconst 4, 1, 0, 0, 0, 0, 0, 0, 0), (151, .iload 4, 2, 2, 0, 0, 0, 0, 0, 0), (153, .iadd, 1, 7, 0, 0, 0, 0, 0, 0), (154, .iaload, 1, 22, 0, 0, 0, 0, 0, 0), (155, .if_icmp .le 6, 3, 12, 0, 0, 0, 0, 0, 0), (158, .goto 35, 3, 0, 0, 0, 0, 0, 0, 0), (161, .iload_n 3, 1, 2, 0, 0, 0, 0, 0, 0), (162, .ifCond .ne 28, 3, 12, 0, 0, 0, 0, 0, 0)]), (183, [(165, .aload_n 0, 1, 3, 0, 0, 0, 0, 0, 0), (166, .getfield 100, 3, 14, 167, 0, 0, 9, 49, 3), (169, .iconst 0, 1, 0, 0, 0, 0, 0, 0, 0), (170, .iload 4, 2, 2, 0, 0, 0, 0, 0, 0), (172, .iconst 2, 1, 0, 0, 0, 0, 0, 0, 0), (173, .idiv, 1, 8, 0, 0, 0, 0, 0, 0), (174, .iastore, 1, 17, 0, 0, 0, 0, 0, 0), (175, .aload_n 0, 1, 3, 0, 0, 0, 0, 0, 0), (176, .getfield 100, 3, 14, 167, 0, 0, 9, 49, 3), (179, .iconst 1, 1, 0, 0, 0, 0, 0, 0, 0), (180, .iload 4, 2, 2, 0, 0, 0, 0, 0, 0), (182, .iconst 2, 1, 0, 0, 0, 0, 0, 0, 0)]), (201, [(183, .irem, 1, 8, 0, 0, 0, 0, 0, 0), (184, .iastore, 1, 17, 0, 0, 0, 0, 0, 0), (185, .aload_n 0, 1, 3, 0, 0, 0, 0, 0, 0), (186, .iconst 2, 1, 0, 0, 0, 0, 0, 0, 0), (187, .putfield 383, 3, 15, 185, 0, 0, 9, 50, 0), (190, .iinc 3 1, 3, 6, 0, 0, 0, 0, 0, 0), (193, .iinc 4 1, 3, 6, 0, 0, 0, 0, 0, 0), (196, .goto (-86), 3, 0, 0, 0, 0, 0, 0, 0), (199, .iload_n 3, 1, 2, 0, 0, 0, 0, 0, 0), (200, .ireturn, 1, 21, 0, 0, 0, 0, 0, 0)])]
def ee_me187 : ee_me := (9, ⟨"PepperTablesModel", "feast", "(II)I"⟩, prog_11_method_105_code, 5, (some .int), ee_B187, 0, 0)
set_option maxRecDepth 100000 in
theorem ee_me187ok : ee_Mb ee_me187 = true := by decide +kernel
end
section
/- 188: PepperTablesModel.feed(IIIII)I -/
def ee_B188 : List (Nat × List ee_en) := [(22, [(0, .aload_n 0, 1, 3, 0, 0, 0, 0, 0, 0), (1, .getfield 250, 3, 14, 183, 0, 0, 9, 2, 0), (4, .bipush 20, 2, 0, 0, 0, 0, 0, 0, 0), (6, .iadd, 1, 7, 0, 0, 0, 0, 0, 0), (7, .sipush 1600, 3, 0, 0, 0, 0, 0, 0, 0), (10, .if_icmp .le 5, 3, 12, 0, 0, 0, 0, 0, 0), (13, .iconst (-1), 1, 0, 0, 0, 0, 0, 0, 0), (14, .ireturn, 1, 21, 0, 0, 0, 0, 0, 0), (15, .iconst 0, 1, 0, 0, 0, 0, 0, 0, 0), (16, .istore 6, 2, 4, 0, 0, 0, 0, 0, 0), (18, .iload 6, 2, 2, 0, 0, 0, 0, 0, 0), (20, .bipush 20, 2, 0, 0, 0, 0, 0, 0, 0)]), (48, [(22, .if_icmp .ge 83, 3, 12, 0, 0, 0, 0, 0, 0), (25, .iload 6, 2, 2, 0, 0, 0, 0, 0, 0), (27, .iconst 4, 1, 0, 0, 0, 0, 0, 0, 0), (28, .if_icmp .ge 7, 3, 12, 0, 0, 0, 0, 0, 0), (31, .iload_n 1, 1, 2, 0, 0, 0, 0, 0, 0), (32, .goto 39, 3, 0, 0, 0, 0, 0, 0, 0), (35, .iload 6, 2, 2, 0, 0, 0, 0, 0, 0), (37, .bipush 8, 2, 0, 0, 0, 0, 0, 0, 0), (39, .if_icmp .ge 7, 3, 12, 0, 0, 0, 0, 0, 0), (42, .iload_n 2, 1, 2, 0, 0, 0, 0, 0, 0), (43, .goto 28, 3, 0, 0, 0, 0, 0, 0, 0), (46, .iload 6, 2, 2, 0, 0, 0, 0, 0, 0)]), (74, [(48, .bipush 12, 2, 0, 0, 0, 0, 0, 0, 0), (50, .if_icmp .ge 7, 3, 12, 0, 0, 0, 0, 0, 0), (53, .iload_n 3, 1, 2, 0, 0, 0, 0, 0, 0), (54, .goto 17, 3, 0, 0, 0, 0, 0, 0, 0), (57, .iload 6, 2, 2, 0, 0, 0, 0, 0, 0), (59, .bipush 16, 2, 0, 0, 0, 0, 0, 0, 0), (61, .if_icmp .ge 8, 3, 12, 0, 0, 0, 0, 0, 0), (64, .iload 4, 2, 2, 0, 0, 0, 0, 0, 0), (66, .goto 5, 3, 0, 0, 0, 0, 0, 0, 0), (69, .iload 5, 2, 2, 0, 0, 0, 0, 0, 0), (71, .istore 7, 2, 4, 0, 0, 0, 0, 0, 0), (73, .aload_n 0, 1, 3, 0, 0, 0, 0, 0, 0)]), (95, [(74, .getfield 7, 3, 14, 138, 0, 0, 9, 0, 3), (77, .aload_n 0, 1, 3, 0, 0, 0, 0, 0, 0), (78, .getfield 250, 3, 14, 183, 0, 0, 9, 2, 0), (81, .iload 6, 2, 2, 0, 0, 0, 0, 0, 0), (83, .iadd, 1, 7, 0, 0, 0, 0, 0, 0), (84, .iload 7, 2, 2, 0, 0, 0, 0, 0, 0), (86, .bipush 24, 2, 0, 0, 0, 0, 0, 0, 0), (88, .bipush 8, 2, 0, 0, 0, 0, 0, 0, 0), (90, .iload 6, 2, 2, 0, 0, 0, 0, 0, 0), (92, .iconst 3, 1, 0, 0, 0, 0, 0, 0, 0), (93, .iand, 1, 7, 0, 0, 0, 0, 0, 0), (94, .imul, 1, 7, 0, 0, 0, 0, 0, 0)]), (116, [(95, .isub, 1, 7, 0, 0, 0, 0, 0, 0), (96, .ishr, 1, 7, 0, 0, 0, 0, 0, 0), (97, .i2b, 1, 10, 0, 0, 0, 0, 0, 0), (98, .bastore, 1, 17, 0, 0, 0, 0, 0, 0), (99, .iinc 6 1, 3, 6, 0, 0, 0, 0, 0, 0), (102, .goto (-84), 3, 0, 0, 0, 0, 0, 0, 0), (105, .aload_n 0, 1, 3, 0, 0, 0, 0, 0, 0), (106, .dup, 1, 11, 0, 0, 0, 0, 0, 0), (107, .getfield 250, 3, 14, 183, 0, 0, 9, 2, 0), (110, .bipush 20, 2, 0, 0, 0, 0, 0, 0, 0), (112, .iadd, 1, 7, 0, 0, 0, 0, 0, 0), (113, .putfield 250, 3, 15, 183, 0, 0, 9, 2, 0)]), (121, [(116, .aload_n 0, 1, 3, 0, 0, 0, 0, 0, 0), (117, .getfield 250, 3, 14, 183, 0, 0, 9, 2, 0), (120, .ireturn, 1, 21, 0, 0, 0, 0, 0, 0)])]
def ee_me188 : ee_me := (9, ⟨"PepperTablesModel", "feed", "(IIIII)I"⟩, prog_11_method_138_code, 8, (some .int), ee_B188, 0, 0)
set_option maxRecDepth 100000 in
theorem ee_me188ok : ee_Mb ee_me188 = true := by decide +kernel
/- 189: PepperTablesModel.fewest(I)I -/
def ee_B189 : List (Nat × List ee_en) := [(20, [(0, .iload_n 1, 1, 2, 0, 0, 0, 0, 0, 0), (1, .iconst 0, 1, 0, 0, 0, 0, 0, 0, 0), (2, .iconst 2, 1, 0, 0, 0, 0, 0, 0, 0), (3, .invokestatic 361, 3, 23, 250, 0, 0, 214, 1, 3), (6, .ifCond .ne 5, 3, 12, 0, 0, 0, 0, 0, 0), (9, .iconst (-1), 1, 0, 0, 0, 0, 0, 0, 0), (10, .ireturn, 1, 21, 0, 0, 0, 0, 0, 0), (11, .aload_n 0, 1, 3, 0, 0, 0, 0, 0, 0), (12, .aload_n 0, 1, 3, 0, 0, 0, 0, 0, 0), (13, .invokevirtual 428, 3, 23, 279, 0, 0, 160, 0, 0), (16, .invokevirtual 431, 3, 23, 280, 0, 0, 266, 0, 1), (19, .istore_n 2, 1, 4, 0, 0, 0, 0, 0, 0)]), (43, [(20, .iconst (-1), 1, 0, 0, 0, 0, 0, 0, 0), (21, .istore_n 3, 1, 4, 0, 0, 0, 0, 0, 0), (22, .iconst 0, 1, 0, 0, 0, 0, 0, 0, 0), (23, .istore 4, 2, 4, 0, 0, 0, 0, 0, 0), (25, .iload 4, 2, 2, 0, 0, 0, 0, 0, 0), (27, .aload_n 0, 1, 3, 0, 0, 0, 0, 0, 0), (28, .invokevirtual 428, 3, 23, 279, 0, 0, 160, 0, 0), (31, .if_icmp .gt 38, 3, 12, 0, 0, 0, 0, 0, 0), (34, .iload_n 3, 1, 2, 0, 0, 0, 0, 0, 0), (35, .ifCond .lt 15, 3, 12, 0, 0, 0, 0, 0, 0), (38, .iload 4, 2, 2, 0, 0, 0, 0, 0, 0), (40, .invokestatic 339, 3, 23, 254, 0, 0, 167, 1, 1)]), (69, [(43, .iload_n 3, 1, 2, 0, 0, 0, 0, 0, 0), (44, .invokestatic 339, 3, 23, 254, 0, 0, 167, 1, 1), (47, .if_icmp .ge 16, 3, 12, 0, 0, 0, 0, 0, 0), (50, .aload_n 0, 1, 3, 0, 0, 0, 0, 0, 0), (51, .iload 4, 2, 2, 0, 0, 0, 0, 0, 0), (53, .invokevirtual 431, 3, 23, 280, 0, 0, 266, 0, 1), (56, .iload_n 2, 1, 2, 0, 0, 0, 0, 0, 0), (57, .if_icmp .ne 6, 3, 12, 0, 0, 0, 0, 0, 0), (60, .iload 4, 2, 2, 0, 0, 0, 0, 0, 0), (62, .istore_n 3, 1, 4, 0, 0, 0, 0, 0, 0), (63, .iinc 4 1, 3, 6, 0, 0, 0, 0, 0, 0), (66, .goto (-41), 3, 0, 0, 0, 0, 0, 0, 0)]), (91, [(69, .iload_n 1, 1, 2, 0, 0, 0, 0, 0, 0), (70, .ifCond .ne 10, 3, 12, 0, 0, 0, 0, 0, 0), (73, .iload_n 3, 1, 2, 0, 0, 0, 0, 0, 0), (74, .invokestatic 339, 3, 23, 254, 0, 0, 167, 1, 1), (77, .goto 13, 3, 0, 0, 0, 0, 0, 0, 0), (80, .iload_n 1, 1, 2, 0, 0, 0, 0, 0, 0), (81, .iconst 1, 1, 0, 0, 0, 0, 0, 0, 0), (82, .if_icmp .ne 7, 3, 12, 0, 0, 0, 0, 0, 0), (85, .iload_n 3, 1, 2, 0, 0, 0, 0, 0, 0), (86, .goto 4, 3, 0, 0, 0, 0, 0, 0, 0), (89, .iload_n 2, 1, 2, 0, 0, 0, 0, 0, 0), (90, .ireturn, 1, 21, 0, 0, 0, 0, 0, 0)])]
def ee_me189 : ee_me := (9, ⟨"PepperTablesModel", "fewest", "(I)I"⟩, prog_11_method_108_code, 5, (some .int), ee_B189, 0, 0)
set_option maxRecDepth 100000 in
theorem ee_me189ok : ee_Mb ee_me189 = true := by decide +kernel
/- 190: PepperTablesModel.folk()I -/
def ee_B190 : List (Nat × List ee_en) := [(10, [(0, .aload_n 0, 1, 3, 0, 0, 0, 0, 0, 0), (1, .getfield 20, 3, 14, 141, 0, 0, 9, 11, 3), (4, .aload_n 0, 1, 3, 0, 0, 0, 0, 0, 0), (5, .getfield 253, 3, 14, 184, 0, 0, 9, 33, 0), (8, .iaload, 1, 22, 0, 0, 0, 0, 0, 0), (9, .ireturn, 1, 21, 0, 0, 0, 0, 0, 0)])]
def ee_me190 : ee_me := (9, ⟨"PepperTablesModel", "folk", "()I"⟩, prog_11_method_44_code, 1, (some .int), ee_B190, 0, 0)
set_option maxRecDepth 100000 in
theorem ee_me190ok : ee_Mb ee_me190 = true := by decide +kernel
/- 191: PepperTablesModel.fresh(I)J -/
def ee_B191 : List (Nat × List ee_en) := [(24, [(0, .aload_n 0, 1, 3, 0, 0, 0, 0, 0, 0), (1, .invokevirtual 223, 3, 23, 276, 0, 0, 213, 0, 0), (4, .ifCond .ne 5, 3, 12, 0, 0, 0, 0, 0, 0), (7, .lconst 0, 1, 0, 0, 0, 0, 0, 0, 0), (8, .lreturn, 1, 21, 0, 0, 0, 0, 0, 0), (9, .aload_n 0, 1, 3, 0, 0, 0, 0, 0, 0), (10, .getfield 195, 3, 14, 196, 0, 0, 9, 8, 0), (13, .iconst 2, 1, 0, 0, 0, 0, 0, 0, 0), (14, .if_icmp .eq 10, 3, 12, 0, 0, 0, 0, 0, 0), (17, .aload_n 0, 1, 3, 0, 0, 0, 0, 0, 0), (18, .invokevirtual 230, 3, 23, 258, 0, 0, 239, 0, 0), (21, .goto 16, 3, 0, 0, 0, 0, 0, 0, 0)]), (46, [(24, .iload_n 1, 1, 2, 0, 0, 0, 0, 0, 0), (25, .ifCond .lt 12, 3, 12, 0, 0, 0, 0, 0, 0), (28, .aload_n 0, 1, 3, 0, 0, 0, 0, 0, 0), (29, .iconst 3, 1, 0, 0, 0, 0, 0, 0, 0), (30, .aload_n 0, 1, 3, 0, 0, 0, 0, 0, 0), (31, .getfield 188, 3, 14, 192, 0, 0, 9, 6, 0), (34, .invokevirtual 219, 3, 23, 285, 0, 0, 185, 0, 2), (37, .aload_n 0, 1, 3, 0, 0, 0, 0, 0, 0), (38, .getfield 202, 3, 14, 197, 0, 0, 9, 10, 2), (41, .lstore_n 2, 1, 5, 0, 0, 0, 0, 0, 0), (42, .aload_n 0, 1, 3, 0, 0, 0, 0, 0, 0), (43, .invokevirtual 223, 3, 23, 276, 0, 0, 213, 0, 0)]), (55, [(46, .ifCond .eq 7, 3, 12, 0, 0, 0, 0, 0, 0), (49, .aload_n 0, 1, 3, 0, 0, 0, 0, 0, 0), (50, .invokevirtual 227, 3, 23, 262, 0, 0, 195, 0, 0), (53, .lload_n 2, 1, 3, 0, 0, 0, 0, 0, 0), (54, .lreturn, 1, 21, 0, 0, 0, 0, 0, 0)])]
def ee_me191 : ee_me := (9, ⟨"PepperTablesModel", "fresh", "(I)J"⟩, prog_11_method_23_code, 4, (some .long), ee_B191, 0, 0)
set_option maxRecDepth 100000 in
theorem ee_me191ok : ee_Mb ee_me191 = true := by decide +kernel
/- 192: PepperTablesModel.fromOf(I)I -/
def ee_B192 : List (Nat × List ee_en) := [(15, [(0, .aload_n 0, 1, 3, 0, 0, 0, 0, 0, 0), (1, .getfield 45, 3, 14, 149, 0, 0, 9, 19, 3), (4, .bipush 10, 2, 0, 0, 0, 0, 0, 0, 0), (6, .aload_n 0, 1, 3, 0, 0, 0, 0, 0, 0), (7, .getfield 253, 3, 14, 184, 0, 0, 9, 33, 0), (10, .imul, 1, 7, 0, 0, 0, 0, 0, 0), (11, .iload_n 1, 1, 2, 0, 0, 0, 0, 0, 0), (12, .iadd, 1, 7, 0, 0, 0, 0, 0, 0), (13, .iaload, 1, 22, 0, 0, 0, 0, 0, 0), (14, .ireturn, 1, 21, 0, 0, 0, 0, 0, 0)])]
def ee_me192 : ee_me := (9, ⟨"PepperTablesModel", "fromOf", "(I)I"⟩, prog_11_method_50_code, 2, (some .int), ee_B192, 0, 0)
set_option maxRecDepth 100000 in
theorem ee_me192ok : ee_Mb ee_me192 = true := by decide +kernel
/- 193: PepperTablesModel.gain(I)I -/
def ee_B193 : List (Nat × List ee_en) := [(18, [(0, .aload_n 0, 1, 3, 0, 0, 0, 0, 0, 0), (1, .iload_n 1, 1, 2, 0, 0, 0, 0, 0, 0), (2, .invokevirtual 410, 3, 23, 282, 0, 0, 219, 0, 1), (5, .ifCond .eq 30, 3, 12, 0, 0, 0, 0, 0, 0), (8, .aload_n 0, 1, 3, 0, 0, 0, 0, 0, 0), (9, .aload_n 0, 1, 3, 0, 0, 0, 0, 0, 0), (10, .aload_n 0, 1, 3, 0, 0, 0, 0, 0, 0), (11, .getfield 88, 3, 14, 163, 0, 0, 9, 42, 3), (14, .iconst 0, 1, 0, 0, 0, 0, 0, 0, 0), (15, .iaload, 1, 22, 0, 0, 0, 0, 0, 0), (16, .iconst 1, 1, 0, 0, 0, 0, 0, 0, 0), (17, .iload_n 1, 1, 2, 0, 0, 0, 0, 0, 0)]), (37, [(18, .ishl, 1, 7, 0, 0, 0, 0, 0, 0), (19, .ior, 1, 7, 0, 0, 0, 0, 0, 0), (20, .invokevirtual 449, 3, 23, 283, 0, 0, 267, 0, 1), (23, .aload_n 0, 1, 3, 0, 0, 0, 0, 0, 0), (24, .iload_n 1, 1, 2, 0, 0, 0, 0, 0, 0), (25, .invokevirtual 419, 3, 23, 275, 0, 0, 283, 0, 1), (28, .iand, 1, 7, 0, 0, 0, 0, 0, 0), (29, .invokevirtual 348, 3, 23, 239, 0, 0, 198, 0, 1), (32, .goto 4, 3, 0, 0, 0, 0, 0, 0, 0), (35, .iconst (-1), 1, 0, 0, 0, 0, 0, 0, 0), (36, .ireturn, 1, 21, 0, 0, 0, 0, 0, 0)])]
def ee_me193 : ee_me := (9, ⟨"PepperTablesModel", "gain", "(I)I"⟩, prog_11_method_102_code, 2, (some .int), ee_B193, 0, 0)
set_option maxRecDepth 100000 in
theorem ee_me193ok : ee_Mb ee_me193 = true := by decide +kernel
/- 194: PepperTablesModel.goGrind(I)I -/
def ee_B194 : List (Nat × List ee_en) := [(16, [(0, .aload_n 0, 1, 3, 0, 0, 0, 0, 0, 0), (1, .iload_n 1, 1, 2, 0, 0, 0, 0, 0, 0), (2, .invokevirtual 407, 3, 23, 265, 0, 0, 292, 0, 1), (5, .istore_n 2, 1, 4, 0, 0, 0, 0, 0, 0), (6, .aload_n 0, 1, 3, 0, 0, 0, 0, 0, 0), (7, .getfield 88, 3, 14, 163, 0, 0, 9, 42, 3), (10, .iconst 1, 1, 0, 0, 0, 0, 0, 0, 0), (11, .dup2, 1, 11, 0, 0, 0, 0, 0, 0), (12, .iaload, 1, 22, 0, 0, 0, 0, 0, 0), (13, .iload_n 2, 1, 2, 0, 0, 0, 0, 0, 0), (14, .ior, 1, 7, 0, 0, 0, 0, 0, 0), (15, .iastore, 1, 17, 0, 0, 0, 0, 0, 0)]), (37, [(16, .aload_n 0, 1, 3, 0, 0, 0, 0, 0, 0), (17, .getfield 88, 3, 14, 163, 0, 0, 9, 42, 3), (20, .bipush 12, 2, 0, 0, 0, 0, 0, 0, 0), (22, .iload_n 1, 1, 2, 0, 0, 0, 0, 0, 0), (23, .iadd, 1, 7, 0, 0, 0, 0, 0, 0), (24, .iaload, 1, 22, 0, 0, 0, 0, 0, 0), (25, .bipush 99, 2, 0, 0, 0, 0, 0, 0, 0), (27, .if_icmp .ge 16, 3, 12, 0, 0, 0, 0, 0, 0), (30, .aload_n 0, 1, 3, 0, 0, 0, 0, 0, 0), (31, .getfield 88, 3, 14, 163, 0, 0, 9, 42, 3), (34, .bipush 12, 2, 0, 0, 0, 0, 0, 0, 0), (36, .iload_n 1, 1, 2, 0, 0, 0, 0, 0, 0)]), (45, [(37, .iadd, 1, 7, 0, 0, 0, 0, 0, 0), (38, .dup2, 1, 11, 0, 0, 0, 0, 0, 0), (39, .iaload, 1, 22, 0, 0, 0, 0, 0, 0), (40, .iconst 1, 1, 0, 0, 0, 0, 0, 0, 0), (41, .iadd, 1, 7, 0, 0, 0, 0, 0, 0), (42, .iastore, 1, 17, 0, 0, 0, 0, 0, 0), (43, .iload_n 2, 1, 2, 0, 0, 0, 0, 0, 0), (44, .ireturn, 1, 21, 0, 0, 0, 0, 0, 0)])]
def ee_me194 : ee_me := (9, ⟨"PepperTablesModel", "goGrind", "(I)I"⟩, prog_11_method_64_code, 3, (some .int), ee_B194, 0, 0)
set_option maxRecDepth 100000 in
theorem ee_me194ok : ee_Mb ee_me194 = true := by decide +kernel
/- 195: PepperTablesModel.goOn()V -/
def ee_B195 : List (Nat × List ee_en) := [(24, [(0, .aload_n 0, 1, 3, 0, 0, 0, 0, 0, 0), (1, .aload_n 0, 1, 3, 0, 0, 0, 0, 0, 0), (2, .getfield 185, 3, 14, 198, 0, 0, 9, 7, 0), (5, .putfield 188, 3, 15, 192, 0, 0, 9, 6, 0), (8, .aload_n 0, 1, 3, 0, 0, 0, 0, 0, 0), (9, .getfield 188, 3, 14, 192, 0, 0, 9, 6, 0), (12, .aload_n 0, 1, 3, 0, 0, 0, 0, 0, 0), (13, .getfield 143, 3, 14, 199, 0, 0, 9, 3, 0), (16, .if_icmp .ge 42, 3, 12, 0, 0, 0, 0, 0, 0), (19, .aload_n 0, 1, 3, 0, 0, 0, 0, 0, 0), (20, .aload_n 0, 1, 3, 0, 0, 0, 0, 0, 0), (21, .getfield 188, 3, 14, 192, 0, 0, 9, 6, 0)]), (50, [(24, .invokevirtual 191, 3, 23, 260, 0, 0, 271, 0, 1), (27, .bipush 32, 2, 0, 0, 0, 0, 0, 0, 0), (29, .if_icmp .eq 16, 3, 12, 0, 0, 0, 0, 0, 0), (32, .aload_n 0, 1, 3, 0, 0, 0, 0, 0, 0), (33, .aload_n 0, 1, 3, 0, 0, 0, 0, 0, 0), (34, .getfield 188, 3, 14, 192, 0, 0, 9, 6, 0), (37, .invokevirtual 191, 3, 23, 260, 0, 0, 271, 0, 1), (40, .bipush 10, 2, 0, 0, 0, 0, 0, 0, 0), (42, .if_icmp .ne 16, 3, 12, 0, 0, 0, 0, 0, 0), (45, .aload_n 0, 1, 3, 0, 0, 0, 0, 0, 0), (46, .dup, 1, 11, 0, 0, 0, 0, 0, 0), (47, .getfield 188, 3, 14, 192, 0, 0, 9, 6, 0)]), (72, [(50, .iconst 1, 1, 0, 0, 0, 0, 0, 0, 0), (51, .iadd, 1, 7, 0, 0, 0, 0, 0, 0), (52, .putfield 188, 3, 15, 192, 0, 0, 9, 6, 0), (55, .goto (-47), 3, 0, 0, 0, 0, 0, 0, 0), (58, .aload_n 0, 1, 3, 0, 0, 0, 0, 0, 0), (59, .aload_n 0, 1, 3, 0, 0, 0, 0, 0, 0), (60, .getfield 188, 3, 14, 192, 0, 0, 9, 6, 0), (63, .invokevirtual 191, 3, 23, 260, 0, 0, 271, 0, 1), (66, .istore_n 1, 1, 4, 0, 0, 0, 0, 0, 0), (67, .aload_n 0, 1, 3, 0, 0, 0, 0, 0, 0), (68, .aload_n 0, 1, 3, 0, 0, 0, 0, 0, 0), (69, .getfield 188, 3, 14, 192, 0, 0, 9, 6, 0)]), (94, [(72, .iconst 1, 1, 0, 0, 0, 0, 0, 0, 0), (73, .iadd, 1, 7, 0, 0, 0, 0, 0, 0), (74, .putfield 185, 3, 15, 198, 0, 0, 9, 7, 0), (77, .aload_n 0, 1, 3, 0, 0, 0, 0, 0, 0), (78, .getfield 188, 3, 14, 192, 0, 0, 9, 6, 0), (81, .aload_n 0, 1, 3, 0, 0, 0, 0, 0, 0), (82, .getfield 143, 3, 14, 199, 0, 0, 9, 3, 0), (85, .if_icmp .lt 27, 3, 12, 0, 0, 0, 0, 0, 0), (88, .aload_n 0, 1, 3, 0, 0, 0, 0, 0, 0), (89, .iconst 0, 1, 0, 0, 0, 0, 0, 0, 0), (90, .putfield 195, 3, 15, 196, 0, 0, 9, 8, 0), (93, .aload_n 0, 1, 3, 0, 0, 0, 0, 0, 0)]), (120, [(94, .aload_n 0, 1, 3, 0, 0, 0, 0, 0, 0), (95, .getfield 143, 3, 14, 199, 0, 0, 9, 3, 0), (98, .putfield 188, 3, 15, 192, 0, 0, 9, 6, 0), (101, .aload_n 0, 1, 3, 0, 0, 0, 0, 0, 0), (102, .aload_n 0, 1, 3, 0, 0, 0, 0, 0, 0), (103, .getfield 143, 3, 14, 199, 0, 0, 9, 3, 0), (106, .putfield 185, 3, 15, 198, 0, 0, 9, 7, 0), (109, .goto 268, 3, 0, 0, 0, 0, 0, 0, 0), (112, .iload_n 1, 1, 2, 0, 0, 0, 0, 0, 0), (113, .invokestatic 198, 3, 23, 268, 0, 0, 217, 1, 1), (116, .ifCond .eq 123, 3, 12, 0, 0, 0, 0, 0, 0), (119, .aload_n 0, 1, 3, 0, 0, 0, 0, 0, 0)]), (146, [(120, .aload_n 0, 1, 3, 0, 0, 0, 0, 0, 0), (121, .getfield 185, 3, 14, 198, 0, 0, 9, 7, 0), (124, .invokevirtual 191, 3, 23, 260, 0, 0, 271, 0, 1), (127, .invokestatic 198, 3, 23, 268, 0, 0, 217, 1, 1), (130, .ifCond .eq 16, 3, 12, 0, 0, 0, 0, 0, 0), (133, .aload_n 0, 1, 3, 0, 0, 0, 0, 0, 0), (134, .dup, 1, 11, 0, 0, 0, 0, 0, 0), (135, .getfield 185, 3, 14, 198, 0, 0, 9, 7, 0), (138, .iconst 1, 1, 0, 0, 0, 0, 0, 0, 0), (139, .iadd, 1, 7, 0, 0, 0, 0, 0, 0), (140, .putfield 185, 3, 15, 198, 0, 0, 9, 7, 0), (143, .goto (-24), 3, 0, 0, 0, 0, 0, 0, 0)]), (166, [(146, .aload_n 0, 1, 3, 0, 0, 0, 0, 0, 0), (147, .lconst 0, 1, 0, 0, 0, 0, 0, 0, 0), (148, .putfield 202, 3, 15, 197, 0, 0, 9, 10, 2), (151, .aload_n 0, 1, 3, 0, 0, 0, 0, 0, 0), (152, .getfield 188, 3, 14, 192, 0, 0, 9, 6, 0), (155, .istore_n 2, 1, 4, 0, 0, 0, 0, 0, 0), (156, .iload_n 2, 1, 2, 0, 0, 0, 0, 0, 0), (157, .aload_n 0, 1, 3, 0, 0, 0, 0, 0, 0), (158, .getfield 185, 3, 14, 198, 0, 0, 9, 7, 0), (161, .if_icmp .ge 38, 3, 12, 0, 0, 0, 0, 0, 0), (164, .iload_n 2, 1, 2, 0, 0, 0, 0, 0, 0), (165, .aload_n 0, 1, 3, 0, 0, 0, 0, 0, 0)]), (188, [(166, .getfield 188, 3, 14, 192, 0, 0, 9, 6, 0), (169, .bipush 8, 2, 0, 0, 0, 0, 0, 0, 0), (171, .iadd, 1, 7, 0, 0, 0, 0, 0, 0), (172, .if_icmp .ge 27, 3, 12, 0, 0, 0, 0, 0, 0), (175, .aload_n 0, 1, 3, 0, 0, 0, 0, 0, 0), (176, .aload_n 0, 1, 3, 0, 0, 0, 0, 0, 0), (177, .getfield 202, 3, 14, 197, 0, 0, 9, 10, 2), (180, .bipush 8, 2, 0, 0, 0, 0, 0, 0, 0), (182, .lshl, 1, 9, 0, 0, 0, 0, 0, 0), (183, .aload_n 0, 1, 3, 0, 0, 0, 0, 0, 0), (184, .iload_n 2, 1, 2, 0, 0, 0, 0, 0, 0), (185, .invokevirtual 191, 3, 23, 260, 0, 0, 271, 0, 1)]), (211, [(188, .i2l, 1, 9, 0, 0, 0, 0, 0, 0), (189, .lor, 1, 9, 0, 0, 0, 0, 0, 0), (190, .putfield 202, 3, 15, 197, 0, 0, 9, 10, 2), (193, .iinc 2 1, 3, 6, 0, 0, 0, 0, 0, 0), (196, .goto (-40), 3, 0, 0, 0, 0, 0, 0, 0), (199, .aload_n 0, 1, 3, 0, 0, 0, 0, 0, 0), (200, .aload_n 0, 1, 3, 0, 0, 0, 0, 0, 0), (201, .getfield 185, 3, 14, 198, 0, 0, 9, 7, 0), (204, .aload_n 0, 1, 3, 0, 0, 0, 0, 0, 0), (205, .getfield 188, 3, 14, 192, 0, 0, 9, 6, 0), (208, .isub, 1, 7, 0, 0, 0, 0, 0, 0), (209, .bipush 8, 2, 0, 0, 0, 0, 0, 0, 0)]), (239, [(211, .if_icmp .le 7, 3, 12, 0, 0, 0, 0, 0, 0), (214, .iconst 1, 1, 0, 0, 0, 0, 0, 0, 0), (215, .goto 18, 3, 0, 0, 0, 0, 0, 0, 0), (218, .aload_n 0, 1, 3, 0, 0, 0, 0, 0, 0), (219, .getfield 202, 3, 14, 197, 0, 0, 9, 10, 2), (222, .invokestatic 206, 3, 23, 286, 0, 0, 215, 1, 1), (225, .ifCond .eq 7, 3, 12, 0, 0, 0, 0, 0, 0), (228, .iconst 3, 1, 0, 0, 0, 0, 0, 0, 0), (229, .goto 4, 3, 0, 0, 0, 0, 0, 0, 0), (232, .iconst 2, 1, 0, 0, 0, 0, 0, 0, 0), (233, .putfield 195, 3, 15, 196, 0, 0, 9, 8, 0), (236, .goto 141, 3, 0, 0, 0, 0, 0, 0, 0)]), (261, [(239, .iload_n 1, 1, 2, 0, 0, 0, 0, 0, 0), (240, .invokestatic 210, 3, 23, 287, 0, 0, 211, 1, 1), (243, .ifCond .eq 118, 3, 12, 0, 0, 0, 0, 0, 0), (246, .aload_n 0, 1, 3, 0, 0, 0, 0, 0, 0), (247, .iconst 0, 1, 0, 0, 0, 0, 0, 0, 0), (248, .putfield 213, 3, 15, 200, 0, 0, 9, 9, 0), (251, .aload_n 0, 1, 3, 0, 0, 0, 0, 0, 0), (252, .aload_n 0, 1, 3, 0, 0, 0, 0, 0, 0), (253, .getfield 188, 3, 14, 192, 0, 0, 9, 6, 0), (256, .putfield 185, 3, 15, 198, 0, 0, 9, 7, 0), (259, .aload_n 0, 1, 3, 0, 0, 0, 0, 0, 0), (260, .aload_n 0, 1, 3, 0, 0, 0, 0, 0, 0)]), (287, [(261, .getfield 185, 3, 14, 198, 0, 0, 9, 7, 0), (264, .invokevirtual 191, 3, 23, 260, 0, 0, 271, 0, 1), (267, .invokestatic 210, 3, 23, 287, 0, 0, 211, 1, 1), (270, .ifCond .eq 52, 3, 12, 0, 0, 0, 0, 0, 0), (273, .aload_n 0, 1, 3, 0, 0, 0, 0, 0, 0), (274, .getfield 185, 3, 14, 198, 0, 0, 9, 7, 0), (277, .aload_n 0, 1, 3, 0, 0, 0, 0, 0, 0), (278, .getfield 188, 3, 14, 192, 0, 0, 9, 6, 0), (281, .isub, 1, 7, 0, 0, 0, 0, 0, 0), (282, .iconst 4, 1, 0, 0, 0, 0, 0, 0, 0), (283, .if_icmp .ge 26, 3, 12, 0, 0, 0, 0, 0, 0), (286, .aload_n 0, 1, 3, 0, 0, 0, 0, 0, 0)]), (309, [(287, .bipush 10, 2, 0, 0, 0, 0, 0, 0, 0), (289, .aload_n 0, 1, 3, 0, 0, 0, 0, 0, 0), (290, .getfield 213, 3, 14, 200, 0, 0, 9, 9, 0), (293, .imul, 1, 7, 0, 0, 0, 0, 0, 0), (294, .aload_n 0, 1, 3, 0, 0, 0, 0, 0, 0), (295, .aload_n 0, 1, 3, 0, 0, 0, 0, 0, 0), (296, .getfield 185, 3, 14, 198, 0, 0, 9, 7, 0), (299, .invokevirtual 191, 3, 23, 260, 0, 0, 271, 0, 1), (302, .iadd, 1, 7, 0, 0, 0, 0, 0, 0), (303, .bipush 48, 2, 0, 0, 0, 0, 0, 0, 0), (305, .isub, 1, 7, 0, 0, 0, 0, 0, 0), (306, .putfield 213, 3, 15, 200, 0, 0, 9, 9, 0)]), (331, [(309, .aload_n 0, 1, 3, 0, 0, 0, 0, 0, 0), (310, .dup, 1, 11, 0, 0, 0, 0, 0, 0), (311, .getfield 185, 3, 14, 198, 0, 0, 9, 7, 0), (314, .iconst 1, 1, 0, 0, 0, 0, 0, 0, 0), (315, .iadd, 1, 7, 0, 0, 0, 0, 0, 0), (316, .putfield 185, 3, 15, 198, 0, 0, 9, 7, 0), (319, .goto (-60), 3, 0, 0, 0, 0, 0, 0, 0), (322, .aload_n 0, 1, 3, 0, 0, 0, 0, 0, 0), (323, .aload_n 0, 1, 3, 0, 0, 0, 0, 0, 0), (324, .getfield 185, 3, 14, 198, 0, 0, 9, 7, 0), (327, .aload_n 0, 1, 3, 0, 0, 0, 0, 0, 0), (328, .getfield 188, 3, 14, 192, 0, 0, 9, 6, 0)]), (355, [(331, .isub, 1, 7, 0, 0, 0, 0, 0, 0), (332, .iconst 4, 1, 0, 0, 0, 0, 0, 0, 0), (333, .if_icmp .gt 17, 3, 12, 0, 0, 0, 0, 0, 0), (336, .aload_n 0, 1, 3, 0, 0, 0, 0, 0, 0), (337, .aload_n 0, 1, 3, 0, 0, 0, 0, 0, 0), (338, .getfield 185, 3, 14, 198, 0, 0, 9, 7, 0), (341, .invokevirtual 191, 3, 23, 260, 0, 0, 271, 0, 1), (344, .invokestatic 198, 3, 23, 268, 0, 0, 217, 1, 1), (347, .ifCond .eq 7, 3, 12, 0, 0, 0, 0, 0, 0), (350, .iconst 1, 1, 0, 0, 0, 0, 0, 0, 0), (351, .goto 4, 3, 0, 0, 0, 0, 0, 0, 0), (354, .iconst 4, 1, 0, 0, 0, 0, 0, 0, 0)]), (378, [(355, .putfield 195, 3, 15, 196, 0, 0, 9, 8, 0), (358, .goto 19, 3, 0, 0, 0, 0, 0, 0, 0), (361, .aload_n 0, 1, 3, 0, 0, 0, 0, 0, 0), (362, .iload_n 1, 1, 2, 0, 0, 0, 0, 0, 0), (363, .invokestatic 216, 3, 23, 288, 0, 0, 221, 1, 1), (366, .ifCond .eq 7, 3, 12, 0, 0, 0, 0, 0, 0), (369, .iconst 5, 1, 0, 0, 0, 0, 0, 0, 0), (370, .goto 4, 3, 0, 0, 0, 0, 0, 0, 0), (373, .iconst 1, 1, 0, 0, 0, 0, 0, 0, 0), (374, .putfield 195, 3, 15, 196, 0, 0, 9, 8, 0), (377, .return_, 1, 21, 0, 0, 0, 0, 0, 0)])]
def ee_me195 : ee_me := (9, ⟨"PepperTablesModel", "goOn", "()V"⟩, prog_11_method_9_code, 3, none, ee_B195, 0, 0)
set_option maxRecDepth 100000 in
theorem ee_me195ok : ee_Mb ee_me195 = true := by decide +kernel
/- 196: PepperTablesModel.grind(I)I -/
def ee_B196 : List (Nat × List ee_en) := [(20, [(0, .aload_n 0, 1, 3, 0, 0, 0, 0, 0, 0), (1, .iload_n 1, 1, 2, 0, 0, 0, 0, 0, 0), (2, .invokevirtual 425, 3, 23, 264, 0, 0, 220, 0, 1), (5, .ifCond .ne 5, 3, 12, 0, 0, 0, 0, 0, 0), (8, .iconst (-1), 1, 0, 0, 0, 0, 0, 0, 0), (9, .ireturn, 1, 21, 0, 0, 0, 0, 0, 0), (10, .aload_n 0, 1, 3, 0, 0, 0, 0, 0, 0), (11, .invokevirtual 437, 3, 23, 271, 0, 0, 226, 0, 0), (14, .aload_n 0, 1, 3, 0, 0, 0, 0, 0, 0), (15, .iload_n 1, 1, 2, 0, 0, 0, 0, 0, 0), (16, .invokevirtual 440, 3, 23, 243, 0, 0, 194, 0, 1), (19, .ireturn, 1, 21, 0, 0, 0, 0, 0, 0)])]
def ee_me196 : ee_me := (9, ⟨"PepperTablesModel", "grind", "(I)I"⟩, prog_11_method_87_code, 2, (some .int), ee_B196, 0, 0)
set_option maxRecDepth 100000 in
theorem ee_me196ok : ee_Mb ee_me196 = true := by decide +kernel
/- 197: PepperTablesModel.heard(IIZ)I -/
def ee_B197 : List (Nat × List ee_en) := [(24, [(0, .aload_n 0, 1, 3, 0, 0, 0, 0, 0, 0), (1, .iload_n 1, 1, 2, 0, 0, 0, 0, 0, 0), (2, .invokevirtual 425, 3, 23, 264, 0, 0, 220, 0, 1), (5, .ifCond .eq 29, 3, 12, 0, 0, 0, 0, 0, 0), (8, .iload_n 2, 1, 2, 0, 0, 0, 0, 0, 0), (9, .iconst 0, 1, 0, 0, 0, 0, 0, 0, 0), (10, .bipush 10, 2, 0, 0, 0, 0, 0, 0, 0), (12, .invokestatic 361, 3, 23, 250, 0, 0, 214, 1, 3), (15, .ifCond .eq 19, 3, 12, 0, 0, 0, 0, 0, 0), (18, .aload_n 0, 1, 3, 0, 0, 0, 0, 0, 0), (19, .getfield 380, 3, 14, 181, 0, 0, 9, 60, 0), (22, .bipush 30, 2, 0, 0, 0, 0, 0, 0, 0)]), (46, [(24, .if_icmp .eq 10, 3, 12, 0, 0, 0, 0, 0, 0), (27, .aload_n 0, 1, 3, 0, 0, 0, 0, 0, 0), (28, .invokevirtual 368, 3, 23, 235, 0, 0, 238, 0, 0), (31, .ifCond .ne 5, 3, 12, 0, 0, 0, 0, 0, 0), (34, .iconst (-1), 1, 0, 0, 0, 0, 0, 0, 0), (35, .ireturn, 1, 21, 0, 0, 0, 0, 0, 0), (36, .aload_n 0, 1, 3, 0, 0, 0, 0, 0, 0), (37, .getfield 109, 3, 14, 170, 0, 0, 9, 53, 3), (40, .aload_n 0, 1, 3, 0, 0, 0, 0, 0, 0), (41, .getfield 380, 3, 14, 181, 0, 0, 9, 60, 0), (44, .iload_n 1, 1, 2, 0, 0, 0, 0, 0, 0), (45, .iastore, 1, 17, 0, 0, 0, 0, 0, 0)]), (68, [(46, .aload_n 0, 1, 3, 0, 0, 0, 0, 0, 0), (47, .getfield 112, 3, 14, 171, 0, 0, 9, 54, 3), (50, .aload_n 0, 1, 3, 0, 0, 0, 0, 0, 0), (51, .getfield 380, 3, 14, 181, 0, 0, 9, 60, 0), (54, .iload_n 2, 1, 2, 0, 0, 0, 0, 0, 0), (55, .iastore, 1, 17, 0, 0, 0, 0, 0, 0), (56, .aload_n 0, 1, 3, 0, 0, 0, 0, 0, 0), (57, .getfield 115, 3, 14, 172, 0, 0, 9, 55, 3), (60, .aload_n 0, 1, 3, 0, 0, 0, 0, 0, 0), (61, .getfield 380, 3, 14, 181, 0, 0, 9, 60, 0), (64, .iload_n 3, 1, 2, 0, 0, 0, 0, 0, 0), (65, .ifCond .eq 7, 3, 12, 0, 0, 0, 0, 0, 0)]), (88, [(68, .iconst 1, 1, 0, 0, 0, 0, 0, 0, 0), (69, .goto 4, 3, 0, 0, 0, 0, 0, 0, 0), (72, .iconst 0, 1, 0, 0, 0, 0, 0, 0, 0), (73, .iastore, 1, 17, 0, 0, 0, 0, 0, 0), (74, .aload_n 0, 1, 3, 0, 0, 0, 0, 0, 0), (75, .getfield 118, 3, 14, 173, 0, 0, 9, 56, 3), (78, .aload_n 0, 1, 3, 0, 0, 0, 0, 0, 0), (79, .getfield 380, 3, 14, 181, 0, 0, 9, 60, 0), (82, .aload_n 0, 1, 3, 0, 0, 0, 0, 0, 0), (83, .getfield 482, 3, 14, 182, 0, 0, 9, 61, 0), (86, .iastore, 1, 17, 0, 0, 0, 0, 0, 0), (87, .aload_n 0, 1, 3, 0, 0, 0, 0, 0, 0)]), (108, [(88, .getfield 121, 3, 14, 174, 0, 0, 9, 57, 3), (91, .aload_n 0, 1, 3, 0, 0, 0, 0, 0, 0), (92, .getfield 380, 3, 14, 181, 0, 0, 9, 60, 0), (95, .iconst (-1), 1, 0, 0, 0, 0, 0, 0, 0), (96, .iastore, 1, 17, 0, 0, 0, 0, 0, 0), (97, .aload_n 0, 1, 3, 0, 0, 0, 0, 0, 0), (98, .dup, 1, 11, 0, 0, 0, 0, 0, 0), (99, .getfield 380, 3, 14, 181, 0, 0, 9, 60, 0), (102, .iconst 1, 1, 0, 0, 0, 0, 0, 0, 0), (103, .iadd, 1, 7, 0, 0, 0, 0, 0, 0), (104, .putfield 380, 3, 15, 181, 0, 0, 9, 60, 0), (107, .aload_n 0, 1, 3, 0, 0, 0, 0, 0, 0)]), (114, [(108, .getfield 380, 3, 14, 181, 0, 0, 9, 60, 0), (111, .iconst 1, 1, 0, 0, 0, 0, 0, 0, 0), (112, .isub, 1, 7, 0, 0, 0, 0, 0, 0), (113, .ireturn, 1, 21, 0, 0, 0, 0, 0, 0)])]
def ee_me197 : ee_me := (9, ⟨"PepperTablesModel", "heard", "(IIZ)I"⟩, prog_11_method_122_code, 4, (some .int), ee_B197, 0, 0)
set_option maxRecDepth 100000 in
theorem ee_me197ok : ee_Mb ee_me197 = true := by decide +kernel
end
section
/- 198: PepperTablesModel.heatOf(I)I -/
def ee_B198 : List (Nat × List ee_en) := [(18, [(0, .iconst 0, 1, 0, 0, 0, 0, 0, 0, 0), (1, .istore_n 2, 1, 4, 0, 0, 0, 0, 0, 0), (2, .iconst 0, 1, 0, 0, 0, 0, 0, 0, 0), (3, .istore_n 3, 1, 4, 0, 0, 0, 0, 0, 0), (4, .iload_n 3, 1, 2, 0, 0, 0, 0, 0, 0), (5, .aload_n 0, 1, 3, 0, 0, 0, 0, 0, 0), (6, .invokevirtual 368, 3, 23, 235, 0, 0, 238, 0, 0), (9, .if_icmp .ge 29, 3, 12, 0, 0, 0, 0, 0, 0), (12, .iload_n 2, 1, 2, 0, 0, 0, 0, 0, 0), (13, .iload_n 1, 1, 2, 0, 0, 0, 0, 0, 0), (14, .iload_n 3, 1, 2, 0, 0, 0, 0, 0, 0), (15, .invokestatic 259, 3, 23, 273, 0, 0, 166, 1, 2)]), (40, [(18, .ifCond .eq 11, 3, 12, 0, 0, 0, 0, 0, 0), (21, .aload_n 0, 1, 3, 0, 0, 0, 0, 0, 0), (22, .iload_n 3, 1, 2, 0, 0, 0, 0, 0, 0), (23, .invokevirtual 333, 3, 23, 253, 0, 0, 202, 0, 1), (26, .goto 4, 3, 0, 0, 0, 0, 0, 0, 0), (29, .iconst 0, 1, 0, 0, 0, 0, 0, 0, 0), (30, .iadd, 1, 7, 0, 0, 0, 0, 0, 0), (31, .istore_n 2, 1, 4, 0, 0, 0, 0, 0, 0), (32, .iinc 3 1, 3, 6, 0, 0, 0, 0, 0, 0), (35, .goto (-31), 3, 0, 0, 0, 0, 0, 0, 0), (38, .iload_n 2, 1, 2, 0, 0, 0, 0, 0, 0), (39, .ireturn, 1, 21, 0, 0, 0, 0, 0, 0)])]
def ee_me198 : ee_me := (9, ⟨"PepperTablesModel", "heatOf", "(I)I"⟩, prog_11_method_57_code, 4, (some .int), ee_B198, 0, 0)
set_option maxRecDepth 100000 in
theorem ee_me198ok : ee_Mb ee_me198 = true := by decide +kernel
/- 199: PepperTablesModel.here([JII)I -/
def ee_B199 : List (Nat × List ee_en) := [(21, [(0, .iconst 0, 1, 0, 0, 0, 0, 0, 0, 0), (1, .istore 4, 2, 4, 0, 0, 0, 0, 0, 0), (3, .iload 4, 2, 2, 0, 0, 0, 0, 0, 0), (5, .iload_n 3, 1, 2, 0, 0, 0, 0, 0, 0), (6, .if_icmp .ge 34, 3, 12, 0, 0, 0, 0, 0, 0), (9, .aload_n 0, 1, 3, 0, 0, 0, 0, 0, 0), (10, .getfield 195, 3, 14, 196, 0, 0, 9, 8, 0), (13, .iconst 2, 1, 0, 0, 0, 0, 0, 0, 0), (14, .if_icmp .ne 20, 3, 12, 0, 0, 0, 0, 0, 0), (17, .aload_n 1, 1, 3, 0, 0, 0, 0, 0, 0), (18, .iload_n 2, 1, 2, 0, 0, 0, 0, 0, 0), (19, .iload 4, 2, 2, 0, 0, 0, 0, 0, 0)]), (42, [(21, .iadd, 1, 7, 0, 0, 0, 0, 0, 0), (22, .laload, 1, 22, 0, 0, 0, 0, 0, 0), (23, .aload_n 0, 1, 3, 0, 0, 0, 0, 0, 0), (24, .getfield 202, 3, 14, 197, 0, 0, 9, 10, 2), (27, .lcmp, 1, 9, 0, 0, 0, 0, 0, 0), (28, .ifCond .ne 6, 3, 12, 0, 0, 0, 0, 0, 0), (31, .iload 4, 2, 2, 0, 0, 0, 0, 0, 0), (33, .ireturn, 1, 21, 0, 0, 0, 0, 0, 0), (34, .iinc 4 1, 3, 6, 0, 0, 0, 0, 0, 0), (37, .goto (-34), 3, 0, 0, 0, 0, 0, 0, 0), (40, .iconst (-1), 1, 0, 0, 0, 0, 0, 0, 0), (41, .ireturn, 1, 21, 0, 0, 0, 0, 0, 0)])]
def ee_me199 : ee_me := (9, ⟨"PepperTablesModel", "here", "([JII)I"⟩, prog_11_method_20_code, 5, (some .int), ee_B199, 0, 0)
set_option maxRecDepth 100000 in
theorem ee_me199ok : ee_Mb ee_me199 = true := by decide +kernel
/- 200: PepperTablesModel.hidden()I -/
def ee_B200 : List (Nat × List ee_en) := [(17, [(0, .aload_n 0, 1, 3, 0, 0, 0, 0, 0, 0), (1, .invokevirtual 368, 3, 23, 235, 0, 0, 238, 0, 0), (4, .iconst 2, 1, 0, 0, 0, 0, 0, 0, 0), (5, .if_icmp .ge 10, 3, 12, 0, 0, 0, 0, 0, 0), (8, .aload_n 0, 1, 3, 0, 0, 0, 0, 0, 0), (9, .invokevirtual 368, 3, 23, 235, 0, 0, 238, 0, 0), (12, .goto 4, 3, 0, 0, 0, 0, 0, 0, 0), (15, .iconst 2, 1, 0, 0, 0, 0, 0, 0, 0), (16, .ireturn, 1, 21, 0, 0, 0, 0, 0, 0)])]
def ee_me200 : ee_me := (9, ⟨"PepperTablesModel", "hidden", "()I"⟩, prog_11_method_125_code, 1, (some .int), ee_B200, 0, 0)
set_option maxRecDepth 100000 in
theorem ee_me200ok : ee_Mb ee_me200 = true := by decide +kernel
/- 201: PepperTablesModel.hide(II)I -/
def ee_B201 : List (Nat × List ee_en) := [(22, [(0, .aload_n 0, 1, 3, 0, 0, 0, 0, 0, 0), (1, .iload_n 1, 1, 2, 0, 0, 0, 0, 0, 0), (2, .invokevirtual 422, 3, 23, 240, 0, 0, 224, 0, 1), (5, .ifCond .eq 20, 3, 12, 0, 0, 0, 0, 0, 0), (8, .aload_n 0, 1, 3, 0, 0, 0, 0, 0, 0), (9, .iload_n 1, 1, 2, 0, 0, 0, 0, 0, 0), (10, .invokevirtual 386, 3, 23, 241, 0, 0, 223, 0, 1), (13, .ifCond .eq 12, 3, 12, 0, 0, 0, 0, 0, 0), (16, .iload_n 2, 1, 2, 0, 0, 0, 0, 0, 0), (17, .iconst 0, 1, 0, 0, 0, 0, 0, 0, 0), (18, .iconst 1, 1, 0, 0, 0, 0, 0, 0, 0), (19, .invokestatic 361, 3, 23, 250, 0, 0, 214, 1, 3)]), (39, [(22, .ifCond .ne 5, 3, 12, 0, 0, 0, 0, 0, 0), (25, .iconst (-1), 1, 0, 0, 0, 0, 0, 0, 0), (26, .ireturn, 1, 21, 0, 0, 0, 0, 0, 0), (27, .aload_n 0, 1, 3, 0, 0, 0, 0, 0, 0), (28, .getfield 88, 3, 14, 163, 0, 0, 9, 42, 3), (31, .iconst 2, 1, 0, 0, 0, 0, 0, 0, 0), (32, .iload_n 1, 1, 2, 0, 0, 0, 0, 0, 0), (33, .iadd, 1, 7, 0, 0, 0, 0, 0, 0), (34, .iaload, 1, 22, 0, 0, 0, 0, 0, 0), (35, .istore_n 3, 1, 4, 0, 0, 0, 0, 0, 0), (36, .iconst (-1), 1, 0, 0, 0, 0, 0, 0, 0), (37, .istore 4, 2, 4, 0, 0, 0, 0, 0, 0)]), (61, [(39, .bipush 100, 2, 0, 0, 0, 0, 0, 0, 0), (41, .istore 5, 2, 4, 0, 0, 0, 0, 0, 0), (43, .iconst 0, 1, 0, 0, 0, 0, 0, 0, 0), (44, .istore 6, 2, 4, 0, 0, 0, 0, 0, 0), (46, .iload 6, 2, 2, 0, 0, 0, 0, 0, 0), (48, .aload_n 0, 1, 3, 0, 0, 0, 0, 0, 0), (49, .invokevirtual 365, 3, 23, 237, 0, 0, 164, 0, 0), (52, .if_icmp .ge 60, 3, 12, 0, 0, 0, 0, 0, 0), (55, .aload_n 0, 1, 3, 0, 0, 0, 0, 0, 0), (56, .getfield 88, 3, 14, 163, 0, 0, 9, 42, 3), (59, .iconst 2, 1, 0, 0, 0, 0, 0, 0, 0), (60, .iload_n 1, 1, 2, 0, 0, 0, 0, 0, 0)]), (84, [(61, .iadd, 1, 7, 0, 0, 0, 0, 0, 0), (62, .iload 6, 2, 2, 0, 0, 0, 0, 0, 0), (64, .iastore, 1, 17, 0, 0, 0, 0, 0, 0), (65, .aload_n 0, 1, 3, 0, 0, 0, 0, 0, 0), (66, .iload 6, 2, 2, 0, 0, 0, 0, 0, 0), (68, .invokevirtual 407, 3, 23, 265, 0, 0, 292, 0, 1), (71, .istore 7, 2, 4, 0, 0, 0, 0, 0, 0), (73, .iload 7, 2, 2, 0, 0, 0, 0, 0, 0), (75, .iload_n 1, 1, 2, 0, 0, 0, 0, 0, 0), (76, .invokestatic 259, 3, 23, 273, 0, 0, 166, 1, 2), (79, .ifCond .ne 27, 3, 12, 0, 0, 0, 0, 0, 0), (82, .iload 7, 2, 2, 0, 0, 0, 0, 0, 0)]), (113, [(84, .invokestatic 339, 3, 23, 254, 0, 0, 167, 1, 1), (87, .iload 5, 2, 2, 0, 0, 0, 0, 0, 0), (89, .if_icmp .lt 6, 3, 12, 0, 0, 0, 0, 0, 0), (92, .goto 14, 3, 0, 0, 0, 0, 0, 0, 0), (95, .iload 6, 2, 2, 0, 0, 0, 0, 0, 0), (97, .istore 4, 2, 4, 0, 0, 0, 0, 0, 0), (99, .iload 7, 2, 2, 0, 0, 0, 0, 0, 0), (101, .invokestatic 339, 3, 23, 254, 0, 0, 167, 1, 1), (104, .istore 5, 2, 4, 0, 0, 0, 0, 0, 0), (106, .iinc 6 1, 3, 6, 0, 0, 0, 0, 0, 0), (109, .goto (-63), 3, 0, 0, 0, 0, 0, 0, 0), (112, .aload_n 0, 1, 3, 0, 0, 0, 0, 0, 0)]), (134, [(113, .getfield 88, 3, 14, 163, 0, 0, 9, 42, 3), (116, .iconst 2, 1, 0, 0, 0, 0, 0, 0, 0), (117, .iload_n 1, 1, 2, 0, 0, 0, 0, 0, 0), (118, .iadd, 1, 7, 0, 0, 0, 0, 0, 0), (119, .iload_n 3, 1, 2, 0, 0, 0, 0, 0, 0), (120, .iastore, 1, 17, 0, 0, 0, 0, 0, 0), (121, .iload 4, 2, 2, 0, 0, 0, 0, 0, 0), (123, .ifCond .ge 7, 3, 12, 0, 0, 0, 0, 0, 0), (126, .iconst (-1), 1, 0, 0, 0, 0, 0, 0, 0), (127, .goto 14, 3, 0, 0, 0, 0, 0, 0, 0), (130, .iload_n 2, 1, 2, 0, 0, 0, 0, 0, 0), (131, .ifCond .ne 8, 3, 12, 0, 0, 0, 0, 0, 0)]), (142, [(134, .iload 4, 2, 2, 0, 0, 0, 0, 0, 0), (136, .goto 5, 3, 0, 0, 0, 0, 0, 0, 0), (139, .iload 5, 2, 2, 0, 0, 0, 0, 0, 0), (141, .ireturn, 1, 21, 0, 0, 0, 0, 0, 0)])]
def ee_me201 : ee_me := (9, ⟨"PepperTablesModel", "hide", "(II)I"⟩, prog_11_method_109_code, 8, (some .int), ee_B201, 0, 0)
set_option maxRecDepth 100000 in
theorem ee_me201ok : ee_Mb ee_me201 = true := by decide +kernel
/- 202: PepperTablesModel.hotOf(I)I -/
def ee_B202 : List (Nat × List ee_en) := [(15, [(0, .aload_n 0, 1, 3, 0, 0, 0, 0, 0, 0), (1, .getfield 51, 3, 14, 151, 0, 0, 9, 21, 3), (4, .bipush 10, 2, 0, 0, 0, 0, 0, 0, 0), (6, .aload_n 0, 1, 3, 0, 0, 0, 0, 0, 0), (7, .getfield 253, 3, 14, 184, 0, 0, 9, 33, 0), (10, .imul, 1, 7, 0, 0, 0, 0, 0, 0), (11, .iload_n 1, 1, 2, 0, 0, 0, 0, 0, 0), (12, .iadd, 1, 7, 0, 0, 0, 0, 0, 0), (13, .iaload, 1, 22, 0, 0, 0, 0, 0, 0), (14, .ireturn, 1, 21, 0, 0, 0, 0, 0, 0)])]
def ee_me202 : ee_me := (9, ⟨"PepperTablesModel", "hotOf", "(I)I"⟩, prog_11_method_52_code, 2, (some .int), ee_B202, 0, 0)
set_option maxRecDepth 100000 in
theorem ee_me202ok : ee_Mb ee_me202 = true := by decide +kernel
/- 203: PepperTablesModel.hottest()I -/
def ee_B203 : List (Nat × List ee_en) := [(18, [(0, .iconst (-1), 1, 0, 0, 0, 0, 0, 0, 0), (1, .istore_n 1, 1, 4, 0, 0, 0, 0, 0, 0), (2, .iconst 0, 1, 0, 0, 0, 0, 0, 0, 0), (3, .istore_n 2, 1, 4, 0, 0, 0, 0, 0, 0), (4, .iload_n 2, 1, 2, 0, 0, 0, 0, 0, 0), (5, .aload_n 0, 1, 3, 0, 0, 0, 0, 0, 0), (6, .invokevirtual 365, 3, 23, 237, 0, 0, 164, 0, 0), (9, .if_icmp .ge 36, 3, 12, 0, 0, 0, 0, 0, 0), (12, .iload_n 1, 1, 2, 0, 0, 0, 0, 0, 0), (13, .ifCond .lt 24, 3, 12, 0, 0, 0, 0, 0, 0), (16, .aload_n 0, 1, 3, 0, 0, 0, 0, 0, 0), (17, .aload_n 0, 1, 3, 0, 0, 0, 0, 0, 0)]), (42, [(18, .iload_n 2, 1, 2, 0, 0, 0, 0, 0, 0), (19, .invokevirtual 345, 3, 23, 255, 0, 0, 206, 0, 1), (22, .invokevirtual 348, 3, 23, 239, 0, 0, 198, 0, 1), (25, .aload_n 0, 1, 3, 0, 0, 0, 0, 0, 0), (26, .aload_n 0, 1, 3, 0, 0, 0, 0, 0, 0), (27, .iload_n 1, 1, 2, 0, 0, 0, 0, 0, 0), (28, .invokevirtual 345, 3, 23, 255, 0, 0, 206, 0, 1), (31, .invokevirtual 348, 3, 23, 239, 0, 0, 198, 0, 1), (34, .if_icmp .le 5, 3, 12, 0, 0, 0, 0, 0, 0), (37, .iload_n 2, 1, 2, 0, 0, 0, 0, 0, 0), (38, .istore_n 1, 1, 4, 0, 0, 0, 0, 0, 0), (39, .iinc 2 1, 3, 6, 0, 0, 0, 0, 0, 0)]), (47, [(42, .goto (-38), 3, 0, 0, 0, 0, 0, 0, 0), (45, .iload_n 1, 1, 2, 0, 0, 0, 0, 0, 0), (46, .ireturn, 1, 21, 0, 0, 0, 0, 0, 0)])]
def ee_me203 : ee_me := (9, ⟨"PepperTablesModel", "hottest", "()I"⟩, prog_11_method_75_code, 3, (some .int), ee_B203, 0, 0)
set_option maxRecDepth 100000 in
theorem ee_me203ok : ee_Mb ee_me203 = true := by decide +kernel
/- 204: PepperTablesModel.idle()I -/
def ee_B204 : List (Nat × List ee_en) := [(20, [(0, .iconst 0, 1, 0, 0, 0, 0, 0, 0, 0), (1, .istore_n 1, 1, 4, 0, 0, 0, 0, 0, 0), (2, .iconst 0, 1, 0, 0, 0, 0, 0, 0, 0), (3, .istore_n 2, 1, 4, 0, 0, 0, 0, 0, 0), (4, .iload_n 2, 1, 2, 0, 0, 0, 0, 0, 0), (5, .aload_n 0, 1, 3, 0, 0, 0, 0, 0, 0), (6, .invokevirtual 365, 3, 23, 237, 0, 0, 164, 0, 0), (9, .if_icmp .ge 23, 3, 12, 0, 0, 0, 0, 0, 0), (12, .aload_n 0, 1, 3, 0, 0, 0, 0, 0, 0), (13, .iload_n 2, 1, 2, 0, 0, 0, 0, 0, 0), (14, .invokevirtual 407, 3, 23, 265, 0, 0, 292, 0, 1), (17, .ifCond .ne 9, 3, 12, 0, 0, 0, 0, 0, 0)]), (34, [(20, .iload_n 1, 1, 2, 0, 0, 0, 0, 0, 0), (21, .iconst 1, 1, 0, 0, 0, 0, 0, 0, 0), (22, .iload_n 2, 1, 2, 0, 0, 0, 0, 0, 0), (23, .ishl, 1, 7, 0, 0, 0, 0, 0, 0), (24, .ior, 1, 7, 0, 0, 0, 0, 0, 0), (25, .istore_n 1, 1, 4, 0, 0, 0, 0, 0, 0), (26, .iinc 2 1, 3, 6, 0, 0, 0, 0, 0, 0), (29, .goto (-25), 3, 0, 0, 0, 0, 0, 0, 0), (32, .iload_n 1, 1, 2, 0, 0, 0, 0, 0, 0), (33, .ireturn, 1, 21, 0, 0, 0, 0, 0, 0)])]
def ee_me204 : ee_me := (9, ⟨"PepperTablesModel", "idle", "()I"⟩, prog_11_method_76_code, 3, (some .int), ee_B204, 0, 0)
set_option maxRecDepth 100000 in
theorem ee_me204ok : ee_Mb ee_me204 = true := by decide +kernel
/- 205: PepperTablesModel.image(I)I -/
def ee_B205 : List (Nat × List ee_en) := [(19, [(0, .iload_n 1, 1, 2, 0, 0, 0, 0, 0, 0), (1, .iconst 0, 1, 0, 0, 0, 0, 0, 0, 0), (2, .iconst 2, 1, 0, 0, 0, 0, 0, 0, 0), (3, .invokestatic 361, 3, 23, 250, 0, 0, 214, 1, 3), (6, .ifCond .ne 5, 3, 12, 0, 0, 0, 0, 0, 0), (9, .iconst (-1), 1, 0, 0, 0, 0, 0, 0, 0), (10, .ireturn, 1, 21, 0, 0, 0, 0, 0, 0), (11, .iconst 0, 1, 0, 0, 0, 0, 0, 0, 0), (12, .istore_n 2, 1, 4, 0, 0, 0, 0, 0, 0), (13, .iload_n 2, 1, 2, 0, 0, 0, 0, 0, 0), (14, .bipush 19, 2, 0, 0, 0, 0, 0, 0, 0), (16, .if_icmp .ge 26, 3, 12, 0, 0, 0, 0, 0, 0)]), (36, [(19, .aload_n 0, 1, 3, 0, 0, 0, 0, 0, 0), (20, .getfield 130, 3, 14, 177, 0, 0, 9, 63, 3), (23, .bipush 19, 2, 0, 0, 0, 0, 0, 0, 0), (25, .iload_n 1, 1, 2, 0, 0, 0, 0, 0, 0), (26, .imul, 1, 7, 0, 0, 0, 0, 0, 0), (27, .iload_n 2, 1, 2, 0, 0, 0, 0, 0, 0), (28, .iadd, 1, 7, 0, 0, 0, 0, 0, 0), (29, .aload_n 0, 1, 3, 0, 0, 0, 0, 0, 0), (30, .getfield 88, 3, 14, 163, 0, 0, 9, 42, 3), (33, .iload_n 2, 1, 2, 0, 0, 0, 0, 0, 0), (34, .iaload, 1, 22, 0, 0, 0, 0, 0, 0), (35, .iastore, 1, 17, 0, 0, 0, 0, 0, 0)]), (57, [(36, .iinc 2 1, 3, 6, 0, 0, 0, 0, 0, 0), (39, .goto (-26), 3, 0, 0, 0, 0, 0, 0, 0), (42, .aload_n 0, 1, 3, 0, 0, 0, 0, 0, 0), (43, .getfield 133, 3, 14, 178, 0, 0, 9, 64, 3), (46, .iload_n 1, 1, 2, 0, 0, 0, 0, 0, 0), (47, .iconst 1, 1, 0, 0, 0, 0, 0, 0, 0), (48, .bastore, 1, 17, 0, 0, 0, 0, 0, 0), (49, .aload_n 0, 1, 3, 0, 0, 0, 0, 0, 0), (50, .getfield 88, 3, 14, 163, 0, 0, 9, 42, 3), (53, .bipush 17, 2, 0, 0, 0, 0, 0, 0, 0), (55, .iaload, 1, 22, 0, 0, 0, 0, 0, 0), (56, .ireturn, 1, 21, 0, 0, 0, 0, 0, 0)])]
def ee_me205 : ee_me := (9, ⟨"PepperTablesModel", "image", "(I)I"⟩, prog_11_method_135_code, 3, (some .int), ee_B205, 0, 0)
set_option maxRecDepth 100000 in
theorem ee_me205ok : ee_Mb ee_me205 = true := by decide +kernel
/- 206: PepperTablesModel.inOf(I)I -/
def ee_B206 : List (Nat × List ee_en) := [(20, [(0, .iconst 0, 1, 0, 0, 0, 0, 0, 0, 0), (1, .istore_n 2, 1, 4, 0, 0, 0, 0, 0, 0), (2, .iconst 0, 1, 0, 0, 0, 0, 0, 0, 0), (3, .istore_n 3, 1, 4, 0, 0, 0, 0, 0, 0), (4, .iload_n 3, 1, 2, 0, 0, 0, 0, 0, 0), (5, .aload_n 0, 1, 3, 0, 0, 0, 0, 0, 0), (6, .invokevirtual 368, 3, 23, 235, 0, 0, 238, 0, 0), (9, .if_icmp .ge 35, 3, 12, 0, 0, 0, 0, 0, 0), (12, .aload_n 0, 1, 3, 0, 0, 0, 0, 0, 0), (13, .iload_n 3, 1, 2, 0, 0, 0, 0, 0, 0), (14, .invokevirtual 386, 3, 23, 241, 0, 0, 223, 0, 1), (17, .ifCond .eq 21, 3, 12, 0, 0, 0, 0, 0, 0)]), (36, [(20, .aload_n 0, 1, 3, 0, 0, 0, 0, 0, 0), (21, .getfield 88, 3, 14, 163, 0, 0, 9, 42, 3), (24, .iconst 2, 1, 0, 0, 0, 0, 0, 0, 0), (25, .iload_n 3, 1, 2, 0, 0, 0, 0, 0, 0), (26, .iadd, 1, 7, 0, 0, 0, 0, 0, 0), (27, .iaload, 1, 22, 0, 0, 0, 0, 0, 0), (28, .iload_n 1, 1, 2, 0, 0, 0, 0, 0, 0), (29, .if_icmp .ne 9, 3, 12, 0, 0, 0, 0, 0, 0), (32, .iload_n 2, 1, 2, 0, 0, 0, 0, 0, 0), (33, .iconst 1, 1, 0, 0, 0, 0, 0, 0, 0), (34, .iload_n 3, 1, 2, 0, 0, 0, 0, 0, 0), (35, .ishl, 1, 7, 0, 0, 0, 0, 0, 0)]), (46, [(36, .ior, 1, 7, 0, 0, 0, 0, 0, 0), (37, .istore_n 2, 1, 4, 0, 0, 0, 0, 0, 0), (38, .iinc 3 1, 3, 6, 0, 0, 0, 0, 0, 0), (41, .goto (-37), 3, 0, 0, 0, 0, 0, 0, 0), (44, .iload_n 2, 1, 2, 0, 0, 0, 0, 0, 0), (45, .ireturn, 1, 21, 0, 0, 0, 0, 0, 0)])]
def ee_me206 : ee_me := (9, ⟨"PepperTablesModel", "inOf", "(I)I"⟩, prog_11_method_56_code, 4, (some .int), ee_B206, 0, 0)
set_option maxRecDepth 100000 in
theorem ee_me206ok : ee_Mb ee_me206 = true := by decide +kernel
/- 207: PepperTablesModel.inOrder(III)I -/
def ee_B207 : List (Nat × List ee_en) := [(18, [(0, .iload_n 1, 1, 2, 0, 0, 0, 0, 0, 0), (1, .aload_n 0, 1, 3, 0, 0, 0, 0, 0, 0), (2, .invokevirtual 358, 3, 23, 236, 0, 0, 190, 0, 0), (5, .iload_n 2, 1, 2, 0, 0, 0, 0, 0, 0), (6, .iconst 1, 1, 0, 0, 0, 0, 0, 0, 0), (7, .isub, 1, 7, 0, 0, 0, 0, 0, 0), (8, .iload_n 3, 1, 2, 0, 0, 0, 0, 0, 0), (9, .isub, 1, 7, 0, 0, 0, 0, 0, 0), (10, .invokestatic 455, 3, 23, 249, 0, 0, 251, 1, 2), (13, .idiv, 1, 8, 0, 0, 0, 0, 0, 0), (14, .aload_n 0, 1, 3, 0, 0, 0, 0, 0, 0), (15, .invokevirtual 358, 3, 23, 236, 0, 0, 190, 0, 0)]), (20, [(18, .irem, 1, 8, 0, 0, 0, 0, 0, 0), (19, .ireturn, 1, 21, 0, 0, 0, 0, 0, 0)])]
def ee_me207 : ee_me := (9, ⟨"PepperTablesModel", "inOrder", "(III)I"⟩, prog_11_method_116_code, 4, (some .int), ee_B207, 0, 0)
set_option maxRecDepth 100000 in
theorem ee_me207ok : ee_Mb ee_me207 = true := by decide +kernel
/- 208: PepperTablesModel.inRow(III)I -/
def ee_B208 : List (Nat × List ee_en) := [(18, [(0, .iload_n 1, 1, 2, 0, 0, 0, 0, 0, 0), (1, .aload_n 0, 1, 3, 0, 0, 0, 0, 0, 0), (2, .invokevirtual 365, 3, 23, 237, 0, 0, 164, 0, 0), (5, .iload_n 2, 1, 2, 0, 0, 0, 0, 0, 0), (6, .iconst 1, 1, 0, 0, 0, 0, 0, 0, 0), (7, .isub, 1, 7, 0, 0, 0, 0, 0, 0), (8, .iload_n 3, 1, 2, 0, 0, 0, 0, 0, 0), (9, .isub, 1, 7, 0, 0, 0, 0, 0, 0), (10, .invokestatic 455, 3, 23, 249, 0, 0, 251, 1, 2), (13, .idiv, 1, 8, 0, 0, 0, 0, 0, 0), (14, .aload_n 0, 1, 3, 0, 0, 0, 0, 0, 0), (15, .invokevirtual 365, 3, 23, 237, 0, 0, 164, 0, 0)]), (20, [(18, .irem, 1, 8, 0, 0, 0, 0, 0, 0), (19, .ireturn, 1, 21, 0, 0, 0, 0, 0, 0)])]
def ee_me208 : ee_me := (9, ⟨"PepperTablesModel", "inRow", "(III)I"⟩, prog_11_method_106_code, 4, (some .int), ee_B208, 0, 0)
set_option maxRecDepth 100000 in
theorem ee_me208ok : ee_Mb ee_me208 = true := by decide +kernel
/- 209: PepperTablesModel.invite(I)I -/
def ee_B209 : List (Nat × List ee_en) := [(16, [(0, .iload_n 1, 1, 2, 0, 0, 0, 0, 0, 0), (1, .iconst 0, 1, 0, 0, 0, 0, 0, 0, 0), (2, .iconst 1, 1, 0, 0, 0, 0, 0, 0, 0), (3, .invokestatic 361, 3, 23, 250, 0, 0, 214, 1, 3), (6, .ifCond .ne 5, 3, 12, 0, 0, 0, 0, 0, 0), (9, .iconst (-1), 1, 0, 0, 0, 0, 0, 0, 0), (10, .ireturn, 1, 21, 0, 0, 0, 0, 0, 0), (11, .iconst (-1), 1, 0, 0, 0, 0, 0, 0, 0), (12, .istore_n 2, 1, 4, 0, 0, 0, 0, 0, 0), (13, .iconst (-1), 1, 0, 0, 0, 0, 0, 0, 0), (14, .istore_n 3, 1, 4, 0, 0, 0, 0, 0, 0), (15, .iconst 0, 1, 0, 0, 0, 0, 0, 0, 0)]), (41, [(16, .istore 4, 2, 4, 0, 0, 0, 0, 0, 0), (18, .iload 4, 2, 2, 0, 0, 0, 0, 0, 0), (20, .aload_n 0, 1, 3, 0, 0, 0, 0, 0, 0), (21, .invokevirtual 358, 3, 23, 236, 0, 0, 190, 0, 0), (24, .if_icmp .ge 62, 3, 12, 0, 0, 0, 0, 0, 0), (27, .aload_n 0, 1, 3, 0, 0, 0, 0, 0, 0), (28, .getfield 88, 3, 14, 163, 0, 0, 9, 42, 3), (31, .iconst 0, 1, 0, 0, 0, 0, 0, 0, 0), (32, .iaload, 1, 22, 0, 0, 0, 0, 0, 0), (33, .iload 4, 2, 2, 0, 0, 0, 0, 0, 0), (35, .invokestatic 259, 3, 23, 273, 0, 0, 166, 1, 2), (38, .ifCond .eq 7, 3, 12, 0, 0, 0, 0, 0, 0)]), (60, [(41, .iconst (-1), 1, 0, 0, 0, 0, 0, 0, 0), (42, .goto 21, 3, 0, 0, 0, 0, 0, 0, 0), (45, .aload_n 0, 1, 3, 0, 0, 0, 0, 0, 0), (46, .aload_n 0, 1, 3, 0, 0, 0, 0, 0, 0), (47, .getfield 88, 3, 14, 163, 0, 0, 9, 42, 3), (50, .iconst 0, 1, 0, 0, 0, 0, 0, 0, 0), (51, .iaload, 1, 22, 0, 0, 0, 0, 0, 0), (52, .iconst 1, 1, 0, 0, 0, 0, 0, 0, 0), (53, .iload 4, 2, 2, 0, 0, 0, 0, 0, 0), (55, .ishl, 1, 7, 0, 0, 0, 0, 0, 0), (56, .ior, 1, 7, 0, 0, 0, 0, 0, 0), (57, .invokevirtual 449, 3, 23, 283, 0, 0, 267, 0, 1)]), (86, [(60, .invokestatic 339, 3, 23, 254, 0, 0, 167, 1, 1), (63, .istore 5, 2, 4, 0, 0, 0, 0, 0, 0), (65, .iload 5, 2, 2, 0, 0, 0, 0, 0, 0), (67, .iload_n 3, 1, 2, 0, 0, 0, 0, 0, 0), (68, .if_icmp .gt 6, 3, 12, 0, 0, 0, 0, 0, 0), (71, .goto 9, 3, 0, 0, 0, 0, 0, 0, 0), (74, .iload 4, 2, 2, 0, 0, 0, 0, 0, 0), (76, .istore_n 2, 1, 4, 0, 0, 0, 0, 0, 0), (77, .iload 5, 2, 2, 0, 0, 0, 0, 0, 0), (79, .istore_n 3, 1, 4, 0, 0, 0, 0, 0, 0), (80, .iinc 4 1, 3, 6, 0, 0, 0, 0, 0, 0), (83, .goto (-65), 3, 0, 0, 0, 0, 0, 0, 0)]), (96, [(86, .iload_n 1, 1, 2, 0, 0, 0, 0, 0, 0), (87, .ifCond .ne 7, 3, 12, 0, 0, 0, 0, 0, 0), (90, .iload_n 2, 1, 2, 0, 0, 0, 0, 0, 0), (91, .goto 4, 3, 0, 0, 0, 0, 0, 0, 0), (94, .iload_n 3, 1, 2, 0, 0, 0, 0, 0, 0), (95, .ireturn, 1, 21, 0, 0, 0, 0, 0, 0)])]
def ee_me209 : ee_me := (9, ⟨"PepperTablesModel", "invite", "(I)I"⟩, prog_11_method_103_code, 6, (some .int), ee_B209, 0, 0)
set_option maxRecDepth 100000 in
theorem ee_me209ok : ee_Mb ee_me209 = true := by decide +kernel
/- 210: PepperTablesModel.isCompared()Z -/
def ee_B210 : List (Nat × List ee_en) := [(18, [(0, .aload_n 0, 1, 3, 0, 0, 0, 0, 0, 0), (1, .getfield 303, 3, 14, 190, 0, 0, 9, 37, 0), (4, .iconst 1, 1, 0, 0, 0, 0, 0, 0, 0), (5, .isub, 1, 7, 0, 0, 0, 0, 0, 0), (6, .istore_n 1, 1, 4, 0, 0, 0, 0, 0, 0), (7, .aload_n 0, 1, 3, 0, 0, 0, 0, 0, 0), (8, .getfield 79, 3, 14, 160, 0, 0, 9, 30, 3), (11, .iload_n 1, 1, 2, 0, 0, 0, 0, 0, 0), (12, .iaload, 1, 22, 0, 0, 0, 0, 0, 0), (13, .iconst 5, 1, 0, 0, 0, 0, 0, 0, 0), (14, .if_icmp .eq 14, 3, 12, 0, 0, 0, 0, 0, 0), (17, .aload_n 0, 1, 3, 0, 0, 0, 0, 0, 0)]), (41, [(18, .getfield 79, 3, 14, 160, 0, 0, 9, 30, 3), (21, .iload_n 1, 1, 2, 0, 0, 0, 0, 0, 0), (22, .iaload, 1, 22, 0, 0, 0, 0, 0, 0), (23, .bipush 6, 2, 0, 0, 0, 0, 0, 0, 0), (25, .if_icmp .ne 9, 3, 12, 0, 0, 0, 0, 0, 0), (28, .iinc 1 (-1), 3, 6, 0, 0, 0, 0, 0, 0), (31, .goto (-24), 3, 0, 0, 0, 0, 0, 0, 0), (34, .aload_n 0, 1, 3, 0, 0, 0, 0, 0, 0), (35, .getfield 79, 3, 14, 160, 0, 0, 9, 30, 3), (38, .iload_n 1, 1, 2, 0, 0, 0, 0, 0, 0), (39, .iaload, 1, 22, 0, 0, 0, 0, 0, 0), (40, .iconst 4, 1, 0, 0, 0, 0, 0, 0, 0)]), (50, [(41, .if_icmp .ne 7, 3, 12, 0, 0, 0, 0, 0, 0), (44, .iconst 1, 1, 0, 0, 0, 0, 0, 0, 0), (45, .goto 4, 3, 0, 0, 0, 0, 0, 0, 0), (48, .iconst 0, 1, 0, 0, 0, 0, 0, 0, 0), (49, .ireturn, 1, 21, 0, 0, 0, 0, 0, 0)])]
def ee_me210 : ee_me := (9, ⟨"PepperTablesModel", "isCompared", "()Z"⟩, prog_11_method_33_code, 2, (some .boolean), ee_B210, 0, 0)
set_option maxRecDepth 100000 in
theorem ee_me210ok : ee_Mb ee_me210 = true := by decide +kernel
/- 211: PepperTablesModel.isDigit(I)Z -/
def ee_B211 : List (Nat × List ee_en) := [(18, [(0, .iload_n 0, 1, 2, 0, 0, 0, 0, 0, 0), (1, .bipush 48, 2, 0, 0, 0, 0, 0, 0, 0), (3, .if_icmp .lt 13, 3, 12, 0, 0, 0, 0, 0, 0), (6, .iload_n 0, 1, 2, 0, 0, 0, 0, 0, 0), (7, .bipush 57, 2, 0, 0, 0, 0, 0, 0, 0), (9, .if_icmp .gt 7, 3, 12, 0, 0, 0, 0, 0, 0), (12, .iconst 1, 1, 0, 0, 0, 0, 0, 0, 0), (13, .goto 4, 3, 0, 0, 0, 0, 0, 0, 0), (16, .iconst 0, 1, 0, 0, 0, 0, 0, 0, 0), (17, .ireturn, 1, 21, 0, 0, 0, 0, 0, 0)])]
def ee_me211 : ee_me := (9, ⟨"PepperTablesModel", "isDigit", "(I)Z"⟩, prog_11_method_4_code, 1, (some .boolean), ee_B211, 0, 0)
set_option maxRecDepth 100000 in
theorem ee_me211ok : ee_Mb ee_me211 = true := by decide +kernel
/- 212: PepperTablesModel.isFull()Z -/
def ee_B212 : List (Nat × List ee_en) := [(25, [(0, .aload_n 0, 1, 3, 0, 0, 0, 0, 0, 0), (1, .ldc2_w 149, 3, 1, 1, 0, 123581014175598, 0, 0, 0), (4, .invokevirtual 233, 3, 23, 245, 0, 0, 225, 0, 1), (7, .ifCond .eq 23, 3, 12, 0, 0, 0, 0, 0, 0), (10, .aload_n 0, 1, 3, 0, 0, 0, 0, 0, 0), (11, .getfield 20, 3, 14, 141, 0, 0, 9, 11, 3), (14, .aload_n 0, 1, 3, 0, 0, 0, 0, 0, 0), (15, .getfield 244, 3, 14, 193, 0, 0, 9, 34, 0), (18, .iaload, 1, 22, 0, 0, 0, 0, 0, 0), (19, .bipush 6, 2, 0, 0, 0, 0, 0, 0, 0), (21, .if_icmp .ne 7, 3, 12, 0, 0, 0, 0, 0, 0), (24, .iconst 1, 1, 0, 0, 0, 0, 0, 0, 0)]), (49, [(25, .goto 4, 3, 0, 0, 0, 0, 0, 0, 0), (28, .iconst 0, 1, 0, 0, 0, 0, 0, 0, 0), (29, .ireturn, 1, 21, 0, 0, 0, 0, 0, 0), (30, .aload_n 0, 1, 3, 0, 0, 0, 0, 0, 0), (31, .ldc2_w 153, 3, 1, 2, 0, 1935762283, 0, 0, 0), (34, .invokevirtual 233, 3, 23, 245, 0, 0, 225, 0, 1), (37, .ifCond .eq 22, 3, 12, 0, 0, 0, 0, 0, 0), (40, .aload_n 0, 1, 3, 0, 0, 0, 0, 0, 0), (41, .getfield 24, 3, 14, 142, 0, 0, 9, 12, 3), (44, .aload_n 0, 1, 3, 0, 0, 0, 0, 0, 0), (45, .getfield 244, 3, 14, 193, 0, 0, 9, 34, 0), (48, .iaload, 1, 22, 0, 0, 0, 0, 0, 0)]), (73, [(49, .iconst 5, 1, 0, 0, 0, 0, 0, 0, 0), (50, .if_icmp .ne 7, 3, 12, 0, 0, 0, 0, 0, 0), (53, .iconst 1, 1, 0, 0, 0, 0, 0, 0, 0), (54, .goto 4, 3, 0, 0, 0, 0, 0, 0, 0), (57, .iconst 0, 1, 0, 0, 0, 0, 0, 0, 0), (58, .ireturn, 1, 21, 0, 0, 0, 0, 0, 0), (59, .aload_n 0, 1, 3, 0, 0, 0, 0, 0, 0), (60, .ldc2_w 155, 3, 1, 3, 0, 499967946343, 0, 0, 0), (63, .invokevirtual 233, 3, 23, 245, 0, 0, 225, 0, 1), (66, .ifCond .eq 23, 3, 12, 0, 0, 0, 0, 0, 0), (69, .aload_n 0, 1, 3, 0, 0, 0, 0, 0, 0), (70, .getfield 27, 3, 14, 143, 0, 0, 9, 13, 3)]), (96, [(73, .aload_n 0, 1, 3, 0, 0, 0, 0, 0, 0), (74, .getfield 244, 3, 14, 193, 0, 0, 9, 34, 0), (77, .iaload, 1, 22, 0, 0, 0, 0, 0, 0), (78, .bipush 10, 2, 0, 0, 0, 0, 0, 0, 0), (80, .if_icmp .ne 7, 3, 12, 0, 0, 0, 0, 0, 0), (83, .iconst 1, 1, 0, 0, 0, 0, 0, 0, 0), (84, .goto 4, 3, 0, 0, 0, 0, 0, 0, 0), (87, .iconst 0, 1, 0, 0, 0, 0, 0, 0, 0), (88, .ireturn, 1, 21, 0, 0, 0, 0, 0, 0), (89, .aload_n 0, 1, 3, 0, 0, 0, 0, 0, 0), (90, .ldc2_w 165, 3, 1, 4, 0, 1935763812, 0, 0, 0), (93, .invokevirtual 233, 3, 23, 245, 0, 0, 225, 0, 1)]), (120, [(96, .ifCond .eq 17, 3, 12, 0, 0, 0, 0, 0, 0), (99, .aload_n 0, 1, 3, 0, 0, 0, 0, 0, 0), (100, .getfield 39, 3, 14, 147, 0, 0, 9, 17, 3), (103, .aload_n 0, 1, 3, 0, 0, 0, 0, 0, 0), (104, .getfield 244, 3, 14, 193, 0, 0, 9, 34, 0), (107, .iaload, 1, 22, 0, 0, 0, 0, 0, 0), (108, .iconst 0, 1, 0, 0, 0, 0, 0, 0, 0), (109, .invokestatic 259, 3, 23, 273, 0, 0, 166, 1, 2), (112, .ireturn, 1, 21, 0, 0, 0, 0, 0, 0), (113, .aload_n 0, 1, 3, 0, 0, 0, 0, 0, 0), (114, .ldc2_w 167, 3, 1, 5, 0, 126917984746085, 0, 0, 0), (117, .invokevirtual 233, 3, 23, 245, 0, 0, 225, 0, 1)]), (144, [(120, .ifCond .eq 17, 3, 12, 0, 0, 0, 0, 0, 0), (123, .aload_n 0, 1, 3, 0, 0, 0, 0, 0, 0), (124, .getfield 39, 3, 14, 147, 0, 0, 9, 17, 3), (127, .aload_n 0, 1, 3, 0, 0, 0, 0, 0, 0), (128, .getfield 244, 3, 14, 193, 0, 0, 9, 34, 0), (131, .iaload, 1, 22, 0, 0, 0, 0, 0, 0), (132, .iconst 1, 1, 0, 0, 0, 0, 0, 0, 0), (133, .invokestatic 259, 3, 23, 273, 0, 0, 166, 1, 2), (136, .ireturn, 1, 21, 0, 0, 0, 0, 0, 0), (137, .aload_n 0, 1, 3, 0, 0, 0, 0, 0, 0), (138, .ldc2_w 169, 3, 1, 6, 0, 1685217655, 0, 0, 0), (141, .invokevirtual 233, 3, 23, 245, 0, 0, 225, 0, 1)]), (168, [(144, .ifCond .eq 19, 3, 12, 0, 0, 0, 0, 0, 0), (147, .aload_n 0, 1, 3, 0, 0, 0, 0, 0, 0), (148, .getfield 39, 3, 14, 147, 0, 0, 9, 17, 3), (151, .aload_n 0, 1, 3, 0, 0, 0, 0, 0, 0), (152, .getfield 244, 3, 14, 193, 0, 0, 9, 34, 0), (155, .iaload, 1, 22, 0, 0, 0, 0, 0, 0), (156, .iconst 2, 1, 0, 0, 0, 0, 0, 0, 0), (157, .invokestatic 259, 3, 23, 273, 0, 0, 166, 1, 2), (160, .ifCond .eq 7, 3, 12, 0, 0, 0, 0, 0, 0), (163, .iconst 1, 1, 0, 0, 0, 0, 0, 0, 0), (164, .goto 4, 3, 0, 0, 0, 0, 0, 0, 0), (167, .iconst 0, 1, 0, 0, 0, 0, 0, 0, 0)]), (169, [(168, .ireturn, 1, 21, 0, 0, 0, 0, 0, 0)])]
def ee_me212 : ee_me := (9, ⟨"PepperTablesModel", "isFull", "()Z"⟩, prog_11_method_18_code, 1, (some .boolean), ee_B212, 0, 0)
set_option maxRecDepth 100000 in
theorem ee_me212ok : ee_Mb ee_me212 = true := by decide +kernel
end
section
/- 213: PepperTablesModel.isGood()Z -/
def ee_B213 : List (Nat × List ee_en) := [(13, [(0, .aload_n 0, 1, 3, 0, 0, 0, 0, 0, 0), (1, .getfield 146, 3, 14, 195, 0, 0, 9, 4, 0), (4, .ifCond .ne 7, 3, 12, 0, 0, 0, 0, 0, 0), (7, .iconst 1, 1, 0, 0, 0, 0, 0, 0, 0), (8, .goto 4, 3, 0, 0, 0, 0, 0, 0, 0), (11, .iconst 0, 1, 0, 0, 0, 0, 0, 0, 0), (12, .ireturn, 1, 21, 0, 0, 0, 0, 0, 0)])]
def ee_me213 : ee_me := (9, ⟨"PepperTablesModel", "isGood", "()Z"⟩, prog_11_method_6_code, 1, (some .boolean), ee_B213, 0, 0)
set_option maxRecDepth 100000 in
theorem ee_me213ok : ee_Mb ee_me213 = true := by decide +kernel
/- 214: PepperTablesModel.isIn(III)Z -/
def ee_B214 : List (Nat × List ee_en) := [(16, [(0, .iload_n 0, 1, 2, 0, 0, 0, 0, 0, 0), (1, .iload_n 1, 1, 2, 0, 0, 0, 0, 0, 0), (2, .if_icmp .lt 12, 3, 12, 0, 0, 0, 0, 0, 0), (5, .iload_n 0, 1, 2, 0, 0, 0, 0, 0, 0), (6, .iload_n 2, 1, 2, 0, 0, 0, 0, 0, 0), (7, .if_icmp .gt 7, 3, 12, 0, 0, 0, 0, 0, 0), (10, .iconst 1, 1, 0, 0, 0, 0, 0, 0, 0), (11, .goto 4, 3, 0, 0, 0, 0, 0, 0, 0), (14, .iconst 0, 1, 0, 0, 0, 0, 0, 0, 0), (15, .ireturn, 1, 21, 0, 0, 0, 0, 0, 0)])]
def ee_me214 : ee_me := (9, ⟨"PepperTablesModel", "isIn", "(III)Z"⟩, prog_11_method_39_code, 3, (some .boolean), ee_B214, 0, 0)
set_option maxRecDepth 100000 in
theorem ee_me214ok : ee_Mb ee_me214 = true := by decide +kernel
/- 215: PepperTablesModel.isKept(J)Z -/
def ee_B215 : List (Nat × List ee_en) := [(24, [(0, .lload_n 0, 1, 3, 0, 0, 0, 0, 0, 0), (1, .ldc2_w 149, 3, 1, 1, 0, 123581014175598, 0, 0, 0), (4, .lcmp, 1, 9, 0, 0, 0, 0, 0, 0), (5, .ifCond .eq 67, 3, 12, 0, 0, 0, 0, 0, 0), (8, .lload_n 0, 1, 3, 0, 0, 0, 0, 0, 0), (9, .ldc2_w 151, 3, 1, 7, 0, 7563385, 0, 0, 0), (12, .lcmp, 1, 9, 0, 0, 0, 0, 0, 0), (13, .ifCond .eq 59, 3, 12, 0, 0, 0, 0, 0, 0), (16, .lload_n 0, 1, 3, 0, 0, 0, 0, 0, 0), (17, .ldc2_w 153, 3, 1, 2, 0, 1935762283, 0, 0, 0), (20, .lcmp, 1, 9, 0, 0, 0, 0, 0, 0), (21, .ifCond .eq 51, 3, 12, 0, 0, 0, 0, 0, 0)]), (48, [(24, .lload_n 0, 1, 3, 0, 0, 0, 0, 0, 0), (25, .ldc2_w 155, 3, 1, 3, 0, 499967946343, 0, 0, 0), (28, .lcmp, 1, 9, 0, 0, 0, 0, 0, 0), (29, .ifCond .eq 43, 3, 12, 0, 0, 0, 0, 0, 0), (32, .lload_n 0, 1, 3, 0, 0, 0, 0, 0, 0), (33, .ldc2_w 157, 3, 1, 8, 0, 25209, 0, 0, 0), (36, .lcmp, 1, 9, 0, 0, 0, 0, 0, 0), (37, .ifCond .eq 35, 3, 12, 0, 0, 0, 0, 0, 0), (40, .lload_n 0, 1, 3, 0, 0, 0, 0, 0, 0), (41, .ldc2_w 159, 3, 1, 9, 0, 29807, 0, 0, 0), (44, .lcmp, 1, 9, 0, 0, 0, 0, 0, 0), (45, .ifCond .eq 27, 3, 12, 0, 0, 0, 0, 0, 0)]), (72, [(48, .lload_n 0, 1, 3, 0, 0, 0, 0, 0, 0), (49, .ldc2_w 161, 3, 1, 10, 0, 6844276, 0, 0, 0), (52, .lcmp, 1, 9, 0, 0, 0, 0, 0, 0), (53, .ifCond .eq 19, 3, 12, 0, 0, 0, 0, 0, 0), (56, .lload_n 0, 1, 3, 0, 0, 0, 0, 0, 0), (57, .ldc2_w 163, 3, 1, 11, 0, 26990, 0, 0, 0), (60, .lcmp, 1, 9, 0, 0, 0, 0, 0, 0), (61, .ifCond .eq 11, 3, 12, 0, 0, 0, 0, 0, 0), (64, .lload_n 0, 1, 3, 0, 0, 0, 0, 0, 0), (65, .ldc2_w 165, 3, 1, 4, 0, 1935763812, 0, 0, 0), (68, .lcmp, 1, 9, 0, 0, 0, 0, 0, 0), (69, .ifCond .ne 7, 3, 12, 0, 0, 0, 0, 0, 0)]), (94, [(72, .iconst 1, 1, 0, 0, 0, 0, 0, 0, 0), (73, .goto 4, 3, 0, 0, 0, 0, 0, 0, 0), (76, .iconst 0, 1, 0, 0, 0, 0, 0, 0, 0), (77, .istore_n 2, 1, 4, 0, 0, 0, 0, 0, 0), (78, .iload_n 2, 1, 2, 0, 0, 0, 0, 0, 0), (79, .ifCond .ne 75, 3, 12, 0, 0, 0, 0, 0, 0), (82, .lload_n 0, 1, 3, 0, 0, 0, 0, 0, 0), (83, .ldc2_w 167, 3, 1, 5, 0, 126917984746085, 0, 0, 0), (86, .lcmp, 1, 9, 0, 0, 0, 0, 0, 0), (87, .ifCond .eq 67, 3, 12, 0, 0, 0, 0, 0, 0), (90, .lload_n 0, 1, 3, 0, 0, 0, 0, 0, 0), (91, .ldc2_w 169, 3, 1, 6, 0, 1685217655, 0, 0, 0)]), (118, [(94, .lcmp, 1, 9, 0, 0, 0, 0, 0, 0), (95, .ifCond .eq 59, 3, 12, 0, 0, 0, 0, 0, 0), (98, .lload_n 0, 1, 3, 0, 0, 0, 0, 0, 0), (99, .ldc2_w 171, 3, 1, 12, 0, 113753910899827, 0, 0, 0), (102, .lcmp, 1, 9, 0, 0, 0, 0, 0, 0), (103, .ifCond .eq 51, 3, 12, 0, 0, 0, 0, 0, 0), (106, .lload_n 0, 1, 3, 0, 0, 0, 0, 0, 0), (107, .ldc2_w 173, 3, 1, 13, 0, 113741193899620, 0, 0, 0), (110, .lcmp, 1, 9, 0, 0, 0, 0, 0, 0), (111, .ifCond .eq 43, 3, 12, 0, 0, 0, 0, 0, 0), (114, .lload_n 0, 1, 3, 0, 0, 0, 0, 0, 0), (115, .ldc2_w 175, 3, 1, 14, 0, 1751474548, 0, 0, 0)]), (142, [(118, .lcmp, 1, 9, 0, 0, 0, 0, 0, 0), (119, .ifCond .eq 35, 3, 12, 0, 0, 0, 0, 0, 0), (122, .lload_n 0, 1, 3, 0, 0, 0, 0, 0, 0), (123, .ldc2_w 177, 3, 1, 15, 0, 109330362954597, 0, 0, 0), (126, .lcmp, 1, 9, 0, 0, 0, 0, 0, 0), (127, .ifCond .eq 27, 3, 12, 0, 0, 0, 0, 0, 0), (130, .lload_n 0, 1, 3, 0, 0, 0, 0, 0, 0), (131, .ldc2_w 179, 3, 1, 16, 0, 28530, 0, 0, 0), (134, .lcmp, 1, 9, 0, 0, 0, 0, 0, 0), (135, .ifCond .eq 19, 3, 12, 0, 0, 0, 0, 0, 0), (138, .lload_n 0, 1, 3, 0, 0, 0, 0, 0, 0), (139, .ldc2_w 181, 3, 1, 17, 0, 6385252, 0, 0, 0)]), (160, [(142, .lcmp, 1, 9, 0, 0, 0, 0, 0, 0), (143, .ifCond .eq 11, 3, 12, 0, 0, 0, 0, 0, 0), (146, .lload_n 0, 1, 3, 0, 0, 0, 0, 0, 0), (147, .ldc2_w 183, 3, 1, 18, 0, 7237492, 0, 0, 0), (150, .lcmp, 1, 9, 0, 0, 0, 0, 0, 0), (151, .ifCond .ne 7, 3, 12, 0, 0, 0, 0, 0, 0), (154, .iconst 1, 1, 0, 0, 0, 0, 0, 0, 0), (155, .goto 4, 3, 0, 0, 0, 0, 0, 0, 0), (158, .iconst 0, 1, 0, 0, 0, 0, 0, 0, 0), (159, .ireturn, 1, 21, 0, 0, 0, 0, 0, 0)])]
def ee_me215 : ee_me := (9, ⟨"PepperTablesModel", "isKept", "(J)Z"⟩, prog_11_method_7_code, 3, (some .boolean), ee_B215, 0, 0)
set_option maxRecDepth 100000 in
theorem ee_me215ok : ee_Mb ee_me215 = true := by decide +kernel
/- 216: PepperTablesModel.isLetOut(II)Z -/
def ee_B216 : List (Nat × List ee_en) := [(20, [(0, .aload_n 0, 1, 3, 0, 0, 0, 0, 0, 0), (1, .iload_n 1, 1, 2, 0, 0, 0, 0, 0, 0), (2, .invokevirtual 395, 3, 23, 289, 0, 0, 177, 0, 1), (5, .ifCond .ne 5, 3, 12, 0, 0, 0, 0, 0, 0), (8, .iconst 0, 1, 0, 0, 0, 0, 0, 0, 0), (9, .ireturn, 1, 21, 0, 0, 0, 0, 0, 0), (10, .aload_n 0, 1, 3, 0, 0, 0, 0, 0, 0), (11, .iload_n 1, 1, 2, 0, 0, 0, 0, 0, 0), (12, .putfield 330, 3, 15, 187, 0, 0, 9, 39, 0), (15, .aload_n 0, 1, 3, 0, 0, 0, 0, 0, 0), (16, .iload_n 2, 1, 2, 0, 0, 0, 0, 0, 0), (17, .putfield 342, 3, 15, 189, 0, 0, 9, 40, 0)]), (43, [(20, .aload_n 0, 1, 3, 0, 0, 0, 0, 0, 0), (21, .iload_n 1, 1, 2, 0, 0, 0, 0, 0, 0), (22, .aload_n 0, 1, 3, 0, 0, 0, 0, 0, 0), (23, .getfield 91, 3, 14, 164, 0, 0, 9, 43, 0), (26, .if_icmp .ne 10, 3, 12, 0, 0, 0, 0, 0, 0), (29, .aload_n 0, 1, 3, 0, 0, 0, 0, 0, 0), (30, .getfield 398, 3, 14, 201, 0, 0, 9, 44, 0), (33, .goto 21, 3, 0, 0, 0, 0, 0, 0, 0), (36, .aload_n 0, 1, 3, 0, 0, 0, 0, 0, 0), (37, .getfield 42, 3, 14, 148, 0, 0, 9, 18, 3), (40, .bipush 6, 2, 0, 0, 0, 0, 0, 0, 0), (42, .aload_n 0, 1, 3, 0, 0, 0, 0, 0, 0)]), (65, [(43, .getfield 253, 3, 14, 184, 0, 0, 9, 33, 0), (46, .imul, 1, 7, 0, 0, 0, 0, 0, 0), (47, .aload_n 0, 1, 3, 0, 0, 0, 0, 0, 0), (48, .iload_n 1, 1, 2, 0, 0, 0, 0, 0, 0), (49, .invokevirtual 389, 3, 23, 266, 0, 0, 192, 0, 1), (52, .iadd, 1, 7, 0, 0, 0, 0, 0, 0), (53, .iaload, 1, 22, 0, 0, 0, 0, 0, 0), (54, .putfield 336, 3, 15, 188, 0, 0, 9, 41, 0), (57, .aload_n 0, 1, 3, 0, 0, 0, 0, 0, 0), (58, .getfield 39, 3, 14, 147, 0, 0, 9, 17, 3), (61, .aload_n 0, 1, 3, 0, 0, 0, 0, 0, 0), (62, .getfield 253, 3, 14, 184, 0, 0, 9, 33, 0)]), (89, [(65, .iaload, 1, 22, 0, 0, 0, 0, 0, 0), (66, .iconst 0, 1, 0, 0, 0, 0, 0, 0, 0), (67, .invokestatic 259, 3, 23, 273, 0, 0, 166, 1, 2), (70, .ifCond .eq 18, 3, 12, 0, 0, 0, 0, 0, 0), (73, .aload_n 0, 1, 3, 0, 0, 0, 0, 0, 0), (74, .invokevirtual 401, 3, 23, 290, 0, 0, 174, 0, 0), (77, .ifCond .eq 7, 3, 12, 0, 0, 0, 0, 0, 0), (80, .iconst 1, 1, 0, 0, 0, 0, 0, 0, 0), (81, .goto 24, 3, 0, 0, 0, 0, 0, 0, 0), (84, .iconst 0, 1, 0, 0, 0, 0, 0, 0, 0), (85, .goto 20, 3, 0, 0, 0, 0, 0, 0, 0), (88, .aload_n 0, 1, 3, 0, 0, 0, 0, 0, 0)]), (106, [(89, .iload_n 1, 1, 2, 0, 0, 0, 0, 0, 0), (90, .invokevirtual 333, 3, 23, 253, 0, 0, 202, 0, 1), (93, .aload_n 0, 1, 3, 0, 0, 0, 0, 0, 0), (94, .getfield 336, 3, 14, 188, 0, 0, 9, 41, 0), (97, .if_icmp .le 7, 3, 12, 0, 0, 0, 0, 0, 0), (100, .iconst 1, 1, 0, 0, 0, 0, 0, 0, 0), (101, .goto 4, 3, 0, 0, 0, 0, 0, 0, 0), (104, .iconst 0, 1, 0, 0, 0, 0, 0, 0, 0), (105, .ireturn, 1, 21, 0, 0, 0, 0, 0, 0)])]
def ee_me216 : ee_me := (9, ⟨"PepperTablesModel", "isLetOut", "(II)Z"⟩, prog_11_method_62_code, 3, (some .boolean), ee_B216, 0, 0)
set_option maxRecDepth 100000 in
theorem ee_me216ok : ee_Mb ee_me216 = true := by decide +kernel
/- 217: PepperTablesModel.isLetter(I)Z -/
def ee_B217 : List (Nat × List ee_en) := [(18, [(0, .iload_n 0, 1, 2, 0, 0, 0, 0, 0, 0), (1, .bipush 97, 2, 0, 0, 0, 0, 0, 0, 0), (3, .if_icmp .lt 13, 3, 12, 0, 0, 0, 0, 0, 0), (6, .iload_n 0, 1, 2, 0, 0, 0, 0, 0, 0), (7, .bipush 122, 2, 0, 0, 0, 0, 0, 0, 0), (9, .if_icmp .gt 7, 3, 12, 0, 0, 0, 0, 0, 0), (12, .iconst 1, 1, 0, 0, 0, 0, 0, 0, 0), (13, .goto 4, 3, 0, 0, 0, 0, 0, 0, 0), (16, .iconst 0, 1, 0, 0, 0, 0, 0, 0, 0), (17, .ireturn, 1, 21, 0, 0, 0, 0, 0, 0)])]
def ee_me217 : ee_me := (9, ⟨"PepperTablesModel", "isLetter", "(I)Z"⟩, prog_11_method_3_code, 1, (some .boolean), ee_B217, 0, 0)
set_option maxRecDepth 100000 in
theorem ee_me217ok : ee_Mb ee_me217 = true := by decide +kernel
/- 218: PepperTablesModel.isLine(II)Z -/
def ee_B218 : List (Nat × List ee_en) := [(19, [(0, .iconst 0, 1, 0, 0, 0, 0, 0, 0, 0), (1, .istore_n 3, 1, 4, 0, 0, 0, 0, 0, 0), (2, .iconst 0, 1, 0, 0, 0, 0, 0, 0, 0), (3, .istore 4, 2, 4, 0, 0, 0, 0, 0, 0), (5, .iload 4, 2, 2, 0, 0, 0, 0, 0, 0), (7, .iload_n 2, 1, 2, 0, 0, 0, 0, 0, 0), (8, .if_icmp .ge 61, 3, 12, 0, 0, 0, 0, 0, 0), (11, .aload_n 0, 1, 3, 0, 0, 0, 0, 0, 0), (12, .iload_n 1, 1, 2, 0, 0, 0, 0, 0, 0), (13, .iload_n 2, 1, 2, 0, 0, 0, 0, 0, 0), (14, .iload 4, 2, 2, 0, 0, 0, 0, 0, 0), (16, .invokevirtual 470, 3, 23, 291, 0, 0, 207, 0, 3)]), (41, [(19, .istore 5, 2, 4, 0, 0, 0, 0, 0, 0), (21, .iload_n 3, 1, 2, 0, 0, 0, 0, 0, 0), (22, .iload 5, 2, 2, 0, 0, 0, 0, 0, 0), (24, .invokestatic 259, 3, 23, 273, 0, 0, 166, 1, 2), (27, .ifCond .ne 27, 3, 12, 0, 0, 0, 0, 0, 0), (30, .iload 4, 2, 2, 0, 0, 0, 0, 0, 0), (32, .ifCond .le 24, 3, 12, 0, 0, 0, 0, 0, 0), (35, .aload_n 0, 1, 3, 0, 0, 0, 0, 0, 0), (36, .aload_n 0, 1, 3, 0, 0, 0, 0, 0, 0), (37, .iload_n 1, 1, 2, 0, 0, 0, 0, 0, 0), (38, .iload_n 2, 1, 2, 0, 0, 0, 0, 0, 0), (39, .iload 4, 2, 2, 0, 0, 0, 0, 0, 0)]), (61, [(41, .iconst 1, 1, 0, 0, 0, 0, 0, 0, 0), (42, .isub, 1, 7, 0, 0, 0, 0, 0, 0), (43, .invokevirtual 470, 3, 23, 291, 0, 0, 207, 0, 3), (46, .iload 5, 2, 2, 0, 0, 0, 0, 0, 0), (48, .invokevirtual 473, 3, 23, 292, 0, 0, 179, 0, 2), (51, .ifCond .ne 5, 3, 12, 0, 0, 0, 0, 0, 0), (54, .iconst 0, 1, 0, 0, 0, 0, 0, 0, 0), (55, .ireturn, 1, 21, 0, 0, 0, 0, 0, 0), (56, .iload_n 3, 1, 2, 0, 0, 0, 0, 0, 0), (57, .iconst 1, 1, 0, 0, 0, 0, 0, 0, 0), (58, .iload 5, 2, 2, 0, 0, 0, 0, 0, 0), (60, .ishl, 1, 7, 0, 0, 0, 0, 0, 0)]), (71, [(61, .ior, 1, 7, 0, 0, 0, 0, 0, 0), (62, .istore_n 3, 1, 4, 0, 0, 0, 0, 0, 0), (63, .iinc 4 1, 3, 6, 0, 0, 0, 0, 0, 0), (66, .goto (-61), 3, 0, 0, 0, 0, 0, 0, 0), (69, .iconst 1, 1, 0, 0, 0, 0, 0, 0, 0), (70, .ireturn, 1, 21, 0, 0, 0, 0, 0, 0)])]
def ee_me218 : ee_me := (9, ⟨"PepperTablesModel", "isLine", "(II)Z"⟩, prog_11_method_117_code, 6, (some .boolean), ee_B218, 0, 0)
set_option maxRecDepth 100000 in
theorem ee_me218ok : ee_Mb ee_me218 = true := by decide +kernel
/- 219: PepperTablesModel.isPerson(I)Z -/
def ee_B219 : List (Nat × List ee_en) := [(12, [(0, .iload_n 1, 1, 2, 0, 0, 0, 0, 0, 0), (1, .iconst 0, 1, 0, 0, 0, 0, 0, 0, 0), (2, .aload_n 0, 1, 3, 0, 0, 0, 0, 0, 0), (3, .invokevirtual 358, 3, 23, 236, 0, 0, 190, 0, 0), (6, .iconst 1, 1, 0, 0, 0, 0, 0, 0, 0), (7, .isub, 1, 7, 0, 0, 0, 0, 0, 0), (8, .invokestatic 361, 3, 23, 250, 0, 0, 214, 1, 3), (11, .ireturn, 1, 21, 0, 0, 0, 0, 0, 0)])]
def ee_me219 : ee_me := (9, ⟨"PepperTablesModel", "isPerson", "(I)Z"⟩, prog_11_method_47_code, 2, (some .boolean), ee_B219, 0, 0)
set_option maxRecDepth 100000 in
theorem ee_me219ok : ee_Mb ee_me219 = true := by decide +kernel
/- 220: PepperTablesModel.isSack(I)Z -/
def ee_B220 : List (Nat × List ee_en) := [(12, [(0, .iload_n 1, 1, 2, 0, 0, 0, 0, 0, 0), (1, .iconst 0, 1, 0, 0, 0, 0, 0, 0, 0), (2, .aload_n 0, 1, 3, 0, 0, 0, 0, 0, 0), (3, .invokevirtual 365, 3, 23, 237, 0, 0, 164, 0, 0), (6, .iconst 1, 1, 0, 0, 0, 0, 0, 0, 0), (7, .isub, 1, 7, 0, 0, 0, 0, 0, 0), (8, .invokestatic 361, 3, 23, 250, 0, 0, 214, 1, 3), (11, .ireturn, 1, 21, 0, 0, 0, 0, 0, 0)])]
def ee_me220 : ee_me := (9, ⟨"PepperTablesModel", "isSack", "(I)Z"⟩, prog_11_method_48_code, 2, (some .boolean), ee_B220, 0, 0)
set_option maxRecDepth 100000 in
theorem ee_me220ok : ee_Mb ee_me220 = true := by decide +kernel
/- 221: PepperTablesModel.isSign(I)Z -/
def ee_B221 : List (Nat × List ee_en) := [(24, [(0, .iload_n 0, 1, 2, 0, 0, 0, 0, 0, 0), (1, .bipush 59, 2, 0, 0, 0, 0, 0, 0, 0), (3, .if_icmp .eq 63, 3, 12, 0, 0, 0, 0, 0, 0), (6, .iload_n 0, 1, 2, 0, 0, 0, 0, 0, 0), (7, .bipush 40, 2, 0, 0, 0, 0, 0, 0, 0), (9, .if_icmp .eq 57, 3, 12, 0, 0, 0, 0, 0, 0), (12, .iload_n 0, 1, 2, 0, 0, 0, 0, 0, 0), (13, .bipush 41, 2, 0, 0, 0, 0, 0, 0, 0), (15, .if_icmp .eq 51, 3, 12, 0, 0, 0, 0, 0, 0), (18, .iload_n 0, 1, 2, 0, 0, 0, 0, 0, 0), (19, .bipush 60, 2, 0, 0, 0, 0, 0, 0, 0), (21, .if_icmp .eq 45, 3, 12, 0, 0, 0, 0, 0, 0)]), (48, [(24, .iload_n 0, 1, 2, 0, 0, 0, 0, 0, 0), (25, .bipush 62, 2, 0, 0, 0, 0, 0, 0, 0), (27, .if_icmp .eq 39, 3, 12, 0, 0, 0, 0, 0, 0), (30, .iload_n 0, 1, 2, 0, 0, 0, 0, 0, 0), (31, .bipush 61, 2, 0, 0, 0, 0, 0, 0, 0), (33, .if_icmp .eq 33, 3, 12, 0, 0, 0, 0, 0, 0), (36, .iload_n 0, 1, 2, 0, 0, 0, 0, 0, 0), (37, .bipush 43, 2, 0, 0, 0, 0, 0, 0, 0), (39, .if_icmp .eq 27, 3, 12, 0, 0, 0, 0, 0, 0), (42, .iload_n 0, 1, 2, 0, 0, 0, 0, 0, 0), (43, .bipush 45, 2, 0, 0, 0, 0, 0, 0, 0), (45, .if_icmp .eq 21, 3, 12, 0, 0, 0, 0, 0, 0)]), (71, [(48, .iload_n 0, 1, 2, 0, 0, 0, 0, 0, 0), (49, .bipush 42, 2, 0, 0, 0, 0, 0, 0, 0), (51, .if_icmp .eq 15, 3, 12, 0, 0, 0, 0, 0, 0), (54, .iload_n 0, 1, 2, 0, 0, 0, 0, 0, 0), (55, .bipush 47, 2, 0, 0, 0, 0, 0, 0, 0), (57, .if_icmp .eq 9, 3, 12, 0, 0, 0, 0, 0, 0), (60, .iload_n 0, 1, 2, 0, 0, 0, 0, 0, 0), (61, .bipush 37, 2, 0, 0, 0, 0, 0, 0, 0), (63, .if_icmp .ne 7, 3, 12, 0, 0, 0, 0, 0, 0), (66, .iconst 1, 1, 0, 0, 0, 0, 0, 0, 0), (67, .goto 4, 3, 0, 0, 0, 0, 0, 0, 0), (70, .iconst 0, 1, 0, 0, 0, 0, 0, 0, 0)]), (72, [(71, .ireturn, 1, 21, 0, 0, 0, 0, 0, 0)])]
def ee_me221 : ee_me := (9, ⟨"PepperTablesModel", "isSign", "(I)Z"⟩, prog_11_method_8_code, 1, (some .boolean), ee_B221, 0, 0)
set_option maxRecDepth 100000 in
theorem ee_me221ok : ee_Mb ee_me221 = true := by decide +kernel
/- 222: PepperTablesModel.isSignHere(I)Z -/
def ee_B222 : List (Nat × List ee_en) := [(24, [(0, .aload_n 0, 1, 3, 0, 0, 0, 0, 0, 0), (1, .getfield 195, 3, 14, 196, 0, 0, 9, 8, 0), (4, .iconst 5, 1, 0, 0, 0, 0, 0, 0, 0), (5, .if_icmp .ne 19, 3, 12, 0, 0, 0, 0, 0, 0), (8, .aload_n 0, 1, 3, 0, 0, 0, 0, 0, 0), (9, .aload_n 0, 1, 3, 0, 0, 0, 0, 0, 0), (10, .getfield 188, 3, 14, 192, 0, 0, 9, 6, 0), (13, .invokevirtual 191, 3, 23, 260, 0, 0, 271, 0, 1), (16, .iload_n 1, 1, 2, 0, 0, 0, 0, 0, 0), (17, .if_icmp .ne 7, 3, 12, 0, 0, 0, 0, 0, 0), (20, .iconst 1, 1, 0, 0, 0, 0, 0, 0, 0), (21, .goto 4, 3, 0, 0, 0, 0, 0, 0, 0)]), (26, [(24, .iconst 0, 1, 0, 0, 0, 0, 0, 0, 0), (25, .ireturn, 1, 21, 0, 0, 0, 0, 0, 0)])]
def ee_me222 : ee_me := (9, ⟨"PepperTablesModel", "isSignHere", "(I)Z"⟩, prog_11_method_10_code, 2, (some .boolean), ee_B222, 0, 0)
set_option maxRecDepth 100000 in
theorem ee_me222ok : ee_Mb ee_me222 = true := by decide +kernel
/- 223: PepperTablesModel.isStill(I)Z -/
def ee_B223 : List (Nat × List ee_en) := [(19, [(0, .aload_n 0, 1, 3, 0, 0, 0, 0, 0, 0), (1, .getfield 88, 3, 14, 163, 0, 0, 9, 42, 3), (4, .iconst 1, 1, 0, 0, 0, 0, 0, 0, 0), (5, .iaload, 1, 22, 0, 0, 0, 0, 0, 0), (6, .iload_n 1, 1, 2, 0, 0, 0, 0, 0, 0), (7, .invokestatic 259, 3, 23, 273, 0, 0, 166, 1, 2), (10, .ifCond .ne 7, 3, 12, 0, 0, 0, 0, 0, 0), (13, .iconst 1, 1, 0, 0, 0, 0, 0, 0, 0), (14, .goto 4, 3, 0, 0, 0, 0, 0, 0, 0), (17, .iconst 0, 1, 0, 0, 0, 0, 0, 0, 0), (18, .ireturn, 1, 21, 0, 0, 0, 0, 0, 0)])]
def ee_me223 : ee_me := (9, ⟨"PepperTablesModel", "isStill", "(I)Z"⟩, prog_11_method_55_code, 2, (some .boolean), ee_B223, 0, 0)
set_option maxRecDepth 100000 in
theorem ee_me223ok : ee_Mb ee_me223 = true := by decide +kernel
/- 224: PepperTablesModel.isThing(I)Z -/
def ee_B224 : List (Nat × List ee_en) := [(12, [(0, .iload_n 1, 1, 2, 0, 0, 0, 0, 0, 0), (1, .iconst 0, 1, 0, 0, 0, 0, 0, 0, 0), (2, .aload_n 0, 1, 3, 0, 0, 0, 0, 0, 0), (3, .invokevirtual 368, 3, 23, 235, 0, 0, 238, 0, 0), (6, .iconst 1, 1, 0, 0, 0, 0, 0, 0, 0), (7, .isub, 1, 7, 0, 0, 0, 0, 0, 0), (8, .invokestatic 361, 3, 23, 250, 0, 0, 214, 1, 3), (11, .ireturn, 1, 21, 0, 0, 0, 0, 0, 0)])]
def ee_me224 : ee_me := (9, ⟨"PepperTablesModel", "isThing", "(I)Z"⟩, prog_11_method_49_code, 2, (some .boolean), ee_B224, 0, 0)
set_option maxRecDepth 100000 in
theorem ee_me224ok : ee_Mb ee_me224 = true := by decide +kernel
/- 225: PepperTablesModel.isWord(J)Z -/
def ee_B225 : List (Nat × List ee_en) := [(22, [(0, .aload_n 0, 1, 3, 0, 0, 0, 0, 0, 0), (1, .getfield 195, 3, 14, 196, 0, 0, 9, 8, 0), (4, .iconst 3, 1, 0, 0, 0, 0, 0, 0, 0), (5, .if_icmp .ne 16, 3, 12, 0, 0, 0, 0, 0, 0), (8, .aload_n 0, 1, 3, 0, 0, 0, 0, 0, 0), (9, .getfield 202, 3, 14, 197, 0, 0, 9, 10, 2), (12, .lload_n 1, 1, 3, 0, 0, 0, 0, 0, 0), (13, .lcmp, 1, 9, 0, 0, 0, 0, 0, 0), (14, .ifCond .ne 7, 3, 12, 0, 0, 0, 0, 0, 0), (17, .iconst 1, 1, 0, 0, 0, 0, 0, 0, 0), (18, .goto 4, 3, 0, 0, 0, 0, 0, 0, 0), (21, .iconst 0, 1, 0, 0, 0, 0, 0, 0, 0)]), (23, [(22, .ireturn, 1, 21, 0, 0, 0, 0, 0, 0)])]
def ee_me225 : ee_me := (9, ⟨"PepperTablesModel", "isWord", "(J)Z"⟩, prog_11_method_11_code, 3, (some .boolean), ee_B225, 0, 0)
set_option maxRecDepth 100000 in
theorem ee_me225ok : ee_Mb ee_me225 = true := by decide +kernel
/- 226: PepperTablesModel.keepAct()V -/
def ee_B226 : List (Nat × List ee_en) := [(23, [(0, .aload_n 0, 1, 3, 0, 0, 0, 0, 0, 0), (1, .getfield 374, 3, 14, 179, 0, 0, 9, 46, 0), (4, .bipush 40, 2, 0, 0, 0, 0, 0, 0, 0), (6, .if_icmp .ne 43, 3, 12, 0, 0, 0, 0, 0, 0), (9, .iconst 0, 1, 0, 0, 0, 0, 0, 0, 0), (10, .istore_n 1, 1, 4, 0, 0, 0, 0, 0, 0), (11, .iload_n 1, 1, 2, 0, 0, 0, 0, 0, 0), (12, .sipush 760, 3, 0, 0, 0, 0, 0, 0, 0), (15, .if_icmp .ge 24, 3, 12, 0, 0, 0, 0, 0, 0), (18, .aload_n 0, 1, 3, 0, 0, 0, 0, 0, 0), (19, .getfield 94, 3, 14, 165, 0, 0, 9, 45, 3), (22, .iload_n 1, 1, 2, 0, 0, 0, 0, 0, 0)]), (44, [(23, .aload_n 0, 1, 3, 0, 0, 0, 0, 0, 0), (24, .getfield 94, 3, 14, 165, 0, 0, 9, 45, 3), (27, .iload_n 1, 1, 2, 0, 0, 0, 0, 0, 0), (28, .bipush 19, 2, 0, 0, 0, 0, 0, 0, 0), (30, .iadd, 1, 7, 0, 0, 0, 0, 0, 0), (31, .iaload, 1, 22, 0, 0, 0, 0, 0, 0), (32, .iastore, 1, 17, 0, 0, 0, 0, 0, 0), (33, .iinc 1 1, 3, 6, 0, 0, 0, 0, 0, 0), (36, .goto (-25), 3, 0, 0, 0, 0, 0, 0, 0), (39, .aload_n 0, 1, 3, 0, 0, 0, 0, 0, 0), (40, .dup, 1, 11, 0, 0, 0, 0, 0, 0), (41, .getfield 374, 3, 14, 179, 0, 0, 9, 46, 0)]), (64, [(44, .iconst 1, 1, 0, 0, 0, 0, 0, 0, 0), (45, .isub, 1, 7, 0, 0, 0, 0, 0, 0), (46, .putfield 374, 3, 15, 179, 0, 0, 9, 46, 0), (49, .iconst 0, 1, 0, 0, 0, 0, 0, 0, 0), (50, .istore_n 1, 1, 4, 0, 0, 0, 0, 0, 0), (51, .iload_n 1, 1, 2, 0, 0, 0, 0, 0, 0), (52, .bipush 19, 2, 0, 0, 0, 0, 0, 0, 0), (54, .if_icmp .ge 29, 3, 12, 0, 0, 0, 0, 0, 0), (57, .aload_n 0, 1, 3, 0, 0, 0, 0, 0, 0), (58, .getfield 94, 3, 14, 165, 0, 0, 9, 45, 3), (61, .bipush 19, 2, 0, 0, 0, 0, 0, 0, 0), (63, .aload_n 0, 1, 3, 0, 0, 0, 0, 0, 0)]), (84, [(64, .getfield 374, 3, 14, 179, 0, 0, 9, 46, 0), (67, .imul, 1, 7, 0, 0, 0, 0, 0, 0), (68, .iload_n 1, 1, 2, 0, 0, 0, 0, 0, 0), (69, .iadd, 1, 7, 0, 0, 0, 0, 0, 0), (70, .aload_n 0, 1, 3, 0, 0, 0, 0, 0, 0), (71, .getfield 88, 3, 14, 163, 0, 0, 9, 42, 3), (74, .iload_n 1, 1, 2, 0, 0, 0, 0, 0, 0), (75, .iaload, 1, 22, 0, 0, 0, 0, 0, 0), (76, .iastore, 1, 17, 0, 0, 0, 0, 0, 0), (77, .iinc 1 1, 3, 6, 0, 0, 0, 0, 0, 0), (80, .goto (-29), 3, 0, 0, 0, 0, 0, 0, 0), (83, .aload_n 0, 1, 3, 0, 0, 0, 0, 0, 0)]), (99, [(84, .dup, 1, 11, 0, 0, 0, 0, 0, 0), (85, .getfield 374, 3, 14, 179, 0, 0, 9, 46, 0), (88, .iconst 1, 1, 0, 0, 0, 0, 0, 0, 0), (89, .iadd, 1, 7, 0, 0, 0, 0, 0, 0), (90, .putfield 374, 3, 15, 179, 0, 0, 9, 46, 0), (93, .aload_n 0, 1, 3, 0, 0, 0, 0, 0, 0), (94, .iconst 0, 1, 0, 0, 0, 0, 0, 0, 0), (95, .putfield 377, 3, 15, 180, 0, 0, 9, 47, 0), (98, .return_, 1, 21, 0, 0, 0, 0, 0, 0)])]
def ee_me226 : ee_me := (9, ⟨"PepperTablesModel", "keepAct", "()V"⟩, prog_11_method_83_code, 2, none, ee_B226, 0, 0)
set_option maxRecDepth 100000 in
theorem ee_me226ok : ee_Mb ee_me226 = true := by decide +kernel
/- 227: PepperTablesModel.keepNow()V -/
def ee_B227 : List (Nat × List ee_en) := [(19, [(0, .iconst 0, 1, 0, 0, 0, 0, 0, 0, 0), (1, .istore_n 1, 1, 4, 0, 0, 0, 0, 0, 0), (2, .iload_n 1, 1, 2, 0, 0, 0, 0, 0, 0), (3, .bipush 19, 2, 0, 0, 0, 0, 0, 0, 0), (5, .if_icmp .ge 21, 3, 12, 0, 0, 0, 0, 0, 0), (8, .aload_n 0, 1, 3, 0, 0, 0, 0, 0, 0), (9, .getfield 97, 3, 14, 166, 0, 0, 9, 48, 3), (12, .iload_n 1, 1, 2, 0, 0, 0, 0, 0, 0), (13, .aload_n 0, 1, 3, 0, 0, 0, 0, 0, 0), (14, .getfield 88, 3, 14, 163, 0, 0, 9, 42, 3), (17, .iload_n 1, 1, 2, 0, 0, 0, 0, 0, 0), (18, .iaload, 1, 22, 0, 0, 0, 0, 0, 0)]), (27, [(19, .iastore, 1, 17, 0, 0, 0, 0, 0, 0), (20, .iinc 1 1, 3, 6, 0, 0, 0, 0, 0, 0), (23, .goto (-21), 3, 0, 0, 0, 0, 0, 0, 0), (26, .return_, 1, 21, 0, 0, 0, 0, 0, 0)])]
def ee_me227 : ee_me := (9, ⟨"PepperTablesModel", "keepNow", "()V"⟩, prog_11_method_93_code, 2, none, ee_B227, 0, 0)
set_option maxRecDepth 100000 in
theorem ee_me227ok : ee_Mb ee_me227 = true := by decide +kernel
/- 228: PepperTablesModel.keeps(II)I -/
def ee_B228 : List (Nat × List ee_en) := [(22, [(0, .aload_n 0, 1, 3, 0, 0, 0, 0, 0, 0), (1, .iload_n 1, 1, 2, 0, 0, 0, 0, 0, 0), (2, .invokevirtual 410, 3, 23, 282, 0, 0, 219, 0, 1), (5, .ifCond .eq 34, 3, 12, 0, 0, 0, 0, 0, 0), (8, .aload_n 0, 1, 3, 0, 0, 0, 0, 0, 0), (9, .iload_n 2, 1, 2, 0, 0, 0, 0, 0, 0), (10, .invokevirtual 410, 3, 23, 282, 0, 0, 219, 0, 1), (13, .ifCond .eq 26, 3, 12, 0, 0, 0, 0, 0, 0), (16, .aload_n 0, 1, 3, 0, 0, 0, 0, 0, 0), (17, .aload_n 0, 1, 3, 0, 0, 0, 0, 0, 0), (18, .iload_n 1, 1, 2, 0, 0, 0, 0, 0, 0), (19, .invokevirtual 413, 3, 23, 267, 0, 0, 170, 0, 1)]), (41, [(22, .aload_n 0, 1, 3, 0, 0, 0, 0, 0, 0), (23, .iload_n 2, 1, 2, 0, 0, 0, 0, 0, 0), (24, .invokevirtual 419, 3, 23, 275, 0, 0, 283, 0, 1), (27, .iand, 1, 7, 0, 0, 0, 0, 0, 0), (28, .aload_n 0, 1, 3, 0, 0, 0, 0, 0, 0), (29, .invokevirtual 416, 3, 23, 238, 0, 0, 229, 0, 0), (32, .iand, 1, 7, 0, 0, 0, 0, 0, 0), (33, .invokevirtual 348, 3, 23, 239, 0, 0, 198, 0, 1), (36, .goto 4, 3, 0, 0, 0, 0, 0, 0, 0), (39, .iconst (-1), 1, 0, 0, 0, 0, 0, 0, 0), (40, .ireturn, 1, 21, 0, 0, 0, 0, 0, 0)])]
def ee_me228 : ee_me := (9, ⟨"PepperTablesModel", "keeps", "(II)I"⟩, prog_11_method_72_code, 3, (some .int), ee_B228, 0, 0)
set_option maxRecDepth 100000 in
theorem ee_me228ok : ee_Mb ee_me228 = true := by decide +kernel
/- 229: PepperTablesModel.keptNow()I -/
def ee_B229 : List (Nat × List ee_en) := [(16, [(0, .iconst 1, 1, 0, 0, 0, 0, 0, 0, 0), (1, .aload_n 0, 1, 3, 0, 0, 0, 0, 0, 0), (2, .invokevirtual 368, 3, 23, 235, 0, 0, 238, 0, 0), (5, .ishl, 1, 7, 0, 0, 0, 0, 0, 0), (6, .iconst 1, 1, 0, 0, 0, 0, 0, 0, 0), (7, .isub, 1, 7, 0, 0, 0, 0, 0, 0), (8, .aload_n 0, 1, 3, 0, 0, 0, 0, 0, 0), (9, .getfield 88, 3, 14, 163, 0, 0, 9, 42, 3), (12, .iconst 1, 1, 0, 0, 0, 0, 0, 0, 0), (13, .iaload, 1, 22, 0, 0, 0, 0, 0, 0), (14, .iconst (-1), 1, 0, 0, 0, 0, 0, 0, 0), (15, .ixor, 1, 7, 0, 0, 0, 0, 0, 0)]), (18, [(16, .iand, 1, 7, 0, 0, 0, 0, 0, 0), (17, .ireturn, 1, 21, 0, 0, 0, 0, 0, 0)])]
def ee_me229 : ee_me := (9, ⟨"PepperTablesModel", "keptNow", "()I"⟩, prog_11_method_58_code, 1, (some .int), ee_B229, 0, 0)
set_option maxRecDepth 100000 in
theorem ee_me229ok : ee_Mb ee_me229 = true := by decide +kernel
/- 230: PepperTablesModel.known(I)I -/
def ee_B230 : List (Nat × List ee_en) := [(24, [(0, .aload_n 0, 1, 3, 0, 0, 0, 0, 0, 0), (1, .invokevirtual 223, 3, 23, 276, 0, 0, 213, 0, 0), (4, .ifCond .ne 5, 3, 12, 0, 0, 0, 0, 0, 0), (7, .iconst 0, 1, 0, 0, 0, 0, 0, 0, 0), (8, .ireturn, 1, 21, 0, 0, 0, 0, 0, 0), (9, .aload_n 0, 1, 3, 0, 0, 0, 0, 0, 0), (10, .getfield 195, 3, 14, 196, 0, 0, 9, 8, 0), (13, .iconst 2, 1, 0, 0, 0, 0, 0, 0, 0), (14, .if_icmp .eq 10, 3, 12, 0, 0, 0, 0, 0, 0), (17, .aload_n 0, 1, 3, 0, 0, 0, 0, 0, 0), (18, .invokevirtual 230, 3, 23, 258, 0, 0, 239, 0, 0), (21, .goto 23, 3, 0, 0, 0, 0, 0, 0, 0)]), (48, [(24, .iload_n 1, 1, 2, 0, 0, 0, 0, 0, 0), (25, .ifCond .ge 15, 3, 12, 0, 0, 0, 0, 0, 0), (28, .aload_n 0, 1, 3, 0, 0, 0, 0, 0, 0), (29, .iconst 5, 1, 0, 0, 0, 0, 0, 0, 0), (30, .aload_n 0, 1, 3, 0, 0, 0, 0, 0, 0), (31, .getfield 188, 3, 14, 192, 0, 0, 9, 6, 0), (34, .invokevirtual 219, 3, 23, 285, 0, 0, 185, 0, 2), (37, .goto 7, 3, 0, 0, 0, 0, 0, 0, 0), (40, .aload_n 0, 1, 3, 0, 0, 0, 0, 0, 0), (41, .invokevirtual 227, 3, 23, 262, 0, 0, 195, 0, 0), (44, .iload_n 1, 1, 2, 0, 0, 0, 0, 0, 0), (45, .ifCond .ge 7, 3, 12, 0, 0, 0, 0, 0, 0)]), (54, [(48, .iconst 0, 1, 0, 0, 0, 0, 0, 0, 0), (49, .goto 4, 3, 0, 0, 0, 0, 0, 0, 0), (52, .iload_n 1, 1, 2, 0, 0, 0, 0, 0, 0), (53, .ireturn, 1, 21, 0, 0, 0, 0, 0, 0)])]
def ee_me230 : ee_me := (9, ⟨"PepperTablesModel", "known", "(I)I"⟩, prog_11_method_24_code, 2, (some .int), ee_B230, 0, 0)
set_option maxRecDepth 100000 in
theorem ee_me230ok : ee_Mb ee_me230 = true := by decide +kernel
/- 231: PepperTablesModel.later(I)I -/
def ee_B231 : List (Nat × List ee_en) := [(24, [(0, .iload_n 1, 1, 2, 0, 0, 0, 0, 0, 0), (1, .iconst 0, 1, 0, 0, 0, 0, 0, 0, 0), (2, .sipush 1000, 3, 0, 0, 0, 0, 0, 0, 0), (5, .invokestatic 361, 3, 23, 250, 0, 0, 214, 1, 3), (8, .ifCond .eq 15, 3, 12, 0, 0, 0, 0, 0, 0), (11, .aload_n 0, 1, 3, 0, 0, 0, 0, 0, 0), (12, .getfield 482, 3, 14, 182, 0, 0, 9, 61, 0), (15, .iload_n 1, 1, 2, 0, 0, 0, 0, 0, 0), (16, .iadd, 1, 7, 0, 0, 0, 0, 0, 0), (17, .ldc_w 485, 3, 1, 1, 0, 100000, 0, 0, 0), (20, .if_icmp .le 5, 3, 12, 0, 0, 0, 0, 0, 0), (23, .iconst (-1), 1, 0, 0, 0, 0, 0, 0, 0)]), (40, [(24, .ireturn, 1, 21, 0, 0, 0, 0, 0, 0), (25, .aload_n 0, 1, 3, 0, 0, 0, 0, 0, 0), (26, .dup, 1, 11, 0, 0, 0, 0, 0, 0), (27, .getfield 482, 3, 14, 182, 0, 0, 9, 61, 0), (30, .iload_n 1, 1, 2, 0, 0, 0, 0, 0, 0), (31, .iadd, 1, 7, 0, 0, 0, 0, 0, 0), (32, .putfield 482, 3, 15, 182, 0, 0, 9, 61, 0), (35, .aload_n 0, 1, 3, 0, 0, 0, 0, 0, 0), (36, .getfield 482, 3, 14, 182, 0, 0, 9, 61, 0), (39, .ireturn, 1, 21, 0, 0, 0, 0, 0, 0)])]
def ee_me231 : ee_me := (9, ⟨"PepperTablesModel", "later", "(I)I"⟩, prog_11_method_124_code, 2, (some .int), ee_B231, 0, 0)
set_option maxRecDepth 100000 in
theorem ee_me231ok : ee_Mb ee_me231 = true := by decide +kernel
end
section
/- 232: PepperTablesModel.law(II)I -/
def ee_B232 : List (Nat × List ee_en) := [(21, [(0, .aload_n 0, 1, 3, 0, 0, 0, 0, 0, 0), (1, .iload_n 1, 1, 2, 0, 0, 0, 0, 0, 0), (2, .invokevirtual 425, 3, 23, 264, 0, 0, 220, 0, 1), (5, .ifCond .eq 13, 3, 12, 0, 0, 0, 0, 0, 0), (8, .iload_n 2, 1, 2, 0, 0, 0, 0, 0, 0), (9, .iconst 0, 1, 0, 0, 0, 0, 0, 0, 0), (10, .bipush 99, 2, 0, 0, 0, 0, 0, 0, 0), (12, .invokestatic 361, 3, 23, 250, 0, 0, 214, 1, 3), (15, .ifCond .ne 5, 3, 12, 0, 0, 0, 0, 0, 0), (18, .iconst (-1), 1, 0, 0, 0, 0, 0, 0, 0), (19, .ireturn, 1, 21, 0, 0, 0, 0, 0, 0), (20, .aload_n 0, 1, 3, 0, 0, 0, 0, 0, 0)]), (39, [(21, .getfield 88, 3, 14, 163, 0, 0, 9, 42, 3), (24, .bipush 12, 2, 0, 0, 0, 0, 0, 0, 0), (26, .iload_n 1, 1, 2, 0, 0, 0, 0, 0, 0), (27, .iadd, 1, 7, 0, 0, 0, 0, 0, 0), (28, .iaload, 1, 22, 0, 0, 0, 0, 0, 0), (29, .istore_n 3, 1, 4, 0, 0, 0, 0, 0, 0), (30, .aload_n 0, 1, 3, 0, 0, 0, 0, 0, 0), (31, .getfield 88, 3, 14, 163, 0, 0, 9, 42, 3), (34, .bipush 12, 2, 0, 0, 0, 0, 0, 0, 0), (36, .iload_n 1, 1, 2, 0, 0, 0, 0, 0, 0), (37, .iadd, 1, 7, 0, 0, 0, 0, 0, 0), (38, .iload_n 2, 1, 2, 0, 0, 0, 0, 0, 0)]), (59, [(39, .iastore, 1, 17, 0, 0, 0, 0, 0, 0), (40, .aload_n 0, 1, 3, 0, 0, 0, 0, 0, 0), (41, .iload_n 1, 1, 2, 0, 0, 0, 0, 0, 0), (42, .invokevirtual 407, 3, 23, 265, 0, 0, 292, 0, 1), (45, .invokestatic 339, 3, 23, 254, 0, 0, 167, 1, 1), (48, .istore 4, 2, 4, 0, 0, 0, 0, 0, 0), (50, .aload_n 0, 1, 3, 0, 0, 0, 0, 0, 0), (51, .getfield 88, 3, 14, 163, 0, 0, 9, 42, 3), (54, .bipush 12, 2, 0, 0, 0, 0, 0, 0, 0), (56, .iload_n 1, 1, 2, 0, 0, 0, 0, 0, 0), (57, .iadd, 1, 7, 0, 0, 0, 0, 0, 0), (58, .iload_n 3, 1, 2, 0, 0, 0, 0, 0, 0)]), (63, [(59, .iastore, 1, 17, 0, 0, 0, 0, 0, 0), (60, .iload 4, 2, 2, 0, 0, 0, 0, 0, 0), (62, .ireturn, 1, 21, 0, 0, 0, 0, 0, 0)])]
def ee_me232 : ee_me := (9, ⟨"PepperTablesModel", "law", "(II)I"⟩, prog_11_method_82_code, 5, (some .int), ee_B232, 0, 0)
set_option maxRecDepth 100000 in
theorem ee_me232ok : ee_Mb ee_me232 = true := by decide +kernel
/- 233: PepperTablesModel.layMany()V -/
def ee_B233 : List (Nat × List ee_en) := [(20, [(0, .aload_n 0, 1, 3, 0, 0, 0, 0, 0, 0), (1, .invokevirtual 458, 3, 23, 242, 0, 0, 227, 0, 0), (4, .iconst 0, 1, 0, 0, 0, 0, 0, 0, 0), (5, .istore_n 1, 1, 4, 0, 0, 0, 0, 0, 0), (6, .iload_n 1, 1, 2, 0, 0, 0, 0, 0, 0), (7, .aload_n 0, 1, 3, 0, 0, 0, 0, 0, 0), (8, .invokevirtual 365, 3, 23, 237, 0, 0, 164, 0, 0), (11, .iconst 1, 1, 0, 0, 0, 0, 0, 0, 0), (12, .iadd, 1, 7, 0, 0, 0, 0, 0, 0), (13, .aload_n 0, 1, 3, 0, 0, 0, 0, 0, 0), (14, .invokevirtual 486, 3, 23, 248, 0, 0, 200, 0, 0), (17, .invokestatic 455, 3, 23, 249, 0, 0, 251, 1, 2)]), (40, [(20, .if_icmp .ge 115, 3, 12, 0, 0, 0, 0, 0, 0), (23, .aload_n 0, 1, 3, 0, 0, 0, 0, 0, 0), (24, .invokevirtual 371, 3, 23, 293, 0, 0, 235, 0, 0), (27, .aload_n 0, 1, 3, 0, 0, 0, 0, 0, 0), (28, .getfield 88, 3, 14, 163, 0, 0, 9, 42, 3), (31, .iconst 0, 1, 0, 0, 0, 0, 0, 0, 0), (32, .iconst 1, 1, 0, 0, 0, 0, 0, 0, 0), (33, .aload_n 0, 1, 3, 0, 0, 0, 0, 0, 0), (34, .invokevirtual 358, 3, 23, 236, 0, 0, 190, 0, 0), (37, .ishl, 1, 7, 0, 0, 0, 0, 0, 0), (38, .iconst 1, 1, 0, 0, 0, 0, 0, 0, 0), (39, .isub, 1, 7, 0, 0, 0, 0, 0, 0)]), (60, [(40, .iastore, 1, 17, 0, 0, 0, 0, 0, 0), (41, .iconst 0, 1, 0, 0, 0, 0, 0, 0, 0), (42, .istore_n 2, 1, 4, 0, 0, 0, 0, 0, 0), (43, .iload_n 2, 1, 2, 0, 0, 0, 0, 0, 0), (44, .aload_n 0, 1, 3, 0, 0, 0, 0, 0, 0), (45, .invokevirtual 486, 3, 23, 248, 0, 0, 200, 0, 0), (48, .if_icmp .ge 47, 3, 12, 0, 0, 0, 0, 0, 0), (51, .aload_n 0, 1, 3, 0, 0, 0, 0, 0, 0), (52, .getfield 88, 3, 14, 163, 0, 0, 9, 42, 3), (55, .iconst 2, 1, 0, 0, 0, 0, 0, 0, 0), (56, .aload_n 0, 1, 3, 0, 0, 0, 0, 0, 0), (57, .invokevirtual 368, 3, 23, 235, 0, 0, 238, 0, 0)]), (78, [(60, .iadd, 1, 7, 0, 0, 0, 0, 0, 0), (61, .iconst 1, 1, 0, 0, 0, 0, 0, 0, 0), (62, .isub, 1, 7, 0, 0, 0, 0, 0, 0), (63, .iload_n 2, 1, 2, 0, 0, 0, 0, 0, 0), (64, .isub, 1, 7, 0, 0, 0, 0, 0, 0), (65, .aload_n 0, 1, 3, 0, 0, 0, 0, 0, 0), (66, .iload_n 1, 1, 2, 0, 0, 0, 0, 0, 0), (67, .iload_n 2, 1, 2, 0, 0, 0, 0, 0, 0), (68, .invokevirtual 489, 3, 23, 294, 0, 0, 265, 0, 2), (71, .aload_n 0, 1, 3, 0, 0, 0, 0, 0, 0), (72, .invokevirtual 365, 3, 23, 237, 0, 0, 164, 0, 0), (75, .if_icmp .ne 7, 3, 12, 0, 0, 0, 0, 0, 0)]), (98, [(78, .iconst (-1), 1, 0, 0, 0, 0, 0, 0, 0), (79, .goto 9, 3, 0, 0, 0, 0, 0, 0, 0), (82, .aload_n 0, 1, 3, 0, 0, 0, 0, 0, 0), (83, .iload_n 1, 1, 2, 0, 0, 0, 0, 0, 0), (84, .iload_n 2, 1, 2, 0, 0, 0, 0, 0, 0), (85, .invokevirtual 489, 3, 23, 294, 0, 0, 265, 0, 2), (88, .iastore, 1, 17, 0, 0, 0, 0, 0, 0), (89, .iinc 2 1, 3, 6, 0, 0, 0, 0, 0, 0), (92, .goto (-49), 3, 0, 0, 0, 0, 0, 0, 0), (95, .iconst 0, 1, 0, 0, 0, 0, 0, 0, 0), (96, .istore_n 2, 1, 4, 0, 0, 0, 0, 0, 0), (97, .iload_n 2, 1, 2, 0, 0, 0, 0, 0, 0)]), (116, [(98, .aload_n 0, 1, 3, 0, 0, 0, 0, 0, 0), (99, .invokevirtual 365, 3, 23, 237, 0, 0, 164, 0, 0), (102, .if_icmp .ge 27, 3, 12, 0, 0, 0, 0, 0, 0), (105, .aload_n 0, 1, 3, 0, 0, 0, 0, 0, 0), (106, .getfield 106, 3, 14, 169, 0, 0, 9, 52, 3), (109, .iconst 5, 1, 0, 0, 0, 0, 0, 0, 0), (110, .iload_n 1, 1, 2, 0, 0, 0, 0, 0, 0), (111, .imul, 1, 7, 0, 0, 0, 0, 0, 0), (112, .iload_n 2, 1, 2, 0, 0, 0, 0, 0, 0), (113, .iadd, 1, 7, 0, 0, 0, 0, 0, 0), (114, .aload_n 0, 1, 3, 0, 0, 0, 0, 0, 0), (115, .iload_n 2, 1, 2, 0, 0, 0, 0, 0, 0)]), (140, [(116, .invokevirtual 407, 3, 23, 265, 0, 0, 292, 0, 1), (119, .invokestatic 339, 3, 23, 254, 0, 0, 167, 1, 1), (122, .iastore, 1, 17, 0, 0, 0, 0, 0, 0), (123, .iinc 2 1, 3, 6, 0, 0, 0, 0, 0, 0), (126, .goto (-29), 3, 0, 0, 0, 0, 0, 0, 0), (129, .iinc 1 1, 3, 6, 0, 0, 0, 0, 0, 0), (132, .goto (-126), 3, 0, 0, 0, 0, 0, 0, 0), (135, .aload_n 0, 1, 3, 0, 0, 0, 0, 0, 0), (136, .invokevirtual 464, 3, 23, 244, 0, 0, 169, 0, 0), (139, .return_, 1, 21, 0, 0, 0, 0, 0, 0)])]
def ee_me233 : ee_me := (9, ⟨"PepperTablesModel", "layMany", "()V"⟩, prog_11_method_127_code, 3, none, ee_B233, 0, 0)
set_option maxRecDepth 100000 in
theorem ee_me233ok : ee_Mb ee_me233 = true := by decide +kernel
/- 234: PepperTablesModel.layRows(I)V -/
def ee_B234 : List (Nat × List ee_en) := [(19, [(0, .aload_n 0, 1, 3, 0, 0, 0, 0, 0, 0), (1, .iconst 0, 1, 0, 0, 0, 0, 0, 0, 0), (2, .putfield 492, 3, 15, 186, 0, 0, 9, 62, 0), (5, .iconst 0, 1, 0, 0, 0, 0, 0, 0, 0), (6, .istore_n 2, 1, 4, 0, 0, 0, 0, 0, 0), (7, .iload_n 2, 1, 2, 0, 0, 0, 0, 0, 0), (8, .bipush 12, 2, 0, 0, 0, 0, 0, 0, 0), (10, .if_icmp .ge 16, 3, 12, 0, 0, 0, 0, 0, 0), (13, .aload_n 0, 1, 3, 0, 0, 0, 0, 0, 0), (14, .getfield 124, 3, 14, 175, 0, 0, 9, 58, 3), (17, .iload_n 2, 1, 2, 0, 0, 0, 0, 0, 0), (18, .iconst 0, 1, 0, 0, 0, 0, 0, 0, 0)]), (41, [(19, .iastore, 1, 17, 0, 0, 0, 0, 0, 0), (20, .iinc 2 1, 3, 6, 0, 0, 0, 0, 0, 0), (23, .goto (-16), 3, 0, 0, 0, 0, 0, 0, 0), (26, .aload_n 0, 1, 3, 0, 0, 0, 0, 0, 0), (27, .invokevirtual 495, 3, 23, 295, 0, 0, 233, 0, 0), (30, .iconst 0, 1, 0, 0, 0, 0, 0, 0, 0), (31, .istore_n 2, 1, 4, 0, 0, 0, 0, 0, 0), (32, .iload_n 2, 1, 2, 0, 0, 0, 0, 0, 0), (33, .aload_n 0, 1, 3, 0, 0, 0, 0, 0, 0), (34, .invokevirtual 498, 3, 23, 296, 0, 0, 159, 0, 0), (37, .if_icmp .ge 67, 3, 12, 0, 0, 0, 0, 0, 0), (40, .aload_n 0, 1, 3, 0, 0, 0, 0, 0, 0)]), (63, [(41, .iload_n 2, 1, 2, 0, 0, 0, 0, 0, 0), (42, .iload_n 1, 1, 2, 0, 0, 0, 0, 0, 0), (43, .invokevirtual 501, 3, 23, 297, 0, 0, 178, 0, 2), (46, .ifCond .ne 6, 3, 12, 0, 0, 0, 0, 0, 0), (49, .goto 49, 3, 0, 0, 0, 0, 0, 0, 0), (52, .aload_n 0, 1, 3, 0, 0, 0, 0, 0, 0), (53, .dup, 1, 11, 0, 0, 0, 0, 0, 0), (54, .getfield 492, 3, 14, 186, 0, 0, 9, 62, 0), (57, .iconst 1, 1, 0, 0, 0, 0, 0, 0, 0), (58, .iadd, 1, 7, 0, 0, 0, 0, 0, 0), (59, .putfield 492, 3, 15, 186, 0, 0, 9, 62, 0), (62, .iconst 0, 1, 0, 0, 0, 0, 0, 0, 0)]), (82, [(63, .istore_n 3, 1, 4, 0, 0, 0, 0, 0, 0), (64, .iload_n 3, 1, 2, 0, 0, 0, 0, 0, 0), (65, .aload_n 0, 1, 3, 0, 0, 0, 0, 0, 0), (66, .invokevirtual 486, 3, 23, 248, 0, 0, 200, 0, 0), (69, .if_icmp .ge 29, 3, 12, 0, 0, 0, 0, 0, 0), (72, .aload_n 0, 1, 3, 0, 0, 0, 0, 0, 0), (73, .getfield 124, 3, 14, 175, 0, 0, 9, 58, 3), (76, .bipush 6, 2, 0, 0, 0, 0, 0, 0, 0), (78, .iload_n 3, 1, 2, 0, 0, 0, 0, 0, 0), (79, .imul, 1, 7, 0, 0, 0, 0, 0, 0), (80, .aload_n 0, 1, 3, 0, 0, 0, 0, 0, 0), (81, .iload_n 2, 1, 2, 0, 0, 0, 0, 0, 0)]), (104, [(82, .iload_n 3, 1, 2, 0, 0, 0, 0, 0, 0), (83, .invokevirtual 489, 3, 23, 294, 0, 0, 265, 0, 2), (86, .iadd, 1, 7, 0, 0, 0, 0, 0, 0), (87, .dup2, 1, 11, 0, 0, 0, 0, 0, 0), (88, .iaload, 1, 22, 0, 0, 0, 0, 0, 0), (89, .iconst 1, 1, 0, 0, 0, 0, 0, 0, 0), (90, .iadd, 1, 7, 0, 0, 0, 0, 0, 0), (91, .iastore, 1, 17, 0, 0, 0, 0, 0, 0), (92, .iinc 3 1, 3, 6, 0, 0, 0, 0, 0, 0), (95, .goto (-31), 3, 0, 0, 0, 0, 0, 0, 0), (98, .iinc 2 1, 3, 6, 0, 0, 0, 0, 0, 0), (101, .goto (-69), 3, 0, 0, 0, 0, 0, 0, 0)]), (105, [(104, .return_, 1, 21, 0, 0, 0, 0, 0, 0)])]
def ee_me234 : ee_me := (9, ⟨"PepperTablesModel", "layRows", "(I)V"⟩, prog_11_method_130_code, 4, none, ee_B234, 0, 0)
set_option maxRecDepth 100000 in
theorem ee_me234ok : ee_Mb ee_me234 = true := by decide +kernel
/- 235: PepperTablesModel.layTold()V -/
def ee_B235 : List (Nat × List ee_en) := [(21, [(0, .iconst 0, 1, 0, 0, 0, 0, 0, 0, 0), (1, .istore_n 1, 1, 4, 0, 0, 0, 0, 0, 0), (2, .iload_n 1, 1, 2, 0, 0, 0, 0, 0, 0), (3, .bipush 19, 2, 0, 0, 0, 0, 0, 0, 0), (5, .if_icmp .ge 16, 3, 12, 0, 0, 0, 0, 0, 0), (8, .aload_n 0, 1, 3, 0, 0, 0, 0, 0, 0), (9, .getfield 88, 3, 14, 163, 0, 0, 9, 42, 3), (12, .iload_n 1, 1, 2, 0, 0, 0, 0, 0, 0), (13, .iconst 0, 1, 0, 0, 0, 0, 0, 0, 0), (14, .iastore, 1, 17, 0, 0, 0, 0, 0, 0), (15, .iinc 1 1, 3, 6, 0, 0, 0, 0, 0, 0), (18, .goto (-16), 3, 0, 0, 0, 0, 0, 0, 0)]), (38, [(21, .iconst 0, 1, 0, 0, 0, 0, 0, 0, 0), (22, .istore_n 1, 1, 4, 0, 0, 0, 0, 0, 0), (23, .iload_n 1, 1, 2, 0, 0, 0, 0, 0, 0), (24, .bipush 10, 2, 0, 0, 0, 0, 0, 0, 0), (26, .if_icmp .ge 43, 3, 12, 0, 0, 0, 0, 0, 0), (29, .aload_n 0, 1, 3, 0, 0, 0, 0, 0, 0), (30, .getfield 88, 3, 14, 163, 0, 0, 9, 42, 3), (33, .iconst 2, 1, 0, 0, 0, 0, 0, 0, 0), (34, .iload_n 1, 1, 2, 0, 0, 0, 0, 0, 0), (35, .iadd, 1, 7, 0, 0, 0, 0, 0, 0), (36, .iload_n 1, 1, 2, 0, 0, 0, 0, 0, 0), (37, .aload_n 0, 1, 3, 0, 0, 0, 0, 0, 0)]), (61, [(38, .invokevirtual 368, 3, 23, 235, 0, 0, 238, 0, 0), (41, .if_icmp .ge 20, 3, 12, 0, 0, 0, 0, 0, 0), (44, .aload_n 0, 1, 3, 0, 0, 0, 0, 0, 0), (45, .getfield 54, 3, 14, 152, 0, 0, 9, 22, 3), (48, .bipush 10, 2, 0, 0, 0, 0, 0, 0, 0), (50, .aload_n 0, 1, 3, 0, 0, 0, 0, 0, 0), (51, .getfield 253, 3, 14, 184, 0, 0, 9, 33, 0), (54, .imul, 1, 7, 0, 0, 0, 0, 0, 0), (55, .iload_n 1, 1, 2, 0, 0, 0, 0, 0, 0), (56, .iadd, 1, 7, 0, 0, 0, 0, 0, 0), (57, .iaload, 1, 22, 0, 0, 0, 0, 0, 0), (58, .goto 4, 3, 0, 0, 0, 0, 0, 0, 0)]), (84, [(61, .iconst (-1), 1, 0, 0, 0, 0, 0, 0, 0), (62, .iastore, 1, 17, 0, 0, 0, 0, 0, 0), (63, .iinc 1 1, 3, 6, 0, 0, 0, 0, 0, 0), (66, .goto (-43), 3, 0, 0, 0, 0, 0, 0, 0), (69, .aload_n 0, 1, 3, 0, 0, 0, 0, 0, 0), (70, .getfield 88, 3, 14, 163, 0, 0, 9, 42, 3), (73, .bipush 18, 2, 0, 0, 0, 0, 0, 0, 0), (75, .aload_n 0, 1, 3, 0, 0, 0, 0, 0, 0), (76, .getfield 36, 3, 14, 146, 0, 0, 9, 16, 3), (79, .aload_n 0, 1, 3, 0, 0, 0, 0, 0, 0), (80, .getfield 253, 3, 14, 184, 0, 0, 9, 33, 0), (83, .iaload, 1, 22, 0, 0, 0, 0, 0, 0)]), (86, [(84, .iastore, 1, 17, 0, 0, 0, 0, 0, 0), (85, .return_, 1, 21, 0, 0, 0, 0, 0, 0)])]
def ee_me235 : ee_me := (9, ⟨"PepperTablesModel", "layTold", "()V"⟩, prog_11_method_54_code, 2, none, ee_B235, 0, 0)
set_option maxRecDepth 100000 in
theorem ee_me235ok : ee_Mb ee_me235 = true := by decide +kernel
/- 236: PepperTablesModel.lies(I)I -/
def ee_B236 : List (Nat × List ee_en) := [(20, [(0, .iload_n 1, 1, 2, 0, 0, 0, 0, 0, 0), (1, .iconst 0, 1, 0, 0, 0, 0, 0, 0, 0), (2, .aload_n 0, 1, 3, 0, 0, 0, 0, 0, 0), (3, .getfield 383, 3, 14, 185, 0, 0, 9, 50, 0), (6, .iconst 1, 1, 0, 0, 0, 0, 0, 0, 0), (7, .isub, 1, 7, 0, 0, 0, 0, 0, 0), (8, .invokestatic 361, 3, 23, 250, 0, 0, 214, 1, 3), (11, .ifCond .eq 12, 3, 12, 0, 0, 0, 0, 0, 0), (14, .aload_n 0, 1, 3, 0, 0, 0, 0, 0, 0), (15, .getfield 100, 3, 14, 167, 0, 0, 9, 49, 3), (18, .iload_n 1, 1, 2, 0, 0, 0, 0, 0, 0), (19, .iaload, 1, 22, 0, 0, 0, 0, 0, 0)]), (25, [(20, .goto 4, 3, 0, 0, 0, 0, 0, 0, 0), (23, .iconst (-1), 1, 0, 0, 0, 0, 0, 0, 0), (24, .ireturn, 1, 21, 0, 0, 0, 0, 0, 0)])]
def ee_me236 : ee_me := (9, ⟨"PepperTablesModel", "lies", "(I)I"⟩, prog_11_method_92_code, 2, (some .int), ee_B236, 0, 0)
set_option maxRecDepth 100000 in
theorem ee_me236ok : ee_Mb ee_me236 = true := by decide +kernel
/- 237: PepperTablesModel.line()I -/
def ee_B237 : List (Nat × List ee_en) := [(20, [(0, .aload_n 0, 1, 3, 0, 0, 0, 0, 0, 0), (1, .invokevirtual 358, 3, 23, 236, 0, 0, 190, 0, 0), (4, .istore_n 1, 1, 4, 0, 0, 0, 0, 0, 0), (5, .iload_n 1, 1, 2, 0, 0, 0, 0, 0, 0), (6, .ifCond .le 74, 3, 12, 0, 0, 0, 0, 0, 0), (9, .iconst 0, 1, 0, 0, 0, 0, 0, 0, 0), (10, .istore_n 2, 1, 4, 0, 0, 0, 0, 0, 0), (11, .iload_n 2, 1, 2, 0, 0, 0, 0, 0, 0), (12, .aload_n 0, 1, 3, 0, 0, 0, 0, 0, 0), (13, .invokevirtual 358, 3, 23, 236, 0, 0, 190, 0, 0), (16, .iload_n 1, 1, 2, 0, 0, 0, 0, 0, 0), (17, .invokestatic 455, 3, 23, 249, 0, 0, 251, 1, 2)]), (42, [(20, .if_icmp .ge 54, 3, 12, 0, 0, 0, 0, 0, 0), (23, .aload_n 0, 1, 3, 0, 0, 0, 0, 0, 0), (24, .iload_n 2, 1, 2, 0, 0, 0, 0, 0, 0), (25, .iload_n 1, 1, 2, 0, 0, 0, 0, 0, 0), (26, .invokevirtual 476, 3, 23, 298, 0, 0, 218, 0, 2), (29, .ifCond .ne 6, 3, 12, 0, 0, 0, 0, 0, 0), (32, .goto 36, 3, 0, 0, 0, 0, 0, 0, 0), (35, .iconst 0, 1, 0, 0, 0, 0, 0, 0, 0), (36, .istore_n 3, 1, 4, 0, 0, 0, 0, 0, 0), (37, .iload_n 3, 1, 2, 0, 0, 0, 0, 0, 0), (38, .iload_n 1, 1, 2, 0, 0, 0, 0, 0, 0), (39, .if_icmp .ge 22, 3, 12, 0, 0, 0, 0, 0, 0)]), (62, [(42, .aload_n 0, 1, 3, 0, 0, 0, 0, 0, 0), (43, .getfield 100, 3, 14, 167, 0, 0, 9, 49, 3), (46, .iload_n 3, 1, 2, 0, 0, 0, 0, 0, 0), (47, .aload_n 0, 1, 3, 0, 0, 0, 0, 0, 0), (48, .iload_n 2, 1, 2, 0, 0, 0, 0, 0, 0), (49, .iload_n 1, 1, 2, 0, 0, 0, 0, 0, 0), (50, .iload_n 3, 1, 2, 0, 0, 0, 0, 0, 0), (51, .invokevirtual 470, 3, 23, 291, 0, 0, 207, 0, 3), (54, .iastore, 1, 17, 0, 0, 0, 0, 0, 0), (55, .iinc 3 1, 3, 6, 0, 0, 0, 0, 0, 0), (58, .goto (-21), 3, 0, 0, 0, 0, 0, 0, 0), (61, .aload_n 0, 1, 3, 0, 0, 0, 0, 0, 0)]), (86, [(62, .iload_n 1, 1, 2, 0, 0, 0, 0, 0, 0), (63, .putfield 383, 3, 15, 185, 0, 0, 9, 50, 0), (66, .iload_n 1, 1, 2, 0, 0, 0, 0, 0, 0), (67, .ireturn, 1, 21, 0, 0, 0, 0, 0, 0), (68, .iinc 2 1, 3, 6, 0, 0, 0, 0, 0, 0), (71, .goto (-60), 3, 0, 0, 0, 0, 0, 0, 0), (74, .iinc 1 (-1), 3, 6, 0, 0, 0, 0, 0, 0), (77, .goto (-72), 3, 0, 0, 0, 0, 0, 0, 0), (80, .aload_n 0, 1, 3, 0, 0, 0, 0, 0, 0), (81, .iconst 0, 1, 0, 0, 0, 0, 0, 0, 0), (82, .putfield 383, 3, 15, 185, 0, 0, 9, 50, 0), (85, .iconst 0, 1, 0, 0, 0, 0, 0, 0, 0)]), (87, [(86, .ireturn, 1, 21, 0, 0, 0, 0, 0, 0)])]
def ee_me237 : ee_me := (9, ⟨"PepperTablesModel", "line", "()I"⟩, prog_11_method_118_code, 4, (some .int), ee_B237, 0, 0)
set_option maxRecDepth 100000 in
theorem ee_me237ok : ee_Mb ee_me237 = true := by decide +kernel
/- 238: PepperTablesModel.many()I -/
def ee_B238 : List (Nat × List ee_en) := [(10, [(0, .aload_n 0, 1, 3, 0, 0, 0, 0, 0, 0), (1, .getfield 27, 3, 14, 143, 0, 0, 9, 13, 3), (4, .aload_n 0, 1, 3, 0, 0, 0, 0, 0, 0), (5, .getfield 253, 3, 14, 184, 0, 0, 9, 33, 0), (8, .iaload, 1, 22, 0, 0, 0, 0, 0, 0), (9, .ireturn, 1, 21, 0, 0, 0, 0, 0, 0)])]
def ee_me238 : ee_me := (9, ⟨"PepperTablesModel", "many", "()I"⟩, prog_11_method_46_code, 1, (some .int), ee_B238, 0, 0)
set_option maxRecDepth 100000 in
theorem ee_me238ok : ee_Mb ee_me238 = true := by decide +kernel
/- 239: PepperTablesModel.misplaced()V -/
def ee_B239 : List (Nat × List ee_en) := [(22, [(0, .aload_n 0, 1, 3, 0, 0, 0, 0, 0, 0), (1, .aload_n 0, 1, 3, 0, 0, 0, 0, 0, 0), (2, .getfield 195, 3, 14, 196, 0, 0, 9, 8, 0), (5, .iconst 1, 1, 0, 0, 0, 0, 0, 0, 0), (6, .if_icmp .ne 7, 3, 12, 0, 0, 0, 0, 0, 0), (9, .iconst 1, 1, 0, 0, 0, 0, 0, 0, 0), (10, .goto 4, 3, 0, 0, 0, 0, 0, 0, 0), (13, .iconst 2, 1, 0, 0, 0, 0, 0, 0, 0), (14, .aload_n 0, 1, 3, 0, 0, 0, 0, 0, 0), (15, .getfield 188, 3, 14, 192, 0, 0, 9, 6, 0), (18, .invokevirtual 219, 3, 23, 285, 0, 0, 185, 0, 2), (21, .return_, 1, 21, 0, 0, 0, 0, 0, 0)])]
def ee_me239 : ee_me := (9, ⟨"PepperTablesModel", "misplaced", "()V"⟩, prog_11_method_12_code, 1, none, ee_B239, 0, 0)
set_option maxRecDepth 100000 in
theorem ee_me239ok : ee_Mb ee_me239 = true := by decide +kernel
/- 240: PepperTablesModel.mostBy(II)I -/
def ee_B240 : List (Nat × List ee_en) := [(21, [(0, .iconst 0, 1, 0, 0, 0, 0, 0, 0, 0), (1, .istore_n 3, 1, 4, 0, 0, 0, 0, 0, 0), (2, .iload_n 3, 1, 2, 0, 0, 0, 0, 0, 0), (3, .bipush 11, 2, 0, 0, 0, 0, 0, 0, 0), (5, .if_icmp .ge 16, 3, 12, 0, 0, 0, 0, 0, 0), (8, .aload_n 0, 1, 3, 0, 0, 0, 0, 0, 0), (9, .getfield 127, 3, 14, 176, 0, 0, 9, 59, 3), (12, .iload_n 3, 1, 2, 0, 0, 0, 0, 0, 0), (13, .iconst 0, 1, 0, 0, 0, 0, 0, 0, 0), (14, .iastore, 1, 17, 0, 0, 0, 0, 0, 0), (15, .iinc 3 1, 3, 6, 0, 0, 0, 0, 0, 0), (18, .goto (-16), 3, 0, 0, 0, 0, 0, 0, 0)]), (42, [(21, .iconst 0, 1, 0, 0, 0, 0, 0, 0, 0), (22, .istore_n 3, 1, 4, 0, 0, 0, 0, 0, 0), (23, .iconst 0, 1, 0, 0, 0, 0, 0, 0, 0), (24, .istore 4, 2, 4, 0, 0, 0, 0, 0, 0), (26, .iload 4, 2, 2, 0, 0, 0, 0, 0, 0), (28, .aload_n 0, 1, 3, 0, 0, 0, 0, 0, 0), (29, .invokevirtual 498, 3, 23, 296, 0, 0, 159, 0, 0), (32, .if_icmp .ge 65, 3, 12, 0, 0, 0, 0, 0, 0), (35, .aload_n 0, 1, 3, 0, 0, 0, 0, 0, 0), (36, .iload 4, 2, 2, 0, 0, 0, 0, 0, 0), (38, .iload_n 2, 1, 2, 0, 0, 0, 0, 0, 0), (39, .invokevirtual 501, 3, 23, 297, 0, 0, 178, 0, 2)]), (62, [(42, .ifCond .ne 6, 3, 12, 0, 0, 0, 0, 0, 0), (45, .goto 46, 3, 0, 0, 0, 0, 0, 0, 0), (48, .aload_n 0, 1, 3, 0, 0, 0, 0, 0, 0), (49, .getfield 106, 3, 14, 169, 0, 0, 9, 52, 3), (52, .iconst 5, 1, 0, 0, 0, 0, 0, 0, 0), (53, .iload 4, 2, 2, 0, 0, 0, 0, 0, 0), (55, .imul, 1, 7, 0, 0, 0, 0, 0, 0), (56, .iload_n 1, 1, 2, 0, 0, 0, 0, 0, 0), (57, .iadd, 1, 7, 0, 0, 0, 0, 0, 0), (58, .iaload, 1, 22, 0, 0, 0, 0, 0, 0), (59, .istore 5, 2, 4, 0, 0, 0, 0, 0, 0), (61, .aload_n 0, 1, 3, 0, 0, 0, 0, 0, 0)]), (80, [(62, .getfield 127, 3, 14, 176, 0, 0, 9, 59, 3), (65, .iload 5, 2, 2, 0, 0, 0, 0, 0, 0), (67, .dup2, 1, 11, 0, 0, 0, 0, 0, 0), (68, .iaload, 1, 22, 0, 0, 0, 0, 0, 0), (69, .iconst 1, 1, 0, 0, 0, 0, 0, 0, 0), (70, .iadd, 1, 7, 0, 0, 0, 0, 0, 0), (71, .iastore, 1, 17, 0, 0, 0, 0, 0, 0), (72, .aload_n 0, 1, 3, 0, 0, 0, 0, 0, 0), (73, .getfield 127, 3, 14, 176, 0, 0, 9, 59, 3), (76, .iload 5, 2, 2, 0, 0, 0, 0, 0, 0), (78, .iaload, 1, 22, 0, 0, 0, 0, 0, 0), (79, .iload_n 3, 1, 2, 0, 0, 0, 0, 0, 0)]), (99, [(80, .if_icmp .le 11, 3, 12, 0, 0, 0, 0, 0, 0), (83, .aload_n 0, 1, 3, 0, 0, 0, 0, 0, 0), (84, .getfield 127, 3, 14, 176, 0, 0, 9, 59, 3), (87, .iload 5, 2, 2, 0, 0, 0, 0, 0, 0), (89, .iaload, 1, 22, 0, 0, 0, 0, 0, 0), (90, .istore_n 3, 1, 4, 0, 0, 0, 0, 0, 0), (91, .iinc 4 1, 3, 6, 0, 0, 0, 0, 0, 0), (94, .goto (-68), 3, 0, 0, 0, 0, 0, 0, 0), (97, .iload_n 3, 1, 2, 0, 0, 0, 0, 0, 0), (98, .ireturn, 1, 21, 0, 0, 0, 0, 0, 0)])]
def ee_me240 : ee_me := (9, ⟨"PepperTablesModel", "mostBy", "(II)I"⟩, prog_11_method_133_code, 6, (some .int), ee_B240, 0, 0)
set_option maxRecDepth 100000 in
theorem ee_me240ok : ee_Mb ee_me240 = true := by decide +kernel
/- 241: PepperTablesModel.must(Z)V -/
def ee_B241 : List (Nat × List ee_en) := [(24, [(0, .aload_n 0, 1, 3, 0, 0, 0, 0, 0, 0), (1, .invokevirtual 223, 3, 23, 276, 0, 0, 213, 0, 0), (4, .ifCond .ne 4, 3, 12, 0, 0, 0, 0, 0, 0), (7, .return_, 1, 21, 0, 0, 0, 0, 0, 0), (8, .iload_n 1, 1, 2, 0, 0, 0, 0, 0, 0), (9, .ifCond .eq 10, 3, 12, 0, 0, 0, 0, 0, 0), (12, .aload_n 0, 1, 3, 0, 0, 0, 0, 0, 0), (13, .invokevirtual 227, 3, 23, 262, 0, 0, 195, 0, 0), (16, .goto 7, 3, 0, 0, 0, 0, 0, 0, 0), (19, .aload_n 0, 1, 3, 0, 0, 0, 0, 0, 0), (20, .invokevirtual 230, 3, 23, 258, 0, 0, 239, 0, 0), (23, .return_, 1, 21, 0, 0, 0, 0, 0, 0)])]
def ee_me241 : ee_me := (9, ⟨"PepperTablesModel", "must", "(Z)V"⟩, prog_11_method_13_code, 2, none, ee_B241, 0, 0)
set_option maxRecDepth 100000 in
theorem ee_me241ok : ee_Mb ee_me241 = true := by decide +kernel
/- 242: PepperTablesModel.mute()I -/
def ee_B242 : List (Nat × List ee_en) := [(18, [(0, .aload_n 0, 1, 3, 0, 0, 0, 0, 0, 0), (1, .invokevirtual 416, 3, 23, 238, 0, 0, 229, 0, 0), (4, .istore_n 1, 1, 4, 0, 0, 0, 0, 0, 0), (5, .iconst 0, 1, 0, 0, 0, 0, 0, 0, 0), (6, .istore_n 2, 1, 4, 0, 0, 0, 0, 0, 0), (7, .iload_n 2, 1, 2, 0, 0, 0, 0, 0, 0), (8, .iconst 1, 1, 0, 0, 0, 0, 0, 0, 0), (9, .aload_n 0, 1, 3, 0, 0, 0, 0, 0, 0), (10, .invokevirtual 358, 3, 23, 236, 0, 0, 190, 0, 0), (13, .ishl, 1, 7, 0, 0, 0, 0, 0, 0), (14, .if_icmp .ge 19, 3, 12, 0, 0, 0, 0, 0, 0), (17, .iload_n 1, 1, 2, 0, 0, 0, 0, 0, 0)]), (35, [(18, .aload_n 0, 1, 3, 0, 0, 0, 0, 0, 0), (19, .iload_n 2, 1, 2, 0, 0, 0, 0, 0, 0), (20, .invokevirtual 449, 3, 23, 283, 0, 0, 267, 0, 1), (23, .iconst (-1), 1, 0, 0, 0, 0, 0, 0, 0), (24, .ixor, 1, 7, 0, 0, 0, 0, 0, 0), (25, .iand, 1, 7, 0, 0, 0, 0, 0, 0), (26, .istore_n 1, 1, 4, 0, 0, 0, 0, 0, 0), (27, .iinc 2 1, 3, 6, 0, 0, 0, 0, 0, 0), (30, .goto (-23), 3, 0, 0, 0, 0, 0, 0, 0), (33, .iload_n 1, 1, 2, 0, 0, 0, 0, 0, 0), (34, .ireturn, 1, 21, 0, 0, 0, 0, 0, 0)])]
def ee_me242 : ee_me := (9, ⟨"PepperTablesModel", "mute", "()I"⟩, prog_11_method_98_code, 3, (some .int), ee_B242, 0, 0)
set_option maxRecDepth 100000 in
theorem ee_me242ok : ee_Mb ee_me242 = true := by decide +kernel
/- 243: PepperTablesModel.near()I -/
def ee_B243 : List (Nat × List ee_en) := [(20, [(0, .iconst 0, 1, 0, 0, 0, 0, 0, 0, 0), (1, .istore_n 1, 1, 4, 0, 0, 0, 0, 0, 0), (2, .iconst 0, 1, 0, 0, 0, 0, 0, 0, 0), (3, .istore_n 2, 1, 4, 0, 0, 0, 0, 0, 0), (4, .iload_n 2, 1, 2, 0, 0, 0, 0, 0, 0), (5, .aload_n 0, 1, 3, 0, 0, 0, 0, 0, 0), (6, .invokevirtual 368, 3, 23, 235, 0, 0, 238, 0, 0), (9, .if_icmp .ge 31, 3, 12, 0, 0, 0, 0, 0, 0), (12, .aload_n 0, 1, 3, 0, 0, 0, 0, 0, 0), (13, .iload_n 2, 1, 2, 0, 0, 0, 0, 0, 0), (14, .invokevirtual 386, 3, 23, 241, 0, 0, 223, 0, 1), (17, .ifCond .eq 17, 3, 12, 0, 0, 0, 0, 0, 0)]), (40, [(20, .aload_n 0, 1, 3, 0, 0, 0, 0, 0, 0), (21, .iload_n 2, 1, 2, 0, 0, 0, 0, 0, 0), (22, .invokevirtual 395, 3, 23, 289, 0, 0, 177, 0, 1), (25, .ifCond .eq 9, 3, 12, 0, 0, 0, 0, 0, 0), (28, .iload_n 1, 1, 2, 0, 0, 0, 0, 0, 0), (29, .iconst 1, 1, 0, 0, 0, 0, 0, 0, 0), (30, .iload_n 2, 1, 2, 0, 0, 0, 0, 0, 0), (31, .ishl, 1, 7, 0, 0, 0, 0, 0, 0), (32, .ior, 1, 7, 0, 0, 0, 0, 0, 0), (33, .istore_n 1, 1, 4, 0, 0, 0, 0, 0, 0), (34, .iinc 2 1, 3, 6, 0, 0, 0, 0, 0, 0), (37, .goto (-33), 3, 0, 0, 0, 0, 0, 0, 0)]), (42, [(40, .iload_n 1, 1, 2, 0, 0, 0, 0, 0, 0), (41, .ireturn, 1, 21, 0, 0, 0, 0, 0, 0)])]
def ee_me243 : ee_me := (9, ⟨"PepperTablesModel", "near", "()I"⟩, prog_11_method_79_code, 3, (some .int), ee_B243, 0, 0)
set_option maxRecDepth 100000 in
theorem ee_me243ok : ee_Mb ee_me243 = true := by decide +kernel
/- 244: PepperTablesModel.next()I -/
def ee_B244 : List (Nat × List ee_en) := [(5, [(0, .aload_n 0, 1, 3, 0, 0, 0, 0, 0, 0), (1, .invokevirtual 434, 3, 23, 272, 0, 0, 273, 0, 0), (4, .ireturn, 1, 21, 0, 0, 0, 0, 0, 0)])]
def ee_me244 : ee_me := (9, ⟨"PepperTablesModel", "next", "()I"⟩, prog_11_method_80_code, 1, (some .int), ee_B244, 0, 0)
set_option maxRecDepth 100000 in
theorem ee_me244ok : ee_Mb ee_me244 = true := by decide +kernel
/- 245: PepperTablesModel.numeral(II)I -/
def ee_B245 : List (Nat × List ee_en) := [(22, [(0, .aload_n 0, 1, 3, 0, 0, 0, 0, 0, 0), (1, .invokevirtual 223, 3, 23, 276, 0, 0, 213, 0, 0), (4, .ifCond .ne 5, 3, 12, 0, 0, 0, 0, 0, 0), (7, .iload_n 1, 1, 2, 0, 0, 0, 0, 0, 0), (8, .ireturn, 1, 21, 0, 0, 0, 0, 0, 0), (9, .aload_n 0, 1, 3, 0, 0, 0, 0, 0, 0), (10, .getfield 195, 3, 14, 196, 0, 0, 9, 8, 0), (13, .iconst 4, 1, 0, 0, 0, 0, 0, 0, 0), (14, .if_icmp .eq 7, 3, 12, 0, 0, 0, 0, 0, 0), (17, .aload_n 0, 1, 3, 0, 0, 0, 0, 0, 0), (18, .invokevirtual 230, 3, 23, 258, 0, 0, 239, 0, 0), (21, .aload_n 0, 1, 3, 0, 0, 0, 0, 0, 0)]), (46, [(22, .invokevirtual 223, 3, 23, 276, 0, 0, 213, 0, 0), (25, .ifCond .eq 28, 3, 12, 0, 0, 0, 0, 0, 0), (28, .aload_n 0, 1, 3, 0, 0, 0, 0, 0, 0), (29, .getfield 213, 3, 14, 200, 0, 0, 9, 9, 0), (32, .iload_n 1, 1, 2, 0, 0, 0, 0, 0, 0), (33, .if_icmp .lt 11, 3, 12, 0, 0, 0, 0, 0, 0), (36, .aload_n 0, 1, 3, 0, 0, 0, 0, 0, 0), (37, .getfield 213, 3, 14, 200, 0, 0, 9, 9, 0), (40, .iload_n 2, 1, 2, 0, 0, 0, 0, 0, 0), (41, .if_icmp .le 12, 3, 12, 0, 0, 0, 0, 0, 0), (44, .aload_n 0, 1, 3, 0, 0, 0, 0, 0, 0), (45, .iconst 4, 1, 0, 0, 0, 0, 0, 0, 0)]), (70, [(46, .aload_n 0, 1, 3, 0, 0, 0, 0, 0, 0), (47, .getfield 188, 3, 14, 192, 0, 0, 9, 6, 0), (50, .invokevirtual 219, 3, 23, 285, 0, 0, 185, 0, 2), (53, .aload_n 0, 1, 3, 0, 0, 0, 0, 0, 0), (54, .getfield 213, 3, 14, 200, 0, 0, 9, 9, 0), (57, .istore_n 3, 1, 4, 0, 0, 0, 0, 0, 0), (58, .aload_n 0, 1, 3, 0, 0, 0, 0, 0, 0), (59, .invokevirtual 223, 3, 23, 276, 0, 0, 213, 0, 0), (62, .ifCond .eq 7, 3, 12, 0, 0, 0, 0, 0, 0), (65, .aload_n 0, 1, 3, 0, 0, 0, 0, 0, 0), (66, .invokevirtual 227, 3, 23, 262, 0, 0, 195, 0, 0), (69, .aload_n 0, 1, 3, 0, 0, 0, 0, 0, 0)]), (82, [(70, .invokevirtual 223, 3, 23, 276, 0, 0, 213, 0, 0), (73, .ifCond .eq 7, 3, 12, 0, 0, 0, 0, 0, 0), (76, .iload_n 3, 1, 2, 0, 0, 0, 0, 0, 0), (77, .goto 4, 3, 0, 0, 0, 0, 0, 0, 0), (80, .iload_n 1, 1, 2, 0, 0, 0, 0, 0, 0), (81, .ireturn, 1, 21, 0, 0, 0, 0, 0, 0)])]
def ee_me245 : ee_me := (9, ⟨"PepperTablesModel", "numeral", "(II)I"⟩, prog_11_method_14_code, 4, (some .int), ee_B245, 0, 0)
set_option maxRecDepth 100000 in
theorem ee_me245ok : ee_Mb ee_me245 = true := by decide +kernel
end
section
/- 246: PepperTablesModel.odds(II)I -/
def ee_B246 : List (Nat × List ee_en) := [(20, [(0, .iload_n 1, 1, 2, 0, 0, 0, 0, 0, 0), (1, .iconst 0, 1, 0, 0, 0, 0, 0, 0, 0), (2, .iconst 4, 1, 0, 0, 0, 0, 0, 0, 0), (3, .invokestatic 361, 3, 23, 250, 0, 0, 214, 1, 3), (6, .ifCond .eq 12, 3, 12, 0, 0, 0, 0, 0, 0), (9, .iload_n 2, 1, 2, 0, 0, 0, 0, 0, 0), (10, .iconst 0, 1, 0, 0, 0, 0, 0, 0, 0), (11, .iconst 1, 1, 0, 0, 0, 0, 0, 0, 0), (12, .invokestatic 361, 3, 23, 250, 0, 0, 214, 1, 3), (15, .ifCond .ne 5, 3, 12, 0, 0, 0, 0, 0, 0), (18, .iconst (-1), 1, 0, 0, 0, 0, 0, 0, 0), (19, .ireturn, 1, 21, 0, 0, 0, 0, 0, 0)]), (40, [(20, .bipush 100, 2, 0, 0, 0, 0, 0, 0, 0), (22, .aload_n 0, 1, 3, 0, 0, 0, 0, 0, 0), (23, .getfield 33, 3, 14, 145, 0, 0, 9, 15, 3), (26, .aload_n 0, 1, 3, 0, 0, 0, 0, 0, 0), (27, .getfield 253, 3, 14, 184, 0, 0, 9, 33, 0), (30, .iaload, 1, 22, 0, 0, 0, 0, 0, 0), (31, .isub, 1, 7, 0, 0, 0, 0, 0, 0), (32, .iload_n 1, 1, 2, 0, 0, 0, 0, 0, 0), (33, .invokestatic 455, 3, 23, 249, 0, 0, 251, 1, 2), (36, .istore_n 3, 1, 4, 0, 0, 0, 0, 0, 0), (37, .bipush 100, 2, 0, 0, 0, 0, 0, 0, 0), (39, .iload_n 1, 1, 2, 0, 0, 0, 0, 0, 0)]), (63, [(40, .invokestatic 455, 3, 23, 249, 0, 0, 251, 1, 2), (43, .istore 4, 2, 4, 0, 0, 0, 0, 0, 0), (45, .iload_n 2, 1, 2, 0, 0, 0, 0, 0, 0), (46, .ifCond .ne 7, 3, 12, 0, 0, 0, 0, 0, 0), (49, .iload_n 3, 1, 2, 0, 0, 0, 0, 0, 0), (50, .goto 5, 3, 0, 0, 0, 0, 0, 0, 0), (53, .iload 4, 2, 2, 0, 0, 0, 0, 0, 0), (55, .iload 4, 2, 2, 0, 0, 0, 0, 0, 0), (57, .iload_n 3, 1, 2, 0, 0, 0, 0, 0, 0), (58, .invokestatic 479, 3, 23, 299, 0, 0, 176, 1, 2), (61, .idiv, 1, 8, 0, 0, 0, 0, 0, 0), (62, .ireturn, 1, 21, 0, 0, 0, 0, 0, 0)])]
def ee_me246 : ee_me := (9, ⟨"PepperTablesModel", "odds", "(II)I"⟩, prog_11_method_121_code, 5, (some .int), ee_B246, 0, 0)
set_option maxRecDepth 100000 in
theorem ee_me246ok : ee_Mb ee_me246 = true := by decide +kernel
/- 247: PepperTablesModel.pairs()I -/
def ee_B247 : List (Nat × List ee_en) := [(16, [(0, .iconst 0, 1, 0, 0, 0, 0, 0, 0, 0), (1, .istore_n 1, 1, 4, 0, 0, 0, 0, 0, 0), (2, .iconst 0, 1, 0, 0, 0, 0, 0, 0, 0), (3, .istore_n 2, 1, 4, 0, 0, 0, 0, 0, 0), (4, .iload_n 2, 1, 2, 0, 0, 0, 0, 0, 0), (5, .aload_n 0, 1, 3, 0, 0, 0, 0, 0, 0), (6, .invokevirtual 358, 3, 23, 236, 0, 0, 190, 0, 0), (9, .if_icmp .ge 72, 3, 12, 0, 0, 0, 0, 0, 0), (12, .iconst 0, 1, 0, 0, 0, 0, 0, 0, 0), (13, .istore_n 3, 1, 4, 0, 0, 0, 0, 0, 0), (14, .iload_n 3, 1, 2, 0, 0, 0, 0, 0, 0), (15, .iload_n 2, 1, 2, 0, 0, 0, 0, 0, 0)]), (36, [(16, .if_icmp .ge 59, 3, 12, 0, 0, 0, 0, 0, 0), (19, .iload_n 1, 1, 2, 0, 0, 0, 0, 0, 0), (20, .aload_n 0, 1, 3, 0, 0, 0, 0, 0, 0), (21, .iload_n 2, 1, 2, 0, 0, 0, 0, 0, 0), (22, .invokevirtual 413, 3, 23, 267, 0, 0, 170, 0, 1), (25, .aload_n 0, 1, 3, 0, 0, 0, 0, 0, 0), (26, .iload_n 3, 1, 2, 0, 0, 0, 0, 0, 0), (27, .invokevirtual 419, 3, 23, 275, 0, 0, 283, 0, 1), (30, .iand, 1, 7, 0, 0, 0, 0, 0, 0), (31, .aload_n 0, 1, 3, 0, 0, 0, 0, 0, 0), (32, .getfield 88, 3, 14, 163, 0, 0, 9, 42, 3), (35, .iconst 1, 1, 0, 0, 0, 0, 0, 0, 0)]), (56, [(36, .iaload, 1, 22, 0, 0, 0, 0, 0, 0), (37, .iand, 1, 7, 0, 0, 0, 0, 0, 0), (38, .ifCond .eq 28, 3, 12, 0, 0, 0, 0, 0, 0), (41, .aload_n 0, 1, 3, 0, 0, 0, 0, 0, 0), (42, .iload_n 3, 1, 2, 0, 0, 0, 0, 0, 0), (43, .invokevirtual 413, 3, 23, 267, 0, 0, 170, 0, 1), (46, .aload_n 0, 1, 3, 0, 0, 0, 0, 0, 0), (47, .iload_n 2, 1, 2, 0, 0, 0, 0, 0, 0), (48, .invokevirtual 419, 3, 23, 275, 0, 0, 283, 0, 1), (51, .iand, 1, 7, 0, 0, 0, 0, 0, 0), (52, .aload_n 0, 1, 3, 0, 0, 0, 0, 0, 0), (53, .getfield 88, 3, 14, 163, 0, 0, 9, 42, 3)]), (78, [(56, .iconst 1, 1, 0, 0, 0, 0, 0, 0, 0), (57, .iaload, 1, 22, 0, 0, 0, 0, 0, 0), (58, .iand, 1, 7, 0, 0, 0, 0, 0, 0), (59, .ifCond .eq 7, 3, 12, 0, 0, 0, 0, 0, 0), (62, .iconst 1, 1, 0, 0, 0, 0, 0, 0, 0), (63, .goto 4, 3, 0, 0, 0, 0, 0, 0, 0), (66, .iconst 0, 1, 0, 0, 0, 0, 0, 0, 0), (67, .iadd, 1, 7, 0, 0, 0, 0, 0, 0), (68, .istore_n 1, 1, 4, 0, 0, 0, 0, 0, 0), (69, .iinc 3 1, 3, 6, 0, 0, 0, 0, 0, 0), (72, .goto (-58), 3, 0, 0, 0, 0, 0, 0, 0), (75, .iinc 2 1, 3, 6, 0, 0, 0, 0, 0, 0)]), (83, [(78, .goto (-74), 3, 0, 0, 0, 0, 0, 0, 0), (81, .iload_n 1, 1, 2, 0, 0, 0, 0, 0, 0), (82, .ireturn, 1, 21, 0, 0, 0, 0, 0, 0)])]
def ee_me247 : ee_me := (9, ⟨"PepperTablesModel", "pairs", "()I"⟩, prog_11_method_81_code, 4, (some .int), ee_B247, 0, 0)
set_option maxRecDepth 100000 in
theorem ee_me247ok : ee_Mb ee_me247 = true := by decide +kernel
/- 248: PepperTablesModel.person(II)I -/
def ee_B248 : List (Nat × List ee_en) := [(55, [(0, .aload_n 0, 1, 3, 0, 0, 0, 0, 0, 0), (1, .iload_n 1, 1, 2, 0, 0, 0, 0, 0, 0), (2, .invokevirtual 410, 3, 23, 282, 0, 0, 219, 0, 1), (5, .ifCond .ne 6, 3, 12, 0, 0, 0, 0, 0, 0), (8, .bipush (-2), 2, 0, 0, 0, 0, 0, 0, 0), (10, .ireturn, 1, 21, 0, 0, 0, 0, 0, 0), (11, .iload_n 2, 1, 2, 0, 0, 0, 0, 0, 0), (12, .tableswitch 97 0 4 #[36, 51, 62, 73, 84], 36, 13, 0, 0, 0, 0, 0, 0), (48, .aload_n 0, 1, 3, 0, 0, 0, 0, 0, 0), (49, .getfield 42, 3, 14, 148, 0, 0, 9, 18, 3), (52, .bipush 6, 2, 0, 0, 0, 0, 0, 0, 0), (54, .aload_n 0, 1, 3, 0, 0, 0, 0, 0, 0)]), (71, [(55, .getfield 253, 3, 14, 184, 0, 0, 9, 33, 0), (58, .imul, 1, 7, 0, 0, 0, 0, 0, 0), (59, .iload_n 1, 1, 2, 0, 0, 0, 0, 0, 0), (60, .iadd, 1, 7, 0, 0, 0, 0, 0, 0), (61, .iaload, 1, 22, 0, 0, 0, 0, 0, 0), (62, .ireturn, 1, 21, 0, 0, 0, 0, 0, 0), (63, .aload_n 0, 1, 3, 0, 0, 0, 0, 0, 0), (64, .getfield 88, 3, 14, 163, 0, 0, 9, 42, 3), (67, .iconst 0, 1, 0, 0, 0, 0, 0, 0, 0), (68, .iaload, 1, 22, 0, 0, 0, 0, 0, 0), (69, .iload_n 1, 1, 2, 0, 0, 0, 0, 0, 0), (70, .ishr, 1, 7, 0, 0, 0, 0, 0, 0)]), (87, [(71, .iconst 1, 1, 0, 0, 0, 0, 0, 0, 0), (72, .iand, 1, 7, 0, 0, 0, 0, 0, 0), (73, .ireturn, 1, 21, 0, 0, 0, 0, 0, 0), (74, .aload_n 0, 1, 3, 0, 0, 0, 0, 0, 0), (75, .iload_n 1, 1, 2, 0, 0, 0, 0, 0, 0), (76, .invokevirtual 413, 3, 23, 267, 0, 0, 170, 0, 1), (79, .aload_n 0, 1, 3, 0, 0, 0, 0, 0, 0), (80, .invokevirtual 416, 3, 23, 238, 0, 0, 229, 0, 0), (83, .iand, 1, 7, 0, 0, 0, 0, 0, 0), (84, .ireturn, 1, 21, 0, 0, 0, 0, 0, 0), (85, .aload_n 0, 1, 3, 0, 0, 0, 0, 0, 0), (86, .iload_n 1, 1, 2, 0, 0, 0, 0, 0, 0)]), (107, [(87, .invokevirtual 419, 3, 23, 275, 0, 0, 283, 0, 1), (90, .aload_n 0, 1, 3, 0, 0, 0, 0, 0, 0), (91, .invokevirtual 416, 3, 23, 238, 0, 0, 229, 0, 0), (94, .iand, 1, 7, 0, 0, 0, 0, 0, 0), (95, .ireturn, 1, 21, 0, 0, 0, 0, 0, 0), (96, .aload_n 0, 1, 3, 0, 0, 0, 0, 0, 0), (97, .iload_n 1, 1, 2, 0, 0, 0, 0, 0, 0), (98, .invokevirtual 419, 3, 23, 275, 0, 0, 283, 0, 1), (101, .aload_n 0, 1, 3, 0, 0, 0, 0, 0, 0), (102, .getfield 88, 3, 14, 163, 0, 0, 9, 42, 3), (105, .iconst 1, 1, 0, 0, 0, 0, 0, 0, 0), (106, .iaload, 1, 22, 0, 0, 0, 0, 0, 0)]), (112, [(107, .iand, 1, 7, 0, 0, 0, 0, 0, 0), (108, .ireturn, 1, 21, 0, 0, 0, 0, 0, 0), (109, .bipush (-2), 2, 0, 0, 0, 0, 0, 0, 0), (111, .ireturn, 1, 21, 0, 0, 0, 0, 0, 0)])]
def ee_me248 : ee_me := (9, ⟨"PepperTablesModel", "person", "(II)I"⟩, prog_11_method_68_code, 3, (some .int), ee_B248, 0, 0)
set_option maxRecDepth 100000 in
theorem ee_me248ok : ee_Mb ee_me248 = true := by decide +kernel
/- 249: PepperTablesModel.personHere()I -/
def ee_B249 : List (Nat × List ee_en) := [(21, [(0, .aload_n 0, 1, 3, 0, 0, 0, 0, 0, 0), (1, .aload_n 0, 1, 3, 0, 0, 0, 0, 0, 0), (2, .getfield 63, 3, 14, 155, 0, 0, 9, 25, 3), (5, .bipush 6, 2, 0, 0, 0, 0, 0, 0, 0), (7, .aload_n 0, 1, 3, 0, 0, 0, 0, 0, 0), (8, .getfield 244, 3, 14, 193, 0, 0, 9, 34, 0), (11, .imul, 1, 7, 0, 0, 0, 0, 0, 0), (12, .aload_n 0, 1, 3, 0, 0, 0, 0, 0, 0), (13, .getfield 20, 3, 14, 141, 0, 0, 9, 11, 3), (16, .aload_n 0, 1, 3, 0, 0, 0, 0, 0, 0), (17, .getfield 244, 3, 14, 193, 0, 0, 9, 34, 0), (20, .iaload, 1, 22, 0, 0, 0, 0, 0, 0)]), (25, [(21, .invokevirtual 290, 3, 23, 300, 0, 0, 199, 0, 3), (24, .ireturn, 1, 21, 0, 0, 0, 0, 0, 0)])]
def ee_me249 : ee_me := (9, ⟨"PepperTablesModel", "personHere", "()I"⟩, prog_11_method_21_code, 1, (some .int), ee_B249, 0, 0)
set_option maxRecDepth 100000 in
theorem ee_me249ok : ee_Mb ee_me249 = true := by decide +kernel
/- 250: PepperTablesModel.pour(II)I -/
def ee_B250 : List (Nat × List ee_en) := [(22, [(0, .aload_n 0, 1, 3, 0, 0, 0, 0, 0, 0), (1, .iload_n 1, 1, 2, 0, 0, 0, 0, 0, 0), (2, .invokevirtual 422, 3, 23, 240, 0, 0, 224, 0, 1), (5, .ifCond .eq 37, 3, 12, 0, 0, 0, 0, 0, 0), (8, .iload_n 2, 1, 2, 0, 0, 0, 0, 0, 0), (9, .iconst (-1), 1, 0, 0, 0, 0, 0, 0, 0), (10, .aload_n 0, 1, 3, 0, 0, 0, 0, 0, 0), (11, .invokevirtual 365, 3, 23, 237, 0, 0, 164, 0, 0), (14, .iconst 1, 1, 0, 0, 0, 0, 0, 0, 0), (15, .isub, 1, 7, 0, 0, 0, 0, 0, 0), (16, .invokestatic 361, 3, 23, 250, 0, 0, 214, 1, 3), (19, .ifCond .eq 23, 3, 12, 0, 0, 0, 0, 0, 0)]), (42, [(22, .aload_n 0, 1, 3, 0, 0, 0, 0, 0, 0), (23, .iload_n 1, 1, 2, 0, 0, 0, 0, 0, 0), (24, .invokevirtual 386, 3, 23, 241, 0, 0, 223, 0, 1), (27, .ifCond .eq 15, 3, 12, 0, 0, 0, 0, 0, 0), (30, .aload_n 0, 1, 3, 0, 0, 0, 0, 0, 0), (31, .getfield 88, 3, 14, 163, 0, 0, 9, 42, 3), (34, .iconst 2, 1, 0, 0, 0, 0, 0, 0, 0), (35, .iload_n 1, 1, 2, 0, 0, 0, 0, 0, 0), (36, .iadd, 1, 7, 0, 0, 0, 0, 0, 0), (37, .iaload, 1, 22, 0, 0, 0, 0, 0, 0), (38, .iload_n 2, 1, 2, 0, 0, 0, 0, 0, 0), (39, .if_icmp .ne 6, 3, 12, 0, 0, 0, 0, 0, 0)]), (59, [(42, .bipush (-2), 2, 0, 0, 0, 0, 0, 0, 0), (44, .ireturn, 1, 21, 0, 0, 0, 0, 0, 0), (45, .aload_n 0, 1, 3, 0, 0, 0, 0, 0, 0), (46, .invokevirtual 437, 3, 23, 271, 0, 0, 226, 0, 0), (49, .aload_n 0, 1, 3, 0, 0, 0, 0, 0, 0), (50, .getfield 88, 3, 14, 163, 0, 0, 9, 42, 3), (53, .iconst 2, 1, 0, 0, 0, 0, 0, 0, 0), (54, .iload_n 1, 1, 2, 0, 0, 0, 0, 0, 0), (55, .iadd, 1, 7, 0, 0, 0, 0, 0, 0), (56, .iaload, 1, 22, 0, 0, 0, 0, 0, 0), (57, .istore_n 3, 1, 4, 0, 0, 0, 0, 0, 0), (58, .aload_n 0, 1, 3, 0, 0, 0, 0, 0, 0)]), (69, [(59, .getfield 88, 3, 14, 163, 0, 0, 9, 42, 3), (62, .iconst 2, 1, 0, 0, 0, 0, 0, 0, 0), (63, .iload_n 1, 1, 2, 0, 0, 0, 0, 0, 0), (64, .iadd, 1, 7, 0, 0, 0, 0, 0, 0), (65, .iload_n 2, 1, 2, 0, 0, 0, 0, 0, 0), (66, .iastore, 1, 17, 0, 0, 0, 0, 0, 0), (67, .iload_n 3, 1, 2, 0, 0, 0, 0, 0, 0), (68, .ireturn, 1, 21, 0, 0, 0, 0, 0, 0)])]
def ee_me250 : ee_me := (9, ⟨"PepperTablesModel", "pour", "(II)I"⟩, prog_11_method_88_code, 4, (some .int), ee_B250, 0, 0)
set_option maxRecDepth 100000 in
theorem ee_me250ok : ee_Mb ee_me250 = true := by decide +kernel
/- 251: PepperTablesModel.power(II)I -/
def ee_B251 : List (Nat × List ee_en) := [(16, [(0, .iconst 1, 1, 0, 0, 0, 0, 0, 0, 0), (1, .istore_n 2, 1, 4, 0, 0, 0, 0, 0, 0), (2, .iconst 0, 1, 0, 0, 0, 0, 0, 0, 0), (3, .istore_n 3, 1, 4, 0, 0, 0, 0, 0, 0), (4, .iload_n 3, 1, 2, 0, 0, 0, 0, 0, 0), (5, .iload_n 1, 1, 2, 0, 0, 0, 0, 0, 0), (6, .if_icmp .ge 13, 3, 12, 0, 0, 0, 0, 0, 0), (9, .iload_n 2, 1, 2, 0, 0, 0, 0, 0, 0), (10, .iload_n 0, 1, 2, 0, 0, 0, 0, 0, 0), (11, .imul, 1, 7, 0, 0, 0, 0, 0, 0), (12, .istore_n 2, 1, 4, 0, 0, 0, 0, 0, 0), (13, .iinc 3 1, 3, 6, 0, 0, 0, 0, 0, 0)]), (21, [(16, .goto (-12), 3, 0, 0, 0, 0, 0, 0, 0), (19, .iload_n 2, 1, 2, 0, 0, 0, 0, 0, 0), (20, .ireturn, 1, 21, 0, 0, 0, 0, 0, 0)])]
def ee_me251 : ee_me := (9, ⟨"PepperTablesModel", "power", "(II)I"⟩, prog_11_method_43_code, 4, (some .int), ee_B251, 0, 0)
set_option maxRecDepth 100000 in
theorem ee_me251ok : ee_Mb ee_me251 = true := by decide +kernel
/- 252: PepperTablesModel.pushE(II)V -/
def ee_B252 : List (Nat × List ee_en) := [(20, [(0, .aload_n 0, 1, 3, 0, 0, 0, 0, 0, 0), (1, .getfield 79, 3, 14, 160, 0, 0, 9, 30, 3), (4, .aload_n 0, 1, 3, 0, 0, 0, 0, 0, 0), (5, .getfield 303, 3, 14, 190, 0, 0, 9, 37, 0), (8, .iload_n 1, 1, 2, 0, 0, 0, 0, 0, 0), (9, .iastore, 1, 17, 0, 0, 0, 0, 0, 0), (10, .aload_n 0, 1, 3, 0, 0, 0, 0, 0, 0), (11, .getfield 82, 3, 14, 161, 0, 0, 9, 31, 3), (14, .aload_n 0, 1, 3, 0, 0, 0, 0, 0, 0), (15, .getfield 303, 3, 14, 190, 0, 0, 9, 37, 0), (18, .iload_n 2, 1, 2, 0, 0, 0, 0, 0, 0), (19, .iastore, 1, 17, 0, 0, 0, 0, 0, 0)]), (31, [(20, .aload_n 0, 1, 3, 0, 0, 0, 0, 0, 0), (21, .dup, 1, 11, 0, 0, 0, 0, 0, 0), (22, .getfield 303, 3, 14, 190, 0, 0, 9, 37, 0), (25, .iconst 1, 1, 0, 0, 0, 0, 0, 0, 0), (26, .iadd, 1, 7, 0, 0, 0, 0, 0, 0), (27, .putfield 303, 3, 15, 190, 0, 0, 9, 37, 0), (30, .return_, 1, 21, 0, 0, 0, 0, 0, 0)])]
def ee_me252 : ee_me := (9, ⟨"PepperTablesModel", "pushE", "(II)V"⟩, prog_11_method_28_code, 3, none, ee_B252, 0, 0)
set_option maxRecDepth 100000 in
theorem ee_me252ok : ee_Mb ee_me252 = true := by decide +kernel
/- 253: PepperTablesModel.rank()I -/
def ee_B253 : List (Nat × List ee_en) := [(20, [(0, .aload_n 0, 1, 3, 0, 0, 0, 0, 0, 0), (1, .iconst 0, 1, 0, 0, 0, 0, 0, 0, 0), (2, .putfield 383, 3, 15, 185, 0, 0, 9, 50, 0), (5, .iconst 0, 1, 0, 0, 0, 0, 0, 0, 0), (6, .istore_n 1, 1, 4, 0, 0, 0, 0, 0, 0), (7, .iload_n 1, 1, 2, 0, 0, 0, 0, 0, 0), (8, .aload_n 0, 1, 3, 0, 0, 0, 0, 0, 0), (9, .invokevirtual 358, 3, 23, 236, 0, 0, 190, 0, 0), (12, .if_icmp .ge 93, 3, 12, 0, 0, 0, 0, 0, 0), (15, .aload_n 0, 1, 3, 0, 0, 0, 0, 0, 0), (16, .getfield 383, 3, 14, 185, 0, 0, 9, 50, 0), (19, .istore_n 2, 1, 4, 0, 0, 0, 0, 0, 0)]), (38, [(20, .iload_n 2, 1, 2, 0, 0, 0, 0, 0, 0), (21, .ifCond .le 61, 3, 12, 0, 0, 0, 0, 0, 0), (24, .aload_n 0, 1, 3, 0, 0, 0, 0, 0, 0), (25, .aload_n 0, 1, 3, 0, 0, 0, 0, 0, 0), (26, .aload_n 0, 1, 3, 0, 0, 0, 0, 0, 0), (27, .getfield 100, 3, 14, 167, 0, 0, 9, 49, 3), (30, .iload_n 2, 1, 2, 0, 0, 0, 0, 0, 0), (31, .iconst 1, 1, 0, 0, 0, 0, 0, 0, 0), (32, .isub, 1, 7, 0, 0, 0, 0, 0, 0), (33, .iaload, 1, 22, 0, 0, 0, 0, 0, 0), (34, .invokevirtual 413, 3, 23, 267, 0, 0, 170, 0, 1), (37, .aload_n 0, 1, 3, 0, 0, 0, 0, 0, 0)]), (62, [(38, .invokevirtual 416, 3, 23, 238, 0, 0, 229, 0, 0), (41, .iand, 1, 7, 0, 0, 0, 0, 0, 0), (42, .invokevirtual 348, 3, 23, 239, 0, 0, 198, 0, 1), (45, .aload_n 0, 1, 3, 0, 0, 0, 0, 0, 0), (46, .aload_n 0, 1, 3, 0, 0, 0, 0, 0, 0), (47, .iload_n 1, 1, 2, 0, 0, 0, 0, 0, 0), (48, .invokevirtual 413, 3, 23, 267, 0, 0, 170, 0, 1), (51, .aload_n 0, 1, 3, 0, 0, 0, 0, 0, 0), (52, .invokevirtual 416, 3, 23, 238, 0, 0, 229, 0, 0), (55, .iand, 1, 7, 0, 0, 0, 0, 0, 0), (56, .invokevirtual 348, 3, 23, 239, 0, 0, 198, 0, 1), (59, .if_icmp .ge 23, 3, 12, 0, 0, 0, 0, 0, 0)]), (82, [(62, .aload_n 0, 1, 3, 0, 0, 0, 0, 0, 0), (63, .getfield 100, 3, 14, 167, 0, 0, 9, 49, 3), (66, .iload_n 2, 1, 2, 0, 0, 0, 0, 0, 0), (67, .aload_n 0, 1, 3, 0, 0, 0, 0, 0, 0), (68, .getfield 100, 3, 14, 167, 0, 0, 9, 49, 3), (71, .iload_n 2, 1, 2, 0, 0, 0, 0, 0, 0), (72, .iconst 1, 1, 0, 0, 0, 0, 0, 0, 0), (73, .isub, 1, 7, 0, 0, 0, 0, 0, 0), (74, .iaload, 1, 22, 0, 0, 0, 0, 0, 0), (75, .iastore, 1, 17, 0, 0, 0, 0, 0, 0), (76, .iinc 2 (-1), 3, 6, 0, 0, 0, 0, 0, 0), (79, .goto (-59), 3, 0, 0, 0, 0, 0, 0, 0)]), (102, [(82, .aload_n 0, 1, 3, 0, 0, 0, 0, 0, 0), (83, .getfield 100, 3, 14, 167, 0, 0, 9, 49, 3), (86, .iload_n 2, 1, 2, 0, 0, 0, 0, 0, 0), (87, .iload_n 1, 1, 2, 0, 0, 0, 0, 0, 0), (88, .iastore, 1, 17, 0, 0, 0, 0, 0, 0), (89, .aload_n 0, 1, 3, 0, 0, 0, 0, 0, 0), (90, .dup, 1, 11, 0, 0, 0, 0, 0, 0), (91, .getfield 383, 3, 14, 185, 0, 0, 9, 50, 0), (94, .iconst 1, 1, 0, 0, 0, 0, 0, 0, 0), (95, .iadd, 1, 7, 0, 0, 0, 0, 0, 0), (96, .putfield 383, 3, 15, 185, 0, 0, 9, 50, 0), (99, .iinc 1 1, 3, 6, 0, 0, 0, 0, 0, 0)]), (110, [(102, .goto (-95), 3, 0, 0, 0, 0, 0, 0, 0), (105, .aload_n 0, 1, 3, 0, 0, 0, 0, 0, 0), (106, .getfield 383, 3, 14, 185, 0, 0, 9, 50, 0), (109, .ireturn, 1, 21, 0, 0, 0, 0, 0, 0)])]
def ee_me253 : ee_me := (9, ⟨"PepperTablesModel", "rank", "()I"⟩, prog_11_method_119_code, 3, (some .int), ee_B253, 0, 0)
set_option maxRecDepth 100000 in
theorem ee_me253ok : ee_Mb ee_me253 = true := by decide +kernel
/- 254: PepperTablesModel.rankHere()I -/
def ee_B254 : List (Nat × List ee_en) := [(24, [(0, .aload_n 0, 1, 3, 0, 0, 0, 0, 0, 0), (1, .ldc2_w 181, 3, 1, 17, 0, 6385252, 0, 0, 0), (4, .invokevirtual 233, 3, 23, 245, 0, 0, 225, 0, 1), (7, .ifCond .eq 5, 3, 12, 0, 0, 0, 0, 0, 0), (10, .iconst 2, 1, 0, 0, 0, 0, 0, 0, 0), (11, .ireturn, 1, 21, 0, 0, 0, 0, 0, 0), (12, .aload_n 0, 1, 3, 0, 0, 0, 0, 0, 0), (13, .ldc2_w 179, 3, 1, 16, 0, 28530, 0, 0, 0), (16, .invokevirtual 233, 3, 23, 245, 0, 0, 225, 0, 1), (19, .ifCond .eq 5, 3, 12, 0, 0, 0, 0, 0, 0), (22, .iconst 1, 1, 0, 0, 0, 0, 0, 0, 0), (23, .ireturn, 1, 21, 0, 0, 0, 0, 0, 0)]), (51, [(24, .aload_n 0, 1, 3, 0, 0, 0, 0, 0, 0), (25, .bipush 60, 2, 0, 0, 0, 0, 0, 0, 0), (27, .invokevirtual 287, 3, 23, 263, 0, 0, 222, 0, 1), (30, .ifCond .ne 21, 3, 12, 0, 0, 0, 0, 0, 0), (33, .aload_n 0, 1, 3, 0, 0, 0, 0, 0, 0), (34, .bipush 62, 2, 0, 0, 0, 0, 0, 0, 0), (36, .invokevirtual 287, 3, 23, 263, 0, 0, 222, 0, 1), (39, .ifCond .ne 12, 3, 12, 0, 0, 0, 0, 0, 0), (42, .aload_n 0, 1, 3, 0, 0, 0, 0, 0, 0), (43, .bipush 61, 2, 0, 0, 0, 0, 0, 0, 0), (45, .invokevirtual 287, 3, 23, 263, 0, 0, 222, 0, 1), (48, .ifCond .eq 5, 3, 12, 0, 0, 0, 0, 0, 0)]), (73, [(51, .iconst 4, 1, 0, 0, 0, 0, 0, 0, 0), (52, .ireturn, 1, 21, 0, 0, 0, 0, 0, 0), (53, .aload_n 0, 1, 3, 0, 0, 0, 0, 0, 0), (54, .bipush 43, 2, 0, 0, 0, 0, 0, 0, 0), (56, .invokevirtual 287, 3, 23, 263, 0, 0, 222, 0, 1), (59, .ifCond .ne 12, 3, 12, 0, 0, 0, 0, 0, 0), (62, .aload_n 0, 1, 3, 0, 0, 0, 0, 0, 0), (63, .bipush 45, 2, 0, 0, 0, 0, 0, 0, 0), (65, .invokevirtual 287, 3, 23, 263, 0, 0, 222, 0, 1), (68, .ifCond .eq 5, 3, 12, 0, 0, 0, 0, 0, 0), (71, .iconst 5, 1, 0, 0, 0, 0, 0, 0, 0), (72, .ireturn, 1, 21, 0, 0, 0, 0, 0, 0)]), (100, [(73, .aload_n 0, 1, 3, 0, 0, 0, 0, 0, 0), (74, .bipush 42, 2, 0, 0, 0, 0, 0, 0, 0), (76, .invokevirtual 287, 3, 23, 263, 0, 0, 222, 0, 1), (79, .ifCond .ne 21, 3, 12, 0, 0, 0, 0, 0, 0), (82, .aload_n 0, 1, 3, 0, 0, 0, 0, 0, 0), (83, .bipush 47, 2, 0, 0, 0, 0, 0, 0, 0), (85, .invokevirtual 287, 3, 23, 263, 0, 0, 222, 0, 1), (88, .ifCond .ne 12, 3, 12, 0, 0, 0, 0, 0, 0), (91, .aload_n 0, 1, 3, 0, 0, 0, 0, 0, 0), (92, .bipush 37, 2, 0, 0, 0, 0, 0, 0, 0), (94, .invokevirtual 287, 3, 23, 263, 0, 0, 222, 0, 1), (97, .ifCond .eq 8, 3, 12, 0, 0, 0, 0, 0, 0)]), (107, [(100, .bipush 6, 2, 0, 0, 0, 0, 0, 0, 0), (102, .goto 4, 3, 0, 0, 0, 0, 0, 0, 0), (105, .iconst 0, 1, 0, 0, 0, 0, 0, 0, 0), (106, .ireturn, 1, 21, 0, 0, 0, 0, 0, 0)])]
def ee_me254 : ee_me := (9, ⟨"PepperTablesModel", "rankHere", "()I"⟩, prog_11_method_32_code, 1, (some .int), ee_B254, 0, 0)
set_option maxRecDepth 100000 in
theorem ee_me254ok : ee_Mb ee_me254 = true := by decide +kernel
/- 255: PepperTablesModel.readLine()V -/
def ee_B255 : List (Nat × List ee_en) := [(24, [(0, .aload_n 0, 1, 3, 0, 0, 0, 0, 0, 0), (1, .getfield 202, 3, 14, 197, 0, 0, 9, 10, 2), (4, .lstore_n 1, 1, 5, 0, 0, 0, 0, 0, 0), (5, .aload_n 0, 1, 3, 0, 0, 0, 0, 0, 0), (6, .getfield 195, 3, 14, 196, 0, 0, 9, 8, 0), (9, .iconst 3, 1, 0, 0, 0, 0, 0, 0, 0), (10, .if_icmp .ne 10, 3, 12, 0, 0, 0, 0, 0, 0), (13, .aload_n 0, 1, 3, 0, 0, 0, 0, 0, 0), (14, .invokevirtual 263, 3, 23, 301, 0, 0, 212, 0, 0), (17, .ifCond .eq 7, 3, 12, 0, 0, 0, 0, 0, 0), (20, .aload_n 0, 1, 3, 0, 0, 0, 0, 0, 0), (21, .invokevirtual 230, 3, 23, 258, 0, 0, 239, 0, 0)]), (48, [(24, .aload_n 0, 1, 3, 0, 0, 0, 0, 0, 0), (25, .invokevirtual 223, 3, 23, 276, 0, 0, 213, 0, 0), (28, .ifCond .ne 4, 3, 12, 0, 0, 0, 0, 0, 0), (31, .return_, 1, 21, 0, 0, 0, 0, 0, 0), (32, .aload_n 0, 1, 3, 0, 0, 0, 0, 0, 0), (33, .invokevirtual 227, 3, 23, 262, 0, 0, 195, 0, 0), (36, .lload_n 1, 1, 3, 0, 0, 0, 0, 0, 0), (37, .ldc2_w 149, 3, 1, 1, 0, 123581014175598, 0, 0, 0), (40, .lcmp, 1, 9, 0, 0, 0, 0, 0, 0), (41, .ifCond .ne 99, 3, 12, 0, 0, 0, 0, 0, 0), (44, .aload_n 0, 1, 3, 0, 0, 0, 0, 0, 0), (45, .getfield 63, 3, 14, 155, 0, 0, 9, 25, 3)]), (67, [(48, .bipush 6, 2, 0, 0, 0, 0, 0, 0, 0), (50, .aload_n 0, 1, 3, 0, 0, 0, 0, 0, 0), (51, .getfield 244, 3, 14, 193, 0, 0, 9, 34, 0), (54, .imul, 1, 7, 0, 0, 0, 0, 0, 0), (55, .aload_n 0, 1, 3, 0, 0, 0, 0, 0, 0), (56, .getfield 20, 3, 14, 141, 0, 0, 9, 11, 3), (59, .aload_n 0, 1, 3, 0, 0, 0, 0, 0, 0), (60, .getfield 244, 3, 14, 193, 0, 0, 9, 34, 0), (63, .iaload, 1, 22, 0, 0, 0, 0, 0, 0), (64, .iadd, 1, 7, 0, 0, 0, 0, 0, 0), (65, .aload_n 0, 1, 3, 0, 0, 0, 0, 0, 0), (66, .aload_n 0, 1, 3, 0, 0, 0, 0, 0, 0)]), (90, [(67, .invokevirtual 266, 3, 23, 302, 0, 0, 249, 0, 0), (70, .invokevirtual 270, 3, 23, 303, 0, 0, 191, 0, 1), (73, .lastore, 1, 17, 0, 0, 0, 0, 0, 0), (74, .aload_n 0, 1, 3, 0, 0, 0, 0, 0, 0), (75, .getfield 42, 3, 14, 148, 0, 0, 9, 18, 3), (78, .bipush 6, 2, 0, 0, 0, 0, 0, 0, 0), (80, .aload_n 0, 1, 3, 0, 0, 0, 0, 0, 0), (81, .getfield 244, 3, 14, 193, 0, 0, 9, 34, 0), (84, .imul, 1, 7, 0, 0, 0, 0, 0, 0), (85, .aload_n 0, 1, 3, 0, 0, 0, 0, 0, 0), (86, .getfield 20, 3, 14, 141, 0, 0, 9, 11, 3), (89, .aload_n 0, 1, 3, 0, 0, 0, 0, 0, 0)]), (116, [(90, .getfield 244, 3, 14, 193, 0, 0, 9, 34, 0), (93, .iaload, 1, 22, 0, 0, 0, 0, 0, 0), (94, .iadd, 1, 7, 0, 0, 0, 0, 0, 0), (95, .aload_n 0, 1, 3, 0, 0, 0, 0, 0, 0), (96, .invokevirtual 223, 3, 23, 276, 0, 0, 213, 0, 0), (99, .ifCond .eq 26, 3, 12, 0, 0, 0, 0, 0, 0), (102, .aload_n 0, 1, 3, 0, 0, 0, 0, 0, 0), (103, .ldc2_w 151, 3, 1, 7, 0, 7563385, 0, 0, 0), (106, .invokevirtual 233, 3, 23, 245, 0, 0, 225, 0, 1), (109, .ifCond .eq 16, 3, 12, 0, 0, 0, 0, 0, 0), (112, .aload_n 0, 1, 3, 0, 0, 0, 0, 0, 0), (113, .ldc2_w 151, 3, 1, 7, 0, 7563385, 0, 0, 0)]), (137, [(116, .iconst 0, 1, 0, 0, 0, 0, 0, 0, 0), (117, .bipush 9, 2, 0, 0, 0, 0, 0, 0, 0), (119, .invokevirtual 274, 3, 23, 304, 0, 0, 158, 0, 3), (122, .goto 4, 3, 0, 0, 0, 0, 0, 0, 0), (125, .iconst 0, 1, 0, 0, 0, 0, 0, 0, 0), (126, .iastore, 1, 17, 0, 0, 0, 0, 0, 0), (127, .aload_n 0, 1, 3, 0, 0, 0, 0, 0, 0), (128, .getfield 20, 3, 14, 141, 0, 0, 9, 11, 3), (131, .aload_n 0, 1, 3, 0, 0, 0, 0, 0, 0), (132, .getfield 244, 3, 14, 193, 0, 0, 9, 34, 0), (135, .dup2, 1, 11, 0, 0, 0, 0, 0, 0), (136, .iaload, 1, 22, 0, 0, 0, 0, 0, 0)]), (157, [(137, .iconst 1, 1, 0, 0, 0, 0, 0, 0, 0), (138, .iadd, 1, 7, 0, 0, 0, 0, 0, 0), (139, .iastore, 1, 17, 0, 0, 0, 0, 0, 0), (140, .lload_n 1, 1, 3, 0, 0, 0, 0, 0, 0), (141, .ldc2_w 153, 3, 1, 2, 0, 1935762283, 0, 0, 0), (144, .lcmp, 1, 9, 0, 0, 0, 0, 0, 0), (145, .ifCond .ne 45, 3, 12, 0, 0, 0, 0, 0, 0), (148, .aload_n 0, 1, 3, 0, 0, 0, 0, 0, 0), (149, .getfield 67, 3, 14, 156, 0, 0, 9, 26, 3), (152, .iconst 5, 1, 0, 0, 0, 0, 0, 0, 0), (153, .aload_n 0, 1, 3, 0, 0, 0, 0, 0, 0), (154, .getfield 244, 3, 14, 193, 0, 0, 9, 34, 0)]), (177, [(157, .imul, 1, 7, 0, 0, 0, 0, 0, 0), (158, .aload_n 0, 1, 3, 0, 0, 0, 0, 0, 0), (159, .getfield 24, 3, 14, 142, 0, 0, 9, 12, 3), (162, .aload_n 0, 1, 3, 0, 0, 0, 0, 0, 0), (163, .getfield 244, 3, 14, 193, 0, 0, 9, 34, 0), (166, .iaload, 1, 22, 0, 0, 0, 0, 0, 0), (167, .iadd, 1, 7, 0, 0, 0, 0, 0, 0), (168, .aload_n 0, 1, 3, 0, 0, 0, 0, 0, 0), (169, .aload_n 0, 1, 3, 0, 0, 0, 0, 0, 0), (170, .invokevirtual 278, 3, 23, 305, 0, 0, 264, 0, 0), (173, .invokevirtual 270, 3, 23, 303, 0, 0, 191, 0, 1), (176, .lastore, 1, 17, 0, 0, 0, 0, 0, 0)]), (195, [(177, .aload_n 0, 1, 3, 0, 0, 0, 0, 0, 0), (178, .getfield 24, 3, 14, 142, 0, 0, 9, 12, 3), (181, .aload_n 0, 1, 3, 0, 0, 0, 0, 0, 0), (182, .getfield 244, 3, 14, 193, 0, 0, 9, 34, 0), (185, .dup2, 1, 11, 0, 0, 0, 0, 0, 0), (186, .iaload, 1, 22, 0, 0, 0, 0, 0, 0), (187, .iconst 1, 1, 0, 0, 0, 0, 0, 0, 0), (188, .iadd, 1, 7, 0, 0, 0, 0, 0, 0), (189, .iastore, 1, 17, 0, 0, 0, 0, 0, 0), (190, .lload_n 1, 1, 3, 0, 0, 0, 0, 0, 0), (191, .ldc2_w 155, 3, 1, 3, 0, 499967946343, 0, 0, 0), (194, .lcmp, 1, 9, 0, 0, 0, 0, 0, 0)]), (219, [(195, .ifCond .ne 7, 3, 12, 0, 0, 0, 0, 0, 0), (198, .aload_n 0, 1, 3, 0, 0, 0, 0, 0, 0), (199, .invokevirtual 281, 3, 23, 306, 0, 0, 257, 0, 0), (202, .lload_n 1, 1, 3, 0, 0, 0, 0, 0, 0), (203, .ldc2_w 165, 3, 1, 4, 0, 1935763812, 0, 0, 0), (206, .lcmp, 1, 9, 0, 0, 0, 0, 0, 0), (207, .ifCond .ne 7, 3, 12, 0, 0, 0, 0, 0, 0), (210, .aload_n 0, 1, 3, 0, 0, 0, 0, 0, 0), (211, .invokevirtual 284, 3, 23, 307, 0, 0, 256, 0, 0), (214, .lload_n 1, 1, 3, 0, 0, 0, 0, 0, 0), (215, .ldc2_w 167, 3, 1, 5, 0, 126917984746085, 0, 0, 0), (218, .lcmp, 1, 9, 0, 0, 0, 0, 0, 0)]), (239, [(219, .ifCond .ne 32, 3, 12, 0, 0, 0, 0, 0, 0), (222, .aload_n 0, 1, 3, 0, 0, 0, 0, 0, 0), (223, .getfield 39, 3, 14, 147, 0, 0, 9, 17, 3), (226, .aload_n 0, 1, 3, 0, 0, 0, 0, 0, 0), (227, .getfield 244, 3, 14, 193, 0, 0, 9, 34, 0), (230, .dup2, 1, 11, 0, 0, 0, 0, 0, 0), (231, .iaload, 1, 22, 0, 0, 0, 0, 0, 0), (232, .iconst 2, 1, 0, 0, 0, 0, 0, 0, 0), (233, .ior, 1, 7, 0, 0, 0, 0, 0, 0), (234, .iastore, 1, 17, 0, 0, 0, 0, 0, 0), (235, .aload_n 0, 1, 3, 0, 0, 0, 0, 0, 0), (236, .getfield 33, 3, 14, 145, 0, 0, 9, 15, 3)]), (260, [(239, .aload_n 0, 1, 3, 0, 0, 0, 0, 0, 0), (240, .getfield 244, 3, 14, 193, 0, 0, 9, 34, 0), (243, .aload_n 0, 1, 3, 0, 0, 0, 0, 0, 0), (244, .iconst 0, 1, 0, 0, 0, 0, 0, 0, 0), (245, .bipush 100, 2, 0, 0, 0, 0, 0, 0, 0), (247, .invokevirtual 240, 3, 23, 247, 0, 0, 245, 0, 2), (250, .iastore, 1, 17, 0, 0, 0, 0, 0, 0), (251, .lload_n 1, 1, 3, 0, 0, 0, 0, 0, 0), (252, .ldc2_w 169, 3, 1, 6, 0, 1685217655, 0, 0, 0), (255, .lcmp, 1, 9, 0, 0, 0, 0, 0, 0), (256, .ifCond .ne 33, 3, 12, 0, 0, 0, 0, 0, 0), (259, .aload_n 0, 1, 3, 0, 0, 0, 0, 0, 0)]), (280, [(260, .getfield 39, 3, 14, 147, 0, 0, 9, 17, 3), (263, .aload_n 0, 1, 3, 0, 0, 0, 0, 0, 0), (264, .getfield 244, 3, 14, 193, 0, 0, 9, 34, 0), (267, .dup2, 1, 11, 0, 0, 0, 0, 0, 0), (268, .iaload, 1, 22, 0, 0, 0, 0, 0, 0), (269, .iconst 4, 1, 0, 0, 0, 0, 0, 0, 0), (270, .ior, 1, 7, 0, 0, 0, 0, 0, 0), (271, .iastore, 1, 17, 0, 0, 0, 0, 0, 0), (272, .aload_n 0, 1, 3, 0, 0, 0, 0, 0, 0), (273, .getfield 36, 3, 14, 146, 0, 0, 9, 16, 3), (276, .aload_n 0, 1, 3, 0, 0, 0, 0, 0, 0), (277, .getfield 244, 3, 14, 193, 0, 0, 9, 34, 0)]), (300, [(280, .aload_n 0, 1, 3, 0, 0, 0, 0, 0, 0), (281, .iconst 0, 1, 0, 0, 0, 0, 0, 0, 0), (282, .sipush 999, 3, 0, 0, 0, 0, 0, 0, 0), (285, .invokevirtual 240, 3, 23, 247, 0, 0, 245, 0, 2), (288, .iastore, 1, 17, 0, 0, 0, 0, 0, 0), (289, .aload_n 0, 1, 3, 0, 0, 0, 0, 0, 0), (290, .aload_n 0, 1, 3, 0, 0, 0, 0, 0, 0), (291, .bipush 59, 2, 0, 0, 0, 0, 0, 0, 0), (293, .invokevirtual 287, 3, 23, 263, 0, 0, 222, 0, 1), (296, .invokevirtual 236, 3, 23, 246, 0, 0, 241, 0, 1), (299, .return_, 1, 21, 0, 0, 0, 0, 0, 0)])]
def ee_me255 : ee_me := (9, ⟨"PepperTablesModel", "readLine", "()V"⟩, prog_11_method_19_code, 3, none, ee_B255, 0, 0)
set_option maxRecDepth 100000 in
theorem ee_me255ok : ee_Mb ee_me255 = true := by decide +kernel
end
section
/- 256: PepperTablesModel.readRule()V -/
def ee_B256 : List (Nat × List ee_en) := [(18, [(0, .aload_n 0, 1, 3, 0, 0, 0, 0, 0, 0), (1, .getfield 39, 3, 14, 147, 0, 0, 9, 17, 3), (4, .aload_n 0, 1, 3, 0, 0, 0, 0, 0, 0), (5, .getfield 244, 3, 14, 193, 0, 0, 9, 34, 0), (8, .dup2, 1, 11, 0, 0, 0, 0, 0, 0), (9, .iaload, 1, 22, 0, 0, 0, 0, 0, 0), (10, .iconst 1, 1, 0, 0, 0, 0, 0, 0, 0), (11, .ior, 1, 7, 0, 0, 0, 0, 0, 0), (12, .iastore, 1, 17, 0, 0, 0, 0, 0, 0), (13, .aload_n 0, 1, 3, 0, 0, 0, 0, 0, 0), (14, .iconst 0, 1, 0, 0, 0, 0, 0, 0, 0), (15, .putfield 297, 3, 15, 202, 0, 0, 9, 38, 0)]), (40, [(18, .aload_n 0, 1, 3, 0, 0, 0, 0, 0, 0), (19, .getfield 57, 3, 14, 153, 0, 0, 9, 23, 3), (22, .aload_n 0, 1, 3, 0, 0, 0, 0, 0, 0), (23, .getfield 244, 3, 14, 193, 0, 0, 9, 34, 0), (26, .aload_n 0, 1, 3, 0, 0, 0, 0, 0, 0), (27, .getfield 247, 3, 14, 194, 0, 0, 9, 35, 0), (30, .iastore, 1, 17, 0, 0, 0, 0, 0, 0), (31, .aload_n 0, 1, 3, 0, 0, 0, 0, 0, 0), (32, .invokevirtual 300, 3, 23, 308, 0, 0, 181, 0, 0), (35, .aload_n 0, 1, 3, 0, 0, 0, 0, 0, 0), (36, .getfield 60, 3, 14, 154, 0, 0, 9, 24, 3), (39, .aload_n 0, 1, 3, 0, 0, 0, 0, 0, 0)]), (49, [(40, .getfield 244, 3, 14, 193, 0, 0, 9, 34, 0), (43, .aload_n 0, 1, 3, 0, 0, 0, 0, 0, 0), (44, .getfield 247, 3, 14, 194, 0, 0, 9, 35, 0), (47, .iastore, 1, 17, 0, 0, 0, 0, 0, 0), (48, .return_, 1, 21, 0, 0, 0, 0, 0, 0)])]
def ee_me256 : ee_me := (9, ⟨"PepperTablesModel", "readRule", "()V"⟩, prog_11_method_26_code, 1, none, ee_B256, 0, 0)
set_option maxRecDepth 100000 in
theorem ee_me256ok : ee_Mb ee_me256 = true := by decide +kernel
/- 257: PepperTablesModel.readThing()V -/
def ee_B257 : List (Nat × List ee_en) := [(19, [(0, .bipush 10, 2, 0, 0, 0, 0, 0, 0, 0), (2, .aload_n 0, 1, 3, 0, 0, 0, 0, 0, 0), (3, .getfield 244, 3, 14, 193, 0, 0, 9, 34, 0), (6, .imul, 1, 7, 0, 0, 0, 0, 0, 0), (7, .aload_n 0, 1, 3, 0, 0, 0, 0, 0, 0), (8, .getfield 27, 3, 14, 143, 0, 0, 9, 13, 3), (11, .aload_n 0, 1, 3, 0, 0, 0, 0, 0, 0), (12, .getfield 244, 3, 14, 193, 0, 0, 9, 34, 0), (15, .iaload, 1, 22, 0, 0, 0, 0, 0, 0), (16, .iadd, 1, 7, 0, 0, 0, 0, 0, 0), (17, .istore_n 1, 1, 4, 0, 0, 0, 0, 0, 0), (18, .aload_n 0, 1, 3, 0, 0, 0, 0, 0, 0)]), (40, [(19, .getfield 70, 3, 14, 157, 0, 0, 9, 27, 3), (22, .iload_n 1, 1, 2, 0, 0, 0, 0, 0, 0), (23, .aload_n 0, 1, 3, 0, 0, 0, 0, 0, 0), (24, .aload_n 0, 1, 3, 0, 0, 0, 0, 0, 0), (25, .aload_n 0, 1, 3, 0, 0, 0, 0, 0, 0), (26, .getfield 70, 3, 14, 157, 0, 0, 9, 27, 3), (29, .bipush 10, 2, 0, 0, 0, 0, 0, 0, 0), (31, .aload_n 0, 1, 3, 0, 0, 0, 0, 0, 0), (32, .getfield 244, 3, 14, 193, 0, 0, 9, 34, 0), (35, .imul, 1, 7, 0, 0, 0, 0, 0, 0), (36, .aload_n 0, 1, 3, 0, 0, 0, 0, 0, 0), (37, .getfield 27, 3, 14, 143, 0, 0, 9, 13, 3)]), (64, [(40, .aload_n 0, 1, 3, 0, 0, 0, 0, 0, 0), (41, .getfield 244, 3, 14, 193, 0, 0, 9, 34, 0), (44, .iaload, 1, 22, 0, 0, 0, 0, 0, 0), (45, .invokevirtual 290, 3, 23, 300, 0, 0, 199, 0, 3), (48, .invokevirtual 270, 3, 23, 303, 0, 0, 191, 0, 1), (51, .lastore, 1, 17, 0, 0, 0, 0, 0, 0), (52, .aload_n 0, 1, 3, 0, 0, 0, 0, 0, 0), (53, .aload_n 0, 1, 3, 0, 0, 0, 0, 0, 0), (54, .ldc2_w 157, 3, 1, 8, 0, 25209, 0, 0, 0), (57, .invokevirtual 233, 3, 23, 245, 0, 0, 225, 0, 1), (60, .invokevirtual 236, 3, 23, 246, 0, 0, 241, 0, 1), (63, .aload_n 0, 1, 3, 0, 0, 0, 0, 0, 0)]), (88, [(64, .getfield 45, 3, 14, 149, 0, 0, 9, 19, 3), (67, .iload_n 1, 1, 2, 0, 0, 0, 0, 0, 0), (68, .aload_n 0, 1, 3, 0, 0, 0, 0, 0, 0), (69, .aload_n 0, 1, 3, 0, 0, 0, 0, 0, 0), (70, .invokevirtual 266, 3, 23, 302, 0, 0, 249, 0, 0), (73, .invokevirtual 294, 3, 23, 309, 0, 0, 230, 0, 1), (76, .iastore, 1, 17, 0, 0, 0, 0, 0, 0), (77, .aload_n 0, 1, 3, 0, 0, 0, 0, 0, 0), (78, .aload_n 0, 1, 3, 0, 0, 0, 0, 0, 0), (79, .ldc2_w 159, 3, 1, 9, 0, 29807, 0, 0, 0), (82, .invokevirtual 233, 3, 23, 245, 0, 0, 225, 0, 1), (85, .invokevirtual 236, 3, 23, 246, 0, 0, 241, 0, 1)]), (110, [(88, .aload_n 0, 1, 3, 0, 0, 0, 0, 0, 0), (89, .invokevirtual 223, 3, 23, 276, 0, 0, 213, 0, 0), (92, .ifCond .eq 25, 3, 12, 0, 0, 0, 0, 0, 0), (95, .aload_n 0, 1, 3, 0, 0, 0, 0, 0, 0), (96, .invokevirtual 266, 3, 23, 302, 0, 0, 249, 0, 0), (99, .aload_n 0, 1, 3, 0, 0, 0, 0, 0, 0), (100, .getfield 45, 3, 14, 149, 0, 0, 9, 19, 3), (103, .iload_n 1, 1, 2, 0, 0, 0, 0, 0, 0), (104, .iaload, 1, 22, 0, 0, 0, 0, 0, 0), (105, .if_icmp .ne 12, 3, 12, 0, 0, 0, 0, 0, 0), (108, .aload_n 0, 1, 3, 0, 0, 0, 0, 0, 0), (109, .iconst 3, 1, 0, 0, 0, 0, 0, 0, 0)]), (132, [(110, .aload_n 0, 1, 3, 0, 0, 0, 0, 0, 0), (111, .getfield 188, 3, 14, 192, 0, 0, 9, 6, 0), (114, .invokevirtual 219, 3, 23, 285, 0, 0, 185, 0, 2), (117, .aload_n 0, 1, 3, 0, 0, 0, 0, 0, 0), (118, .getfield 48, 3, 14, 150, 0, 0, 9, 20, 3), (121, .iload_n 1, 1, 2, 0, 0, 0, 0, 0, 0), (122, .aload_n 0, 1, 3, 0, 0, 0, 0, 0, 0), (123, .aload_n 0, 1, 3, 0, 0, 0, 0, 0, 0), (124, .invokevirtual 266, 3, 23, 302, 0, 0, 249, 0, 0), (127, .invokevirtual 294, 3, 23, 309, 0, 0, 230, 0, 1), (130, .iastore, 1, 17, 0, 0, 0, 0, 0, 0), (131, .aload_n 0, 1, 3, 0, 0, 0, 0, 0, 0)]), (153, [(132, .getfield 51, 3, 14, 151, 0, 0, 9, 21, 3), (135, .iload_n 1, 1, 2, 0, 0, 0, 0, 0, 0), (136, .aload_n 0, 1, 3, 0, 0, 0, 0, 0, 0), (137, .ldc2_w 161, 3, 1, 10, 0, 6844276, 0, 0, 0), (140, .iconst 1, 1, 0, 0, 0, 0, 0, 0, 0), (141, .bipush 9, 2, 0, 0, 0, 0, 0, 0, 0), (143, .invokevirtual 274, 3, 23, 304, 0, 0, 158, 0, 3), (146, .iastore, 1, 17, 0, 0, 0, 0, 0, 0), (147, .aload_n 0, 1, 3, 0, 0, 0, 0, 0, 0), (148, .getfield 54, 3, 14, 152, 0, 0, 9, 22, 3), (151, .iload_n 1, 1, 2, 0, 0, 0, 0, 0, 0), (152, .iconst (-1), 1, 0, 0, 0, 0, 0, 0, 0)]), (179, [(153, .iastore, 1, 17, 0, 0, 0, 0, 0, 0), (154, .aload_n 0, 1, 3, 0, 0, 0, 0, 0, 0), (155, .invokevirtual 223, 3, 23, 276, 0, 0, 213, 0, 0), (158, .ifCond .eq 31, 3, 12, 0, 0, 0, 0, 0, 0), (161, .aload_n 0, 1, 3, 0, 0, 0, 0, 0, 0), (162, .ldc2_w 163, 3, 1, 11, 0, 26990, 0, 0, 0), (165, .invokevirtual 233, 3, 23, 245, 0, 0, 225, 0, 1), (168, .ifCond .eq 21, 3, 12, 0, 0, 0, 0, 0, 0), (171, .aload_n 0, 1, 3, 0, 0, 0, 0, 0, 0), (172, .invokevirtual 227, 3, 23, 262, 0, 0, 195, 0, 0), (175, .aload_n 0, 1, 3, 0, 0, 0, 0, 0, 0), (176, .getfield 54, 3, 14, 152, 0, 0, 9, 22, 3)]), (199, [(179, .iload_n 1, 1, 2, 0, 0, 0, 0, 0, 0), (180, .aload_n 0, 1, 3, 0, 0, 0, 0, 0, 0), (181, .aload_n 0, 1, 3, 0, 0, 0, 0, 0, 0), (182, .invokevirtual 278, 3, 23, 305, 0, 0, 264, 0, 0), (185, .invokevirtual 294, 3, 23, 309, 0, 0, 230, 0, 1), (188, .iastore, 1, 17, 0, 0, 0, 0, 0, 0), (189, .aload_n 0, 1, 3, 0, 0, 0, 0, 0, 0), (190, .getfield 27, 3, 14, 143, 0, 0, 9, 13, 3), (193, .aload_n 0, 1, 3, 0, 0, 0, 0, 0, 0), (194, .getfield 244, 3, 14, 193, 0, 0, 9, 34, 0), (197, .dup2, 1, 11, 0, 0, 0, 0, 0, 0), (198, .iaload, 1, 22, 0, 0, 0, 0, 0, 0)]), (203, [(199, .iconst 1, 1, 0, 0, 0, 0, 0, 0, 0), (200, .iadd, 1, 7, 0, 0, 0, 0, 0, 0), (201, .iastore, 1, 17, 0, 0, 0, 0, 0, 0), (202, .return_, 1, 21, 0, 0, 0, 0, 0, 0)])]
def ee_me257 : ee_me := (9, ⟨"PepperTablesModel", "readThing", "()V"⟩, prog_11_method_25_code, 2, none, ee_B257, 0, 0)
set_option maxRecDepth 100000 in
theorem ee_me257ok : ee_Mb ee_me257 = true := by decide +kernel
/- 258: PepperTablesModel.redo()Z -/
def ee_B258 : List (Nat × List ee_en) := [(20, [(0, .aload_n 0, 1, 3, 0, 0, 0, 0, 0, 0), (1, .getfield 377, 3, 14, 180, 0, 0, 9, 47, 0), (4, .ifCond .ne 5, 3, 12, 0, 0, 0, 0, 0, 0), (7, .iconst 0, 1, 0, 0, 0, 0, 0, 0, 0), (8, .ireturn, 1, 21, 0, 0, 0, 0, 0, 0), (9, .aload_n 0, 1, 3, 0, 0, 0, 0, 0, 0), (10, .invokevirtual 443, 3, 23, 310, 0, 0, 280, 0, 0), (13, .aload_n 0, 1, 3, 0, 0, 0, 0, 0, 0), (14, .dup, 1, 11, 0, 0, 0, 0, 0, 0), (15, .getfield 374, 3, 14, 179, 0, 0, 9, 46, 0), (18, .iconst 1, 1, 0, 0, 0, 0, 0, 0, 0), (19, .iadd, 1, 7, 0, 0, 0, 0, 0, 0)]), (35, [(20, .putfield 374, 3, 15, 179, 0, 0, 9, 46, 0), (23, .aload_n 0, 1, 3, 0, 0, 0, 0, 0, 0), (24, .dup, 1, 11, 0, 0, 0, 0, 0, 0), (25, .getfield 377, 3, 14, 180, 0, 0, 9, 47, 0), (28, .iconst 1, 1, 0, 0, 0, 0, 0, 0, 0), (29, .isub, 1, 7, 0, 0, 0, 0, 0, 0), (30, .putfield 377, 3, 15, 180, 0, 0, 9, 47, 0), (33, .iconst 1, 1, 0, 0, 0, 0, 0, 0, 0), (34, .ireturn, 1, 21, 0, 0, 0, 0, 0, 0)])]
def ee_me258 : ee_me := (9, ⟨"PepperTablesModel", "redo", "()Z"⟩, prog_11_method_91_code, 1, (some .boolean), ee_B258, 0, 0)
set_option maxRecDepth 100000 in
theorem ee_me258ok : ee_Mb ee_me258 = true := by decide +kernel
/- 259: PepperTablesModel.rise(I)I -/
def ee_B259 : List (Nat × List ee_en) := [(22, [(0, .aload_n 0, 1, 3, 0, 0, 0, 0, 0, 0), (1, .iload_n 1, 1, 2, 0, 0, 0, 0, 0, 0), (2, .invokevirtual 410, 3, 23, 282, 0, 0, 219, 0, 1), (5, .ifCond .eq 16, 3, 12, 0, 0, 0, 0, 0, 0), (8, .aload_n 0, 1, 3, 0, 0, 0, 0, 0, 0), (9, .getfield 88, 3, 14, 163, 0, 0, 9, 42, 3), (12, .iconst 0, 1, 0, 0, 0, 0, 0, 0, 0), (13, .iaload, 1, 22, 0, 0, 0, 0, 0, 0), (14, .iload_n 1, 1, 2, 0, 0, 0, 0, 0, 0), (15, .invokestatic 259, 3, 23, 273, 0, 0, 166, 1, 2), (18, .ifCond .ne 5, 3, 12, 0, 0, 0, 0, 0, 0), (21, .iconst (-1), 1, 0, 0, 0, 0, 0, 0, 0)]), (38, [(22, .ireturn, 1, 21, 0, 0, 0, 0, 0, 0), (23, .aload_n 0, 1, 3, 0, 0, 0, 0, 0, 0), (24, .invokevirtual 437, 3, 23, 271, 0, 0, 226, 0, 0), (27, .aload_n 0, 1, 3, 0, 0, 0, 0, 0, 0), (28, .getfield 88, 3, 14, 163, 0, 0, 9, 42, 3), (31, .iconst 0, 1, 0, 0, 0, 0, 0, 0, 0), (32, .dup2, 1, 11, 0, 0, 0, 0, 0, 0), (33, .iaload, 1, 22, 0, 0, 0, 0, 0, 0), (34, .iconst 1, 1, 0, 0, 0, 0, 0, 0, 0), (35, .iload_n 1, 1, 2, 0, 0, 0, 0, 0, 0), (36, .ishl, 1, 7, 0, 0, 0, 0, 0, 0), (37, .iconst (-1), 1, 0, 0, 0, 0, 0, 0, 0)]), (51, [(38, .ixor, 1, 7, 0, 0, 0, 0, 0, 0), (39, .iand, 1, 7, 0, 0, 0, 0, 0, 0), (40, .iastore, 1, 17, 0, 0, 0, 0, 0, 0), (41, .aload_n 0, 1, 3, 0, 0, 0, 0, 0, 0), (42, .getfield 88, 3, 14, 163, 0, 0, 9, 42, 3), (45, .iconst 0, 1, 0, 0, 0, 0, 0, 0, 0), (46, .iaload, 1, 22, 0, 0, 0, 0, 0, 0), (47, .invokestatic 339, 3, 23, 254, 0, 0, 167, 1, 1), (50, .ireturn, 1, 21, 0, 0, 0, 0, 0, 0)])]
def ee_me259 : ee_me := (9, ⟨"PepperTablesModel", "rise", "(I)I"⟩, prog_11_method_86_code, 2, (some .int), ee_B259, 0, 0)
set_option maxRecDepth 100000 in
theorem ee_me259ok : ee_Mb ee_me259 = true := by decide +kernel
/- 260: PepperTablesModel.round(II)I -/
def ee_B260 : List (Nat × List ee_en) := [(20, [(0, .aload_n 0, 1, 3, 0, 0, 0, 0, 0, 0), (1, .iconst 0, 1, 0, 0, 0, 0, 0, 0, 0), (2, .putfield 383, 3, 15, 185, 0, 0, 9, 50, 0), (5, .iload_n 1, 1, 2, 0, 0, 0, 0, 0, 0), (6, .iconst 0, 1, 0, 0, 0, 0, 0, 0, 0), (7, .iconst 4, 1, 0, 0, 0, 0, 0, 0, 0), (8, .invokestatic 361, 3, 23, 250, 0, 0, 214, 1, 3), (11, .ifCond .eq 19, 3, 12, 0, 0, 0, 0, 0, 0), (14, .iload_n 2, 1, 2, 0, 0, 0, 0, 0, 0), (15, .iconst 0, 1, 0, 0, 0, 0, 0, 0, 0), (16, .iconst 1, 1, 0, 0, 0, 0, 0, 0, 0), (17, .invokestatic 361, 3, 23, 250, 0, 0, 214, 1, 3)]), (40, [(20, .ifCond .eq 10, 3, 12, 0, 0, 0, 0, 0, 0), (23, .aload_n 0, 1, 3, 0, 0, 0, 0, 0, 0), (24, .invokevirtual 365, 3, 23, 237, 0, 0, 164, 0, 0), (27, .ifCond .ne 5, 3, 12, 0, 0, 0, 0, 0, 0), (30, .iconst (-1), 1, 0, 0, 0, 0, 0, 0, 0), (31, .ireturn, 1, 21, 0, 0, 0, 0, 0, 0), (32, .iconst 0, 1, 0, 0, 0, 0, 0, 0, 0), (33, .istore_n 3, 1, 4, 0, 0, 0, 0, 0, 0), (34, .iconst (-1), 1, 0, 0, 0, 0, 0, 0, 0), (35, .istore 4, 2, 4, 0, 0, 0, 0, 0, 0), (37, .iconst 0, 1, 0, 0, 0, 0, 0, 0, 0), (38, .istore 5, 2, 4, 0, 0, 0, 0, 0, 0)]), (63, [(40, .iload 5, 2, 2, 0, 0, 0, 0, 0, 0), (42, .aload_n 0, 1, 3, 0, 0, 0, 0, 0, 0), (43, .invokevirtual 365, 3, 23, 237, 0, 0, 164, 0, 0), (46, .iload_n 1, 1, 2, 0, 0, 0, 0, 0, 0), (47, .invokestatic 455, 3, 23, 249, 0, 0, 251, 1, 2), (50, .if_icmp .ge 87, 3, 12, 0, 0, 0, 0, 0, 0), (53, .aload_n 0, 1, 3, 0, 0, 0, 0, 0, 0), (54, .invokevirtual 458, 3, 23, 242, 0, 0, 227, 0, 0), (57, .iconst 0, 1, 0, 0, 0, 0, 0, 0, 0), (58, .istore 6, 2, 4, 0, 0, 0, 0, 0, 0), (60, .iconst 0, 1, 0, 0, 0, 0, 0, 0, 0), (61, .istore 7, 2, 4, 0, 0, 0, 0, 0, 0)]), (85, [(63, .iload 7, 2, 2, 0, 0, 0, 0, 0, 0), (65, .iload_n 1, 1, 2, 0, 0, 0, 0, 0, 0), (66, .if_icmp .ge 27, 3, 12, 0, 0, 0, 0, 0, 0), (69, .iload 6, 2, 2, 0, 0, 0, 0, 0, 0), (71, .aload_n 0, 1, 3, 0, 0, 0, 0, 0, 0), (72, .aload_n 0, 1, 3, 0, 0, 0, 0, 0, 0), (73, .iload 5, 2, 2, 0, 0, 0, 0, 0, 0), (75, .iload_n 1, 1, 2, 0, 0, 0, 0, 0, 0), (76, .iload 7, 2, 2, 0, 0, 0, 0, 0, 0), (78, .invokevirtual 461, 3, 23, 311, 0, 0, 208, 0, 3), (81, .invokevirtual 440, 3, 23, 243, 0, 0, 194, 0, 1), (84, .ior, 1, 7, 0, 0, 0, 0, 0, 0)]), (111, [(85, .istore 6, 2, 4, 0, 0, 0, 0, 0, 0), (87, .iinc 7 1, 3, 6, 0, 0, 0, 0, 0, 0), (90, .goto (-27), 3, 0, 0, 0, 0, 0, 0, 0), (93, .aload_n 0, 1, 3, 0, 0, 0, 0, 0, 0), (94, .invokevirtual 464, 3, 23, 244, 0, 0, 169, 0, 0), (97, .bipush 100, 2, 0, 0, 0, 0, 0, 0, 0), (99, .iload 6, 2, 2, 0, 0, 0, 0, 0, 0), (101, .invokestatic 339, 3, 23, 254, 0, 0, 167, 1, 1), (104, .imul, 1, 7, 0, 0, 0, 0, 0, 0), (105, .aload_n 0, 1, 3, 0, 0, 0, 0, 0, 0), (106, .iload 6, 2, 2, 0, 0, 0, 0, 0, 0), (108, .invokevirtual 348, 3, 23, 239, 0, 0, 198, 0, 1)]), (137, [(111, .iadd, 1, 7, 0, 0, 0, 0, 0, 0), (112, .istore 7, 2, 4, 0, 0, 0, 0, 0, 0), (114, .iload 7, 2, 2, 0, 0, 0, 0, 0, 0), (116, .iload 4, 2, 2, 0, 0, 0, 0, 0, 0), (118, .if_icmp .gt 6, 3, 12, 0, 0, 0, 0, 0, 0), (121, .goto 10, 3, 0, 0, 0, 0, 0, 0, 0), (124, .iload 5, 2, 2, 0, 0, 0, 0, 0, 0), (126, .istore_n 3, 1, 4, 0, 0, 0, 0, 0, 0), (127, .iload 7, 2, 2, 0, 0, 0, 0, 0, 0), (129, .istore 4, 2, 4, 0, 0, 0, 0, 0, 0), (131, .iinc 5 1, 3, 6, 0, 0, 0, 0, 0, 0), (134, .goto (-94), 3, 0, 0, 0, 0, 0, 0, 0)]), (157, [(137, .iconst 0, 1, 0, 0, 0, 0, 0, 0, 0), (138, .istore 5, 2, 4, 0, 0, 0, 0, 0, 0), (140, .iload 5, 2, 2, 0, 0, 0, 0, 0, 0), (142, .iload_n 1, 1, 2, 0, 0, 0, 0, 0, 0), (143, .if_icmp .ge 24, 3, 12, 0, 0, 0, 0, 0, 0), (146, .aload_n 0, 1, 3, 0, 0, 0, 0, 0, 0), (147, .getfield 100, 3, 14, 167, 0, 0, 9, 49, 3), (150, .iload 5, 2, 2, 0, 0, 0, 0, 0, 0), (152, .aload_n 0, 1, 3, 0, 0, 0, 0, 0, 0), (153, .iload_n 3, 1, 2, 0, 0, 0, 0, 0, 0), (154, .iload_n 1, 1, 2, 0, 0, 0, 0, 0, 0), (155, .iload 5, 2, 2, 0, 0, 0, 0, 0, 0)]), (181, [(157, .invokevirtual 461, 3, 23, 311, 0, 0, 208, 0, 3), (160, .iastore, 1, 17, 0, 0, 0, 0, 0, 0), (161, .iinc 5 1, 3, 6, 0, 0, 0, 0, 0, 0), (164, .goto (-24), 3, 0, 0, 0, 0, 0, 0, 0), (167, .aload_n 0, 1, 3, 0, 0, 0, 0, 0, 0), (168, .iload_n 1, 1, 2, 0, 0, 0, 0, 0, 0), (169, .putfield 383, 3, 15, 185, 0, 0, 9, 50, 0), (172, .iload_n 2, 1, 2, 0, 0, 0, 0, 0, 0), (173, .ifCond .ne 11, 3, 12, 0, 0, 0, 0, 0, 0), (176, .iload 4, 2, 2, 0, 0, 0, 0, 0, 0), (178, .bipush 100, 2, 0, 0, 0, 0, 0, 0, 0), (180, .idiv, 1, 8, 0, 0, 0, 0, 0, 0)]), (190, [(181, .goto 8, 3, 0, 0, 0, 0, 0, 0, 0), (184, .iload 4, 2, 2, 0, 0, 0, 0, 0, 0), (186, .bipush 100, 2, 0, 0, 0, 0, 0, 0, 0), (188, .irem, 1, 8, 0, 0, 0, 0, 0, 0), (189, .ireturn, 1, 21, 0, 0, 0, 0, 0, 0)])]
def ee_me260 : ee_me := (9, ⟨"PepperTablesModel", "round", "(II)I"⟩, prog_11_method_107_code, 8, (some .int), ee_B260, 0, 0)
set_option maxRecDepth 100000 in
theorem ee_me260ok : ee_Mb ee_me260 = true := by decide +kernel
/- 261: PepperTablesModel.rows(I)I -/
def ee_B261 : List (Nat × List ee_en) := [(10, [(0, .aload_n 0, 1, 3, 0, 0, 0, 0, 0, 0), (1, .iload_n 1, 1, 2, 0, 0, 0, 0, 0, 0), (2, .invokevirtual 504, 3, 23, 251, 0, 0, 234, 0, 1), (5, .aload_n 0, 1, 3, 0, 0, 0, 0, 0, 0), (6, .getfield 492, 3, 14, 186, 0, 0, 9, 62, 0), (9, .ireturn, 1, 21, 0, 0, 0, 0, 0, 0)])]
def ee_me261 : ee_me := (9, ⟨"PepperTablesModel", "rows", "(I)I"⟩, prog_11_method_131_code, 2, (some .int), ee_B261, 0, 0)
set_option maxRecDepth 100000 in
theorem ee_me261ok : ee_Mb ee_me261 = true := by decide +kernel
/- 262: PepperTablesModel.rumour(II)I -/
def ee_B262 : List (Nat × List ee_en) := [(20, [(0, .aload_n 0, 1, 3, 0, 0, 0, 0, 0, 0), (1, .iload_n 1, 1, 2, 0, 0, 0, 0, 0, 0), (2, .invokevirtual 410, 3, 23, 282, 0, 0, 219, 0, 1), (5, .ifCond .eq 11, 3, 12, 0, 0, 0, 0, 0, 0), (8, .aload_n 0, 1, 3, 0, 0, 0, 0, 0, 0), (9, .iload_n 2, 1, 2, 0, 0, 0, 0, 0, 0), (10, .invokevirtual 410, 3, 23, 282, 0, 0, 219, 0, 1), (13, .ifCond .ne 5, 3, 12, 0, 0, 0, 0, 0, 0), (16, .iconst (-1), 1, 0, 0, 0, 0, 0, 0, 0), (17, .ireturn, 1, 21, 0, 0, 0, 0, 0, 0), (18, .iconst 1, 1, 0, 0, 0, 0, 0, 0, 0), (19, .iload_n 1, 1, 2, 0, 0, 0, 0, 0, 0)]), (42, [(20, .ishl, 1, 7, 0, 0, 0, 0, 0, 0), (21, .istore_n 3, 1, 4, 0, 0, 0, 0, 0, 0), (22, .iconst 0, 1, 0, 0, 0, 0, 0, 0, 0), (23, .istore 4, 2, 4, 0, 0, 0, 0, 0, 0), (25, .iload 4, 2, 2, 0, 0, 0, 0, 0, 0), (27, .bipush 6, 2, 0, 0, 0, 0, 0, 0, 0), (29, .if_icmp .ge 79, 3, 12, 0, 0, 0, 0, 0, 0), (32, .iload_n 3, 1, 2, 0, 0, 0, 0, 0, 0), (33, .iload_n 2, 1, 2, 0, 0, 0, 0, 0, 0), (34, .invokestatic 259, 3, 23, 273, 0, 0, 166, 1, 2), (37, .ifCond .eq 6, 3, 12, 0, 0, 0, 0, 0, 0), (40, .iload 4, 2, 2, 0, 0, 0, 0, 0, 0)]), (64, [(42, .ireturn, 1, 21, 0, 0, 0, 0, 0, 0), (43, .iload_n 3, 1, 2, 0, 0, 0, 0, 0, 0), (44, .istore 5, 2, 4, 0, 0, 0, 0, 0, 0), (46, .iconst 0, 1, 0, 0, 0, 0, 0, 0, 0), (47, .istore 6, 2, 4, 0, 0, 0, 0, 0, 0), (49, .iload 6, 2, 2, 0, 0, 0, 0, 0, 0), (51, .aload_n 0, 1, 3, 0, 0, 0, 0, 0, 0), (52, .invokevirtual 368, 3, 23, 235, 0, 0, 238, 0, 0), (55, .if_icmp .ge 44, 3, 12, 0, 0, 0, 0, 0, 0), (58, .aload_n 0, 1, 3, 0, 0, 0, 0, 0, 0), (59, .iload 6, 2, 2, 0, 0, 0, 0, 0, 0), (61, .invokevirtual 386, 3, 23, 241, 0, 0, 223, 0, 1)]), (89, [(64, .ifCond .ne 29, 3, 12, 0, 0, 0, 0, 0, 0), (67, .iload_n 3, 1, 2, 0, 0, 0, 0, 0, 0), (68, .aload_n 0, 1, 3, 0, 0, 0, 0, 0, 0), (69, .iload 6, 2, 2, 0, 0, 0, 0, 0, 0), (71, .invokevirtual 389, 3, 23, 266, 0, 0, 192, 0, 1), (74, .invokestatic 259, 3, 23, 273, 0, 0, 166, 1, 2), (77, .ifCond .eq 16, 3, 12, 0, 0, 0, 0, 0, 0), (80, .iload 5, 2, 2, 0, 0, 0, 0, 0, 0), (82, .iconst 1, 1, 0, 0, 0, 0, 0, 0, 0), (83, .aload_n 0, 1, 3, 0, 0, 0, 0, 0, 0), (84, .iload 6, 2, 2, 0, 0, 0, 0, 0, 0), (86, .invokevirtual 392, 3, 23, 274, 0, 0, 288, 0, 1)]), (110, [(89, .ishl, 1, 7, 0, 0, 0, 0, 0, 0), (90, .ior, 1, 7, 0, 0, 0, 0, 0, 0), (91, .istore 5, 2, 4, 0, 0, 0, 0, 0, 0), (93, .iinc 6 1, 3, 6, 0, 0, 0, 0, 0, 0), (96, .goto (-47), 3, 0, 0, 0, 0, 0, 0, 0), (99, .iload 5, 2, 2, 0, 0, 0, 0, 0, 0), (101, .istore_n 3, 1, 4, 0, 0, 0, 0, 0, 0), (102, .iinc 4 1, 3, 6, 0, 0, 0, 0, 0, 0), (105, .goto (-80), 3, 0, 0, 0, 0, 0, 0, 0), (108, .iconst (-1), 1, 0, 0, 0, 0, 0, 0, 0), (109, .ireturn, 1, 21, 0, 0, 0, 0, 0, 0)])]
def ee_me262 : ee_me := (9, ⟨"PepperTablesModel", "rumour", "(II)I"⟩, prog_11_method_120_code, 7, (some .int), ee_B262, 0, 0)
set_option maxRecDepth 100000 in
theorem ee_me262ok : ee_Mb ee_me262 = true := by decide +kernel
/- 263: PepperTablesModel.sack(II)I -/
def ee_B263 : List (Nat × List ee_en) := [(42, [(0, .aload_n 0, 1, 3, 0, 0, 0, 0, 0, 0), (1, .iload_n 1, 1, 2, 0, 0, 0, 0, 0, 0), (2, .invokevirtual 425, 3, 23, 264, 0, 0, 220, 0, 1), (5, .ifCond .ne 5, 3, 12, 0, 0, 0, 0, 0, 0), (8, .iconst (-1), 1, 0, 0, 0, 0, 0, 0, 0), (9, .ireturn, 1, 21, 0, 0, 0, 0, 0, 0), (10, .iload_n 2, 1, 2, 0, 0, 0, 0, 0, 0), (11, .tableswitch 51 0 2 #[25, 35, 41], 25, 13, 0, 0, 0, 0, 0, 0), (36, .aload_n 0, 1, 3, 0, 0, 0, 0, 0, 0), (37, .aload_n 0, 1, 3, 0, 0, 0, 0, 0, 0), (38, .iload_n 1, 1, 2, 0, 0, 0, 0, 0, 0), (39, .invokevirtual 345, 3, 23, 255, 0, 0, 206, 0, 1)]), (61, [(42, .invokevirtual 348, 3, 23, 239, 0, 0, 198, 0, 1), (45, .ireturn, 1, 21, 0, 0, 0, 0, 0, 0), (46, .aload_n 0, 1, 3, 0, 0, 0, 0, 0, 0), (47, .iload_n 1, 1, 2, 0, 0, 0, 0, 0, 0), (48, .invokevirtual 345, 3, 23, 255, 0, 0, 206, 0, 1), (51, .ireturn, 1, 21, 0, 0, 0, 0, 0, 0), (52, .aload_n 0, 1, 3, 0, 0, 0, 0, 0, 0), (53, .getfield 88, 3, 14, 163, 0, 0, 9, 42, 3), (56, .bipush 12, 2, 0, 0, 0, 0, 0, 0, 0), (58, .iload_n 1, 1, 2, 0, 0, 0, 0, 0, 0), (59, .iadd, 1, 7, 0, 0, 0, 0, 0, 0), (60, .iaload, 1, 22, 0, 0, 0, 0, 0, 0)]), (64, [(61, .ireturn, 1, 21, 0, 0, 0, 0, 0, 0), (62, .iconst (-1), 1, 0, 0, 0, 0, 0, 0, 0), (63, .ireturn, 1, 21, 0, 0, 0, 0, 0, 0)])]
def ee_me263 : ee_me := (9, ⟨"PepperTablesModel", "sack", "(II)I"⟩, prog_11_method_70_code, 3, (some .int), ee_B263, 0, 0)
set_option maxRecDepth 100000 in
theorem ee_me263ok : ee_Mb ee_me263 = true := by decide +kernel
/- 264: PepperTablesModel.sackHere()I -/
def ee_B264 : List (Nat × List ee_en) := [(20, [(0, .aload_n 0, 1, 3, 0, 0, 0, 0, 0, 0), (1, .aload_n 0, 1, 3, 0, 0, 0, 0, 0, 0), (2, .getfield 67, 3, 14, 156, 0, 0, 9, 26, 3), (5, .iconst 5, 1, 0, 0, 0, 0, 0, 0, 0), (6, .aload_n 0, 1, 3, 0, 0, 0, 0, 0, 0), (7, .getfield 244, 3, 14, 193, 0, 0, 9, 34, 0), (10, .imul, 1, 7, 0, 0, 0, 0, 0, 0), (11, .aload_n 0, 1, 3, 0, 0, 0, 0, 0, 0), (12, .getfield 24, 3, 14, 142, 0, 0, 9, 12, 3), (15, .aload_n 0, 1, 3, 0, 0, 0, 0, 0, 0), (16, .getfield 244, 3, 14, 193, 0, 0, 9, 34, 0), (19, .iaload, 1, 22, 0, 0, 0, 0, 0, 0)]), (24, [(20, .invokevirtual 290, 3, 23, 300, 0, 0, 199, 0, 3), (23, .ireturn, 1, 21, 0, 0, 0, 0, 0, 0)])]
def ee_me264 : ee_me := (9, ⟨"PepperTablesModel", "sackHere", "()I"⟩, prog_11_method_22_code, 1, (some .int), ee_B264, 0, 0)
set_option maxRecDepth 100000 in
theorem ee_me264ok : ee_Mb ee_me264 = true := by decide +kernel
/- 265: PepperTablesModel.sackIn(II)I -/
def ee_B265 : List (Nat × List ee_en) := [(20, [(0, .iload_n 2, 1, 2, 0, 0, 0, 0, 0, 0), (1, .ifCond .ne 14, 3, 12, 0, 0, 0, 0, 0, 0), (4, .iload_n 1, 1, 2, 0, 0, 0, 0, 0, 0), (5, .aload_n 0, 1, 3, 0, 0, 0, 0, 0, 0), (6, .invokevirtual 365, 3, 23, 237, 0, 0, 164, 0, 0), (9, .iconst 1, 1, 0, 0, 0, 0, 0, 0, 0), (10, .iadd, 1, 7, 0, 0, 0, 0, 0, 0), (11, .irem, 1, 8, 0, 0, 0, 0, 0, 0), (12, .goto 11, 3, 0, 0, 0, 0, 0, 0, 0), (15, .iload_n 1, 1, 2, 0, 0, 0, 0, 0, 0), (16, .aload_n 0, 1, 3, 0, 0, 0, 0, 0, 0), (17, .invokevirtual 365, 3, 23, 237, 0, 0, 164, 0, 0)]), (24, [(20, .iconst 1, 1, 0, 0, 0, 0, 0, 0, 0), (21, .iadd, 1, 7, 0, 0, 0, 0, 0, 0), (22, .idiv, 1, 8, 0, 0, 0, 0, 0, 0), (23, .ireturn, 1, 21, 0, 0, 0, 0, 0, 0)])]
def ee_me265 : ee_me := (9, ⟨"PepperTablesModel", "sackIn", "(II)I"⟩, prog_11_method_126_code, 3, (some .int), ee_B265, 0, 0)
set_option maxRecDepth 100000 in
theorem ee_me265ok : ee_Mb ee_me265 = true := by decide +kernel
/- 266: PepperTablesModel.saidBy(I)I -/
def ee_B266 : List (Nat × List ee_en) := [(20, [(0, .iconst 0, 1, 0, 0, 0, 0, 0, 0, 0), (1, .istore_n 2, 1, 4, 0, 0, 0, 0, 0, 0), (2, .iconst 0, 1, 0, 0, 0, 0, 0, 0, 0), (3, .istore_n 3, 1, 4, 0, 0, 0, 0, 0, 0), (4, .iload_n 3, 1, 2, 0, 0, 0, 0, 0, 0), (5, .aload_n 0, 1, 3, 0, 0, 0, 0, 0, 0), (6, .invokevirtual 365, 3, 23, 237, 0, 0, 164, 0, 0), (9, .if_icmp .ge 25, 3, 12, 0, 0, 0, 0, 0, 0), (12, .iload_n 1, 1, 2, 0, 0, 0, 0, 0, 0), (13, .iload_n 3, 1, 2, 0, 0, 0, 0, 0, 0), (14, .invokestatic 259, 3, 23, 273, 0, 0, 166, 1, 2), (17, .ifCond .eq 11, 3, 12, 0, 0, 0, 0, 0, 0)]), (36, [(20, .iload_n 2, 1, 2, 0, 0, 0, 0, 0, 0), (21, .aload_n 0, 1, 3, 0, 0, 0, 0, 0, 0), (22, .iload_n 3, 1, 2, 0, 0, 0, 0, 0, 0), (23, .invokevirtual 407, 3, 23, 265, 0, 0, 292, 0, 1), (26, .ior, 1, 7, 0, 0, 0, 0, 0, 0), (27, .istore_n 2, 1, 4, 0, 0, 0, 0, 0, 0), (28, .iinc 3 1, 3, 6, 0, 0, 0, 0, 0, 0), (31, .goto (-27), 3, 0, 0, 0, 0, 0, 0, 0), (34, .iload_n 2, 1, 2, 0, 0, 0, 0, 0, 0), (35, .ireturn, 1, 21, 0, 0, 0, 0, 0, 0)])]
def ee_me266 : ee_me := (9, ⟨"PepperTablesModel", "saidBy", "(I)I"⟩, prog_11_method_65_code, 4, (some .int), ee_B266, 0, 0)
set_option maxRecDepth 100000 in
theorem ee_me266ok : ee_Mb ee_me266 = true := by decide +kernel
/- 267: PepperTablesModel.saidWith(I)I -/
def ee_B267 : List (Nat × List ee_en) := [(16, [(0, .aload_n 0, 1, 3, 0, 0, 0, 0, 0, 0), (1, .getfield 88, 3, 14, 163, 0, 0, 9, 42, 3), (4, .iconst 0, 1, 0, 0, 0, 0, 0, 0, 0), (5, .iaload, 1, 22, 0, 0, 0, 0, 0, 0), (6, .istore_n 2, 1, 4, 0, 0, 0, 0, 0, 0), (7, .aload_n 0, 1, 3, 0, 0, 0, 0, 0, 0), (8, .getfield 88, 3, 14, 163, 0, 0, 9, 42, 3), (11, .iconst 0, 1, 0, 0, 0, 0, 0, 0, 0), (12, .iload_n 1, 1, 2, 0, 0, 0, 0, 0, 0), (13, .iastore, 1, 17, 0, 0, 0, 0, 0, 0), (14, .aload_n 0, 1, 3, 0, 0, 0, 0, 0, 0), (15, .aload_n 0, 1, 3, 0, 0, 0, 0, 0, 0)]), (32, [(16, .invokevirtual 428, 3, 23, 279, 0, 0, 160, 0, 0), (19, .invokevirtual 431, 3, 23, 280, 0, 0, 266, 0, 1), (22, .istore_n 3, 1, 4, 0, 0, 0, 0, 0, 0), (23, .aload_n 0, 1, 3, 0, 0, 0, 0, 0, 0), (24, .getfield 88, 3, 14, 163, 0, 0, 9, 42, 3), (27, .iconst 0, 1, 0, 0, 0, 0, 0, 0, 0), (28, .iload_n 2, 1, 2, 0, 0, 0, 0, 0, 0), (29, .iastore, 1, 17, 0, 0, 0, 0, 0, 0), (30, .iload_n 3, 1, 2, 0, 0, 0, 0, 0, 0), (31, .ireturn, 1, 21, 0, 0, 0, 0, 0, 0)])]
def ee_me267 : ee_me := (9, ⟨"PepperTablesModel", "saidWith", "(I)I"⟩, prog_11_method_96_code, 4, (some .int), ee_B267, 0, 0)
set_option maxRecDepth 100000 in
theorem ee_me267ok : ee_Mb ee_me267 = true := by decide +kernel
end
section
/- 268: PepperTablesModel.scandal()I -/
def ee_B268 : List (Nat × List ee_en) := [(11, [(0, .aload_n 0, 1, 3, 0, 0, 0, 0, 0, 0), (1, .aload_n 0, 1, 3, 0, 0, 0, 0, 0, 0), (2, .getfield 88, 3, 14, 163, 0, 0, 9, 42, 3), (5, .iconst 1, 1, 0, 0, 0, 0, 0, 0, 0), (6, .iaload, 1, 22, 0, 0, 0, 0, 0, 0), (7, .invokevirtual 348, 3, 23, 239, 0, 0, 198, 0, 1), (10, .ireturn, 1, 21, 0, 0, 0, 0, 0, 0)])]
def ee_me268 : ee_me := (9, ⟨"PepperTablesModel", "scandal", "()I"⟩, prog_11_method_78_code, 1, (some .int), ee_B268, 0, 0)
set_option maxRecDepth 100000 in
theorem ee_me268ok : ee_Mb ee_me268 = true := by decide +kernel
/- 269: PepperTablesModel.send(II)I -/
def ee_B269 : List (Nat × List ee_en) := [(20, [(0, .aload_n 0, 1, 3, 0, 0, 0, 0, 0, 0), (1, .iload_n 1, 1, 2, 0, 0, 0, 0, 0, 0), (2, .invokevirtual 425, 3, 23, 264, 0, 0, 220, 0, 1), (5, .ifCond .eq 12, 3, 12, 0, 0, 0, 0, 0, 0), (8, .iload_n 2, 1, 2, 0, 0, 0, 0, 0, 0), (9, .iconst 0, 1, 0, 0, 0, 0, 0, 0, 0), (10, .iconst 1, 1, 0, 0, 0, 0, 0, 0, 0), (11, .invokestatic 361, 3, 23, 250, 0, 0, 214, 1, 3), (14, .ifCond .ne 5, 3, 12, 0, 0, 0, 0, 0, 0), (17, .iconst (-1), 1, 0, 0, 0, 0, 0, 0, 0), (18, .ireturn, 1, 21, 0, 0, 0, 0, 0, 0), (19, .aload_n 0, 1, 3, 0, 0, 0, 0, 0, 0)]), (40, [(20, .getfield 88, 3, 14, 163, 0, 0, 9, 42, 3), (23, .iconst 0, 1, 0, 0, 0, 0, 0, 0, 0), (24, .iaload, 1, 22, 0, 0, 0, 0, 0, 0), (25, .istore_n 3, 1, 4, 0, 0, 0, 0, 0, 0), (26, .iconst 0, 1, 0, 0, 0, 0, 0, 0, 0), (27, .istore 4, 2, 4, 0, 0, 0, 0, 0, 0), (29, .iload 4, 2, 2, 0, 0, 0, 0, 0, 0), (31, .aload_n 0, 1, 3, 0, 0, 0, 0, 0, 0), (32, .getfield 88, 3, 14, 163, 0, 0, 9, 42, 3), (35, .iconst 0, 1, 0, 0, 0, 0, 0, 0, 0), (36, .iaload, 1, 22, 0, 0, 0, 0, 0, 0), (37, .if_icmp .gt 57, 3, 12, 0, 0, 0, 0, 0, 0)]), (60, [(40, .iload 4, 2, 2, 0, 0, 0, 0, 0, 0), (42, .aload_n 0, 1, 3, 0, 0, 0, 0, 0, 0), (43, .getfield 88, 3, 14, 163, 0, 0, 9, 42, 3), (46, .iconst 0, 1, 0, 0, 0, 0, 0, 0, 0), (47, .iaload, 1, 22, 0, 0, 0, 0, 0, 0), (48, .iconst (-1), 1, 0, 0, 0, 0, 0, 0, 0), (49, .ixor, 1, 7, 0, 0, 0, 0, 0, 0), (50, .iand, 1, 7, 0, 0, 0, 0, 0, 0), (51, .ifCond .ne 37, 3, 12, 0, 0, 0, 0, 0, 0), (54, .iload 4, 2, 2, 0, 0, 0, 0, 0, 0), (56, .invokestatic 339, 3, 23, 254, 0, 0, 167, 1, 1), (59, .iload_n 3, 1, 2, 0, 0, 0, 0, 0, 0)]), (79, [(60, .invokestatic 339, 3, 23, 254, 0, 0, 167, 1, 1), (63, .if_icmp .ge 25, 3, 12, 0, 0, 0, 0, 0, 0), (66, .aload_n 0, 1, 3, 0, 0, 0, 0, 0, 0), (67, .aload_n 0, 1, 3, 0, 0, 0, 0, 0, 0), (68, .getfield 88, 3, 14, 163, 0, 0, 9, 42, 3), (71, .iconst 0, 1, 0, 0, 0, 0, 0, 0, 0), (72, .iaload, 1, 22, 0, 0, 0, 0, 0, 0), (73, .iload 4, 2, 2, 0, 0, 0, 0, 0, 0), (75, .iconst (-1), 1, 0, 0, 0, 0, 0, 0, 0), (76, .ixor, 1, 7, 0, 0, 0, 0, 0, 0), (77, .iand, 1, 7, 0, 0, 0, 0, 0, 0), (78, .iload_n 1, 1, 2, 0, 0, 0, 0, 0, 0)]), (106, [(79, .invokevirtual 446, 3, 23, 312, 0, 0, 293, 0, 2), (82, .ifCond .ne 6, 3, 12, 0, 0, 0, 0, 0, 0), (85, .iload 4, 2, 2, 0, 0, 0, 0, 0, 0), (87, .istore_n 3, 1, 4, 0, 0, 0, 0, 0, 0), (88, .iinc 4 1, 3, 6, 0, 0, 0, 0, 0, 0), (91, .goto (-62), 3, 0, 0, 0, 0, 0, 0, 0), (94, .iload_n 2, 1, 2, 0, 0, 0, 0, 0, 0), (95, .ifCond .ne 10, 3, 12, 0, 0, 0, 0, 0, 0), (98, .iload_n 3, 1, 2, 0, 0, 0, 0, 0, 0), (99, .invokestatic 339, 3, 23, 254, 0, 0, 167, 1, 1), (102, .goto 4, 3, 0, 0, 0, 0, 0, 0, 0), (105, .iload_n 3, 1, 2, 0, 0, 0, 0, 0, 0)]), (107, [(106, .ireturn, 1, 21, 0, 0, 0, 0, 0, 0)])]
def ee_me269 : ee_me := (9, ⟨"PepperTablesModel", "send", "(II)I"⟩, prog_11_method_99_code, 5, (some .int), ee_B269, 0, 0)
set_option maxRecDepth 100000 in
theorem ee_me269ok : ee_Mb ee_me269 = true := by decide +kernel
/- 270: PepperTablesModel.shyest(I)I -/
def ee_B270 : List (Nat × List ee_en) := [(22, [(0, .aload_n 0, 1, 3, 0, 0, 0, 0, 0, 0), (1, .iload_n 1, 1, 2, 0, 0, 0, 0, 0, 0), (2, .invokevirtual 422, 3, 23, 240, 0, 0, 224, 0, 1), (5, .ifCond .eq 22, 3, 12, 0, 0, 0, 0, 0, 0), (8, .aload_n 0, 1, 3, 0, 0, 0, 0, 0, 0), (9, .iload_n 1, 1, 2, 0, 0, 0, 0, 0, 0), (10, .invokevirtual 386, 3, 23, 241, 0, 0, 223, 0, 1), (13, .ifCond .eq 14, 3, 12, 0, 0, 0, 0, 0, 0), (16, .aload_n 0, 1, 3, 0, 0, 0, 0, 0, 0), (17, .getfield 88, 3, 14, 163, 0, 0, 9, 42, 3), (20, .iconst 2, 1, 0, 0, 0, 0, 0, 0, 0), (21, .iload_n 1, 1, 2, 0, 0, 0, 0, 0, 0)]), (38, [(22, .iadd, 1, 7, 0, 0, 0, 0, 0, 0), (23, .iaload, 1, 22, 0, 0, 0, 0, 0, 0), (24, .ifCond .ge 5, 3, 12, 0, 0, 0, 0, 0, 0), (27, .iconst (-1), 1, 0, 0, 0, 0, 0, 0, 0), (28, .ireturn, 1, 21, 0, 0, 0, 0, 0, 0), (29, .iconst (-1), 1, 0, 0, 0, 0, 0, 0, 0), (30, .istore_n 2, 1, 4, 0, 0, 0, 0, 0, 0), (31, .aload_n 0, 1, 3, 0, 0, 0, 0, 0, 0), (32, .iload_n 1, 1, 2, 0, 0, 0, 0, 0, 0), (33, .putfield 91, 3, 15, 164, 0, 0, 9, 43, 0), (36, .iconst 0, 1, 0, 0, 0, 0, 0, 0, 0), (37, .istore_n 3, 1, 4, 0, 0, 0, 0, 0, 0)]), (57, [(38, .iload_n 3, 1, 2, 0, 0, 0, 0, 0, 0), (39, .bipush 9, 2, 0, 0, 0, 0, 0, 0, 0), (41, .if_icmp .gt 32, 3, 12, 0, 0, 0, 0, 0, 0), (44, .aload_n 0, 1, 3, 0, 0, 0, 0, 0, 0), (45, .iload_n 3, 1, 2, 0, 0, 0, 0, 0, 0), (46, .putfield 398, 3, 15, 201, 0, 0, 9, 44, 0), (49, .aload_n 0, 1, 3, 0, 0, 0, 0, 0, 0), (50, .iload_n 1, 1, 2, 0, 0, 0, 0, 0, 0), (51, .aload_n 0, 1, 3, 0, 0, 0, 0, 0, 0), (52, .getfield 88, 3, 14, 163, 0, 0, 9, 42, 3), (55, .iconst 2, 1, 0, 0, 0, 0, 0, 0, 0), (56, .iload_n 1, 1, 2, 0, 0, 0, 0, 0, 0)]), (79, [(57, .iadd, 1, 7, 0, 0, 0, 0, 0, 0), (58, .iaload, 1, 22, 0, 0, 0, 0, 0, 0), (59, .invokevirtual 404, 3, 23, 313, 0, 0, 216, 0, 2), (62, .ifCond .eq 5, 3, 12, 0, 0, 0, 0, 0, 0), (65, .iload_n 3, 1, 2, 0, 0, 0, 0, 0, 0), (66, .istore_n 2, 1, 4, 0, 0, 0, 0, 0, 0), (67, .iinc 3 1, 3, 6, 0, 0, 0, 0, 0, 0), (70, .goto (-32), 3, 0, 0, 0, 0, 0, 0, 0), (73, .aload_n 0, 1, 3, 0, 0, 0, 0, 0, 0), (74, .iconst (-1), 1, 0, 0, 0, 0, 0, 0, 0), (75, .putfield 91, 3, 15, 164, 0, 0, 9, 43, 0), (78, .iload_n 2, 1, 2, 0, 0, 0, 0, 0, 0)]), (80, [(79, .ireturn, 1, 21, 0, 0, 0, 0, 0, 0)])]
def ee_me270 : ee_me := (9, ⟨"PepperTablesModel", "shyest", "(I)I"⟩, prog_11_method_114_code, 4, (some .int), ee_B270, 0, 0)
set_option maxRecDepth 100000 in
theorem ee_me270ok : ee_Mb ee_me270 = true := by decide +kernel
/- 271: PepperTablesModel.sign(I)I -/
def ee_B271 : List (Nat × List ee_en) := [(22, [(0, .iload_n 1, 1, 2, 0, 0, 0, 0, 0, 0), (1, .aload_n 0, 1, 3, 0, 0, 0, 0, 0, 0), (2, .getfield 143, 3, 14, 199, 0, 0, 9, 3, 0), (5, .if_icmp .ge 16, 3, 12, 0, 0, 0, 0, 0, 0), (8, .aload_n 0, 1, 3, 0, 0, 0, 0, 0, 0), (9, .getfield 13, 3, 14, 139, 0, 0, 9, 1, 3), (12, .iload_n 1, 1, 2, 0, 0, 0, 0, 0, 0), (13, .baload, 1, 22, 0, 0, 0, 0, 0, 0), (14, .sipush 255, 3, 0, 0, 0, 0, 0, 0, 0), (17, .iand, 1, 7, 0, 0, 0, 0, 0, 0), (18, .goto 4, 3, 0, 0, 0, 0, 0, 0, 0), (21, .iconst 0, 1, 0, 0, 0, 0, 0, 0, 0)]), (23, [(22, .ireturn, 1, 21, 0, 0, 0, 0, 0, 0)])]
def ee_me271 : ee_me := (9, ⟨"PepperTablesModel", "sign", "(I)I"⟩, prog_11_method_2_code, 2, (some .int), ee_B271, 0, 0)
set_option maxRecDepth 100000 in
theorem ee_me271ok : ee_Mb ee_me271 = true := by decide +kernel
/- 272: PepperTablesModel.sit(I)I -/
def ee_B272 : List (Nat × List ee_en) := [(22, [(0, .aload_n 0, 1, 3, 0, 0, 0, 0, 0, 0), (1, .iload_n 1, 1, 2, 0, 0, 0, 0, 0, 0), (2, .invokevirtual 410, 3, 23, 282, 0, 0, 219, 0, 1), (5, .ifCond .eq 16, 3, 12, 0, 0, 0, 0, 0, 0), (8, .aload_n 0, 1, 3, 0, 0, 0, 0, 0, 0), (9, .getfield 88, 3, 14, 163, 0, 0, 9, 42, 3), (12, .iconst 0, 1, 0, 0, 0, 0, 0, 0, 0), (13, .iaload, 1, 22, 0, 0, 0, 0, 0, 0), (14, .iload_n 1, 1, 2, 0, 0, 0, 0, 0, 0), (15, .invokestatic 259, 3, 23, 273, 0, 0, 166, 1, 2), (18, .ifCond .eq 5, 3, 12, 0, 0, 0, 0, 0, 0), (21, .iconst (-1), 1, 0, 0, 0, 0, 0, 0, 0)]), (38, [(22, .ireturn, 1, 21, 0, 0, 0, 0, 0, 0), (23, .aload_n 0, 1, 3, 0, 0, 0, 0, 0, 0), (24, .invokevirtual 437, 3, 23, 271, 0, 0, 226, 0, 0), (27, .aload_n 0, 1, 3, 0, 0, 0, 0, 0, 0), (28, .getfield 88, 3, 14, 163, 0, 0, 9, 42, 3), (31, .iconst 0, 1, 0, 0, 0, 0, 0, 0, 0), (32, .dup2, 1, 11, 0, 0, 0, 0, 0, 0), (33, .iaload, 1, 22, 0, 0, 0, 0, 0, 0), (34, .iconst 1, 1, 0, 0, 0, 0, 0, 0, 0), (35, .iload_n 1, 1, 2, 0, 0, 0, 0, 0, 0), (36, .ishl, 1, 7, 0, 0, 0, 0, 0, 0), (37, .ior, 1, 7, 0, 0, 0, 0, 0, 0)]), (49, [(38, .iastore, 1, 17, 0, 0, 0, 0, 0, 0), (39, .aload_n 0, 1, 3, 0, 0, 0, 0, 0, 0), (40, .getfield 88, 3, 14, 163, 0, 0, 9, 42, 3), (43, .iconst 0, 1, 0, 0, 0, 0, 0, 0, 0), (44, .iaload, 1, 22, 0, 0, 0, 0, 0, 0), (45, .invokestatic 339, 3, 23, 254, 0, 0, 167, 1, 1), (48, .ireturn, 1, 21, 0, 0, 0, 0, 0, 0)])]
def ee_me272 : ee_me := (9, ⟨"PepperTablesModel", "sit", "(I)I"⟩, prog_11_method_85_code, 2, (some .int), ee_B272, 0, 0)
set_option maxRecDepth 100000 in
theorem ee_me272ok : ee_Mb ee_me272 = true := by decide +kernel
/- 273: PepperTablesModel.sneezed()I -/
def ee_B273 : List (Nat × List ee_en) := [(20, [(0, .iconst (-1), 1, 0, 0, 0, 0, 0, 0, 0), (1, .istore_n 1, 1, 4, 0, 0, 0, 0, 0, 0), (2, .iconst 0, 1, 0, 0, 0, 0, 0, 0, 0), (3, .istore_n 2, 1, 4, 0, 0, 0, 0, 0, 0), (4, .iload_n 2, 1, 2, 0, 0, 0, 0, 0, 0), (5, .aload_n 0, 1, 3, 0, 0, 0, 0, 0, 0), (6, .invokevirtual 368, 3, 23, 235, 0, 0, 238, 0, 0), (9, .if_icmp .ge 53, 3, 12, 0, 0, 0, 0, 0, 0), (12, .aload_n 0, 1, 3, 0, 0, 0, 0, 0, 0), (13, .iload_n 2, 1, 2, 0, 0, 0, 0, 0, 0), (14, .invokevirtual 386, 3, 23, 241, 0, 0, 223, 0, 1), (17, .ifCond .eq 39, 3, 12, 0, 0, 0, 0, 0, 0)]), (42, [(20, .aload_n 0, 1, 3, 0, 0, 0, 0, 0, 0), (21, .getfield 88, 3, 14, 163, 0, 0, 9, 42, 3), (24, .iconst 0, 1, 0, 0, 0, 0, 0, 0, 0), (25, .iaload, 1, 22, 0, 0, 0, 0, 0, 0), (26, .aload_n 0, 1, 3, 0, 0, 0, 0, 0, 0), (27, .iload_n 2, 1, 2, 0, 0, 0, 0, 0, 0), (28, .invokevirtual 389, 3, 23, 266, 0, 0, 192, 0, 1), (31, .invokestatic 259, 3, 23, 273, 0, 0, 166, 1, 2), (34, .ifCond .eq 22, 3, 12, 0, 0, 0, 0, 0, 0), (37, .iload_n 1, 1, 2, 0, 0, 0, 0, 0, 0), (38, .ifCond .lt 16, 3, 12, 0, 0, 0, 0, 0, 0), (41, .aload_n 0, 1, 3, 0, 0, 0, 0, 0, 0)]), (64, [(42, .iload_n 2, 1, 2, 0, 0, 0, 0, 0, 0), (43, .invokevirtual 333, 3, 23, 253, 0, 0, 202, 0, 1), (46, .aload_n 0, 1, 3, 0, 0, 0, 0, 0, 0), (47, .iload_n 1, 1, 2, 0, 0, 0, 0, 0, 0), (48, .invokevirtual 333, 3, 23, 253, 0, 0, 202, 0, 1), (51, .if_icmp .le 5, 3, 12, 0, 0, 0, 0, 0, 0), (54, .iload_n 2, 1, 2, 0, 0, 0, 0, 0, 0), (55, .istore_n 1, 1, 4, 0, 0, 0, 0, 0, 0), (56, .iinc 2 1, 3, 6, 0, 0, 0, 0, 0, 0), (59, .goto (-55), 3, 0, 0, 0, 0, 0, 0, 0), (62, .iload_n 1, 1, 2, 0, 0, 0, 0, 0, 0), (63, .ireturn, 1, 21, 0, 0, 0, 0, 0, 0)])]
def ee_me273 : ee_me := (9, ⟨"PepperTablesModel", "sneezed", "()I"⟩, prog_11_method_67_code, 3, (some .int), ee_B273, 0, 0)
set_option maxRecDepth 100000 in
theorem ee_me273ok : ee_Mb ee_me273 = true := by decide +kernel
/- 274: PepperTablesModel.spark(I)I -/
def ee_B274 : List (Nat × List ee_en) := [(16, [(0, .iconst (-1), 1, 0, 0, 0, 0, 0, 0, 0), (1, .istore_n 2, 1, 4, 0, 0, 0, 0, 0, 0), (2, .iconst 0, 1, 0, 0, 0, 0, 0, 0, 0), (3, .istore_n 3, 1, 4, 0, 0, 0, 0, 0, 0), (4, .iload_n 3, 1, 2, 0, 0, 0, 0, 0, 0), (5, .iconst 1, 1, 0, 0, 0, 0, 0, 0, 0), (6, .aload_n 0, 1, 3, 0, 0, 0, 0, 0, 0), (7, .invokevirtual 358, 3, 23, 236, 0, 0, 190, 0, 0), (10, .ishl, 1, 7, 0, 0, 0, 0, 0, 0), (11, .if_icmp .ge 67, 3, 12, 0, 0, 0, 0, 0, 0), (14, .aload_n 0, 1, 3, 0, 0, 0, 0, 0, 0), (15, .iload_n 1, 1, 2, 0, 0, 0, 0, 0, 0)]), (37, [(16, .invokevirtual 425, 3, 23, 264, 0, 0, 220, 0, 1), (19, .ifCond .eq 59, 3, 12, 0, 0, 0, 0, 0, 0), (22, .iload_n 3, 1, 2, 0, 0, 0, 0, 0, 0), (23, .aload_n 0, 1, 3, 0, 0, 0, 0, 0, 0), (24, .getfield 88, 3, 14, 163, 0, 0, 9, 42, 3), (27, .iconst 0, 1, 0, 0, 0, 0, 0, 0, 0), (28, .iaload, 1, 22, 0, 0, 0, 0, 0, 0), (29, .iconst (-1), 1, 0, 0, 0, 0, 0, 0, 0), (30, .ixor, 1, 7, 0, 0, 0, 0, 0, 0), (31, .iand, 1, 7, 0, 0, 0, 0, 0, 0), (32, .invokestatic 339, 3, 23, 254, 0, 0, 167, 1, 1), (35, .istore 4, 2, 4, 0, 0, 0, 0, 0, 0)]), (56, [(37, .aload_n 0, 1, 3, 0, 0, 0, 0, 0, 0), (38, .getfield 88, 3, 14, 163, 0, 0, 9, 42, 3), (41, .iconst 0, 1, 0, 0, 0, 0, 0, 0, 0), (42, .iaload, 1, 22, 0, 0, 0, 0, 0, 0), (43, .iload_n 3, 1, 2, 0, 0, 0, 0, 0, 0), (44, .iconst (-1), 1, 0, 0, 0, 0, 0, 0, 0), (45, .ixor, 1, 7, 0, 0, 0, 0, 0, 0), (46, .iand, 1, 7, 0, 0, 0, 0, 0, 0), (47, .ifCond .ne 25, 3, 12, 0, 0, 0, 0, 0, 0), (50, .iload_n 2, 1, 2, 0, 0, 0, 0, 0, 0), (51, .ifCond .lt 9, 3, 12, 0, 0, 0, 0, 0, 0), (54, .iload 4, 2, 2, 0, 0, 0, 0, 0, 0)]), (79, [(56, .iload_n 2, 1, 2, 0, 0, 0, 0, 0, 0), (57, .if_icmp .ge 15, 3, 12, 0, 0, 0, 0, 0, 0), (60, .aload_n 0, 1, 3, 0, 0, 0, 0, 0, 0), (61, .iload_n 3, 1, 2, 0, 0, 0, 0, 0, 0), (62, .iload_n 1, 1, 2, 0, 0, 0, 0, 0, 0), (63, .invokevirtual 446, 3, 23, 312, 0, 0, 293, 0, 2), (66, .ifCond .eq 6, 3, 12, 0, 0, 0, 0, 0, 0), (69, .iload 4, 2, 2, 0, 0, 0, 0, 0, 0), (71, .istore_n 2, 1, 4, 0, 0, 0, 0, 0, 0), (72, .iinc 3 1, 3, 6, 0, 0, 0, 0, 0, 0), (75, .goto (-71), 3, 0, 0, 0, 0, 0, 0, 0), (78, .iload_n 2, 1, 2, 0, 0, 0, 0, 0, 0)]), (80, [(79, .ireturn, 1, 21, 0, 0, 0, 0, 0, 0)])]
def ee_me274 : ee_me := (9, ⟨"PepperTablesModel", "spark", "(I)I"⟩, prog_11_method_100_code, 5, (some .int), ee_B274, 0, 0)
set_option maxRecDepth 100000 in
theorem ee_me274ok : ee_Mb ee_me274 = true := by decide +kernel
/- 275: PepperTablesModel.spine(I)I -/
def ee_B275 : List (Nat × List ee_en) := [(16, [(0, .iconst (-1), 1, 0, 0, 0, 0, 0, 0, 0), (1, .istore_n 2, 1, 4, 0, 0, 0, 0, 0, 0), (2, .iconst 0, 1, 0, 0, 0, 0, 0, 0, 0), (3, .istore_n 3, 1, 4, 0, 0, 0, 0, 0, 0), (4, .iload_n 3, 1, 2, 0, 0, 0, 0, 0, 0), (5, .iconst 1, 1, 0, 0, 0, 0, 0, 0, 0), (6, .aload_n 0, 1, 3, 0, 0, 0, 0, 0, 0), (7, .invokevirtual 358, 3, 23, 236, 0, 0, 190, 0, 0), (10, .ishl, 1, 7, 0, 0, 0, 0, 0, 0), (11, .if_icmp .ge 30, 3, 12, 0, 0, 0, 0, 0, 0), (14, .aload_n 0, 1, 3, 0, 0, 0, 0, 0, 0), (15, .iload_n 1, 1, 2, 0, 0, 0, 0, 0, 0)]), (38, [(16, .invokevirtual 425, 3, 23, 264, 0, 0, 220, 0, 1), (19, .ifCond .eq 22, 3, 12, 0, 0, 0, 0, 0, 0), (22, .aload_n 0, 1, 3, 0, 0, 0, 0, 0, 0), (23, .iload_n 3, 1, 2, 0, 0, 0, 0, 0, 0), (24, .iload_n 1, 1, 2, 0, 0, 0, 0, 0, 0), (25, .invokevirtual 446, 3, 23, 312, 0, 0, 293, 0, 2), (28, .ifCond .eq 7, 3, 12, 0, 0, 0, 0, 0, 0), (31, .iload_n 2, 1, 2, 0, 0, 0, 0, 0, 0), (32, .iload_n 3, 1, 2, 0, 0, 0, 0, 0, 0), (33, .iand, 1, 7, 0, 0, 0, 0, 0, 0), (34, .istore_n 2, 1, 4, 0, 0, 0, 0, 0, 0), (35, .iinc 3 1, 3, 6, 0, 0, 0, 0, 0, 0)]), (43, [(38, .goto (-34), 3, 0, 0, 0, 0, 0, 0, 0), (41, .iload_n 2, 1, 2, 0, 0, 0, 0, 0, 0), (42, .ireturn, 1, 21, 0, 0, 0, 0, 0, 0)])]
def ee_me275 : ee_me := (9, ⟨"PepperTablesModel", "spine", "(I)I"⟩, prog_11_method_101_code, 4, (some .int), ee_B275, 0, 0)
set_option maxRecDepth 100000 in
theorem ee_me275ok : ee_Mb ee_me275 = true := by decide +kernel
/- 276: PepperTablesModel.startAnew()V -/
def ee_B276 : List (Nat × List ee_en) := [(20, [(0, .aload_n 0, 1, 3, 0, 0, 0, 0, 0, 0), (1, .invokevirtual 371, 3, 23, 293, 0, 0, 235, 0, 0), (4, .aload_n 0, 1, 3, 0, 0, 0, 0, 0, 0), (5, .iconst 0, 1, 0, 0, 0, 0, 0, 0, 0), (6, .putfield 374, 3, 15, 179, 0, 0, 9, 46, 0), (9, .aload_n 0, 1, 3, 0, 0, 0, 0, 0, 0), (10, .iconst 0, 1, 0, 0, 0, 0, 0, 0, 0), (11, .putfield 377, 3, 15, 180, 0, 0, 9, 47, 0), (14, .aload_n 0, 1, 3, 0, 0, 0, 0, 0, 0), (15, .iconst 0, 1, 0, 0, 0, 0, 0, 0, 0), (16, .putfield 380, 3, 15, 181, 0, 0, 9, 60, 0), (19, .aload_n 0, 1, 3, 0, 0, 0, 0, 0, 0)]), (38, [(20, .iconst 0, 1, 0, 0, 0, 0, 0, 0, 0), (21, .putfield 383, 3, 15, 185, 0, 0, 9, 50, 0), (24, .iconst 0, 1, 0, 0, 0, 0, 0, 0, 0), (25, .istore_n 1, 1, 4, 0, 0, 0, 0, 0, 0), (26, .iload_n 1, 1, 2, 0, 0, 0, 0, 0, 0), (27, .iconst 3, 1, 0, 0, 0, 0, 0, 0, 0), (28, .if_icmp .ge 16, 3, 12, 0, 0, 0, 0, 0, 0), (31, .aload_n 0, 1, 3, 0, 0, 0, 0, 0, 0), (32, .getfield 133, 3, 14, 178, 0, 0, 9, 64, 3), (35, .iload_n 1, 1, 2, 0, 0, 0, 0, 0, 0), (36, .iconst 0, 1, 0, 0, 0, 0, 0, 0, 0), (37, .bastore, 1, 17, 0, 0, 0, 0, 0, 0)]), (45, [(38, .iinc 1 1, 3, 6, 0, 0, 0, 0, 0, 0), (41, .goto (-15), 3, 0, 0, 0, 0, 0, 0, 0), (44, .return_, 1, 21, 0, 0, 0, 0, 0, 0)])]
def ee_me276 : ee_me := (9, ⟨"PepperTablesModel", "startAnew", "()V"⟩, prog_11_method_53_code, 2, none, ee_B276, 0, 0)
set_option maxRecDepth 100000 in
theorem ee_me276ok : ee_Mb ee_me276 = true := by decide +kernel
/- 277: PepperTablesModel.store()I -/
def ee_B277 : List (Nat × List ee_en) := [(20, [(0, .aload_n 0, 1, 3, 0, 0, 0, 0, 0, 0), (1, .iconst 0, 1, 0, 0, 0, 0, 0, 0, 0), (2, .putfield 146, 3, 15, 195, 0, 0, 9, 4, 0), (5, .aload_n 0, 1, 3, 0, 0, 0, 0, 0, 0), (6, .iconst (-1), 1, 0, 0, 0, 0, 0, 0, 0), (7, .putfield 16, 3, 15, 140, 0, 0, 9, 5, 0), (10, .aload_n 0, 1, 3, 0, 0, 0, 0, 0, 0), (11, .aload_n 0, 1, 3, 0, 0, 0, 0, 0, 0), (12, .getfield 250, 3, 14, 183, 0, 0, 9, 2, 0), (15, .putfield 143, 3, 15, 199, 0, 0, 9, 3, 0), (18, .iconst 0, 1, 0, 0, 0, 0, 0, 0, 0), (19, .istore_n 1, 1, 4, 0, 0, 0, 0, 0, 0)]), (40, [(20, .iload_n 1, 1, 2, 0, 0, 0, 0, 0, 0), (21, .aload_n 0, 1, 3, 0, 0, 0, 0, 0, 0), (22, .getfield 143, 3, 14, 199, 0, 0, 9, 3, 0), (25, .if_icmp .ge 21, 3, 12, 0, 0, 0, 0, 0, 0), (28, .aload_n 0, 1, 3, 0, 0, 0, 0, 0, 0), (29, .getfield 13, 3, 14, 139, 0, 0, 9, 1, 3), (32, .iload_n 1, 1, 2, 0, 0, 0, 0, 0, 0), (33, .aload_n 0, 1, 3, 0, 0, 0, 0, 0, 0), (34, .getfield 7, 3, 14, 138, 0, 0, 9, 0, 3), (37, .iload_n 1, 1, 2, 0, 0, 0, 0, 0, 0), (38, .baload, 1, 22, 0, 0, 0, 0, 0, 0), (39, .bastore, 1, 17, 0, 0, 0, 0, 0, 0)]), (62, [(40, .iinc 1 1, 3, 6, 0, 0, 0, 0, 0, 0), (43, .goto (-23), 3, 0, 0, 0, 0, 0, 0, 0), (46, .aload_n 0, 1, 3, 0, 0, 0, 0, 0, 0), (47, .iconst 0, 1, 0, 0, 0, 0, 0, 0, 0), (48, .putfield 250, 3, 15, 183, 0, 0, 9, 2, 0), (51, .aload_n 0, 1, 3, 0, 0, 0, 0, 0, 0), (52, .iconst 0, 1, 0, 0, 0, 0, 0, 0, 0), (53, .putfield 185, 3, 15, 198, 0, 0, 9, 7, 0), (56, .aload_n 0, 1, 3, 0, 0, 0, 0, 0, 0), (57, .iconst 1, 1, 0, 0, 0, 0, 0, 0, 0), (58, .aload_n 0, 1, 3, 0, 0, 0, 0, 0, 0), (59, .getfield 253, 3, 14, 184, 0, 0, 9, 33, 0)]), (88, [(62, .isub, 1, 7, 0, 0, 0, 0, 0, 0), (63, .putfield 244, 3, 15, 193, 0, 0, 9, 34, 0), (66, .aload_n 0, 1, 3, 0, 0, 0, 0, 0, 0), (67, .invokevirtual 137, 3, 23, 233, 0, 0, 172, 0, 0), (70, .aload_n 0, 1, 3, 0, 0, 0, 0, 0, 0), (71, .invokevirtual 227, 3, 23, 262, 0, 0, 195, 0, 0), (74, .aload_n 0, 1, 3, 0, 0, 0, 0, 0, 0), (75, .invokevirtual 223, 3, 23, 276, 0, 0, 213, 0, 0), (78, .ifCond .eq 17, 3, 12, 0, 0, 0, 0, 0, 0), (81, .aload_n 0, 1, 3, 0, 0, 0, 0, 0, 0), (82, .getfield 195, 3, 14, 196, 0, 0, 9, 8, 0), (85, .ifCond .eq 10, 3, 12, 0, 0, 0, 0, 0, 0)]), (112, [(88, .aload_n 0, 1, 3, 0, 0, 0, 0, 0, 0), (89, .invokevirtual 256, 3, 23, 314, 0, 0, 255, 0, 0), (92, .goto (-18), 3, 0, 0, 0, 0, 0, 0, 0), (95, .aload_n 0, 1, 3, 0, 0, 0, 0, 0, 0), (96, .invokevirtual 223, 3, 23, 276, 0, 0, 213, 0, 0), (99, .ifCond .ne 5, 3, 12, 0, 0, 0, 0, 0, 0), (102, .iconst (-1), 1, 0, 0, 0, 0, 0, 0, 0), (103, .ireturn, 1, 21, 0, 0, 0, 0, 0, 0), (104, .aload_n 0, 1, 3, 0, 0, 0, 0, 0, 0), (105, .aload_n 0, 1, 3, 0, 0, 0, 0, 0, 0), (106, .getfield 244, 3, 14, 193, 0, 0, 9, 34, 0), (109, .putfield 253, 3, 15, 184, 0, 0, 9, 33, 0)]), (126, [(112, .aload_n 0, 1, 3, 0, 0, 0, 0, 0, 0), (113, .invokevirtual 140, 3, 23, 234, 0, 0, 276, 0, 0), (116, .aload_n 0, 1, 3, 0, 0, 0, 0, 0, 0), (117, .getfield 27, 3, 14, 143, 0, 0, 9, 13, 3), (120, .aload_n 0, 1, 3, 0, 0, 0, 0, 0, 0), (121, .getfield 253, 3, 14, 184, 0, 0, 9, 33, 0), (124, .iaload, 1, 22, 0, 0, 0, 0, 0, 0), (125, .ireturn, 1, 21, 0, 0, 0, 0, 0, 0)])]
def ee_me277 : ee_me := (9, ⟨"PepperTablesModel", "store", "()I"⟩, prog_11_method_17_code, 2, (some .int), ee_B277, 0, 0)
set_option maxRecDepth 100000 in
theorem ee_me277ok : ee_Mb ee_me277 = true := by decide +kernel
/- 278: PepperTablesModel.storm()I -/
def ee_B278 : List (Nat × List ee_en) := [(13, [(0, .aload_n 0, 1, 3, 0, 0, 0, 0, 0, 0), (1, .aload_n 0, 1, 3, 0, 0, 0, 0, 0, 0), (2, .aload_n 0, 1, 3, 0, 0, 0, 0, 0, 0), (3, .invokevirtual 428, 3, 23, 279, 0, 0, 160, 0, 0), (6, .invokevirtual 431, 3, 23, 280, 0, 0, 266, 0, 1), (9, .invokevirtual 348, 3, 23, 239, 0, 0, 198, 0, 1), (12, .ireturn, 1, 21, 0, 0, 0, 0, 0, 0)])]
def ee_me278 : ee_me := (9, ⟨"PepperTablesModel", "storm", "()I"⟩, prog_11_method_77_code, 1, (some .int), ee_B278, 0, 0)
set_option maxRecDepth 100000 in
theorem ee_me278ok : ee_Mb ee_me278 = true := by decide +kernel
/- 279: PepperTablesModel.sure(II)I -/
def ee_B279 : List (Nat × List ee_en) := [(19, [(0, .iload_n 1, 1, 2, 0, 0, 0, 0, 0, 0), (1, .iconst 0, 1, 0, 0, 0, 0, 0, 0, 0), (2, .aload_n 0, 1, 3, 0, 0, 0, 0, 0, 0), (3, .invokevirtual 486, 3, 23, 248, 0, 0, 200, 0, 0), (6, .iconst 1, 1, 0, 0, 0, 0, 0, 0, 0), (7, .isub, 1, 7, 0, 0, 0, 0, 0, 0), (8, .invokestatic 361, 3, 23, 250, 0, 0, 214, 1, 3), (11, .ifCond .ne 6, 3, 12, 0, 0, 0, 0, 0, 0), (14, .bipush (-3), 2, 0, 0, 0, 0, 0, 0, 0), (16, .ireturn, 1, 21, 0, 0, 0, 0, 0, 0), (17, .aload_n 0, 1, 3, 0, 0, 0, 0, 0, 0), (18, .iload_n 2, 1, 2, 0, 0, 0, 0, 0, 0)]), (42, [(19, .invokevirtual 504, 3, 23, 251, 0, 0, 234, 0, 1), (22, .aload_n 0, 1, 3, 0, 0, 0, 0, 0, 0), (23, .getfield 492, 3, 14, 186, 0, 0, 9, 62, 0), (26, .ifCond .ne 6, 3, 12, 0, 0, 0, 0, 0, 0), (29, .bipush (-3), 2, 0, 0, 0, 0, 0, 0, 0), (31, .ireturn, 1, 21, 0, 0, 0, 0, 0, 0), (32, .iconst 0, 1, 0, 0, 0, 0, 0, 0, 0), (33, .istore_n 3, 1, 4, 0, 0, 0, 0, 0, 0), (34, .iload_n 3, 1, 2, 0, 0, 0, 0, 0, 0), (35, .aload_n 0, 1, 3, 0, 0, 0, 0, 0, 0), (36, .invokevirtual 365, 3, 23, 237, 0, 0, 164, 0, 0), (39, .if_icmp .gt 41, 3, 12, 0, 0, 0, 0, 0, 0)]), (61, [(42, .aload_n 0, 1, 3, 0, 0, 0, 0, 0, 0), (43, .getfield 124, 3, 14, 175, 0, 0, 9, 58, 3), (46, .bipush 6, 2, 0, 0, 0, 0, 0, 0, 0), (48, .iload_n 1, 1, 2, 0, 0, 0, 0, 0, 0), (49, .imul, 1, 7, 0, 0, 0, 0, 0, 0), (50, .iload_n 3, 1, 2, 0, 0, 0, 0, 0, 0), (51, .iadd, 1, 7, 0, 0, 0, 0, 0, 0), (52, .iaload, 1, 22, 0, 0, 0, 0, 0, 0), (53, .aload_n 0, 1, 3, 0, 0, 0, 0, 0, 0), (54, .getfield 492, 3, 14, 186, 0, 0, 9, 62, 0), (57, .if_icmp .ne 17, 3, 12, 0, 0, 0, 0, 0, 0), (60, .iload_n 3, 1, 2, 0, 0, 0, 0, 0, 0)]), (83, [(61, .aload_n 0, 1, 3, 0, 0, 0, 0, 0, 0), (62, .invokevirtual 365, 3, 23, 237, 0, 0, 164, 0, 0), (65, .if_icmp .ne 7, 3, 12, 0, 0, 0, 0, 0, 0), (68, .iconst (-1), 1, 0, 0, 0, 0, 0, 0, 0), (69, .goto 4, 3, 0, 0, 0, 0, 0, 0, 0), (72, .iload_n 3, 1, 2, 0, 0, 0, 0, 0, 0), (73, .ireturn, 1, 21, 0, 0, 0, 0, 0, 0), (74, .iinc 3 1, 3, 6, 0, 0, 0, 0, 0, 0), (77, .goto (-43), 3, 0, 0, 0, 0, 0, 0, 0), (80, .bipush (-2), 2, 0, 0, 0, 0, 0, 0, 0), (82, .ireturn, 1, 21, 0, 0, 0, 0, 0, 0)])]
def ee_me279 : ee_me := (9, ⟨"PepperTablesModel", "sure", "(II)I"⟩, prog_11_method_132_code, 4, (some .int), ee_B279, 0, 0)
set_option maxRecDepth 100000 in
theorem ee_me279ok : ee_Mb ee_me279 = true := by decide +kernel
/- 280: PepperTablesModel.swapAll()V -/
def ee_B280 : List (Nat × List ee_en) := [(20, [(0, .iconst 0, 1, 0, 0, 0, 0, 0, 0, 0), (1, .istore_n 1, 1, 4, 0, 0, 0, 0, 0, 0), (2, .iload_n 1, 1, 2, 0, 0, 0, 0, 0, 0), (3, .bipush 19, 2, 0, 0, 0, 0, 0, 0, 0), (5, .if_icmp .ge 51, 3, 12, 0, 0, 0, 0, 0, 0), (8, .aload_n 0, 1, 3, 0, 0, 0, 0, 0, 0), (9, .getfield 94, 3, 14, 165, 0, 0, 9, 45, 3), (12, .bipush 19, 2, 0, 0, 0, 0, 0, 0, 0), (14, .aload_n 0, 1, 3, 0, 0, 0, 0, 0, 0), (15, .getfield 374, 3, 14, 179, 0, 0, 9, 46, 0), (18, .imul, 1, 7, 0, 0, 0, 0, 0, 0), (19, .iload_n 1, 1, 2, 0, 0, 0, 0, 0, 0)]), (37, [(20, .iadd, 1, 7, 0, 0, 0, 0, 0, 0), (21, .iaload, 1, 22, 0, 0, 0, 0, 0, 0), (22, .istore_n 2, 1, 4, 0, 0, 0, 0, 0, 0), (23, .aload_n 0, 1, 3, 0, 0, 0, 0, 0, 0), (24, .getfield 94, 3, 14, 165, 0, 0, 9, 45, 3), (27, .bipush 19, 2, 0, 0, 0, 0, 0, 0, 0), (29, .aload_n 0, 1, 3, 0, 0, 0, 0, 0, 0), (30, .getfield 374, 3, 14, 179, 0, 0, 9, 46, 0), (33, .imul, 1, 7, 0, 0, 0, 0, 0, 0), (34, .iload_n 1, 1, 2, 0, 0, 0, 0, 0, 0), (35, .iadd, 1, 7, 0, 0, 0, 0, 0, 0), (36, .aload_n 0, 1, 3, 0, 0, 0, 0, 0, 0)]), (57, [(37, .getfield 88, 3, 14, 163, 0, 0, 9, 42, 3), (40, .iload_n 1, 1, 2, 0, 0, 0, 0, 0, 0), (41, .iaload, 1, 22, 0, 0, 0, 0, 0, 0), (42, .iastore, 1, 17, 0, 0, 0, 0, 0, 0), (43, .aload_n 0, 1, 3, 0, 0, 0, 0, 0, 0), (44, .getfield 88, 3, 14, 163, 0, 0, 9, 42, 3), (47, .iload_n 1, 1, 2, 0, 0, 0, 0, 0, 0), (48, .iload_n 2, 1, 2, 0, 0, 0, 0, 0, 0), (49, .iastore, 1, 17, 0, 0, 0, 0, 0, 0), (50, .iinc 1 1, 3, 6, 0, 0, 0, 0, 0, 0), (53, .goto (-51), 3, 0, 0, 0, 0, 0, 0, 0), (56, .return_, 1, 21, 0, 0, 0, 0, 0, 0)])]
def ee_me280 : ee_me := (9, ⟨"PepperTablesModel", "swapAll", "()V"⟩, prog_11_method_84_code, 3, none, ee_B280, 0, 0)
set_option maxRecDepth 100000 in
theorem ee_me280ok : ee_Mb ee_me280 = true := by decide +kernel
end
section
/- 281: PepperTablesModel.table(III)I -/
def ee_B281 : List (Nat × List ee_en) := [(18, [(0, .iload_n 1, 1, 2, 0, 0, 0, 0, 0, 0), (1, .iconst 0, 1, 0, 0, 0, 0, 0, 0, 0), (2, .iconst 1, 1, 0, 0, 0, 0, 0, 0, 0), (3, .aload_n 0, 1, 3, 0, 0, 0, 0, 0, 0), (4, .invokevirtual 368, 3, 23, 235, 0, 0, 238, 0, 0), (7, .ishl, 1, 7, 0, 0, 0, 0, 0, 0), (8, .iconst 1, 1, 0, 0, 0, 0, 0, 0, 0), (9, .isub, 1, 7, 0, 0, 0, 0, 0, 0), (10, .invokestatic 361, 3, 23, 250, 0, 0, 214, 1, 3), (13, .ifCond .eq 20, 3, 12, 0, 0, 0, 0, 0, 0), (16, .aload_n 0, 1, 3, 0, 0, 0, 0, 0, 0), (17, .iload_n 2, 1, 2, 0, 0, 0, 0, 0, 0)]), (39, [(18, .invokevirtual 425, 3, 23, 264, 0, 0, 220, 0, 1), (21, .ifCond .eq 12, 3, 12, 0, 0, 0, 0, 0, 0), (24, .iload_n 3, 1, 2, 0, 0, 0, 0, 0, 0), (25, .iconst 0, 1, 0, 0, 0, 0, 0, 0, 0), (26, .iconst 1, 1, 0, 0, 0, 0, 0, 0, 0), (27, .invokestatic 361, 3, 23, 250, 0, 0, 214, 1, 3), (30, .ifCond .ne 5, 3, 12, 0, 0, 0, 0, 0, 0), (33, .iconst (-1), 1, 0, 0, 0, 0, 0, 0, 0), (34, .ireturn, 1, 21, 0, 0, 0, 0, 0, 0), (35, .iconst (-1), 1, 0, 0, 0, 0, 0, 0, 0), (36, .istore 4, 2, 4, 0, 0, 0, 0, 0, 0), (38, .iconst 0, 1, 0, 0, 0, 0, 0, 0, 0)]), (64, [(39, .istore 5, 2, 4, 0, 0, 0, 0, 0, 0), (41, .iload 5, 2, 2, 0, 0, 0, 0, 0, 0), (43, .iconst 1, 1, 0, 0, 0, 0, 0, 0, 0), (44, .aload_n 0, 1, 3, 0, 0, 0, 0, 0, 0), (45, .invokevirtual 358, 3, 23, 236, 0, 0, 190, 0, 0), (48, .ishl, 1, 7, 0, 0, 0, 0, 0, 0), (49, .if_icmp .ge 42, 3, 12, 0, 0, 0, 0, 0, 0), (52, .iload 4, 2, 2, 0, 0, 0, 0, 0, 0), (54, .ifCond .lt 16, 3, 12, 0, 0, 0, 0, 0, 0), (57, .iload 5, 2, 2, 0, 0, 0, 0, 0, 0), (59, .invokestatic 339, 3, 23, 254, 0, 0, 167, 1, 1), (62, .iload 4, 2, 2, 0, 0, 0, 0, 0, 0)]), (91, [(64, .invokestatic 339, 3, 23, 254, 0, 0, 167, 1, 1), (67, .if_icmp .ge 18, 3, 12, 0, 0, 0, 0, 0, 0), (70, .aload_n 0, 1, 3, 0, 0, 0, 0, 0, 0), (71, .iload 5, 2, 2, 0, 0, 0, 0, 0, 0), (73, .iload_n 2, 1, 2, 0, 0, 0, 0, 0, 0), (74, .invokevirtual 446, 3, 23, 312, 0, 0, 293, 0, 2), (77, .iload_n 1, 1, 2, 0, 0, 0, 0, 0, 0), (78, .if_icmp .ne 7, 3, 12, 0, 0, 0, 0, 0, 0), (81, .iload 5, 2, 2, 0, 0, 0, 0, 0, 0), (83, .istore 4, 2, 4, 0, 0, 0, 0, 0, 0), (85, .iinc 5 1, 3, 6, 0, 0, 0, 0, 0, 0), (88, .goto (-47), 3, 0, 0, 0, 0, 0, 0, 0)]), (115, [(91, .iload 4, 2, 2, 0, 0, 0, 0, 0, 0), (93, .ifCond .ge 7, 3, 12, 0, 0, 0, 0, 0, 0), (96, .iconst (-1), 1, 0, 0, 0, 0, 0, 0, 0), (97, .goto 17, 3, 0, 0, 0, 0, 0, 0, 0), (100, .iload_n 3, 1, 2, 0, 0, 0, 0, 0, 0), (101, .ifCond .ne 11, 3, 12, 0, 0, 0, 0, 0, 0), (104, .iload 4, 2, 2, 0, 0, 0, 0, 0, 0), (106, .invokestatic 339, 3, 23, 254, 0, 0, 167, 1, 1), (109, .goto 5, 3, 0, 0, 0, 0, 0, 0, 0), (112, .iload 4, 2, 2, 0, 0, 0, 0, 0, 0), (114, .ireturn, 1, 21, 0, 0, 0, 0, 0, 0)])]
def ee_me281 : ee_me := (9, ⟨"PepperTablesModel", "table", "(III)I"⟩, prog_11_method_97_code, 6, (some .int), ee_B281, 0, 0)
set_option maxRecDepth 100000 in
theorem ee_me281ok : ee_Mb ee_me281 = true := by decide +kernel
/- 282: PepperTablesModel.thing(II)I -/
def ee_B282 : List (Nat × List ee_en) := [(54, [(0, .aload_n 0, 1, 3, 0, 0, 0, 0, 0, 0), (1, .iload_n 1, 1, 2, 0, 0, 0, 0, 0, 0), (2, .invokevirtual 422, 3, 23, 240, 0, 0, 224, 0, 1), (5, .ifCond .ne 6, 3, 12, 0, 0, 0, 0, 0, 0), (8, .bipush (-2), 2, 0, 0, 0, 0, 0, 0, 0), (10, .ireturn, 1, 21, 0, 0, 0, 0, 0, 0), (11, .iload_n 2, 1, 2, 0, 0, 0, 0, 0, 0), (12, .tableswitch 74 0 4 #[36, 42, 48, 54, 63], 36, 13, 0, 0, 0, 0, 0, 0), (48, .aload_n 0, 1, 3, 0, 0, 0, 0, 0, 0), (49, .iload_n 1, 1, 2, 0, 0, 0, 0, 0, 0), (50, .invokevirtual 389, 3, 23, 266, 0, 0, 192, 0, 1), (53, .ireturn, 1, 21, 0, 0, 0, 0, 0, 0)]), (72, [(54, .aload_n 0, 1, 3, 0, 0, 0, 0, 0, 0), (55, .iload_n 1, 1, 2, 0, 0, 0, 0, 0, 0), (56, .invokevirtual 392, 3, 23, 274, 0, 0, 288, 0, 1), (59, .ireturn, 1, 21, 0, 0, 0, 0, 0, 0), (60, .aload_n 0, 1, 3, 0, 0, 0, 0, 0, 0), (61, .iload_n 1, 1, 2, 0, 0, 0, 0, 0, 0), (62, .invokevirtual 333, 3, 23, 253, 0, 0, 202, 0, 1), (65, .ireturn, 1, 21, 0, 0, 0, 0, 0, 0), (66, .aload_n 0, 1, 3, 0, 0, 0, 0, 0, 0), (67, .getfield 88, 3, 14, 163, 0, 0, 9, 42, 3), (70, .iconst 2, 1, 0, 0, 0, 0, 0, 0, 0), (71, .iload_n 1, 1, 2, 0, 0, 0, 0, 0, 0)]), (86, [(72, .iadd, 1, 7, 0, 0, 0, 0, 0, 0), (73, .iaload, 1, 22, 0, 0, 0, 0, 0, 0), (74, .ireturn, 1, 21, 0, 0, 0, 0, 0, 0), (75, .aload_n 0, 1, 3, 0, 0, 0, 0, 0, 0), (76, .getfield 88, 3, 14, 163, 0, 0, 9, 42, 3), (79, .iconst 1, 1, 0, 0, 0, 0, 0, 0, 0), (80, .iaload, 1, 22, 0, 0, 0, 0, 0, 0), (81, .iload_n 1, 1, 2, 0, 0, 0, 0, 0, 0), (82, .ishr, 1, 7, 0, 0, 0, 0, 0, 0), (83, .iconst 1, 1, 0, 0, 0, 0, 0, 0, 0), (84, .iand, 1, 7, 0, 0, 0, 0, 0, 0), (85, .ireturn, 1, 21, 0, 0, 0, 0, 0, 0)]), (89, [(86, .bipush (-2), 2, 0, 0, 0, 0, 0, 0, 0), (88, .ireturn, 1, 21, 0, 0, 0, 0, 0, 0)])]
def ee_me282 : ee_me := (9, ⟨"PepperTablesModel", "thing", "(II)I"⟩, prog_11_method_69_code, 3, (some .int), ee_B282, 0, 0)
set_option maxRecDepth 100000 in
theorem ee_me282ok : ee_Mb ee_me282 = true := by decide +kernel
/- 283: PepperTablesModel.toOf(I)I -/
def ee_B283 : List (Nat × List ee_en) := [(18, [(0, .iconst 0, 1, 0, 0, 0, 0, 0, 0, 0), (1, .istore_n 2, 1, 4, 0, 0, 0, 0, 0, 0), (2, .iconst 0, 1, 0, 0, 0, 0, 0, 0, 0), (3, .istore_n 3, 1, 4, 0, 0, 0, 0, 0, 0), (4, .iload_n 3, 1, 2, 0, 0, 0, 0, 0, 0), (5, .aload_n 0, 1, 3, 0, 0, 0, 0, 0, 0), (6, .invokevirtual 368, 3, 23, 235, 0, 0, 238, 0, 0), (9, .if_icmp .ge 24, 3, 12, 0, 0, 0, 0, 0, 0), (12, .aload_n 0, 1, 3, 0, 0, 0, 0, 0, 0), (13, .iload_n 3, 1, 2, 0, 0, 0, 0, 0, 0), (14, .invokevirtual 392, 3, 23, 274, 0, 0, 288, 0, 1), (17, .iload_n 1, 1, 2, 0, 0, 0, 0, 0, 0)]), (35, [(18, .if_icmp .ne 9, 3, 12, 0, 0, 0, 0, 0, 0), (21, .iload_n 2, 1, 2, 0, 0, 0, 0, 0, 0), (22, .iconst 1, 1, 0, 0, 0, 0, 0, 0, 0), (23, .iload_n 3, 1, 2, 0, 0, 0, 0, 0, 0), (24, .ishl, 1, 7, 0, 0, 0, 0, 0, 0), (25, .ior, 1, 7, 0, 0, 0, 0, 0, 0), (26, .istore_n 2, 1, 4, 0, 0, 0, 0, 0, 0), (27, .iinc 3 1, 3, 6, 0, 0, 0, 0, 0, 0), (30, .goto (-26), 3, 0, 0, 0, 0, 0, 0, 0), (33, .iload_n 2, 1, 2, 0, 0, 0, 0, 0, 0), (34, .ireturn, 1, 21, 0, 0, 0, 0, 0, 0)])]
def ee_me283 : ee_me := (9, ⟨"PepperTablesModel", "toOf", "(I)I"⟩, prog_11_method_60_code, 4, (some .int), ee_B283, 0, 0)
set_option maxRecDepth 100000 in
theorem ee_me283ok : ee_Mb ee_me283 = true := by decide +kernel
/- 284: PepperTablesModel.two(III)I -/
def ee_B284 : List (Nat × List ee_en) := [(130, [(0, .iload_n 0, 1, 2, 0, 0, 0, 0, 0, 0), (1, .tableswitch 202 37 62 #[143, 188, 202, 202, 202, 127, 119, 202, 123, 202, 131, 202, 202, 202, 202, 202, 202, 202, 202, 202, 202, 202, 202, 155, 177, 166], 119, 13, 0, 0, 0, 0, 0, 0), (120, .iload_n 1, 1, 2, 0, 0, 0, 0, 0, 0), (121, .iload_n 2, 1, 2, 0, 0, 0, 0, 0, 0), (122, .iadd, 1, 7, 0, 0, 0, 0, 0, 0), (123, .ireturn, 1, 21, 0, 0, 0, 0, 0, 0), (124, .iload_n 1, 1, 2, 0, 0, 0, 0, 0, 0), (125, .iload_n 2, 1, 2, 0, 0, 0, 0, 0, 0), (126, .isub, 1, 7, 0, 0, 0, 0, 0, 0), (127, .ireturn, 1, 21, 0, 0, 0, 0, 0, 0), (128, .iload_n 1, 1, 2, 0, 0, 0, 0, 0, 0), (129, .iload_n 2, 1, 2, 0, 0, 0, 0, 0, 0)]), (148, [(130, .imul, 1, 7, 0, 0, 0, 0, 0, 0), (131, .ireturn, 1, 21, 0, 0, 0, 0, 0, 0), (132, .iload_n 2, 1, 2, 0, 0, 0, 0, 0, 0), (133, .ifCond .ne 7, 3, 12, 0, 0, 0, 0, 0, 0), (136, .iconst 0, 1, 0, 0, 0, 0, 0, 0, 0), (137, .goto 6, 3, 0, 0, 0, 0, 0, 0, 0), (140, .iload_n 1, 1, 2, 0, 0, 0, 0, 0, 0), (141, .iload_n 2, 1, 2, 0, 0, 0, 0, 0, 0), (142, .idiv, 1, 8, 0, 0, 0, 0, 0, 0), (143, .ireturn, 1, 21, 0, 0, 0, 0, 0, 0), (144, .iload_n 2, 1, 2, 0, 0, 0, 0, 0, 0), (145, .ifCond .ne 7, 3, 12, 0, 0, 0, 0, 0, 0)]), (166, [(148, .iconst 0, 1, 0, 0, 0, 0, 0, 0, 0), (149, .goto 6, 3, 0, 0, 0, 0, 0, 0, 0), (152, .iload_n 1, 1, 2, 0, 0, 0, 0, 0, 0), (153, .iload_n 2, 1, 2, 0, 0, 0, 0, 0, 0), (154, .irem, 1, 8, 0, 0, 0, 0, 0, 0), (155, .ireturn, 1, 21, 0, 0, 0, 0, 0, 0), (156, .iload_n 1, 1, 2, 0, 0, 0, 0, 0, 0), (157, .iload_n 2, 1, 2, 0, 0, 0, 0, 0, 0), (158, .if_icmp .ge 7, 3, 12, 0, 0, 0, 0, 0, 0), (161, .iconst 1, 1, 0, 0, 0, 0, 0, 0, 0), (162, .goto 4, 3, 0, 0, 0, 0, 0, 0, 0), (165, .iconst 0, 1, 0, 0, 0, 0, 0, 0, 0)]), (184, [(166, .ireturn, 1, 21, 0, 0, 0, 0, 0, 0), (167, .iload_n 1, 1, 2, 0, 0, 0, 0, 0, 0), (168, .iload_n 2, 1, 2, 0, 0, 0, 0, 0, 0), (169, .if_icmp .le 7, 3, 12, 0, 0, 0, 0, 0, 0), (172, .iconst 1, 1, 0, 0, 0, 0, 0, 0, 0), (173, .goto 4, 3, 0, 0, 0, 0, 0, 0, 0), (176, .iconst 0, 1, 0, 0, 0, 0, 0, 0, 0), (177, .ireturn, 1, 21, 0, 0, 0, 0, 0, 0), (178, .iload_n 1, 1, 2, 0, 0, 0, 0, 0, 0), (179, .iload_n 2, 1, 2, 0, 0, 0, 0, 0, 0), (180, .if_icmp .ne 7, 3, 12, 0, 0, 0, 0, 0, 0), (183, .iconst 1, 1, 0, 0, 0, 0, 0, 0, 0)]), (204, [(184, .goto 4, 3, 0, 0, 0, 0, 0, 0, 0), (187, .iconst 0, 1, 0, 0, 0, 0, 0, 0, 0), (188, .ireturn, 1, 21, 0, 0, 0, 0, 0, 0), (189, .iload_n 1, 1, 2, 0, 0, 0, 0, 0, 0), (190, .ifCond .eq 11, 3, 12, 0, 0, 0, 0, 0, 0), (193, .iload_n 2, 1, 2, 0, 0, 0, 0, 0, 0), (194, .ifCond .eq 7, 3, 12, 0, 0, 0, 0, 0, 0), (197, .iconst 1, 1, 0, 0, 0, 0, 0, 0, 0), (198, .goto 4, 3, 0, 0, 0, 0, 0, 0, 0), (201, .iconst 0, 1, 0, 0, 0, 0, 0, 0, 0), (202, .ireturn, 1, 21, 0, 0, 0, 0, 0, 0), (203, .iload_n 1, 1, 2, 0, 0, 0, 0, 0, 0)]), (217, [(204, .ifCond .ne 7, 3, 12, 0, 0, 0, 0, 0, 0), (207, .iload_n 2, 1, 2, 0, 0, 0, 0, 0, 0), (208, .ifCond .eq 7, 3, 12, 0, 0, 0, 0, 0, 0), (211, .iconst 1, 1, 0, 0, 0, 0, 0, 0, 0), (212, .goto 4, 3, 0, 0, 0, 0, 0, 0, 0), (215, .iconst 0, 1, 0, 0, 0, 0, 0, 0, 0), (216, .ireturn, 1, 21, 0, 0, 0, 0, 0, 0)])]
def ee_me284 : ee_me := (9, ⟨"PepperTablesModel", "two", "(III)I"⟩, prog_11_method_35_code, 3, (some .int), ee_B284, 0, 0)
set_option maxRecDepth 100000 in
theorem ee_me284ok : ee_Mb ee_me284 = true := by decide +kernel
/- 285: PepperTablesModel.undo()Z -/
def ee_B285 : List (Nat × List ee_en) := [(20, [(0, .aload_n 0, 1, 3, 0, 0, 0, 0, 0, 0), (1, .getfield 374, 3, 14, 179, 0, 0, 9, 46, 0), (4, .ifCond .ne 5, 3, 12, 0, 0, 0, 0, 0, 0), (7, .iconst 0, 1, 0, 0, 0, 0, 0, 0, 0), (8, .ireturn, 1, 21, 0, 0, 0, 0, 0, 0), (9, .aload_n 0, 1, 3, 0, 0, 0, 0, 0, 0), (10, .dup, 1, 11, 0, 0, 0, 0, 0, 0), (11, .getfield 374, 3, 14, 179, 0, 0, 9, 46, 0), (14, .iconst 1, 1, 0, 0, 0, 0, 0, 0, 0), (15, .isub, 1, 7, 0, 0, 0, 0, 0, 0), (16, .putfield 374, 3, 15, 179, 0, 0, 9, 46, 0), (19, .aload_n 0, 1, 3, 0, 0, 0, 0, 0, 0)]), (35, [(20, .dup, 1, 11, 0, 0, 0, 0, 0, 0), (21, .getfield 377, 3, 14, 180, 0, 0, 9, 47, 0), (24, .iconst 1, 1, 0, 0, 0, 0, 0, 0, 0), (25, .iadd, 1, 7, 0, 0, 0, 0, 0, 0), (26, .putfield 377, 3, 15, 180, 0, 0, 9, 47, 0), (29, .aload_n 0, 1, 3, 0, 0, 0, 0, 0, 0), (30, .invokevirtual 443, 3, 23, 310, 0, 0, 280, 0, 0), (33, .iconst 1, 1, 0, 0, 0, 0, 0, 0, 0), (34, .ireturn, 1, 21, 0, 0, 0, 0, 0, 0)])]
def ee_me285 : ee_me := (9, ⟨"PepperTablesModel", "undo", "()Z"⟩, prog_11_method_90_code, 1, (some .boolean), ee_B285, 0, 0)
set_option maxRecDepth 100000 in
theorem ee_me285ok : ee_Mb ee_me285 = true := by decide +kernel
/- 286: PepperTablesModel.unit()Z -/
def ee_B286 : List (Nat × List ee_en) := [(20, [(0, .aload_n 0, 1, 3, 0, 0, 0, 0, 0, 0), (1, .getfield 79, 3, 14, 160, 0, 0, 9, 30, 3), (4, .aload_n 0, 1, 3, 0, 0, 0, 0, 0, 0), (5, .getfield 303, 3, 14, 190, 0, 0, 9, 37, 0), (8, .iconst 1, 1, 0, 0, 0, 0, 0, 0, 0), (9, .isub, 1, 7, 0, 0, 0, 0, 0, 0), (10, .iaload, 1, 22, 0, 0, 0, 0, 0, 0), (11, .iconst 3, 1, 0, 0, 0, 0, 0, 0, 0), (12, .if_icmp .le 19, 3, 12, 0, 0, 0, 0, 0, 0), (15, .aload_n 0, 1, 3, 0, 0, 0, 0, 0, 0), (16, .getfield 79, 3, 14, 160, 0, 0, 9, 30, 3), (19, .aload_n 0, 1, 3, 0, 0, 0, 0, 0, 0)]), (41, [(20, .getfield 303, 3, 14, 190, 0, 0, 9, 37, 0), (23, .iconst 1, 1, 0, 0, 0, 0, 0, 0, 0), (24, .isub, 1, 7, 0, 0, 0, 0, 0, 0), (25, .iaload, 1, 22, 0, 0, 0, 0, 0, 0), (26, .bipush 7, 2, 0, 0, 0, 0, 0, 0, 0), (28, .if_icmp .lt 7, 3, 12, 0, 0, 0, 0, 0, 0), (31, .iconst 1, 1, 0, 0, 0, 0, 0, 0, 0), (32, .goto 4, 3, 0, 0, 0, 0, 0, 0, 0), (35, .iconst 0, 1, 0, 0, 0, 0, 0, 0, 0), (36, .istore_n 1, 1, 4, 0, 0, 0, 0, 0, 0), (37, .iload_n 1, 1, 2, 0, 0, 0, 0, 0, 0), (38, .ifCond .eq 17, 3, 12, 0, 0, 0, 0, 0, 0)]), (64, [(41, .aload_n 0, 1, 3, 0, 0, 0, 0, 0, 0), (42, .ldc2_w 183, 3, 1, 18, 0, 7237492, 0, 0, 0), (45, .invokevirtual 233, 3, 23, 245, 0, 0, 225, 0, 1), (48, .ifCond .eq 7, 3, 12, 0, 0, 0, 0, 0, 0), (51, .iconst 1, 1, 0, 0, 0, 0, 0, 0, 0), (52, .goto 4, 3, 0, 0, 0, 0, 0, 0, 0), (55, .iconst 0, 1, 0, 0, 0, 0, 0, 0, 0), (56, .istore_n 2, 1, 4, 0, 0, 0, 0, 0, 0), (57, .aload_n 0, 1, 3, 0, 0, 0, 0, 0, 0), (58, .bipush 40, 2, 0, 0, 0, 0, 0, 0, 0), (60, .invokevirtual 287, 3, 23, 263, 0, 0, 222, 0, 1), (63, .istore_n 3, 1, 4, 0, 0, 0, 0, 0, 0)]), (88, [(64, .aload_n 0, 1, 3, 0, 0, 0, 0, 0, 0), (65, .invokevirtual 318, 3, 23, 315, 0, 0, 289, 0, 0), (68, .istore 4, 2, 4, 0, 0, 0, 0, 0, 0), (70, .aload_n 0, 1, 3, 0, 0, 0, 0, 0, 0), (71, .getfield 30, 3, 14, 144, 0, 0, 9, 14, 3), (74, .aload_n 0, 1, 3, 0, 0, 0, 0, 0, 0), (75, .getfield 244, 3, 14, 193, 0, 0, 9, 34, 0), (78, .iaload, 1, 22, 0, 0, 0, 0, 0, 0), (79, .bipush 60, 2, 0, 0, 0, 0, 0, 0, 0), (81, .if_icmp .eq 12, 3, 12, 0, 0, 0, 0, 0, 0), (84, .aload_n 0, 1, 3, 0, 0, 0, 0, 0, 0), (85, .getfield 297, 3, 14, 202, 0, 0, 9, 38, 0)]), (113, [(88, .bipush 30, 2, 0, 0, 0, 0, 0, 0, 0), (90, .if_icmp .ne 7, 3, 12, 0, 0, 0, 0, 0, 0), (93, .iconst 1, 1, 0, 0, 0, 0, 0, 0, 0), (94, .goto 4, 3, 0, 0, 0, 0, 0, 0, 0), (97, .iconst 0, 1, 0, 0, 0, 0, 0, 0, 0), (98, .istore 5, 2, 4, 0, 0, 0, 0, 0, 0), (100, .iload_n 2, 1, 2, 0, 0, 0, 0, 0, 0), (101, .ifCond .ne 25, 3, 12, 0, 0, 0, 0, 0, 0), (104, .iload 4, 2, 2, 0, 0, 0, 0, 0, 0), (106, .ifCond .ne 15, 3, 12, 0, 0, 0, 0, 0, 0), (109, .aload_n 0, 1, 3, 0, 0, 0, 0, 0, 0), (110, .getfield 195, 3, 14, 196, 0, 0, 9, 8, 0)]), (138, [(113, .iconst 4, 1, 0, 0, 0, 0, 0, 0, 0), (114, .if_icmp .eq 7, 3, 12, 0, 0, 0, 0, 0, 0), (117, .iload_n 3, 1, 2, 0, 0, 0, 0, 0, 0), (118, .ifCond .eq 25, 3, 12, 0, 0, 0, 0, 0, 0), (121, .iload 5, 2, 2, 0, 0, 0, 0, 0, 0), (123, .ifCond .ne 20, 3, 12, 0, 0, 0, 0, 0, 0), (126, .iload_n 2, 1, 2, 0, 0, 0, 0, 0, 0), (127, .ifCond .ne 7, 3, 12, 0, 0, 0, 0, 0, 0), (130, .iload_n 3, 1, 2, 0, 0, 0, 0, 0, 0), (131, .ifCond .eq 16, 3, 12, 0, 0, 0, 0, 0, 0), (134, .aload_n 0, 1, 3, 0, 0, 0, 0, 0, 0), (135, .getfield 306, 3, 14, 191, 0, 0, 9, 36, 0)]), (161, [(138, .bipush 7, 2, 0, 0, 0, 0, 0, 0, 0), (140, .if_icmp .ne 7, 3, 12, 0, 0, 0, 0, 0, 0), (143, .aload_n 0, 1, 3, 0, 0, 0, 0, 0, 0), (144, .invokevirtual 230, 3, 23, 258, 0, 0, 239, 0, 0), (147, .aload_n 0, 1, 3, 0, 0, 0, 0, 0, 0), (148, .invokevirtual 223, 3, 23, 276, 0, 0, 213, 0, 0), (151, .ifCond .ne 5, 3, 12, 0, 0, 0, 0, 0, 0), (154, .iconst 1, 1, 0, 0, 0, 0, 0, 0, 0), (155, .ireturn, 1, 21, 0, 0, 0, 0, 0, 0), (156, .aload_n 0, 1, 3, 0, 0, 0, 0, 0, 0), (157, .getfield 30, 3, 14, 144, 0, 0, 9, 14, 3), (160, .aload_n 0, 1, 3, 0, 0, 0, 0, 0, 0)]), (179, [(161, .getfield 244, 3, 14, 193, 0, 0, 9, 34, 0), (164, .dup2, 1, 11, 0, 0, 0, 0, 0, 0), (165, .iaload, 1, 22, 0, 0, 0, 0, 0, 0), (166, .iload_n 2, 1, 2, 0, 0, 0, 0, 0, 0), (167, .ifCond .eq 7, 3, 12, 0, 0, 0, 0, 0, 0), (170, .iconst 0, 1, 0, 0, 0, 0, 0, 0, 0), (171, .goto 4, 3, 0, 0, 0, 0, 0, 0, 0), (174, .iconst 1, 1, 0, 0, 0, 0, 0, 0, 0), (175, .iadd, 1, 7, 0, 0, 0, 0, 0, 0), (176, .iastore, 1, 17, 0, 0, 0, 0, 0, 0), (177, .aload_n 0, 1, 3, 0, 0, 0, 0, 0, 0), (178, .dup, 1, 11, 0, 0, 0, 0, 0, 0)]), (204, [(179, .getfield 297, 3, 14, 202, 0, 0, 9, 38, 0), (182, .iload_n 2, 1, 2, 0, 0, 0, 0, 0, 0), (183, .ifCond .eq 7, 3, 12, 0, 0, 0, 0, 0, 0), (186, .iconst 0, 1, 0, 0, 0, 0, 0, 0, 0), (187, .goto 4, 3, 0, 0, 0, 0, 0, 0, 0), (190, .iconst 1, 1, 0, 0, 0, 0, 0, 0, 0), (191, .iadd, 1, 7, 0, 0, 0, 0, 0, 0), (192, .putfield 297, 3, 15, 202, 0, 0, 9, 38, 0), (195, .iload 4, 2, 2, 0, 0, 0, 0, 0, 0), (197, .ifCond .ne 10, 3, 12, 0, 0, 0, 0, 0, 0), (200, .aload_n 0, 1, 3, 0, 0, 0, 0, 0, 0), (201, .getfield 213, 3, 14, 200, 0, 0, 9, 9, 0)]), (227, [(204, .goto 4, 3, 0, 0, 0, 0, 0, 0, 0), (207, .iconst 0, 1, 0, 0, 0, 0, 0, 0, 0), (208, .istore 6, 2, 4, 0, 0, 0, 0, 0, 0), (210, .aload_n 0, 1, 3, 0, 0, 0, 0, 0, 0), (211, .invokevirtual 227, 3, 23, 262, 0, 0, 195, 0, 0), (214, .iload_n 2, 1, 2, 0, 0, 0, 0, 0, 0), (215, .ifCond .ne 7, 3, 12, 0, 0, 0, 0, 0, 0), (218, .iload_n 3, 1, 2, 0, 0, 0, 0, 0, 0), (219, .ifCond .eq 31, 3, 12, 0, 0, 0, 0, 0, 0), (222, .aload_n 0, 1, 3, 0, 0, 0, 0, 0, 0), (223, .iload_n 2, 1, 2, 0, 0, 0, 0, 0, 0), (224, .ifCond .eq 7, 3, 12, 0, 0, 0, 0, 0, 0)]), (249, [(227, .iconst 3, 1, 0, 0, 0, 0, 0, 0, 0), (228, .goto 5, 3, 0, 0, 0, 0, 0, 0, 0), (231, .bipush 7, 2, 0, 0, 0, 0, 0, 0, 0), (233, .bipush 126, 2, 0, 0, 0, 0, 0, 0, 0), (235, .invokevirtual 309, 3, 23, 261, 0, 0, 252, 0, 2), (238, .aload_n 0, 1, 3, 0, 0, 0, 0, 0, 0), (239, .dup, 1, 11, 0, 0, 0, 0, 0, 0), (240, .getfield 306, 3, 14, 191, 0, 0, 9, 36, 0), (243, .iconst 1, 1, 0, 0, 0, 0, 0, 0, 0), (244, .iadd, 1, 7, 0, 0, 0, 0, 0, 0), (245, .putfield 306, 3, 15, 191, 0, 0, 9, 36, 0), (248, .iconst 1, 1, 0, 0, 0, 0, 0, 0, 0)]), (270, [(249, .ireturn, 1, 21, 0, 0, 0, 0, 0, 0), (250, .aload_n 0, 1, 3, 0, 0, 0, 0, 0, 0), (251, .iload 4, 2, 2, 0, 0, 0, 0, 0, 0), (253, .ifCond .ne 8, 3, 12, 0, 0, 0, 0, 0, 0), (256, .bipush 110, 2, 0, 0, 0, 0, 0, 0, 0), (258, .goto 5, 3, 0, 0, 0, 0, 0, 0, 0), (261, .iload 4, 2, 2, 0, 0, 0, 0, 0, 0), (263, .iload 6, 2, 2, 0, 0, 0, 0, 0, 0), (265, .invokevirtual 321, 3, 23, 259, 0, 0, 182, 0, 2), (268, .iconst 0, 1, 0, 0, 0, 0, 0, 0, 0), (269, .ireturn, 1, 21, 0, 0, 0, 0, 0, 0)])]
def ee_me286 : ee_me := (9, ⟨"PepperTablesModel", "unit", "()Z"⟩, prog_11_method_31_code, 7, (some .boolean), ee_B286, 0, 0)
set_option maxRecDepth 100000 in
theorem ee_me286ok : ee_Mb ee_me286 = true := by decide +kernel
/- 287: PepperTablesModel.untell(I)Z -/
def ee_B287 : List (Nat × List ee_en) := [(20, [(0, .iload_n 1, 1, 2, 0, 0, 0, 0, 0, 0), (1, .iconst 0, 1, 0, 0, 0, 0, 0, 0, 0), (2, .aload_n 0, 1, 3, 0, 0, 0, 0, 0, 0), (3, .getfield 380, 3, 14, 181, 0, 0, 9, 60, 0), (6, .iconst 1, 1, 0, 0, 0, 0, 0, 0, 0), (7, .isub, 1, 7, 0, 0, 0, 0, 0, 0), (8, .invokestatic 361, 3, 23, 250, 0, 0, 214, 1, 3), (11, .ifCond .eq 12, 3, 12, 0, 0, 0, 0, 0, 0), (14, .aload_n 0, 1, 3, 0, 0, 0, 0, 0, 0), (15, .getfield 121, 3, 14, 174, 0, 0, 9, 57, 3), (18, .iload_n 1, 1, 2, 0, 0, 0, 0, 0, 0), (19, .iaload, 1, 22, 0, 0, 0, 0, 0, 0)]), (37, [(20, .ifCond .lt 5, 3, 12, 0, 0, 0, 0, 0, 0), (23, .iconst 0, 1, 0, 0, 0, 0, 0, 0, 0), (24, .ireturn, 1, 21, 0, 0, 0, 0, 0, 0), (25, .aload_n 0, 1, 3, 0, 0, 0, 0, 0, 0), (26, .getfield 121, 3, 14, 174, 0, 0, 9, 57, 3), (29, .iload_n 1, 1, 2, 0, 0, 0, 0, 0, 0), (30, .aload_n 0, 1, 3, 0, 0, 0, 0, 0, 0), (31, .getfield 482, 3, 14, 182, 0, 0, 9, 61, 0), (34, .iastore, 1, 17, 0, 0, 0, 0, 0, 0), (35, .iconst 1, 1, 0, 0, 0, 0, 0, 0, 0), (36, .ireturn, 1, 21, 0, 0, 0, 0, 0, 0)])]
def ee_me287 : ee_me := (9, ⟨"PepperTablesModel", "untell", "(I)Z"⟩, prog_11_method_123_code, 2, (some .boolean), ee_B287, 0, 0)
set_option maxRecDepth 100000 in
theorem ee_me287ok : ee_Mb ee_me287 = true := by decide +kernel
/- 288: PepperTablesModel.whomOf(I)I -/
def ee_B288 : List (Nat × List ee_en) := [(15, [(0, .aload_n 0, 1, 3, 0, 0, 0, 0, 0, 0), (1, .getfield 48, 3, 14, 150, 0, 0, 9, 20, 3), (4, .bipush 10, 2, 0, 0, 0, 0, 0, 0, 0), (6, .aload_n 0, 1, 3, 0, 0, 0, 0, 0, 0), (7, .getfield 253, 3, 14, 184, 0, 0, 9, 33, 0), (10, .imul, 1, 7, 0, 0, 0, 0, 0, 0), (11, .iload_n 1, 1, 2, 0, 0, 0, 0, 0, 0), (12, .iadd, 1, 7, 0, 0, 0, 0, 0, 0), (13, .iaload, 1, 22, 0, 0, 0, 0, 0, 0), (14, .ireturn, 1, 21, 0, 0, 0, 0, 0, 0)])]
def ee_me288 : ee_me := (9, ⟨"PepperTablesModel", "whomOf", "(I)I"⟩, prog_11_method_51_code, 2, (some .int), ee_B288, 0, 0)
set_option maxRecDepth 100000 in
theorem ee_me288ok : ee_Mb ee_me288 = true := by decide +kernel
/- 289: PepperTablesModel.wordHere()I -/
def ee_B289 : List (Nat × List ee_en) := [(26, [(0, .aload_n 0, 1, 3, 0, 0, 0, 0, 0, 0), (1, .ldc2_w 161, 3, 1, 10, 0, 6844276, 0, 0, 0), (4, .invokevirtual 233, 3, 23, 245, 0, 0, 225, 0, 1), (7, .ifCond .eq 6, 3, 12, 0, 0, 0, 0, 0, 0), (10, .bipush 104, 2, 0, 0, 0, 0, 0, 0, 0), (12, .ireturn, 1, 21, 0, 0, 0, 0, 0, 0), (13, .aload_n 0, 1, 3, 0, 0, 0, 0, 0, 0), (14, .ldc2_w 151, 3, 1, 7, 0, 7563385, 0, 0, 0), (17, .invokevirtual 233, 3, 23, 245, 0, 0, 225, 0, 1), (20, .ifCond .eq 6, 3, 12, 0, 0, 0, 0, 0, 0), (23, .bipush 115, 2, 0, 0, 0, 0, 0, 0, 0), (25, .ireturn, 1, 21, 0, 0, 0, 0, 0, 0)]), (52, [(26, .aload_n 0, 1, 3, 0, 0, 0, 0, 0, 0), (27, .ldc2_w 171, 3, 1, 12, 0, 113753910899827, 0, 0, 0), (30, .invokevirtual 233, 3, 23, 245, 0, 0, 225, 0, 1), (33, .ifCond .eq 6, 3, 12, 0, 0, 0, 0, 0, 0), (36, .bipush 103, 2, 0, 0, 0, 0, 0, 0, 0), (38, .ireturn, 1, 21, 0, 0, 0, 0, 0, 0), (39, .aload_n 0, 1, 3, 0, 0, 0, 0, 0, 0), (40, .ldc2_w 173, 3, 1, 13, 0, 113741193899620, 0, 0, 0), (43, .invokevirtual 233, 3, 23, 245, 0, 0, 225, 0, 1), (46, .ifCond .eq 6, 3, 12, 0, 0, 0, 0, 0, 0), (49, .bipush 114, 2, 0, 0, 0, 0, 0, 0, 0), (51, .ireturn, 1, 21, 0, 0, 0, 0, 0, 0)]), (80, [(52, .aload_n 0, 1, 3, 0, 0, 0, 0, 0, 0), (53, .ldc2_w 175, 3, 1, 14, 0, 1751474548, 0, 0, 0), (56, .invokevirtual 233, 3, 23, 245, 0, 0, 225, 0, 1), (59, .ifCond .eq 6, 3, 12, 0, 0, 0, 0, 0, 0), (62, .bipush 116, 2, 0, 0, 0, 0, 0, 0, 0), (64, .ireturn, 1, 21, 0, 0, 0, 0, 0, 0), (65, .aload_n 0, 1, 3, 0, 0, 0, 0, 0, 0), (66, .ldc2_w 177, 3, 1, 15, 0, 109330362954597, 0, 0, 0), (69, .invokevirtual 233, 3, 23, 245, 0, 0, 225, 0, 1), (72, .ifCond .eq 8, 3, 12, 0, 0, 0, 0, 0, 0), (75, .bipush 99, 2, 0, 0, 0, 0, 0, 0, 0), (77, .goto 4, 3, 0, 0, 0, 0, 0, 0, 0)]), (82, [(80, .iconst 0, 1, 0, 0, 0, 0, 0, 0, 0), (81, .ireturn, 1, 21, 0, 0, 0, 0, 0, 0)])]
def ee_me289 : ee_me := (9, ⟨"PepperTablesModel", "wordHere", "()I"⟩, prog_11_method_30_code, 1, (some .int), ee_B289, 0, 0)
set_option maxRecDepth 100000 in
theorem ee_me289ok : ee_Mb ee_me289 = true := by decide +kernel
/- 290: PepperTablesModel.worthTo(II)I -/
def ee_B290 : List (Nat × List ee_en) := [(18, [(0, .aload_n 0, 1, 3, 0, 0, 0, 0, 0, 0), (1, .iload_n 2, 1, 2, 0, 0, 0, 0, 0, 0), (2, .aload_n 0, 1, 3, 0, 0, 0, 0, 0, 0), (3, .iload_n 1, 1, 2, 0, 0, 0, 0, 0, 0), (4, .invokevirtual 419, 3, 23, 275, 0, 0, 283, 0, 1), (7, .iand, 1, 7, 0, 0, 0, 0, 0, 0), (8, .invokevirtual 348, 3, 23, 239, 0, 0, 198, 0, 1), (11, .aload_n 0, 1, 3, 0, 0, 0, 0, 0, 0), (12, .iload_n 2, 1, 2, 0, 0, 0, 0, 0, 0), (13, .aload_n 0, 1, 3, 0, 0, 0, 0, 0, 0), (14, .iload_n 1, 1, 2, 0, 0, 0, 0, 0, 0), (15, .invokevirtual 413, 3, 23, 267, 0, 0, 170, 0, 1)]), (24, [(18, .iand, 1, 7, 0, 0, 0, 0, 0, 0), (19, .invokevirtual 348, 3, 23, 239, 0, 0, 198, 0, 1), (22, .isub, 1, 7, 0, 0, 0, 0, 0, 0), (23, .ireturn, 1, 21, 0, 0, 0, 0, 0, 0)])]
def ee_me290 : ee_me := (9, ⟨"PepperTablesModel", "worthTo", "(II)I"⟩, prog_11_method_104_code, 3, (some .int), ee_B290, 0, 0)
set_option maxRecDepth 100000 in
theorem ee_me290ok : ee_Mb ee_me290 = true := by decide +kernel
/- 291: PepperTablesModel.would(I)I -/
def ee_B291 : List (Nat × List ee_en) := [(18, [(0, .aload_n 0, 1, 3, 0, 0, 0, 0, 0, 0), (1, .iload_n 1, 1, 2, 0, 0, 0, 0, 0, 0), (2, .invokevirtual 425, 3, 23, 264, 0, 0, 220, 0, 1), (5, .ifCond .eq 11, 3, 12, 0, 0, 0, 0, 0, 0), (8, .aload_n 0, 1, 3, 0, 0, 0, 0, 0, 0), (9, .iload_n 1, 1, 2, 0, 0, 0, 0, 0, 0), (10, .invokevirtual 407, 3, 23, 265, 0, 0, 292, 0, 1), (13, .goto 4, 3, 0, 0, 0, 0, 0, 0, 0), (16, .iconst (-1), 1, 0, 0, 0, 0, 0, 0, 0), (17, .ireturn, 1, 21, 0, 0, 0, 0, 0, 0)])]
def ee_me291 : ee_me := (9, ⟨"PepperTablesModel", "would", "(I)I"⟩, prog_11_method_71_code, 2, (some .int), ee_B291, 0, 0)
set_option maxRecDepth 100000 in
theorem ee_me291ok : ee_Mb ee_me291 = true := by decide +kernel
/- 292: PepperTablesModel.wouldOf(I)I -/
def ee_B292 : List (Nat × List ee_en) := [(20, [(0, .aload_n 0, 1, 3, 0, 0, 0, 0, 0, 0), (1, .iload_n 1, 1, 2, 0, 0, 0, 0, 0, 0), (2, .invokevirtual 345, 3, 23, 255, 0, 0, 206, 0, 1), (5, .istore_n 2, 1, 4, 0, 0, 0, 0, 0, 0), (6, .iconst 0, 1, 0, 0, 0, 0, 0, 0, 0), (7, .istore_n 3, 1, 4, 0, 0, 0, 0, 0, 0), (8, .iconst 0, 1, 0, 0, 0, 0, 0, 0, 0), (9, .istore 4, 2, 4, 0, 0, 0, 0, 0, 0), (11, .iload 4, 2, 2, 0, 0, 0, 0, 0, 0), (13, .aload_n 0, 1, 3, 0, 0, 0, 0, 0, 0), (14, .invokevirtual 368, 3, 23, 235, 0, 0, 238, 0, 0), (17, .if_icmp .ge 35, 3, 12, 0, 0, 0, 0, 0, 0)]), (43, [(20, .iload_n 2, 1, 2, 0, 0, 0, 0, 0, 0), (21, .iload 4, 2, 2, 0, 0, 0, 0, 0, 0), (23, .invokestatic 259, 3, 23, 273, 0, 0, 166, 1, 2), (26, .ifCond .eq 20, 3, 12, 0, 0, 0, 0, 0, 0), (29, .aload_n 0, 1, 3, 0, 0, 0, 0, 0, 0), (30, .iload 4, 2, 2, 0, 0, 0, 0, 0, 0), (32, .iload_n 1, 1, 2, 0, 0, 0, 0, 0, 0), (33, .invokevirtual 404, 3, 23, 313, 0, 0, 216, 0, 2), (36, .ifCond .eq 10, 3, 12, 0, 0, 0, 0, 0, 0), (39, .iload_n 3, 1, 2, 0, 0, 0, 0, 0, 0), (40, .iconst 1, 1, 0, 0, 0, 0, 0, 0, 0), (41, .iload 4, 2, 2, 0, 0, 0, 0, 0, 0)]), (54, [(43, .ishl, 1, 7, 0, 0, 0, 0, 0, 0), (44, .ior, 1, 7, 0, 0, 0, 0, 0, 0), (45, .istore_n 3, 1, 4, 0, 0, 0, 0, 0, 0), (46, .iinc 4 1, 3, 6, 0, 0, 0, 0, 0, 0), (49, .goto (-38), 3, 0, 0, 0, 0, 0, 0, 0), (52, .iload_n 3, 1, 2, 0, 0, 0, 0, 0, 0), (53, .ireturn, 1, 21, 0, 0, 0, 0, 0, 0)])]
def ee_me292 : ee_me := (9, ⟨"PepperTablesModel", "wouldOf", "(I)I"⟩, prog_11_method_63_code, 5, (some .int), ee_B292, 0, 0)
set_option maxRecDepth 100000 in
theorem ee_me292ok : ee_Mb ee_me292 = true := by decide +kernel
end
section
/- 293: PepperTablesModel.wouldWith(II)I -/
def ee_B293 : List (Nat × List ee_en) := [(16, [(0, .aload_n 0, 1, 3, 0, 0, 0, 0, 0, 0), (1, .getfield 88, 3, 14, 163, 0, 0, 9, 42, 3), (4, .iconst 0, 1, 0, 0, 0, 0, 0, 0, 0), (5, .iaload, 1, 22, 0, 0, 0, 0, 0, 0), (6, .istore_n 3, 1, 4, 0, 0, 0, 0, 0, 0), (7, .aload_n 0, 1, 3, 0, 0, 0, 0, 0, 0), (8, .getfield 88, 3, 14, 163, 0, 0, 9, 42, 3), (11, .iconst 0, 1, 0, 0, 0, 0, 0, 0, 0), (12, .iload_n 1, 1, 2, 0, 0, 0, 0, 0, 0), (13, .iastore, 1, 17, 0, 0, 0, 0, 0, 0), (14, .aload_n 0, 1, 3, 0, 0, 0, 0, 0, 0), (15, .iload_n 2, 1, 2, 0, 0, 0, 0, 0, 0)]), (31, [(16, .invokevirtual 407, 3, 23, 265, 0, 0, 292, 0, 1), (19, .istore 4, 2, 4, 0, 0, 0, 0, 0, 0), (21, .aload_n 0, 1, 3, 0, 0, 0, 0, 0, 0), (22, .getfield 88, 3, 14, 163, 0, 0, 9, 42, 3), (25, .iconst 0, 1, 0, 0, 0, 0, 0, 0, 0), (26, .iload_n 3, 1, 2, 0, 0, 0, 0, 0, 0), (27, .iastore, 1, 17, 0, 0, 0, 0, 0, 0), (28, .iload 4, 2, 2, 0, 0, 0, 0, 0, 0), (30, .ireturn, 1, 21, 0, 0, 0, 0, 0, 0)])]
def ee_me293 : ee_me := (9, ⟨"PepperTablesModel", "wouldWith", "(II)I"⟩, prog_11_method_95_code, 5, (some .int), ee_B293, 0, 0)
set_option maxRecDepth 100000 in
theorem ee_me293ok : ee_Mb ee_me293 = true := by decide +kernel
/- 294: java/lang/Character.highSurrogate(I)C -/
def ee_B294 : List (Nat × List ee_en) := [(9, [(0, .iload_n 0, 1, 2, 0, 0, 0, 0, 0, 0), (1, .bipush 10, 2, 0, 0, 0, 0, 0, 0, 0), (3, .iushr, 1, 7, 0, 0, 0, 0, 0, 0), (4, .ldc 110, 2, 1, 2, 0, 55232, 0, 0, 0), (6, .iadd, 1, 7, 0, 0, 0, 0, 0, 0), (7, .i2c, 1, 10, 0, 0, 0, 0, 0, 0), (8, .ireturn, 1, 21, 0, 0, 0, 0, 0, 0)])]
def ee_me294 : ee_me := (11, ⟨"java/lang/Character", "highSurrogate", "(I)C"⟩, prog_12_method_28_code, 1, (some .char), ee_B294, 0, 0)
set_option maxRecDepth 100000 in
theorem ee_me294ok : ee_Mb ee_me294 = true := by decide +kernel
/- 295: java/lang/Character.isValidCodePoint(I)Z -/
def ee_B295 : List (Nat × List ee_en) := [(17, [(0, .iload_n 0, 1, 2, 0, 0, 0, 0, 0, 0), (1, .bipush 16, 2, 0, 0, 0, 0, 0, 0, 0), (3, .iushr, 1, 7, 0, 0, 0, 0, 0, 0), (4, .istore_n 1, 1, 4, 0, 0, 0, 0, 0, 0), (5, .iload_n 1, 1, 2, 0, 0, 0, 0, 0, 0), (6, .bipush 17, 2, 0, 0, 0, 0, 0, 0, 0), (8, .if_icmp .ge 7, 3, 12, 0, 0, 0, 0, 0, 0), (11, .iconst 1, 1, 0, 0, 0, 0, 0, 0, 0), (12, .goto 4, 3, 0, 0, 0, 0, 0, 0, 0), (15, .iconst 0, 1, 0, 0, 0, 0, 0, 0, 0), (16, .ireturn, 1, 21, 0, 0, 0, 0, 0, 0)])]
def ee_me295 : ee_me := (11, ⟨"java/lang/Character", "isValidCodePoint", "(I)Z"⟩, prog_12_method_11_code, 2, (some .boolean), ee_B295, 0, 0)
set_option maxRecDepth 100000 in
theorem ee_me295ok : ee_Mb ee_me295 = true := by decide +kernel
/- 296: java/lang/Character.lowSurrogate(I)C -/
def ee_B296 : List (Nat × List ee_en) := [(10, [(0, .iload_n 0, 1, 2, 0, 0, 0, 0, 0, 0), (1, .sipush 1023, 3, 0, 0, 0, 0, 0, 0, 0), (4, .iand, 1, 7, 0, 0, 0, 0, 0, 0), (5, .ldc 76, 2, 1, 3, 0, 56320, 0, 0, 0), (7, .iadd, 1, 7, 0, 0, 0, 0, 0, 0), (8, .i2c, 1, 10, 0, 0, 0, 0, 0, 0), (9, .ireturn, 1, 21, 0, 0, 0, 0, 0, 0)])]
def ee_me296 : ee_me := (11, ⟨"java/lang/Character", "lowSurrogate", "(I)C"⟩, prog_12_method_29_code, 1, (some .char), ee_B296, 0, 0)
set_option maxRecDepth 100000 in
theorem ee_me296ok : ee_Mb ee_me296 = true := by decide +kernel
/- 297: java/lang/Integer.bitCount(I)I -/
def ee_B297 : List (Nat × List ee_en) := [(16, [(0, .iload_n 0, 1, 2, 0, 0, 0, 0, 0, 0), (1, .iload_n 0, 1, 2, 0, 0, 0, 0, 0, 0), (2, .iconst 1, 1, 0, 0, 0, 0, 0, 0, 0), (3, .iushr, 1, 7, 0, 0, 0, 0, 0, 0), (4, .ldc_w 265, 3, 1, 4, 0, 1431655765, 0, 0, 0), (7, .iand, 1, 7, 0, 0, 0, 0, 0, 0), (8, .isub, 1, 7, 0, 0, 0, 0, 0, 0), (9, .istore_n 0, 1, 4, 0, 0, 0, 0, 0, 0), (10, .iload_n 0, 1, 2, 0, 0, 0, 0, 0, 0), (11, .ldc_w 266, 3, 1, 5, 0, 858993459, 0, 0, 0), (14, .iand, 1, 7, 0, 0, 0, 0, 0, 0), (15, .iload_n 0, 1, 2, 0, 0, 0, 0, 0, 0)]), (32, [(16, .iconst 2, 1, 0, 0, 0, 0, 0, 0, 0), (17, .iushr, 1, 7, 0, 0, 0, 0, 0, 0), (18, .ldc_w 266, 3, 1, 5, 0, 858993459, 0, 0, 0), (21, .iand, 1, 7, 0, 0, 0, 0, 0, 0), (22, .iadd, 1, 7, 0, 0, 0, 0, 0, 0), (23, .istore_n 0, 1, 4, 0, 0, 0, 0, 0, 0), (24, .iload_n 0, 1, 2, 0, 0, 0, 0, 0, 0), (25, .iload_n 0, 1, 2, 0, 0, 0, 0, 0, 0), (26, .iconst 4, 1, 0, 0, 0, 0, 0, 0, 0), (27, .iushr, 1, 7, 0, 0, 0, 0, 0, 0), (28, .iadd, 1, 7, 0, 0, 0, 0, 0, 0), (29, .ldc_w 267, 3, 1, 6, 0, 252645135, 0, 0, 0)]), (46, [(32, .iand, 1, 7, 0, 0, 0, 0, 0, 0), (33, .istore_n 0, 1, 4, 0, 0, 0, 0, 0, 0), (34, .iload_n 0, 1, 2, 0, 0, 0, 0, 0, 0), (35, .iload_n 0, 1, 2, 0, 0, 0, 0, 0, 0), (36, .bipush 8, 2, 0, 0, 0, 0, 0, 0, 0), (38, .iushr, 1, 7, 0, 0, 0, 0, 0, 0), (39, .iadd, 1, 7, 0, 0, 0, 0, 0, 0), (40, .istore_n 0, 1, 4, 0, 0, 0, 0, 0, 0), (41, .iload_n 0, 1, 2, 0, 0, 0, 0, 0, 0), (42, .iload_n 0, 1, 2, 0, 0, 0, 0, 0, 0), (43, .bipush 16, 2, 0, 0, 0, 0, 0, 0, 0), (45, .iushr, 1, 7, 0, 0, 0, 0, 0, 0)]), (53, [(46, .iadd, 1, 7, 0, 0, 0, 0, 0, 0), (47, .istore_n 0, 1, 4, 0, 0, 0, 0, 0, 0), (48, .iload_n 0, 1, 2, 0, 0, 0, 0, 0, 0), (49, .bipush 63, 2, 0, 0, 0, 0, 0, 0, 0), (51, .iand, 1, 7, 0, 0, 0, 0, 0, 0), (52, .ireturn, 1, 21, 0, 0, 0, 0, 0, 0)])]
def ee_me297 : ee_me := (12, ⟨"java/lang/Integer", "bitCount", "(I)I"⟩, prog_13_method_49_code, 1, (some .int), ee_B297, 0, 0)
set_option maxRecDepth 100000 in
theorem ee_me297ok : ee_Mb ee_me297 = true := by decide +kernel
/- 298: java/lang/Math.max(II)I -/
def ee_B298 : List (Nat × List ee_en) := [(11, [(0, .iload_n 0, 1, 2, 0, 0, 0, 0, 0, 0), (1, .iload_n 1, 1, 2, 0, 0, 0, 0, 0, 0), (2, .if_icmp .lt 7, 3, 12, 0, 0, 0, 0, 0, 0), (5, .iload_n 0, 1, 2, 0, 0, 0, 0, 0, 0), (6, .goto 4, 3, 0, 0, 0, 0, 0, 0, 0), (9, .iload_n 1, 1, 2, 0, 0, 0, 0, 0, 0), (10, .ireturn, 1, 21, 0, 0, 0, 0, 0, 0)])]
def ee_me298 : ee_me := (13, ⟨"java/lang/Math", "max", "(II)I"⟩, prog_14_method_65_code, 2, (some .int), ee_B298, 0, 0)
set_option maxRecDepth 100000 in
theorem ee_me298ok : ee_Mb ee_me298 = true := by decide +kernel
/- 299: java/lang/Math.min(II)I -/
def ee_B299 : List (Nat × List ee_en) := [(11, [(0, .iload_n 0, 1, 2, 0, 0, 0, 0, 0, 0), (1, .iload_n 1, 1, 2, 0, 0, 0, 0, 0, 0), (2, .if_icmp .gt 7, 3, 12, 0, 0, 0, 0, 0, 0), (5, .iload_n 0, 1, 2, 0, 0, 0, 0, 0, 0), (6, .goto 4, 3, 0, 0, 0, 0, 0, 0, 0), (9, .iload_n 1, 1, 2, 0, 0, 0, 0, 0, 0), (10, .ireturn, 1, 21, 0, 0, 0, 0, 0, 0)])]
def ee_me299 : ee_me := (13, ⟨"java/lang/Math", "min", "(II)I"⟩, prog_14_method_69_code, 2, (some .int), ee_B299, 0, 0)
set_option maxRecDepth 100000 in
theorem ee_me299ok : ee_Mb ee_me299 = true := by decide +kernel
/- 300: java/lang/String.charAt(I)C -/
def ee_B300 : List (Nat × List ee_en) := [(24, [(0, .aload_n 0, 1, 3, 0, 0, 0, 0, 0, 0), (1, .invokevirtual 492, 3, 23, 316, 0, 0, 306, 0, 0), (4, .ifCond .eq 12, 3, 12, 0, 0, 0, 0, 0, 0), (7, .aload_n 0, 1, 3, 0, 0, 0, 0, 0, 0), (8, .getfield 9, 3, 14, 0, 1, 0, 1, 0, 0), (11, .iload_n 1, 1, 2, 0, 0, 0, 0, 0, 0), (12, .invokestatic 495, 3, 23, 317, 0, 0, 309, 1, 2), (15, .ireturn, 1, 21, 0, 0, 0, 0, 0, 0), (16, .aload_n 0, 1, 3, 0, 0, 0, 0, 0, 0), (17, .getfield 9, 3, 14, 0, 1, 0, 1, 0, 0), (20, .iload_n 1, 1, 2, 0, 0, 0, 0, 0, 0), (21, .invokestatic 498, 3, 20, 0, 9, 0, 0, 0, 0)]), (25, [(24, .ireturn, 1, 21, 0, 0, 0, 0, 0, 0)])]
def ee_me300 : ee_me := (14, ⟨"java/lang/String", "charAt", "(I)C"⟩, prog_15_method_56_code, 2, (some .char), ee_B300, 0, 0)
set_option maxRecDepth 100000 in
theorem ee_me300ok : ee_Mb ee_me300 = true := by decide +kernel
/- 301: java/lang/String.checkBoundsBeginEnd(III)V -/
def ee_B301 : List (Nat × List ee_en) := [(11, [(0, .iload_n 0, 1, 2, 0, 0, 0, 0, 0, 0), (1, .iload_n 1, 1, 2, 0, 0, 0, 0, 0, 0), (2, .iload_n 2, 1, 2, 0, 0, 0, 0, 0, 0), (3, .getstatic 1053, 3, 19, 0, 0, 0, 1, 0, 0), (6, .invokestatic 1062, 3, 23, 318, 0, 0, 312, 1, 4), (9, .pop, 1, 11, 0, 0, 0, 0, 0, 0), (10, .return_, 1, 21, 0, 0, 0, 0, 0, 0)])]
def ee_me301 : ee_me := (14, ⟨"java/lang/String", "checkBoundsBeginEnd", "(III)V"⟩, prog_15_method_158_code, 3, none, ee_B301, 0, 0)
set_option maxRecDepth 100000 in
theorem ee_me301ok : ee_Mb ee_me301 = true := by decide +kernel
/- 302: java/lang/String.checkIndex(II)V -/
def ee_B302 : List (Nat × List ee_en) := [(10, [(0, .iload_n 0, 1, 2, 0, 0, 0, 0, 0, 0), (1, .iload_n 1, 1, 2, 0, 0, 0, 0, 0, 0), (2, .getstatic 1053, 3, 19, 0, 0, 0, 1, 0, 0), (5, .invokestatic 1059, 3, 23, 319, 0, 0, 313, 1, 3), (8, .pop, 1, 11, 0, 0, 0, 0, 0, 0), (9, .return_, 1, 21, 0, 0, 0, 0, 0, 0)])]
def ee_me302 : ee_me := (14, ⟨"java/lang/String", "checkIndex", "(II)V"⟩, prog_15_method_155_code, 2, none, ee_B302, 0, 0)
set_option maxRecDepth 100000 in
theorem ee_me302ok : ee_Mb ee_me302 = true := by decide +kernel
/- 303: java/lang/String.coder()B -/
def ee_B303 : List (Nat × List ee_en) := [(15, [(0, .getstatic 38, 3, 19, 1, 0, 0, 0, 0, 0), (3, .ifCond .eq 10, 3, 12, 0, 0, 0, 0, 0, 0), (6, .aload_n 0, 1, 3, 0, 0, 0, 0, 0, 0), (7, .getfield 15, 3, 14, 1, 1, 0, 0, 0, 0), (10, .goto 4, 3, 0, 0, 0, 0, 0, 0, 0), (13, .iconst 1, 1, 0, 0, 0, 0, 0, 0, 0), (14, .ireturn, 1, 21, 0, 0, 0, 0, 0, 0)])]
def ee_me303 : ee_me := (14, ⟨"java/lang/String", "coder", "()B"⟩, prog_15_method_152_code, 1, (some .byte), ee_B303, 0, 0)
set_option maxRecDepth 100000 in
theorem ee_me303ok : ee_Mb ee_me303 = true := by decide +kernel
/- 304: java/lang/String.indexOf(I)I -/
def ee_B304 : List (Nat × List ee_en) := [(7, [(0, .aload_n 0, 1, 3, 0, 0, 0, 0, 0, 0), (1, .iload_n 1, 1, 2, 0, 0, 0, 0, 0, 0), (2, .iconst 0, 1, 0, 0, 0, 0, 0, 0, 0), (3, .invokevirtual 633, 3, 23, 320, 0, 0, 305, 0, 2), (6, .ireturn, 1, 21, 0, 0, 0, 0, 0, 0)])]
def ee_me304 : ee_me := (14, ⟨"java/lang/String", "indexOf", "(I)I"⟩, prog_15_method_79_code, 2, (some .int), ee_B304, 0, 0)
set_option maxRecDepth 100000 in
theorem ee_me304ok : ee_Mb ee_me304 = true := by decide +kernel
/- 305: java/lang/String.indexOf(II)I -/
def ee_B305 : List (Nat × List ee_en) := [(24, [(0, .aload_n 0, 1, 3, 0, 0, 0, 0, 0, 0), (1, .invokevirtual 492, 3, 23, 316, 0, 0, 306, 0, 0), (4, .ifCond .eq 19, 3, 12, 0, 0, 0, 0, 0, 0), (7, .aload_n 0, 1, 3, 0, 0, 0, 0, 0, 0), (8, .getfield 9, 3, 14, 0, 1, 0, 1, 0, 0), (11, .iload_n 1, 1, 2, 0, 0, 0, 0, 0, 0), (12, .iload_n 2, 1, 2, 0, 0, 0, 0, 0, 0), (13, .aload_n 0, 1, 3, 0, 0, 0, 0, 0, 0), (14, .invokevirtual 505, 3, 23, 321, 0, 0, 307, 0, 0), (17, .invokestatic 637, 3, 23, 322, 0, 0, 310, 1, 4), (20, .goto 16, 3, 0, 0, 0, 0, 0, 0, 0), (23, .aload_n 0, 1, 3, 0, 0, 0, 0, 0, 0)]), (37, [(24, .getfield 9, 3, 14, 0, 1, 0, 1, 0, 0), (27, .iload_n 1, 1, 2, 0, 0, 0, 0, 0, 0), (28, .iload_n 2, 1, 2, 0, 0, 0, 0, 0, 0), (29, .aload_n 0, 1, 3, 0, 0, 0, 0, 0, 0), (30, .invokevirtual 505, 3, 23, 321, 0, 0, 307, 0, 0), (33, .invokestatic 640, 3, 20, 0, 9, 0, 0, 0, 0), (36, .ireturn, 1, 21, 0, 0, 0, 0, 0, 0)])]
def ee_me305 : ee_me := (14, ⟨"java/lang/String", "indexOf", "(II)I"⟩, prog_15_method_80_code, 3, (some .int), ee_B305, 0, 0)
set_option maxRecDepth 100000 in
theorem ee_me305ok : ee_Mb ee_me305 = true := by decide +kernel
/- 306: java/lang/String.isLatin1()Z -/
def ee_B306 : List (Nat × List ee_en) := [(19, [(0, .getstatic 38, 3, 19, 1, 0, 0, 0, 0, 0), (3, .ifCond .eq 14, 3, 12, 0, 0, 0, 0, 0, 0), (6, .aload_n 0, 1, 3, 0, 0, 0, 0, 0, 0), (7, .getfield 15, 3, 14, 1, 1, 0, 0, 0, 0), (10, .ifCond .ne 7, 3, 12, 0, 0, 0, 0, 0, 0), (13, .iconst 1, 1, 0, 0, 0, 0, 0, 0, 0), (14, .goto 4, 3, 0, 0, 0, 0, 0, 0, 0), (17, .iconst 0, 1, 0, 0, 0, 0, 0, 0, 0), (18, .ireturn, 1, 21, 0, 0, 0, 0, 0, 0)])]
def ee_me306 : ee_me := (14, ⟨"java/lang/String", "isLatin1", "()Z"⟩, prog_15_method_154_code, 1, (some .boolean), ee_B306, 0, 0)
set_option maxRecDepth 100000 in
theorem ee_me306ok : ee_Mb ee_me306 = true := by decide +kernel
/- 307: java/lang/String.length()I -/
def ee_B307 : List (Nat × List ee_en) := [(11, [(0, .aload_n 0, 1, 3, 0, 0, 0, 0, 0, 0), (1, .getfield 9, 3, 14, 0, 1, 0, 1, 0, 0), (4, .arraylength, 1, 16, 0, 0, 0, 0, 0, 0), (5, .aload_n 0, 1, 3, 0, 0, 0, 0, 0, 0), (6, .invokevirtual 335, 3, 23, 323, 0, 0, 303, 0, 0), (9, .ishr, 1, 7, 0, 0, 0, 0, 0, 0), (10, .ireturn, 1, 21, 0, 0, 0, 0, 0, 0)])]
def ee_me307 : ee_me := (14, ⟨"java/lang/String", "length", "()I"⟩, prog_15_method_54_code, 1, (some .int), ee_B307, 0, 0)
set_option maxRecDepth 100000 in
theorem ee_me307ok : ee_Mb ee_me307 = true := by decide +kernel
/- 308: java/lang/StringLatin1.canEncode(I)Z -/
def ee_B308 : List (Nat × List ee_en) := [(17, [(0, .iload_n 0, 1, 2, 0, 0, 0, 0, 0, 0), (1, .ifCond .lt 14, 3, 12, 0, 0, 0, 0, 0, 0), (4, .iload_n 0, 1, 2, 0, 0, 0, 0, 0, 0), (5, .sipush 255, 3, 0, 0, 0, 0, 0, 0, 0), (8, .if_icmp .gt 7, 3, 12, 0, 0, 0, 0, 0, 0), (11, .iconst 1, 1, 0, 0, 0, 0, 0, 0, 0), (12, .goto 4, 3, 0, 0, 0, 0, 0, 0, 0), (15, .iconst 0, 1, 0, 0, 0, 0, 0, 0, 0), (16, .ireturn, 1, 21, 0, 0, 0, 0, 0, 0)])]
def ee_me308 : ee_me := (15, ⟨"java/lang/StringLatin1", "canEncode", "(I)Z"⟩, prog_16_method_4_code, 1, (some .boolean), ee_B308, 0, 0)
set_option maxRecDepth 100000 in
theorem ee_me308ok : ee_Mb ee_me308 = true := by decide +kernel
/- 309: java/lang/StringLatin1.charAt([BI)C -/
def ee_B309 : List (Nat × List ee_en) := [(15, [(0, .iload_n 1, 1, 2, 0, 0, 0, 0, 0, 0), (1, .aload_n 0, 1, 3, 0, 0, 0, 0, 0, 0), (2, .arraylength, 1, 16, 0, 0, 0, 0, 0, 0), (3, .invokestatic 9, 3, 23, 324, 0, 0, 302, 1, 2), (6, .aload_n 0, 1, 3, 0, 0, 0, 0, 0, 0), (7, .iload_n 1, 1, 2, 0, 0, 0, 0, 0, 0), (8, .baload, 1, 22, 0, 0, 0, 0, 0, 0), (9, .sipush 255, 3, 0, 0, 0, 0, 0, 0, 0), (12, .iand, 1, 7, 0, 0, 0, 0, 0, 0), (13, .i2c, 1, 10, 0, 0, 0, 0, 0, 0), (14, .ireturn, 1, 21, 0, 0, 0, 0, 0, 0)])]
def ee_me309 : ee_me := (15, ⟨"java/lang/StringLatin1", "charAt", "([BI)C"⟩, prog_16_method_2_code, 2, (some .char), ee_B309, 0, 0)
set_option maxRecDepth 100000 in
theorem ee_me309ok : ee_Mb ee_me309 = true := by decide +kernel
/- 310: java/lang/StringLatin1.indexOf([BIII)I -/
def ee_B310 : List (Nat × List ee_en) := [(18, [(0, .iload_n 1, 1, 2, 0, 0, 0, 0, 0, 0), (1, .invokestatic 88, 3, 23, 325, 0, 0, 308, 1, 1), (4, .ifCond .ne 5, 3, 12, 0, 0, 0, 0, 0, 0), (7, .iconst (-1), 1, 0, 0, 0, 0, 0, 0, 0), (8, .ireturn, 1, 21, 0, 0, 0, 0, 0, 0), (9, .iload_n 2, 1, 2, 0, 0, 0, 0, 0, 0), (10, .iconst 0, 1, 0, 0, 0, 0, 0, 0, 0), (11, .invokestatic 92, 3, 24, 3, 4, 0, 0, 0, 0), (14, .istore_n 2, 1, 4, 0, 0, 0, 0, 0, 0), (15, .iload_n 3, 1, 2, 0, 0, 0, 0, 0, 0), (16, .aload_n 0, 1, 3, 0, 0, 0, 0, 0, 0), (17, .arraylength, 1, 16, 0, 0, 0, 0, 0, 0)]), (36, [(18, .invokestatic 38, 3, 24, 4, 3, 0, 0, 0, 0), (21, .istore_n 3, 1, 4, 0, 0, 0, 0, 0, 0), (22, .iload_n 2, 1, 2, 0, 0, 0, 0, 0, 0), (23, .iload_n 3, 1, 2, 0, 0, 0, 0, 0, 0), (24, .if_icmp .lt 5, 3, 12, 0, 0, 0, 0, 0, 0), (27, .iconst (-1), 1, 0, 0, 0, 0, 0, 0, 0), (28, .ireturn, 1, 21, 0, 0, 0, 0, 0, 0), (29, .aload_n 0, 1, 3, 0, 0, 0, 0, 0, 0), (30, .iload_n 1, 1, 2, 0, 0, 0, 0, 0, 0), (31, .iload_n 2, 1, 2, 0, 0, 0, 0, 0, 0), (32, .iload_n 3, 1, 2, 0, 0, 0, 0, 0, 0), (33, .invokestatic 95, 3, 23, 326, 0, 0, 311, 1, 4)]), (37, [(36, .ireturn, 1, 21, 0, 0, 0, 0, 0, 0)])]
def ee_me310 : ee_me := (15, ⟨"java/lang/StringLatin1", "indexOf", "([BIII)I"⟩, prog_16_method_22_code, 4, (some .int), ee_B310, 0, 0)
set_option maxRecDepth 100000 in
theorem ee_me310ok : ee_Mb ee_me310 = true := by decide +kernel
/- 311: java/lang/StringLatin1.indexOfChar([BIII)I -/
def ee_B311 : List (Nat × List ee_en) := [(19, [(0, .iload_n 1, 1, 2, 0, 0, 0, 0, 0, 0), (1, .i2b, 1, 10, 0, 0, 0, 0, 0, 0), (2, .istore 4, 2, 4, 0, 0, 0, 0, 0, 0), (4, .iload_n 2, 1, 2, 0, 0, 0, 0, 0, 0), (5, .istore 5, 2, 4, 0, 0, 0, 0, 0, 0), (7, .iload 5, 2, 2, 0, 0, 0, 0, 0, 0), (9, .iload_n 3, 1, 2, 0, 0, 0, 0, 0, 0), (10, .if_icmp .ge 21, 3, 12, 0, 0, 0, 0, 0, 0), (13, .aload_n 0, 1, 3, 0, 0, 0, 0, 0, 0), (14, .iload 5, 2, 2, 0, 0, 0, 0, 0, 0), (16, .baload, 1, 22, 0, 0, 0, 0, 0, 0), (17, .iload 4, 2, 2, 0, 0, 0, 0, 0, 0)]), (33, [(19, .if_icmp .ne 6, 3, 12, 0, 0, 0, 0, 0, 0), (22, .iload 5, 2, 2, 0, 0, 0, 0, 0, 0), (24, .ireturn, 1, 21, 0, 0, 0, 0, 0, 0), (25, .iinc 5 1, 3, 6, 0, 0, 0, 0, 0, 0), (28, .goto (-21), 3, 0, 0, 0, 0, 0, 0, 0), (31, .iconst (-1), 1, 0, 0, 0, 0, 0, 0, 0), (32, .ireturn, 1, 21, 0, 0, 0, 0, 0, 0)])]
def ee_me311 : ee_me := (15, ⟨"java/lang/StringLatin1", "indexOfChar", "([BIII)I"⟩, prog_16_method_23_code, 6, (some .int), ee_B311, 0, 0)
set_option maxRecDepth 100000 in
theorem ee_me311ok : ee_Mb ee_me311 = true := by decide +kernel
/- 312: jdk/internal/util/Preconditions.checkFromToIndex(IIILjava/util/function/BiFunction;)I -/
def ee_B312 : List (Nat × List ee_en) := [(18, [(0, .iload_n 0, 1, 2, 0, 0, 0, 0, 0, 0), (1, .ifCond .lt 13, 3, 12, 0, 0, 0, 0, 0, 0), (4, .iload_n 0, 1, 2, 0, 0, 0, 0, 0, 0), (5, .iload_n 1, 1, 2, 0, 0, 0, 0, 0, 0), (6, .if_icmp .gt 8, 3, 12, 0, 0, 0, 0, 0, 0), (9, .iload_n 1, 1, 2, 0, 0, 0, 0, 0, 0), (10, .iload_n 2, 1, 2, 0, 0, 0, 0, 0, 0), (11, .if_icmp .le 11, 3, 12, 0, 0, 0, 0, 0, 0), (14, .aload_n 3, 1, 3, 0, 0, 0, 0, 0, 0), (15, .iload_n 0, 1, 2, 0, 0, 0, 0, 0, 0), (16, .iload_n 1, 1, 2, 0, 0, 0, 0, 0, 0), (17, .iload_n 2, 1, 2, 0, 0, 0, 0, 0, 0)]), (24, [(18, .invokestatic 99, 3, 20, 0, 9, 0, 0, 0, 0), (21, .athrow, 1, 25, 0, 0, 0, 0, 0, 0), (22, .iload_n 0, 1, 2, 0, 0, 0, 0, 0, 0), (23, .ireturn, 1, 21, 0, 0, 0, 0, 0, 0)])]
def ee_me312 : ee_me := (16, ⟨"jdk/internal/util/Preconditions", "checkFromToIndex", "(IIILjava/util/function/BiFunction;)I"⟩, prog_19_method_12_code, 4, (some .int), ee_B312, 0, 0)
set_option maxRecDepth 100000 in
theorem ee_me312ok : ee_Mb ee_me312 = true := by decide +kernel
/- 313: jdk/internal/util/Preconditions.checkIndex(IILjava/util/function/BiFunction;)I -/
def ee_B313 : List (Nat × List ee_en) := [(18, [(0, .iload_n 0, 1, 2, 0, 0, 0, 0, 0, 0), (1, .ifCond .lt 8, 3, 12, 0, 0, 0, 0, 0, 0), (4, .iload_n 0, 1, 2, 0, 0, 0, 0, 0, 0), (5, .iload_n 1, 1, 2, 0, 0, 0, 0, 0, 0), (6, .if_icmp .lt 10, 3, 12, 0, 0, 0, 0, 0, 0), (9, .aload_n 2, 1, 3, 0, 0, 0, 0, 0, 0), (10, .iload_n 0, 1, 2, 0, 0, 0, 0, 0, 0), (11, .iload_n 1, 1, 2, 0, 0, 0, 0, 0, 0), (12, .invokestatic 95, 3, 20, 0, 9, 0, 0, 0, 0), (15, .athrow, 1, 25, 0, 0, 0, 0, 0, 0), (16, .iload_n 0, 1, 2, 0, 0, 0, 0, 0, 0), (17, .ireturn, 1, 21, 0, 0, 0, 0, 0, 0)])]
def ee_me313 : ee_me := (16, ⟨"jdk/internal/util/Preconditions", "checkIndex", "(IILjava/util/function/BiFunction;)I"⟩, prog_19_method_11_code, 3, (some .int), ee_B313, 0, 0)
set_option maxRecDepth 100000 in
theorem ee_me313ok : ee_Mb ee_me313 = true := by decide +kernel
end
section
def ee_MC0 : List ee_me := [ee_me0, ee_me1, ee_me2, ee_me3, ee_me4, ee_me5, ee_me6, ee_me7, ee_me8, ee_me9, ee_me10, ee_me11, ee_me12, ee_me13, ee_me14, ee_me15]
theorem ee_MC0ok : ee_MC0.all ee_Mb = true := by
  unfold ee_MC0
  simp only [List.all_cons, List.all_nil, ee_me0ok, ee_me1ok, ee_me2ok, ee_me3ok, ee_me4ok, ee_me5ok, ee_me6ok, ee_me7ok, ee_me8ok, ee_me9ok, ee_me10ok, ee_me11ok, ee_me12ok, ee_me13ok, ee_me14ok, ee_me15ok, Bool.and_self]
def ee_MC1 : List ee_me := [ee_me16, ee_me17, ee_me18, ee_me19, ee_me20, ee_me21, ee_me22, ee_me23, ee_me24, ee_me25, ee_me26, ee_me27, ee_me28, ee_me29, ee_me30, ee_me31]
theorem ee_MC1ok : ee_MC1.all ee_Mb = true := by
  unfold ee_MC1
  simp only [List.all_cons, List.all_nil, ee_me16ok, ee_me17ok, ee_me18ok, ee_me19ok, ee_me20ok, ee_me21ok, ee_me22ok, ee_me23ok, ee_me24ok, ee_me25ok, ee_me26ok, ee_me27ok, ee_me28ok, ee_me29ok, ee_me30ok, ee_me31ok, Bool.and_self]
def ee_MC2 : List ee_me := [ee_me32, ee_me33, ee_me34, ee_me35, ee_me36, ee_me37, ee_me38, ee_me39, ee_me40, ee_me41, ee_me42, ee_me43, ee_me44, ee_me45, ee_me46, ee_me47]
theorem ee_MC2ok : ee_MC2.all ee_Mb = true := by
  unfold ee_MC2
  simp only [List.all_cons, List.all_nil, ee_me32ok, ee_me33ok, ee_me34ok, ee_me35ok, ee_me36ok, ee_me37ok, ee_me38ok, ee_me39ok, ee_me40ok, ee_me41ok, ee_me42ok, ee_me43ok, ee_me44ok, ee_me45ok, ee_me46ok, ee_me47ok, Bool.and_self]
def ee_MC3 : List ee_me := [ee_me48, ee_me49, ee_me50, ee_me51, ee_me52, ee_me53, ee_me54, ee_me55, ee_me56, ee_me57, ee_me58, ee_me59, ee_me60, ee_me61, ee_me62, ee_me63]
theorem ee_MC3ok : ee_MC3.all ee_Mb = true := by
  unfold ee_MC3
  simp only [List.all_cons, List.all_nil, ee_me48ok, ee_me49ok, ee_me50ok, ee_me51ok, ee_me52ok, ee_me53ok, ee_me54ok, ee_me55ok, ee_me56ok, ee_me57ok, ee_me58ok, ee_me59ok, ee_me60ok, ee_me61ok, ee_me62ok, ee_me63ok, Bool.and_self]
def ee_MC4 : List ee_me := [ee_me64, ee_me65, ee_me66, ee_me67, ee_me68, ee_me69, ee_me70, ee_me71, ee_me72, ee_me73, ee_me74, ee_me75, ee_me76, ee_me77, ee_me78, ee_me79]
theorem ee_MC4ok : ee_MC4.all ee_Mb = true := by
  unfold ee_MC4
  simp only [List.all_cons, List.all_nil, ee_me64ok, ee_me65ok, ee_me66ok, ee_me67ok, ee_me68ok, ee_me69ok, ee_me70ok, ee_me71ok, ee_me72ok, ee_me73ok, ee_me74ok, ee_me75ok, ee_me76ok, ee_me77ok, ee_me78ok, ee_me79ok, Bool.and_self]
def ee_MC5 : List ee_me := [ee_me80, ee_me81, ee_me82, ee_me83, ee_me84, ee_me85, ee_me86, ee_me87, ee_me88, ee_me89, ee_me90, ee_me91, ee_me92, ee_me93, ee_me94, ee_me95]
theorem ee_MC5ok : ee_MC5.all ee_Mb = true := by
  unfold ee_MC5
  simp only [List.all_cons, List.all_nil, ee_me80ok, ee_me81ok, ee_me82ok, ee_me83ok, ee_me84ok, ee_me85ok, ee_me86ok, ee_me87ok, ee_me88ok, ee_me89ok, ee_me90ok, ee_me91ok, ee_me92ok, ee_me93ok, ee_me94ok, ee_me95ok, Bool.and_self]
def ee_MC6 : List ee_me := [ee_me96, ee_me97, ee_me98, ee_me99, ee_me100, ee_me101, ee_me102, ee_me103, ee_me104, ee_me105, ee_me106, ee_me107, ee_me108, ee_me109, ee_me110, ee_me111]
theorem ee_MC6ok : ee_MC6.all ee_Mb = true := by
  unfold ee_MC6
  simp only [List.all_cons, List.all_nil, ee_me96ok, ee_me97ok, ee_me98ok, ee_me99ok, ee_me100ok, ee_me101ok, ee_me102ok, ee_me103ok, ee_me104ok, ee_me105ok, ee_me106ok, ee_me107ok, ee_me108ok, ee_me109ok, ee_me110ok, ee_me111ok, Bool.and_self]
def ee_MC7 : List ee_me := [ee_me112, ee_me113, ee_me114, ee_me115, ee_me116, ee_me117, ee_me118, ee_me119, ee_me120, ee_me121, ee_me122, ee_me123, ee_me124, ee_me125, ee_me126, ee_me127]
theorem ee_MC7ok : ee_MC7.all ee_Mb = true := by
  unfold ee_MC7
  simp only [List.all_cons, List.all_nil, ee_me112ok, ee_me113ok, ee_me114ok, ee_me115ok, ee_me116ok, ee_me117ok, ee_me118ok, ee_me119ok, ee_me120ok, ee_me121ok, ee_me122ok, ee_me123ok, ee_me124ok, ee_me125ok, ee_me126ok, ee_me127ok, Bool.and_self]
def ee_MC8 : List ee_me := [ee_me128, ee_me129, ee_me130, ee_me131, ee_me132, ee_me133, ee_me134, ee_me135, ee_me136, ee_me137, ee_me138, ee_me139, ee_me140, ee_me141, ee_me142, ee_me143]
theorem ee_MC8ok : ee_MC8.all ee_Mb = true := by
  unfold ee_MC8
  simp only [List.all_cons, List.all_nil, ee_me128ok, ee_me129ok, ee_me130ok, ee_me131ok, ee_me132ok, ee_me133ok, ee_me134ok, ee_me135ok, ee_me136ok, ee_me137ok, ee_me138ok, ee_me139ok, ee_me140ok, ee_me141ok, ee_me142ok, ee_me143ok, Bool.and_self]
def ee_MC9 : List ee_me := [ee_me144, ee_me145, ee_me146, ee_me147, ee_me148, ee_me149, ee_me150, ee_me151, ee_me152, ee_me153, ee_me154, ee_me155, ee_me156, ee_me157, ee_me158, ee_me159]
theorem ee_MC9ok : ee_MC9.all ee_Mb = true := by
  unfold ee_MC9
  simp only [List.all_cons, List.all_nil, ee_me144ok, ee_me145ok, ee_me146ok, ee_me147ok, ee_me148ok, ee_me149ok, ee_me150ok, ee_me151ok, ee_me152ok, ee_me153ok, ee_me154ok, ee_me155ok, ee_me156ok, ee_me157ok, ee_me158ok, ee_me159ok, Bool.and_self]
def ee_MC10 : List ee_me := [ee_me160, ee_me161, ee_me162, ee_me163, ee_me164, ee_me165, ee_me166, ee_me167, ee_me168, ee_me169, ee_me170, ee_me171, ee_me172, ee_me173, ee_me174, ee_me175]
theorem ee_MC10ok : ee_MC10.all ee_Mb = true := by
  unfold ee_MC10
  simp only [List.all_cons, List.all_nil, ee_me160ok, ee_me161ok, ee_me162ok, ee_me163ok, ee_me164ok, ee_me165ok, ee_me166ok, ee_me167ok, ee_me168ok, ee_me169ok, ee_me170ok, ee_me171ok, ee_me172ok, ee_me173ok, ee_me174ok, ee_me175ok, Bool.and_self]
def ee_MC11 : List ee_me := [ee_me176, ee_me177, ee_me178, ee_me179, ee_me180, ee_me181, ee_me182, ee_me183, ee_me184, ee_me185, ee_me186, ee_me187, ee_me188, ee_me189, ee_me190, ee_me191]
theorem ee_MC11ok : ee_MC11.all ee_Mb = true := by
  unfold ee_MC11
  simp only [List.all_cons, List.all_nil, ee_me176ok, ee_me177ok, ee_me178ok, ee_me179ok, ee_me180ok, ee_me181ok, ee_me182ok, ee_me183ok, ee_me184ok, ee_me185ok, ee_me186ok, ee_me187ok, ee_me188ok, ee_me189ok, ee_me190ok, ee_me191ok, Bool.and_self]
def ee_MC12 : List ee_me := [ee_me192, ee_me193, ee_me194, ee_me195, ee_me196, ee_me197, ee_me198, ee_me199, ee_me200, ee_me201, ee_me202, ee_me203, ee_me204, ee_me205, ee_me206, ee_me207]
theorem ee_MC12ok : ee_MC12.all ee_Mb = true := by
  unfold ee_MC12
  simp only [List.all_cons, List.all_nil, ee_me192ok, ee_me193ok, ee_me194ok, ee_me195ok, ee_me196ok, ee_me197ok, ee_me198ok, ee_me199ok, ee_me200ok, ee_me201ok, ee_me202ok, ee_me203ok, ee_me204ok, ee_me205ok, ee_me206ok, ee_me207ok, Bool.and_self]
def ee_MC13 : List ee_me := [ee_me208, ee_me209, ee_me210, ee_me211, ee_me212, ee_me213, ee_me214, ee_me215, ee_me216, ee_me217, ee_me218, ee_me219, ee_me220, ee_me221, ee_me222, ee_me223]
theorem ee_MC13ok : ee_MC13.all ee_Mb = true := by
  unfold ee_MC13
  simp only [List.all_cons, List.all_nil, ee_me208ok, ee_me209ok, ee_me210ok, ee_me211ok, ee_me212ok, ee_me213ok, ee_me214ok, ee_me215ok, ee_me216ok, ee_me217ok, ee_me218ok, ee_me219ok, ee_me220ok, ee_me221ok, ee_me222ok, ee_me223ok, Bool.and_self]
def ee_MC14 : List ee_me := [ee_me224, ee_me225, ee_me226, ee_me227, ee_me228, ee_me229, ee_me230, ee_me231, ee_me232, ee_me233, ee_me234, ee_me235, ee_me236, ee_me237, ee_me238, ee_me239]
theorem ee_MC14ok : ee_MC14.all ee_Mb = true := by
  unfold ee_MC14
  simp only [List.all_cons, List.all_nil, ee_me224ok, ee_me225ok, ee_me226ok, ee_me227ok, ee_me228ok, ee_me229ok, ee_me230ok, ee_me231ok, ee_me232ok, ee_me233ok, ee_me234ok, ee_me235ok, ee_me236ok, ee_me237ok, ee_me238ok, ee_me239ok, Bool.and_self]
def ee_MC15 : List ee_me := [ee_me240, ee_me241, ee_me242, ee_me243, ee_me244, ee_me245, ee_me246, ee_me247, ee_me248, ee_me249, ee_me250, ee_me251, ee_me252, ee_me253, ee_me254, ee_me255]
theorem ee_MC15ok : ee_MC15.all ee_Mb = true := by
  unfold ee_MC15
  simp only [List.all_cons, List.all_nil, ee_me240ok, ee_me241ok, ee_me242ok, ee_me243ok, ee_me244ok, ee_me245ok, ee_me246ok, ee_me247ok, ee_me248ok, ee_me249ok, ee_me250ok, ee_me251ok, ee_me252ok, ee_me253ok, ee_me254ok, ee_me255ok, Bool.and_self]
def ee_MC16 : List ee_me := [ee_me256, ee_me257, ee_me258, ee_me259, ee_me260, ee_me261, ee_me262, ee_me263, ee_me264, ee_me265, ee_me266, ee_me267, ee_me268, ee_me269, ee_me270, ee_me271]
theorem ee_MC16ok : ee_MC16.all ee_Mb = true := by
  unfold ee_MC16
  simp only [List.all_cons, List.all_nil, ee_me256ok, ee_me257ok, ee_me258ok, ee_me259ok, ee_me260ok, ee_me261ok, ee_me262ok, ee_me263ok, ee_me264ok, ee_me265ok, ee_me266ok, ee_me267ok, ee_me268ok, ee_me269ok, ee_me270ok, ee_me271ok, Bool.and_self]
def ee_MC17 : List ee_me := [ee_me272, ee_me273, ee_me274, ee_me275, ee_me276, ee_me277, ee_me278, ee_me279, ee_me280, ee_me281, ee_me282, ee_me283, ee_me284, ee_me285, ee_me286, ee_me287]
theorem ee_MC17ok : ee_MC17.all ee_Mb = true := by
  unfold ee_MC17
  simp only [List.all_cons, List.all_nil, ee_me272ok, ee_me273ok, ee_me274ok, ee_me275ok, ee_me276ok, ee_me277ok, ee_me278ok, ee_me279ok, ee_me280ok, ee_me281ok, ee_me282ok, ee_me283ok, ee_me284ok, ee_me285ok, ee_me286ok, ee_me287ok, Bool.and_self]
def ee_MC18 : List ee_me := [ee_me288, ee_me289, ee_me290, ee_me291, ee_me292, ee_me293, ee_me294, ee_me295, ee_me296, ee_me297, ee_me298, ee_me299, ee_me300, ee_me301, ee_me302, ee_me303]
theorem ee_MC18ok : ee_MC18.all ee_Mb = true := by
  unfold ee_MC18
  simp only [List.all_cons, List.all_nil, ee_me288ok, ee_me289ok, ee_me290ok, ee_me291ok, ee_me292ok, ee_me293ok, ee_me294ok, ee_me295ok, ee_me296ok, ee_me297ok, ee_me298ok, ee_me299ok, ee_me300ok, ee_me301ok, ee_me302ok, ee_me303ok, Bool.and_self]
def ee_MC19 : List ee_me := [ee_me304, ee_me305, ee_me306, ee_me307, ee_me308, ee_me309, ee_me310, ee_me311, ee_me312, ee_me313]
theorem ee_MC19ok : ee_MC19.all ee_Mb = true := by
  unfold ee_MC19
  simp only [List.all_cons, List.all_nil, ee_me304ok, ee_me305ok, ee_me306ok, ee_me307ok, ee_me308ok, ee_me309ok, ee_me310ok, ee_me311ok, ee_me312ok, ee_me313ok, Bool.and_self]
def ee_MC : List (List ee_me) := [ee_MC0, ee_MC1, ee_MC2, ee_MC3, ee_MC4, ee_MC5, ee_MC6, ee_MC7, ee_MC8, ee_MC9, ee_MC10, ee_MC11, ee_MC12, ee_MC13, ee_MC14, ee_MC15, ee_MC16, ee_MC17, ee_MC18, ee_MC19]
def ee_mt (y : Nat) : Option ee_me := match ee_MC[y / 16]? with
  | some l => l[y % 16]?
  | none => none
theorem ee_MCall : ee_MC.all (fun l => l.all ee_Mb) = true := by
  unfold ee_MC
  simp only [List.all_cons, List.all_nil, ee_MC0ok, ee_MC1ok, ee_MC2ok, ee_MC3ok, ee_MC4ok, ee_MC5ok, ee_MC6ok, ee_MC7ok, ee_MC8ok, ee_MC9ok, ee_MC10ok, ee_MC11ok, ee_MC12ok, ee_MC13ok, ee_MC14ok, ee_MC15ok, ee_MC16ok, ee_MC17ok, ee_MC18ok, ee_MC19ok, Bool.and_self]
theorem ee_MTok : ∀ (y : Nat) (M : ee_me), ee_mt y = some M → ee_Mok M := fun y M h => by
  unfold ee_mt at h
  split at h
  · rename_i l hl
    exact ee_Mb.ok (List.all_eq_true.mp (List.all_eq_true.mp ee_MCall l (List.mem_of_getElem? hl)) M (List.mem_of_getElem? h))
  · cases h
def ee_CP : List Nat := [138, 1208, 985, 1181, 1199, 1016, 1082, 1113, 936, 885, 1078, 560, 1020, 755, 1036, 552, 981, 1032, 1044, 867, 1125, 1005, 1094, 1090, 989, 1190, 1065, 916, 881, 763, 795, 853, 933, 787, 1074, 1141, 1001, 973, 1117, 1048, 940, 1098, 1106, 1110, 1028, 759, 877, 1086, 1040, 905, 863, 957, 1150, 1069, 791, 1024, 1102, 961, 969, 945, 1009, 849, 889, 949, 953, 564, 993, 1173, 913, 783, 893, 1133, 807, 408, 736, 857, 897, 909, 429, 1194, 747, 1203, 466, 1169, 751, 1145, 1185, 1162, 1158, 1177, 1154, 1137, 1129, 443, 977, 1060, 1052, 1121, 392, 838, 845, 811, 930, 997, 842, 921, 835, 825, 830, 871, 146, 556, 660, 668, 568, 700, 728, 696, 692, 648, 704, 652, 676, 724, 712, 716, 680, 720, 656, 576, 584, 580, 684, 688, 664, 672, 708, 356, 732, 965, 767, 799, 901, 740, 152, 926, 771, 157, 572, 803, 1056, 821, 775, 779, 0, 1213, 1963, 1863, 1511, 1935, 1704, 1947, 1670, 1959, 1634, 1563, 1487, 1673, 1851, 1839, 1594, 1859, 1218, 1688, 1666, 1760, 1898, 1662, 1939, 1883, 1684, 1539, 1559, 1971, 1855, 1495, 1575, 1816, 1967, 1843, 1587, 1507, 1598, 1808, 1752, 1434, 1748, 1902, 1646, 1503, 1927, 1847, 1622, 1692, 1696, 1955, 1638, 1879, 1835, 1812, 1571, 1465, 1480, 1472, 1590, 1444, 1658, 1441, 1875, 1583, 1630, 1468, 1551, 1642, 1618, 1484, 1740, 1831, 1680, 1602, 1531, 1910, 1732, 1923, 1919, 1226, 1776, 1871, 1230, 1491, 1951, 1515, 1788, 1716, 1720, 1519, 1895, 1728, 1579, 1499, 1756, 1827, 1543, 1887, 1567, 1476, 1535, 1527, 1772, 1744, 1824, 1915, 1891, 1626, 1523, 1931, 1708, 1792, 1712, 1796, 1867, 1438, 1736, 1724, 1800, 1804, 1222, 1430, 1700, 1943, 1768, 1780, 1614, 1606, 1676, 1764, 1547, 1906, 1610, 1555, 1820, 1650, 1654, 1784, 639, 636, 643, 814, 603, 606, 275, 624, 285, 269, 589, 593, 279, 265, 600, 282, 597, 609, 627, 290]
def ee_sox : Nat := 14
/-- what the tables say of a call -/
def ee_Cok (q : Nat × Nat × Nat × Nat × Nat × Nat × Nat × Nat × Nat) (N : ee_me) : Prop := (plainName N.2.1.cls = true ∧ Cond.code N.2.1 N.2.2.1 N.2.2.2.1 N.2.2.2.2.1 ∈ ee_tbl ∧ N.2.2.2.1 ≤ 45) ∧ (Cond.methodLink (ee_ow q.1) q.2.1 N.2.1 ∈ ee_tbl ∧ Cond.initialized N.2.1.cls ∈ ee_tbl) ∧ (N.2.1.cls ≠ "java/lang/invoke/MethodHandle" ∧ N.2.1.cls ≠ "java/lang/invoke/VarHandle" ∧ (parseMethodDescriptor N.2.1.desc).map (fun d => d.parameters.length) = some q.2.2.2.2.1) ∧ (q.2.2.2.1 = 0 → Cond.instanceMethod N.2.1 ∈ ee_tbl ∧ Cond.selects N.2.1.cls N.2.1 N.2.1 ∈ ee_tbl) ∧ (q.2.2.2.1 = 1 → Cond.static N.2.1 ∈ ee_tbl) ∧ (q.2.2.2.1 = 2 → Cond.instanceMethod N.2.1 ∈ ee_tbl ∧ N.2.1.name = "<init>" ∧ N.2.2.2.2.1 = none)
def ee_Cb (q : Nat × Nat × Nat × Nat × Nat × Nat × Nat × Nat × Nat) (N : ee_me) : Bool := ((plainName N.2.1.cls && (ee_at (ee_CP.getD q.2.2.1 0) (.code N.2.1 N.2.2.1 N.2.2.2.1 N.2.2.2.2.1) && decide (N.2.2.2.1 ≤ 45))) && (ee_at q.2.2.2.2.2.1 (.methodLink (ee_ow q.1) q.2.1 N.2.1) && ee_at q.2.2.2.2.2.2.2.2 (.initialized N.2.1.cls))) && ((decide (N.2.1.cls ≠ "java/lang/invoke/MethodHandle") && (decide (N.2.1.cls ≠ "java/lang/invoke/VarHandle") && decide ((parseMethodDescriptor N.2.1.desc).map (fun d => d.parameters.length) = some q.2.2.2.2.1))) && ((!decide (q.2.2.2.1 = 0) || (ee_at q.2.2.2.2.2.2.1 (.instanceMethod N.2.1) && ee_at q.2.2.2.2.2.2.2.1 (.selects N.2.1.cls N.2.1 N.2.1))) && ((!decide (q.2.2.2.1 = 1) || ee_at q.2.2.2.2.2.2.1 (.static N.2.1)) && (!decide (q.2.2.2.1 = 2) || (ee_at q.2.2.2.2.2.2.1 (.instanceMethod N.2.1) && (decide (N.2.1.name = "<init>") && decide (N.2.2.2.2.1 = none)))))))
theorem ee_imp {a b : Bool} (h : (!a || b) = true) (ha : a = true) : b = true := by
  rw [ha] at h
  simpa using h
theorem ee_Cb.ok {q : Nat × Nat × Nat × Nat × Nat × Nat × Nat × Nat × Nat} {N : ee_me} (h : ee_Cb q N = true) : ee_Cok q N := by
  have an : ∀ {a b : Bool}, (a && b) = true → a = true ∧ b = true := fun h => Bool.and_eq_true_iff.mp h
  obtain ⟨h, h2⟩ := an h
  obtain ⟨h, h1⟩ := an h
  obtain ⟨a1, a2⟩ := an h
  obtain ⟨a2, a3⟩ := an a2
  obtain ⟨b1, b2⟩ := an h1
  obtain ⟨c1, d1⟩ := an h2
  obtain ⟨c1, c2⟩ := an c1
  obtain ⟨c2, c3⟩ := an c2
  obtain ⟨d1, d2⟩ := an d1
  obtain ⟨d2, d3⟩ := an d2
  refine ⟨⟨a1, ee_at.mem a2, of_decide_eq_true a3⟩, ⟨ee_at.mem b1, ee_at.mem b2⟩, ⟨of_decide_eq_true c1, of_decide_eq_true c2, of_decide_eq_true c3⟩, fun z => ?_, fun z => ?_, fun z => ?_⟩
  · obtain ⟨x1, x2⟩ := an (ee_imp d1 (decide_eq_true z))
    exact ⟨ee_at.mem x1, ee_at.mem x2⟩
  · exact ee_at.mem (ee_imp d2 (decide_eq_true z))
  · obtain ⟨x1, x2⟩ := an (ee_imp d3 (decide_eq_true z))
    obtain ⟨x2, x3⟩ := an x2
    exact ⟨ee_at.mem x1, of_decide_eq_true x2, of_decide_eq_true x3⟩
def ee_clb (q : Nat × Nat × Nat × Nat × Nat × Nat × Nat × Nat × Nat) : Bool := match ee_mt q.2.2.1 with
    | some N => ee_Cb q N
    | none => false
set_option maxRecDepth 100000 in
theorem ee_CL0 : ((ee_CL.drop 0).take 15).all ee_clb = true := by decide +kernel
set_option maxRecDepth 100000 in
theorem ee_CL1 : ((ee_CL.drop 15).take 15).all ee_clb = true := by decide +kernel
set_option maxRecDepth 100000 in
theorem ee_CL2 : ((ee_CL.drop 30).take 15).all ee_clb = true := by decide +kernel
set_option maxRecDepth 100000 in
theorem ee_CL3 : ((ee_CL.drop 45).take 15).all ee_clb = true := by decide +kernel
set_option maxRecDepth 100000 in
theorem ee_CL4 : ((ee_CL.drop 60).take 15).all ee_clb = true := by decide +kernel
set_option maxRecDepth 100000 in
theorem ee_CL5 : ((ee_CL.drop 75).take 15).all ee_clb = true := by decide +kernel
set_option maxRecDepth 100000 in
theorem ee_CL6 : ((ee_CL.drop 90).take 15).all ee_clb = true := by decide +kernel
set_option maxRecDepth 100000 in
theorem ee_CL7 : ((ee_CL.drop 105).take 15).all ee_clb = true := by decide +kernel
set_option maxRecDepth 100000 in
theorem ee_CL8 : ((ee_CL.drop 120).take 15).all ee_clb = true := by decide +kernel
set_option maxRecDepth 100000 in
theorem ee_CL9 : ((ee_CL.drop 135).take 15).all ee_clb = true := by decide +kernel
set_option maxRecDepth 100000 in
theorem ee_CL10 : ((ee_CL.drop 150).take 15).all ee_clb = true := by decide +kernel
set_option maxRecDepth 100000 in
theorem ee_CL11 : ((ee_CL.drop 165).take 15).all ee_clb = true := by decide +kernel
set_option maxRecDepth 100000 in
theorem ee_CL12 : ((ee_CL.drop 180).take 15).all ee_clb = true := by decide +kernel
set_option maxRecDepth 100000 in
theorem ee_CL13 : ((ee_CL.drop 195).take 15).all ee_clb = true := by decide +kernel
set_option maxRecDepth 100000 in
theorem ee_CL14 : ((ee_CL.drop 210).take 15).all ee_clb = true := by decide +kernel
set_option maxRecDepth 100000 in
theorem ee_CL15 : ((ee_CL.drop 225).take 15).all ee_clb = true := by decide +kernel
set_option maxRecDepth 100000 in
theorem ee_CL16 : ((ee_CL.drop 240).take 15).all ee_clb = true := by decide +kernel
set_option maxRecDepth 100000 in
theorem ee_CL17 : ((ee_CL.drop 255).take 15).all ee_clb = true := by decide +kernel
set_option maxRecDepth 100000 in
theorem ee_CL18 : ((ee_CL.drop 270).take 15).all ee_clb = true := by decide +kernel
set_option maxRecDepth 100000 in
theorem ee_CL19 : ((ee_CL.drop 285).take 15).all ee_clb = true := by decide +kernel
set_option maxRecDepth 100000 in
theorem ee_CL20 : ((ee_CL.drop 300).take 15).all ee_clb = true := by decide +kernel
set_option maxRecDepth 100000 in
theorem ee_CL21 : ((ee_CL.drop 315).take 15).all ee_clb = true := by decide +kernel
theorem ee_CLall : ee_CL.all ee_clb = true := by
  refine List.all_eq_true.mpr (fun q hq => ?_)
  obtain ⟨i, hi⟩ := List.getElem?_of_mem hq
  have hl : i < 327 := (List.getElem?_eq_some_iff.mp hi).1
  have hm : ∀ a, 15 * a ≤ i → i < 15 * a + 15 → q ∈ (ee_CL.drop (15 * a)).take 15 := fun a h1 h2 => List.mem_of_getElem? (i := i - 15 * a) (by rw [List.getElem?_take_of_lt (by omega), List.getElem?_drop, show 15 * a + (i - 15 * a) = i by omega]; exact hi)
  have hd : i / 15 < 22 := by omega
  have h0 := hm (i / 15) (by omega) (by omega)
  match h : i / 15, hd, h0 with
  | 0, _, h0 => exact List.all_eq_true.mp ee_CL0 q h0
  | 1, _, h0 => exact List.all_eq_true.mp ee_CL1 q h0
  | 2, _, h0 => exact List.all_eq_true.mp ee_CL2 q h0
  | 3, _, h0 => exact List.all_eq_true.mp ee_CL3 q h0
  | 4, _, h0 => exact List.all_eq_true.mp ee_CL4 q h0
  | 5, _, h0 => exact List.all_eq_true.mp ee_CL5 q h0
  | 6, _, h0 => exact List.all_eq_true.mp ee_CL6 q h0
  | 7, _, h0 => exact List.all_eq_true.mp ee_CL7 q h0
  | 8, _, h0 => exact List.all_eq_true.mp ee_CL8 q h0
  | 9, _, h0 => exact List.all_eq_true.mp ee_CL9 q h0
  | 10, _, h0 => exact List.all_eq_true.mp ee_CL10 q h0
  | 11, _, h0 => exact List.all_eq_true.mp ee_CL11 q h0
  | 12, _, h0 => exact List.all_eq_true.mp ee_CL12 q h0
  | 13, _, h0 => exact List.all_eq_true.mp ee_CL13 q h0
  | 14, _, h0 => exact List.all_eq_true.mp ee_CL14 q h0
  | 15, _, h0 => exact List.all_eq_true.mp ee_CL15 q h0
  | 16, _, h0 => exact List.all_eq_true.mp ee_CL16 q h0
  | 17, _, h0 => exact List.all_eq_true.mp ee_CL17 q h0
  | 18, _, h0 => exact List.all_eq_true.mp ee_CL18 q h0
  | 19, _, h0 => exact List.all_eq_true.mp ee_CL19 q h0
  | 20, _, h0 => exact List.all_eq_true.mp ee_CL20 q h0
  | 21, _, h0 => exact List.all_eq_true.mp ee_CL21 q h0
  | n + 22, hd, _ => omega
theorem ee_CLok : ∀ (q : Nat × Nat × Nat × Nat × Nat × Nat × Nat × Nat × Nat) (N : ee_me), q ∈ ee_CL → ee_mt q.2.2.1 = some N → ee_Cok q N := fun q N hq hN => by
  have h := List.all_eq_true.mp ee_CLall q hq
  unfold ee_clb at h
  rw [hN] at h
  exact ee_Cb.ok h
def ee_lawno : Nat := 154
def ee_lawm : ee_me := (10, ⟨"PepperTablesLaw", "law", "([I)Z"⟩, code, 4, (some .boolean), ee_B154, 98, 11043)
theorem ee_lawM : ee_mt ee_lawno = some ee_lawm := rfl
theorem ee_ls0 : Cond.laysStatic "java/lang/String" "COMPACT_STRINGS" "Z" ∈ lw_tbl := ee_atL.mem (i := 271) (by decide +kernel)
theorem ee_ini0 : Cond.initialized "java/lang/String" ∈ lw_tbl := ee_atL.mem (i := 119) (by decide +kernel)
theorem ee_ls1 : Cond.laysStatic "jdk/internal/util/Preconditions" "SIOOBE_FORMATTER" "Ljava/util/function/BiFunction;" ∈ lw_tbl := ee_atL.mem (i := 287) (by decide +kernel)
theorem ee_ini1 : Cond.initialized "jdk/internal/util/Preconditions" ∈ lw_tbl := ee_atL.mem (i := 121) (by decide +kernel)
theorem ee_srf : ∀ i, i < 2 → Cond.stringRef RX5 (ee_six.getD i 0) (ee_stx.getD i "") ∈ lw_tbl := by
  intro i hi
  rcases (show i = 0 ∨ i = 1 by omega) with rfl | rfl
  · exact ee_atL.mem (i := 261) (by decide +kernel)
  · exact ee_atL.mem (i := 585) (by decide +kernel)
end
