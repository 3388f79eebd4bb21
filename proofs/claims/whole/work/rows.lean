section
-- ===== PART A: goes FIRST, ahead of the names: the tables' words, and 'selects' of the private methods out of them =====
/-- a private method of a class that the tables say can be made, by its rows of tables_1 -/
def lw_okq (q : MethodName × Nat) : Prop := (q.1.cls ≠ "java/lang/invoke/MethodHandle" ∧ q.1.cls ≠ "java/lang/invoke/VarHandle") ∧ Cond.instantiable q.1.cls q.2 ∈ tables_1 ∧ Cond.privateMethod q.1 ∈ tables_1 ∧ Cond.instanceMethod q.1 ∈ tables_1
theorem lw_p0 : lw_okq (⟨"NameCalls$Reader", "statement", "(I)Z"⟩, 6) := ⟨⟨by decide +kernel, by decide +kernel⟩, List.mem_of_getElem? (i := 18) (by decide +kernel), List.mem_of_getElem? (i := 273) (by decide +kernel), List.mem_of_getElem? (i := 274) (by decide +kernel)⟩
theorem lw_p1 : lw_okq (⟨"NameCalls$Reader", "reach", "(I)Z"⟩, 6) := ⟨⟨by decide +kernel, by decide +kernel⟩, List.mem_of_getElem? (i := 18) (by decide +kernel), List.mem_of_getElem? (i := 277) (by decide +kernel), List.mem_of_getElem? (i := 278) (by decide +kernel)⟩
theorem lw_p2 : lw_okq (⟨"NameCalls$Reader", "take", "(I)Z"⟩, 6) := ⟨⟨by decide +kernel, by decide +kernel⟩, List.mem_of_getElem? (i := 18) (by decide +kernel), List.mem_of_getElem? (i := 284) (by decide +kernel), List.mem_of_getElem? (i := 285) (by decide +kernel)⟩
theorem lw_p3 : lw_okq (⟨"NameCalls$Reader", "look", "()I"⟩, 6) := ⟨⟨by decide +kernel, by decide +kernel⟩, List.mem_of_getElem? (i := 18) (by decide +kernel), List.mem_of_getElem? (i := 288) (by decide +kernel), List.mem_of_getElem? (i := 289) (by decide +kernel)⟩
theorem lw_p4 : lw_okq (⟨"NameCalls$Reader", "block", "(I)Z"⟩, 6) := ⟨⟨by decide +kernel, by decide +kernel⟩, List.mem_of_getElem? (i := 18) (by decide +kernel), List.mem_of_getElem? (i := 292) (by decide +kernel), List.mem_of_getElem? (i := 293) (by decide +kernel)⟩
theorem lw_p5 : lw_okq (⟨"NameCalls$Reader", "declarations", "(II)Z"⟩, 6) := ⟨⟨by decide +kernel, by decide +kernel⟩, List.mem_of_getElem? (i := 18) (by decide +kernel), List.mem_of_getElem? (i := 300) (by decide +kernel), List.mem_of_getElem? (i := 301) (by decide +kernel)⟩
theorem lw_p6 : lw_okq (⟨"NameCalls$Reader", "variable", "(I)Z"⟩, 6) := ⟨⟨by decide +kernel, by decide +kernel⟩, List.mem_of_getElem? (i := 18) (by decide +kernel), List.mem_of_getElem? (i := 304) (by decide +kernel), List.mem_of_getElem? (i := 305) (by decide +kernel)⟩
theorem lw_p7 : lw_okq (⟨"NameCalls$Reader", "takeName", "()I"⟩, 6) := ⟨⟨by decide +kernel, by decide +kernel⟩, List.mem_of_getElem? (i := 18) (by decide +kernel), List.mem_of_getElem? (i := 308) (by decide +kernel), List.mem_of_getElem? (i := 309) (by decide +kernel)⟩
theorem lw_p8 : lw_okq (⟨"NameCalls$Reader", "declare", "(IIII)V"⟩, 6) := ⟨⟨by decide +kernel, by decide +kernel⟩, List.mem_of_getElem? (i := 18) (by decide +kernel), List.mem_of_getElem? (i := 312) (by decide +kernel), List.mem_of_getElem? (i := 313) (by decide +kernel)⟩
theorem lw_p9 : lw_okq (⟨"NameCalls$Reader", "procedure", "(II)Z"⟩, 6) := ⟨⟨by decide +kernel, by decide +kernel⟩, List.mem_of_getElem? (i := 18) (by decide +kernel), List.mem_of_getElem? (i := 321) (by decide +kernel), List.mem_of_getElem? (i := 322) (by decide +kernel)⟩
theorem lw_p10 : lw_okq (⟨"NameCalls$Reader", "formals", "(I)Z"⟩, 6) := ⟨⟨by decide +kernel, by decide +kernel⟩, List.mem_of_getElem? (i := 18) (by decide +kernel), List.mem_of_getElem? (i := 333) (by decide +kernel), List.mem_of_getElem? (i := 334) (by decide +kernel)⟩
theorem lw_p11 : lw_okq (⟨"NameCalls$Program", "isProcedure", "(I)Z"⟩, 10) := ⟨⟨by decide +kernel, by decide +kernel⟩, List.mem_of_getElem? (i := 171) (by decide +kernel), List.mem_of_getElem? (i := 341) (by decide +kernel), List.mem_of_getElem? (i := 342) (by decide +kernel)⟩
theorem lw_p12 : lw_okq (⟨"NameCalls$Program", "isPlace", "(I)Z"⟩, 10) := ⟨⟨by decide +kernel, by decide +kernel⟩, List.mem_of_getElem? (i := 171) (by decide +kernel), List.mem_of_getElem? (i := 349) (by decide +kernel), List.mem_of_getElem? (i := 350) (by decide +kernel)⟩
theorem lw_p13 : lw_okq (⟨"NameCalls$Reader", "print", "(I)Z"⟩, 6) := ⟨⟨by decide +kernel, by decide +kernel⟩, List.mem_of_getElem? (i := 18) (by decide +kernel), List.mem_of_getElem? (i := 357) (by decide +kernel), List.mem_of_getElem? (i := 358) (by decide +kernel)⟩
theorem lw_p14 : lw_okq (⟨"NameCalls$Reader", "expression", "(I)Z"⟩, 6) := ⟨⟨by decide +kernel, by decide +kernel⟩, List.mem_of_getElem? (i := 18) (by decide +kernel), List.mem_of_getElem? (i := 361) (by decide +kernel), List.mem_of_getElem? (i := 362) (by decide +kernel)⟩
theorem lw_p15 : lw_okq (⟨"NameCalls$Reader", "sum", "(I)Z"⟩, 6) := ⟨⟨by decide +kernel, by decide +kernel⟩, List.mem_of_getElem? (i := 18) (by decide +kernel), List.mem_of_getElem? (i := 365) (by decide +kernel), List.mem_of_getElem? (i := 366) (by decide +kernel)⟩
def lw_privs_1 : List (MethodName × Nat) := [(⟨"NameCalls$Reader", "statement", "(I)Z"⟩, 6), (⟨"NameCalls$Reader", "reach", "(I)Z"⟩, 6), (⟨"NameCalls$Reader", "take", "(I)Z"⟩, 6), (⟨"NameCalls$Reader", "look", "()I"⟩, 6), (⟨"NameCalls$Reader", "block", "(I)Z"⟩, 6), (⟨"NameCalls$Reader", "declarations", "(II)Z"⟩, 6), (⟨"NameCalls$Reader", "variable", "(I)Z"⟩, 6), (⟨"NameCalls$Reader", "takeName", "()I"⟩, 6), (⟨"NameCalls$Reader", "declare", "(IIII)V"⟩, 6), (⟨"NameCalls$Reader", "procedure", "(II)Z"⟩, 6), (⟨"NameCalls$Reader", "formals", "(I)Z"⟩, 6), (⟨"NameCalls$Program", "isProcedure", "(I)Z"⟩, 10), (⟨"NameCalls$Program", "isPlace", "(I)Z"⟩, 10), (⟨"NameCalls$Reader", "print", "(I)Z"⟩, 6), (⟨"NameCalls$Reader", "expression", "(I)Z"⟩, 6), (⟨"NameCalls$Reader", "sum", "(I)Z"⟩, 6)]
theorem lw_r1 : ∀ q ∈ lw_privs_1, lw_okq q := List.forall_mem_cons.mpr ⟨lw_p0, List.forall_mem_cons.mpr ⟨lw_p1, List.forall_mem_cons.mpr ⟨lw_p2, List.forall_mem_cons.mpr ⟨lw_p3, List.forall_mem_cons.mpr ⟨lw_p4, List.forall_mem_cons.mpr ⟨lw_p5, List.forall_mem_cons.mpr ⟨lw_p6, List.forall_mem_cons.mpr ⟨lw_p7, List.forall_mem_cons.mpr ⟨lw_p8, List.forall_mem_cons.mpr ⟨lw_p9, List.forall_mem_cons.mpr ⟨lw_p10, List.forall_mem_cons.mpr ⟨lw_p11, List.forall_mem_cons.mpr ⟨lw_p12, List.forall_mem_cons.mpr ⟨lw_p13, List.forall_mem_cons.mpr ⟨lw_p14, List.forall_mem_cons.mpr ⟨lw_p15, fun _ h => absurd h List.not_mem_nil⟩⟩⟩⟩⟩⟩⟩⟩⟩⟩⟩⟩⟩⟩⟩⟩
theorem lw_p16 : lw_okq (⟨"NameCalls$Reader", "product", "(I)Z"⟩, 6) := ⟨⟨by decide +kernel, by decide +kernel⟩, List.mem_of_getElem? (i := 18) (by decide +kernel), List.mem_of_getElem? (i := 369) (by decide +kernel), List.mem_of_getElem? (i := 370) (by decide +kernel)⟩
theorem lw_p17 : lw_okq (⟨"NameCalls$Reader", "factor", "(I)Z"⟩, 6) := ⟨⟨by decide +kernel, by decide +kernel⟩, List.mem_of_getElem? (i := 18) (by decide +kernel), List.mem_of_getElem? (i := 373) (by decide +kernel), List.mem_of_getElem? (i := 374) (by decide +kernel)⟩
theorem lw_p18 : lw_okq (⟨"NameCalls$Reader", "number", "()Z"⟩, 6) := ⟨⟨by decide +kernel, by decide +kernel⟩, List.mem_of_getElem? (i := 18) (by decide +kernel), List.mem_of_getElem? (i := 377) (by decide +kernel), List.mem_of_getElem? (i := 378) (by decide +kernel)⟩
theorem lw_p19 : lw_okq (⟨"NameCalls$Reader", "addUse", "(IIII)V"⟩, 6) := ⟨⟨by decide +kernel, by decide +kernel⟩, List.mem_of_getElem? (i := 18) (by decide +kernel), List.mem_of_getElem? (i := 381) (by decide +kernel), List.mem_of_getElem? (i := 382) (by decide +kernel)⟩
theorem lw_p20 : lw_okq (⟨"NameCalls$Scope", "isEntry", "(I)Z"⟩, 8) := ⟨⟨by decide +kernel, by decide +kernel⟩, List.mem_of_getElem? (i := 24) (by decide +kernel), List.mem_of_getElem? (i := 394) (by decide +kernel), List.mem_of_getElem? (i := 395) (by decide +kernel)⟩
theorem lw_p21 : lw_okq (⟨"NameCalls$Reader", "list", "(I)Z"⟩, 6) := ⟨⟨by decide +kernel, by decide +kernel⟩, List.mem_of_getElem? (i := 18) (by decide +kernel), List.mem_of_getElem? (i := 406) (by decide +kernel), List.mem_of_getElem? (i := 407) (by decide +kernel)⟩
theorem lw_p22 : lw_okq (⟨"NameCalls$Reader", "isNameAlone", "()Z"⟩, 6) := ⟨⟨by decide +kernel, by decide +kernel⟩, List.mem_of_getElem? (i := 18) (by decide +kernel), List.mem_of_getElem? (i := 410) (by decide +kernel), List.mem_of_getElem? (i := 411) (by decide +kernel)⟩
theorem lw_p23 : lw_okq (⟨"NameCalls$Reader", "choice", "(I)Z"⟩, 6) := ⟨⟨by decide +kernel, by decide +kernel⟩, List.mem_of_getElem? (i := 18) (by decide +kernel), List.mem_of_getElem? (i := 414) (by decide +kernel), List.mem_of_getElem? (i := 415) (by decide +kernel)⟩
theorem lw_p24 : lw_okq (⟨"NameCalls$Reader", "loop", "(I)Z"⟩, 6) := ⟨⟨by decide +kernel, by decide +kernel⟩, List.mem_of_getElem? (i := 18) (by decide +kernel), List.mem_of_getElem? (i := 418) (by decide +kernel), List.mem_of_getElem? (i := 419) (by decide +kernel)⟩
theorem lw_p25 : lw_okq (⟨"NameCalls$Reader", "assignment", "(II)Z"⟩, 6) := ⟨⟨by decide +kernel, by decide +kernel⟩, List.mem_of_getElem? (i := 18) (by decide +kernel), List.mem_of_getElem? (i := 422) (by decide +kernel), List.mem_of_getElem? (i := 423) (by decide +kernel)⟩
theorem lw_p26 : lw_okq (⟨"NameCalls$Reader", "addTarget", "(I)V"⟩, 6) := ⟨⟨by decide +kernel, by decide +kernel⟩, List.mem_of_getElem? (i := 18) (by decide +kernel), List.mem_of_getElem? (i := 426) (by decide +kernel), List.mem_of_getElem? (i := 427) (by decide +kernel)⟩
theorem lw_p27 : lw_okq (⟨"NameCalls$Machine", "step", "()V"⟩, 16) := ⟨⟨by decide +kernel, by decide +kernel⟩, List.mem_of_getElem? (i := 79) (by decide +kernel), List.mem_of_getElem? (i := 447) (by decide +kernel), List.mem_of_getElem? (i := 448) (by decide +kernel)⟩
theorem lw_p28 : lw_okq (⟨"NameCalls$Machine", "operate", "(I)V"⟩, 16) := ⟨⟨by decide +kernel, by decide +kernel⟩, List.mem_of_getElem? (i := 79) (by decide +kernel), List.mem_of_getElem? (i := 463) (by decide +kernel), List.mem_of_getElem? (i := 464) (by decide +kernel)⟩
theorem lw_p29 : lw_okq (⟨"NameCalls$Machine", "beginToWait", "()V"⟩, 16) := ⟨⟨by decide +kernel, by decide +kernel⟩, List.mem_of_getElem? (i := 79) (by decide +kernel), List.mem_of_getElem? (i := 467) (by decide +kernel), List.mem_of_getElem? (i := 468) (by decide +kernel)⟩
theorem lw_p30 : lw_okq (⟨"NameCalls$Machine", "assign", "(III)V"⟩, 16) := ⟨⟨by decide +kernel, by decide +kernel⟩, List.mem_of_getElem? (i := 79) (by decide +kernel), List.mem_of_getElem? (i := 471) (by decide +kernel), List.mem_of_getElem? (i := 472) (by decide +kernel)⟩
theorem lw_p31 : lw_okq (⟨"NameCalls$Frames", "isFrame", "(I)Z"⟩, 8) := ⟨⟨by decide +kernel, by decide +kernel⟩, List.mem_of_getElem? (i := 85) (by decide +kernel), List.mem_of_getElem? (i := 479) (by decide +kernel), List.mem_of_getElem? (i := 480) (by decide +kernel)⟩
def lw_privs_2 : List (MethodName × Nat) := [(⟨"NameCalls$Reader", "product", "(I)Z"⟩, 6), (⟨"NameCalls$Reader", "factor", "(I)Z"⟩, 6), (⟨"NameCalls$Reader", "number", "()Z"⟩, 6), (⟨"NameCalls$Reader", "addUse", "(IIII)V"⟩, 6), (⟨"NameCalls$Scope", "isEntry", "(I)Z"⟩, 8), (⟨"NameCalls$Reader", "list", "(I)Z"⟩, 6), (⟨"NameCalls$Reader", "isNameAlone", "()Z"⟩, 6), (⟨"NameCalls$Reader", "choice", "(I)Z"⟩, 6), (⟨"NameCalls$Reader", "loop", "(I)Z"⟩, 6), (⟨"NameCalls$Reader", "assignment", "(II)Z"⟩, 6), (⟨"NameCalls$Reader", "addTarget", "(I)V"⟩, 6), (⟨"NameCalls$Machine", "step", "()V"⟩, 16), (⟨"NameCalls$Machine", "operate", "(I)V"⟩, 16), (⟨"NameCalls$Machine", "beginToWait", "()V"⟩, 16), (⟨"NameCalls$Machine", "assign", "(III)V"⟩, 16), (⟨"NameCalls$Frames", "isFrame", "(I)Z"⟩, 8)]
theorem lw_r2 : ∀ q ∈ lw_privs_2, lw_okq q := List.forall_mem_cons.mpr ⟨lw_p16, List.forall_mem_cons.mpr ⟨lw_p17, List.forall_mem_cons.mpr ⟨lw_p18, List.forall_mem_cons.mpr ⟨lw_p19, List.forall_mem_cons.mpr ⟨lw_p20, List.forall_mem_cons.mpr ⟨lw_p21, List.forall_mem_cons.mpr ⟨lw_p22, List.forall_mem_cons.mpr ⟨lw_p23, List.forall_mem_cons.mpr ⟨lw_p24, List.forall_mem_cons.mpr ⟨lw_p25, List.forall_mem_cons.mpr ⟨lw_p26, List.forall_mem_cons.mpr ⟨lw_p27, List.forall_mem_cons.mpr ⟨lw_p28, List.forall_mem_cons.mpr ⟨lw_p29, List.forall_mem_cons.mpr ⟨lw_p30, List.forall_mem_cons.mpr ⟨lw_p31, fun _ h => absurd h List.not_mem_nil⟩⟩⟩⟩⟩⟩⟩⟩⟩⟩⟩⟩⟩⟩⟩⟩
theorem lw_p32 : lw_okq (⟨"NameCalls$Machine", "pay", "()Z"⟩, 16) := ⟨⟨by decide +kernel, by decide +kernel⟩, List.mem_of_getElem? (i := 79) (by decide +kernel), List.mem_of_getElem? (i := 487) (by decide +kernel), List.mem_of_getElem? (i := 488) (by decide +kernel)⟩
theorem lw_p33 : lw_okq (⟨"NameCalls$Machine", "resolve", "(II)I"⟩, 16) := ⟨⟨by decide +kernel, by decide +kernel⟩, List.mem_of_getElem? (i := 79) (by decide +kernel), List.mem_of_getElem? (i := 503) (by decide +kernel), List.mem_of_getElem? (i := 504) (by decide +kernel)⟩
theorem lw_p34 : lw_okq (⟨"NameCalls$Machine", "workOut", "(III)V"⟩, 16) := ⟨⟨by decide +kernel, by decide +kernel⟩, List.mem_of_getElem? (i := 79) (by decide +kernel), List.mem_of_getElem? (i := 515) (by decide +kernel), List.mem_of_getElem? (i := 516) (by decide +kernel)⟩
theorem lw_p35 : lw_okq (⟨"NameCalls$Machine", "enterActual", "(II)V"⟩, 16) := ⟨⟨by decide +kernel, by decide +kernel⟩, List.mem_of_getElem? (i := 79) (by decide +kernel), List.mem_of_getElem? (i := 519) (by decide +kernel), List.mem_of_getElem? (i := 520) (by decide +kernel)⟩
theorem lw_p36 : lw_okq (⟨"NameCalls$Machine", "call", "(III)V"⟩, 16) := ⟨⟨by decide +kernel, by decide +kernel⟩, List.mem_of_getElem? (i := 79) (by decide +kernel), List.mem_of_getElem? (i := 523) (by decide +kernel), List.mem_of_getElem? (i := 524) (by decide +kernel)⟩
theorem lw_p37 : lw_okq (⟨"NameCalls$Machine", "enterCall", "(II)V"⟩, 16) := ⟨⟨by decide +kernel, by decide +kernel⟩, List.mem_of_getElem? (i := 79) (by decide +kernel), List.mem_of_getElem? (i := 527) (by decide +kernel), List.mem_of_getElem? (i := 528) (by decide +kernel)⟩
theorem lw_p38 : lw_okq (⟨"NameCalls$Machine", "control", "(III)V"⟩, 16) := ⟨⟨by decide +kernel, by decide +kernel⟩, List.mem_of_getElem? (i := 79) (by decide +kernel), List.mem_of_getElem? (i := 550) (by decide +kernel), List.mem_of_getElem? (i := 551) (by decide +kernel)⟩
theorem lw_p39 : lw_okq (⟨"NameCalls$Machine", "beginBlock", "(II)V"⟩, 16) := ⟨⟨by decide +kernel, by decide +kernel⟩, List.mem_of_getElem? (i := 79) (by decide +kernel), List.mem_of_getElem? (i := 554) (by decide +kernel), List.mem_of_getElem? (i := 555) (by decide +kernel)⟩
theorem lw_p40 : lw_okq (⟨"NameCalls$Machine", "printValue", "()V"⟩, 16) := ⟨⟨by decide +kernel, by decide +kernel⟩, List.mem_of_getElem? (i := 79) (by decide +kernel), List.mem_of_getElem? (i := 558) (by decide +kernel), List.mem_of_getElem? (i := 559) (by decide +kernel)⟩
theorem lw_p41 : lw_okq (⟨"NameCalls$Machine", "leaveCall", "()V"⟩, 16) := ⟨⟨by decide +kernel, by decide +kernel⟩, List.mem_of_getElem? (i := 79) (by decide +kernel), List.mem_of_getElem? (i := 562) (by decide +kernel), List.mem_of_getElem? (i := 563) (by decide +kernel)⟩
theorem lw_p42 : lw_okq (⟨"NameCalls$Machine", "leaveActual", "()V"⟩, 16) := ⟨⟨by decide +kernel, by decide +kernel⟩, List.mem_of_getElem? (i := 79) (by decide +kernel), List.mem_of_getElem? (i := 574) (by decide +kernel), List.mem_of_getElem? (i := 575) (by decide +kernel)⟩
theorem lw_p43 : lw_okq (⟨"NameCallsModel", "push", "(II)V"⟩, 62) := ⟨⟨by decide +kernel, by decide +kernel⟩, List.mem_of_getElem? (i := 607) (by decide +kernel), List.mem_of_getElem? (i := 815) (by decide +kernel), List.mem_of_getElem? (i := 816) (by decide +kernel)⟩
theorem lw_p44 : lw_okq (⟨"NameCallsModel", "openStatement", "(I)V"⟩, 62) := ⟨⟨by decide +kernel, by decide +kernel⟩, List.mem_of_getElem? (i := 607) (by decide +kernel), List.mem_of_getElem? (i := 820) (by decide +kernel), List.mem_of_getElem? (i := 821) (by decide +kernel)⟩
theorem lw_p45 : lw_okq (⟨"NameCallsModel", "peek", "()I"⟩, 62) := ⟨⟨by decide +kernel, by decide +kernel⟩, List.mem_of_getElem? (i := 607) (by decide +kernel), List.mem_of_getElem? (i := 824) (by decide +kernel), List.mem_of_getElem? (i := 825) (by decide +kernel)⟩
theorem lw_p46 : lw_okq (⟨"NameCallsModel", "goDeeper", "(I)V"⟩, 62) := ⟨⟨by decide +kernel, by decide +kernel⟩, List.mem_of_getElem? (i := 607) (by decide +kernel), List.mem_of_getElem? (i := 828) (by decide +kernel), List.mem_of_getElem? (i := 829) (by decide +kernel)⟩
theorem lw_p47 : lw_okq (⟨"NameCallsModel", "need", "(Z)V"⟩, 62) := ⟨⟨by decide +kernel, by decide +kernel⟩, List.mem_of_getElem? (i := 607) (by decide +kernel), List.mem_of_getElem? (i := 832) (by decide +kernel), List.mem_of_getElem? (i := 833) (by decide +kernel)⟩
def lw_privs_3 : List (MethodName × Nat) := [(⟨"NameCalls$Machine", "pay", "()Z"⟩, 16), (⟨"NameCalls$Machine", "resolve", "(II)I"⟩, 16), (⟨"NameCalls$Machine", "workOut", "(III)V"⟩, 16), (⟨"NameCalls$Machine", "enterActual", "(II)V"⟩, 16), (⟨"NameCalls$Machine", "call", "(III)V"⟩, 16), (⟨"NameCalls$Machine", "enterCall", "(II)V"⟩, 16), (⟨"NameCalls$Machine", "control", "(III)V"⟩, 16), (⟨"NameCalls$Machine", "beginBlock", "(II)V"⟩, 16), (⟨"NameCalls$Machine", "printValue", "()V"⟩, 16), (⟨"NameCalls$Machine", "leaveCall", "()V"⟩, 16), (⟨"NameCalls$Machine", "leaveActual", "()V"⟩, 16), (⟨"NameCallsModel", "push", "(II)V"⟩, 62), (⟨"NameCallsModel", "openStatement", "(I)V"⟩, 62), (⟨"NameCallsModel", "peek", "()I"⟩, 62), (⟨"NameCallsModel", "goDeeper", "(I)V"⟩, 62), (⟨"NameCallsModel", "need", "(Z)V"⟩, 62)]
theorem lw_r3 : ∀ q ∈ lw_privs_3, lw_okq q := List.forall_mem_cons.mpr ⟨lw_p32, List.forall_mem_cons.mpr ⟨lw_p33, List.forall_mem_cons.mpr ⟨lw_p34, List.forall_mem_cons.mpr ⟨lw_p35, List.forall_mem_cons.mpr ⟨lw_p36, List.forall_mem_cons.mpr ⟨lw_p37, List.forall_mem_cons.mpr ⟨lw_p38, List.forall_mem_cons.mpr ⟨lw_p39, List.forall_mem_cons.mpr ⟨lw_p40, List.forall_mem_cons.mpr ⟨lw_p41, List.forall_mem_cons.mpr ⟨lw_p42, List.forall_mem_cons.mpr ⟨lw_p43, List.forall_mem_cons.mpr ⟨lw_p44, List.forall_mem_cons.mpr ⟨lw_p45, List.forall_mem_cons.mpr ⟨lw_p46, List.forall_mem_cons.mpr ⟨lw_p47, fun _ h => absurd h List.not_mem_nil⟩⟩⟩⟩⟩⟩⟩⟩⟩⟩⟩⟩⟩⟩⟩⟩
theorem lw_p48 : lw_okq (⟨"NameCallsModel", "isLetter", "(I)Z"⟩, 62) := ⟨⟨by decide +kernel, by decide +kernel⟩, List.mem_of_getElem? (i := 607) (by decide +kernel), List.mem_of_getElem? (i := 836) (by decide +kernel), List.mem_of_getElem? (i := 837) (by decide +kernel)⟩
theorem lw_p49 : lw_okq (⟨"NameCallsModel", "eat", "(I)Z"⟩, 62) := ⟨⟨by decide +kernel, by decide +kernel⟩, List.mem_of_getElem? (i := 607) (by decide +kernel), List.mem_of_getElem? (i := 843) (by decide +kernel), List.mem_of_getElem? (i := 844) (by decide +kernel)⟩
theorem lw_p50 : lw_okq (⟨"NameCallsModel", "use", "(II)I"⟩, 62) := ⟨⟨by decide +kernel, by decide +kernel⟩, List.mem_of_getElem? (i := 607) (by decide +kernel), List.mem_of_getElem? (i := 847) (by decide +kernel), List.mem_of_getElem? (i := 848) (by decide +kernel)⟩
theorem lw_p51 : lw_okq (⟨"NameCallsModel", "fresh", "(I)I"⟩, 62) := ⟨⟨by decide +kernel, by decide +kernel⟩, List.mem_of_getElem? (i := 607) (by decide +kernel), List.mem_of_getElem? (i := 851) (by decide +kernel), List.mem_of_getElem? (i := 852) (by decide +kernel)⟩
theorem lw_p52 : lw_okq (⟨"NameCallsModel", "openList", "(III)V"⟩, 62) := ⟨⟨by decide +kernel, by decide +kernel⟩, List.mem_of_getElem? (i := 607) (by decide +kernel), List.mem_of_getElem? (i := 855) (by decide +kernel), List.mem_of_getElem? (i := 856) (by decide +kernel)⟩
theorem lw_p53 : lw_okq (⟨"NameCallsModel", "closeList", "(I)V"⟩, 62) := ⟨⟨by decide +kernel, by decide +kernel⟩, List.mem_of_getElem? (i := 607) (by decide +kernel), List.mem_of_getElem? (i := 859) (by decide +kernel), List.mem_of_getElem? (i := 860) (by decide +kernel)⟩
theorem lw_p54 : lw_okq (⟨"NameCallsModel", "done", "(I)V"⟩, 62) := ⟨⟨by decide +kernel, by decide +kernel⟩, List.mem_of_getElem? (i := 607) (by decide +kernel), List.mem_of_getElem? (i := 863) (by decide +kernel), List.mem_of_getElem? (i := 864) (by decide +kernel)⟩
theorem lw_p55 : lw_okq (⟨"NameCallsModel", "expression", "(I)V"⟩, 62) := ⟨⟨by decide +kernel, by decide +kernel⟩, List.mem_of_getElem? (i := 607) (by decide +kernel), List.mem_of_getElem? (i := 867) (by decide +kernel), List.mem_of_getElem? (i := 868) (by decide +kernel)⟩
theorem lw_p56 : lw_okq (⟨"NameCallsModel", "operand", "(IIIII)V"⟩, 62) := ⟨⟨by decide +kernel, by decide +kernel⟩, List.mem_of_getElem? (i := 607) (by decide +kernel), List.mem_of_getElem? (i := 871) (by decide +kernel), List.mem_of_getElem? (i := 872) (by decide +kernel)⟩
theorem lw_p57 : lw_okq (⟨"NameCallsModel", "add", "(I)V"⟩, 62) := ⟨⟨by decide +kernel, by decide +kernel⟩, List.mem_of_getElem? (i := 607) (by decide +kernel), List.mem_of_getElem? (i := 875) (by decide +kernel), List.mem_of_getElem? (i := 876) (by decide +kernel)⟩
theorem lw_p58 : lw_okq (⟨"NameCallsModel", "factor", "(I)V"⟩, 62) := ⟨⟨by decide +kernel, by decide +kernel⟩, List.mem_of_getElem? (i := 607) (by decide +kernel), List.mem_of_getElem? (i := 879) (by decide +kernel), List.mem_of_getElem? (i := 880) (by decide +kernel)⟩
theorem lw_p59 : lw_okq (⟨"NameCallsModel", "onward", "(I)V"⟩, 62) := ⟨⟨by decide +kernel, by decide +kernel⟩, List.mem_of_getElem? (i := 607) (by decide +kernel), List.mem_of_getElem? (i := 883) (by decide +kernel), List.mem_of_getElem? (i := 884) (by decide +kernel)⟩
theorem lw_p60 : lw_okq (⟨"NameCallsModel", "block", "(II)V"⟩, 62) := ⟨⟨by decide +kernel, by decide +kernel⟩, List.mem_of_getElem? (i := 607) (by decide +kernel), List.mem_of_getElem? (i := 887) (by decide +kernel), List.mem_of_getElem? (i := 888) (by decide +kernel)⟩
theorem lw_p61 : lw_okq (⟨"NameCallsModel", "leave", "()V"⟩, 62) := ⟨⟨by decide +kernel, by decide +kernel⟩, List.mem_of_getElem? (i := 607) (by decide +kernel), List.mem_of_getElem? (i := 891) (by decide +kernel), List.mem_of_getElem? (i := 892) (by decide +kernel)⟩
theorem lw_p62 : lw_okq (⟨"NameCallsModel", "declare", "(III)V"⟩, 62) := ⟨⟨by decide +kernel, by decide +kernel⟩, List.mem_of_getElem? (i := 607) (by decide +kernel), List.mem_of_getElem? (i := 895) (by decide +kernel), List.mem_of_getElem? (i := 896) (by decide +kernel)⟩
theorem lw_p63 : lw_okq (⟨"NameCallsModel", "heading", "(II)V"⟩, 62) := ⟨⟨by decide +kernel, by decide +kernel⟩, List.mem_of_getElem? (i := 607) (by decide +kernel), List.mem_of_getElem? (i := 899) (by decide +kernel), List.mem_of_getElem? (i := 900) (by decide +kernel)⟩
def lw_privs_4 : List (MethodName × Nat) := [(⟨"NameCallsModel", "isLetter", "(I)Z"⟩, 62), (⟨"NameCallsModel", "eat", "(I)Z"⟩, 62), (⟨"NameCallsModel", "use", "(II)I"⟩, 62), (⟨"NameCallsModel", "fresh", "(I)I"⟩, 62), (⟨"NameCallsModel", "openList", "(III)V"⟩, 62), (⟨"NameCallsModel", "closeList", "(I)V"⟩, 62), (⟨"NameCallsModel", "done", "(I)V"⟩, 62), (⟨"NameCallsModel", "expression", "(I)V"⟩, 62), (⟨"NameCallsModel", "operand", "(IIIII)V"⟩, 62), (⟨"NameCallsModel", "add", "(I)V"⟩, 62), (⟨"NameCallsModel", "factor", "(I)V"⟩, 62), (⟨"NameCallsModel", "onward", "(I)V"⟩, 62), (⟨"NameCallsModel", "block", "(II)V"⟩, 62), (⟨"NameCallsModel", "leave", "()V"⟩, 62), (⟨"NameCallsModel", "declare", "(III)V"⟩, 62), (⟨"NameCallsModel", "heading", "(II)V"⟩, 62)]
theorem lw_r4 : ∀ q ∈ lw_privs_4, lw_okq q := List.forall_mem_cons.mpr ⟨lw_p48, List.forall_mem_cons.mpr ⟨lw_p49, List.forall_mem_cons.mpr ⟨lw_p50, List.forall_mem_cons.mpr ⟨lw_p51, List.forall_mem_cons.mpr ⟨lw_p52, List.forall_mem_cons.mpr ⟨lw_p53, List.forall_mem_cons.mpr ⟨lw_p54, List.forall_mem_cons.mpr ⟨lw_p55, List.forall_mem_cons.mpr ⟨lw_p56, List.forall_mem_cons.mpr ⟨lw_p57, List.forall_mem_cons.mpr ⟨lw_p58, List.forall_mem_cons.mpr ⟨lw_p59, List.forall_mem_cons.mpr ⟨lw_p60, List.forall_mem_cons.mpr ⟨lw_p61, List.forall_mem_cons.mpr ⟨lw_p62, List.forall_mem_cons.mpr ⟨lw_p63, fun _ h => absurd h List.not_mem_nil⟩⟩⟩⟩⟩⟩⟩⟩⟩⟩⟩⟩⟩⟩⟩⟩
theorem lw_p64 : lw_okq (⟨"NameCallsModel", "frame", "(IIII)I"⟩, 62) := ⟨⟨by decide +kernel, by decide +kernel⟩, List.mem_of_getElem? (i := 607) (by decide +kernel), List.mem_of_getElem? (i := 907) (by decide +kernel), List.mem_of_getElem? (i := 908) (by decide +kernel)⟩
theorem lw_p65 : lw_okq (⟨"NameCallsModel", "later", "(III)V"⟩, 62) := ⟨⟨by decide +kernel, by decide +kernel⟩, List.mem_of_getElem? (i := 607) (by decide +kernel), List.mem_of_getElem? (i := 911) (by decide +kernel), List.mem_of_getElem? (i := 912) (by decide +kernel)⟩
theorem lw_p66 : lw_okq (⟨"NameCallsModel", "perform", "(III)V"⟩, 62) := ⟨⟨by decide +kernel, by decide +kernel⟩, List.mem_of_getElem? (i := 607) (by decide +kernel), List.mem_of_getElem? (i := 916) (by decide +kernel), List.mem_of_getElem? (i := 917) (by decide +kernel)⟩
theorem lw_p67 : lw_okq (⟨"NameCallsModel", "statement", "(II)V"⟩, 62) := ⟨⟨by decide +kernel, by decide +kernel⟩, List.mem_of_getElem? (i := 607) (by decide +kernel), List.mem_of_getElem? (i := 920) (by decide +kernel), List.mem_of_getElem? (i := 921) (by decide +kernel)⟩
theorem lw_p68 : lw_okq (⟨"NameCallsModel", "pay", "()Z"⟩, 62) := ⟨⟨by decide +kernel, by decide +kernel⟩, List.mem_of_getElem? (i := 607) (by decide +kernel), List.mem_of_getElem? (i := 924) (by decide +kernel), List.mem_of_getElem? (i := 925) (by decide +kernel)⟩
theorem lw_p69 : lw_okq (⟨"NameCallsModel", "target", "(II)I"⟩, 62) := ⟨⟨by decide +kernel, by decide +kernel⟩, List.mem_of_getElem? (i := 607) (by decide +kernel), List.mem_of_getElem? (i := 928) (by decide +kernel), List.mem_of_getElem? (i := 929) (by decide +kernel)⟩
theorem lw_p70 : lw_okq (⟨"NameCallsModel", "follow", "(II)V"⟩, 62) := ⟨⟨by decide +kernel, by decide +kernel⟩, List.mem_of_getElem? (i := 607) (by decide +kernel), List.mem_of_getElem? (i := 932) (by decide +kernel), List.mem_of_getElem? (i := 933) (by decide +kernel)⟩
theorem lw_p71 : lw_okq (⟨"NameCallsModel", "outward", "(II)I"⟩, 62) := ⟨⟨by decide +kernel, by decide +kernel⟩, List.mem_of_getElem? (i := 607) (by decide +kernel), List.mem_of_getElem? (i := 936) (by decide +kernel), List.mem_of_getElem? (i := 937) (by decide +kernel)⟩
theorem lw_p72 : lw_okq (⟨"NameCallsModel", "call", "(II)V"⟩, 62) := ⟨⟨by decide +kernel, by decide +kernel⟩, List.mem_of_getElem? (i := 607) (by decide +kernel), List.mem_of_getElem? (i := 940) (by decide +kernel), List.mem_of_getElem? (i := 941) (by decide +kernel)⟩
theorem lw_p73 : lw_okq (⟨"NameCallsModel", "arguments", "(II)V"⟩, 62) := ⟨⟨by decide +kernel, by decide +kernel⟩, List.mem_of_getElem? (i := 607) (by decide +kernel), List.mem_of_getElem? (i := 944) (by decide +kernel), List.mem_of_getElem? (i := 945) (by decide +kernel)⟩
theorem lw_p74 : lw_okq (⟨"NameCallsModel", "evaluate", "(II)V"⟩, 62) := ⟨⟨by decide +kernel, by decide +kernel⟩, List.mem_of_getElem? (i := 607) (by decide +kernel), List.mem_of_getElem? (i := 948) (by decide +kernel), List.mem_of_getElem? (i := 949) (by decide +kernel)⟩
theorem lw_p75 : lw_okq (⟨"NameCallsModel", "operandDone", "(IIZ)V"⟩, 62) := ⟨⟨by decide +kernel, by decide +kernel⟩, List.mem_of_getElem? (i := 607) (by decide +kernel), List.mem_of_getElem? (i := 952) (by decide +kernel), List.mem_of_getElem? (i := 953) (by decide +kernel)⟩
def lw_privs_5 : List (MethodName × Nat) := [(⟨"NameCallsModel", "frame", "(IIII)I"⟩, 62), (⟨"NameCallsModel", "later", "(III)V"⟩, 62), (⟨"NameCallsModel", "perform", "(III)V"⟩, 62), (⟨"NameCallsModel", "statement", "(II)V"⟩, 62), (⟨"NameCallsModel", "pay", "()Z"⟩, 62), (⟨"NameCallsModel", "target", "(II)I"⟩, 62), (⟨"NameCallsModel", "follow", "(II)V"⟩, 62), (⟨"NameCallsModel", "outward", "(II)I"⟩, 62), (⟨"NameCallsModel", "call", "(II)V"⟩, 62), (⟨"NameCallsModel", "arguments", "(II)V"⟩, 62), (⟨"NameCallsModel", "evaluate", "(II)V"⟩, 62), (⟨"NameCallsModel", "operandDone", "(IIZ)V"⟩, 62)]
theorem lw_r5 : ∀ q ∈ lw_privs_5, lw_okq q := List.forall_mem_cons.mpr ⟨lw_p64, List.forall_mem_cons.mpr ⟨lw_p65, List.forall_mem_cons.mpr ⟨lw_p66, List.forall_mem_cons.mpr ⟨lw_p67, List.forall_mem_cons.mpr ⟨lw_p68, List.forall_mem_cons.mpr ⟨lw_p69, List.forall_mem_cons.mpr ⟨lw_p70, List.forall_mem_cons.mpr ⟨lw_p71, List.forall_mem_cons.mpr ⟨lw_p72, List.forall_mem_cons.mpr ⟨lw_p73, List.forall_mem_cons.mpr ⟨lw_p74, List.forall_mem_cons.mpr ⟨lw_p75, fun _ h => absurd h List.not_mem_nil⟩⟩⟩⟩⟩⟩⟩⟩⟩⟩⟩⟩
def lw_privs : List (MethodName × Nat) := lw_privs_1 ++ (lw_privs_2 ++ (lw_privs_3 ++ (lw_privs_4 ++ (lw_privs_5))))
def lw_tbl : List Cond := k2_sels lw_privs ++ tables_1
theorem lw_privs_ok : ∀ q ∈ lw_privs, lw_okq q := by
  show ∀ q ∈ lw_privs_1 ++ (lw_privs_2 ++ (lw_privs_3 ++ (lw_privs_4 ++ (lw_privs_5)))), lw_okq q
  exact List.forall_mem_append.mpr ⟨lw_r1, List.forall_mem_append.mpr ⟨lw_r2, List.forall_mem_append.mpr ⟨lw_r3, List.forall_mem_append.mpr ⟨lw_r4, lw_r5⟩⟩⟩⟩
end
section
def RX0 : String := "NameCalls$Frames"
def TX0 : u_T := fun k => match k with
  | 0 => ("NameCalls$Frames", "slots", "[I", true)
  | 1 => ("NameCalls$Frames", "outers", "[I", true)
  | 2 => ("NameCalls$Frames", "callers", "[I", true)
  | 3 => ("NameCalls$Frames", "returns", "[I", true)
  | 4 => ("NameCalls$Frames", "targets", "[I", true)
  | 5 => ("NameCalls$Frames", "active", "I", false)
  | 6 => ("NameCalls$Frames", "mostActive", "I", false)
  | _ => ("NameCalls$Frames", "opened", "I", false)
def tyX0 : Nat → FieldType := fun k => match k with
  | 0 => .array .int
  | 1 => .array .int
  | 2 => .array .int
  | 3 => .array .int
  | 4 => .array .int
  | 5 => .int
  | 6 => .int
  | _ => .int
abbrev wsX00 : List Cond := u_ws RX0 TX0 8
theorem nmX0 : ∀ a, a < 8 → ∀ b, b < 8 → a ≠ b → (TX0 a).2.1 ≠ (TX0 b).2.1 := by decide +kernel
theorem tyX0_ok : ∀ k, k < 8 → parseFieldDescriptor (TX0 k).2.2.1 = some (tyX0 k) := by decide +kernel
abbrev cX0_init : ByteArray := prog_2_method_1_code
def yX0_init : MethodName := ⟨RX0, "<init>", "()V"⟩
abbrev cX0_clear : ByteArray := prog_2_method_2_code
def yX0_clear : MethodName := ⟨RX0, "clear", "()V"⟩
abbrev cX0_open : ByteArray := prog_2_method_3_code
def yX0_open : MethodName := ⟨RX0, "open", "(III)V"⟩
abbrev cX0_close : ByteArray := prog_2_method_4_code
def yX0_close : MethodName := ⟨RX0, "close", "()V"⟩
abbrev cX0_isFrame : ByteArray := prog_2_method_5_code
def yX0_isFrame : MethodName := ⟨RX0, "isFrame", "(I)Z"⟩
abbrev cX0_outwards : ByteArray := prog_2_method_6_code
def yX0_outwards : MethodName := ⟨RX0, "outwards", "(II)I"⟩
abbrev cX0_callerOf : ByteArray := prog_2_method_7_code
def yX0_callerOf : MethodName := ⟨RX0, "callerOf", "(I)I"⟩
abbrev cX0_returnOf : ByteArray := prog_2_method_8_code
def yX0_returnOf : MethodName := ⟨RX0, "returnOf", "(I)I"⟩
abbrev cX0_addressOf : ByteArray := prog_2_method_9_code
def yX0_addressOf : MethodName := ⟨RX0, "addressOf", "(II)I"⟩
abbrev cX0_valueAt : ByteArray := prog_2_method_10_code
def yX0_valueAt : MethodName := ⟨RX0, "valueAt", "(I)I"⟩
abbrev cX0_setValue : ByteArray := prog_2_method_11_code
def yX0_setValue : MethodName := ⟨RX0, "setValue", "(II)V"⟩
abbrev cX0_setTarget : ByteArray := prog_2_method_12_code
def yX0_setTarget : MethodName := ⟨RX0, "setTarget", "(II)V"⟩
abbrev cX0_targetOf : ByteArray := prog_2_method_13_code
def yX0_targetOf : MethodName := ⟨RX0, "targetOf", "(I)I"⟩
def RX1 : String := "NameCalls$Machine"
def TX1 : u_T := fun k => match k with
  | 0 => ("NameCalls$Machine", "program", "LNameCalls$Program;", false)
  | 1 => ("NameCalls$Machine", "fuel", "I", false)
  | 2 => ("NameCalls$Machine", "spent", "I", false)
  | 3 => ("NameCalls$Machine", "ending", "I", false)
  | 4 => ("NameCalls$Machine", "place", "I", false)
  | 5 => ("NameCalls$Machine", "frame", "I", false)
  | 6 => ("NameCalls$Machine", "value", "I", false)
  | 7 => ("NameCalls$Machine", "frames", "LNameCalls$Frames;", true)
  | 8 => ("NameCalls$Machine", "entryPlaces", "[I", true)
  | 9 => ("NameCalls$Machine", "entryFrames", "[I", true)
  | 10 => ("NameCalls$Machine", "entries", "I", false)
  | 11 => ("NameCalls$Machine", "waits", "[I", true)
  | 12 => ("NameCalls$Machine", "waiting", "I", false)
  | 13 => ("NameCalls$Machine", "printValues", "[I", true)
  | 14 => ("NameCalls$Machine", "printCount", "I", false)
  | _ => ("NameCalls$Machine", "resolvedFrame", "I", false)
def tyX1 : Nat → FieldType := fun k => match k with
  | 0 => .object "NameCalls$Program"
  | 1 => .int
  | 2 => .int
  | 3 => .int
  | 4 => .int
  | 5 => .int
  | 6 => .int
  | 7 => .object "NameCalls$Frames"
  | 8 => .array .int
  | 9 => .array .int
  | 10 => .int
  | 11 => .array .int
  | 12 => .int
  | 13 => .array .int
  | 14 => .int
  | _ => .int
abbrev wsX10 : List Cond := u_ws RX1 TX1 16
theorem nmX1 : ∀ a, a < 16 → ∀ b, b < 16 → a ≠ b → (TX1 a).2.1 ≠ (TX1 b).2.1 := by decide +kernel
theorem tyX1_ok : ∀ k, k < 16 → parseFieldDescriptor (TX1 k).2.2.1 = some (tyX1 k) := by decide +kernel
abbrev cX1_init : ByteArray := prog_3_method_1_code
def yX1_init : MethodName := ⟨RX1, "<init>", "()V"⟩
abbrev cX1_runProgram : ByteArray := prog_3_method_2_code
def yX1_runProgram : MethodName := ⟨RX1, "runProgram", "(LNameCalls$Program;I)I"⟩
abbrev cX1_printAt : ByteArray := prog_3_method_3_code
def yX1_printAt : MethodName := ⟨RX1, "printAt", "(I)J"⟩
abbrev cX1_step : ByteArray := prog_3_method_4_code
def yX1_step : MethodName := ⟨RX1, "step", "()V"⟩
abbrev cX1_control : ByteArray := prog_3_method_5_code
def yX1_control : MethodName := ⟨RX1, "control", "(III)V"⟩
abbrev cX1_pay : ByteArray := prog_3_method_6_code
def yX1_pay : MethodName := ⟨RX1, "pay", "()Z"⟩
abbrev cX1_beginBlock : ByteArray := prog_3_method_7_code
def yX1_beginBlock : MethodName := ⟨RX1, "beginBlock", "(II)V"⟩
abbrev cX1_printValue : ByteArray := prog_3_method_8_code
def yX1_printValue : MethodName := ⟨RX1, "printValue", "()V"⟩
abbrev cX1_assign : ByteArray := prog_3_method_9_code
def yX1_assign : MethodName := ⟨RX1, "assign", "(III)V"⟩
abbrev cX1_resolve : ByteArray := prog_3_method_10_code
def yX1_resolve : MethodName := ⟨RX1, "resolve", "(II)I"⟩
abbrev cX1_workOut : ByteArray := prog_3_method_11_code
def yX1_workOut : MethodName := ⟨RX1, "workOut", "(III)V"⟩
abbrev cX1_enterActual : ByteArray := prog_3_method_12_code
def yX1_enterActual : MethodName := ⟨RX1, "enterActual", "(II)V"⟩
abbrev cX1_leaveActual : ByteArray := prog_3_method_13_code
def yX1_leaveActual : MethodName := ⟨RX1, "leaveActual", "()V"⟩
abbrev cX1_call : ByteArray := prog_3_method_14_code
def yX1_call : MethodName := ⟨RX1, "call", "(III)V"⟩
abbrev cX1_enterCall : ByteArray := prog_3_method_15_code
def yX1_enterCall : MethodName := ⟨RX1, "enterCall", "(II)V"⟩
abbrev cX1_leaveCall : ByteArray := prog_3_method_16_code
def yX1_leaveCall : MethodName := ⟨RX1, "leaveCall", "()V"⟩
abbrev cX1_operate : ByteArray := prog_3_method_17_code
def yX1_operate : MethodName := ⟨RX1, "operate", "(I)V"⟩
abbrev cX1_beginToWait : ByteArray := prog_3_method_18_code
def yX1_beginToWait : MethodName := ⟨RX1, "beginToWait", "()V"⟩
def RX2 : String := "NameCalls$Program"
def TX2 : u_T := fun k => match k with
  | 0 => ("NameCalls$Program", "ops", "[I", true)
  | 1 => ("NameCalls$Program", "firsts", "[I", true)
  | 2 => ("NameCalls$Program", "seconds", "[I", true)
  | 3 => ("NameCalls$Program", "end", "I", false)
  | 4 => ("NameCalls$Program", "starts", "[I", true)
  | 5 => ("NameCalls$Program", "formalCounts", "[I", true)
  | 6 => ("NameCalls$Program", "procedures", "I", false)
  | 7 => ("NameCalls$Program", "variables", "I", false)
  | 8 => ("NameCalls$Program", "statements", "I", false)
  | _ => ("NameCalls$Program", "greatestDepth", "I", false)
def tyX2 : Nat → FieldType := fun k => match k with
  | 0 => .array .int
  | 1 => .array .int
  | 2 => .array .int
  | 3 => .int
  | 4 => .array .int
  | 5 => .array .int
  | 6 => .int
  | 7 => .int
  | 8 => .int
  | _ => .int
abbrev wsX20 : List Cond := u_ws RX2 TX2 10
theorem nmX2 : ∀ a, a < 10 → ∀ b, b < 10 → a ≠ b → (TX2 a).2.1 ≠ (TX2 b).2.1 := by decide +kernel
theorem tyX2_ok : ∀ k, k < 10 → parseFieldDescriptor (TX2 k).2.2.1 = some (tyX2 k) := by decide +kernel
abbrev cX2_init : ByteArray := prog_4_method_1_code
def yX2_init : MethodName := ⟨RX2, "<init>", "()V"⟩
abbrev cX2_clear : ByteArray := prog_4_method_2_code
def yX2_clear : MethodName := ⟨RX2, "clear", "()V"⟩
abbrev cX2_add : ByteArray := prog_4_method_3_code
def yX2_add : MethodName := ⟨RX2, "add", "(III)I"⟩
abbrev cX2_setFirst : ByteArray := prog_4_method_4_code
def yX2_setFirst : MethodName := ⟨RX2, "setFirst", "(II)V"⟩
abbrev cX2_setSecond : ByteArray := prog_4_method_5_code
def yX2_setSecond : MethodName := ⟨RX2, "setSecond", "(II)V"⟩
abbrev cX2_isPlace : ByteArray := prog_4_method_6_code
def yX2_isPlace : MethodName := ⟨RX2, "isPlace", "(I)Z"⟩
abbrev cX2_opAt : ByteArray := prog_4_method_7_code
def yX2_opAt : MethodName := ⟨RX2, "opAt", "(I)I"⟩
abbrev cX2_firstAt : ByteArray := prog_4_method_8_code
def yX2_firstAt : MethodName := ⟨RX2, "firstAt", "(I)I"⟩
abbrev cX2_secondAt : ByteArray := prog_4_method_9_code
def yX2_secondAt : MethodName := ⟨RX2, "secondAt", "(I)I"⟩
abbrev cX2_isActual : ByteArray := prog_4_method_10_code
def yX2_isActual : MethodName := ⟨RX2, "isActual", "(I)Z"⟩
abbrev cX2_addProcedure : ByteArray := prog_4_method_11_code
def yX2_addProcedure : MethodName := ⟨RX2, "addProcedure", "()I"⟩
abbrev cX2_isProcedure : ByteArray := prog_4_method_12_code
def yX2_isProcedure : MethodName := ⟨RX2, "isProcedure", "(I)Z"⟩
abbrev cX2_setFormalCount : ByteArray := prog_4_method_13_code
def yX2_setFormalCount : MethodName := ⟨RX2, "setFormalCount", "(II)V"⟩
abbrev cX2_formalCountOf : ByteArray := prog_4_method_14_code
def yX2_formalCountOf : MethodName := ⟨RX2, "formalCountOf", "(I)I"⟩
abbrev cX2_startOf : ByteArray := prog_4_method_15_code
def yX2_startOf : MethodName := ⟨RX2, "startOf", "(I)I"⟩
def RX3 : String := "NameCalls$Reader"
def TX3 : u_T := fun k => match k with
  | 0 => ("NameCalls$Reader", "text", "[C", false)
  | 1 => ("NameCalls$Reader", "size", "I", false)
  | 2 => ("NameCalls$Reader", "at", "I", false)
  | 3 => ("NameCalls$Reader", "program", "LNameCalls$Program;", false)
  | 4 => ("NameCalls$Reader", "scope", "LNameCalls$Scope;", true)
  | _ => ("NameCalls$Reader", "namesHold", "Z", false)
def tyX3 : Nat → FieldType := fun k => match k with
  | 0 => .array .char
  | 1 => .int
  | 2 => .int
  | 3 => .object "NameCalls$Program"
  | 4 => .object "NameCalls$Scope"
  | _ => .boolean
abbrev wsX30 : List Cond := u_ws RX3 TX3 6
theorem nmX3 : ∀ a, a < 6 → ∀ b, b < 6 → a ≠ b → (TX3 a).2.1 ≠ (TX3 b).2.1 := by decide +kernel
theorem tyX3_ok : ∀ k, k < 6 → parseFieldDescriptor (TX3 k).2.2.1 = some (tyX3 k) := by decide +kernel
abbrev cX3_init : ByteArray := prog_5_method_1_code
def yX3_init : MethodName := ⟨RX3, "<init>", "()V"⟩
abbrev cX3_readInto : ByteArray := prog_5_method_2_code
def yX3_readInto : MethodName := ⟨RX3, "readInto", "(LNameCalls$Program;[CI)I"⟩
abbrev cX3_look : ByteArray := prog_5_method_3_code
def yX3_look : MethodName := ⟨RX3, "look", "()I"⟩
abbrev cX3_take : ByteArray := prog_5_method_4_code
def yX3_take : MethodName := ⟨RX3, "take", "(I)Z"⟩
abbrev cX3_takeName : ByteArray := prog_5_method_5_code
def yX3_takeName : MethodName := ⟨RX3, "takeName", "()I"⟩
abbrev cX3_reach : ByteArray := prog_5_method_6_code
def yX3_reach : MethodName := ⟨RX3, "reach", "(I)Z"⟩
abbrev cX3_statement : ByteArray := prog_5_method_7_code
def yX3_statement : MethodName := ⟨RX3, "statement", "(I)Z"⟩
abbrev cX3_assignment : ByteArray := prog_5_method_8_code
def yX3_assignment : MethodName := ⟨RX3, "assignment", "(II)Z"⟩
abbrev cX3_print : ByteArray := prog_5_method_9_code
def yX3_print : MethodName := ⟨RX3, "print", "(I)Z"⟩
abbrev cX3_choice : ByteArray := prog_5_method_10_code
def yX3_choice : MethodName := ⟨RX3, "choice", "(I)Z"⟩
abbrev cX3_loop : ByteArray := prog_5_method_11_code
def yX3_loop : MethodName := ⟨RX3, "loop", "(I)Z"⟩
abbrev cX3_block : ByteArray := prog_5_method_12_code
def yX3_block : MethodName := ⟨RX3, "block", "(I)Z"⟩
abbrev cX3_declarations : ByteArray := prog_5_method_13_code
def yX3_declarations : MethodName := ⟨RX3, "declarations", "(II)Z"⟩
abbrev cX3_variable : ByteArray := prog_5_method_14_code
def yX3_variable : MethodName := ⟨RX3, "variable", "(I)Z"⟩
abbrev cX3_procedure : ByteArray := prog_5_method_15_code
def yX3_procedure : MethodName := ⟨RX3, "procedure", "(II)Z"⟩
abbrev cX3_formals : ByteArray := prog_5_method_16_code
def yX3_formals : MethodName := ⟨RX3, "formals", "(I)Z"⟩
abbrev cX3_expression : ByteArray := prog_5_method_17_code
def yX3_expression : MethodName := ⟨RX3, "expression", "(I)Z"⟩
abbrev cX3_sum : ByteArray := prog_5_method_18_code
def yX3_sum : MethodName := ⟨RX3, "sum", "(I)Z"⟩
abbrev cX3_product : ByteArray := prog_5_method_19_code
def yX3_product : MethodName := ⟨RX3, "product", "(I)Z"⟩
abbrev cX3_factor : ByteArray := prog_5_method_20_code
def yX3_factor : MethodName := ⟨RX3, "factor", "(I)Z"⟩
abbrev cX3_number : ByteArray := prog_5_method_21_code
def yX3_number : MethodName := ⟨RX3, "number", "()Z"⟩
abbrev cX3_list : ByteArray := prog_5_method_22_code
def yX3_list : MethodName := ⟨RX3, "list", "(I)Z"⟩
abbrev cX3_isNameAlone : ByteArray := prog_5_method_23_code
def yX3_isNameAlone : MethodName := ⟨RX3, "isNameAlone", "()Z"⟩
abbrev cX3_declare : ByteArray := prog_5_method_24_code
def yX3_declare : MethodName := ⟨RX3, "declare", "(IIII)V"⟩
abbrev cX3_addUse : ByteArray := prog_5_method_25_code
def yX3_addUse : MethodName := ⟨RX3, "addUse", "(IIII)V"⟩
abbrev cX3_addTarget : ByteArray := prog_5_method_26_code
def yX3_addTarget : MethodName := ⟨RX3, "addTarget", "(I)V"⟩
def RX4 : String := "NameCalls$Scope"
def TX4 : u_T := fun k => match k with
  | 0 => ("NameCalls$Scope", "names", "[I", true)
  | 1 => ("NameCalls$Scope", "kinds", "[I", true)
  | 2 => ("NameCalls$Scope", "levels", "[I", true)
  | 3 => ("NameCalls$Scope", "slots", "[I", true)
  | 4 => ("NameCalls$Scope", "held", "I", false)
  | 5 => ("NameCalls$Scope", "level", "I", false)
  | 6 => ("NameCalls$Scope", "bodies", "[I", true)
  | _ => ("NameCalls$Scope", "nextSlot", "I", false)
def tyX4 : Nat → FieldType := fun k => match k with
  | 0 => .array .int
  | 1 => .array .int
  | 2 => .array .int
  | 3 => .array .int
  | 4 => .int
  | 5 => .int
  | 6 => .array .int
  | _ => .int
abbrev wsX40 : List Cond := u_ws RX4 TX4 8
theorem nmX4 : ∀ a, a < 8 → ∀ b, b < 8 → a ≠ b → (TX4 a).2.1 ≠ (TX4 b).2.1 := by decide +kernel
theorem tyX4_ok : ∀ k, k < 8 → parseFieldDescriptor (TX4 k).2.2.1 = some (tyX4 k) := by decide +kernel
abbrev cX4_init : ByteArray := prog_6_method_1_code
def yX4_init : MethodName := ⟨RX4, "<init>", "()V"⟩
abbrev cX4_clear : ByteArray := prog_6_method_2_code
def yX4_clear : MethodName := ⟨RX4, "clear", "()V"⟩
abbrev cX4_declare : ByteArray := prog_6_method_3_code
def yX4_declare : MethodName := ⟨RX4, "declare", "(IIII)Z"⟩
abbrev cX4_find : ByteArray := prog_6_method_4_code
def yX4_find : MethodName := ⟨RX4, "find", "(I)I"⟩
abbrev cX4_isEntry : ByteArray := prog_6_method_5_code
def yX4_isEntry : MethodName := ⟨RX4, "isEntry", "(I)Z"⟩
abbrev cX4_kindOf : ByteArray := prog_6_method_6_code
def yX4_kindOf : MethodName := ⟨RX4, "kindOf", "(I)I"⟩
abbrev cX4_slotOf : ByteArray := prog_6_method_7_code
def yX4_slotOf : MethodName := ⟨RX4, "slotOf", "(I)I"⟩
abbrev cX4_hopsTo : ByteArray := prog_6_method_8_code
def yX4_hopsTo : MethodName := ⟨RX4, "hopsTo", "(I)I"⟩
abbrev cX4_enterBody : ByteArray := prog_6_method_9_code
def yX4_enterBody : MethodName := ⟨RX4, "enterBody", "(I)V"⟩
abbrev cX4_isAroundHere : ByteArray := prog_6_method_10_code
def yX4_isAroundHere : MethodName := ⟨RX4, "isAroundHere", "(I)Z"⟩
def RX5 : String := "NameCalls"
def TX5 : u_T := fun k => match k with
  | 0 => ("NameCalls", "text", "[C", true)
  | 1 => ("NameCalls", "size", "I", false)
  | 2 => ("NameCalls", "reader", "LNameCalls$Reader;", true)
  | 3 => ("NameCalls", "machine", "LNameCalls$Machine;", true)
  | 4 => ("NameCalls", "program", "LNameCalls$Program;", false)
  | 5 => ("NameCalls", "spare", "LNameCalls$Program;", false)
  | _ => ("NameCalls", "hasProgram", "Z", false)
def tyX5 : Nat → FieldType := fun k => match k with
  | 0 => .array .char
  | 1 => .int
  | 2 => .object "NameCalls$Reader"
  | 3 => .object "NameCalls$Machine"
  | 4 => .object "NameCalls$Program"
  | 5 => .object "NameCalls$Program"
  | _ => .boolean
abbrev wsX50 : List Cond := u_ws RX5 TX5 7
theorem nmX5 : ∀ a, a < 7 → ∀ b, b < 7 → a ≠ b → (TX5 a).2.1 ≠ (TX5 b).2.1 := by decide +kernel
theorem tyX5_ok : ∀ k, k < 7 → parseFieldDescriptor (TX5 k).2.2.1 = some (tyX5 k) := by decide +kernel
abbrev cX5_init : ByteArray := prog_1_method_1_code
def yX5_init : MethodName := ⟨RX5, "<init>", "()V"⟩
abbrev cX5_write : ByteArray := prog_1_method_2_code
def yX5_write : MethodName := ⟨RX5, "write", "(J)I"⟩
abbrev cX5_codeAt : ByteArray := prog_1_method_3_code
def yX5_codeAt : MethodName := ⟨RX5, "codeAt", "(JI)I"⟩
abbrev cX5_erase : ByteArray := prog_1_method_4_code
def yX5_erase : MethodName := ⟨RX5, "erase", "()I"⟩
abbrev cX5_length : ByteArray := prog_1_method_5_code
def yX5_length : MethodName := ⟨RX5, "length", "()I"⟩
abbrev cX5_read : ByteArray := prog_1_method_6_code
def yX5_read : MethodName := ⟨RX5, "read", "()I"⟩
abbrev cX5_run : ByteArray := prog_1_method_7_code
def yX5_run : MethodName := ⟨RX5, "run", "(I)I"⟩
abbrev cX5_prints : ByteArray := prog_1_method_8_code
def yX5_prints : MethodName := ⟨RX5, "prints", "()I"⟩
abbrev cX5_printed : ByteArray := prog_1_method_9_code
def yX5_printed : MethodName := ⟨RX5, "printed", "(I)J"⟩
abbrev cX5_cost : ByteArray := prog_1_method_10_code
def yX5_cost : MethodName := ⟨RX5, "cost", "()I"⟩
abbrev cX5_deepest : ByteArray := prog_1_method_11_code
def yX5_deepest : MethodName := ⟨RX5, "deepest", "()I"⟩
abbrev cX5_calls : ByteArray := prog_1_method_12_code
def yX5_calls : MethodName := ⟨RX5, "calls", "()I"⟩
abbrev cX5_about : ByteArray := prog_1_method_13_code
def yX5_about : MethodName := ⟨RX5, "about", "(I)I"⟩
def RX6 : String := "NameCallsModel"
def TX6 : u_T := fun k => match k with
  | 0 => ("NameCallsModel", "text", "[I", true)
  | 1 => ("NameCallsModel", "length", "I", false)
  | 2 => ("NameCallsModel", "pos", "I", false)
  | 3 => ("NameCallsModel", "type", "[I", true)
  | 4 => ("NameCallsModel", "child", "[I", true)
  | 5 => ("NameCallsModel", "next", "[I", true)
  | 6 => ("NameCallsModel", "what", "[I", true)
  | 7 => ("NameCallsModel", "place", "[I", true)
  | 8 => ("NameCallsModel", "out", "[I", true)
  | 9 => ("NameCallsModel", "sign", "[I", true)
  | 10 => ("NameCallsModel", "body", "[I", true)
  | 11 => ("NameCallsModel", "many", "[I", true)
  | 12 => ("NameCallsModel", "values", "[I", true)
  | 13 => ("NameCallsModel", "counts", "[I", true)
  | 14 => ("NameCallsModel", "half", "I", false)
  | 15 => ("NameCallsModel", "nodes", "I", false)
  | 16 => ("NameCallsModel", "root", "I", false)
  | 17 => ("NameCallsModel", "base", "I", false)
  | 18 => ("NameCallsModel", "has", "Z", false)
  | 19 => ("NameCallsModel", "wrong", "Z", false)
  | 20 => ("NameCallsModel", "bad", "Z", false)
  | 21 => ("NameCallsModel", "procedures", "I", false)
  | 22 => ("NameCallsModel", "variables", "I", false)
  | 23 => ("NameCallsModel", "statements", "I", false)
  | 24 => ("NameCallsModel", "depth", "I", false)
  | 25 => ("NameCallsModel", "code", "[I", true)
  | 26 => ("NameCallsModel", "node", "[I", true)
  | 27 => ("NameCallsModel", "deep", "[I", true)
  | 28 => ("NameCallsModel", "last", "[I", true)
  | 29 => ("NameCallsModel", "extra", "[I", true)
  | 30 => ("NameCallsModel", "open", "I", false)
  | 31 => ("NameCallsModel", "got", "I", false)
  | 32 => ("NameCallsModel", "symbol", "[I", true)
  | 33 => ("NameCallsModel", "symbolWhat", "[I", true)
  | 34 => ("NameCallsModel", "symbolPlace", "[I", true)
  | 35 => ("NameCallsModel", "symbolLevel", "[I", true)
  | 36 => ("NameCallsModel", "symbols", "I", false)
  | 37 => ("NameCallsModel", "level", "I", false)
  | 38 => ("NameCallsModel", "task", "[I", true)
  | 39 => ("NameCallsModel", "tasks", "I", false)
  | 40 => ("NameCallsModel", "around", "[I", true)
  | 41 => ("NameCallsModel", "owner", "[I", true)
  | 42 => ("NameCallsModel", "first", "[I", true)
  | 43 => ("NameCallsModel", "caller", "[I", true)
  | 44 => ("NameCallsModel", "cell", "[I", true)
  | 45 => ("NameCallsModel", "actualFrame", "[I", true)
  | 46 => ("NameCallsModel", "frames", "I", false)
  | 47 => ("NameCallsModel", "cells", "I", false)
  | 48 => ("NameCallsModel", "waiting", "[I", true)
  | 49 => ("NameCallsModel", "waits", "I", false)
  | 50 => ("NameCallsModel", "value", "I", false)
  | 51 => ("NameCallsModel", "ending", "I", false)
  | 52 => ("NameCallsModel", "fuel", "I", false)
  | 53 => ("NameCallsModel", "cost", "I", false)
  | 54 => ("NameCallsModel", "active", "I", false)
  | 55 => ("NameCallsModel", "most", "I", false)
  | 56 => ("NameCallsModel", "calls", "I", false)
  | 57 => ("NameCallsModel", "prints", "I", false)
  | 58 => ("NameCallsModel", "printed", "[I", true)
  | 59 => ("NameCallsModel", "foundWhat", "I", false)
  | 60 => ("NameCallsModel", "foundPlace", "I", false)
  | _ => ("NameCallsModel", "foundFrame", "I", false)
def tyX6 : Nat → FieldType := fun k => match k with
  | 0 => .array .int
  | 1 => .int
  | 2 => .int
  | 3 => .array .int
  | 4 => .array .int
  | 5 => .array .int
  | 6 => .array .int
  | 7 => .array .int
  | 8 => .array .int
  | 9 => .array .int
  | 10 => .array .int
  | 11 => .array .int
  | 12 => .array .int
  | 13 => .array .int
  | 14 => .int
  | 15 => .int
  | 16 => .int
  | 17 => .int
  | 18 => .boolean
  | 19 => .boolean
  | 20 => .boolean
  | 21 => .int
  | 22 => .int
  | 23 => .int
  | 24 => .int
  | 25 => .array .int
  | 26 => .array .int
  | 27 => .array .int
  | 28 => .array .int
  | 29 => .array .int
  | 30 => .int
  | 31 => .int
  | 32 => .array .int
  | 33 => .array .int
  | 34 => .array .int
  | 35 => .array .int
  | 36 => .int
  | 37 => .int
  | 38 => .array .int
  | 39 => .int
  | 40 => .array .int
  | 41 => .array .int
  | 42 => .array .int
  | 43 => .array .int
  | 44 => .array .int
  | 45 => .array .int
  | 46 => .int
  | 47 => .int
  | 48 => .array .int
  | 49 => .int
  | 50 => .int
  | 51 => .int
  | 52 => .int
  | 53 => .int
  | 54 => .int
  | 55 => .int
  | 56 => .int
  | 57 => .int
  | 58 => .array .int
  | 59 => .int
  | 60 => .int
  | _ => .int
abbrev wsX60 : List Cond := u_ws RX6 TX6 62
theorem nmX6 : ∀ a, a < 62 → ∀ b, b < 62 → a ≠ b → (TX6 a).2.1 ≠ (TX6 b).2.1 := by decide +kernel
theorem tyX6_ok : ∀ k, k < 62 → parseFieldDescriptor (TX6 k).2.2.1 = some (tyX6 k) := by decide +kernel
abbrev cX6_init : ByteArray := prog_8_method_1_code
def yX6_init : MethodName := ⟨RX6, "<init>", "()V"⟩
abbrev cX6_within : ByteArray := prog_8_method_2_code
def yX6_within : MethodName := ⟨RX6, "within", "(III)Z"⟩
abbrev cX6_write : ByteArray := prog_8_method_3_code
def yX6_write : MethodName := ⟨RX6, "write", "(J)I"⟩
abbrev cX6_erase : ByteArray := prog_8_method_4_code
def yX6_erase : MethodName := ⟨RX6, "erase", "()I"⟩
abbrev cX6_length : ByteArray := prog_8_method_5_code
def yX6_length : MethodName := ⟨RX6, "length", "()I"⟩
abbrev cX6_peek : ByteArray := prog_8_method_6_code
def yX6_peek : MethodName := ⟨RX6, "peek", "()I"⟩
abbrev cX6_eat : ByteArray := prog_8_method_7_code
def yX6_eat : MethodName := ⟨RX6, "eat", "(I)Z"⟩
abbrev cX6_isLetter : ByteArray := prog_8_method_8_code
def yX6_isLetter : MethodName := ⟨RX6, "isLetter", "(I)Z"⟩
abbrev cX6_push : ByteArray := prog_8_method_9_code
def yX6_push : MethodName := ⟨RX6, "push", "(II)V"⟩
abbrev cX6_fresh : ByteArray := prog_8_method_10_code
def yX6_fresh : MethodName := ⟨RX6, "fresh", "(I)I"⟩
abbrev cX6_add : ByteArray := prog_8_method_11_code
def yX6_add : MethodName := ⟨RX6, "add", "(I)V"⟩
abbrev cX6_done : ByteArray := prog_8_method_12_code
def yX6_done : MethodName := ⟨RX6, "done", "(I)V"⟩
abbrev cX6_need : ByteArray := prog_8_method_13_code
def yX6_need : MethodName := ⟨RX6, "need", "(Z)V"⟩
abbrev cX6_declare : ByteArray := prog_8_method_14_code
def yX6_declare : MethodName := ⟨RX6, "declare", "(III)V"⟩
abbrev cX6_leave : ByteArray := prog_8_method_15_code
def yX6_leave : MethodName := ⟨RX6, "leave", "()V"⟩
abbrev cX6_use : ByteArray := prog_8_method_16_code
def yX6_use : MethodName := ⟨RX6, "use", "(II)I"⟩
abbrev cX6_goDeeper : ByteArray := prog_8_method_17_code
def yX6_goDeeper : MethodName := ⟨RX6, "goDeeper", "(I)V"⟩
abbrev cX6_openStatement : ByteArray := prog_8_method_18_code
def yX6_openStatement : MethodName := ⟨RX6, "openStatement", "(I)V"⟩
abbrev cX6_openList : ByteArray := prog_8_method_19_code
def yX6_openList : MethodName := ⟨RX6, "openList", "(III)V"⟩
abbrev cX6_closeList : ByteArray := prog_8_method_20_code
def yX6_closeList : MethodName := ⟨RX6, "closeList", "(I)V"⟩
abbrev cX6_onward : ByteArray := prog_8_method_21_code
def yX6_onward : MethodName := ⟨RX6, "onward", "(I)V"⟩
abbrev cX6_block : ByteArray := prog_8_method_22_code
def yX6_block : MethodName := ⟨RX6, "block", "(II)V"⟩
abbrev cX6_heading : ByteArray := prog_8_method_23_code
def yX6_heading : MethodName := ⟨RX6, "heading", "(II)V"⟩
abbrev cX6_expression : ByteArray := prog_8_method_24_code
def yX6_expression : MethodName := ⟨RX6, "expression", "(I)V"⟩
abbrev cX6_operand : ByteArray := prog_8_method_25_code
def yX6_operand : MethodName := ⟨RX6, "operand", "(IIIII)V"⟩
abbrev cX6_factor : ByteArray := prog_8_method_26_code
def yX6_factor : MethodName := ⟨RX6, "factor", "(I)V"⟩
abbrev cX6_read : ByteArray := prog_8_method_27_code
def yX6_read : MethodName := ⟨RX6, "read", "()I"⟩
abbrev cX6_later : ByteArray := prog_8_method_28_code
def yX6_later : MethodName := ⟨RX6, "later", "(III)V"⟩
abbrev cX6_pay : ByteArray := prog_8_method_29_code
def yX6_pay : MethodName := ⟨RX6, "pay", "()Z"⟩
abbrev cX6_frame : ByteArray := prog_8_method_30_code
def yX6_frame : MethodName := ⟨RX6, "frame", "(IIII)I"⟩
abbrev cX6_outward : ByteArray := prog_8_method_31_code
def yX6_outward : MethodName := ⟨RX6, "outward", "(II)I"⟩
abbrev cX6_follow : ByteArray := prog_8_method_32_code
def yX6_follow : MethodName := ⟨RX6, "follow", "(II)V"⟩
abbrev cX6_target : ByteArray := prog_8_method_33_code
def yX6_target : MethodName := ⟨RX6, "target", "(II)I"⟩
abbrev cX6_call : ByteArray := prog_8_method_34_code
def yX6_call : MethodName := ⟨RX6, "call", "(II)V"⟩
abbrev cX6_arguments : ByteArray := prog_8_method_35_code
def yX6_arguments : MethodName := ⟨RX6, "arguments", "(II)V"⟩
abbrev cX6_statement : ByteArray := prog_8_method_36_code
def yX6_statement : MethodName := ⟨RX6, "statement", "(II)V"⟩
abbrev cX6_evaluate : ByteArray := prog_8_method_37_code
def yX6_evaluate : MethodName := ⟨RX6, "evaluate", "(II)V"⟩
abbrev cX6_operandDone : ByteArray := prog_8_method_38_code
def yX6_operandDone : MethodName := ⟨RX6, "operandDone", "(IIZ)V"⟩
abbrev cX6_perform : ByteArray := prog_8_method_39_code
def yX6_perform : MethodName := ⟨RX6, "perform", "(III)V"⟩
abbrev cX6_run : ByteArray := prog_8_method_40_code
def yX6_run : MethodName := ⟨RX6, "run", "(I)I"⟩
abbrev cX6_prints : ByteArray := prog_8_method_41_code
def yX6_prints : MethodName := ⟨RX6, "prints", "()I"⟩
abbrev cX6_printed : ByteArray := prog_8_method_42_code
def yX6_printed : MethodName := ⟨RX6, "printed", "(I)J"⟩
abbrev cX6_cost : ByteArray := prog_8_method_43_code
def yX6_cost : MethodName := ⟨RX6, "cost", "()I"⟩
abbrev cX6_deepest : ByteArray := prog_8_method_44_code
def yX6_deepest : MethodName := ⟨RX6, "deepest", "()I"⟩
abbrev cX6_calls : ByteArray := prog_8_method_45_code
def yX6_calls : MethodName := ⟨RX6, "calls", "()I"⟩
abbrev cX6_about : ByteArray := prog_8_method_46_code
def yX6_about : MethodName := ⟨RX6, "about", "(I)I"⟩
def RJ9 : String := "java/lang/Math"
def TJ9 : u_T := fun k => match k with
  | _ => ("", "", "", false)
def tyJ9 : Nat → FieldType := fun k => match k with
  | _ => .int
abbrev wsJ90 : List Cond := u_ws RJ9 TJ9 0
theorem nmJ9 : ∀ a, a < 0 → ∀ b, b < 0 → a ≠ b → (TJ9 a).2.1 ≠ (TJ9 b).2.1 := by decide +kernel
theorem tyJ9_ok : ∀ k, k < 0 → parseFieldDescriptor (TJ9 k).2.2.1 = some (tyJ9 k) := by decide +kernel
abbrev cJ9_max_7cf53 : ByteArray := prog_9_method_65_code
def yJ9_max_7cf53 : MethodName := ⟨RJ9, "max", "(II)I"⟩
abbrev cJ9_min_7cf53 : ByteArray := prog_9_method_69_code
def yJ9_min_7cf53 : MethodName := ⟨RJ9, "min", "(II)I"⟩
def RL : String := "NameCallsLaw"
abbrev cL_law : ByteArray := code
def yL_law : MethodName := ⟨RL, "law", "([I)Z"⟩
abbrev vwCl : List vw_C := [(RX0, TX0, 8), (RX1, TX1, 16), (RX2, TX2, 10), (RX3, TX3, 6), (RX4, TX4, 8), (RX5, TX5, 7), (RX6, TX6, 62)]
end
section
theorem dX0_init_0 : decode cX0_init 0 = .ok (.aload_n 0, 1) := by decide +kernel
theorem dX0_init_1 : decode cX0_init 1 = .ok (.invokespecial 3, 3) := by decide +kernel
theorem dX0_init_4 : decode cX0_init 4 = .ok (.aload_n 0, 1) := by decide +kernel
theorem dX0_init_5 : decode cX0_init 5 = .ok (.sipush 961, 3) := by decide +kernel
theorem dX0_init_8 : decode cX0_init 8 = .ok (.newarray .int, 2) := by decide +kernel
theorem dX0_init_10 : decode cX0_init 10 = .ok (.putfield 9, 3) := by decide +kernel
theorem dX0_init_13 : decode cX0_init 13 = .ok (.aload_n 0, 1) := by decide +kernel
theorem dX0_init_14 : decode cX0_init 14 = .ok (.bipush 31, 2) := by decide +kernel
theorem dX0_init_16 : decode cX0_init 16 = .ok (.newarray .int, 2) := by decide +kernel
theorem dX0_init_18 : decode cX0_init 18 = .ok (.putfield 15, 3) := by decide +kernel
theorem dX0_init_21 : decode cX0_init 21 = .ok (.aload_n 0, 1) := by decide +kernel
theorem dX0_init_22 : decode cX0_init 22 = .ok (.bipush 31, 2) := by decide +kernel
theorem dX0_init_24 : decode cX0_init 24 = .ok (.newarray .int, 2) := by decide +kernel
theorem dX0_init_26 : decode cX0_init 26 = .ok (.putfield 18, 3) := by decide +kernel
theorem dX0_init_29 : decode cX0_init 29 = .ok (.aload_n 0, 1) := by decide +kernel
theorem dX0_init_30 : decode cX0_init 30 = .ok (.bipush 31, 2) := by decide +kernel
theorem dX0_init_32 : decode cX0_init 32 = .ok (.newarray .int, 2) := by decide +kernel
theorem dX0_init_34 : decode cX0_init 34 = .ok (.putfield 21, 3) := by decide +kernel
theorem dX0_init_37 : decode cX0_init 37 = .ok (.aload_n 0, 1) := by decide +kernel
theorem dX0_init_38 : decode cX0_init 38 = .ok (.bipush 31, 2) := by decide +kernel
theorem dX0_init_40 : decode cX0_init 40 = .ok (.newarray .int, 2) := by decide +kernel
theorem dX0_init_42 : decode cX0_init 42 = .ok (.putfield 24, 3) := by decide +kernel
theorem dX0_init_45 : decode cX0_init 45 = .ok (.return_, 1) := by decide +kernel
theorem dX0_clear_0 : decode cX0_clear 0 = .ok (.aload_n 0, 1) := by decide +kernel
theorem dX0_clear_1 : decode cX0_clear 1 = .ok (.iconst 0, 1) := by decide +kernel
theorem dX0_clear_2 : decode cX0_clear 2 = .ok (.putfield 27, 3) := by decide +kernel
theorem dX0_clear_5 : decode cX0_clear 5 = .ok (.aload_n 0, 1) := by decide +kernel
theorem dX0_clear_6 : decode cX0_clear 6 = .ok (.iconst 0, 1) := by decide +kernel
theorem dX0_clear_7 : decode cX0_clear 7 = .ok (.putfield 31, 3) := by decide +kernel
theorem dX0_clear_10 : decode cX0_clear 10 = .ok (.aload_n 0, 1) := by decide +kernel
theorem dX0_clear_11 : decode cX0_clear 11 = .ok (.iconst 0, 1) := by decide +kernel
theorem dX0_clear_12 : decode cX0_clear 12 = .ok (.putfield 34, 3) := by decide +kernel
theorem dX0_clear_15 : decode cX0_clear 15 = .ok (.return_, 1) := by decide +kernel
theorem dX0_open_0 : decode cX0_open 0 = .ok (.aload_n 0, 1) := by decide +kernel
theorem dX0_open_1 : decode cX0_open 1 = .ok (.getfield 27, 3) := by decide +kernel
theorem dX0_open_4 : decode cX0_open 4 = .ok (.ifCond .lt 12, 3) := by decide +kernel
theorem dX0_open_7 : decode cX0_open 7 = .ok (.aload_n 0, 1) := by decide +kernel
theorem dX0_open_8 : decode cX0_open 8 = .ok (.getfield 27, 3) := by decide +kernel
theorem dX0_open_11 : decode cX0_open 11 = .ok (.bipush 30, 2) := by decide +kernel
theorem dX0_open_13 : decode cX0_open 13 = .ok (.if_icmp .lt 4, 3) := by decide +kernel
theorem dX0_open_16 : decode cX0_open 16 = .ok (.return_, 1) := by decide +kernel
theorem dX0_open_17 : decode cX0_open 17 = .ok (.aload_n 0, 1) := by decide +kernel
theorem dX0_open_18 : decode cX0_open 18 = .ok (.dup, 1) := by decide +kernel
theorem dX0_open_19 : decode cX0_open 19 = .ok (.getfield 27, 3) := by decide +kernel
theorem dX0_open_22 : decode cX0_open 22 = .ok (.iconst 1, 1) := by decide +kernel
theorem dX0_open_23 : decode cX0_open 23 = .ok (.iadd, 1) := by decide +kernel
theorem dX0_open_24 : decode cX0_open 24 = .ok (.putfield 27, 3) := by decide +kernel
theorem dX0_open_27 : decode cX0_open 27 = .ok (.aload_n 0, 1) := by decide +kernel
theorem dX0_open_28 : decode cX0_open 28 = .ok (.dup, 1) := by decide +kernel
theorem dX0_open_29 : decode cX0_open 29 = .ok (.getfield 34, 3) := by decide +kernel
theorem dX0_open_32 : decode cX0_open 32 = .ok (.iconst 1, 1) := by decide +kernel
theorem dX0_open_33 : decode cX0_open 33 = .ok (.iadd, 1) := by decide +kernel
theorem dX0_open_34 : decode cX0_open 34 = .ok (.putfield 34, 3) := by decide +kernel
theorem dX0_open_37 : decode cX0_open 37 = .ok (.aload_n 0, 1) := by decide +kernel
theorem dX0_open_38 : decode cX0_open 38 = .ok (.aload_n 0, 1) := by decide +kernel
theorem dX0_open_39 : decode cX0_open 39 = .ok (.getfield 31, 3) := by decide +kernel
theorem dX0_open_42 : decode cX0_open 42 = .ok (.aload_n 0, 1) := by decide +kernel
theorem dX0_open_43 : decode cX0_open 43 = .ok (.getfield 27, 3) := by decide +kernel
theorem dX0_open_46 : decode cX0_open 46 = .ok (.invokestatic 37, 3) := by decide +kernel
theorem dX0_open_49 : decode cX0_open 49 = .ok (.putfield 31, 3) := by decide +kernel
theorem dX0_open_52 : decode cX0_open 52 = .ok (.aload_n 0, 1) := by decide +kernel
theorem dX0_open_53 : decode cX0_open 53 = .ok (.getfield 15, 3) := by decide +kernel
theorem dX0_open_56 : decode cX0_open 56 = .ok (.aload_n 0, 1) := by decide +kernel
theorem dX0_open_57 : decode cX0_open 57 = .ok (.getfield 27, 3) := by decide +kernel
theorem dX0_open_60 : decode cX0_open 60 = .ok (.iload_n 1, 1) := by decide +kernel
theorem dX0_open_61 : decode cX0_open 61 = .ok (.iastore, 1) := by decide +kernel
theorem dX0_open_62 : decode cX0_open 62 = .ok (.aload_n 0, 1) := by decide +kernel
theorem dX0_open_63 : decode cX0_open 63 = .ok (.getfield 18, 3) := by decide +kernel
theorem dX0_open_66 : decode cX0_open 66 = .ok (.aload_n 0, 1) := by decide +kernel
theorem dX0_open_67 : decode cX0_open 67 = .ok (.getfield 27, 3) := by decide +kernel
theorem dX0_open_70 : decode cX0_open 70 = .ok (.iload_n 2, 1) := by decide +kernel
theorem dX0_open_71 : decode cX0_open 71 = .ok (.iastore, 1) := by decide +kernel
theorem dX0_open_72 : decode cX0_open 72 = .ok (.aload_n 0, 1) := by decide +kernel
theorem dX0_open_73 : decode cX0_open 73 = .ok (.getfield 21, 3) := by decide +kernel
theorem dX0_open_76 : decode cX0_open 76 = .ok (.aload_n 0, 1) := by decide +kernel
theorem dX0_open_77 : decode cX0_open 77 = .ok (.getfield 27, 3) := by decide +kernel
theorem dX0_open_80 : decode cX0_open 80 = .ok (.iload_n 3, 1) := by decide +kernel
theorem dX0_open_81 : decode cX0_open 81 = .ok (.iastore, 1) := by decide +kernel
theorem dX0_open_82 : decode cX0_open 82 = .ok (.aload_n 0, 1) := by decide +kernel
theorem dX0_open_83 : decode cX0_open 83 = .ok (.aload_n 0, 1) := by decide +kernel
theorem dX0_open_84 : decode cX0_open 84 = .ok (.aload_n 0, 1) := by decide +kernel
theorem dX0_open_85 : decode cX0_open 85 = .ok (.getfield 27, 3) := by decide +kernel
theorem dX0_open_88 : decode cX0_open 88 = .ok (.iconst 0, 1) := by decide +kernel
theorem dX0_open_89 : decode cX0_open 89 = .ok (.invokevirtual 43, 3) := by decide +kernel
theorem dX0_open_92 : decode cX0_open 92 = .ok (.iconst 0, 1) := by decide +kernel
theorem dX0_open_93 : decode cX0_open 93 = .ok (.invokevirtual 46, 3) := by decide +kernel
theorem dX0_open_96 : decode cX0_open 96 = .ok (.return_, 1) := by decide +kernel
theorem dX0_close_0 : decode cX0_close 0 = .ok (.aload_n 0, 1) := by decide +kernel
theorem dX0_close_1 : decode cX0_close 1 = .ok (.getfield 27, 3) := by decide +kernel
theorem dX0_close_4 : decode cX0_close 4 = .ok (.ifCond .le 13, 3) := by decide +kernel
theorem dX0_close_7 : decode cX0_close 7 = .ok (.aload_n 0, 1) := by decide +kernel
theorem dX0_close_8 : decode cX0_close 8 = .ok (.dup, 1) := by decide +kernel
theorem dX0_close_9 : decode cX0_close 9 = .ok (.getfield 27, 3) := by decide +kernel
theorem dX0_close_12 : decode cX0_close 12 = .ok (.iconst 1, 1) := by decide +kernel
theorem dX0_close_13 : decode cX0_close 13 = .ok (.isub, 1) := by decide +kernel
theorem dX0_close_14 : decode cX0_close 14 = .ok (.putfield 27, 3) := by decide +kernel
theorem dX0_close_17 : decode cX0_close 17 = .ok (.return_, 1) := by decide +kernel
theorem dX0_isFrame_0 : decode cX0_isFrame 0 = .ok (.iload_n 1, 1) := by decide +kernel
theorem dX0_isFrame_1 : decode cX0_isFrame 1 = .ok (.ifCond .lt 13, 3) := by decide +kernel
theorem dX0_isFrame_4 : decode cX0_isFrame 4 = .ok (.iload_n 1, 1) := by decide +kernel
theorem dX0_isFrame_5 : decode cX0_isFrame 5 = .ok (.bipush 31, 2) := by decide +kernel
theorem dX0_isFrame_7 : decode cX0_isFrame 7 = .ok (.if_icmp .ge 7, 3) := by decide +kernel
theorem dX0_isFrame_10 : decode cX0_isFrame 10 = .ok (.iconst 1, 1) := by decide +kernel
theorem dX0_isFrame_11 : decode cX0_isFrame 11 = .ok (.goto 4, 3) := by decide +kernel
theorem dX0_isFrame_14 : decode cX0_isFrame 14 = .ok (.iconst 0, 1) := by decide +kernel
theorem dX0_isFrame_15 : decode cX0_isFrame 15 = .ok (.ireturn, 1) := by decide +kernel
theorem dX0_outwards_0 : decode cX0_outwards 0 = .ok (.iload_n 1, 1) := by decide +kernel
theorem dX0_outwards_1 : decode cX0_outwards 1 = .ok (.istore_n 3, 1) := by decide +kernel
theorem dX0_outwards_2 : decode cX0_outwards 2 = .ok (.iconst 0, 1) := by decide +kernel
theorem dX0_outwards_3 : decode cX0_outwards 3 = .ok (.istore 4, 2) := by decide +kernel
theorem dX0_outwards_5 : decode cX0_outwards 5 = .ok (.iload 4, 2) := by decide +kernel
theorem dX0_outwards_7 : decode cX0_outwards 7 = .ok (.iload_n 2, 1) := by decide +kernel
theorem dX0_outwards_8 : decode cX0_outwards 8 = .ok (.if_icmp .ge 35, 3) := by decide +kernel
theorem dX0_outwards_11 : decode cX0_outwards 11 = .ok (.iload 4, 2) := by decide +kernel
theorem dX0_outwards_13 : decode cX0_outwards 13 = .ok (.bipush 10, 2) := by decide +kernel
theorem dX0_outwards_15 : decode cX0_outwards 15 = .ok (.if_icmp .ge 28, 3) := by decide +kernel
theorem dX0_outwards_18 : decode cX0_outwards 18 = .ok (.aload_n 0, 1) := by decide +kernel
theorem dX0_outwards_19 : decode cX0_outwards 19 = .ok (.iload_n 3, 1) := by decide +kernel
theorem dX0_outwards_20 : decode cX0_outwards 20 = .ok (.invokevirtual 50, 3) := by decide +kernel
theorem dX0_outwards_23 : decode cX0_outwards 23 = .ok (.ifCond .eq 12, 3) := by decide +kernel
theorem dX0_outwards_26 : decode cX0_outwards 26 = .ok (.aload_n 0, 1) := by decide +kernel
theorem dX0_outwards_27 : decode cX0_outwards 27 = .ok (.getfield 15, 3) := by decide +kernel
theorem dX0_outwards_30 : decode cX0_outwards 30 = .ok (.iload_n 3, 1) := by decide +kernel
theorem dX0_outwards_31 : decode cX0_outwards 31 = .ok (.iaload, 1) := by decide +kernel
theorem dX0_outwards_32 : decode cX0_outwards 32 = .ok (.goto 4, 3) := by decide +kernel
theorem dX0_outwards_35 : decode cX0_outwards 35 = .ok (.iconst 0, 1) := by decide +kernel
theorem dX0_outwards_36 : decode cX0_outwards 36 = .ok (.istore_n 3, 1) := by decide +kernel
theorem dX0_outwards_37 : decode cX0_outwards 37 = .ok (.iinc 4 1, 3) := by decide +kernel
theorem dX0_outwards_40 : decode cX0_outwards 40 = .ok (.goto (-35), 3) := by decide +kernel
theorem dX0_outwards_43 : decode cX0_outwards 43 = .ok (.iload_n 3, 1) := by decide +kernel
theorem dX0_outwards_44 : decode cX0_outwards 44 = .ok (.ireturn, 1) := by decide +kernel
theorem dX0_callerOf_0 : decode cX0_callerOf 0 = .ok (.aload_n 0, 1) := by decide +kernel
theorem dX0_callerOf_1 : decode cX0_callerOf 1 = .ok (.iload_n 1, 1) := by decide +kernel
theorem dX0_callerOf_2 : decode cX0_callerOf 2 = .ok (.invokevirtual 50, 3) := by decide +kernel
theorem dX0_callerOf_5 : decode cX0_callerOf 5 = .ok (.ifCond .eq 12, 3) := by decide +kernel
theorem dX0_callerOf_8 : decode cX0_callerOf 8 = .ok (.aload_n 0, 1) := by decide +kernel
theorem dX0_callerOf_9 : decode cX0_callerOf 9 = .ok (.getfield 18, 3) := by decide +kernel
theorem dX0_callerOf_12 : decode cX0_callerOf 12 = .ok (.iload_n 1, 1) := by decide +kernel
theorem dX0_callerOf_13 : decode cX0_callerOf 13 = .ok (.iaload, 1) := by decide +kernel
theorem dX0_callerOf_14 : decode cX0_callerOf 14 = .ok (.goto 4, 3) := by decide +kernel
theorem dX0_callerOf_17 : decode cX0_callerOf 17 = .ok (.iconst 0, 1) := by decide +kernel
theorem dX0_callerOf_18 : decode cX0_callerOf 18 = .ok (.ireturn, 1) := by decide +kernel
theorem dX0_returnOf_0 : decode cX0_returnOf 0 = .ok (.aload_n 0, 1) := by decide +kernel
theorem dX0_returnOf_1 : decode cX0_returnOf 1 = .ok (.iload_n 1, 1) := by decide +kernel
theorem dX0_returnOf_2 : decode cX0_returnOf 2 = .ok (.invokevirtual 50, 3) := by decide +kernel
theorem dX0_returnOf_5 : decode cX0_returnOf 5 = .ok (.ifCond .eq 12, 3) := by decide +kernel
theorem dX0_returnOf_8 : decode cX0_returnOf 8 = .ok (.aload_n 0, 1) := by decide +kernel
theorem dX0_returnOf_9 : decode cX0_returnOf 9 = .ok (.getfield 21, 3) := by decide +kernel
theorem dX0_returnOf_12 : decode cX0_returnOf 12 = .ok (.iload_n 1, 1) := by decide +kernel
theorem dX0_returnOf_13 : decode cX0_returnOf 13 = .ok (.iaload, 1) := by decide +kernel
theorem dX0_returnOf_14 : decode cX0_returnOf 14 = .ok (.goto 4, 3) := by decide +kernel
theorem dX0_returnOf_17 : decode cX0_returnOf 17 = .ok (.iconst 0, 1) := by decide +kernel
theorem dX0_returnOf_18 : decode cX0_returnOf 18 = .ok (.ireturn, 1) := by decide +kernel
theorem dX0_addressOf_0 : decode cX0_addressOf 0 = .ok (.iload_n 1, 1) := by decide +kernel
theorem dX0_addressOf_1 : decode cX0_addressOf 1 = .ok (.bipush 31, 2) := by decide +kernel
theorem dX0_addressOf_3 : decode cX0_addressOf 3 = .ok (.imul, 1) := by decide +kernel
theorem dX0_addressOf_4 : decode cX0_addressOf 4 = .ok (.iload_n 2, 1) := by decide +kernel
theorem dX0_addressOf_5 : decode cX0_addressOf 5 = .ok (.iadd, 1) := by decide +kernel
theorem dX0_addressOf_6 : decode cX0_addressOf 6 = .ok (.ireturn, 1) := by decide +kernel
theorem dX0_valueAt_0 : decode cX0_valueAt 0 = .ok (.iload_n 1, 1) := by decide +kernel
theorem dX0_valueAt_1 : decode cX0_valueAt 1 = .ok (.ifCond .lt 21, 3) := by decide +kernel
theorem dX0_valueAt_4 : decode cX0_valueAt 4 = .ok (.iload_n 1, 1) := by decide +kernel
theorem dX0_valueAt_5 : decode cX0_valueAt 5 = .ok (.aload_n 0, 1) := by decide +kernel
theorem dX0_valueAt_6 : decode cX0_valueAt 6 = .ok (.getfield 9, 3) := by decide +kernel
theorem dX0_valueAt_9 : decode cX0_valueAt 9 = .ok (.arraylength, 1) := by decide +kernel
theorem dX0_valueAt_10 : decode cX0_valueAt 10 = .ok (.if_icmp .ge 12, 3) := by decide +kernel
theorem dX0_valueAt_13 : decode cX0_valueAt 13 = .ok (.aload_n 0, 1) := by decide +kernel
theorem dX0_valueAt_14 : decode cX0_valueAt 14 = .ok (.getfield 9, 3) := by decide +kernel
theorem dX0_valueAt_17 : decode cX0_valueAt 17 = .ok (.iload_n 1, 1) := by decide +kernel
theorem dX0_valueAt_18 : decode cX0_valueAt 18 = .ok (.iaload, 1) := by decide +kernel
theorem dX0_valueAt_19 : decode cX0_valueAt 19 = .ok (.goto 4, 3) := by decide +kernel
theorem dX0_valueAt_22 : decode cX0_valueAt 22 = .ok (.iconst 0, 1) := by decide +kernel
theorem dX0_valueAt_23 : decode cX0_valueAt 23 = .ok (.ireturn, 1) := by decide +kernel
theorem dX0_setValue_0 : decode cX0_setValue 0 = .ok (.iload_n 1, 1) := by decide +kernel
theorem dX0_setValue_1 : decode cX0_setValue 1 = .ok (.ifCond .lt 19, 3) := by decide +kernel
theorem dX0_setValue_4 : decode cX0_setValue 4 = .ok (.iload_n 1, 1) := by decide +kernel
theorem dX0_setValue_5 : decode cX0_setValue 5 = .ok (.aload_n 0, 1) := by decide +kernel
theorem dX0_setValue_6 : decode cX0_setValue 6 = .ok (.getfield 9, 3) := by decide +kernel
theorem dX0_setValue_9 : decode cX0_setValue 9 = .ok (.arraylength, 1) := by decide +kernel
theorem dX0_setValue_10 : decode cX0_setValue 10 = .ok (.if_icmp .ge 10, 3) := by decide +kernel
theorem dX0_setValue_13 : decode cX0_setValue 13 = .ok (.aload_n 0, 1) := by decide +kernel
theorem dX0_setValue_14 : decode cX0_setValue 14 = .ok (.getfield 9, 3) := by decide +kernel
theorem dX0_setValue_17 : decode cX0_setValue 17 = .ok (.iload_n 1, 1) := by decide +kernel
theorem dX0_setValue_18 : decode cX0_setValue 18 = .ok (.iload_n 2, 1) := by decide +kernel
theorem dX0_setValue_19 : decode cX0_setValue 19 = .ok (.iastore, 1) := by decide +kernel
theorem dX0_setValue_20 : decode cX0_setValue 20 = .ok (.return_, 1) := by decide +kernel
theorem dX0_setTarget_0 : decode cX0_setTarget 0 = .ok (.aload_n 0, 1) := by decide +kernel
theorem dX0_setTarget_1 : decode cX0_setTarget 1 = .ok (.iload_n 1, 1) := by decide +kernel
theorem dX0_setTarget_2 : decode cX0_setTarget 2 = .ok (.invokevirtual 50, 3) := by decide +kernel
theorem dX0_setTarget_5 : decode cX0_setTarget 5 = .ok (.ifCond .eq 10, 3) := by decide +kernel
theorem dX0_setTarget_8 : decode cX0_setTarget 8 = .ok (.aload_n 0, 1) := by decide +kernel
theorem dX0_setTarget_9 : decode cX0_setTarget 9 = .ok (.getfield 24, 3) := by decide +kernel
theorem dX0_setTarget_12 : decode cX0_setTarget 12 = .ok (.iload_n 1, 1) := by decide +kernel
theorem dX0_setTarget_13 : decode cX0_setTarget 13 = .ok (.iload_n 2, 1) := by decide +kernel
theorem dX0_setTarget_14 : decode cX0_setTarget 14 = .ok (.iastore, 1) := by decide +kernel
theorem dX0_setTarget_15 : decode cX0_setTarget 15 = .ok (.return_, 1) := by decide +kernel
theorem dX0_targetOf_0 : decode cX0_targetOf 0 = .ok (.aload_n 0, 1) := by decide +kernel
theorem dX0_targetOf_1 : decode cX0_targetOf 1 = .ok (.iload_n 1, 1) := by decide +kernel
theorem dX0_targetOf_2 : decode cX0_targetOf 2 = .ok (.invokevirtual 50, 3) := by decide +kernel
theorem dX0_targetOf_5 : decode cX0_targetOf 5 = .ok (.ifCond .eq 12, 3) := by decide +kernel
theorem dX0_targetOf_8 : decode cX0_targetOf 8 = .ok (.aload_n 0, 1) := by decide +kernel
theorem dX0_targetOf_9 : decode cX0_targetOf 9 = .ok (.getfield 24, 3) := by decide +kernel
theorem dX0_targetOf_12 : decode cX0_targetOf 12 = .ok (.iload_n 1, 1) := by decide +kernel
theorem dX0_targetOf_13 : decode cX0_targetOf 13 = .ok (.iaload, 1) := by decide +kernel
theorem dX0_targetOf_14 : decode cX0_targetOf 14 = .ok (.goto 4, 3) := by decide +kernel
theorem dX0_targetOf_17 : decode cX0_targetOf 17 = .ok (.iconst 0, 1) := by decide +kernel
theorem dX0_targetOf_18 : decode cX0_targetOf 18 = .ok (.ireturn, 1) := by decide +kernel
end
section
theorem dX1_init_0 : decode cX1_init 0 = .ok (.aload_n 0, 1) := by decide +kernel
theorem dX1_init_1 : decode cX1_init 1 = .ok (.invokespecial 3, 3) := by decide +kernel
theorem dX1_init_4 : decode cX1_init 4 = .ok (.aload_n 0, 1) := by decide +kernel
theorem dX1_init_5 : decode cX1_init 5 = .ok (.new 9, 3) := by decide +kernel
theorem dX1_init_8 : decode cX1_init 8 = .ok (.dup, 1) := by decide +kernel
theorem dX1_init_9 : decode cX1_init 9 = .ok (.invokespecial 11, 3) := by decide +kernel
theorem dX1_init_12 : decode cX1_init 12 = .ok (.putfield 12, 3) := by decide +kernel
theorem dX1_init_15 : decode cX1_init 15 = .ok (.aload_n 0, 1) := by decide +kernel
theorem dX1_init_16 : decode cX1_init 16 = .ok (.bipush 30, 2) := by decide +kernel
theorem dX1_init_18 : decode cX1_init 18 = .ok (.newarray .int, 2) := by decide +kernel
theorem dX1_init_20 : decode cX1_init 20 = .ok (.putfield 18, 3) := by decide +kernel
theorem dX1_init_23 : decode cX1_init 23 = .ok (.aload_n 0, 1) := by decide +kernel
theorem dX1_init_24 : decode cX1_init 24 = .ok (.bipush 30, 2) := by decide +kernel
theorem dX1_init_26 : decode cX1_init 26 = .ok (.newarray .int, 2) := by decide +kernel
theorem dX1_init_28 : decode cX1_init 28 = .ok (.putfield 22, 3) := by decide +kernel
theorem dX1_init_31 : decode cX1_init 31 = .ok (.aload_n 0, 1) := by decide +kernel
theorem dX1_init_32 : decode cX1_init 32 = .ok (.bipush 100, 2) := by decide +kernel
theorem dX1_init_34 : decode cX1_init 34 = .ok (.newarray .int, 2) := by decide +kernel
theorem dX1_init_36 : decode cX1_init 36 = .ok (.putfield 25, 3) := by decide +kernel
theorem dX1_init_39 : decode cX1_init 39 = .ok (.aload_n 0, 1) := by decide +kernel
theorem dX1_init_40 : decode cX1_init 40 = .ok (.bipush 32, 2) := by decide +kernel
theorem dX1_init_42 : decode cX1_init 42 = .ok (.newarray .int, 2) := by decide +kernel
theorem dX1_init_44 : decode cX1_init 44 = .ok (.putfield 28, 3) := by decide +kernel
theorem dX1_init_47 : decode cX1_init 47 = .ok (.return_, 1) := by decide +kernel
theorem dX1_runProgram_0 : decode cX1_runProgram 0 = .ok (.aload_n 0, 1) := by decide +kernel
theorem dX1_runProgram_1 : decode cX1_runProgram 1 = .ok (.aload_n 1, 1) := by decide +kernel
theorem dX1_runProgram_2 : decode cX1_runProgram 2 = .ok (.putfield 31, 3) := by decide +kernel
theorem dX1_runProgram_5 : decode cX1_runProgram 5 = .ok (.aload_n 0, 1) := by decide +kernel
theorem dX1_runProgram_6 : decode cX1_runProgram 6 = .ok (.iload_n 2, 1) := by decide +kernel
theorem dX1_runProgram_7 : decode cX1_runProgram 7 = .ok (.putfield 35, 3) := by decide +kernel
theorem dX1_runProgram_10 : decode cX1_runProgram 10 = .ok (.aload_n 0, 1) := by decide +kernel
theorem dX1_runProgram_11 : decode cX1_runProgram 11 = .ok (.iconst 0, 1) := by decide +kernel
theorem dX1_runProgram_12 : decode cX1_runProgram 12 = .ok (.putfield 39, 3) := by decide +kernel
theorem dX1_runProgram_15 : decode cX1_runProgram 15 = .ok (.aload_n 0, 1) := by decide +kernel
theorem dX1_runProgram_16 : decode cX1_runProgram 16 = .ok (.iconst (-1), 1) := by decide +kernel
theorem dX1_runProgram_17 : decode cX1_runProgram 17 = .ok (.putfield 42, 3) := by decide +kernel
theorem dX1_runProgram_20 : decode cX1_runProgram 20 = .ok (.aload_n 0, 1) := by decide +kernel
theorem dX1_runProgram_21 : decode cX1_runProgram 21 = .ok (.iconst 0, 1) := by decide +kernel
theorem dX1_runProgram_22 : decode cX1_runProgram 22 = .ok (.putfield 45, 3) := by decide +kernel
theorem dX1_runProgram_25 : decode cX1_runProgram 25 = .ok (.aload_n 0, 1) := by decide +kernel
theorem dX1_runProgram_26 : decode cX1_runProgram 26 = .ok (.iconst 0, 1) := by decide +kernel
theorem dX1_runProgram_27 : decode cX1_runProgram 27 = .ok (.putfield 48, 3) := by decide +kernel
theorem dX1_runProgram_30 : decode cX1_runProgram 30 = .ok (.aload_n 0, 1) := by decide +kernel
theorem dX1_runProgram_31 : decode cX1_runProgram 31 = .ok (.iconst 0, 1) := by decide +kernel
theorem dX1_runProgram_32 : decode cX1_runProgram 32 = .ok (.putfield 51, 3) := by decide +kernel
theorem dX1_runProgram_35 : decode cX1_runProgram 35 = .ok (.aload_n 0, 1) := by decide +kernel
theorem dX1_runProgram_36 : decode cX1_runProgram 36 = .ok (.getfield 12, 3) := by decide +kernel
theorem dX1_runProgram_39 : decode cX1_runProgram 39 = .ok (.invokevirtual 54, 3) := by decide +kernel
theorem dX1_runProgram_42 : decode cX1_runProgram 42 = .ok (.aload_n 0, 1) := by decide +kernel
theorem dX1_runProgram_43 : decode cX1_runProgram 43 = .ok (.iconst 0, 1) := by decide +kernel
theorem dX1_runProgram_44 : decode cX1_runProgram 44 = .ok (.putfield 57, 3) := by decide +kernel
theorem dX1_runProgram_47 : decode cX1_runProgram 47 = .ok (.aload_n 0, 1) := by decide +kernel
theorem dX1_runProgram_48 : decode cX1_runProgram 48 = .ok (.iconst 0, 1) := by decide +kernel
theorem dX1_runProgram_49 : decode cX1_runProgram 49 = .ok (.putfield 60, 3) := by decide +kernel
theorem dX1_runProgram_52 : decode cX1_runProgram 52 = .ok (.aload_n 0, 1) := by decide +kernel
theorem dX1_runProgram_53 : decode cX1_runProgram 53 = .ok (.iconst 0, 1) := by decide +kernel
theorem dX1_runProgram_54 : decode cX1_runProgram 54 = .ok (.putfield 63, 3) := by decide +kernel
theorem dX1_runProgram_57 : decode cX1_runProgram 57 = .ok (.iconst 0, 1) := by decide +kernel
theorem dX1_runProgram_58 : decode cX1_runProgram 58 = .ok (.istore_n 3, 1) := by decide +kernel
theorem dX1_runProgram_59 : decode cX1_runProgram 59 = .ok (.iload_n 3, 1) := by decide +kernel
theorem dX1_runProgram_60 : decode cX1_runProgram 60 = .ok (.ldc 66, 2) := by decide +kernel
theorem dX1_runProgram_62 : decode cX1_runProgram 62 = .ok (.if_icmp .ge 21, 3) := by decide +kernel
theorem dX1_runProgram_65 : decode cX1_runProgram 65 = .ok (.aload_n 0, 1) := by decide +kernel
theorem dX1_runProgram_66 : decode cX1_runProgram 66 = .ok (.getfield 42, 3) := by decide +kernel
theorem dX1_runProgram_69 : decode cX1_runProgram 69 = .ok (.iconst (-1), 1) := by decide +kernel
theorem dX1_runProgram_70 : decode cX1_runProgram 70 = .ok (.if_icmp .ne 13, 3) := by decide +kernel
theorem dX1_runProgram_73 : decode cX1_runProgram 73 = .ok (.aload_n 0, 1) := by decide +kernel
theorem dX1_runProgram_74 : decode cX1_runProgram 74 = .ok (.invokevirtual 67, 3) := by decide +kernel
theorem dX1_runProgram_77 : decode cX1_runProgram 77 = .ok (.iinc 3 1, 3) := by decide +kernel
theorem dX1_runProgram_80 : decode cX1_runProgram 80 = .ok (.goto (-21), 3) := by decide +kernel
theorem dX1_runProgram_83 : decode cX1_runProgram 83 = .ok (.aload_n 0, 1) := by decide +kernel
theorem dX1_runProgram_84 : decode cX1_runProgram 84 = .ok (.getfield 42, 3) := by decide +kernel
theorem dX1_runProgram_87 : decode cX1_runProgram 87 = .ok (.iconst (-1), 1) := by decide +kernel
theorem dX1_runProgram_88 : decode cX1_runProgram 88 = .ok (.if_icmp .ne 8, 3) := by decide +kernel
theorem dX1_runProgram_91 : decode cX1_runProgram 91 = .ok (.aload_n 0, 1) := by decide +kernel
theorem dX1_runProgram_92 : decode cX1_runProgram 92 = .ok (.iconst 1, 1) := by decide +kernel
theorem dX1_runProgram_93 : decode cX1_runProgram 93 = .ok (.putfield 42, 3) := by decide +kernel
theorem dX1_runProgram_96 : decode cX1_runProgram 96 = .ok (.aload_n 0, 1) := by decide +kernel
theorem dX1_runProgram_97 : decode cX1_runProgram 97 = .ok (.getfield 42, 3) := by decide +kernel
theorem dX1_runProgram_100 : decode cX1_runProgram 100 = .ok (.ireturn, 1) := by decide +kernel
theorem dX1_printAt_0 : decode cX1_printAt 0 = .ok (.iload_n 1, 1) := by decide +kernel
theorem dX1_printAt_1 : decode cX1_printAt 1 = .ok (.ifCond .lt 27, 3) := by decide +kernel
theorem dX1_printAt_4 : decode cX1_printAt 4 = .ok (.iload_n 1, 1) := by decide +kernel
theorem dX1_printAt_5 : decode cX1_printAt 5 = .ok (.aload_n 0, 1) := by decide +kernel
theorem dX1_printAt_6 : decode cX1_printAt 6 = .ok (.getfield 63, 3) := by decide +kernel
theorem dX1_printAt_9 : decode cX1_printAt 9 = .ok (.if_icmp .ge 19, 3) := by decide +kernel
theorem dX1_printAt_12 : decode cX1_printAt 12 = .ok (.iload_n 1, 1) := by decide +kernel
theorem dX1_printAt_13 : decode cX1_printAt 13 = .ok (.bipush 32, 2) := by decide +kernel
theorem dX1_printAt_15 : decode cX1_printAt 15 = .ok (.if_icmp .ge 13, 3) := by decide +kernel
theorem dX1_printAt_18 : decode cX1_printAt 18 = .ok (.aload_n 0, 1) := by decide +kernel
theorem dX1_printAt_19 : decode cX1_printAt 19 = .ok (.getfield 28, 3) := by decide +kernel
theorem dX1_printAt_22 : decode cX1_printAt 22 = .ok (.iload_n 1, 1) := by decide +kernel
theorem dX1_printAt_23 : decode cX1_printAt 23 = .ok (.iaload, 1) := by decide +kernel
theorem dX1_printAt_24 : decode cX1_printAt 24 = .ok (.i2l, 1) := by decide +kernel
theorem dX1_printAt_25 : decode cX1_printAt 25 = .ok (.goto 6, 3) := by decide +kernel
theorem dX1_printAt_28 : decode cX1_printAt 28 = .ok (.ldc2_w 70, 3) := by decide +kernel
theorem dX1_printAt_31 : decode cX1_printAt 31 = .ok (.lreturn, 1) := by decide +kernel
theorem dX1_step_0 : decode cX1_step 0 = .ok (.aload_n 0, 1) := by decide +kernel
theorem dX1_step_1 : decode cX1_step 1 = .ok (.getfield 31, 3) := by decide +kernel
theorem dX1_step_4 : decode cX1_step 4 = .ok (.aload_n 0, 1) := by decide +kernel
theorem dX1_step_5 : decode cX1_step 5 = .ok (.getfield 45, 3) := by decide +kernel
theorem dX1_step_8 : decode cX1_step 8 = .ok (.invokevirtual 72, 3) := by decide +kernel
theorem dX1_step_11 : decode cX1_step 11 = .ok (.istore_n 1, 1) := by decide +kernel
theorem dX1_step_12 : decode cX1_step 12 = .ok (.aload_n 0, 1) := by decide +kernel
theorem dX1_step_13 : decode cX1_step 13 = .ok (.getfield 31, 3) := by decide +kernel
theorem dX1_step_16 : decode cX1_step 16 = .ok (.aload_n 0, 1) := by decide +kernel
theorem dX1_step_17 : decode cX1_step 17 = .ok (.getfield 45, 3) := by decide +kernel
theorem dX1_step_20 : decode cX1_step 20 = .ok (.invokevirtual 78, 3) := by decide +kernel
theorem dX1_step_23 : decode cX1_step 23 = .ok (.istore_n 2, 1) := by decide +kernel
theorem dX1_step_24 : decode cX1_step 24 = .ok (.aload_n 0, 1) := by decide +kernel
theorem dX1_step_25 : decode cX1_step 25 = .ok (.getfield 31, 3) := by decide +kernel
theorem dX1_step_28 : decode cX1_step 28 = .ok (.aload_n 0, 1) := by decide +kernel
theorem dX1_step_29 : decode cX1_step 29 = .ok (.getfield 45, 3) := by decide +kernel
theorem dX1_step_32 : decode cX1_step 32 = .ok (.invokevirtual 81, 3) := by decide +kernel
theorem dX1_step_35 : decode cX1_step 35 = .ok (.istore_n 3, 1) := by decide +kernel
theorem dX1_step_36 : decode cX1_step 36 = .ok (.aload_n 0, 1) := by decide +kernel
theorem dX1_step_37 : decode cX1_step 37 = .ok (.dup, 1) := by decide +kernel
theorem dX1_step_38 : decode cX1_step 38 = .ok (.getfield 45, 3) := by decide +kernel
theorem dX1_step_41 : decode cX1_step 41 = .ok (.iconst 1, 1) := by decide +kernel
theorem dX1_step_42 : decode cX1_step 42 = .ok (.iadd, 1) := by decide +kernel
theorem dX1_step_43 : decode cX1_step 43 = .ok (.putfield 45, 3) := by decide +kernel
theorem dX1_step_46 : decode cX1_step 46 = .ok (.iload_n 1, 1) := by decide +kernel
theorem dX1_step_47 : decode cX1_step 47 = .ok (.bipush 18, 2) := by decide +kernel
theorem dX1_step_49 : decode cX1_step 49 = .ok (.if_icmp .lt 17, 3) := by decide +kernel
theorem dX1_step_52 : decode cX1_step 52 = .ok (.iload_n 1, 1) := by decide +kernel
theorem dX1_step_53 : decode cX1_step 53 = .ok (.bipush 22, 2) := by decide +kernel
theorem dX1_step_55 : decode cX1_step 55 = .ok (.if_icmp .gt 11, 3) := by decide +kernel
theorem dX1_step_58 : decode cX1_step 58 = .ok (.aload_n 0, 1) := by decide +kernel
theorem dX1_step_59 : decode cX1_step 59 = .ok (.iload_n 1, 1) := by decide +kernel
theorem dX1_step_60 : decode cX1_step 60 = .ok (.invokevirtual 84, 3) := by decide +kernel
theorem dX1_step_63 : decode cX1_step 63 = .ok (.goto 76, 3) := by decide +kernel
theorem dX1_step_66 : decode cX1_step 66 = .ok (.iload_n 1, 1) := by decide +kernel
theorem dX1_step_67 : decode cX1_step 67 = .ok (.bipush 6, 2) := by decide +kernel
theorem dX1_step_69 : decode cX1_step 69 = .ok (.if_icmp .lt 19, 3) := by decide +kernel
theorem dX1_step_72 : decode cX1_step 72 = .ok (.iload_n 1, 1) := by decide +kernel
theorem dX1_step_73 : decode cX1_step 73 = .ok (.bipush 9, 2) := by decide +kernel
theorem dX1_step_75 : decode cX1_step 75 = .ok (.if_icmp .gt 13, 3) := by decide +kernel
theorem dX1_step_78 : decode cX1_step 78 = .ok (.aload_n 0, 1) := by decide +kernel
theorem dX1_step_79 : decode cX1_step 79 = .ok (.iload_n 1, 1) := by decide +kernel
theorem dX1_step_80 : decode cX1_step 80 = .ok (.iload_n 2, 1) := by decide +kernel
theorem dX1_step_81 : decode cX1_step 81 = .ok (.iload_n 3, 1) := by decide +kernel
theorem dX1_step_82 : decode cX1_step 82 = .ok (.invokevirtual 88, 3) := by decide +kernel
theorem dX1_step_85 : decode cX1_step 85 = .ok (.goto 54, 3) := by decide +kernel
theorem dX1_step_88 : decode cX1_step 88 = .ok (.iload_n 1, 1) := by decide +kernel
theorem dX1_step_89 : decode cX1_step 89 = .ok (.bipush 10, 2) := by decide +kernel
theorem dX1_step_91 : decode cX1_step 91 = .ok (.if_icmp .lt 19, 3) := by decide +kernel
theorem dX1_step_94 : decode cX1_step 94 = .ok (.iload_n 1, 1) := by decide +kernel
theorem dX1_step_95 : decode cX1_step 95 = .ok (.bipush 12, 2) := by decide +kernel
theorem dX1_step_97 : decode cX1_step 97 = .ok (.if_icmp .gt 13, 3) := by decide +kernel
theorem dX1_step_100 : decode cX1_step 100 = .ok (.aload_n 0, 1) := by decide +kernel
theorem dX1_step_101 : decode cX1_step 101 = .ok (.iload_n 1, 1) := by decide +kernel
theorem dX1_step_102 : decode cX1_step 102 = .ok (.iload_n 2, 1) := by decide +kernel
theorem dX1_step_103 : decode cX1_step 103 = .ok (.iload_n 3, 1) := by decide +kernel
theorem dX1_step_104 : decode cX1_step 104 = .ok (.invokevirtual 92, 3) := by decide +kernel
theorem dX1_step_107 : decode cX1_step 107 = .ok (.goto 32, 3) := by decide +kernel
theorem dX1_step_110 : decode cX1_step 110 = .ok (.iload_n 1, 1) := by decide +kernel
theorem dX1_step_111 : decode cX1_step 111 = .ok (.bipush 13, 2) := by decide +kernel
theorem dX1_step_113 : decode cX1_step 113 = .ok (.if_icmp .lt 19, 3) := by decide +kernel
theorem dX1_step_116 : decode cX1_step 116 = .ok (.iload_n 1, 1) := by decide +kernel
theorem dX1_step_117 : decode cX1_step 117 = .ok (.bipush 15, 2) := by decide +kernel
theorem dX1_step_119 : decode cX1_step 119 = .ok (.if_icmp .gt 13, 3) := by decide +kernel
theorem dX1_step_122 : decode cX1_step 122 = .ok (.aload_n 0, 1) := by decide +kernel
theorem dX1_step_123 : decode cX1_step 123 = .ok (.iload_n 1, 1) := by decide +kernel
theorem dX1_step_124 : decode cX1_step 124 = .ok (.iload_n 2, 1) := by decide +kernel
theorem dX1_step_125 : decode cX1_step 125 = .ok (.iload_n 3, 1) := by decide +kernel
theorem dX1_step_126 : decode cX1_step 126 = .ok (.invokevirtual 95, 3) := by decide +kernel
theorem dX1_step_129 : decode cX1_step 129 = .ok (.goto 10, 3) := by decide +kernel
theorem dX1_step_132 : decode cX1_step 132 = .ok (.aload_n 0, 1) := by decide +kernel
theorem dX1_step_133 : decode cX1_step 133 = .ok (.iload_n 1, 1) := by decide +kernel
theorem dX1_step_134 : decode cX1_step 134 = .ok (.iload_n 2, 1) := by decide +kernel
theorem dX1_step_135 : decode cX1_step 135 = .ok (.iload_n 3, 1) := by decide +kernel
theorem dX1_step_136 : decode cX1_step 136 = .ok (.invokevirtual 98, 3) := by decide +kernel
theorem dX1_step_139 : decode cX1_step 139 = .ok (.return_, 1) := by decide +kernel
theorem dX1_control_0 : decode cX1_control 0 = .ok (.iload_n 1, 1) := by decide +kernel
theorem dX1_control_1 : decode cX1_control 1 = .ok (.tableswitch 202 1 25 #[115, 123, 132, 140, 155, 202, 202, 202, 202, 202, 202, 202, 202, 202, 202, 162, 188, 202, 202, 202, 202, 202, 202, 202, 195], 115) := by decide +kernel
theorem dX1_control_116 : decode cX1_control 116 = .ok (.aload_n 0, 1) := by decide +kernel
theorem dX1_control_117 : decode cX1_control 117 = .ok (.invokevirtual 101, 3) := by decide +kernel
theorem dX1_control_120 : decode cX1_control 120 = .ok (.pop, 1) := by decide +kernel
theorem dX1_control_121 : decode cX1_control 121 = .ok (.goto 87, 3) := by decide +kernel
theorem dX1_control_124 : decode cX1_control 124 = .ok (.aload_n 0, 1) := by decide +kernel
theorem dX1_control_125 : decode cX1_control 125 = .ok (.iload_n 2, 1) := by decide +kernel
theorem dX1_control_126 : decode cX1_control 126 = .ok (.iload_n 3, 1) := by decide +kernel
theorem dX1_control_127 : decode cX1_control 127 = .ok (.invokevirtual 105, 3) := by decide +kernel
theorem dX1_control_130 : decode cX1_control 130 = .ok (.goto 78, 3) := by decide +kernel
theorem dX1_control_133 : decode cX1_control 133 = .ok (.aload_n 0, 1) := by decide +kernel
theorem dX1_control_134 : decode cX1_control 134 = .ok (.iload_n 2, 1) := by decide +kernel
theorem dX1_control_135 : decode cX1_control 135 = .ok (.putfield 45, 3) := by decide +kernel
theorem dX1_control_138 : decode cX1_control 138 = .ok (.goto 70, 3) := by decide +kernel
theorem dX1_control_141 : decode cX1_control 141 = .ok (.aload_n 0, 1) := by decide +kernel
theorem dX1_control_142 : decode cX1_control 142 = .ok (.getfield 51, 3) := by decide +kernel
theorem dX1_control_145 : decode cX1_control 145 = .ok (.ifCond .ne 63, 3) := by decide +kernel
theorem dX1_control_148 : decode cX1_control 148 = .ok (.aload_n 0, 1) := by decide +kernel
theorem dX1_control_149 : decode cX1_control 149 = .ok (.iload_n 2, 1) := by decide +kernel
theorem dX1_control_150 : decode cX1_control 150 = .ok (.putfield 45, 3) := by decide +kernel
theorem dX1_control_153 : decode cX1_control 153 = .ok (.goto 55, 3) := by decide +kernel
theorem dX1_control_156 : decode cX1_control 156 = .ok (.aload_n 0, 1) := by decide +kernel
theorem dX1_control_157 : decode cX1_control 157 = .ok (.invokevirtual 109, 3) := by decide +kernel
theorem dX1_control_160 : decode cX1_control 160 = .ok (.goto 48, 3) := by decide +kernel
theorem dX1_control_163 : decode cX1_control 163 = .ok (.aload_n 0, 1) := by decide +kernel
theorem dX1_control_164 : decode cX1_control 164 = .ok (.getfield 12, 3) := by decide +kernel
theorem dX1_control_167 : decode cX1_control 167 = .ok (.aload_n 0, 1) := by decide +kernel
theorem dX1_control_168 : decode cX1_control 168 = .ok (.getfield 12, 3) := by decide +kernel
theorem dX1_control_171 : decode cX1_control 171 = .ok (.aload_n 0, 1) := by decide +kernel
theorem dX1_control_172 : decode cX1_control 172 = .ok (.getfield 48, 3) := by decide +kernel
theorem dX1_control_175 : decode cX1_control 175 = .ok (.iload_n 2, 1) := by decide +kernel
theorem dX1_control_176 : decode cX1_control 176 = .ok (.invokevirtual 112, 3) := by decide +kernel
theorem dX1_control_179 : decode cX1_control 179 = .ok (.aload_n 0, 1) := by decide +kernel
theorem dX1_control_180 : decode cX1_control 180 = .ok (.getfield 51, 3) := by decide +kernel
theorem dX1_control_183 : decode cX1_control 183 = .ok (.invokevirtual 116, 3) := by decide +kernel
theorem dX1_control_186 : decode cX1_control 186 = .ok (.goto 22, 3) := by decide +kernel
theorem dX1_control_189 : decode cX1_control 189 = .ok (.aload_n 0, 1) := by decide +kernel
theorem dX1_control_190 : decode cX1_control 190 = .ok (.invokevirtual 119, 3) := by decide +kernel
theorem dX1_control_193 : decode cX1_control 193 = .ok (.goto 15, 3) := by decide +kernel
theorem dX1_control_196 : decode cX1_control 196 = .ok (.aload_n 0, 1) := by decide +kernel
theorem dX1_control_197 : decode cX1_control 197 = .ok (.invokevirtual 122, 3) := by decide +kernel
theorem dX1_control_200 : decode cX1_control 200 = .ok (.goto 8, 3) := by decide +kernel
theorem dX1_control_203 : decode cX1_control 203 = .ok (.aload_n 0, 1) := by decide +kernel
theorem dX1_control_204 : decode cX1_control 204 = .ok (.iconst 0, 1) := by decide +kernel
theorem dX1_control_205 : decode cX1_control 205 = .ok (.putfield 42, 3) := by decide +kernel
theorem dX1_control_208 : decode cX1_control 208 = .ok (.return_, 1) := by decide +kernel
theorem dX1_pay_0 : decode cX1_pay 0 = .ok (.aload_n 0, 1) := by decide +kernel
theorem dX1_pay_1 : decode cX1_pay 1 = .ok (.getfield 39, 3) := by decide +kernel
theorem dX1_pay_4 : decode cX1_pay 4 = .ok (.aload_n 0, 1) := by decide +kernel
theorem dX1_pay_5 : decode cX1_pay 5 = .ok (.getfield 35, 3) := by decide +kernel
theorem dX1_pay_8 : decode cX1_pay 8 = .ok (.if_icmp .lt 10, 3) := by decide +kernel
theorem dX1_pay_11 : decode cX1_pay 11 = .ok (.aload_n 0, 1) := by decide +kernel
theorem dX1_pay_12 : decode cX1_pay 12 = .ok (.iconst 1, 1) := by decide +kernel
theorem dX1_pay_13 : decode cX1_pay 13 = .ok (.putfield 42, 3) := by decide +kernel
theorem dX1_pay_16 : decode cX1_pay 16 = .ok (.iconst 0, 1) := by decide +kernel
theorem dX1_pay_17 : decode cX1_pay 17 = .ok (.ireturn, 1) := by decide +kernel
theorem dX1_pay_18 : decode cX1_pay 18 = .ok (.aload_n 0, 1) := by decide +kernel
theorem dX1_pay_19 : decode cX1_pay 19 = .ok (.dup, 1) := by decide +kernel
theorem dX1_pay_20 : decode cX1_pay 20 = .ok (.getfield 39, 3) := by decide +kernel
theorem dX1_pay_23 : decode cX1_pay 23 = .ok (.iconst 1, 1) := by decide +kernel
theorem dX1_pay_24 : decode cX1_pay 24 = .ok (.iadd, 1) := by decide +kernel
theorem dX1_pay_25 : decode cX1_pay 25 = .ok (.putfield 39, 3) := by decide +kernel
theorem dX1_pay_28 : decode cX1_pay 28 = .ok (.iconst 1, 1) := by decide +kernel
theorem dX1_pay_29 : decode cX1_pay 29 = .ok (.ireturn, 1) := by decide +kernel
theorem dX1_beginBlock_0 : decode cX1_beginBlock 0 = .ok (.aload_n 0, 1) := by decide +kernel
theorem dX1_beginBlock_1 : decode cX1_beginBlock 1 = .ok (.invokevirtual 101, 3) := by decide +kernel
theorem dX1_beginBlock_4 : decode cX1_beginBlock 4 = .ok (.ifCond .ne 4, 3) := by decide +kernel
theorem dX1_beginBlock_7 : decode cX1_beginBlock 7 = .ok (.return_, 1) := by decide +kernel
theorem dX1_beginBlock_8 : decode cX1_beginBlock 8 = .ok (.iconst 0, 1) := by decide +kernel
theorem dX1_beginBlock_9 : decode cX1_beginBlock 9 = .ok (.istore_n 3, 1) := by decide +kernel
theorem dX1_beginBlock_10 : decode cX1_beginBlock 10 = .ok (.iload_n 3, 1) := by decide +kernel
theorem dX1_beginBlock_11 : decode cX1_beginBlock 11 = .ok (.iload_n 2, 1) := by decide +kernel
theorem dX1_beginBlock_12 : decode cX1_beginBlock 12 = .ok (.if_icmp .ge 37, 3) := by decide +kernel
theorem dX1_beginBlock_15 : decode cX1_beginBlock 15 = .ok (.iload_n 3, 1) := by decide +kernel
theorem dX1_beginBlock_16 : decode cX1_beginBlock 16 = .ok (.bipush 24, 2) := by decide +kernel
theorem dX1_beginBlock_18 : decode cX1_beginBlock 18 = .ok (.if_icmp .ge 31, 3) := by decide +kernel
theorem dX1_beginBlock_21 : decode cX1_beginBlock 21 = .ok (.aload_n 0, 1) := by decide +kernel
theorem dX1_beginBlock_22 : decode cX1_beginBlock 22 = .ok (.getfield 12, 3) := by decide +kernel
theorem dX1_beginBlock_25 : decode cX1_beginBlock 25 = .ok (.aload_n 0, 1) := by decide +kernel
theorem dX1_beginBlock_26 : decode cX1_beginBlock 26 = .ok (.getfield 12, 3) := by decide +kernel
theorem dX1_beginBlock_29 : decode cX1_beginBlock 29 = .ok (.aload_n 0, 1) := by decide +kernel
theorem dX1_beginBlock_30 : decode cX1_beginBlock 30 = .ok (.getfield 48, 3) := by decide +kernel
theorem dX1_beginBlock_33 : decode cX1_beginBlock 33 = .ok (.iload_n 1, 1) := by decide +kernel
theorem dX1_beginBlock_34 : decode cX1_beginBlock 34 = .ok (.iload_n 3, 1) := by decide +kernel
theorem dX1_beginBlock_35 : decode cX1_beginBlock 35 = .ok (.iadd, 1) := by decide +kernel
theorem dX1_beginBlock_36 : decode cX1_beginBlock 36 = .ok (.invokevirtual 112, 3) := by decide +kernel
theorem dX1_beginBlock_39 : decode cX1_beginBlock 39 = .ok (.iconst 0, 1) := by decide +kernel
theorem dX1_beginBlock_40 : decode cX1_beginBlock 40 = .ok (.invokevirtual 116, 3) := by decide +kernel
theorem dX1_beginBlock_43 : decode cX1_beginBlock 43 = .ok (.iinc 3 1, 3) := by decide +kernel
theorem dX1_beginBlock_46 : decode cX1_beginBlock 46 = .ok (.goto (-36), 3) := by decide +kernel
theorem dX1_beginBlock_49 : decode cX1_beginBlock 49 = .ok (.return_, 1) := by decide +kernel
theorem dX1_printValue_0 : decode cX1_printValue 0 = .ok (.aload_n 0, 1) := by decide +kernel
theorem dX1_printValue_1 : decode cX1_printValue 1 = .ok (.getfield 63, 3) := by decide +kernel
theorem dX1_printValue_4 : decode cX1_printValue 4 = .ok (.bipush 32, 2) := by decide +kernel
theorem dX1_printValue_6 : decode cX1_printValue 6 = .ok (.if_icmp .lt 10, 3) := by decide +kernel
theorem dX1_printValue_9 : decode cX1_printValue 9 = .ok (.aload_n 0, 1) := by decide +kernel
theorem dX1_printValue_10 : decode cX1_printValue 10 = .ok (.bipush 6, 2) := by decide +kernel
theorem dX1_printValue_12 : decode cX1_printValue 12 = .ok (.putfield 42, 3) := by decide +kernel
theorem dX1_printValue_15 : decode cX1_printValue 15 = .ok (.return_, 1) := by decide +kernel
theorem dX1_printValue_16 : decode cX1_printValue 16 = .ok (.aload_n 0, 1) := by decide +kernel
theorem dX1_printValue_17 : decode cX1_printValue 17 = .ok (.getfield 28, 3) := by decide +kernel
theorem dX1_printValue_20 : decode cX1_printValue 20 = .ok (.aload_n 0, 1) := by decide +kernel
theorem dX1_printValue_21 : decode cX1_printValue 21 = .ok (.getfield 63, 3) := by decide +kernel
theorem dX1_printValue_24 : decode cX1_printValue 24 = .ok (.aload_n 0, 1) := by decide +kernel
theorem dX1_printValue_25 : decode cX1_printValue 25 = .ok (.getfield 51, 3) := by decide +kernel
theorem dX1_printValue_28 : decode cX1_printValue 28 = .ok (.iastore, 1) := by decide +kernel
theorem dX1_printValue_29 : decode cX1_printValue 29 = .ok (.aload_n 0, 1) := by decide +kernel
theorem dX1_printValue_30 : decode cX1_printValue 30 = .ok (.dup, 1) := by decide +kernel
theorem dX1_printValue_31 : decode cX1_printValue 31 = .ok (.getfield 63, 3) := by decide +kernel
theorem dX1_printValue_34 : decode cX1_printValue 34 = .ok (.iconst 1, 1) := by decide +kernel
theorem dX1_printValue_35 : decode cX1_printValue 35 = .ok (.iadd, 1) := by decide +kernel
theorem dX1_printValue_36 : decode cX1_printValue 36 = .ok (.putfield 63, 3) := by decide +kernel
theorem dX1_printValue_39 : decode cX1_printValue 39 = .ok (.return_, 1) := by decide +kernel
theorem dX1_assign_0 : decode cX1_assign 0 = .ok (.iload_n 1, 1) := by decide +kernel
theorem dX1_assign_1 : decode cX1_assign 1 = .ok (.bipush 9, 2) := by decide +kernel
theorem dX1_assign_3 : decode cX1_assign 3 = .ok (.if_icmp .ne 26, 3) := by decide +kernel
theorem dX1_assign_6 : decode cX1_assign 6 = .ok (.aload_n 0, 1) := by decide +kernel
theorem dX1_assign_7 : decode cX1_assign 7 = .ok (.getfield 12, 3) := by decide +kernel
theorem dX1_assign_10 : decode cX1_assign 10 = .ok (.aload_n 0, 1) := by decide +kernel
theorem dX1_assign_11 : decode cX1_assign 11 = .ok (.getfield 12, 3) := by decide +kernel
theorem dX1_assign_14 : decode cX1_assign 14 = .ok (.aload_n 0, 1) := by decide +kernel
theorem dX1_assign_15 : decode cX1_assign 15 = .ok (.getfield 48, 3) := by decide +kernel
theorem dX1_assign_18 : decode cX1_assign 18 = .ok (.invokevirtual 125, 3) := by decide +kernel
theorem dX1_assign_21 : decode cX1_assign 21 = .ok (.aload_n 0, 1) := by decide +kernel
theorem dX1_assign_22 : decode cX1_assign 22 = .ok (.getfield 51, 3) := by decide +kernel
theorem dX1_assign_25 : decode cX1_assign 25 = .ok (.invokevirtual 116, 3) := by decide +kernel
theorem dX1_assign_28 : decode cX1_assign 28 = .ok (.return_, 1) := by decide +kernel
theorem dX1_assign_29 : decode cX1_assign 29 = .ok (.aload_n 0, 1) := by decide +kernel
theorem dX1_assign_30 : decode cX1_assign 30 = .ok (.invokevirtual 101, 3) := by decide +kernel
theorem dX1_assign_33 : decode cX1_assign 33 = .ok (.ifCond .ne 4, 3) := by decide +kernel
theorem dX1_assign_36 : decode cX1_assign 36 = .ok (.return_, 1) := by decide +kernel
theorem dX1_assign_37 : decode cX1_assign 37 = .ok (.aload_n 0, 1) := by decide +kernel
theorem dX1_assign_38 : decode cX1_assign 38 = .ok (.getfield 12, 3) := by decide +kernel
theorem dX1_assign_41 : decode cX1_assign 41 = .ok (.aload_n 0, 1) := by decide +kernel
theorem dX1_assign_42 : decode cX1_assign 42 = .ok (.getfield 48, 3) := by decide +kernel
theorem dX1_assign_45 : decode cX1_assign 45 = .ok (.iload_n 3, 1) := by decide +kernel
theorem dX1_assign_46 : decode cX1_assign 46 = .ok (.invokevirtual 128, 3) := by decide +kernel
theorem dX1_assign_49 : decode cX1_assign 49 = .ok (.istore 4, 2) := by decide +kernel
theorem dX1_assign_51 : decode cX1_assign 51 = .ok (.iload_n 1, 1) := by decide +kernel
theorem dX1_assign_52 : decode cX1_assign 52 = .ok (.bipush 6, 2) := by decide +kernel
theorem dX1_assign_54 : decode cX1_assign 54 = .ok (.if_icmp .ne 25, 3) := by decide +kernel
theorem dX1_assign_57 : decode cX1_assign 57 = .ok (.aload_n 0, 1) := by decide +kernel
theorem dX1_assign_58 : decode cX1_assign 58 = .ok (.getfield 12, 3) := by decide +kernel
theorem dX1_assign_61 : decode cX1_assign 61 = .ok (.aload_n 0, 1) := by decide +kernel
theorem dX1_assign_62 : decode cX1_assign 62 = .ok (.getfield 48, 3) := by decide +kernel
theorem dX1_assign_65 : decode cX1_assign 65 = .ok (.aload_n 0, 1) := by decide +kernel
theorem dX1_assign_66 : decode cX1_assign 66 = .ok (.getfield 12, 3) := by decide +kernel
theorem dX1_assign_69 : decode cX1_assign 69 = .ok (.iload 4, 2) := by decide +kernel
theorem dX1_assign_71 : decode cX1_assign 71 = .ok (.iload_n 2, 1) := by decide +kernel
theorem dX1_assign_72 : decode cX1_assign 72 = .ok (.invokevirtual 112, 3) := by decide +kernel
theorem dX1_assign_75 : decode cX1_assign 75 = .ok (.invokevirtual 131, 3) := by decide +kernel
theorem dX1_assign_78 : decode cX1_assign 78 = .ok (.return_, 1) := by decide +kernel
theorem dX1_assign_79 : decode cX1_assign 79 = .ok (.iload_n 1, 1) := by decide +kernel
theorem dX1_assign_80 : decode cX1_assign 80 = .ok (.bipush 7, 2) := by decide +kernel
theorem dX1_assign_82 : decode cX1_assign 82 = .ok (.if_icmp .ne 13, 3) := by decide +kernel
theorem dX1_assign_85 : decode cX1_assign 85 = .ok (.aload_n 0, 1) := by decide +kernel
theorem dX1_assign_86 : decode cX1_assign 86 = .ok (.iload 4, 2) := by decide +kernel
theorem dX1_assign_88 : decode cX1_assign 88 = .ok (.iload_n 2, 1) := by decide +kernel
theorem dX1_assign_89 : decode cX1_assign 89 = .ok (.invokevirtual 134, 3) := by decide +kernel
theorem dX1_assign_92 : decode cX1_assign 92 = .ok (.goto 4, 3) := by decide +kernel
theorem dX1_assign_95 : decode cX1_assign 95 = .ok (.iconst (-1), 1) := by decide +kernel
theorem dX1_assign_96 : decode cX1_assign 96 = .ok (.istore 5, 2) := by decide +kernel
theorem dX1_assign_98 : decode cX1_assign 98 = .ok (.aload_n 0, 1) := by decide +kernel
theorem dX1_assign_99 : decode cX1_assign 99 = .ok (.getfield 31, 3) := by decide +kernel
theorem dX1_assign_102 : decode cX1_assign 102 = .ok (.iload 5, 2) := by decide +kernel
theorem dX1_assign_104 : decode cX1_assign 104 = .ok (.invokevirtual 72, 3) := by decide +kernel
theorem dX1_assign_107 : decode cX1_assign 107 = .ok (.bipush 11, 2) := by decide +kernel
theorem dX1_assign_109 : decode cX1_assign 109 = .ok (.if_icmp .eq 9, 3) := by decide +kernel
theorem dX1_assign_112 : decode cX1_assign 112 = .ok (.aload_n 0, 1) := by decide +kernel
theorem dX1_assign_113 : decode cX1_assign 113 = .ok (.iconst 2, 1) := by decide +kernel
theorem dX1_assign_114 : decode cX1_assign 114 = .ok (.putfield 42, 3) := by decide +kernel
theorem dX1_assign_117 : decode cX1_assign 117 = .ok (.return_, 1) := by decide +kernel
theorem dX1_assign_118 : decode cX1_assign 118 = .ok (.aload_n 0, 1) := by decide +kernel
theorem dX1_assign_119 : decode cX1_assign 119 = .ok (.getfield 12, 3) := by decide +kernel
theorem dX1_assign_122 : decode cX1_assign 122 = .ok (.aload_n 0, 1) := by decide +kernel
theorem dX1_assign_123 : decode cX1_assign 123 = .ok (.getfield 137, 3) := by decide +kernel
theorem dX1_assign_126 : decode cX1_assign 126 = .ok (.aload_n 0, 1) := by decide +kernel
theorem dX1_assign_127 : decode cX1_assign 127 = .ok (.getfield 31, 3) := by decide +kernel
theorem dX1_assign_130 : decode cX1_assign 130 = .ok (.iload 5, 2) := by decide +kernel
theorem dX1_assign_132 : decode cX1_assign 132 = .ok (.invokevirtual 81, 3) := by decide +kernel
theorem dX1_assign_135 : decode cX1_assign 135 = .ok (.invokevirtual 128, 3) := by decide +kernel
theorem dX1_assign_138 : decode cX1_assign 138 = .ok (.istore 6, 2) := by decide +kernel
theorem dX1_assign_140 : decode cX1_assign 140 = .ok (.aload_n 0, 1) := by decide +kernel
theorem dX1_assign_141 : decode cX1_assign 141 = .ok (.getfield 12, 3) := by decide +kernel
theorem dX1_assign_144 : decode cX1_assign 144 = .ok (.aload_n 0, 1) := by decide +kernel
theorem dX1_assign_145 : decode cX1_assign 145 = .ok (.getfield 48, 3) := by decide +kernel
theorem dX1_assign_148 : decode cX1_assign 148 = .ok (.aload_n 0, 1) := by decide +kernel
theorem dX1_assign_149 : decode cX1_assign 149 = .ok (.getfield 12, 3) := by decide +kernel
theorem dX1_assign_152 : decode cX1_assign 152 = .ok (.iload 6, 2) := by decide +kernel
theorem dX1_assign_154 : decode cX1_assign 154 = .ok (.aload_n 0, 1) := by decide +kernel
theorem dX1_assign_155 : decode cX1_assign 155 = .ok (.getfield 31, 3) := by decide +kernel
theorem dX1_assign_158 : decode cX1_assign 158 = .ok (.iload 5, 2) := by decide +kernel
theorem dX1_assign_160 : decode cX1_assign 160 = .ok (.invokevirtual 78, 3) := by decide +kernel
theorem dX1_assign_163 : decode cX1_assign 163 = .ok (.invokevirtual 112, 3) := by decide +kernel
theorem dX1_assign_166 : decode cX1_assign 166 = .ok (.invokevirtual 131, 3) := by decide +kernel
theorem dX1_assign_169 : decode cX1_assign 169 = .ok (.return_, 1) := by decide +kernel
theorem dX1_resolve_0 : decode cX1_resolve 0 = .ok (.iload_n 1, 1) := by decide +kernel
theorem dX1_resolve_1 : decode cX1_resolve 1 = .ok (.istore_n 3, 1) := by decide +kernel
theorem dX1_resolve_2 : decode cX1_resolve 2 = .ok (.iload_n 2, 1) := by decide +kernel
theorem dX1_resolve_3 : decode cX1_resolve 3 = .ok (.istore 4, 2) := by decide +kernel
theorem dX1_resolve_5 : decode cX1_resolve 5 = .ok (.iconst 0, 1) := by decide +kernel
theorem dX1_resolve_6 : decode cX1_resolve 6 = .ok (.istore 5, 2) := by decide +kernel
theorem dX1_resolve_8 : decode cX1_resolve 8 = .ok (.iload 5, 2) := by decide +kernel
theorem dX1_resolve_10 : decode cX1_resolve 10 = .ok (.bipush 31, 2) := by decide +kernel
theorem dX1_resolve_12 : decode cX1_resolve 12 = .ok (.if_icmp .ge 111, 3) := by decide +kernel
theorem dX1_resolve_15 : decode cX1_resolve 15 = .ok (.aload_n 0, 1) := by decide +kernel
theorem dX1_resolve_16 : decode cX1_resolve 16 = .ok (.getfield 12, 3) := by decide +kernel
theorem dX1_resolve_19 : decode cX1_resolve 19 = .ok (.aload_n 0, 1) := by decide +kernel
theorem dX1_resolve_20 : decode cX1_resolve 20 = .ok (.getfield 12, 3) := by decide +kernel
theorem dX1_resolve_23 : decode cX1_resolve 23 = .ok (.iload_n 3, 1) := by decide +kernel
theorem dX1_resolve_24 : decode cX1_resolve 24 = .ok (.iload 4, 2) := by decide +kernel
theorem dX1_resolve_26 : decode cX1_resolve 26 = .ok (.invokevirtual 112, 3) := by decide +kernel
theorem dX1_resolve_29 : decode cX1_resolve 29 = .ok (.invokevirtual 140, 3) := by decide +kernel
theorem dX1_resolve_32 : decode cX1_resolve 32 = .ok (.istore 6, 2) := by decide +kernel
theorem dX1_resolve_34 : decode cX1_resolve 34 = .ok (.aload_n 0, 1) := by decide +kernel
theorem dX1_resolve_35 : decode cX1_resolve 35 = .ok (.getfield 31, 3) := by decide +kernel
theorem dX1_resolve_38 : decode cX1_resolve 38 = .ok (.iload 6, 2) := by decide +kernel
theorem dX1_resolve_40 : decode cX1_resolve 40 = .ok (.invokevirtual 72, 3) := by decide +kernel
theorem dX1_resolve_43 : decode cX1_resolve 43 = .ok (.bipush 24, 2) := by decide +kernel
theorem dX1_resolve_45 : decode cX1_resolve 45 = .ok (.if_icmp .eq 5, 3) := by decide +kernel
theorem dX1_resolve_48 : decode cX1_resolve 48 = .ok (.iconst (-1), 1) := by decide +kernel
theorem dX1_resolve_49 : decode cX1_resolve 49 = .ok (.ireturn, 1) := by decide +kernel
theorem dX1_resolve_50 : decode cX1_resolve 50 = .ok (.iload 6, 2) := by decide +kernel
theorem dX1_resolve_52 : decode cX1_resolve 52 = .ok (.iconst 1, 1) := by decide +kernel
theorem dX1_resolve_53 : decode cX1_resolve 53 = .ok (.iadd, 1) := by decide +kernel
theorem dX1_resolve_54 : decode cX1_resolve 54 = .ok (.istore 7, 2) := by decide +kernel
theorem dX1_resolve_56 : decode cX1_resolve 56 = .ok (.aload_n 0, 1) := by decide +kernel
theorem dX1_resolve_57 : decode cX1_resolve 57 = .ok (.aload_n 0, 1) := by decide +kernel
theorem dX1_resolve_58 : decode cX1_resolve 58 = .ok (.getfield 12, 3) := by decide +kernel
theorem dX1_resolve_61 : decode cX1_resolve 61 = .ok (.iload_n 3, 1) := by decide +kernel
theorem dX1_resolve_62 : decode cX1_resolve 62 = .ok (.invokevirtual 143, 3) := by decide +kernel
theorem dX1_resolve_65 : decode cX1_resolve 65 = .ok (.putfield 137, 3) := by decide +kernel
theorem dX1_resolve_68 : decode cX1_resolve 68 = .ok (.aload_n 0, 1) := by decide +kernel
theorem dX1_resolve_69 : decode cX1_resolve 69 = .ok (.getfield 31, 3) := by decide +kernel
theorem dX1_resolve_72 : decode cX1_resolve 72 = .ok (.iload 7, 2) := by decide +kernel
theorem dX1_resolve_74 : decode cX1_resolve 74 = .ok (.invokevirtual 72, 3) := by decide +kernel
theorem dX1_resolve_77 : decode cX1_resolve 77 = .ok (.bipush 12, 2) := by decide +kernel
theorem dX1_resolve_79 : decode cX1_resolve 79 = .ok (.if_icmp .eq 6, 3) := by decide +kernel
theorem dX1_resolve_82 : decode cX1_resolve 82 = .ok (.iload 7, 2) := by decide +kernel
theorem dX1_resolve_84 : decode cX1_resolve 84 = .ok (.ireturn, 1) := by decide +kernel
theorem dX1_resolve_85 : decode cX1_resolve 85 = .ok (.aload_n 0, 1) := by decide +kernel
theorem dX1_resolve_86 : decode cX1_resolve 86 = .ok (.getfield 12, 3) := by decide +kernel
theorem dX1_resolve_89 : decode cX1_resolve 89 = .ok (.aload_n 0, 1) := by decide +kernel
theorem dX1_resolve_90 : decode cX1_resolve 90 = .ok (.getfield 137, 3) := by decide +kernel
theorem dX1_resolve_93 : decode cX1_resolve 93 = .ok (.aload_n 0, 1) := by decide +kernel
theorem dX1_resolve_94 : decode cX1_resolve 94 = .ok (.getfield 31, 3) := by decide +kernel
theorem dX1_resolve_97 : decode cX1_resolve 97 = .ok (.iload 7, 2) := by decide +kernel
theorem dX1_resolve_99 : decode cX1_resolve 99 = .ok (.invokevirtual 81, 3) := by decide +kernel
theorem dX1_resolve_102 : decode cX1_resolve 102 = .ok (.invokevirtual 128, 3) := by decide +kernel
theorem dX1_resolve_105 : decode cX1_resolve 105 = .ok (.istore_n 3, 1) := by decide +kernel
theorem dX1_resolve_106 : decode cX1_resolve 106 = .ok (.aload_n 0, 1) := by decide +kernel
theorem dX1_resolve_107 : decode cX1_resolve 107 = .ok (.getfield 31, 3) := by decide +kernel
theorem dX1_resolve_110 : decode cX1_resolve 110 = .ok (.iload 7, 2) := by decide +kernel
theorem dX1_resolve_112 : decode cX1_resolve 112 = .ok (.invokevirtual 78, 3) := by decide +kernel
theorem dX1_resolve_115 : decode cX1_resolve 115 = .ok (.istore 4, 2) := by decide +kernel
theorem dX1_resolve_117 : decode cX1_resolve 117 = .ok (.iinc 5 1, 3) := by decide +kernel
theorem dX1_resolve_120 : decode cX1_resolve 120 = .ok (.goto (-112), 3) := by decide +kernel
theorem dX1_resolve_123 : decode cX1_resolve 123 = .ok (.iconst (-1), 1) := by decide +kernel
theorem dX1_resolve_124 : decode cX1_resolve 124 = .ok (.ireturn, 1) := by decide +kernel
theorem dX1_workOut_0 : decode cX1_workOut 0 = .ok (.aload_n 0, 1) := by decide +kernel
theorem dX1_workOut_1 : decode cX1_workOut 1 = .ok (.getfield 12, 3) := by decide +kernel
theorem dX1_workOut_4 : decode cX1_workOut 4 = .ok (.aload_n 0, 1) := by decide +kernel
theorem dX1_workOut_5 : decode cX1_workOut 5 = .ok (.getfield 48, 3) := by decide +kernel
theorem dX1_workOut_8 : decode cX1_workOut 8 = .ok (.iload_n 3, 1) := by decide +kernel
theorem dX1_workOut_9 : decode cX1_workOut 9 = .ok (.invokevirtual 128, 3) := by decide +kernel
theorem dX1_workOut_12 : decode cX1_workOut 12 = .ok (.istore 4, 2) := by decide +kernel
theorem dX1_workOut_14 : decode cX1_workOut 14 = .ok (.iload_n 1, 1) := by decide +kernel
theorem dX1_workOut_15 : decode cX1_workOut 15 = .ok (.bipush 12, 2) := by decide +kernel
theorem dX1_workOut_17 : decode cX1_workOut 17 = .ok (.if_icmp .ne 13, 3) := by decide +kernel
theorem dX1_workOut_20 : decode cX1_workOut 20 = .ok (.aload_n 0, 1) := by decide +kernel
theorem dX1_workOut_21 : decode cX1_workOut 21 = .ok (.iload 4, 2) := by decide +kernel
theorem dX1_workOut_23 : decode cX1_workOut 23 = .ok (.iload_n 2, 1) := by decide +kernel
theorem dX1_workOut_24 : decode cX1_workOut 24 = .ok (.invokevirtual 146, 3) := by decide +kernel
theorem dX1_workOut_27 : decode cX1_workOut 27 = .ok (.goto 41, 3) := by decide +kernel
theorem dX1_workOut_30 : decode cX1_workOut 30 = .ok (.aload_n 0, 1) := by decide +kernel
theorem dX1_workOut_31 : decode cX1_workOut 31 = .ok (.invokevirtual 101, 3) := by decide +kernel
theorem dX1_workOut_34 : decode cX1_workOut 34 = .ok (.ifCond .eq 34, 3) := by decide +kernel
theorem dX1_workOut_37 : decode cX1_workOut 37 = .ok (.aload_n 0, 1) := by decide +kernel
theorem dX1_workOut_38 : decode cX1_workOut 38 = .ok (.iload_n 1, 1) := by decide +kernel
theorem dX1_workOut_39 : decode cX1_workOut 39 = .ok (.bipush 11, 2) := by decide +kernel
theorem dX1_workOut_41 : decode cX1_workOut 41 = .ok (.if_icmp .ne 23, 3) := by decide +kernel
theorem dX1_workOut_44 : decode cX1_workOut 44 = .ok (.aload_n 0, 1) := by decide +kernel
theorem dX1_workOut_45 : decode cX1_workOut 45 = .ok (.getfield 12, 3) := by decide +kernel
theorem dX1_workOut_48 : decode cX1_workOut 48 = .ok (.aload_n 0, 1) := by decide +kernel
theorem dX1_workOut_49 : decode cX1_workOut 49 = .ok (.getfield 12, 3) := by decide +kernel
theorem dX1_workOut_52 : decode cX1_workOut 52 = .ok (.iload 4, 2) := by decide +kernel
theorem dX1_workOut_54 : decode cX1_workOut 54 = .ok (.iload_n 2, 1) := by decide +kernel
theorem dX1_workOut_55 : decode cX1_workOut 55 = .ok (.invokevirtual 112, 3) := by decide +kernel
theorem dX1_workOut_58 : decode cX1_workOut 58 = .ok (.invokevirtual 140, 3) := by decide +kernel
theorem dX1_workOut_61 : decode cX1_workOut 61 = .ok (.goto 4, 3) := by decide +kernel
theorem dX1_workOut_64 : decode cX1_workOut 64 = .ok (.iload_n 2, 1) := by decide +kernel
theorem dX1_workOut_65 : decode cX1_workOut 65 = .ok (.putfield 51, 3) := by decide +kernel
theorem dX1_workOut_68 : decode cX1_workOut 68 = .ok (.return_, 1) := by decide +kernel
theorem dX1_enterActual_0 : decode cX1_enterActual 0 = .ok (.aload_n 0, 1) := by decide +kernel
theorem dX1_enterActual_1 : decode cX1_enterActual 1 = .ok (.getfield 57, 3) := by decide +kernel
theorem dX1_enterActual_4 : decode cX1_enterActual 4 = .ok (.ifCond .lt 12, 3) := by decide +kernel
theorem dX1_enterActual_7 : decode cX1_enterActual 7 = .ok (.aload_n 0, 1) := by decide +kernel
theorem dX1_enterActual_8 : decode cX1_enterActual 8 = .ok (.getfield 57, 3) := by decide +kernel
theorem dX1_enterActual_11 : decode cX1_enterActual 11 = .ok (.bipush 30, 2) := by decide +kernel
theorem dX1_enterActual_13 : decode cX1_enterActual 13 = .ok (.if_icmp .lt 9, 3) := by decide +kernel
theorem dX1_enterActual_16 : decode cX1_enterActual 16 = .ok (.aload_n 0, 1) := by decide +kernel
theorem dX1_enterActual_17 : decode cX1_enterActual 17 = .ok (.iconst 5, 1) := by decide +kernel
theorem dX1_enterActual_18 : decode cX1_enterActual 18 = .ok (.putfield 42, 3) := by decide +kernel
theorem dX1_enterActual_21 : decode cX1_enterActual 21 = .ok (.return_, 1) := by decide +kernel
theorem dX1_enterActual_22 : decode cX1_enterActual 22 = .ok (.aload_n 0, 1) := by decide +kernel
theorem dX1_enterActual_23 : decode cX1_enterActual 23 = .ok (.getfield 18, 3) := by decide +kernel
theorem dX1_enterActual_26 : decode cX1_enterActual 26 = .ok (.aload_n 0, 1) := by decide +kernel
theorem dX1_enterActual_27 : decode cX1_enterActual 27 = .ok (.getfield 57, 3) := by decide +kernel
theorem dX1_enterActual_30 : decode cX1_enterActual 30 = .ok (.aload_n 0, 1) := by decide +kernel
theorem dX1_enterActual_31 : decode cX1_enterActual 31 = .ok (.getfield 45, 3) := by decide +kernel
theorem dX1_enterActual_34 : decode cX1_enterActual 34 = .ok (.iastore, 1) := by decide +kernel
theorem dX1_enterActual_35 : decode cX1_enterActual 35 = .ok (.aload_n 0, 1) := by decide +kernel
theorem dX1_enterActual_36 : decode cX1_enterActual 36 = .ok (.getfield 22, 3) := by decide +kernel
theorem dX1_enterActual_39 : decode cX1_enterActual 39 = .ok (.aload_n 0, 1) := by decide +kernel
theorem dX1_enterActual_40 : decode cX1_enterActual 40 = .ok (.getfield 57, 3) := by decide +kernel
theorem dX1_enterActual_43 : decode cX1_enterActual 43 = .ok (.aload_n 0, 1) := by decide +kernel
theorem dX1_enterActual_44 : decode cX1_enterActual 44 = .ok (.getfield 48, 3) := by decide +kernel
theorem dX1_enterActual_47 : decode cX1_enterActual 47 = .ok (.iastore, 1) := by decide +kernel
theorem dX1_enterActual_48 : decode cX1_enterActual 48 = .ok (.aload_n 0, 1) := by decide +kernel
theorem dX1_enterActual_49 : decode cX1_enterActual 49 = .ok (.dup, 1) := by decide +kernel
theorem dX1_enterActual_50 : decode cX1_enterActual 50 = .ok (.getfield 57, 3) := by decide +kernel
theorem dX1_enterActual_53 : decode cX1_enterActual 53 = .ok (.iconst 1, 1) := by decide +kernel
theorem dX1_enterActual_54 : decode cX1_enterActual 54 = .ok (.iadd, 1) := by decide +kernel
theorem dX1_enterActual_55 : decode cX1_enterActual 55 = .ok (.putfield 57, 3) := by decide +kernel
theorem dX1_enterActual_58 : decode cX1_enterActual 58 = .ok (.aload_n 0, 1) := by decide +kernel
theorem dX1_enterActual_59 : decode cX1_enterActual 59 = .ok (.aload_n 0, 1) := by decide +kernel
theorem dX1_enterActual_60 : decode cX1_enterActual 60 = .ok (.getfield 12, 3) := by decide +kernel
theorem dX1_enterActual_63 : decode cX1_enterActual 63 = .ok (.aload_n 0, 1) := by decide +kernel
theorem dX1_enterActual_64 : decode cX1_enterActual 64 = .ok (.getfield 12, 3) := by decide +kernel
theorem dX1_enterActual_67 : decode cX1_enterActual 67 = .ok (.iload_n 1, 1) := by decide +kernel
theorem dX1_enterActual_68 : decode cX1_enterActual 68 = .ok (.iload_n 2, 1) := by decide +kernel
theorem dX1_enterActual_69 : decode cX1_enterActual 69 = .ok (.invokevirtual 112, 3) := by decide +kernel
theorem dX1_enterActual_72 : decode cX1_enterActual 72 = .ok (.invokevirtual 140, 3) := by decide +kernel
theorem dX1_enterActual_75 : decode cX1_enterActual 75 = .ok (.iconst 1, 1) := by decide +kernel
theorem dX1_enterActual_76 : decode cX1_enterActual 76 = .ok (.iadd, 1) := by decide +kernel
theorem dX1_enterActual_77 : decode cX1_enterActual 77 = .ok (.putfield 45, 3) := by decide +kernel
theorem dX1_enterActual_80 : decode cX1_enterActual 80 = .ok (.aload_n 0, 1) := by decide +kernel
theorem dX1_enterActual_81 : decode cX1_enterActual 81 = .ok (.aload_n 0, 1) := by decide +kernel
theorem dX1_enterActual_82 : decode cX1_enterActual 82 = .ok (.getfield 12, 3) := by decide +kernel
theorem dX1_enterActual_85 : decode cX1_enterActual 85 = .ok (.iload_n 1, 1) := by decide +kernel
theorem dX1_enterActual_86 : decode cX1_enterActual 86 = .ok (.invokevirtual 143, 3) := by decide +kernel
theorem dX1_enterActual_89 : decode cX1_enterActual 89 = .ok (.putfield 48, 3) := by decide +kernel
theorem dX1_enterActual_92 : decode cX1_enterActual 92 = .ok (.return_, 1) := by decide +kernel
theorem dX1_leaveActual_0 : decode cX1_leaveActual 0 = .ok (.aload_n 0, 1) := by decide +kernel
theorem dX1_leaveActual_1 : decode cX1_leaveActual 1 = .ok (.getfield 57, 3) := by decide +kernel
theorem dX1_leaveActual_4 : decode cX1_leaveActual 4 = .ok (.ifCond .le 48, 3) := by decide +kernel
theorem dX1_leaveActual_7 : decode cX1_leaveActual 7 = .ok (.aload_n 0, 1) := by decide +kernel
theorem dX1_leaveActual_8 : decode cX1_leaveActual 8 = .ok (.getfield 57, 3) := by decide +kernel
theorem dX1_leaveActual_11 : decode cX1_leaveActual 11 = .ok (.bipush 30, 2) := by decide +kernel
theorem dX1_leaveActual_13 : decode cX1_leaveActual 13 = .ok (.if_icmp .gt 39, 3) := by decide +kernel
theorem dX1_leaveActual_16 : decode cX1_leaveActual 16 = .ok (.aload_n 0, 1) := by decide +kernel
theorem dX1_leaveActual_17 : decode cX1_leaveActual 17 = .ok (.dup, 1) := by decide +kernel
theorem dX1_leaveActual_18 : decode cX1_leaveActual 18 = .ok (.getfield 57, 3) := by decide +kernel
theorem dX1_leaveActual_21 : decode cX1_leaveActual 21 = .ok (.iconst 1, 1) := by decide +kernel
theorem dX1_leaveActual_22 : decode cX1_leaveActual 22 = .ok (.isub, 1) := by decide +kernel
theorem dX1_leaveActual_23 : decode cX1_leaveActual 23 = .ok (.putfield 57, 3) := by decide +kernel
theorem dX1_leaveActual_26 : decode cX1_leaveActual 26 = .ok (.aload_n 0, 1) := by decide +kernel
theorem dX1_leaveActual_27 : decode cX1_leaveActual 27 = .ok (.aload_n 0, 1) := by decide +kernel
theorem dX1_leaveActual_28 : decode cX1_leaveActual 28 = .ok (.getfield 18, 3) := by decide +kernel
theorem dX1_leaveActual_31 : decode cX1_leaveActual 31 = .ok (.aload_n 0, 1) := by decide +kernel
theorem dX1_leaveActual_32 : decode cX1_leaveActual 32 = .ok (.getfield 57, 3) := by decide +kernel
theorem dX1_leaveActual_35 : decode cX1_leaveActual 35 = .ok (.iaload, 1) := by decide +kernel
theorem dX1_leaveActual_36 : decode cX1_leaveActual 36 = .ok (.putfield 45, 3) := by decide +kernel
theorem dX1_leaveActual_39 : decode cX1_leaveActual 39 = .ok (.aload_n 0, 1) := by decide +kernel
theorem dX1_leaveActual_40 : decode cX1_leaveActual 40 = .ok (.aload_n 0, 1) := by decide +kernel
theorem dX1_leaveActual_41 : decode cX1_leaveActual 41 = .ok (.getfield 22, 3) := by decide +kernel
theorem dX1_leaveActual_44 : decode cX1_leaveActual 44 = .ok (.aload_n 0, 1) := by decide +kernel
theorem dX1_leaveActual_45 : decode cX1_leaveActual 45 = .ok (.getfield 57, 3) := by decide +kernel
theorem dX1_leaveActual_48 : decode cX1_leaveActual 48 = .ok (.iaload, 1) := by decide +kernel
theorem dX1_leaveActual_49 : decode cX1_leaveActual 49 = .ok (.putfield 48, 3) := by decide +kernel
theorem dX1_leaveActual_52 : decode cX1_leaveActual 52 = .ok (.return_, 1) := by decide +kernel
theorem dX1_call_0 : decode cX1_call 0 = .ok (.aload_n 0, 1) := by decide +kernel
theorem dX1_call_1 : decode cX1_call 1 = .ok (.invokevirtual 101, 3) := by decide +kernel
theorem dX1_call_4 : decode cX1_call 4 = .ok (.ifCond .ne 4, 3) := by decide +kernel
theorem dX1_call_7 : decode cX1_call 7 = .ok (.return_, 1) := by decide +kernel
theorem dX1_call_8 : decode cX1_call 8 = .ok (.aload_n 0, 1) := by decide +kernel
theorem dX1_call_9 : decode cX1_call 9 = .ok (.getfield 12, 3) := by decide +kernel
theorem dX1_call_12 : decode cX1_call 12 = .ok (.aload_n 0, 1) := by decide +kernel
theorem dX1_call_13 : decode cX1_call 13 = .ok (.getfield 48, 3) := by decide +kernel
theorem dX1_call_16 : decode cX1_call 16 = .ok (.iload_n 3, 1) := by decide +kernel
theorem dX1_call_17 : decode cX1_call 17 = .ok (.invokevirtual 128, 3) := by decide +kernel
theorem dX1_call_20 : decode cX1_call 20 = .ok (.istore 4, 2) := by decide +kernel
theorem dX1_call_22 : decode cX1_call 22 = .ok (.iload_n 1, 1) := by decide +kernel
theorem dX1_call_23 : decode cX1_call 23 = .ok (.bipush 13, 2) := by decide +kernel
theorem dX1_call_25 : decode cX1_call 25 = .ok (.if_icmp .ne 11, 3) := by decide +kernel
theorem dX1_call_28 : decode cX1_call 28 = .ok (.aload_n 0, 1) := by decide +kernel
theorem dX1_call_29 : decode cX1_call 29 = .ok (.iload_n 2, 1) := by decide +kernel
theorem dX1_call_30 : decode cX1_call 30 = .ok (.iload 4, 2) := by decide +kernel
theorem dX1_call_32 : decode cX1_call 32 = .ok (.invokevirtual 149, 3) := by decide +kernel
theorem dX1_call_35 : decode cX1_call 35 = .ok (.return_, 1) := by decide +kernel
theorem dX1_call_36 : decode cX1_call 36 = .ok (.iload_n 1, 1) := by decide +kernel
theorem dX1_call_37 : decode cX1_call 37 = .ok (.bipush 14, 2) := by decide +kernel
theorem dX1_call_39 : decode cX1_call 39 = .ok (.if_icmp .ne 13, 3) := by decide +kernel
theorem dX1_call_42 : decode cX1_call 42 = .ok (.aload_n 0, 1) := by decide +kernel
theorem dX1_call_43 : decode cX1_call 43 = .ok (.iload 4, 2) := by decide +kernel
theorem dX1_call_45 : decode cX1_call 45 = .ok (.iload_n 2, 1) := by decide +kernel
theorem dX1_call_46 : decode cX1_call 46 = .ok (.invokevirtual 134, 3) := by decide +kernel
theorem dX1_call_49 : decode cX1_call 49 = .ok (.goto 4, 3) := by decide +kernel
theorem dX1_call_52 : decode cX1_call 52 = .ok (.iconst (-1), 1) := by decide +kernel
theorem dX1_call_53 : decode cX1_call 53 = .ok (.istore 5, 2) := by decide +kernel
theorem dX1_call_55 : decode cX1_call 55 = .ok (.aload_n 0, 1) := by decide +kernel
theorem dX1_call_56 : decode cX1_call 56 = .ok (.getfield 31, 3) := by decide +kernel
theorem dX1_call_59 : decode cX1_call 59 = .ok (.iload 5, 2) := by decide +kernel
theorem dX1_call_61 : decode cX1_call 61 = .ok (.invokevirtual 72, 3) := by decide +kernel
theorem dX1_call_64 : decode cX1_call 64 = .ok (.bipush 13, 2) := by decide +kernel
theorem dX1_call_66 : decode cX1_call 66 = .ok (.if_icmp .eq 9, 3) := by decide +kernel
theorem dX1_call_69 : decode cX1_call 69 = .ok (.aload_n 0, 1) := by decide +kernel
theorem dX1_call_70 : decode cX1_call 70 = .ok (.iconst 3, 1) := by decide +kernel
theorem dX1_call_71 : decode cX1_call 71 = .ok (.putfield 42, 3) := by decide +kernel
theorem dX1_call_74 : decode cX1_call 74 = .ok (.return_, 1) := by decide +kernel
theorem dX1_call_75 : decode cX1_call 75 = .ok (.aload_n 0, 1) := by decide +kernel
theorem dX1_call_76 : decode cX1_call 76 = .ok (.aload_n 0, 1) := by decide +kernel
theorem dX1_call_77 : decode cX1_call 77 = .ok (.getfield 31, 3) := by decide +kernel
theorem dX1_call_80 : decode cX1_call 80 = .ok (.iload 5, 2) := by decide +kernel
theorem dX1_call_82 : decode cX1_call 82 = .ok (.invokevirtual 78, 3) := by decide +kernel
theorem dX1_call_85 : decode cX1_call 85 = .ok (.aload_n 0, 1) := by decide +kernel
theorem dX1_call_86 : decode cX1_call 86 = .ok (.getfield 12, 3) := by decide +kernel
theorem dX1_call_89 : decode cX1_call 89 = .ok (.aload_n 0, 1) := by decide +kernel
theorem dX1_call_90 : decode cX1_call 90 = .ok (.getfield 137, 3) := by decide +kernel
theorem dX1_call_93 : decode cX1_call 93 = .ok (.aload_n 0, 1) := by decide +kernel
theorem dX1_call_94 : decode cX1_call 94 = .ok (.getfield 31, 3) := by decide +kernel
theorem dX1_call_97 : decode cX1_call 97 = .ok (.iload 5, 2) := by decide +kernel
theorem dX1_call_99 : decode cX1_call 99 = .ok (.invokevirtual 81, 3) := by decide +kernel
theorem dX1_call_102 : decode cX1_call 102 = .ok (.invokevirtual 128, 3) := by decide +kernel
theorem dX1_call_105 : decode cX1_call 105 = .ok (.invokevirtual 149, 3) := by decide +kernel
theorem dX1_call_108 : decode cX1_call 108 = .ok (.return_, 1) := by decide +kernel
theorem dX1_enterCall_0 : decode cX1_enterCall 0 = .ok (.iconst 0, 1) := by decide +kernel
theorem dX1_enterCall_1 : decode cX1_enterCall 1 = .ok (.istore_n 3, 1) := by decide +kernel
theorem dX1_enterCall_2 : decode cX1_enterCall 2 = .ok (.aload_n 0, 1) := by decide +kernel
theorem dX1_enterCall_3 : decode cX1_enterCall 3 = .ok (.getfield 45, 3) := by decide +kernel
theorem dX1_enterCall_6 : decode cX1_enterCall 6 = .ok (.istore 4, 2) := by decide +kernel
theorem dX1_enterCall_8 : decode cX1_enterCall 8 = .ok (.iload_n 3, 1) := by decide +kernel
theorem dX1_enterCall_9 : decode cX1_enterCall 9 = .ok (.bipush 6, 2) := by decide +kernel
theorem dX1_enterCall_11 : decode cX1_enterCall 11 = .ok (.if_icmp .ge 32, 3) := by decide +kernel
theorem dX1_enterCall_14 : decode cX1_enterCall 14 = .ok (.aload_n 0, 1) := by decide +kernel
theorem dX1_enterCall_15 : decode cX1_enterCall 15 = .ok (.getfield 31, 3) := by decide +kernel
theorem dX1_enterCall_18 : decode cX1_enterCall 18 = .ok (.iload 4, 2) := by decide +kernel
theorem dX1_enterCall_20 : decode cX1_enterCall 20 = .ok (.invokevirtual 152, 3) := by decide +kernel
theorem dX1_enterCall_23 : decode cX1_enterCall 23 = .ok (.ifCond .eq 20, 3) := by decide +kernel
theorem dX1_enterCall_26 : decode cX1_enterCall 26 = .ok (.iinc 3 1, 3) := by decide +kernel
theorem dX1_enterCall_29 : decode cX1_enterCall 29 = .ok (.aload_n 0, 1) := by decide +kernel
theorem dX1_enterCall_30 : decode cX1_enterCall 30 = .ok (.getfield 31, 3) := by decide +kernel
theorem dX1_enterCall_33 : decode cX1_enterCall 33 = .ok (.iload 4, 2) := by decide +kernel
theorem dX1_enterCall_35 : decode cX1_enterCall 35 = .ok (.invokevirtual 78, 3) := by decide +kernel
theorem dX1_enterCall_38 : decode cX1_enterCall 38 = .ok (.istore 4, 2) := by decide +kernel
theorem dX1_enterCall_40 : decode cX1_enterCall 40 = .ok (.goto (-32), 3) := by decide +kernel
theorem dX1_enterCall_43 : decode cX1_enterCall 43 = .ok (.iload_n 3, 1) := by decide +kernel
theorem dX1_enterCall_44 : decode cX1_enterCall 44 = .ok (.aload_n 0, 1) := by decide +kernel
theorem dX1_enterCall_45 : decode cX1_enterCall 45 = .ok (.getfield 31, 3) := by decide +kernel
theorem dX1_enterCall_48 : decode cX1_enterCall 48 = .ok (.iload_n 1, 1) := by decide +kernel
theorem dX1_enterCall_49 : decode cX1_enterCall 49 = .ok (.invokevirtual 156, 3) := by decide +kernel
theorem dX1_enterCall_52 : decode cX1_enterCall 52 = .ok (.if_icmp .eq 9, 3) := by decide +kernel
theorem dX1_enterCall_55 : decode cX1_enterCall 55 = .ok (.aload_n 0, 1) := by decide +kernel
theorem dX1_enterCall_56 : decode cX1_enterCall 56 = .ok (.iconst 4, 1) := by decide +kernel
theorem dX1_enterCall_57 : decode cX1_enterCall 57 = .ok (.putfield 42, 3) := by decide +kernel
theorem dX1_enterCall_60 : decode cX1_enterCall 60 = .ok (.return_, 1) := by decide +kernel
theorem dX1_enterCall_61 : decode cX1_enterCall 61 = .ok (.aload_n 0, 1) := by decide +kernel
theorem dX1_enterCall_62 : decode cX1_enterCall 62 = .ok (.getfield 12, 3) := by decide +kernel
theorem dX1_enterCall_65 : decode cX1_enterCall 65 = .ok (.getfield 159, 3) := by decide +kernel
theorem dX1_enterCall_68 : decode cX1_enterCall 68 = .ok (.bipush 30, 2) := by decide +kernel
theorem dX1_enterCall_70 : decode cX1_enterCall 70 = .ok (.if_icmp .lt 9, 3) := by decide +kernel
theorem dX1_enterCall_73 : decode cX1_enterCall 73 = .ok (.aload_n 0, 1) := by decide +kernel
theorem dX1_enterCall_74 : decode cX1_enterCall 74 = .ok (.iconst 5, 1) := by decide +kernel
theorem dX1_enterCall_75 : decode cX1_enterCall 75 = .ok (.putfield 42, 3) := by decide +kernel
theorem dX1_enterCall_78 : decode cX1_enterCall 78 = .ok (.return_, 1) := by decide +kernel
theorem dX1_enterCall_79 : decode cX1_enterCall 79 = .ok (.aload_n 0, 1) := by decide +kernel
theorem dX1_enterCall_80 : decode cX1_enterCall 80 = .ok (.getfield 12, 3) := by decide +kernel
theorem dX1_enterCall_83 : decode cX1_enterCall 83 = .ok (.iload_n 2, 1) := by decide +kernel
theorem dX1_enterCall_84 : decode cX1_enterCall 84 = .ok (.aload_n 0, 1) := by decide +kernel
theorem dX1_enterCall_85 : decode cX1_enterCall 85 = .ok (.getfield 48, 3) := by decide +kernel
theorem dX1_enterCall_88 : decode cX1_enterCall 88 = .ok (.iload 4, 2) := by decide +kernel
theorem dX1_enterCall_90 : decode cX1_enterCall 90 = .ok (.invokevirtual 162, 3) := by decide +kernel
theorem dX1_enterCall_93 : decode cX1_enterCall 93 = .ok (.aload_n 0, 1) := by decide +kernel
theorem dX1_enterCall_94 : decode cX1_enterCall 94 = .ok (.getfield 45, 3) := by decide +kernel
theorem dX1_enterCall_97 : decode cX1_enterCall 97 = .ok (.istore 5, 2) := by decide +kernel
theorem dX1_enterCall_99 : decode cX1_enterCall 99 = .ok (.iconst 0, 1) := by decide +kernel
theorem dX1_enterCall_100 : decode cX1_enterCall 100 = .ok (.istore 6, 2) := by decide +kernel
theorem dX1_enterCall_102 : decode cX1_enterCall 102 = .ok (.iload 6, 2) := by decide +kernel
theorem dX1_enterCall_104 : decode cX1_enterCall 104 = .ok (.iload_n 3, 1) := by decide +kernel
theorem dX1_enterCall_105 : decode cX1_enterCall 105 = .ok (.if_icmp .ge 47, 3) := by decide +kernel
theorem dX1_enterCall_108 : decode cX1_enterCall 108 = .ok (.aload_n 0, 1) := by decide +kernel
theorem dX1_enterCall_109 : decode cX1_enterCall 109 = .ok (.getfield 12, 3) := by decide +kernel
theorem dX1_enterCall_112 : decode cX1_enterCall 112 = .ok (.aload_n 0, 1) := by decide +kernel
theorem dX1_enterCall_113 : decode cX1_enterCall 113 = .ok (.getfield 12, 3) := by decide +kernel
theorem dX1_enterCall_116 : decode cX1_enterCall 116 = .ok (.aload_n 0, 1) := by decide +kernel
theorem dX1_enterCall_117 : decode cX1_enterCall 117 = .ok (.getfield 12, 3) := by decide +kernel
theorem dX1_enterCall_120 : decode cX1_enterCall 120 = .ok (.getfield 159, 3) := by decide +kernel
theorem dX1_enterCall_123 : decode cX1_enterCall 123 = .ok (.iconst 1, 1) := by decide +kernel
theorem dX1_enterCall_124 : decode cX1_enterCall 124 = .ok (.iload 6, 2) := by decide +kernel
theorem dX1_enterCall_126 : decode cX1_enterCall 126 = .ok (.iadd, 1) := by decide +kernel
theorem dX1_enterCall_127 : decode cX1_enterCall 127 = .ok (.invokevirtual 112, 3) := by decide +kernel
theorem dX1_enterCall_130 : decode cX1_enterCall 130 = .ok (.iload 5, 2) := by decide +kernel
theorem dX1_enterCall_132 : decode cX1_enterCall 132 = .ok (.invokevirtual 116, 3) := by decide +kernel
theorem dX1_enterCall_135 : decode cX1_enterCall 135 = .ok (.aload_n 0, 1) := by decide +kernel
theorem dX1_enterCall_136 : decode cX1_enterCall 136 = .ok (.getfield 31, 3) := by decide +kernel
theorem dX1_enterCall_139 : decode cX1_enterCall 139 = .ok (.iload 5, 2) := by decide +kernel
theorem dX1_enterCall_141 : decode cX1_enterCall 141 = .ok (.invokevirtual 78, 3) := by decide +kernel
theorem dX1_enterCall_144 : decode cX1_enterCall 144 = .ok (.istore 5, 2) := by decide +kernel
theorem dX1_enterCall_146 : decode cX1_enterCall 146 = .ok (.iinc 6 1, 3) := by decide +kernel
theorem dX1_enterCall_149 : decode cX1_enterCall 149 = .ok (.goto (-47), 3) := by decide +kernel
theorem dX1_enterCall_152 : decode cX1_enterCall 152 = .ok (.aload_n 0, 1) := by decide +kernel
theorem dX1_enterCall_153 : decode cX1_enterCall 153 = .ok (.aload_n 0, 1) := by decide +kernel
theorem dX1_enterCall_154 : decode cX1_enterCall 154 = .ok (.getfield 12, 3) := by decide +kernel
theorem dX1_enterCall_157 : decode cX1_enterCall 157 = .ok (.getfield 159, 3) := by decide +kernel
theorem dX1_enterCall_160 : decode cX1_enterCall 160 = .ok (.putfield 48, 3) := by decide +kernel
theorem dX1_enterCall_163 : decode cX1_enterCall 163 = .ok (.aload_n 0, 1) := by decide +kernel
theorem dX1_enterCall_164 : decode cX1_enterCall 164 = .ok (.aload_n 0, 1) := by decide +kernel
theorem dX1_enterCall_165 : decode cX1_enterCall 165 = .ok (.getfield 31, 3) := by decide +kernel
theorem dX1_enterCall_168 : decode cX1_enterCall 168 = .ok (.iload_n 1, 1) := by decide +kernel
theorem dX1_enterCall_169 : decode cX1_enterCall 169 = .ok (.invokevirtual 165, 3) := by decide +kernel
theorem dX1_enterCall_172 : decode cX1_enterCall 172 = .ok (.putfield 45, 3) := by decide +kernel
theorem dX1_enterCall_175 : decode cX1_enterCall 175 = .ok (.return_, 1) := by decide +kernel
theorem dX1_leaveCall_0 : decode cX1_leaveCall 0 = .ok (.aload_n 0, 1) := by decide +kernel
theorem dX1_leaveCall_1 : decode cX1_leaveCall 1 = .ok (.getfield 12, 3) := by decide +kernel
theorem dX1_leaveCall_4 : decode cX1_leaveCall 4 = .ok (.getfield 159, 3) := by decide +kernel
theorem dX1_leaveCall_7 : decode cX1_leaveCall 7 = .ok (.istore_n 1, 1) := by decide +kernel
theorem dX1_leaveCall_8 : decode cX1_leaveCall 8 = .ok (.aload_n 0, 1) := by decide +kernel
theorem dX1_leaveCall_9 : decode cX1_leaveCall 9 = .ok (.aload_n 0, 1) := by decide +kernel
theorem dX1_leaveCall_10 : decode cX1_leaveCall 10 = .ok (.getfield 12, 3) := by decide +kernel
theorem dX1_leaveCall_13 : decode cX1_leaveCall 13 = .ok (.aload_n 0, 1) := by decide +kernel
theorem dX1_leaveCall_14 : decode cX1_leaveCall 14 = .ok (.getfield 12, 3) := by decide +kernel
theorem dX1_leaveCall_17 : decode cX1_leaveCall 17 = .ok (.iload_n 1, 1) := by decide +kernel
theorem dX1_leaveCall_18 : decode cX1_leaveCall 18 = .ok (.iconst 0, 1) := by decide +kernel
theorem dX1_leaveCall_19 : decode cX1_leaveCall 19 = .ok (.invokevirtual 112, 3) := by decide +kernel
theorem dX1_leaveCall_22 : decode cX1_leaveCall 22 = .ok (.invokevirtual 140, 3) := by decide +kernel
theorem dX1_leaveCall_25 : decode cX1_leaveCall 25 = .ok (.putfield 51, 3) := by decide +kernel
end
section
theorem dX1_leaveCall_28 : decode cX1_leaveCall 28 = .ok (.aload_n 0, 1) := by decide +kernel
theorem dX1_leaveCall_29 : decode cX1_leaveCall 29 = .ok (.aload_n 0, 1) := by decide +kernel
theorem dX1_leaveCall_30 : decode cX1_leaveCall 30 = .ok (.getfield 12, 3) := by decide +kernel
theorem dX1_leaveCall_33 : decode cX1_leaveCall 33 = .ok (.iload_n 1, 1) := by decide +kernel
theorem dX1_leaveCall_34 : decode cX1_leaveCall 34 = .ok (.invokevirtual 168, 3) := by decide +kernel
theorem dX1_leaveCall_37 : decode cX1_leaveCall 37 = .ok (.putfield 45, 3) := by decide +kernel
theorem dX1_leaveCall_40 : decode cX1_leaveCall 40 = .ok (.aload_n 0, 1) := by decide +kernel
theorem dX1_leaveCall_41 : decode cX1_leaveCall 41 = .ok (.aload_n 0, 1) := by decide +kernel
theorem dX1_leaveCall_42 : decode cX1_leaveCall 42 = .ok (.getfield 12, 3) := by decide +kernel
theorem dX1_leaveCall_45 : decode cX1_leaveCall 45 = .ok (.iload_n 1, 1) := by decide +kernel
theorem dX1_leaveCall_46 : decode cX1_leaveCall 46 = .ok (.invokevirtual 143, 3) := by decide +kernel
theorem dX1_leaveCall_49 : decode cX1_leaveCall 49 = .ok (.putfield 48, 3) := by decide +kernel
theorem dX1_leaveCall_52 : decode cX1_leaveCall 52 = .ok (.aload_n 0, 1) := by decide +kernel
theorem dX1_leaveCall_53 : decode cX1_leaveCall 53 = .ok (.getfield 12, 3) := by decide +kernel
theorem dX1_leaveCall_56 : decode cX1_leaveCall 56 = .ok (.invokevirtual 171, 3) := by decide +kernel
theorem dX1_leaveCall_59 : decode cX1_leaveCall 59 = .ok (.return_, 1) := by decide +kernel
theorem dX1_operate_0 : decode cX1_operate 0 = .ok (.iload_n 1, 1) := by decide +kernel
theorem dX1_operate_1 : decode cX1_operate 1 = .ok (.bipush 18, 2) := by decide +kernel
theorem dX1_operate_3 : decode cX1_operate 3 = .ok (.if_icmp .ne 8, 3) := by decide +kernel
theorem dX1_operate_6 : decode cX1_operate 6 = .ok (.aload_n 0, 1) := by decide +kernel
theorem dX1_operate_7 : decode cX1_operate 7 = .ok (.invokevirtual 174, 3) := by decide +kernel
theorem dX1_operate_10 : decode cX1_operate 10 = .ok (.return_, 1) := by decide +kernel
theorem dX1_operate_11 : decode cX1_operate 11 = .ok (.aload_n 0, 1) := by decide +kernel
theorem dX1_operate_12 : decode cX1_operate 12 = .ok (.getfield 60, 3) := by decide +kernel
theorem dX1_operate_15 : decode cX1_operate 15 = .ok (.ifCond .le 12, 3) := by decide +kernel
theorem dX1_operate_18 : decode cX1_operate 18 = .ok (.aload_n 0, 1) := by decide +kernel
theorem dX1_operate_19 : decode cX1_operate 19 = .ok (.getfield 60, 3) := by decide +kernel
theorem dX1_operate_22 : decode cX1_operate 22 = .ok (.bipush 100, 2) := by decide +kernel
theorem dX1_operate_24 : decode cX1_operate 24 = .ok (.if_icmp .le 4, 3) := by decide +kernel
theorem dX1_operate_27 : decode cX1_operate 27 = .ok (.return_, 1) := by decide +kernel
theorem dX1_operate_28 : decode cX1_operate 28 = .ok (.aload_n 0, 1) := by decide +kernel
theorem dX1_operate_29 : decode cX1_operate 29 = .ok (.dup, 1) := by decide +kernel
theorem dX1_operate_30 : decode cX1_operate 30 = .ok (.getfield 60, 3) := by decide +kernel
theorem dX1_operate_33 : decode cX1_operate 33 = .ok (.iconst 1, 1) := by decide +kernel
theorem dX1_operate_34 : decode cX1_operate 34 = .ok (.isub, 1) := by decide +kernel
theorem dX1_operate_35 : decode cX1_operate 35 = .ok (.putfield 60, 3) := by decide +kernel
theorem dX1_operate_38 : decode cX1_operate 38 = .ok (.aload_n 0, 1) := by decide +kernel
theorem dX1_operate_39 : decode cX1_operate 39 = .ok (.getfield 25, 3) := by decide +kernel
theorem dX1_operate_42 : decode cX1_operate 42 = .ok (.aload_n 0, 1) := by decide +kernel
theorem dX1_operate_43 : decode cX1_operate 43 = .ok (.getfield 60, 3) := by decide +kernel
theorem dX1_operate_46 : decode cX1_operate 46 = .ok (.iaload, 1) := by decide +kernel
theorem dX1_operate_47 : decode cX1_operate 47 = .ok (.istore_n 2, 1) := by decide +kernel
theorem dX1_operate_48 : decode cX1_operate 48 = .ok (.iload_n 1, 1) := by decide +kernel
theorem dX1_operate_49 : decode cX1_operate 49 = .ok (.bipush 19, 2) := by decide +kernel
theorem dX1_operate_51 : decode cX1_operate 51 = .ok (.if_icmp .ne 16, 3) := by decide +kernel
theorem dX1_operate_54 : decode cX1_operate 54 = .ok (.aload_n 0, 1) := by decide +kernel
theorem dX1_operate_55 : decode cX1_operate 55 = .ok (.iload_n 2, 1) := by decide +kernel
theorem dX1_operate_56 : decode cX1_operate 56 = .ok (.aload_n 0, 1) := by decide +kernel
theorem dX1_operate_57 : decode cX1_operate 57 = .ok (.getfield 51, 3) := by decide +kernel
theorem dX1_operate_60 : decode cX1_operate 60 = .ok (.iadd, 1) := by decide +kernel
theorem dX1_operate_61 : decode cX1_operate 61 = .ok (.putfield 51, 3) := by decide +kernel
theorem dX1_operate_64 : decode cX1_operate 64 = .ok (.goto 58, 3) := by decide +kernel
theorem dX1_operate_67 : decode cX1_operate 67 = .ok (.iload_n 1, 1) := by decide +kernel
theorem dX1_operate_68 : decode cX1_operate 68 = .ok (.bipush 20, 2) := by decide +kernel
theorem dX1_operate_70 : decode cX1_operate 70 = .ok (.if_icmp .ne 16, 3) := by decide +kernel
theorem dX1_operate_73 : decode cX1_operate 73 = .ok (.aload_n 0, 1) := by decide +kernel
theorem dX1_operate_74 : decode cX1_operate 74 = .ok (.iload_n 2, 1) := by decide +kernel
theorem dX1_operate_75 : decode cX1_operate 75 = .ok (.aload_n 0, 1) := by decide +kernel
theorem dX1_operate_76 : decode cX1_operate 76 = .ok (.getfield 51, 3) := by decide +kernel
theorem dX1_operate_79 : decode cX1_operate 79 = .ok (.isub, 1) := by decide +kernel
theorem dX1_operate_80 : decode cX1_operate 80 = .ok (.putfield 51, 3) := by decide +kernel
theorem dX1_operate_83 : decode cX1_operate 83 = .ok (.goto 39, 3) := by decide +kernel
theorem dX1_operate_86 : decode cX1_operate 86 = .ok (.iload_n 1, 1) := by decide +kernel
theorem dX1_operate_87 : decode cX1_operate 87 = .ok (.bipush 21, 2) := by decide +kernel
theorem dX1_operate_89 : decode cX1_operate 89 = .ok (.if_icmp .ne 16, 3) := by decide +kernel
theorem dX1_operate_92 : decode cX1_operate 92 = .ok (.aload_n 0, 1) := by decide +kernel
theorem dX1_operate_93 : decode cX1_operate 93 = .ok (.iload_n 2, 1) := by decide +kernel
theorem dX1_operate_94 : decode cX1_operate 94 = .ok (.aload_n 0, 1) := by decide +kernel
theorem dX1_operate_95 : decode cX1_operate 95 = .ok (.getfield 51, 3) := by decide +kernel
theorem dX1_operate_98 : decode cX1_operate 98 = .ok (.imul, 1) := by decide +kernel
theorem dX1_operate_99 : decode cX1_operate 99 = .ok (.putfield 51, 3) := by decide +kernel
theorem dX1_operate_102 : decode cX1_operate 102 = .ok (.goto 20, 3) := by decide +kernel
theorem dX1_operate_105 : decode cX1_operate 105 = .ok (.aload_n 0, 1) := by decide +kernel
theorem dX1_operate_106 : decode cX1_operate 106 = .ok (.iload_n 2, 1) := by decide +kernel
theorem dX1_operate_107 : decode cX1_operate 107 = .ok (.aload_n 0, 1) := by decide +kernel
theorem dX1_operate_108 : decode cX1_operate 108 = .ok (.getfield 51, 3) := by decide +kernel
theorem dX1_operate_111 : decode cX1_operate 111 = .ok (.if_icmp .ge 7, 3) := by decide +kernel
theorem dX1_operate_114 : decode cX1_operate 114 = .ok (.iconst 1, 1) := by decide +kernel
theorem dX1_operate_115 : decode cX1_operate 115 = .ok (.goto 4, 3) := by decide +kernel
theorem dX1_operate_118 : decode cX1_operate 118 = .ok (.iconst 0, 1) := by decide +kernel
theorem dX1_operate_119 : decode cX1_operate 119 = .ok (.putfield 51, 3) := by decide +kernel
theorem dX1_operate_122 : decode cX1_operate 122 = .ok (.return_, 1) := by decide +kernel
theorem dX1_beginToWait_0 : decode cX1_beginToWait 0 = .ok (.aload_n 0, 1) := by decide +kernel
theorem dX1_beginToWait_1 : decode cX1_beginToWait 1 = .ok (.getfield 60, 3) := by decide +kernel
theorem dX1_beginToWait_4 : decode cX1_beginToWait 4 = .ok (.ifCond .lt 12, 3) := by decide +kernel
theorem dX1_beginToWait_7 : decode cX1_beginToWait 7 = .ok (.aload_n 0, 1) := by decide +kernel
theorem dX1_beginToWait_8 : decode cX1_beginToWait 8 = .ok (.getfield 60, 3) := by decide +kernel
theorem dX1_beginToWait_11 : decode cX1_beginToWait 11 = .ok (.bipush 100, 2) := by decide +kernel
theorem dX1_beginToWait_13 : decode cX1_beginToWait 13 = .ok (.if_icmp .lt 10, 3) := by decide +kernel
theorem dX1_beginToWait_16 : decode cX1_beginToWait 16 = .ok (.aload_n 0, 1) := by decide +kernel
theorem dX1_beginToWait_17 : decode cX1_beginToWait 17 = .ok (.bipush 7, 2) := by decide +kernel
theorem dX1_beginToWait_19 : decode cX1_beginToWait 19 = .ok (.putfield 42, 3) := by decide +kernel
theorem dX1_beginToWait_22 : decode cX1_beginToWait 22 = .ok (.return_, 1) := by decide +kernel
theorem dX1_beginToWait_23 : decode cX1_beginToWait 23 = .ok (.aload_n 0, 1) := by decide +kernel
theorem dX1_beginToWait_24 : decode cX1_beginToWait 24 = .ok (.getfield 25, 3) := by decide +kernel
theorem dX1_beginToWait_27 : decode cX1_beginToWait 27 = .ok (.aload_n 0, 1) := by decide +kernel
theorem dX1_beginToWait_28 : decode cX1_beginToWait 28 = .ok (.getfield 60, 3) := by decide +kernel
theorem dX1_beginToWait_31 : decode cX1_beginToWait 31 = .ok (.aload_n 0, 1) := by decide +kernel
theorem dX1_beginToWait_32 : decode cX1_beginToWait 32 = .ok (.getfield 51, 3) := by decide +kernel
theorem dX1_beginToWait_35 : decode cX1_beginToWait 35 = .ok (.iastore, 1) := by decide +kernel
theorem dX1_beginToWait_36 : decode cX1_beginToWait 36 = .ok (.aload_n 0, 1) := by decide +kernel
theorem dX1_beginToWait_37 : decode cX1_beginToWait 37 = .ok (.dup, 1) := by decide +kernel
theorem dX1_beginToWait_38 : decode cX1_beginToWait 38 = .ok (.getfield 60, 3) := by decide +kernel
theorem dX1_beginToWait_41 : decode cX1_beginToWait 41 = .ok (.iconst 1, 1) := by decide +kernel
theorem dX1_beginToWait_42 : decode cX1_beginToWait 42 = .ok (.iadd, 1) := by decide +kernel
theorem dX1_beginToWait_43 : decode cX1_beginToWait 43 = .ok (.putfield 60, 3) := by decide +kernel
theorem dX1_beginToWait_46 : decode cX1_beginToWait 46 = .ok (.return_, 1) := by decide +kernel
end
section
theorem dX2_init_0 : decode cX2_init 0 = .ok (.aload_n 0, 1) := by decide +kernel
theorem dX2_init_1 : decode cX2_init 1 = .ok (.invokespecial 3, 3) := by decide +kernel
theorem dX2_init_4 : decode cX2_init 4 = .ok (.aload_n 0, 1) := by decide +kernel
theorem dX2_init_5 : decode cX2_init 5 = .ok (.sipush 488, 3) := by decide +kernel
theorem dX2_init_8 : decode cX2_init 8 = .ok (.newarray .int, 2) := by decide +kernel
theorem dX2_init_10 : decode cX2_init 10 = .ok (.putfield 9, 3) := by decide +kernel
theorem dX2_init_13 : decode cX2_init 13 = .ok (.aload_n 0, 1) := by decide +kernel
theorem dX2_init_14 : decode cX2_init 14 = .ok (.sipush 488, 3) := by decide +kernel
theorem dX2_init_17 : decode cX2_init 17 = .ok (.newarray .int, 2) := by decide +kernel
theorem dX2_init_19 : decode cX2_init 19 = .ok (.putfield 15, 3) := by decide +kernel
theorem dX2_init_22 : decode cX2_init 22 = .ok (.aload_n 0, 1) := by decide +kernel
theorem dX2_init_23 : decode cX2_init 23 = .ok (.sipush 488, 3) := by decide +kernel
theorem dX2_init_26 : decode cX2_init 26 = .ok (.newarray .int, 2) := by decide +kernel
theorem dX2_init_28 : decode cX2_init 28 = .ok (.putfield 18, 3) := by decide +kernel
theorem dX2_init_31 : decode cX2_init 31 = .ok (.aload_n 0, 1) := by decide +kernel
theorem dX2_init_32 : decode cX2_init 32 = .ok (.bipush 16, 2) := by decide +kernel
theorem dX2_init_34 : decode cX2_init 34 = .ok (.newarray .int, 2) := by decide +kernel
theorem dX2_init_36 : decode cX2_init 36 = .ok (.putfield 21, 3) := by decide +kernel
theorem dX2_init_39 : decode cX2_init 39 = .ok (.aload_n 0, 1) := by decide +kernel
theorem dX2_init_40 : decode cX2_init 40 = .ok (.bipush 16, 2) := by decide +kernel
theorem dX2_init_42 : decode cX2_init 42 = .ok (.newarray .int, 2) := by decide +kernel
theorem dX2_init_44 : decode cX2_init 44 = .ok (.putfield 24, 3) := by decide +kernel
theorem dX2_init_47 : decode cX2_init 47 = .ok (.return_, 1) := by decide +kernel
theorem dX2_clear_0 : decode cX2_clear 0 = .ok (.aload_n 0, 1) := by decide +kernel
theorem dX2_clear_1 : decode cX2_clear 1 = .ok (.iconst 0, 1) := by decide +kernel
theorem dX2_clear_2 : decode cX2_clear 2 = .ok (.putfield 27, 3) := by decide +kernel
theorem dX2_clear_5 : decode cX2_clear 5 = .ok (.aload_n 0, 1) := by decide +kernel
theorem dX2_clear_6 : decode cX2_clear 6 = .ok (.iconst 0, 1) := by decide +kernel
theorem dX2_clear_7 : decode cX2_clear 7 = .ok (.putfield 31, 3) := by decide +kernel
theorem dX2_clear_10 : decode cX2_clear 10 = .ok (.aload_n 0, 1) := by decide +kernel
theorem dX2_clear_11 : decode cX2_clear 11 = .ok (.iconst 0, 1) := by decide +kernel
theorem dX2_clear_12 : decode cX2_clear 12 = .ok (.putfield 34, 3) := by decide +kernel
theorem dX2_clear_15 : decode cX2_clear 15 = .ok (.aload_n 0, 1) := by decide +kernel
theorem dX2_clear_16 : decode cX2_clear 16 = .ok (.iconst 0, 1) := by decide +kernel
theorem dX2_clear_17 : decode cX2_clear 17 = .ok (.putfield 37, 3) := by decide +kernel
theorem dX2_clear_20 : decode cX2_clear 20 = .ok (.aload_n 0, 1) := by decide +kernel
theorem dX2_clear_21 : decode cX2_clear 21 = .ok (.iconst 0, 1) := by decide +kernel
theorem dX2_clear_22 : decode cX2_clear 22 = .ok (.putfield 40, 3) := by decide +kernel
theorem dX2_clear_25 : decode cX2_clear 25 = .ok (.return_, 1) := by decide +kernel
theorem dX2_add_0 : decode cX2_add 0 = .ok (.aload_n 0, 1) := by decide +kernel
theorem dX2_add_1 : decode cX2_add 1 = .ok (.getfield 27, 3) := by decide +kernel
theorem dX2_add_4 : decode cX2_add 4 = .ok (.istore 4, 2) := by decide +kernel
theorem dX2_add_6 : decode cX2_add 6 = .ok (.iload 4, 2) := by decide +kernel
theorem dX2_add_8 : decode cX2_add 8 = .ok (.sipush 488, 3) := by decide +kernel
theorem dX2_add_11 : decode cX2_add 11 = .ok (.if_icmp .ge 37, 3) := by decide +kernel
theorem dX2_add_14 : decode cX2_add 14 = .ok (.aload_n 0, 1) := by decide +kernel
theorem dX2_add_15 : decode cX2_add 15 = .ok (.getfield 9, 3) := by decide +kernel
theorem dX2_add_18 : decode cX2_add 18 = .ok (.iload 4, 2) := by decide +kernel
theorem dX2_add_20 : decode cX2_add 20 = .ok (.iload_n 1, 1) := by decide +kernel
theorem dX2_add_21 : decode cX2_add 21 = .ok (.iastore, 1) := by decide +kernel
theorem dX2_add_22 : decode cX2_add 22 = .ok (.aload_n 0, 1) := by decide +kernel
theorem dX2_add_23 : decode cX2_add 23 = .ok (.getfield 15, 3) := by decide +kernel
theorem dX2_add_26 : decode cX2_add 26 = .ok (.iload 4, 2) := by decide +kernel
theorem dX2_add_28 : decode cX2_add 28 = .ok (.iload_n 2, 1) := by decide +kernel
theorem dX2_add_29 : decode cX2_add 29 = .ok (.iastore, 1) := by decide +kernel
theorem dX2_add_30 : decode cX2_add 30 = .ok (.aload_n 0, 1) := by decide +kernel
theorem dX2_add_31 : decode cX2_add 31 = .ok (.getfield 18, 3) := by decide +kernel
theorem dX2_add_34 : decode cX2_add 34 = .ok (.iload 4, 2) := by decide +kernel
theorem dX2_add_36 : decode cX2_add 36 = .ok (.iload_n 3, 1) := by decide +kernel
theorem dX2_add_37 : decode cX2_add 37 = .ok (.iastore, 1) := by decide +kernel
theorem dX2_add_38 : decode cX2_add 38 = .ok (.aload_n 0, 1) := by decide +kernel
theorem dX2_add_39 : decode cX2_add 39 = .ok (.dup, 1) := by decide +kernel
theorem dX2_add_40 : decode cX2_add 40 = .ok (.getfield 27, 3) := by decide +kernel
theorem dX2_add_43 : decode cX2_add 43 = .ok (.iconst 1, 1) := by decide +kernel
theorem dX2_add_44 : decode cX2_add 44 = .ok (.iadd, 1) := by decide +kernel
theorem dX2_add_45 : decode cX2_add 45 = .ok (.putfield 27, 3) := by decide +kernel
theorem dX2_add_48 : decode cX2_add 48 = .ok (.iload 4, 2) := by decide +kernel
theorem dX2_add_50 : decode cX2_add 50 = .ok (.ireturn, 1) := by decide +kernel
theorem dX2_setFirst_0 : decode cX2_setFirst 0 = .ok (.aload_n 0, 1) := by decide +kernel
theorem dX2_setFirst_1 : decode cX2_setFirst 1 = .ok (.iload_n 1, 1) := by decide +kernel
theorem dX2_setFirst_2 : decode cX2_setFirst 2 = .ok (.invokevirtual 43, 3) := by decide +kernel
theorem dX2_setFirst_5 : decode cX2_setFirst 5 = .ok (.ifCond .eq 10, 3) := by decide +kernel
theorem dX2_setFirst_8 : decode cX2_setFirst 8 = .ok (.aload_n 0, 1) := by decide +kernel
theorem dX2_setFirst_9 : decode cX2_setFirst 9 = .ok (.getfield 15, 3) := by decide +kernel
theorem dX2_setFirst_12 : decode cX2_setFirst 12 = .ok (.iload_n 1, 1) := by decide +kernel
theorem dX2_setFirst_13 : decode cX2_setFirst 13 = .ok (.iload_n 2, 1) := by decide +kernel
theorem dX2_setFirst_14 : decode cX2_setFirst 14 = .ok (.iastore, 1) := by decide +kernel
theorem dX2_setFirst_15 : decode cX2_setFirst 15 = .ok (.return_, 1) := by decide +kernel
theorem dX2_setSecond_0 : decode cX2_setSecond 0 = .ok (.aload_n 0, 1) := by decide +kernel
theorem dX2_setSecond_1 : decode cX2_setSecond 1 = .ok (.iload_n 1, 1) := by decide +kernel
theorem dX2_setSecond_2 : decode cX2_setSecond 2 = .ok (.invokevirtual 43, 3) := by decide +kernel
theorem dX2_setSecond_5 : decode cX2_setSecond 5 = .ok (.ifCond .eq 10, 3) := by decide +kernel
theorem dX2_setSecond_8 : decode cX2_setSecond 8 = .ok (.aload_n 0, 1) := by decide +kernel
theorem dX2_setSecond_9 : decode cX2_setSecond 9 = .ok (.getfield 18, 3) := by decide +kernel
theorem dX2_setSecond_12 : decode cX2_setSecond 12 = .ok (.iload_n 1, 1) := by decide +kernel
theorem dX2_setSecond_13 : decode cX2_setSecond 13 = .ok (.iload_n 2, 1) := by decide +kernel
theorem dX2_setSecond_14 : decode cX2_setSecond 14 = .ok (.iastore, 1) := by decide +kernel
theorem dX2_setSecond_15 : decode cX2_setSecond 15 = .ok (.return_, 1) := by decide +kernel
theorem dX2_isPlace_0 : decode cX2_isPlace 0 = .ok (.iload_n 1, 1) := by decide +kernel
theorem dX2_isPlace_1 : decode cX2_isPlace 1 = .ok (.ifCond .lt 22, 3) := by decide +kernel
theorem dX2_isPlace_4 : decode cX2_isPlace 4 = .ok (.iload_n 1, 1) := by decide +kernel
theorem dX2_isPlace_5 : decode cX2_isPlace 5 = .ok (.aload_n 0, 1) := by decide +kernel
theorem dX2_isPlace_6 : decode cX2_isPlace 6 = .ok (.getfield 27, 3) := by decide +kernel
theorem dX2_isPlace_9 : decode cX2_isPlace 9 = .ok (.if_icmp .ge 14, 3) := by decide +kernel
theorem dX2_isPlace_12 : decode cX2_isPlace 12 = .ok (.iload_n 1, 1) := by decide +kernel
theorem dX2_isPlace_13 : decode cX2_isPlace 13 = .ok (.sipush 488, 3) := by decide +kernel
theorem dX2_isPlace_16 : decode cX2_isPlace 16 = .ok (.if_icmp .ge 7, 3) := by decide +kernel
theorem dX2_isPlace_19 : decode cX2_isPlace 19 = .ok (.iconst 1, 1) := by decide +kernel
theorem dX2_isPlace_20 : decode cX2_isPlace 20 = .ok (.goto 4, 3) := by decide +kernel
theorem dX2_isPlace_23 : decode cX2_isPlace 23 = .ok (.iconst 0, 1) := by decide +kernel
theorem dX2_isPlace_24 : decode cX2_isPlace 24 = .ok (.ireturn, 1) := by decide +kernel
theorem dX2_opAt_0 : decode cX2_opAt 0 = .ok (.aload_n 0, 1) := by decide +kernel
theorem dX2_opAt_1 : decode cX2_opAt 1 = .ok (.iload_n 1, 1) := by decide +kernel
theorem dX2_opAt_2 : decode cX2_opAt 2 = .ok (.invokevirtual 43, 3) := by decide +kernel
theorem dX2_opAt_5 : decode cX2_opAt 5 = .ok (.ifCond .eq 12, 3) := by decide +kernel
theorem dX2_opAt_8 : decode cX2_opAt 8 = .ok (.aload_n 0, 1) := by decide +kernel
theorem dX2_opAt_9 : decode cX2_opAt 9 = .ok (.getfield 9, 3) := by decide +kernel
theorem dX2_opAt_12 : decode cX2_opAt 12 = .ok (.iload_n 1, 1) := by decide +kernel
theorem dX2_opAt_13 : decode cX2_opAt 13 = .ok (.iaload, 1) := by decide +kernel
theorem dX2_opAt_14 : decode cX2_opAt 14 = .ok (.goto 4, 3) := by decide +kernel
theorem dX2_opAt_17 : decode cX2_opAt 17 = .ok (.iconst 0, 1) := by decide +kernel
theorem dX2_opAt_18 : decode cX2_opAt 18 = .ok (.ireturn, 1) := by decide +kernel
theorem dX2_firstAt_0 : decode cX2_firstAt 0 = .ok (.aload_n 0, 1) := by decide +kernel
theorem dX2_firstAt_1 : decode cX2_firstAt 1 = .ok (.iload_n 1, 1) := by decide +kernel
theorem dX2_firstAt_2 : decode cX2_firstAt 2 = .ok (.invokevirtual 43, 3) := by decide +kernel
theorem dX2_firstAt_5 : decode cX2_firstAt 5 = .ok (.ifCond .eq 12, 3) := by decide +kernel
theorem dX2_firstAt_8 : decode cX2_firstAt 8 = .ok (.aload_n 0, 1) := by decide +kernel
theorem dX2_firstAt_9 : decode cX2_firstAt 9 = .ok (.getfield 15, 3) := by decide +kernel
theorem dX2_firstAt_12 : decode cX2_firstAt 12 = .ok (.iload_n 1, 1) := by decide +kernel
theorem dX2_firstAt_13 : decode cX2_firstAt 13 = .ok (.iaload, 1) := by decide +kernel
theorem dX2_firstAt_14 : decode cX2_firstAt 14 = .ok (.goto 4, 3) := by decide +kernel
theorem dX2_firstAt_17 : decode cX2_firstAt 17 = .ok (.iconst 0, 1) := by decide +kernel
theorem dX2_firstAt_18 : decode cX2_firstAt 18 = .ok (.ireturn, 1) := by decide +kernel
theorem dX2_secondAt_0 : decode cX2_secondAt 0 = .ok (.aload_n 0, 1) := by decide +kernel
theorem dX2_secondAt_1 : decode cX2_secondAt 1 = .ok (.iload_n 1, 1) := by decide +kernel
theorem dX2_secondAt_2 : decode cX2_secondAt 2 = .ok (.invokevirtual 43, 3) := by decide +kernel
theorem dX2_secondAt_5 : decode cX2_secondAt 5 = .ok (.ifCond .eq 12, 3) := by decide +kernel
theorem dX2_secondAt_8 : decode cX2_secondAt 8 = .ok (.aload_n 0, 1) := by decide +kernel
theorem dX2_secondAt_9 : decode cX2_secondAt 9 = .ok (.getfield 18, 3) := by decide +kernel
theorem dX2_secondAt_12 : decode cX2_secondAt 12 = .ok (.iload_n 1, 1) := by decide +kernel
theorem dX2_secondAt_13 : decode cX2_secondAt 13 = .ok (.iaload, 1) := by decide +kernel
theorem dX2_secondAt_14 : decode cX2_secondAt 14 = .ok (.goto 4, 3) := by decide +kernel
theorem dX2_secondAt_17 : decode cX2_secondAt 17 = .ok (.iconst 0, 1) := by decide +kernel
theorem dX2_secondAt_18 : decode cX2_secondAt 18 = .ok (.ireturn, 1) := by decide +kernel
theorem dX2_isActual_0 : decode cX2_isActual 0 = .ok (.aload_n 0, 1) := by decide +kernel
theorem dX2_isActual_1 : decode cX2_isActual 1 = .ok (.iload_n 1, 1) := by decide +kernel
theorem dX2_isActual_2 : decode cX2_isActual 2 = .ok (.invokevirtual 43, 3) := by decide +kernel
theorem dX2_isActual_5 : decode cX2_isActual 5 = .ok (.ifCond .eq 29, 3) := by decide +kernel
theorem dX2_isActual_8 : decode cX2_isActual 8 = .ok (.aload_n 0, 1) := by decide +kernel
theorem dX2_isActual_9 : decode cX2_isActual 9 = .ok (.getfield 9, 3) := by decide +kernel
theorem dX2_isActual_12 : decode cX2_isActual 12 = .ok (.iload_n 1, 1) := by decide +kernel
theorem dX2_isActual_13 : decode cX2_isActual 13 = .ok (.iaload, 1) := by decide +kernel
theorem dX2_isActual_14 : decode cX2_isActual 14 = .ok (.bipush 23, 2) := by decide +kernel
theorem dX2_isActual_16 : decode cX2_isActual 16 = .ok (.if_icmp .eq 14, 3) := by decide +kernel
theorem dX2_isActual_19 : decode cX2_isActual 19 = .ok (.aload_n 0, 1) := by decide +kernel
theorem dX2_isActual_20 : decode cX2_isActual 20 = .ok (.getfield 9, 3) := by decide +kernel
theorem dX2_isActual_23 : decode cX2_isActual 23 = .ok (.iload_n 1, 1) := by decide +kernel
theorem dX2_isActual_24 : decode cX2_isActual 24 = .ok (.iaload, 1) := by decide +kernel
theorem dX2_isActual_25 : decode cX2_isActual 25 = .ok (.bipush 24, 2) := by decide +kernel
theorem dX2_isActual_27 : decode cX2_isActual 27 = .ok (.if_icmp .ne 7, 3) := by decide +kernel
theorem dX2_isActual_30 : decode cX2_isActual 30 = .ok (.iconst 1, 1) := by decide +kernel
theorem dX2_isActual_31 : decode cX2_isActual 31 = .ok (.goto 4, 3) := by decide +kernel
theorem dX2_isActual_34 : decode cX2_isActual 34 = .ok (.iconst 0, 1) := by decide +kernel
theorem dX2_isActual_35 : decode cX2_isActual 35 = .ok (.ireturn, 1) := by decide +kernel
theorem dX2_addProcedure_0 : decode cX2_addProcedure 0 = .ok (.aload_n 0, 1) := by decide +kernel
theorem dX2_addProcedure_1 : decode cX2_addProcedure 1 = .ok (.getfield 31, 3) := by decide +kernel
theorem dX2_addProcedure_4 : decode cX2_addProcedure 4 = .ok (.istore_n 1, 1) := by decide +kernel
theorem dX2_addProcedure_5 : decode cX2_addProcedure 5 = .ok (.iload_n 1, 1) := by decide +kernel
theorem dX2_addProcedure_6 : decode cX2_addProcedure 6 = .ok (.bipush 16, 2) := by decide +kernel
theorem dX2_addProcedure_8 : decode cX2_addProcedure 8 = .ok (.if_icmp .ge 30, 3) := by decide +kernel
theorem dX2_addProcedure_11 : decode cX2_addProcedure 11 = .ok (.aload_n 0, 1) := by decide +kernel
theorem dX2_addProcedure_12 : decode cX2_addProcedure 12 = .ok (.getfield 21, 3) := by decide +kernel
theorem dX2_addProcedure_15 : decode cX2_addProcedure 15 = .ok (.iload_n 1, 1) := by decide +kernel
theorem dX2_addProcedure_16 : decode cX2_addProcedure 16 = .ok (.aload_n 0, 1) := by decide +kernel
theorem dX2_addProcedure_17 : decode cX2_addProcedure 17 = .ok (.getfield 27, 3) := by decide +kernel
theorem dX2_addProcedure_20 : decode cX2_addProcedure 20 = .ok (.iastore, 1) := by decide +kernel
theorem dX2_addProcedure_21 : decode cX2_addProcedure 21 = .ok (.aload_n 0, 1) := by decide +kernel
theorem dX2_addProcedure_22 : decode cX2_addProcedure 22 = .ok (.getfield 24, 3) := by decide +kernel
theorem dX2_addProcedure_25 : decode cX2_addProcedure 25 = .ok (.iload_n 1, 1) := by decide +kernel
theorem dX2_addProcedure_26 : decode cX2_addProcedure 26 = .ok (.iconst 0, 1) := by decide +kernel
theorem dX2_addProcedure_27 : decode cX2_addProcedure 27 = .ok (.iastore, 1) := by decide +kernel
theorem dX2_addProcedure_28 : decode cX2_addProcedure 28 = .ok (.aload_n 0, 1) := by decide +kernel
theorem dX2_addProcedure_29 : decode cX2_addProcedure 29 = .ok (.dup, 1) := by decide +kernel
theorem dX2_addProcedure_30 : decode cX2_addProcedure 30 = .ok (.getfield 31, 3) := by decide +kernel
theorem dX2_addProcedure_33 : decode cX2_addProcedure 33 = .ok (.iconst 1, 1) := by decide +kernel
theorem dX2_addProcedure_34 : decode cX2_addProcedure 34 = .ok (.iadd, 1) := by decide +kernel
theorem dX2_addProcedure_35 : decode cX2_addProcedure 35 = .ok (.putfield 31, 3) := by decide +kernel
theorem dX2_addProcedure_38 : decode cX2_addProcedure 38 = .ok (.iload_n 1, 1) := by decide +kernel
theorem dX2_addProcedure_39 : decode cX2_addProcedure 39 = .ok (.ireturn, 1) := by decide +kernel
theorem dX2_isProcedure_0 : decode cX2_isProcedure 0 = .ok (.iload_n 1, 1) := by decide +kernel
theorem dX2_isProcedure_1 : decode cX2_isProcedure 1 = .ok (.ifCond .lt 21, 3) := by decide +kernel
theorem dX2_isProcedure_4 : decode cX2_isProcedure 4 = .ok (.iload_n 1, 1) := by decide +kernel
theorem dX2_isProcedure_5 : decode cX2_isProcedure 5 = .ok (.aload_n 0, 1) := by decide +kernel
theorem dX2_isProcedure_6 : decode cX2_isProcedure 6 = .ok (.getfield 31, 3) := by decide +kernel
theorem dX2_isProcedure_9 : decode cX2_isProcedure 9 = .ok (.if_icmp .ge 13, 3) := by decide +kernel
theorem dX2_isProcedure_12 : decode cX2_isProcedure 12 = .ok (.iload_n 1, 1) := by decide +kernel
theorem dX2_isProcedure_13 : decode cX2_isProcedure 13 = .ok (.bipush 16, 2) := by decide +kernel
theorem dX2_isProcedure_15 : decode cX2_isProcedure 15 = .ok (.if_icmp .ge 7, 3) := by decide +kernel
theorem dX2_isProcedure_18 : decode cX2_isProcedure 18 = .ok (.iconst 1, 1) := by decide +kernel
theorem dX2_isProcedure_19 : decode cX2_isProcedure 19 = .ok (.goto 4, 3) := by decide +kernel
theorem dX2_isProcedure_22 : decode cX2_isProcedure 22 = .ok (.iconst 0, 1) := by decide +kernel
theorem dX2_isProcedure_23 : decode cX2_isProcedure 23 = .ok (.ireturn, 1) := by decide +kernel
theorem dX2_setFormalCount_0 : decode cX2_setFormalCount 0 = .ok (.aload_n 0, 1) := by decide +kernel
theorem dX2_setFormalCount_1 : decode cX2_setFormalCount 1 = .ok (.iload_n 1, 1) := by decide +kernel
theorem dX2_setFormalCount_2 : decode cX2_setFormalCount 2 = .ok (.invokevirtual 47, 3) := by decide +kernel
theorem dX2_setFormalCount_5 : decode cX2_setFormalCount 5 = .ok (.ifCond .eq 10, 3) := by decide +kernel
theorem dX2_setFormalCount_8 : decode cX2_setFormalCount 8 = .ok (.aload_n 0, 1) := by decide +kernel
theorem dX2_setFormalCount_9 : decode cX2_setFormalCount 9 = .ok (.getfield 24, 3) := by decide +kernel
theorem dX2_setFormalCount_12 : decode cX2_setFormalCount 12 = .ok (.iload_n 1, 1) := by decide +kernel
theorem dX2_setFormalCount_13 : decode cX2_setFormalCount 13 = .ok (.iload_n 2, 1) := by decide +kernel
theorem dX2_setFormalCount_14 : decode cX2_setFormalCount 14 = .ok (.iastore, 1) := by decide +kernel
theorem dX2_setFormalCount_15 : decode cX2_setFormalCount 15 = .ok (.return_, 1) := by decide +kernel
theorem dX2_formalCountOf_0 : decode cX2_formalCountOf 0 = .ok (.aload_n 0, 1) := by decide +kernel
theorem dX2_formalCountOf_1 : decode cX2_formalCountOf 1 = .ok (.iload_n 1, 1) := by decide +kernel
theorem dX2_formalCountOf_2 : decode cX2_formalCountOf 2 = .ok (.invokevirtual 47, 3) := by decide +kernel
theorem dX2_formalCountOf_5 : decode cX2_formalCountOf 5 = .ok (.ifCond .eq 12, 3) := by decide +kernel
theorem dX2_formalCountOf_8 : decode cX2_formalCountOf 8 = .ok (.aload_n 0, 1) := by decide +kernel
theorem dX2_formalCountOf_9 : decode cX2_formalCountOf 9 = .ok (.getfield 24, 3) := by decide +kernel
theorem dX2_formalCountOf_12 : decode cX2_formalCountOf 12 = .ok (.iload_n 1, 1) := by decide +kernel
theorem dX2_formalCountOf_13 : decode cX2_formalCountOf 13 = .ok (.iaload, 1) := by decide +kernel
theorem dX2_formalCountOf_14 : decode cX2_formalCountOf 14 = .ok (.goto 4, 3) := by decide +kernel
theorem dX2_formalCountOf_17 : decode cX2_formalCountOf 17 = .ok (.iconst 0, 1) := by decide +kernel
theorem dX2_formalCountOf_18 : decode cX2_formalCountOf 18 = .ok (.ireturn, 1) := by decide +kernel
theorem dX2_startOf_0 : decode cX2_startOf 0 = .ok (.aload_n 0, 1) := by decide +kernel
theorem dX2_startOf_1 : decode cX2_startOf 1 = .ok (.iload_n 1, 1) := by decide +kernel
theorem dX2_startOf_2 : decode cX2_startOf 2 = .ok (.invokevirtual 47, 3) := by decide +kernel
theorem dX2_startOf_5 : decode cX2_startOf 5 = .ok (.ifCond .eq 12, 3) := by decide +kernel
theorem dX2_startOf_8 : decode cX2_startOf 8 = .ok (.aload_n 0, 1) := by decide +kernel
theorem dX2_startOf_9 : decode cX2_startOf 9 = .ok (.getfield 21, 3) := by decide +kernel
theorem dX2_startOf_12 : decode cX2_startOf 12 = .ok (.iload_n 1, 1) := by decide +kernel
theorem dX2_startOf_13 : decode cX2_startOf 13 = .ok (.iaload, 1) := by decide +kernel
theorem dX2_startOf_14 : decode cX2_startOf 14 = .ok (.goto 7, 3) := by decide +kernel
theorem dX2_startOf_17 : decode cX2_startOf 17 = .ok (.aload_n 0, 1) := by decide +kernel
theorem dX2_startOf_18 : decode cX2_startOf 18 = .ok (.getfield 27, 3) := by decide +kernel
theorem dX2_startOf_21 : decode cX2_startOf 21 = .ok (.ireturn, 1) := by decide +kernel
end
section
theorem dX3_init_0 : decode cX3_init 0 = .ok (.aload_n 0, 1) := by decide +kernel
theorem dX3_init_1 : decode cX3_init 1 = .ok (.invokespecial 3, 3) := by decide +kernel
theorem dX3_init_4 : decode cX3_init 4 = .ok (.aload_n 0, 1) := by decide +kernel
theorem dX3_init_5 : decode cX3_init 5 = .ok (.new 9, 3) := by decide +kernel
theorem dX3_init_8 : decode cX3_init 8 = .ok (.dup, 1) := by decide +kernel
theorem dX3_init_9 : decode cX3_init 9 = .ok (.invokespecial 11, 3) := by decide +kernel
theorem dX3_init_12 : decode cX3_init 12 = .ok (.putfield 12, 3) := by decide +kernel
theorem dX3_init_15 : decode cX3_init 15 = .ok (.return_, 1) := by decide +kernel
theorem dX3_readInto_0 : decode cX3_readInto 0 = .ok (.aload_n 0, 1) := by decide +kernel
theorem dX3_readInto_1 : decode cX3_readInto 1 = .ok (.aload_n 1, 1) := by decide +kernel
theorem dX3_readInto_2 : decode cX3_readInto 2 = .ok (.putfield 18, 3) := by decide +kernel
theorem dX3_readInto_5 : decode cX3_readInto 5 = .ok (.aload_n 0, 1) := by decide +kernel
theorem dX3_readInto_6 : decode cX3_readInto 6 = .ok (.aload_n 2, 1) := by decide +kernel
theorem dX3_readInto_7 : decode cX3_readInto 7 = .ok (.putfield 22, 3) := by decide +kernel
theorem dX3_readInto_10 : decode cX3_readInto 10 = .ok (.aload_n 0, 1) := by decide +kernel
theorem dX3_readInto_11 : decode cX3_readInto 11 = .ok (.getfield 18, 3) := by decide +kernel
theorem dX3_readInto_14 : decode cX3_readInto 14 = .ok (.invokevirtual 26, 3) := by decide +kernel
theorem dX3_readInto_17 : decode cX3_readInto 17 = .ok (.aload_n 0, 1) := by decide +kernel
theorem dX3_readInto_18 : decode cX3_readInto 18 = .ok (.getfield 12, 3) := by decide +kernel
theorem dX3_readInto_21 : decode cX3_readInto 21 = .ok (.invokevirtual 31, 3) := by decide +kernel
theorem dX3_readInto_24 : decode cX3_readInto 24 = .ok (.aload_n 0, 1) := by decide +kernel
theorem dX3_readInto_25 : decode cX3_readInto 25 = .ok (.iload_n 3, 1) := by decide +kernel
theorem dX3_readInto_26 : decode cX3_readInto 26 = .ok (.aload_n 0, 1) := by decide +kernel
theorem dX3_readInto_27 : decode cX3_readInto 27 = .ok (.getfield 22, 3) := by decide +kernel
theorem dX3_readInto_30 : decode cX3_readInto 30 = .ok (.arraylength, 1) := by decide +kernel
theorem dX3_readInto_31 : decode cX3_readInto 31 = .ok (.invokestatic 32, 3) := by decide +kernel
theorem dX3_readInto_34 : decode cX3_readInto 34 = .ok (.putfield 38, 3) := by decide +kernel
theorem dX3_readInto_37 : decode cX3_readInto 37 = .ok (.aload_n 0, 1) := by decide +kernel
theorem dX3_readInto_38 : decode cX3_readInto 38 = .ok (.iconst 0, 1) := by decide +kernel
theorem dX3_readInto_39 : decode cX3_readInto 39 = .ok (.putfield 42, 3) := by decide +kernel
theorem dX3_readInto_42 : decode cX3_readInto 42 = .ok (.aload_n 0, 1) := by decide +kernel
theorem dX3_readInto_43 : decode cX3_readInto 43 = .ok (.iconst 1, 1) := by decide +kernel
theorem dX3_readInto_44 : decode cX3_readInto 44 = .ok (.putfield 45, 3) := by decide +kernel
theorem dX3_readInto_47 : decode cX3_readInto 47 = .ok (.aload_n 0, 1) := by decide +kernel
theorem dX3_readInto_48 : decode cX3_readInto 48 = .ok (.iconst 1, 1) := by decide +kernel
theorem dX3_readInto_49 : decode cX3_readInto 49 = .ok (.invokevirtual 49, 3) := by decide +kernel
theorem dX3_readInto_52 : decode cX3_readInto 52 = .ok (.ifCond .eq 10, 3) := by decide +kernel
theorem dX3_readInto_55 : decode cX3_readInto 55 = .ok (.aload_n 0, 1) := by decide +kernel
theorem dX3_readInto_56 : decode cX3_readInto 56 = .ok (.invokevirtual 53, 3) := by decide +kernel
theorem dX3_readInto_59 : decode cX3_readInto 59 = .ok (.ifCond .eq 5, 3) := by decide +kernel
theorem dX3_readInto_62 : decode cX3_readInto 62 = .ok (.iconst (-1), 1) := by decide +kernel
theorem dX3_readInto_63 : decode cX3_readInto 63 = .ok (.ireturn, 1) := by decide +kernel
theorem dX3_readInto_64 : decode cX3_readInto 64 = .ok (.aload_n 0, 1) := by decide +kernel
theorem dX3_readInto_65 : decode cX3_readInto 65 = .ok (.getfield 18, 3) := by decide +kernel
theorem dX3_readInto_68 : decode cX3_readInto 68 = .ok (.iconst 0, 1) := by decide +kernel
theorem dX3_readInto_69 : decode cX3_readInto 69 = .ok (.iconst 0, 1) := by decide +kernel
theorem dX3_readInto_70 : decode cX3_readInto 70 = .ok (.iconst 0, 1) := by decide +kernel
theorem dX3_readInto_71 : decode cX3_readInto 71 = .ok (.invokevirtual 57, 3) := by decide +kernel
theorem dX3_readInto_74 : decode cX3_readInto 74 = .ok (.pop, 1) := by decide +kernel
theorem dX3_readInto_75 : decode cX3_readInto 75 = .ok (.aload_n 0, 1) := by decide +kernel
theorem dX3_readInto_76 : decode cX3_readInto 76 = .ok (.getfield 45, 3) := by decide +kernel
theorem dX3_readInto_79 : decode cX3_readInto 79 = .ok (.ifCond .eq 7, 3) := by decide +kernel
theorem dX3_readInto_82 : decode cX3_readInto 82 = .ok (.iconst 0, 1) := by decide +kernel
theorem dX3_readInto_83 : decode cX3_readInto 83 = .ok (.goto 5, 3) := by decide +kernel
theorem dX3_readInto_86 : decode cX3_readInto 86 = .ok (.bipush (-2), 2) := by decide +kernel
theorem dX3_readInto_88 : decode cX3_readInto 88 = .ok (.ireturn, 1) := by decide +kernel
theorem dX3_look_0 : decode cX3_look 0 = .ok (.aload_n 0, 1) := by decide +kernel
theorem dX3_look_1 : decode cX3_look 1 = .ok (.getfield 42, 3) := by decide +kernel
theorem dX3_look_4 : decode cX3_look 4 = .ok (.aload_n 0, 1) := by decide +kernel
theorem dX3_look_5 : decode cX3_look 5 = .ok (.getfield 38, 3) := by decide +kernel
theorem dX3_look_8 : decode cX3_look 8 = .ok (.if_icmp .ge 44, 3) := by decide +kernel
theorem dX3_look_11 : decode cX3_look 11 = .ok (.aload_n 0, 1) := by decide +kernel
theorem dX3_look_12 : decode cX3_look 12 = .ok (.getfield 22, 3) := by decide +kernel
theorem dX3_look_15 : decode cX3_look 15 = .ok (.aload_n 0, 1) := by decide +kernel
theorem dX3_look_16 : decode cX3_look 16 = .ok (.getfield 42, 3) := by decide +kernel
theorem dX3_look_19 : decode cX3_look 19 = .ok (.caload, 1) := by decide +kernel
theorem dX3_look_20 : decode cX3_look 20 = .ok (.bipush 32, 2) := by decide +kernel
theorem dX3_look_22 : decode cX3_look 22 = .ok (.if_icmp .eq 17, 3) := by decide +kernel
theorem dX3_look_25 : decode cX3_look 25 = .ok (.aload_n 0, 1) := by decide +kernel
theorem dX3_look_26 : decode cX3_look 26 = .ok (.getfield 22, 3) := by decide +kernel
theorem dX3_look_29 : decode cX3_look 29 = .ok (.aload_n 0, 1) := by decide +kernel
theorem dX3_look_30 : decode cX3_look 30 = .ok (.getfield 42, 3) := by decide +kernel
theorem dX3_look_33 : decode cX3_look 33 = .ok (.caload, 1) := by decide +kernel
theorem dX3_look_34 : decode cX3_look 34 = .ok (.bipush 10, 2) := by decide +kernel
theorem dX3_look_36 : decode cX3_look 36 = .ok (.if_icmp .ne 16, 3) := by decide +kernel
theorem dX3_look_39 : decode cX3_look 39 = .ok (.aload_n 0, 1) := by decide +kernel
theorem dX3_look_40 : decode cX3_look 40 = .ok (.dup, 1) := by decide +kernel
theorem dX3_look_41 : decode cX3_look 41 = .ok (.getfield 42, 3) := by decide +kernel
theorem dX3_look_44 : decode cX3_look 44 = .ok (.iconst 1, 1) := by decide +kernel
theorem dX3_look_45 : decode cX3_look 45 = .ok (.iadd, 1) := by decide +kernel
theorem dX3_look_46 : decode cX3_look 46 = .ok (.putfield 42, 3) := by decide +kernel
theorem dX3_look_49 : decode cX3_look 49 = .ok (.goto (-49), 3) := by decide +kernel
theorem dX3_look_52 : decode cX3_look 52 = .ok (.aload_n 0, 1) := by decide +kernel
theorem dX3_look_53 : decode cX3_look 53 = .ok (.getfield 42, 3) := by decide +kernel
theorem dX3_look_56 : decode cX3_look 56 = .ok (.aload_n 0, 1) := by decide +kernel
theorem dX3_look_57 : decode cX3_look 57 = .ok (.getfield 38, 3) := by decide +kernel
theorem dX3_look_60 : decode cX3_look 60 = .ok (.if_icmp .ge 15, 3) := by decide +kernel
theorem dX3_look_63 : decode cX3_look 63 = .ok (.aload_n 0, 1) := by decide +kernel
theorem dX3_look_64 : decode cX3_look 64 = .ok (.getfield 22, 3) := by decide +kernel
theorem dX3_look_67 : decode cX3_look 67 = .ok (.aload_n 0, 1) := by decide +kernel
theorem dX3_look_68 : decode cX3_look 68 = .ok (.getfield 42, 3) := by decide +kernel
theorem dX3_look_71 : decode cX3_look 71 = .ok (.caload, 1) := by decide +kernel
theorem dX3_look_72 : decode cX3_look 72 = .ok (.goto 4, 3) := by decide +kernel
theorem dX3_look_75 : decode cX3_look 75 = .ok (.iconst 0, 1) := by decide +kernel
theorem dX3_look_76 : decode cX3_look 76 = .ok (.ireturn, 1) := by decide +kernel
theorem dX3_take_0 : decode cX3_take 0 = .ok (.aload_n 0, 1) := by decide +kernel
theorem dX3_take_1 : decode cX3_take 1 = .ok (.invokevirtual 53, 3) := by decide +kernel
theorem dX3_take_4 : decode cX3_take 4 = .ok (.iload_n 1, 1) := by decide +kernel
theorem dX3_take_5 : decode cX3_take 5 = .ok (.if_icmp .eq 5, 3) := by decide +kernel
theorem dX3_take_8 : decode cX3_take 8 = .ok (.iconst 0, 1) := by decide +kernel
theorem dX3_take_9 : decode cX3_take 9 = .ok (.ireturn, 1) := by decide +kernel
theorem dX3_take_10 : decode cX3_take 10 = .ok (.aload_n 0, 1) := by decide +kernel
theorem dX3_take_11 : decode cX3_take 11 = .ok (.dup, 1) := by decide +kernel
theorem dX3_take_12 : decode cX3_take 12 = .ok (.getfield 42, 3) := by decide +kernel
theorem dX3_take_15 : decode cX3_take 15 = .ok (.iconst 1, 1) := by decide +kernel
theorem dX3_take_16 : decode cX3_take 16 = .ok (.iadd, 1) := by decide +kernel
theorem dX3_take_17 : decode cX3_take 17 = .ok (.putfield 42, 3) := by decide +kernel
theorem dX3_take_20 : decode cX3_take 20 = .ok (.iconst 1, 1) := by decide +kernel
theorem dX3_take_21 : decode cX3_take 21 = .ok (.ireturn, 1) := by decide +kernel
theorem dX3_takeName_0 : decode cX3_takeName 0 = .ok (.aload_n 0, 1) := by decide +kernel
theorem dX3_takeName_1 : decode cX3_takeName 1 = .ok (.invokevirtual 53, 3) := by decide +kernel
theorem dX3_takeName_4 : decode cX3_takeName 4 = .ok (.istore_n 1, 1) := by decide +kernel
theorem dX3_takeName_5 : decode cX3_takeName 5 = .ok (.iload_n 1, 1) := by decide +kernel
theorem dX3_takeName_6 : decode cX3_takeName 6 = .ok (.bipush 97, 2) := by decide +kernel
theorem dX3_takeName_8 : decode cX3_takeName 8 = .ok (.if_icmp .lt 9, 3) := by decide +kernel
theorem dX3_takeName_11 : decode cX3_takeName 11 = .ok (.iload_n 1, 1) := by decide +kernel
theorem dX3_takeName_12 : decode cX3_takeName 12 = .ok (.bipush 122, 2) := by decide +kernel
theorem dX3_takeName_14 : decode cX3_takeName 14 = .ok (.if_icmp .le 5, 3) := by decide +kernel
theorem dX3_takeName_17 : decode cX3_takeName 17 = .ok (.iconst 0, 1) := by decide +kernel
theorem dX3_takeName_18 : decode cX3_takeName 18 = .ok (.ireturn, 1) := by decide +kernel
theorem dX3_takeName_19 : decode cX3_takeName 19 = .ok (.aload_n 0, 1) := by decide +kernel
theorem dX3_takeName_20 : decode cX3_takeName 20 = .ok (.dup, 1) := by decide +kernel
theorem dX3_takeName_21 : decode cX3_takeName 21 = .ok (.getfield 42, 3) := by decide +kernel
theorem dX3_takeName_24 : decode cX3_takeName 24 = .ok (.iconst 1, 1) := by decide +kernel
theorem dX3_takeName_25 : decode cX3_takeName 25 = .ok (.iadd, 1) := by decide +kernel
theorem dX3_takeName_26 : decode cX3_takeName 26 = .ok (.putfield 42, 3) := by decide +kernel
theorem dX3_takeName_29 : decode cX3_takeName 29 = .ok (.iload_n 1, 1) := by decide +kernel
theorem dX3_takeName_30 : decode cX3_takeName 30 = .ok (.ireturn, 1) := by decide +kernel
theorem dX3_reach_0 : decode cX3_reach 0 = .ok (.aload_n 0, 1) := by decide +kernel
theorem dX3_reach_1 : decode cX3_reach 1 = .ok (.getfield 18, 3) := by decide +kernel
theorem dX3_reach_4 : decode cX3_reach 4 = .ok (.aload_n 0, 1) := by decide +kernel
theorem dX3_reach_5 : decode cX3_reach 5 = .ok (.getfield 18, 3) := by decide +kernel
theorem dX3_reach_8 : decode cX3_reach 8 = .ok (.getfield 61, 3) := by decide +kernel
theorem dX3_reach_11 : decode cX3_reach 11 = .ok (.iload_n 1, 1) := by decide +kernel
theorem dX3_reach_12 : decode cX3_reach 12 = .ok (.invokestatic 64, 3) := by decide +kernel
theorem dX3_reach_15 : decode cX3_reach 15 = .ok (.putfield 61, 3) := by decide +kernel
theorem dX3_reach_18 : decode cX3_reach 18 = .ok (.iload_n 1, 1) := by decide +kernel
theorem dX3_reach_19 : decode cX3_reach 19 = .ok (.bipush 10, 2) := by decide +kernel
theorem dX3_reach_21 : decode cX3_reach 21 = .ok (.if_icmp .gt 7, 3) := by decide +kernel
theorem dX3_reach_24 : decode cX3_reach 24 = .ok (.iconst 1, 1) := by decide +kernel
theorem dX3_reach_25 : decode cX3_reach 25 = .ok (.goto 4, 3) := by decide +kernel
theorem dX3_reach_28 : decode cX3_reach 28 = .ok (.iconst 0, 1) := by decide +kernel
theorem dX3_reach_29 : decode cX3_reach 29 = .ok (.ireturn, 1) := by decide +kernel
theorem dX3_statement_0 : decode cX3_statement 0 = .ok (.aload_n 0, 1) := by decide +kernel
theorem dX3_statement_1 : decode cX3_statement 1 = .ok (.iload_n 1, 1) := by decide +kernel
theorem dX3_statement_2 : decode cX3_statement 2 = .ok (.invokevirtual 67, 3) := by decide +kernel
theorem dX3_statement_5 : decode cX3_statement 5 = .ok (.ifCond .ne 5, 3) := by decide +kernel
theorem dX3_statement_8 : decode cX3_statement 8 = .ok (.iconst 0, 1) := by decide +kernel
theorem dX3_statement_9 : decode cX3_statement 9 = .ok (.ireturn, 1) := by decide +kernel
theorem dX3_statement_10 : decode cX3_statement 10 = .ok (.aload_n 0, 1) := by decide +kernel
theorem dX3_statement_11 : decode cX3_statement 11 = .ok (.getfield 18, 3) := by decide +kernel
theorem dX3_statement_14 : decode cX3_statement 14 = .ok (.dup, 1) := by decide +kernel
theorem dX3_statement_15 : decode cX3_statement 15 = .ok (.getfield 70, 3) := by decide +kernel
theorem dX3_statement_18 : decode cX3_statement 18 = .ok (.iconst 1, 1) := by decide +kernel
theorem dX3_statement_19 : decode cX3_statement 19 = .ok (.iadd, 1) := by decide +kernel
theorem dX3_statement_20 : decode cX3_statement 20 = .ok (.putfield 70, 3) := by decide +kernel
theorem dX3_statement_23 : decode cX3_statement 23 = .ok (.aload_n 0, 1) := by decide +kernel
theorem dX3_statement_24 : decode cX3_statement 24 = .ok (.bipush 123, 2) := by decide +kernel
theorem dX3_statement_26 : decode cX3_statement 26 = .ok (.invokevirtual 73, 3) := by decide +kernel
theorem dX3_statement_29 : decode cX3_statement 29 = .ok (.ifCond .eq 9, 3) := by decide +kernel
theorem dX3_statement_32 : decode cX3_statement 32 = .ok (.aload_n 0, 1) := by decide +kernel
theorem dX3_statement_33 : decode cX3_statement 33 = .ok (.iload_n 1, 1) := by decide +kernel
theorem dX3_statement_34 : decode cX3_statement 34 = .ok (.invokevirtual 76, 3) := by decide +kernel
theorem dX3_statement_37 : decode cX3_statement 37 = .ok (.ireturn, 1) := by decide +kernel
theorem dX3_statement_38 : decode cX3_statement 38 = .ok (.aload_n 0, 1) := by decide +kernel
theorem dX3_statement_39 : decode cX3_statement 39 = .ok (.bipush 33, 2) := by decide +kernel
theorem dX3_statement_41 : decode cX3_statement 41 = .ok (.invokevirtual 73, 3) := by decide +kernel
theorem dX3_statement_44 : decode cX3_statement 44 = .ok (.ifCond .eq 9, 3) := by decide +kernel
theorem dX3_statement_47 : decode cX3_statement 47 = .ok (.aload_n 0, 1) := by decide +kernel
theorem dX3_statement_48 : decode cX3_statement 48 = .ok (.iload_n 1, 1) := by decide +kernel
theorem dX3_statement_49 : decode cX3_statement 49 = .ok (.invokevirtual 79, 3) := by decide +kernel
theorem dX3_statement_52 : decode cX3_statement 52 = .ok (.ireturn, 1) := by decide +kernel
theorem dX3_statement_53 : decode cX3_statement 53 = .ok (.aload_n 0, 1) := by decide +kernel
theorem dX3_statement_54 : decode cX3_statement 54 = .ok (.bipush 63, 2) := by decide +kernel
theorem dX3_statement_56 : decode cX3_statement 56 = .ok (.invokevirtual 73, 3) := by decide +kernel
theorem dX3_statement_59 : decode cX3_statement 59 = .ok (.ifCond .eq 9, 3) := by decide +kernel
theorem dX3_statement_62 : decode cX3_statement 62 = .ok (.aload_n 0, 1) := by decide +kernel
theorem dX3_statement_63 : decode cX3_statement 63 = .ok (.iload_n 1, 1) := by decide +kernel
theorem dX3_statement_64 : decode cX3_statement 64 = .ok (.invokevirtual 82, 3) := by decide +kernel
theorem dX3_statement_67 : decode cX3_statement 67 = .ok (.ireturn, 1) := by decide +kernel
theorem dX3_statement_68 : decode cX3_statement 68 = .ok (.aload_n 0, 1) := by decide +kernel
theorem dX3_statement_69 : decode cX3_statement 69 = .ok (.bipush 42, 2) := by decide +kernel
theorem dX3_statement_71 : decode cX3_statement 71 = .ok (.invokevirtual 73, 3) := by decide +kernel
theorem dX3_statement_74 : decode cX3_statement 74 = .ok (.ifCond .eq 9, 3) := by decide +kernel
theorem dX3_statement_77 : decode cX3_statement 77 = .ok (.aload_n 0, 1) := by decide +kernel
theorem dX3_statement_78 : decode cX3_statement 78 = .ok (.iload_n 1, 1) := by decide +kernel
theorem dX3_statement_79 : decode cX3_statement 79 = .ok (.invokevirtual 85, 3) := by decide +kernel
theorem dX3_statement_82 : decode cX3_statement 82 = .ok (.ireturn, 1) := by decide +kernel
theorem dX3_statement_83 : decode cX3_statement 83 = .ok (.aload_n 0, 1) := by decide +kernel
theorem dX3_statement_84 : decode cX3_statement 84 = .ok (.invokevirtual 88, 3) := by decide +kernel
theorem dX3_statement_87 : decode cX3_statement 87 = .ok (.istore_n 2, 1) := by decide +kernel
theorem dX3_statement_88 : decode cX3_statement 88 = .ok (.iload_n 2, 1) := by decide +kernel
theorem dX3_statement_89 : decode cX3_statement 89 = .ok (.ifCond .ne 5, 3) := by decide +kernel
theorem dX3_statement_92 : decode cX3_statement 92 = .ok (.iconst 0, 1) := by decide +kernel
theorem dX3_statement_93 : decode cX3_statement 93 = .ok (.ireturn, 1) := by decide +kernel
theorem dX3_statement_94 : decode cX3_statement 94 = .ok (.aload_n 0, 1) := by decide +kernel
theorem dX3_statement_95 : decode cX3_statement 95 = .ok (.bipush 61, 2) := by decide +kernel
theorem dX3_statement_97 : decode cX3_statement 97 = .ok (.invokevirtual 73, 3) := by decide +kernel
theorem dX3_statement_100 : decode cX3_statement 100 = .ok (.ifCond .eq 10, 3) := by decide +kernel
theorem dX3_statement_103 : decode cX3_statement 103 = .ok (.aload_n 0, 1) := by decide +kernel
theorem dX3_statement_104 : decode cX3_statement 104 = .ok (.iload_n 2, 1) := by decide +kernel
theorem dX3_statement_105 : decode cX3_statement 105 = .ok (.iload_n 1, 1) := by decide +kernel
theorem dX3_statement_106 : decode cX3_statement 106 = .ok (.invokevirtual 91, 3) := by decide +kernel
theorem dX3_statement_109 : decode cX3_statement 109 = .ok (.ireturn, 1) := by decide +kernel
theorem dX3_statement_110 : decode cX3_statement 110 = .ok (.aload_n 0, 1) := by decide +kernel
theorem dX3_statement_111 : decode cX3_statement 111 = .ok (.iload_n 2, 1) := by decide +kernel
theorem dX3_statement_112 : decode cX3_statement 112 = .ok (.bipush 15, 2) := by decide +kernel
theorem dX3_statement_114 : decode cX3_statement 114 = .ok (.bipush 14, 2) := by decide +kernel
theorem dX3_statement_116 : decode cX3_statement 116 = .ok (.bipush 13, 2) := by decide +kernel
theorem dX3_statement_118 : decode cX3_statement 118 = .ok (.invokevirtual 95, 3) := by decide +kernel
theorem dX3_statement_121 : decode cX3_statement 121 = .ok (.aload_n 0, 1) := by decide +kernel
theorem dX3_statement_122 : decode cX3_statement 122 = .ok (.bipush 40, 2) := by decide +kernel
theorem dX3_statement_124 : decode cX3_statement 124 = .ok (.invokevirtual 73, 3) := by decide +kernel
theorem dX3_statement_127 : decode cX3_statement 127 = .ok (.ifCond .eq 26, 3) := by decide +kernel
theorem dX3_statement_130 : decode cX3_statement 130 = .ok (.aload_n 0, 1) := by decide +kernel
theorem dX3_statement_131 : decode cX3_statement 131 = .ok (.iload_n 1, 1) := by decide +kernel
theorem dX3_statement_132 : decode cX3_statement 132 = .ok (.iconst 1, 1) := by decide +kernel
theorem dX3_statement_133 : decode cX3_statement 133 = .ok (.iadd, 1) := by decide +kernel
theorem dX3_statement_134 : decode cX3_statement 134 = .ok (.invokevirtual 99, 3) := by decide +kernel
theorem dX3_statement_137 : decode cX3_statement 137 = .ok (.ifCond .eq 16, 3) := by decide +kernel
theorem dX3_statement_140 : decode cX3_statement 140 = .ok (.aload_n 0, 1) := by decide +kernel
theorem dX3_statement_141 : decode cX3_statement 141 = .ok (.bipush 59, 2) := by decide +kernel
theorem dX3_statement_143 : decode cX3_statement 143 = .ok (.invokevirtual 73, 3) := by decide +kernel
theorem dX3_statement_146 : decode cX3_statement 146 = .ok (.ifCond .eq 7, 3) := by decide +kernel
theorem dX3_statement_149 : decode cX3_statement 149 = .ok (.iconst 1, 1) := by decide +kernel
theorem dX3_statement_150 : decode cX3_statement 150 = .ok (.goto 4, 3) := by decide +kernel
theorem dX3_statement_153 : decode cX3_statement 153 = .ok (.iconst 0, 1) := by decide +kernel
theorem dX3_statement_154 : decode cX3_statement 154 = .ok (.ireturn, 1) := by decide +kernel
theorem dX3_assignment_0 : decode cX3_assignment 0 = .ok (.aload_n 0, 1) := by decide +kernel
theorem dX3_assignment_1 : decode cX3_assignment 1 = .ok (.iload_n 1, 1) := by decide +kernel
theorem dX3_assignment_2 : decode cX3_assignment 2 = .ok (.invokevirtual 102, 3) := by decide +kernel
theorem dX3_assignment_5 : decode cX3_assignment 5 = .ok (.aload_n 0, 1) := by decide +kernel
theorem dX3_assignment_6 : decode cX3_assignment 6 = .ok (.iload_n 2, 1) := by decide +kernel
theorem dX3_assignment_7 : decode cX3_assignment 7 = .ok (.iconst 1, 1) := by decide +kernel
theorem dX3_assignment_8 : decode cX3_assignment 8 = .ok (.iadd, 1) := by decide +kernel
theorem dX3_assignment_9 : decode cX3_assignment 9 = .ok (.invokevirtual 106, 3) := by decide +kernel
theorem dX3_assignment_12 : decode cX3_assignment 12 = .ok (.ifCond .eq 12, 3) := by decide +kernel
theorem dX3_assignment_15 : decode cX3_assignment 15 = .ok (.aload_n 0, 1) := by decide +kernel
theorem dX3_assignment_16 : decode cX3_assignment 16 = .ok (.bipush 59, 2) := by decide +kernel
theorem dX3_assignment_18 : decode cX3_assignment 18 = .ok (.invokevirtual 73, 3) := by decide +kernel
theorem dX3_assignment_21 : decode cX3_assignment 21 = .ok (.ifCond .ne 5, 3) := by decide +kernel
theorem dX3_assignment_24 : decode cX3_assignment 24 = .ok (.iconst 0, 1) := by decide +kernel
theorem dX3_assignment_25 : decode cX3_assignment 25 = .ok (.ireturn, 1) := by decide +kernel
theorem dX3_assignment_26 : decode cX3_assignment 26 = .ok (.aload_n 0, 1) := by decide +kernel
theorem dX3_assignment_27 : decode cX3_assignment 27 = .ok (.getfield 18, 3) := by decide +kernel
theorem dX3_assignment_30 : decode cX3_assignment 30 = .ok (.bipush 9, 2) := by decide +kernel
theorem dX3_assignment_32 : decode cX3_assignment 32 = .ok (.iconst 0, 1) := by decide +kernel
theorem dX3_assignment_33 : decode cX3_assignment 33 = .ok (.iconst 0, 1) := by decide +kernel
theorem dX3_assignment_34 : decode cX3_assignment 34 = .ok (.invokevirtual 57, 3) := by decide +kernel
theorem dX3_assignment_37 : decode cX3_assignment 37 = .ok (.pop, 1) := by decide +kernel
theorem dX3_assignment_38 : decode cX3_assignment 38 = .ok (.iconst 1, 1) := by decide +kernel
theorem dX3_assignment_39 : decode cX3_assignment 39 = .ok (.ireturn, 1) := by decide +kernel
theorem dX3_print_0 : decode cX3_print 0 = .ok (.aload_n 0, 1) := by decide +kernel
theorem dX3_print_1 : decode cX3_print 1 = .ok (.getfield 18, 3) := by decide +kernel
theorem dX3_print_4 : decode cX3_print 4 = .ok (.iconst 1, 1) := by decide +kernel
theorem dX3_print_5 : decode cX3_print 5 = .ok (.iconst 0, 1) := by decide +kernel
theorem dX3_print_6 : decode cX3_print 6 = .ok (.iconst 0, 1) := by decide +kernel
theorem dX3_print_7 : decode cX3_print 7 = .ok (.invokevirtual 57, 3) := by decide +kernel
theorem dX3_print_10 : decode cX3_print 10 = .ok (.pop, 1) := by decide +kernel
theorem dX3_print_11 : decode cX3_print 11 = .ok (.aload_n 0, 1) := by decide +kernel
theorem dX3_print_12 : decode cX3_print 12 = .ok (.iload_n 1, 1) := by decide +kernel
theorem dX3_print_13 : decode cX3_print 13 = .ok (.iconst 1, 1) := by decide +kernel
theorem dX3_print_14 : decode cX3_print 14 = .ok (.iadd, 1) := by decide +kernel
theorem dX3_print_15 : decode cX3_print 15 = .ok (.invokevirtual 106, 3) := by decide +kernel
theorem dX3_print_18 : decode cX3_print 18 = .ok (.ifCond .eq 12, 3) := by decide +kernel
theorem dX3_print_21 : decode cX3_print 21 = .ok (.aload_n 0, 1) := by decide +kernel
theorem dX3_print_22 : decode cX3_print 22 = .ok (.bipush 59, 2) := by decide +kernel
theorem dX3_print_24 : decode cX3_print 24 = .ok (.invokevirtual 73, 3) := by decide +kernel
theorem dX3_print_27 : decode cX3_print 27 = .ok (.ifCond .ne 5, 3) := by decide +kernel
theorem dX3_print_30 : decode cX3_print 30 = .ok (.iconst 0, 1) := by decide +kernel
theorem dX3_print_31 : decode cX3_print 31 = .ok (.ireturn, 1) := by decide +kernel
theorem dX3_print_32 : decode cX3_print 32 = .ok (.aload_n 0, 1) := by decide +kernel
theorem dX3_print_33 : decode cX3_print 33 = .ok (.getfield 18, 3) := by decide +kernel
theorem dX3_print_36 : decode cX3_print 36 = .ok (.iconst 5, 1) := by decide +kernel
theorem dX3_print_37 : decode cX3_print 37 = .ok (.iconst 0, 1) := by decide +kernel
theorem dX3_print_38 : decode cX3_print 38 = .ok (.iconst 0, 1) := by decide +kernel
theorem dX3_print_39 : decode cX3_print 39 = .ok (.invokevirtual 57, 3) := by decide +kernel
theorem dX3_print_42 : decode cX3_print 42 = .ok (.pop, 1) := by decide +kernel
theorem dX3_print_43 : decode cX3_print 43 = .ok (.iconst 1, 1) := by decide +kernel
theorem dX3_print_44 : decode cX3_print 44 = .ok (.ireturn, 1) := by decide +kernel
theorem dX3_choice_0 : decode cX3_choice 0 = .ok (.aload_n 0, 1) := by decide +kernel
theorem dX3_choice_1 : decode cX3_choice 1 = .ok (.getfield 18, 3) := by decide +kernel
theorem dX3_choice_4 : decode cX3_choice 4 = .ok (.iconst 1, 1) := by decide +kernel
theorem dX3_choice_5 : decode cX3_choice 5 = .ok (.iconst 0, 1) := by decide +kernel
theorem dX3_choice_6 : decode cX3_choice 6 = .ok (.iconst 0, 1) := by decide +kernel
theorem dX3_choice_7 : decode cX3_choice 7 = .ok (.invokevirtual 57, 3) := by decide +kernel
theorem dX3_choice_10 : decode cX3_choice 10 = .ok (.pop, 1) := by decide +kernel
theorem dX3_choice_11 : decode cX3_choice 11 = .ok (.aload_n 0, 1) := by decide +kernel
theorem dX3_choice_12 : decode cX3_choice 12 = .ok (.bipush 40, 2) := by decide +kernel
theorem dX3_choice_14 : decode cX3_choice 14 = .ok (.invokevirtual 73, 3) := by decide +kernel
theorem dX3_choice_17 : decode cX3_choice 17 = .ok (.ifCond .eq 22, 3) := by decide +kernel
theorem dX3_choice_20 : decode cX3_choice 20 = .ok (.aload_n 0, 1) := by decide +kernel
theorem dX3_choice_21 : decode cX3_choice 21 = .ok (.iload_n 1, 1) := by decide +kernel
theorem dX3_choice_22 : decode cX3_choice 22 = .ok (.iconst 1, 1) := by decide +kernel
theorem dX3_choice_23 : decode cX3_choice 23 = .ok (.iadd, 1) := by decide +kernel
theorem dX3_choice_24 : decode cX3_choice 24 = .ok (.invokevirtual 106, 3) := by decide +kernel
theorem dX3_choice_27 : decode cX3_choice 27 = .ok (.ifCond .eq 12, 3) := by decide +kernel
theorem dX3_choice_30 : decode cX3_choice 30 = .ok (.aload_n 0, 1) := by decide +kernel
theorem dX3_choice_31 : decode cX3_choice 31 = .ok (.bipush 41, 2) := by decide +kernel
theorem dX3_choice_33 : decode cX3_choice 33 = .ok (.invokevirtual 73, 3) := by decide +kernel
theorem dX3_choice_36 : decode cX3_choice 36 = .ok (.ifCond .ne 5, 3) := by decide +kernel
theorem dX3_choice_39 : decode cX3_choice 39 = .ok (.iconst 0, 1) := by decide +kernel
theorem dX3_choice_40 : decode cX3_choice 40 = .ok (.ireturn, 1) := by decide +kernel
theorem dX3_choice_41 : decode cX3_choice 41 = .ok (.aload_n 0, 1) := by decide +kernel
theorem dX3_choice_42 : decode cX3_choice 42 = .ok (.getfield 18, 3) := by decide +kernel
theorem dX3_choice_45 : decode cX3_choice 45 = .ok (.iconst 4, 1) := by decide +kernel
theorem dX3_choice_46 : decode cX3_choice 46 = .ok (.iconst 0, 1) := by decide +kernel
theorem dX3_choice_47 : decode cX3_choice 47 = .ok (.iconst 0, 1) := by decide +kernel
theorem dX3_choice_48 : decode cX3_choice 48 = .ok (.invokevirtual 57, 3) := by decide +kernel
theorem dX3_choice_51 : decode cX3_choice 51 = .ok (.istore_n 2, 1) := by decide +kernel
theorem dX3_choice_52 : decode cX3_choice 52 = .ok (.aload_n 0, 1) := by decide +kernel
theorem dX3_choice_53 : decode cX3_choice 53 = .ok (.iload_n 1, 1) := by decide +kernel
theorem dX3_choice_54 : decode cX3_choice 54 = .ok (.iconst 1, 1) := by decide +kernel
theorem dX3_choice_55 : decode cX3_choice 55 = .ok (.iadd, 1) := by decide +kernel
theorem dX3_choice_56 : decode cX3_choice 56 = .ok (.invokevirtual 49, 3) := by decide +kernel
theorem dX3_choice_59 : decode cX3_choice 59 = .ok (.ifCond .ne 5, 3) := by decide +kernel
theorem dX3_choice_62 : decode cX3_choice 62 = .ok (.iconst 0, 1) := by decide +kernel
theorem dX3_choice_63 : decode cX3_choice 63 = .ok (.ireturn, 1) := by decide +kernel
theorem dX3_choice_64 : decode cX3_choice 64 = .ok (.aload_n 0, 1) := by decide +kernel
theorem dX3_choice_65 : decode cX3_choice 65 = .ok (.getfield 18, 3) := by decide +kernel
theorem dX3_choice_68 : decode cX3_choice 68 = .ok (.iconst 3, 1) := by decide +kernel
theorem dX3_choice_69 : decode cX3_choice 69 = .ok (.iconst 0, 1) := by decide +kernel
theorem dX3_choice_70 : decode cX3_choice 70 = .ok (.iconst 0, 1) := by decide +kernel
theorem dX3_choice_71 : decode cX3_choice 71 = .ok (.invokevirtual 57, 3) := by decide +kernel
theorem dX3_choice_74 : decode cX3_choice 74 = .ok (.istore_n 3, 1) := by decide +kernel
theorem dX3_choice_75 : decode cX3_choice 75 = .ok (.aload_n 0, 1) := by decide +kernel
theorem dX3_choice_76 : decode cX3_choice 76 = .ok (.getfield 18, 3) := by decide +kernel
theorem dX3_choice_79 : decode cX3_choice 79 = .ok (.iload_n 2, 1) := by decide +kernel
theorem dX3_choice_80 : decode cX3_choice 80 = .ok (.aload_n 0, 1) := by decide +kernel
theorem dX3_choice_81 : decode cX3_choice 81 = .ok (.getfield 18, 3) := by decide +kernel
theorem dX3_choice_84 : decode cX3_choice 84 = .ok (.getfield 109, 3) := by decide +kernel
theorem dX3_choice_87 : decode cX3_choice 87 = .ok (.invokevirtual 112, 3) := by decide +kernel
theorem dX3_choice_90 : decode cX3_choice 90 = .ok (.aload_n 0, 1) := by decide +kernel
theorem dX3_choice_91 : decode cX3_choice 91 = .ok (.iload_n 1, 1) := by decide +kernel
theorem dX3_choice_92 : decode cX3_choice 92 = .ok (.iconst 1, 1) := by decide +kernel
theorem dX3_choice_93 : decode cX3_choice 93 = .ok (.iadd, 1) := by decide +kernel
theorem dX3_choice_94 : decode cX3_choice 94 = .ok (.invokevirtual 49, 3) := by decide +kernel
theorem dX3_choice_97 : decode cX3_choice 97 = .ok (.ifCond .ne 5, 3) := by decide +kernel
theorem dX3_choice_100 : decode cX3_choice 100 = .ok (.iconst 0, 1) := by decide +kernel
theorem dX3_choice_101 : decode cX3_choice 101 = .ok (.ireturn, 1) := by decide +kernel
theorem dX3_choice_102 : decode cX3_choice 102 = .ok (.aload_n 0, 1) := by decide +kernel
theorem dX3_choice_103 : decode cX3_choice 103 = .ok (.getfield 18, 3) := by decide +kernel
theorem dX3_choice_106 : decode cX3_choice 106 = .ok (.iload_n 3, 1) := by decide +kernel
theorem dX3_choice_107 : decode cX3_choice 107 = .ok (.aload_n 0, 1) := by decide +kernel
theorem dX3_choice_108 : decode cX3_choice 108 = .ok (.getfield 18, 3) := by decide +kernel
theorem dX3_choice_111 : decode cX3_choice 111 = .ok (.getfield 109, 3) := by decide +kernel
theorem dX3_choice_114 : decode cX3_choice 114 = .ok (.invokevirtual 112, 3) := by decide +kernel
theorem dX3_choice_117 : decode cX3_choice 117 = .ok (.iconst 1, 1) := by decide +kernel
theorem dX3_choice_118 : decode cX3_choice 118 = .ok (.ireturn, 1) := by decide +kernel
theorem dX3_loop_0 : decode cX3_loop 0 = .ok (.aload_n 0, 1) := by decide +kernel
theorem dX3_loop_1 : decode cX3_loop 1 = .ok (.getfield 18, 3) := by decide +kernel
theorem dX3_loop_4 : decode cX3_loop 4 = .ok (.iconst 1, 1) := by decide +kernel
theorem dX3_loop_5 : decode cX3_loop 5 = .ok (.iconst 0, 1) := by decide +kernel
theorem dX3_loop_6 : decode cX3_loop 6 = .ok (.iconst 0, 1) := by decide +kernel
theorem dX3_loop_7 : decode cX3_loop 7 = .ok (.invokevirtual 57, 3) := by decide +kernel
theorem dX3_loop_10 : decode cX3_loop 10 = .ok (.pop, 1) := by decide +kernel
theorem dX3_loop_11 : decode cX3_loop 11 = .ok (.aload_n 0, 1) := by decide +kernel
theorem dX3_loop_12 : decode cX3_loop 12 = .ok (.getfield 18, 3) := by decide +kernel
theorem dX3_loop_15 : decode cX3_loop 15 = .ok (.getfield 109, 3) := by decide +kernel
theorem dX3_loop_18 : decode cX3_loop 18 = .ok (.istore_n 2, 1) := by decide +kernel
theorem dX3_loop_19 : decode cX3_loop 19 = .ok (.aload_n 0, 1) := by decide +kernel
theorem dX3_loop_20 : decode cX3_loop 20 = .ok (.bipush 40, 2) := by decide +kernel
theorem dX3_loop_22 : decode cX3_loop 22 = .ok (.invokevirtual 73, 3) := by decide +kernel
theorem dX3_loop_25 : decode cX3_loop 25 = .ok (.ifCond .eq 22, 3) := by decide +kernel
theorem dX3_loop_28 : decode cX3_loop 28 = .ok (.aload_n 0, 1) := by decide +kernel
theorem dX3_loop_29 : decode cX3_loop 29 = .ok (.iload_n 1, 1) := by decide +kernel
theorem dX3_loop_30 : decode cX3_loop 30 = .ok (.iconst 1, 1) := by decide +kernel
theorem dX3_loop_31 : decode cX3_loop 31 = .ok (.iadd, 1) := by decide +kernel
theorem dX3_loop_32 : decode cX3_loop 32 = .ok (.invokevirtual 106, 3) := by decide +kernel
theorem dX3_loop_35 : decode cX3_loop 35 = .ok (.ifCond .eq 12, 3) := by decide +kernel
theorem dX3_loop_38 : decode cX3_loop 38 = .ok (.aload_n 0, 1) := by decide +kernel
theorem dX3_loop_39 : decode cX3_loop 39 = .ok (.bipush 41, 2) := by decide +kernel
theorem dX3_loop_41 : decode cX3_loop 41 = .ok (.invokevirtual 73, 3) := by decide +kernel
theorem dX3_loop_44 : decode cX3_loop 44 = .ok (.ifCond .ne 5, 3) := by decide +kernel
theorem dX3_loop_47 : decode cX3_loop 47 = .ok (.iconst 0, 1) := by decide +kernel
theorem dX3_loop_48 : decode cX3_loop 48 = .ok (.ireturn, 1) := by decide +kernel
theorem dX3_loop_49 : decode cX3_loop 49 = .ok (.aload_n 0, 1) := by decide +kernel
theorem dX3_loop_50 : decode cX3_loop 50 = .ok (.getfield 18, 3) := by decide +kernel
theorem dX3_loop_53 : decode cX3_loop 53 = .ok (.iconst 4, 1) := by decide +kernel
theorem dX3_loop_54 : decode cX3_loop 54 = .ok (.iconst 0, 1) := by decide +kernel
theorem dX3_loop_55 : decode cX3_loop 55 = .ok (.iconst 0, 1) := by decide +kernel
theorem dX3_loop_56 : decode cX3_loop 56 = .ok (.invokevirtual 57, 3) := by decide +kernel
theorem dX3_loop_59 : decode cX3_loop 59 = .ok (.istore_n 3, 1) := by decide +kernel
theorem dX3_loop_60 : decode cX3_loop 60 = .ok (.aload_n 0, 1) := by decide +kernel
theorem dX3_loop_61 : decode cX3_loop 61 = .ok (.iload_n 1, 1) := by decide +kernel
theorem dX3_loop_62 : decode cX3_loop 62 = .ok (.iconst 1, 1) := by decide +kernel
theorem dX3_loop_63 : decode cX3_loop 63 = .ok (.iadd, 1) := by decide +kernel
theorem dX3_loop_64 : decode cX3_loop 64 = .ok (.invokevirtual 49, 3) := by decide +kernel
theorem dX3_loop_67 : decode cX3_loop 67 = .ok (.ifCond .ne 5, 3) := by decide +kernel
theorem dX3_loop_70 : decode cX3_loop 70 = .ok (.iconst 0, 1) := by decide +kernel
theorem dX3_loop_71 : decode cX3_loop 71 = .ok (.ireturn, 1) := by decide +kernel
theorem dX3_loop_72 : decode cX3_loop 72 = .ok (.aload_n 0, 1) := by decide +kernel
theorem dX3_loop_73 : decode cX3_loop 73 = .ok (.getfield 18, 3) := by decide +kernel
theorem dX3_loop_76 : decode cX3_loop 76 = .ok (.iconst 3, 1) := by decide +kernel
theorem dX3_loop_77 : decode cX3_loop 77 = .ok (.iload_n 2, 1) := by decide +kernel
theorem dX3_loop_78 : decode cX3_loop 78 = .ok (.iconst 0, 1) := by decide +kernel
theorem dX3_loop_79 : decode cX3_loop 79 = .ok (.invokevirtual 57, 3) := by decide +kernel
theorem dX3_loop_82 : decode cX3_loop 82 = .ok (.pop, 1) := by decide +kernel
theorem dX3_loop_83 : decode cX3_loop 83 = .ok (.aload_n 0, 1) := by decide +kernel
theorem dX3_loop_84 : decode cX3_loop 84 = .ok (.getfield 18, 3) := by decide +kernel
theorem dX3_loop_87 : decode cX3_loop 87 = .ok (.iload_n 3, 1) := by decide +kernel
theorem dX3_loop_88 : decode cX3_loop 88 = .ok (.aload_n 0, 1) := by decide +kernel
theorem dX3_loop_89 : decode cX3_loop 89 = .ok (.getfield 18, 3) := by decide +kernel
theorem dX3_loop_92 : decode cX3_loop 92 = .ok (.getfield 109, 3) := by decide +kernel
theorem dX3_loop_95 : decode cX3_loop 95 = .ok (.invokevirtual 112, 3) := by decide +kernel
theorem dX3_loop_98 : decode cX3_loop 98 = .ok (.iconst 1, 1) := by decide +kernel
theorem dX3_loop_99 : decode cX3_loop 99 = .ok (.ireturn, 1) := by decide +kernel
theorem dX3_block_0 : decode cX3_block 0 = .ok (.aload_n 0, 1) := by decide +kernel
theorem dX3_block_1 : decode cX3_block 1 = .ok (.getfield 12, 3) := by decide +kernel
theorem dX3_block_4 : decode cX3_block 4 = .ok (.getfield 116, 3) := by decide +kernel
theorem dX3_block_7 : decode cX3_block 7 = .ok (.istore_n 2, 1) := by decide +kernel
theorem dX3_block_8 : decode cX3_block 8 = .ok (.aload_n 0, 1) := by decide +kernel
theorem dX3_block_9 : decode cX3_block 9 = .ok (.getfield 12, 3) := by decide +kernel
theorem dX3_block_12 : decode cX3_block 12 = .ok (.getfield 119, 3) := by decide +kernel
theorem dX3_block_15 : decode cX3_block 15 = .ok (.istore_n 3, 1) := by decide +kernel
theorem dX3_block_16 : decode cX3_block 16 = .ok (.aload_n 0, 1) := by decide +kernel
theorem dX3_block_17 : decode cX3_block 17 = .ok (.getfield 18, 3) := by decide +kernel
theorem dX3_block_20 : decode cX3_block 20 = .ok (.iconst 2, 1) := by decide +kernel
theorem dX3_block_21 : decode cX3_block 21 = .ok (.iload_n 3, 1) := by decide +kernel
theorem dX3_block_22 : decode cX3_block 22 = .ok (.iconst 0, 1) := by decide +kernel
theorem dX3_block_23 : decode cX3_block 23 = .ok (.invokevirtual 57, 3) := by decide +kernel
theorem dX3_block_26 : decode cX3_block 26 = .ok (.istore 4, 2) := by decide +kernel
theorem dX3_block_28 : decode cX3_block 28 = .ok (.aload_n 0, 1) := by decide +kernel
theorem dX3_block_29 : decode cX3_block 29 = .ok (.iload_n 1, 1) := by decide +kernel
theorem dX3_block_30 : decode cX3_block 30 = .ok (.iload_n 2, 1) := by decide +kernel
theorem dX3_block_31 : decode cX3_block 31 = .ok (.invokevirtual 122, 3) := by decide +kernel
theorem dX3_block_34 : decode cX3_block 34 = .ok (.ifCond .ne 5, 3) := by decide +kernel
theorem dX3_block_37 : decode cX3_block 37 = .ok (.iconst 0, 1) := by decide +kernel
theorem dX3_block_38 : decode cX3_block 38 = .ok (.ireturn, 1) := by decide +kernel
theorem dX3_block_39 : decode cX3_block 39 = .ok (.aload_n 0, 1) := by decide +kernel
theorem dX3_block_40 : decode cX3_block 40 = .ok (.getfield 18, 3) := by decide +kernel
theorem dX3_block_43 : decode cX3_block 43 = .ok (.iload 4, 2) := by decide +kernel
theorem dX3_block_45 : decode cX3_block 45 = .ok (.aload_n 0, 1) := by decide +kernel
theorem dX3_block_46 : decode cX3_block 46 = .ok (.getfield 12, 3) := by decide +kernel
theorem dX3_block_49 : decode cX3_block 49 = .ok (.getfield 119, 3) := by decide +kernel
theorem dX3_block_52 : decode cX3_block 52 = .ok (.iload_n 3, 1) := by decide +kernel
theorem dX3_block_53 : decode cX3_block 53 = .ok (.isub, 1) := by decide +kernel
theorem dX3_block_54 : decode cX3_block 54 = .ok (.invokevirtual 125, 3) := by decide +kernel
theorem dX3_block_57 : decode cX3_block 57 = .ok (.iconst 0, 1) := by decide +kernel
theorem dX3_block_58 : decode cX3_block 58 = .ok (.istore 5, 2) := by decide +kernel
theorem dX3_block_60 : decode cX3_block 60 = .ok (.iload 5, 2) := by decide +kernel
theorem dX3_block_62 : decode cX3_block 62 = .ok (.sipush 320, 3) := by decide +kernel
theorem dX3_block_65 : decode cX3_block 65 = .ok (.if_icmp .gt 40, 3) := by decide +kernel
theorem dX3_block_68 : decode cX3_block 68 = .ok (.aload_n 0, 1) := by decide +kernel
theorem dX3_block_69 : decode cX3_block 69 = .ok (.bipush 125, 2) := by decide +kernel
theorem dX3_block_71 : decode cX3_block 71 = .ok (.invokevirtual 73, 3) := by decide +kernel
theorem dX3_block_74 : decode cX3_block 74 = .ok (.ifCond .eq 13, 3) := by decide +kernel
theorem dX3_block_77 : decode cX3_block 77 = .ok (.aload_n 0, 1) := by decide +kernel
theorem dX3_block_78 : decode cX3_block 78 = .ok (.getfield 12, 3) := by decide +kernel
theorem dX3_block_81 : decode cX3_block 81 = .ok (.iload_n 2, 1) := by decide +kernel
theorem dX3_block_82 : decode cX3_block 82 = .ok (.putfield 116, 3) := by decide +kernel
theorem dX3_block_85 : decode cX3_block 85 = .ok (.iconst 1, 1) := by decide +kernel
theorem dX3_block_86 : decode cX3_block 86 = .ok (.ireturn, 1) := by decide +kernel
theorem dX3_block_87 : decode cX3_block 87 = .ok (.aload_n 0, 1) := by decide +kernel
theorem dX3_block_88 : decode cX3_block 88 = .ok (.iload_n 1, 1) := by decide +kernel
theorem dX3_block_89 : decode cX3_block 89 = .ok (.iconst 1, 1) := by decide +kernel
theorem dX3_block_90 : decode cX3_block 90 = .ok (.iadd, 1) := by decide +kernel
theorem dX3_block_91 : decode cX3_block 91 = .ok (.invokevirtual 49, 3) := by decide +kernel
theorem dX3_block_94 : decode cX3_block 94 = .ok (.ifCond .ne 5, 3) := by decide +kernel
theorem dX3_block_97 : decode cX3_block 97 = .ok (.iconst 0, 1) := by decide +kernel
theorem dX3_block_98 : decode cX3_block 98 = .ok (.ireturn, 1) := by decide +kernel
theorem dX3_block_99 : decode cX3_block 99 = .ok (.iinc 5 1, 3) := by decide +kernel
theorem dX3_block_102 : decode cX3_block 102 = .ok (.goto (-42), 3) := by decide +kernel
theorem dX3_block_105 : decode cX3_block 105 = .ok (.iconst 0, 1) := by decide +kernel
theorem dX3_block_106 : decode cX3_block 106 = .ok (.ireturn, 1) := by decide +kernel
theorem dX3_declarations_0 : decode cX3_declarations 0 = .ok (.iconst 0, 1) := by decide +kernel
theorem dX3_declarations_1 : decode cX3_declarations 1 = .ok (.istore_n 3, 1) := by decide +kernel
theorem dX3_declarations_2 : decode cX3_declarations 2 = .ok (.iload_n 3, 1) := by decide +kernel
theorem dX3_declarations_3 : decode cX3_declarations 3 = .ok (.sipush 320, 3) := by decide +kernel
theorem dX3_declarations_6 : decode cX3_declarations 6 = .ok (.if_icmp .gt 50, 3) := by decide +kernel
theorem dX3_declarations_9 : decode cX3_declarations 9 = .ok (.aload_n 0, 1) := by decide +kernel
theorem dX3_declarations_10 : decode cX3_declarations 10 = .ok (.bipush 36, 2) := by decide +kernel
theorem dX3_declarations_12 : decode cX3_declarations 12 = .ok (.invokevirtual 73, 3) := by decide +kernel
theorem dX3_declarations_15 : decode cX3_declarations 15 = .ok (.ifCond .eq 13, 3) := by decide +kernel
theorem dX3_declarations_18 : decode cX3_declarations 18 = .ok (.aload_n 0, 1) := by decide +kernel
theorem dX3_declarations_19 : decode cX3_declarations 19 = .ok (.iload_n 2, 1) := by decide +kernel
theorem dX3_declarations_20 : decode cX3_declarations 20 = .ok (.invokevirtual 128, 3) := by decide +kernel
theorem dX3_declarations_23 : decode cX3_declarations 23 = .ok (.ifCond .ne 27, 3) := by decide +kernel
theorem dX3_declarations_26 : decode cX3_declarations 26 = .ok (.iconst 0, 1) := by decide +kernel
theorem dX3_declarations_27 : decode cX3_declarations 27 = .ok (.ireturn, 1) := by decide +kernel
theorem dX3_declarations_28 : decode cX3_declarations 28 = .ok (.aload_n 0, 1) := by decide +kernel
theorem dX3_declarations_29 : decode cX3_declarations 29 = .ok (.bipush 64, 2) := by decide +kernel
theorem dX3_declarations_31 : decode cX3_declarations 31 = .ok (.invokevirtual 73, 3) := by decide +kernel
theorem dX3_declarations_34 : decode cX3_declarations 34 = .ok (.ifCond .eq 14, 3) := by decide +kernel
theorem dX3_declarations_37 : decode cX3_declarations 37 = .ok (.aload_n 0, 1) := by decide +kernel
theorem dX3_declarations_38 : decode cX3_declarations 38 = .ok (.iload_n 1, 1) := by decide +kernel
theorem dX3_declarations_39 : decode cX3_declarations 39 = .ok (.iload_n 2, 1) := by decide +kernel
theorem dX3_declarations_40 : decode cX3_declarations 40 = .ok (.invokevirtual 131, 3) := by decide +kernel
theorem dX3_declarations_43 : decode cX3_declarations 43 = .ok (.ifCond .ne 7, 3) := by decide +kernel
theorem dX3_declarations_46 : decode cX3_declarations 46 = .ok (.iconst 0, 1) := by decide +kernel
theorem dX3_declarations_47 : decode cX3_declarations 47 = .ok (.ireturn, 1) := by decide +kernel
theorem dX3_declarations_48 : decode cX3_declarations 48 = .ok (.iconst 1, 1) := by decide +kernel
theorem dX3_declarations_49 : decode cX3_declarations 49 = .ok (.ireturn, 1) := by decide +kernel
theorem dX3_declarations_50 : decode cX3_declarations 50 = .ok (.iinc 3 1, 3) := by decide +kernel
theorem dX3_declarations_53 : decode cX3_declarations 53 = .ok (.goto (-51), 3) := by decide +kernel
theorem dX3_declarations_56 : decode cX3_declarations 56 = .ok (.iconst 0, 1) := by decide +kernel
theorem dX3_declarations_57 : decode cX3_declarations 57 = .ok (.ireturn, 1) := by decide +kernel
theorem dX3_variable_0 : decode cX3_variable 0 = .ok (.aload_n 0, 1) := by decide +kernel
theorem dX3_variable_1 : decode cX3_variable 1 = .ok (.invokevirtual 88, 3) := by decide +kernel
theorem dX3_variable_4 : decode cX3_variable 4 = .ok (.istore_n 2, 1) := by decide +kernel
theorem dX3_variable_5 : decode cX3_variable 5 = .ok (.iload_n 2, 1) := by decide +kernel
theorem dX3_variable_6 : decode cX3_variable 6 = .ok (.ifCond .eq 24, 3) := by decide +kernel
theorem dX3_variable_9 : decode cX3_variable 9 = .ok (.aload_n 0, 1) := by decide +kernel
theorem dX3_variable_10 : decode cX3_variable 10 = .ok (.bipush 59, 2) := by decide +kernel
theorem dX3_variable_12 : decode cX3_variable 12 = .ok (.invokevirtual 73, 3) := by decide +kernel
theorem dX3_variable_15 : decode cX3_variable 15 = .ok (.ifCond .eq 15, 3) := by decide +kernel
theorem dX3_variable_18 : decode cX3_variable 18 = .ok (.aload_n 0, 1) := by decide +kernel
theorem dX3_variable_19 : decode cX3_variable 19 = .ok (.getfield 18, 3) := by decide +kernel
theorem dX3_variable_22 : decode cX3_variable 22 = .ok (.getfield 134, 3) := by decide +kernel
theorem dX3_variable_25 : decode cX3_variable 25 = .ok (.bipush 24, 2) := by decide +kernel
theorem dX3_variable_27 : decode cX3_variable 27 = .ok (.if_icmp .lt 5, 3) := by decide +kernel
theorem dX3_variable_30 : decode cX3_variable 30 = .ok (.iconst 0, 1) := by decide +kernel
theorem dX3_variable_31 : decode cX3_variable 31 = .ok (.ireturn, 1) := by decide +kernel
theorem dX3_variable_32 : decode cX3_variable 32 = .ok (.aload_n 0, 1) := by decide +kernel
theorem dX3_variable_33 : decode cX3_variable 33 = .ok (.getfield 18, 3) := by decide +kernel
theorem dX3_variable_36 : decode cX3_variable 36 = .ok (.dup, 1) := by decide +kernel
theorem dX3_variable_37 : decode cX3_variable 37 = .ok (.getfield 134, 3) := by decide +kernel
theorem dX3_variable_40 : decode cX3_variable 40 = .ok (.iconst 1, 1) := by decide +kernel
theorem dX3_variable_41 : decode cX3_variable 41 = .ok (.iadd, 1) := by decide +kernel
theorem dX3_variable_42 : decode cX3_variable 42 = .ok (.putfield 134, 3) := by decide +kernel
theorem dX3_variable_45 : decode cX3_variable 45 = .ok (.aload_n 0, 1) := by decide +kernel
theorem dX3_variable_46 : decode cX3_variable 46 = .ok (.iload_n 2, 1) := by decide +kernel
theorem dX3_variable_47 : decode cX3_variable 47 = .ok (.iconst 0, 1) := by decide +kernel
theorem dX3_variable_48 : decode cX3_variable 48 = .ok (.aload_n 0, 1) := by decide +kernel
theorem dX3_variable_49 : decode cX3_variable 49 = .ok (.getfield 12, 3) := by decide +kernel
theorem dX3_variable_52 : decode cX3_variable 52 = .ok (.getfield 119, 3) := by decide +kernel
theorem dX3_variable_55 : decode cX3_variable 55 = .ok (.iload_n 1, 1) := by decide +kernel
theorem dX3_variable_56 : decode cX3_variable 56 = .ok (.invokevirtual 137, 3) := by decide +kernel
theorem dX3_variable_59 : decode cX3_variable 59 = .ok (.aload_n 0, 1) := by decide +kernel
theorem dX3_variable_60 : decode cX3_variable 60 = .ok (.getfield 12, 3) := by decide +kernel
theorem dX3_variable_63 : decode cX3_variable 63 = .ok (.dup, 1) := by decide +kernel
theorem dX3_variable_64 : decode cX3_variable 64 = .ok (.getfield 119, 3) := by decide +kernel
theorem dX3_variable_67 : decode cX3_variable 67 = .ok (.iconst 1, 1) := by decide +kernel
theorem dX3_variable_68 : decode cX3_variable 68 = .ok (.iadd, 1) := by decide +kernel
theorem dX3_variable_69 : decode cX3_variable 69 = .ok (.putfield 119, 3) := by decide +kernel
theorem dX3_variable_72 : decode cX3_variable 72 = .ok (.iconst 1, 1) := by decide +kernel
theorem dX3_variable_73 : decode cX3_variable 73 = .ok (.ireturn, 1) := by decide +kernel
theorem dX3_procedure_0 : decode cX3_procedure 0 = .ok (.aload_n 0, 1) := by decide +kernel
theorem dX3_procedure_1 : decode cX3_procedure 1 = .ok (.invokevirtual 88, 3) := by decide +kernel
theorem dX3_procedure_4 : decode cX3_procedure 4 = .ok (.istore_n 3, 1) := by decide +kernel
theorem dX3_procedure_5 : decode cX3_procedure 5 = .ok (.iload_n 3, 1) := by decide +kernel
theorem dX3_procedure_6 : decode cX3_procedure 6 = .ok (.ifCond .eq 24, 3) := by decide +kernel
theorem dX3_procedure_9 : decode cX3_procedure 9 = .ok (.aload_n 0, 1) := by decide +kernel
theorem dX3_procedure_10 : decode cX3_procedure 10 = .ok (.bipush 40, 2) := by decide +kernel
theorem dX3_procedure_12 : decode cX3_procedure 12 = .ok (.invokevirtual 73, 3) := by decide +kernel
theorem dX3_procedure_15 : decode cX3_procedure 15 = .ok (.ifCond .eq 15, 3) := by decide +kernel
theorem dX3_procedure_18 : decode cX3_procedure 18 = .ok (.aload_n 0, 1) := by decide +kernel
theorem dX3_procedure_19 : decode cX3_procedure 19 = .ok (.getfield 18, 3) := by decide +kernel
theorem dX3_procedure_22 : decode cX3_procedure 22 = .ok (.getfield 140, 3) := by decide +kernel
theorem dX3_procedure_25 : decode cX3_procedure 25 = .ok (.bipush 16, 2) := by decide +kernel
theorem dX3_procedure_27 : decode cX3_procedure 27 = .ok (.if_icmp .lt 5, 3) := by decide +kernel
theorem dX3_procedure_30 : decode cX3_procedure 30 = .ok (.iconst 0, 1) := by decide +kernel
theorem dX3_procedure_31 : decode cX3_procedure 31 = .ok (.ireturn, 1) := by decide +kernel
theorem dX3_procedure_32 : decode cX3_procedure 32 = .ok (.aload_n 0, 1) := by decide +kernel
theorem dX3_procedure_33 : decode cX3_procedure 33 = .ok (.getfield 18, 3) := by decide +kernel
theorem dX3_procedure_36 : decode cX3_procedure 36 = .ok (.iconst 3, 1) := by decide +kernel
theorem dX3_procedure_37 : decode cX3_procedure 37 = .ok (.iconst 0, 1) := by decide +kernel
theorem dX3_procedure_38 : decode cX3_procedure 38 = .ok (.iconst 0, 1) := by decide +kernel
theorem dX3_procedure_39 : decode cX3_procedure 39 = .ok (.invokevirtual 57, 3) := by decide +kernel
theorem dX3_procedure_42 : decode cX3_procedure 42 = .ok (.istore 4, 2) := by decide +kernel
theorem dX3_procedure_44 : decode cX3_procedure 44 = .ok (.aload_n 0, 1) := by decide +kernel
theorem dX3_procedure_45 : decode cX3_procedure 45 = .ok (.getfield 18, 3) := by decide +kernel
theorem dX3_procedure_48 : decode cX3_procedure 48 = .ok (.invokevirtual 143, 3) := by decide +kernel
theorem dX3_procedure_51 : decode cX3_procedure 51 = .ok (.istore 5, 2) := by decide +kernel
theorem dX3_procedure_53 : decode cX3_procedure 53 = .ok (.aload_n 0, 1) := by decide +kernel
theorem dX3_procedure_54 : decode cX3_procedure 54 = .ok (.iload_n 3, 1) := by decide +kernel
theorem dX3_procedure_55 : decode cX3_procedure 55 = .ok (.iconst 2, 1) := by decide +kernel
theorem dX3_procedure_56 : decode cX3_procedure 56 = .ok (.iload 5, 2) := by decide +kernel
theorem dX3_procedure_58 : decode cX3_procedure 58 = .ok (.iload_n 2, 1) := by decide +kernel
theorem dX3_procedure_59 : decode cX3_procedure 59 = .ok (.invokevirtual 137, 3) := by decide +kernel
theorem dX3_procedure_62 : decode cX3_procedure 62 = .ok (.aload_n 0, 1) := by decide +kernel
theorem dX3_procedure_63 : decode cX3_procedure 63 = .ok (.getfield 12, 3) := by decide +kernel
theorem dX3_procedure_66 : decode cX3_procedure 66 = .ok (.getfield 116, 3) := by decide +kernel
theorem dX3_procedure_69 : decode cX3_procedure 69 = .ok (.istore 6, 2) := by decide +kernel
theorem dX3_procedure_71 : decode cX3_procedure 71 = .ok (.aload_n 0, 1) := by decide +kernel
theorem dX3_procedure_72 : decode cX3_procedure 72 = .ok (.getfield 12, 3) := by decide +kernel
theorem dX3_procedure_75 : decode cX3_procedure 75 = .ok (.getfield 119, 3) := by decide +kernel
theorem dX3_procedure_78 : decode cX3_procedure 78 = .ok (.istore 7, 2) := by decide +kernel
theorem dX3_procedure_80 : decode cX3_procedure 80 = .ok (.aload_n 0, 1) := by decide +kernel
theorem dX3_procedure_81 : decode cX3_procedure 81 = .ok (.getfield 12, 3) := by decide +kernel
theorem dX3_procedure_84 : decode cX3_procedure 84 = .ok (.iload 5, 2) := by decide +kernel
theorem dX3_procedure_86 : decode cX3_procedure 86 = .ok (.invokevirtual 146, 3) := by decide +kernel
theorem dX3_procedure_89 : decode cX3_procedure 89 = .ok (.aload_n 0, 1) := by decide +kernel
theorem dX3_procedure_90 : decode cX3_procedure 90 = .ok (.iload 5, 2) := by decide +kernel
theorem dX3_procedure_92 : decode cX3_procedure 92 = .ok (.invokevirtual 149, 3) := by decide +kernel
theorem dX3_procedure_95 : decode cX3_procedure 95 = .ok (.ifCond .eq 13, 3) := by decide +kernel
theorem dX3_procedure_98 : decode cX3_procedure 98 = .ok (.aload_n 0, 1) := by decide +kernel
theorem dX3_procedure_99 : decode cX3_procedure 99 = .ok (.iload_n 1, 1) := by decide +kernel
theorem dX3_procedure_100 : decode cX3_procedure 100 = .ok (.iconst 1, 1) := by decide +kernel
theorem dX3_procedure_101 : decode cX3_procedure 101 = .ok (.iadd, 1) := by decide +kernel
theorem dX3_procedure_102 : decode cX3_procedure 102 = .ok (.invokevirtual 49, 3) := by decide +kernel
theorem dX3_procedure_105 : decode cX3_procedure 105 = .ok (.ifCond .ne 5, 3) := by decide +kernel
theorem dX3_procedure_108 : decode cX3_procedure 108 = .ok (.iconst 0, 1) := by decide +kernel
theorem dX3_procedure_109 : decode cX3_procedure 109 = .ok (.ireturn, 1) := by decide +kernel
theorem dX3_procedure_110 : decode cX3_procedure 110 = .ok (.aload_n 0, 1) := by decide +kernel
theorem dX3_procedure_111 : decode cX3_procedure 111 = .ok (.getfield 12, 3) := by decide +kernel
theorem dX3_procedure_114 : decode cX3_procedure 114 = .ok (.dup, 1) := by decide +kernel
theorem dX3_procedure_115 : decode cX3_procedure 115 = .ok (.getfield 152, 3) := by decide +kernel
theorem dX3_procedure_118 : decode cX3_procedure 118 = .ok (.iconst 1, 1) := by decide +kernel
theorem dX3_procedure_119 : decode cX3_procedure 119 = .ok (.isub, 1) := by decide +kernel
theorem dX3_procedure_120 : decode cX3_procedure 120 = .ok (.putfield 152, 3) := by decide +kernel
theorem dX3_procedure_123 : decode cX3_procedure 123 = .ok (.aload_n 0, 1) := by decide +kernel
theorem dX3_procedure_124 : decode cX3_procedure 124 = .ok (.getfield 12, 3) := by decide +kernel
theorem dX3_procedure_127 : decode cX3_procedure 127 = .ok (.iload 7, 2) := by decide +kernel
theorem dX3_procedure_129 : decode cX3_procedure 129 = .ok (.putfield 119, 3) := by decide +kernel
theorem dX3_procedure_132 : decode cX3_procedure 132 = .ok (.aload_n 0, 1) := by decide +kernel
theorem dX3_procedure_133 : decode cX3_procedure 133 = .ok (.getfield 12, 3) := by decide +kernel
theorem dX3_procedure_136 : decode cX3_procedure 136 = .ok (.iload 6, 2) := by decide +kernel
theorem dX3_procedure_138 : decode cX3_procedure 138 = .ok (.putfield 116, 3) := by decide +kernel
theorem dX3_procedure_141 : decode cX3_procedure 141 = .ok (.aload_n 0, 1) := by decide +kernel
theorem dX3_procedure_142 : decode cX3_procedure 142 = .ok (.getfield 18, 3) := by decide +kernel
theorem dX3_procedure_145 : decode cX3_procedure 145 = .ok (.bipush 17, 2) := by decide +kernel
theorem dX3_procedure_147 : decode cX3_procedure 147 = .ok (.iconst 0, 1) := by decide +kernel
theorem dX3_procedure_148 : decode cX3_procedure 148 = .ok (.iconst 0, 1) := by decide +kernel
theorem dX3_procedure_149 : decode cX3_procedure 149 = .ok (.invokevirtual 57, 3) := by decide +kernel
theorem dX3_procedure_152 : decode cX3_procedure 152 = .ok (.pop, 1) := by decide +kernel
theorem dX3_procedure_153 : decode cX3_procedure 153 = .ok (.aload_n 0, 1) := by decide +kernel
theorem dX3_procedure_154 : decode cX3_procedure 154 = .ok (.getfield 18, 3) := by decide +kernel
theorem dX3_procedure_157 : decode cX3_procedure 157 = .ok (.iload 4, 2) := by decide +kernel
theorem dX3_procedure_159 : decode cX3_procedure 159 = .ok (.aload_n 0, 1) := by decide +kernel
theorem dX3_procedure_160 : decode cX3_procedure 160 = .ok (.getfield 18, 3) := by decide +kernel
theorem dX3_procedure_163 : decode cX3_procedure 163 = .ok (.getfield 109, 3) := by decide +kernel
theorem dX3_procedure_166 : decode cX3_procedure 166 = .ok (.invokevirtual 112, 3) := by decide +kernel
theorem dX3_procedure_169 : decode cX3_procedure 169 = .ok (.iconst 1, 1) := by decide +kernel
theorem dX3_procedure_170 : decode cX3_procedure 170 = .ok (.ireturn, 1) := by decide +kernel
theorem dX3_formals_0 : decode cX3_formals 0 = .ok (.aload_n 0, 1) := by decide +kernel
theorem dX3_formals_1 : decode cX3_formals 1 = .ok (.bipush 41, 2) := by decide +kernel
theorem dX3_formals_3 : decode cX3_formals 3 = .ok (.invokevirtual 73, 3) := by decide +kernel
theorem dX3_formals_6 : decode cX3_formals 6 = .ok (.ifCond .eq 5, 3) := by decide +kernel
theorem dX3_formals_9 : decode cX3_formals 9 = .ok (.iconst 1, 1) := by decide +kernel
theorem dX3_formals_10 : decode cX3_formals 10 = .ok (.ireturn, 1) := by decide +kernel
theorem dX3_formals_11 : decode cX3_formals 11 = .ok (.aload_n 0, 1) := by decide +kernel
theorem dX3_formals_12 : decode cX3_formals 12 = .ok (.getfield 12, 3) := by decide +kernel
theorem dX3_formals_15 : decode cX3_formals 15 = .ok (.getfield 116, 3) := by decide +kernel
theorem dX3_formals_18 : decode cX3_formals 18 = .ok (.istore_n 2, 1) := by decide +kernel
theorem dX3_formals_19 : decode cX3_formals 19 = .ok (.iconst 0, 1) := by decide +kernel
theorem dX3_formals_20 : decode cX3_formals 20 = .ok (.istore_n 3, 1) := by decide +kernel
theorem dX3_formals_21 : decode cX3_formals 21 = .ok (.iload_n 3, 1) := by decide +kernel
theorem dX3_formals_22 : decode cX3_formals 22 = .ok (.bipush 6, 2) := by decide +kernel
theorem dX3_formals_24 : decode cX3_formals 24 = .ok (.if_icmp .ge 118, 3) := by decide +kernel
theorem dX3_formals_27 : decode cX3_formals 27 = .ok (.aload_n 0, 1) := by decide +kernel
theorem dX3_formals_28 : decode cX3_formals 28 = .ok (.bipush 35, 2) := by decide +kernel
theorem dX3_formals_30 : decode cX3_formals 30 = .ok (.invokevirtual 73, 3) := by decide +kernel
theorem dX3_formals_33 : decode cX3_formals 33 = .ok (.istore 4, 2) := by decide +kernel
theorem dX3_formals_35 : decode cX3_formals 35 = .ok (.aload_n 0, 1) := by decide +kernel
theorem dX3_formals_36 : decode cX3_formals 36 = .ok (.invokevirtual 88, 3) := by decide +kernel
theorem dX3_formals_39 : decode cX3_formals 39 = .ok (.istore 5, 2) := by decide +kernel
theorem dX3_formals_41 : decode cX3_formals 41 = .ok (.iload 5, 2) := by decide +kernel
theorem dX3_formals_43 : decode cX3_formals 43 = .ok (.ifCond .ne 5, 3) := by decide +kernel
theorem dX3_formals_46 : decode cX3_formals 46 = .ok (.iconst 0, 1) := by decide +kernel
theorem dX3_formals_47 : decode cX3_formals 47 = .ok (.ireturn, 1) := by decide +kernel
theorem dX3_formals_48 : decode cX3_formals 48 = .ok (.iconst 1, 1) := by decide +kernel
theorem dX3_formals_49 : decode cX3_formals 49 = .ok (.iload_n 3, 1) := by decide +kernel
theorem dX3_formals_50 : decode cX3_formals 50 = .ok (.iadd, 1) := by decide +kernel
theorem dX3_formals_51 : decode cX3_formals 51 = .ok (.istore 6, 2) := by decide +kernel
theorem dX3_formals_53 : decode cX3_formals 53 = .ok (.aload_n 0, 1) := by decide +kernel
theorem dX3_formals_54 : decode cX3_formals 54 = .ok (.iload 5, 2) := by decide +kernel
theorem dX3_formals_56 : decode cX3_formals 56 = .ok (.iload 4, 2) := by decide +kernel
theorem dX3_formals_58 : decode cX3_formals 58 = .ok (.ifCond .eq 7, 3) := by decide +kernel
theorem dX3_formals_61 : decode cX3_formals 61 = .ok (.iconst 0, 1) := by decide +kernel
theorem dX3_formals_62 : decode cX3_formals 62 = .ok (.goto 4, 3) := by decide +kernel
theorem dX3_formals_65 : decode cX3_formals 65 = .ok (.iconst 1, 1) := by decide +kernel
theorem dX3_formals_66 : decode cX3_formals 66 = .ok (.iload 6, 2) := by decide +kernel
theorem dX3_formals_68 : decode cX3_formals 68 = .ok (.iload_n 2, 1) := by decide +kernel
theorem dX3_formals_69 : decode cX3_formals 69 = .ok (.invokevirtual 137, 3) := by decide +kernel
theorem dX3_formals_72 : decode cX3_formals 72 = .ok (.aload_n 0, 1) := by decide +kernel
theorem dX3_formals_73 : decode cX3_formals 73 = .ok (.getfield 18, 3) := by decide +kernel
theorem dX3_formals_76 : decode cX3_formals 76 = .ok (.iload_n 1, 1) := by decide +kernel
theorem dX3_formals_77 : decode cX3_formals 77 = .ok (.iload_n 3, 1) := by decide +kernel
theorem dX3_formals_78 : decode cX3_formals 78 = .ok (.iconst 1, 1) := by decide +kernel
theorem dX3_formals_79 : decode cX3_formals 79 = .ok (.iadd, 1) := by decide +kernel
theorem dX3_formals_80 : decode cX3_formals 80 = .ok (.invokevirtual 155, 3) := by decide +kernel
theorem dX3_formals_83 : decode cX3_formals 83 = .ok (.iload 4, 2) := by decide +kernel
theorem dX3_formals_85 : decode cX3_formals 85 = .ok (.ifCond .eq 29, 3) := by decide +kernel
theorem dX3_formals_88 : decode cX3_formals 88 = .ok (.aload_n 0, 1) := by decide +kernel
theorem dX3_formals_89 : decode cX3_formals 89 = .ok (.getfield 18, 3) := by decide +kernel
theorem dX3_formals_92 : decode cX3_formals 92 = .ok (.bipush 12, 2) := by decide +kernel
theorem dX3_formals_94 : decode cX3_formals 94 = .ok (.iload 6, 2) := by decide +kernel
theorem dX3_formals_96 : decode cX3_formals 96 = .ok (.iconst 0, 1) := by decide +kernel
theorem dX3_formals_97 : decode cX3_formals 97 = .ok (.invokevirtual 57, 3) := by decide +kernel
theorem dX3_formals_100 : decode cX3_formals 100 = .ok (.pop, 1) := by decide +kernel
theorem dX3_formals_101 : decode cX3_formals 101 = .ok (.aload_n 0, 1) := by decide +kernel
theorem dX3_formals_102 : decode cX3_formals 102 = .ok (.getfield 18, 3) := by decide +kernel
theorem dX3_formals_105 : decode cX3_formals 105 = .ok (.bipush 16, 2) := by decide +kernel
theorem dX3_formals_107 : decode cX3_formals 107 = .ok (.iload 6, 2) := by decide +kernel
theorem dX3_formals_109 : decode cX3_formals 109 = .ok (.iconst 0, 1) := by decide +kernel
theorem dX3_formals_110 : decode cX3_formals 110 = .ok (.invokevirtual 57, 3) := by decide +kernel
theorem dX3_formals_113 : decode cX3_formals 113 = .ok (.pop, 1) := by decide +kernel
theorem dX3_formals_114 : decode cX3_formals 114 = .ok (.aload_n 0, 1) := by decide +kernel
theorem dX3_formals_115 : decode cX3_formals 115 = .ok (.bipush 41, 2) := by decide +kernel
theorem dX3_formals_117 : decode cX3_formals 117 = .ok (.invokevirtual 73, 3) := by decide +kernel
theorem dX3_formals_120 : decode cX3_formals 120 = .ok (.ifCond .eq 5, 3) := by decide +kernel
theorem dX3_formals_123 : decode cX3_formals 123 = .ok (.iconst 1, 1) := by decide +kernel
theorem dX3_formals_124 : decode cX3_formals 124 = .ok (.ireturn, 1) := by decide +kernel
theorem dX3_formals_125 : decode cX3_formals 125 = .ok (.aload_n 0, 1) := by decide +kernel
theorem dX3_formals_126 : decode cX3_formals 126 = .ok (.bipush 44, 2) := by decide +kernel
theorem dX3_formals_128 : decode cX3_formals 128 = .ok (.invokevirtual 73, 3) := by decide +kernel
theorem dX3_formals_131 : decode cX3_formals 131 = .ok (.ifCond .ne 5, 3) := by decide +kernel
theorem dX3_formals_134 : decode cX3_formals 134 = .ok (.iconst 0, 1) := by decide +kernel
theorem dX3_formals_135 : decode cX3_formals 135 = .ok (.ireturn, 1) := by decide +kernel
end
section
theorem dX3_formals_136 : decode cX3_formals 136 = .ok (.iinc 3 1, 3) := by decide +kernel
theorem dX3_formals_139 : decode cX3_formals 139 = .ok (.goto (-118), 3) := by decide +kernel
theorem dX3_formals_142 : decode cX3_formals 142 = .ok (.iconst 0, 1) := by decide +kernel
theorem dX3_formals_143 : decode cX3_formals 143 = .ok (.ireturn, 1) := by decide +kernel
theorem dX3_expression_0 : decode cX3_expression 0 = .ok (.aload_n 0, 1) := by decide +kernel
theorem dX3_expression_1 : decode cX3_expression 1 = .ok (.iload_n 1, 1) := by decide +kernel
theorem dX3_expression_2 : decode cX3_expression 2 = .ok (.invokevirtual 67, 3) := by decide +kernel
theorem dX3_expression_5 : decode cX3_expression 5 = .ok (.ifCond .eq 11, 3) := by decide +kernel
theorem dX3_expression_8 : decode cX3_expression 8 = .ok (.aload_n 0, 1) := by decide +kernel
theorem dX3_expression_9 : decode cX3_expression 9 = .ok (.iload_n 1, 1) := by decide +kernel
theorem dX3_expression_10 : decode cX3_expression 10 = .ok (.invokevirtual 158, 3) := by decide +kernel
theorem dX3_expression_13 : decode cX3_expression 13 = .ok (.ifCond .ne 5, 3) := by decide +kernel
theorem dX3_expression_16 : decode cX3_expression 16 = .ok (.iconst 0, 1) := by decide +kernel
theorem dX3_expression_17 : decode cX3_expression 17 = .ok (.ireturn, 1) := by decide +kernel
theorem dX3_expression_18 : decode cX3_expression 18 = .ok (.aload_n 0, 1) := by decide +kernel
theorem dX3_expression_19 : decode cX3_expression 19 = .ok (.bipush 60, 2) := by decide +kernel
theorem dX3_expression_21 : decode cX3_expression 21 = .ok (.invokevirtual 73, 3) := by decide +kernel
theorem dX3_expression_24 : decode cX3_expression 24 = .ok (.ifCond .ne 5, 3) := by decide +kernel
theorem dX3_expression_27 : decode cX3_expression 27 = .ok (.iconst 1, 1) := by decide +kernel
theorem dX3_expression_28 : decode cX3_expression 28 = .ok (.ireturn, 1) := by decide +kernel
theorem dX3_expression_29 : decode cX3_expression 29 = .ok (.aload_n 0, 1) := by decide +kernel
theorem dX3_expression_30 : decode cX3_expression 30 = .ok (.getfield 18, 3) := by decide +kernel
theorem dX3_expression_33 : decode cX3_expression 33 = .ok (.bipush 18, 2) := by decide +kernel
theorem dX3_expression_35 : decode cX3_expression 35 = .ok (.iconst 0, 1) := by decide +kernel
theorem dX3_expression_36 : decode cX3_expression 36 = .ok (.iconst 0, 1) := by decide +kernel
theorem dX3_expression_37 : decode cX3_expression 37 = .ok (.invokevirtual 57, 3) := by decide +kernel
theorem dX3_expression_40 : decode cX3_expression 40 = .ok (.pop, 1) := by decide +kernel
theorem dX3_expression_41 : decode cX3_expression 41 = .ok (.aload_n 0, 1) := by decide +kernel
theorem dX3_expression_42 : decode cX3_expression 42 = .ok (.iload_n 1, 1) := by decide +kernel
theorem dX3_expression_43 : decode cX3_expression 43 = .ok (.invokevirtual 158, 3) := by decide +kernel
theorem dX3_expression_46 : decode cX3_expression 46 = .ok (.ifCond .ne 5, 3) := by decide +kernel
theorem dX3_expression_49 : decode cX3_expression 49 = .ok (.iconst 0, 1) := by decide +kernel
theorem dX3_expression_50 : decode cX3_expression 50 = .ok (.ireturn, 1) := by decide +kernel
theorem dX3_expression_51 : decode cX3_expression 51 = .ok (.aload_n 0, 1) := by decide +kernel
theorem dX3_expression_52 : decode cX3_expression 52 = .ok (.getfield 18, 3) := by decide +kernel
theorem dX3_expression_55 : decode cX3_expression 55 = .ok (.bipush 22, 2) := by decide +kernel
theorem dX3_expression_57 : decode cX3_expression 57 = .ok (.iconst 0, 1) := by decide +kernel
theorem dX3_expression_58 : decode cX3_expression 58 = .ok (.iconst 0, 1) := by decide +kernel
theorem dX3_expression_59 : decode cX3_expression 59 = .ok (.invokevirtual 57, 3) := by decide +kernel
theorem dX3_expression_62 : decode cX3_expression 62 = .ok (.pop, 1) := by decide +kernel
theorem dX3_expression_63 : decode cX3_expression 63 = .ok (.iconst 1, 1) := by decide +kernel
theorem dX3_expression_64 : decode cX3_expression 64 = .ok (.ireturn, 1) := by decide +kernel
theorem dX3_sum_0 : decode cX3_sum 0 = .ok (.aload_n 0, 1) := by decide +kernel
theorem dX3_sum_1 : decode cX3_sum 1 = .ok (.iload_n 1, 1) := by decide +kernel
theorem dX3_sum_2 : decode cX3_sum 2 = .ok (.invokevirtual 161, 3) := by decide +kernel
theorem dX3_sum_5 : decode cX3_sum 5 = .ok (.ifCond .ne 5, 3) := by decide +kernel
theorem dX3_sum_8 : decode cX3_sum 8 = .ok (.iconst 0, 1) := by decide +kernel
theorem dX3_sum_9 : decode cX3_sum 9 = .ok (.ireturn, 1) := by decide +kernel
theorem dX3_sum_10 : decode cX3_sum 10 = .ok (.iconst 0, 1) := by decide +kernel
theorem dX3_sum_11 : decode cX3_sum 11 = .ok (.istore_n 2, 1) := by decide +kernel
theorem dX3_sum_12 : decode cX3_sum 12 = .ok (.iload_n 2, 1) := by decide +kernel
theorem dX3_sum_13 : decode cX3_sum 13 = .ok (.sipush 320, 3) := by decide +kernel
theorem dX3_sum_16 : decode cX3_sum 16 = .ok (.if_icmp .gt 74, 3) := by decide +kernel
theorem dX3_sum_19 : decode cX3_sum 19 = .ok (.aload_n 0, 1) := by decide +kernel
theorem dX3_sum_20 : decode cX3_sum 20 = .ok (.bipush 43, 2) := by decide +kernel
theorem dX3_sum_22 : decode cX3_sum 22 = .ok (.invokevirtual 73, 3) := by decide +kernel
theorem dX3_sum_25 : decode cX3_sum 25 = .ok (.istore_n 3, 1) := by decide +kernel
theorem dX3_sum_26 : decode cX3_sum 26 = .ok (.iload_n 3, 1) := by decide +kernel
theorem dX3_sum_27 : decode cX3_sum 27 = .ok (.ifCond .ne 14, 3) := by decide +kernel
theorem dX3_sum_30 : decode cX3_sum 30 = .ok (.aload_n 0, 1) := by decide +kernel
theorem dX3_sum_31 : decode cX3_sum 31 = .ok (.bipush 45, 2) := by decide +kernel
theorem dX3_sum_33 : decode cX3_sum 33 = .ok (.invokevirtual 73, 3) := by decide +kernel
theorem dX3_sum_36 : decode cX3_sum 36 = .ok (.ifCond .ne 5, 3) := by decide +kernel
theorem dX3_sum_39 : decode cX3_sum 39 = .ok (.iconst 1, 1) := by decide +kernel
theorem dX3_sum_40 : decode cX3_sum 40 = .ok (.ireturn, 1) := by decide +kernel
theorem dX3_sum_41 : decode cX3_sum 41 = .ok (.aload_n 0, 1) := by decide +kernel
theorem dX3_sum_42 : decode cX3_sum 42 = .ok (.getfield 18, 3) := by decide +kernel
theorem dX3_sum_45 : decode cX3_sum 45 = .ok (.bipush 18, 2) := by decide +kernel
theorem dX3_sum_47 : decode cX3_sum 47 = .ok (.iconst 0, 1) := by decide +kernel
theorem dX3_sum_48 : decode cX3_sum 48 = .ok (.iconst 0, 1) := by decide +kernel
theorem dX3_sum_49 : decode cX3_sum 49 = .ok (.invokevirtual 57, 3) := by decide +kernel
theorem dX3_sum_52 : decode cX3_sum 52 = .ok (.pop, 1) := by decide +kernel
theorem dX3_sum_53 : decode cX3_sum 53 = .ok (.aload_n 0, 1) := by decide +kernel
theorem dX3_sum_54 : decode cX3_sum 54 = .ok (.iload_n 1, 1) := by decide +kernel
theorem dX3_sum_55 : decode cX3_sum 55 = .ok (.invokevirtual 161, 3) := by decide +kernel
theorem dX3_sum_58 : decode cX3_sum 58 = .ok (.ifCond .ne 5, 3) := by decide +kernel
theorem dX3_sum_61 : decode cX3_sum 61 = .ok (.iconst 0, 1) := by decide +kernel
theorem dX3_sum_62 : decode cX3_sum 62 = .ok (.ireturn, 1) := by decide +kernel
theorem dX3_sum_63 : decode cX3_sum 63 = .ok (.aload_n 0, 1) := by decide +kernel
theorem dX3_sum_64 : decode cX3_sum 64 = .ok (.getfield 18, 3) := by decide +kernel
theorem dX3_sum_67 : decode cX3_sum 67 = .ok (.iload_n 3, 1) := by decide +kernel
theorem dX3_sum_68 : decode cX3_sum 68 = .ok (.ifCond .eq 8, 3) := by decide +kernel
theorem dX3_sum_71 : decode cX3_sum 71 = .ok (.bipush 19, 2) := by decide +kernel
theorem dX3_sum_73 : decode cX3_sum 73 = .ok (.goto 5, 3) := by decide +kernel
theorem dX3_sum_76 : decode cX3_sum 76 = .ok (.bipush 20, 2) := by decide +kernel
theorem dX3_sum_78 : decode cX3_sum 78 = .ok (.iconst 0, 1) := by decide +kernel
theorem dX3_sum_79 : decode cX3_sum 79 = .ok (.iconst 0, 1) := by decide +kernel
theorem dX3_sum_80 : decode cX3_sum 80 = .ok (.invokevirtual 57, 3) := by decide +kernel
theorem dX3_sum_83 : decode cX3_sum 83 = .ok (.pop, 1) := by decide +kernel
theorem dX3_sum_84 : decode cX3_sum 84 = .ok (.iinc 2 1, 3) := by decide +kernel
theorem dX3_sum_87 : decode cX3_sum 87 = .ok (.goto (-75), 3) := by decide +kernel
theorem dX3_sum_90 : decode cX3_sum 90 = .ok (.iconst 0, 1) := by decide +kernel
theorem dX3_sum_91 : decode cX3_sum 91 = .ok (.ireturn, 1) := by decide +kernel
theorem dX3_product_0 : decode cX3_product 0 = .ok (.aload_n 0, 1) := by decide +kernel
theorem dX3_product_1 : decode cX3_product 1 = .ok (.iload_n 1, 1) := by decide +kernel
theorem dX3_product_2 : decode cX3_product 2 = .ok (.invokevirtual 164, 3) := by decide +kernel
theorem dX3_product_5 : decode cX3_product 5 = .ok (.ifCond .ne 5, 3) := by decide +kernel
theorem dX3_product_8 : decode cX3_product 8 = .ok (.iconst 0, 1) := by decide +kernel
theorem dX3_product_9 : decode cX3_product 9 = .ok (.ireturn, 1) := by decide +kernel
theorem dX3_product_10 : decode cX3_product 10 = .ok (.iconst 0, 1) := by decide +kernel
theorem dX3_product_11 : decode cX3_product 11 = .ok (.istore_n 2, 1) := by decide +kernel
theorem dX3_product_12 : decode cX3_product 12 = .ok (.iload_n 2, 1) := by decide +kernel
theorem dX3_product_13 : decode cX3_product 13 = .ok (.sipush 320, 3) := by decide +kernel
theorem dX3_product_16 : decode cX3_product 16 = .ok (.if_icmp .gt 54, 3) := by decide +kernel
theorem dX3_product_19 : decode cX3_product 19 = .ok (.aload_n 0, 1) := by decide +kernel
theorem dX3_product_20 : decode cX3_product 20 = .ok (.bipush 42, 2) := by decide +kernel
theorem dX3_product_22 : decode cX3_product 22 = .ok (.invokevirtual 73, 3) := by decide +kernel
theorem dX3_product_25 : decode cX3_product 25 = .ok (.ifCond .ne 5, 3) := by decide +kernel
theorem dX3_product_28 : decode cX3_product 28 = .ok (.iconst 1, 1) := by decide +kernel
theorem dX3_product_29 : decode cX3_product 29 = .ok (.ireturn, 1) := by decide +kernel
theorem dX3_product_30 : decode cX3_product 30 = .ok (.aload_n 0, 1) := by decide +kernel
theorem dX3_product_31 : decode cX3_product 31 = .ok (.getfield 18, 3) := by decide +kernel
theorem dX3_product_34 : decode cX3_product 34 = .ok (.bipush 18, 2) := by decide +kernel
theorem dX3_product_36 : decode cX3_product 36 = .ok (.iconst 0, 1) := by decide +kernel
theorem dX3_product_37 : decode cX3_product 37 = .ok (.iconst 0, 1) := by decide +kernel
theorem dX3_product_38 : decode cX3_product 38 = .ok (.invokevirtual 57, 3) := by decide +kernel
theorem dX3_product_41 : decode cX3_product 41 = .ok (.pop, 1) := by decide +kernel
theorem dX3_product_42 : decode cX3_product 42 = .ok (.aload_n 0, 1) := by decide +kernel
theorem dX3_product_43 : decode cX3_product 43 = .ok (.iload_n 1, 1) := by decide +kernel
theorem dX3_product_44 : decode cX3_product 44 = .ok (.invokevirtual 164, 3) := by decide +kernel
theorem dX3_product_47 : decode cX3_product 47 = .ok (.ifCond .ne 5, 3) := by decide +kernel
theorem dX3_product_50 : decode cX3_product 50 = .ok (.iconst 0, 1) := by decide +kernel
theorem dX3_product_51 : decode cX3_product 51 = .ok (.ireturn, 1) := by decide +kernel
theorem dX3_product_52 : decode cX3_product 52 = .ok (.aload_n 0, 1) := by decide +kernel
theorem dX3_product_53 : decode cX3_product 53 = .ok (.getfield 18, 3) := by decide +kernel
theorem dX3_product_56 : decode cX3_product 56 = .ok (.bipush 21, 2) := by decide +kernel
theorem dX3_product_58 : decode cX3_product 58 = .ok (.iconst 0, 1) := by decide +kernel
theorem dX3_product_59 : decode cX3_product 59 = .ok (.iconst 0, 1) := by decide +kernel
theorem dX3_product_60 : decode cX3_product 60 = .ok (.invokevirtual 57, 3) := by decide +kernel
theorem dX3_product_63 : decode cX3_product 63 = .ok (.pop, 1) := by decide +kernel
theorem dX3_product_64 : decode cX3_product 64 = .ok (.iinc 2 1, 3) := by decide +kernel
theorem dX3_product_67 : decode cX3_product 67 = .ok (.goto (-55), 3) := by decide +kernel
theorem dX3_product_70 : decode cX3_product 70 = .ok (.iconst 0, 1) := by decide +kernel
theorem dX3_product_71 : decode cX3_product 71 = .ok (.ireturn, 1) := by decide +kernel
theorem dX3_factor_0 : decode cX3_factor 0 = .ok (.aload_n 0, 1) := by decide +kernel
theorem dX3_factor_1 : decode cX3_factor 1 = .ok (.bipush 40, 2) := by decide +kernel
theorem dX3_factor_3 : decode cX3_factor 3 = .ok (.invokevirtual 73, 3) := by decide +kernel
theorem dX3_factor_6 : decode cX3_factor 6 = .ok (.ifCond .eq 28, 3) := by decide +kernel
theorem dX3_factor_9 : decode cX3_factor 9 = .ok (.aload_n 0, 1) := by decide +kernel
theorem dX3_factor_10 : decode cX3_factor 10 = .ok (.iload_n 1, 1) := by decide +kernel
theorem dX3_factor_11 : decode cX3_factor 11 = .ok (.iconst 1, 1) := by decide +kernel
theorem dX3_factor_12 : decode cX3_factor 12 = .ok (.iadd, 1) := by decide +kernel
theorem dX3_factor_13 : decode cX3_factor 13 = .ok (.invokevirtual 106, 3) := by decide +kernel
theorem dX3_factor_16 : decode cX3_factor 16 = .ok (.ifCond .eq 16, 3) := by decide +kernel
theorem dX3_factor_19 : decode cX3_factor 19 = .ok (.aload_n 0, 1) := by decide +kernel
theorem dX3_factor_20 : decode cX3_factor 20 = .ok (.bipush 41, 2) := by decide +kernel
theorem dX3_factor_22 : decode cX3_factor 22 = .ok (.invokevirtual 73, 3) := by decide +kernel
theorem dX3_factor_25 : decode cX3_factor 25 = .ok (.ifCond .eq 7, 3) := by decide +kernel
theorem dX3_factor_28 : decode cX3_factor 28 = .ok (.iconst 1, 1) := by decide +kernel
theorem dX3_factor_29 : decode cX3_factor 29 = .ok (.goto 4, 3) := by decide +kernel
theorem dX3_factor_32 : decode cX3_factor 32 = .ok (.iconst 0, 1) := by decide +kernel
theorem dX3_factor_33 : decode cX3_factor 33 = .ok (.ireturn, 1) := by decide +kernel
theorem dX3_factor_34 : decode cX3_factor 34 = .ok (.aload_n 0, 1) := by decide +kernel
theorem dX3_factor_35 : decode cX3_factor 35 = .ok (.invokevirtual 88, 3) := by decide +kernel
theorem dX3_factor_38 : decode cX3_factor 38 = .ok (.istore_n 2, 1) := by decide +kernel
theorem dX3_factor_39 : decode cX3_factor 39 = .ok (.iload_n 2, 1) := by decide +kernel
theorem dX3_factor_40 : decode cX3_factor 40 = .ok (.ifCond .ne 8, 3) := by decide +kernel
theorem dX3_factor_43 : decode cX3_factor 43 = .ok (.aload_n 0, 1) := by decide +kernel
theorem dX3_factor_44 : decode cX3_factor 44 = .ok (.invokevirtual 167, 3) := by decide +kernel
theorem dX3_factor_47 : decode cX3_factor 47 = .ok (.ireturn, 1) := by decide +kernel
theorem dX3_factor_48 : decode cX3_factor 48 = .ok (.aload_n 0, 1) := by decide +kernel
theorem dX3_factor_49 : decode cX3_factor 49 = .ok (.bipush 40, 2) := by decide +kernel
theorem dX3_factor_51 : decode cX3_factor 51 = .ok (.invokevirtual 73, 3) := by decide +kernel
theorem dX3_factor_54 : decode cX3_factor 54 = .ok (.ifCond .ne 16, 3) := by decide +kernel
theorem dX3_factor_57 : decode cX3_factor 57 = .ok (.aload_n 0, 1) := by decide +kernel
theorem dX3_factor_58 : decode cX3_factor 58 = .ok (.iload_n 2, 1) := by decide +kernel
theorem dX3_factor_59 : decode cX3_factor 59 = .ok (.bipush 11, 2) := by decide +kernel
theorem dX3_factor_61 : decode cX3_factor 61 = .ok (.bipush 12, 2) := by decide +kernel
theorem dX3_factor_63 : decode cX3_factor 63 = .ok (.bipush 13, 2) := by decide +kernel
theorem dX3_factor_65 : decode cX3_factor 65 = .ok (.invokevirtual 95, 3) := by decide +kernel
theorem dX3_factor_68 : decode cX3_factor 68 = .ok (.iconst 1, 1) := by decide +kernel
theorem dX3_factor_69 : decode cX3_factor 69 = .ok (.ireturn, 1) := by decide +kernel
theorem dX3_factor_70 : decode cX3_factor 70 = .ok (.aload_n 0, 1) := by decide +kernel
theorem dX3_factor_71 : decode cX3_factor 71 = .ok (.iload_n 2, 1) := by decide +kernel
theorem dX3_factor_72 : decode cX3_factor 72 = .ok (.bipush 15, 2) := by decide +kernel
theorem dX3_factor_74 : decode cX3_factor 74 = .ok (.bipush 14, 2) := by decide +kernel
theorem dX3_factor_76 : decode cX3_factor 76 = .ok (.bipush 13, 2) := by decide +kernel
theorem dX3_factor_78 : decode cX3_factor 78 = .ok (.invokevirtual 95, 3) := by decide +kernel
theorem dX3_factor_81 : decode cX3_factor 81 = .ok (.aload_n 0, 1) := by decide +kernel
theorem dX3_factor_82 : decode cX3_factor 82 = .ok (.iload_n 1, 1) := by decide +kernel
theorem dX3_factor_83 : decode cX3_factor 83 = .ok (.iconst 1, 1) := by decide +kernel
theorem dX3_factor_84 : decode cX3_factor 84 = .ok (.iadd, 1) := by decide +kernel
theorem dX3_factor_85 : decode cX3_factor 85 = .ok (.invokevirtual 99, 3) := by decide +kernel
theorem dX3_factor_88 : decode cX3_factor 88 = .ok (.ireturn, 1) := by decide +kernel
theorem dX3_number_0 : decode cX3_number 0 = .ok (.iconst 0, 1) := by decide +kernel
theorem dX3_number_1 : decode cX3_number 1 = .ok (.istore_n 1, 1) := by decide +kernel
theorem dX3_number_2 : decode cX3_number 2 = .ok (.iconst 0, 1) := by decide +kernel
theorem dX3_number_3 : decode cX3_number 3 = .ok (.istore_n 2, 1) := by decide +kernel
theorem dX3_number_4 : decode cX3_number 4 = .ok (.aload_n 0, 1) := by decide +kernel
theorem dX3_number_5 : decode cX3_number 5 = .ok (.invokevirtual 53, 3) := by decide +kernel
theorem dX3_number_8 : decode cX3_number 8 = .ok (.istore_n 3, 1) := by decide +kernel
theorem dX3_number_9 : decode cX3_number 9 = .ok (.iload_n 1, 1) := by decide +kernel
theorem dX3_number_10 : decode cX3_number 10 = .ok (.bipush 9, 2) := by decide +kernel
theorem dX3_number_12 : decode cX3_number 12 = .ok (.if_icmp .ge 66, 3) := by decide +kernel
theorem dX3_number_15 : decode cX3_number 15 = .ok (.iload_n 3, 1) := by decide +kernel
theorem dX3_number_16 : decode cX3_number 16 = .ok (.bipush 48, 2) := by decide +kernel
theorem dX3_number_18 : decode cX3_number 18 = .ok (.if_icmp .lt 60, 3) := by decide +kernel
theorem dX3_number_21 : decode cX3_number 21 = .ok (.iload_n 3, 1) := by decide +kernel
theorem dX3_number_22 : decode cX3_number 22 = .ok (.bipush 57, 2) := by decide +kernel
theorem dX3_number_24 : decode cX3_number 24 = .ok (.if_icmp .gt 54, 3) := by decide +kernel
theorem dX3_number_27 : decode cX3_number 27 = .ok (.iload_n 2, 1) := by decide +kernel
theorem dX3_number_28 : decode cX3_number 28 = .ok (.bipush 10, 2) := by decide +kernel
theorem dX3_number_30 : decode cX3_number 30 = .ok (.imul, 1) := by decide +kernel
theorem dX3_number_31 : decode cX3_number 31 = .ok (.iload_n 3, 1) := by decide +kernel
theorem dX3_number_32 : decode cX3_number 32 = .ok (.bipush 48, 2) := by decide +kernel
theorem dX3_number_34 : decode cX3_number 34 = .ok (.isub, 1) := by decide +kernel
theorem dX3_number_35 : decode cX3_number 35 = .ok (.iadd, 1) := by decide +kernel
theorem dX3_number_36 : decode cX3_number 36 = .ok (.istore_n 2, 1) := by decide +kernel
theorem dX3_number_37 : decode cX3_number 37 = .ok (.iinc 1 1, 3) := by decide +kernel
theorem dX3_number_40 : decode cX3_number 40 = .ok (.aload_n 0, 1) := by decide +kernel
theorem dX3_number_41 : decode cX3_number 41 = .ok (.dup, 1) := by decide +kernel
theorem dX3_number_42 : decode cX3_number 42 = .ok (.getfield 42, 3) := by decide +kernel
theorem dX3_number_45 : decode cX3_number 45 = .ok (.iconst 1, 1) := by decide +kernel
theorem dX3_number_46 : decode cX3_number 46 = .ok (.iadd, 1) := by decide +kernel
theorem dX3_number_47 : decode cX3_number 47 = .ok (.putfield 42, 3) := by decide +kernel
theorem dX3_number_50 : decode cX3_number 50 = .ok (.aload_n 0, 1) := by decide +kernel
theorem dX3_number_51 : decode cX3_number 51 = .ok (.getfield 42, 3) := by decide +kernel
theorem dX3_number_54 : decode cX3_number 54 = .ok (.aload_n 0, 1) := by decide +kernel
theorem dX3_number_55 : decode cX3_number 55 = .ok (.getfield 38, 3) := by decide +kernel
theorem dX3_number_58 : decode cX3_number 58 = .ok (.if_icmp .ge 15, 3) := by decide +kernel
theorem dX3_number_61 : decode cX3_number 61 = .ok (.aload_n 0, 1) := by decide +kernel
theorem dX3_number_62 : decode cX3_number 62 = .ok (.getfield 22, 3) := by decide +kernel
theorem dX3_number_65 : decode cX3_number 65 = .ok (.aload_n 0, 1) := by decide +kernel
theorem dX3_number_66 : decode cX3_number 66 = .ok (.getfield 42, 3) := by decide +kernel
theorem dX3_number_69 : decode cX3_number 69 = .ok (.caload, 1) := by decide +kernel
theorem dX3_number_70 : decode cX3_number 70 = .ok (.goto 4, 3) := by decide +kernel
theorem dX3_number_73 : decode cX3_number 73 = .ok (.iconst 0, 1) := by decide +kernel
theorem dX3_number_74 : decode cX3_number 74 = .ok (.istore_n 3, 1) := by decide +kernel
theorem dX3_number_75 : decode cX3_number 75 = .ok (.goto (-66), 3) := by decide +kernel
theorem dX3_number_78 : decode cX3_number 78 = .ok (.aload_n 0, 1) := by decide +kernel
theorem dX3_number_79 : decode cX3_number 79 = .ok (.getfield 18, 3) := by decide +kernel
theorem dX3_number_82 : decode cX3_number 82 = .ok (.bipush 10, 2) := by decide +kernel
theorem dX3_number_84 : decode cX3_number 84 = .ok (.iload_n 2, 1) := by decide +kernel
theorem dX3_number_85 : decode cX3_number 85 = .ok (.iconst 0, 1) := by decide +kernel
theorem dX3_number_86 : decode cX3_number 86 = .ok (.invokevirtual 57, 3) := by decide +kernel
theorem dX3_number_89 : decode cX3_number 89 = .ok (.pop, 1) := by decide +kernel
theorem dX3_number_90 : decode cX3_number 90 = .ok (.iload_n 1, 1) := by decide +kernel
theorem dX3_number_91 : decode cX3_number 91 = .ok (.ifCond .le 7, 3) := by decide +kernel
theorem dX3_number_94 : decode cX3_number 94 = .ok (.iconst 1, 1) := by decide +kernel
theorem dX3_number_95 : decode cX3_number 95 = .ok (.goto 4, 3) := by decide +kernel
theorem dX3_number_98 : decode cX3_number 98 = .ok (.iconst 0, 1) := by decide +kernel
theorem dX3_number_99 : decode cX3_number 99 = .ok (.ireturn, 1) := by decide +kernel
theorem dX3_list_0 : decode cX3_list 0 = .ok (.aload_n 0, 1) := by decide +kernel
theorem dX3_list_1 : decode cX3_list 1 = .ok (.bipush 41, 2) := by decide +kernel
theorem dX3_list_3 : decode cX3_list 3 = .ok (.invokevirtual 73, 3) := by decide +kernel
theorem dX3_list_6 : decode cX3_list 6 = .ok (.ifCond .eq 5, 3) := by decide +kernel
theorem dX3_list_9 : decode cX3_list 9 = .ok (.iconst 1, 1) := by decide +kernel
theorem dX3_list_10 : decode cX3_list 10 = .ok (.ireturn, 1) := by decide +kernel
theorem dX3_list_11 : decode cX3_list 11 = .ok (.iconst 0, 1) := by decide +kernel
theorem dX3_list_12 : decode cX3_list 12 = .ok (.istore_n 2, 1) := by decide +kernel
theorem dX3_list_13 : decode cX3_list 13 = .ok (.iload_n 2, 1) := by decide +kernel
theorem dX3_list_14 : decode cX3_list 14 = .ok (.bipush 6, 2) := by decide +kernel
theorem dX3_list_16 : decode cX3_list 16 = .ok (.if_icmp .ge 92, 3) := by decide +kernel
theorem dX3_list_19 : decode cX3_list 19 = .ok (.aload_n 0, 1) := by decide +kernel
theorem dX3_list_20 : decode cX3_list 20 = .ok (.getfield 18, 3) := by decide +kernel
theorem dX3_list_23 : decode cX3_list 23 = .ok (.aload_n 0, 1) := by decide +kernel
theorem dX3_list_24 : decode cX3_list 24 = .ok (.invokevirtual 171, 3) := by decide +kernel
theorem dX3_list_27 : decode cX3_list 27 = .ok (.ifCond .eq 8, 3) := by decide +kernel
theorem dX3_list_30 : decode cX3_list 30 = .ok (.bipush 24, 2) := by decide +kernel
theorem dX3_list_32 : decode cX3_list 32 = .ok (.goto 5, 3) := by decide +kernel
theorem dX3_list_35 : decode cX3_list 35 = .ok (.bipush 23, 2) := by decide +kernel
theorem dX3_list_37 : decode cX3_list 37 = .ok (.iconst 0, 1) := by decide +kernel
theorem dX3_list_38 : decode cX3_list 38 = .ok (.iconst 0, 1) := by decide +kernel
theorem dX3_list_39 : decode cX3_list 39 = .ok (.invokevirtual 57, 3) := by decide +kernel
theorem dX3_list_42 : decode cX3_list 42 = .ok (.istore_n 3, 1) := by decide +kernel
theorem dX3_list_43 : decode cX3_list 43 = .ok (.aload_n 0, 1) := by decide +kernel
theorem dX3_list_44 : decode cX3_list 44 = .ok (.iload_n 1, 1) := by decide +kernel
theorem dX3_list_45 : decode cX3_list 45 = .ok (.invokevirtual 106, 3) := by decide +kernel
theorem dX3_list_48 : decode cX3_list 48 = .ok (.ifCond .ne 5, 3) := by decide +kernel
theorem dX3_list_51 : decode cX3_list 51 = .ok (.iconst 0, 1) := by decide +kernel
theorem dX3_list_52 : decode cX3_list 52 = .ok (.ireturn, 1) := by decide +kernel
theorem dX3_list_53 : decode cX3_list 53 = .ok (.aload_n 0, 1) := by decide +kernel
theorem dX3_list_54 : decode cX3_list 54 = .ok (.getfield 18, 3) := by decide +kernel
theorem dX3_list_57 : decode cX3_list 57 = .ok (.bipush 25, 2) := by decide +kernel
theorem dX3_list_59 : decode cX3_list 59 = .ok (.iconst 0, 1) := by decide +kernel
theorem dX3_list_60 : decode cX3_list 60 = .ok (.iconst 0, 1) := by decide +kernel
theorem dX3_list_61 : decode cX3_list 61 = .ok (.invokevirtual 57, 3) := by decide +kernel
theorem dX3_list_64 : decode cX3_list 64 = .ok (.pop, 1) := by decide +kernel
theorem dX3_list_65 : decode cX3_list 65 = .ok (.aload_n 0, 1) := by decide +kernel
theorem dX3_list_66 : decode cX3_list 66 = .ok (.getfield 18, 3) := by decide +kernel
theorem dX3_list_69 : decode cX3_list 69 = .ok (.iload_n 3, 1) := by decide +kernel
theorem dX3_list_70 : decode cX3_list 70 = .ok (.aload_n 0, 1) := by decide +kernel
theorem dX3_list_71 : decode cX3_list 71 = .ok (.getfield 18, 3) := by decide +kernel
theorem dX3_list_74 : decode cX3_list 74 = .ok (.getfield 109, 3) := by decide +kernel
theorem dX3_list_77 : decode cX3_list 77 = .ok (.invokevirtual 112, 3) := by decide +kernel
theorem dX3_list_80 : decode cX3_list 80 = .ok (.aload_n 0, 1) := by decide +kernel
theorem dX3_list_81 : decode cX3_list 81 = .ok (.bipush 41, 2) := by decide +kernel
theorem dX3_list_83 : decode cX3_list 83 = .ok (.invokevirtual 73, 3) := by decide +kernel
theorem dX3_list_86 : decode cX3_list 86 = .ok (.ifCond .eq 5, 3) := by decide +kernel
theorem dX3_list_89 : decode cX3_list 89 = .ok (.iconst 1, 1) := by decide +kernel
theorem dX3_list_90 : decode cX3_list 90 = .ok (.ireturn, 1) := by decide +kernel
theorem dX3_list_91 : decode cX3_list 91 = .ok (.aload_n 0, 1) := by decide +kernel
theorem dX3_list_92 : decode cX3_list 92 = .ok (.bipush 44, 2) := by decide +kernel
theorem dX3_list_94 : decode cX3_list 94 = .ok (.invokevirtual 73, 3) := by decide +kernel
theorem dX3_list_97 : decode cX3_list 97 = .ok (.ifCond .ne 5, 3) := by decide +kernel
theorem dX3_list_100 : decode cX3_list 100 = .ok (.iconst 0, 1) := by decide +kernel
theorem dX3_list_101 : decode cX3_list 101 = .ok (.ireturn, 1) := by decide +kernel
theorem dX3_list_102 : decode cX3_list 102 = .ok (.iinc 2 1, 3) := by decide +kernel
theorem dX3_list_105 : decode cX3_list 105 = .ok (.goto (-92), 3) := by decide +kernel
theorem dX3_list_108 : decode cX3_list 108 = .ok (.iconst 0, 1) := by decide +kernel
theorem dX3_list_109 : decode cX3_list 109 = .ok (.ireturn, 1) := by decide +kernel
theorem dX3_isNameAlone_0 : decode cX3_isNameAlone 0 = .ok (.aload_n 0, 1) := by decide +kernel
theorem dX3_isNameAlone_1 : decode cX3_isNameAlone 1 = .ok (.getfield 42, 3) := by decide +kernel
theorem dX3_isNameAlone_4 : decode cX3_isNameAlone 4 = .ok (.istore_n 1, 1) := by decide +kernel
theorem dX3_isNameAlone_5 : decode cX3_isNameAlone 5 = .ok (.iconst 0, 1) := by decide +kernel
theorem dX3_isNameAlone_6 : decode cX3_isNameAlone 6 = .ok (.istore_n 2, 1) := by decide +kernel
theorem dX3_isNameAlone_7 : decode cX3_isNameAlone 7 = .ok (.aload_n 0, 1) := by decide +kernel
theorem dX3_isNameAlone_8 : decode cX3_isNameAlone 8 = .ok (.invokevirtual 88, 3) := by decide +kernel
theorem dX3_isNameAlone_11 : decode cX3_isNameAlone 11 = .ok (.ifCond .eq 26, 3) := by decide +kernel
theorem dX3_isNameAlone_14 : decode cX3_isNameAlone 14 = .ok (.aload_n 0, 1) := by decide +kernel
theorem dX3_isNameAlone_15 : decode cX3_isNameAlone 15 = .ok (.invokevirtual 53, 3) := by decide +kernel
theorem dX3_isNameAlone_18 : decode cX3_isNameAlone 18 = .ok (.istore_n 3, 1) := by decide +kernel
theorem dX3_isNameAlone_19 : decode cX3_isNameAlone 19 = .ok (.iload_n 3, 1) := by decide +kernel
theorem dX3_isNameAlone_20 : decode cX3_isNameAlone 20 = .ok (.bipush 44, 2) := by decide +kernel
theorem dX3_isNameAlone_22 : decode cX3_isNameAlone 22 = .ok (.if_icmp .eq 9, 3) := by decide +kernel
theorem dX3_isNameAlone_25 : decode cX3_isNameAlone 25 = .ok (.iload_n 3, 1) := by decide +kernel
theorem dX3_isNameAlone_26 : decode cX3_isNameAlone 26 = .ok (.bipush 41, 2) := by decide +kernel
theorem dX3_isNameAlone_28 : decode cX3_isNameAlone 28 = .ok (.if_icmp .ne 7, 3) := by decide +kernel
theorem dX3_isNameAlone_31 : decode cX3_isNameAlone 31 = .ok (.iconst 1, 1) := by decide +kernel
theorem dX3_isNameAlone_32 : decode cX3_isNameAlone 32 = .ok (.goto 4, 3) := by decide +kernel
theorem dX3_isNameAlone_35 : decode cX3_isNameAlone 35 = .ok (.iconst 0, 1) := by decide +kernel
theorem dX3_isNameAlone_36 : decode cX3_isNameAlone 36 = .ok (.istore_n 2, 1) := by decide +kernel
theorem dX3_isNameAlone_37 : decode cX3_isNameAlone 37 = .ok (.aload_n 0, 1) := by decide +kernel
theorem dX3_isNameAlone_38 : decode cX3_isNameAlone 38 = .ok (.iload_n 1, 1) := by decide +kernel
theorem dX3_isNameAlone_39 : decode cX3_isNameAlone 39 = .ok (.putfield 42, 3) := by decide +kernel
theorem dX3_isNameAlone_42 : decode cX3_isNameAlone 42 = .ok (.iload_n 2, 1) := by decide +kernel
theorem dX3_isNameAlone_43 : decode cX3_isNameAlone 43 = .ok (.ireturn, 1) := by decide +kernel
theorem dX3_declare_0 : decode cX3_declare 0 = .ok (.aload_n 0, 1) := by decide +kernel
theorem dX3_declare_1 : decode cX3_declare 1 = .ok (.getfield 12, 3) := by decide +kernel
theorem dX3_declare_4 : decode cX3_declare 4 = .ok (.iload_n 1, 1) := by decide +kernel
theorem dX3_declare_5 : decode cX3_declare 5 = .ok (.iload_n 2, 1) := by decide +kernel
theorem dX3_declare_6 : decode cX3_declare 6 = .ok (.iload_n 3, 1) := by decide +kernel
theorem dX3_declare_7 : decode cX3_declare 7 = .ok (.iload 4, 2) := by decide +kernel
theorem dX3_declare_9 : decode cX3_declare 9 = .ok (.invokevirtual 174, 3) := by decide +kernel
theorem dX3_declare_12 : decode cX3_declare 12 = .ok (.ifCond .ne 8, 3) := by decide +kernel
theorem dX3_declare_15 : decode cX3_declare 15 = .ok (.aload_n 0, 1) := by decide +kernel
theorem dX3_declare_16 : decode cX3_declare 16 = .ok (.iconst 0, 1) := by decide +kernel
theorem dX3_declare_17 : decode cX3_declare 17 = .ok (.putfield 45, 3) := by decide +kernel
theorem dX3_declare_20 : decode cX3_declare 20 = .ok (.return_, 1) := by decide +kernel
theorem dX3_addUse_0 : decode cX3_addUse 0 = .ok (.aload_n 0, 1) := by decide +kernel
theorem dX3_addUse_1 : decode cX3_addUse 1 = .ok (.getfield 12, 3) := by decide +kernel
theorem dX3_addUse_4 : decode cX3_addUse 4 = .ok (.iload_n 1, 1) := by decide +kernel
theorem dX3_addUse_5 : decode cX3_addUse 5 = .ok (.invokevirtual 177, 3) := by decide +kernel
theorem dX3_addUse_8 : decode cX3_addUse 8 = .ok (.istore 5, 2) := by decide +kernel
theorem dX3_addUse_10 : decode cX3_addUse 10 = .ok (.iload 5, 2) := by decide +kernel
theorem dX3_addUse_12 : decode cX3_addUse 12 = .ok (.ifCond .ge 8, 3) := by decide +kernel
theorem dX3_addUse_15 : decode cX3_addUse 15 = .ok (.aload_n 0, 1) := by decide +kernel
theorem dX3_addUse_16 : decode cX3_addUse 16 = .ok (.iconst 0, 1) := by decide +kernel
theorem dX3_addUse_17 : decode cX3_addUse 17 = .ok (.putfield 45, 3) := by decide +kernel
theorem dX3_addUse_20 : decode cX3_addUse 20 = .ok (.aload_n 0, 1) := by decide +kernel
theorem dX3_addUse_21 : decode cX3_addUse 21 = .ok (.getfield 12, 3) := by decide +kernel
theorem dX3_addUse_24 : decode cX3_addUse 24 = .ok (.iload 5, 2) := by decide +kernel
theorem dX3_addUse_26 : decode cX3_addUse 26 = .ok (.invokevirtual 181, 3) := by decide +kernel
theorem dX3_addUse_29 : decode cX3_addUse 29 = .ok (.istore 6, 2) := by decide +kernel
theorem dX3_addUse_31 : decode cX3_addUse 31 = .ok (.iload 6, 2) := by decide +kernel
theorem dX3_addUse_33 : decode cX3_addUse 33 = .ok (.ifCond .ne 7, 3) := by decide +kernel
theorem dX3_addUse_36 : decode cX3_addUse 36 = .ok (.iload_n 2, 1) := by decide +kernel
theorem dX3_addUse_37 : decode cX3_addUse 37 = .ok (.goto 15, 3) := by decide +kernel
theorem dX3_addUse_40 : decode cX3_addUse 40 = .ok (.iload 6, 2) := by decide +kernel
theorem dX3_addUse_42 : decode cX3_addUse 42 = .ok (.iconst 1, 1) := by decide +kernel
theorem dX3_addUse_43 : decode cX3_addUse 43 = .ok (.if_icmp .ne 7, 3) := by decide +kernel
theorem dX3_addUse_46 : decode cX3_addUse 46 = .ok (.iload_n 3, 1) := by decide +kernel
theorem dX3_addUse_47 : decode cX3_addUse 47 = .ok (.goto 5, 3) := by decide +kernel
theorem dX3_addUse_50 : decode cX3_addUse 50 = .ok (.iload 4, 2) := by decide +kernel
theorem dX3_addUse_52 : decode cX3_addUse 52 = .ok (.istore 7, 2) := by decide +kernel
theorem dX3_addUse_54 : decode cX3_addUse 54 = .ok (.aload_n 0, 1) := by decide +kernel
theorem dX3_addUse_55 : decode cX3_addUse 55 = .ok (.getfield 18, 3) := by decide +kernel
theorem dX3_addUse_58 : decode cX3_addUse 58 = .ok (.iload 7, 2) := by decide +kernel
theorem dX3_addUse_60 : decode cX3_addUse 60 = .ok (.aload_n 0, 1) := by decide +kernel
theorem dX3_addUse_61 : decode cX3_addUse 61 = .ok (.getfield 12, 3) := by decide +kernel
theorem dX3_addUse_64 : decode cX3_addUse 64 = .ok (.iload 5, 2) := by decide +kernel
theorem dX3_addUse_66 : decode cX3_addUse 66 = .ok (.invokevirtual 184, 3) := by decide +kernel
theorem dX3_addUse_69 : decode cX3_addUse 69 = .ok (.aload_n 0, 1) := by decide +kernel
theorem dX3_addUse_70 : decode cX3_addUse 70 = .ok (.getfield 12, 3) := by decide +kernel
theorem dX3_addUse_73 : decode cX3_addUse 73 = .ok (.iload 5, 2) := by decide +kernel
theorem dX3_addUse_75 : decode cX3_addUse 75 = .ok (.invokevirtual 187, 3) := by decide +kernel
theorem dX3_addUse_78 : decode cX3_addUse 78 = .ok (.invokevirtual 57, 3) := by decide +kernel
theorem dX3_addUse_81 : decode cX3_addUse 81 = .ok (.pop, 1) := by decide +kernel
theorem dX3_addUse_82 : decode cX3_addUse 82 = .ok (.return_, 1) := by decide +kernel
theorem dX3_addTarget_0 : decode cX3_addTarget 0 = .ok (.aload_n 0, 1) := by decide +kernel
theorem dX3_addTarget_1 : decode cX3_addTarget 1 = .ok (.getfield 12, 3) := by decide +kernel
theorem dX3_addTarget_4 : decode cX3_addTarget 4 = .ok (.iload_n 1, 1) := by decide +kernel
theorem dX3_addTarget_5 : decode cX3_addTarget 5 = .ok (.invokevirtual 177, 3) := by decide +kernel
theorem dX3_addTarget_8 : decode cX3_addTarget 8 = .ok (.istore_n 2, 1) := by decide +kernel
theorem dX3_addTarget_9 : decode cX3_addTarget 9 = .ok (.aload_n 0, 1) := by decide +kernel
theorem dX3_addTarget_10 : decode cX3_addTarget 10 = .ok (.getfield 12, 3) := by decide +kernel
theorem dX3_addTarget_13 : decode cX3_addTarget 13 = .ok (.iload_n 2, 1) := by decide +kernel
theorem dX3_addTarget_14 : decode cX3_addTarget 14 = .ok (.invokevirtual 190, 3) := by decide +kernel
theorem dX3_addTarget_17 : decode cX3_addTarget 17 = .ok (.ifCond .eq 27, 3) := by decide +kernel
theorem dX3_addTarget_20 : decode cX3_addTarget 20 = .ok (.aload_n 0, 1) := by decide +kernel
theorem dX3_addTarget_21 : decode cX3_addTarget 21 = .ok (.getfield 18, 3) := by decide +kernel
theorem dX3_addTarget_24 : decode cX3_addTarget 24 = .ok (.bipush 6, 2) := by decide +kernel
theorem dX3_addTarget_26 : decode cX3_addTarget 26 = .ok (.iconst 0, 1) := by decide +kernel
theorem dX3_addTarget_27 : decode cX3_addTarget 27 = .ok (.aload_n 0, 1) := by decide +kernel
theorem dX3_addTarget_28 : decode cX3_addTarget 28 = .ok (.getfield 12, 3) := by decide +kernel
theorem dX3_addTarget_31 : decode cX3_addTarget 31 = .ok (.iload_n 2, 1) := by decide +kernel
theorem dX3_addTarget_32 : decode cX3_addTarget 32 = .ok (.invokevirtual 187, 3) := by decide +kernel
theorem dX3_addTarget_35 : decode cX3_addTarget 35 = .ok (.iconst 1, 1) := by decide +kernel
theorem dX3_addTarget_36 : decode cX3_addTarget 36 = .ok (.isub, 1) := by decide +kernel
theorem dX3_addTarget_37 : decode cX3_addTarget 37 = .ok (.invokevirtual 57, 3) := by decide +kernel
theorem dX3_addTarget_40 : decode cX3_addTarget 40 = .ok (.pop, 1) := by decide +kernel
theorem dX3_addTarget_41 : decode cX3_addTarget 41 = .ok (.goto 14, 3) := by decide +kernel
theorem dX3_addTarget_44 : decode cX3_addTarget 44 = .ok (.aload_n 0, 1) := by decide +kernel
theorem dX3_addTarget_45 : decode cX3_addTarget 45 = .ok (.iload_n 1, 1) := by decide +kernel
theorem dX3_addTarget_46 : decode cX3_addTarget 46 = .ok (.bipush 6, 2) := by decide +kernel
theorem dX3_addTarget_48 : decode cX3_addTarget 48 = .ok (.bipush 7, 2) := by decide +kernel
theorem dX3_addTarget_50 : decode cX3_addTarget 50 = .ok (.bipush 8, 2) := by decide +kernel
theorem dX3_addTarget_52 : decode cX3_addTarget 52 = .ok (.invokevirtual 95, 3) := by decide +kernel
theorem dX3_addTarget_55 : decode cX3_addTarget 55 = .ok (.return_, 1) := by decide +kernel
end
section
theorem dX4_init_0 : decode cX4_init 0 = .ok (.aload_n 0, 1) := by decide +kernel
theorem dX4_init_1 : decode cX4_init 1 = .ok (.invokespecial 3, 3) := by decide +kernel
theorem dX4_init_4 : decode cX4_init 4 = .ok (.aload_n 0, 1) := by decide +kernel
theorem dX4_init_5 : decode cX4_init 5 = .ok (.sipush 136, 3) := by decide +kernel
theorem dX4_init_8 : decode cX4_init 8 = .ok (.newarray .int, 2) := by decide +kernel
theorem dX4_init_10 : decode cX4_init 10 = .ok (.putfield 9, 3) := by decide +kernel
theorem dX4_init_13 : decode cX4_init 13 = .ok (.aload_n 0, 1) := by decide +kernel
theorem dX4_init_14 : decode cX4_init 14 = .ok (.sipush 136, 3) := by decide +kernel
theorem dX4_init_17 : decode cX4_init 17 = .ok (.newarray .int, 2) := by decide +kernel
theorem dX4_init_19 : decode cX4_init 19 = .ok (.putfield 15, 3) := by decide +kernel
theorem dX4_init_22 : decode cX4_init 22 = .ok (.aload_n 0, 1) := by decide +kernel
theorem dX4_init_23 : decode cX4_init 23 = .ok (.sipush 136, 3) := by decide +kernel
theorem dX4_init_26 : decode cX4_init 26 = .ok (.newarray .int, 2) := by decide +kernel
theorem dX4_init_28 : decode cX4_init 28 = .ok (.putfield 18, 3) := by decide +kernel
theorem dX4_init_31 : decode cX4_init 31 = .ok (.aload_n 0, 1) := by decide +kernel
theorem dX4_init_32 : decode cX4_init 32 = .ok (.sipush 136, 3) := by decide +kernel
theorem dX4_init_35 : decode cX4_init 35 = .ok (.newarray .int, 2) := by decide +kernel
theorem dX4_init_37 : decode cX4_init 37 = .ok (.putfield 21, 3) := by decide +kernel
theorem dX4_init_40 : decode cX4_init 40 = .ok (.aload_n 0, 1) := by decide +kernel
theorem dX4_init_41 : decode cX4_init 41 = .ok (.bipush 11, 2) := by decide +kernel
theorem dX4_init_43 : decode cX4_init 43 = .ok (.newarray .int, 2) := by decide +kernel
theorem dX4_init_45 : decode cX4_init 45 = .ok (.putfield 24, 3) := by decide +kernel
theorem dX4_init_48 : decode cX4_init 48 = .ok (.return_, 1) := by decide +kernel
theorem dX4_clear_0 : decode cX4_clear 0 = .ok (.aload_n 0, 1) := by decide +kernel
theorem dX4_clear_1 : decode cX4_clear 1 = .ok (.iconst 0, 1) := by decide +kernel
theorem dX4_clear_2 : decode cX4_clear 2 = .ok (.putfield 27, 3) := by decide +kernel
theorem dX4_clear_5 : decode cX4_clear 5 = .ok (.aload_n 0, 1) := by decide +kernel
theorem dX4_clear_6 : decode cX4_clear 6 = .ok (.iconst 0, 1) := by decide +kernel
theorem dX4_clear_7 : decode cX4_clear 7 = .ok (.putfield 31, 3) := by decide +kernel
theorem dX4_clear_10 : decode cX4_clear 10 = .ok (.aload_n 0, 1) := by decide +kernel
theorem dX4_clear_11 : decode cX4_clear 11 = .ok (.bipush 7, 2) := by decide +kernel
theorem dX4_clear_13 : decode cX4_clear 13 = .ok (.putfield 34, 3) := by decide +kernel
theorem dX4_clear_16 : decode cX4_clear 16 = .ok (.return_, 1) := by decide +kernel
theorem dX4_declare_0 : decode cX4_declare 0 = .ok (.iconst 1, 1) := by decide +kernel
theorem dX4_declare_1 : decode cX4_declare 1 = .ok (.istore 5, 2) := by decide +kernel
theorem dX4_declare_3 : decode cX4_declare 3 = .ok (.iload 4, 2) := by decide +kernel
theorem dX4_declare_5 : decode cX4_declare 5 = .ok (.iconst 0, 1) := by decide +kernel
theorem dX4_declare_6 : decode cX4_declare 6 = .ok (.invokestatic 37, 3) := by decide +kernel
theorem dX4_declare_9 : decode cX4_declare 9 = .ok (.istore 6, 2) := by decide +kernel
theorem dX4_declare_11 : decode cX4_declare 11 = .ok (.iload 6, 2) := by decide +kernel
theorem dX4_declare_13 : decode cX4_declare 13 = .ok (.aload_n 0, 1) := by decide +kernel
theorem dX4_declare_14 : decode cX4_declare 14 = .ok (.getfield 27, 3) := by decide +kernel
theorem dX4_declare_17 : decode cX4_declare 17 = .ok (.if_icmp .ge 31, 3) := by decide +kernel
theorem dX4_declare_20 : decode cX4_declare 20 = .ok (.iload 6, 2) := by decide +kernel
theorem dX4_declare_22 : decode cX4_declare 22 = .ok (.sipush 136, 3) := by decide +kernel
theorem dX4_declare_25 : decode cX4_declare 25 = .ok (.if_icmp .ge 23, 3) := by decide +kernel
theorem dX4_declare_28 : decode cX4_declare 28 = .ok (.aload_n 0, 1) := by decide +kernel
theorem dX4_declare_29 : decode cX4_declare 29 = .ok (.getfield 9, 3) := by decide +kernel
theorem dX4_declare_32 : decode cX4_declare 32 = .ok (.iload 6, 2) := by decide +kernel
theorem dX4_declare_34 : decode cX4_declare 34 = .ok (.iaload, 1) := by decide +kernel
theorem dX4_declare_35 : decode cX4_declare 35 = .ok (.iload_n 1, 1) := by decide +kernel
theorem dX4_declare_36 : decode cX4_declare 36 = .ok (.if_icmp .ne 6, 3) := by decide +kernel
theorem dX4_declare_39 : decode cX4_declare 39 = .ok (.iconst 0, 1) := by decide +kernel
theorem dX4_declare_40 : decode cX4_declare 40 = .ok (.istore 5, 2) := by decide +kernel
theorem dX4_declare_42 : decode cX4_declare 42 = .ok (.iinc 6 1, 3) := by decide +kernel
theorem dX4_declare_45 : decode cX4_declare 45 = .ok (.goto (-34), 3) := by decide +kernel
theorem dX4_declare_48 : decode cX4_declare 48 = .ok (.aload_n 0, 1) := by decide +kernel
theorem dX4_declare_49 : decode cX4_declare 49 = .ok (.getfield 27, 3) := by decide +kernel
theorem dX4_declare_52 : decode cX4_declare 52 = .ok (.sipush 136, 3) := by decide +kernel
theorem dX4_declare_55 : decode cX4_declare 55 = .ok (.if_icmp .ge 56, 3) := by decide +kernel
theorem dX4_declare_58 : decode cX4_declare 58 = .ok (.aload_n 0, 1) := by decide +kernel
theorem dX4_declare_59 : decode cX4_declare 59 = .ok (.getfield 9, 3) := by decide +kernel
theorem dX4_declare_62 : decode cX4_declare 62 = .ok (.aload_n 0, 1) := by decide +kernel
theorem dX4_declare_63 : decode cX4_declare 63 = .ok (.getfield 27, 3) := by decide +kernel
theorem dX4_declare_66 : decode cX4_declare 66 = .ok (.iload_n 1, 1) := by decide +kernel
theorem dX4_declare_67 : decode cX4_declare 67 = .ok (.iastore, 1) := by decide +kernel
theorem dX4_declare_68 : decode cX4_declare 68 = .ok (.aload_n 0, 1) := by decide +kernel
theorem dX4_declare_69 : decode cX4_declare 69 = .ok (.getfield 15, 3) := by decide +kernel
theorem dX4_declare_72 : decode cX4_declare 72 = .ok (.aload_n 0, 1) := by decide +kernel
theorem dX4_declare_73 : decode cX4_declare 73 = .ok (.getfield 27, 3) := by decide +kernel
theorem dX4_declare_76 : decode cX4_declare 76 = .ok (.iload_n 2, 1) := by decide +kernel
theorem dX4_declare_77 : decode cX4_declare 77 = .ok (.iastore, 1) := by decide +kernel
theorem dX4_declare_78 : decode cX4_declare 78 = .ok (.aload_n 0, 1) := by decide +kernel
theorem dX4_declare_79 : decode cX4_declare 79 = .ok (.getfield 18, 3) := by decide +kernel
theorem dX4_declare_82 : decode cX4_declare 82 = .ok (.aload_n 0, 1) := by decide +kernel
theorem dX4_declare_83 : decode cX4_declare 83 = .ok (.getfield 27, 3) := by decide +kernel
theorem dX4_declare_86 : decode cX4_declare 86 = .ok (.aload_n 0, 1) := by decide +kernel
theorem dX4_declare_87 : decode cX4_declare 87 = .ok (.getfield 31, 3) := by decide +kernel
theorem dX4_declare_90 : decode cX4_declare 90 = .ok (.iastore, 1) := by decide +kernel
theorem dX4_declare_91 : decode cX4_declare 91 = .ok (.aload_n 0, 1) := by decide +kernel
theorem dX4_declare_92 : decode cX4_declare 92 = .ok (.getfield 21, 3) := by decide +kernel
theorem dX4_declare_95 : decode cX4_declare 95 = .ok (.aload_n 0, 1) := by decide +kernel
theorem dX4_declare_96 : decode cX4_declare 96 = .ok (.getfield 27, 3) := by decide +kernel
theorem dX4_declare_99 : decode cX4_declare 99 = .ok (.iload_n 3, 1) := by decide +kernel
theorem dX4_declare_100 : decode cX4_declare 100 = .ok (.iastore, 1) := by decide +kernel
theorem dX4_declare_101 : decode cX4_declare 101 = .ok (.aload_n 0, 1) := by decide +kernel
theorem dX4_declare_102 : decode cX4_declare 102 = .ok (.dup, 1) := by decide +kernel
theorem dX4_declare_103 : decode cX4_declare 103 = .ok (.getfield 27, 3) := by decide +kernel
theorem dX4_declare_106 : decode cX4_declare 106 = .ok (.iconst 1, 1) := by decide +kernel
theorem dX4_declare_107 : decode cX4_declare 107 = .ok (.iadd, 1) := by decide +kernel
theorem dX4_declare_108 : decode cX4_declare 108 = .ok (.putfield 27, 3) := by decide +kernel
theorem dX4_declare_111 : decode cX4_declare 111 = .ok (.iload 5, 2) := by decide +kernel
theorem dX4_declare_113 : decode cX4_declare 113 = .ok (.ireturn, 1) := by decide +kernel
theorem dX4_find_0 : decode cX4_find 0 = .ok (.aload_n 0, 1) := by decide +kernel
theorem dX4_find_1 : decode cX4_find 1 = .ok (.getfield 27, 3) := by decide +kernel
theorem dX4_find_4 : decode cX4_find 4 = .ok (.sipush 136, 3) := by decide +kernel
theorem dX4_find_7 : decode cX4_find 7 = .ok (.invokestatic 43, 3) := by decide +kernel
theorem dX4_find_10 : decode cX4_find 10 = .ok (.iconst 1, 1) := by decide +kernel
theorem dX4_find_11 : decode cX4_find 11 = .ok (.isub, 1) := by decide +kernel
theorem dX4_find_12 : decode cX4_find 12 = .ok (.istore_n 2, 1) := by decide +kernel
theorem dX4_find_13 : decode cX4_find 13 = .ok (.iload_n 2, 1) := by decide +kernel
theorem dX4_find_14 : decode cX4_find 14 = .ok (.ifCond .lt 21, 3) := by decide +kernel
theorem dX4_find_17 : decode cX4_find 17 = .ok (.aload_n 0, 1) := by decide +kernel
theorem dX4_find_18 : decode cX4_find 18 = .ok (.getfield 9, 3) := by decide +kernel
theorem dX4_find_21 : decode cX4_find 21 = .ok (.iload_n 2, 1) := by decide +kernel
theorem dX4_find_22 : decode cX4_find 22 = .ok (.iaload, 1) := by decide +kernel
theorem dX4_find_23 : decode cX4_find 23 = .ok (.iload_n 1, 1) := by decide +kernel
theorem dX4_find_24 : decode cX4_find 24 = .ok (.if_icmp .ne 5, 3) := by decide +kernel
theorem dX4_find_27 : decode cX4_find 27 = .ok (.iload_n 2, 1) := by decide +kernel
theorem dX4_find_28 : decode cX4_find 28 = .ok (.ireturn, 1) := by decide +kernel
theorem dX4_find_29 : decode cX4_find 29 = .ok (.iinc 2 (-1), 3) := by decide +kernel
theorem dX4_find_32 : decode cX4_find 32 = .ok (.goto (-19), 3) := by decide +kernel
theorem dX4_find_35 : decode cX4_find 35 = .ok (.iconst (-1), 1) := by decide +kernel
theorem dX4_find_36 : decode cX4_find 36 = .ok (.ireturn, 1) := by decide +kernel
theorem dX4_isEntry_0 : decode cX4_isEntry 0 = .ok (.iload_n 1, 1) := by decide +kernel
theorem dX4_isEntry_1 : decode cX4_isEntry 1 = .ok (.ifCond .lt 22, 3) := by decide +kernel
theorem dX4_isEntry_4 : decode cX4_isEntry 4 = .ok (.iload_n 1, 1) := by decide +kernel
theorem dX4_isEntry_5 : decode cX4_isEntry 5 = .ok (.aload_n 0, 1) := by decide +kernel
theorem dX4_isEntry_6 : decode cX4_isEntry 6 = .ok (.getfield 27, 3) := by decide +kernel
theorem dX4_isEntry_9 : decode cX4_isEntry 9 = .ok (.if_icmp .ge 14, 3) := by decide +kernel
theorem dX4_isEntry_12 : decode cX4_isEntry 12 = .ok (.iload_n 1, 1) := by decide +kernel
theorem dX4_isEntry_13 : decode cX4_isEntry 13 = .ok (.sipush 136, 3) := by decide +kernel
theorem dX4_isEntry_16 : decode cX4_isEntry 16 = .ok (.if_icmp .ge 7, 3) := by decide +kernel
theorem dX4_isEntry_19 : decode cX4_isEntry 19 = .ok (.iconst 1, 1) := by decide +kernel
theorem dX4_isEntry_20 : decode cX4_isEntry 20 = .ok (.goto 4, 3) := by decide +kernel
theorem dX4_isEntry_23 : decode cX4_isEntry 23 = .ok (.iconst 0, 1) := by decide +kernel
theorem dX4_isEntry_24 : decode cX4_isEntry 24 = .ok (.ireturn, 1) := by decide +kernel
theorem dX4_kindOf_0 : decode cX4_kindOf 0 = .ok (.aload_n 0, 1) := by decide +kernel
theorem dX4_kindOf_1 : decode cX4_kindOf 1 = .ok (.iload_n 1, 1) := by decide +kernel
theorem dX4_kindOf_2 : decode cX4_kindOf 2 = .ok (.invokevirtual 46, 3) := by decide +kernel
theorem dX4_kindOf_5 : decode cX4_kindOf 5 = .ok (.ifCond .eq 12, 3) := by decide +kernel
theorem dX4_kindOf_8 : decode cX4_kindOf 8 = .ok (.aload_n 0, 1) := by decide +kernel
theorem dX4_kindOf_9 : decode cX4_kindOf 9 = .ok (.getfield 15, 3) := by decide +kernel
theorem dX4_kindOf_12 : decode cX4_kindOf 12 = .ok (.iload_n 1, 1) := by decide +kernel
theorem dX4_kindOf_13 : decode cX4_kindOf 13 = .ok (.iaload, 1) := by decide +kernel
theorem dX4_kindOf_14 : decode cX4_kindOf 14 = .ok (.goto 4, 3) := by decide +kernel
theorem dX4_kindOf_17 : decode cX4_kindOf 17 = .ok (.iconst 0, 1) := by decide +kernel
theorem dX4_kindOf_18 : decode cX4_kindOf 18 = .ok (.ireturn, 1) := by decide +kernel
theorem dX4_slotOf_0 : decode cX4_slotOf 0 = .ok (.aload_n 0, 1) := by decide +kernel
theorem dX4_slotOf_1 : decode cX4_slotOf 1 = .ok (.iload_n 1, 1) := by decide +kernel
theorem dX4_slotOf_2 : decode cX4_slotOf 2 = .ok (.invokevirtual 46, 3) := by decide +kernel
theorem dX4_slotOf_5 : decode cX4_slotOf 5 = .ok (.ifCond .eq 12, 3) := by decide +kernel
theorem dX4_slotOf_8 : decode cX4_slotOf 8 = .ok (.aload_n 0, 1) := by decide +kernel
theorem dX4_slotOf_9 : decode cX4_slotOf 9 = .ok (.getfield 21, 3) := by decide +kernel
theorem dX4_slotOf_12 : decode cX4_slotOf 12 = .ok (.iload_n 1, 1) := by decide +kernel
theorem dX4_slotOf_13 : decode cX4_slotOf 13 = .ok (.iaload, 1) := by decide +kernel
theorem dX4_slotOf_14 : decode cX4_slotOf 14 = .ok (.goto 4, 3) := by decide +kernel
theorem dX4_slotOf_17 : decode cX4_slotOf 17 = .ok (.iconst 0, 1) := by decide +kernel
theorem dX4_slotOf_18 : decode cX4_slotOf 18 = .ok (.ireturn, 1) := by decide +kernel
theorem dX4_hopsTo_0 : decode cX4_hopsTo 0 = .ok (.aload_n 0, 1) := by decide +kernel
theorem dX4_hopsTo_1 : decode cX4_hopsTo 1 = .ok (.iload_n 1, 1) := by decide +kernel
theorem dX4_hopsTo_2 : decode cX4_hopsTo 2 = .ok (.invokevirtual 46, 3) := by decide +kernel
theorem dX4_hopsTo_5 : decode cX4_hopsTo 5 = .ok (.ifCond .eq 17, 3) := by decide +kernel
theorem dX4_hopsTo_8 : decode cX4_hopsTo 8 = .ok (.aload_n 0, 1) := by decide +kernel
theorem dX4_hopsTo_9 : decode cX4_hopsTo 9 = .ok (.getfield 31, 3) := by decide +kernel
theorem dX4_hopsTo_12 : decode cX4_hopsTo 12 = .ok (.aload_n 0, 1) := by decide +kernel
theorem dX4_hopsTo_13 : decode cX4_hopsTo 13 = .ok (.getfield 18, 3) := by decide +kernel
theorem dX4_hopsTo_16 : decode cX4_hopsTo 16 = .ok (.iload_n 1, 1) := by decide +kernel
theorem dX4_hopsTo_17 : decode cX4_hopsTo 17 = .ok (.iaload, 1) := by decide +kernel
theorem dX4_hopsTo_18 : decode cX4_hopsTo 18 = .ok (.isub, 1) := by decide +kernel
theorem dX4_hopsTo_19 : decode cX4_hopsTo 19 = .ok (.goto 4, 3) := by decide +kernel
theorem dX4_hopsTo_22 : decode cX4_hopsTo 22 = .ok (.iconst 0, 1) := by decide +kernel
theorem dX4_hopsTo_23 : decode cX4_hopsTo 23 = .ok (.ireturn, 1) := by decide +kernel
theorem dX4_enterBody_0 : decode cX4_enterBody 0 = .ok (.aload_n 0, 1) := by decide +kernel
theorem dX4_enterBody_1 : decode cX4_enterBody 1 = .ok (.dup, 1) := by decide +kernel
theorem dX4_enterBody_2 : decode cX4_enterBody 2 = .ok (.getfield 31, 3) := by decide +kernel
theorem dX4_enterBody_5 : decode cX4_enterBody 5 = .ok (.iconst 1, 1) := by decide +kernel
theorem dX4_enterBody_6 : decode cX4_enterBody 6 = .ok (.iadd, 1) := by decide +kernel
theorem dX4_enterBody_7 : decode cX4_enterBody 7 = .ok (.putfield 31, 3) := by decide +kernel
theorem dX4_enterBody_10 : decode cX4_enterBody 10 = .ok (.aload_n 0, 1) := by decide +kernel
theorem dX4_enterBody_11 : decode cX4_enterBody 11 = .ok (.getfield 31, 3) := by decide +kernel
theorem dX4_enterBody_14 : decode cX4_enterBody 14 = .ok (.ifCond .lt 22, 3) := by decide +kernel
theorem dX4_enterBody_17 : decode cX4_enterBody 17 = .ok (.aload_n 0, 1) := by decide +kernel
theorem dX4_enterBody_18 : decode cX4_enterBody 18 = .ok (.getfield 31, 3) := by decide +kernel
theorem dX4_enterBody_21 : decode cX4_enterBody 21 = .ok (.bipush 10, 2) := by decide +kernel
theorem dX4_enterBody_23 : decode cX4_enterBody 23 = .ok (.if_icmp .gt 13, 3) := by decide +kernel
theorem dX4_enterBody_26 : decode cX4_enterBody 26 = .ok (.aload_n 0, 1) := by decide +kernel
theorem dX4_enterBody_27 : decode cX4_enterBody 27 = .ok (.getfield 24, 3) := by decide +kernel
theorem dX4_enterBody_30 : decode cX4_enterBody 30 = .ok (.aload_n 0, 1) := by decide +kernel
theorem dX4_enterBody_31 : decode cX4_enterBody 31 = .ok (.getfield 31, 3) := by decide +kernel
theorem dX4_enterBody_34 : decode cX4_enterBody 34 = .ok (.iload_n 1, 1) := by decide +kernel
theorem dX4_enterBody_35 : decode cX4_enterBody 35 = .ok (.iastore, 1) := by decide +kernel
theorem dX4_enterBody_36 : decode cX4_enterBody 36 = .ok (.aload_n 0, 1) := by decide +kernel
theorem dX4_enterBody_37 : decode cX4_enterBody 37 = .ok (.bipush 7, 2) := by decide +kernel
theorem dX4_enterBody_39 : decode cX4_enterBody 39 = .ok (.putfield 34, 3) := by decide +kernel
theorem dX4_enterBody_42 : decode cX4_enterBody 42 = .ok (.return_, 1) := by decide +kernel
theorem dX4_isAroundHere_0 : decode cX4_isAroundHere 0 = .ok (.aload_n 0, 1) := by decide +kernel
theorem dX4_isAroundHere_1 : decode cX4_isAroundHere 1 = .ok (.iload_n 1, 1) := by decide +kernel
theorem dX4_isAroundHere_2 : decode cX4_isAroundHere 2 = .ok (.invokevirtual 46, 3) := by decide +kernel
theorem dX4_isAroundHere_5 : decode cX4_isAroundHere 5 = .ok (.ifCond .eq 13, 3) := by decide +kernel
theorem dX4_isAroundHere_8 : decode cX4_isAroundHere 8 = .ok (.aload_n 0, 1) := by decide +kernel
theorem dX4_isAroundHere_9 : decode cX4_isAroundHere 9 = .ok (.getfield 15, 3) := by decide +kernel
theorem dX4_isAroundHere_12 : decode cX4_isAroundHere 12 = .ok (.iload_n 1, 1) := by decide +kernel
theorem dX4_isAroundHere_13 : decode cX4_isAroundHere 13 = .ok (.iaload, 1) := by decide +kernel
theorem dX4_isAroundHere_14 : decode cX4_isAroundHere 14 = .ok (.iconst 2, 1) := by decide +kernel
theorem dX4_isAroundHere_15 : decode cX4_isAroundHere 15 = .ok (.if_icmp .eq 5, 3) := by decide +kernel
theorem dX4_isAroundHere_18 : decode cX4_isAroundHere 18 = .ok (.iconst 0, 1) := by decide +kernel
theorem dX4_isAroundHere_19 : decode cX4_isAroundHere 19 = .ok (.ireturn, 1) := by decide +kernel
theorem dX4_isAroundHere_20 : decode cX4_isAroundHere 20 = .ok (.aload_n 0, 1) := by decide +kernel
theorem dX4_isAroundHere_21 : decode cX4_isAroundHere 21 = .ok (.getfield 18, 3) := by decide +kernel
theorem dX4_isAroundHere_24 : decode cX4_isAroundHere 24 = .ok (.iload_n 1, 1) := by decide +kernel
theorem dX4_isAroundHere_25 : decode cX4_isAroundHere 25 = .ok (.iaload, 1) := by decide +kernel
theorem dX4_isAroundHere_26 : decode cX4_isAroundHere 26 = .ok (.iconst 1, 1) := by decide +kernel
theorem dX4_isAroundHere_27 : decode cX4_isAroundHere 27 = .ok (.iadd, 1) := by decide +kernel
theorem dX4_isAroundHere_28 : decode cX4_isAroundHere 28 = .ok (.istore_n 2, 1) := by decide +kernel
theorem dX4_isAroundHere_29 : decode cX4_isAroundHere 29 = .ok (.iload_n 2, 1) := by decide +kernel
theorem dX4_isAroundHere_30 : decode cX4_isAroundHere 30 = .ok (.iconst 1, 1) := by decide +kernel
theorem dX4_isAroundHere_31 : decode cX4_isAroundHere 31 = .ok (.if_icmp .lt 36, 3) := by decide +kernel
theorem dX4_isAroundHere_34 : decode cX4_isAroundHere 34 = .ok (.iload_n 2, 1) := by decide +kernel
theorem dX4_isAroundHere_35 : decode cX4_isAroundHere 35 = .ok (.aload_n 0, 1) := by decide +kernel
theorem dX4_isAroundHere_36 : decode cX4_isAroundHere 36 = .ok (.getfield 31, 3) := by decide +kernel
theorem dX4_isAroundHere_39 : decode cX4_isAroundHere 39 = .ok (.if_icmp .gt 28, 3) := by decide +kernel
theorem dX4_isAroundHere_42 : decode cX4_isAroundHere 42 = .ok (.iload_n 2, 1) := by decide +kernel
theorem dX4_isAroundHere_43 : decode cX4_isAroundHere 43 = .ok (.bipush 10, 2) := by decide +kernel
theorem dX4_isAroundHere_45 : decode cX4_isAroundHere 45 = .ok (.if_icmp .gt 22, 3) := by decide +kernel
theorem dX4_isAroundHere_48 : decode cX4_isAroundHere 48 = .ok (.aload_n 0, 1) := by decide +kernel
theorem dX4_isAroundHere_49 : decode cX4_isAroundHere 49 = .ok (.getfield 24, 3) := by decide +kernel
theorem dX4_isAroundHere_52 : decode cX4_isAroundHere 52 = .ok (.iload_n 2, 1) := by decide +kernel
theorem dX4_isAroundHere_53 : decode cX4_isAroundHere 53 = .ok (.iaload, 1) := by decide +kernel
theorem dX4_isAroundHere_54 : decode cX4_isAroundHere 54 = .ok (.aload_n 0, 1) := by decide +kernel
theorem dX4_isAroundHere_55 : decode cX4_isAroundHere 55 = .ok (.getfield 21, 3) := by decide +kernel
theorem dX4_isAroundHere_58 : decode cX4_isAroundHere 58 = .ok (.iload_n 1, 1) := by decide +kernel
theorem dX4_isAroundHere_59 : decode cX4_isAroundHere 59 = .ok (.iaload, 1) := by decide +kernel
theorem dX4_isAroundHere_60 : decode cX4_isAroundHere 60 = .ok (.if_icmp .ne 7, 3) := by decide +kernel
theorem dX4_isAroundHere_63 : decode cX4_isAroundHere 63 = .ok (.iconst 1, 1) := by decide +kernel
theorem dX4_isAroundHere_64 : decode cX4_isAroundHere 64 = .ok (.goto 4, 3) := by decide +kernel
theorem dX4_isAroundHere_67 : decode cX4_isAroundHere 67 = .ok (.iconst 0, 1) := by decide +kernel
theorem dX4_isAroundHere_68 : decode cX4_isAroundHere 68 = .ok (.ireturn, 1) := by decide +kernel
end
section
theorem dX5_init_0 : decode cX5_init 0 = .ok (.aload_n 0, 1) := by decide +kernel
theorem dX5_init_1 : decode cX5_init 1 = .ok (.invokespecial 3, 3) := by decide +kernel
theorem dX5_init_4 : decode cX5_init 4 = .ok (.aload_n 0, 1) := by decide +kernel
theorem dX5_init_5 : decode cX5_init 5 = .ok (.sipush 320, 3) := by decide +kernel
theorem dX5_init_8 : decode cX5_init 8 = .ok (.newarray .char, 2) := by decide +kernel
theorem dX5_init_10 : decode cX5_init 10 = .ok (.putfield 9, 3) := by decide +kernel
theorem dX5_init_13 : decode cX5_init 13 = .ok (.aload_n 0, 1) := by decide +kernel
theorem dX5_init_14 : decode cX5_init 14 = .ok (.iconst 0, 1) := by decide +kernel
theorem dX5_init_15 : decode cX5_init 15 = .ok (.putfield 13, 3) := by decide +kernel
theorem dX5_init_18 : decode cX5_init 18 = .ok (.aload_n 0, 1) := by decide +kernel
theorem dX5_init_19 : decode cX5_init 19 = .ok (.new 17, 3) := by decide +kernel
theorem dX5_init_22 : decode cX5_init 22 = .ok (.dup, 1) := by decide +kernel
theorem dX5_init_23 : decode cX5_init 23 = .ok (.invokespecial 19, 3) := by decide +kernel
theorem dX5_init_26 : decode cX5_init 26 = .ok (.putfield 20, 3) := by decide +kernel
theorem dX5_init_29 : decode cX5_init 29 = .ok (.aload_n 0, 1) := by decide +kernel
theorem dX5_init_30 : decode cX5_init 30 = .ok (.new 24, 3) := by decide +kernel
theorem dX5_init_33 : decode cX5_init 33 = .ok (.dup, 1) := by decide +kernel
theorem dX5_init_34 : decode cX5_init 34 = .ok (.invokespecial 26, 3) := by decide +kernel
theorem dX5_init_37 : decode cX5_init 37 = .ok (.putfield 27, 3) := by decide +kernel
theorem dX5_init_40 : decode cX5_init 40 = .ok (.aload_n 0, 1) := by decide +kernel
theorem dX5_init_41 : decode cX5_init 41 = .ok (.new 31, 3) := by decide +kernel
theorem dX5_init_44 : decode cX5_init 44 = .ok (.dup, 1) := by decide +kernel
theorem dX5_init_45 : decode cX5_init 45 = .ok (.invokespecial 33, 3) := by decide +kernel
theorem dX5_init_48 : decode cX5_init 48 = .ok (.putfield 34, 3) := by decide +kernel
theorem dX5_init_51 : decode cX5_init 51 = .ok (.aload_n 0, 1) := by decide +kernel
theorem dX5_init_52 : decode cX5_init 52 = .ok (.new 31, 3) := by decide +kernel
theorem dX5_init_55 : decode cX5_init 55 = .ok (.dup, 1) := by decide +kernel
theorem dX5_init_56 : decode cX5_init 56 = .ok (.invokespecial 33, 3) := by decide +kernel
theorem dX5_init_59 : decode cX5_init 59 = .ok (.putfield 38, 3) := by decide +kernel
theorem dX5_init_62 : decode cX5_init 62 = .ok (.aload_n 0, 1) := by decide +kernel
theorem dX5_init_63 : decode cX5_init 63 = .ok (.iconst 0, 1) := by decide +kernel
theorem dX5_init_64 : decode cX5_init 64 = .ok (.putfield 41, 3) := by decide +kernel
theorem dX5_init_67 : decode cX5_init 67 = .ok (.return_, 1) := by decide +kernel
theorem dX5_write_0 : decode cX5_write 0 = .ok (.iconst 0, 1) := by decide +kernel
theorem dX5_write_1 : decode cX5_write 1 = .ok (.istore_n 3, 1) := by decide +kernel
theorem dX5_write_2 : decode cX5_write 2 = .ok (.iconst 0, 1) := by decide +kernel
theorem dX5_write_3 : decode cX5_write 3 = .ok (.istore 4, 2) := by decide +kernel
theorem dX5_write_5 : decode cX5_write 5 = .ok (.iload 4, 2) := by decide +kernel
theorem dX5_write_7 : decode cX5_write 7 = .ok (.bipush 8, 2) := by decide +kernel
theorem dX5_write_9 : decode cX5_write 9 = .ok (.if_icmp .ge 37, 3) := by decide +kernel
theorem dX5_write_12 : decode cX5_write 12 = .ok (.lload_n 1, 1) := by decide +kernel
theorem dX5_write_13 : decode cX5_write 13 = .ok (.iload 4, 2) := by decide +kernel
theorem dX5_write_15 : decode cX5_write 15 = .ok (.invokestatic 45, 3) := by decide +kernel
theorem dX5_write_18 : decode cX5_write 18 = .ok (.istore 5, 2) := by decide +kernel
theorem dX5_write_20 : decode cX5_write 20 = .ok (.iload 5, 2) := by decide +kernel
theorem dX5_write_22 : decode cX5_write 22 = .ok (.ifCond .ne 6, 3) := by decide +kernel
theorem dX5_write_25 : decode cX5_write 25 = .ok (.goto 21, 3) := by decide +kernel
theorem dX5_write_28 : decode cX5_write 28 = .ok (.iload 5, 2) := by decide +kernel
theorem dX5_write_30 : decode cX5_write 30 = .ok (.bipush 127, 2) := by decide +kernel
theorem dX5_write_32 : decode cX5_write 32 = .ok (.if_icmp .le 5, 3) := by decide +kernel
theorem dX5_write_35 : decode cX5_write 35 = .ok (.iconst (-1), 1) := by decide +kernel
theorem dX5_write_36 : decode cX5_write 36 = .ok (.ireturn, 1) := by decide +kernel
theorem dX5_write_37 : decode cX5_write 37 = .ok (.iinc 3 1, 3) := by decide +kernel
theorem dX5_write_40 : decode cX5_write 40 = .ok (.iinc 4 1, 3) := by decide +kernel
theorem dX5_write_43 : decode cX5_write 43 = .ok (.goto (-38), 3) := by decide +kernel
theorem dX5_write_46 : decode cX5_write 46 = .ok (.aload_n 0, 1) := by decide +kernel
theorem dX5_write_47 : decode cX5_write 47 = .ok (.getfield 13, 3) := by decide +kernel
theorem dX5_write_50 : decode cX5_write 50 = .ok (.iload_n 3, 1) := by decide +kernel
theorem dX5_write_51 : decode cX5_write 51 = .ok (.iadd, 1) := by decide +kernel
theorem dX5_write_52 : decode cX5_write 52 = .ok (.sipush 320, 3) := by decide +kernel
theorem dX5_write_55 : decode cX5_write 55 = .ok (.if_icmp .le 5, 3) := by decide +kernel
theorem dX5_write_58 : decode cX5_write 58 = .ok (.iconst (-1), 1) := by decide +kernel
theorem dX5_write_59 : decode cX5_write 59 = .ok (.ireturn, 1) := by decide +kernel
theorem dX5_write_60 : decode cX5_write 60 = .ok (.iconst 0, 1) := by decide +kernel
theorem dX5_write_61 : decode cX5_write 61 = .ok (.istore 4, 2) := by decide +kernel
theorem dX5_write_63 : decode cX5_write 63 = .ok (.iload 4, 2) := by decide +kernel
theorem dX5_write_65 : decode cX5_write 65 = .ok (.iload_n 3, 1) := by decide +kernel
theorem dX5_write_66 : decode cX5_write 66 = .ok (.if_icmp .ge 28, 3) := by decide +kernel
theorem dX5_write_69 : decode cX5_write 69 = .ok (.aload_n 0, 1) := by decide +kernel
theorem dX5_write_70 : decode cX5_write 70 = .ok (.getfield 9, 3) := by decide +kernel
theorem dX5_write_73 : decode cX5_write 73 = .ok (.aload_n 0, 1) := by decide +kernel
theorem dX5_write_74 : decode cX5_write 74 = .ok (.getfield 13, 3) := by decide +kernel
theorem dX5_write_77 : decode cX5_write 77 = .ok (.iload 4, 2) := by decide +kernel
theorem dX5_write_79 : decode cX5_write 79 = .ok (.iadd, 1) := by decide +kernel
theorem dX5_write_80 : decode cX5_write 80 = .ok (.lload_n 1, 1) := by decide +kernel
theorem dX5_write_81 : decode cX5_write 81 = .ok (.iload 4, 2) := by decide +kernel
theorem dX5_write_83 : decode cX5_write 83 = .ok (.invokestatic 45, 3) := by decide +kernel
theorem dX5_write_86 : decode cX5_write 86 = .ok (.i2c, 1) := by decide +kernel
theorem dX5_write_87 : decode cX5_write 87 = .ok (.castore, 1) := by decide +kernel
theorem dX5_write_88 : decode cX5_write 88 = .ok (.iinc 4 1, 3) := by decide +kernel
theorem dX5_write_91 : decode cX5_write 91 = .ok (.goto (-28), 3) := by decide +kernel
theorem dX5_write_94 : decode cX5_write 94 = .ok (.aload_n 0, 1) := by decide +kernel
theorem dX5_write_95 : decode cX5_write 95 = .ok (.dup, 1) := by decide +kernel
theorem dX5_write_96 : decode cX5_write 96 = .ok (.getfield 13, 3) := by decide +kernel
theorem dX5_write_99 : decode cX5_write 99 = .ok (.iload_n 3, 1) := by decide +kernel
theorem dX5_write_100 : decode cX5_write 100 = .ok (.iadd, 1) := by decide +kernel
theorem dX5_write_101 : decode cX5_write 101 = .ok (.putfield 13, 3) := by decide +kernel
theorem dX5_write_104 : decode cX5_write 104 = .ok (.iload_n 3, 1) := by decide +kernel
theorem dX5_write_105 : decode cX5_write 105 = .ok (.ireturn, 1) := by decide +kernel
theorem dX5_codeAt_0 : decode cX5_codeAt 0 = .ok (.lload_n 0, 1) := by decide +kernel
theorem dX5_codeAt_1 : decode cX5_codeAt 1 = .ok (.bipush 8, 2) := by decide +kernel
theorem dX5_codeAt_3 : decode cX5_codeAt 3 = .ok (.iload_n 2, 1) := by decide +kernel
theorem dX5_codeAt_4 : decode cX5_codeAt 4 = .ok (.imul, 1) := by decide +kernel
theorem dX5_codeAt_5 : decode cX5_codeAt 5 = .ok (.lushr, 1) := by decide +kernel
theorem dX5_codeAt_6 : decode cX5_codeAt 6 = .ok (.l2i, 1) := by decide +kernel
theorem dX5_codeAt_7 : decode cX5_codeAt 7 = .ok (.sipush 255, 3) := by decide +kernel
theorem dX5_codeAt_10 : decode cX5_codeAt 10 = .ok (.iand, 1) := by decide +kernel
theorem dX5_codeAt_11 : decode cX5_codeAt 11 = .ok (.ireturn, 1) := by decide +kernel
theorem dX5_erase_0 : decode cX5_erase 0 = .ok (.aload_n 0, 1) := by decide +kernel
theorem dX5_erase_1 : decode cX5_erase 1 = .ok (.getfield 13, 3) := by decide +kernel
theorem dX5_erase_4 : decode cX5_erase 4 = .ok (.istore_n 1, 1) := by decide +kernel
theorem dX5_erase_5 : decode cX5_erase 5 = .ok (.aload_n 0, 1) := by decide +kernel
theorem dX5_erase_6 : decode cX5_erase 6 = .ok (.iconst 0, 1) := by decide +kernel
theorem dX5_erase_7 : decode cX5_erase 7 = .ok (.putfield 13, 3) := by decide +kernel
theorem dX5_erase_10 : decode cX5_erase 10 = .ok (.iload_n 1, 1) := by decide +kernel
theorem dX5_erase_11 : decode cX5_erase 11 = .ok (.ireturn, 1) := by decide +kernel
theorem dX5_length_0 : decode cX5_length 0 = .ok (.aload_n 0, 1) := by decide +kernel
theorem dX5_length_1 : decode cX5_length 1 = .ok (.getfield 13, 3) := by decide +kernel
theorem dX5_length_4 : decode cX5_length 4 = .ok (.ireturn, 1) := by decide +kernel
theorem dX5_read_0 : decode cX5_read 0 = .ok (.aload_n 0, 1) := by decide +kernel
theorem dX5_read_1 : decode cX5_read 1 = .ok (.getfield 20, 3) := by decide +kernel
theorem dX5_read_4 : decode cX5_read 4 = .ok (.aload_n 0, 1) := by decide +kernel
theorem dX5_read_5 : decode cX5_read 5 = .ok (.getfield 38, 3) := by decide +kernel
theorem dX5_read_8 : decode cX5_read 8 = .ok (.aload_n 0, 1) := by decide +kernel
theorem dX5_read_9 : decode cX5_read 9 = .ok (.getfield 9, 3) := by decide +kernel
theorem dX5_read_12 : decode cX5_read 12 = .ok (.aload_n 0, 1) := by decide +kernel
theorem dX5_read_13 : decode cX5_read 13 = .ok (.getfield 13, 3) := by decide +kernel
theorem dX5_read_16 : decode cX5_read 16 = .ok (.invokevirtual 49, 3) := by decide +kernel
theorem dX5_read_19 : decode cX5_read 19 = .ok (.istore_n 1, 1) := by decide +kernel
theorem dX5_read_20 : decode cX5_read 20 = .ok (.iload_n 1, 1) := by decide +kernel
theorem dX5_read_21 : decode cX5_read 21 = .ok (.ifCond .ne 26, 3) := by decide +kernel
theorem dX5_read_24 : decode cX5_read 24 = .ok (.aload_n 0, 1) := by decide +kernel
theorem dX5_read_25 : decode cX5_read 25 = .ok (.getfield 34, 3) := by decide +kernel
theorem dX5_read_28 : decode cX5_read 28 = .ok (.astore_n 2, 1) := by decide +kernel
theorem dX5_read_29 : decode cX5_read 29 = .ok (.aload_n 0, 1) := by decide +kernel
theorem dX5_read_30 : decode cX5_read 30 = .ok (.aload_n 0, 1) := by decide +kernel
theorem dX5_read_31 : decode cX5_read 31 = .ok (.getfield 38, 3) := by decide +kernel
theorem dX5_read_34 : decode cX5_read 34 = .ok (.putfield 34, 3) := by decide +kernel
theorem dX5_read_37 : decode cX5_read 37 = .ok (.aload_n 0, 1) := by decide +kernel
theorem dX5_read_38 : decode cX5_read 38 = .ok (.aload_n 2, 1) := by decide +kernel
theorem dX5_read_39 : decode cX5_read 39 = .ok (.putfield 38, 3) := by decide +kernel
theorem dX5_read_42 : decode cX5_read 42 = .ok (.aload_n 0, 1) := by decide +kernel
theorem dX5_read_43 : decode cX5_read 43 = .ok (.iconst 1, 1) := by decide +kernel
theorem dX5_read_44 : decode cX5_read 44 = .ok (.putfield 41, 3) := by decide +kernel
theorem dX5_read_47 : decode cX5_read 47 = .ok (.iload_n 1, 1) := by decide +kernel
theorem dX5_read_48 : decode cX5_read 48 = .ok (.ireturn, 1) := by decide +kernel
theorem dX5_run_0 : decode cX5_run 0 = .ok (.aload_n 0, 1) := by decide +kernel
theorem dX5_run_1 : decode cX5_run 1 = .ok (.getfield 41, 3) := by decide +kernel
theorem dX5_run_4 : decode cX5_run 4 = .ok (.ifCond .ne 5, 3) := by decide +kernel
theorem dX5_run_7 : decode cX5_run 7 = .ok (.iconst (-1), 1) := by decide +kernel
theorem dX5_run_8 : decode cX5_run 8 = .ok (.ireturn, 1) := by decide +kernel
theorem dX5_run_9 : decode cX5_run 9 = .ok (.iload_n 1, 1) := by decide +kernel
theorem dX5_run_10 : decode cX5_run 10 = .ok (.ifCond .lt 10, 3) := by decide +kernel
theorem dX5_run_13 : decode cX5_run 13 = .ok (.iload_n 1, 1) := by decide +kernel
theorem dX5_run_14 : decode cX5_run 14 = .ok (.sipush 1000, 3) := by decide +kernel
theorem dX5_run_17 : decode cX5_run 17 = .ok (.if_icmp .le 6, 3) := by decide +kernel
theorem dX5_run_20 : decode cX5_run 20 = .ok (.bipush (-2), 2) := by decide +kernel
theorem dX5_run_22 : decode cX5_run 22 = .ok (.ireturn, 1) := by decide +kernel
theorem dX5_run_23 : decode cX5_run 23 = .ok (.aload_n 0, 1) := by decide +kernel
theorem dX5_run_24 : decode cX5_run 24 = .ok (.getfield 27, 3) := by decide +kernel
theorem dX5_run_27 : decode cX5_run 27 = .ok (.aload_n 0, 1) := by decide +kernel
theorem dX5_run_28 : decode cX5_run 28 = .ok (.getfield 34, 3) := by decide +kernel
theorem dX5_run_31 : decode cX5_run 31 = .ok (.iload_n 1, 1) := by decide +kernel
theorem dX5_run_32 : decode cX5_run 32 = .ok (.invokevirtual 53, 3) := by decide +kernel
theorem dX5_run_35 : decode cX5_run 35 = .ok (.ireturn, 1) := by decide +kernel
theorem dX5_prints_0 : decode cX5_prints 0 = .ok (.aload_n 0, 1) := by decide +kernel
theorem dX5_prints_1 : decode cX5_prints 1 = .ok (.getfield 27, 3) := by decide +kernel
theorem dX5_prints_4 : decode cX5_prints 4 = .ok (.getfield 57, 3) := by decide +kernel
theorem dX5_prints_7 : decode cX5_prints 7 = .ok (.ireturn, 1) := by decide +kernel
theorem dX5_printed_0 : decode cX5_printed 0 = .ok (.aload_n 0, 1) := by decide +kernel
theorem dX5_printed_1 : decode cX5_printed 1 = .ok (.getfield 27, 3) := by decide +kernel
theorem dX5_printed_4 : decode cX5_printed 4 = .ok (.iload_n 1, 1) := by decide +kernel
theorem dX5_printed_5 : decode cX5_printed 5 = .ok (.invokevirtual 60, 3) := by decide +kernel
theorem dX5_printed_8 : decode cX5_printed 8 = .ok (.lreturn, 1) := by decide +kernel
theorem dX5_cost_0 : decode cX5_cost 0 = .ok (.aload_n 0, 1) := by decide +kernel
theorem dX5_cost_1 : decode cX5_cost 1 = .ok (.getfield 27, 3) := by decide +kernel
theorem dX5_cost_4 : decode cX5_cost 4 = .ok (.getfield 64, 3) := by decide +kernel
theorem dX5_cost_7 : decode cX5_cost 7 = .ok (.ireturn, 1) := by decide +kernel
theorem dX5_deepest_0 : decode cX5_deepest 0 = .ok (.aload_n 0, 1) := by decide +kernel
theorem dX5_deepest_1 : decode cX5_deepest 1 = .ok (.getfield 27, 3) := by decide +kernel
theorem dX5_deepest_4 : decode cX5_deepest 4 = .ok (.getfield 67, 3) := by decide +kernel
theorem dX5_deepest_7 : decode cX5_deepest 7 = .ok (.getfield 71, 3) := by decide +kernel
theorem dX5_deepest_10 : decode cX5_deepest 10 = .ok (.ireturn, 1) := by decide +kernel
theorem dX5_calls_0 : decode cX5_calls 0 = .ok (.aload_n 0, 1) := by decide +kernel
theorem dX5_calls_1 : decode cX5_calls 1 = .ok (.getfield 27, 3) := by decide +kernel
theorem dX5_calls_4 : decode cX5_calls 4 = .ok (.getfield 67, 3) := by decide +kernel
theorem dX5_calls_7 : decode cX5_calls 7 = .ok (.getfield 76, 3) := by decide +kernel
theorem dX5_calls_10 : decode cX5_calls 10 = .ok (.ireturn, 1) := by decide +kernel
theorem dX5_about_0 : decode cX5_about 0 = .ok (.aload_n 0, 1) := by decide +kernel
theorem dX5_about_1 : decode cX5_about 1 = .ok (.getfield 41, 3) := by decide +kernel
theorem dX5_about_4 : decode cX5_about 4 = .ok (.ifCond .ne 5, 3) := by decide +kernel
theorem dX5_about_7 : decode cX5_about 7 = .ok (.iconst (-1), 1) := by decide +kernel
theorem dX5_about_8 : decode cX5_about 8 = .ok (.ireturn, 1) := by decide +kernel
theorem dX5_about_9 : decode cX5_about 9 = .ok (.iload_n 1, 1) := by decide +kernel
theorem dX5_about_10 : decode cX5_about 10 = .ok (.tableswitch 62 0 3 #[30, 38, 46, 54], 30) := by decide +kernel
theorem dX5_about_40 : decode cX5_about 40 = .ok (.aload_n 0, 1) := by decide +kernel
theorem dX5_about_41 : decode cX5_about 41 = .ok (.getfield 34, 3) := by decide +kernel
theorem dX5_about_44 : decode cX5_about 44 = .ok (.getfield 79, 3) := by decide +kernel
theorem dX5_about_47 : decode cX5_about 47 = .ok (.ireturn, 1) := by decide +kernel
theorem dX5_about_48 : decode cX5_about 48 = .ok (.aload_n 0, 1) := by decide +kernel
theorem dX5_about_49 : decode cX5_about 49 = .ok (.getfield 34, 3) := by decide +kernel
theorem dX5_about_52 : decode cX5_about 52 = .ok (.getfield 82, 3) := by decide +kernel
theorem dX5_about_55 : decode cX5_about 55 = .ok (.ireturn, 1) := by decide +kernel
theorem dX5_about_56 : decode cX5_about 56 = .ok (.aload_n 0, 1) := by decide +kernel
theorem dX5_about_57 : decode cX5_about 57 = .ok (.getfield 34, 3) := by decide +kernel
theorem dX5_about_60 : decode cX5_about 60 = .ok (.getfield 85, 3) := by decide +kernel
theorem dX5_about_63 : decode cX5_about 63 = .ok (.ireturn, 1) := by decide +kernel
theorem dX5_about_64 : decode cX5_about 64 = .ok (.aload_n 0, 1) := by decide +kernel
theorem dX5_about_65 : decode cX5_about 65 = .ok (.getfield 34, 3) := by decide +kernel
theorem dX5_about_68 : decode cX5_about 68 = .ok (.getfield 88, 3) := by decide +kernel
theorem dX5_about_71 : decode cX5_about 71 = .ok (.ireturn, 1) := by decide +kernel
theorem dX5_about_72 : decode cX5_about 72 = .ok (.iconst (-1), 1) := by decide +kernel
theorem dX5_about_73 : decode cX5_about 73 = .ok (.ireturn, 1) := by decide +kernel
end
section
theorem dX6_init_0 : decode cX6_init 0 = .ok (.aload_n 0, 1) := by decide +kernel
theorem dX6_init_1 : decode cX6_init 1 = .ok (.invokespecial 1, 3) := by decide +kernel
theorem dX6_init_4 : decode cX6_init 4 = .ok (.aload_n 0, 1) := by decide +kernel
theorem dX6_init_5 : decode cX6_init 5 = .ok (.sipush 320, 3) := by decide +kernel
theorem dX6_init_8 : decode cX6_init 8 = .ok (.newarray .int, 2) := by decide +kernel
theorem dX6_init_10 : decode cX6_init 10 = .ok (.putfield 7, 3) := by decide +kernel
theorem dX6_init_13 : decode cX6_init 13 = .ok (.aload_n 0, 1) := by decide +kernel
theorem dX6_init_14 : decode cX6_init 14 = .ok (.sipush 700, 3) := by decide +kernel
theorem dX6_init_17 : decode cX6_init 17 = .ok (.newarray .int, 2) := by decide +kernel
theorem dX6_init_19 : decode cX6_init 19 = .ok (.putfield 13, 3) := by decide +kernel
theorem dX6_init_22 : decode cX6_init 22 = .ok (.aload_n 0, 1) := by decide +kernel
theorem dX6_init_23 : decode cX6_init 23 = .ok (.sipush 700, 3) := by decide +kernel
theorem dX6_init_26 : decode cX6_init 26 = .ok (.newarray .int, 2) := by decide +kernel
theorem dX6_init_28 : decode cX6_init 28 = .ok (.putfield 16, 3) := by decide +kernel
theorem dX6_init_31 : decode cX6_init 31 = .ok (.aload_n 0, 1) := by decide +kernel
theorem dX6_init_32 : decode cX6_init 32 = .ok (.sipush 700, 3) := by decide +kernel
theorem dX6_init_35 : decode cX6_init 35 = .ok (.newarray .int, 2) := by decide +kernel
theorem dX6_init_37 : decode cX6_init 37 = .ok (.putfield 19, 3) := by decide +kernel
theorem dX6_init_40 : decode cX6_init 40 = .ok (.aload_n 0, 1) := by decide +kernel
theorem dX6_init_41 : decode cX6_init 41 = .ok (.sipush 700, 3) := by decide +kernel
theorem dX6_init_44 : decode cX6_init 44 = .ok (.newarray .int, 2) := by decide +kernel
theorem dX6_init_46 : decode cX6_init 46 = .ok (.putfield 22, 3) := by decide +kernel
theorem dX6_init_49 : decode cX6_init 49 = .ok (.aload_n 0, 1) := by decide +kernel
theorem dX6_init_50 : decode cX6_init 50 = .ok (.sipush 700, 3) := by decide +kernel
theorem dX6_init_53 : decode cX6_init 53 = .ok (.newarray .int, 2) := by decide +kernel
theorem dX6_init_55 : decode cX6_init 55 = .ok (.putfield 25, 3) := by decide +kernel
theorem dX6_init_58 : decode cX6_init 58 = .ok (.aload_n 0, 1) := by decide +kernel
theorem dX6_init_59 : decode cX6_init 59 = .ok (.sipush 700, 3) := by decide +kernel
theorem dX6_init_62 : decode cX6_init 62 = .ok (.newarray .int, 2) := by decide +kernel
theorem dX6_init_64 : decode cX6_init 64 = .ok (.putfield 28, 3) := by decide +kernel
theorem dX6_init_67 : decode cX6_init 67 = .ok (.aload_n 0, 1) := by decide +kernel
theorem dX6_init_68 : decode cX6_init 68 = .ok (.sipush 700, 3) := by decide +kernel
theorem dX6_init_71 : decode cX6_init 71 = .ok (.newarray .int, 2) := by decide +kernel
theorem dX6_init_73 : decode cX6_init 73 = .ok (.putfield 31, 3) := by decide +kernel
theorem dX6_init_76 : decode cX6_init 76 = .ok (.aload_n 0, 1) := by decide +kernel
theorem dX6_init_77 : decode cX6_init 77 = .ok (.bipush 32, 2) := by decide +kernel
theorem dX6_init_79 : decode cX6_init 79 = .ok (.newarray .int, 2) := by decide +kernel
theorem dX6_init_81 : decode cX6_init 81 = .ok (.putfield 34, 3) := by decide +kernel
theorem dX6_init_84 : decode cX6_init 84 = .ok (.aload_n 0, 1) := by decide +kernel
theorem dX6_init_85 : decode cX6_init 85 = .ok (.bipush 32, 2) := by decide +kernel
theorem dX6_init_87 : decode cX6_init 87 = .ok (.newarray .int, 2) := by decide +kernel
theorem dX6_init_89 : decode cX6_init 89 = .ok (.putfield 37, 3) := by decide +kernel
theorem dX6_init_92 : decode cX6_init 92 = .ok (.aload_n 0, 1) := by decide +kernel
theorem dX6_init_93 : decode cX6_init 93 = .ok (.bipush 32, 2) := by decide +kernel
theorem dX6_init_95 : decode cX6_init 95 = .ok (.newarray .int, 2) := by decide +kernel
theorem dX6_init_97 : decode cX6_init 97 = .ok (.putfield 40, 3) := by decide +kernel
theorem dX6_init_100 : decode cX6_init 100 = .ok (.aload_n 0, 1) := by decide +kernel
theorem dX6_init_101 : decode cX6_init 101 = .ok (.bipush 8, 2) := by decide +kernel
theorem dX6_init_103 : decode cX6_init 103 = .ok (.newarray .int, 2) := by decide +kernel
theorem dX6_init_105 : decode cX6_init 105 = .ok (.putfield 43, 3) := by decide +kernel
theorem dX6_init_108 : decode cX6_init 108 = .ok (.aload_n 0, 1) := by decide +kernel
theorem dX6_init_109 : decode cX6_init 109 = .ok (.bipush 80, 2) := by decide +kernel
theorem dX6_init_111 : decode cX6_init 111 = .ok (.newarray .int, 2) := by decide +kernel
theorem dX6_init_113 : decode cX6_init 113 = .ok (.putfield 46, 3) := by decide +kernel
theorem dX6_init_116 : decode cX6_init 116 = .ok (.aload_n 0, 1) := by decide +kernel
theorem dX6_init_117 : decode cX6_init 117 = .ok (.bipush 80, 2) := by decide +kernel
theorem dX6_init_119 : decode cX6_init 119 = .ok (.newarray .int, 2) := by decide +kernel
theorem dX6_init_121 : decode cX6_init 121 = .ok (.putfield 49, 3) := by decide +kernel
theorem dX6_init_124 : decode cX6_init 124 = .ok (.aload_n 0, 1) := by decide +kernel
theorem dX6_init_125 : decode cX6_init 125 = .ok (.bipush 80, 2) := by decide +kernel
theorem dX6_init_127 : decode cX6_init 127 = .ok (.newarray .int, 2) := by decide +kernel
theorem dX6_init_129 : decode cX6_init 129 = .ok (.putfield 52, 3) := by decide +kernel
theorem dX6_init_132 : decode cX6_init 132 = .ok (.aload_n 0, 1) := by decide +kernel
theorem dX6_init_133 : decode cX6_init 133 = .ok (.bipush 80, 2) := by decide +kernel
theorem dX6_init_135 : decode cX6_init 135 = .ok (.newarray .int, 2) := by decide +kernel
theorem dX6_init_137 : decode cX6_init 137 = .ok (.putfield 55, 3) := by decide +kernel
theorem dX6_init_140 : decode cX6_init 140 = .ok (.aload_n 0, 1) := by decide +kernel
theorem dX6_init_141 : decode cX6_init 141 = .ok (.bipush 80, 2) := by decide +kernel
theorem dX6_init_143 : decode cX6_init 143 = .ok (.newarray .int, 2) := by decide +kernel
theorem dX6_init_145 : decode cX6_init 145 = .ok (.putfield 58, 3) := by decide +kernel
theorem dX6_init_148 : decode cX6_init 148 = .ok (.aload_n 0, 1) := by decide +kernel
theorem dX6_init_149 : decode cX6_init 149 = .ok (.sipush 160, 3) := by decide +kernel
theorem dX6_init_152 : decode cX6_init 152 = .ok (.newarray .int, 2) := by decide +kernel
theorem dX6_init_154 : decode cX6_init 154 = .ok (.putfield 61, 3) := by decide +kernel
theorem dX6_init_157 : decode cX6_init 157 = .ok (.aload_n 0, 1) := by decide +kernel
theorem dX6_init_158 : decode cX6_init 158 = .ok (.sipush 160, 3) := by decide +kernel
theorem dX6_init_161 : decode cX6_init 161 = .ok (.newarray .int, 2) := by decide +kernel
theorem dX6_init_163 : decode cX6_init 163 = .ok (.putfield 64, 3) := by decide +kernel
theorem dX6_init_166 : decode cX6_init 166 = .ok (.aload_n 0, 1) := by decide +kernel
theorem dX6_init_167 : decode cX6_init 167 = .ok (.sipush 160, 3) := by decide +kernel
theorem dX6_init_170 : decode cX6_init 170 = .ok (.newarray .int, 2) := by decide +kernel
theorem dX6_init_172 : decode cX6_init 172 = .ok (.putfield 67, 3) := by decide +kernel
theorem dX6_init_175 : decode cX6_init 175 = .ok (.aload_n 0, 1) := by decide +kernel
theorem dX6_init_176 : decode cX6_init 176 = .ok (.sipush 160, 3) := by decide +kernel
theorem dX6_init_179 : decode cX6_init 179 = .ok (.newarray .int, 2) := by decide +kernel
theorem dX6_init_181 : decode cX6_init 181 = .ok (.putfield 70, 3) := by decide +kernel
theorem dX6_init_184 : decode cX6_init 184 = .ok (.aload_n 0, 1) := by decide +kernel
theorem dX6_init_185 : decode cX6_init 185 = .ok (.sipush 7000, 3) := by decide +kernel
theorem dX6_init_188 : decode cX6_init 188 = .ok (.newarray .int, 2) := by decide +kernel
theorem dX6_init_190 : decode cX6_init 190 = .ok (.putfield 73, 3) := by decide +kernel
theorem dX6_init_193 : decode cX6_init 193 = .ok (.aload_n 0, 1) := by decide +kernel
theorem dX6_init_194 : decode cX6_init 194 = .ok (.sipush 400, 3) := by decide +kernel
theorem dX6_init_197 : decode cX6_init 197 = .ok (.newarray .int, 2) := by decide +kernel
theorem dX6_init_199 : decode cX6_init 199 = .ok (.putfield 76, 3) := by decide +kernel
theorem dX6_init_202 : decode cX6_init 202 = .ok (.aload_n 0, 1) := by decide +kernel
theorem dX6_init_203 : decode cX6_init 203 = .ok (.sipush 400, 3) := by decide +kernel
theorem dX6_init_206 : decode cX6_init 206 = .ok (.newarray .int, 2) := by decide +kernel
theorem dX6_init_208 : decode cX6_init 208 = .ok (.putfield 79, 3) := by decide +kernel
theorem dX6_init_211 : decode cX6_init 211 = .ok (.aload_n 0, 1) := by decide +kernel
theorem dX6_init_212 : decode cX6_init 212 = .ok (.sipush 400, 3) := by decide +kernel
theorem dX6_init_215 : decode cX6_init 215 = .ok (.newarray .int, 2) := by decide +kernel
theorem dX6_init_217 : decode cX6_init 217 = .ok (.putfield 82, 3) := by decide +kernel
theorem dX6_init_220 : decode cX6_init 220 = .ok (.aload_n 0, 1) := by decide +kernel
theorem dX6_init_221 : decode cX6_init 221 = .ok (.sipush 400, 3) := by decide +kernel
theorem dX6_init_224 : decode cX6_init 224 = .ok (.newarray .int, 2) := by decide +kernel
theorem dX6_init_226 : decode cX6_init 226 = .ok (.putfield 85, 3) := by decide +kernel
theorem dX6_init_229 : decode cX6_init 229 = .ok (.aload_n 0, 1) := by decide +kernel
theorem dX6_init_230 : decode cX6_init 230 = .ok (.sipush 1300, 3) := by decide +kernel
theorem dX6_init_233 : decode cX6_init 233 = .ok (.newarray .int, 2) := by decide +kernel
theorem dX6_init_235 : decode cX6_init 235 = .ok (.putfield 88, 3) := by decide +kernel
theorem dX6_init_238 : decode cX6_init 238 = .ok (.aload_n 0, 1) := by decide +kernel
theorem dX6_init_239 : decode cX6_init 239 = .ok (.sipush 1300, 3) := by decide +kernel
theorem dX6_init_242 : decode cX6_init 242 = .ok (.newarray .int, 2) := by decide +kernel
theorem dX6_init_244 : decode cX6_init 244 = .ok (.putfield 91, 3) := by decide +kernel
theorem dX6_init_247 : decode cX6_init 247 = .ok (.aload_n 0, 1) := by decide +kernel
theorem dX6_init_248 : decode cX6_init 248 = .ok (.bipush 100, 2) := by decide +kernel
theorem dX6_init_250 : decode cX6_init 250 = .ok (.newarray .int, 2) := by decide +kernel
theorem dX6_init_252 : decode cX6_init 252 = .ok (.putfield 94, 3) := by decide +kernel
theorem dX6_init_255 : decode cX6_init 255 = .ok (.aload_n 0, 1) := by decide +kernel
theorem dX6_init_256 : decode cX6_init 256 = .ok (.bipush 32, 2) := by decide +kernel
theorem dX6_init_258 : decode cX6_init 258 = .ok (.newarray .int, 2) := by decide +kernel
theorem dX6_init_260 : decode cX6_init 260 = .ok (.putfield 97, 3) := by decide +kernel
theorem dX6_init_263 : decode cX6_init 263 = .ok (.return_, 1) := by decide +kernel
theorem dX6_within_0 : decode cX6_within 0 = .ok (.iload_n 0, 1) := by decide +kernel
theorem dX6_within_1 : decode cX6_within 1 = .ok (.iload_n 1, 1) := by decide +kernel
theorem dX6_within_2 : decode cX6_within 2 = .ok (.if_icmp .lt 12, 3) := by decide +kernel
theorem dX6_within_5 : decode cX6_within 5 = .ok (.iload_n 0, 1) := by decide +kernel
theorem dX6_within_6 : decode cX6_within 6 = .ok (.iload_n 2, 1) := by decide +kernel
theorem dX6_within_7 : decode cX6_within 7 = .ok (.if_icmp .gt 7, 3) := by decide +kernel
theorem dX6_within_10 : decode cX6_within 10 = .ok (.iconst 1, 1) := by decide +kernel
theorem dX6_within_11 : decode cX6_within 11 = .ok (.goto 4, 3) := by decide +kernel
theorem dX6_within_14 : decode cX6_within 14 = .ok (.iconst 0, 1) := by decide +kernel
theorem dX6_within_15 : decode cX6_within 15 = .ok (.ireturn, 1) := by decide +kernel
theorem dX6_write_0 : decode cX6_write 0 = .ok (.iconst 0, 1) := by decide +kernel
theorem dX6_write_1 : decode cX6_write 1 = .ok (.istore_n 3, 1) := by decide +kernel
theorem dX6_write_2 : decode cX6_write 2 = .ok (.iconst 0, 1) := by decide +kernel
theorem dX6_write_3 : decode cX6_write 3 = .ok (.istore 4, 2) := by decide +kernel
theorem dX6_write_5 : decode cX6_write 5 = .ok (.iload 4, 2) := by decide +kernel
theorem dX6_write_7 : decode cX6_write 7 = .ok (.bipush 8, 2) := by decide +kernel
theorem dX6_write_9 : decode cX6_write 9 = .ok (.if_icmp .ge 43, 3) := by decide +kernel
theorem dX6_write_12 : decode cX6_write 12 = .ok (.lload_n 1, 1) := by decide +kernel
theorem dX6_write_13 : decode cX6_write 13 = .ok (.bipush 8, 2) := by decide +kernel
theorem dX6_write_15 : decode cX6_write 15 = .ok (.iload 4, 2) := by decide +kernel
theorem dX6_write_17 : decode cX6_write 17 = .ok (.imul, 1) := by decide +kernel
theorem dX6_write_18 : decode cX6_write 18 = .ok (.lshr, 1) := by decide +kernel
theorem dX6_write_19 : decode cX6_write 19 = .ok (.l2i, 1) := by decide +kernel
theorem dX6_write_20 : decode cX6_write 20 = .ok (.sipush 255, 3) := by decide +kernel
theorem dX6_write_23 : decode cX6_write 23 = .ok (.iand, 1) := by decide +kernel
theorem dX6_write_24 : decode cX6_write 24 = .ok (.istore 5, 2) := by decide +kernel
theorem dX6_write_26 : decode cX6_write 26 = .ok (.iload 5, 2) := by decide +kernel
theorem dX6_write_28 : decode cX6_write 28 = .ok (.ifCond .ne 6, 3) := by decide +kernel
theorem dX6_write_31 : decode cX6_write 31 = .ok (.goto 21, 3) := by decide +kernel
theorem dX6_write_34 : decode cX6_write 34 = .ok (.iload 5, 2) := by decide +kernel
theorem dX6_write_36 : decode cX6_write 36 = .ok (.bipush 127, 2) := by decide +kernel
theorem dX6_write_38 : decode cX6_write 38 = .ok (.if_icmp .le 5, 3) := by decide +kernel
theorem dX6_write_41 : decode cX6_write 41 = .ok (.iconst (-1), 1) := by decide +kernel
theorem dX6_write_42 : decode cX6_write 42 = .ok (.ireturn, 1) := by decide +kernel
theorem dX6_write_43 : decode cX6_write 43 = .ok (.iinc 3 1, 3) := by decide +kernel
theorem dX6_write_46 : decode cX6_write 46 = .ok (.iinc 4 1, 3) := by decide +kernel
theorem dX6_write_49 : decode cX6_write 49 = .ok (.goto (-44), 3) := by decide +kernel
theorem dX6_write_52 : decode cX6_write 52 = .ok (.aload_n 0, 1) := by decide +kernel
theorem dX6_write_53 : decode cX6_write 53 = .ok (.getfield 100, 3) := by decide +kernel
theorem dX6_write_56 : decode cX6_write 56 = .ok (.iload_n 3, 1) := by decide +kernel
theorem dX6_write_57 : decode cX6_write 57 = .ok (.iadd, 1) := by decide +kernel
theorem dX6_write_58 : decode cX6_write 58 = .ok (.sipush 320, 3) := by decide +kernel
theorem dX6_write_61 : decode cX6_write 61 = .ok (.if_icmp .le 5, 3) := by decide +kernel
theorem dX6_write_64 : decode cX6_write 64 = .ok (.iconst (-1), 1) := by decide +kernel
theorem dX6_write_65 : decode cX6_write 65 = .ok (.ireturn, 1) := by decide +kernel
theorem dX6_write_66 : decode cX6_write 66 = .ok (.iconst 0, 1) := by decide +kernel
theorem dX6_write_67 : decode cX6_write 67 = .ok (.istore 4, 2) := by decide +kernel
theorem dX6_write_69 : decode cX6_write 69 = .ok (.iload 4, 2) := by decide +kernel
theorem dX6_write_71 : decode cX6_write 71 = .ok (.iload_n 3, 1) := by decide +kernel
theorem dX6_write_72 : decode cX6_write 72 = .ok (.if_icmp .ge 32, 3) := by decide +kernel
theorem dX6_write_75 : decode cX6_write 75 = .ok (.aload_n 0, 1) := by decide +kernel
theorem dX6_write_76 : decode cX6_write 76 = .ok (.getfield 7, 3) := by decide +kernel
theorem dX6_write_79 : decode cX6_write 79 = .ok (.aload_n 0, 1) := by decide +kernel
theorem dX6_write_80 : decode cX6_write 80 = .ok (.getfield 100, 3) := by decide +kernel
theorem dX6_write_83 : decode cX6_write 83 = .ok (.iload 4, 2) := by decide +kernel
theorem dX6_write_85 : decode cX6_write 85 = .ok (.iadd, 1) := by decide +kernel
theorem dX6_write_86 : decode cX6_write 86 = .ok (.lload_n 1, 1) := by decide +kernel
theorem dX6_write_87 : decode cX6_write 87 = .ok (.bipush 8, 2) := by decide +kernel
theorem dX6_write_89 : decode cX6_write 89 = .ok (.iload 4, 2) := by decide +kernel
theorem dX6_write_91 : decode cX6_write 91 = .ok (.imul, 1) := by decide +kernel
theorem dX6_write_92 : decode cX6_write 92 = .ok (.lshr, 1) := by decide +kernel
theorem dX6_write_93 : decode cX6_write 93 = .ok (.l2i, 1) := by decide +kernel
theorem dX6_write_94 : decode cX6_write 94 = .ok (.bipush 127, 2) := by decide +kernel
theorem dX6_write_96 : decode cX6_write 96 = .ok (.iand, 1) := by decide +kernel
theorem dX6_write_97 : decode cX6_write 97 = .ok (.iastore, 1) := by decide +kernel
theorem dX6_write_98 : decode cX6_write 98 = .ok (.iinc 4 1, 3) := by decide +kernel
theorem dX6_write_101 : decode cX6_write 101 = .ok (.goto (-32), 3) := by decide +kernel
theorem dX6_write_104 : decode cX6_write 104 = .ok (.aload_n 0, 1) := by decide +kernel
theorem dX6_write_105 : decode cX6_write 105 = .ok (.dup, 1) := by decide +kernel
theorem dX6_write_106 : decode cX6_write 106 = .ok (.getfield 100, 3) := by decide +kernel
theorem dX6_write_109 : decode cX6_write 109 = .ok (.iload_n 3, 1) := by decide +kernel
theorem dX6_write_110 : decode cX6_write 110 = .ok (.iadd, 1) := by decide +kernel
theorem dX6_write_111 : decode cX6_write 111 = .ok (.putfield 100, 3) := by decide +kernel
theorem dX6_write_114 : decode cX6_write 114 = .ok (.iload_n 3, 1) := by decide +kernel
theorem dX6_write_115 : decode cX6_write 115 = .ok (.ireturn, 1) := by decide +kernel
theorem dX6_erase_0 : decode cX6_erase 0 = .ok (.aload_n 0, 1) := by decide +kernel
theorem dX6_erase_1 : decode cX6_erase 1 = .ok (.getfield 100, 3) := by decide +kernel
theorem dX6_erase_4 : decode cX6_erase 4 = .ok (.istore_n 1, 1) := by decide +kernel
theorem dX6_erase_5 : decode cX6_erase 5 = .ok (.aload_n 0, 1) := by decide +kernel
theorem dX6_erase_6 : decode cX6_erase 6 = .ok (.iconst 0, 1) := by decide +kernel
theorem dX6_erase_7 : decode cX6_erase 7 = .ok (.putfield 100, 3) := by decide +kernel
theorem dX6_erase_10 : decode cX6_erase 10 = .ok (.iload_n 1, 1) := by decide +kernel
theorem dX6_erase_11 : decode cX6_erase 11 = .ok (.ireturn, 1) := by decide +kernel
theorem dX6_length_0 : decode cX6_length 0 = .ok (.aload_n 0, 1) := by decide +kernel
theorem dX6_length_1 : decode cX6_length 1 = .ok (.getfield 100, 3) := by decide +kernel
theorem dX6_length_4 : decode cX6_length 4 = .ok (.ireturn, 1) := by decide +kernel
theorem dX6_peek_0 : decode cX6_peek 0 = .ok (.aload_n 0, 1) := by decide +kernel
theorem dX6_peek_1 : decode cX6_peek 1 = .ok (.getfield 104, 3) := by decide +kernel
theorem dX6_peek_4 : decode cX6_peek 4 = .ok (.aload_n 0, 1) := by decide +kernel
theorem dX6_peek_5 : decode cX6_peek 5 = .ok (.getfield 100, 3) := by decide +kernel
theorem dX6_peek_8 : decode cX6_peek 8 = .ok (.if_icmp .ge 44, 3) := by decide +kernel
theorem dX6_peek_11 : decode cX6_peek 11 = .ok (.aload_n 0, 1) := by decide +kernel
theorem dX6_peek_12 : decode cX6_peek 12 = .ok (.getfield 7, 3) := by decide +kernel
theorem dX6_peek_15 : decode cX6_peek 15 = .ok (.aload_n 0, 1) := by decide +kernel
theorem dX6_peek_16 : decode cX6_peek 16 = .ok (.getfield 104, 3) := by decide +kernel
theorem dX6_peek_19 : decode cX6_peek 19 = .ok (.iaload, 1) := by decide +kernel
theorem dX6_peek_20 : decode cX6_peek 20 = .ok (.bipush 32, 2) := by decide +kernel
theorem dX6_peek_22 : decode cX6_peek 22 = .ok (.if_icmp .eq 17, 3) := by decide +kernel
theorem dX6_peek_25 : decode cX6_peek 25 = .ok (.aload_n 0, 1) := by decide +kernel
theorem dX6_peek_26 : decode cX6_peek 26 = .ok (.getfield 7, 3) := by decide +kernel
theorem dX6_peek_29 : decode cX6_peek 29 = .ok (.aload_n 0, 1) := by decide +kernel
theorem dX6_peek_30 : decode cX6_peek 30 = .ok (.getfield 104, 3) := by decide +kernel
theorem dX6_peek_33 : decode cX6_peek 33 = .ok (.iaload, 1) := by decide +kernel
theorem dX6_peek_34 : decode cX6_peek 34 = .ok (.bipush 10, 2) := by decide +kernel
theorem dX6_peek_36 : decode cX6_peek 36 = .ok (.if_icmp .ne 16, 3) := by decide +kernel
theorem dX6_peek_39 : decode cX6_peek 39 = .ok (.aload_n 0, 1) := by decide +kernel
theorem dX6_peek_40 : decode cX6_peek 40 = .ok (.dup, 1) := by decide +kernel
theorem dX6_peek_41 : decode cX6_peek 41 = .ok (.getfield 104, 3) := by decide +kernel
theorem dX6_peek_44 : decode cX6_peek 44 = .ok (.iconst 1, 1) := by decide +kernel
theorem dX6_peek_45 : decode cX6_peek 45 = .ok (.iadd, 1) := by decide +kernel
theorem dX6_peek_46 : decode cX6_peek 46 = .ok (.putfield 104, 3) := by decide +kernel
theorem dX6_peek_49 : decode cX6_peek 49 = .ok (.goto (-49), 3) := by decide +kernel
theorem dX6_peek_52 : decode cX6_peek 52 = .ok (.aload_n 0, 1) := by decide +kernel
theorem dX6_peek_53 : decode cX6_peek 53 = .ok (.getfield 104, 3) := by decide +kernel
theorem dX6_peek_56 : decode cX6_peek 56 = .ok (.aload_n 0, 1) := by decide +kernel
theorem dX6_peek_57 : decode cX6_peek 57 = .ok (.getfield 100, 3) := by decide +kernel
theorem dX6_peek_60 : decode cX6_peek 60 = .ok (.if_icmp .ge 15, 3) := by decide +kernel
theorem dX6_peek_63 : decode cX6_peek 63 = .ok (.aload_n 0, 1) := by decide +kernel
theorem dX6_peek_64 : decode cX6_peek 64 = .ok (.getfield 7, 3) := by decide +kernel
theorem dX6_peek_67 : decode cX6_peek 67 = .ok (.aload_n 0, 1) := by decide +kernel
theorem dX6_peek_68 : decode cX6_peek 68 = .ok (.getfield 104, 3) := by decide +kernel
theorem dX6_peek_71 : decode cX6_peek 71 = .ok (.iaload, 1) := by decide +kernel
theorem dX6_peek_72 : decode cX6_peek 72 = .ok (.goto 4, 3) := by decide +kernel
theorem dX6_peek_75 : decode cX6_peek 75 = .ok (.iconst (-1), 1) := by decide +kernel
theorem dX6_peek_76 : decode cX6_peek 76 = .ok (.ireturn, 1) := by decide +kernel
theorem dX6_eat_0 : decode cX6_eat 0 = .ok (.aload_n 0, 1) := by decide +kernel
theorem dX6_eat_1 : decode cX6_eat 1 = .ok (.invokevirtual 107, 3) := by decide +kernel
theorem dX6_eat_4 : decode cX6_eat 4 = .ok (.iload_n 1, 1) := by decide +kernel
theorem dX6_eat_5 : decode cX6_eat 5 = .ok (.if_icmp .eq 5, 3) := by decide +kernel
theorem dX6_eat_8 : decode cX6_eat 8 = .ok (.iconst 0, 1) := by decide +kernel
theorem dX6_eat_9 : decode cX6_eat 9 = .ok (.ireturn, 1) := by decide +kernel
theorem dX6_eat_10 : decode cX6_eat 10 = .ok (.aload_n 0, 1) := by decide +kernel
theorem dX6_eat_11 : decode cX6_eat 11 = .ok (.dup, 1) := by decide +kernel
theorem dX6_eat_12 : decode cX6_eat 12 = .ok (.getfield 104, 3) := by decide +kernel
theorem dX6_eat_15 : decode cX6_eat 15 = .ok (.iconst 1, 1) := by decide +kernel
theorem dX6_eat_16 : decode cX6_eat 16 = .ok (.iadd, 1) := by decide +kernel
theorem dX6_eat_17 : decode cX6_eat 17 = .ok (.putfield 104, 3) := by decide +kernel
theorem dX6_eat_20 : decode cX6_eat 20 = .ok (.iconst 1, 1) := by decide +kernel
theorem dX6_eat_21 : decode cX6_eat 21 = .ok (.ireturn, 1) := by decide +kernel
theorem dX6_isLetter_0 : decode cX6_isLetter 0 = .ok (.iload_n 1, 1) := by decide +kernel
theorem dX6_isLetter_1 : decode cX6_isLetter 1 = .ok (.bipush 97, 2) := by decide +kernel
theorem dX6_isLetter_3 : decode cX6_isLetter 3 = .ok (.bipush 122, 2) := by decide +kernel
theorem dX6_isLetter_5 : decode cX6_isLetter 5 = .ok (.invokestatic 111, 3) := by decide +kernel
theorem dX6_isLetter_8 : decode cX6_isLetter 8 = .ok (.ireturn, 1) := by decide +kernel
theorem dX6_push_0 : decode cX6_push 0 = .ok (.aload_n 0, 1) := by decide +kernel
theorem dX6_push_1 : decode cX6_push 1 = .ok (.getfield 46, 3) := by decide +kernel
theorem dX6_push_4 : decode cX6_push 4 = .ok (.aload_n 0, 1) := by decide +kernel
theorem dX6_push_5 : decode cX6_push 5 = .ok (.getfield 115, 3) := by decide +kernel
theorem dX6_push_8 : decode cX6_push 8 = .ok (.iload_n 1, 1) := by decide +kernel
theorem dX6_push_9 : decode cX6_push 9 = .ok (.iastore, 1) := by decide +kernel
theorem dX6_push_10 : decode cX6_push 10 = .ok (.aload_n 0, 1) := by decide +kernel
theorem dX6_push_11 : decode cX6_push 11 = .ok (.getfield 49, 3) := by decide +kernel
theorem dX6_push_14 : decode cX6_push 14 = .ok (.aload_n 0, 1) := by decide +kernel
theorem dX6_push_15 : decode cX6_push 15 = .ok (.getfield 115, 3) := by decide +kernel
theorem dX6_push_18 : decode cX6_push 18 = .ok (.iconst 0, 1) := by decide +kernel
theorem dX6_push_19 : decode cX6_push 19 = .ok (.iastore, 1) := by decide +kernel
theorem dX6_push_20 : decode cX6_push 20 = .ok (.aload_n 0, 1) := by decide +kernel
theorem dX6_push_21 : decode cX6_push 21 = .ok (.getfield 52, 3) := by decide +kernel
theorem dX6_push_24 : decode cX6_push 24 = .ok (.aload_n 0, 1) := by decide +kernel
theorem dX6_push_25 : decode cX6_push 25 = .ok (.getfield 115, 3) := by decide +kernel
theorem dX6_push_28 : decode cX6_push 28 = .ok (.iload_n 2, 1) := by decide +kernel
theorem dX6_push_29 : decode cX6_push 29 = .ok (.iastore, 1) := by decide +kernel
theorem dX6_push_30 : decode cX6_push 30 = .ok (.aload_n 0, 1) := by decide +kernel
theorem dX6_push_31 : decode cX6_push 31 = .ok (.getfield 55, 3) := by decide +kernel
theorem dX6_push_34 : decode cX6_push 34 = .ok (.aload_n 0, 1) := by decide +kernel
theorem dX6_push_35 : decode cX6_push 35 = .ok (.getfield 115, 3) := by decide +kernel
theorem dX6_push_38 : decode cX6_push 38 = .ok (.iconst 0, 1) := by decide +kernel
theorem dX6_push_39 : decode cX6_push 39 = .ok (.iastore, 1) := by decide +kernel
theorem dX6_push_40 : decode cX6_push 40 = .ok (.aload_n 0, 1) := by decide +kernel
theorem dX6_push_41 : decode cX6_push 41 = .ok (.getfield 58, 3) := by decide +kernel
theorem dX6_push_44 : decode cX6_push 44 = .ok (.aload_n 0, 1) := by decide +kernel
theorem dX6_push_45 : decode cX6_push 45 = .ok (.getfield 115, 3) := by decide +kernel
theorem dX6_push_48 : decode cX6_push 48 = .ok (.iconst 0, 1) := by decide +kernel
theorem dX6_push_49 : decode cX6_push 49 = .ok (.iastore, 1) := by decide +kernel
theorem dX6_push_50 : decode cX6_push 50 = .ok (.aload_n 0, 1) := by decide +kernel
theorem dX6_push_51 : decode cX6_push 51 = .ok (.dup, 1) := by decide +kernel
theorem dX6_push_52 : decode cX6_push 52 = .ok (.getfield 115, 3) := by decide +kernel
theorem dX6_push_55 : decode cX6_push 55 = .ok (.iconst 1, 1) := by decide +kernel
theorem dX6_push_56 : decode cX6_push 56 = .ok (.iadd, 1) := by decide +kernel
theorem dX6_push_57 : decode cX6_push 57 = .ok (.putfield 115, 3) := by decide +kernel
theorem dX6_push_60 : decode cX6_push 60 = .ok (.return_, 1) := by decide +kernel
theorem dX6_fresh_0 : decode cX6_fresh 0 = .ok (.aload_n 0, 1) := by decide +kernel
theorem dX6_fresh_1 : decode cX6_fresh 1 = .ok (.dup, 1) := by decide +kernel
theorem dX6_fresh_2 : decode cX6_fresh 2 = .ok (.getfield 118, 3) := by decide +kernel
theorem dX6_fresh_5 : decode cX6_fresh 5 = .ok (.iconst 1, 1) := by decide +kernel
theorem dX6_fresh_6 : decode cX6_fresh 6 = .ok (.iadd, 1) := by decide +kernel
theorem dX6_fresh_7 : decode cX6_fresh 7 = .ok (.putfield 118, 3) := by decide +kernel
theorem dX6_fresh_10 : decode cX6_fresh 10 = .ok (.aload_n 0, 1) := by decide +kernel
theorem dX6_fresh_11 : decode cX6_fresh 11 = .ok (.getfield 13, 3) := by decide +kernel
theorem dX6_fresh_14 : decode cX6_fresh 14 = .ok (.aload_n 0, 1) := by decide +kernel
theorem dX6_fresh_15 : decode cX6_fresh 15 = .ok (.getfield 118, 3) := by decide +kernel
theorem dX6_fresh_18 : decode cX6_fresh 18 = .ok (.iload_n 1, 1) := by decide +kernel
theorem dX6_fresh_19 : decode cX6_fresh 19 = .ok (.iastore, 1) := by decide +kernel
theorem dX6_fresh_20 : decode cX6_fresh 20 = .ok (.aload_n 0, 1) := by decide +kernel
theorem dX6_fresh_21 : decode cX6_fresh 21 = .ok (.getfield 16, 3) := by decide +kernel
theorem dX6_fresh_24 : decode cX6_fresh 24 = .ok (.aload_n 0, 1) := by decide +kernel
theorem dX6_fresh_25 : decode cX6_fresh 25 = .ok (.getfield 118, 3) := by decide +kernel
theorem dX6_fresh_28 : decode cX6_fresh 28 = .ok (.iconst 0, 1) := by decide +kernel
theorem dX6_fresh_29 : decode cX6_fresh 29 = .ok (.iastore, 1) := by decide +kernel
theorem dX6_fresh_30 : decode cX6_fresh 30 = .ok (.aload_n 0, 1) := by decide +kernel
theorem dX6_fresh_31 : decode cX6_fresh 31 = .ok (.getfield 19, 3) := by decide +kernel
theorem dX6_fresh_34 : decode cX6_fresh 34 = .ok (.aload_n 0, 1) := by decide +kernel
theorem dX6_fresh_35 : decode cX6_fresh 35 = .ok (.getfield 118, 3) := by decide +kernel
theorem dX6_fresh_38 : decode cX6_fresh 38 = .ok (.iconst 0, 1) := by decide +kernel
theorem dX6_fresh_39 : decode cX6_fresh 39 = .ok (.iastore, 1) := by decide +kernel
theorem dX6_fresh_40 : decode cX6_fresh 40 = .ok (.aload_n 0, 1) := by decide +kernel
theorem dX6_fresh_41 : decode cX6_fresh 41 = .ok (.getfield 22, 3) := by decide +kernel
theorem dX6_fresh_44 : decode cX6_fresh 44 = .ok (.aload_n 0, 1) := by decide +kernel
theorem dX6_fresh_45 : decode cX6_fresh 45 = .ok (.getfield 118, 3) := by decide +kernel
theorem dX6_fresh_48 : decode cX6_fresh 48 = .ok (.iconst 0, 1) := by decide +kernel
theorem dX6_fresh_49 : decode cX6_fresh 49 = .ok (.iastore, 1) := by decide +kernel
theorem dX6_fresh_50 : decode cX6_fresh 50 = .ok (.aload_n 0, 1) := by decide +kernel
theorem dX6_fresh_51 : decode cX6_fresh 51 = .ok (.getfield 31, 3) := by decide +kernel
theorem dX6_fresh_54 : decode cX6_fresh 54 = .ok (.aload_n 0, 1) := by decide +kernel
theorem dX6_fresh_55 : decode cX6_fresh 55 = .ok (.getfield 118, 3) := by decide +kernel
theorem dX6_fresh_58 : decode cX6_fresh 58 = .ok (.iconst 0, 1) := by decide +kernel
theorem dX6_fresh_59 : decode cX6_fresh 59 = .ok (.iastore, 1) := by decide +kernel
theorem dX6_fresh_60 : decode cX6_fresh 60 = .ok (.aload_n 0, 1) := by decide +kernel
theorem dX6_fresh_61 : decode cX6_fresh 61 = .ok (.getfield 118, 3) := by decide +kernel
theorem dX6_fresh_64 : decode cX6_fresh 64 = .ok (.ireturn, 1) := by decide +kernel
theorem dX6_add_0 : decode cX6_add 0 = .ok (.aload_n 0, 1) := by decide +kernel
theorem dX6_add_1 : decode cX6_add 1 = .ok (.getfield 55, 3) := by decide +kernel
theorem dX6_add_4 : decode cX6_add 4 = .ok (.iload_n 1, 1) := by decide +kernel
theorem dX6_add_5 : decode cX6_add 5 = .ok (.iaload, 1) := by decide +kernel
theorem dX6_add_6 : decode cX6_add 6 = .ok (.ifCond .ne 21, 3) := by decide +kernel
theorem dX6_add_9 : decode cX6_add 9 = .ok (.aload_n 0, 1) := by decide +kernel
theorem dX6_add_10 : decode cX6_add 10 = .ok (.getfield 16, 3) := by decide +kernel
theorem dX6_add_13 : decode cX6_add 13 = .ok (.aload_n 0, 1) := by decide +kernel
theorem dX6_add_14 : decode cX6_add 14 = .ok (.getfield 49, 3) := by decide +kernel
theorem dX6_add_17 : decode cX6_add 17 = .ok (.iload_n 1, 1) := by decide +kernel
theorem dX6_add_18 : decode cX6_add 18 = .ok (.iaload, 1) := by decide +kernel
theorem dX6_add_19 : decode cX6_add 19 = .ok (.aload_n 0, 1) := by decide +kernel
theorem dX6_add_20 : decode cX6_add 20 = .ok (.getfield 121, 3) := by decide +kernel
theorem dX6_add_23 : decode cX6_add 23 = .ok (.iastore, 1) := by decide +kernel
theorem dX6_add_24 : decode cX6_add 24 = .ok (.goto 18, 3) := by decide +kernel
theorem dX6_add_27 : decode cX6_add 27 = .ok (.aload_n 0, 1) := by decide +kernel
theorem dX6_add_28 : decode cX6_add 28 = .ok (.getfield 19, 3) := by decide +kernel
theorem dX6_add_31 : decode cX6_add 31 = .ok (.aload_n 0, 1) := by decide +kernel
theorem dX6_add_32 : decode cX6_add 32 = .ok (.getfield 55, 3) := by decide +kernel
theorem dX6_add_35 : decode cX6_add 35 = .ok (.iload_n 1, 1) := by decide +kernel
theorem dX6_add_36 : decode cX6_add 36 = .ok (.iaload, 1) := by decide +kernel
theorem dX6_add_37 : decode cX6_add 37 = .ok (.aload_n 0, 1) := by decide +kernel
theorem dX6_add_38 : decode cX6_add 38 = .ok (.getfield 121, 3) := by decide +kernel
theorem dX6_add_41 : decode cX6_add 41 = .ok (.iastore, 1) := by decide +kernel
theorem dX6_add_42 : decode cX6_add 42 = .ok (.aload_n 0, 1) := by decide +kernel
theorem dX6_add_43 : decode cX6_add 43 = .ok (.getfield 55, 3) := by decide +kernel
theorem dX6_add_46 : decode cX6_add 46 = .ok (.iload_n 1, 1) := by decide +kernel
theorem dX6_add_47 : decode cX6_add 47 = .ok (.aload_n 0, 1) := by decide +kernel
theorem dX6_add_48 : decode cX6_add 48 = .ok (.getfield 121, 3) := by decide +kernel
theorem dX6_add_51 : decode cX6_add 51 = .ok (.iastore, 1) := by decide +kernel
theorem dX6_add_52 : decode cX6_add 52 = .ok (.return_, 1) := by decide +kernel
theorem dX6_done_0 : decode cX6_done 0 = .ok (.aload_n 0, 1) := by decide +kernel
theorem dX6_done_1 : decode cX6_done 1 = .ok (.iload_n 1, 1) := by decide +kernel
theorem dX6_done_2 : decode cX6_done 2 = .ok (.putfield 121, 3) := by decide +kernel
theorem dX6_done_5 : decode cX6_done 5 = .ok (.aload_n 0, 1) := by decide +kernel
theorem dX6_done_6 : decode cX6_done 6 = .ok (.dup, 1) := by decide +kernel
theorem dX6_done_7 : decode cX6_done 7 = .ok (.getfield 115, 3) := by decide +kernel
theorem dX6_done_10 : decode cX6_done 10 = .ok (.iconst 1, 1) := by decide +kernel
theorem dX6_done_11 : decode cX6_done 11 = .ok (.isub, 1) := by decide +kernel
theorem dX6_done_12 : decode cX6_done 12 = .ok (.putfield 115, 3) := by decide +kernel
theorem dX6_done_15 : decode cX6_done 15 = .ok (.return_, 1) := by decide +kernel
theorem dX6_need_0 : decode cX6_need 0 = .ok (.iload_n 1, 1) := by decide +kernel
theorem dX6_need_1 : decode cX6_need 1 = .ok (.ifCond .ne 8, 3) := by decide +kernel
theorem dX6_need_4 : decode cX6_need 4 = .ok (.aload_n 0, 1) := by decide +kernel
theorem dX6_need_5 : decode cX6_need 5 = .ok (.iconst 1, 1) := by decide +kernel
theorem dX6_need_6 : decode cX6_need 6 = .ok (.putfield 124, 3) := by decide +kernel
theorem dX6_need_9 : decode cX6_need 9 = .ok (.return_, 1) := by decide +kernel
theorem dX6_declare_0 : decode cX6_declare 0 = .ok (.aload_n 0, 1) := by decide +kernel
theorem dX6_declare_1 : decode cX6_declare 1 = .ok (.getfield 128, 3) := by decide +kernel
theorem dX6_declare_4 : decode cX6_declare 4 = .ok (.iconst 1, 1) := by decide +kernel
theorem dX6_declare_5 : decode cX6_declare 5 = .ok (.isub, 1) := by decide +kernel
theorem dX6_declare_6 : decode cX6_declare 6 = .ok (.istore 4, 2) := by decide +kernel
theorem dX6_declare_8 : decode cX6_declare 8 = .ok (.iload 4, 2) := by decide +kernel
theorem dX6_declare_10 : decode cX6_declare 10 = .ok (.ifCond .lt 39, 3) := by decide +kernel
theorem dX6_declare_13 : decode cX6_declare 13 = .ok (.aload_n 0, 1) := by decide +kernel
theorem dX6_declare_14 : decode cX6_declare 14 = .ok (.getfield 70, 3) := by decide +kernel
theorem dX6_declare_17 : decode cX6_declare 17 = .ok (.iload 4, 2) := by decide +kernel
theorem dX6_declare_19 : decode cX6_declare 19 = .ok (.iaload, 1) := by decide +kernel
theorem dX6_declare_20 : decode cX6_declare 20 = .ok (.aload_n 0, 1) := by decide +kernel
theorem dX6_declare_21 : decode cX6_declare 21 = .ok (.getfield 131, 3) := by decide +kernel
theorem dX6_declare_24 : decode cX6_declare 24 = .ok (.if_icmp .ne 25, 3) := by decide +kernel
theorem dX6_declare_27 : decode cX6_declare 27 = .ok (.aload_n 0, 1) := by decide +kernel
theorem dX6_declare_28 : decode cX6_declare 28 = .ok (.getfield 61, 3) := by decide +kernel
theorem dX6_declare_31 : decode cX6_declare 31 = .ok (.iload 4, 2) := by decide +kernel
theorem dX6_declare_33 : decode cX6_declare 33 = .ok (.iaload, 1) := by decide +kernel
theorem dX6_declare_34 : decode cX6_declare 34 = .ok (.iload_n 1, 1) := by decide +kernel
theorem dX6_declare_35 : decode cX6_declare 35 = .ok (.if_icmp .ne 8, 3) := by decide +kernel
theorem dX6_declare_38 : decode cX6_declare 38 = .ok (.aload_n 0, 1) := by decide +kernel
theorem dX6_declare_39 : decode cX6_declare 39 = .ok (.iconst 1, 1) := by decide +kernel
theorem dX6_declare_40 : decode cX6_declare 40 = .ok (.putfield 134, 3) := by decide +kernel
theorem dX6_declare_43 : decode cX6_declare 43 = .ok (.iinc 4 (-1), 3) := by decide +kernel
theorem dX6_declare_46 : decode cX6_declare 46 = .ok (.goto (-38), 3) := by decide +kernel
theorem dX6_declare_49 : decode cX6_declare 49 = .ok (.aload_n 0, 1) := by decide +kernel
theorem dX6_declare_50 : decode cX6_declare 50 = .ok (.getfield 61, 3) := by decide +kernel
theorem dX6_declare_53 : decode cX6_declare 53 = .ok (.aload_n 0, 1) := by decide +kernel
theorem dX6_declare_54 : decode cX6_declare 54 = .ok (.getfield 128, 3) := by decide +kernel
theorem dX6_declare_57 : decode cX6_declare 57 = .ok (.iload_n 1, 1) := by decide +kernel
theorem dX6_declare_58 : decode cX6_declare 58 = .ok (.iastore, 1) := by decide +kernel
theorem dX6_declare_59 : decode cX6_declare 59 = .ok (.aload_n 0, 1) := by decide +kernel
theorem dX6_declare_60 : decode cX6_declare 60 = .ok (.getfield 64, 3) := by decide +kernel
theorem dX6_declare_63 : decode cX6_declare 63 = .ok (.aload_n 0, 1) := by decide +kernel
theorem dX6_declare_64 : decode cX6_declare 64 = .ok (.getfield 128, 3) := by decide +kernel
theorem dX6_declare_67 : decode cX6_declare 67 = .ok (.iload_n 2, 1) := by decide +kernel
theorem dX6_declare_68 : decode cX6_declare 68 = .ok (.iastore, 1) := by decide +kernel
theorem dX6_declare_69 : decode cX6_declare 69 = .ok (.aload_n 0, 1) := by decide +kernel
theorem dX6_declare_70 : decode cX6_declare 70 = .ok (.getfield 67, 3) := by decide +kernel
theorem dX6_declare_73 : decode cX6_declare 73 = .ok (.aload_n 0, 1) := by decide +kernel
theorem dX6_declare_74 : decode cX6_declare 74 = .ok (.getfield 128, 3) := by decide +kernel
theorem dX6_declare_77 : decode cX6_declare 77 = .ok (.iload_n 3, 1) := by decide +kernel
theorem dX6_declare_78 : decode cX6_declare 78 = .ok (.iastore, 1) := by decide +kernel
theorem dX6_declare_79 : decode cX6_declare 79 = .ok (.aload_n 0, 1) := by decide +kernel
theorem dX6_declare_80 : decode cX6_declare 80 = .ok (.getfield 70, 3) := by decide +kernel
theorem dX6_declare_83 : decode cX6_declare 83 = .ok (.aload_n 0, 1) := by decide +kernel
theorem dX6_declare_84 : decode cX6_declare 84 = .ok (.getfield 128, 3) := by decide +kernel
theorem dX6_declare_87 : decode cX6_declare 87 = .ok (.aload_n 0, 1) := by decide +kernel
theorem dX6_declare_88 : decode cX6_declare 88 = .ok (.getfield 131, 3) := by decide +kernel
theorem dX6_declare_91 : decode cX6_declare 91 = .ok (.iastore, 1) := by decide +kernel
theorem dX6_declare_92 : decode cX6_declare 92 = .ok (.aload_n 0, 1) := by decide +kernel
theorem dX6_declare_93 : decode cX6_declare 93 = .ok (.dup, 1) := by decide +kernel
theorem dX6_declare_94 : decode cX6_declare 94 = .ok (.getfield 128, 3) := by decide +kernel
theorem dX6_declare_97 : decode cX6_declare 97 = .ok (.iconst 1, 1) := by decide +kernel
theorem dX6_declare_98 : decode cX6_declare 98 = .ok (.iadd, 1) := by decide +kernel
theorem dX6_declare_99 : decode cX6_declare 99 = .ok (.putfield 128, 3) := by decide +kernel
theorem dX6_declare_102 : decode cX6_declare 102 = .ok (.return_, 1) := by decide +kernel
theorem dX6_leave_0 : decode cX6_leave 0 = .ok (.aload_n 0, 1) := by decide +kernel
theorem dX6_leave_1 : decode cX6_leave 1 = .ok (.getfield 128, 3) := by decide +kernel
theorem dX6_leave_4 : decode cX6_leave 4 = .ok (.ifCond .le 34, 3) := by decide +kernel
theorem dX6_leave_7 : decode cX6_leave 7 = .ok (.aload_n 0, 1) := by decide +kernel
theorem dX6_leave_8 : decode cX6_leave 8 = .ok (.getfield 70, 3) := by decide +kernel
theorem dX6_leave_11 : decode cX6_leave 11 = .ok (.aload_n 0, 1) := by decide +kernel
theorem dX6_leave_12 : decode cX6_leave 12 = .ok (.getfield 128, 3) := by decide +kernel
theorem dX6_leave_15 : decode cX6_leave 15 = .ok (.iconst 1, 1) := by decide +kernel
theorem dX6_leave_16 : decode cX6_leave 16 = .ok (.isub, 1) := by decide +kernel
theorem dX6_leave_17 : decode cX6_leave 17 = .ok (.iaload, 1) := by decide +kernel
theorem dX6_leave_18 : decode cX6_leave 18 = .ok (.aload_n 0, 1) := by decide +kernel
theorem dX6_leave_19 : decode cX6_leave 19 = .ok (.getfield 131, 3) := by decide +kernel
theorem dX6_leave_22 : decode cX6_leave 22 = .ok (.if_icmp .ne 16, 3) := by decide +kernel
theorem dX6_leave_25 : decode cX6_leave 25 = .ok (.aload_n 0, 1) := by decide +kernel
theorem dX6_leave_26 : decode cX6_leave 26 = .ok (.dup, 1) := by decide +kernel
theorem dX6_leave_27 : decode cX6_leave 27 = .ok (.getfield 128, 3) := by decide +kernel
theorem dX6_leave_30 : decode cX6_leave 30 = .ok (.iconst 1, 1) := by decide +kernel
theorem dX6_leave_31 : decode cX6_leave 31 = .ok (.isub, 1) := by decide +kernel
theorem dX6_leave_32 : decode cX6_leave 32 = .ok (.putfield 128, 3) := by decide +kernel
theorem dX6_leave_35 : decode cX6_leave 35 = .ok (.goto (-35), 3) := by decide +kernel
theorem dX6_leave_38 : decode cX6_leave 38 = .ok (.aload_n 0, 1) := by decide +kernel
theorem dX6_leave_39 : decode cX6_leave 39 = .ok (.dup, 1) := by decide +kernel
theorem dX6_leave_40 : decode cX6_leave 40 = .ok (.getfield 131, 3) := by decide +kernel
theorem dX6_leave_43 : decode cX6_leave 43 = .ok (.iconst 1, 1) := by decide +kernel
theorem dX6_leave_44 : decode cX6_leave 44 = .ok (.isub, 1) := by decide +kernel
theorem dX6_leave_45 : decode cX6_leave 45 = .ok (.putfield 131, 3) := by decide +kernel
theorem dX6_leave_48 : decode cX6_leave 48 = .ok (.return_, 1) := by decide +kernel
theorem dX6_use_0 : decode cX6_use 0 = .ok (.aload_n 0, 1) := by decide +kernel
theorem dX6_use_1 : decode cX6_use 1 = .ok (.iload_n 1, 1) := by decide +kernel
theorem dX6_use_2 : decode cX6_use 2 = .ok (.invokevirtual 137, 3) := by decide +kernel
theorem dX6_use_5 : decode cX6_use 5 = .ok (.istore_n 3, 1) := by decide +kernel
theorem dX6_use_6 : decode cX6_use 6 = .ok (.aload_n 0, 1) := by decide +kernel
theorem dX6_use_7 : decode cX6_use 7 = .ok (.getfield 128, 3) := by decide +kernel
theorem dX6_use_10 : decode cX6_use 10 = .ok (.iconst 1, 1) := by decide +kernel
theorem dX6_use_11 : decode cX6_use 11 = .ok (.isub, 1) := by decide +kernel
theorem dX6_use_12 : decode cX6_use 12 = .ok (.istore 4, 2) := by decide +kernel
theorem dX6_use_14 : decode cX6_use 14 = .ok (.iload 4, 2) := by decide +kernel
theorem dX6_use_16 : decode cX6_use 16 = .ok (.ifCond .lt 20, 3) := by decide +kernel
theorem dX6_use_19 : decode cX6_use 19 = .ok (.aload_n 0, 1) := by decide +kernel
theorem dX6_use_20 : decode cX6_use 20 = .ok (.getfield 61, 3) := by decide +kernel
theorem dX6_use_23 : decode cX6_use 23 = .ok (.iload 4, 2) := by decide +kernel
theorem dX6_use_25 : decode cX6_use 25 = .ok (.iaload, 1) := by decide +kernel
theorem dX6_use_26 : decode cX6_use 26 = .ok (.iload_n 2, 1) := by decide +kernel
theorem dX6_use_27 : decode cX6_use 27 = .ok (.if_icmp .eq 9, 3) := by decide +kernel
theorem dX6_use_30 : decode cX6_use 30 = .ok (.iinc 4 (-1), 3) := by decide +kernel
theorem dX6_use_33 : decode cX6_use 33 = .ok (.goto (-19), 3) := by decide +kernel
theorem dX6_use_36 : decode cX6_use 36 = .ok (.iload 4, 2) := by decide +kernel
theorem dX6_use_38 : decode cX6_use 38 = .ok (.ifCond .ge 11, 3) := by decide +kernel
theorem dX6_use_41 : decode cX6_use 41 = .ok (.aload_n 0, 1) := by decide +kernel
theorem dX6_use_42 : decode cX6_use 42 = .ok (.iconst 1, 1) := by decide +kernel
theorem dX6_use_43 : decode cX6_use 43 = .ok (.putfield 134, 3) := by decide +kernel
theorem dX6_use_46 : decode cX6_use 46 = .ok (.goto 47, 3) := by decide +kernel
theorem dX6_use_49 : decode cX6_use 49 = .ok (.aload_n 0, 1) := by decide +kernel
theorem dX6_use_50 : decode cX6_use 50 = .ok (.getfield 22, 3) := by decide +kernel
theorem dX6_use_53 : decode cX6_use 53 = .ok (.iload_n 3, 1) := by decide +kernel
theorem dX6_use_54 : decode cX6_use 54 = .ok (.aload_n 0, 1) := by decide +kernel
theorem dX6_use_55 : decode cX6_use 55 = .ok (.getfield 64, 3) := by decide +kernel
theorem dX6_use_58 : decode cX6_use 58 = .ok (.iload 4, 2) := by decide +kernel
theorem dX6_use_60 : decode cX6_use 60 = .ok (.iaload, 1) := by decide +kernel
theorem dX6_use_61 : decode cX6_use 61 = .ok (.iastore, 1) := by decide +kernel
theorem dX6_use_62 : decode cX6_use 62 = .ok (.aload_n 0, 1) := by decide +kernel
theorem dX6_use_63 : decode cX6_use 63 = .ok (.getfield 25, 3) := by decide +kernel
theorem dX6_use_66 : decode cX6_use 66 = .ok (.iload_n 3, 1) := by decide +kernel
theorem dX6_use_67 : decode cX6_use 67 = .ok (.aload_n 0, 1) := by decide +kernel
theorem dX6_use_68 : decode cX6_use 68 = .ok (.getfield 67, 3) := by decide +kernel
theorem dX6_use_71 : decode cX6_use 71 = .ok (.iload 4, 2) := by decide +kernel
theorem dX6_use_73 : decode cX6_use 73 = .ok (.iaload, 1) := by decide +kernel
theorem dX6_use_74 : decode cX6_use 74 = .ok (.iastore, 1) := by decide +kernel
theorem dX6_use_75 : decode cX6_use 75 = .ok (.aload_n 0, 1) := by decide +kernel
theorem dX6_use_76 : decode cX6_use 76 = .ok (.getfield 28, 3) := by decide +kernel
theorem dX6_use_79 : decode cX6_use 79 = .ok (.iload_n 3, 1) := by decide +kernel
theorem dX6_use_80 : decode cX6_use 80 = .ok (.aload_n 0, 1) := by decide +kernel
theorem dX6_use_81 : decode cX6_use 81 = .ok (.getfield 131, 3) := by decide +kernel
theorem dX6_use_84 : decode cX6_use 84 = .ok (.aload_n 0, 1) := by decide +kernel
theorem dX6_use_85 : decode cX6_use 85 = .ok (.getfield 70, 3) := by decide +kernel
theorem dX6_use_88 : decode cX6_use 88 = .ok (.iload 4, 2) := by decide +kernel
theorem dX6_use_90 : decode cX6_use 90 = .ok (.iaload, 1) := by decide +kernel
theorem dX6_use_91 : decode cX6_use 91 = .ok (.isub, 1) := by decide +kernel
theorem dX6_use_92 : decode cX6_use 92 = .ok (.iastore, 1) := by decide +kernel
theorem dX6_use_93 : decode cX6_use 93 = .ok (.iload_n 3, 1) := by decide +kernel
theorem dX6_use_94 : decode cX6_use 94 = .ok (.ireturn, 1) := by decide +kernel
theorem dX6_goDeeper_0 : decode cX6_goDeeper 0 = .ok (.aload_n 0, 1) := by decide +kernel
theorem dX6_goDeeper_1 : decode cX6_goDeeper 1 = .ok (.aload_n 0, 1) := by decide +kernel
theorem dX6_goDeeper_2 : decode cX6_goDeeper 2 = .ok (.getfield 52, 3) := by decide +kernel
theorem dX6_goDeeper_5 : decode cX6_goDeeper 5 = .ok (.iload_n 1, 1) := by decide +kernel
theorem dX6_goDeeper_6 : decode cX6_goDeeper 6 = .ok (.iaload, 1) := by decide +kernel
theorem dX6_goDeeper_7 : decode cX6_goDeeper 7 = .ok (.bipush 10, 2) := by decide +kernel
theorem dX6_goDeeper_9 : decode cX6_goDeeper 9 = .ok (.if_icmp .gt 7, 3) := by decide +kernel
theorem dX6_goDeeper_12 : decode cX6_goDeeper 12 = .ok (.iconst 1, 1) := by decide +kernel
theorem dX6_goDeeper_13 : decode cX6_goDeeper 13 = .ok (.goto 4, 3) := by decide +kernel
theorem dX6_goDeeper_16 : decode cX6_goDeeper 16 = .ok (.iconst 0, 1) := by decide +kernel
theorem dX6_goDeeper_17 : decode cX6_goDeeper 17 = .ok (.invokevirtual 141, 3) := by decide +kernel
theorem dX6_goDeeper_20 : decode cX6_goDeeper 20 = .ok (.aload_n 0, 1) := by decide +kernel
theorem dX6_goDeeper_21 : decode cX6_goDeeper 21 = .ok (.getfield 52, 3) := by decide +kernel
theorem dX6_goDeeper_24 : decode cX6_goDeeper 24 = .ok (.iload_n 1, 1) := by decide +kernel
theorem dX6_goDeeper_25 : decode cX6_goDeeper 25 = .ok (.iaload, 1) := by decide +kernel
theorem dX6_goDeeper_26 : decode cX6_goDeeper 26 = .ok (.aload_n 0, 1) := by decide +kernel
theorem dX6_goDeeper_27 : decode cX6_goDeeper 27 = .ok (.getfield 145, 3) := by decide +kernel
theorem dX6_goDeeper_30 : decode cX6_goDeeper 30 = .ok (.if_icmp .le 13, 3) := by decide +kernel
theorem dX6_goDeeper_33 : decode cX6_goDeeper 33 = .ok (.aload_n 0, 1) := by decide +kernel
theorem dX6_goDeeper_34 : decode cX6_goDeeper 34 = .ok (.aload_n 0, 1) := by decide +kernel
theorem dX6_goDeeper_35 : decode cX6_goDeeper 35 = .ok (.getfield 52, 3) := by decide +kernel
theorem dX6_goDeeper_38 : decode cX6_goDeeper 38 = .ok (.iload_n 1, 1) := by decide +kernel
theorem dX6_goDeeper_39 : decode cX6_goDeeper 39 = .ok (.iaload, 1) := by decide +kernel
theorem dX6_goDeeper_40 : decode cX6_goDeeper 40 = .ok (.putfield 145, 3) := by decide +kernel
theorem dX6_goDeeper_43 : decode cX6_goDeeper 43 = .ok (.return_, 1) := by decide +kernel
theorem dX6_openStatement_0 : decode cX6_openStatement 0 = .ok (.aload_n 0, 1) := by decide +kernel
theorem dX6_openStatement_1 : decode cX6_openStatement 1 = .ok (.invokevirtual 107, 3) := by decide +kernel
theorem dX6_openStatement_4 : decode cX6_openStatement 4 = .ok (.istore_n 2, 1) := by decide +kernel
theorem dX6_openStatement_5 : decode cX6_openStatement 5 = .ok (.aload_n 0, 1) := by decide +kernel
theorem dX6_openStatement_6 : decode cX6_openStatement 6 = .ok (.getfield 52, 3) := by decide +kernel
theorem dX6_openStatement_9 : decode cX6_openStatement 9 = .ok (.iload_n 1, 1) := by decide +kernel
theorem dX6_openStatement_10 : decode cX6_openStatement 10 = .ok (.iaload, 1) := by decide +kernel
theorem dX6_openStatement_11 : decode cX6_openStatement 11 = .ok (.iconst 1, 1) := by decide +kernel
theorem dX6_openStatement_12 : decode cX6_openStatement 12 = .ok (.iadd, 1) := by decide +kernel
theorem dX6_openStatement_13 : decode cX6_openStatement 13 = .ok (.istore_n 3, 1) := by decide +kernel
theorem dX6_openStatement_14 : decode cX6_openStatement 14 = .ok (.aload_n 0, 1) := by decide +kernel
theorem dX6_openStatement_15 : decode cX6_openStatement 15 = .ok (.iload_n 1, 1) := by decide +kernel
theorem dX6_openStatement_16 : decode cX6_openStatement 16 = .ok (.invokevirtual 148, 3) := by decide +kernel
theorem dX6_openStatement_19 : decode cX6_openStatement 19 = .ok (.aload_n 0, 1) := by decide +kernel
theorem dX6_openStatement_20 : decode cX6_openStatement 20 = .ok (.dup, 1) := by decide +kernel
theorem dX6_openStatement_21 : decode cX6_openStatement 21 = .ok (.getfield 152, 3) := by decide +kernel
theorem dX6_openStatement_24 : decode cX6_openStatement 24 = .ok (.iconst 1, 1) := by decide +kernel
theorem dX6_openStatement_25 : decode cX6_openStatement 25 = .ok (.iadd, 1) := by decide +kernel
theorem dX6_openStatement_26 : decode cX6_openStatement 26 = .ok (.putfield 152, 3) := by decide +kernel
theorem dX6_openStatement_29 : decode cX6_openStatement 29 = .ok (.aload_n 0, 1) := by decide +kernel
theorem dX6_openStatement_30 : decode cX6_openStatement 30 = .ok (.dup, 1) := by decide +kernel
theorem dX6_openStatement_31 : decode cX6_openStatement 31 = .ok (.getfield 104, 3) := by decide +kernel
theorem dX6_openStatement_34 : decode cX6_openStatement 34 = .ok (.iconst 1, 1) := by decide +kernel
theorem dX6_openStatement_35 : decode cX6_openStatement 35 = .ok (.iadd, 1) := by decide +kernel
theorem dX6_openStatement_36 : decode cX6_openStatement 36 = .ok (.putfield 104, 3) := by decide +kernel
theorem dX6_openStatement_39 : decode cX6_openStatement 39 = .ok (.aload_n 0, 1) := by decide +kernel
theorem dX6_openStatement_40 : decode cX6_openStatement 40 = .ok (.iload_n 2, 1) := by decide +kernel
theorem dX6_openStatement_41 : decode cX6_openStatement 41 = .ok (.invokevirtual 155, 3) := by decide +kernel
theorem dX6_openStatement_44 : decode cX6_openStatement 44 = .ok (.ifCond .eq 82, 3) := by decide +kernel
theorem dX6_openStatement_47 : decode cX6_openStatement 47 = .ok (.aload_n 0, 1) := by decide +kernel
theorem dX6_openStatement_48 : decode cX6_openStatement 48 = .ok (.bipush 61, 2) := by decide +kernel
theorem dX6_openStatement_50 : decode cX6_openStatement 50 = .ok (.invokevirtual 159, 3) := by decide +kernel
theorem dX6_openStatement_53 : decode cX6_openStatement 53 = .ok (.ifCond .eq 33, 3) := by decide +kernel
theorem dX6_openStatement_56 : decode cX6_openStatement 56 = .ok (.aload_n 0, 1) := by decide +kernel
theorem dX6_openStatement_57 : decode cX6_openStatement 57 = .ok (.getfield 49, 3) := by decide +kernel
theorem dX6_openStatement_60 : decode cX6_openStatement 60 = .ok (.iload_n 1, 1) := by decide +kernel
theorem dX6_openStatement_61 : decode cX6_openStatement 61 = .ok (.aload_n 0, 1) := by decide +kernel
theorem dX6_openStatement_62 : decode cX6_openStatement 62 = .ok (.iconst 1, 1) := by decide +kernel
theorem dX6_openStatement_63 : decode cX6_openStatement 63 = .ok (.iload_n 2, 1) := by decide +kernel
theorem dX6_openStatement_64 : decode cX6_openStatement 64 = .ok (.invokevirtual 162, 3) := by decide +kernel
theorem dX6_openStatement_67 : decode cX6_openStatement 67 = .ok (.iastore, 1) := by decide +kernel
theorem dX6_openStatement_68 : decode cX6_openStatement 68 = .ok (.aload_n 0, 1) := by decide +kernel
theorem dX6_openStatement_69 : decode cX6_openStatement 69 = .ok (.getfield 46, 3) := by decide +kernel
theorem dX6_openStatement_72 : decode cX6_openStatement 72 = .ok (.iload_n 1, 1) := by decide +kernel
theorem dX6_openStatement_73 : decode cX6_openStatement 73 = .ok (.bipush 11, 2) := by decide +kernel
theorem dX6_openStatement_75 : decode cX6_openStatement 75 = .ok (.iastore, 1) := by decide +kernel
theorem dX6_openStatement_76 : decode cX6_openStatement 76 = .ok (.aload_n 0, 1) := by decide +kernel
theorem dX6_openStatement_77 : decode cX6_openStatement 77 = .ok (.bipush 30, 2) := by decide +kernel
theorem dX6_openStatement_79 : decode cX6_openStatement 79 = .ok (.iload_n 3, 1) := by decide +kernel
theorem dX6_openStatement_80 : decode cX6_openStatement 80 = .ok (.invokevirtual 166, 3) := by decide +kernel
theorem dX6_openStatement_83 : decode cX6_openStatement 83 = .ok (.goto 183, 3) := by decide +kernel
theorem dX6_openStatement_86 : decode cX6_openStatement 86 = .ok (.aload_n 0, 1) := by decide +kernel
theorem dX6_openStatement_87 : decode cX6_openStatement 87 = .ok (.bipush 40, 2) := by decide +kernel
theorem dX6_openStatement_89 : decode cX6_openStatement 89 = .ok (.invokevirtual 159, 3) := by decide +kernel
theorem dX6_openStatement_92 : decode cX6_openStatement 92 = .ok (.ifCond .eq 26, 3) := by decide +kernel
theorem dX6_openStatement_95 : decode cX6_openStatement 95 = .ok (.aload_n 0, 1) := by decide +kernel
theorem dX6_openStatement_96 : decode cX6_openStatement 96 = .ok (.getfield 49, 3) := by decide +kernel
theorem dX6_openStatement_99 : decode cX6_openStatement 99 = .ok (.iload_n 1, 1) := by decide +kernel
theorem dX6_openStatement_100 : decode cX6_openStatement 100 = .ok (.aload_n 0, 1) := by decide +kernel
theorem dX6_openStatement_101 : decode cX6_openStatement 101 = .ok (.iconst 2, 1) := by decide +kernel
theorem dX6_openStatement_102 : decode cX6_openStatement 102 = .ok (.iload_n 2, 1) := by decide +kernel
theorem dX6_openStatement_103 : decode cX6_openStatement 103 = .ok (.invokevirtual 162, 3) := by decide +kernel
theorem dX6_openStatement_106 : decode cX6_openStatement 106 = .ok (.iastore, 1) := by decide +kernel
theorem dX6_openStatement_107 : decode cX6_openStatement 107 = .ok (.aload_n 0, 1) := by decide +kernel
theorem dX6_openStatement_108 : decode cX6_openStatement 108 = .ok (.iload_n 1, 1) := by decide +kernel
theorem dX6_openStatement_109 : decode cX6_openStatement 109 = .ok (.bipush 12, 2) := by decide +kernel
theorem dX6_openStatement_111 : decode cX6_openStatement 111 = .ok (.iload_n 3, 1) := by decide +kernel
theorem dX6_openStatement_112 : decode cX6_openStatement 112 = .ok (.invokevirtual 170, 3) := by decide +kernel
theorem dX6_openStatement_115 : decode cX6_openStatement 115 = .ok (.goto 151, 3) := by decide +kernel
theorem dX6_openStatement_118 : decode cX6_openStatement 118 = .ok (.aload_n 0, 1) := by decide +kernel
theorem dX6_openStatement_119 : decode cX6_openStatement 119 = .ok (.iconst 1, 1) := by decide +kernel
theorem dX6_openStatement_120 : decode cX6_openStatement 120 = .ok (.putfield 124, 3) := by decide +kernel
theorem dX6_openStatement_123 : decode cX6_openStatement 123 = .ok (.goto 143, 3) := by decide +kernel
theorem dX6_openStatement_126 : decode cX6_openStatement 126 = .ok (.iload_n 2, 1) := by decide +kernel
theorem dX6_openStatement_127 : decode cX6_openStatement 127 = .ok (.bipush 33, 2) := by decide +kernel
theorem dX6_openStatement_129 : decode cX6_openStatement 129 = .ok (.if_icmp .ne 32, 3) := by decide +kernel
theorem dX6_openStatement_132 : decode cX6_openStatement 132 = .ok (.aload_n 0, 1) := by decide +kernel
theorem dX6_openStatement_133 : decode cX6_openStatement 133 = .ok (.getfield 49, 3) := by decide +kernel
theorem dX6_openStatement_136 : decode cX6_openStatement 136 = .ok (.iload_n 1, 1) := by decide +kernel
theorem dX6_openStatement_137 : decode cX6_openStatement 137 = .ok (.aload_n 0, 1) := by decide +kernel
theorem dX6_openStatement_138 : decode cX6_openStatement 138 = .ok (.iconst 3, 1) := by decide +kernel
theorem dX6_openStatement_139 : decode cX6_openStatement 139 = .ok (.invokevirtual 137, 3) := by decide +kernel
theorem dX6_openStatement_142 : decode cX6_openStatement 142 = .ok (.iastore, 1) := by decide +kernel
theorem dX6_openStatement_143 : decode cX6_openStatement 143 = .ok (.aload_n 0, 1) := by decide +kernel
theorem dX6_openStatement_144 : decode cX6_openStatement 144 = .ok (.getfield 46, 3) := by decide +kernel
theorem dX6_openStatement_147 : decode cX6_openStatement 147 = .ok (.iload_n 1, 1) := by decide +kernel
theorem dX6_openStatement_148 : decode cX6_openStatement 148 = .ok (.bipush 11, 2) := by decide +kernel
theorem dX6_openStatement_150 : decode cX6_openStatement 150 = .ok (.iastore, 1) := by decide +kernel
theorem dX6_openStatement_151 : decode cX6_openStatement 151 = .ok (.aload_n 0, 1) := by decide +kernel
theorem dX6_openStatement_152 : decode cX6_openStatement 152 = .ok (.bipush 30, 2) := by decide +kernel
theorem dX6_openStatement_154 : decode cX6_openStatement 154 = .ok (.iload_n 3, 1) := by decide +kernel
theorem dX6_openStatement_155 : decode cX6_openStatement 155 = .ok (.invokevirtual 166, 3) := by decide +kernel
theorem dX6_openStatement_158 : decode cX6_openStatement 158 = .ok (.goto 108, 3) := by decide +kernel
theorem dX6_openStatement_161 : decode cX6_openStatement 161 = .ok (.iload_n 2, 1) := by decide +kernel
theorem dX6_openStatement_162 : decode cX6_openStatement 162 = .ok (.bipush 63, 2) := by decide +kernel
theorem dX6_openStatement_164 : decode cX6_openStatement 164 = .ok (.if_icmp .eq 9, 3) := by decide +kernel
theorem dX6_openStatement_167 : decode cX6_openStatement 167 = .ok (.iload_n 2, 1) := by decide +kernel
theorem dX6_openStatement_168 : decode cX6_openStatement 168 = .ok (.bipush 42, 2) := by decide +kernel
theorem dX6_openStatement_170 : decode cX6_openStatement 170 = .ok (.if_icmp .ne 52, 3) := by decide +kernel
theorem dX6_openStatement_173 : decode cX6_openStatement 173 = .ok (.aload_n 0, 1) := by decide +kernel
theorem dX6_openStatement_174 : decode cX6_openStatement 174 = .ok (.aload_n 0, 1) := by decide +kernel
theorem dX6_openStatement_175 : decode cX6_openStatement 175 = .ok (.bipush 40, 2) := by decide +kernel
theorem dX6_openStatement_177 : decode cX6_openStatement 177 = .ok (.invokevirtual 159, 3) := by decide +kernel
theorem dX6_openStatement_180 : decode cX6_openStatement 180 = .ok (.invokevirtual 141, 3) := by decide +kernel
theorem dX6_openStatement_183 : decode cX6_openStatement 183 = .ok (.aload_n 0, 1) := by decide +kernel
theorem dX6_openStatement_184 : decode cX6_openStatement 184 = .ok (.getfield 49, 3) := by decide +kernel
theorem dX6_openStatement_187 : decode cX6_openStatement 187 = .ok (.iload_n 1, 1) := by decide +kernel
theorem dX6_openStatement_188 : decode cX6_openStatement 188 = .ok (.aload_n 0, 1) := by decide +kernel
theorem dX6_openStatement_189 : decode cX6_openStatement 189 = .ok (.iload_n 2, 1) := by decide +kernel
theorem dX6_openStatement_190 : decode cX6_openStatement 190 = .ok (.bipush 63, 2) := by decide +kernel
theorem dX6_openStatement_192 : decode cX6_openStatement 192 = .ok (.if_icmp .ne 7, 3) := by decide +kernel
theorem dX6_openStatement_195 : decode cX6_openStatement 195 = .ok (.iconst 4, 1) := by decide +kernel
theorem dX6_openStatement_196 : decode cX6_openStatement 196 = .ok (.goto 4, 3) := by decide +kernel
theorem dX6_openStatement_199 : decode cX6_openStatement 199 = .ok (.iconst 5, 1) := by decide +kernel
theorem dX6_openStatement_200 : decode cX6_openStatement 200 = .ok (.invokevirtual 137, 3) := by decide +kernel
theorem dX6_openStatement_203 : decode cX6_openStatement 203 = .ok (.iastore, 1) := by decide +kernel
theorem dX6_openStatement_204 : decode cX6_openStatement 204 = .ok (.aload_n 0, 1) := by decide +kernel
theorem dX6_openStatement_205 : decode cX6_openStatement 205 = .ok (.getfield 46, 3) := by decide +kernel
theorem dX6_openStatement_208 : decode cX6_openStatement 208 = .ok (.iload_n 1, 1) := by decide +kernel
theorem dX6_openStatement_209 : decode cX6_openStatement 209 = .ok (.bipush 14, 2) := by decide +kernel
theorem dX6_openStatement_211 : decode cX6_openStatement 211 = .ok (.iastore, 1) := by decide +kernel
theorem dX6_openStatement_212 : decode cX6_openStatement 212 = .ok (.aload_n 0, 1) := by decide +kernel
theorem dX6_openStatement_213 : decode cX6_openStatement 213 = .ok (.bipush 30, 2) := by decide +kernel
theorem dX6_openStatement_215 : decode cX6_openStatement 215 = .ok (.iload_n 3, 1) := by decide +kernel
theorem dX6_openStatement_216 : decode cX6_openStatement 216 = .ok (.invokevirtual 166, 3) := by decide +kernel
theorem dX6_openStatement_219 : decode cX6_openStatement 219 = .ok (.goto 47, 3) := by decide +kernel
theorem dX6_openStatement_222 : decode cX6_openStatement 222 = .ok (.iload_n 2, 1) := by decide +kernel
theorem dX6_openStatement_223 : decode cX6_openStatement 223 = .ok (.bipush 123, 2) := by decide +kernel
theorem dX6_openStatement_225 : decode cX6_openStatement 225 = .ok (.if_icmp .ne 36, 3) := by decide +kernel
theorem dX6_openStatement_228 : decode cX6_openStatement 228 = .ok (.aload_n 0, 1) := by decide +kernel
theorem dX6_openStatement_229 : decode cX6_openStatement 229 = .ok (.getfield 49, 3) := by decide +kernel
theorem dX6_openStatement_232 : decode cX6_openStatement 232 = .ok (.iload_n 1, 1) := by decide +kernel
theorem dX6_openStatement_233 : decode cX6_openStatement 233 = .ok (.aload_n 0, 1) := by decide +kernel
theorem dX6_openStatement_234 : decode cX6_openStatement 234 = .ok (.bipush 6, 2) := by decide +kernel
theorem dX6_openStatement_236 : decode cX6_openStatement 236 = .ok (.invokevirtual 137, 3) := by decide +kernel
theorem dX6_openStatement_239 : decode cX6_openStatement 239 = .ok (.iastore, 1) := by decide +kernel
theorem dX6_openStatement_240 : decode cX6_openStatement 240 = .ok (.aload_n 0, 1) := by decide +kernel
theorem dX6_openStatement_241 : decode cX6_openStatement 241 = .ok (.dup, 1) := by decide +kernel
theorem dX6_openStatement_242 : decode cX6_openStatement 242 = .ok (.getfield 131, 3) := by decide +kernel
theorem dX6_openStatement_245 : decode cX6_openStatement 245 = .ok (.iconst 1, 1) := by decide +kernel
theorem dX6_openStatement_246 : decode cX6_openStatement 246 = .ok (.iadd, 1) := by decide +kernel
theorem dX6_openStatement_247 : decode cX6_openStatement 247 = .ok (.putfield 131, 3) := by decide +kernel
theorem dX6_openStatement_250 : decode cX6_openStatement 250 = .ok (.aload_n 0, 1) := by decide +kernel
theorem dX6_openStatement_251 : decode cX6_openStatement 251 = .ok (.getfield 46, 3) := by decide +kernel
theorem dX6_openStatement_254 : decode cX6_openStatement 254 = .ok (.iload_n 1, 1) := by decide +kernel
theorem dX6_openStatement_255 : decode cX6_openStatement 255 = .ok (.bipush 19, 2) := by decide +kernel
theorem dX6_openStatement_257 : decode cX6_openStatement 257 = .ok (.iastore, 1) := by decide +kernel
end
section
theorem dX6_openStatement_258 : decode cX6_openStatement 258 = .ok (.goto 8, 3) := by decide +kernel
theorem dX6_openStatement_261 : decode cX6_openStatement 261 = .ok (.aload_n 0, 1) := by decide +kernel
theorem dX6_openStatement_262 : decode cX6_openStatement 262 = .ok (.iconst 1, 1) := by decide +kernel
theorem dX6_openStatement_263 : decode cX6_openStatement 263 = .ok (.putfield 124, 3) := by decide +kernel
theorem dX6_openStatement_266 : decode cX6_openStatement 266 = .ok (.return_, 1) := by decide +kernel
theorem dX6_openList_0 : decode cX6_openList 0 = .ok (.aload_n 0, 1) := by decide +kernel
theorem dX6_openList_1 : decode cX6_openList 1 = .ok (.getfield 46, 3) := by decide +kernel
theorem dX6_openList_4 : decode cX6_openList 4 = .ok (.iload_n 1, 1) := by decide +kernel
theorem dX6_openList_5 : decode cX6_openList 5 = .ok (.iload_n 2, 1) := by decide +kernel
theorem dX6_openList_6 : decode cX6_openList 6 = .ok (.iastore, 1) := by decide +kernel
theorem dX6_openList_7 : decode cX6_openList 7 = .ok (.aload_n 0, 1) := by decide +kernel
theorem dX6_openList_8 : decode cX6_openList 8 = .ok (.bipush 41, 2) := by decide +kernel
theorem dX6_openList_10 : decode cX6_openList 10 = .ok (.invokevirtual 159, 3) := by decide +kernel
theorem dX6_openList_13 : decode cX6_openList 13 = .ok (.ifCond .eq 11, 3) := by decide +kernel
theorem dX6_openList_16 : decode cX6_openList 16 = .ok (.aload_n 0, 1) := by decide +kernel
theorem dX6_openList_17 : decode cX6_openList 17 = .ok (.iload_n 1, 1) := by decide +kernel
theorem dX6_openList_18 : decode cX6_openList 18 = .ok (.invokevirtual 174, 3) := by decide +kernel
theorem dX6_openList_21 : decode cX6_openList 21 = .ok (.goto 10, 3) := by decide +kernel
theorem dX6_openList_24 : decode cX6_openList 24 = .ok (.aload_n 0, 1) := by decide +kernel
theorem dX6_openList_25 : decode cX6_openList 25 = .ok (.bipush 30, 2) := by decide +kernel
theorem dX6_openList_27 : decode cX6_openList 27 = .ok (.iload_n 3, 1) := by decide +kernel
theorem dX6_openList_28 : decode cX6_openList 28 = .ok (.invokevirtual 166, 3) := by decide +kernel
theorem dX6_openList_31 : decode cX6_openList 31 = .ok (.return_, 1) := by decide +kernel
theorem dX6_closeList_0 : decode cX6_closeList 0 = .ok (.aload_n 0, 1) := by decide +kernel
theorem dX6_closeList_1 : decode cX6_closeList 1 = .ok (.getfield 46, 3) := by decide +kernel
theorem dX6_closeList_4 : decode cX6_closeList 4 = .ok (.iload_n 1, 1) := by decide +kernel
theorem dX6_closeList_5 : decode cX6_closeList 5 = .ok (.iaload, 1) := by decide +kernel
theorem dX6_closeList_6 : decode cX6_closeList 6 = .ok (.bipush 12, 2) := by decide +kernel
theorem dX6_closeList_8 : decode cX6_closeList 8 = .ok (.if_icmp .ne 13, 3) := by decide +kernel
theorem dX6_closeList_11 : decode cX6_closeList 11 = .ok (.aload_n 0, 1) := by decide +kernel
theorem dX6_closeList_12 : decode cX6_closeList 12 = .ok (.aload_n 0, 1) := by decide +kernel
theorem dX6_closeList_13 : decode cX6_closeList 13 = .ok (.bipush 59, 2) := by decide +kernel
theorem dX6_closeList_15 : decode cX6_closeList 15 = .ok (.invokevirtual 159, 3) := by decide +kernel
theorem dX6_closeList_18 : decode cX6_closeList 18 = .ok (.invokevirtual 141, 3) := by decide +kernel
theorem dX6_closeList_21 : decode cX6_closeList 21 = .ok (.aload_n 0, 1) := by decide +kernel
theorem dX6_closeList_22 : decode cX6_closeList 22 = .ok (.aload_n 0, 1) := by decide +kernel
theorem dX6_closeList_23 : decode cX6_closeList 23 = .ok (.getfield 49, 3) := by decide +kernel
theorem dX6_closeList_26 : decode cX6_closeList 26 = .ok (.iload_n 1, 1) := by decide +kernel
theorem dX6_closeList_27 : decode cX6_closeList 27 = .ok (.iaload, 1) := by decide +kernel
theorem dX6_closeList_28 : decode cX6_closeList 28 = .ok (.invokevirtual 177, 3) := by decide +kernel
theorem dX6_closeList_31 : decode cX6_closeList 31 = .ok (.return_, 1) := by decide +kernel
theorem dX6_onward_0 : decode cX6_onward 0 = .ok (.aload_n 0, 1) := by decide +kernel
theorem dX6_onward_1 : decode cX6_onward 1 = .ok (.getfield 52, 3) := by decide +kernel
theorem dX6_onward_4 : decode cX6_onward 4 = .ok (.iload_n 1, 1) := by decide +kernel
theorem dX6_onward_5 : decode cX6_onward 5 = .ok (.iaload, 1) := by decide +kernel
theorem dX6_onward_6 : decode cX6_onward 6 = .ok (.iconst 1, 1) := by decide +kernel
theorem dX6_onward_7 : decode cX6_onward 7 = .ok (.iadd, 1) := by decide +kernel
theorem dX6_onward_8 : decode cX6_onward 8 = .ok (.istore_n 2, 1) := by decide +kernel
theorem dX6_onward_9 : decode cX6_onward 9 = .ok (.aload_n 0, 1) := by decide +kernel
theorem dX6_onward_10 : decode cX6_onward 10 = .ok (.getfield 46, 3) := by decide +kernel
theorem dX6_onward_13 : decode cX6_onward 13 = .ok (.iload_n 1, 1) := by decide +kernel
theorem dX6_onward_14 : decode cX6_onward 14 = .ok (.iaload, 1) := by decide +kernel
theorem dX6_onward_15 : decode cX6_onward 15 = .ok (.lookupswitch 266 #[(11, 57), (12, 85), (14, 172), (15, 225), (16, 248), (40, 85)], 57) := by decide +kernel
theorem dX6_onward_72 : decode cX6_onward 72 = .ok (.aload_n 0, 1) := by decide +kernel
theorem dX6_onward_73 : decode cX6_onward 73 = .ok (.iload_n 1, 1) := by decide +kernel
theorem dX6_onward_74 : decode cX6_onward 74 = .ok (.invokevirtual 180, 3) := by decide +kernel
theorem dX6_onward_77 : decode cX6_onward 77 = .ok (.aload_n 0, 1) := by decide +kernel
theorem dX6_onward_78 : decode cX6_onward 78 = .ok (.aload_n 0, 1) := by decide +kernel
theorem dX6_onward_79 : decode cX6_onward 79 = .ok (.bipush 59, 2) := by decide +kernel
theorem dX6_onward_81 : decode cX6_onward 81 = .ok (.invokevirtual 159, 3) := by decide +kernel
theorem dX6_onward_84 : decode cX6_onward 84 = .ok (.invokevirtual 141, 3) := by decide +kernel
theorem dX6_onward_87 : decode cX6_onward 87 = .ok (.aload_n 0, 1) := by decide +kernel
theorem dX6_onward_88 : decode cX6_onward 88 = .ok (.aload_n 0, 1) := by decide +kernel
theorem dX6_onward_89 : decode cX6_onward 89 = .ok (.getfield 49, 3) := by decide +kernel
theorem dX6_onward_92 : decode cX6_onward 92 = .ok (.iload_n 1, 1) := by decide +kernel
theorem dX6_onward_93 : decode cX6_onward 93 = .ok (.iaload, 1) := by decide +kernel
theorem dX6_onward_94 : decode cX6_onward 94 = .ok (.invokevirtual 177, 3) := by decide +kernel
theorem dX6_onward_97 : decode cX6_onward 97 = .ok (.goto 190, 3) := by decide +kernel
theorem dX6_onward_100 : decode cX6_onward 100 = .ok (.aload_n 0, 1) := by decide +kernel
theorem dX6_onward_101 : decode cX6_onward 101 = .ok (.iload_n 1, 1) := by decide +kernel
theorem dX6_onward_102 : decode cX6_onward 102 = .ok (.invokevirtual 180, 3) := by decide +kernel
theorem dX6_onward_105 : decode cX6_onward 105 = .ok (.aload_n 0, 1) := by decide +kernel
theorem dX6_onward_106 : decode cX6_onward 106 = .ok (.getfield 31, 3) := by decide +kernel
theorem dX6_onward_109 : decode cX6_onward 109 = .ok (.aload_n 0, 1) := by decide +kernel
theorem dX6_onward_110 : decode cX6_onward 110 = .ok (.getfield 121, 3) := by decide +kernel
theorem dX6_onward_113 : decode cX6_onward 113 = .ok (.aload_n 0, 1) := by decide +kernel
theorem dX6_onward_114 : decode cX6_onward 114 = .ok (.getfield 58, 3) := by decide +kernel
theorem dX6_onward_117 : decode cX6_onward 117 = .ok (.iload_n 1, 1) := by decide +kernel
theorem dX6_onward_118 : decode cX6_onward 118 = .ok (.iaload, 1) := by decide +kernel
theorem dX6_onward_119 : decode cX6_onward 119 = .ok (.iastore, 1) := by decide +kernel
theorem dX6_onward_120 : decode cX6_onward 120 = .ok (.aload_n 0, 1) := by decide +kernel
theorem dX6_onward_121 : decode cX6_onward 121 = .ok (.getfield 58, 3) := by decide +kernel
theorem dX6_onward_124 : decode cX6_onward 124 = .ok (.iload_n 1, 1) := by decide +kernel
theorem dX6_onward_125 : decode cX6_onward 125 = .ok (.dup2, 1) := by decide +kernel
theorem dX6_onward_126 : decode cX6_onward 126 = .ok (.iaload, 1) := by decide +kernel
theorem dX6_onward_127 : decode cX6_onward 127 = .ok (.iconst 1, 1) := by decide +kernel
theorem dX6_onward_128 : decode cX6_onward 128 = .ok (.iadd, 1) := by decide +kernel
theorem dX6_onward_129 : decode cX6_onward 129 = .ok (.iastore, 1) := by decide +kernel
theorem dX6_onward_130 : decode cX6_onward 130 = .ok (.aload_n 0, 1) := by decide +kernel
theorem dX6_onward_131 : decode cX6_onward 131 = .ok (.bipush 44, 2) := by decide +kernel
theorem dX6_onward_133 : decode cX6_onward 133 = .ok (.invokevirtual 159, 3) := by decide +kernel
theorem dX6_onward_136 : decode cX6_onward 136 = .ok (.ifCond .eq 33, 3) := by decide +kernel
theorem dX6_onward_139 : decode cX6_onward 139 = .ok (.aload_n 0, 1) := by decide +kernel
theorem dX6_onward_140 : decode cX6_onward 140 = .ok (.aload_n 0, 1) := by decide +kernel
theorem dX6_onward_141 : decode cX6_onward 141 = .ok (.getfield 58, 3) := by decide +kernel
theorem dX6_onward_144 : decode cX6_onward 144 = .ok (.iload_n 1, 1) := by decide +kernel
theorem dX6_onward_145 : decode cX6_onward 145 = .ok (.iaload, 1) := by decide +kernel
theorem dX6_onward_146 : decode cX6_onward 146 = .ok (.bipush 6, 2) := by decide +kernel
theorem dX6_onward_148 : decode cX6_onward 148 = .ok (.if_icmp .ge 7, 3) := by decide +kernel
theorem dX6_onward_151 : decode cX6_onward 151 = .ok (.iconst 1, 1) := by decide +kernel
theorem dX6_onward_152 : decode cX6_onward 152 = .ok (.goto 4, 3) := by decide +kernel
theorem dX6_onward_155 : decode cX6_onward 155 = .ok (.iconst 0, 1) := by decide +kernel
theorem dX6_onward_156 : decode cX6_onward 156 = .ok (.invokevirtual 141, 3) := by decide +kernel
theorem dX6_onward_159 : decode cX6_onward 159 = .ok (.aload_n 0, 1) := by decide +kernel
theorem dX6_onward_160 : decode cX6_onward 160 = .ok (.bipush 30, 2) := by decide +kernel
theorem dX6_onward_162 : decode cX6_onward 162 = .ok (.iload_n 2, 1) := by decide +kernel
theorem dX6_onward_163 : decode cX6_onward 163 = .ok (.invokevirtual 166, 3) := by decide +kernel
theorem dX6_onward_166 : decode cX6_onward 166 = .ok (.goto 121, 3) := by decide +kernel
theorem dX6_onward_169 : decode cX6_onward 169 = .ok (.aload_n 0, 1) := by decide +kernel
theorem dX6_onward_170 : decode cX6_onward 170 = .ok (.aload_n 0, 1) := by decide +kernel
theorem dX6_onward_171 : decode cX6_onward 171 = .ok (.bipush 41, 2) := by decide +kernel
theorem dX6_onward_173 : decode cX6_onward 173 = .ok (.invokevirtual 159, 3) := by decide +kernel
theorem dX6_onward_176 : decode cX6_onward 176 = .ok (.invokevirtual 141, 3) := by decide +kernel
theorem dX6_onward_179 : decode cX6_onward 179 = .ok (.aload_n 0, 1) := by decide +kernel
theorem dX6_onward_180 : decode cX6_onward 180 = .ok (.iload_n 1, 1) := by decide +kernel
theorem dX6_onward_181 : decode cX6_onward 181 = .ok (.invokevirtual 174, 3) := by decide +kernel
theorem dX6_onward_184 : decode cX6_onward 184 = .ok (.goto 103, 3) := by decide +kernel
theorem dX6_onward_187 : decode cX6_onward 187 = .ok (.aload_n 0, 1) := by decide +kernel
theorem dX6_onward_188 : decode cX6_onward 188 = .ok (.iload_n 1, 1) := by decide +kernel
theorem dX6_onward_189 : decode cX6_onward 189 = .ok (.invokevirtual 180, 3) := by decide +kernel
theorem dX6_onward_192 : decode cX6_onward 192 = .ok (.aload_n 0, 1) := by decide +kernel
theorem dX6_onward_193 : decode cX6_onward 193 = .ok (.aload_n 0, 1) := by decide +kernel
theorem dX6_onward_194 : decode cX6_onward 194 = .ok (.bipush 41, 2) := by decide +kernel
theorem dX6_onward_196 : decode cX6_onward 196 = .ok (.invokevirtual 159, 3) := by decide +kernel
theorem dX6_onward_199 : decode cX6_onward 199 = .ok (.invokevirtual 141, 3) := by decide +kernel
theorem dX6_onward_202 : decode cX6_onward 202 = .ok (.aload_n 0, 1) := by decide +kernel
theorem dX6_onward_203 : decode cX6_onward 203 = .ok (.getfield 46, 3) := by decide +kernel
theorem dX6_onward_206 : decode cX6_onward 206 = .ok (.iload_n 1, 1) := by decide +kernel
theorem dX6_onward_207 : decode cX6_onward 207 = .ok (.aload_n 0, 1) := by decide +kernel
theorem dX6_onward_208 : decode cX6_onward 208 = .ok (.getfield 13, 3) := by decide +kernel
theorem dX6_onward_211 : decode cX6_onward 211 = .ok (.aload_n 0, 1) := by decide +kernel
theorem dX6_onward_212 : decode cX6_onward 212 = .ok (.getfield 49, 3) := by decide +kernel
theorem dX6_onward_215 : decode cX6_onward 215 = .ok (.iload_n 1, 1) := by decide +kernel
theorem dX6_onward_216 : decode cX6_onward 216 = .ok (.iaload, 1) := by decide +kernel
theorem dX6_onward_217 : decode cX6_onward 217 = .ok (.iaload, 1) := by decide +kernel
theorem dX6_onward_218 : decode cX6_onward 218 = .ok (.iconst 4, 1) := by decide +kernel
theorem dX6_onward_219 : decode cX6_onward 219 = .ok (.if_icmp .ne 8, 3) := by decide +kernel
theorem dX6_onward_222 : decode cX6_onward 222 = .ok (.bipush 15, 2) := by decide +kernel
theorem dX6_onward_224 : decode cX6_onward 224 = .ok (.goto 5, 3) := by decide +kernel
theorem dX6_onward_227 : decode cX6_onward 227 = .ok (.bipush 16, 2) := by decide +kernel
theorem dX6_onward_229 : decode cX6_onward 229 = .ok (.iastore, 1) := by decide +kernel
theorem dX6_onward_230 : decode cX6_onward 230 = .ok (.aload_n 0, 1) := by decide +kernel
theorem dX6_onward_231 : decode cX6_onward 231 = .ok (.bipush 10, 2) := by decide +kernel
theorem dX6_onward_233 : decode cX6_onward 233 = .ok (.iload_n 2, 1) := by decide +kernel
theorem dX6_onward_234 : decode cX6_onward 234 = .ok (.invokevirtual 166, 3) := by decide +kernel
theorem dX6_onward_237 : decode cX6_onward 237 = .ok (.goto 50, 3) := by decide +kernel
theorem dX6_onward_240 : decode cX6_onward 240 = .ok (.aload_n 0, 1) := by decide +kernel
theorem dX6_onward_241 : decode cX6_onward 241 = .ok (.iload_n 1, 1) := by decide +kernel
theorem dX6_onward_242 : decode cX6_onward 242 = .ok (.invokevirtual 180, 3) := by decide +kernel
theorem dX6_onward_245 : decode cX6_onward 245 = .ok (.aload_n 0, 1) := by decide +kernel
theorem dX6_onward_246 : decode cX6_onward 246 = .ok (.getfield 46, 3) := by decide +kernel
theorem dX6_onward_249 : decode cX6_onward 249 = .ok (.iload_n 1, 1) := by decide +kernel
theorem dX6_onward_250 : decode cX6_onward 250 = .ok (.bipush 16, 2) := by decide +kernel
theorem dX6_onward_252 : decode cX6_onward 252 = .ok (.iastore, 1) := by decide +kernel
theorem dX6_onward_253 : decode cX6_onward 253 = .ok (.aload_n 0, 1) := by decide +kernel
theorem dX6_onward_254 : decode cX6_onward 254 = .ok (.bipush 10, 2) := by decide +kernel
theorem dX6_onward_256 : decode cX6_onward 256 = .ok (.iload_n 2, 1) := by decide +kernel
theorem dX6_onward_257 : decode cX6_onward 257 = .ok (.invokevirtual 166, 3) := by decide +kernel
theorem dX6_onward_260 : decode cX6_onward 260 = .ok (.goto 27, 3) := by decide +kernel
theorem dX6_onward_263 : decode cX6_onward 263 = .ok (.aload_n 0, 1) := by decide +kernel
theorem dX6_onward_264 : decode cX6_onward 264 = .ok (.iload_n 1, 1) := by decide +kernel
theorem dX6_onward_265 : decode cX6_onward 265 = .ok (.invokevirtual 180, 3) := by decide +kernel
theorem dX6_onward_268 : decode cX6_onward 268 = .ok (.aload_n 0, 1) := by decide +kernel
theorem dX6_onward_269 : decode cX6_onward 269 = .ok (.aload_n 0, 1) := by decide +kernel
theorem dX6_onward_270 : decode cX6_onward 270 = .ok (.getfield 49, 3) := by decide +kernel
theorem dX6_onward_273 : decode cX6_onward 273 = .ok (.iload_n 1, 1) := by decide +kernel
theorem dX6_onward_274 : decode cX6_onward 274 = .ok (.iaload, 1) := by decide +kernel
theorem dX6_onward_275 : decode cX6_onward 275 = .ok (.invokevirtual 177, 3) := by decide +kernel
theorem dX6_onward_278 : decode cX6_onward 278 = .ok (.goto 9, 3) := by decide +kernel
theorem dX6_onward_281 : decode cX6_onward 281 = .ok (.aload_n 0, 1) := by decide +kernel
theorem dX6_onward_282 : decode cX6_onward 282 = .ok (.iload_n 1, 1) := by decide +kernel
theorem dX6_onward_283 : decode cX6_onward 283 = .ok (.iload_n 2, 1) := by decide +kernel
theorem dX6_onward_284 : decode cX6_onward 284 = .ok (.invokevirtual 183, 3) := by decide +kernel
theorem dX6_onward_287 : decode cX6_onward 287 = .ok (.return_, 1) := by decide +kernel
theorem dX6_block_0 : decode cX6_block 0 = .ok (.aload_n 0, 1) := by decide +kernel
theorem dX6_block_1 : decode cX6_block 1 = .ok (.getfield 46, 3) := by decide +kernel
theorem dX6_block_4 : decode cX6_block 4 = .ok (.iload_n 1, 1) := by decide +kernel
theorem dX6_block_5 : decode cX6_block 5 = .ok (.iaload, 1) := by decide +kernel
theorem dX6_block_6 : decode cX6_block 6 = .ok (.bipush 20, 2) := by decide +kernel
theorem dX6_block_8 : decode cX6_block 8 = .ok (.if_icmp .ne 30, 3) := by decide +kernel
theorem dX6_block_11 : decode cX6_block 11 = .ok (.aload_n 0, 1) := by decide +kernel
theorem dX6_block_12 : decode cX6_block 12 = .ok (.getfield 34, 3) := by decide +kernel
theorem dX6_block_15 : decode cX6_block 15 = .ok (.aload_n 0, 1) := by decide +kernel
theorem dX6_block_16 : decode cX6_block 16 = .ok (.getfield 58, 3) := by decide +kernel
theorem dX6_block_19 : decode cX6_block 19 = .ok (.iload_n 1, 1) := by decide +kernel
theorem dX6_block_20 : decode cX6_block 20 = .ok (.iaload, 1) := by decide +kernel
theorem dX6_block_21 : decode cX6_block 21 = .ok (.aload_n 0, 1) := by decide +kernel
theorem dX6_block_22 : decode cX6_block 22 = .ok (.getfield 121, 3) := by decide +kernel
theorem dX6_block_25 : decode cX6_block 25 = .ok (.iastore, 1) := by decide +kernel
theorem dX6_block_26 : decode cX6_block 26 = .ok (.aload_n 0, 1) := by decide +kernel
theorem dX6_block_27 : decode cX6_block 27 = .ok (.invokevirtual 186, 3) := by decide +kernel
theorem dX6_block_30 : decode cX6_block 30 = .ok (.aload_n 0, 1) := by decide +kernel
theorem dX6_block_31 : decode cX6_block 31 = .ok (.getfield 46, 3) := by decide +kernel
theorem dX6_block_34 : decode cX6_block 34 = .ok (.iload_n 1, 1) := by decide +kernel
theorem dX6_block_35 : decode cX6_block 35 = .ok (.bipush 19, 2) := by decide +kernel
theorem dX6_block_37 : decode cX6_block 37 = .ok (.iastore, 1) := by decide +kernel
theorem dX6_block_38 : decode cX6_block 38 = .ok (.aload_n 0, 1) := by decide +kernel
theorem dX6_block_39 : decode cX6_block 39 = .ok (.getfield 46, 3) := by decide +kernel
theorem dX6_block_42 : decode cX6_block 42 = .ok (.iload_n 1, 1) := by decide +kernel
theorem dX6_block_43 : decode cX6_block 43 = .ok (.iaload, 1) := by decide +kernel
theorem dX6_block_44 : decode cX6_block 44 = .ok (.bipush 22, 2) := by decide +kernel
theorem dX6_block_46 : decode cX6_block 46 = .ok (.if_icmp .ne 8, 3) := by decide +kernel
theorem dX6_block_49 : decode cX6_block 49 = .ok (.aload_n 0, 1) := by decide +kernel
theorem dX6_block_50 : decode cX6_block 50 = .ok (.iload_n 1, 1) := by decide +kernel
theorem dX6_block_51 : decode cX6_block 51 = .ok (.invokevirtual 180, 3) := by decide +kernel
theorem dX6_block_54 : decode cX6_block 54 = .ok (.aload_n 0, 1) := by decide +kernel
theorem dX6_block_55 : decode cX6_block 55 = .ok (.invokevirtual 107, 3) := by decide +kernel
theorem dX6_block_58 : decode cX6_block 58 = .ok (.istore_n 3, 1) := by decide +kernel
theorem dX6_block_59 : decode cX6_block 59 = .ok (.aload_n 0, 1) := by decide +kernel
theorem dX6_block_60 : decode cX6_block 60 = .ok (.getfield 46, 3) := by decide +kernel
theorem dX6_block_63 : decode cX6_block 63 = .ok (.iload_n 1, 1) := by decide +kernel
theorem dX6_block_64 : decode cX6_block 64 = .ok (.iaload, 1) := by decide +kernel
theorem dX6_block_65 : decode cX6_block 65 = .ok (.bipush 19, 2) := by decide +kernel
theorem dX6_block_67 : decode cX6_block 67 = .ok (.if_icmp .ne 122, 3) := by decide +kernel
theorem dX6_block_70 : decode cX6_block 70 = .ok (.iload_n 3, 1) := by decide +kernel
theorem dX6_block_71 : decode cX6_block 71 = .ok (.bipush 36, 2) := by decide +kernel
theorem dX6_block_73 : decode cX6_block 73 = .ok (.if_icmp .ne 116, 3) := by decide +kernel
theorem dX6_block_76 : decode cX6_block 76 = .ok (.aload_n 0, 1) := by decide +kernel
theorem dX6_block_77 : decode cX6_block 77 = .ok (.dup, 1) := by decide +kernel
theorem dX6_block_78 : decode cX6_block 78 = .ok (.getfield 104, 3) := by decide +kernel
theorem dX6_block_81 : decode cX6_block 81 = .ok (.iconst 1, 1) := by decide +kernel
theorem dX6_block_82 : decode cX6_block 82 = .ok (.iadd, 1) := by decide +kernel
theorem dX6_block_83 : decode cX6_block 83 = .ok (.putfield 104, 3) := by decide +kernel
theorem dX6_block_86 : decode cX6_block 86 = .ok (.aload_n 0, 1) := by decide +kernel
theorem dX6_block_87 : decode cX6_block 87 = .ok (.invokevirtual 107, 3) := by decide +kernel
theorem dX6_block_90 : decode cX6_block 90 = .ok (.istore_n 3, 1) := by decide +kernel
theorem dX6_block_91 : decode cX6_block 91 = .ok (.aload_n 0, 1) := by decide +kernel
theorem dX6_block_92 : decode cX6_block 92 = .ok (.dup, 1) := by decide +kernel
theorem dX6_block_93 : decode cX6_block 93 = .ok (.getfield 104, 3) := by decide +kernel
theorem dX6_block_96 : decode cX6_block 96 = .ok (.iconst 1, 1) := by decide +kernel
theorem dX6_block_97 : decode cX6_block 97 = .ok (.iadd, 1) := by decide +kernel
theorem dX6_block_98 : decode cX6_block 98 = .ok (.putfield 104, 3) := by decide +kernel
theorem dX6_block_101 : decode cX6_block 101 = .ok (.aload_n 0, 1) := by decide +kernel
theorem dX6_block_102 : decode cX6_block 102 = .ok (.aload_n 0, 1) := by decide +kernel
theorem dX6_block_103 : decode cX6_block 103 = .ok (.iload_n 3, 1) := by decide +kernel
theorem dX6_block_104 : decode cX6_block 104 = .ok (.invokevirtual 155, 3) := by decide +kernel
theorem dX6_block_107 : decode cX6_block 107 = .ok (.ifCond .eq 25, 3) := by decide +kernel
theorem dX6_block_110 : decode cX6_block 110 = .ok (.aload_n 0, 1) := by decide +kernel
theorem dX6_block_111 : decode cX6_block 111 = .ok (.bipush 59, 2) := by decide +kernel
theorem dX6_block_113 : decode cX6_block 113 = .ok (.invokevirtual 159, 3) := by decide +kernel
theorem dX6_block_116 : decode cX6_block 116 = .ok (.ifCond .eq 16, 3) := by decide +kernel
theorem dX6_block_119 : decode cX6_block 119 = .ok (.aload_n 0, 1) := by decide +kernel
theorem dX6_block_120 : decode cX6_block 120 = .ok (.getfield 189, 3) := by decide +kernel
theorem dX6_block_123 : decode cX6_block 123 = .ok (.bipush 24, 2) := by decide +kernel
theorem dX6_block_125 : decode cX6_block 125 = .ok (.if_icmp .ge 7, 3) := by decide +kernel
theorem dX6_block_128 : decode cX6_block 128 = .ok (.iconst 1, 1) := by decide +kernel
theorem dX6_block_129 : decode cX6_block 129 = .ok (.goto 4, 3) := by decide +kernel
theorem dX6_block_132 : decode cX6_block 132 = .ok (.iconst 0, 1) := by decide +kernel
theorem dX6_block_133 : decode cX6_block 133 = .ok (.invokevirtual 141, 3) := by decide +kernel
theorem dX6_block_136 : decode cX6_block 136 = .ok (.aload_n 0, 1) := by decide +kernel
theorem dX6_block_137 : decode cX6_block 137 = .ok (.getfield 124, 3) := by decide +kernel
theorem dX6_block_140 : decode cX6_block 140 = .ok (.ifCond .eq 4, 3) := by decide +kernel
theorem dX6_block_143 : decode cX6_block 143 = .ok (.return_, 1) := by decide +kernel
theorem dX6_block_144 : decode cX6_block 144 = .ok (.aload_n 0, 1) := by decide +kernel
theorem dX6_block_145 : decode cX6_block 145 = .ok (.iload_n 3, 1) := by decide +kernel
theorem dX6_block_146 : decode cX6_block 146 = .ok (.iconst 1, 1) := by decide +kernel
theorem dX6_block_147 : decode cX6_block 147 = .ok (.aload_n 0, 1) := by decide +kernel
theorem dX6_block_148 : decode cX6_block 148 = .ok (.getfield 22, 3) := by decide +kernel
theorem dX6_block_151 : decode cX6_block 151 = .ok (.aload_n 0, 1) := by decide +kernel
theorem dX6_block_152 : decode cX6_block 152 = .ok (.getfield 49, 3) := by decide +kernel
theorem dX6_block_155 : decode cX6_block 155 = .ok (.iload_n 1, 1) := by decide +kernel
theorem dX6_block_156 : decode cX6_block 156 = .ok (.iaload, 1) := by decide +kernel
theorem dX6_block_157 : decode cX6_block 157 = .ok (.iaload, 1) := by decide +kernel
theorem dX6_block_158 : decode cX6_block 158 = .ok (.invokevirtual 192, 3) := by decide +kernel
theorem dX6_block_161 : decode cX6_block 161 = .ok (.aload_n 0, 1) := by decide +kernel
theorem dX6_block_162 : decode cX6_block 162 = .ok (.getfield 22, 3) := by decide +kernel
theorem dX6_block_165 : decode cX6_block 165 = .ok (.aload_n 0, 1) := by decide +kernel
theorem dX6_block_166 : decode cX6_block 166 = .ok (.getfield 49, 3) := by decide +kernel
theorem dX6_block_169 : decode cX6_block 169 = .ok (.iload_n 1, 1) := by decide +kernel
theorem dX6_block_170 : decode cX6_block 170 = .ok (.iaload, 1) := by decide +kernel
theorem dX6_block_171 : decode cX6_block 171 = .ok (.dup2, 1) := by decide +kernel
theorem dX6_block_172 : decode cX6_block 172 = .ok (.iaload, 1) := by decide +kernel
theorem dX6_block_173 : decode cX6_block 173 = .ok (.iconst 1, 1) := by decide +kernel
theorem dX6_block_174 : decode cX6_block 174 = .ok (.iadd, 1) := by decide +kernel
theorem dX6_block_175 : decode cX6_block 175 = .ok (.iastore, 1) := by decide +kernel
theorem dX6_block_176 : decode cX6_block 176 = .ok (.aload_n 0, 1) := by decide +kernel
theorem dX6_block_177 : decode cX6_block 177 = .ok (.dup, 1) := by decide +kernel
theorem dX6_block_178 : decode cX6_block 178 = .ok (.getfield 189, 3) := by decide +kernel
theorem dX6_block_181 : decode cX6_block 181 = .ok (.iconst 1, 1) := by decide +kernel
theorem dX6_block_182 : decode cX6_block 182 = .ok (.iadd, 1) := by decide +kernel
theorem dX6_block_183 : decode cX6_block 183 = .ok (.putfield 189, 3) := by decide +kernel
theorem dX6_block_186 : decode cX6_block 186 = .ok (.goto 87, 3) := by decide +kernel
theorem dX6_block_189 : decode cX6_block 189 = .ok (.aload_n 0, 1) := by decide +kernel
theorem dX6_block_190 : decode cX6_block 190 = .ok (.getfield 46, 3) := by decide +kernel
theorem dX6_block_193 : decode cX6_block 193 = .ok (.iload_n 1, 1) := by decide +kernel
theorem dX6_block_194 : decode cX6_block 194 = .ok (.iaload, 1) := by decide +kernel
theorem dX6_block_195 : decode cX6_block 195 = .ok (.bipush 19, 2) := by decide +kernel
theorem dX6_block_197 : decode cX6_block 197 = .ok (.if_icmp .ne 28, 3) := by decide +kernel
theorem dX6_block_200 : decode cX6_block 200 = .ok (.iload_n 3, 1) := by decide +kernel
theorem dX6_block_201 : decode cX6_block 201 = .ok (.bipush 64, 2) := by decide +kernel
theorem dX6_block_203 : decode cX6_block 203 = .ok (.if_icmp .ne 22, 3) := by decide +kernel
theorem dX6_block_206 : decode cX6_block 206 = .ok (.aload_n 0, 1) := by decide +kernel
theorem dX6_block_207 : decode cX6_block 207 = .ok (.dup, 1) := by decide +kernel
theorem dX6_block_208 : decode cX6_block 208 = .ok (.getfield 104, 3) := by decide +kernel
theorem dX6_block_211 : decode cX6_block 211 = .ok (.iconst 1, 1) := by decide +kernel
theorem dX6_block_212 : decode cX6_block 212 = .ok (.iadd, 1) := by decide +kernel
theorem dX6_block_213 : decode cX6_block 213 = .ok (.putfield 104, 3) := by decide +kernel
theorem dX6_block_216 : decode cX6_block 216 = .ok (.aload_n 0, 1) := by decide +kernel
theorem dX6_block_217 : decode cX6_block 217 = .ok (.iload_n 1, 1) := by decide +kernel
theorem dX6_block_218 : decode cX6_block 218 = .ok (.iload_n 2, 1) := by decide +kernel
theorem dX6_block_219 : decode cX6_block 219 = .ok (.invokevirtual 195, 3) := by decide +kernel
theorem dX6_block_222 : decode cX6_block 222 = .ok (.goto 51, 3) := by decide +kernel
theorem dX6_block_225 : decode cX6_block 225 = .ok (.iload_n 3, 1) := by decide +kernel
theorem dX6_block_226 : decode cX6_block 226 = .ok (.bipush 125, 2) := by decide +kernel
theorem dX6_block_228 : decode cX6_block 228 = .ok (.if_icmp .ne 30, 3) := by decide +kernel
theorem dX6_block_231 : decode cX6_block 231 = .ok (.aload_n 0, 1) := by decide +kernel
theorem dX6_block_232 : decode cX6_block 232 = .ok (.dup, 1) := by decide +kernel
theorem dX6_block_233 : decode cX6_block 233 = .ok (.getfield 104, 3) := by decide +kernel
theorem dX6_block_236 : decode cX6_block 236 = .ok (.iconst 1, 1) := by decide +kernel
theorem dX6_block_237 : decode cX6_block 237 = .ok (.iadd, 1) := by decide +kernel
theorem dX6_block_238 : decode cX6_block 238 = .ok (.putfield 104, 3) := by decide +kernel
theorem dX6_block_241 : decode cX6_block 241 = .ok (.aload_n 0, 1) := by decide +kernel
theorem dX6_block_242 : decode cX6_block 242 = .ok (.invokevirtual 186, 3) := by decide +kernel
theorem dX6_block_245 : decode cX6_block 245 = .ok (.aload_n 0, 1) := by decide +kernel
theorem dX6_block_246 : decode cX6_block 246 = .ok (.aload_n 0, 1) := by decide +kernel
theorem dX6_block_247 : decode cX6_block 247 = .ok (.getfield 49, 3) := by decide +kernel
theorem dX6_block_250 : decode cX6_block 250 = .ok (.iload_n 1, 1) := by decide +kernel
theorem dX6_block_251 : decode cX6_block 251 = .ok (.iaload, 1) := by decide +kernel
theorem dX6_block_252 : decode cX6_block 252 = .ok (.invokevirtual 177, 3) := by decide +kernel
theorem dX6_block_255 : decode cX6_block 255 = .ok (.goto 18, 3) := by decide +kernel
theorem dX6_block_258 : decode cX6_block 258 = .ok (.aload_n 0, 1) := by decide +kernel
theorem dX6_block_259 : decode cX6_block 259 = .ok (.getfield 46, 3) := by decide +kernel
theorem dX6_block_262 : decode cX6_block 262 = .ok (.iload_n 1, 1) := by decide +kernel
theorem dX6_block_263 : decode cX6_block 263 = .ok (.bipush 22, 2) := by decide +kernel
theorem dX6_block_265 : decode cX6_block 265 = .ok (.iastore, 1) := by decide +kernel
theorem dX6_block_266 : decode cX6_block 266 = .ok (.aload_n 0, 1) := by decide +kernel
theorem dX6_block_267 : decode cX6_block 267 = .ok (.bipush 10, 2) := by decide +kernel
theorem dX6_block_269 : decode cX6_block 269 = .ok (.iload_n 2, 1) := by decide +kernel
theorem dX6_block_270 : decode cX6_block 270 = .ok (.invokevirtual 166, 3) := by decide +kernel
theorem dX6_block_273 : decode cX6_block 273 = .ok (.return_, 1) := by decide +kernel
theorem dX6_heading_0 : decode cX6_heading 0 = .ok (.aload_n 0, 1) := by decide +kernel
theorem dX6_heading_1 : decode cX6_heading 1 = .ok (.invokevirtual 107, 3) := by decide +kernel
theorem dX6_heading_4 : decode cX6_heading 4 = .ok (.istore_n 3, 1) := by decide +kernel
theorem dX6_heading_5 : decode cX6_heading 5 = .ok (.aload_n 0, 1) := by decide +kernel
theorem dX6_heading_6 : decode cX6_heading 6 = .ok (.dup, 1) := by decide +kernel
theorem dX6_heading_7 : decode cX6_heading 7 = .ok (.getfield 104, 3) := by decide +kernel
theorem dX6_heading_10 : decode cX6_heading 10 = .ok (.iconst 1, 1) := by decide +kernel
theorem dX6_heading_11 : decode cX6_heading 11 = .ok (.iadd, 1) := by decide +kernel
theorem dX6_heading_12 : decode cX6_heading 12 = .ok (.putfield 104, 3) := by decide +kernel
theorem dX6_heading_15 : decode cX6_heading 15 = .ok (.aload_n 0, 1) := by decide +kernel
theorem dX6_heading_16 : decode cX6_heading 16 = .ok (.aload_n 0, 1) := by decide +kernel
theorem dX6_heading_17 : decode cX6_heading 17 = .ok (.iload_n 3, 1) := by decide +kernel
theorem dX6_heading_18 : decode cX6_heading 18 = .ok (.invokevirtual 155, 3) := by decide +kernel
theorem dX6_heading_21 : decode cX6_heading 21 = .ok (.ifCond .eq 25, 3) := by decide +kernel
theorem dX6_heading_24 : decode cX6_heading 24 = .ok (.aload_n 0, 1) := by decide +kernel
theorem dX6_heading_25 : decode cX6_heading 25 = .ok (.bipush 40, 2) := by decide +kernel
theorem dX6_heading_27 : decode cX6_heading 27 = .ok (.invokevirtual 159, 3) := by decide +kernel
theorem dX6_heading_30 : decode cX6_heading 30 = .ok (.ifCond .eq 16, 3) := by decide +kernel
theorem dX6_heading_33 : decode cX6_heading 33 = .ok (.aload_n 0, 1) := by decide +kernel
theorem dX6_heading_34 : decode cX6_heading 34 = .ok (.getfield 198, 3) := by decide +kernel
theorem dX6_heading_37 : decode cX6_heading 37 = .ok (.bipush 16, 2) := by decide +kernel
theorem dX6_heading_39 : decode cX6_heading 39 = .ok (.if_icmp .ge 7, 3) := by decide +kernel
theorem dX6_heading_42 : decode cX6_heading 42 = .ok (.iconst 1, 1) := by decide +kernel
theorem dX6_heading_43 : decode cX6_heading 43 = .ok (.goto 4, 3) := by decide +kernel
theorem dX6_heading_46 : decode cX6_heading 46 = .ok (.iconst 0, 1) := by decide +kernel
theorem dX6_heading_47 : decode cX6_heading 47 = .ok (.invokevirtual 141, 3) := by decide +kernel
theorem dX6_heading_50 : decode cX6_heading 50 = .ok (.aload_n 0, 1) := by decide +kernel
theorem dX6_heading_51 : decode cX6_heading 51 = .ok (.getfield 124, 3) := by decide +kernel
theorem dX6_heading_54 : decode cX6_heading 54 = .ok (.ifCond .eq 4, 3) := by decide +kernel
theorem dX6_heading_57 : decode cX6_heading 57 = .ok (.return_, 1) := by decide +kernel
theorem dX6_heading_58 : decode cX6_heading 58 = .ok (.bipush 16, 2) := by decide +kernel
theorem dX6_heading_60 : decode cX6_heading 60 = .ok (.aload_n 0, 1) := by decide +kernel
theorem dX6_heading_61 : decode cX6_heading 61 = .ok (.getfield 201, 3) := by decide +kernel
theorem dX6_heading_64 : decode cX6_heading 64 = .ok (.imul, 1) := by decide +kernel
theorem dX6_heading_65 : decode cX6_heading 65 = .ok (.aload_n 0, 1) := by decide +kernel
theorem dX6_heading_66 : decode cX6_heading 66 = .ok (.getfield 198, 3) := by decide +kernel
theorem dX6_heading_69 : decode cX6_heading 69 = .ok (.iadd, 1) := by decide +kernel
theorem dX6_heading_70 : decode cX6_heading 70 = .ok (.istore 4, 2) := by decide +kernel
theorem dX6_heading_72 : decode cX6_heading 72 = .ok (.aload_n 0, 1) := by decide +kernel
theorem dX6_heading_73 : decode cX6_heading 73 = .ok (.dup, 1) := by decide +kernel
theorem dX6_heading_74 : decode cX6_heading 74 = .ok (.getfield 198, 3) := by decide +kernel
theorem dX6_heading_77 : decode cX6_heading 77 = .ok (.iconst 1, 1) := by decide +kernel
theorem dX6_heading_78 : decode cX6_heading 78 = .ok (.iadd, 1) := by decide +kernel
theorem dX6_heading_79 : decode cX6_heading 79 = .ok (.putfield 198, 3) := by decide +kernel
theorem dX6_heading_82 : decode cX6_heading 82 = .ok (.aload_n 0, 1) := by decide +kernel
theorem dX6_heading_83 : decode cX6_heading 83 = .ok (.iload_n 3, 1) := by decide +kernel
theorem dX6_heading_84 : decode cX6_heading 84 = .ok (.iconst 2, 1) := by decide +kernel
theorem dX6_heading_85 : decode cX6_heading 85 = .ok (.iload 4, 2) := by decide +kernel
theorem dX6_heading_87 : decode cX6_heading 87 = .ok (.invokevirtual 192, 3) := by decide +kernel
theorem dX6_heading_90 : decode cX6_heading 90 = .ok (.aload_n 0, 1) := by decide +kernel
theorem dX6_heading_91 : decode cX6_heading 91 = .ok (.getfield 37, 3) := by decide +kernel
theorem dX6_heading_94 : decode cX6_heading 94 = .ok (.iload 4, 2) := by decide +kernel
theorem dX6_heading_96 : decode cX6_heading 96 = .ok (.iconst 0, 1) := by decide +kernel
theorem dX6_heading_97 : decode cX6_heading 97 = .ok (.iastore, 1) := by decide +kernel
theorem dX6_heading_98 : decode cX6_heading 98 = .ok (.aload_n 0, 1) := by decide +kernel
theorem dX6_heading_99 : decode cX6_heading 99 = .ok (.getfield 40, 3) := by decide +kernel
theorem dX6_heading_102 : decode cX6_heading 102 = .ok (.iload 4, 2) := by decide +kernel
theorem dX6_heading_104 : decode cX6_heading 104 = .ok (.iconst 0, 1) := by decide +kernel
theorem dX6_heading_105 : decode cX6_heading 105 = .ok (.iastore, 1) := by decide +kernel
theorem dX6_heading_106 : decode cX6_heading 106 = .ok (.aload_n 0, 1) := by decide +kernel
theorem dX6_heading_107 : decode cX6_heading 107 = .ok (.dup, 1) := by decide +kernel
theorem dX6_heading_108 : decode cX6_heading 108 = .ok (.getfield 131, 3) := by decide +kernel
theorem dX6_heading_111 : decode cX6_heading 111 = .ok (.iconst 1, 1) := by decide +kernel
theorem dX6_heading_112 : decode cX6_heading 112 = .ok (.iadd, 1) := by decide +kernel
theorem dX6_heading_113 : decode cX6_heading 113 = .ok (.putfield 131, 3) := by decide +kernel
theorem dX6_heading_116 : decode cX6_heading 116 = .ok (.aload_n 0, 1) := by decide +kernel
theorem dX6_heading_117 : decode cX6_heading 117 = .ok (.bipush 41, 2) := by decide +kernel
theorem dX6_heading_119 : decode cX6_heading 119 = .ok (.invokevirtual 159, 3) := by decide +kernel
theorem dX6_heading_122 : decode cX6_heading 122 = .ok (.ifCond .ne 7, 3) := by decide +kernel
theorem dX6_heading_125 : decode cX6_heading 125 = .ok (.iconst 1, 1) := by decide +kernel
theorem dX6_heading_126 : decode cX6_heading 126 = .ok (.goto 4, 3) := by decide +kernel
theorem dX6_heading_129 : decode cX6_heading 129 = .ok (.iconst 0, 1) := by decide +kernel
theorem dX6_heading_130 : decode cX6_heading 130 = .ok (.istore 5, 2) := by decide +kernel
theorem dX6_heading_132 : decode cX6_heading 132 = .ok (.iconst 0, 1) := by decide +kernel
theorem dX6_heading_133 : decode cX6_heading 133 = .ok (.istore 6, 2) := by decide +kernel
theorem dX6_heading_135 : decode cX6_heading 135 = .ok (.iload 6, 2) := by decide +kernel
theorem dX6_heading_137 : decode cX6_heading 137 = .ok (.bipush 7, 2) := by decide +kernel
theorem dX6_heading_139 : decode cX6_heading 139 = .ok (.if_icmp .ge 152, 3) := by decide +kernel
theorem dX6_heading_142 : decode cX6_heading 142 = .ok (.iload 5, 2) := by decide +kernel
theorem dX6_heading_144 : decode cX6_heading 144 = .ok (.ifCond .eq 147, 3) := by decide +kernel
theorem dX6_heading_147 : decode cX6_heading 147 = .ok (.aload_n 0, 1) := by decide +kernel
theorem dX6_heading_148 : decode cX6_heading 148 = .ok (.getfield 124, 3) := by decide +kernel
theorem dX6_heading_151 : decode cX6_heading 151 = .ok (.ifCond .ne 140, 3) := by decide +kernel
theorem dX6_heading_154 : decode cX6_heading 154 = .ok (.aload_n 0, 1) := by decide +kernel
theorem dX6_heading_155 : decode cX6_heading 155 = .ok (.bipush 35, 2) := by decide +kernel
theorem dX6_heading_157 : decode cX6_heading 157 = .ok (.invokevirtual 159, 3) := by decide +kernel
theorem dX6_heading_160 : decode cX6_heading 160 = .ok (.istore 7, 2) := by decide +kernel
theorem dX6_heading_162 : decode cX6_heading 162 = .ok (.aload_n 0, 1) := by decide +kernel
theorem dX6_heading_163 : decode cX6_heading 163 = .ok (.invokevirtual 107, 3) := by decide +kernel
theorem dX6_heading_166 : decode cX6_heading 166 = .ok (.istore_n 3, 1) := by decide +kernel
theorem dX6_heading_167 : decode cX6_heading 167 = .ok (.aload_n 0, 1) := by decide +kernel
theorem dX6_heading_168 : decode cX6_heading 168 = .ok (.dup, 1) := by decide +kernel
theorem dX6_heading_169 : decode cX6_heading 169 = .ok (.getfield 104, 3) := by decide +kernel
theorem dX6_heading_172 : decode cX6_heading 172 = .ok (.iconst 1, 1) := by decide +kernel
theorem dX6_heading_173 : decode cX6_heading 173 = .ok (.iadd, 1) := by decide +kernel
theorem dX6_heading_174 : decode cX6_heading 174 = .ok (.putfield 104, 3) := by decide +kernel
theorem dX6_heading_177 : decode cX6_heading 177 = .ok (.aload_n 0, 1) := by decide +kernel
theorem dX6_heading_178 : decode cX6_heading 178 = .ok (.aload_n 0, 1) := by decide +kernel
theorem dX6_heading_179 : decode cX6_heading 179 = .ok (.iload_n 3, 1) := by decide +kernel
theorem dX6_heading_180 : decode cX6_heading 180 = .ok (.invokevirtual 155, 3) := by decide +kernel
theorem dX6_heading_183 : decode cX6_heading 183 = .ok (.ifCond .eq 14, 3) := by decide +kernel
theorem dX6_heading_186 : decode cX6_heading 186 = .ok (.iload 6, 2) := by decide +kernel
theorem dX6_heading_188 : decode cX6_heading 188 = .ok (.bipush 6, 2) := by decide +kernel
theorem dX6_heading_190 : decode cX6_heading 190 = .ok (.if_icmp .ge 7, 3) := by decide +kernel
theorem dX6_heading_193 : decode cX6_heading 193 = .ok (.iconst 1, 1) := by decide +kernel
theorem dX6_heading_194 : decode cX6_heading 194 = .ok (.goto 4, 3) := by decide +kernel
theorem dX6_heading_197 : decode cX6_heading 197 = .ok (.iconst 0, 1) := by decide +kernel
theorem dX6_heading_198 : decode cX6_heading 198 = .ok (.invokevirtual 141, 3) := by decide +kernel
theorem dX6_heading_201 : decode cX6_heading 201 = .ok (.aload_n 0, 1) := by decide +kernel
theorem dX6_heading_202 : decode cX6_heading 202 = .ok (.getfield 124, 3) := by decide +kernel
theorem dX6_heading_205 : decode cX6_heading 205 = .ok (.ifCond .eq 4, 3) := by decide +kernel
theorem dX6_heading_208 : decode cX6_heading 208 = .ok (.return_, 1) := by decide +kernel
theorem dX6_heading_209 : decode cX6_heading 209 = .ok (.iload 7, 2) := by decide +kernel
theorem dX6_heading_211 : decode cX6_heading 211 = .ok (.ifCond .eq 22, 3) := by decide +kernel
theorem dX6_heading_214 : decode cX6_heading 214 = .ok (.aload_n 0, 1) := by decide +kernel
theorem dX6_heading_215 : decode cX6_heading 215 = .ok (.getfield 40, 3) := by decide +kernel
theorem dX6_heading_218 : decode cX6_heading 218 = .ok (.iload 4, 2) := by decide +kernel
theorem dX6_heading_220 : decode cX6_heading 220 = .ok (.aload_n 0, 1) := by decide +kernel
theorem dX6_heading_221 : decode cX6_heading 221 = .ok (.getfield 40, 3) := by decide +kernel
theorem dX6_heading_224 : decode cX6_heading 224 = .ok (.iload 4, 2) := by decide +kernel
theorem dX6_heading_226 : decode cX6_heading 226 = .ok (.iaload, 1) := by decide +kernel
theorem dX6_heading_227 : decode cX6_heading 227 = .ok (.iconst 1, 1) := by decide +kernel
theorem dX6_heading_228 : decode cX6_heading 228 = .ok (.iload 6, 2) := by decide +kernel
theorem dX6_heading_230 : decode cX6_heading 230 = .ok (.ishl, 1) := by decide +kernel
theorem dX6_heading_231 : decode cX6_heading 231 = .ok (.ior, 1) := by decide +kernel
theorem dX6_heading_232 : decode cX6_heading 232 = .ok (.iastore, 1) := by decide +kernel
theorem dX6_heading_233 : decode cX6_heading 233 = .ok (.aload_n 0, 1) := by decide +kernel
theorem dX6_heading_234 : decode cX6_heading 234 = .ok (.iload_n 3, 1) := by decide +kernel
theorem dX6_heading_235 : decode cX6_heading 235 = .ok (.iload 7, 2) := by decide +kernel
theorem dX6_heading_237 : decode cX6_heading 237 = .ok (.ifCond .eq 7, 3) := by decide +kernel
theorem dX6_heading_240 : decode cX6_heading 240 = .ok (.iconst 3, 1) := by decide +kernel
theorem dX6_heading_241 : decode cX6_heading 241 = .ok (.goto 4, 3) := by decide +kernel
theorem dX6_heading_244 : decode cX6_heading 244 = .ok (.iconst 4, 1) := by decide +kernel
theorem dX6_heading_245 : decode cX6_heading 245 = .ok (.iload 6, 2) := by decide +kernel
theorem dX6_heading_247 : decode cX6_heading 247 = .ok (.iconst 1, 1) := by decide +kernel
theorem dX6_heading_248 : decode cX6_heading 248 = .ok (.iadd, 1) := by decide +kernel
theorem dX6_heading_249 : decode cX6_heading 249 = .ok (.invokevirtual 192, 3) := by decide +kernel
theorem dX6_heading_252 : decode cX6_heading 252 = .ok (.aload_n 0, 1) := by decide +kernel
theorem dX6_heading_253 : decode cX6_heading 253 = .ok (.getfield 37, 3) := by decide +kernel
theorem dX6_heading_256 : decode cX6_heading 256 = .ok (.iload 4, 2) := by decide +kernel
theorem dX6_heading_258 : decode cX6_heading 258 = .ok (.dup2, 1) := by decide +kernel
theorem dX6_heading_259 : decode cX6_heading 259 = .ok (.iaload, 1) := by decide +kernel
theorem dX6_heading_260 : decode cX6_heading 260 = .ok (.iconst 1, 1) := by decide +kernel
theorem dX6_heading_261 : decode cX6_heading 261 = .ok (.iadd, 1) := by decide +kernel
theorem dX6_heading_262 : decode cX6_heading 262 = .ok (.iastore, 1) := by decide +kernel
theorem dX6_heading_263 : decode cX6_heading 263 = .ok (.aload_n 0, 1) := by decide +kernel
theorem dX6_heading_264 : decode cX6_heading 264 = .ok (.bipush 44, 2) := by decide +kernel
theorem dX6_heading_266 : decode cX6_heading 266 = .ok (.invokevirtual 159, 3) := by decide +kernel
theorem dX6_heading_269 : decode cX6_heading 269 = .ok (.ifCond .ne 16, 3) := by decide +kernel
theorem dX6_heading_272 : decode cX6_heading 272 = .ok (.aload_n 0, 1) := by decide +kernel
theorem dX6_heading_273 : decode cX6_heading 273 = .ok (.aload_n 0, 1) := by decide +kernel
theorem dX6_heading_274 : decode cX6_heading 274 = .ok (.bipush 41, 2) := by decide +kernel
theorem dX6_heading_276 : decode cX6_heading 276 = .ok (.invokevirtual 159, 3) := by decide +kernel
theorem dX6_heading_279 : decode cX6_heading 279 = .ok (.invokevirtual 141, 3) := by decide +kernel
theorem dX6_heading_282 : decode cX6_heading 282 = .ok (.iconst 0, 1) := by decide +kernel
theorem dX6_heading_283 : decode cX6_heading 283 = .ok (.istore 5, 2) := by decide +kernel
theorem dX6_heading_285 : decode cX6_heading 285 = .ok (.iinc 6 1, 3) := by decide +kernel
theorem dX6_heading_288 : decode cX6_heading 288 = .ok (.goto (-153), 3) := by decide +kernel
theorem dX6_heading_291 : decode cX6_heading 291 = .ok (.aload_n 0, 1) := by decide +kernel
theorem dX6_heading_292 : decode cX6_heading 292 = .ok (.getfield 58, 3) := by decide +kernel
theorem dX6_heading_295 : decode cX6_heading 295 = .ok (.iload_n 1, 1) := by decide +kernel
theorem dX6_heading_296 : decode cX6_heading 296 = .ok (.iload 4, 2) := by decide +kernel
theorem dX6_heading_298 : decode cX6_heading 298 = .ok (.iastore, 1) := by decide +kernel
theorem dX6_heading_299 : decode cX6_heading 299 = .ok (.aload_n 0, 1) := by decide +kernel
theorem dX6_heading_300 : decode cX6_heading 300 = .ok (.getfield 46, 3) := by decide +kernel
theorem dX6_heading_303 : decode cX6_heading 303 = .ok (.iload_n 1, 1) := by decide +kernel
theorem dX6_heading_304 : decode cX6_heading 304 = .ok (.bipush 20, 2) := by decide +kernel
theorem dX6_heading_306 : decode cX6_heading 306 = .ok (.iastore, 1) := by decide +kernel
theorem dX6_heading_307 : decode cX6_heading 307 = .ok (.aload_n 0, 1) := by decide +kernel
theorem dX6_heading_308 : decode cX6_heading 308 = .ok (.bipush 10, 2) := by decide +kernel
theorem dX6_heading_310 : decode cX6_heading 310 = .ok (.iload_n 2, 1) := by decide +kernel
theorem dX6_heading_311 : decode cX6_heading 311 = .ok (.invokevirtual 166, 3) := by decide +kernel
theorem dX6_heading_314 : decode cX6_heading 314 = .ok (.return_, 1) := by decide +kernel
theorem dX6_expression_0 : decode cX6_expression 0 = .ok (.aload_n 0, 1) := by decide +kernel
theorem dX6_expression_1 : decode cX6_expression 1 = .ok (.getfield 46, 3) := by decide +kernel
theorem dX6_expression_4 : decode cX6_expression 4 = .ok (.iload_n 1, 1) := by decide +kernel
theorem dX6_expression_5 : decode cX6_expression 5 = .ok (.iaload, 1) := by decide +kernel
theorem dX6_expression_6 : decode cX6_expression 6 = .ok (.istore_n 2, 1) := by decide +kernel
theorem dX6_expression_7 : decode cX6_expression 7 = .ok (.aload_n 0, 1) := by decide +kernel
theorem dX6_expression_8 : decode cX6_expression 8 = .ok (.getfield 52, 3) := by decide +kernel
theorem dX6_expression_11 : decode cX6_expression 11 = .ok (.iload_n 1, 1) := by decide +kernel
theorem dX6_expression_12 : decode cX6_expression 12 = .ok (.iaload, 1) := by decide +kernel
theorem dX6_expression_13 : decode cX6_expression 13 = .ok (.istore_n 3, 1) := by decide +kernel
theorem dX6_expression_14 : decode cX6_expression 14 = .ok (.iload_n 2, 1) := by decide +kernel
theorem dX6_expression_15 : decode cX6_expression 15 = .ok (.bipush 30, 2) := by decide +kernel
theorem dX6_expression_17 : decode cX6_expression 17 = .ok (.if_icmp .ne 26, 3) := by decide +kernel
theorem dX6_expression_20 : decode cX6_expression 20 = .ok (.aload_n 0, 1) := by decide +kernel
theorem dX6_expression_21 : decode cX6_expression 21 = .ok (.iload_n 1, 1) := by decide +kernel
theorem dX6_expression_22 : decode cX6_expression 22 = .ok (.invokevirtual 148, 3) := by decide +kernel
theorem dX6_expression_25 : decode cX6_expression 25 = .ok (.aload_n 0, 1) := by decide +kernel
theorem dX6_expression_26 : decode cX6_expression 26 = .ok (.getfield 46, 3) := by decide +kernel
theorem dX6_expression_29 : decode cX6_expression 29 = .ok (.iload_n 1, 1) := by decide +kernel
theorem dX6_expression_30 : decode cX6_expression 30 = .ok (.bipush 31, 2) := by decide +kernel
theorem dX6_expression_32 : decode cX6_expression 32 = .ok (.iastore, 1) := by decide +kernel
theorem dX6_expression_33 : decode cX6_expression 33 = .ok (.aload_n 0, 1) := by decide +kernel
theorem dX6_expression_34 : decode cX6_expression 34 = .ok (.bipush 33, 2) := by decide +kernel
theorem dX6_expression_36 : decode cX6_expression 36 = .ok (.iload_n 3, 1) := by decide +kernel
theorem dX6_expression_37 : decode cX6_expression 37 = .ok (.invokevirtual 166, 3) := by decide +kernel
theorem dX6_expression_40 : decode cX6_expression 40 = .ok (.goto 146, 3) := by decide +kernel
theorem dX6_expression_43 : decode cX6_expression 43 = .ok (.iload_n 2, 1) := by decide +kernel
theorem dX6_expression_44 : decode cX6_expression 44 = .ok (.bipush 33, 2) := by decide +kernel
theorem dX6_expression_46 : decode cX6_expression 46 = .ok (.if_icmp .eq 9, 3) := by decide +kernel
theorem dX6_expression_49 : decode cX6_expression 49 = .ok (.iload_n 2, 1) := by decide +kernel
theorem dX6_expression_50 : decode cX6_expression 50 = .ok (.bipush 36, 2) := by decide +kernel
theorem dX6_expression_52 : decode cX6_expression 52 = .ok (.if_icmp .ne 23, 3) := by decide +kernel
theorem dX6_expression_55 : decode cX6_expression 55 = .ok (.aload_n 0, 1) := by decide +kernel
theorem dX6_expression_56 : decode cX6_expression 56 = .ok (.getfield 46, 3) := by decide +kernel
theorem dX6_expression_59 : decode cX6_expression 59 = .ok (.iload_n 1, 1) := by decide +kernel
theorem dX6_expression_60 : decode cX6_expression 60 = .ok (.iload_n 2, 1) := by decide +kernel
theorem dX6_expression_61 : decode cX6_expression 61 = .ok (.iconst 1, 1) := by decide +kernel
theorem dX6_expression_62 : decode cX6_expression 62 = .ok (.iadd, 1) := by decide +kernel
theorem dX6_expression_63 : decode cX6_expression 63 = .ok (.iastore, 1) := by decide +kernel
theorem dX6_expression_64 : decode cX6_expression 64 = .ok (.aload_n 0, 1) := by decide +kernel
theorem dX6_expression_65 : decode cX6_expression 65 = .ok (.iload_n 2, 1) := by decide +kernel
theorem dX6_expression_66 : decode cX6_expression 66 = .ok (.iconst 3, 1) := by decide +kernel
theorem dX6_expression_67 : decode cX6_expression 67 = .ok (.iadd, 1) := by decide +kernel
theorem dX6_expression_68 : decode cX6_expression 68 = .ok (.iload_n 3, 1) := by decide +kernel
theorem dX6_expression_69 : decode cX6_expression 69 = .ok (.invokevirtual 166, 3) := by decide +kernel
theorem dX6_expression_72 : decode cX6_expression 72 = .ok (.goto 114, 3) := by decide +kernel
theorem dX6_expression_75 : decode cX6_expression 75 = .ok (.iload_n 2, 1) := by decide +kernel
theorem dX6_expression_76 : decode cX6_expression 76 = .ok (.bipush 31, 2) := by decide +kernel
theorem dX6_expression_78 : decode cX6_expression 78 = .ok (.if_icmp .eq 9, 3) := by decide +kernel
theorem dX6_expression_81 : decode cX6_expression 81 = .ok (.iload_n 2, 1) := by decide +kernel
theorem dX6_expression_82 : decode cX6_expression 82 = .ok (.bipush 32, 2) := by decide +kernel
theorem dX6_expression_84 : decode cX6_expression 84 = .ok (.if_icmp .ne 19, 3) := by decide +kernel
theorem dX6_expression_87 : decode cX6_expression 87 = .ok (.aload_n 0, 1) := by decide +kernel
theorem dX6_expression_88 : decode cX6_expression 88 = .ok (.iload_n 1, 1) := by decide +kernel
theorem dX6_expression_89 : decode cX6_expression 89 = .ok (.bipush 60, 2) := by decide +kernel
theorem dX6_expression_91 : decode cX6_expression 91 = .ok (.bipush 60, 2) := by decide +kernel
theorem dX6_expression_93 : decode cX6_expression 93 = .ok (.bipush 10, 2) := by decide +kernel
theorem dX6_expression_95 : decode cX6_expression 95 = .ok (.bipush 33, 2) := by decide +kernel
theorem dX6_expression_97 : decode cX6_expression 97 = .ok (.invokevirtual 204, 3) := by decide +kernel
theorem dX6_expression_100 : decode cX6_expression 100 = .ok (.goto 86, 3) := by decide +kernel
theorem dX6_expression_103 : decode cX6_expression 103 = .ok (.iload_n 2, 1) := by decide +kernel
theorem dX6_expression_104 : decode cX6_expression 104 = .ok (.bipush 34, 2) := by decide +kernel
theorem dX6_expression_106 : decode cX6_expression 106 = .ok (.if_icmp .ne 19, 3) := by decide +kernel
theorem dX6_expression_109 : decode cX6_expression 109 = .ok (.aload_n 0, 1) := by decide +kernel
theorem dX6_expression_110 : decode cX6_expression 110 = .ok (.iload_n 1, 1) := by decide +kernel
theorem dX6_expression_111 : decode cX6_expression 111 = .ok (.bipush 43, 2) := by decide +kernel
theorem dX6_expression_113 : decode cX6_expression 113 = .ok (.bipush 45, 2) := by decide +kernel
theorem dX6_expression_115 : decode cX6_expression 115 = .ok (.bipush 11, 2) := by decide +kernel
theorem dX6_expression_117 : decode cX6_expression 117 = .ok (.bipush 36, 2) := by decide +kernel
theorem dX6_expression_119 : decode cX6_expression 119 = .ok (.invokevirtual 204, 3) := by decide +kernel
theorem dX6_expression_122 : decode cX6_expression 122 = .ok (.goto 64, 3) := by decide +kernel
theorem dX6_expression_125 : decode cX6_expression 125 = .ok (.iload_n 2, 1) := by decide +kernel
theorem dX6_expression_126 : decode cX6_expression 126 = .ok (.bipush 37, 2) := by decide +kernel
theorem dX6_expression_128 : decode cX6_expression 128 = .ok (.if_icmp .ne 19, 3) := by decide +kernel
theorem dX6_expression_131 : decode cX6_expression 131 = .ok (.aload_n 0, 1) := by decide +kernel
theorem dX6_expression_132 : decode cX6_expression 132 = .ok (.iload_n 1, 1) := by decide +kernel
theorem dX6_expression_133 : decode cX6_expression 133 = .ok (.bipush 42, 2) := by decide +kernel
theorem dX6_expression_135 : decode cX6_expression 135 = .ok (.bipush 42, 2) := by decide +kernel
theorem dX6_expression_137 : decode cX6_expression 137 = .ok (.bipush 12, 2) := by decide +kernel
theorem dX6_expression_139 : decode cX6_expression 139 = .ok (.bipush 39, 2) := by decide +kernel
theorem dX6_expression_141 : decode cX6_expression 141 = .ok (.invokevirtual 204, 3) := by decide +kernel
theorem dX6_expression_144 : decode cX6_expression 144 = .ok (.goto 42, 3) := by decide +kernel
theorem dX6_expression_147 : decode cX6_expression 147 = .ok (.iload_n 2, 1) := by decide +kernel
theorem dX6_expression_148 : decode cX6_expression 148 = .ok (.bipush 39, 2) := by decide +kernel
theorem dX6_expression_150 : decode cX6_expression 150 = .ok (.if_icmp .ne 11, 3) := by decide +kernel
theorem dX6_expression_153 : decode cX6_expression 153 = .ok (.aload_n 0, 1) := by decide +kernel
theorem dX6_expression_154 : decode cX6_expression 154 = .ok (.iload_n 1, 1) := by decide +kernel
theorem dX6_expression_155 : decode cX6_expression 155 = .ok (.invokevirtual 208, 3) := by decide +kernel
theorem dX6_expression_158 : decode cX6_expression 158 = .ok (.goto 28, 3) := by decide +kernel
theorem dX6_expression_161 : decode cX6_expression 161 = .ok (.aload_n 0, 1) := by decide +kernel
theorem dX6_expression_162 : decode cX6_expression 162 = .ok (.iload_n 1, 1) := by decide +kernel
theorem dX6_expression_163 : decode cX6_expression 163 = .ok (.invokevirtual 180, 3) := by decide +kernel
theorem dX6_expression_166 : decode cX6_expression 166 = .ok (.aload_n 0, 1) := by decide +kernel
theorem dX6_expression_167 : decode cX6_expression 167 = .ok (.aload_n 0, 1) := by decide +kernel
theorem dX6_expression_168 : decode cX6_expression 168 = .ok (.bipush 41, 2) := by decide +kernel
theorem dX6_expression_170 : decode cX6_expression 170 = .ok (.invokevirtual 159, 3) := by decide +kernel
theorem dX6_expression_173 : decode cX6_expression 173 = .ok (.invokevirtual 141, 3) := by decide +kernel
theorem dX6_expression_176 : decode cX6_expression 176 = .ok (.aload_n 0, 1) := by decide +kernel
theorem dX6_expression_177 : decode cX6_expression 177 = .ok (.aload_n 0, 1) := by decide +kernel
theorem dX6_expression_178 : decode cX6_expression 178 = .ok (.getfield 49, 3) := by decide +kernel
theorem dX6_expression_181 : decode cX6_expression 181 = .ok (.iload_n 1, 1) := by decide +kernel
theorem dX6_expression_182 : decode cX6_expression 182 = .ok (.iaload, 1) := by decide +kernel
theorem dX6_expression_183 : decode cX6_expression 183 = .ok (.invokevirtual 177, 3) := by decide +kernel
theorem dX6_expression_186 : decode cX6_expression 186 = .ok (.return_, 1) := by decide +kernel
theorem dX6_operand_0 : decode cX6_operand 0 = .ok (.aload_n 0, 1) := by decide +kernel
theorem dX6_operand_1 : decode cX6_operand 1 = .ok (.invokevirtual 107, 3) := by decide +kernel
theorem dX6_operand_4 : decode cX6_operand 4 = .ok (.istore 6, 2) := by decide +kernel
theorem dX6_operand_6 : decode cX6_operand 6 = .ok (.iload 6, 2) := by decide +kernel
theorem dX6_operand_8 : decode cX6_operand 8 = .ok (.iload_n 2, 1) := by decide +kernel
theorem dX6_operand_9 : decode cX6_operand 9 = .ok (.if_icmp .eq 9, 3) := by decide +kernel
theorem dX6_operand_12 : decode cX6_operand 12 = .ok (.iload 6, 2) := by decide +kernel
theorem dX6_operand_14 : decode cX6_operand 14 = .ok (.iload_n 3, 1) := by decide +kernel
theorem dX6_operand_15 : decode cX6_operand 15 = .ok (.if_icmp .ne 18, 3) := by decide +kernel
theorem dX6_operand_18 : decode cX6_operand 18 = .ok (.aload_n 0, 1) := by decide +kernel
theorem dX6_operand_19 : decode cX6_operand 19 = .ok (.getfield 46, 3) := by decide +kernel
theorem dX6_operand_22 : decode cX6_operand 22 = .ok (.iload_n 1, 1) := by decide +kernel
theorem dX6_operand_23 : decode cX6_operand 23 = .ok (.iaload, 1) := by decide +kernel
theorem dX6_operand_24 : decode cX6_operand 24 = .ok (.bipush 32, 2) := by decide +kernel
theorem dX6_operand_26 : decode cX6_operand 26 = .ok (.if_icmp .eq 7, 3) := by decide +kernel
theorem dX6_operand_29 : decode cX6_operand 29 = .ok (.iconst 1, 1) := by decide +kernel
theorem dX6_operand_30 : decode cX6_operand 30 = .ok (.goto 4, 3) := by decide +kernel
theorem dX6_operand_33 : decode cX6_operand 33 = .ok (.iconst 0, 1) := by decide +kernel
theorem dX6_operand_34 : decode cX6_operand 34 = .ok (.istore 7, 2) := by decide +kernel
theorem dX6_operand_36 : decode cX6_operand 36 = .ok (.aload_n 0, 1) := by decide +kernel
theorem dX6_operand_37 : decode cX6_operand 37 = .ok (.getfield 121, 3) := by decide +kernel
theorem dX6_operand_40 : decode cX6_operand 40 = .ok (.istore 8, 2) := by decide +kernel
theorem dX6_operand_42 : decode cX6_operand 42 = .ok (.aload_n 0, 1) := by decide +kernel
theorem dX6_operand_43 : decode cX6_operand 43 = .ok (.getfield 49, 3) := by decide +kernel
theorem dX6_operand_46 : decode cX6_operand 46 = .ok (.iload_n 1, 1) := by decide +kernel
theorem dX6_operand_47 : decode cX6_operand 47 = .ok (.iaload, 1) := by decide +kernel
theorem dX6_operand_48 : decode cX6_operand 48 = .ok (.ifCond .ne 15, 3) := by decide +kernel
theorem dX6_operand_51 : decode cX6_operand 51 = .ok (.iload 7, 2) := by decide +kernel
theorem dX6_operand_53 : decode cX6_operand 53 = .ok (.ifCond .ne 10, 3) := by decide +kernel
theorem dX6_operand_56 : decode cX6_operand 56 = .ok (.aload_n 0, 1) := by decide +kernel
theorem dX6_operand_57 : decode cX6_operand 57 = .ok (.iload 8, 2) := by decide +kernel
theorem dX6_operand_59 : decode cX6_operand 59 = .ok (.invokevirtual 177, 3) := by decide +kernel
theorem dX6_operand_62 : decode cX6_operand 62 = .ok (.return_, 1) := by decide +kernel
theorem dX6_operand_63 : decode cX6_operand 63 = .ok (.aload_n 0, 1) := by decide +kernel
theorem dX6_operand_64 : decode cX6_operand 64 = .ok (.getfield 49, 3) := by decide +kernel
theorem dX6_operand_67 : decode cX6_operand 67 = .ok (.iload_n 1, 1) := by decide +kernel
theorem dX6_operand_68 : decode cX6_operand 68 = .ok (.iaload, 1) := by decide +kernel
theorem dX6_operand_69 : decode cX6_operand 69 = .ok (.ifCond .ne 15, 3) := by decide +kernel
theorem dX6_operand_72 : decode cX6_operand 72 = .ok (.aload_n 0, 1) := by decide +kernel
theorem dX6_operand_73 : decode cX6_operand 73 = .ok (.getfield 49, 3) := by decide +kernel
theorem dX6_operand_76 : decode cX6_operand 76 = .ok (.iload_n 1, 1) := by decide +kernel
theorem dX6_operand_77 : decode cX6_operand 77 = .ok (.aload_n 0, 1) := by decide +kernel
theorem dX6_operand_78 : decode cX6_operand 78 = .ok (.iload 4, 2) := by decide +kernel
theorem dX6_operand_80 : decode cX6_operand 80 = .ok (.invokevirtual 137, 3) := by decide +kernel
theorem dX6_operand_83 : decode cX6_operand 83 = .ok (.iastore, 1) := by decide +kernel
theorem dX6_operand_84 : decode cX6_operand 84 = .ok (.aload_n 0, 1) := by decide +kernel
theorem dX6_operand_85 : decode cX6_operand 85 = .ok (.iload 8, 2) := by decide +kernel
theorem dX6_operand_87 : decode cX6_operand 87 = .ok (.putfield 121, 3) := by decide +kernel
theorem dX6_operand_90 : decode cX6_operand 90 = .ok (.aload_n 0, 1) := by decide +kernel
theorem dX6_operand_91 : decode cX6_operand 91 = .ok (.getfield 31, 3) := by decide +kernel
theorem dX6_operand_94 : decode cX6_operand 94 = .ok (.iload 8, 2) := by decide +kernel
theorem dX6_operand_96 : decode cX6_operand 96 = .ok (.aload_n 0, 1) := by decide +kernel
theorem dX6_operand_97 : decode cX6_operand 97 = .ok (.getfield 58, 3) := by decide +kernel
theorem dX6_operand_100 : decode cX6_operand 100 = .ok (.iload_n 1, 1) := by decide +kernel
theorem dX6_operand_101 : decode cX6_operand 101 = .ok (.iaload, 1) := by decide +kernel
theorem dX6_operand_102 : decode cX6_operand 102 = .ok (.iastore, 1) := by decide +kernel
theorem dX6_operand_103 : decode cX6_operand 103 = .ok (.aload_n 0, 1) := by decide +kernel
theorem dX6_operand_104 : decode cX6_operand 104 = .ok (.iload_n 1, 1) := by decide +kernel
theorem dX6_operand_105 : decode cX6_operand 105 = .ok (.invokevirtual 180, 3) := by decide +kernel
theorem dX6_operand_108 : decode cX6_operand 108 = .ok (.iload 7, 2) := by decide +kernel
theorem dX6_operand_110 : decode cX6_operand 110 = .ok (.ifCond .ne 14, 3) := by decide +kernel
theorem dX6_operand_113 : decode cX6_operand 113 = .ok (.aload_n 0, 1) := by decide +kernel
theorem dX6_operand_114 : decode cX6_operand 114 = .ok (.aload_n 0, 1) := by decide +kernel
theorem dX6_operand_115 : decode cX6_operand 115 = .ok (.getfield 49, 3) := by decide +kernel
theorem dX6_operand_118 : decode cX6_operand 118 = .ok (.iload_n 1, 1) := by decide +kernel
theorem dX6_operand_119 : decode cX6_operand 119 = .ok (.iaload, 1) := by decide +kernel
theorem dX6_operand_120 : decode cX6_operand 120 = .ok (.invokevirtual 177, 3) := by decide +kernel
theorem dX6_operand_123 : decode cX6_operand 123 = .ok (.return_, 1) := by decide +kernel
theorem dX6_operand_124 : decode cX6_operand 124 = .ok (.aload_n 0, 1) := by decide +kernel
theorem dX6_operand_125 : decode cX6_operand 125 = .ok (.dup, 1) := by decide +kernel
theorem dX6_operand_126 : decode cX6_operand 126 = .ok (.getfield 104, 3) := by decide +kernel
theorem dX6_operand_129 : decode cX6_operand 129 = .ok (.iconst 1, 1) := by decide +kernel
theorem dX6_operand_130 : decode cX6_operand 130 = .ok (.iadd, 1) := by decide +kernel
theorem dX6_operand_131 : decode cX6_operand 131 = .ok (.putfield 104, 3) := by decide +kernel
theorem dX6_operand_134 : decode cX6_operand 134 = .ok (.aload_n 0, 1) := by decide +kernel
theorem dX6_operand_135 : decode cX6_operand 135 = .ok (.getfield 58, 3) := by decide +kernel
theorem dX6_operand_138 : decode cX6_operand 138 = .ok (.iload_n 1, 1) := by decide +kernel
theorem dX6_operand_139 : decode cX6_operand 139 = .ok (.iload 4, 2) := by decide +kernel
theorem dX6_operand_141 : decode cX6_operand 141 = .ok (.bipush 12, 2) := by decide +kernel
theorem dX6_operand_143 : decode cX6_operand 143 = .ok (.if_icmp .ne 7, 3) := by decide +kernel
theorem dX6_operand_146 : decode cX6_operand 146 = .ok (.iconst 2, 1) := by decide +kernel
theorem dX6_operand_147 : decode cX6_operand 147 = .ok (.goto 25, 3) := by decide +kernel
theorem dX6_operand_150 : decode cX6_operand 150 = .ok (.iload 4, 2) := by decide +kernel
theorem dX6_operand_152 : decode cX6_operand 152 = .ok (.bipush 10, 2) := by decide +kernel
theorem dX6_operand_154 : decode cX6_operand 154 = .ok (.if_icmp .ne 7, 3) := by decide +kernel
theorem dX6_operand_157 : decode cX6_operand 157 = .ok (.iconst 3, 1) := by decide +kernel
theorem dX6_operand_158 : decode cX6_operand 158 = .ok (.goto 14, 3) := by decide +kernel
theorem dX6_operand_161 : decode cX6_operand 161 = .ok (.iload 6, 2) := by decide +kernel
theorem dX6_operand_163 : decode cX6_operand 163 = .ok (.iload_n 3, 1) := by decide +kernel
theorem dX6_operand_164 : decode cX6_operand 164 = .ok (.if_icmp .ne 7, 3) := by decide +kernel
theorem dX6_operand_167 : decode cX6_operand 167 = .ok (.iconst 1, 1) := by decide +kernel
theorem dX6_operand_168 : decode cX6_operand 168 = .ok (.goto 4, 3) := by decide +kernel
theorem dX6_operand_171 : decode cX6_operand 171 = .ok (.iconst 0, 1) := by decide +kernel
end
section
theorem dX6_operand_172 : decode cX6_operand 172 = .ok (.iastore, 1) := by decide +kernel
theorem dX6_operand_173 : decode cX6_operand 173 = .ok (.iload 4, 2) := by decide +kernel
theorem dX6_operand_175 : decode cX6_operand 175 = .ok (.bipush 10, 2) := by decide +kernel
theorem dX6_operand_177 : decode cX6_operand 177 = .ok (.if_icmp .ne 11, 3) := by decide +kernel
theorem dX6_operand_180 : decode cX6_operand 180 = .ok (.aload_n 0, 1) := by decide +kernel
theorem dX6_operand_181 : decode cX6_operand 181 = .ok (.getfield 46, 3) := by decide +kernel
theorem dX6_operand_184 : decode cX6_operand 184 = .ok (.iload_n 1, 1) := by decide +kernel
theorem dX6_operand_185 : decode cX6_operand 185 = .ok (.bipush 32, 2) := by decide +kernel
theorem dX6_operand_187 : decode cX6_operand 187 = .ok (.iastore, 1) := by decide +kernel
theorem dX6_operand_188 : decode cX6_operand 188 = .ok (.aload_n 0, 1) := by decide +kernel
theorem dX6_operand_189 : decode cX6_operand 189 = .ok (.iload 5, 2) := by decide +kernel
theorem dX6_operand_191 : decode cX6_operand 191 = .ok (.aload_n 0, 1) := by decide +kernel
theorem dX6_operand_192 : decode cX6_operand 192 = .ok (.getfield 52, 3) := by decide +kernel
theorem dX6_operand_195 : decode cX6_operand 195 = .ok (.iload_n 1, 1) := by decide +kernel
theorem dX6_operand_196 : decode cX6_operand 196 = .ok (.iaload, 1) := by decide +kernel
theorem dX6_operand_197 : decode cX6_operand 197 = .ok (.invokevirtual 166, 3) := by decide +kernel
theorem dX6_operand_200 : decode cX6_operand 200 = .ok (.return_, 1) := by decide +kernel
theorem dX6_factor_0 : decode cX6_factor 0 = .ok (.aload_n 0, 1) := by decide +kernel
theorem dX6_factor_1 : decode cX6_factor 1 = .ok (.invokevirtual 107, 3) := by decide +kernel
theorem dX6_factor_4 : decode cX6_factor 4 = .ok (.istore_n 2, 1) := by decide +kernel
theorem dX6_factor_5 : decode cX6_factor 5 = .ok (.aload_n 0, 1) := by decide +kernel
theorem dX6_factor_6 : decode cX6_factor 6 = .ok (.getfield 52, 3) := by decide +kernel
theorem dX6_factor_9 : decode cX6_factor 9 = .ok (.iload_n 1, 1) := by decide +kernel
theorem dX6_factor_10 : decode cX6_factor 10 = .ok (.iaload, 1) := by decide +kernel
theorem dX6_factor_11 : decode cX6_factor 11 = .ok (.iconst 1, 1) := by decide +kernel
theorem dX6_factor_12 : decode cX6_factor 12 = .ok (.iadd, 1) := by decide +kernel
theorem dX6_factor_13 : decode cX6_factor 13 = .ok (.istore_n 3, 1) := by decide +kernel
theorem dX6_factor_14 : decode cX6_factor 14 = .ok (.aload_n 0, 1) := by decide +kernel
theorem dX6_factor_15 : decode cX6_factor 15 = .ok (.dup, 1) := by decide +kernel
theorem dX6_factor_16 : decode cX6_factor 16 = .ok (.getfield 104, 3) := by decide +kernel
theorem dX6_factor_19 : decode cX6_factor 19 = .ok (.iconst 1, 1) := by decide +kernel
theorem dX6_factor_20 : decode cX6_factor 20 = .ok (.iadd, 1) := by decide +kernel
theorem dX6_factor_21 : decode cX6_factor 21 = .ok (.putfield 104, 3) := by decide +kernel
theorem dX6_factor_24 : decode cX6_factor 24 = .ok (.iload_n 2, 1) := by decide +kernel
theorem dX6_factor_25 : decode cX6_factor 25 = .ok (.bipush 48, 2) := by decide +kernel
theorem dX6_factor_27 : decode cX6_factor 27 = .ok (.bipush 57, 2) := by decide +kernel
theorem dX6_factor_29 : decode cX6_factor 29 = .ok (.invokestatic 111, 3) := by decide +kernel
theorem dX6_factor_32 : decode cX6_factor 32 = .ok (.ifCond .eq 134, 3) := by decide +kernel
theorem dX6_factor_35 : decode cX6_factor 35 = .ok (.iload_n 2, 1) := by decide +kernel
theorem dX6_factor_36 : decode cX6_factor 36 = .ok (.bipush 48, 2) := by decide +kernel
theorem dX6_factor_38 : decode cX6_factor 38 = .ok (.isub, 1) := by decide +kernel
theorem dX6_factor_39 : decode cX6_factor 39 = .ok (.istore 4, 2) := by decide +kernel
theorem dX6_factor_41 : decode cX6_factor 41 = .ok (.iconst 1, 1) := by decide +kernel
theorem dX6_factor_42 : decode cX6_factor 42 = .ok (.istore 5, 2) := by decide +kernel
theorem dX6_factor_44 : decode cX6_factor 44 = .ok (.aload_n 0, 1) := by decide +kernel
theorem dX6_factor_45 : decode cX6_factor 45 = .ok (.getfield 104, 3) := by decide +kernel
theorem dX6_factor_48 : decode cX6_factor 48 = .ok (.aload_n 0, 1) := by decide +kernel
theorem dX6_factor_49 : decode cX6_factor 49 = .ok (.getfield 100, 3) := by decide +kernel
theorem dX6_factor_52 : decode cX6_factor 52 = .ok (.if_icmp .ge 72, 3) := by decide +kernel
theorem dX6_factor_55 : decode cX6_factor 55 = .ok (.aload_n 0, 1) := by decide +kernel
theorem dX6_factor_56 : decode cX6_factor 56 = .ok (.getfield 7, 3) := by decide +kernel
theorem dX6_factor_59 : decode cX6_factor 59 = .ok (.aload_n 0, 1) := by decide +kernel
theorem dX6_factor_60 : decode cX6_factor 60 = .ok (.getfield 104, 3) := by decide +kernel
theorem dX6_factor_63 : decode cX6_factor 63 = .ok (.iaload, 1) := by decide +kernel
theorem dX6_factor_64 : decode cX6_factor 64 = .ok (.bipush 48, 2) := by decide +kernel
theorem dX6_factor_66 : decode cX6_factor 66 = .ok (.bipush 57, 2) := by decide +kernel
theorem dX6_factor_68 : decode cX6_factor 68 = .ok (.invokestatic 111, 3) := by decide +kernel
theorem dX6_factor_71 : decode cX6_factor 71 = .ok (.ifCond .eq 53, 3) := by decide +kernel
theorem dX6_factor_74 : decode cX6_factor 74 = .ok (.iload 5, 2) := by decide +kernel
theorem dX6_factor_76 : decode cX6_factor 76 = .ok (.bipush 10, 2) := by decide +kernel
theorem dX6_factor_78 : decode cX6_factor 78 = .ok (.if_icmp .ge 46, 3) := by decide +kernel
theorem dX6_factor_81 : decode cX6_factor 81 = .ok (.iload 5, 2) := by decide +kernel
theorem dX6_factor_83 : decode cX6_factor 83 = .ok (.bipush 9, 2) := by decide +kernel
theorem dX6_factor_85 : decode cX6_factor 85 = .ok (.if_icmp .ge 23, 3) := by decide +kernel
theorem dX6_factor_88 : decode cX6_factor 88 = .ok (.bipush 10, 2) := by decide +kernel
theorem dX6_factor_90 : decode cX6_factor 90 = .ok (.iload 4, 2) := by decide +kernel
theorem dX6_factor_92 : decode cX6_factor 92 = .ok (.imul, 1) := by decide +kernel
theorem dX6_factor_93 : decode cX6_factor 93 = .ok (.aload_n 0, 1) := by decide +kernel
theorem dX6_factor_94 : decode cX6_factor 94 = .ok (.getfield 7, 3) := by decide +kernel
theorem dX6_factor_97 : decode cX6_factor 97 = .ok (.aload_n 0, 1) := by decide +kernel
theorem dX6_factor_98 : decode cX6_factor 98 = .ok (.getfield 104, 3) := by decide +kernel
theorem dX6_factor_101 : decode cX6_factor 101 = .ok (.iaload, 1) := by decide +kernel
theorem dX6_factor_102 : decode cX6_factor 102 = .ok (.iadd, 1) := by decide +kernel
theorem dX6_factor_103 : decode cX6_factor 103 = .ok (.bipush 48, 2) := by decide +kernel
theorem dX6_factor_105 : decode cX6_factor 105 = .ok (.isub, 1) := by decide +kernel
theorem dX6_factor_106 : decode cX6_factor 106 = .ok (.istore 4, 2) := by decide +kernel
theorem dX6_factor_108 : decode cX6_factor 108 = .ok (.iinc 5 1, 3) := by decide +kernel
theorem dX6_factor_111 : decode cX6_factor 111 = .ok (.aload_n 0, 1) := by decide +kernel
theorem dX6_factor_112 : decode cX6_factor 112 = .ok (.dup, 1) := by decide +kernel
theorem dX6_factor_113 : decode cX6_factor 113 = .ok (.getfield 104, 3) := by decide +kernel
theorem dX6_factor_116 : decode cX6_factor 116 = .ok (.iconst 1, 1) := by decide +kernel
theorem dX6_factor_117 : decode cX6_factor 117 = .ok (.iadd, 1) := by decide +kernel
theorem dX6_factor_118 : decode cX6_factor 118 = .ok (.putfield 104, 3) := by decide +kernel
theorem dX6_factor_121 : decode cX6_factor 121 = .ok (.goto (-77), 3) := by decide +kernel
theorem dX6_factor_124 : decode cX6_factor 124 = .ok (.aload_n 0, 1) := by decide +kernel
theorem dX6_factor_125 : decode cX6_factor 125 = .ok (.iload 5, 2) := by decide +kernel
theorem dX6_factor_127 : decode cX6_factor 127 = .ok (.bipush 10, 2) := by decide +kernel
theorem dX6_factor_129 : decode cX6_factor 129 = .ok (.if_icmp .ge 7, 3) := by decide +kernel
theorem dX6_factor_132 : decode cX6_factor 132 = .ok (.iconst 1, 1) := by decide +kernel
theorem dX6_factor_133 : decode cX6_factor 133 = .ok (.goto 4, 3) := by decide +kernel
theorem dX6_factor_136 : decode cX6_factor 136 = .ok (.iconst 0, 1) := by decide +kernel
theorem dX6_factor_137 : decode cX6_factor 137 = .ok (.invokevirtual 141, 3) := by decide +kernel
theorem dX6_factor_140 : decode cX6_factor 140 = .ok (.aload_n 0, 1) := by decide +kernel
theorem dX6_factor_141 : decode cX6_factor 141 = .ok (.bipush 7, 2) := by decide +kernel
theorem dX6_factor_143 : decode cX6_factor 143 = .ok (.invokevirtual 137, 3) := by decide +kernel
theorem dX6_factor_146 : decode cX6_factor 146 = .ok (.istore 6, 2) := by decide +kernel
theorem dX6_factor_148 : decode cX6_factor 148 = .ok (.aload_n 0, 1) := by decide +kernel
theorem dX6_factor_149 : decode cX6_factor 149 = .ok (.getfield 22, 3) := by decide +kernel
theorem dX6_factor_152 : decode cX6_factor 152 = .ok (.iload 6, 2) := by decide +kernel
theorem dX6_factor_154 : decode cX6_factor 154 = .ok (.iload 4, 2) := by decide +kernel
theorem dX6_factor_156 : decode cX6_factor 156 = .ok (.iastore, 1) := by decide +kernel
theorem dX6_factor_157 : decode cX6_factor 157 = .ok (.aload_n 0, 1) := by decide +kernel
theorem dX6_factor_158 : decode cX6_factor 158 = .ok (.iload 6, 2) := by decide +kernel
theorem dX6_factor_160 : decode cX6_factor 160 = .ok (.invokevirtual 177, 3) := by decide +kernel
theorem dX6_factor_163 : decode cX6_factor 163 = .ok (.goto 103, 3) := by decide +kernel
theorem dX6_factor_166 : decode cX6_factor 166 = .ok (.aload_n 0, 1) := by decide +kernel
theorem dX6_factor_167 : decode cX6_factor 167 = .ok (.iload_n 2, 1) := by decide +kernel
theorem dX6_factor_168 : decode cX6_factor 168 = .ok (.invokevirtual 155, 3) := by decide +kernel
theorem dX6_factor_171 : decode cX6_factor 171 = .ok (.ifCond .eq 54, 3) := by decide +kernel
theorem dX6_factor_174 : decode cX6_factor 174 = .ok (.aload_n 0, 1) := by decide +kernel
theorem dX6_factor_175 : decode cX6_factor 175 = .ok (.bipush 40, 2) := by decide +kernel
theorem dX6_factor_177 : decode cX6_factor 177 = .ok (.invokevirtual 159, 3) := by decide +kernel
theorem dX6_factor_180 : decode cX6_factor 180 = .ok (.ifCond .eq 27, 3) := by decide +kernel
theorem dX6_factor_183 : decode cX6_factor 183 = .ok (.aload_n 0, 1) := by decide +kernel
theorem dX6_factor_184 : decode cX6_factor 184 = .ok (.getfield 49, 3) := by decide +kernel
theorem dX6_factor_187 : decode cX6_factor 187 = .ok (.iload_n 1, 1) := by decide +kernel
theorem dX6_factor_188 : decode cX6_factor 188 = .ok (.aload_n 0, 1) := by decide +kernel
theorem dX6_factor_189 : decode cX6_factor 189 = .ok (.bipush 9, 2) := by decide +kernel
theorem dX6_factor_191 : decode cX6_factor 191 = .ok (.iload_n 2, 1) := by decide +kernel
theorem dX6_factor_192 : decode cX6_factor 192 = .ok (.invokevirtual 162, 3) := by decide +kernel
theorem dX6_factor_195 : decode cX6_factor 195 = .ok (.iastore, 1) := by decide +kernel
theorem dX6_factor_196 : decode cX6_factor 196 = .ok (.aload_n 0, 1) := by decide +kernel
theorem dX6_factor_197 : decode cX6_factor 197 = .ok (.iload_n 1, 1) := by decide +kernel
theorem dX6_factor_198 : decode cX6_factor 198 = .ok (.bipush 40, 2) := by decide +kernel
theorem dX6_factor_200 : decode cX6_factor 200 = .ok (.iload_n 3, 1) := by decide +kernel
theorem dX6_factor_201 : decode cX6_factor 201 = .ok (.invokevirtual 170, 3) := by decide +kernel
theorem dX6_factor_204 : decode cX6_factor 204 = .ok (.goto 62, 3) := by decide +kernel
theorem dX6_factor_207 : decode cX6_factor 207 = .ok (.aload_n 0, 1) := by decide +kernel
theorem dX6_factor_208 : decode cX6_factor 208 = .ok (.bipush 8, 2) := by decide +kernel
theorem dX6_factor_210 : decode cX6_factor 210 = .ok (.iload_n 2, 1) := by decide +kernel
theorem dX6_factor_211 : decode cX6_factor 211 = .ok (.invokevirtual 162, 3) := by decide +kernel
theorem dX6_factor_214 : decode cX6_factor 214 = .ok (.istore 4, 2) := by decide +kernel
theorem dX6_factor_216 : decode cX6_factor 216 = .ok (.aload_n 0, 1) := by decide +kernel
theorem dX6_factor_217 : decode cX6_factor 217 = .ok (.iload 4, 2) := by decide +kernel
theorem dX6_factor_219 : decode cX6_factor 219 = .ok (.invokevirtual 177, 3) := by decide +kernel
theorem dX6_factor_222 : decode cX6_factor 222 = .ok (.goto 44, 3) := by decide +kernel
theorem dX6_factor_225 : decode cX6_factor 225 = .ok (.iload_n 2, 1) := by decide +kernel
theorem dX6_factor_226 : decode cX6_factor 226 = .ok (.bipush 40, 2) := by decide +kernel
theorem dX6_factor_228 : decode cX6_factor 228 = .ok (.if_icmp .ne 33, 3) := by decide +kernel
theorem dX6_factor_231 : decode cX6_factor 231 = .ok (.aload_n 0, 1) := by decide +kernel
theorem dX6_factor_232 : decode cX6_factor 232 = .ok (.getfield 49, 3) := by decide +kernel
theorem dX6_factor_235 : decode cX6_factor 235 = .ok (.iload_n 1, 1) := by decide +kernel
theorem dX6_factor_236 : decode cX6_factor 236 = .ok (.aload_n 0, 1) := by decide +kernel
theorem dX6_factor_237 : decode cX6_factor 237 = .ok (.bipush 13, 2) := by decide +kernel
theorem dX6_factor_239 : decode cX6_factor 239 = .ok (.invokevirtual 137, 3) := by decide +kernel
theorem dX6_factor_242 : decode cX6_factor 242 = .ok (.iastore, 1) := by decide +kernel
theorem dX6_factor_243 : decode cX6_factor 243 = .ok (.aload_n 0, 1) := by decide +kernel
theorem dX6_factor_244 : decode cX6_factor 244 = .ok (.getfield 46, 3) := by decide +kernel
theorem dX6_factor_247 : decode cX6_factor 247 = .ok (.iload_n 1, 1) := by decide +kernel
theorem dX6_factor_248 : decode cX6_factor 248 = .ok (.bipush 41, 2) := by decide +kernel
theorem dX6_factor_250 : decode cX6_factor 250 = .ok (.iastore, 1) := by decide +kernel
theorem dX6_factor_251 : decode cX6_factor 251 = .ok (.aload_n 0, 1) := by decide +kernel
theorem dX6_factor_252 : decode cX6_factor 252 = .ok (.bipush 30, 2) := by decide +kernel
theorem dX6_factor_254 : decode cX6_factor 254 = .ok (.iload_n 3, 1) := by decide +kernel
theorem dX6_factor_255 : decode cX6_factor 255 = .ok (.invokevirtual 166, 3) := by decide +kernel
theorem dX6_factor_258 : decode cX6_factor 258 = .ok (.goto 8, 3) := by decide +kernel
theorem dX6_factor_261 : decode cX6_factor 261 = .ok (.aload_n 0, 1) := by decide +kernel
theorem dX6_factor_262 : decode cX6_factor 262 = .ok (.iconst 1, 1) := by decide +kernel
theorem dX6_factor_263 : decode cX6_factor 263 = .ok (.putfield 124, 3) := by decide +kernel
theorem dX6_factor_266 : decode cX6_factor 266 = .ok (.return_, 1) := by decide +kernel
theorem dX6_read_0 : decode cX6_read 0 = .ok (.aload_n 0, 1) := by decide +kernel
theorem dX6_read_1 : decode cX6_read 1 = .ok (.getfield 201, 3) := by decide +kernel
theorem dX6_read_4 : decode cX6_read 4 = .ok (.istore_n 1, 1) := by decide +kernel
theorem dX6_read_5 : decode cX6_read 5 = .ok (.aload_n 0, 1) := by decide +kernel
theorem dX6_read_6 : decode cX6_read 6 = .ok (.aload_n 0, 1) := by decide +kernel
theorem dX6_read_7 : decode cX6_read 7 = .ok (.getfield 211, 3) := by decide +kernel
theorem dX6_read_10 : decode cX6_read 10 = .ok (.ifCond .eq 12, 3) := by decide +kernel
theorem dX6_read_13 : decode cX6_read 13 = .ok (.iconst 1, 1) := by decide +kernel
theorem dX6_read_14 : decode cX6_read 14 = .ok (.aload_n 0, 1) := by decide +kernel
theorem dX6_read_15 : decode cX6_read 15 = .ok (.getfield 201, 3) := by decide +kernel
theorem dX6_read_18 : decode cX6_read 18 = .ok (.isub, 1) := by decide +kernel
theorem dX6_read_19 : decode cX6_read 19 = .ok (.goto 7, 3) := by decide +kernel
theorem dX6_read_22 : decode cX6_read 22 = .ok (.aload_n 0, 1) := by decide +kernel
theorem dX6_read_23 : decode cX6_read 23 = .ok (.getfield 201, 3) := by decide +kernel
theorem dX6_read_26 : decode cX6_read 26 = .ok (.putfield 201, 3) := by decide +kernel
theorem dX6_read_29 : decode cX6_read 29 = .ok (.aload_n 0, 1) := by decide +kernel
theorem dX6_read_30 : decode cX6_read 30 = .ok (.sipush 350, 3) := by decide +kernel
theorem dX6_read_33 : decode cX6_read 33 = .ok (.aload_n 0, 1) := by decide +kernel
theorem dX6_read_34 : decode cX6_read 34 = .ok (.getfield 201, 3) := by decide +kernel
theorem dX6_read_37 : decode cX6_read 37 = .ok (.imul, 1) := by decide +kernel
theorem dX6_read_38 : decode cX6_read 38 = .ok (.putfield 118, 3) := by decide +kernel
theorem dX6_read_41 : decode cX6_read 41 = .ok (.aload_n 0, 1) := by decide +kernel
theorem dX6_read_42 : decode cX6_read 42 = .ok (.iconst 0, 1) := by decide +kernel
theorem dX6_read_43 : decode cX6_read 43 = .ok (.putfield 104, 3) := by decide +kernel
theorem dX6_read_46 : decode cX6_read 46 = .ok (.aload_n 0, 1) := by decide +kernel
theorem dX6_read_47 : decode cX6_read 47 = .ok (.iconst 0, 1) := by decide +kernel
theorem dX6_read_48 : decode cX6_read 48 = .ok (.putfield 115, 3) := by decide +kernel
theorem dX6_read_51 : decode cX6_read 51 = .ok (.aload_n 0, 1) := by decide +kernel
theorem dX6_read_52 : decode cX6_read 52 = .ok (.iconst 0, 1) := by decide +kernel
theorem dX6_read_53 : decode cX6_read 53 = .ok (.putfield 128, 3) := by decide +kernel
theorem dX6_read_56 : decode cX6_read 56 = .ok (.aload_n 0, 1) := by decide +kernel
theorem dX6_read_57 : decode cX6_read 57 = .ok (.iconst 0, 1) := by decide +kernel
theorem dX6_read_58 : decode cX6_read 58 = .ok (.putfield 131, 3) := by decide +kernel
theorem dX6_read_61 : decode cX6_read 61 = .ok (.aload_n 0, 1) := by decide +kernel
theorem dX6_read_62 : decode cX6_read 62 = .ok (.iconst 0, 1) := by decide +kernel
theorem dX6_read_63 : decode cX6_read 63 = .ok (.putfield 124, 3) := by decide +kernel
theorem dX6_read_66 : decode cX6_read 66 = .ok (.aload_n 0, 1) := by decide +kernel
theorem dX6_read_67 : decode cX6_read 67 = .ok (.iconst 0, 1) := by decide +kernel
theorem dX6_read_68 : decode cX6_read 68 = .ok (.putfield 134, 3) := by decide +kernel
theorem dX6_read_71 : decode cX6_read 71 = .ok (.aload_n 0, 1) := by decide +kernel
theorem dX6_read_72 : decode cX6_read 72 = .ok (.iconst 0, 1) := by decide +kernel
theorem dX6_read_73 : decode cX6_read 73 = .ok (.putfield 198, 3) := by decide +kernel
theorem dX6_read_76 : decode cX6_read 76 = .ok (.aload_n 0, 1) := by decide +kernel
theorem dX6_read_77 : decode cX6_read 77 = .ok (.iconst 0, 1) := by decide +kernel
theorem dX6_read_78 : decode cX6_read 78 = .ok (.putfield 189, 3) := by decide +kernel
theorem dX6_read_81 : decode cX6_read 81 = .ok (.aload_n 0, 1) := by decide +kernel
theorem dX6_read_82 : decode cX6_read 82 = .ok (.iconst 0, 1) := by decide +kernel
theorem dX6_read_83 : decode cX6_read 83 = .ok (.putfield 152, 3) := by decide +kernel
theorem dX6_read_86 : decode cX6_read 86 = .ok (.aload_n 0, 1) := by decide +kernel
theorem dX6_read_87 : decode cX6_read 87 = .ok (.iconst 0, 1) := by decide +kernel
theorem dX6_read_88 : decode cX6_read 88 = .ok (.putfield 145, 3) := by decide +kernel
theorem dX6_read_91 : decode cX6_read 91 = .ok (.aload_n 0, 1) := by decide +kernel
theorem dX6_read_92 : decode cX6_read 92 = .ok (.bipush 10, 2) := by decide +kernel
theorem dX6_read_94 : decode cX6_read 94 = .ok (.iconst 1, 1) := by decide +kernel
theorem dX6_read_95 : decode cX6_read 95 = .ok (.invokevirtual 166, 3) := by decide +kernel
theorem dX6_read_98 : decode cX6_read 98 = .ok (.iconst 0, 1) := by decide +kernel
theorem dX6_read_99 : decode cX6_read 99 = .ok (.istore_n 2, 1) := by decide +kernel
theorem dX6_read_100 : decode cX6_read 100 = .ok (.iload_n 2, 1) := by decide +kernel
theorem dX6_read_101 : decode cX6_read 101 = .ok (.ldc 214, 2) := by decide +kernel
theorem dX6_read_103 : decode cX6_read 103 = .ok (.if_icmp .ge 80, 3) := by decide +kernel
theorem dX6_read_106 : decode cX6_read 106 = .ok (.aload_n 0, 1) := by decide +kernel
theorem dX6_read_107 : decode cX6_read 107 = .ok (.getfield 115, 3) := by decide +kernel
theorem dX6_read_110 : decode cX6_read 110 = .ok (.ifCond .le 73, 3) := by decide +kernel
theorem dX6_read_113 : decode cX6_read 113 = .ok (.aload_n 0, 1) := by decide +kernel
theorem dX6_read_114 : decode cX6_read 114 = .ok (.getfield 124, 3) := by decide +kernel
theorem dX6_read_117 : decode cX6_read 117 = .ok (.ifCond .ne 66, 3) := by decide +kernel
theorem dX6_read_120 : decode cX6_read 120 = .ok (.aload_n 0, 1) := by decide +kernel
theorem dX6_read_121 : decode cX6_read 121 = .ok (.getfield 115, 3) := by decide +kernel
theorem dX6_read_124 : decode cX6_read 124 = .ok (.iconst 1, 1) := by decide +kernel
theorem dX6_read_125 : decode cX6_read 125 = .ok (.isub, 1) := by decide +kernel
theorem dX6_read_126 : decode cX6_read 126 = .ok (.istore_n 3, 1) := by decide +kernel
theorem dX6_read_127 : decode cX6_read 127 = .ok (.aload_n 0, 1) := by decide +kernel
theorem dX6_read_128 : decode cX6_read 128 = .ok (.getfield 46, 3) := by decide +kernel
theorem dX6_read_131 : decode cX6_read 131 = .ok (.iload_n 3, 1) := by decide +kernel
theorem dX6_read_132 : decode cX6_read 132 = .ok (.iaload, 1) := by decide +kernel
theorem dX6_read_133 : decode cX6_read 133 = .ok (.istore 4, 2) := by decide +kernel
theorem dX6_read_135 : decode cX6_read 135 = .ok (.iload 4, 2) := by decide +kernel
theorem dX6_read_137 : decode cX6_read 137 = .ok (.bipush 10, 2) := by decide +kernel
theorem dX6_read_139 : decode cX6_read 139 = .ok (.if_icmp .ne 11, 3) := by decide +kernel
theorem dX6_read_142 : decode cX6_read 142 = .ok (.aload_n 0, 1) := by decide +kernel
theorem dX6_read_143 : decode cX6_read 143 = .ok (.iload_n 3, 1) := by decide +kernel
theorem dX6_read_144 : decode cX6_read 144 = .ok (.invokevirtual 215, 3) := by decide +kernel
theorem dX6_read_147 : decode cX6_read 147 = .ok (.goto 30, 3) := by decide +kernel
theorem dX6_read_150 : decode cX6_read 150 = .ok (.iload 4, 2) := by decide +kernel
theorem dX6_read_152 : decode cX6_read 152 = .ok (.bipush 30, 2) := by decide +kernel
theorem dX6_read_154 : decode cX6_read 154 = .ok (.if_icmp .lt 18, 3) := by decide +kernel
theorem dX6_read_157 : decode cX6_read 157 = .ok (.iload 4, 2) := by decide +kernel
theorem dX6_read_159 : decode cX6_read 159 = .ok (.bipush 40, 2) := by decide +kernel
theorem dX6_read_161 : decode cX6_read 161 = .ok (.if_icmp .eq 11, 3) := by decide +kernel
theorem dX6_read_164 : decode cX6_read 164 = .ok (.aload_n 0, 1) := by decide +kernel
theorem dX6_read_165 : decode cX6_read 165 = .ok (.iload_n 3, 1) := by decide +kernel
theorem dX6_read_166 : decode cX6_read 166 = .ok (.invokevirtual 218, 3) := by decide +kernel
theorem dX6_read_169 : decode cX6_read 169 = .ok (.goto 8, 3) := by decide +kernel
theorem dX6_read_172 : decode cX6_read 172 = .ok (.aload_n 0, 1) := by decide +kernel
theorem dX6_read_173 : decode cX6_read 173 = .ok (.iload_n 3, 1) := by decide +kernel
theorem dX6_read_174 : decode cX6_read 174 = .ok (.invokevirtual 221, 3) := by decide +kernel
theorem dX6_read_177 : decode cX6_read 177 = .ok (.iinc 2 1, 3) := by decide +kernel
theorem dX6_read_180 : decode cX6_read 180 = .ok (.goto (-80), 3) := by decide +kernel
theorem dX6_read_183 : decode cX6_read 183 = .ok (.aload_n 0, 1) := by decide +kernel
theorem dX6_read_184 : decode cX6_read 184 = .ok (.getfield 124, 3) := by decide +kernel
theorem dX6_read_187 : decode cX6_read 187 = .ok (.ifCond .ne 18, 3) := by decide +kernel
theorem dX6_read_190 : decode cX6_read 190 = .ok (.aload_n 0, 1) := by decide +kernel
theorem dX6_read_191 : decode cX6_read 191 = .ok (.invokevirtual 107, 3) := by decide +kernel
theorem dX6_read_194 : decode cX6_read 194 = .ok (.iconst (-1), 1) := by decide +kernel
theorem dX6_read_195 : decode cX6_read 195 = .ok (.if_icmp .ne 10, 3) := by decide +kernel
theorem dX6_read_198 : decode cX6_read 198 = .ok (.aload_n 0, 1) := by decide +kernel
theorem dX6_read_199 : decode cX6_read 199 = .ok (.getfield 134, 3) := by decide +kernel
theorem dX6_read_202 : decode cX6_read 202 = .ok (.ifCond .eq 30, 3) := by decide +kernel
theorem dX6_read_205 : decode cX6_read 205 = .ok (.aload_n 0, 1) := by decide +kernel
theorem dX6_read_206 : decode cX6_read 206 = .ok (.iload_n 1, 1) := by decide +kernel
theorem dX6_read_207 : decode cX6_read 207 = .ok (.putfield 201, 3) := by decide +kernel
theorem dX6_read_210 : decode cX6_read 210 = .ok (.aload_n 0, 1) := by decide +kernel
theorem dX6_read_211 : decode cX6_read 211 = .ok (.getfield 124, 3) := by decide +kernel
theorem dX6_read_214 : decode cX6_read 214 = .ok (.ifCond .ne 11, 3) := by decide +kernel
theorem dX6_read_217 : decode cX6_read 217 = .ok (.aload_n 0, 1) := by decide +kernel
theorem dX6_read_218 : decode cX6_read 218 = .ok (.invokevirtual 107, 3) := by decide +kernel
theorem dX6_read_221 : decode cX6_read 221 = .ok (.iconst (-1), 1) := by decide +kernel
theorem dX6_read_222 : decode cX6_read 222 = .ok (.if_icmp .eq 7, 3) := by decide +kernel
theorem dX6_read_225 : decode cX6_read 225 = .ok (.iconst (-1), 1) := by decide +kernel
theorem dX6_read_226 : decode cX6_read 226 = .ok (.goto 5, 3) := by decide +kernel
theorem dX6_read_229 : decode cX6_read 229 = .ok (.bipush (-2), 2) := by decide +kernel
theorem dX6_read_231 : decode cX6_read 231 = .ok (.ireturn, 1) := by decide +kernel
theorem dX6_read_232 : decode cX6_read 232 = .ok (.aload_n 0, 1) := by decide +kernel
theorem dX6_read_233 : decode cX6_read 233 = .ok (.iconst 1, 1) := by decide +kernel
theorem dX6_read_234 : decode cX6_read 234 = .ok (.putfield 211, 3) := by decide +kernel
theorem dX6_read_237 : decode cX6_read 237 = .ok (.aload_n 0, 1) := by decide +kernel
theorem dX6_read_238 : decode cX6_read 238 = .ok (.aload_n 0, 1) := by decide +kernel
theorem dX6_read_239 : decode cX6_read 239 = .ok (.getfield 121, 3) := by decide +kernel
theorem dX6_read_242 : decode cX6_read 242 = .ok (.putfield 224, 3) := by decide +kernel
theorem dX6_read_245 : decode cX6_read 245 = .ok (.aload_n 0, 1) := by decide +kernel
theorem dX6_read_246 : decode cX6_read 246 = .ok (.getfield 43, 3) := by decide +kernel
theorem dX6_read_249 : decode cX6_read 249 = .ok (.iconst 0, 1) := by decide +kernel
theorem dX6_read_250 : decode cX6_read 250 = .ok (.aload_n 0, 1) := by decide +kernel
theorem dX6_read_251 : decode cX6_read 251 = .ok (.getfield 198, 3) := by decide +kernel
theorem dX6_read_254 : decode cX6_read 254 = .ok (.iastore, 1) := by decide +kernel
theorem dX6_read_255 : decode cX6_read 255 = .ok (.aload_n 0, 1) := by decide +kernel
theorem dX6_read_256 : decode cX6_read 256 = .ok (.getfield 43, 3) := by decide +kernel
theorem dX6_read_259 : decode cX6_read 259 = .ok (.iconst 1, 1) := by decide +kernel
theorem dX6_read_260 : decode cX6_read 260 = .ok (.aload_n 0, 1) := by decide +kernel
theorem dX6_read_261 : decode cX6_read 261 = .ok (.getfield 189, 3) := by decide +kernel
theorem dX6_read_264 : decode cX6_read 264 = .ok (.iastore, 1) := by decide +kernel
theorem dX6_read_265 : decode cX6_read 265 = .ok (.aload_n 0, 1) := by decide +kernel
theorem dX6_read_266 : decode cX6_read 266 = .ok (.getfield 43, 3) := by decide +kernel
theorem dX6_read_269 : decode cX6_read 269 = .ok (.iconst 2, 1) := by decide +kernel
theorem dX6_read_270 : decode cX6_read 270 = .ok (.aload_n 0, 1) := by decide +kernel
theorem dX6_read_271 : decode cX6_read 271 = .ok (.getfield 152, 3) := by decide +kernel
theorem dX6_read_274 : decode cX6_read 274 = .ok (.iastore, 1) := by decide +kernel
theorem dX6_read_275 : decode cX6_read 275 = .ok (.aload_n 0, 1) := by decide +kernel
theorem dX6_read_276 : decode cX6_read 276 = .ok (.getfield 43, 3) := by decide +kernel
theorem dX6_read_279 : decode cX6_read 279 = .ok (.iconst 3, 1) := by decide +kernel
theorem dX6_read_280 : decode cX6_read 280 = .ok (.aload_n 0, 1) := by decide +kernel
theorem dX6_read_281 : decode cX6_read 281 = .ok (.getfield 145, 3) := by decide +kernel
theorem dX6_read_284 : decode cX6_read 284 = .ok (.iastore, 1) := by decide +kernel
theorem dX6_read_285 : decode cX6_read 285 = .ok (.iconst 0, 1) := by decide +kernel
theorem dX6_read_286 : decode cX6_read 286 = .ok (.ireturn, 1) := by decide +kernel
theorem dX6_later_0 : decode cX6_later 0 = .ok (.aload_n 0, 1) := by decide +kernel
theorem dX6_later_1 : decode cX6_later 1 = .ok (.getfield 73, 3) := by decide +kernel
theorem dX6_later_4 : decode cX6_later 4 = .ok (.aload_n 0, 1) := by decide +kernel
theorem dX6_later_5 : decode cX6_later 5 = .ok (.getfield 227, 3) := by decide +kernel
theorem dX6_later_8 : decode cX6_later 8 = .ok (.iload_n 1, 1) := by decide +kernel
theorem dX6_later_9 : decode cX6_later 9 = .ok (.bipush 16, 2) := by decide +kernel
theorem dX6_later_11 : decode cX6_later 11 = .ok (.iload_n 2, 1) := by decide +kernel
theorem dX6_later_12 : decode cX6_later 12 = .ok (.imul, 1) := by decide +kernel
theorem dX6_later_13 : decode cX6_later 13 = .ok (.iadd, 1) := by decide +kernel
theorem dX6_later_14 : decode cX6_later 14 = .ok (.sipush 16384, 3) := by decide +kernel
theorem dX6_later_17 : decode cX6_later 17 = .ok (.iload_n 3, 1) := by decide +kernel
theorem dX6_later_18 : decode cX6_later 18 = .ok (.imul, 1) := by decide +kernel
theorem dX6_later_19 : decode cX6_later 19 = .ok (.iadd, 1) := by decide +kernel
theorem dX6_later_20 : decode cX6_later 20 = .ok (.iastore, 1) := by decide +kernel
theorem dX6_later_21 : decode cX6_later 21 = .ok (.aload_n 0, 1) := by decide +kernel
theorem dX6_later_22 : decode cX6_later 22 = .ok (.dup, 1) := by decide +kernel
theorem dX6_later_23 : decode cX6_later 23 = .ok (.getfield 227, 3) := by decide +kernel
theorem dX6_later_26 : decode cX6_later 26 = .ok (.iconst 1, 1) := by decide +kernel
theorem dX6_later_27 : decode cX6_later 27 = .ok (.iadd, 1) := by decide +kernel
theorem dX6_later_28 : decode cX6_later 28 = .ok (.putfield 227, 3) := by decide +kernel
theorem dX6_later_31 : decode cX6_later 31 = .ok (.return_, 1) := by decide +kernel
theorem dX6_pay_0 : decode cX6_pay 0 = .ok (.aload_n 0, 1) := by decide +kernel
theorem dX6_pay_1 : decode cX6_pay 1 = .ok (.getfield 230, 3) := by decide +kernel
theorem dX6_pay_4 : decode cX6_pay 4 = .ok (.aload_n 0, 1) := by decide +kernel
theorem dX6_pay_5 : decode cX6_pay 5 = .ok (.getfield 233, 3) := by decide +kernel
theorem dX6_pay_8 : decode cX6_pay 8 = .ok (.if_icmp .ne 10, 3) := by decide +kernel
theorem dX6_pay_11 : decode cX6_pay 11 = .ok (.aload_n 0, 1) := by decide +kernel
theorem dX6_pay_12 : decode cX6_pay 12 = .ok (.iconst 1, 1) := by decide +kernel
theorem dX6_pay_13 : decode cX6_pay 13 = .ok (.putfield 236, 3) := by decide +kernel
theorem dX6_pay_16 : decode cX6_pay 16 = .ok (.iconst 0, 1) := by decide +kernel
theorem dX6_pay_17 : decode cX6_pay 17 = .ok (.ireturn, 1) := by decide +kernel
theorem dX6_pay_18 : decode cX6_pay 18 = .ok (.aload_n 0, 1) := by decide +kernel
theorem dX6_pay_19 : decode cX6_pay 19 = .ok (.dup, 1) := by decide +kernel
theorem dX6_pay_20 : decode cX6_pay 20 = .ok (.getfield 230, 3) := by decide +kernel
theorem dX6_pay_23 : decode cX6_pay 23 = .ok (.iconst 1, 1) := by decide +kernel
theorem dX6_pay_24 : decode cX6_pay 24 = .ok (.iadd, 1) := by decide +kernel
theorem dX6_pay_25 : decode cX6_pay 25 = .ok (.putfield 230, 3) := by decide +kernel
theorem dX6_pay_28 : decode cX6_pay 28 = .ok (.iconst 1, 1) := by decide +kernel
theorem dX6_pay_29 : decode cX6_pay 29 = .ok (.ireturn, 1) := by decide +kernel
theorem dX6_frame_0 : decode cX6_frame 0 = .ok (.aload_n 0, 1) := by decide +kernel
theorem dX6_frame_1 : decode cX6_frame 1 = .ok (.getfield 76, 3) := by decide +kernel
theorem dX6_frame_4 : decode cX6_frame 4 = .ok (.aload_n 0, 1) := by decide +kernel
theorem dX6_frame_5 : decode cX6_frame 5 = .ok (.getfield 239, 3) := by decide +kernel
theorem dX6_frame_8 : decode cX6_frame 8 = .ok (.iload_n 1, 1) := by decide +kernel
theorem dX6_frame_9 : decode cX6_frame 9 = .ok (.iastore, 1) := by decide +kernel
theorem dX6_frame_10 : decode cX6_frame 10 = .ok (.aload_n 0, 1) := by decide +kernel
theorem dX6_frame_11 : decode cX6_frame 11 = .ok (.getfield 79, 3) := by decide +kernel
theorem dX6_frame_14 : decode cX6_frame 14 = .ok (.aload_n 0, 1) := by decide +kernel
theorem dX6_frame_15 : decode cX6_frame 15 = .ok (.getfield 239, 3) := by decide +kernel
theorem dX6_frame_18 : decode cX6_frame 18 = .ok (.iload_n 2, 1) := by decide +kernel
theorem dX6_frame_19 : decode cX6_frame 19 = .ok (.iastore, 1) := by decide +kernel
theorem dX6_frame_20 : decode cX6_frame 20 = .ok (.aload_n 0, 1) := by decide +kernel
theorem dX6_frame_21 : decode cX6_frame 21 = .ok (.getfield 82, 3) := by decide +kernel
theorem dX6_frame_24 : decode cX6_frame 24 = .ok (.aload_n 0, 1) := by decide +kernel
theorem dX6_frame_25 : decode cX6_frame 25 = .ok (.getfield 239, 3) := by decide +kernel
theorem dX6_frame_28 : decode cX6_frame 28 = .ok (.aload_n 0, 1) := by decide +kernel
theorem dX6_frame_29 : decode cX6_frame 29 = .ok (.getfield 242, 3) := by decide +kernel
theorem dX6_frame_32 : decode cX6_frame 32 = .ok (.iastore, 1) := by decide +kernel
theorem dX6_frame_33 : decode cX6_frame 33 = .ok (.aload_n 0, 1) := by decide +kernel
theorem dX6_frame_34 : decode cX6_frame 34 = .ok (.getfield 85, 3) := by decide +kernel
theorem dX6_frame_37 : decode cX6_frame 37 = .ok (.aload_n 0, 1) := by decide +kernel
theorem dX6_frame_38 : decode cX6_frame 38 = .ok (.getfield 239, 3) := by decide +kernel
theorem dX6_frame_41 : decode cX6_frame 41 = .ok (.iload 4, 2) := by decide +kernel
theorem dX6_frame_43 : decode cX6_frame 43 = .ok (.iastore, 1) := by decide +kernel
theorem dX6_frame_44 : decode cX6_frame 44 = .ok (.iconst 0, 1) := by decide +kernel
theorem dX6_frame_45 : decode cX6_frame 45 = .ok (.istore 5, 2) := by decide +kernel
theorem dX6_frame_47 : decode cX6_frame 47 = .ok (.iload 5, 2) := by decide +kernel
theorem dX6_frame_49 : decode cX6_frame 49 = .ok (.iload_n 3, 1) := by decide +kernel
theorem dX6_frame_50 : decode cX6_frame 50 = .ok (.if_icmp .ge 22, 3) := by decide +kernel
theorem dX6_frame_53 : decode cX6_frame 53 = .ok (.aload_n 0, 1) := by decide +kernel
theorem dX6_frame_54 : decode cX6_frame 54 = .ok (.getfield 88, 3) := by decide +kernel
theorem dX6_frame_57 : decode cX6_frame 57 = .ok (.aload_n 0, 1) := by decide +kernel
theorem dX6_frame_58 : decode cX6_frame 58 = .ok (.getfield 242, 3) := by decide +kernel
theorem dX6_frame_61 : decode cX6_frame 61 = .ok (.iload 5, 2) := by decide +kernel
theorem dX6_frame_63 : decode cX6_frame 63 = .ok (.iadd, 1) := by decide +kernel
theorem dX6_frame_64 : decode cX6_frame 64 = .ok (.iconst 0, 1) := by decide +kernel
theorem dX6_frame_65 : decode cX6_frame 65 = .ok (.iastore, 1) := by decide +kernel
theorem dX6_frame_66 : decode cX6_frame 66 = .ok (.iinc 5 1, 3) := by decide +kernel
theorem dX6_frame_69 : decode cX6_frame 69 = .ok (.goto (-22), 3) := by decide +kernel
theorem dX6_frame_72 : decode cX6_frame 72 = .ok (.aload_n 0, 1) := by decide +kernel
theorem dX6_frame_73 : decode cX6_frame 73 = .ok (.dup, 1) := by decide +kernel
theorem dX6_frame_74 : decode cX6_frame 74 = .ok (.getfield 242, 3) := by decide +kernel
theorem dX6_frame_77 : decode cX6_frame 77 = .ok (.iload_n 3, 1) := by decide +kernel
theorem dX6_frame_78 : decode cX6_frame 78 = .ok (.iadd, 1) := by decide +kernel
theorem dX6_frame_79 : decode cX6_frame 79 = .ok (.putfield 242, 3) := by decide +kernel
theorem dX6_frame_82 : decode cX6_frame 82 = .ok (.aload_n 0, 1) := by decide +kernel
theorem dX6_frame_83 : decode cX6_frame 83 = .ok (.dup, 1) := by decide +kernel
theorem dX6_frame_84 : decode cX6_frame 84 = .ok (.getfield 239, 3) := by decide +kernel
theorem dX6_frame_87 : decode cX6_frame 87 = .ok (.iconst 1, 1) := by decide +kernel
theorem dX6_frame_88 : decode cX6_frame 88 = .ok (.iadd, 1) := by decide +kernel
theorem dX6_frame_89 : decode cX6_frame 89 = .ok (.putfield 239, 3) := by decide +kernel
theorem dX6_frame_92 : decode cX6_frame 92 = .ok (.aload_n 0, 1) := by decide +kernel
theorem dX6_frame_93 : decode cX6_frame 93 = .ok (.getfield 239, 3) := by decide +kernel
theorem dX6_frame_96 : decode cX6_frame 96 = .ok (.iconst 1, 1) := by decide +kernel
theorem dX6_frame_97 : decode cX6_frame 97 = .ok (.isub, 1) := by decide +kernel
theorem dX6_frame_98 : decode cX6_frame 98 = .ok (.ireturn, 1) := by decide +kernel
theorem dX6_outward_0 : decode cX6_outward 0 = .ok (.iload_n 1, 1) := by decide +kernel
theorem dX6_outward_1 : decode cX6_outward 1 = .ok (.istore_n 3, 1) := by decide +kernel
theorem dX6_outward_2 : decode cX6_outward 2 = .ok (.iconst 0, 1) := by decide +kernel
theorem dX6_outward_3 : decode cX6_outward 3 = .ok (.istore 4, 2) := by decide +kernel
theorem dX6_outward_5 : decode cX6_outward 5 = .ok (.iload 4, 2) := by decide +kernel
theorem dX6_outward_7 : decode cX6_outward 7 = .ok (.iload_n 2, 1) := by decide +kernel
theorem dX6_outward_8 : decode cX6_outward 8 = .ok (.if_icmp .ge 16, 3) := by decide +kernel
theorem dX6_outward_11 : decode cX6_outward 11 = .ok (.aload_n 0, 1) := by decide +kernel
theorem dX6_outward_12 : decode cX6_outward 12 = .ok (.getfield 76, 3) := by decide +kernel
theorem dX6_outward_15 : decode cX6_outward 15 = .ok (.iload_n 3, 1) := by decide +kernel
theorem dX6_outward_16 : decode cX6_outward 16 = .ok (.iaload, 1) := by decide +kernel
theorem dX6_outward_17 : decode cX6_outward 17 = .ok (.istore_n 3, 1) := by decide +kernel
theorem dX6_outward_18 : decode cX6_outward 18 = .ok (.iinc 4 1, 3) := by decide +kernel
theorem dX6_outward_21 : decode cX6_outward 21 = .ok (.goto (-16), 3) := by decide +kernel
theorem dX6_outward_24 : decode cX6_outward 24 = .ok (.iload_n 3, 1) := by decide +kernel
theorem dX6_outward_25 : decode cX6_outward 25 = .ok (.ireturn, 1) := by decide +kernel
theorem dX6_follow_0 : decode cX6_follow 0 = .ok (.iload_n 1, 1) := by decide +kernel
theorem dX6_follow_1 : decode cX6_follow 1 = .ok (.istore_n 3, 1) := by decide +kernel
theorem dX6_follow_2 : decode cX6_follow 2 = .ok (.iload_n 2, 1) := by decide +kernel
theorem dX6_follow_3 : decode cX6_follow 3 = .ok (.istore 4, 2) := by decide +kernel
theorem dX6_follow_5 : decode cX6_follow 5 = .ok (.aload_n 0, 1) := by decide +kernel
theorem dX6_follow_6 : decode cX6_follow 6 = .ok (.iconst 4, 1) := by decide +kernel
theorem dX6_follow_7 : decode cX6_follow 7 = .ok (.putfield 245, 3) := by decide +kernel
theorem dX6_follow_10 : decode cX6_follow 10 = .ok (.iconst 0, 1) := by decide +kernel
theorem dX6_follow_11 : decode cX6_follow 11 = .ok (.istore 5, 2) := by decide +kernel
theorem dX6_follow_13 : decode cX6_follow 13 = .ok (.iload 5, 2) := by decide +kernel
theorem dX6_follow_15 : decode cX6_follow 15 = .ok (.sipush 500, 3) := by decide +kernel
theorem dX6_follow_18 : decode cX6_follow 18 = .ok (.if_icmp .ge 110, 3) := by decide +kernel
theorem dX6_follow_21 : decode cX6_follow 21 = .ok (.aload_n 0, 1) := by decide +kernel
theorem dX6_follow_22 : decode cX6_follow 22 = .ok (.getfield 245, 3) := by decide +kernel
theorem dX6_follow_25 : decode cX6_follow 25 = .ok (.iconst 4, 1) := by decide +kernel
theorem dX6_follow_26 : decode cX6_follow 26 = .ok (.if_icmp .ne 102, 3) := by decide +kernel
theorem dX6_follow_29 : decode cX6_follow 29 = .ok (.aload_n 0, 1) := by decide +kernel
theorem dX6_follow_30 : decode cX6_follow 30 = .ok (.aload_n 0, 1) := by decide +kernel
theorem dX6_follow_31 : decode cX6_follow 31 = .ok (.getfield 22, 3) := by decide +kernel
theorem dX6_follow_34 : decode cX6_follow 34 = .ok (.iload_n 3, 1) := by decide +kernel
theorem dX6_follow_35 : decode cX6_follow 35 = .ok (.iaload, 1) := by decide +kernel
theorem dX6_follow_36 : decode cX6_follow 36 = .ok (.putfield 245, 3) := by decide +kernel
theorem dX6_follow_39 : decode cX6_follow 39 = .ok (.aload_n 0, 1) := by decide +kernel
theorem dX6_follow_40 : decode cX6_follow 40 = .ok (.aload_n 0, 1) := by decide +kernel
theorem dX6_follow_41 : decode cX6_follow 41 = .ok (.getfield 25, 3) := by decide +kernel
theorem dX6_follow_44 : decode cX6_follow 44 = .ok (.iload_n 3, 1) := by decide +kernel
theorem dX6_follow_45 : decode cX6_follow 45 = .ok (.iaload, 1) := by decide +kernel
theorem dX6_follow_46 : decode cX6_follow 46 = .ok (.putfield 248, 3) := by decide +kernel
theorem dX6_follow_49 : decode cX6_follow 49 = .ok (.aload_n 0, 1) := by decide +kernel
theorem dX6_follow_50 : decode cX6_follow 50 = .ok (.aload_n 0, 1) := by decide +kernel
theorem dX6_follow_51 : decode cX6_follow 51 = .ok (.iload 4, 2) := by decide +kernel
theorem dX6_follow_53 : decode cX6_follow 53 = .ok (.aload_n 0, 1) := by decide +kernel
theorem dX6_follow_54 : decode cX6_follow 54 = .ok (.getfield 28, 3) := by decide +kernel
theorem dX6_follow_57 : decode cX6_follow 57 = .ok (.iload_n 3, 1) := by decide +kernel
theorem dX6_follow_58 : decode cX6_follow 58 = .ok (.iaload, 1) := by decide +kernel
theorem dX6_follow_59 : decode cX6_follow 59 = .ok (.invokevirtual 251, 3) := by decide +kernel
theorem dX6_follow_62 : decode cX6_follow 62 = .ok (.putfield 254, 3) := by decide +kernel
theorem dX6_follow_65 : decode cX6_follow 65 = .ok (.aload_n 0, 1) := by decide +kernel
theorem dX6_follow_66 : decode cX6_follow 66 = .ok (.getfield 245, 3) := by decide +kernel
theorem dX6_follow_69 : decode cX6_follow 69 = .ok (.iconst 4, 1) := by decide +kernel
theorem dX6_follow_70 : decode cX6_follow 70 = .ok (.if_icmp .ne 52, 3) := by decide +kernel
theorem dX6_follow_73 : decode cX6_follow 73 = .ok (.aload_n 0, 1) := by decide +kernel
theorem dX6_follow_74 : decode cX6_follow 74 = .ok (.getfield 82, 3) := by decide +kernel
theorem dX6_follow_77 : decode cX6_follow 77 = .ok (.aload_n 0, 1) := by decide +kernel
theorem dX6_follow_78 : decode cX6_follow 78 = .ok (.getfield 254, 3) := by decide +kernel
theorem dX6_follow_81 : decode cX6_follow 81 = .ok (.iaload, 1) := by decide +kernel
theorem dX6_follow_82 : decode cX6_follow 82 = .ok (.aload_n 0, 1) := by decide +kernel
theorem dX6_follow_83 : decode cX6_follow 83 = .ok (.getfield 248, 3) := by decide +kernel
theorem dX6_follow_86 : decode cX6_follow 86 = .ok (.iadd, 1) := by decide +kernel
theorem dX6_follow_87 : decode cX6_follow 87 = .ok (.istore 6, 2) := by decide +kernel
theorem dX6_follow_89 : decode cX6_follow 89 = .ok (.aload_n 0, 1) := by decide +kernel
theorem dX6_follow_90 : decode cX6_follow 90 = .ok (.getfield 88, 3) := by decide +kernel
theorem dX6_follow_93 : decode cX6_follow 93 = .ok (.iload 6, 2) := by decide +kernel
theorem dX6_follow_95 : decode cX6_follow 95 = .ok (.iaload, 1) := by decide +kernel
theorem dX6_follow_96 : decode cX6_follow 96 = .ok (.istore_n 3, 1) := by decide +kernel
theorem dX6_follow_97 : decode cX6_follow 97 = .ok (.aload_n 0, 1) := by decide +kernel
theorem dX6_follow_98 : decode cX6_follow 98 = .ok (.getfield 91, 3) := by decide +kernel
theorem dX6_follow_101 : decode cX6_follow 101 = .ok (.iload 6, 2) := by decide +kernel
theorem dX6_follow_103 : decode cX6_follow 103 = .ok (.iaload, 1) := by decide +kernel
theorem dX6_follow_104 : decode cX6_follow 104 = .ok (.istore 4, 2) := by decide +kernel
theorem dX6_follow_106 : decode cX6_follow 106 = .ok (.aload_n 0, 1) := by decide +kernel
theorem dX6_follow_107 : decode cX6_follow 107 = .ok (.getfield 13, 3) := by decide +kernel
theorem dX6_follow_110 : decode cX6_follow 110 = .ok (.iload_n 3, 1) := by decide +kernel
theorem dX6_follow_111 : decode cX6_follow 111 = .ok (.iaload, 1) := by decide +kernel
theorem dX6_follow_112 : decode cX6_follow 112 = .ok (.bipush 8, 2) := by decide +kernel
theorem dX6_follow_114 : decode cX6_follow 114 = .ok (.if_icmp .eq 8, 3) := by decide +kernel
theorem dX6_follow_117 : decode cX6_follow 117 = .ok (.aload_n 0, 1) := by decide +kernel
theorem dX6_follow_118 : decode cX6_follow 118 = .ok (.iconst 0, 1) := by decide +kernel
theorem dX6_follow_119 : decode cX6_follow 119 = .ok (.putfield 245, 3) := by decide +kernel
theorem dX6_follow_122 : decode cX6_follow 122 = .ok (.iinc 5 1, 3) := by decide +kernel
theorem dX6_follow_125 : decode cX6_follow 125 = .ok (.goto (-112), 3) := by decide +kernel
theorem dX6_follow_128 : decode cX6_follow 128 = .ok (.return_, 1) := by decide +kernel
theorem dX6_target_0 : decode cX6_target 0 = .ok (.aload_n 0, 1) := by decide +kernel
theorem dX6_target_1 : decode cX6_target 1 = .ok (.iload_n 1, 1) := by decide +kernel
theorem dX6_target_2 : decode cX6_target 2 = .ok (.iload_n 2, 1) := by decide +kernel
theorem dX6_target_3 : decode cX6_target 3 = .ok (.invokevirtual 257, 3) := by decide +kernel
theorem dX6_target_6 : decode cX6_target 6 = .ok (.aload_n 0, 1) := by decide +kernel
theorem dX6_target_7 : decode cX6_target 7 = .ok (.getfield 245, 3) := by decide +kernel
theorem dX6_target_10 : decode cX6_target 10 = .ok (.iconst 1, 1) := by decide +kernel
theorem dX6_target_11 : decode cX6_target 11 = .ok (.if_icmp .eq 11, 3) := by decide +kernel
theorem dX6_target_14 : decode cX6_target 14 = .ok (.aload_n 0, 1) := by decide +kernel
theorem dX6_target_15 : decode cX6_target 15 = .ok (.getfield 245, 3) := by decide +kernel
theorem dX6_target_18 : decode cX6_target 18 = .ok (.iconst 3, 1) := by decide +kernel
theorem dX6_target_19 : decode cX6_target 19 = .ok (.if_icmp .ne 18, 3) := by decide +kernel
theorem dX6_target_22 : decode cX6_target 22 = .ok (.aload_n 0, 1) := by decide +kernel
theorem dX6_target_23 : decode cX6_target 23 = .ok (.getfield 82, 3) := by decide +kernel
theorem dX6_target_26 : decode cX6_target 26 = .ok (.aload_n 0, 1) := by decide +kernel
theorem dX6_target_27 : decode cX6_target 27 = .ok (.getfield 254, 3) := by decide +kernel
theorem dX6_target_30 : decode cX6_target 30 = .ok (.iaload, 1) := by decide +kernel
theorem dX6_target_31 : decode cX6_target 31 = .ok (.aload_n 0, 1) := by decide +kernel
theorem dX6_target_32 : decode cX6_target 32 = .ok (.getfield 248, 3) := by decide +kernel
theorem dX6_target_35 : decode cX6_target 35 = .ok (.iadd, 1) := by decide +kernel
theorem dX6_target_36 : decode cX6_target 36 = .ok (.ireturn, 1) := by decide +kernel
theorem dX6_target_37 : decode cX6_target 37 = .ok (.aload_n 0, 1) := by decide +kernel
theorem dX6_target_38 : decode cX6_target 38 = .ok (.getfield 245, 3) := by decide +kernel
theorem dX6_target_41 : decode cX6_target 41 = .ok (.iconst 2, 1) := by decide +kernel
theorem dX6_target_42 : decode cX6_target 42 = .ok (.if_icmp .ne 13, 3) := by decide +kernel
theorem dX6_target_45 : decode cX6_target 45 = .ok (.aload_n 0, 1) := by decide +kernel
theorem dX6_target_46 : decode cX6_target 46 = .ok (.getfield 22, 3) := by decide +kernel
theorem dX6_target_49 : decode cX6_target 49 = .ok (.iload_n 1, 1) := by decide +kernel
theorem dX6_target_50 : decode cX6_target 50 = .ok (.iaload, 1) := by decide +kernel
theorem dX6_target_51 : decode cX6_target 51 = .ok (.iconst 2, 1) := by decide +kernel
theorem dX6_target_52 : decode cX6_target 52 = .ok (.if_icmp .eq 5, 3) := by decide +kernel
theorem dX6_target_55 : decode cX6_target 55 = .ok (.iconst (-1), 1) := by decide +kernel
theorem dX6_target_56 : decode cX6_target 56 = .ok (.ireturn, 1) := by decide +kernel
theorem dX6_target_57 : decode cX6_target 57 = .ok (.iload_n 2, 1) := by decide +kernel
theorem dX6_target_58 : decode cX6_target 58 = .ok (.istore_n 3, 1) := by decide +kernel
theorem dX6_target_59 : decode cX6_target 59 = .ok (.iload_n 3, 1) := by decide +kernel
theorem dX6_target_60 : decode cX6_target 60 = .ok (.ifCond .le 26, 3) := by decide +kernel
theorem dX6_target_63 : decode cX6_target 63 = .ok (.aload_n 0, 1) := by decide +kernel
theorem dX6_target_64 : decode cX6_target 64 = .ok (.getfield 79, 3) := by decide +kernel
theorem dX6_target_67 : decode cX6_target 67 = .ok (.iload_n 3, 1) := by decide +kernel
theorem dX6_target_68 : decode cX6_target 68 = .ok (.iaload, 1) := by decide +kernel
theorem dX6_target_69 : decode cX6_target 69 = .ok (.aload_n 0, 1) := by decide +kernel
theorem dX6_target_70 : decode cX6_target 70 = .ok (.getfield 248, 3) := by decide +kernel
theorem dX6_target_73 : decode cX6_target 73 = .ok (.if_icmp .eq 13, 3) := by decide +kernel
theorem dX6_target_76 : decode cX6_target 76 = .ok (.aload_n 0, 1) := by decide +kernel
theorem dX6_target_77 : decode cX6_target 77 = .ok (.getfield 76, 3) := by decide +kernel
theorem dX6_target_80 : decode cX6_target 80 = .ok (.iload_n 3, 1) := by decide +kernel
theorem dX6_target_81 : decode cX6_target 81 = .ok (.iaload, 1) := by decide +kernel
theorem dX6_target_82 : decode cX6_target 82 = .ok (.istore_n 3, 1) := by decide +kernel
theorem dX6_target_83 : decode cX6_target 83 = .ok (.goto (-24), 3) := by decide +kernel
theorem dX6_target_86 : decode cX6_target 86 = .ok (.iload_n 3, 1) := by decide +kernel
theorem dX6_target_87 : decode cX6_target 87 = .ok (.ifCond .le 12, 3) := by decide +kernel
theorem dX6_target_90 : decode cX6_target 90 = .ok (.aload_n 0, 1) := by decide +kernel
theorem dX6_target_91 : decode cX6_target 91 = .ok (.getfield 82, 3) := by decide +kernel
theorem dX6_target_94 : decode cX6_target 94 = .ok (.iload_n 3, 1) := by decide +kernel
theorem dX6_target_95 : decode cX6_target 95 = .ok (.iaload, 1) := by decide +kernel
theorem dX6_target_96 : decode cX6_target 96 = .ok (.goto 4, 3) := by decide +kernel
theorem dX6_target_99 : decode cX6_target 99 = .ok (.iconst (-1), 1) := by decide +kernel
theorem dX6_target_100 : decode cX6_target 100 = .ok (.ireturn, 1) := by decide +kernel
theorem dX6_call_0 : decode cX6_call 0 = .ok (.iconst 0, 1) := by decide +kernel
theorem dX6_call_1 : decode cX6_call 1 = .ok (.istore_n 3, 1) := by decide +kernel
theorem dX6_call_2 : decode cX6_call 2 = .ok (.aload_n 0, 1) := by decide +kernel
theorem dX6_call_3 : decode cX6_call 3 = .ok (.getfield 13, 3) := by decide +kernel
theorem dX6_call_6 : decode cX6_call 6 = .ok (.iload_n 1, 1) := by decide +kernel
theorem dX6_call_7 : decode cX6_call 7 = .ok (.iaload, 1) := by decide +kernel
theorem dX6_call_8 : decode cX6_call 8 = .ok (.bipush 8, 2) := by decide +kernel
theorem dX6_call_10 : decode cX6_call 10 = .ok (.if_icmp .eq 31, 3) := by decide +kernel
theorem dX6_call_13 : decode cX6_call 13 = .ok (.aload_n 0, 1) := by decide +kernel
theorem dX6_call_14 : decode cX6_call 14 = .ok (.getfield 16, 3) := by decide +kernel
theorem dX6_call_17 : decode cX6_call 17 = .ok (.iload_n 1, 1) := by decide +kernel
theorem dX6_call_18 : decode cX6_call 18 = .ok (.iaload, 1) := by decide +kernel
theorem dX6_call_19 : decode cX6_call 19 = .ok (.istore 4, 2) := by decide +kernel
theorem dX6_call_21 : decode cX6_call 21 = .ok (.iload 4, 2) := by decide +kernel
theorem dX6_call_23 : decode cX6_call 23 = .ok (.ifCond .le 18, 3) := by decide +kernel
theorem dX6_call_26 : decode cX6_call 26 = .ok (.iinc 3 1, 3) := by decide +kernel
theorem dX6_call_29 : decode cX6_call 29 = .ok (.aload_n 0, 1) := by decide +kernel
theorem dX6_call_30 : decode cX6_call 30 = .ok (.getfield 19, 3) := by decide +kernel
theorem dX6_call_33 : decode cX6_call 33 = .ok (.iload 4, 2) := by decide +kernel
theorem dX6_call_35 : decode cX6_call 35 = .ok (.iaload, 1) := by decide +kernel
theorem dX6_call_36 : decode cX6_call 36 = .ok (.istore 4, 2) := by decide +kernel
theorem dX6_call_38 : decode cX6_call 38 = .ok (.goto (-17), 3) := by decide +kernel
theorem dX6_call_41 : decode cX6_call 41 = .ok (.aload_n 0, 1) := by decide +kernel
theorem dX6_call_42 : decode cX6_call 42 = .ok (.iload_n 1, 1) := by decide +kernel
theorem dX6_call_43 : decode cX6_call 43 = .ok (.iload_n 2, 1) := by decide +kernel
theorem dX6_call_44 : decode cX6_call 44 = .ok (.invokevirtual 257, 3) := by decide +kernel
theorem dX6_call_47 : decode cX6_call 47 = .ok (.aload_n 0, 1) := by decide +kernel
theorem dX6_call_48 : decode cX6_call 48 = .ok (.getfield 248, 3) := by decide +kernel
theorem dX6_call_51 : decode cX6_call 51 = .ok (.istore 4, 2) := by decide +kernel
theorem dX6_call_53 : decode cX6_call 53 = .ok (.aload_n 0, 1) := by decide +kernel
theorem dX6_call_54 : decode cX6_call 54 = .ok (.aload_n 0, 1) := by decide +kernel
theorem dX6_call_55 : decode cX6_call 55 = .ok (.getfield 245, 3) := by decide +kernel
theorem dX6_call_58 : decode cX6_call 58 = .ok (.iconst 2, 1) := by decide +kernel
theorem dX6_call_59 : decode cX6_call 59 = .ok (.if_icmp .eq 7, 3) := by decide +kernel
theorem dX6_call_62 : decode cX6_call 62 = .ok (.iconst 3, 1) := by decide +kernel
theorem dX6_call_63 : decode cX6_call 63 = .ok (.goto 32, 3) := by decide +kernel
theorem dX6_call_66 : decode cX6_call 66 = .ok (.iload_n 3, 1) := by decide +kernel
theorem dX6_call_67 : decode cX6_call 67 = .ok (.aload_n 0, 1) := by decide +kernel
theorem dX6_call_68 : decode cX6_call 68 = .ok (.getfield 37, 3) := by decide +kernel
theorem dX6_call_71 : decode cX6_call 71 = .ok (.iload 4, 2) := by decide +kernel
theorem dX6_call_73 : decode cX6_call 73 = .ok (.iaload, 1) := by decide +kernel
theorem dX6_call_74 : decode cX6_call 74 = .ok (.if_icmp .eq 7, 3) := by decide +kernel
theorem dX6_call_77 : decode cX6_call 77 = .ok (.iconst 4, 1) := by decide +kernel
theorem dX6_call_78 : decode cX6_call 78 = .ok (.goto 17, 3) := by decide +kernel
theorem dX6_call_81 : decode cX6_call 81 = .ok (.aload_n 0, 1) := by decide +kernel
theorem dX6_call_82 : decode cX6_call 82 = .ok (.getfield 260, 3) := by decide +kernel
theorem dX6_call_85 : decode cX6_call 85 = .ok (.bipush 30, 2) := by decide +kernel
theorem dX6_call_87 : decode cX6_call 87 = .ok (.if_icmp .ne 7, 3) := by decide +kernel
theorem dX6_call_90 : decode cX6_call 90 = .ok (.iconst 5, 1) := by decide +kernel
theorem dX6_call_91 : decode cX6_call 91 = .ok (.goto 4, 3) := by decide +kernel
theorem dX6_call_94 : decode cX6_call 94 = .ok (.iconst 0, 1) := by decide +kernel
theorem dX6_call_95 : decode cX6_call 95 = .ok (.putfield 236, 3) := by decide +kernel
theorem dX6_call_98 : decode cX6_call 98 = .ok (.aload_n 0, 1) := by decide +kernel
theorem dX6_call_99 : decode cX6_call 99 = .ok (.getfield 236, 3) := by decide +kernel
theorem dX6_call_102 : decode cX6_call 102 = .ok (.ifCond .le 4, 3) := by decide +kernel
theorem dX6_call_105 : decode cX6_call 105 = .ok (.return_, 1) := by decide +kernel
theorem dX6_call_106 : decode cX6_call 106 = .ok (.aload_n 0, 1) := by decide +kernel
theorem dX6_call_107 : decode cX6_call 107 = .ok (.dup, 1) := by decide +kernel
theorem dX6_call_108 : decode cX6_call 108 = .ok (.getfield 260, 3) := by decide +kernel
theorem dX6_call_111 : decode cX6_call 111 = .ok (.iconst 1, 1) := by decide +kernel
theorem dX6_call_112 : decode cX6_call 112 = .ok (.iadd, 1) := by decide +kernel
theorem dX6_call_113 : decode cX6_call 113 = .ok (.putfield 260, 3) := by decide +kernel
theorem dX6_call_116 : decode cX6_call 116 = .ok (.aload_n 0, 1) := by decide +kernel
theorem dX6_call_117 : decode cX6_call 117 = .ok (.dup, 1) := by decide +kernel
theorem dX6_call_118 : decode cX6_call 118 = .ok (.getfield 263, 3) := by decide +kernel
theorem dX6_call_121 : decode cX6_call 121 = .ok (.iconst 1, 1) := by decide +kernel
theorem dX6_call_122 : decode cX6_call 122 = .ok (.iadd, 1) := by decide +kernel
theorem dX6_call_123 : decode cX6_call 123 = .ok (.putfield 263, 3) := by decide +kernel
theorem dX6_call_126 : decode cX6_call 126 = .ok (.aload_n 0, 1) := by decide +kernel
theorem dX6_call_127 : decode cX6_call 127 = .ok (.getfield 260, 3) := by decide +kernel
theorem dX6_call_130 : decode cX6_call 130 = .ok (.aload_n 0, 1) := by decide +kernel
theorem dX6_call_131 : decode cX6_call 131 = .ok (.getfield 266, 3) := by decide +kernel
theorem dX6_call_134 : decode cX6_call 134 = .ok (.if_icmp .le 11, 3) := by decide +kernel
theorem dX6_call_137 : decode cX6_call 137 = .ok (.aload_n 0, 1) := by decide +kernel
theorem dX6_call_138 : decode cX6_call 138 = .ok (.aload_n 0, 1) := by decide +kernel
theorem dX6_call_139 : decode cX6_call 139 = .ok (.getfield 260, 3) := by decide +kernel
theorem dX6_call_142 : decode cX6_call 142 = .ok (.putfield 266, 3) := by decide +kernel
theorem dX6_call_145 : decode cX6_call 145 = .ok (.aload_n 0, 1) := by decide +kernel
theorem dX6_call_146 : decode cX6_call 146 = .ok (.aload_n 0, 1) := by decide +kernel
theorem dX6_call_147 : decode cX6_call 147 = .ok (.getfield 254, 3) := by decide +kernel
theorem dX6_call_150 : decode cX6_call 150 = .ok (.iload 4, 2) := by decide +kernel
theorem dX6_call_152 : decode cX6_call 152 = .ok (.iconst 1, 1) := by decide +kernel
theorem dX6_call_153 : decode cX6_call 153 = .ok (.iload_n 3, 1) := by decide +kernel
theorem dX6_call_154 : decode cX6_call 154 = .ok (.iadd, 1) := by decide +kernel
theorem dX6_call_155 : decode cX6_call 155 = .ok (.iload_n 2, 1) := by decide +kernel
theorem dX6_call_156 : decode cX6_call 156 = .ok (.invokevirtual 269, 3) := by decide +kernel
theorem dX6_call_159 : decode cX6_call 159 = .ok (.istore 5, 2) := by decide +kernel
theorem dX6_call_161 : decode cX6_call 161 = .ok (.iload_n 3, 1) := by decide +kernel
theorem dX6_call_162 : decode cX6_call 162 = .ok (.ifCond .le 84, 3) := by decide +kernel
theorem dX6_call_165 : decode cX6_call 165 = .ok (.aload_n 0, 1) := by decide +kernel
theorem dX6_call_166 : decode cX6_call 166 = .ok (.getfield 16, 3) := by decide +kernel
theorem dX6_call_169 : decode cX6_call 169 = .ok (.iload_n 1, 1) := by decide +kernel
theorem dX6_call_170 : decode cX6_call 170 = .ok (.iaload, 1) := by decide +kernel
theorem dX6_call_171 : decode cX6_call 171 = .ok (.istore 6, 2) := by decide +kernel
theorem dX6_call_173 : decode cX6_call 173 = .ok (.iload 6, 2) := by decide +kernel
theorem dX6_call_175 : decode cX6_call 175 = .ok (.ifCond .le 71, 3) := by decide +kernel
theorem dX6_call_178 : decode cX6_call 178 = .ok (.aload_n 0, 1) := by decide +kernel
theorem dX6_call_179 : decode cX6_call 179 = .ok (.getfield 82, 3) := by decide +kernel
theorem dX6_call_182 : decode cX6_call 182 = .ok (.iload 5, 2) := by decide +kernel
theorem dX6_call_184 : decode cX6_call 184 = .ok (.iaload, 1) := by decide +kernel
theorem dX6_call_185 : decode cX6_call 185 = .ok (.iconst 1, 1) := by decide +kernel
theorem dX6_call_186 : decode cX6_call 186 = .ok (.iadd, 1) := by decide +kernel
theorem dX6_call_187 : decode cX6_call 187 = .ok (.aload_n 0, 1) := by decide +kernel
theorem dX6_call_188 : decode cX6_call 188 = .ok (.getfield 31, 3) := by decide +kernel
theorem dX6_call_191 : decode cX6_call 191 = .ok (.iload 6, 2) := by decide +kernel
theorem dX6_call_193 : decode cX6_call 193 = .ok (.iaload, 1) := by decide +kernel
theorem dX6_call_194 : decode cX6_call 194 = .ok (.iadd, 1) := by decide +kernel
theorem dX6_call_195 : decode cX6_call 195 = .ok (.istore 7, 2) := by decide +kernel
theorem dX6_call_197 : decode cX6_call 197 = .ok (.aload_n 0, 1) := by decide +kernel
theorem dX6_call_198 : decode cX6_call 198 = .ok (.getfield 40, 3) := by decide +kernel
theorem dX6_call_201 : decode cX6_call 201 = .ok (.iload 4, 2) := by decide +kernel
theorem dX6_call_203 : decode cX6_call 203 = .ok (.iaload, 1) := by decide +kernel
theorem dX6_call_204 : decode cX6_call 204 = .ok (.aload_n 0, 1) := by decide +kernel
theorem dX6_call_205 : decode cX6_call 205 = .ok (.getfield 31, 3) := by decide +kernel
theorem dX6_call_208 : decode cX6_call 208 = .ok (.iload 6, 2) := by decide +kernel
theorem dX6_call_210 : decode cX6_call 210 = .ok (.iaload, 1) := by decide +kernel
theorem dX6_call_211 : decode cX6_call 211 = .ok (.ishr, 1) := by decide +kernel
theorem dX6_call_212 : decode cX6_call 212 = .ok (.iconst 1, 1) := by decide +kernel
theorem dX6_call_213 : decode cX6_call 213 = .ok (.iand, 1) := by decide +kernel
theorem dX6_call_214 : decode cX6_call 214 = .ok (.ifCond .ne 20, 3) := by decide +kernel
theorem dX6_call_217 : decode cX6_call 217 = .ok (.aload_n 0, 1) := by decide +kernel
theorem dX6_call_218 : decode cX6_call 218 = .ok (.getfield 88, 3) := by decide +kernel
theorem dX6_call_221 : decode cX6_call 221 = .ok (.iload 7, 2) := by decide +kernel
theorem dX6_call_223 : decode cX6_call 223 = .ok (.iload 6, 2) := by decide +kernel
theorem dX6_call_225 : decode cX6_call 225 = .ok (.iastore, 1) := by decide +kernel
theorem dX6_call_226 : decode cX6_call 226 = .ok (.aload_n 0, 1) := by decide +kernel
theorem dX6_call_227 : decode cX6_call 227 = .ok (.getfield 91, 3) := by decide +kernel
theorem dX6_call_230 : decode cX6_call 230 = .ok (.iload 7, 2) := by decide +kernel
theorem dX6_call_232 : decode cX6_call 232 = .ok (.iload_n 2, 1) := by decide +kernel
theorem dX6_call_233 : decode cX6_call 233 = .ok (.iastore, 1) := by decide +kernel
theorem dX6_call_234 : decode cX6_call 234 = .ok (.aload_n 0, 1) := by decide +kernel
theorem dX6_call_235 : decode cX6_call 235 = .ok (.getfield 19, 3) := by decide +kernel
theorem dX6_call_238 : decode cX6_call 238 = .ok (.iload 6, 2) := by decide +kernel
theorem dX6_call_240 : decode cX6_call 240 = .ok (.iaload, 1) := by decide +kernel
theorem dX6_call_241 : decode cX6_call 241 = .ok (.istore 6, 2) := by decide +kernel
theorem dX6_call_243 : decode cX6_call 243 = .ok (.goto (-70), 3) := by decide +kernel
theorem dX6_call_246 : decode cX6_call 246 = .ok (.aload_n 0, 1) := by decide +kernel
theorem dX6_call_247 : decode cX6_call 247 = .ok (.iload_n 3, 1) := by decide +kernel
theorem dX6_call_248 : decode cX6_call 248 = .ok (.ifCond .le 12, 3) := by decide +kernel
theorem dX6_call_251 : decode cX6_call 251 = .ok (.aload_n 0, 1) := by decide +kernel
theorem dX6_call_252 : decode cX6_call 252 = .ok (.getfield 16, 3) := by decide +kernel
theorem dX6_call_255 : decode cX6_call 255 = .ok (.iload_n 1, 1) := by decide +kernel
end
section
theorem dX6_call_256 : decode cX6_call 256 = .ok (.iaload, 1) := by decide +kernel
theorem dX6_call_257 : decode cX6_call 257 = .ok (.goto 4, 3) := by decide +kernel
theorem dX6_call_260 : decode cX6_call 260 = .ok (.iconst 0, 1) := by decide +kernel
theorem dX6_call_261 : decode cX6_call 261 = .ok (.iload 5, 2) := by decide +kernel
theorem dX6_call_263 : decode cX6_call 263 = .ok (.invokevirtual 273, 3) := by decide +kernel
theorem dX6_call_266 : decode cX6_call 266 = .ok (.return_, 1) := by decide +kernel
theorem dX6_arguments_0 : decode cX6_arguments 0 = .ok (.aload_n 0, 1) := by decide +kernel
theorem dX6_arguments_1 : decode cX6_arguments 1 = .ok (.getfield 79, 3) := by decide +kernel
theorem dX6_arguments_4 : decode cX6_arguments 4 = .ok (.iload_n 2, 1) := by decide +kernel
theorem dX6_arguments_5 : decode cX6_arguments 5 = .ok (.iaload, 1) := by decide +kernel
theorem dX6_arguments_6 : decode cX6_arguments 6 = .ok (.istore_n 3, 1) := by decide +kernel
theorem dX6_arguments_7 : decode cX6_arguments 7 = .ok (.iload_n 1, 1) := by decide +kernel
theorem dX6_arguments_8 : decode cX6_arguments 8 = .ok (.istore 4, 2) := by decide +kernel
theorem dX6_arguments_10 : decode cX6_arguments 10 = .ok (.iload 4, 2) := by decide +kernel
theorem dX6_arguments_12 : decode cX6_arguments 12 = .ok (.ifCond .le 34, 3) := by decide +kernel
theorem dX6_arguments_15 : decode cX6_arguments 15 = .ok (.aload_n 0, 1) := by decide +kernel
theorem dX6_arguments_16 : decode cX6_arguments 16 = .ok (.getfield 40, 3) := by decide +kernel
theorem dX6_arguments_19 : decode cX6_arguments 19 = .ok (.iload_n 3, 1) := by decide +kernel
theorem dX6_arguments_20 : decode cX6_arguments 20 = .ok (.iaload, 1) := by decide +kernel
theorem dX6_arguments_21 : decode cX6_arguments 21 = .ok (.aload_n 0, 1) := by decide +kernel
theorem dX6_arguments_22 : decode cX6_arguments 22 = .ok (.getfield 31, 3) := by decide +kernel
theorem dX6_arguments_25 : decode cX6_arguments 25 = .ok (.iload 4, 2) := by decide +kernel
theorem dX6_arguments_27 : decode cX6_arguments 27 = .ok (.iaload, 1) := by decide +kernel
theorem dX6_arguments_28 : decode cX6_arguments 28 = .ok (.ishr, 1) := by decide +kernel
theorem dX6_arguments_29 : decode cX6_arguments 29 = .ok (.iconst 1, 1) := by decide +kernel
theorem dX6_arguments_30 : decode cX6_arguments 30 = .ok (.iand, 1) := by decide +kernel
theorem dX6_arguments_31 : decode cX6_arguments 31 = .ok (.ifCond .ne 15, 3) := by decide +kernel
theorem dX6_arguments_34 : decode cX6_arguments 34 = .ok (.aload_n 0, 1) := by decide +kernel
theorem dX6_arguments_35 : decode cX6_arguments 35 = .ok (.getfield 19, 3) := by decide +kernel
theorem dX6_arguments_38 : decode cX6_arguments 38 = .ok (.iload 4, 2) := by decide +kernel
theorem dX6_arguments_40 : decode cX6_arguments 40 = .ok (.iaload, 1) := by decide +kernel
theorem dX6_arguments_41 : decode cX6_arguments 41 = .ok (.istore 4, 2) := by decide +kernel
theorem dX6_arguments_43 : decode cX6_arguments 43 = .ok (.goto (-33), 3) := by decide +kernel
theorem dX6_arguments_46 : decode cX6_arguments 46 = .ok (.iload 4, 2) := by decide +kernel
theorem dX6_arguments_48 : decode cX6_arguments 48 = .ok (.ifCond .le 29, 3) := by decide +kernel
theorem dX6_arguments_51 : decode cX6_arguments 51 = .ok (.aload_n 0, 1) := by decide +kernel
theorem dX6_arguments_52 : decode cX6_arguments 52 = .ok (.bipush 12, 2) := by decide +kernel
theorem dX6_arguments_54 : decode cX6_arguments 54 = .ok (.iload 4, 2) := by decide +kernel
theorem dX6_arguments_56 : decode cX6_arguments 56 = .ok (.iload_n 2, 1) := by decide +kernel
theorem dX6_arguments_57 : decode cX6_arguments 57 = .ok (.invokevirtual 276, 3) := by decide +kernel
theorem dX6_arguments_60 : decode cX6_arguments 60 = .ok (.aload_n 0, 1) := by decide +kernel
theorem dX6_arguments_61 : decode cX6_arguments 61 = .ok (.bipush 8, 2) := by decide +kernel
theorem dX6_arguments_63 : decode cX6_arguments 63 = .ok (.iload 4, 2) := by decide +kernel
theorem dX6_arguments_65 : decode cX6_arguments 65 = .ok (.aload_n 0, 1) := by decide +kernel
theorem dX6_arguments_66 : decode cX6_arguments 66 = .ok (.getfield 85, 3) := by decide +kernel
theorem dX6_arguments_69 : decode cX6_arguments 69 = .ok (.iload_n 2, 1) := by decide +kernel
theorem dX6_arguments_70 : decode cX6_arguments 70 = .ok (.iaload, 1) := by decide +kernel
theorem dX6_arguments_71 : decode cX6_arguments 71 = .ok (.invokevirtual 276, 3) := by decide +kernel
theorem dX6_arguments_74 : decode cX6_arguments 74 = .ok (.goto 23, 3) := by decide +kernel
theorem dX6_arguments_77 : decode cX6_arguments 77 = .ok (.aload_n 0, 1) := by decide +kernel
theorem dX6_arguments_78 : decode cX6_arguments 78 = .ok (.bipush 13, 2) := by decide +kernel
theorem dX6_arguments_80 : decode cX6_arguments 80 = .ok (.iconst 0, 1) := by decide +kernel
theorem dX6_arguments_81 : decode cX6_arguments 81 = .ok (.iload_n 2, 1) := by decide +kernel
theorem dX6_arguments_82 : decode cX6_arguments 82 = .ok (.invokevirtual 276, 3) := by decide +kernel
theorem dX6_arguments_85 : decode cX6_arguments 85 = .ok (.aload_n 0, 1) := by decide +kernel
theorem dX6_arguments_86 : decode cX6_arguments 86 = .ok (.iconst 0, 1) := by decide +kernel
theorem dX6_arguments_87 : decode cX6_arguments 87 = .ok (.aload_n 0, 1) := by decide +kernel
theorem dX6_arguments_88 : decode cX6_arguments 88 = .ok (.getfield 34, 3) := by decide +kernel
theorem dX6_arguments_91 : decode cX6_arguments 91 = .ok (.iload_n 3, 1) := by decide +kernel
theorem dX6_arguments_92 : decode cX6_arguments 92 = .ok (.iaload, 1) := by decide +kernel
theorem dX6_arguments_93 : decode cX6_arguments 93 = .ok (.iload_n 2, 1) := by decide +kernel
theorem dX6_arguments_94 : decode cX6_arguments 94 = .ok (.invokevirtual 276, 3) := by decide +kernel
theorem dX6_arguments_97 : decode cX6_arguments 97 = .ok (.return_, 1) := by decide +kernel
theorem dX6_statement_0 : decode cX6_statement 0 = .ok (.aload_n 0, 1) := by decide +kernel
theorem dX6_statement_1 : decode cX6_statement 1 = .ok (.invokevirtual 279, 3) := by decide +kernel
theorem dX6_statement_4 : decode cX6_statement 4 = .ok (.ifCond .ne 4, 3) := by decide +kernel
theorem dX6_statement_7 : decode cX6_statement 7 = .ok (.return_, 1) := by decide +kernel
theorem dX6_statement_8 : decode cX6_statement 8 = .ok (.aload_n 0, 1) := by decide +kernel
theorem dX6_statement_9 : decode cX6_statement 9 = .ok (.getfield 16, 3) := by decide +kernel
theorem dX6_statement_12 : decode cX6_statement 12 = .ok (.iload_n 1, 1) := by decide +kernel
theorem dX6_statement_13 : decode cX6_statement 13 = .ok (.iaload, 1) := by decide +kernel
theorem dX6_statement_14 : decode cX6_statement 14 = .ok (.istore_n 3, 1) := by decide +kernel
theorem dX6_statement_15 : decode cX6_statement 15 = .ok (.aload_n 0, 1) := by decide +kernel
theorem dX6_statement_16 : decode cX6_statement 16 = .ok (.getfield 13, 3) := by decide +kernel
theorem dX6_statement_19 : decode cX6_statement 19 = .ok (.iload_n 1, 1) := by decide +kernel
theorem dX6_statement_20 : decode cX6_statement 20 = .ok (.iaload, 1) := by decide +kernel
theorem dX6_statement_21 : decode cX6_statement 21 = .ok (.tableswitch 144 1 5 #[35, 81, 90, 108, 126], 35) := by decide +kernel
theorem dX6_statement_56 : decode cX6_statement 56 = .ok (.aload_n 0, 1) := by decide +kernel
theorem dX6_statement_57 : decode cX6_statement 57 = .ok (.iload_n 1, 1) := by decide +kernel
theorem dX6_statement_58 : decode cX6_statement 58 = .ok (.iload_n 2, 1) := by decide +kernel
theorem dX6_statement_59 : decode cX6_statement 59 = .ok (.invokevirtual 283, 3) := by decide +kernel
theorem dX6_statement_62 : decode cX6_statement 62 = .ok (.istore 4, 2) := by decide +kernel
theorem dX6_statement_64 : decode cX6_statement 64 = .ok (.iload 4, 2) := by decide +kernel
theorem dX6_statement_66 : decode cX6_statement 66 = .ok (.ifCond .ge 9, 3) := by decide +kernel
theorem dX6_statement_69 : decode cX6_statement 69 = .ok (.aload_n 0, 1) := by decide +kernel
theorem dX6_statement_70 : decode cX6_statement 70 = .ok (.iconst 2, 1) := by decide +kernel
theorem dX6_statement_71 : decode cX6_statement 71 = .ok (.putfield 236, 3) := by decide +kernel
theorem dX6_statement_74 : decode cX6_statement 74 = .ok (.return_, 1) := by decide +kernel
theorem dX6_statement_75 : decode cX6_statement 75 = .ok (.aload_n 0, 1) := by decide +kernel
theorem dX6_statement_76 : decode cX6_statement 76 = .ok (.iconst 1, 1) := by decide +kernel
theorem dX6_statement_77 : decode cX6_statement 77 = .ok (.iload 4, 2) := by decide +kernel
theorem dX6_statement_79 : decode cX6_statement 79 = .ok (.sipush 1023, 3) := by decide +kernel
theorem dX6_statement_82 : decode cX6_statement 82 = .ok (.iand, 1) := by decide +kernel
theorem dX6_statement_83 : decode cX6_statement 83 = .ok (.iload 4, 2) := by decide +kernel
theorem dX6_statement_85 : decode cX6_statement 85 = .ok (.bipush 10, 2) := by decide +kernel
theorem dX6_statement_87 : decode cX6_statement 87 = .ok (.ishr, 1) := by decide +kernel
theorem dX6_statement_88 : decode cX6_statement 88 = .ok (.invokevirtual 276, 3) := by decide +kernel
theorem dX6_statement_91 : decode cX6_statement 91 = .ok (.aload_n 0, 1) := by decide +kernel
theorem dX6_statement_92 : decode cX6_statement 92 = .ok (.bipush 8, 2) := by decide +kernel
theorem dX6_statement_94 : decode cX6_statement 94 = .ok (.iload_n 3, 1) := by decide +kernel
theorem dX6_statement_95 : decode cX6_statement 95 = .ok (.iload_n 2, 1) := by decide +kernel
theorem dX6_statement_96 : decode cX6_statement 96 = .ok (.invokevirtual 276, 3) := by decide +kernel
theorem dX6_statement_99 : decode cX6_statement 99 = .ok (.goto 103, 3) := by decide +kernel
theorem dX6_statement_102 : decode cX6_statement 102 = .ok (.aload_n 0, 1) := by decide +kernel
theorem dX6_statement_103 : decode cX6_statement 103 = .ok (.iload_n 1, 1) := by decide +kernel
theorem dX6_statement_104 : decode cX6_statement 104 = .ok (.iload_n 2, 1) := by decide +kernel
theorem dX6_statement_105 : decode cX6_statement 105 = .ok (.invokevirtual 286, 3) := by decide +kernel
theorem dX6_statement_108 : decode cX6_statement 108 = .ok (.goto 94, 3) := by decide +kernel
theorem dX6_statement_111 : decode cX6_statement 111 = .ok (.aload_n 0, 1) := by decide +kernel
theorem dX6_statement_112 : decode cX6_statement 112 = .ok (.iconst 2, 1) := by decide +kernel
theorem dX6_statement_113 : decode cX6_statement 113 = .ok (.iconst 0, 1) := by decide +kernel
theorem dX6_statement_114 : decode cX6_statement 114 = .ok (.iconst 0, 1) := by decide +kernel
theorem dX6_statement_115 : decode cX6_statement 115 = .ok (.invokevirtual 276, 3) := by decide +kernel
theorem dX6_statement_118 : decode cX6_statement 118 = .ok (.aload_n 0, 1) := by decide +kernel
theorem dX6_statement_119 : decode cX6_statement 119 = .ok (.bipush 8, 2) := by decide +kernel
theorem dX6_statement_121 : decode cX6_statement 121 = .ok (.iload_n 3, 1) := by decide +kernel
theorem dX6_statement_122 : decode cX6_statement 122 = .ok (.iload_n 2, 1) := by decide +kernel
theorem dX6_statement_123 : decode cX6_statement 123 = .ok (.invokevirtual 276, 3) := by decide +kernel
theorem dX6_statement_126 : decode cX6_statement 126 = .ok (.goto 76, 3) := by decide +kernel
theorem dX6_statement_129 : decode cX6_statement 129 = .ok (.aload_n 0, 1) := by decide +kernel
theorem dX6_statement_130 : decode cX6_statement 130 = .ok (.iconst 3, 1) := by decide +kernel
theorem dX6_statement_131 : decode cX6_statement 131 = .ok (.iload_n 1, 1) := by decide +kernel
theorem dX6_statement_132 : decode cX6_statement 132 = .ok (.iload_n 2, 1) := by decide +kernel
theorem dX6_statement_133 : decode cX6_statement 133 = .ok (.invokevirtual 276, 3) := by decide +kernel
theorem dX6_statement_136 : decode cX6_statement 136 = .ok (.aload_n 0, 1) := by decide +kernel
theorem dX6_statement_137 : decode cX6_statement 137 = .ok (.bipush 8, 2) := by decide +kernel
theorem dX6_statement_139 : decode cX6_statement 139 = .ok (.iload_n 3, 1) := by decide +kernel
theorem dX6_statement_140 : decode cX6_statement 140 = .ok (.iload_n 2, 1) := by decide +kernel
theorem dX6_statement_141 : decode cX6_statement 141 = .ok (.invokevirtual 276, 3) := by decide +kernel
theorem dX6_statement_144 : decode cX6_statement 144 = .ok (.goto 58, 3) := by decide +kernel
theorem dX6_statement_147 : decode cX6_statement 147 = .ok (.aload_n 0, 1) := by decide +kernel
theorem dX6_statement_148 : decode cX6_statement 148 = .ok (.iconst 4, 1) := by decide +kernel
theorem dX6_statement_149 : decode cX6_statement 149 = .ok (.iload_n 1, 1) := by decide +kernel
theorem dX6_statement_150 : decode cX6_statement 150 = .ok (.iload_n 2, 1) := by decide +kernel
theorem dX6_statement_151 : decode cX6_statement 151 = .ok (.invokevirtual 276, 3) := by decide +kernel
theorem dX6_statement_154 : decode cX6_statement 154 = .ok (.aload_n 0, 1) := by decide +kernel
theorem dX6_statement_155 : decode cX6_statement 155 = .ok (.bipush 8, 2) := by decide +kernel
theorem dX6_statement_157 : decode cX6_statement 157 = .ok (.iload_n 3, 1) := by decide +kernel
theorem dX6_statement_158 : decode cX6_statement 158 = .ok (.iload_n 2, 1) := by decide +kernel
theorem dX6_statement_159 : decode cX6_statement 159 = .ok (.invokevirtual 276, 3) := by decide +kernel
theorem dX6_statement_162 : decode cX6_statement 162 = .ok (.goto 40, 3) := by decide +kernel
theorem dX6_statement_165 : decode cX6_statement 165 = .ok (.aload_n 0, 1) := by decide +kernel
theorem dX6_statement_166 : decode cX6_statement 166 = .ok (.iload_n 2, 1) := by decide +kernel
theorem dX6_statement_167 : decode cX6_statement 167 = .ok (.iconst (-1), 1) := by decide +kernel
theorem dX6_statement_168 : decode cX6_statement 168 = .ok (.aload_n 0, 1) := by decide +kernel
theorem dX6_statement_169 : decode cX6_statement 169 = .ok (.getfield 22, 3) := by decide +kernel
theorem dX6_statement_172 : decode cX6_statement 172 = .ok (.iload_n 1, 1) := by decide +kernel
theorem dX6_statement_173 : decode cX6_statement 173 = .ok (.iaload, 1) := by decide +kernel
theorem dX6_statement_174 : decode cX6_statement 174 = .ok (.iconst 0, 1) := by decide +kernel
theorem dX6_statement_175 : decode cX6_statement 175 = .ok (.invokevirtual 269, 3) := by decide +kernel
theorem dX6_statement_178 : decode cX6_statement 178 = .ok (.istore 5, 2) := by decide +kernel
theorem dX6_statement_180 : decode cX6_statement 180 = .ok (.aload_n 0, 1) := by decide +kernel
theorem dX6_statement_181 : decode cX6_statement 181 = .ok (.bipush 6, 2) := by decide +kernel
theorem dX6_statement_183 : decode cX6_statement 183 = .ok (.iconst 0, 1) := by decide +kernel
theorem dX6_statement_184 : decode cX6_statement 184 = .ok (.iload 5, 2) := by decide +kernel
theorem dX6_statement_186 : decode cX6_statement 186 = .ok (.invokevirtual 276, 3) := by decide +kernel
theorem dX6_statement_189 : decode cX6_statement 189 = .ok (.iload_n 3, 1) := by decide +kernel
theorem dX6_statement_190 : decode cX6_statement 190 = .ok (.ifCond .le 12, 3) := by decide +kernel
theorem dX6_statement_193 : decode cX6_statement 193 = .ok (.aload_n 0, 1) := by decide +kernel
theorem dX6_statement_194 : decode cX6_statement 194 = .ok (.bipush 7, 2) := by decide +kernel
theorem dX6_statement_196 : decode cX6_statement 196 = .ok (.iload_n 3, 1) := by decide +kernel
theorem dX6_statement_197 : decode cX6_statement 197 = .ok (.iload 5, 2) := by decide +kernel
theorem dX6_statement_199 : decode cX6_statement 199 = .ok (.invokevirtual 276, 3) := by decide +kernel
theorem dX6_statement_202 : decode cX6_statement 202 = .ok (.return_, 1) := by decide +kernel
theorem dX6_evaluate_0 : decode cX6_evaluate 0 = .ok (.aload_n 0, 1) := by decide +kernel
theorem dX6_evaluate_1 : decode cX6_evaluate 1 = .ok (.getfield 13, 3) := by decide +kernel
theorem dX6_evaluate_4 : decode cX6_evaluate 4 = .ok (.iload_n 1, 1) := by decide +kernel
theorem dX6_evaluate_5 : decode cX6_evaluate 5 = .ok (.iaload, 1) := by decide +kernel
theorem dX6_evaluate_6 : decode cX6_evaluate 6 = .ok (.istore_n 3, 1) := by decide +kernel
theorem dX6_evaluate_7 : decode cX6_evaluate 7 = .ok (.iload_n 3, 1) := by decide +kernel
theorem dX6_evaluate_8 : decode cX6_evaluate 8 = .ok (.bipush 7, 2) := by decide +kernel
theorem dX6_evaluate_10 : decode cX6_evaluate 10 = .ok (.if_icmp .ne 23, 3) := by decide +kernel
theorem dX6_evaluate_13 : decode cX6_evaluate 13 = .ok (.aload_n 0, 1) := by decide +kernel
theorem dX6_evaluate_14 : decode cX6_evaluate 14 = .ok (.invokevirtual 279, 3) := by decide +kernel
theorem dX6_evaluate_17 : decode cX6_evaluate 17 = .ok (.ifCond .eq 198, 3) := by decide +kernel
theorem dX6_evaluate_20 : decode cX6_evaluate 20 = .ok (.aload_n 0, 1) := by decide +kernel
theorem dX6_evaluate_21 : decode cX6_evaluate 21 = .ok (.aload_n 0, 1) := by decide +kernel
theorem dX6_evaluate_22 : decode cX6_evaluate 22 = .ok (.getfield 22, 3) := by decide +kernel
theorem dX6_evaluate_25 : decode cX6_evaluate 25 = .ok (.iload_n 1, 1) := by decide +kernel
theorem dX6_evaluate_26 : decode cX6_evaluate 26 = .ok (.iaload, 1) := by decide +kernel
theorem dX6_evaluate_27 : decode cX6_evaluate 27 = .ok (.putfield 289, 3) := by decide +kernel
theorem dX6_evaluate_30 : decode cX6_evaluate 30 = .ok (.goto 185, 3) := by decide +kernel
theorem dX6_evaluate_33 : decode cX6_evaluate 33 = .ok (.iload_n 3, 1) := by decide +kernel
theorem dX6_evaluate_34 : decode cX6_evaluate 34 = .ok (.bipush 8, 2) := by decide +kernel
theorem dX6_evaluate_36 : decode cX6_evaluate 36 = .ok (.if_icmp .ne 61, 3) := by decide +kernel
theorem dX6_evaluate_39 : decode cX6_evaluate 39 = .ok (.aload_n 0, 1) := by decide +kernel
theorem dX6_evaluate_40 : decode cX6_evaluate 40 = .ok (.getfield 22, 3) := by decide +kernel
theorem dX6_evaluate_43 : decode cX6_evaluate 43 = .ok (.iload_n 1, 1) := by decide +kernel
theorem dX6_evaluate_44 : decode cX6_evaluate 44 = .ok (.iaload, 1) := by decide +kernel
theorem dX6_evaluate_45 : decode cX6_evaluate 45 = .ok (.iconst 4, 1) := by decide +kernel
theorem dX6_evaluate_46 : decode cX6_evaluate 46 = .ok (.if_icmp .ne 51, 3) := by decide +kernel
theorem dX6_evaluate_49 : decode cX6_evaluate 49 = .ok (.aload_n 0, 1) := by decide +kernel
theorem dX6_evaluate_50 : decode cX6_evaluate 50 = .ok (.getfield 82, 3) := by decide +kernel
theorem dX6_evaluate_53 : decode cX6_evaluate 53 = .ok (.aload_n 0, 1) := by decide +kernel
theorem dX6_evaluate_54 : decode cX6_evaluate 54 = .ok (.iload_n 2, 1) := by decide +kernel
theorem dX6_evaluate_55 : decode cX6_evaluate 55 = .ok (.aload_n 0, 1) := by decide +kernel
theorem dX6_evaluate_56 : decode cX6_evaluate 56 = .ok (.getfield 28, 3) := by decide +kernel
theorem dX6_evaluate_59 : decode cX6_evaluate 59 = .ok (.iload_n 1, 1) := by decide +kernel
theorem dX6_evaluate_60 : decode cX6_evaluate 60 = .ok (.iaload, 1) := by decide +kernel
theorem dX6_evaluate_61 : decode cX6_evaluate 61 = .ok (.invokevirtual 251, 3) := by decide +kernel
theorem dX6_evaluate_64 : decode cX6_evaluate 64 = .ok (.iaload, 1) := by decide +kernel
theorem dX6_evaluate_65 : decode cX6_evaluate 65 = .ok (.aload_n 0, 1) := by decide +kernel
theorem dX6_evaluate_66 : decode cX6_evaluate 66 = .ok (.getfield 25, 3) := by decide +kernel
theorem dX6_evaluate_69 : decode cX6_evaluate 69 = .ok (.iload_n 1, 1) := by decide +kernel
theorem dX6_evaluate_70 : decode cX6_evaluate 70 = .ok (.iaload, 1) := by decide +kernel
theorem dX6_evaluate_71 : decode cX6_evaluate 71 = .ok (.iadd, 1) := by decide +kernel
theorem dX6_evaluate_72 : decode cX6_evaluate 72 = .ok (.istore 4, 2) := by decide +kernel
theorem dX6_evaluate_74 : decode cX6_evaluate 74 = .ok (.aload_n 0, 1) := by decide +kernel
theorem dX6_evaluate_75 : decode cX6_evaluate 75 = .ok (.bipush 8, 2) := by decide +kernel
theorem dX6_evaluate_77 : decode cX6_evaluate 77 = .ok (.aload_n 0, 1) := by decide +kernel
theorem dX6_evaluate_78 : decode cX6_evaluate 78 = .ok (.getfield 88, 3) := by decide +kernel
theorem dX6_evaluate_81 : decode cX6_evaluate 81 = .ok (.iload 4, 2) := by decide +kernel
theorem dX6_evaluate_83 : decode cX6_evaluate 83 = .ok (.iaload, 1) := by decide +kernel
theorem dX6_evaluate_84 : decode cX6_evaluate 84 = .ok (.aload_n 0, 1) := by decide +kernel
theorem dX6_evaluate_85 : decode cX6_evaluate 85 = .ok (.getfield 91, 3) := by decide +kernel
theorem dX6_evaluate_88 : decode cX6_evaluate 88 = .ok (.iload 4, 2) := by decide +kernel
theorem dX6_evaluate_90 : decode cX6_evaluate 90 = .ok (.iaload, 1) := by decide +kernel
theorem dX6_evaluate_91 : decode cX6_evaluate 91 = .ok (.invokevirtual 276, 3) := by decide +kernel
theorem dX6_evaluate_94 : decode cX6_evaluate 94 = .ok (.goto 121, 3) := by decide +kernel
theorem dX6_evaluate_97 : decode cX6_evaluate 97 = .ok (.iload_n 3, 1) := by decide +kernel
theorem dX6_evaluate_98 : decode cX6_evaluate 98 = .ok (.bipush 8, 2) := by decide +kernel
theorem dX6_evaluate_100 : decode cX6_evaluate 100 = .ok (.if_icmp .ne 55, 3) := by decide +kernel
theorem dX6_evaluate_103 : decode cX6_evaluate 103 = .ok (.aload_n 0, 1) := by decide +kernel
theorem dX6_evaluate_104 : decode cX6_evaluate 104 = .ok (.getfield 22, 3) := by decide +kernel
theorem dX6_evaluate_107 : decode cX6_evaluate 107 = .ok (.iload_n 1, 1) := by decide +kernel
theorem dX6_evaluate_108 : decode cX6_evaluate 108 = .ok (.iaload, 1) := by decide +kernel
theorem dX6_evaluate_109 : decode cX6_evaluate 109 = .ok (.iconst 2, 1) := by decide +kernel
theorem dX6_evaluate_110 : decode cX6_evaluate 110 = .ok (.if_icmp .eq 45, 3) := by decide +kernel
theorem dX6_evaluate_113 : decode cX6_evaluate 113 = .ok (.aload_n 0, 1) := by decide +kernel
theorem dX6_evaluate_114 : decode cX6_evaluate 114 = .ok (.invokevirtual 279, 3) := by decide +kernel
theorem dX6_evaluate_117 : decode cX6_evaluate 117 = .ok (.ifCond .eq 98, 3) := by decide +kernel
theorem dX6_evaluate_120 : decode cX6_evaluate 120 = .ok (.aload_n 0, 1) := by decide +kernel
theorem dX6_evaluate_121 : decode cX6_evaluate 121 = .ok (.aload_n 0, 1) := by decide +kernel
theorem dX6_evaluate_122 : decode cX6_evaluate 122 = .ok (.getfield 88, 3) := by decide +kernel
theorem dX6_evaluate_125 : decode cX6_evaluate 125 = .ok (.aload_n 0, 1) := by decide +kernel
theorem dX6_evaluate_126 : decode cX6_evaluate 126 = .ok (.getfield 82, 3) := by decide +kernel
theorem dX6_evaluate_129 : decode cX6_evaluate 129 = .ok (.aload_n 0, 1) := by decide +kernel
theorem dX6_evaluate_130 : decode cX6_evaluate 130 = .ok (.iload_n 2, 1) := by decide +kernel
theorem dX6_evaluate_131 : decode cX6_evaluate 131 = .ok (.aload_n 0, 1) := by decide +kernel
theorem dX6_evaluate_132 : decode cX6_evaluate 132 = .ok (.getfield 28, 3) := by decide +kernel
theorem dX6_evaluate_135 : decode cX6_evaluate 135 = .ok (.iload_n 1, 1) := by decide +kernel
theorem dX6_evaluate_136 : decode cX6_evaluate 136 = .ok (.iaload, 1) := by decide +kernel
theorem dX6_evaluate_137 : decode cX6_evaluate 137 = .ok (.invokevirtual 251, 3) := by decide +kernel
theorem dX6_evaluate_140 : decode cX6_evaluate 140 = .ok (.iaload, 1) := by decide +kernel
theorem dX6_evaluate_141 : decode cX6_evaluate 141 = .ok (.aload_n 0, 1) := by decide +kernel
theorem dX6_evaluate_142 : decode cX6_evaluate 142 = .ok (.getfield 25, 3) := by decide +kernel
theorem dX6_evaluate_145 : decode cX6_evaluate 145 = .ok (.iload_n 1, 1) := by decide +kernel
theorem dX6_evaluate_146 : decode cX6_evaluate 146 = .ok (.iaload, 1) := by decide +kernel
theorem dX6_evaluate_147 : decode cX6_evaluate 147 = .ok (.iadd, 1) := by decide +kernel
theorem dX6_evaluate_148 : decode cX6_evaluate 148 = .ok (.iaload, 1) := by decide +kernel
theorem dX6_evaluate_149 : decode cX6_evaluate 149 = .ok (.putfield 289, 3) := by decide +kernel
theorem dX6_evaluate_152 : decode cX6_evaluate 152 = .ok (.goto 63, 3) := by decide +kernel
theorem dX6_evaluate_155 : decode cX6_evaluate 155 = .ok (.iload_n 3, 1) := by decide +kernel
theorem dX6_evaluate_156 : decode cX6_evaluate 156 = .ok (.bipush 8, 2) := by decide +kernel
theorem dX6_evaluate_158 : decode cX6_evaluate 158 = .ok (.if_icmp .eq 9, 3) := by decide +kernel
theorem dX6_evaluate_161 : decode cX6_evaluate 161 = .ok (.iload_n 3, 1) := by decide +kernel
theorem dX6_evaluate_162 : decode cX6_evaluate 162 = .ok (.bipush 9, 2) := by decide +kernel
theorem dX6_evaluate_164 : decode cX6_evaluate 164 = .ok (.if_icmp .ne 19, 3) := by decide +kernel
theorem dX6_evaluate_167 : decode cX6_evaluate 167 = .ok (.aload_n 0, 1) := by decide +kernel
theorem dX6_evaluate_168 : decode cX6_evaluate 168 = .ok (.invokevirtual 279, 3) := by decide +kernel
theorem dX6_evaluate_171 : decode cX6_evaluate 171 = .ok (.ifCond .eq 44, 3) := by decide +kernel
theorem dX6_evaluate_174 : decode cX6_evaluate 174 = .ok (.aload_n 0, 1) := by decide +kernel
theorem dX6_evaluate_175 : decode cX6_evaluate 175 = .ok (.iload_n 1, 1) := by decide +kernel
theorem dX6_evaluate_176 : decode cX6_evaluate 176 = .ok (.iload_n 2, 1) := by decide +kernel
theorem dX6_evaluate_177 : decode cX6_evaluate 177 = .ok (.invokevirtual 286, 3) := by decide +kernel
theorem dX6_evaluate_180 : decode cX6_evaluate 180 = .ok (.goto 35, 3) := by decide +kernel
theorem dX6_evaluate_183 : decode cX6_evaluate 183 = .ok (.iload_n 3, 1) := by decide +kernel
theorem dX6_evaluate_184 : decode cX6_evaluate 184 = .ok (.bipush 13, 2) := by decide +kernel
theorem dX6_evaluate_186 : decode cX6_evaluate 186 = .ok (.if_icmp .eq 16, 3) := by decide +kernel
theorem dX6_evaluate_189 : decode cX6_evaluate 189 = .ok (.aload_n 0, 1) := by decide +kernel
theorem dX6_evaluate_190 : decode cX6_evaluate 190 = .ok (.bipush 9, 2) := by decide +kernel
theorem dX6_evaluate_192 : decode cX6_evaluate 192 = .ok (.aload_n 0, 1) := by decide +kernel
theorem dX6_evaluate_193 : decode cX6_evaluate 193 = .ok (.getfield 16, 3) := by decide +kernel
theorem dX6_evaluate_196 : decode cX6_evaluate 196 = .ok (.iload_n 1, 1) := by decide +kernel
theorem dX6_evaluate_197 : decode cX6_evaluate 197 = .ok (.iaload, 1) := by decide +kernel
theorem dX6_evaluate_198 : decode cX6_evaluate 198 = .ok (.iload_n 2, 1) := by decide +kernel
theorem dX6_evaluate_199 : decode cX6_evaluate 199 = .ok (.invokevirtual 276, 3) := by decide +kernel
theorem dX6_evaluate_202 : decode cX6_evaluate 202 = .ok (.aload_n 0, 1) := by decide +kernel
theorem dX6_evaluate_203 : decode cX6_evaluate 203 = .ok (.bipush 8, 2) := by decide +kernel
theorem dX6_evaluate_205 : decode cX6_evaluate 205 = .ok (.aload_n 0, 1) := by decide +kernel
theorem dX6_evaluate_206 : decode cX6_evaluate 206 = .ok (.getfield 16, 3) := by decide +kernel
theorem dX6_evaluate_209 : decode cX6_evaluate 209 = .ok (.iload_n 1, 1) := by decide +kernel
theorem dX6_evaluate_210 : decode cX6_evaluate 210 = .ok (.iaload, 1) := by decide +kernel
theorem dX6_evaluate_211 : decode cX6_evaluate 211 = .ok (.iload_n 2, 1) := by decide +kernel
theorem dX6_evaluate_212 : decode cX6_evaluate 212 = .ok (.invokevirtual 276, 3) := by decide +kernel
theorem dX6_evaluate_215 : decode cX6_evaluate 215 = .ok (.return_, 1) := by decide +kernel
theorem dX6_operandDone_0 : decode cX6_operandDone 0 = .ok (.iload_n 3, 1) := by decide +kernel
theorem dX6_operandDone_1 : decode cX6_operandDone 1 = .ok (.ifCond .eq 97, 3) := by decide +kernel
theorem dX6_operandDone_4 : decode cX6_operandDone 4 = .ok (.aload_n 0, 1) := by decide +kernel
theorem dX6_operandDone_5 : decode cX6_operandDone 5 = .ok (.dup, 1) := by decide +kernel
theorem dX6_operandDone_6 : decode cX6_operandDone 6 = .ok (.getfield 292, 3) := by decide +kernel
theorem dX6_operandDone_9 : decode cX6_operandDone 9 = .ok (.iconst 1, 1) := by decide +kernel
theorem dX6_operandDone_10 : decode cX6_operandDone 10 = .ok (.isub, 1) := by decide +kernel
theorem dX6_operandDone_11 : decode cX6_operandDone 11 = .ok (.putfield 292, 3) := by decide +kernel
theorem dX6_operandDone_14 : decode cX6_operandDone 14 = .ok (.aload_n 0, 1) := by decide +kernel
theorem dX6_operandDone_15 : decode cX6_operandDone 15 = .ok (.getfield 94, 3) := by decide +kernel
theorem dX6_operandDone_18 : decode cX6_operandDone 18 = .ok (.aload_n 0, 1) := by decide +kernel
theorem dX6_operandDone_19 : decode cX6_operandDone 19 = .ok (.getfield 292, 3) := by decide +kernel
theorem dX6_operandDone_22 : decode cX6_operandDone 22 = .ok (.iaload, 1) := by decide +kernel
theorem dX6_operandDone_23 : decode cX6_operandDone 23 = .ok (.istore 4, 2) := by decide +kernel
theorem dX6_operandDone_25 : decode cX6_operandDone 25 = .ok (.aload_n 0, 1) := by decide +kernel
theorem dX6_operandDone_26 : decode cX6_operandDone 26 = .ok (.getfield 31, 3) := by decide +kernel
theorem dX6_operandDone_29 : decode cX6_operandDone 29 = .ok (.iload_n 1, 1) := by decide +kernel
theorem dX6_operandDone_30 : decode cX6_operandDone 30 = .ok (.iaload, 1) := by decide +kernel
theorem dX6_operandDone_31 : decode cX6_operandDone 31 = .ok (.istore 5, 2) := by decide +kernel
theorem dX6_operandDone_33 : decode cX6_operandDone 33 = .ok (.aload_n 0, 1) := by decide +kernel
theorem dX6_operandDone_34 : decode cX6_operandDone 34 = .ok (.iload 5, 2) := by decide +kernel
theorem dX6_operandDone_36 : decode cX6_operandDone 36 = .ok (.ifCond .ne 13, 3) := by decide +kernel
theorem dX6_operandDone_39 : decode cX6_operandDone 39 = .ok (.iload 4, 2) := by decide +kernel
theorem dX6_operandDone_41 : decode cX6_operandDone 41 = .ok (.aload_n 0, 1) := by decide +kernel
theorem dX6_operandDone_42 : decode cX6_operandDone 42 = .ok (.getfield 289, 3) := by decide +kernel
theorem dX6_operandDone_45 : decode cX6_operandDone 45 = .ok (.iadd, 1) := by decide +kernel
theorem dX6_operandDone_46 : decode cX6_operandDone 46 = .ok (.goto 49, 3) := by decide +kernel
theorem dX6_operandDone_49 : decode cX6_operandDone 49 = .ok (.iload 5, 2) := by decide +kernel
theorem dX6_operandDone_51 : decode cX6_operandDone 51 = .ok (.iconst 1, 1) := by decide +kernel
theorem dX6_operandDone_52 : decode cX6_operandDone 52 = .ok (.if_icmp .ne 13, 3) := by decide +kernel
theorem dX6_operandDone_55 : decode cX6_operandDone 55 = .ok (.iload 4, 2) := by decide +kernel
theorem dX6_operandDone_57 : decode cX6_operandDone 57 = .ok (.aload_n 0, 1) := by decide +kernel
theorem dX6_operandDone_58 : decode cX6_operandDone 58 = .ok (.getfield 289, 3) := by decide +kernel
theorem dX6_operandDone_61 : decode cX6_operandDone 61 = .ok (.isub, 1) := by decide +kernel
theorem dX6_operandDone_62 : decode cX6_operandDone 62 = .ok (.goto 33, 3) := by decide +kernel
theorem dX6_operandDone_65 : decode cX6_operandDone 65 = .ok (.iload 5, 2) := by decide +kernel
theorem dX6_operandDone_67 : decode cX6_operandDone 67 = .ok (.iconst 2, 1) := by decide +kernel
theorem dX6_operandDone_68 : decode cX6_operandDone 68 = .ok (.if_icmp .ne 13, 3) := by decide +kernel
theorem dX6_operandDone_71 : decode cX6_operandDone 71 = .ok (.iload 4, 2) := by decide +kernel
theorem dX6_operandDone_73 : decode cX6_operandDone 73 = .ok (.aload_n 0, 1) := by decide +kernel
theorem dX6_operandDone_74 : decode cX6_operandDone 74 = .ok (.getfield 289, 3) := by decide +kernel
theorem dX6_operandDone_77 : decode cX6_operandDone 77 = .ok (.imul, 1) := by decide +kernel
theorem dX6_operandDone_78 : decode cX6_operandDone 78 = .ok (.goto 17, 3) := by decide +kernel
theorem dX6_operandDone_81 : decode cX6_operandDone 81 = .ok (.iload 4, 2) := by decide +kernel
theorem dX6_operandDone_83 : decode cX6_operandDone 83 = .ok (.aload_n 0, 1) := by decide +kernel
theorem dX6_operandDone_84 : decode cX6_operandDone 84 = .ok (.getfield 289, 3) := by decide +kernel
theorem dX6_operandDone_87 : decode cX6_operandDone 87 = .ok (.if_icmp .ge 7, 3) := by decide +kernel
theorem dX6_operandDone_90 : decode cX6_operandDone 90 = .ok (.iconst 1, 1) := by decide +kernel
theorem dX6_operandDone_91 : decode cX6_operandDone 91 = .ok (.goto 4, 3) := by decide +kernel
theorem dX6_operandDone_94 : decode cX6_operandDone 94 = .ok (.iconst 0, 1) := by decide +kernel
theorem dX6_operandDone_95 : decode cX6_operandDone 95 = .ok (.putfield 289, 3) := by decide +kernel
theorem dX6_operandDone_98 : decode cX6_operandDone 98 = .ok (.aload_n 0, 1) := by decide +kernel
theorem dX6_operandDone_99 : decode cX6_operandDone 99 = .ok (.getfield 19, 3) := by decide +kernel
theorem dX6_operandDone_102 : decode cX6_operandDone 102 = .ok (.iload_n 1, 1) := by decide +kernel
theorem dX6_operandDone_103 : decode cX6_operandDone 103 = .ok (.iaload, 1) := by decide +kernel
theorem dX6_operandDone_104 : decode cX6_operandDone 104 = .ok (.ifCond .ne 4, 3) := by decide +kernel
theorem dX6_operandDone_107 : decode cX6_operandDone 107 = .ok (.return_, 1) := by decide +kernel
theorem dX6_operandDone_108 : decode cX6_operandDone 108 = .ok (.aload_n 0, 1) := by decide +kernel
theorem dX6_operandDone_109 : decode cX6_operandDone 109 = .ok (.getfield 292, 3) := by decide +kernel
theorem dX6_operandDone_112 : decode cX6_operandDone 112 = .ok (.bipush 100, 2) := by decide +kernel
theorem dX6_operandDone_114 : decode cX6_operandDone 114 = .ok (.if_icmp .ne 10, 3) := by decide +kernel
theorem dX6_operandDone_117 : decode cX6_operandDone 117 = .ok (.aload_n 0, 1) := by decide +kernel
theorem dX6_operandDone_118 : decode cX6_operandDone 118 = .ok (.bipush 7, 2) := by decide +kernel
theorem dX6_operandDone_120 : decode cX6_operandDone 120 = .ok (.putfield 236, 3) := by decide +kernel
theorem dX6_operandDone_123 : decode cX6_operandDone 123 = .ok (.return_, 1) := by decide +kernel
theorem dX6_operandDone_124 : decode cX6_operandDone 124 = .ok (.aload_n 0, 1) := by decide +kernel
theorem dX6_operandDone_125 : decode cX6_operandDone 125 = .ok (.getfield 94, 3) := by decide +kernel
theorem dX6_operandDone_128 : decode cX6_operandDone 128 = .ok (.aload_n 0, 1) := by decide +kernel
theorem dX6_operandDone_129 : decode cX6_operandDone 129 = .ok (.getfield 292, 3) := by decide +kernel
theorem dX6_operandDone_132 : decode cX6_operandDone 132 = .ok (.aload_n 0, 1) := by decide +kernel
theorem dX6_operandDone_133 : decode cX6_operandDone 133 = .ok (.getfield 289, 3) := by decide +kernel
theorem dX6_operandDone_136 : decode cX6_operandDone 136 = .ok (.iastore, 1) := by decide +kernel
theorem dX6_operandDone_137 : decode cX6_operandDone 137 = .ok (.aload_n 0, 1) := by decide +kernel
theorem dX6_operandDone_138 : decode cX6_operandDone 138 = .ok (.dup, 1) := by decide +kernel
theorem dX6_operandDone_139 : decode cX6_operandDone 139 = .ok (.getfield 292, 3) := by decide +kernel
theorem dX6_operandDone_142 : decode cX6_operandDone 142 = .ok (.iconst 1, 1) := by decide +kernel
theorem dX6_operandDone_143 : decode cX6_operandDone 143 = .ok (.iadd, 1) := by decide +kernel
theorem dX6_operandDone_144 : decode cX6_operandDone 144 = .ok (.putfield 292, 3) := by decide +kernel
theorem dX6_operandDone_147 : decode cX6_operandDone 147 = .ok (.aload_n 0, 1) := by decide +kernel
theorem dX6_operandDone_148 : decode cX6_operandDone 148 = .ok (.bipush 10, 2) := by decide +kernel
theorem dX6_operandDone_150 : decode cX6_operandDone 150 = .ok (.aload_n 0, 1) := by decide +kernel
theorem dX6_operandDone_151 : decode cX6_operandDone 151 = .ok (.getfield 19, 3) := by decide +kernel
theorem dX6_operandDone_154 : decode cX6_operandDone 154 = .ok (.iload_n 1, 1) := by decide +kernel
theorem dX6_operandDone_155 : decode cX6_operandDone 155 = .ok (.iaload, 1) := by decide +kernel
theorem dX6_operandDone_156 : decode cX6_operandDone 156 = .ok (.iload_n 2, 1) := by decide +kernel
theorem dX6_operandDone_157 : decode cX6_operandDone 157 = .ok (.invokevirtual 276, 3) := by decide +kernel
theorem dX6_operandDone_160 : decode cX6_operandDone 160 = .ok (.aload_n 0, 1) := by decide +kernel
theorem dX6_operandDone_161 : decode cX6_operandDone 161 = .ok (.bipush 8, 2) := by decide +kernel
theorem dX6_operandDone_163 : decode cX6_operandDone 163 = .ok (.aload_n 0, 1) := by decide +kernel
theorem dX6_operandDone_164 : decode cX6_operandDone 164 = .ok (.getfield 19, 3) := by decide +kernel
theorem dX6_operandDone_167 : decode cX6_operandDone 167 = .ok (.iload_n 1, 1) := by decide +kernel
theorem dX6_operandDone_168 : decode cX6_operandDone 168 = .ok (.iaload, 1) := by decide +kernel
theorem dX6_operandDone_169 : decode cX6_operandDone 169 = .ok (.iload_n 2, 1) := by decide +kernel
theorem dX6_operandDone_170 : decode cX6_operandDone 170 = .ok (.invokevirtual 276, 3) := by decide +kernel
theorem dX6_operandDone_173 : decode cX6_operandDone 173 = .ok (.return_, 1) := by decide +kernel
theorem dX6_perform_0 : decode cX6_perform 0 = .ok (.iload_n 1, 1) := by decide +kernel
theorem dX6_perform_1 : decode cX6_perform 1 = .ok (.tableswitch 354 0 12 #[67, 76, 95, 139, 180, 214, 237, 255, 287, 296, 306, 354, 316], 67) := by decide +kernel
theorem dX6_perform_68 : decode cX6_perform 68 = .ok (.aload_n 0, 1) := by decide +kernel
theorem dX6_perform_69 : decode cX6_perform 69 = .ok (.iload_n 2, 1) := by decide +kernel
theorem dX6_perform_70 : decode cX6_perform 70 = .ok (.iload_n 3, 1) := by decide +kernel
theorem dX6_perform_71 : decode cX6_perform 71 = .ok (.invokevirtual 295, 3) := by decide +kernel
theorem dX6_perform_74 : decode cX6_perform 74 = .ok (.goto 321, 3) := by decide +kernel
theorem dX6_perform_77 : decode cX6_perform 77 = .ok (.aload_n 0, 1) := by decide +kernel
theorem dX6_perform_78 : decode cX6_perform 78 = .ok (.getfield 88, 3) := by decide +kernel
theorem dX6_perform_81 : decode cX6_perform 81 = .ok (.iload_n 2, 1) := by decide +kernel
theorem dX6_perform_82 : decode cX6_perform 82 = .ok (.sipush 1024, 3) := by decide +kernel
theorem dX6_perform_85 : decode cX6_perform 85 = .ok (.iload_n 3, 1) := by decide +kernel
theorem dX6_perform_86 : decode cX6_perform 86 = .ok (.imul, 1) := by decide +kernel
theorem dX6_perform_87 : decode cX6_perform 87 = .ok (.iadd, 1) := by decide +kernel
theorem dX6_perform_88 : decode cX6_perform 88 = .ok (.aload_n 0, 1) := by decide +kernel
theorem dX6_perform_89 : decode cX6_perform 89 = .ok (.getfield 289, 3) := by decide +kernel
theorem dX6_perform_92 : decode cX6_perform 92 = .ok (.iastore, 1) := by decide +kernel
theorem dX6_perform_93 : decode cX6_perform 93 = .ok (.goto 302, 3) := by decide +kernel
theorem dX6_perform_96 : decode cX6_perform 96 = .ok (.aload_n 0, 1) := by decide +kernel
theorem dX6_perform_97 : decode cX6_perform 97 = .ok (.getfield 298, 3) := by decide +kernel
theorem dX6_perform_100 : decode cX6_perform 100 = .ok (.bipush 32, 2) := by decide +kernel
theorem dX6_perform_102 : decode cX6_perform 102 = .ok (.if_icmp .ne 12, 3) := by decide +kernel
theorem dX6_perform_105 : decode cX6_perform 105 = .ok (.aload_n 0, 1) := by decide +kernel
theorem dX6_perform_106 : decode cX6_perform 106 = .ok (.bipush 6, 2) := by decide +kernel
theorem dX6_perform_108 : decode cX6_perform 108 = .ok (.putfield 236, 3) := by decide +kernel
theorem dX6_perform_111 : decode cX6_perform 111 = .ok (.goto 284, 3) := by decide +kernel
theorem dX6_perform_114 : decode cX6_perform 114 = .ok (.aload_n 0, 1) := by decide +kernel
theorem dX6_perform_115 : decode cX6_perform 115 = .ok (.getfield 97, 3) := by decide +kernel
theorem dX6_perform_118 : decode cX6_perform 118 = .ok (.aload_n 0, 1) := by decide +kernel
theorem dX6_perform_119 : decode cX6_perform 119 = .ok (.getfield 298, 3) := by decide +kernel
theorem dX6_perform_122 : decode cX6_perform 122 = .ok (.aload_n 0, 1) := by decide +kernel
theorem dX6_perform_123 : decode cX6_perform 123 = .ok (.getfield 289, 3) := by decide +kernel
theorem dX6_perform_126 : decode cX6_perform 126 = .ok (.iastore, 1) := by decide +kernel
theorem dX6_perform_127 : decode cX6_perform 127 = .ok (.aload_n 0, 1) := by decide +kernel
theorem dX6_perform_128 : decode cX6_perform 128 = .ok (.dup, 1) := by decide +kernel
theorem dX6_perform_129 : decode cX6_perform 129 = .ok (.getfield 298, 3) := by decide +kernel
theorem dX6_perform_132 : decode cX6_perform 132 = .ok (.iconst 1, 1) := by decide +kernel
theorem dX6_perform_133 : decode cX6_perform 133 = .ok (.iadd, 1) := by decide +kernel
theorem dX6_perform_134 : decode cX6_perform 134 = .ok (.putfield 298, 3) := by decide +kernel
theorem dX6_perform_137 : decode cX6_perform 137 = .ok (.goto 258, 3) := by decide +kernel
theorem dX6_perform_140 : decode cX6_perform 140 = .ok (.aload_n 0, 1) := by decide +kernel
theorem dX6_perform_141 : decode cX6_perform 141 = .ok (.getfield 19, 3) := by decide +kernel
theorem dX6_perform_144 : decode cX6_perform 144 = .ok (.aload_n 0, 1) := by decide +kernel
theorem dX6_perform_145 : decode cX6_perform 145 = .ok (.getfield 16, 3) := by decide +kernel
theorem dX6_perform_148 : decode cX6_perform 148 = .ok (.iload_n 2, 1) := by decide +kernel
theorem dX6_perform_149 : decode cX6_perform 149 = .ok (.iaload, 1) := by decide +kernel
theorem dX6_perform_150 : decode cX6_perform 150 = .ok (.iaload, 1) := by decide +kernel
theorem dX6_perform_151 : decode cX6_perform 151 = .ok (.istore 4, 2) := by decide +kernel
theorem dX6_perform_153 : decode cX6_perform 153 = .ok (.aload_n 0, 1) := by decide +kernel
theorem dX6_perform_154 : decode cX6_perform 154 = .ok (.iconst 0, 1) := by decide +kernel
theorem dX6_perform_155 : decode cX6_perform 155 = .ok (.aload_n 0, 1) := by decide +kernel
theorem dX6_perform_156 : decode cX6_perform 156 = .ok (.getfield 289, 3) := by decide +kernel
theorem dX6_perform_159 : decode cX6_perform 159 = .ok (.ifCond .eq 8, 3) := by decide +kernel
theorem dX6_perform_162 : decode cX6_perform 162 = .ok (.iload 4, 2) := by decide +kernel
theorem dX6_perform_164 : decode cX6_perform 164 = .ok (.goto 10, 3) := by decide +kernel
theorem dX6_perform_167 : decode cX6_perform 167 = .ok (.aload_n 0, 1) := by decide +kernel
theorem dX6_perform_168 : decode cX6_perform 168 = .ok (.getfield 19, 3) := by decide +kernel
theorem dX6_perform_171 : decode cX6_perform 171 = .ok (.iload 4, 2) := by decide +kernel
theorem dX6_perform_173 : decode cX6_perform 173 = .ok (.iaload, 1) := by decide +kernel
theorem dX6_perform_174 : decode cX6_perform 174 = .ok (.iload_n 3, 1) := by decide +kernel
theorem dX6_perform_175 : decode cX6_perform 175 = .ok (.invokevirtual 276, 3) := by decide +kernel
theorem dX6_perform_178 : decode cX6_perform 178 = .ok (.goto 217, 3) := by decide +kernel
theorem dX6_perform_181 : decode cX6_perform 181 = .ok (.aload_n 0, 1) := by decide +kernel
theorem dX6_perform_182 : decode cX6_perform 182 = .ok (.getfield 289, 3) := by decide +kernel
theorem dX6_perform_185 : decode cX6_perform 185 = .ok (.ifCond .eq 210, 3) := by decide +kernel
theorem dX6_perform_188 : decode cX6_perform 188 = .ok (.aload_n 0, 1) := by decide +kernel
theorem dX6_perform_189 : decode cX6_perform 189 = .ok (.iconst 5, 1) := by decide +kernel
theorem dX6_perform_190 : decode cX6_perform 190 = .ok (.iload_n 2, 1) := by decide +kernel
theorem dX6_perform_191 : decode cX6_perform 191 = .ok (.iload_n 3, 1) := by decide +kernel
theorem dX6_perform_192 : decode cX6_perform 192 = .ok (.invokevirtual 276, 3) := by decide +kernel
theorem dX6_perform_195 : decode cX6_perform 195 = .ok (.aload_n 0, 1) := by decide +kernel
theorem dX6_perform_196 : decode cX6_perform 196 = .ok (.iconst 0, 1) := by decide +kernel
theorem dX6_perform_197 : decode cX6_perform 197 = .ok (.aload_n 0, 1) := by decide +kernel
theorem dX6_perform_198 : decode cX6_perform 198 = .ok (.getfield 19, 3) := by decide +kernel
theorem dX6_perform_201 : decode cX6_perform 201 = .ok (.aload_n 0, 1) := by decide +kernel
theorem dX6_perform_202 : decode cX6_perform 202 = .ok (.getfield 16, 3) := by decide +kernel
theorem dX6_perform_205 : decode cX6_perform 205 = .ok (.iload_n 2, 1) := by decide +kernel
theorem dX6_perform_206 : decode cX6_perform 206 = .ok (.iaload, 1) := by decide +kernel
theorem dX6_perform_207 : decode cX6_perform 207 = .ok (.iaload, 1) := by decide +kernel
theorem dX6_perform_208 : decode cX6_perform 208 = .ok (.iload_n 3, 1) := by decide +kernel
theorem dX6_perform_209 : decode cX6_perform 209 = .ok (.invokevirtual 276, 3) := by decide +kernel
theorem dX6_perform_212 : decode cX6_perform 212 = .ok (.goto 183, 3) := by decide +kernel
theorem dX6_perform_215 : decode cX6_perform 215 = .ok (.aload_n 0, 1) := by decide +kernel
theorem dX6_perform_216 : decode cX6_perform 216 = .ok (.iconst 4, 1) := by decide +kernel
theorem dX6_perform_217 : decode cX6_perform 217 = .ok (.iload_n 2, 1) := by decide +kernel
theorem dX6_perform_218 : decode cX6_perform 218 = .ok (.iload_n 3, 1) := by decide +kernel
theorem dX6_perform_219 : decode cX6_perform 219 = .ok (.invokevirtual 276, 3) := by decide +kernel
theorem dX6_perform_222 : decode cX6_perform 222 = .ok (.aload_n 0, 1) := by decide +kernel
theorem dX6_perform_223 : decode cX6_perform 223 = .ok (.bipush 8, 2) := by decide +kernel
theorem dX6_perform_225 : decode cX6_perform 225 = .ok (.aload_n 0, 1) := by decide +kernel
theorem dX6_perform_226 : decode cX6_perform 226 = .ok (.getfield 16, 3) := by decide +kernel
theorem dX6_perform_229 : decode cX6_perform 229 = .ok (.iload_n 2, 1) := by decide +kernel
theorem dX6_perform_230 : decode cX6_perform 230 = .ok (.iaload, 1) := by decide +kernel
theorem dX6_perform_231 : decode cX6_perform 231 = .ok (.iload_n 3, 1) := by decide +kernel
theorem dX6_perform_232 : decode cX6_perform 232 = .ok (.invokevirtual 276, 3) := by decide +kernel
theorem dX6_perform_235 : decode cX6_perform 235 = .ok (.goto 160, 3) := by decide +kernel
theorem dX6_perform_238 : decode cX6_perform 238 = .ok (.aload_n 0, 1) := by decide +kernel
theorem dX6_perform_239 : decode cX6_perform 239 = .ok (.iload_n 3, 1) := by decide +kernel
theorem dX6_perform_240 : decode cX6_perform 240 = .ok (.putfield 239, 3) := by decide +kernel
theorem dX6_perform_243 : decode cX6_perform 243 = .ok (.aload_n 0, 1) := by decide +kernel
theorem dX6_perform_244 : decode cX6_perform 244 = .ok (.aload_n 0, 1) := by decide +kernel
theorem dX6_perform_245 : decode cX6_perform 245 = .ok (.getfield 82, 3) := by decide +kernel
theorem dX6_perform_248 : decode cX6_perform 248 = .ok (.iload_n 3, 1) := by decide +kernel
theorem dX6_perform_249 : decode cX6_perform 249 = .ok (.iaload, 1) := by decide +kernel
theorem dX6_perform_250 : decode cX6_perform 250 = .ok (.putfield 242, 3) := by decide +kernel
theorem dX6_perform_253 : decode cX6_perform 253 = .ok (.goto 142, 3) := by decide +kernel
theorem dX6_perform_256 : decode cX6_perform 256 = .ok (.aload_n 0, 1) := by decide +kernel
theorem dX6_perform_257 : decode cX6_perform 257 = .ok (.getfield 19, 3) := by decide +kernel
theorem dX6_perform_260 : decode cX6_perform 260 = .ok (.iload_n 2, 1) := by decide +kernel
theorem dX6_perform_261 : decode cX6_perform 261 = .ok (.iaload, 1) := by decide +kernel
theorem dX6_perform_262 : decode cX6_perform 262 = .ok (.ifCond .le 16, 3) := by decide +kernel
theorem dX6_perform_265 : decode cX6_perform 265 = .ok (.aload_n 0, 1) := by decide +kernel
theorem dX6_perform_266 : decode cX6_perform 266 = .ok (.bipush 7, 2) := by decide +kernel
theorem dX6_perform_268 : decode cX6_perform 268 = .ok (.aload_n 0, 1) := by decide +kernel
theorem dX6_perform_269 : decode cX6_perform 269 = .ok (.getfield 19, 3) := by decide +kernel
theorem dX6_perform_272 : decode cX6_perform 272 = .ok (.iload_n 2, 1) := by decide +kernel
theorem dX6_perform_273 : decode cX6_perform 273 = .ok (.iaload, 1) := by decide +kernel
theorem dX6_perform_274 : decode cX6_perform 274 = .ok (.iload_n 3, 1) := by decide +kernel
theorem dX6_perform_275 : decode cX6_perform 275 = .ok (.invokevirtual 276, 3) := by decide +kernel
theorem dX6_perform_278 : decode cX6_perform 278 = .ok (.aload_n 0, 1) := by decide +kernel
theorem dX6_perform_279 : decode cX6_perform 279 = .ok (.iconst 0, 1) := by decide +kernel
theorem dX6_perform_280 : decode cX6_perform 280 = .ok (.iload_n 2, 1) := by decide +kernel
theorem dX6_perform_281 : decode cX6_perform 281 = .ok (.iload_n 3, 1) := by decide +kernel
theorem dX6_perform_282 : decode cX6_perform 282 = .ok (.invokevirtual 276, 3) := by decide +kernel
theorem dX6_perform_285 : decode cX6_perform 285 = .ok (.goto 110, 3) := by decide +kernel
theorem dX6_perform_288 : decode cX6_perform 288 = .ok (.aload_n 0, 1) := by decide +kernel
theorem dX6_perform_289 : decode cX6_perform 289 = .ok (.iload_n 2, 1) := by decide +kernel
theorem dX6_perform_290 : decode cX6_perform 290 = .ok (.iload_n 3, 1) := by decide +kernel
theorem dX6_perform_291 : decode cX6_perform 291 = .ok (.invokevirtual 301, 3) := by decide +kernel
theorem dX6_perform_294 : decode cX6_perform 294 = .ok (.goto 101, 3) := by decide +kernel
theorem dX6_perform_297 : decode cX6_perform 297 = .ok (.aload_n 0, 1) := by decide +kernel
theorem dX6_perform_298 : decode cX6_perform 298 = .ok (.iload_n 2, 1) := by decide +kernel
theorem dX6_perform_299 : decode cX6_perform 299 = .ok (.iload_n 3, 1) := by decide +kernel
theorem dX6_perform_300 : decode cX6_perform 300 = .ok (.iconst 0, 1) := by decide +kernel
theorem dX6_perform_301 : decode cX6_perform 301 = .ok (.invokevirtual 304, 3) := by decide +kernel
theorem dX6_perform_304 : decode cX6_perform 304 = .ok (.goto 91, 3) := by decide +kernel
theorem dX6_perform_307 : decode cX6_perform 307 = .ok (.aload_n 0, 1) := by decide +kernel
theorem dX6_perform_308 : decode cX6_perform 308 = .ok (.iload_n 2, 1) := by decide +kernel
theorem dX6_perform_309 : decode cX6_perform 309 = .ok (.iload_n 3, 1) := by decide +kernel
theorem dX6_perform_310 : decode cX6_perform 310 = .ok (.iconst 1, 1) := by decide +kernel
theorem dX6_perform_311 : decode cX6_perform 311 = .ok (.invokevirtual 304, 3) := by decide +kernel
theorem dX6_perform_314 : decode cX6_perform 314 = .ok (.goto 81, 3) := by decide +kernel
theorem dX6_perform_317 : decode cX6_perform 317 = .ok (.aload_n 0, 1) := by decide +kernel
theorem dX6_perform_318 : decode cX6_perform 318 = .ok (.getfield 88, 3) := by decide +kernel
theorem dX6_perform_321 : decode cX6_perform 321 = .ok (.aload_n 0, 1) := by decide +kernel
theorem dX6_perform_322 : decode cX6_perform 322 = .ok (.getfield 82, 3) := by decide +kernel
theorem dX6_perform_325 : decode cX6_perform 325 = .ok (.iload_n 3, 1) := by decide +kernel
theorem dX6_perform_326 : decode cX6_perform 326 = .ok (.iaload, 1) := by decide +kernel
theorem dX6_perform_327 : decode cX6_perform 327 = .ok (.iconst 1, 1) := by decide +kernel
theorem dX6_perform_328 : decode cX6_perform 328 = .ok (.iadd, 1) := by decide +kernel
theorem dX6_perform_329 : decode cX6_perform 329 = .ok (.aload_n 0, 1) := by decide +kernel
theorem dX6_perform_330 : decode cX6_perform 330 = .ok (.getfield 31, 3) := by decide +kernel
theorem dX6_perform_333 : decode cX6_perform 333 = .ok (.iload_n 2, 1) := by decide +kernel
theorem dX6_perform_334 : decode cX6_perform 334 = .ok (.iaload, 1) := by decide +kernel
theorem dX6_perform_335 : decode cX6_perform 335 = .ok (.iadd, 1) := by decide +kernel
theorem dX6_perform_336 : decode cX6_perform 336 = .ok (.aload_n 0, 1) := by decide +kernel
theorem dX6_perform_337 : decode cX6_perform 337 = .ok (.getfield 289, 3) := by decide +kernel
theorem dX6_perform_340 : decode cX6_perform 340 = .ok (.iastore, 1) := by decide +kernel
theorem dX6_perform_341 : decode cX6_perform 341 = .ok (.aload_n 0, 1) := by decide +kernel
theorem dX6_perform_342 : decode cX6_perform 342 = .ok (.aload_n 0, 1) := by decide +kernel
theorem dX6_perform_343 : decode cX6_perform 343 = .ok (.getfield 19, 3) := by decide +kernel
theorem dX6_perform_346 : decode cX6_perform 346 = .ok (.iload_n 2, 1) := by decide +kernel
theorem dX6_perform_347 : decode cX6_perform 347 = .ok (.iaload, 1) := by decide +kernel
theorem dX6_perform_348 : decode cX6_perform 348 = .ok (.iload_n 3, 1) := by decide +kernel
theorem dX6_perform_349 : decode cX6_perform 349 = .ok (.invokevirtual 273, 3) := by decide +kernel
theorem dX6_perform_352 : decode cX6_perform 352 = .ok (.goto 43, 3) := by decide +kernel
theorem dX6_perform_355 : decode cX6_perform 355 = .ok (.aload_n 0, 1) := by decide +kernel
theorem dX6_perform_356 : decode cX6_perform 356 = .ok (.aload_n 0, 1) := by decide +kernel
theorem dX6_perform_357 : decode cX6_perform 357 = .ok (.getfield 88, 3) := by decide +kernel
theorem dX6_perform_360 : decode cX6_perform 360 = .ok (.aload_n 0, 1) := by decide +kernel
theorem dX6_perform_361 : decode cX6_perform 361 = .ok (.getfield 82, 3) := by decide +kernel
theorem dX6_perform_364 : decode cX6_perform 364 = .ok (.iload_n 3, 1) := by decide +kernel
theorem dX6_perform_365 : decode cX6_perform 365 = .ok (.iaload, 1) := by decide +kernel
theorem dX6_perform_366 : decode cX6_perform 366 = .ok (.iaload, 1) := by decide +kernel
theorem dX6_perform_367 : decode cX6_perform 367 = .ok (.putfield 289, 3) := by decide +kernel
theorem dX6_perform_370 : decode cX6_perform 370 = .ok (.aload_n 0, 1) := by decide +kernel
theorem dX6_perform_371 : decode cX6_perform 371 = .ok (.dup, 1) := by decide +kernel
theorem dX6_perform_372 : decode cX6_perform 372 = .ok (.getfield 260, 3) := by decide +kernel
theorem dX6_perform_375 : decode cX6_perform 375 = .ok (.iconst 1, 1) := by decide +kernel
theorem dX6_perform_376 : decode cX6_perform 376 = .ok (.isub, 1) := by decide +kernel
theorem dX6_perform_377 : decode cX6_perform 377 = .ok (.putfield 260, 3) := by decide +kernel
theorem dX6_perform_380 : decode cX6_perform 380 = .ok (.aload_n 0, 1) := by decide +kernel
theorem dX6_perform_381 : decode cX6_perform 381 = .ok (.iload_n 3, 1) := by decide +kernel
theorem dX6_perform_382 : decode cX6_perform 382 = .ok (.putfield 239, 3) := by decide +kernel
theorem dX6_perform_385 : decode cX6_perform 385 = .ok (.aload_n 0, 1) := by decide +kernel
theorem dX6_perform_386 : decode cX6_perform 386 = .ok (.aload_n 0, 1) := by decide +kernel
theorem dX6_perform_387 : decode cX6_perform 387 = .ok (.getfield 82, 3) := by decide +kernel
theorem dX6_perform_390 : decode cX6_perform 390 = .ok (.iload_n 3, 1) := by decide +kernel
theorem dX6_perform_391 : decode cX6_perform 391 = .ok (.iaload, 1) := by decide +kernel
theorem dX6_perform_392 : decode cX6_perform 392 = .ok (.putfield 242, 3) := by decide +kernel
theorem dX6_perform_395 : decode cX6_perform 395 = .ok (.return_, 1) := by decide +kernel
theorem dX6_run_0 : decode cX6_run 0 = .ok (.aload_n 0, 1) := by decide +kernel
theorem dX6_run_1 : decode cX6_run 1 = .ok (.getfield 211, 3) := by decide +kernel
theorem dX6_run_4 : decode cX6_run 4 = .ok (.ifCond .ne 5, 3) := by decide +kernel
theorem dX6_run_7 : decode cX6_run 7 = .ok (.iconst (-1), 1) := by decide +kernel
theorem dX6_run_8 : decode cX6_run 8 = .ok (.ireturn, 1) := by decide +kernel
theorem dX6_run_9 : decode cX6_run 9 = .ok (.iload_n 1, 1) := by decide +kernel
theorem dX6_run_10 : decode cX6_run 10 = .ok (.iconst 0, 1) := by decide +kernel
theorem dX6_run_11 : decode cX6_run 11 = .ok (.sipush 1000, 3) := by decide +kernel
theorem dX6_run_14 : decode cX6_run 14 = .ok (.invokestatic 111, 3) := by decide +kernel
theorem dX6_run_17 : decode cX6_run 17 = .ok (.ifCond .ne 6, 3) := by decide +kernel
theorem dX6_run_20 : decode cX6_run 20 = .ok (.bipush (-2), 2) := by decide +kernel
theorem dX6_run_22 : decode cX6_run 22 = .ok (.ireturn, 1) := by decide +kernel
theorem dX6_run_23 : decode cX6_run 23 = .ok (.aload_n 0, 1) := by decide +kernel
theorem dX6_run_24 : decode cX6_run 24 = .ok (.iload_n 1, 1) := by decide +kernel
theorem dX6_run_25 : decode cX6_run 25 = .ok (.putfield 233, 3) := by decide +kernel
theorem dX6_run_28 : decode cX6_run 28 = .ok (.aload_n 0, 1) := by decide +kernel
theorem dX6_run_29 : decode cX6_run 29 = .ok (.iconst 0, 1) := by decide +kernel
theorem dX6_run_30 : decode cX6_run 30 = .ok (.putfield 230, 3) := by decide +kernel
theorem dX6_run_33 : decode cX6_run 33 = .ok (.aload_n 0, 1) := by decide +kernel
theorem dX6_run_34 : decode cX6_run 34 = .ok (.iconst 0, 1) := by decide +kernel
theorem dX6_run_35 : decode cX6_run 35 = .ok (.putfield 260, 3) := by decide +kernel
theorem dX6_run_38 : decode cX6_run 38 = .ok (.aload_n 0, 1) := by decide +kernel
theorem dX6_run_39 : decode cX6_run 39 = .ok (.iconst 0, 1) := by decide +kernel
theorem dX6_run_40 : decode cX6_run 40 = .ok (.putfield 266, 3) := by decide +kernel
theorem dX6_run_43 : decode cX6_run 43 = .ok (.aload_n 0, 1) := by decide +kernel
theorem dX6_run_44 : decode cX6_run 44 = .ok (.iconst 0, 1) := by decide +kernel
theorem dX6_run_45 : decode cX6_run 45 = .ok (.putfield 263, 3) := by decide +kernel
theorem dX6_run_48 : decode cX6_run 48 = .ok (.aload_n 0, 1) := by decide +kernel
theorem dX6_run_49 : decode cX6_run 49 = .ok (.iconst 0, 1) := by decide +kernel
theorem dX6_run_50 : decode cX6_run 50 = .ok (.putfield 298, 3) := by decide +kernel
theorem dX6_run_53 : decode cX6_run 53 = .ok (.aload_n 0, 1) := by decide +kernel
theorem dX6_run_54 : decode cX6_run 54 = .ok (.iconst 0, 1) := by decide +kernel
theorem dX6_run_55 : decode cX6_run 55 = .ok (.putfield 227, 3) := by decide +kernel
theorem dX6_run_58 : decode cX6_run 58 = .ok (.aload_n 0, 1) := by decide +kernel
theorem dX6_run_59 : decode cX6_run 59 = .ok (.iconst 0, 1) := by decide +kernel
theorem dX6_run_60 : decode cX6_run 60 = .ok (.putfield 239, 3) := by decide +kernel
theorem dX6_run_63 : decode cX6_run 63 = .ok (.aload_n 0, 1) := by decide +kernel
theorem dX6_run_64 : decode cX6_run 64 = .ok (.iconst 0, 1) := by decide +kernel
theorem dX6_run_65 : decode cX6_run 65 = .ok (.putfield 242, 3) := by decide +kernel
theorem dX6_run_68 : decode cX6_run 68 = .ok (.aload_n 0, 1) := by decide +kernel
theorem dX6_run_69 : decode cX6_run 69 = .ok (.iconst 0, 1) := by decide +kernel
theorem dX6_run_70 : decode cX6_run 70 = .ok (.putfield 292, 3) := by decide +kernel
theorem dX6_run_73 : decode cX6_run 73 = .ok (.aload_n 0, 1) := by decide +kernel
theorem dX6_run_74 : decode cX6_run 74 = .ok (.iconst 0, 1) := by decide +kernel
theorem dX6_run_75 : decode cX6_run 75 = .ok (.putfield 236, 3) := by decide +kernel
theorem dX6_run_78 : decode cX6_run 78 = .ok (.aload_n 0, 1) := by decide +kernel
theorem dX6_run_79 : decode cX6_run 79 = .ok (.iconst 0, 1) := by decide +kernel
theorem dX6_run_80 : decode cX6_run 80 = .ok (.iconst (-1), 1) := by decide +kernel
theorem dX6_run_81 : decode cX6_run 81 = .ok (.iconst 0, 1) := by decide +kernel
theorem dX6_run_82 : decode cX6_run 82 = .ok (.iconst 0, 1) := by decide +kernel
theorem dX6_run_83 : decode cX6_run 83 = .ok (.invokevirtual 269, 3) := by decide +kernel
theorem dX6_run_86 : decode cX6_run 86 = .ok (.istore_n 2, 1) := by decide +kernel
theorem dX6_run_87 : decode cX6_run 87 = .ok (.aload_n 0, 1) := by decide +kernel
theorem dX6_run_88 : decode cX6_run 88 = .ok (.iconst 0, 1) := by decide +kernel
theorem dX6_run_89 : decode cX6_run 89 = .ok (.aload_n 0, 1) := by decide +kernel
theorem dX6_run_90 : decode cX6_run 90 = .ok (.getfield 224, 3) := by decide +kernel
theorem dX6_run_93 : decode cX6_run 93 = .ok (.iload_n 2, 1) := by decide +kernel
theorem dX6_run_94 : decode cX6_run 94 = .ok (.invokevirtual 276, 3) := by decide +kernel
theorem dX6_run_97 : decode cX6_run 97 = .ok (.iconst 0, 1) := by decide +kernel
theorem dX6_run_98 : decode cX6_run 98 = .ok (.istore_n 3, 1) := by decide +kernel
theorem dX6_run_99 : decode cX6_run 99 = .ok (.iload_n 3, 1) := by decide +kernel
theorem dX6_run_100 : decode cX6_run 100 = .ok (.ldc_w 308, 3) := by decide +kernel
theorem dX6_run_103 : decode cX6_run 103 = .ok (.if_icmp .ge 66, 3) := by decide +kernel
theorem dX6_run_106 : decode cX6_run 106 = .ok (.aload_n 0, 1) := by decide +kernel
theorem dX6_run_107 : decode cX6_run 107 = .ok (.getfield 227, 3) := by decide +kernel
theorem dX6_run_110 : decode cX6_run 110 = .ok (.ifCond .le 59, 3) := by decide +kernel
theorem dX6_run_113 : decode cX6_run 113 = .ok (.aload_n 0, 1) := by decide +kernel
theorem dX6_run_114 : decode cX6_run 114 = .ok (.getfield 236, 3) := by decide +kernel
theorem dX6_run_117 : decode cX6_run 117 = .ok (.ifCond .ne 52, 3) := by decide +kernel
theorem dX6_run_120 : decode cX6_run 120 = .ok (.aload_n 0, 1) := by decide +kernel
theorem dX6_run_121 : decode cX6_run 121 = .ok (.dup, 1) := by decide +kernel
theorem dX6_run_122 : decode cX6_run 122 = .ok (.getfield 227, 3) := by decide +kernel
theorem dX6_run_125 : decode cX6_run 125 = .ok (.iconst 1, 1) := by decide +kernel
theorem dX6_run_126 : decode cX6_run 126 = .ok (.isub, 1) := by decide +kernel
theorem dX6_run_127 : decode cX6_run 127 = .ok (.putfield 227, 3) := by decide +kernel
theorem dX6_run_130 : decode cX6_run 130 = .ok (.aload_n 0, 1) := by decide +kernel
theorem dX6_run_131 : decode cX6_run 131 = .ok (.getfield 73, 3) := by decide +kernel
theorem dX6_run_134 : decode cX6_run 134 = .ok (.aload_n 0, 1) := by decide +kernel
theorem dX6_run_135 : decode cX6_run 135 = .ok (.getfield 227, 3) := by decide +kernel
theorem dX6_run_138 : decode cX6_run 138 = .ok (.iaload, 1) := by decide +kernel
theorem dX6_run_139 : decode cX6_run 139 = .ok (.istore 4, 2) := by decide +kernel
theorem dX6_run_141 : decode cX6_run 141 = .ok (.aload_n 0, 1) := by decide +kernel
theorem dX6_run_142 : decode cX6_run 142 = .ok (.iload 4, 2) := by decide +kernel
theorem dX6_run_144 : decode cX6_run 144 = .ok (.bipush 15, 2) := by decide +kernel
theorem dX6_run_146 : decode cX6_run 146 = .ok (.iand, 1) := by decide +kernel
theorem dX6_run_147 : decode cX6_run 147 = .ok (.iload 4, 2) := by decide +kernel
theorem dX6_run_149 : decode cX6_run 149 = .ok (.iconst 4, 1) := by decide +kernel
theorem dX6_run_150 : decode cX6_run 150 = .ok (.ishr, 1) := by decide +kernel
theorem dX6_run_151 : decode cX6_run 151 = .ok (.sipush 1023, 3) := by decide +kernel
theorem dX6_run_154 : decode cX6_run 154 = .ok (.iand, 1) := by decide +kernel
theorem dX6_run_155 : decode cX6_run 155 = .ok (.iload 4, 2) := by decide +kernel
theorem dX6_run_157 : decode cX6_run 157 = .ok (.bipush 14, 2) := by decide +kernel
theorem dX6_run_159 : decode cX6_run 159 = .ok (.ishr, 1) := by decide +kernel
theorem dX6_run_160 : decode cX6_run 160 = .ok (.invokevirtual 309, 3) := by decide +kernel
theorem dX6_run_163 : decode cX6_run 163 = .ok (.iinc 3 1, 3) := by decide +kernel
theorem dX6_run_166 : decode cX6_run 166 = .ok (.goto (-67), 3) := by decide +kernel
theorem dX6_run_169 : decode cX6_run 169 = .ok (.aload_n 0, 1) := by decide +kernel
theorem dX6_run_170 : decode cX6_run 170 = .ok (.getfield 236, 3) := by decide +kernel
theorem dX6_run_173 : decode cX6_run 173 = .ok (.ireturn, 1) := by decide +kernel
theorem dX6_prints_0 : decode cX6_prints 0 = .ok (.aload_n 0, 1) := by decide +kernel
theorem dX6_prints_1 : decode cX6_prints 1 = .ok (.getfield 298, 3) := by decide +kernel
theorem dX6_prints_4 : decode cX6_prints 4 = .ok (.ireturn, 1) := by decide +kernel
theorem dX6_printed_0 : decode cX6_printed 0 = .ok (.iload_n 1, 1) := by decide +kernel
theorem dX6_printed_1 : decode cX6_printed 1 = .ok (.iconst 0, 1) := by decide +kernel
theorem dX6_printed_2 : decode cX6_printed 2 = .ok (.aload_n 0, 1) := by decide +kernel
theorem dX6_printed_3 : decode cX6_printed 3 = .ok (.getfield 298, 3) := by decide +kernel
theorem dX6_printed_6 : decode cX6_printed 6 = .ok (.iconst 1, 1) := by decide +kernel
theorem dX6_printed_7 : decode cX6_printed 7 = .ok (.isub, 1) := by decide +kernel
theorem dX6_printed_8 : decode cX6_printed 8 = .ok (.invokestatic 111, 3) := by decide +kernel
theorem dX6_printed_11 : decode cX6_printed 11 = .ok (.ifCond .eq 13, 3) := by decide +kernel
theorem dX6_printed_14 : decode cX6_printed 14 = .ok (.aload_n 0, 1) := by decide +kernel
theorem dX6_printed_15 : decode cX6_printed 15 = .ok (.getfield 97, 3) := by decide +kernel
theorem dX6_printed_18 : decode cX6_printed 18 = .ok (.iload_n 1, 1) := by decide +kernel
theorem dX6_printed_19 : decode cX6_printed 19 = .ok (.iaload, 1) := by decide +kernel
theorem dX6_printed_20 : decode cX6_printed 20 = .ok (.i2l, 1) := by decide +kernel
theorem dX6_printed_21 : decode cX6_printed 21 = .ok (.goto 6, 3) := by decide +kernel
theorem dX6_printed_24 : decode cX6_printed 24 = .ok (.ldc2_w 312, 3) := by decide +kernel
theorem dX6_printed_27 : decode cX6_printed 27 = .ok (.lreturn, 1) := by decide +kernel
theorem dX6_cost_0 : decode cX6_cost 0 = .ok (.aload_n 0, 1) := by decide +kernel
theorem dX6_cost_1 : decode cX6_cost 1 = .ok (.getfield 230, 3) := by decide +kernel
theorem dX6_cost_4 : decode cX6_cost 4 = .ok (.ireturn, 1) := by decide +kernel
theorem dX6_deepest_0 : decode cX6_deepest 0 = .ok (.aload_n 0, 1) := by decide +kernel
theorem dX6_deepest_1 : decode cX6_deepest 1 = .ok (.getfield 266, 3) := by decide +kernel
theorem dX6_deepest_4 : decode cX6_deepest 4 = .ok (.ireturn, 1) := by decide +kernel
theorem dX6_calls_0 : decode cX6_calls 0 = .ok (.aload_n 0, 1) := by decide +kernel
theorem dX6_calls_1 : decode cX6_calls 1 = .ok (.getfield 263, 3) := by decide +kernel
theorem dX6_calls_4 : decode cX6_calls 4 = .ok (.ireturn, 1) := by decide +kernel
theorem dX6_about_0 : decode cX6_about 0 = .ok (.aload_n 0, 1) := by decide +kernel
end
section
theorem dX6_about_1 : decode cX6_about 1 = .ok (.getfield 211, 3) := by decide +kernel
theorem dX6_about_4 : decode cX6_about 4 = .ok (.ifCond .eq 21, 3) := by decide +kernel
theorem dX6_about_7 : decode cX6_about 7 = .ok (.iload_n 1, 1) := by decide +kernel
theorem dX6_about_8 : decode cX6_about 8 = .ok (.iconst 0, 1) := by decide +kernel
theorem dX6_about_9 : decode cX6_about 9 = .ok (.iconst 3, 1) := by decide +kernel
theorem dX6_about_10 : decode cX6_about 10 = .ok (.invokestatic 111, 3) := by decide +kernel
theorem dX6_about_13 : decode cX6_about 13 = .ok (.ifCond .eq 12, 3) := by decide +kernel
theorem dX6_about_16 : decode cX6_about 16 = .ok (.aload_n 0, 1) := by decide +kernel
theorem dX6_about_17 : decode cX6_about 17 = .ok (.getfield 43, 3) := by decide +kernel
theorem dX6_about_20 : decode cX6_about 20 = .ok (.iload_n 1, 1) := by decide +kernel
theorem dX6_about_21 : decode cX6_about 21 = .ok (.iaload, 1) := by decide +kernel
theorem dX6_about_22 : decode cX6_about 22 = .ok (.goto 4, 3) := by decide +kernel
theorem dX6_about_25 : decode cX6_about 25 = .ok (.iconst (-1), 1) := by decide +kernel
theorem dX6_about_26 : decode cX6_about 26 = .ok (.ireturn, 1) := by decide +kernel
end
section
theorem dJ9_max_7cf53_0 : decode cJ9_max_7cf53 0 = .ok (.iload_n 0, 1) := by decide +kernel
theorem dJ9_max_7cf53_1 : decode cJ9_max_7cf53 1 = .ok (.iload_n 1, 1) := by decide +kernel
theorem dJ9_max_7cf53_2 : decode cJ9_max_7cf53 2 = .ok (.if_icmp .lt 7, 3) := by decide +kernel
theorem dJ9_max_7cf53_5 : decode cJ9_max_7cf53 5 = .ok (.iload_n 0, 1) := by decide +kernel
theorem dJ9_max_7cf53_6 : decode cJ9_max_7cf53 6 = .ok (.goto 4, 3) := by decide +kernel
theorem dJ9_max_7cf53_9 : decode cJ9_max_7cf53 9 = .ok (.iload_n 1, 1) := by decide +kernel
theorem dJ9_max_7cf53_10 : decode cJ9_max_7cf53 10 = .ok (.ireturn, 1) := by decide +kernel
theorem dJ9_min_7cf53_0 : decode cJ9_min_7cf53 0 = .ok (.iload_n 0, 1) := by decide +kernel
theorem dJ9_min_7cf53_1 : decode cJ9_min_7cf53 1 = .ok (.iload_n 1, 1) := by decide +kernel
theorem dJ9_min_7cf53_2 : decode cJ9_min_7cf53 2 = .ok (.if_icmp .gt 7, 3) := by decide +kernel
theorem dJ9_min_7cf53_5 : decode cJ9_min_7cf53 5 = .ok (.iload_n 0, 1) := by decide +kernel
theorem dJ9_min_7cf53_6 : decode cJ9_min_7cf53 6 = .ok (.goto 4, 3) := by decide +kernel
theorem dJ9_min_7cf53_9 : decode cJ9_min_7cf53 9 = .ok (.iload_n 1, 1) := by decide +kernel
theorem dJ9_min_7cf53_10 : decode cJ9_min_7cf53 10 = .ok (.ireturn, 1) := by decide +kernel
end
section
theorem dL_law_0 : decode cL_law 0 = .ok (.new 7, 3) := by decide +kernel
theorem dL_law_3 : decode cL_law 3 = .ok (.dup, 1) := by decide +kernel
theorem dL_law_4 : decode cL_law 4 = .ok (.invokespecial 9, 3) := by decide +kernel
theorem dL_law_7 : decode cL_law 7 = .ok (.astore_n 1, 1) := by decide +kernel
theorem dL_law_8 : decode cL_law 8 = .ok (.new 10, 3) := by decide +kernel
theorem dL_law_11 : decode cL_law 11 = .ok (.dup, 1) := by decide +kernel
theorem dL_law_12 : decode cL_law 12 = .ok (.invokespecial 12, 3) := by decide +kernel
theorem dL_law_15 : decode cL_law 15 = .ok (.astore_n 2, 1) := by decide +kernel
theorem dL_law_16 : decode cL_law 16 = .ok (.iconst 0, 1) := by decide +kernel
theorem dL_law_17 : decode cL_law 17 = .ok (.istore_n 3, 1) := by decide +kernel
theorem dL_law_18 : decode cL_law 18 = .ok (.iload_n 3, 1) := by decide +kernel
theorem dL_law_19 : decode cL_law 19 = .ok (.aload_n 0, 1) := by decide +kernel
theorem dL_law_20 : decode cL_law 20 = .ok (.arraylength, 1) := by decide +kernel
theorem dL_law_21 : decode cL_law 21 = .ok (.iconst 3, 1) := by decide +kernel
theorem dL_law_22 : decode cL_law 22 = .ok (.isub, 1) := by decide +kernel
theorem dL_law_23 : decode cL_law 23 = .ok (.if_icmp .gt 289, 3) := by decide +kernel
theorem dL_law_26 : decode cL_law 26 = .ok (.aload_n 0, 1) := by decide +kernel
theorem dL_law_27 : decode cL_law 27 = .ok (.iload_n 3, 1) := by decide +kernel
theorem dL_law_28 : decode cL_law 28 = .ok (.iaload, 1) := by decide +kernel
theorem dL_law_29 : decode cL_law 29 = .ok (.bipush 15, 2) := by decide +kernel
theorem dL_law_31 : decode cL_law 31 = .ok (.iand, 1) := by decide +kernel
theorem dL_law_32 : decode cL_law 32 = .ok (.tableswitch 274 0 10 #[60, 113, 126, 139, 152, 175, 188, 212, 225, 238, 251], 60) := by decide +kernel
theorem dL_law_92 : decode cL_law 92 = .ok (.aload_n 1, 1) := by decide +kernel
theorem dL_law_93 : decode cL_law 93 = .ok (.aload_n 0, 1) := by decide +kernel
theorem dL_law_94 : decode cL_law 94 = .ok (.iload_n 3, 1) := by decide +kernel
theorem dL_law_95 : decode cL_law 95 = .ok (.iconst 1, 1) := by decide +kernel
theorem dL_law_96 : decode cL_law 96 = .ok (.iadd, 1) := by decide +kernel
theorem dL_law_97 : decode cL_law 97 = .ok (.iaload, 1) := by decide +kernel
theorem dL_law_98 : decode cL_law 98 = .ok (.i2l, 1) := by decide +kernel
theorem dL_law_99 : decode cL_law 99 = .ok (.bipush 32, 2) := by decide +kernel
theorem dL_law_101 : decode cL_law 101 = .ok (.lshl, 1) := by decide +kernel
theorem dL_law_102 : decode cL_law 102 = .ok (.aload_n 0, 1) := by decide +kernel
theorem dL_law_103 : decode cL_law 103 = .ok (.iload_n 3, 1) := by decide +kernel
theorem dL_law_104 : decode cL_law 104 = .ok (.iconst 2, 1) := by decide +kernel
theorem dL_law_105 : decode cL_law 105 = .ok (.iadd, 1) := by decide +kernel
theorem dL_law_106 : decode cL_law 106 = .ok (.iaload, 1) := by decide +kernel
theorem dL_law_107 : decode cL_law 107 = .ok (.i2l, 1) := by decide +kernel
theorem dL_law_108 : decode cL_law 108 = .ok (.ldc2_w 13, 3) := by decide +kernel
theorem dL_law_111 : decode cL_law 111 = .ok (.land, 1) := by decide +kernel
theorem dL_law_112 : decode cL_law 112 = .ok (.lor, 1) := by decide +kernel
theorem dL_law_113 : decode cL_law 113 = .ok (.invokevirtual 15, 3) := by decide +kernel
theorem dL_law_116 : decode cL_law 116 = .ok (.aload_n 2, 1) := by decide +kernel
theorem dL_law_117 : decode cL_law 117 = .ok (.aload_n 0, 1) := by decide +kernel
theorem dL_law_118 : decode cL_law 118 = .ok (.iload_n 3, 1) := by decide +kernel
theorem dL_law_119 : decode cL_law 119 = .ok (.iconst 1, 1) := by decide +kernel
theorem dL_law_120 : decode cL_law 120 = .ok (.iadd, 1) := by decide +kernel
theorem dL_law_121 : decode cL_law 121 = .ok (.iaload, 1) := by decide +kernel
theorem dL_law_122 : decode cL_law 122 = .ok (.i2l, 1) := by decide +kernel
theorem dL_law_123 : decode cL_law 123 = .ok (.bipush 32, 2) := by decide +kernel
theorem dL_law_125 : decode cL_law 125 = .ok (.lshl, 1) := by decide +kernel
theorem dL_law_126 : decode cL_law 126 = .ok (.aload_n 0, 1) := by decide +kernel
theorem dL_law_127 : decode cL_law 127 = .ok (.iload_n 3, 1) := by decide +kernel
theorem dL_law_128 : decode cL_law 128 = .ok (.iconst 2, 1) := by decide +kernel
theorem dL_law_129 : decode cL_law 129 = .ok (.iadd, 1) := by decide +kernel
theorem dL_law_130 : decode cL_law 130 = .ok (.iaload, 1) := by decide +kernel
theorem dL_law_131 : decode cL_law 131 = .ok (.i2l, 1) := by decide +kernel
theorem dL_law_132 : decode cL_law 132 = .ok (.ldc2_w 13, 3) := by decide +kernel
theorem dL_law_135 : decode cL_law 135 = .ok (.land, 1) := by decide +kernel
theorem dL_law_136 : decode cL_law 136 = .ok (.lor, 1) := by decide +kernel
theorem dL_law_137 : decode cL_law 137 = .ok (.invokevirtual 19, 3) := by decide +kernel
theorem dL_law_140 : decode cL_law 140 = .ok (.if_icmp .eq 166, 3) := by decide +kernel
theorem dL_law_143 : decode cL_law 143 = .ok (.iconst 0, 1) := by decide +kernel
theorem dL_law_144 : decode cL_law 144 = .ok (.ireturn, 1) := by decide +kernel
theorem dL_law_145 : decode cL_law 145 = .ok (.aload_n 1, 1) := by decide +kernel
theorem dL_law_146 : decode cL_law 146 = .ok (.invokevirtual 20, 3) := by decide +kernel
theorem dL_law_149 : decode cL_law 149 = .ok (.aload_n 2, 1) := by decide +kernel
theorem dL_law_150 : decode cL_law 150 = .ok (.invokevirtual 24, 3) := by decide +kernel
theorem dL_law_153 : decode cL_law 153 = .ok (.if_icmp .eq 153, 3) := by decide +kernel
theorem dL_law_156 : decode cL_law 156 = .ok (.iconst 0, 1) := by decide +kernel
theorem dL_law_157 : decode cL_law 157 = .ok (.ireturn, 1) := by decide +kernel
theorem dL_law_158 : decode cL_law 158 = .ok (.aload_n 1, 1) := by decide +kernel
theorem dL_law_159 : decode cL_law 159 = .ok (.invokevirtual 25, 3) := by decide +kernel
theorem dL_law_162 : decode cL_law 162 = .ok (.aload_n 2, 1) := by decide +kernel
theorem dL_law_163 : decode cL_law 163 = .ok (.invokevirtual 28, 3) := by decide +kernel
theorem dL_law_166 : decode cL_law 166 = .ok (.if_icmp .eq 140, 3) := by decide +kernel
theorem dL_law_169 : decode cL_law 169 = .ok (.iconst 0, 1) := by decide +kernel
theorem dL_law_170 : decode cL_law 170 = .ok (.ireturn, 1) := by decide +kernel
theorem dL_law_171 : decode cL_law 171 = .ok (.aload_n 1, 1) := by decide +kernel
theorem dL_law_172 : decode cL_law 172 = .ok (.invokevirtual 29, 3) := by decide +kernel
theorem dL_law_175 : decode cL_law 175 = .ok (.aload_n 2, 1) := by decide +kernel
theorem dL_law_176 : decode cL_law 176 = .ok (.invokevirtual 32, 3) := by decide +kernel
theorem dL_law_179 : decode cL_law 179 = .ok (.if_icmp .eq 127, 3) := by decide +kernel
theorem dL_law_182 : decode cL_law 182 = .ok (.iconst 0, 1) := by decide +kernel
theorem dL_law_183 : decode cL_law 183 = .ok (.ireturn, 1) := by decide +kernel
theorem dL_law_184 : decode cL_law 184 = .ok (.aload_n 1, 1) := by decide +kernel
theorem dL_law_185 : decode cL_law 185 = .ok (.aload_n 0, 1) := by decide +kernel
theorem dL_law_186 : decode cL_law 186 = .ok (.iload_n 3, 1) := by decide +kernel
theorem dL_law_187 : decode cL_law 187 = .ok (.iconst 1, 1) := by decide +kernel
theorem dL_law_188 : decode cL_law 188 = .ok (.iadd, 1) := by decide +kernel
theorem dL_law_189 : decode cL_law 189 = .ok (.iaload, 1) := by decide +kernel
theorem dL_law_190 : decode cL_law 190 = .ok (.invokevirtual 33, 3) := by decide +kernel
theorem dL_law_193 : decode cL_law 193 = .ok (.aload_n 2, 1) := by decide +kernel
theorem dL_law_194 : decode cL_law 194 = .ok (.aload_n 0, 1) := by decide +kernel
theorem dL_law_195 : decode cL_law 195 = .ok (.iload_n 3, 1) := by decide +kernel
theorem dL_law_196 : decode cL_law 196 = .ok (.iconst 1, 1) := by decide +kernel
theorem dL_law_197 : decode cL_law 197 = .ok (.iadd, 1) := by decide +kernel
theorem dL_law_198 : decode cL_law 198 = .ok (.iaload, 1) := by decide +kernel
theorem dL_law_199 : decode cL_law 199 = .ok (.invokevirtual 37, 3) := by decide +kernel
theorem dL_law_202 : decode cL_law 202 = .ok (.if_icmp .eq 104, 3) := by decide +kernel
theorem dL_law_205 : decode cL_law 205 = .ok (.iconst 0, 1) := by decide +kernel
theorem dL_law_206 : decode cL_law 206 = .ok (.ireturn, 1) := by decide +kernel
theorem dL_law_207 : decode cL_law 207 = .ok (.aload_n 1, 1) := by decide +kernel
theorem dL_law_208 : decode cL_law 208 = .ok (.invokevirtual 38, 3) := by decide +kernel
theorem dL_law_211 : decode cL_law 211 = .ok (.aload_n 2, 1) := by decide +kernel
theorem dL_law_212 : decode cL_law 212 = .ok (.invokevirtual 41, 3) := by decide +kernel
theorem dL_law_215 : decode cL_law 215 = .ok (.if_icmp .eq 91, 3) := by decide +kernel
theorem dL_law_218 : decode cL_law 218 = .ok (.iconst 0, 1) := by decide +kernel
theorem dL_law_219 : decode cL_law 219 = .ok (.ireturn, 1) := by decide +kernel
theorem dL_law_220 : decode cL_law 220 = .ok (.aload_n 1, 1) := by decide +kernel
theorem dL_law_221 : decode cL_law 221 = .ok (.aload_n 0, 1) := by decide +kernel
theorem dL_law_222 : decode cL_law 222 = .ok (.iload_n 3, 1) := by decide +kernel
theorem dL_law_223 : decode cL_law 223 = .ok (.iconst 1, 1) := by decide +kernel
theorem dL_law_224 : decode cL_law 224 = .ok (.iadd, 1) := by decide +kernel
theorem dL_law_225 : decode cL_law 225 = .ok (.iaload, 1) := by decide +kernel
theorem dL_law_226 : decode cL_law 226 = .ok (.invokevirtual 42, 3) := by decide +kernel
theorem dL_law_229 : decode cL_law 229 = .ok (.aload_n 2, 1) := by decide +kernel
theorem dL_law_230 : decode cL_law 230 = .ok (.aload_n 0, 1) := by decide +kernel
theorem dL_law_231 : decode cL_law 231 = .ok (.iload_n 3, 1) := by decide +kernel
theorem dL_law_232 : decode cL_law 232 = .ok (.iconst 1, 1) := by decide +kernel
theorem dL_law_233 : decode cL_law 233 = .ok (.iadd, 1) := by decide +kernel
theorem dL_law_234 : decode cL_law 234 = .ok (.iaload, 1) := by decide +kernel
theorem dL_law_235 : decode cL_law 235 = .ok (.invokevirtual 46, 3) := by decide +kernel
theorem dL_law_238 : decode cL_law 238 = .ok (.lcmp, 1) := by decide +kernel
theorem dL_law_239 : decode cL_law 239 = .ok (.ifCond .eq 67, 3) := by decide +kernel
theorem dL_law_242 : decode cL_law 242 = .ok (.iconst 0, 1) := by decide +kernel
theorem dL_law_243 : decode cL_law 243 = .ok (.ireturn, 1) := by decide +kernel
theorem dL_law_244 : decode cL_law 244 = .ok (.aload_n 1, 1) := by decide +kernel
theorem dL_law_245 : decode cL_law 245 = .ok (.invokevirtual 47, 3) := by decide +kernel
theorem dL_law_248 : decode cL_law 248 = .ok (.aload_n 2, 1) := by decide +kernel
theorem dL_law_249 : decode cL_law 249 = .ok (.invokevirtual 50, 3) := by decide +kernel
theorem dL_law_252 : decode cL_law 252 = .ok (.if_icmp .eq 54, 3) := by decide +kernel
theorem dL_law_255 : decode cL_law 255 = .ok (.iconst 0, 1) := by decide +kernel
theorem dL_law_256 : decode cL_law 256 = .ok (.ireturn, 1) := by decide +kernel
theorem dL_law_257 : decode cL_law 257 = .ok (.aload_n 1, 1) := by decide +kernel
theorem dL_law_258 : decode cL_law 258 = .ok (.invokevirtual 51, 3) := by decide +kernel
theorem dL_law_261 : decode cL_law 261 = .ok (.aload_n 2, 1) := by decide +kernel
theorem dL_law_262 : decode cL_law 262 = .ok (.invokevirtual 54, 3) := by decide +kernel
theorem dL_law_265 : decode cL_law 265 = .ok (.if_icmp .eq 41, 3) := by decide +kernel
theorem dL_law_268 : decode cL_law 268 = .ok (.iconst 0, 1) := by decide +kernel
theorem dL_law_269 : decode cL_law 269 = .ok (.ireturn, 1) := by decide +kernel
theorem dL_law_270 : decode cL_law 270 = .ok (.aload_n 1, 1) := by decide +kernel
theorem dL_law_271 : decode cL_law 271 = .ok (.invokevirtual 55, 3) := by decide +kernel
theorem dL_law_274 : decode cL_law 274 = .ok (.aload_n 2, 1) := by decide +kernel
theorem dL_law_275 : decode cL_law 275 = .ok (.invokevirtual 58, 3) := by decide +kernel
theorem dL_law_278 : decode cL_law 278 = .ok (.if_icmp .eq 28, 3) := by decide +kernel
theorem dL_law_281 : decode cL_law 281 = .ok (.iconst 0, 1) := by decide +kernel
theorem dL_law_282 : decode cL_law 282 = .ok (.ireturn, 1) := by decide +kernel
theorem dL_law_283 : decode cL_law 283 = .ok (.aload_n 1, 1) := by decide +kernel
theorem dL_law_284 : decode cL_law 284 = .ok (.aload_n 0, 1) := by decide +kernel
theorem dL_law_285 : decode cL_law 285 = .ok (.iload_n 3, 1) := by decide +kernel
theorem dL_law_286 : decode cL_law 286 = .ok (.iconst 1, 1) := by decide +kernel
theorem dL_law_287 : decode cL_law 287 = .ok (.iadd, 1) := by decide +kernel
theorem dL_law_288 : decode cL_law 288 = .ok (.iaload, 1) := by decide +kernel
theorem dL_law_289 : decode cL_law 289 = .ok (.invokevirtual 59, 3) := by decide +kernel
theorem dL_law_292 : decode cL_law 292 = .ok (.aload_n 2, 1) := by decide +kernel
theorem dL_law_293 : decode cL_law 293 = .ok (.aload_n 0, 1) := by decide +kernel
theorem dL_law_294 : decode cL_law 294 = .ok (.iload_n 3, 1) := by decide +kernel
theorem dL_law_295 : decode cL_law 295 = .ok (.iconst 1, 1) := by decide +kernel
theorem dL_law_296 : decode cL_law 296 = .ok (.iadd, 1) := by decide +kernel
theorem dL_law_297 : decode cL_law 297 = .ok (.iaload, 1) := by decide +kernel
theorem dL_law_298 : decode cL_law 298 = .ok (.invokevirtual 62, 3) := by decide +kernel
theorem dL_law_301 : decode cL_law 301 = .ok (.if_icmp .eq 5, 3) := by decide +kernel
theorem dL_law_304 : decode cL_law 304 = .ok (.iconst 0, 1) := by decide +kernel
theorem dL_law_305 : decode cL_law 305 = .ok (.ireturn, 1) := by decide +kernel
theorem dL_law_306 : decode cL_law 306 = .ok (.iinc 3 3, 3) := by decide +kernel
theorem dL_law_309 : decode cL_law 309 = .ok (.goto (-291), 3) := by decide +kernel
theorem dL_law_312 : decode cL_law 312 = .ok (.iconst 1, 1) := by decide +kernel
theorem dL_law_313 : decode cL_law 313 = .ok (.ireturn, 1) := by decide +kernel
end
section
/-! ===== a flat memory over the kit: S q k is the int in field or element k of cell q; V q k a reference that may change; a reference is the number of its cell ===== -/
abbrev ai_L : Type := List ((Nat × Nat) ⊕ (Nat × List Nat))
abbrev ai_S : Type := Nat → Nat → Int32
abbrev ai_V : Type := Nat → Nat → Value
/-- launch, class numbers, addresses of the cells, array classes (0: int, 1: char), layout -/
abbrev ai_U : Type := Launch × va_G × (Nat → Nat) × (Nat → ClassId) × ai_L
/-- name, bytes, locals, answer -/
abbrev ai_M : Type := MethodName × ByteArray × Nat × Option FieldType
abbrev ai_P : Type := Option Value → ai_S → ai_V → Prop
def ai_up (S : ai_S) (q k : Nat) (x : Int32) : ai_S := fun i => if i = q then upd (S q) k x else S i
def ai_uv (V : ai_V) (q k : Nat) (x : Value) : ai_V := fun i => if i = q then updV (V q) k x else V i
theorem ai_up_s {S : ai_S} {q k : Nat} {x : Int32} : ai_up S q k x q k = x := by simp [ai_up, upd]
theorem ai_up_n {S : ai_S} {q k i j : Nat} {x : Int32} (h : ¬ (i = q ∧ j = k)) : ai_up S q k x i j = S i j := by
  unfold ai_up upd
  by_cases hi : i = q
  · subst hi
    by_cases hj : j = k
    · exact absurd ⟨rfl, hj⟩ h
    · simp [hj]
  · simp [hi]
theorem ai_up_eq (S : ai_S) (q k i j : Nat) (x : Int32) : ai_up S q k x i j = if i = q ∧ j = k then x else S i j := by
  by_cases h : i = q ∧ j = k
  · rw [if_pos h, h.1, h.2, ai_up_s]
  · rw [if_neg h, ai_up_n h]
theorem ai_up_q {S : ai_S} {q k : Nat} {x : Int32} : ai_up S q k x q = upd (S q) k x := by simp [ai_up]
theorem ai_up_o {S : ai_S} {q k i : Nat} {x : Int32} (h : i ≠ q) : ai_up S q k x i = S i := by simp [ai_up, h]
def ai_v (ρ : Nat → Nat) : Value → Value
  | .ref a => .ref (ρ a)
  | v => v
theorem ai_v_cat (ρ : Nat → Nat) (v : Value) : (ai_v ρ v).category = v.category := by cases v <;> rfl
def ai_f (ρ : Nat → Nat) (S : ai_S) (V : ai_V) (q k t : Nat) : Value := match t with
  | 0 => .int (S q k)
  | 1 => ai_v ρ (V q k)
  | r + 2 => .ref (ρ r)
def ai_c (ρ : Nat → Nat) (τ : Nat → ClassId) (S : ai_S) (V : ai_V) (q : Nat) (e : (Nat × Nat) ⊕ (Nat × List Nat)) : va_E := match e with
  | .inl a => .inl (τ a.1, a.2, .inl (S q))
  | .inr o => .inr (o.1, o.2.mapIdx (fun k t => ai_f ρ S V q k t))
def ai_w (u : ai_U) (S : ai_S) (V : ai_V) : va_W := u.2.2.2.2.mapIdx (fun q e => (u.2.2.1 q, ai_c u.2.2.1 u.2.2.2.1 S V q e))
theorem ai_w_at {u : ai_U} {S : ai_S} {V : ai_V} {q : Nat} {e : (Nat × Nat) ⊕ (Nat × List Nat)} (h : u.2.2.2.2[q]? = some e) : (ai_w u S V)[q]? = some (u.2.2.1 q, ai_c u.2.2.1 u.2.2.2.1 S V q e) := by
  simp [ai_w, List.getElem?_mapIdx, h]
theorem ai_w_of {u : ai_U} {S : ai_S} {V : ai_V} {q : Nat} {x : Nat × va_E} (h : (ai_w u S V)[q]? = some x) : q < u.2.2.2.2.length ∧ x.1 = u.2.2.1 q := by
  simp only [ai_w, List.getElem?_mapIdx] at h
  cases he : u.2.2.2.2[q]? with
  | none => rw [he] at h; cases h
  | some e =>
    rw [he] at h
    cases h
    exact ⟨(List.getElem?_eq_some_iff.mp he).1, rfl⟩
/-- an int field is put -/
theorem ai_w_put {u : ai_U} {S : ai_S} {V : ai_V} {q k ci : Nat} {ks : List Nat} {x : Int32} (hq : u.2.2.2.2[q]? = some (.inr (ci, ks))) (hk : ks[k]? = some 0) :
    (ai_w u S V).set q (u.2.2.1 q, .inr (ci, (ks.mapIdx (fun k t => ai_f u.2.2.1 S V q k t)).set k (.int x))) = ai_w u (ai_up S q k x) V := by
  have hl := (List.getElem?_eq_some_iff.mp hq).1
  have hkl := (List.getElem?_eq_some_iff.mp hk).1
  apply List.ext_getElem?
  intro i
  by_cases hi : i = q
  · subst hi
    rw [List.getElem?_set_self (by simpa [ai_w] using hl), ai_w_at hq]
    congr 2
    show (Sum.inr _ : va_E) = Sum.inr _
    congr 2
    apply List.ext_getElem?
    intro j
    by_cases hj : j = k
    · subst hj
      rw [List.getElem?_set_self (by simpa using hkl)]
      simp [List.getElem?_mapIdx, hk, ai_f, ai_up_s]
    · rw [List.getElem?_set_ne (Ne.symm hj)]
      simp only [List.getElem?_mapIdx]
      cases ks[j]? with
      | none => rfl
      | some t =>
        match t with
        | 0 => simp [ai_f, ai_up_n (S := S) (q := i) (k := k) (i := i) (j := j) (x := x) (fun h => hj h.2)]
        | 1 => rfl
        | t + 2 => rfl
  · rw [List.getElem?_set_ne (Ne.symm hi)]
    simp only [ai_w, List.getElem?_mapIdx]
    cases u.2.2.2.2[i]? with
    | none => rfl
    | some e =>
      have e1 : ai_up S q k x i = S i := ai_up_o hi
      cases e with
      | inl a => simp [ai_c, e1]
      | inr o =>
        simp only [ai_c, Option.map_some]
        congr 4
        refine congrArg (fun g => List.mapIdx g o.2) ?_
        funext j t
        match t with
        | 0 => simp [ai_f, e1]
        | 1 => rfl
        | t + 2 => rfl
/-- a reference field is put -/
theorem ai_w_putV {u : ai_U} {S : ai_S} {V : ai_V} {q k ci : Nat} {ks : List Nat} {x : Value} (hq : u.2.2.2.2[q]? = some (.inr (ci, ks))) (hk : ks[k]? = some 1) :
    (ai_w u S V).set q (u.2.2.1 q, .inr (ci, (ks.mapIdx (fun k t => ai_f u.2.2.1 S V q k t)).set k (ai_v u.2.2.1 x))) = ai_w u S (ai_uv V q k x) := by
  have hl := (List.getElem?_eq_some_iff.mp hq).1
  have hkl := (List.getElem?_eq_some_iff.mp hk).1
  apply List.ext_getElem?
  intro i
  by_cases hi : i = q
  · subst hi
    rw [List.getElem?_set_self (by simpa [ai_w] using hl), ai_w_at hq]
    congr 2
    show (Sum.inr _ : va_E) = Sum.inr _
    congr 2
    apply List.ext_getElem?
    intro j
    by_cases hj : j = k
    · subst hj
      rw [List.getElem?_set_self (by simpa using hkl)]
      simp [List.getElem?_mapIdx, hk, ai_f, ai_uv, updV]
    · rw [List.getElem?_set_ne (Ne.symm hj)]
      simp only [List.getElem?_mapIdx]
      cases ks[j]? with
      | none => rfl
      | some t =>
        match t with
        | 0 => rfl
        | 1 => simp [ai_f, ai_uv, updV, hj]
        | t + 2 => rfl
  · rw [List.getElem?_set_ne (Ne.symm hi)]
    simp only [ai_w, List.getElem?_mapIdx]
    cases u.2.2.2.2[i]? with
    | none => rfl
    | some e =>
      have e1 : ai_uv V q k x i = V i := by simp [ai_uv, hi]
      cases e with
      | inl a => rfl
      | inr o =>
        simp only [ai_c, Option.map_some]
        congr 4
        refine congrArg (fun g => List.mapIdx g o.2) ?_
        funext j t
        match t with
        | 0 => rfl
        | 1 => simp [ai_f, e1]
        | t + 2 => rfl
/-- an element is put -/
theorem ai_w_ast {u : ai_U} {S : ai_S} {V : ai_V} {q k t n : Nat} {x : Int32} (hq : u.2.2.2.2[q]? = some (.inl (t, n))) :
    (ai_w u S V).set q (u.2.2.1 q, .inl (u.2.2.2.1 t, n, .inl (upd (S q) k x))) = ai_w u (ai_up S q k x) V := by
  have hl := (List.getElem?_eq_some_iff.mp hq).1
  apply List.ext_getElem?
  intro i
  by_cases hi : i = q
  · subst hi
    rw [List.getElem?_set_self (by simpa [ai_w] using hl), ai_w_at hq]
    simp [ai_c, ai_up_q]
  · rw [List.getElem?_set_ne (Ne.symm hi)]
    simp only [ai_w, List.getElem?_mapIdx]
    cases u.2.2.2.2[i]? with
    | none => rfl
    | some e =>
      have e1 : ai_up S q k x i = S i := ai_up_o hi
      cases e with
      | inl a => simp [ai_c, e1]
      | inr o =>
        simp only [ai_c, Option.map_some]
        congr 4
        refine congrArg (fun g => List.mapIdx g o.2) ?_
        funext j t
        match t with
        | 0 => simp [ai_f, e1]
        | 1 => rfl
        | t + 2 => rfl
/-- the cells are apart, and of a kind -/
def ai_D (u : ai_U) (A : Nat → Prop) : Prop := (∀ i j : Nat, i < u.2.2.2.2.length → j < u.2.2.2.2.length → u.2.2.1 i = u.2.2.1 j → i = j) ∧ ∀ i : Nat, i < u.2.2.2.2.length → A (u.2.2.1 i)
theorem ai_D.va {u : ai_U} {A : Nat → Prop} (h : ai_D u A) (S : ai_S) (V : ai_V) : va_D A (ai_w u S V) := by
  refine ⟨fun i j x y hi hj hxy => ?_, fun i x hi => ?_⟩
  · obtain ⟨h1, h2⟩ := ai_w_of hi
    obtain ⟨h3, h4⟩ := ai_w_of hj
    exact h.1 i j h1 h3 (by rw [← h2, ← h4]; exact hxy)
  · obtain ⟨h1, h2⟩ := ai_w_of hi
    rw [h2]
    exact h.2 i h1
/-- the words that every method here may use; those on nest mates apart -/
def ai_ws : List Cond := lw_tbl.filter goodWord
def ai_isN : Cond → Bool
  | .fieldLinkNest .. => true
  | _ => false
def ai_nw : List Cond := tables_1.filter ai_isN
theorem ai_in {w : Cond} (i : Nat) (h : lw_tbl[i]? = some w) (g : goodWord w = true) : w ∈ ai_ws := List.mem_filter.mpr ⟨List.mem_of_getElem? h, g⟩
theorem ai_inN {w : Cond} (i : Nat) (h : tables_1[i]? = some w) (g : ai_isN w = true) : w ∈ ai_nw := List.mem_filter.mpr ⟨List.mem_of_getElem? h, g⟩
theorem ai_good {y : Cond} (h : y ∈ ai_ws) {z : Cond} : GoodIn (z :: ai_ws) (y :: ai_ws) := by
  intro w hw
  have h1 : w ∈ ai_ws := by
    rcases List.mem_cons.mp hw with h2 | h2
    · rw [h2]; exact h
    · exact h2
  exact ⟨List.mem_cons_of_mem _ h1, good_of_word (List.mem_filter.mp h1).2⟩
def ai_tys (u : ai_U) : List (ClassId × FieldType) := [(u.2.2.2.1 0, .int), (u.2.2.2.1 1, .char)]
def ai_K (u : ai_U) (s : State) : Prop := va_K u.2.1 vwCl (ai_tys u) s ∧ ∀ w ∈ ai_nw, va_Nw w s
theorem ai_K.warm {u : ai_U} {s U : State} (h : ai_K u s) (hW : s.WarmedH U.vm) : ai_K u U := by
  refine ⟨va_K.moved hW.alike h.1, fun w hw => ?_⟩
  have h1 := h.2 w hw
  have h2 := (List.mem_filter.mp hw).2
  cases w <;> first | exact va_Nw.warmF hW h1 | (simp [ai_isN] at h2; done)
theorem ai_K.same {u : ai_U} {s U : State} (h : ai_K u s) (hW : s.vm = U.vm) : ai_K u U := by
  refine ⟨va_K.moved (by rw [hW]; exact Vm.Alike.refl _) h.1, fun w hw => ?_⟩
  have h1 := h.2 w hw
  have h2 := (List.mem_filter.mp hw).2
  refine va_Nw.same ?_ hW h1
  cases w <;> first | rfl | (simp [ai_isN] at h2; done)
def ai_rm (d : Nat) : Room := { frames := d, cells := 0, slots := 0, locals := 45 * d }
/-- what holds of a method's frame -/
def ai_X (u : ai_U) (M : ai_M) (p : Program) (s : State) (m : MethodId) (args : Array Value) (meth : Method) (c : Code) : Prop :=
  p.tables.exec = Jvm.exec ∧ c.code = M.2.1 ∧ c.maxLocals = M.2.2.1 ∧ meth.sig.returnType = M.2.2.2 ∧ s.vm.findClass M.1.cls = some m.cls ∧ (∀ w ∈ Cond.code M.1 M.2.1 M.2.2.1 M.2.2.2 :: ai_ws, w.before args s = true) ∧ meth.locks = false ∧ ai_K u s
def ai_Q (u : ai_U) (A : Nat → Prop) (Q : ai_P) : Array Value → State → Outcome → State → Prop := fun _ st oc t =>
  (∃ (r : Option Value) (S' : ai_S) (V' : ai_V), oc = .returned (r.map (ai_v u.2.2.1)) ∧ Q r S' V' ∧ va_P u.2.1 vwCl (ai_w u S' V') t.heap) ∧ va_F A st t
def ai_lv (u : ai_U) (lv : List (Nat × Value)) : List (Nat × Value) := lv.map (fun q => (q.1, ai_v u.2.2.1 q.2))
/-- from here the method comes to its end, with Q of its answer and the memory behind it -/
def ai_W (u : ai_U) (d : Nat) (M : ai_M) (pc : Nat) (lv : List (Nat × Value)) (st : List Value) (S : ai_S) (V : ai_V) (Q : ai_P) : Prop :=
  ∀ (p : Program) (e : Env) (s : State) (m : MethodId) (args : Array Value) (below : List Frame) (meth : Method) (c : Code) (A : Nat → Prop) (H : Heap) (locs : List Loc) (ls : Array Slot),
    ai_X u M p s m args meth c → (∀ q : Nat, s.heap.size ≤ q → A q) → va_P u.2.1 vwCl (ai_w u S V) H → ai_D u A → va_S A s.heap H locs → lv_has ls M.2.2.1 (ai_lv u lv) →
      W p u.1 e (ai_rm d) s m args below meth c H locs 0 0 (MQ below (ai_Q u A Q) args s 0 0 A) (F0 m pc ls (st.map (ai_v u.2.2.1)))
def ai_Pc (u : ai_U) (as : List Value) (sz : Nat) (S : ai_S) (V : ai_V) : Array Value → State → Prop := va_Pc (as.map (ai_v u.2.2.1)) (fun U => U.heap.size = sz ∧ va_P u.2.1 vwCl (ai_w u S V) U.heap ∧ ai_K u U ∧ ai_D u (fun _ => True))
/-- a method's contract -/
def ai_met (u : ai_U) (d : Nat) (M : ai_M) (as : List Value) (S : ai_S) (V : ai_V) (Q : ai_P) : Prop :=
  ∀ sz : Nat, Met u.1 M.1 (Cond.code M.1 M.2.1 M.2.2.1 M.2.2.2 :: ai_ws) (ai_rm d) (ai_Pc u as sz S V) (ai_Q u (va_A (ai_w u S V) sz) Q) 0 0 (va_A (ai_w u S V) sz)
theorem ai_args_map (ρ : Nat → Nat) : ∀ (as : List Value) (i : Nat), lv_args i (as.map (ai_v ρ)) = (lv_args i as).map (fun q => (q.1, ai_v ρ q.2))
  | [], _ => rfl
  | v :: vs, i => by
    simp only [List.map_cons, lv_args, ai_v_cat, ai_args_map ρ vs]
theorem ai_sl_len (ρ : Nat → Nat) : ∀ (as : List Value), (lg_sl (as.map (ai_v ρ))).length = (lg_sl as).length
  | [] => rfl
  | v :: vs => by
    have := ai_sl_len ρ vs
    simp only [lg_sl, List.map_cons, List.flatMap_cons, List.length_append, ai_v_cat] at this ⊢
    rw [this]
    split <;> rfl
theorem ai_met_of {u : ai_U} {d : Nat} {M : ai_M} {as : List Value} {S : ai_S} {V : ai_V} {Q : ai_P} (hy : plainName M.1.cls = true) (hl : (lg_sl as).length ≤ M.2.2.1) (h : ai_W u d M 0 (lv_args 0 as) [] S V Q) : ai_met u d M as S V Q := by
  intro sz
  refine Met.ofW (cc := M.2.1) (maxL := M.2.2.1) (ret := M.2.2.2) hy rfl ?_
  intro p e s m args below meth c s₁ B hml hv
  obtain ⟨rfl, hsz, hP, hK, hD⟩ := hv
  subst hsz
  have hl' := lv_entry (as.map (ai_v u.2.2.1)) (n := M.2.2.1) (by rw [ai_sl_len]; exact hl)
  rw [lg_entry_eq]
  rw [ai_args_map] at hl'
  refine h p e s m _ below meth c (va_A (ai_w u S V) s.heap.size) s.heap [] _ ⟨B.exec, B.bytes, hml, B.returns, findClass_of_methodNamed B.named, atoms_spec (ws := Cond.code M.1 M.2.1 M.2.2.1 M.2.2.2 :: ai_ws) B.pre, B.notSynchronized, hK⟩ (fun q h => Or.inr h) hP ⟨hD.1, fun i hi => ?_⟩ va_S.rf hl'
  exact Or.inl ⟨i, _, ai_w_at (List.getElem?_eq_getElem hi)⟩
theorem ai_W.mono {u : ai_U} {d : Nat} {M : ai_M} {pc : Nat} {lv : List (Nat × Value)} {st : List Value} {S : ai_S} {V : ai_V} {Q Q' : ai_P} (h : ai_W u d M pc lv st S V Q) (hQ : ∀ r S' V', Q r S' V' → Q' r S' V') : ai_W u d M pc lv st S V Q' := by
  intro p e s m args below meth c A H locs ls X hA hP hD hS hl T hT Y
  obtain ⟨t, a, o, b1, b2, ⟨⟨r, S', V', c1, c2, c3⟩, c4⟩, b4⟩ := h p e s m args below meth c A H locs ls X hA hP hD hS hl T hT Y
  exact ⟨t, a, o, b1, b2, ⟨⟨r, S', V', c1, hQ _ _ _ c2, c3⟩, c4⟩, b4⟩
theorem ai_met.mono {u : ai_U} {d : Nat} {M : ai_M} {as : List Value} {S : ai_S} {V : ai_V} {Q Q' : ai_P} (h : ai_met u d M as S V Q) (hQ : ∀ r S' V', Q r S' V' → Q' r S' V') : ai_met u d M as S V Q' := by
  intro sz p e ha hc hk s m args below hf h1 h2 h3
  obtain ⟨k, o, a1, a2, a3, ⟨⟨r, S', V', c1, c2, c3⟩, c4⟩, b4⟩ := h sz p e ha hc hk s m args below hf h1 h2 h3
  exact ⟨k, o, a1, a2, a3, ⟨⟨r, S', V', c1, hQ _ _ _ c2, c3⟩, c4⟩, b4⟩
end
section
/-! ===== a row an instruction ===== -/
section AIR
variable {u : ai_U} {d : Nat} {M : ai_M} {pc : Nat} {lv : List (Nat × Value)} {st : List Value} {S : ai_S} {V : ai_V} {Q : ai_P}
theorem ai_lv_at {u : ai_U} {ls : Array Slot} {n i : Nat} {lv : List (Nat × Value)} {v : Value} (h : lv_has ls n (ai_lv u lv)) (k : Nat) (hk : lv[k]? = some (i, v)) : ls[i]? = some (.val (ai_v u.2.2.1 v)) :=
  lv_at h k (by simp [ai_lv, hk])
theorem ai_lv_sub {u : ai_U} {ls : Array Slot} {n : Nat} {lv lv' : List (Nat × Value)} (h : lv_has ls n (ai_lv u lv)) (hs : ∀ q ∈ lv', q ∈ lv) : lv_has ls n (ai_lv u lv') := by
  refine ⟨h.1, h.2.1, fun q hq => h.2.2 q ?_⟩
  obtain ⟨x, hx, rfl⟩ := List.mem_map.mp hq
  exact List.mem_map.mpr ⟨x, hs x hx, rfl⟩
/-- other locals, all of them among those that are known -/
theorem ai_loc (lv' : List (Nat × Value)) (hs : ∀ q ∈ lv', q ∈ lv) (k : ai_W u d M pc lv' st S V Q) : ai_W u d M pc lv st S V Q :=
  fun p e s m args below meth c A H locs ls X hA hP hD hS hl => k p e s m args below meth c A H locs ls X hA hP hD hS (ai_lv_sub hl hs)
theorem ai_iconst {n : Int} {v : Int32} (h : decode M.2.1 pc = .ok (.iconst n, 1)) (hv : Int32.ofInt n = v) (k : ai_W u d M (pc + 1) lv (.int v :: st) S V Q) : ai_W u d M pc lv st S V Q :=
  fun p e s m args below meth c A H locs ls X hA hP hD hS hl => lv_iconst X.1 X.2.1 h hv (k p e s m args below meth c A H locs ls X hA hP hD hS hl)
theorem ai_bipush {n : Int} {v : Int32} (h : decode M.2.1 pc = .ok (.bipush n, 2)) (hv : (Int8.ofInt n).toInt32 = v) (k : ai_W u d M (pc + 2) lv (.int v :: st) S V Q) : ai_W u d M pc lv st S V Q :=
  fun p e s m args below meth c A H locs ls X hA hP hD hS hl => lv_bipush X.1 X.2.1 h hv (k p e s m args below meth c A H locs ls X hA hP hD hS hl)
theorem ai_sipush {n : Int} {v : Int32} (h : decode M.2.1 pc = .ok (.sipush n, 3)) (hv : (Int16.ofInt n).toInt32 = v) (k : ai_W u d M (pc + 3) lv (.int v :: st) S V Q) : ai_W u d M pc lv st S V Q :=
  fun p e s m args below meth c A H locs ls X hA hP hD hS hl => lv_sipush X.1 X.2.1 h hv (k p e s m args below meth c A H locs ls X hA hP hD hS hl)
theorem ai_ldc {idx : Nat} {v : Int32} (h : decode M.2.1 pc = .ok (.ldc idx, 2)) (hc : Cond.constant M.1.cls idx v ∈ ai_ws) (k : ai_W u d M (pc + 2) lv (.int v :: st) S V Q) : ai_W u d M pc lv st S V Q :=
  fun p e s m args below meth c A H locs ls X hA hP hD hS hl => lv_ldc X.1 X.2.1 X.2.2.2.2.1 (X.2.2.2.2.2.1 _ (List.mem_cons_of_mem _ hc)) h (k p e s m args below meth c A H locs ls X hA hP hD hS hl)
theorem ai_ldcw {idx : Nat} {v : Int32} (h : decode M.2.1 pc = .ok (.ldc_w idx, 3)) (hc : Cond.constant M.1.cls idx v ∈ ai_ws) (k : ai_W u d M (pc + 3) lv (.int v :: st) S V Q) : ai_W u d M pc lv st S V Q :=
  fun p e s m args below meth c A H locs ls X hA hP hD hS hl => lv_ldcw X.1 X.2.1 X.2.2.2.2.1 (X.2.2.2.2.2.1 _ (List.mem_cons_of_mem _ hc)) h (k p e s m args below meth c A H locs ls X hA hP hD hS hl)
theorem ai_ldc2 {idx : Nat} {v : Int64} (h : decode M.2.1 pc = .ok (.ldc2_w idx, 3)) (hc : Cond.constantLong M.1.cls idx v ∈ ai_ws) (k : ai_W u d M (pc + 3) lv (.long v :: st) S V Q) : ai_W u d M pc lv st S V Q :=
  fun p e s m args below meth c A H locs ls X hA hP hD hS hl => lv_ldc2 X.1 X.2.1 X.2.2.2.2.1 (X.2.2.2.2.2.1 _ (List.mem_cons_of_mem _ hc)) h (k p e s m args below meth c A H locs ls X hA hP hD hS hl)
theorem ai_iload {i j : Nat} {x : Int32} (h : decode M.2.1 pc = .ok (.iload i, 2)) (hj : lv[j]? = some (i, .int x)) (k : ai_W u d M (pc + 2) lv (.int x :: st) S V Q) : ai_W u d M pc lv st S V Q :=
  fun p e s m args below meth c A H locs ls X hA hP hD hS hl => lv_iload X.1 X.2.1 h (ai_lv_at hl j hj) (k p e s m args below meth c A H locs ls X hA hP hD hS hl)
theorem ai_iload_n {n : Fin 4} {i j : Nat} {x : Int32} (h : decode M.2.1 pc = .ok (.iload_n n, 1)) (hi : (n : Nat) = i) (hj : lv[j]? = some (i, .int x)) (k : ai_W u d M (pc + 1) lv (.int x :: st) S V Q) : ai_W u d M pc lv st S V Q :=
  fun p e s m args below meth c A H locs ls X hA hP hD hS hl => lv_iload_n X.1 X.2.1 h hi (ai_lv_at hl j hj) (k p e s m args below meth c A H locs ls X hA hP hD hS hl)
theorem ai_lload_n {n : Fin 4} {i j : Nat} {x : Int64} (h : decode M.2.1 pc = .ok (.lload_n n, 1)) (hi : (n : Nat) = i) (hj : lv[j]? = some (i, .long x)) (k : ai_W u d M (pc + 1) lv (.long x :: st) S V Q) : ai_W u d M pc lv st S V Q :=
  fun p e s m args below meth c A H locs ls X hA hP hD hS hl => lv_lload_n X.1 X.2.1 h hi (ai_lv_at hl j hj) (k p e s m args below meth c A H locs ls X hA hP hD hS hl)
theorem ai_aload {i j : Nat} {x : Nat} (h : decode M.2.1 pc = .ok (.aload i, 2)) (hj : lv[j]? = some (i, .ref x)) (k : ai_W u d M (pc + 2) lv (.ref x :: st) S V Q) : ai_W u d M pc lv st S V Q :=
  fun p e s m args below meth c A H locs ls X hA hP hD hS hl => lv_aload X.1 X.2.1 h (ai_lv_at hl j hj) (k p e s m args below meth c A H locs ls X hA hP hD hS hl)
theorem ai_aload_n {n : Fin 4} {i j : Nat} {x : Nat} (h : decode M.2.1 pc = .ok (.aload_n n, 1)) (hi : (n : Nat) = i) (hj : lv[j]? = some (i, .ref x)) (k : ai_W u d M (pc + 1) lv (.ref x :: st) S V Q) : ai_W u d M pc lv st S V Q :=
  fun p e s m args below meth c A H locs ls X hA hP hD hS hl => lv_aload_n X.1 X.2.1 h hi (ai_lv_at hl j hj) (k p e s m args below meth c A H locs ls X hA hP hD hS hl)
/-- a store: the locals behind it -/
def ai_st (lv : List (Nat × Value)) (i : Nat) (v : Value) : List (Nat × Value) := (i, v) :: lv.filter (fun q => !(q.1 == i) && !(q.1 + 1 == i && q.2.category == 2))
theorem ai_st_map (u : ai_U) (lv : List (Nat × Value)) (i : Nat) (v : Value) : (i, ai_v u.2.2.1 v) :: (ai_lv u lv).filter (fun q => !(q.1 == i) && !(q.1 + 1 == i && q.2.category == 2)) = ai_lv u (ai_st lv i v) := by
  simp only [ai_lv, ai_st, List.map_cons, List.filter_map]
  congr 2
  apply List.filter_congr
  intro x _
  simp [Function.comp, ai_v_cat]
theorem ai_istore {i : Nat} {x : Int32} {lv' : List (Nat × Value)} (h : decode M.2.1 pc = .ok (.istore i, 2)) (hi : i < M.2.2.1) (hl' : ai_st lv i (.int x) = lv') (k : ai_W u d M (pc + 2) lv' st S V Q) : ai_W u d M pc lv (.int x :: st) S V Q :=
  fun p e s m args below meth c A H locs ls X hA hP hD hS hl => lv_istore X.1 X.2.1 h hl hi (ai_st_map u lv i (.int x)) (fun ls' h' => k p e s m args below meth c A H locs ls' X hA hP hD hS (hl' ▸ h'))
theorem ai_istore_n {n : Fin 4} {i : Nat} {x : Int32} {lv' : List (Nat × Value)} (h : decode M.2.1 pc = .ok (.istore_n n, 1)) (hn : (n : Nat) = i) (hi : i < M.2.2.1) (hl' : ai_st lv i (.int x) = lv') (k : ai_W u d M (pc + 1) lv' st S V Q) : ai_W u d M pc lv (.int x :: st) S V Q :=
  fun p e s m args below meth c A H locs ls X hA hP hD hS hl => lv_istore_n X.1 X.2.1 h hn hl hi (ai_st_map u lv i (.int x)) (fun ls' h' => k p e s m args below meth c A H locs ls' X hA hP hD hS (hl' ▸ h'))
theorem ai_astore_n {n : Fin 4} {i : Nat} {x : Nat} {lv' : List (Nat × Value)} (h : decode M.2.1 pc = .ok (.astore_n n, 1)) (hn : (n : Nat) = i) (hi : i < M.2.2.1) (hl' : ai_st lv i (.ref x) = lv') (k : ai_W u d M (pc + 1) lv' st S V Q) : ai_W u d M pc lv (.ref x :: st) S V Q :=
  fun p e s m args below meth c A H locs ls X hA hP hD hS hl => lv_astore_n X.1 X.2.1 h hn hl hi (ai_st_map u lv i (.ref x)) (fun ls' h' => k p e s m args below meth c A H locs ls' X hA hP hD hS (hl' ▸ h'))
theorem ai_iinc {i j : Nat} {n : Int} {x v : Int32} {lv' : List (Nat × Value)} (h : decode M.2.1 pc = .ok (.iinc i n, 3)) (hj : lv[j]? = some (i, .int x)) (hv : x + Int32.ofInt n = v) (hi : i < M.2.2.1) (hl' : ai_st lv i (.int v) = lv') (k : ai_W u d M (pc + 3) lv' st S V Q) : ai_W u d M pc lv st S V Q :=
  fun p e s m args below meth c A H locs ls X hA hP hD hS hl => lv_iinc (k := j) (v := v) X.1 X.2.1 h hl (by simp [ai_lv, hj, ai_v]) hv hi (ai_st_map u lv i (.int v)) (fun ls' h' => k p e s m args below meth c A H locs ls' X hA hP hD hS (hl' ▸ h'))
theorem ai_iadd {x y : Int32} (h : decode M.2.1 pc = .ok (.iadd, 1)) (k : ai_W u d M (pc + 1) lv (.int (x + y) :: st) S V Q) : ai_W u d M pc lv (.int y :: .int x :: st) S V Q :=
  fun p e s m args below meth c A H locs ls X hA hP hD hS hl => lv_iadd X.1 X.2.1 h (k p e s m args below meth c A H locs ls X hA hP hD hS hl)
theorem ai_isub {x y : Int32} (h : decode M.2.1 pc = .ok (.isub, 1)) (k : ai_W u d M (pc + 1) lv (.int (x - y) :: st) S V Q) : ai_W u d M pc lv (.int y :: .int x :: st) S V Q :=
  fun p e s m args below meth c A H locs ls X hA hP hD hS hl => lv_isub X.1 X.2.1 h (k p e s m args below meth c A H locs ls X hA hP hD hS hl)
theorem ai_imul {x y : Int32} (h : decode M.2.1 pc = .ok (.imul, 1)) (k : ai_W u d M (pc + 1) lv (.int (x * y) :: st) S V Q) : ai_W u d M pc lv (.int y :: .int x :: st) S V Q :=
  fun p e s m args below meth c A H locs ls X hA hP hD hS hl => lv_imul X.1 X.2.1 h (k p e s m args below meth c A H locs ls X hA hP hD hS hl)
theorem ai_iand {x y : Int32} (h : decode M.2.1 pc = .ok (.iand, 1)) (k : ai_W u d M (pc + 1) lv (.int (x &&& y) :: st) S V Q) : ai_W u d M pc lv (.int y :: .int x :: st) S V Q :=
  fun p e s m args below meth c A H locs ls X hA hP hD hS hl => lv_iand X.1 X.2.1 h (k p e s m args below meth c A H locs ls X hA hP hD hS hl)
theorem ai_ior {x y : Int32} (h : decode M.2.1 pc = .ok (.ior, 1)) (k : ai_W u d M (pc + 1) lv (.int (x ||| y) :: st) S V Q) : ai_W u d M pc lv (.int y :: .int x :: st) S V Q :=
  fun p e s m args below meth c A H locs ls X hA hP hD hS hl => lv_ior X.1 X.2.1 h (k p e s m args below meth c A H locs ls X hA hP hD hS hl)
theorem ai_ishl {x y : Int32} (h : decode M.2.1 pc = .ok (.ishl, 1)) (k : ai_W u d M (pc + 1) lv (.int (x <<< (y &&& 31)) :: st) S V Q) : ai_W u d M pc lv (.int y :: .int x :: st) S V Q :=
  fun p e s m args below meth c A H locs ls X hA hP hD hS hl => lv_ishl X.1 X.2.1 h (k p e s m args below meth c A H locs ls X hA hP hD hS hl)
theorem ai_ishr {x y : Int32} (h : decode M.2.1 pc = .ok (.ishr, 1)) (k : ai_W u d M (pc + 1) lv (.int (x >>> (y &&& 31)) :: st) S V Q) : ai_W u d M pc lv (.int y :: .int x :: st) S V Q :=
  fun p e s m args below meth c A H locs ls X hA hP hD hS hl => lv_ishr X.1 X.2.1 h (k p e s m args below meth c A H locs ls X hA hP hD hS hl)
theorem ai_lshr {x : Int64} {y : Int32} (h : decode M.2.1 pc = .ok (.lshr, 1)) (k : ai_W u d M (pc + 1) lv (.long (x >>> (y.toInt64 &&& 63)) :: st) S V Q) : ai_W u d M pc lv (.int y :: .long x :: st) S V Q :=
  fun p e s m args below meth c A H locs ls X hA hP hD hS hl => lv_lshr X.1 X.2.1 h rfl (k p e s m args below meth c A H locs ls X hA hP hD hS hl)
theorem ai_lushr {x : Int64} {y : Int32} (h : decode M.2.1 pc = .ok (.lushr, 1)) (k : ai_W u d M (pc + 1) lv (.long ((x.toUInt64 >>> (y.toInt64.toUInt64 &&& Int64.toUInt64 63)).toInt64) :: st) S V Q) : ai_W u d M pc lv (.int y :: .long x :: st) S V Q :=
  fun p e s m args below meth c A H locs ls X hA hP hD hS hl => lv_lushr X.1 X.2.1 h rfl (k p e s m args below meth c A H locs ls X hA hP hD hS hl)
theorem ai_i2l {x : Int32} (h : decode M.2.1 pc = .ok (.i2l, 1)) (k : ai_W u d M (pc + 1) lv (.long x.toInt64 :: st) S V Q) : ai_W u d M pc lv (.int x :: st) S V Q :=
  fun p e s m args below meth c A H locs ls X hA hP hD hS hl => lv_i2l X.1 X.2.1 h rfl (k p e s m args below meth c A H locs ls X hA hP hD hS hl)
theorem ai_l2i {x : Int64} (h : decode M.2.1 pc = .ok (.l2i, 1)) (k : ai_W u d M (pc + 1) lv (.int x.toInt32 :: st) S V Q) : ai_W u d M pc lv (.long x :: st) S V Q :=
  fun p e s m args below meth c A H locs ls X hA hP hD hS hl => lv_l2i X.1 X.2.1 h rfl (k p e s m args below meth c A H locs ls X hA hP hD hS hl)
theorem ai_i2c {x : Int32} (h : decode M.2.1 pc = .ok (.i2c, 1)) (k : ai_W u d M (pc + 1) lv (.int (x.toUInt32 % 65536).toInt32 :: st) S V Q) : ai_W u d M pc lv (.int x :: st) S V Q :=
  fun p e s m args below meth c A H locs ls X hA hP hD hS hl => lv_i2c X.1 X.2.1 h rfl (k p e s m args below meth c A H locs ls X hA hP hD hS hl)
theorem ai_dup {v : Value} (h : decode M.2.1 pc = .ok (.dup, 1)) (hv : v.category = 1) (k : ai_W u d M (pc + 1) lv (v :: v :: st) S V Q) : ai_W u d M pc lv (v :: st) S V Q :=
  fun p e s m args below meth c A H locs ls X hA hP hD hS hl => lv_dup X.1 X.2.1 h (by rw [ai_v_cat]; exact hv) (k p e s m args below meth c A H locs ls X hA hP hD hS hl)
theorem ai_dup2 {v w : Value} (h : decode M.2.1 pc = .ok (.dup2, 1)) (hv : v.category = 1) (hw : w.category = 1) (k : ai_W u d M (pc + 1) lv (v :: w :: v :: w :: st) S V Q) : ai_W u d M pc lv (v :: w :: st) S V Q :=
  fun p e s m args below meth c A H locs ls X hA hP hD hS hl => lv_dup2_11 X.1 X.2.1 h (by rw [ai_v_cat]; exact hv) (by rw [ai_v_cat]; exact hw) (k p e s m args below meth c A H locs ls X hA hP hD hS hl)
theorem ai_pop {v : Value} (h : decode M.2.1 pc = .ok (.pop, 1)) (hv : v.category = 1) (k : ai_W u d M (pc + 1) lv st S V Q) : ai_W u d M pc lv (v :: st) S V Q :=
  fun p e s m args below meth c A H locs ls X hA hP hD hS hl => lv_pop X.1 X.2.1 h (by rw [ai_v_cat]; exact hv) (k p e s m args below meth c A H locs ls X hA hP hD hS hl)
theorem ai_goto {off : Int} {tgt : Nat} (h : decode M.2.1 pc = .ok (.goto off, 3)) (ht : (pc : Int) + off = (tgt : Int)) (k : ai_W u d M tgt lv st S V Q) : ai_W u d M pc lv st S V Q :=
  fun p e s m args below meth c A H locs ls X hA hP hD hS hl => lv_goto X.1 X.2.1 h ht (k p e s m args below meth c A H locs ls X hA hP hD hS hl)
theorem ai_if_eq {x : Int32} {off : Int} {tgt : Nat} (h : decode M.2.1 pc = .ok (.ifCond .eq off, 3)) (ht : (pc : Int) + off = (tgt : Int)) (kk : (x = 0 → ai_W u d M tgt lv st S V Q) ∧ (¬ x = 0 → ai_W u d M (pc + 3) lv st S V Q)) : ai_W u d M pc lv (.int x :: st) S V Q :=
  fun p e s m args below meth c A H locs ls X hA hP hD hS hl => lv_if_eq X.1 X.2.1 h ht (fun hc => kk.1 hc p e s m args below meth c A H locs ls X hA hP hD hS hl) (fun hc => kk.2 hc p e s m args below meth c A H locs ls X hA hP hD hS hl)
theorem ai_if_ne {x : Int32} {off : Int} {tgt : Nat} (h : decode M.2.1 pc = .ok (.ifCond .ne off, 3)) (ht : (pc : Int) + off = (tgt : Int)) (kk : (¬ x = 0 → ai_W u d M tgt lv st S V Q) ∧ (x = 0 → ai_W u d M (pc + 3) lv st S V Q)) : ai_W u d M pc lv (.int x :: st) S V Q :=
  fun p e s m args below meth c A H locs ls X hA hP hD hS hl => lv_if_ne X.1 X.2.1 h ht (fun hc => kk.1 hc p e s m args below meth c A H locs ls X hA hP hD hS hl) (fun hc => kk.2 hc p e s m args below meth c A H locs ls X hA hP hD hS hl)
theorem ai_if_lt {x : Int32} {off : Int} {tgt : Nat} (h : decode M.2.1 pc = .ok (.ifCond .lt off, 3)) (ht : (pc : Int) + off = (tgt : Int)) (kk : (x < 0 → ai_W u d M tgt lv st S V Q) ∧ (¬ x < 0 → ai_W u d M (pc + 3) lv st S V Q)) : ai_W u d M pc lv (.int x :: st) S V Q :=
  fun p e s m args below meth c A H locs ls X hA hP hD hS hl => lv_if_lt X.1 X.2.1 h ht (fun hc => kk.1 hc p e s m args below meth c A H locs ls X hA hP hD hS hl) (fun hc => kk.2 hc p e s m args below meth c A H locs ls X hA hP hD hS hl)
theorem ai_if_ge {x : Int32} {off : Int} {tgt : Nat} (h : decode M.2.1 pc = .ok (.ifCond .ge off, 3)) (ht : (pc : Int) + off = (tgt : Int)) (kk : (0 ≤ x → ai_W u d M tgt lv st S V Q) ∧ (¬ 0 ≤ x → ai_W u d M (pc + 3) lv st S V Q)) : ai_W u d M pc lv (.int x :: st) S V Q :=
  fun p e s m args below meth c A H locs ls X hA hP hD hS hl => lv_if_ge X.1 X.2.1 h ht (fun hc => kk.1 hc p e s m args below meth c A H locs ls X hA hP hD hS hl) (fun hc => kk.2 hc p e s m args below meth c A H locs ls X hA hP hD hS hl)
theorem ai_if_gt {x : Int32} {off : Int} {tgt : Nat} (h : decode M.2.1 pc = .ok (.ifCond .gt off, 3)) (ht : (pc : Int) + off = (tgt : Int)) (kk : (0 < x → ai_W u d M tgt lv st S V Q) ∧ (¬ 0 < x → ai_W u d M (pc + 3) lv st S V Q)) : ai_W u d M pc lv (.int x :: st) S V Q :=
  fun p e s m args below meth c A H locs ls X hA hP hD hS hl => lv_if_gt X.1 X.2.1 h ht (fun hc => kk.1 hc p e s m args below meth c A H locs ls X hA hP hD hS hl) (fun hc => kk.2 hc p e s m args below meth c A H locs ls X hA hP hD hS hl)
theorem ai_if_le {x : Int32} {off : Int} {tgt : Nat} (h : decode M.2.1 pc = .ok (.ifCond .le off, 3)) (ht : (pc : Int) + off = (tgt : Int)) (kk : (x ≤ 0 → ai_W u d M tgt lv st S V Q) ∧ (¬ x ≤ 0 → ai_W u d M (pc + 3) lv st S V Q)) : ai_W u d M pc lv (.int x :: st) S V Q :=
  fun p e s m args below meth c A H locs ls X hA hP hD hS hl => lv_if_le X.1 X.2.1 h ht (fun hc => kk.1 hc p e s m args below meth c A H locs ls X hA hP hD hS hl) (fun hc => kk.2 hc p e s m args below meth c A H locs ls X hA hP hD hS hl)
theorem ai_icmp_eq {x y : Int32} {off : Int} {tgt : Nat} (h : decode M.2.1 pc = .ok (.if_icmp .eq off, 3)) (ht : (pc : Int) + off = (tgt : Int)) (kk : (x = y → ai_W u d M tgt lv st S V Q) ∧ (¬ x = y → ai_W u d M (pc + 3) lv st S V Q)) : ai_W u d M pc lv (.int y :: .int x :: st) S V Q :=
  fun p e s m args below meth c A H locs ls X hA hP hD hS hl => lv_icmp_eq X.1 X.2.1 h ht (fun hc => kk.1 hc p e s m args below meth c A H locs ls X hA hP hD hS hl) (fun hc => kk.2 hc p e s m args below meth c A H locs ls X hA hP hD hS hl)
theorem ai_icmp_ne {x y : Int32} {off : Int} {tgt : Nat} (h : decode M.2.1 pc = .ok (.if_icmp .ne off, 3)) (ht : (pc : Int) + off = (tgt : Int)) (kk : (¬ x = y → ai_W u d M tgt lv st S V Q) ∧ (x = y → ai_W u d M (pc + 3) lv st S V Q)) : ai_W u d M pc lv (.int y :: .int x :: st) S V Q :=
  fun p e s m args below meth c A H locs ls X hA hP hD hS hl => lv_icmp_ne X.1 X.2.1 h ht (fun hc => kk.1 hc p e s m args below meth c A H locs ls X hA hP hD hS hl) (fun hc => kk.2 hc p e s m args below meth c A H locs ls X hA hP hD hS hl)
theorem ai_icmp_lt {x y : Int32} {off : Int} {tgt : Nat} (h : decode M.2.1 pc = .ok (.if_icmp .lt off, 3)) (ht : (pc : Int) + off = (tgt : Int)) (kk : (x < y → ai_W u d M tgt lv st S V Q) ∧ (¬ x < y → ai_W u d M (pc + 3) lv st S V Q)) : ai_W u d M pc lv (.int y :: .int x :: st) S V Q :=
  fun p e s m args below meth c A H locs ls X hA hP hD hS hl => lv_icmp_lt X.1 X.2.1 h ht (fun hc => kk.1 hc p e s m args below meth c A H locs ls X hA hP hD hS hl) (fun hc => kk.2 hc p e s m args below meth c A H locs ls X hA hP hD hS hl)
theorem ai_icmp_ge {x y : Int32} {off : Int} {tgt : Nat} (h : decode M.2.1 pc = .ok (.if_icmp .ge off, 3)) (ht : (pc : Int) + off = (tgt : Int)) (kk : (y ≤ x → ai_W u d M tgt lv st S V Q) ∧ (¬ y ≤ x → ai_W u d M (pc + 3) lv st S V Q)) : ai_W u d M pc lv (.int y :: .int x :: st) S V Q :=
  fun p e s m args below meth c A H locs ls X hA hP hD hS hl => lv_icmp_ge X.1 X.2.1 h ht (fun hc => kk.1 hc p e s m args below meth c A H locs ls X hA hP hD hS hl) (fun hc => kk.2 hc p e s m args below meth c A H locs ls X hA hP hD hS hl)
theorem ai_icmp_gt {x y : Int32} {off : Int} {tgt : Nat} (h : decode M.2.1 pc = .ok (.if_icmp .gt off, 3)) (ht : (pc : Int) + off = (tgt : Int)) (kk : (y < x → ai_W u d M tgt lv st S V Q) ∧ (¬ y < x → ai_W u d M (pc + 3) lv st S V Q)) : ai_W u d M pc lv (.int y :: .int x :: st) S V Q :=
  fun p e s m args below meth c A H locs ls X hA hP hD hS hl => lv_icmp_gt X.1 X.2.1 h ht (fun hc => kk.1 hc p e s m args below meth c A H locs ls X hA hP hD hS hl) (fun hc => kk.2 hc p e s m args below meth c A H locs ls X hA hP hD hS hl)
theorem ai_icmp_le {x y : Int32} {off : Int} {tgt : Nat} (h : decode M.2.1 pc = .ok (.if_icmp .le off, 3)) (ht : (pc : Int) + off = (tgt : Int)) (kk : (x ≤ y → ai_W u d M tgt lv st S V Q) ∧ (¬ x ≤ y → ai_W u d M (pc + 3) lv st S V Q)) : ai_W u d M pc lv (.int y :: .int x :: st) S V Q :=
  fun p e s m args below meth c A H locs ls X hA hP hD hS hl => lv_icmp_le X.1 X.2.1 h ht (fun hc => kk.1 hc p e s m args below meth c A H locs ls X hA hP hD hS hl) (fun hc => kk.2 hc p e s m args below meth c A H locs ls X hA hP hD hS hl)
theorem ai_tabOut {dflt lo hi : Int} {offs : Array Int} {len : Nat} {x : Int32} {tgt : Nat} (h : decode M.2.1 pc = .ok (.tableswitch dflt lo hi offs, len)) (hx : x.toInt < lo ∨ hi < x.toInt) (ht : (pc : Int) + dflt = (tgt : Int)) (k : ai_W u d M tgt lv st S V Q) : ai_W u d M pc lv (.int x :: st) S V Q :=
  fun p e s m args below meth c A H locs ls X hA hP hD hS hl => lv_tableOut X.1 X.2.1 h hx ht (k p e s m args below meth c A H locs ls X hA hP hD hS hl)
theorem ai_tabIn {dflt lo hi : Int} {offs : Array Int} {len : Nat} {x : Int32} {off : Int} {tgt : Nat} (h : decode M.2.1 pc = .ok (.tableswitch dflt lo hi offs, len)) (h1 : ¬ x.toInt < lo) (h2 : ¬ hi < x.toInt) (ho : offs[(x.toInt - lo).toNat]? = some off) (ht : (pc : Int) + off = (tgt : Int)) (k : ai_W u d M tgt lv st S V Q) : ai_W u d M pc lv (.int x :: st) S V Q :=
  fun p e s m args below meth c A H locs ls X hA hP hD hS hl => lv_tableIn X.1 X.2.1 h h1 h2 ho ht (k p e s m args below meth c A H locs ls X hA hP hD hS hl)
theorem ai_lookup {dflt : Int} {ps : Array (Int × Int)} {len : Nat} {x : Int32} {off : Int} {tgt : Nat} (h : decode M.2.1 pc = .ok (.lookupswitch dflt ps, len)) (hp : (ps.toList.zip (ps.toList.drop 1)).all (fun (a, next) => a.1 < next.1) = true) (ho : Op.lookupswitch.offset ps.toList dflt x.toInt = off) (ht : (pc : Int) + off = (tgt : Int)) (k : ai_W u d M tgt lv st S V Q) : ai_W u d M pc lv (.int x :: st) S V Q :=
  fun p e s m args below meth c A H locs ls X hA hP hD hS hl => lv_lookup X.1 X.2.1 h hp ho ht (k p e s m args below meth c A H locs ls X hA hP hD hS hl)
/-- returns -/
theorem ai_iret {x : Int32} {ty : FieldType} (h : decode M.2.1 pc = .ok (.ireturn, 1)) (hr : M.2.2.2 = some ty) (hn : narrow ty (.int x) = .int x) (k : Q (some (.int x)) S V) : ai_W u d M pc lv [.int x] S V Q :=
  fun p e s m args below meth c A H locs ls X hA hP hD hS hl => W.zret (ty := ty) X.1 X.2.1 (X.2.2.2.1.trans hr) hn (fun t ht _ => ⟨⟨some (.int x), S, V, rfl, k, by rw [ht]; exact hP⟩, hS.F ht⟩) hS.2.2 h X.2.2.2.2.2.2.1
theorem ai_lret {x : Int64} (h : decode M.2.1 pc = .ok (.lreturn, 1)) (hr : M.2.2.2 = some .long) (k : Q (some (.long x)) S V) : ai_W u d M pc lv [.long x] S V Q :=
  fun p e s m args below meth c A H locs ls X hA hP hD hS hl => W.lret X.1 X.2.1 (X.2.2.2.1.trans hr) (fun t ht _ => ⟨⟨some (.long x), S, V, rfl, k, by rw [ht]; exact hP⟩, hS.F ht⟩) hS.2.2 h X.2.2.2.2.2.2.1
theorem ai_vret (h : decode M.2.1 pc = .ok (.return_, 1)) (hr : M.2.2.2 = none) (k : Q none S V) : ai_W u d M pc lv [] S V Q :=
  fun p e s m args below meth c A H locs ls X hA hP hD hS hl => W.vret X.1 X.2.1 (X.2.2.2.1.trans hr) (fun t ht _ => ⟨⟨none, S, V, rfl, k, by rw [ht]; exact hP⟩, hS.F ht⟩) hS.2.2 h X.2.2.2.2.2.2.1
/-- a field's words: own class, place in its pool, class number, field number -/
def ai_Fd (own : String) (idx ci k : Nat) : Prop := ∃ (C : String) (T : u_T) (N : Nat), vwCl[ci]? = some (C, T, N) ∧ k < N ∧ (∀ w ∈ u_ws C T N, w ∈ ai_ws) ∧ (Cond.fieldLink own idx (T k).1 (T k).2.1 (T k).2.2.1 ∈ ai_ws ∨ ∃ host : String, Cond.fieldLinkNest own idx (T k).1 (T k).2.1 (T k).2.2.1 host ∈ ai_nw)
/-- that it may be put, and its type -/
def ai_Pd (ci k : Nat) (ty : FieldType) : Prop := ∃ (C : String) (T : u_T) (N : Nat) (ty0 : Nat → FieldType), vwCl[ci]? = some (C, T, N) ∧ (∀ k, k < N → parseFieldDescriptor (T k).2.2.1 = some (ty0 k)) ∧ (∀ a, a < N → ∀ b, b < N → a ≠ b → (T a).2.1 ≠ (T b).2.1) ∧ (T k).2.2.2 = false ∧ ty0 k = ty
theorem ai_get {idx ci k q t : Nat} {ks : List Nat} {v : Value} (h : decode M.2.1 pc = .ok (.getfield idx, 3)) (fd : ai_Fd M.1.cls idx ci k) (hq : u.2.2.2.2[q]? = some (.inr (ci, ks))) (hk : ks[k]? = some t) (hv : ai_f u.2.2.1 S V q k t = ai_v u.2.2.1 v) (kk : ai_W u d M (pc + 3) lv (v :: st) S V Q) : ai_W u d M pc lv (.ref q :: st) S V Q := by
  intro p e s m args below meth c A H locs ls X hA hP hD hS hl
  obtain ⟨C, T, N, h1, h2, h3, h4⟩ := fd
  have h5 := kk p e s m args below meth c A H locs ls X hA hP hD hS hl
  have h6 : (ks.mapIdx (fun k t => ai_f u.2.2.1 S V q k t))[k]? = some (ai_v u.2.2.1 v) := by simp [List.getElem?_mapIdx, hk, hv]
  have hts := X.2.2.2.2.2.1
  rcases h4 with h4 | ⟨host, h4⟩
  · exact va_get X.1 X.2.1 hts (fun w hw => List.mem_cons_of_mem _ (h3 w hw)) X.2.2.2.2.1 X.2.2.2.2.2.2.2.1 hP q (ai_w_at hq) h1 k h2 (hts _ (List.mem_cons_of_mem _ h4)) (fun _ h9 => h9) h6 h h5
  · exact va_getN X.1 X.2.1 hts (fun w hw => List.mem_cons_of_mem _ (h3 w hw)) X.2.2.2.2.1 X.2.2.2.2.2.2.2.1 hP q (ai_w_at hq) h1 k h2 (va_Nw.use rfl (X.2.2.2.2.2.2.2.2 _ h4)) (fun _ h9 => h9) h6 h h5
theorem ai_getI {idx ci k q : Nat} {ks : List Nat} (h : decode M.2.1 pc = .ok (.getfield idx, 3)) (fd : ai_Fd M.1.cls idx ci k) (hq : u.2.2.2.2[q]? = some (.inr (ci, ks))) (hk : ks[k]? = some 0) (kk : ai_W u d M (pc + 3) lv (.int (S q k) :: st) S V Q) : ai_W u d M pc lv (.ref q :: st) S V Q := ai_get h fd hq hk rfl kk
theorem ai_getR {idx ci k q r : Nat} {ks : List Nat} (h : decode M.2.1 pc = .ok (.getfield idx, 3)) (fd : ai_Fd M.1.cls idx ci k) (hq : u.2.2.2.2[q]? = some (.inr (ci, ks))) (hk : ks[k]? = some (r + 2)) (kk : ai_W u d M (pc + 3) lv (.ref r :: st) S V Q) : ai_W u d M pc lv (.ref q :: st) S V Q := ai_get h fd hq hk rfl kk
theorem ai_getV {idx ci k q : Nat} {ks : List Nat} {v : Value} (h : decode M.2.1 pc = .ok (.getfield idx, 3)) (fd : ai_Fd M.1.cls idx ci k) (hq : u.2.2.2.2[q]? = some (.inr (ci, ks))) (hk : ks[k]? = some 1) (kk : V q k = v ∧ ai_W u d M (pc + 3) lv (v :: st) S V Q) : ai_W u d M pc lv (.ref q :: st) S V Q := ai_get (v := v) h fd hq hk (by simp [ai_f, kk.1]) kk.2
theorem ai_put0 {idx ci k q t : Nat} {ks : List Nat} {v : Value} {ty : FieldType} {S' : ai_S} {V' : ai_V} (h : decode M.2.1 pc = .ok (.putfield idx, 3)) (fd : ai_Fd M.1.cls idx ci k) (pd : ai_Pd ci k ty) (hq : u.2.2.2.2[q]? = some (.inr (ci, ks))) (hk : ks[k]? = some t) (hn : narrow ty (ai_v u.2.2.1 v) = ai_v u.2.2.1 v) (hf : fits ty (ai_v u.2.2.1 v) = true)
    (hw : (ai_w u S V).set q (u.2.2.1 q, .inr (ci, (ks.mapIdx (fun k t => ai_f u.2.2.1 S V q k t)).set k (ai_v u.2.2.1 v))) = ai_w u S' V') (kk : ai_W u d M (pc + 3) lv st S' V' Q) : ai_W u d M pc lv (v :: .ref q :: st) S V Q := by
  intro p e s m args below meth c A H locs ls X hA hP hD hS hl
  obtain ⟨C, T, N, h1, h2, h3, h4⟩ := fd
  obtain ⟨C', T', N', ty0, g1, g2, g3, g4, g5⟩ := pd
  cases g1.symm.trans h1
  have hts := X.2.2.2.2.2.1
  have hlen : k < (ks.mapIdx (fun k t => ai_f u.2.2.1 S V q k t)).length := by simpa using (List.getElem?_eq_some_iff.mp hk).1
  have h5 : ∀ (H1 : Heap) (locs1 : List Loc), va_P u.2.1 vwCl ((ai_w u S V).set q (u.2.2.1 q, .inr (ci, (ks.mapIdx (fun k t => ai_f u.2.2.1 S V q k t)).set k (ai_v u.2.2.1 v)))) H1 → va_D A ((ai_w u S V).set q (u.2.2.1 q, .inr (ci, (ks.mapIdx (fun k t => ai_f u.2.2.1 S V q k t)).set k (ai_v u.2.2.1 v)))) → va_S A s.heap H1 locs1 → W p u.1 e (ai_rm d) s m args below meth c H1 locs1 0 0 (MQ below (ai_Q u A Q) args s 0 0 A) (F0 m (pc + 3) ls (st.map (ai_v u.2.2.1))) := by
    intro H1 locs1 hP1 _ hS1
    rw [hw] at hP1
    exact kk p e s m args below meth c A H1 locs1 ls X hA hP1 hD hS1 hl
  rcases h4 with h4 | ⟨host, h4⟩
  · exact va_put X.1 X.2.1 hts (fun w hw => List.mem_cons_of_mem _ (h3 w hw)) ty0 g2 g3 X.2.2.2.2.1 X.2.2.2.2.2.2.2.1 hP (hD.va S V) hS q (ai_w_at hq) h1 k h2 (hts _ (List.mem_cons_of_mem _ h4)) (fun _ h9 => h9) g4 (by rw [g2 k h2, g5]) hn hf hlen h h5
  · exact va_putN X.1 X.2.1 hts (fun w hw => List.mem_cons_of_mem _ (h3 w hw)) ty0 g2 g3 X.2.2.2.2.1 X.2.2.2.2.2.2.2.1 hP (hD.va S V) hS q (ai_w_at hq) h1 k h2 (va_Nw.use rfl (X.2.2.2.2.2.2.2.2 _ h4)) (fun _ h9 => h9) g4 (by rw [g2 k h2, g5]) hn hf hlen h h5
theorem ai_putI {idx ci k q : Nat} {ks : List Nat} {x : Int32} {ty : FieldType} (h : decode M.2.1 pc = .ok (.putfield idx, 3)) (fd : ai_Fd M.1.cls idx ci k) (pd : ai_Pd ci k ty) (hq : u.2.2.2.2[q]? = some (.inr (ci, ks))) (hk : ks[k]? = some 0) (hn : narrow ty (.int x) = .int x) (hf : fits ty (.int x) = true) (kk : ai_W u d M (pc + 3) lv st (ai_up S q k x) V Q) : ai_W u d M pc lv (.int x :: .ref q :: st) S V Q :=
  ai_put0 h fd pd hq hk hn hf (ai_w_put hq hk) kk
theorem ai_putV {idx ci k q : Nat} {ks : List Nat} {v : Value} {ty : FieldType} (h : decode M.2.1 pc = .ok (.putfield idx, 3)) (fd : ai_Fd M.1.cls idx ci k) (pd : ai_Pd ci k ty) (hq : u.2.2.2.2[q]? = some (.inr (ci, ks))) (hk : ks[k]? = some 1) (hn : narrow ty (ai_v u.2.2.1 v) = ai_v u.2.2.1 v) (hf : fits ty (ai_v u.2.2.1 v) = true) (kk : ai_W u d M (pc + 3) lv st S (ai_uv V q k v) Q) : ai_W u d M pc lv (v :: .ref q :: st) S V Q :=
  ai_put0 h fd pd hq hk hn hf (ai_w_putV hq hk) kk
theorem ai_iald {q n : Nat} {i : Int32} (h : decode M.2.1 pc = .ok (.iaload, 1)) (hq : u.2.2.2.2[q]? = some (.inl (0, n))) (kk : vp_in i n ∧ ai_W u d M (pc + 1) lv (.int (S q i.toNatClampNeg) :: st) S V Q) : ai_W u d M pc lv (.int i :: .ref q :: st) S V Q :=
  fun p e s m args below meth c A H locs ls X hA hP hD hS hl => va_iald X.1 X.2.1 X.2.2.2.2.2.2.2.1 hP q 0 (ai_w_at hq) rfl kk.1 h (kk.2 p e s m args below meth c A H locs ls X hA hP hD hS hl)
theorem ai_cald {q n : Nat} {i : Int32} (h : decode M.2.1 pc = .ok (.caload, 1)) (hq : u.2.2.2.2[q]? = some (.inl (1, n))) (kk : vp_in i n ∧ ai_W u d M (pc + 1) lv (.int (S q i.toNatClampNeg) :: st) S V Q) : ai_W u d M pc lv (.int i :: .ref q :: st) S V Q :=
  fun p e s m args below meth c A H locs ls X hA hP hD hS hl => va_cald X.1 X.2.1 X.2.2.2.2.2.2.2.1 hP q 1 (ai_w_at hq) rfl kk.1 h (kk.2 p e s m args below meth c A H locs ls X hA hP hD hS hl)
theorem ai_iast {q n : Nat} {i x : Int32} (h : decode M.2.1 pc = .ok (.iastore, 1)) (hq : u.2.2.2.2[q]? = some (.inl (0, n))) (kk : vp_in i n ∧ ai_W u d M (pc + 1) lv st (ai_up S q i.toNatClampNeg x) V Q) : ai_W u d M pc lv (.int x :: .int i :: .ref q :: st) S V Q :=
  fun p e s m args below meth c A H locs ls X hA hP hD hS hl => va_iast X.1 X.2.1 X.2.2.2.2.2.2.2.1 hP (hD.va S V) hS q 0 (ai_w_at hq) rfl kk.1 h (fun H1 locs1 hP1 _ hS1 => kk.2 p e s m args below meth c A H1 locs1 ls X hA (ai_w_ast (S := S) (V := V) (k := i.toNatClampNeg) (x := x) hq ▸ hP1) hD hS1 hl)
theorem ai_cast {q n : Nat} {i x : Int32} (h : decode M.2.1 pc = .ok (.castore, 1)) (hq : u.2.2.2.2[q]? = some (.inl (1, n))) (kk : vp_in i n ∧ ai_W u d M (pc + 1) lv st (ai_up S q i.toNatClampNeg (vp_nar .char x)) V Q) : ai_W u d M pc lv (.int x :: .int i :: .ref q :: st) S V Q :=
  fun p e s m args below meth c A H locs ls X hA hP hD hS hl => va_cast X.1 X.2.1 X.2.2.2.2.2.2.2.1 hP (hD.va S V) hS q 1 (ai_w_at hq) rfl kk.1 h (fun H1 locs1 hP1 _ hS1 => kk.2 p e s m args below meth c A H1 locs1 ls X hA (ai_w_ast (S := S) (V := V) (k := i.toNatClampNeg) (x := vp_nar .char x) hq ▸ hP1) hD hS1 hl)
theorem ai_alen {q t n : Nat} {v : Int32} (h : decode M.2.1 pc = .ok (.arraylength, 1)) (hq : u.2.2.2.2[q]? = some (.inl (t, n))) (ht : t < 2) (hv : Int32.ofNat n = v) (kk : ai_W u d M (pc + 1) lv (.int v :: st) S V Q) : ai_W u d M pc lv (.ref q :: st) S V Q := by
  intro p e s m args below meth c A H locs ls X hA hP hD hS hl
  have h5 := kk p e s m args below meth c A H locs ls X hA hP hD hS hl
  match t, ht, hq with
  | 0, _, hq => exact va_alen X.1 X.2.1 X.2.2.2.2.2.2.2.1 hP q 0 (ai_w_at hq) (ty := .int) rfl hv h h5
  | 1, _, hq => exact va_alen X.1 X.2.1 X.2.2.2.2.2.2.2.1 hP q 1 (ai_w_at hq) (ty := .char) rfl hv h h5
end AIR
end
section
/-! ===== calls ===== -/
section AIC
variable {u : ai_U} {d : Nat} {M : ai_M} {pc : Nat} {lv : List (Nat × Value)} {st : List Value} {S : ai_S} {V : ai_V} {Q : ai_P}
/-- a virtual call's words -/
def ai_Cv (own : String) (idx ci n : Nat) (M' : ai_M) : Prop := (∃ (T : u_T) (N : Nat), vwCl[ci]? = some (M'.1.cls, T, N)) ∧ Cond.methodLink own idx M'.1 ∈ ai_ws ∧ Cond.instanceMethod M'.1 ∈ ai_ws ∧ Cond.selects M'.1.cls M'.1 M'.1 ∈ ai_ws ∧ Cond.initialized M'.1.cls ∈ ai_ws ∧ Cond.code M'.1 M'.2.1 M'.2.2.1 M'.2.2.2 ∈ ai_ws ∧
  (M'.1.cls ≠ "java/lang/invoke/MethodHandle" ∧ M'.1.cls ≠ "java/lang/invoke/VarHandle" ∧ (parseMethodDescriptor M'.1.desc).map (fun d => d.parameters.length) = some n) ∧ M'.2.2.1 ≤ 26
/-- a static call's -/
def ai_Cs (own : String) (idx n : Nat) (M' : ai_M) : Prop := Cond.methodLink own idx M'.1 ∈ ai_ws ∧ Cond.static M'.1 ∈ ai_ws ∧ Cond.initialized M'.1.cls ∈ ai_ws ∧ Cond.code M'.1 M'.2.1 M'.2.2.1 M'.2.2.2 ∈ ai_ws ∧
  (M'.1.cls ≠ "java/lang/invoke/MethodHandle" ∧ M'.1.cls ≠ "java/lang/invoke/VarHandle" ∧ (parseMethodDescriptor M'.1.desc).map (fun d => d.parameters.length) = some n) ∧ M'.2.2.1 ≤ 26
theorem ai_Pc.blind {u : ai_U} {as : List Value} {sz : Nat} {S : ai_S} {V : ai_V} : FrameBlind (ai_Pc u as sz S V) := by
  intro a U g mk h
  obtain ⟨h0, h1, h2, h3, h4⟩ := h
  exact ⟨h0, h1, h2, h3.same rfl, h4⟩
theorem ai_cat_map (ρ : Nat → Nat) (l : List Value) : ((l.map (ai_v ρ)).map fun v => v.category).sum = (l.map fun v => v.category).sum := by
  simp [Function.comp_def, ai_v_cat]
theorem ai_free {u : ai_U} {A : Nat → Prop} {S : ai_S} {V : ai_V} {s : State} {H : Heap} {locs : List Loc} (hA : ∀ q : Nat, s.heap.size ≤ q → A q) (hD : ai_D u A) (hS : va_S A s.heap H locs) : ∀ q, va_A (ai_w u S V) H.size q → A q := by
  intro q h
  rcases h with ⟨k, e, h⟩ | h
  · obtain ⟨h1, h2⟩ := ai_w_of h
    have h2 : q = u.2.2.1 k := h2
    rw [h2]
    exact hD.2 k h1
  · exact hA q (Nat.le_trans hS.1 h)
/-- behind a call -/
theorem ai_back {p : Program} {e : Env} {s : State} {m : MethodId} {args : Array Value} {below : List Frame} {meth : Method} {c : Code} {A : Nat → Prop} {H : Heap} {locs : List Loc} {ls : Array Slot} {g : JFrame} {rest : List Value} {Q' : ai_P} {R : Room} {aa : Array Value}
    (hg : g = F0 m pc ls (st.map (ai_v u.2.2.1))) (hA : ∀ q : Nat, s.heap.size ≤ q → A q) (hD : ai_D u A) (hS : va_S A s.heap H locs)
    (hr : va_Run p u.1 e R s m args below meth c H locs 0 0 0 0 g (rest.map (ai_v u.2.2.1)) (ai_Q u (va_A (ai_w u S V) H.size) Q' aa) (va_A (ai_w u S V) H.size))
    (kk : ∀ (r : Option Value) (S' : ai_S) (V' : ai_V) (H1 : Heap) (locs1 : List Loc), Q' r S' V' → va_P u.2.1 vwCl (ai_w u S' V') H1 → va_S A s.heap H1 locs1 → W p u.1 e R s m args below meth c H1 locs1 0 0 (MQ below (ai_Q u A Q) args s 0 0 A) (F0 m (pc + 3) ls ((r.toList ++ rest).map (ai_v u.2.2.1)))) :
    W p u.1 e R s m args below meth c H locs 0 0 (MQ below (ai_Q u A Q) args s 0 0 A) g := by
  intro T hT X
  obtain ⟨v, st₀, t, T', L, h0, X', hL, e1, e2, ⟨⟨r, S', V', hv, hQ, hP'⟩, hz, hk⟩, stp⟩ := hr T hT X
  have hf := ai_free (S := S) (V := V) hA hD hS
  rw [h0] at hz hk
  have hv : v = r.map (ai_v u.2.2.1) := by cases hv; rfl
  have hS' : va_S A s.heap T'.heap (locs ++ L) := by
    refine ⟨Nat.le_trans hS.1 (by rw [e1]; exact hz), fun q h1 h2 => ?_, fun q hq => ?_⟩
    · rw [e1, hk q (Nat.lt_of_lt_of_le h1 hS.1) (fun z => h2 (hf q z))]
      exact hS.2.1 q h1 h2
    · rcases List.mem_append.mp hq with h | h
      · exact hS.2.2 q h
      · exact hf _ (hL q h)
  obtain ⟨t2, a1, b1⟩ := kk r S' V' T'.heap (locs ++ L) hQ (by rw [e1]; exact hP') hS' T' rfl X'
  refine ⟨t2, stp t2 ?_, b1⟩
  have hfr : ({ g with pc := g.pc + 3, stack := v.toList ++ rest.map (ai_v u.2.2.1) } : JFrame) = F0 m (pc + 3) ls ((r.toList ++ rest).map (ai_v u.2.2.1)) := by
    subst hg
    subst hv
    cases r <;> rfl
  rw [hfr]
  exact a1
theorem ai_callV {M' : ai_M} {idx ci n q : Nat} {ks : List Nat} {As rest : List Value} {Q' : ai_P} (h : decode M.2.1 pc = .ok (.invokevirtual idx, 3)) (cv : ai_Cv M.1.cls idx ci n M') (hq : u.2.2.2.2[q]? = some (.inr (ci, ks))) (hst : st = As.reverse ++ .ref q :: rest) (hn : As.length = n) (hW : (rest.map fun v => v.category).sum ≤ 8)
    (hM : ai_met u d M' (.ref q :: As) S V Q') (kk : ∀ r S' V', Q' r S' V' → ai_W u (d + 1) M (pc + 3) lv (r.toList ++ rest) S' V' Q) : ai_W u (d + 1) M pc lv st S V Q := by
  intro p e s m args below meth c A H locs ls X hA hP hD hS hl
  obtain ⟨⟨T, N, c0⟩, c1, c2, c3, c4, c5, c6, c7⟩ := cv
  have hts := X.2.2.2.2.2.1
  have hW0 : ∀ w, w ∈ ai_ws → w.before args s = true := fun w hw => hts w (List.mem_cons_of_mem _ hw)
  refine ai_back (Q' := Q') rfl hA hD hS (va_runV (As := As.map (ai_v u.2.2.1)) (rest := rest.map (ai_v u.2.2.1)) (b := u.2.2.1 q) (C := M'.1.cls) (n := n) (index := idx) ⟨X.1, X.2.1, X.2.2.1, X.2.2.2.2.1, hts⟩ (hM H.size) ⟨callB_of n hts (ai_good c5) rfl rfl rfl (hW0 _ c4) (hW0 _ c1) c6 ⟨Nat.le_refl _, ?_⟩, hW0 _ c2, hW0 _ c3⟩ ⟨ai_Pc.blind, va_recv X.2.2.2.2.2.2.2.1 hP c0 (ai_w_at hq), fun U hU hWm => ⟨rfl, by rw [hU], by rw [hU]; exact hP, X.2.2.2.2.2.2.2.warm hWm, hD.1, fun _ _ => trivial⟩⟩ rfl (by simpa using hn) hl.1 ?_ (lv_room ?_) h ⟨Nat.le_refl _, Nat.le_refl _⟩) (fun r S' V' H1 locs1 hQ hP1 hS1 => kk r S' V' hQ p e s m args below meth c A H1 locs1 ls X hA hP1 hD hS1 hl)
  · show 8 + (M'.2.2.1 + 11) + 45 * d ≤ 45 * (d + 1)
    omega
  · show st.map (ai_v u.2.2.1) = _
    rw [hst]
    simp [ai_v]
  · rw [ai_cat_map]
    exact hW
theorem ai_callS {M' : ai_M} {idx n : Nat} {As rest : List Value} {Q' : ai_P} (h : decode M.2.1 pc = .ok (.invokestatic idx, 3)) (cv : ai_Cs M.1.cls idx n M') (hst : st = As.reverse ++ rest) (hn : As.length = n) (hW : (rest.map fun v => v.category).sum ≤ 8)
    (hM : ai_met u d M' As S V Q') (kk : ∀ r S' V', Q' r S' V' → ai_W u (d + 1) M (pc + 3) lv (r.toList ++ rest) S' V' Q) : ai_W u (d + 1) M pc lv st S V Q := by
  intro p e s m args below meth c A H locs ls X hA hP hD hS hl
  obtain ⟨c1, c2, c4, c5, c6, c7⟩ := cv
  have hts := X.2.2.2.2.2.1
  have hW0 : ∀ w, w ∈ ai_ws → w.before args s = true := fun w hw => hts w (List.mem_cons_of_mem _ hw)
  refine ai_back (Q' := Q') rfl hA hD hS (va_runS (As := As.map (ai_v u.2.2.1)) (rest := rest.map (ai_v u.2.2.1)) (n := n) (index := idx) ⟨X.1, X.2.1, X.2.2.1, X.2.2.2.2.1, hts⟩ (hM H.size) ⟨callB_of n hts (ai_good c5) rfl rfl rfl (hW0 _ c4) (hW0 _ c1) c6 ⟨Nat.le_refl _, ?_⟩, hW0 _ c2⟩ ⟨ai_Pc.blind, fun U hU hWm => ⟨rfl, by rw [hU], by rw [hU]; exact hP, X.2.2.2.2.2.2.2.warm hWm, hD.1, fun _ _ => trivial⟩⟩ rfl (by simpa using hn) hl.1 ?_ (lv_room ?_) h ⟨Nat.le_refl _, Nat.le_refl _⟩) (fun r S' V' H1 locs1 hQ hP1 hS1 => kk r S' V' hQ p e s m args below meth c A H1 locs1 ls X hA hP1 hD hS1 hl)
  · show 8 + (M'.2.2.1 + 11) + 45 * d ≤ 45 * (d + 1)
    omega
  · show st.map (ai_v u.2.2.1) = _
    rw [hst]
    simp
  · rw [ai_cat_map]
    exact hW
end AIC
end
section
/-! ===== ends of methods, and what the walks use ===== -/
def ai_qi (V : ai_V) (G : Int32 → ai_S → Prop) : ai_P := fun r S' V' => V' = V ∧ ∃ x : Int32, r = some (.int x) ∧ G x S'
def ai_ql (V : ai_V) (G : Int64 → ai_S → Prop) : ai_P := fun r S' V' => V' = V ∧ ∃ x : Int64, r = some (.long x) ∧ G x S'
def ai_qz (V : ai_V) (G : Bool → ai_S → Prop) : ai_P := fun r S' V' => V' = V ∧ ∃ b : Bool, r = some (.int (if b = true then 1 else 0)) ∧ G b S'
def ai_qv (V : ai_V) (G : ai_S → Prop) : ai_P := fun r S' V' => V' = V ∧ r = none ∧ G S'
def ai_pi (G : Int32 → ai_S → ai_V → Prop) : ai_P := fun r S' V' => ∃ x : Int32, r = some (.int x) ∧ G x S' V'
section AIP
variable {u : ai_U} {d : Nat} {M : ai_M} {pc : Nat} {lv : List (Nat × Value)} {st : List Value} {S : ai_S} {V : ai_V} {Q : ai_P}
theorem ai_mof {as : List Value} {lv : List (Nat × Value)} (hy : plainName M.1.cls = true) (hl : (lg_sl as).length ≤ M.2.2.1) (hlv : lv_args 0 as = lv) (h : ai_W u d M 0 lv [] S V Q) : ai_met u d M as S V Q := by
  subst hlv
  exact ai_met_of hy hl h
theorem ai_locj {lv' : List (Nat × Value)} (js : List Nat) (hs : js.map (fun j => lv[j]?) = lv'.map some) (k : ai_W u d M pc lv' st S V Q) : ai_W u d M pc lv st S V Q := by
  refine ai_loc lv' (fun q hq => ?_) k
  have h1 : some q ∈ lv'.map some := List.mem_map.mpr ⟨q, hq, rfl⟩
  rw [← hs] at h1
  obtain ⟨j, -, hj⟩ := List.mem_map.mp h1
  exact List.mem_of_getElem? hj
theorem ai_met.mi {as : List Value} {G G' : Int32 → ai_S → Prop} (h : ai_met u d M as S V (ai_qi V G)) (hG : ∀ x S', G x S' → G' x S') : ai_met u d M as S V (ai_qi V G') :=
  h.mono fun _ _ _ ⟨h1, x, h2, h3⟩ => ⟨h1, x, h2, hG _ _ h3⟩
theorem ai_met.ml {as : List Value} {G G' : Int64 → ai_S → Prop} (h : ai_met u d M as S V (ai_ql V G)) (hG : ∀ x S', G x S' → G' x S') : ai_met u d M as S V (ai_ql V G') :=
  h.mono fun _ _ _ ⟨h1, x, h2, h3⟩ => ⟨h1, x, h2, hG _ _ h3⟩
theorem ai_met.mb {as : List Value} {G G' : Bool → ai_S → Prop} (h : ai_met u d M as S V (ai_qz V G)) (hG : ∀ x S', G x S' → G' x S') : ai_met u d M as S V (ai_qz V G') :=
  h.mono fun _ _ _ ⟨h1, x, h2, h3⟩ => ⟨h1, x, h2, hG _ _ h3⟩
theorem ai_met.mz {as : List Value} {A B A' B' : ai_S → Prop} (h : ai_met u d M as S V (ai_qz V (fun b S1 => (b = true → A S1) ∧ (b = false → B S1)))) (hA : ∀ S', A S' → A' S') (hB : ∀ S', B S' → B' S') : ai_met u d M as S V (ai_qz V (fun b S1 => (b = true → A' S1) ∧ (b = false → B' S1))) :=
  h.mb fun _ _ h => ⟨fun e => hA _ (h.1 e), fun e => hB _ (h.2 e)⟩
theorem ai_met.mv {as : List Value} {G G' : ai_S → Prop} (h : ai_met u d M as S V (ai_qv V G)) (hG : ∀ S', G S' → G' S') : ai_met u d M as S V (ai_qv V G') :=
  h.mono fun _ _ _ ⟨h1, h2, h3⟩ => ⟨h1, h2, hG _ h3⟩
theorem ai_met.mp {as : List Value} {G G' : Int32 → ai_S → ai_V → Prop} (h : ai_met u d M as S V (ai_pi G)) (hG : ∀ x S' V', G x S' V' → G' x S' V') : ai_met u d M as S V (ai_pi G') :=
  h.mono fun _ _ _ ⟨x, h2, h3⟩ => ⟨x, h2, hG _ _ _ h3⟩
theorem ai_zt {A B : Prop} (h : A) : (true = true → A) ∧ (true = false → B) := ⟨fun _ => h, fun e => (by cases e)⟩
theorem ai_zf {A B : Prop} (h : B) : (false = true → A) ∧ (false = false → B) := ⟨fun e => (by cases e), fun _ => h⟩
section AICC
variable {M' : ai_M} {idx ci n q : Nat} {ks : List Nat} {As rest : List Value}
theorem ai_callVi (h : decode M.2.1 pc = .ok (.invokevirtual idx, 3)) (cv : ai_Cv M.1.cls idx ci n M') (hq : u.2.2.2.2[q]? = some (.inr (ci, ks))) (hst : st = As.reverse ++ .ref q :: rest) (hn : As.length = n) (hW : (rest.map fun v => v.category).sum ≤ 8)
    (hM : ai_met u d M' (.ref q :: As) S V (ai_qi V (fun x S1 => ai_W u (d + 1) M (pc + 3) lv (.int x :: rest) S1 V Q))) : ai_W u (d + 1) M pc lv st S V Q :=
  ai_callV h cv hq hst hn hW hM (fun r S' V' ⟨h1, x, h2, h3⟩ => by subst h1; subst h2; exact h3)
theorem ai_callVl (h : decode M.2.1 pc = .ok (.invokevirtual idx, 3)) (cv : ai_Cv M.1.cls idx ci n M') (hq : u.2.2.2.2[q]? = some (.inr (ci, ks))) (hst : st = As.reverse ++ .ref q :: rest) (hn : As.length = n) (hW : (rest.map fun v => v.category).sum ≤ 8)
    (hM : ai_met u d M' (.ref q :: As) S V (ai_ql V (fun x S1 => ai_W u (d + 1) M (pc + 3) lv (.long x :: rest) S1 V Q))) : ai_W u (d + 1) M pc lv st S V Q :=
  ai_callV h cv hq hst hn hW hM (fun r S' V' ⟨h1, x, h2, h3⟩ => by subst h1; subst h2; exact h3)
theorem ai_callVp (h : decode M.2.1 pc = .ok (.invokevirtual idx, 3)) (cv : ai_Cv M.1.cls idx ci n M') (hq : u.2.2.2.2[q]? = some (.inr (ci, ks))) (hst : st = As.reverse ++ .ref q :: rest) (hn : As.length = n) (hW : (rest.map fun v => v.category).sum ≤ 8)
    (hM : ai_met u d M' (.ref q :: As) S V (ai_pi (fun x S1 V1 => ai_W u (d + 1) M (pc + 3) lv (.int x :: rest) S1 V1 Q))) : ai_W u (d + 1) M pc lv st S V Q :=
  ai_callV h cv hq hst hn hW hM (fun r S' V' ⟨x, h2, h3⟩ => by subst h2; exact h3)
theorem ai_callVz (h : decode M.2.1 pc = .ok (.invokevirtual idx, 3)) (cv : ai_Cv M.1.cls idx ci n M') (hq : u.2.2.2.2[q]? = some (.inr (ci, ks))) (hst : st = As.reverse ++ .ref q :: rest) (hn : As.length = n) (hW : (rest.map fun v => v.category).sum ≤ 8)
    (hM : ai_met u d M' (.ref q :: As) S V (ai_qz V (fun b S1 => (b = true → ai_W u (d + 1) M (pc + 3) lv (.int 1 :: rest) S1 V Q) ∧ (b = false → ai_W u (d + 1) M (pc + 3) lv (.int 0 :: rest) S1 V Q)))) : ai_W u (d + 1) M pc lv st S V Q :=
  ai_callV h cv hq hst hn hW hM (fun r S' V' ⟨h1, b, h2, h3⟩ => by
    subst h1; subst h2
    cases b with
    | true => exact h3.1 rfl
    | false => exact h3.2 rfl)
theorem ai_callVv (h : decode M.2.1 pc = .ok (.invokevirtual idx, 3)) (cv : ai_Cv M.1.cls idx ci n M') (hq : u.2.2.2.2[q]? = some (.inr (ci, ks))) (hst : st = As.reverse ++ .ref q :: rest) (hn : As.length = n) (hW : (rest.map fun v => v.category).sum ≤ 8)
    (hM : ai_met u d M' (.ref q :: As) S V (ai_qv V (fun S1 => ai_W u (d + 1) M (pc + 3) lv rest S1 V Q))) : ai_W u (d + 1) M pc lv st S V Q :=
  ai_callV h cv hq hst hn hW hM (fun r S' V' ⟨h1, h2, h3⟩ => by subst h1; subst h2; exact h3)
theorem ai_callSi (h : decode M.2.1 pc = .ok (.invokestatic idx, 3)) (cv : ai_Cs M.1.cls idx n M') (hst : st = As.reverse ++ rest) (hn : As.length = n) (hW : (rest.map fun v => v.category).sum ≤ 8)
    (hM : ai_met u d M' As S V (ai_qi V (fun x S1 => ai_W u (d + 1) M (pc + 3) lv (.int x :: rest) S1 V Q))) : ai_W u (d + 1) M pc lv st S V Q :=
  ai_callS h cv hst hn hW hM (fun r S' V' ⟨h1, x, h2, h3⟩ => by subst h1; subst h2; exact h3)
theorem ai_callSz (h : decode M.2.1 pc = .ok (.invokestatic idx, 3)) (cv : ai_Cs M.1.cls idx n M') (hst : st = As.reverse ++ rest) (hn : As.length = n) (hW : (rest.map fun v => v.category).sum ≤ 8)
    (hM : ai_met u d M' As S V (ai_qz V (fun b S1 => (b = true → ai_W u (d + 1) M (pc + 3) lv (.int 1 :: rest) S1 V Q) ∧ (b = false → ai_W u (d + 1) M (pc + 3) lv (.int 0 :: rest) S1 V Q)))) : ai_W u (d + 1) M pc lv st S V Q :=
  ai_callS h cv hst hn hW hM (fun r S' V' ⟨h1, b, h2, h3⟩ => by
    subst h1; subst h2
    cases b with
    | true => exact h3.1 rfl
    | false => exact h3.2 rfl)
end AICC
theorem ai_reti {x : Int32} {G : Int32 → ai_S → Prop} (h : decode M.2.1 pc = .ok (.ireturn, 1)) (hr : M.2.2.2 = some .int) (k : G x S) : ai_W u d M pc lv [.int x] S V (ai_qi V G) := ai_iret h hr rfl ⟨rfl, x, rfl, k⟩
theorem ai_retp {x : Int32} {G : Int32 → ai_S → ai_V → Prop} (h : decode M.2.1 pc = .ok (.ireturn, 1)) (hr : M.2.2.2 = some .int) (k : G x S V) : ai_W u d M pc lv [.int x] S V (ai_pi G) := ai_iret h hr rfl ⟨x, rfl, k⟩
theorem ai_rett {G : Bool → ai_S → Prop} (h : decode M.2.1 pc = .ok (.ireturn, 1)) (hr : M.2.2.2 = some .boolean) (k : G true S) : ai_W u d M pc lv [.int 1] S V (ai_qz V G) := ai_iret h hr rfl ⟨rfl, true, rfl, k⟩
theorem ai_retf {G : Bool → ai_S → Prop} (h : decode M.2.1 pc = .ok (.ireturn, 1)) (hr : M.2.2.2 = some .boolean) (k : G false S) : ai_W u d M pc lv [.int 0] S V (ai_qz V G) := ai_iret h hr rfl ⟨rfl, false, rfl, k⟩
theorem ai_retl {x : Int64} {G : Int64 → ai_S → Prop} (h : decode M.2.1 pc = .ok (.lreturn, 1)) (hr : M.2.2.2 = some .long) (k : G x S) : ai_W u d M pc lv [.long x] S V (ai_ql V G) := ai_lret h hr ⟨rfl, x, rfl, k⟩
theorem ai_retv {G : ai_S → Prop} (h : decode M.2.1 pc = .ok (.return_, 1)) (hr : M.2.2.2 = none) (k : G S) : ai_W u d M pc lv [] S V (ai_qv V G) := ai_vret h hr ⟨rfl, rfl, k⟩
theorem ai_getIx {idx ci k q : Nat} {ks : List Nat} (x : Int32) (h : decode M.2.1 pc = .ok (.getfield idx, 3)) (fd : ai_Fd M.1.cls idx ci k) (hq : u.2.2.2.2[q]? = some (.inr (ci, ks))) (hk : ks[k]? = some 0) (hv : S q k = x) (kk : ai_W u d M (pc + 3) lv (.int x :: st) S V Q) : ai_W u d M pc lv (.ref q :: st) S V Q := by
  subst hv
  exact ai_getI h fd hq hk kk
theorem ai_ialdx {q n : Nat} {i : Int32} (x : Int32) (h : decode M.2.1 pc = .ok (.iaload, 1)) (hq : u.2.2.2.2[q]? = some (.inl (0, n))) (hv : S q i.toNatClampNeg = x) (kk : vp_in i n ∧ ai_W u d M (pc + 1) lv (.int x :: st) S V Q) : ai_W u d M pc lv (.int i :: .ref q :: st) S V Q := by
  subst hv
  exact ai_iald h hq kk
theorem ai_caldx {q n : Nat} {i : Int32} (x : Int32) (h : decode M.2.1 pc = .ok (.caload, 1)) (hq : u.2.2.2.2[q]? = some (.inl (1, n))) (hv : S q i.toNatClampNeg = x) (kk : vp_in i n ∧ ai_W u d M (pc + 1) lv (.int x :: st) S V Q) : ai_W u d M pc lv (.int i :: .ref q :: st) S V Q := by
  subst hv
  exact ai_cald h hq kk
theorem ai_iastx {q n : Nat} {i x : Int32} (k : Nat) (h : decode M.2.1 pc = .ok (.iastore, 1)) (hq : u.2.2.2.2[q]? = some (.inl (0, n))) (hk : i.toNatClampNeg = k) (kk : vp_in i n ∧ ai_W u d M (pc + 1) lv st (ai_up S q k x) V Q) : ai_W u d M pc lv (.int x :: .int i :: .ref q :: st) S V Q := by
  subst hk
  exact ai_iast h hq kk
/-- another name for the top, and for the memory -/
theorem ai_top {x : Int32} (y : Int32) (h : x = y) (k : ai_W u d M pc lv (.int y :: st) S V Q) : ai_W u d M pc lv (.int x :: st) S V Q := h ▸ k
theorem ai_mem (S' : ai_S) (h : S = S') (k : ai_W u d M pc lv st S' V Q) : ai_W u d M pc lv st S V Q := h ▸ k
/-- switches -/
theorem ai_tab {dflt lo hi : Int} {offs : Array Int} {len : Nat} {x : Int32} {off : Int} {tgt : Nat} (c : Int32) (h : decode M.2.1 pc = .ok (.tableswitch dflt lo hi offs, len)) (hx : x = c) (h1 : ¬ c.toInt < lo) (h2 : ¬ hi < c.toInt) (ho : offs[(c.toInt - lo).toNat]? = some off) (ht : (pc : Int) + off = (tgt : Int)) (k : ai_W u d M tgt lv st S V Q) : ai_W u d M pc lv (.int x :: st) S V Q := by
  subst hx
  exact ai_tabIn h h1 h2 ho ht k
theorem ai_swx {x : Int32} {n : Int} (c : Int32) (hc : c.toInt = n) (h : ¬ x = c) : x.toInt ≠ n := fun e => h (Int32.toInt_inj.mp (e.trans hc.symm))
theorem ai_tabD {dflt lo hi : Int} {offs : Array Int} {len : Nat} {x : Int32} {tgt : Nat} (ex : List Int) (h : decode M.2.1 pc = .ok (.tableswitch dflt lo hi offs, len)) (hx : ∀ c ∈ ex, x.toInt ≠ c) (hs : (offs.size : Int) = hi - lo + 1)
    (hc : (List.range offs.size).all (fun i => decide (lo + (i : Int) ∈ ex) || decide (offs[i]? = some dflt)) = true) (ht : (pc : Int) + dflt = (tgt : Int)) (k : ai_W u d M tgt lv st S V Q) : ai_W u d M pc lv (.int x :: st) S V Q := by
  by_cases h1 : x.toInt < lo
  · exact ai_tabOut h (Or.inl h1) ht k
  · by_cases h2 : hi < x.toInt
    · exact ai_tabOut h (Or.inr h2) ht k
    · have h3 : (x.toInt - lo).toNat < offs.size := by omega
      have h4 := List.all_eq_true.mp hc _ (List.mem_range.mpr h3)
      rcases Bool.or_eq_true _ _ ▸ h4 with h5 | h5
      · have h6 := of_decide_eq_true h5
        rw [show lo + (((x.toInt - lo).toNat : Nat) : Int) = x.toInt by omega] at h6
        exact absurd rfl (hx _ h6)
      · exact ai_tabIn h h1 h2 (of_decide_eq_true h5) ht k
theorem ai_look {dflt : Int} {ps : Array (Int × Int)} {len : Nat} {x : Int32} {off : Int} {tgt : Nat} (c : Int32) (h : decode M.2.1 pc = .ok (.lookupswitch dflt ps, len)) (hx : x = c) (hp : (ps.toList.zip (ps.toList.drop 1)).all (fun (a, next) => a.1 < next.1) = true) (ho : Op.lookupswitch.offset ps.toList dflt c.toInt = off) (ht : (pc : Int) + off = (tgt : Int)) (k : ai_W u d M tgt lv st S V Q) : ai_W u d M pc lv (.int x :: st) S V Q := by
  subst hx
  exact ai_lookup h hp ho ht k
def ai_Cx (own : String) (idx : Nat) (y : MethodName) (cc : ByteArray) : Prop := Cond.methodLink own idx y ∈ ai_ws ∧ Cond.static y ∈ ai_ws ∧ Cond.initialized "java/lang/Math" ∈ ai_ws ∧ Cond.code y cc 2 (some .int) ∈ ai_ws
theorem ai_mmax {idx : Nat} {x y : Int32} (h : decode M.2.1 pc = .ok (.invokestatic idx, 3)) (cx : ai_Cx M.1.cls idx Lib.Math.max.name Lib.Math.max.code) (hW : (st.map fun v => v.category).sum ≤ 8) (k : ai_W u (d + 1) M (pc + 3) lv (.int (if x < y then y else x) :: st) S V Q) : ai_W u (d + 1) M pc lv (.int y :: .int x :: st) S V Q := by
  intro p e s m args below meth c A H locs ls X hA hP hD hS hl
  have hW0 : ∀ w, w ∈ ai_ws → w.before args s = true := fun w hw => X.2.2.2.2.2.1 w (List.mem_cons_of_mem _ hw)
  refine va_mmax X.1 X.2.1 (by rw [X.2.2.1, hl.1]) X.2.2.2.2.1 (hW0 _ cx.1) (hW0 _ cx.2.1) (hW0 _ cx.2.2.1) (hW0 _ cx.2.2.2) (by show 1 ≤ d + 1; omega) ?_ (Nat.zero_le _) (Nat.zero_le _) h (k p e s m args below meth c A H locs ls X hA hP hD hS hl)
  rw [ai_cat_map]
  show _ ≤ 45 * (d + 1)
  omega
theorem ai_mmin {idx : Nat} {x y : Int32} (h : decode M.2.1 pc = .ok (.invokestatic idx, 3)) (cx : ai_Cx M.1.cls idx Lib.Math.min.name Lib.Math.min.code) (hW : (st.map fun v => v.category).sum ≤ 8) (k : ai_W u (d + 1) M (pc + 3) lv (.int (if y < x then y else x) :: st) S V Q) : ai_W u (d + 1) M pc lv (.int y :: .int x :: st) S V Q := by
  intro p e s m args below meth c A H locs ls X hA hP hD hS hl
  have hW0 : ∀ w, w ∈ ai_ws → w.before args s = true := fun w hw => X.2.2.2.2.2.1 w (List.mem_cons_of_mem _ hw)
  refine va_mmin X.1 X.2.1 (by rw [X.2.2.1, hl.1]) X.2.2.2.2.1 (hW0 _ cx.1) (hW0 _ cx.2.1) (hW0 _ cx.2.2.1) (hW0 _ cx.2.2.2) (by show 1 ≤ d + 1; omega) ?_ (Nat.zero_le _) (Nat.zero_le _) h (k p e s m args below meth c A H locs ls X hA hP hD hS hl)
  rw [ai_cat_map]
  show _ ≤ 45 * (d + 1)
  omega
end AIP
end
section
/-! ===== the two worlds ===== -/
def layC : ai_L := [.inr (5, [3, 0, 4, 11, 1, 1, 0]), .inl (1, 320), .inr (3, [1, 0, 0, 1, 5, 0]), .inr (4, [6, 7, 8, 9, 0, 0, 10, 0]), .inl (0, 136), .inl (0, 136), .inl (0, 136), .inl (0, 136), .inl (0, 11), .inr (1, [1, 0, 0, 0, 0, 0, 0, 12, 18, 19, 0, 20, 0, 21, 0, 0]), .inr (0, [13, 14, 15, 16, 17, 0, 0, 0]), .inl (0, 961), .inl (0, 31), .inl (0, 31), .inl (0, 31), .inl (0, 31), .inl (0, 30), .inl (0, 30), .inl (0, 100), .inl (0, 32), .inr (2, [23, 24, 25, 0, 26, 27, 0, 0, 0, 0]), .inl (0, 488), .inl (0, 488), .inl (0, 488), .inl (0, 16), .inl (0, 16), .inr (2, [29, 30, 31, 0, 32, 33, 0, 0, 0, 0]), .inl (0, 488), .inl (0, 488), .inl (0, 488), .inl (0, 16), .inl (0, 16)]
def layM : ai_L := [.inr (6, [3, 0, 0, 4, 5, 6, 7, 8, 9, 10, 11, 12, 13, 14, 0, 0, 0, 0, 0, 0, 0, 0, 0, 0, 0, 15, 16, 17, 18, 19, 0, 0, 20, 21, 22, 23, 0, 0, 24, 0, 25, 26, 27, 28, 29, 30, 0, 0, 31, 0, 0, 0, 0, 0, 0, 0, 0, 0, 32, 0, 0, 0]), .inl (0, 320), .inl (0, 700), .inl (0, 700), .inl (0, 700), .inl (0, 700), .inl (0, 700), .inl (0, 700), .inl (0, 700), .inl (0, 32), .inl (0, 32), .inl (0, 32), .inl (0, 8), .inl (0, 80), .inl (0, 80), .inl (0, 80), .inl (0, 80), .inl (0, 80), .inl (0, 160), .inl (0, 160), .inl (0, 160), .inl (0, 160), .inl (0, 7000), .inl (0, 400), .inl (0, 400), .inl (0, 400), .inl (0, 400), .inl (0, 1300), .inl (0, 1300), .inl (0, 100), .inl (0, 32)]
def uC (l : Launch) (D : va_G) (ρ : Nat → Nat) (τ : Nat → ClassId) : ai_U := (l, D, ρ, τ, layC)
def uM (l : Launch) (D : va_G) (ρ : Nat → Nat) (τ : Nat → ClassId) : ai_U := (l, D, ρ, τ, layM)
def mX0_init : ai_M := (yX0_init, cX0_init, 1, none)
def mX0_clear : ai_M := (yX0_clear, cX0_clear, 1, none)
def mX0_open : ai_M := (yX0_open, cX0_open, 4, none)
def mX0_close : ai_M := (yX0_close, cX0_close, 1, none)
def mX0_isFrame : ai_M := (yX0_isFrame, cX0_isFrame, 2, some .boolean)
def mX0_outwards : ai_M := (yX0_outwards, cX0_outwards, 5, some .int)
def mX0_callerOf : ai_M := (yX0_callerOf, cX0_callerOf, 2, some .int)
def mX0_returnOf : ai_M := (yX0_returnOf, cX0_returnOf, 2, some .int)
def mX0_addressOf : ai_M := (yX0_addressOf, cX0_addressOf, 3, some .int)
def mX0_valueAt : ai_M := (yX0_valueAt, cX0_valueAt, 2, some .int)
def mX0_setValue : ai_M := (yX0_setValue, cX0_setValue, 3, none)
def mX0_setTarget : ai_M := (yX0_setTarget, cX0_setTarget, 3, none)
def mX0_targetOf : ai_M := (yX0_targetOf, cX0_targetOf, 2, some .int)
def mX1_init : ai_M := (yX1_init, cX1_init, 1, none)
def mX1_runProgram : ai_M := (yX1_runProgram, cX1_runProgram, 4, some .int)
def mX1_printAt : ai_M := (yX1_printAt, cX1_printAt, 2, some .long)
def mX1_step : ai_M := (yX1_step, cX1_step, 4, none)
def mX1_control : ai_M := (yX1_control, cX1_control, 4, none)
def mX1_pay : ai_M := (yX1_pay, cX1_pay, 1, some .boolean)
def mX1_beginBlock : ai_M := (yX1_beginBlock, cX1_beginBlock, 4, none)
def mX1_printValue : ai_M := (yX1_printValue, cX1_printValue, 1, none)
def mX1_assign : ai_M := (yX1_assign, cX1_assign, 7, none)
def mX1_resolve : ai_M := (yX1_resolve, cX1_resolve, 8, some .int)
def mX1_workOut : ai_M := (yX1_workOut, cX1_workOut, 5, none)
def mX1_enterActual : ai_M := (yX1_enterActual, cX1_enterActual, 3, none)
def mX1_leaveActual : ai_M := (yX1_leaveActual, cX1_leaveActual, 1, none)
def mX1_call : ai_M := (yX1_call, cX1_call, 6, none)
def mX1_enterCall : ai_M := (yX1_enterCall, cX1_enterCall, 7, none)
def mX1_leaveCall : ai_M := (yX1_leaveCall, cX1_leaveCall, 2, none)
def mX1_operate : ai_M := (yX1_operate, cX1_operate, 3, none)
def mX1_beginToWait : ai_M := (yX1_beginToWait, cX1_beginToWait, 1, none)
def mX2_init : ai_M := (yX2_init, cX2_init, 1, none)
def mX2_clear : ai_M := (yX2_clear, cX2_clear, 1, none)
def mX2_add : ai_M := (yX2_add, cX2_add, 5, some .int)
def mX2_setFirst : ai_M := (yX2_setFirst, cX2_setFirst, 3, none)
def mX2_setSecond : ai_M := (yX2_setSecond, cX2_setSecond, 3, none)
def mX2_isPlace : ai_M := (yX2_isPlace, cX2_isPlace, 2, some .boolean)
def mX2_opAt : ai_M := (yX2_opAt, cX2_opAt, 2, some .int)
def mX2_firstAt : ai_M := (yX2_firstAt, cX2_firstAt, 2, some .int)
def mX2_secondAt : ai_M := (yX2_secondAt, cX2_secondAt, 2, some .int)
def mX2_isActual : ai_M := (yX2_isActual, cX2_isActual, 2, some .boolean)
def mX2_addProcedure : ai_M := (yX2_addProcedure, cX2_addProcedure, 2, some .int)
def mX2_isProcedure : ai_M := (yX2_isProcedure, cX2_isProcedure, 2, some .boolean)
def mX2_setFormalCount : ai_M := (yX2_setFormalCount, cX2_setFormalCount, 3, none)
def mX2_formalCountOf : ai_M := (yX2_formalCountOf, cX2_formalCountOf, 2, some .int)
def mX2_startOf : ai_M := (yX2_startOf, cX2_startOf, 2, some .int)
def mX3_init : ai_M := (yX3_init, cX3_init, 1, none)
def mX3_readInto : ai_M := (yX3_readInto, cX3_readInto, 4, some .int)
def mX3_look : ai_M := (yX3_look, cX3_look, 1, some .int)
def mX3_take : ai_M := (yX3_take, cX3_take, 2, some .boolean)
def mX3_takeName : ai_M := (yX3_takeName, cX3_takeName, 2, some .int)
def mX3_reach : ai_M := (yX3_reach, cX3_reach, 2, some .boolean)
def mX3_statement : ai_M := (yX3_statement, cX3_statement, 3, some .boolean)
def mX3_assignment : ai_M := (yX3_assignment, cX3_assignment, 3, some .boolean)
def mX3_print : ai_M := (yX3_print, cX3_print, 2, some .boolean)
def mX3_choice : ai_M := (yX3_choice, cX3_choice, 4, some .boolean)
def mX3_loop : ai_M := (yX3_loop, cX3_loop, 4, some .boolean)
def mX3_block : ai_M := (yX3_block, cX3_block, 6, some .boolean)
def mX3_declarations : ai_M := (yX3_declarations, cX3_declarations, 4, some .boolean)
def mX3_variable : ai_M := (yX3_variable, cX3_variable, 3, some .boolean)
def mX3_procedure : ai_M := (yX3_procedure, cX3_procedure, 8, some .boolean)
def mX3_formals : ai_M := (yX3_formals, cX3_formals, 7, some .boolean)
def mX3_expression : ai_M := (yX3_expression, cX3_expression, 2, some .boolean)
def mX3_sum : ai_M := (yX3_sum, cX3_sum, 4, some .boolean)
def mX3_product : ai_M := (yX3_product, cX3_product, 3, some .boolean)
def mX3_factor : ai_M := (yX3_factor, cX3_factor, 3, some .boolean)
def mX3_number : ai_M := (yX3_number, cX3_number, 4, some .boolean)
def mX3_list : ai_M := (yX3_list, cX3_list, 4, some .boolean)
def mX3_isNameAlone : ai_M := (yX3_isNameAlone, cX3_isNameAlone, 4, some .boolean)
def mX3_declare : ai_M := (yX3_declare, cX3_declare, 5, none)
def mX3_addUse : ai_M := (yX3_addUse, cX3_addUse, 8, none)
def mX3_addTarget : ai_M := (yX3_addTarget, cX3_addTarget, 3, none)
def mX4_init : ai_M := (yX4_init, cX4_init, 1, none)
def mX4_clear : ai_M := (yX4_clear, cX4_clear, 1, none)
def mX4_declare : ai_M := (yX4_declare, cX4_declare, 7, some .boolean)
def mX4_find : ai_M := (yX4_find, cX4_find, 3, some .int)
def mX4_isEntry : ai_M := (yX4_isEntry, cX4_isEntry, 2, some .boolean)
def mX4_kindOf : ai_M := (yX4_kindOf, cX4_kindOf, 2, some .int)
def mX4_slotOf : ai_M := (yX4_slotOf, cX4_slotOf, 2, some .int)
def mX4_hopsTo : ai_M := (yX4_hopsTo, cX4_hopsTo, 2, some .int)
def mX4_enterBody : ai_M := (yX4_enterBody, cX4_enterBody, 2, none)
def mX4_isAroundHere : ai_M := (yX4_isAroundHere, cX4_isAroundHere, 3, some .boolean)
def mX5_init : ai_M := (yX5_init, cX5_init, 1, none)
def mX5_write : ai_M := (yX5_write, cX5_write, 6, some .int)
def mX5_codeAt : ai_M := (yX5_codeAt, cX5_codeAt, 3, some .int)
def mX5_erase : ai_M := (yX5_erase, cX5_erase, 2, some .int)
def mX5_length : ai_M := (yX5_length, cX5_length, 1, some .int)
def mX5_read : ai_M := (yX5_read, cX5_read, 3, some .int)
def mX5_run : ai_M := (yX5_run, cX5_run, 2, some .int)
def mX5_prints : ai_M := (yX5_prints, cX5_prints, 1, some .int)
def mX5_printed : ai_M := (yX5_printed, cX5_printed, 2, some .long)
def mX5_cost : ai_M := (yX5_cost, cX5_cost, 1, some .int)
def mX5_deepest : ai_M := (yX5_deepest, cX5_deepest, 1, some .int)
def mX5_calls : ai_M := (yX5_calls, cX5_calls, 1, some .int)
def mX5_about : ai_M := (yX5_about, cX5_about, 2, some .int)
def mX6_init : ai_M := (yX6_init, cX6_init, 1, none)
def mX6_within : ai_M := (yX6_within, cX6_within, 3, some .boolean)
def mX6_write : ai_M := (yX6_write, cX6_write, 6, some .int)
def mX6_erase : ai_M := (yX6_erase, cX6_erase, 2, some .int)
def mX6_length : ai_M := (yX6_length, cX6_length, 1, some .int)
def mX6_peek : ai_M := (yX6_peek, cX6_peek, 1, some .int)
def mX6_eat : ai_M := (yX6_eat, cX6_eat, 2, some .boolean)
def mX6_isLetter : ai_M := (yX6_isLetter, cX6_isLetter, 2, some .boolean)
def mX6_push : ai_M := (yX6_push, cX6_push, 3, none)
def mX6_fresh : ai_M := (yX6_fresh, cX6_fresh, 2, some .int)
def mX6_add : ai_M := (yX6_add, cX6_add, 2, none)
def mX6_done : ai_M := (yX6_done, cX6_done, 2, none)
def mX6_need : ai_M := (yX6_need, cX6_need, 2, none)
def mX6_declare : ai_M := (yX6_declare, cX6_declare, 5, none)
def mX6_leave : ai_M := (yX6_leave, cX6_leave, 1, none)
def mX6_use : ai_M := (yX6_use, cX6_use, 5, some .int)
def mX6_goDeeper : ai_M := (yX6_goDeeper, cX6_goDeeper, 2, none)
def mX6_openStatement : ai_M := (yX6_openStatement, cX6_openStatement, 4, none)
def mX6_openList : ai_M := (yX6_openList, cX6_openList, 4, none)
def mX6_closeList : ai_M := (yX6_closeList, cX6_closeList, 2, none)
def mX6_onward : ai_M := (yX6_onward, cX6_onward, 3, none)
def mX6_block : ai_M := (yX6_block, cX6_block, 4, none)
def mX6_heading : ai_M := (yX6_heading, cX6_heading, 8, none)
def mX6_expression : ai_M := (yX6_expression, cX6_expression, 4, none)
def mX6_operand : ai_M := (yX6_operand, cX6_operand, 9, none)
def mX6_factor : ai_M := (yX6_factor, cX6_factor, 7, none)
def mX6_read : ai_M := (yX6_read, cX6_read, 5, some .int)
def mX6_later : ai_M := (yX6_later, cX6_later, 4, none)
def mX6_pay : ai_M := (yX6_pay, cX6_pay, 1, some .boolean)
def mX6_frame : ai_M := (yX6_frame, cX6_frame, 6, some .int)
def mX6_outward : ai_M := (yX6_outward, cX6_outward, 5, some .int)
def mX6_follow : ai_M := (yX6_follow, cX6_follow, 7, none)
def mX6_target : ai_M := (yX6_target, cX6_target, 4, some .int)
def mX6_call : ai_M := (yX6_call, cX6_call, 8, none)
def mX6_arguments : ai_M := (yX6_arguments, cX6_arguments, 5, none)
def mX6_statement : ai_M := (yX6_statement, cX6_statement, 6, none)
def mX6_evaluate : ai_M := (yX6_evaluate, cX6_evaluate, 5, none)
def mX6_operandDone : ai_M := (yX6_operandDone, cX6_operandDone, 6, none)
def mX6_perform : ai_M := (yX6_perform, cX6_perform, 5, none)
def mX6_run : ai_M := (yX6_run, cX6_run, 5, some .int)
def mX6_prints : ai_M := (yX6_prints, cX6_prints, 1, some .int)
def mX6_printed : ai_M := (yX6_printed, cX6_printed, 2, some .long)
def mX6_cost : ai_M := (yX6_cost, cX6_cost, 1, some .int)
def mX6_deepest : ai_M := (yX6_deepest, cX6_deepest, 1, some .int)
def mX6_calls : ai_M := (yX6_calls, cX6_calls, 1, some .int)
def mX6_about : ai_M := (yX6_about, cX6_about, 2, some .int)
def mJ9_max_7cf53 : ai_M := (yJ9_max_7cf53, cJ9_max_7cf53, 2, some .int)
def mJ9_min_7cf53 : ai_M := (yJ9_min_7cf53, cJ9_min_7cf53, 2, some .int)
theorem plX0 : plainName RX0 = true := by decide +kernel
theorem inX0 : ∀ w ∈ u_ws RX0 TX0 8, w ∈ ai_ws := by decide +kernel
theorem plX1 : plainName RX1 = true := by decide +kernel
theorem inX1 : ∀ w ∈ u_ws RX1 TX1 16, w ∈ ai_ws := by decide +kernel
theorem plX2 : plainName RX2 = true := by decide +kernel
theorem inX2 : ∀ w ∈ u_ws RX2 TX2 10, w ∈ ai_ws := by decide +kernel
theorem plX3 : plainName RX3 = true := by decide +kernel
theorem inX3 : ∀ w ∈ u_ws RX3 TX3 6, w ∈ ai_ws := by decide +kernel
theorem plX4 : plainName RX4 = true := by decide +kernel
theorem inX4 : ∀ w ∈ u_ws RX4 TX4 8, w ∈ ai_ws := by decide +kernel
theorem plX5 : plainName RX5 = true := by decide +kernel
theorem inX5 : ∀ w ∈ u_ws RX5 TX5 7, w ∈ ai_ws := by decide +kernel
theorem plX6 : plainName RX6 = true := by decide +kernel
theorem inX6 : ∀ w ∈ u_ws RX6 TX6 62, w ∈ ai_ws := by decide +kernel
end
section
theorem fdX0_15 : ai_Fd RX0 15 0 1 := ⟨_, _, _, rfl, by decide, inX0, Or.inl (ai_in 167 (by decide +kernel) rfl)⟩
theorem fdX0_18 : ai_Fd RX0 18 0 2 := ⟨_, _, _, rfl, by decide, inX0, Or.inl (ai_in 168 (by decide +kernel) rfl)⟩
theorem fdX0_21 : ai_Fd RX0 21 0 3 := ⟨_, _, _, rfl, by decide, inX0, Or.inl (ai_in 169 (by decide +kernel) rfl)⟩
theorem fdX0_24 : ai_Fd RX0 24 0 4 := ⟨_, _, _, rfl, by decide, inX0, Or.inl (ai_in 170 (by decide +kernel) rfl)⟩
theorem fdX0_27 : ai_Fd RX0 27 0 5 := ⟨_, _, _, rfl, by decide, inX0, Or.inl (ai_in 171 (by decide +kernel) rfl)⟩
theorem fdX0_31 : ai_Fd RX0 31 0 6 := ⟨_, _, _, rfl, by decide, inX0, Or.inl (ai_in 173 (by decide +kernel) rfl)⟩
theorem fdX0_34 : ai_Fd RX0 34 0 7 := ⟨_, _, _, rfl, by decide, inX0, Or.inl (ai_in 175 (by decide +kernel) rfl)⟩
theorem fdX0_9 : ai_Fd RX0 9 0 0 := ⟨_, _, _, rfl, by decide, inX0, Or.inl (ai_in 166 (by decide +kernel) rfl)⟩
theorem fdX2_15 : ai_Fd RX2 15 2 1 := ⟨_, _, _, rfl, by decide, inX2, Or.inl (ai_in 253 (by decide +kernel) rfl)⟩
theorem fdX2_18 : ai_Fd RX2 18 2 2 := ⟨_, _, _, rfl, by decide, inX2, Or.inl (ai_in 254 (by decide +kernel) rfl)⟩
theorem fdX2_21 : ai_Fd RX2 21 2 4 := ⟨_, _, _, rfl, by decide, inX2, Or.inl (ai_in 257 (by decide +kernel) rfl)⟩
theorem fdX2_24 : ai_Fd RX2 24 2 5 := ⟨_, _, _, rfl, by decide, inX2, Or.inl (ai_in 258 (by decide +kernel) rfl)⟩
theorem fdX2_27 : ai_Fd RX2 27 2 3 := ⟨_, _, _, rfl, by decide, inX2, Or.inl (ai_in 255 (by decide +kernel) rfl)⟩
theorem fdX2_31 : ai_Fd RX2 31 2 6 := ⟨_, _, _, rfl, by decide, inX2, Or.inl (ai_in 259 (by decide +kernel) rfl)⟩
theorem fdX2_34 : ai_Fd RX2 34 2 7 := ⟨_, _, _, rfl, by decide, inX2, Or.inl (ai_in 262 (by decide +kernel) rfl)⟩
theorem fdX2_37 : ai_Fd RX2 37 2 8 := ⟨_, _, _, rfl, by decide, inX2, Or.inl (ai_in 265 (by decide +kernel) rfl)⟩
theorem fdX2_40 : ai_Fd RX2 40 2 9 := ⟨_, _, _, rfl, by decide, inX2, Or.inl (ai_in 268 (by decide +kernel) rfl)⟩
theorem fdX2_9 : ai_Fd RX2 9 2 0 := ⟨_, _, _, rfl, by decide, inX2, Or.inl (ai_in 252 (by decide +kernel) rfl)⟩
theorem fdX4_15 : ai_Fd RX4 15 4 1 := ⟨_, _, _, rfl, by decide, inX4, Or.inl (ai_in 106 (by decide +kernel) rfl)⟩
theorem fdX4_18 : ai_Fd RX4 18 4 2 := ⟨_, _, _, rfl, by decide, inX4, Or.inl (ai_in 107 (by decide +kernel) rfl)⟩
theorem fdX4_21 : ai_Fd RX4 21 4 3 := ⟨_, _, _, rfl, by decide, inX4, Or.inl (ai_in 108 (by decide +kernel) rfl)⟩
theorem fdX4_24 : ai_Fd RX4 24 4 6 := ⟨_, _, _, rfl, by decide, inX4, Or.inl (ai_in 113 (by decide +kernel) rfl)⟩
theorem fdX4_27 : ai_Fd RX4 27 4 4 := ⟨_, _, _, rfl, by decide, inX4, Or.inl (ai_in 109 (by decide +kernel) rfl)⟩
theorem fdX4_31 : ai_Fd RX4 31 4 5 := ⟨_, _, _, rfl, by decide, inX4, Or.inl (ai_in 111 (by decide +kernel) rfl)⟩
theorem fdX4_34 : ai_Fd RX4 34 4 7 := ⟨_, _, _, rfl, by decide, inX4, Or.inl (ai_in 114 (by decide +kernel) rfl)⟩
theorem pdX0_5 : ai_Pd 0 5 (.int) := ⟨_, _, _, tyX0, rfl, tyX0_ok, nmX0, rfl, rfl⟩
theorem pdX0_6 : ai_Pd 0 6 (.int) := ⟨_, _, _, tyX0, rfl, tyX0_ok, nmX0, rfl, rfl⟩
theorem pdX0_7 : ai_Pd 0 7 (.int) := ⟨_, _, _, tyX0, rfl, tyX0_ok, nmX0, rfl, rfl⟩
theorem pdX2_3 : ai_Pd 2 3 (.int) := ⟨_, _, _, tyX2, rfl, tyX2_ok, nmX2, rfl, rfl⟩
theorem pdX2_6 : ai_Pd 2 6 (.int) := ⟨_, _, _, tyX2, rfl, tyX2_ok, nmX2, rfl, rfl⟩
theorem pdX2_7 : ai_Pd 2 7 (.int) := ⟨_, _, _, tyX2, rfl, tyX2_ok, nmX2, rfl, rfl⟩
theorem pdX2_8 : ai_Pd 2 8 (.int) := ⟨_, _, _, tyX2, rfl, tyX2_ok, nmX2, rfl, rfl⟩
theorem pdX2_9 : ai_Pd 2 9 (.int) := ⟨_, _, _, tyX2, rfl, tyX2_ok, nmX2, rfl, rfl⟩
theorem pdX4_4 : ai_Pd 4 4 (.int) := ⟨_, _, _, tyX4, rfl, tyX4_ok, nmX4, rfl, rfl⟩
theorem pdX4_5 : ai_Pd 4 5 (.int) := ⟨_, _, _, tyX4, rfl, tyX4_ok, nmX4, rfl, rfl⟩
theorem pdX4_7 : ai_Pd 4 7 (.int) := ⟨_, _, _, tyX4, rfl, tyX4_ok, nmX4, rfl, rfl⟩
set_option maxRecDepth 100000 in
theorem wcX0_addressOf : Cond.code yX0_addressOf cX0_addressOf 3 (some .int) ∈ ai_ws := ai_in 573 rfl rfl
theorem cvX0_43 : ai_Cv RX0 43 0 2 mX0_addressOf := ⟨⟨_, _, rfl⟩, ai_in 619 (by decide +kernel) rfl, ai_in 571 (by decide +kernel) rfl, ai_in 572 (by decide +kernel) rfl, ai_in 81 (by decide +kernel) rfl, wcX0_addressOf, ⟨by decide +kernel, by decide +kernel, by decide +kernel⟩, by decide⟩
set_option maxRecDepth 100000 in
theorem wcX0_setValue : Cond.code yX0_setValue cX0_setValue 3 (none) ∈ ai_ws := ai_in 561 rfl rfl
theorem cvX0_46 : ai_Cv RX0 46 0 2 mX0_setValue := ⟨⟨_, _, rfl⟩, ai_in 620 (by decide +kernel) rfl, ai_in 559 (by decide +kernel) rfl, ai_in 560 (by decide +kernel) rfl, ai_in 81 (by decide +kernel) rfl, wcX0_setValue, ⟨by decide +kernel, by decide +kernel, by decide +kernel⟩, by decide⟩
set_option maxRecDepth 100000 in
theorem wcX0_isFrame : Cond.code yX0_isFrame cX0_isFrame 2 (some .boolean) ∈ ai_ws := ai_in 557 rfl rfl
theorem cvX0_50 : ai_Cv RX0 50 0 1 mX0_isFrame := ⟨⟨_, _, rfl⟩, ai_in 554 (by decide +kernel) rfl, ai_in 556 (by decide +kernel) rfl, ai_in 31 (by decide +kernel) rfl, ai_in 81 (by decide +kernel) rfl, wcX0_isFrame, ⟨by decide +kernel, by decide +kernel, by decide +kernel⟩, by decide⟩
set_option maxRecDepth 100000 in
theorem wcX2_isPlace : Cond.code yX2_isPlace cX2_isPlace 2 (some .boolean) ∈ ai_ws := ai_in 427 rfl rfl
theorem cvX2_43 : ai_Cv RX2 43 2 1 mX2_isPlace := ⟨⟨_, _, rfl⟩, ai_in 424 (by decide +kernel) rfl, ai_in 426 (by decide +kernel) rfl, ai_in 12 (by decide +kernel) rfl, ai_in 82 (by decide +kernel) rfl, wcX2_isPlace, ⟨by decide +kernel, by decide +kernel, by decide +kernel⟩, by decide⟩
set_option maxRecDepth 100000 in
theorem wcX2_isProcedure : Cond.code yX2_isProcedure cX2_isProcedure 2 (some .boolean) ∈ ai_ws := ai_in 419 rfl rfl
theorem cvX2_47 : ai_Cv RX2 47 2 1 mX2_isProcedure := ⟨⟨_, _, rfl⟩, ai_in 416 (by decide +kernel) rfl, ai_in 418 (by decide +kernel) rfl, ai_in 11 (by decide +kernel) rfl, ai_in 82 (by decide +kernel) rfl, wcX2_isProcedure, ⟨by decide +kernel, by decide +kernel, by decide +kernel⟩, by decide⟩
set_option maxRecDepth 100000 in
theorem wcX4_isEntry : Cond.code yX4_isEntry cX4_isEntry 2 (some .boolean) ∈ ai_ws := ai_in 472 rfl rfl
theorem cvX4_46 : ai_Cv RX4 46 4 1 mX4_isEntry := ⟨⟨_, _, rfl⟩, ai_in 469 (by decide +kernel) rfl, ai_in 471 (by decide +kernel) rfl, ai_in 20 (by decide +kernel) rfl, ai_in 79 (by decide +kernel) rfl, wcX4_isEntry, ⟨by decide +kernel, by decide +kernel, by decide +kernel⟩, by decide⟩
theorem cxX0_37 : ai_Cx RX0 37 Lib.Math.max.name Lib.Math.max.code := ⟨ai_in 618 (by decide +kernel) rfl, ai_in 357 (by decide +kernel) rfl, ai_in 84 (by decide +kernel) rfl, ai_in 358 (by decide +kernel) rfl⟩
end
section
section GC1
variable {l : Launch} {D : va_G} {ρ : Nat → Nat} {τ : Nat → ClassId} {d : Nat}
set_option maxHeartbeats 4000000 in
set_option maxRecDepth 100000 in
theorem vX0_clear {S : ai_S} {V : ai_V} {G : ai_S → Prop}
    (h : G (ai_up (ai_up (ai_up S 10 5 0) 10 6 0) 10 7 0)) :
    ai_met (uC l D ρ τ) d mX0_clear [.ref 10] S V (ai_qv V G) := by
  refine ai_mof plX0 (Nat.le_of_ble_eq_true rfl) (lv := [(0, .ref 10)]) rfl ?_
  refine ai_aload_n dX0_clear_0 rfl (j := 0) rfl ?_
  refine ai_iconst (v := 0) dX0_clear_1 (by decide) ?_
  refine ai_putI dX0_clear_2 fdX0_27 pdX0_5 rfl rfl rfl rfl ?_
  refine ai_aload_n dX0_clear_5 rfl (j := 0) rfl ?_
  refine ai_iconst (v := 0) dX0_clear_6 (by decide) ?_
  refine ai_putI dX0_clear_7 fdX0_31 pdX0_6 rfl rfl rfl rfl ?_
  refine ai_aload_n dX0_clear_10 rfl (j := 0) rfl ?_
  refine ai_iconst (v := 0) dX0_clear_11 (by decide) ?_
  refine ai_putI dX0_clear_12 fdX0_34 pdX0_7 rfl rfl rfl rfl ?_
  exact ai_retv dX0_clear_15 rfl h
set_option maxHeartbeats 4000000 in
set_option maxRecDepth 100000 in
theorem vX0_isFrame {p1 : Int32} {S : ai_S} {V : ai_V} {G : Bool → ai_S → Prop}
    (h : ((p1 < 0 → G false S) ∧ (¬ p1 < 0 → ((31 ≤ p1 → G false S) ∧ (¬ 31 ≤ p1 → G true S))))) :
    ai_met (uC l D ρ τ) d mX0_isFrame [.ref 10, .int p1] S V (ai_qz V G) := by
  refine ai_mof plX0 (Nat.le_of_ble_eq_true rfl) (lv := [(0, .ref 10), (1, .int p1)]) rfl ?_
  refine ai_iload_n dX0_isFrame_0 rfl (j := 1) rfl ?_
  refine ai_if_lt (tgt := 14) dX0_isFrame_1 (by decide) ⟨fun (hc1 : p1 < 0) => ?_, fun (hc1 : ¬ p1 < 0) => ?_⟩
  · have h := h.1 hc1
    refine ai_iconst (v := 0) dX0_isFrame_14 (by decide) ?_
    exact ai_retf dX0_isFrame_15 rfl h
  · have h := h.2 hc1
    refine ai_iload_n dX0_isFrame_4 rfl (j := 1) rfl ?_
    refine ai_bipush (v := 31) dX0_isFrame_5 (by decide) ?_
    refine ai_icmp_ge (tgt := 14) dX0_isFrame_7 (by decide) ⟨fun (hc2 : 31 ≤ p1) => ?_, fun (hc2 : ¬ 31 ≤ p1) => ?_⟩
    · have h := h.1 hc2
      refine ai_iconst (v := 0) dX0_isFrame_14 (by decide) ?_
      exact ai_retf dX0_isFrame_15 rfl h
    · have h := h.2 hc2
      refine ai_iconst (v := 1) dX0_isFrame_10 (by decide) ?_
      refine ai_goto (tgt := 15) dX0_isFrame_11 (by decide) ?_
      exact ai_rett dX0_isFrame_15 rfl h
set_option maxHeartbeats 4000000 in
set_option maxRecDepth 100000 in
theorem vX0_addressOf {p1 : Int32} {p2 : Int32} {S : ai_S} {V : ai_V} {G : Int32 → ai_S → Prop}
    (h : G ((p1 * 31) + p2) S) :
    ai_met (uC l D ρ τ) d mX0_addressOf [.ref 10, .int p1, .int p2] S V (ai_qi V G) := by
  refine ai_mof plX0 (Nat.le_of_ble_eq_true rfl) (lv := [(0, .ref 10), (1, .int p1), (2, .int p2)]) rfl ?_
  refine ai_iload_n dX0_addressOf_0 rfl (j := 1) rfl ?_
  refine ai_bipush (v := 31) dX0_addressOf_1 (by decide) ?_
  refine ai_imul dX0_addressOf_3 ?_
  refine ai_iload_n dX0_addressOf_4 rfl (j := 2) rfl ?_
  refine ai_iadd dX0_addressOf_5 ?_
  exact ai_reti dX0_addressOf_6 rfl h
set_option maxHeartbeats 4000000 in
set_option maxRecDepth 100000 in
theorem vX0_valueAt {p1 : Int32} {S : ai_S} {V : ai_V} {G : Int32 → ai_S → Prop}
    (h : ((p1 < 0 → G 0 S) ∧ (¬ p1 < 0 → ((961 ≤ p1 → G 0 S) ∧ (¬ 961 ≤ p1 → (vp_in p1 961 ∧ G (S 11 (p1).toNatClampNeg) S)))))) :
    ai_met (uC l D ρ τ) d mX0_valueAt [.ref 10, .int p1] S V (ai_qi V G) := by
  refine ai_mof plX0 (Nat.le_of_ble_eq_true rfl) (lv := [(0, .ref 10), (1, .int p1)]) rfl ?_
  refine ai_iload_n dX0_valueAt_0 rfl (j := 1) rfl ?_
  refine ai_if_lt (tgt := 22) dX0_valueAt_1 (by decide) ⟨fun (hc1 : p1 < 0) => ?_, fun (hc1 : ¬ p1 < 0) => ?_⟩
  · have h := h.1 hc1
    refine ai_iconst (v := 0) dX0_valueAt_22 (by decide) ?_
    exact ai_reti dX0_valueAt_23 rfl h
  · have h := h.2 hc1
    refine ai_iload_n dX0_valueAt_4 rfl (j := 1) rfl ?_
    refine ai_aload_n dX0_valueAt_5 rfl (j := 0) rfl ?_
    refine ai_getR dX0_valueAt_6 fdX0_9 rfl rfl ?_
    refine ai_alen (v := 961) dX0_valueAt_9 rfl (by decide) (by decide) ?_
    refine ai_icmp_ge (tgt := 22) dX0_valueAt_10 (by decide) ⟨fun (hc2 : 961 ≤ p1) => ?_, fun (hc2 : ¬ 961 ≤ p1) => ?_⟩
    · have h := h.1 hc2
      refine ai_iconst (v := 0) dX0_valueAt_22 (by decide) ?_
      exact ai_reti dX0_valueAt_23 rfl h
    · have h := h.2 hc2
      refine ai_aload_n dX0_valueAt_13 rfl (j := 0) rfl ?_
      refine ai_getR dX0_valueAt_14 fdX0_9 rfl rfl ?_
      refine ai_iload_n dX0_valueAt_17 rfl (j := 1) rfl ?_
      refine ai_iald dX0_valueAt_18 rfl ⟨h.1, ?_⟩
      have hi3 := h.1
      have h := h.2
      refine ai_goto (tgt := 23) dX0_valueAt_19 (by decide) ?_
      exact ai_reti dX0_valueAt_23 rfl h
set_option maxHeartbeats 4000000 in
set_option maxRecDepth 100000 in
theorem vX0_setValue {p1 : Int32} {p2 : Int32} {S : ai_S} {V : ai_V} {G : ai_S → Prop}
    (h : ((p1 < 0 → G S) ∧ (¬ p1 < 0 → ((961 ≤ p1 → G S) ∧ (¬ 961 ≤ p1 → (vp_in p1 961 ∧ G (ai_up S 11 (p1).toNatClampNeg p2))))))) :
    ai_met (uC l D ρ τ) d mX0_setValue [.ref 10, .int p1, .int p2] S V (ai_qv V G) := by
  refine ai_mof plX0 (Nat.le_of_ble_eq_true rfl) (lv := [(0, .ref 10), (1, .int p1), (2, .int p2)]) rfl ?_
  refine ai_iload_n dX0_setValue_0 rfl (j := 1) rfl ?_
  refine ai_if_lt (tgt := 20) dX0_setValue_1 (by decide) ⟨fun (hc1 : p1 < 0) => ?_, fun (hc1 : ¬ p1 < 0) => ?_⟩
  · have h := h.1 hc1
    exact ai_retv dX0_setValue_20 rfl h
  · have h := h.2 hc1
    refine ai_iload_n dX0_setValue_4 rfl (j := 1) rfl ?_
    refine ai_aload_n dX0_setValue_5 rfl (j := 0) rfl ?_
    refine ai_getR dX0_setValue_6 fdX0_9 rfl rfl ?_
    refine ai_alen (v := 961) dX0_setValue_9 rfl (by decide) (by decide) ?_
    refine ai_icmp_ge (tgt := 20) dX0_setValue_10 (by decide) ⟨fun (hc2 : 961 ≤ p1) => ?_, fun (hc2 : ¬ 961 ≤ p1) => ?_⟩
    · have h := h.1 hc2
      exact ai_retv dX0_setValue_20 rfl h
    · have h := h.2 hc2
      refine ai_aload_n dX0_setValue_13 rfl (j := 0) rfl ?_
      refine ai_getR dX0_setValue_14 fdX0_9 rfl rfl ?_
      refine ai_iload_n dX0_setValue_17 rfl (j := 1) rfl ?_
      refine ai_iload_n dX0_setValue_18 rfl (j := 2) rfl ?_
      refine ai_iast dX0_setValue_19 rfl ⟨h.1, ?_⟩
      have hi3 := h.1
      have h := h.2
      exact ai_retv dX0_setValue_20 rfl h
set_option maxHeartbeats 4000000 in
set_option maxRecDepth 100000 in
theorem vX0_close {S : ai_S} {V : ai_V} {G : ai_S → Prop}
    (h : (((S 10 5) ≤ 0 → G S) ∧ (¬ (S 10 5) ≤ 0 → G (ai_up S 10 5 ((S 10 5) - 1))))) :
    ai_met (uC l D ρ τ) d mX0_close [.ref 10] S V (ai_qv V G) := by
  refine ai_mof plX0 (Nat.le_of_ble_eq_true rfl) (lv := [(0, .ref 10)]) rfl ?_
  refine ai_aload_n dX0_close_0 rfl (j := 0) rfl ?_
  refine ai_getI dX0_close_1 fdX0_27 rfl rfl ?_
  refine ai_if_le (tgt := 17) dX0_close_4 (by decide) ⟨fun (hc1 : (S 10 5) ≤ 0) => ?_, fun (hc1 : ¬ (S 10 5) ≤ 0) => ?_⟩
  · have h := h.1 hc1
    exact ai_retv dX0_close_17 rfl h
  · have h := h.2 hc1
    refine ai_aload_n dX0_close_7 rfl (j := 0) rfl ?_
    refine ai_dup dX0_close_8 rfl ?_
    refine ai_getI dX0_close_9 fdX0_27 rfl rfl ?_
    refine ai_iconst (v := 1) dX0_close_12 (by decide) ?_
    refine ai_isub dX0_close_13 ?_
    refine ai_putI dX0_close_14 fdX0_27 pdX0_5 rfl rfl rfl rfl ?_
    exact ai_retv dX0_close_17 rfl h
set_option maxHeartbeats 4000000 in
set_option maxRecDepth 100000 in
theorem vX0_callerOf {p1 : Int32} {S : ai_S} {V : ai_V} {G : Int32 → ai_S → Prop}
    (h : ((p1 < 0 → G 0 S) ∧ (¬ p1 < 0 → ((31 ≤ p1 → G 0 S) ∧ (¬ 31 ≤ p1 → (vp_in p1 31 ∧ G (S 13 (p1).toNatClampNeg) S)))))) :
    ai_met (uC l D ρ τ) (d + 1) mX0_callerOf [.ref 10, .int p1] S V (ai_qi V G) := by
  refine ai_mof plX0 (Nat.le_of_ble_eq_true rfl) (lv := [(0, .ref 10), (1, .int p1)]) rfl ?_
  refine ai_aload_n dX0_callerOf_0 rfl (j := 0) rfl ?_
  refine ai_iload_n dX0_callerOf_1 rfl (j := 1) rfl ?_
  refine ai_callVz (As := [.int p1]) (rest := []) dX0_callerOf_2 cvX0_50 rfl rfl rfl (by decide) (vX0_isFrame ?_)
  refine ⟨fun (hc1 : p1 < 0) => ?_, fun (hc1 : ¬ p1 < 0) => ?_⟩
  · have h := h.1 hc1
    refine ai_zf ?_
    refine ai_if_eq (tgt := 17) dX0_callerOf_5 (by decide) ⟨fun _ => ?_, fun hc => absurd hc (by decide)⟩
    refine ai_iconst (v := 0) dX0_callerOf_17 (by decide) ?_
    exact ai_reti dX0_callerOf_18 rfl h
  · have h := h.2 hc1
    refine ⟨fun (hc2 : 31 ≤ p1) => ?_, fun (hc2 : ¬ 31 ≤ p1) => ?_⟩
    · have h := h.1 hc2
      refine ai_zf ?_
      refine ai_if_eq (tgt := 17) dX0_callerOf_5 (by decide) ⟨fun _ => ?_, fun hc => absurd hc (by decide)⟩
      refine ai_iconst (v := 0) dX0_callerOf_17 (by decide) ?_
      exact ai_reti dX0_callerOf_18 rfl h
    · have h := h.2 hc2
      refine ai_zt ?_
      refine ai_if_eq (tgt := 17) dX0_callerOf_5 (by decide) ⟨fun hc => absurd hc (by decide), fun _ => ?_⟩
      refine ai_aload_n dX0_callerOf_8 rfl (j := 0) rfl ?_
      refine ai_getR dX0_callerOf_9 fdX0_18 rfl rfl ?_
      refine ai_iload_n dX0_callerOf_12 rfl (j := 1) rfl ?_
      refine ai_iald dX0_callerOf_13 rfl ⟨h.1, ?_⟩
      have hi3 := h.1
      have h := h.2
      refine ai_goto (tgt := 18) dX0_callerOf_14 (by decide) ?_
      exact ai_reti dX0_callerOf_18 rfl h
set_option maxHeartbeats 4000000 in
set_option maxRecDepth 100000 in
theorem vX0_returnOf {p1 : Int32} {S : ai_S} {V : ai_V} {G : Int32 → ai_S → Prop}
    (h : ((p1 < 0 → G 0 S) ∧ (¬ p1 < 0 → ((31 ≤ p1 → G 0 S) ∧ (¬ 31 ≤ p1 → (vp_in p1 31 ∧ G (S 14 (p1).toNatClampNeg) S)))))) :
    ai_met (uC l D ρ τ) (d + 1) mX0_returnOf [.ref 10, .int p1] S V (ai_qi V G) := by
  refine ai_mof plX0 (Nat.le_of_ble_eq_true rfl) (lv := [(0, .ref 10), (1, .int p1)]) rfl ?_
  refine ai_aload_n dX0_returnOf_0 rfl (j := 0) rfl ?_
  refine ai_iload_n dX0_returnOf_1 rfl (j := 1) rfl ?_
  refine ai_callVz (As := [.int p1]) (rest := []) dX0_returnOf_2 cvX0_50 rfl rfl rfl (by decide) (vX0_isFrame ?_)
  refine ⟨fun (hc1 : p1 < 0) => ?_, fun (hc1 : ¬ p1 < 0) => ?_⟩
  · have h := h.1 hc1
    refine ai_zf ?_
    refine ai_if_eq (tgt := 17) dX0_returnOf_5 (by decide) ⟨fun _ => ?_, fun hc => absurd hc (by decide)⟩
    refine ai_iconst (v := 0) dX0_returnOf_17 (by decide) ?_
    exact ai_reti dX0_returnOf_18 rfl h
  · have h := h.2 hc1
    refine ⟨fun (hc2 : 31 ≤ p1) => ?_, fun (hc2 : ¬ 31 ≤ p1) => ?_⟩
    · have h := h.1 hc2
      refine ai_zf ?_
      refine ai_if_eq (tgt := 17) dX0_returnOf_5 (by decide) ⟨fun _ => ?_, fun hc => absurd hc (by decide)⟩
      refine ai_iconst (v := 0) dX0_returnOf_17 (by decide) ?_
      exact ai_reti dX0_returnOf_18 rfl h
    · have h := h.2 hc2
      refine ai_zt ?_
      refine ai_if_eq (tgt := 17) dX0_returnOf_5 (by decide) ⟨fun hc => absurd hc (by decide), fun _ => ?_⟩
      refine ai_aload_n dX0_returnOf_8 rfl (j := 0) rfl ?_
      refine ai_getR dX0_returnOf_9 fdX0_21 rfl rfl ?_
      refine ai_iload_n dX0_returnOf_12 rfl (j := 1) rfl ?_
      refine ai_iald dX0_returnOf_13 rfl ⟨h.1, ?_⟩
      have hi3 := h.1
      have h := h.2
      refine ai_goto (tgt := 18) dX0_returnOf_14 (by decide) ?_
      exact ai_reti dX0_returnOf_18 rfl h
set_option maxHeartbeats 4000000 in
set_option maxRecDepth 100000 in
theorem vX0_setTarget {p1 : Int32} {p2 : Int32} {S : ai_S} {V : ai_V} {G : ai_S → Prop}
    (h : ((p1 < 0 → G S) ∧ (¬ p1 < 0 → ((31 ≤ p1 → G S) ∧ (¬ 31 ≤ p1 → (vp_in p1 31 ∧ G (ai_up S 15 (p1).toNatClampNeg p2))))))) :
    ai_met (uC l D ρ τ) (d + 1) mX0_setTarget [.ref 10, .int p1, .int p2] S V (ai_qv V G) := by
  refine ai_mof plX0 (Nat.le_of_ble_eq_true rfl) (lv := [(0, .ref 10), (1, .int p1), (2, .int p2)]) rfl ?_
  refine ai_aload_n dX0_setTarget_0 rfl (j := 0) rfl ?_
  refine ai_iload_n dX0_setTarget_1 rfl (j := 1) rfl ?_
  refine ai_callVz (As := [.int p1]) (rest := []) dX0_setTarget_2 cvX0_50 rfl rfl rfl (by decide) (vX0_isFrame ?_)
  refine ⟨fun (hc1 : p1 < 0) => ?_, fun (hc1 : ¬ p1 < 0) => ?_⟩
  · have h := h.1 hc1
    refine ai_zf ?_
    refine ai_if_eq (tgt := 15) dX0_setTarget_5 (by decide) ⟨fun _ => ?_, fun hc => absurd hc (by decide)⟩
    exact ai_retv dX0_setTarget_15 rfl h
  · have h := h.2 hc1
    refine ⟨fun (hc2 : 31 ≤ p1) => ?_, fun (hc2 : ¬ 31 ≤ p1) => ?_⟩
    · have h := h.1 hc2
      refine ai_zf ?_
      refine ai_if_eq (tgt := 15) dX0_setTarget_5 (by decide) ⟨fun _ => ?_, fun hc => absurd hc (by decide)⟩
      exact ai_retv dX0_setTarget_15 rfl h
    · have h := h.2 hc2
      refine ai_zt ?_
      refine ai_if_eq (tgt := 15) dX0_setTarget_5 (by decide) ⟨fun hc => absurd hc (by decide), fun _ => ?_⟩
      refine ai_aload_n dX0_setTarget_8 rfl (j := 0) rfl ?_
      refine ai_getR dX0_setTarget_9 fdX0_24 rfl rfl ?_
      refine ai_iload_n dX0_setTarget_12 rfl (j := 1) rfl ?_
      refine ai_iload_n dX0_setTarget_13 rfl (j := 2) rfl ?_
      refine ai_iast dX0_setTarget_14 rfl ⟨h.1, ?_⟩
      have hi3 := h.1
      have h := h.2
      exact ai_retv dX0_setTarget_15 rfl h
set_option maxHeartbeats 4000000 in
set_option maxRecDepth 100000 in
theorem vX0_targetOf {p1 : Int32} {S : ai_S} {V : ai_V} {G : Int32 → ai_S → Prop}
    (h : ((p1 < 0 → G 0 S) ∧ (¬ p1 < 0 → ((31 ≤ p1 → G 0 S) ∧ (¬ 31 ≤ p1 → (vp_in p1 31 ∧ G (S 15 (p1).toNatClampNeg) S)))))) :
    ai_met (uC l D ρ τ) (d + 1) mX0_targetOf [.ref 10, .int p1] S V (ai_qi V G) := by
  refine ai_mof plX0 (Nat.le_of_ble_eq_true rfl) (lv := [(0, .ref 10), (1, .int p1)]) rfl ?_
  refine ai_aload_n dX0_targetOf_0 rfl (j := 0) rfl ?_
  refine ai_iload_n dX0_targetOf_1 rfl (j := 1) rfl ?_
  refine ai_callVz (As := [.int p1]) (rest := []) dX0_targetOf_2 cvX0_50 rfl rfl rfl (by decide) (vX0_isFrame ?_)
  refine ⟨fun (hc1 : p1 < 0) => ?_, fun (hc1 : ¬ p1 < 0) => ?_⟩
  · have h := h.1 hc1
    refine ai_zf ?_
    refine ai_if_eq (tgt := 17) dX0_targetOf_5 (by decide) ⟨fun _ => ?_, fun hc => absurd hc (by decide)⟩
    refine ai_iconst (v := 0) dX0_targetOf_17 (by decide) ?_
    exact ai_reti dX0_targetOf_18 rfl h
  · have h := h.2 hc1
    refine ⟨fun (hc2 : 31 ≤ p1) => ?_, fun (hc2 : ¬ 31 ≤ p1) => ?_⟩
    · have h := h.1 hc2
      refine ai_zf ?_
      refine ai_if_eq (tgt := 17) dX0_targetOf_5 (by decide) ⟨fun _ => ?_, fun hc => absurd hc (by decide)⟩
      refine ai_iconst (v := 0) dX0_targetOf_17 (by decide) ?_
      exact ai_reti dX0_targetOf_18 rfl h
    · have h := h.2 hc2
      refine ai_zt ?_
      refine ai_if_eq (tgt := 17) dX0_targetOf_5 (by decide) ⟨fun hc => absurd hc (by decide), fun _ => ?_⟩
      refine ai_aload_n dX0_targetOf_8 rfl (j := 0) rfl ?_
      refine ai_getR dX0_targetOf_9 fdX0_24 rfl rfl ?_
      refine ai_iload_n dX0_targetOf_12 rfl (j := 1) rfl ?_
      refine ai_iald dX0_targetOf_13 rfl ⟨h.1, ?_⟩
      have hi3 := h.1
      have h := h.2
      refine ai_goto (tgt := 18) dX0_targetOf_14 (by decide) ?_
      exact ai_reti dX0_targetOf_18 rfl h
set_option maxHeartbeats 4000000 in
set_option maxRecDepth 100000 in
theorem vX0_open {p1 : Int32} {p2 : Int32} {p3 : Int32} {S : ai_S} {V : ai_V} {G : ai_S → Prop}
    (h : (((S 10 5) < 0 → G S) ∧ (¬ (S 10 5) < 0 → (((S 10 5) < 30 → (vp_in ((S 10 5) + 1) 31 ∧ ((((((S 10 5) + 1) * 31) + 0) < 0 → G (ai_up (ai_up (ai_up (ai_up (ai_up (ai_up S 10 5 ((S 10 5) + 1)) 10 7 ((S 10 7) + 1)) 10 6 (if (S 10 6) < ((S 10 5) + 1) then ((S 10 5) + 1) else (S 10 6))) 12 (((S 10 5) + 1)).toNatClampNeg p1) 13 (((S 10 5) + 1)).toNatClampNeg p2) 14 (((S 10 5) + 1)).toNatClampNeg p3)) ∧ (¬ ((((S 10 5) + 1) * 31) + 0) < 0 → ((961 ≤ ((((S 10 5) + 1) * 31) + 0) → G (ai_up (ai_up (ai_up (ai_up (ai_up (ai_up S 10 5 ((S 10 5) + 1)) 10 7 ((S 10 7) + 1)) 10 6 (if (S 10 6) < ((S 10 5) + 1) then ((S 10 5) + 1) else (S 10 6))) 12 (((S 10 5) + 1)).toNatClampNeg p1) 13 (((S 10 5) + 1)).toNatClampNeg p2) 14 (((S 10 5) + 1)).toNatClampNeg p3)) ∧ (¬ 961 ≤ ((((S 10 5) + 1) * 31) + 0) → (vp_in ((((S 10 5) + 1) * 31) + 0) 961 ∧ G (ai_up (ai_up (ai_up (ai_up (ai_up (ai_up (ai_up S 10 5 ((S 10 5) + 1)) 10 7 ((S 10 7) + 1)) 10 6 (if (S 10 6) < ((S 10 5) + 1) then ((S 10 5) + 1) else (S 10 6))) 12 (((S 10 5) + 1)).toNatClampNeg p1) 13 (((S 10 5) + 1)).toNatClampNeg p2) 14 (((S 10 5) + 1)).toNatClampNeg p3) 11 (((((S 10 5) + 1) * 31) + 0)).toNatClampNeg 0)))))))) ∧ (¬ (S 10 5) < 30 → G S))))) :
    ai_met (uC l D ρ τ) (d + 1) mX0_open [.ref 10, .int p1, .int p2, .int p3] S V (ai_qv V G) := by
  refine ai_mof plX0 (Nat.le_of_ble_eq_true rfl) (lv := [(0, .ref 10), (1, .int p1), (2, .int p2), (3, .int p3)]) rfl ?_
  refine ai_aload_n dX0_open_0 rfl (j := 0) rfl ?_
  refine ai_getI dX0_open_1 fdX0_27 rfl rfl ?_
  refine ai_if_lt (tgt := 16) dX0_open_4 (by decide) ⟨fun (hc1 : (S 10 5) < 0) => ?_, fun (hc1 : ¬ (S 10 5) < 0) => ?_⟩
  · have h := h.1 hc1
    exact ai_retv dX0_open_16 rfl h
  · have h := h.2 hc1
    refine ai_aload_n dX0_open_7 rfl (j := 0) rfl ?_
    refine ai_getI dX0_open_8 fdX0_27 rfl rfl ?_
    refine ai_bipush (v := 30) dX0_open_11 (by decide) ?_
    refine ai_icmp_lt (tgt := 17) dX0_open_13 (by decide) ⟨fun (hc2 : (S 10 5) < 30) => ?_, fun (hc2 : ¬ (S 10 5) < 30) => ?_⟩
    · have h := h.1 hc2
      refine ai_aload_n dX0_open_17 rfl (j := 0) rfl ?_
      refine ai_dup dX0_open_18 rfl ?_
      refine ai_getI dX0_open_19 fdX0_27 rfl rfl ?_
      refine ai_iconst (v := 1) dX0_open_22 (by decide) ?_
      refine ai_iadd dX0_open_23 ?_
      refine ai_putI dX0_open_24 fdX0_27 pdX0_5 rfl rfl rfl rfl ?_
      refine ai_aload_n dX0_open_27 rfl (j := 0) rfl ?_
      refine ai_dup dX0_open_28 rfl ?_
      refine ai_getIx (S 10 7) dX0_open_29 fdX0_34 rfl rfl rfl ?_
      refine ai_iconst (v := 1) dX0_open_32 (by decide) ?_
      refine ai_iadd dX0_open_33 ?_
      refine ai_putI dX0_open_34 fdX0_34 pdX0_7 rfl rfl rfl rfl ?_
      refine ai_aload_n dX0_open_37 rfl (j := 0) rfl ?_
      refine ai_aload_n dX0_open_38 rfl (j := 0) rfl ?_
      refine ai_getIx (S 10 6) dX0_open_39 fdX0_31 rfl rfl rfl ?_
      refine ai_aload_n dX0_open_42 rfl (j := 0) rfl ?_
      refine ai_getIx ((S 10 5) + 1) dX0_open_43 fdX0_27 rfl rfl rfl ?_
      refine ai_mmax dX0_open_46 cxX0_37 (by decide) ?_
      refine ai_putI dX0_open_49 fdX0_31 pdX0_6 rfl rfl rfl rfl ?_
      refine ai_aload_n dX0_open_52 rfl (j := 0) rfl ?_
      refine ai_getR dX0_open_53 fdX0_15 rfl rfl ?_
      refine ai_aload_n dX0_open_56 rfl (j := 0) rfl ?_
      refine ai_getIx ((S 10 5) + 1) dX0_open_57 fdX0_27 rfl rfl rfl ?_
      refine ai_iload_n dX0_open_60 rfl (j := 1) rfl ?_
      refine ai_iast dX0_open_61 rfl ⟨h.1, ?_⟩
      have hi3 := h.1
      have h := h.2
      refine ai_aload_n dX0_open_62 rfl (j := 0) rfl ?_
      refine ai_getR dX0_open_63 fdX0_18 rfl rfl ?_
      refine ai_aload_n dX0_open_66 rfl (j := 0) rfl ?_
      refine ai_getIx ((S 10 5) + 1) dX0_open_67 fdX0_27 rfl rfl rfl ?_
      refine ai_iload_n dX0_open_70 rfl (j := 2) rfl ?_
      refine ai_iast dX0_open_71 rfl ⟨hi3, ?_⟩
      refine ai_aload_n dX0_open_72 rfl (j := 0) rfl ?_
      refine ai_getR dX0_open_73 fdX0_21 rfl rfl ?_
      refine ai_aload_n dX0_open_76 rfl (j := 0) rfl ?_
      refine ai_getIx ((S 10 5) + 1) dX0_open_77 fdX0_27 rfl rfl rfl ?_
      refine ai_iload_n dX0_open_80 rfl (j := 3) rfl ?_
      refine ai_iast dX0_open_81 rfl ⟨hi3, ?_⟩
      refine ai_aload_n dX0_open_82 rfl (j := 0) rfl ?_
      refine ai_aload_n dX0_open_83 rfl (j := 0) rfl ?_
      refine ai_aload_n dX0_open_84 rfl (j := 0) rfl ?_
      refine ai_getIx ((S 10 5) + 1) dX0_open_85 fdX0_27 rfl rfl rfl ?_
      refine ai_iconst (v := 0) dX0_open_88 (by decide) ?_
      refine ai_callVi (As := [.int ((S 10 5) + 1), .int 0]) (rest := [.ref 10]) dX0_open_89 cvX0_43 rfl rfl rfl (by decide) (vX0_addressOf ?_)
      show ai_W _ _ _ _ _ (.int ((((S 10 5) + 1) * 31) + 0) :: _) (ai_up (ai_up (ai_up (ai_up (ai_up (ai_up S 10 5 ((S 10 5) + 1)) 10 7 ((S 10 7) + 1)) 10 6 (if (S 10 6) < ((S 10 5) + 1) then ((S 10 5) + 1) else (S 10 6))) 12 (((S 10 5) + 1)).toNatClampNeg p1) 13 (((S 10 5) + 1)).toNatClampNeg p2) 14 (((S 10 5) + 1)).toNatClampNeg p3) _ _
      refine ai_iconst (v := 0) dX0_open_92 (by decide) ?_
      refine ai_callVv (As := [.int ((((S 10 5) + 1) * 31) + 0), .int 0]) (rest := []) dX0_open_93 cvX0_46 rfl rfl rfl (by decide) (vX0_setValue ?_)
      refine ⟨fun (hc4 : ((((S 10 5) + 1) * 31) + 0) < 0) => ?_, fun (hc4 : ¬ ((((S 10 5) + 1) * 31) + 0) < 0) => ?_⟩
      · have h := h.1 hc4
        show ai_W _ _ _ _ _ _ (ai_up (ai_up (ai_up (ai_up (ai_up (ai_up S 10 5 ((S 10 5) + 1)) 10 7 ((S 10 7) + 1)) 10 6 (if (S 10 6) < ((S 10 5) + 1) then ((S 10 5) + 1) else (S 10 6))) 12 (((S 10 5) + 1)).toNatClampNeg p1) 13 (((S 10 5) + 1)).toNatClampNeg p2) 14 (((S 10 5) + 1)).toNatClampNeg p3) _ _
        exact ai_retv dX0_open_96 rfl h
      · have h := h.2 hc4
        refine ⟨fun (hc5 : 961 ≤ ((((S 10 5) + 1) * 31) + 0)) => ?_, fun (hc5 : ¬ 961 ≤ ((((S 10 5) + 1) * 31) + 0)) => ?_⟩
        · have h := h.1 hc5
          show ai_W _ _ _ _ _ _ (ai_up (ai_up (ai_up (ai_up (ai_up (ai_up S 10 5 ((S 10 5) + 1)) 10 7 ((S 10 7) + 1)) 10 6 (if (S 10 6) < ((S 10 5) + 1) then ((S 10 5) + 1) else (S 10 6))) 12 (((S 10 5) + 1)).toNatClampNeg p1) 13 (((S 10 5) + 1)).toNatClampNeg p2) 14 (((S 10 5) + 1)).toNatClampNeg p3) _ _
          exact ai_retv dX0_open_96 rfl h
        · have h := h.2 hc5
          refine ⟨h.1, ?_⟩
          have hi6 := h.1
          have h := h.2
          show ai_W _ _ _ _ _ _ (ai_up (ai_up (ai_up (ai_up (ai_up (ai_up (ai_up S 10 5 ((S 10 5) + 1)) 10 7 ((S 10 7) + 1)) 10 6 (if (S 10 6) < ((S 10 5) + 1) then ((S 10 5) + 1) else (S 10 6))) 12 (((S 10 5) + 1)).toNatClampNeg p1) 13 (((S 10 5) + 1)).toNatClampNeg p2) 14 (((S 10 5) + 1)).toNatClampNeg p3) 11 (((((S 10 5) + 1) * 31) + 0)).toNatClampNeg 0) _ _
          exact ai_retv dX0_open_96 rfl h
    · have h := h.2 hc2
      exact ai_retv dX0_open_16 rfl h
set_option maxHeartbeats 4000000 in
set_option maxRecDepth 100000 in
theorem vX2_isPlace {p1 : Int32} {S : ai_S} {V : ai_V} {G : Bool → ai_S → Prop}
    (h : ((p1 < 0 → G false S) ∧ (¬ p1 < 0 → (((S 20 3) ≤ p1 → G false S) ∧ (¬ (S 20 3) ≤ p1 → ((488 ≤ p1 → G false S) ∧ (¬ 488 ≤ p1 → G true S))))))) :
    ai_met (uC l D ρ τ) d mX2_isPlace [.ref 20, .int p1] S V (ai_qz V G) := by
  refine ai_mof plX2 (Nat.le_of_ble_eq_true rfl) (lv := [(0, .ref 20), (1, .int p1)]) rfl ?_
  refine ai_iload_n dX2_isPlace_0 rfl (j := 1) rfl ?_
  refine ai_if_lt (tgt := 23) dX2_isPlace_1 (by decide) ⟨fun (hc1 : p1 < 0) => ?_, fun (hc1 : ¬ p1 < 0) => ?_⟩
  · have h := h.1 hc1
    refine ai_iconst (v := 0) dX2_isPlace_23 (by decide) ?_
    exact ai_retf dX2_isPlace_24 rfl h
  · have h := h.2 hc1
    refine ai_iload_n dX2_isPlace_4 rfl (j := 1) rfl ?_
    refine ai_aload_n dX2_isPlace_5 rfl (j := 0) rfl ?_
    refine ai_getI dX2_isPlace_6 fdX2_27 rfl rfl ?_
    refine ai_icmp_ge (tgt := 23) dX2_isPlace_9 (by decide) ⟨fun (hc2 : (S 20 3) ≤ p1) => ?_, fun (hc2 : ¬ (S 20 3) ≤ p1) => ?_⟩
    · have h := h.1 hc2
      refine ai_iconst (v := 0) dX2_isPlace_23 (by decide) ?_
      exact ai_retf dX2_isPlace_24 rfl h
    · have h := h.2 hc2
      refine ai_iload_n dX2_isPlace_12 rfl (j := 1) rfl ?_
      refine ai_sipush (v := 488) dX2_isPlace_13 (by decide) ?_
      refine ai_icmp_ge (tgt := 23) dX2_isPlace_16 (by decide) ⟨fun (hc3 : 488 ≤ p1) => ?_, fun (hc3 : ¬ 488 ≤ p1) => ?_⟩
      · have h := h.1 hc3
        refine ai_iconst (v := 0) dX2_isPlace_23 (by decide) ?_
        exact ai_retf dX2_isPlace_24 rfl h
      · have h := h.2 hc3
        refine ai_iconst (v := 1) dX2_isPlace_19 (by decide) ?_
        refine ai_goto (tgt := 24) dX2_isPlace_20 (by decide) ?_
        exact ai_rett dX2_isPlace_24 rfl h
set_option maxHeartbeats 4000000 in
set_option maxRecDepth 100000 in
theorem vX2_isProcedure {p1 : Int32} {S : ai_S} {V : ai_V} {G : Bool → ai_S → Prop}
    (h : ((p1 < 0 → G false S) ∧ (¬ p1 < 0 → (((S 20 6) ≤ p1 → G false S) ∧ (¬ (S 20 6) ≤ p1 → ((16 ≤ p1 → G false S) ∧ (¬ 16 ≤ p1 → G true S))))))) :
    ai_met (uC l D ρ τ) d mX2_isProcedure [.ref 20, .int p1] S V (ai_qz V G) := by
  refine ai_mof plX2 (Nat.le_of_ble_eq_true rfl) (lv := [(0, .ref 20), (1, .int p1)]) rfl ?_
  refine ai_iload_n dX2_isProcedure_0 rfl (j := 1) rfl ?_
  refine ai_if_lt (tgt := 22) dX2_isProcedure_1 (by decide) ⟨fun (hc1 : p1 < 0) => ?_, fun (hc1 : ¬ p1 < 0) => ?_⟩
  · have h := h.1 hc1
    refine ai_iconst (v := 0) dX2_isProcedure_22 (by decide) ?_
    exact ai_retf dX2_isProcedure_23 rfl h
  · have h := h.2 hc1
    refine ai_iload_n dX2_isProcedure_4 rfl (j := 1) rfl ?_
    refine ai_aload_n dX2_isProcedure_5 rfl (j := 0) rfl ?_
    refine ai_getI dX2_isProcedure_6 fdX2_31 rfl rfl ?_
    refine ai_icmp_ge (tgt := 22) dX2_isProcedure_9 (by decide) ⟨fun (hc2 : (S 20 6) ≤ p1) => ?_, fun (hc2 : ¬ (S 20 6) ≤ p1) => ?_⟩
    · have h := h.1 hc2
      refine ai_iconst (v := 0) dX2_isProcedure_22 (by decide) ?_
      exact ai_retf dX2_isProcedure_23 rfl h
    · have h := h.2 hc2
      refine ai_iload_n dX2_isProcedure_12 rfl (j := 1) rfl ?_
      refine ai_bipush (v := 16) dX2_isProcedure_13 (by decide) ?_
      refine ai_icmp_ge (tgt := 22) dX2_isProcedure_15 (by decide) ⟨fun (hc3 : 16 ≤ p1) => ?_, fun (hc3 : ¬ 16 ≤ p1) => ?_⟩
      · have h := h.1 hc3
        refine ai_iconst (v := 0) dX2_isProcedure_22 (by decide) ?_
        exact ai_retf dX2_isProcedure_23 rfl h
      · have h := h.2 hc3
        refine ai_iconst (v := 1) dX2_isProcedure_18 (by decide) ?_
        refine ai_goto (tgt := 23) dX2_isProcedure_19 (by decide) ?_
        exact ai_rett dX2_isProcedure_23 rfl h
set_option maxHeartbeats 4000000 in
set_option maxRecDepth 100000 in
theorem vX2_opAt {p1 : Int32} {S : ai_S} {V : ai_V} {G : Int32 → ai_S → Prop}
    (h : ((p1 < 0 → G 0 S) ∧ (¬ p1 < 0 → (((S 20 3) ≤ p1 → G 0 S) ∧ (¬ (S 20 3) ≤ p1 → ((488 ≤ p1 → G 0 S) ∧ (¬ 488 ≤ p1 → (vp_in p1 488 ∧ G (S 21 (p1).toNatClampNeg) S)))))))) :
    ai_met (uC l D ρ τ) (d + 1) mX2_opAt [.ref 20, .int p1] S V (ai_qi V G) := by
  refine ai_mof plX2 (Nat.le_of_ble_eq_true rfl) (lv := [(0, .ref 20), (1, .int p1)]) rfl ?_
  refine ai_aload_n dX2_opAt_0 rfl (j := 0) rfl ?_
  refine ai_iload_n dX2_opAt_1 rfl (j := 1) rfl ?_
  refine ai_callVz (As := [.int p1]) (rest := []) dX2_opAt_2 cvX2_43 rfl rfl rfl (by decide) (vX2_isPlace ?_)
  refine ⟨fun (hc1 : p1 < 0) => ?_, fun (hc1 : ¬ p1 < 0) => ?_⟩
  · have h := h.1 hc1
    refine ai_zf ?_
    refine ai_if_eq (tgt := 17) dX2_opAt_5 (by decide) ⟨fun _ => ?_, fun hc => absurd hc (by decide)⟩
    refine ai_iconst (v := 0) dX2_opAt_17 (by decide) ?_
    exact ai_reti dX2_opAt_18 rfl h
  · have h := h.2 hc1
    refine ⟨fun (hc2 : (S 20 3) ≤ p1) => ?_, fun (hc2 : ¬ (S 20 3) ≤ p1) => ?_⟩
    · have h := h.1 hc2
      refine ai_zf ?_
      refine ai_if_eq (tgt := 17) dX2_opAt_5 (by decide) ⟨fun _ => ?_, fun hc => absurd hc (by decide)⟩
      refine ai_iconst (v := 0) dX2_opAt_17 (by decide) ?_
      exact ai_reti dX2_opAt_18 rfl h
    · have h := h.2 hc2
      refine ⟨fun (hc3 : 488 ≤ p1) => ?_, fun (hc3 : ¬ 488 ≤ p1) => ?_⟩
      · have h := h.1 hc3
        refine ai_zf ?_
        refine ai_if_eq (tgt := 17) dX2_opAt_5 (by decide) ⟨fun _ => ?_, fun hc => absurd hc (by decide)⟩
        refine ai_iconst (v := 0) dX2_opAt_17 (by decide) ?_
        exact ai_reti dX2_opAt_18 rfl h
      · have h := h.2 hc3
        refine ai_zt ?_
        refine ai_if_eq (tgt := 17) dX2_opAt_5 (by decide) ⟨fun hc => absurd hc (by decide), fun _ => ?_⟩
        refine ai_aload_n dX2_opAt_8 rfl (j := 0) rfl ?_
        refine ai_getR dX2_opAt_9 fdX2_9 rfl rfl ?_
        refine ai_iload_n dX2_opAt_12 rfl (j := 1) rfl ?_
        refine ai_iald dX2_opAt_13 rfl ⟨h.1, ?_⟩
        have hi4 := h.1
        have h := h.2
        refine ai_goto (tgt := 18) dX2_opAt_14 (by decide) ?_
        exact ai_reti dX2_opAt_18 rfl h
set_option maxHeartbeats 4000000 in
set_option maxRecDepth 100000 in
theorem vX2_firstAt {p1 : Int32} {S : ai_S} {V : ai_V} {G : Int32 → ai_S → Prop}
    (h : ((p1 < 0 → G 0 S) ∧ (¬ p1 < 0 → (((S 20 3) ≤ p1 → G 0 S) ∧ (¬ (S 20 3) ≤ p1 → ((488 ≤ p1 → G 0 S) ∧ (¬ 488 ≤ p1 → (vp_in p1 488 ∧ G (S 22 (p1).toNatClampNeg) S)))))))) :
    ai_met (uC l D ρ τ) (d + 1) mX2_firstAt [.ref 20, .int p1] S V (ai_qi V G) := by
  refine ai_mof plX2 (Nat.le_of_ble_eq_true rfl) (lv := [(0, .ref 20), (1, .int p1)]) rfl ?_
  refine ai_aload_n dX2_firstAt_0 rfl (j := 0) rfl ?_
  refine ai_iload_n dX2_firstAt_1 rfl (j := 1) rfl ?_
  refine ai_callVz (As := [.int p1]) (rest := []) dX2_firstAt_2 cvX2_43 rfl rfl rfl (by decide) (vX2_isPlace ?_)
  refine ⟨fun (hc1 : p1 < 0) => ?_, fun (hc1 : ¬ p1 < 0) => ?_⟩
  · have h := h.1 hc1
    refine ai_zf ?_
    refine ai_if_eq (tgt := 17) dX2_firstAt_5 (by decide) ⟨fun _ => ?_, fun hc => absurd hc (by decide)⟩
    refine ai_iconst (v := 0) dX2_firstAt_17 (by decide) ?_
    exact ai_reti dX2_firstAt_18 rfl h
  · have h := h.2 hc1
    refine ⟨fun (hc2 : (S 20 3) ≤ p1) => ?_, fun (hc2 : ¬ (S 20 3) ≤ p1) => ?_⟩
    · have h := h.1 hc2
      refine ai_zf ?_
      refine ai_if_eq (tgt := 17) dX2_firstAt_5 (by decide) ⟨fun _ => ?_, fun hc => absurd hc (by decide)⟩
      refine ai_iconst (v := 0) dX2_firstAt_17 (by decide) ?_
      exact ai_reti dX2_firstAt_18 rfl h
    · have h := h.2 hc2
      refine ⟨fun (hc3 : 488 ≤ p1) => ?_, fun (hc3 : ¬ 488 ≤ p1) => ?_⟩
      · have h := h.1 hc3
        refine ai_zf ?_
        refine ai_if_eq (tgt := 17) dX2_firstAt_5 (by decide) ⟨fun _ => ?_, fun hc => absurd hc (by decide)⟩
        refine ai_iconst (v := 0) dX2_firstAt_17 (by decide) ?_
        exact ai_reti dX2_firstAt_18 rfl h
      · have h := h.2 hc3
        refine ai_zt ?_
        refine ai_if_eq (tgt := 17) dX2_firstAt_5 (by decide) ⟨fun hc => absurd hc (by decide), fun _ => ?_⟩
        refine ai_aload_n dX2_firstAt_8 rfl (j := 0) rfl ?_
        refine ai_getR dX2_firstAt_9 fdX2_15 rfl rfl ?_
        refine ai_iload_n dX2_firstAt_12 rfl (j := 1) rfl ?_
        refine ai_iald dX2_firstAt_13 rfl ⟨h.1, ?_⟩
        have hi4 := h.1
        have h := h.2
        refine ai_goto (tgt := 18) dX2_firstAt_14 (by decide) ?_
        exact ai_reti dX2_firstAt_18 rfl h
set_option maxHeartbeats 4000000 in
set_option maxRecDepth 100000 in
theorem vX2_secondAt {p1 : Int32} {S : ai_S} {V : ai_V} {G : Int32 → ai_S → Prop}
    (h : ((p1 < 0 → G 0 S) ∧ (¬ p1 < 0 → (((S 20 3) ≤ p1 → G 0 S) ∧ (¬ (S 20 3) ≤ p1 → ((488 ≤ p1 → G 0 S) ∧ (¬ 488 ≤ p1 → (vp_in p1 488 ∧ G (S 23 (p1).toNatClampNeg) S)))))))) :
    ai_met (uC l D ρ τ) (d + 1) mX2_secondAt [.ref 20, .int p1] S V (ai_qi V G) := by
  refine ai_mof plX2 (Nat.le_of_ble_eq_true rfl) (lv := [(0, .ref 20), (1, .int p1)]) rfl ?_
  refine ai_aload_n dX2_secondAt_0 rfl (j := 0) rfl ?_
  refine ai_iload_n dX2_secondAt_1 rfl (j := 1) rfl ?_
  refine ai_callVz (As := [.int p1]) (rest := []) dX2_secondAt_2 cvX2_43 rfl rfl rfl (by decide) (vX2_isPlace ?_)
  refine ⟨fun (hc1 : p1 < 0) => ?_, fun (hc1 : ¬ p1 < 0) => ?_⟩
  · have h := h.1 hc1
    refine ai_zf ?_
    refine ai_if_eq (tgt := 17) dX2_secondAt_5 (by decide) ⟨fun _ => ?_, fun hc => absurd hc (by decide)⟩
    refine ai_iconst (v := 0) dX2_secondAt_17 (by decide) ?_
    exact ai_reti dX2_secondAt_18 rfl h
  · have h := h.2 hc1
    refine ⟨fun (hc2 : (S 20 3) ≤ p1) => ?_, fun (hc2 : ¬ (S 20 3) ≤ p1) => ?_⟩
    · have h := h.1 hc2
      refine ai_zf ?_
      refine ai_if_eq (tgt := 17) dX2_secondAt_5 (by decide) ⟨fun _ => ?_, fun hc => absurd hc (by decide)⟩
      refine ai_iconst (v := 0) dX2_secondAt_17 (by decide) ?_
      exact ai_reti dX2_secondAt_18 rfl h
    · have h := h.2 hc2
      refine ⟨fun (hc3 : 488 ≤ p1) => ?_, fun (hc3 : ¬ 488 ≤ p1) => ?_⟩
      · have h := h.1 hc3
        refine ai_zf ?_
        refine ai_if_eq (tgt := 17) dX2_secondAt_5 (by decide) ⟨fun _ => ?_, fun hc => absurd hc (by decide)⟩
        refine ai_iconst (v := 0) dX2_secondAt_17 (by decide) ?_
        exact ai_reti dX2_secondAt_18 rfl h
      · have h := h.2 hc3
        refine ai_zt ?_
        refine ai_if_eq (tgt := 17) dX2_secondAt_5 (by decide) ⟨fun hc => absurd hc (by decide), fun _ => ?_⟩
        refine ai_aload_n dX2_secondAt_8 rfl (j := 0) rfl ?_
        refine ai_getR dX2_secondAt_9 fdX2_18 rfl rfl ?_
        refine ai_iload_n dX2_secondAt_12 rfl (j := 1) rfl ?_
        refine ai_iald dX2_secondAt_13 rfl ⟨h.1, ?_⟩
        have hi4 := h.1
        have h := h.2
        refine ai_goto (tgt := 18) dX2_secondAt_14 (by decide) ?_
        exact ai_reti dX2_secondAt_18 rfl h
set_option maxHeartbeats 4000000 in
set_option maxRecDepth 100000 in
theorem vX2_isActual {p1 : Int32} {S : ai_S} {V : ai_V} {G : Bool → ai_S → Prop}
    (h : ((p1 < 0 → G false S) ∧ (¬ p1 < 0 → (((S 20 3) ≤ p1 → G false S) ∧ (¬ (S 20 3) ≤ p1 → ((488 ≤ p1 → G false S) ∧ (¬ 488 ≤ p1 → (vp_in p1 488 ∧ (((S 21 (p1).toNatClampNeg) = 23 → G true S) ∧ (¬ (S 21 (p1).toNatClampNeg) = 23 → ((¬ (S 21 (p1).toNatClampNeg) = 24 → G false S) ∧ ((S 21 (p1).toNatClampNeg) = 24 → G true S)))))))))))) :
    ai_met (uC l D ρ τ) (d + 1) mX2_isActual [.ref 20, .int p1] S V (ai_qz V G) := by
  refine ai_mof plX2 (Nat.le_of_ble_eq_true rfl) (lv := [(0, .ref 20), (1, .int p1)]) rfl ?_
  refine ai_aload_n dX2_isActual_0 rfl (j := 0) rfl ?_
  refine ai_iload_n dX2_isActual_1 rfl (j := 1) rfl ?_
  refine ai_callVz (As := [.int p1]) (rest := []) dX2_isActual_2 cvX2_43 rfl rfl rfl (by decide) (vX2_isPlace ?_)
  refine ⟨fun (hc1 : p1 < 0) => ?_, fun (hc1 : ¬ p1 < 0) => ?_⟩
  · have h := h.1 hc1
    refine ai_zf ?_
    refine ai_if_eq (tgt := 34) dX2_isActual_5 (by decide) ⟨fun _ => ?_, fun hc => absurd hc (by decide)⟩
    refine ai_iconst (v := 0) dX2_isActual_34 (by decide) ?_
    exact ai_retf dX2_isActual_35 rfl h
  · have h := h.2 hc1
    refine ⟨fun (hc2 : (S 20 3) ≤ p1) => ?_, fun (hc2 : ¬ (S 20 3) ≤ p1) => ?_⟩
    · have h := h.1 hc2
      refine ai_zf ?_
      refine ai_if_eq (tgt := 34) dX2_isActual_5 (by decide) ⟨fun _ => ?_, fun hc => absurd hc (by decide)⟩
      refine ai_iconst (v := 0) dX2_isActual_34 (by decide) ?_
      exact ai_retf dX2_isActual_35 rfl h
    · have h := h.2 hc2
      refine ⟨fun (hc3 : 488 ≤ p1) => ?_, fun (hc3 : ¬ 488 ≤ p1) => ?_⟩
      · have h := h.1 hc3
        refine ai_zf ?_
        refine ai_if_eq (tgt := 34) dX2_isActual_5 (by decide) ⟨fun _ => ?_, fun hc => absurd hc (by decide)⟩
        refine ai_iconst (v := 0) dX2_isActual_34 (by decide) ?_
        exact ai_retf dX2_isActual_35 rfl h
      · have h := h.2 hc3
        refine ai_zt ?_
        refine ai_if_eq (tgt := 34) dX2_isActual_5 (by decide) ⟨fun hc => absurd hc (by decide), fun _ => ?_⟩
        refine ai_aload_n dX2_isActual_8 rfl (j := 0) rfl ?_
        refine ai_getR dX2_isActual_9 fdX2_9 rfl rfl ?_
        refine ai_iload_n dX2_isActual_12 rfl (j := 1) rfl ?_
        refine ai_iald dX2_isActual_13 rfl ⟨h.1, ?_⟩
        have hi4 := h.1
        have h := h.2
        refine ai_bipush (v := 23) dX2_isActual_14 (by decide) ?_
        refine ai_icmp_eq (tgt := 30) dX2_isActual_16 (by decide) ⟨fun (hc5 : (S 21 (p1).toNatClampNeg) = 23) => ?_, fun (hc5 : ¬ (S 21 (p1).toNatClampNeg) = 23) => ?_⟩
        · have h := h.1 hc5
          refine ai_iconst (v := 1) dX2_isActual_30 (by decide) ?_
          refine ai_goto (tgt := 35) dX2_isActual_31 (by decide) ?_
          exact ai_rett dX2_isActual_35 rfl h
        · have h := h.2 hc5
          refine ai_aload_n dX2_isActual_19 rfl (j := 0) rfl ?_
          refine ai_getR dX2_isActual_20 fdX2_9 rfl rfl ?_
          refine ai_iload_n dX2_isActual_23 rfl (j := 1) rfl ?_
          refine ai_iald dX2_isActual_24 rfl ⟨hi4, ?_⟩
          refine ai_bipush (v := 24) dX2_isActual_25 (by decide) ?_
          refine ai_icmp_ne (tgt := 34) dX2_isActual_27 (by decide) ⟨fun (hc6 : ¬ (S 21 (p1).toNatClampNeg) = 24) => ?_, fun (hc6 : (S 21 (p1).toNatClampNeg) = 24) => ?_⟩
          · have h := h.1 hc6
            refine ai_iconst (v := 0) dX2_isActual_34 (by decide) ?_
            exact ai_retf dX2_isActual_35 rfl h
          · have h := h.2 hc6
            refine ai_iconst (v := 1) dX2_isActual_30 (by decide) ?_
            refine ai_goto (tgt := 35) dX2_isActual_31 (by decide) ?_
            exact ai_rett dX2_isActual_35 rfl h
set_option maxHeartbeats 4000000 in
set_option maxRecDepth 100000 in
theorem vX2_formalCountOf {p1 : Int32} {S : ai_S} {V : ai_V} {G : Int32 → ai_S → Prop}
    (h : ((p1 < 0 → G 0 S) ∧ (¬ p1 < 0 → (((S 20 6) ≤ p1 → G 0 S) ∧ (¬ (S 20 6) ≤ p1 → ((16 ≤ p1 → G 0 S) ∧ (¬ 16 ≤ p1 → (vp_in p1 16 ∧ G (S 25 (p1).toNatClampNeg) S)))))))) :
    ai_met (uC l D ρ τ) (d + 1) mX2_formalCountOf [.ref 20, .int p1] S V (ai_qi V G) := by
  refine ai_mof plX2 (Nat.le_of_ble_eq_true rfl) (lv := [(0, .ref 20), (1, .int p1)]) rfl ?_
  refine ai_aload_n dX2_formalCountOf_0 rfl (j := 0) rfl ?_
  refine ai_iload_n dX2_formalCountOf_1 rfl (j := 1) rfl ?_
  refine ai_callVz (As := [.int p1]) (rest := []) dX2_formalCountOf_2 cvX2_47 rfl rfl rfl (by decide) (vX2_isProcedure ?_)
  refine ⟨fun (hc1 : p1 < 0) => ?_, fun (hc1 : ¬ p1 < 0) => ?_⟩
  · have h := h.1 hc1
    refine ai_zf ?_
    refine ai_if_eq (tgt := 17) dX2_formalCountOf_5 (by decide) ⟨fun _ => ?_, fun hc => absurd hc (by decide)⟩
    refine ai_iconst (v := 0) dX2_formalCountOf_17 (by decide) ?_
    exact ai_reti dX2_formalCountOf_18 rfl h
  · have h := h.2 hc1
    refine ⟨fun (hc2 : (S 20 6) ≤ p1) => ?_, fun (hc2 : ¬ (S 20 6) ≤ p1) => ?_⟩
    · have h := h.1 hc2
      refine ai_zf ?_
      refine ai_if_eq (tgt := 17) dX2_formalCountOf_5 (by decide) ⟨fun _ => ?_, fun hc => absurd hc (by decide)⟩
      refine ai_iconst (v := 0) dX2_formalCountOf_17 (by decide) ?_
      exact ai_reti dX2_formalCountOf_18 rfl h
    · have h := h.2 hc2
      refine ⟨fun (hc3 : 16 ≤ p1) => ?_, fun (hc3 : ¬ 16 ≤ p1) => ?_⟩
      · have h := h.1 hc3
        refine ai_zf ?_
        refine ai_if_eq (tgt := 17) dX2_formalCountOf_5 (by decide) ⟨fun _ => ?_, fun hc => absurd hc (by decide)⟩
        refine ai_iconst (v := 0) dX2_formalCountOf_17 (by decide) ?_
        exact ai_reti dX2_formalCountOf_18 rfl h
      · have h := h.2 hc3
        refine ai_zt ?_
        refine ai_if_eq (tgt := 17) dX2_formalCountOf_5 (by decide) ⟨fun hc => absurd hc (by decide), fun _ => ?_⟩
        refine ai_aload_n dX2_formalCountOf_8 rfl (j := 0) rfl ?_
        refine ai_getR dX2_formalCountOf_9 fdX2_24 rfl rfl ?_
        refine ai_iload_n dX2_formalCountOf_12 rfl (j := 1) rfl ?_
        refine ai_iald dX2_formalCountOf_13 rfl ⟨h.1, ?_⟩
        have hi4 := h.1
        have h := h.2
        refine ai_goto (tgt := 18) dX2_formalCountOf_14 (by decide) ?_
        exact ai_reti dX2_formalCountOf_18 rfl h
set_option maxHeartbeats 4000000 in
set_option maxRecDepth 100000 in
theorem vX2_startOf {p1 : Int32} {S : ai_S} {V : ai_V} {G : Int32 → ai_S → Prop}
    (h : ((p1 < 0 → G (S 20 3) S) ∧ (¬ p1 < 0 → (((S 20 6) ≤ p1 → G (S 20 3) S) ∧ (¬ (S 20 6) ≤ p1 → ((16 ≤ p1 → G (S 20 3) S) ∧ (¬ 16 ≤ p1 → (vp_in p1 16 ∧ G (S 24 (p1).toNatClampNeg) S)))))))) :
    ai_met (uC l D ρ τ) (d + 1) mX2_startOf [.ref 20, .int p1] S V (ai_qi V G) := by
  refine ai_mof plX2 (Nat.le_of_ble_eq_true rfl) (lv := [(0, .ref 20), (1, .int p1)]) rfl ?_
  refine ai_aload_n dX2_startOf_0 rfl (j := 0) rfl ?_
  refine ai_iload_n dX2_startOf_1 rfl (j := 1) rfl ?_
  refine ai_callVz (As := [.int p1]) (rest := []) dX2_startOf_2 cvX2_47 rfl rfl rfl (by decide) (vX2_isProcedure ?_)
  refine ⟨fun (hc1 : p1 < 0) => ?_, fun (hc1 : ¬ p1 < 0) => ?_⟩
  · have h := h.1 hc1
    refine ai_zf ?_
    refine ai_if_eq (tgt := 17) dX2_startOf_5 (by decide) ⟨fun _ => ?_, fun hc => absurd hc (by decide)⟩
    refine ai_aload_n dX2_startOf_17 rfl (j := 0) rfl ?_
    refine ai_getI dX2_startOf_18 fdX2_27 rfl rfl ?_
    exact ai_reti dX2_startOf_21 rfl h
  · have h := h.2 hc1
    refine ⟨fun (hc2 : (S 20 6) ≤ p1) => ?_, fun (hc2 : ¬ (S 20 6) ≤ p1) => ?_⟩
    · have h := h.1 hc2
      refine ai_zf ?_
      refine ai_if_eq (tgt := 17) dX2_startOf_5 (by decide) ⟨fun _ => ?_, fun hc => absurd hc (by decide)⟩
      refine ai_aload_n dX2_startOf_17 rfl (j := 0) rfl ?_
      refine ai_getI dX2_startOf_18 fdX2_27 rfl rfl ?_
      exact ai_reti dX2_startOf_21 rfl h
    · have h := h.2 hc2
      refine ⟨fun (hc3 : 16 ≤ p1) => ?_, fun (hc3 : ¬ 16 ≤ p1) => ?_⟩
      · have h := h.1 hc3
        refine ai_zf ?_
        refine ai_if_eq (tgt := 17) dX2_startOf_5 (by decide) ⟨fun _ => ?_, fun hc => absurd hc (by decide)⟩
        refine ai_aload_n dX2_startOf_17 rfl (j := 0) rfl ?_
        refine ai_getI dX2_startOf_18 fdX2_27 rfl rfl ?_
        exact ai_reti dX2_startOf_21 rfl h
      · have h := h.2 hc3
        refine ai_zt ?_
        refine ai_if_eq (tgt := 17) dX2_startOf_5 (by decide) ⟨fun hc => absurd hc (by decide), fun _ => ?_⟩
        refine ai_aload_n dX2_startOf_8 rfl (j := 0) rfl ?_
        refine ai_getR dX2_startOf_9 fdX2_21 rfl rfl ?_
        refine ai_iload_n dX2_startOf_12 rfl (j := 1) rfl ?_
        refine ai_iald dX2_startOf_13 rfl ⟨h.1, ?_⟩
        have hi4 := h.1
        have h := h.2
        refine ai_goto (tgt := 21) dX2_startOf_14 (by decide) ?_
        exact ai_reti dX2_startOf_21 rfl h
set_option maxHeartbeats 4000000 in
set_option maxRecDepth 100000 in
theorem vX2_clear_r {S : ai_S} {V : ai_V} {G : ai_S → Prop}
    (h : G (ai_up (ai_up (ai_up (ai_up (ai_up S 26 3 0) 26 6 0) 26 7 0) 26 8 0) 26 9 0)) :
    ai_met (uC l D ρ τ) d mX2_clear [.ref 26] S V (ai_qv V G) := by
  refine ai_mof plX2 (Nat.le_of_ble_eq_true rfl) (lv := [(0, .ref 26)]) rfl ?_
  refine ai_aload_n dX2_clear_0 rfl (j := 0) rfl ?_
  refine ai_iconst (v := 0) dX2_clear_1 (by decide) ?_
  refine ai_putI dX2_clear_2 fdX2_27 pdX2_3 rfl rfl rfl rfl ?_
  refine ai_aload_n dX2_clear_5 rfl (j := 0) rfl ?_
  refine ai_iconst (v := 0) dX2_clear_6 (by decide) ?_
  refine ai_putI dX2_clear_7 fdX2_31 pdX2_6 rfl rfl rfl rfl ?_
  refine ai_aload_n dX2_clear_10 rfl (j := 0) rfl ?_
  refine ai_iconst (v := 0) dX2_clear_11 (by decide) ?_
  refine ai_putI dX2_clear_12 fdX2_34 pdX2_7 rfl rfl rfl rfl ?_
  refine ai_aload_n dX2_clear_15 rfl (j := 0) rfl ?_
  refine ai_iconst (v := 0) dX2_clear_16 (by decide) ?_
  refine ai_putI dX2_clear_17 fdX2_37 pdX2_8 rfl rfl rfl rfl ?_
  refine ai_aload_n dX2_clear_20 rfl (j := 0) rfl ?_
  refine ai_iconst (v := 0) dX2_clear_21 (by decide) ?_
  refine ai_putI dX2_clear_22 fdX2_40 pdX2_9 rfl rfl rfl rfl ?_
  exact ai_retv dX2_clear_25 rfl h
set_option maxHeartbeats 4000000 in
set_option maxRecDepth 100000 in
theorem vX2_add_r {p1 : Int32} {p2 : Int32} {p3 : Int32} {S : ai_S} {V : ai_V} {G : Int32 → ai_S → Prop}
    (h : ((488 ≤ (S 26 3) → G (S 26 3) S) ∧ (¬ 488 ≤ (S 26 3) → (vp_in (S 26 3) 488 ∧ G (S 26 3) (ai_up (ai_up (ai_up (ai_up S 27 ((S 26 3)).toNatClampNeg p1) 28 ((S 26 3)).toNatClampNeg p2) 29 ((S 26 3)).toNatClampNeg p3) 26 3 ((S 26 3) + 1)))))) :
    ai_met (uC l D ρ τ) d mX2_add [.ref 26, .int p1, .int p2, .int p3] S V (ai_qi V G) := by
  refine ai_mof plX2 (Nat.le_of_ble_eq_true rfl) (lv := [(0, .ref 26), (1, .int p1), (2, .int p2), (3, .int p3)]) rfl ?_
  refine ai_aload_n dX2_add_0 rfl (j := 0) rfl ?_
  refine ai_getI dX2_add_1 fdX2_27 rfl rfl ?_
  refine ai_istore (lv' := [(4, .int (S 26 3)), (0, .ref 26), (1, .int p1), (2, .int p2), (3, .int p3)]) dX2_add_4 (by decide) rfl ?_
  refine ai_iload dX2_add_6 (j := 0) rfl ?_
  refine ai_sipush (v := 488) dX2_add_8 (by decide) ?_
  refine ai_icmp_ge (tgt := 48) dX2_add_11 (by decide) ⟨fun (hc1 : 488 ≤ (S 26 3)) => ?_, fun (hc1 : ¬ 488 ≤ (S 26 3)) => ?_⟩
  · have h := h.1 hc1
    refine ai_iload dX2_add_48 (j := 0) rfl ?_
    exact ai_reti dX2_add_50 rfl h
  · have h := h.2 hc1
    refine ai_aload_n dX2_add_14 rfl (j := 1) rfl ?_
    refine ai_getR dX2_add_15 fdX2_9 rfl rfl ?_
    refine ai_iload dX2_add_18 (j := 0) rfl ?_
    refine ai_iload_n dX2_add_20 rfl (j := 2) rfl ?_
    refine ai_iast dX2_add_21 rfl ⟨h.1, ?_⟩
    have hi2 := h.1
    have h := h.2
    refine ai_aload_n dX2_add_22 rfl (j := 1) rfl ?_
    refine ai_getR dX2_add_23 fdX2_15 rfl rfl ?_
    refine ai_iload dX2_add_26 (j := 0) rfl ?_
    refine ai_iload_n dX2_add_28 rfl (j := 3) rfl ?_
    refine ai_iast dX2_add_29 rfl ⟨hi2, ?_⟩
    refine ai_aload_n dX2_add_30 rfl (j := 1) rfl ?_
    refine ai_getR dX2_add_31 fdX2_18 rfl rfl ?_
    refine ai_iload dX2_add_34 (j := 0) rfl ?_
    refine ai_iload_n dX2_add_36 rfl (j := 4) rfl ?_
    refine ai_iast dX2_add_37 rfl ⟨hi2, ?_⟩
    refine ai_aload_n dX2_add_38 rfl (j := 1) rfl ?_
    refine ai_dup dX2_add_39 rfl ?_
    refine ai_getIx (S 26 3) dX2_add_40 fdX2_27 rfl rfl rfl ?_
    refine ai_iconst (v := 1) dX2_add_43 (by decide) ?_
    refine ai_iadd dX2_add_44 ?_
    refine ai_putI dX2_add_45 fdX2_27 pdX2_3 rfl rfl rfl rfl ?_
    refine ai_iload dX2_add_48 (j := 0) rfl ?_
    exact ai_reti dX2_add_50 rfl h
set_option maxHeartbeats 4000000 in
set_option maxRecDepth 100000 in
theorem vX2_isPlace_r {p1 : Int32} {S : ai_S} {V : ai_V} {G : Bool → ai_S → Prop}
    (h : ((p1 < 0 → G false S) ∧ (¬ p1 < 0 → (((S 26 3) ≤ p1 → G false S) ∧ (¬ (S 26 3) ≤ p1 → ((488 ≤ p1 → G false S) ∧ (¬ 488 ≤ p1 → G true S))))))) :
    ai_met (uC l D ρ τ) d mX2_isPlace [.ref 26, .int p1] S V (ai_qz V G) := by
  refine ai_mof plX2 (Nat.le_of_ble_eq_true rfl) (lv := [(0, .ref 26), (1, .int p1)]) rfl ?_
  refine ai_iload_n dX2_isPlace_0 rfl (j := 1) rfl ?_
  refine ai_if_lt (tgt := 23) dX2_isPlace_1 (by decide) ⟨fun (hc1 : p1 < 0) => ?_, fun (hc1 : ¬ p1 < 0) => ?_⟩
  · have h := h.1 hc1
    refine ai_iconst (v := 0) dX2_isPlace_23 (by decide) ?_
    exact ai_retf dX2_isPlace_24 rfl h
  · have h := h.2 hc1
    refine ai_iload_n dX2_isPlace_4 rfl (j := 1) rfl ?_
    refine ai_aload_n dX2_isPlace_5 rfl (j := 0) rfl ?_
    refine ai_getI dX2_isPlace_6 fdX2_27 rfl rfl ?_
    refine ai_icmp_ge (tgt := 23) dX2_isPlace_9 (by decide) ⟨fun (hc2 : (S 26 3) ≤ p1) => ?_, fun (hc2 : ¬ (S 26 3) ≤ p1) => ?_⟩
    · have h := h.1 hc2
      refine ai_iconst (v := 0) dX2_isPlace_23 (by decide) ?_
      exact ai_retf dX2_isPlace_24 rfl h
    · have h := h.2 hc2
      refine ai_iload_n dX2_isPlace_12 rfl (j := 1) rfl ?_
      refine ai_sipush (v := 488) dX2_isPlace_13 (by decide) ?_
      refine ai_icmp_ge (tgt := 23) dX2_isPlace_16 (by decide) ⟨fun (hc3 : 488 ≤ p1) => ?_, fun (hc3 : ¬ 488 ≤ p1) => ?_⟩
      · have h := h.1 hc3
        refine ai_iconst (v := 0) dX2_isPlace_23 (by decide) ?_
        exact ai_retf dX2_isPlace_24 rfl h
      · have h := h.2 hc3
        refine ai_iconst (v := 1) dX2_isPlace_19 (by decide) ?_
        refine ai_goto (tgt := 24) dX2_isPlace_20 (by decide) ?_
        exact ai_rett dX2_isPlace_24 rfl h
set_option maxHeartbeats 4000000 in
set_option maxRecDepth 100000 in
theorem vX2_setFirst_r {p1 : Int32} {p2 : Int32} {S : ai_S} {V : ai_V} {G : ai_S → Prop}
    (h : ((p1 < 0 → G S) ∧ (¬ p1 < 0 → (((S 26 3) ≤ p1 → G S) ∧ (¬ (S 26 3) ≤ p1 → ((488 ≤ p1 → G S) ∧ (¬ 488 ≤ p1 → (vp_in p1 488 ∧ G (ai_up S 28 (p1).toNatClampNeg p2))))))))) :
    ai_met (uC l D ρ τ) (d + 1) mX2_setFirst [.ref 26, .int p1, .int p2] S V (ai_qv V G) := by
  refine ai_mof plX2 (Nat.le_of_ble_eq_true rfl) (lv := [(0, .ref 26), (1, .int p1), (2, .int p2)]) rfl ?_
  refine ai_aload_n dX2_setFirst_0 rfl (j := 0) rfl ?_
  refine ai_iload_n dX2_setFirst_1 rfl (j := 1) rfl ?_
  refine ai_callVz (As := [.int p1]) (rest := []) dX2_setFirst_2 cvX2_43 rfl rfl rfl (by decide) (vX2_isPlace_r ?_)
  refine ⟨fun (hc1 : p1 < 0) => ?_, fun (hc1 : ¬ p1 < 0) => ?_⟩
  · have h := h.1 hc1
    refine ai_zf ?_
    refine ai_if_eq (tgt := 15) dX2_setFirst_5 (by decide) ⟨fun _ => ?_, fun hc => absurd hc (by decide)⟩
    exact ai_retv dX2_setFirst_15 rfl h
  · have h := h.2 hc1
    refine ⟨fun (hc2 : (S 26 3) ≤ p1) => ?_, fun (hc2 : ¬ (S 26 3) ≤ p1) => ?_⟩
    · have h := h.1 hc2
      refine ai_zf ?_
      refine ai_if_eq (tgt := 15) dX2_setFirst_5 (by decide) ⟨fun _ => ?_, fun hc => absurd hc (by decide)⟩
      exact ai_retv dX2_setFirst_15 rfl h
    · have h := h.2 hc2
      refine ⟨fun (hc3 : 488 ≤ p1) => ?_, fun (hc3 : ¬ 488 ≤ p1) => ?_⟩
      · have h := h.1 hc3
        refine ai_zf ?_
        refine ai_if_eq (tgt := 15) dX2_setFirst_5 (by decide) ⟨fun _ => ?_, fun hc => absurd hc (by decide)⟩
        exact ai_retv dX2_setFirst_15 rfl h
      · have h := h.2 hc3
        refine ai_zt ?_
        refine ai_if_eq (tgt := 15) dX2_setFirst_5 (by decide) ⟨fun hc => absurd hc (by decide), fun _ => ?_⟩
        refine ai_aload_n dX2_setFirst_8 rfl (j := 0) rfl ?_
        refine ai_getR dX2_setFirst_9 fdX2_15 rfl rfl ?_
        refine ai_iload_n dX2_setFirst_12 rfl (j := 1) rfl ?_
        refine ai_iload_n dX2_setFirst_13 rfl (j := 2) rfl ?_
        refine ai_iast dX2_setFirst_14 rfl ⟨h.1, ?_⟩
        have hi4 := h.1
        have h := h.2
        exact ai_retv dX2_setFirst_15 rfl h
set_option maxHeartbeats 4000000 in
set_option maxRecDepth 100000 in
theorem vX2_setSecond_r {p1 : Int32} {p2 : Int32} {S : ai_S} {V : ai_V} {G : ai_S → Prop}
    (h : ((p1 < 0 → G S) ∧ (¬ p1 < 0 → (((S 26 3) ≤ p1 → G S) ∧ (¬ (S 26 3) ≤ p1 → ((488 ≤ p1 → G S) ∧ (¬ 488 ≤ p1 → (vp_in p1 488 ∧ G (ai_up S 29 (p1).toNatClampNeg p2))))))))) :
    ai_met (uC l D ρ τ) (d + 1) mX2_setSecond [.ref 26, .int p1, .int p2] S V (ai_qv V G) := by
  refine ai_mof plX2 (Nat.le_of_ble_eq_true rfl) (lv := [(0, .ref 26), (1, .int p1), (2, .int p2)]) rfl ?_
  refine ai_aload_n dX2_setSecond_0 rfl (j := 0) rfl ?_
  refine ai_iload_n dX2_setSecond_1 rfl (j := 1) rfl ?_
  refine ai_callVz (As := [.int p1]) (rest := []) dX2_setSecond_2 cvX2_43 rfl rfl rfl (by decide) (vX2_isPlace_r ?_)
  refine ⟨fun (hc1 : p1 < 0) => ?_, fun (hc1 : ¬ p1 < 0) => ?_⟩
  · have h := h.1 hc1
    refine ai_zf ?_
    refine ai_if_eq (tgt := 15) dX2_setSecond_5 (by decide) ⟨fun _ => ?_, fun hc => absurd hc (by decide)⟩
    exact ai_retv dX2_setSecond_15 rfl h
  · have h := h.2 hc1
    refine ⟨fun (hc2 : (S 26 3) ≤ p1) => ?_, fun (hc2 : ¬ (S 26 3) ≤ p1) => ?_⟩
    · have h := h.1 hc2
      refine ai_zf ?_
      refine ai_if_eq (tgt := 15) dX2_setSecond_5 (by decide) ⟨fun _ => ?_, fun hc => absurd hc (by decide)⟩
      exact ai_retv dX2_setSecond_15 rfl h
    · have h := h.2 hc2
      refine ⟨fun (hc3 : 488 ≤ p1) => ?_, fun (hc3 : ¬ 488 ≤ p1) => ?_⟩
      · have h := h.1 hc3
        refine ai_zf ?_
        refine ai_if_eq (tgt := 15) dX2_setSecond_5 (by decide) ⟨fun _ => ?_, fun hc => absurd hc (by decide)⟩
        exact ai_retv dX2_setSecond_15 rfl h
      · have h := h.2 hc3
        refine ai_zt ?_
        refine ai_if_eq (tgt := 15) dX2_setSecond_5 (by decide) ⟨fun hc => absurd hc (by decide), fun _ => ?_⟩
        refine ai_aload_n dX2_setSecond_8 rfl (j := 0) rfl ?_
        refine ai_getR dX2_setSecond_9 fdX2_18 rfl rfl ?_
        refine ai_iload_n dX2_setSecond_12 rfl (j := 1) rfl ?_
        refine ai_iload_n dX2_setSecond_13 rfl (j := 2) rfl ?_
        refine ai_iast dX2_setSecond_14 rfl ⟨h.1, ?_⟩
        have hi4 := h.1
        have h := h.2
        exact ai_retv dX2_setSecond_15 rfl h
set_option maxHeartbeats 4000000 in
set_option maxRecDepth 100000 in
theorem vX2_addProcedure_r {S : ai_S} {V : ai_V} {G : Int32 → ai_S → Prop}
    (h : ((16 ≤ (S 26 6) → G (S 26 6) S) ∧ (¬ 16 ≤ (S 26 6) → (vp_in (S 26 6) 16 ∧ G (S 26 6) (ai_up (ai_up (ai_up S 30 ((S 26 6)).toNatClampNeg (S 26 3)) 31 ((S 26 6)).toNatClampNeg 0) 26 6 ((S 26 6) + 1)))))) :
    ai_met (uC l D ρ τ) d mX2_addProcedure [.ref 26] S V (ai_qi V G) := by
  refine ai_mof plX2 (Nat.le_of_ble_eq_true rfl) (lv := [(0, .ref 26)]) rfl ?_
  refine ai_aload_n dX2_addProcedure_0 rfl (j := 0) rfl ?_
  refine ai_getI dX2_addProcedure_1 fdX2_31 rfl rfl ?_
  refine ai_istore_n (lv' := [(1, .int (S 26 6)), (0, .ref 26)]) dX2_addProcedure_4 rfl (by decide) rfl ?_
  refine ai_iload_n dX2_addProcedure_5 rfl (j := 0) rfl ?_
  refine ai_bipush (v := 16) dX2_addProcedure_6 (by decide) ?_
  refine ai_icmp_ge (tgt := 38) dX2_addProcedure_8 (by decide) ⟨fun (hc1 : 16 ≤ (S 26 6)) => ?_, fun (hc1 : ¬ 16 ≤ (S 26 6)) => ?_⟩
  · have h := h.1 hc1
    refine ai_iload_n dX2_addProcedure_38 rfl (j := 0) rfl ?_
    exact ai_reti dX2_addProcedure_39 rfl h
  · have h := h.2 hc1
    refine ai_aload_n dX2_addProcedure_11 rfl (j := 1) rfl ?_
    refine ai_getR dX2_addProcedure_12 fdX2_21 rfl rfl ?_
    refine ai_iload_n dX2_addProcedure_15 rfl (j := 0) rfl ?_
    refine ai_aload_n dX2_addProcedure_16 rfl (j := 1) rfl ?_
    refine ai_getI dX2_addProcedure_17 fdX2_27 rfl rfl ?_
    refine ai_iast dX2_addProcedure_20 rfl ⟨h.1, ?_⟩
    have hi2 := h.1
    have h := h.2
    refine ai_aload_n dX2_addProcedure_21 rfl (j := 1) rfl ?_
    refine ai_getR dX2_addProcedure_22 fdX2_24 rfl rfl ?_
    refine ai_iload_n dX2_addProcedure_25 rfl (j := 0) rfl ?_
    refine ai_iconst (v := 0) dX2_addProcedure_26 (by decide) ?_
    refine ai_iast dX2_addProcedure_27 rfl ⟨hi2, ?_⟩
    refine ai_aload_n dX2_addProcedure_28 rfl (j := 1) rfl ?_
    refine ai_dup dX2_addProcedure_29 rfl ?_
    refine ai_getIx (S 26 6) dX2_addProcedure_30 fdX2_31 rfl rfl rfl ?_
    refine ai_iconst (v := 1) dX2_addProcedure_33 (by decide) ?_
    refine ai_iadd dX2_addProcedure_34 ?_
    refine ai_putI dX2_addProcedure_35 fdX2_31 pdX2_6 rfl rfl rfl rfl ?_
    refine ai_iload_n dX2_addProcedure_38 rfl (j := 0) rfl ?_
    exact ai_reti dX2_addProcedure_39 rfl h
set_option maxHeartbeats 4000000 in
set_option maxRecDepth 100000 in
theorem vX2_isProcedure_r {p1 : Int32} {S : ai_S} {V : ai_V} {G : Bool → ai_S → Prop}
    (h : ((p1 < 0 → G false S) ∧ (¬ p1 < 0 → (((S 26 6) ≤ p1 → G false S) ∧ (¬ (S 26 6) ≤ p1 → ((16 ≤ p1 → G false S) ∧ (¬ 16 ≤ p1 → G true S))))))) :
    ai_met (uC l D ρ τ) d mX2_isProcedure [.ref 26, .int p1] S V (ai_qz V G) := by
  refine ai_mof plX2 (Nat.le_of_ble_eq_true rfl) (lv := [(0, .ref 26), (1, .int p1)]) rfl ?_
  refine ai_iload_n dX2_isProcedure_0 rfl (j := 1) rfl ?_
  refine ai_if_lt (tgt := 22) dX2_isProcedure_1 (by decide) ⟨fun (hc1 : p1 < 0) => ?_, fun (hc1 : ¬ p1 < 0) => ?_⟩
  · have h := h.1 hc1
    refine ai_iconst (v := 0) dX2_isProcedure_22 (by decide) ?_
    exact ai_retf dX2_isProcedure_23 rfl h
  · have h := h.2 hc1
    refine ai_iload_n dX2_isProcedure_4 rfl (j := 1) rfl ?_
    refine ai_aload_n dX2_isProcedure_5 rfl (j := 0) rfl ?_
    refine ai_getI dX2_isProcedure_6 fdX2_31 rfl rfl ?_
    refine ai_icmp_ge (tgt := 22) dX2_isProcedure_9 (by decide) ⟨fun (hc2 : (S 26 6) ≤ p1) => ?_, fun (hc2 : ¬ (S 26 6) ≤ p1) => ?_⟩
    · have h := h.1 hc2
      refine ai_iconst (v := 0) dX2_isProcedure_22 (by decide) ?_
      exact ai_retf dX2_isProcedure_23 rfl h
    · have h := h.2 hc2
      refine ai_iload_n dX2_isProcedure_12 rfl (j := 1) rfl ?_
      refine ai_bipush (v := 16) dX2_isProcedure_13 (by decide) ?_
      refine ai_icmp_ge (tgt := 22) dX2_isProcedure_15 (by decide) ⟨fun (hc3 : 16 ≤ p1) => ?_, fun (hc3 : ¬ 16 ≤ p1) => ?_⟩
      · have h := h.1 hc3
        refine ai_iconst (v := 0) dX2_isProcedure_22 (by decide) ?_
        exact ai_retf dX2_isProcedure_23 rfl h
      · have h := h.2 hc3
        refine ai_iconst (v := 1) dX2_isProcedure_18 (by decide) ?_
        refine ai_goto (tgt := 23) dX2_isProcedure_19 (by decide) ?_
        exact ai_rett dX2_isProcedure_23 rfl h
set_option maxHeartbeats 4000000 in
set_option maxRecDepth 100000 in
theorem vX2_setFormalCount_r {p1 : Int32} {p2 : Int32} {S : ai_S} {V : ai_V} {G : ai_S → Prop}
    (h : ((p1 < 0 → G S) ∧ (¬ p1 < 0 → (((S 26 6) ≤ p1 → G S) ∧ (¬ (S 26 6) ≤ p1 → ((16 ≤ p1 → G S) ∧ (¬ 16 ≤ p1 → (vp_in p1 16 ∧ G (ai_up S 31 (p1).toNatClampNeg p2))))))))) :
    ai_met (uC l D ρ τ) (d + 1) mX2_setFormalCount [.ref 26, .int p1, .int p2] S V (ai_qv V G) := by
  refine ai_mof plX2 (Nat.le_of_ble_eq_true rfl) (lv := [(0, .ref 26), (1, .int p1), (2, .int p2)]) rfl ?_
  refine ai_aload_n dX2_setFormalCount_0 rfl (j := 0) rfl ?_
  refine ai_iload_n dX2_setFormalCount_1 rfl (j := 1) rfl ?_
  refine ai_callVz (As := [.int p1]) (rest := []) dX2_setFormalCount_2 cvX2_47 rfl rfl rfl (by decide) (vX2_isProcedure_r ?_)
  refine ⟨fun (hc1 : p1 < 0) => ?_, fun (hc1 : ¬ p1 < 0) => ?_⟩
  · have h := h.1 hc1
    refine ai_zf ?_
    refine ai_if_eq (tgt := 15) dX2_setFormalCount_5 (by decide) ⟨fun _ => ?_, fun hc => absurd hc (by decide)⟩
    exact ai_retv dX2_setFormalCount_15 rfl h
  · have h := h.2 hc1
    refine ⟨fun (hc2 : (S 26 6) ≤ p1) => ?_, fun (hc2 : ¬ (S 26 6) ≤ p1) => ?_⟩
    · have h := h.1 hc2
      refine ai_zf ?_
      refine ai_if_eq (tgt := 15) dX2_setFormalCount_5 (by decide) ⟨fun _ => ?_, fun hc => absurd hc (by decide)⟩
      exact ai_retv dX2_setFormalCount_15 rfl h
    · have h := h.2 hc2
      refine ⟨fun (hc3 : 16 ≤ p1) => ?_, fun (hc3 : ¬ 16 ≤ p1) => ?_⟩
      · have h := h.1 hc3
        refine ai_zf ?_
        refine ai_if_eq (tgt := 15) dX2_setFormalCount_5 (by decide) ⟨fun _ => ?_, fun hc => absurd hc (by decide)⟩
        exact ai_retv dX2_setFormalCount_15 rfl h
      · have h := h.2 hc3
        refine ai_zt ?_
        refine ai_if_eq (tgt := 15) dX2_setFormalCount_5 (by decide) ⟨fun hc => absurd hc (by decide), fun _ => ?_⟩
        refine ai_aload_n dX2_setFormalCount_8 rfl (j := 0) rfl ?_
        refine ai_getR dX2_setFormalCount_9 fdX2_24 rfl rfl ?_
        refine ai_iload_n dX2_setFormalCount_12 rfl (j := 1) rfl ?_
        refine ai_iload_n dX2_setFormalCount_13 rfl (j := 2) rfl ?_
        refine ai_iast dX2_setFormalCount_14 rfl ⟨h.1, ?_⟩
        have hi4 := h.1
        have h := h.2
        exact ai_retv dX2_setFormalCount_15 rfl h
set_option maxHeartbeats 4000000 in
set_option maxRecDepth 100000 in
theorem vX4_clear {S : ai_S} {V : ai_V} {G : ai_S → Prop}
    (h : G (ai_up (ai_up (ai_up S 3 4 0) 3 5 0) 3 7 7)) :
    ai_met (uC l D ρ τ) d mX4_clear [.ref 3] S V (ai_qv V G) := by
  refine ai_mof plX4 (Nat.le_of_ble_eq_true rfl) (lv := [(0, .ref 3)]) rfl ?_
  refine ai_aload_n dX4_clear_0 rfl (j := 0) rfl ?_
  refine ai_iconst (v := 0) dX4_clear_1 (by decide) ?_
  refine ai_putI dX4_clear_2 fdX4_27 pdX4_4 rfl rfl rfl rfl ?_
  refine ai_aload_n dX4_clear_5 rfl (j := 0) rfl ?_
  refine ai_iconst (v := 0) dX4_clear_6 (by decide) ?_
  refine ai_putI dX4_clear_7 fdX4_31 pdX4_5 rfl rfl rfl rfl ?_
  refine ai_aload_n dX4_clear_10 rfl (j := 0) rfl ?_
  refine ai_bipush (v := 7) dX4_clear_11 (by decide) ?_
  refine ai_putI dX4_clear_13 fdX4_34 pdX4_7 rfl rfl rfl rfl ?_
  exact ai_retv dX4_clear_16 rfl h
set_option maxHeartbeats 4000000 in
set_option maxRecDepth 100000 in
theorem vX4_isEntry {p1 : Int32} {S : ai_S} {V : ai_V} {G : Bool → ai_S → Prop}
    (h : ((p1 < 0 → G false S) ∧ (¬ p1 < 0 → (((S 3 4) ≤ p1 → G false S) ∧ (¬ (S 3 4) ≤ p1 → ((136 ≤ p1 → G false S) ∧ (¬ 136 ≤ p1 → G true S))))))) :
    ai_met (uC l D ρ τ) d mX4_isEntry [.ref 3, .int p1] S V (ai_qz V G) := by
  refine ai_mof plX4 (Nat.le_of_ble_eq_true rfl) (lv := [(0, .ref 3), (1, .int p1)]) rfl ?_
  refine ai_iload_n dX4_isEntry_0 rfl (j := 1) rfl ?_
  refine ai_if_lt (tgt := 23) dX4_isEntry_1 (by decide) ⟨fun (hc1 : p1 < 0) => ?_, fun (hc1 : ¬ p1 < 0) => ?_⟩
  · have h := h.1 hc1
    refine ai_iconst (v := 0) dX4_isEntry_23 (by decide) ?_
    exact ai_retf dX4_isEntry_24 rfl h
  · have h := h.2 hc1
    refine ai_iload_n dX4_isEntry_4 rfl (j := 1) rfl ?_
    refine ai_aload_n dX4_isEntry_5 rfl (j := 0) rfl ?_
    refine ai_getI dX4_isEntry_6 fdX4_27 rfl rfl ?_
    refine ai_icmp_ge (tgt := 23) dX4_isEntry_9 (by decide) ⟨fun (hc2 : (S 3 4) ≤ p1) => ?_, fun (hc2 : ¬ (S 3 4) ≤ p1) => ?_⟩
    · have h := h.1 hc2
      refine ai_iconst (v := 0) dX4_isEntry_23 (by decide) ?_
      exact ai_retf dX4_isEntry_24 rfl h
    · have h := h.2 hc2
      refine ai_iload_n dX4_isEntry_12 rfl (j := 1) rfl ?_
      refine ai_sipush (v := 136) dX4_isEntry_13 (by decide) ?_
      refine ai_icmp_ge (tgt := 23) dX4_isEntry_16 (by decide) ⟨fun (hc3 : 136 ≤ p1) => ?_, fun (hc3 : ¬ 136 ≤ p1) => ?_⟩
      · have h := h.1 hc3
        refine ai_iconst (v := 0) dX4_isEntry_23 (by decide) ?_
        exact ai_retf dX4_isEntry_24 rfl h
      · have h := h.2 hc3
        refine ai_iconst (v := 1) dX4_isEntry_19 (by decide) ?_
        refine ai_goto (tgt := 24) dX4_isEntry_20 (by decide) ?_
        exact ai_rett dX4_isEntry_24 rfl h
set_option maxHeartbeats 4000000 in
set_option maxRecDepth 100000 in
theorem vX4_kindOf {p1 : Int32} {S : ai_S} {V : ai_V} {G : Int32 → ai_S → Prop}
    (h : ((p1 < 0 → G 0 S) ∧ (¬ p1 < 0 → (((S 3 4) ≤ p1 → G 0 S) ∧ (¬ (S 3 4) ≤ p1 → ((136 ≤ p1 → G 0 S) ∧ (¬ 136 ≤ p1 → (vp_in p1 136 ∧ G (S 5 (p1).toNatClampNeg) S)))))))) :
    ai_met (uC l D ρ τ) (d + 1) mX4_kindOf [.ref 3, .int p1] S V (ai_qi V G) := by
  refine ai_mof plX4 (Nat.le_of_ble_eq_true rfl) (lv := [(0, .ref 3), (1, .int p1)]) rfl ?_
  refine ai_aload_n dX4_kindOf_0 rfl (j := 0) rfl ?_
  refine ai_iload_n dX4_kindOf_1 rfl (j := 1) rfl ?_
  refine ai_callVz (As := [.int p1]) (rest := []) dX4_kindOf_2 cvX4_46 rfl rfl rfl (by decide) (vX4_isEntry ?_)
  refine ⟨fun (hc1 : p1 < 0) => ?_, fun (hc1 : ¬ p1 < 0) => ?_⟩
  · have h := h.1 hc1
    refine ai_zf ?_
    refine ai_if_eq (tgt := 17) dX4_kindOf_5 (by decide) ⟨fun _ => ?_, fun hc => absurd hc (by decide)⟩
    refine ai_iconst (v := 0) dX4_kindOf_17 (by decide) ?_
    exact ai_reti dX4_kindOf_18 rfl h
  · have h := h.2 hc1
    refine ⟨fun (hc2 : (S 3 4) ≤ p1) => ?_, fun (hc2 : ¬ (S 3 4) ≤ p1) => ?_⟩
    · have h := h.1 hc2
      refine ai_zf ?_
      refine ai_if_eq (tgt := 17) dX4_kindOf_5 (by decide) ⟨fun _ => ?_, fun hc => absurd hc (by decide)⟩
      refine ai_iconst (v := 0) dX4_kindOf_17 (by decide) ?_
      exact ai_reti dX4_kindOf_18 rfl h
    · have h := h.2 hc2
      refine ⟨fun (hc3 : 136 ≤ p1) => ?_, fun (hc3 : ¬ 136 ≤ p1) => ?_⟩
      · have h := h.1 hc3
        refine ai_zf ?_
        refine ai_if_eq (tgt := 17) dX4_kindOf_5 (by decide) ⟨fun _ => ?_, fun hc => absurd hc (by decide)⟩
        refine ai_iconst (v := 0) dX4_kindOf_17 (by decide) ?_
        exact ai_reti dX4_kindOf_18 rfl h
      · have h := h.2 hc3
        refine ai_zt ?_
        refine ai_if_eq (tgt := 17) dX4_kindOf_5 (by decide) ⟨fun hc => absurd hc (by decide), fun _ => ?_⟩
        refine ai_aload_n dX4_kindOf_8 rfl (j := 0) rfl ?_
        refine ai_getR dX4_kindOf_9 fdX4_15 rfl rfl ?_
        refine ai_iload_n dX4_kindOf_12 rfl (j := 1) rfl ?_
        refine ai_iald dX4_kindOf_13 rfl ⟨h.1, ?_⟩
        have hi4 := h.1
        have h := h.2
        refine ai_goto (tgt := 18) dX4_kindOf_14 (by decide) ?_
        exact ai_reti dX4_kindOf_18 rfl h
set_option maxHeartbeats 4000000 in
set_option maxRecDepth 100000 in
theorem vX4_slotOf {p1 : Int32} {S : ai_S} {V : ai_V} {G : Int32 → ai_S → Prop}
    (h : ((p1 < 0 → G 0 S) ∧ (¬ p1 < 0 → (((S 3 4) ≤ p1 → G 0 S) ∧ (¬ (S 3 4) ≤ p1 → ((136 ≤ p1 → G 0 S) ∧ (¬ 136 ≤ p1 → (vp_in p1 136 ∧ G (S 7 (p1).toNatClampNeg) S)))))))) :
    ai_met (uC l D ρ τ) (d + 1) mX4_slotOf [.ref 3, .int p1] S V (ai_qi V G) := by
  refine ai_mof plX4 (Nat.le_of_ble_eq_true rfl) (lv := [(0, .ref 3), (1, .int p1)]) rfl ?_
  refine ai_aload_n dX4_slotOf_0 rfl (j := 0) rfl ?_
  refine ai_iload_n dX4_slotOf_1 rfl (j := 1) rfl ?_
  refine ai_callVz (As := [.int p1]) (rest := []) dX4_slotOf_2 cvX4_46 rfl rfl rfl (by decide) (vX4_isEntry ?_)
  refine ⟨fun (hc1 : p1 < 0) => ?_, fun (hc1 : ¬ p1 < 0) => ?_⟩
  · have h := h.1 hc1
    refine ai_zf ?_
    refine ai_if_eq (tgt := 17) dX4_slotOf_5 (by decide) ⟨fun _ => ?_, fun hc => absurd hc (by decide)⟩
    refine ai_iconst (v := 0) dX4_slotOf_17 (by decide) ?_
    exact ai_reti dX4_slotOf_18 rfl h
  · have h := h.2 hc1
    refine ⟨fun (hc2 : (S 3 4) ≤ p1) => ?_, fun (hc2 : ¬ (S 3 4) ≤ p1) => ?_⟩
    · have h := h.1 hc2
      refine ai_zf ?_
      refine ai_if_eq (tgt := 17) dX4_slotOf_5 (by decide) ⟨fun _ => ?_, fun hc => absurd hc (by decide)⟩
      refine ai_iconst (v := 0) dX4_slotOf_17 (by decide) ?_
      exact ai_reti dX4_slotOf_18 rfl h
    · have h := h.2 hc2
      refine ⟨fun (hc3 : 136 ≤ p1) => ?_, fun (hc3 : ¬ 136 ≤ p1) => ?_⟩
      · have h := h.1 hc3
        refine ai_zf ?_
        refine ai_if_eq (tgt := 17) dX4_slotOf_5 (by decide) ⟨fun _ => ?_, fun hc => absurd hc (by decide)⟩
        refine ai_iconst (v := 0) dX4_slotOf_17 (by decide) ?_
        exact ai_reti dX4_slotOf_18 rfl h
      · have h := h.2 hc3
        refine ai_zt ?_
        refine ai_if_eq (tgt := 17) dX4_slotOf_5 (by decide) ⟨fun hc => absurd hc (by decide), fun _ => ?_⟩
        refine ai_aload_n dX4_slotOf_8 rfl (j := 0) rfl ?_
        refine ai_getR dX4_slotOf_9 fdX4_21 rfl rfl ?_
        refine ai_iload_n dX4_slotOf_12 rfl (j := 1) rfl ?_
        refine ai_iald dX4_slotOf_13 rfl ⟨h.1, ?_⟩
        have hi4 := h.1
        have h := h.2
        refine ai_goto (tgt := 18) dX4_slotOf_14 (by decide) ?_
        exact ai_reti dX4_slotOf_18 rfl h
set_option maxHeartbeats 4000000 in
set_option maxRecDepth 100000 in
theorem vX4_hopsTo {p1 : Int32} {S : ai_S} {V : ai_V} {G : Int32 → ai_S → Prop}
    (h : ((p1 < 0 → G 0 S) ∧ (¬ p1 < 0 → (((S 3 4) ≤ p1 → G 0 S) ∧ (¬ (S 3 4) ≤ p1 → ((136 ≤ p1 → G 0 S) ∧ (¬ 136 ≤ p1 → (vp_in p1 136 ∧ G ((S 3 5) - (S 6 (p1).toNatClampNeg)) S)))))))) :
    ai_met (uC l D ρ τ) (d + 1) mX4_hopsTo [.ref 3, .int p1] S V (ai_qi V G) := by
  refine ai_mof plX4 (Nat.le_of_ble_eq_true rfl) (lv := [(0, .ref 3), (1, .int p1)]) rfl ?_
  refine ai_aload_n dX4_hopsTo_0 rfl (j := 0) rfl ?_
  refine ai_iload_n dX4_hopsTo_1 rfl (j := 1) rfl ?_
  refine ai_callVz (As := [.int p1]) (rest := []) dX4_hopsTo_2 cvX4_46 rfl rfl rfl (by decide) (vX4_isEntry ?_)
  refine ⟨fun (hc1 : p1 < 0) => ?_, fun (hc1 : ¬ p1 < 0) => ?_⟩
  · have h := h.1 hc1
    refine ai_zf ?_
    refine ai_if_eq (tgt := 22) dX4_hopsTo_5 (by decide) ⟨fun _ => ?_, fun hc => absurd hc (by decide)⟩
    refine ai_iconst (v := 0) dX4_hopsTo_22 (by decide) ?_
    exact ai_reti dX4_hopsTo_23 rfl h
  · have h := h.2 hc1
    refine ⟨fun (hc2 : (S 3 4) ≤ p1) => ?_, fun (hc2 : ¬ (S 3 4) ≤ p1) => ?_⟩
    · have h := h.1 hc2
      refine ai_zf ?_
      refine ai_if_eq (tgt := 22) dX4_hopsTo_5 (by decide) ⟨fun _ => ?_, fun hc => absurd hc (by decide)⟩
      refine ai_iconst (v := 0) dX4_hopsTo_22 (by decide) ?_
      exact ai_reti dX4_hopsTo_23 rfl h
    · have h := h.2 hc2
      refine ⟨fun (hc3 : 136 ≤ p1) => ?_, fun (hc3 : ¬ 136 ≤ p1) => ?_⟩
      · have h := h.1 hc3
        refine ai_zf ?_
        refine ai_if_eq (tgt := 22) dX4_hopsTo_5 (by decide) ⟨fun _ => ?_, fun hc => absurd hc (by decide)⟩
        refine ai_iconst (v := 0) dX4_hopsTo_22 (by decide) ?_
        exact ai_reti dX4_hopsTo_23 rfl h
      · have h := h.2 hc3
        refine ai_zt ?_
        refine ai_if_eq (tgt := 22) dX4_hopsTo_5 (by decide) ⟨fun hc => absurd hc (by decide), fun _ => ?_⟩
        refine ai_aload_n dX4_hopsTo_8 rfl (j := 0) rfl ?_
        refine ai_getI dX4_hopsTo_9 fdX4_31 rfl rfl ?_
        refine ai_aload_n dX4_hopsTo_12 rfl (j := 0) rfl ?_
        refine ai_getR dX4_hopsTo_13 fdX4_18 rfl rfl ?_
        refine ai_iload_n dX4_hopsTo_16 rfl (j := 1) rfl ?_
        refine ai_iald dX4_hopsTo_17 rfl ⟨h.1, ?_⟩
        have hi4 := h.1
        have h := h.2
        refine ai_isub dX4_hopsTo_18 ?_
        refine ai_goto (tgt := 23) dX4_hopsTo_19 (by decide) ?_
        exact ai_reti dX4_hopsTo_23 rfl h
set_option maxHeartbeats 4000000 in
set_option maxRecDepth 100000 in
theorem vX4_enterBody {p1 : Int32} {S : ai_S} {V : ai_V} {G : ai_S → Prop}
    (h : ((((S 3 5) + 1) < 0 → G (ai_up (ai_up S 3 5 ((S 3 5) + 1)) 3 7 7)) ∧ (¬ ((S 3 5) + 1) < 0 → ((10 < ((S 3 5) + 1) → G (ai_up (ai_up S 3 5 ((S 3 5) + 1)) 3 7 7)) ∧ (¬ 10 < ((S 3 5) + 1) → (vp_in ((S 3 5) + 1) 11 ∧ G (ai_up (ai_up (ai_up S 3 5 ((S 3 5) + 1)) 8 (((S 3 5) + 1)).toNatClampNeg p1) 3 7 7))))))) :
    ai_met (uC l D ρ τ) d mX4_enterBody [.ref 3, .int p1] S V (ai_qv V G) := by
  refine ai_mof plX4 (Nat.le_of_ble_eq_true rfl) (lv := [(0, .ref 3), (1, .int p1)]) rfl ?_
  refine ai_aload_n dX4_enterBody_0 rfl (j := 0) rfl ?_
  refine ai_dup dX4_enterBody_1 rfl ?_
  refine ai_getI dX4_enterBody_2 fdX4_31 rfl rfl ?_
  refine ai_iconst (v := 1) dX4_enterBody_5 (by decide) ?_
  refine ai_iadd dX4_enterBody_6 ?_
  refine ai_putI dX4_enterBody_7 fdX4_31 pdX4_5 rfl rfl rfl rfl ?_
  refine ai_aload_n dX4_enterBody_10 rfl (j := 0) rfl ?_
  refine ai_getIx ((S 3 5) + 1) dX4_enterBody_11 fdX4_31 rfl rfl rfl ?_
  refine ai_if_lt (tgt := 36) dX4_enterBody_14 (by decide) ⟨fun (hc1 : ((S 3 5) + 1) < 0) => ?_, fun (hc1 : ¬ ((S 3 5) + 1) < 0) => ?_⟩
  · have h := h.1 hc1
    refine ai_aload_n dX4_enterBody_36 rfl (j := 0) rfl ?_
    refine ai_bipush (v := 7) dX4_enterBody_37 (by decide) ?_
    refine ai_putI dX4_enterBody_39 fdX4_34 pdX4_7 rfl rfl rfl rfl ?_
    exact ai_retv dX4_enterBody_42 rfl h
  · have h := h.2 hc1
    refine ai_aload_n dX4_enterBody_17 rfl (j := 0) rfl ?_
    refine ai_getIx ((S 3 5) + 1) dX4_enterBody_18 fdX4_31 rfl rfl rfl ?_
    refine ai_bipush (v := 10) dX4_enterBody_21 (by decide) ?_
    refine ai_icmp_gt (tgt := 36) dX4_enterBody_23 (by decide) ⟨fun (hc2 : 10 < ((S 3 5) + 1)) => ?_, fun (hc2 : ¬ 10 < ((S 3 5) + 1)) => ?_⟩
    · have h := h.1 hc2
      refine ai_aload_n dX4_enterBody_36 rfl (j := 0) rfl ?_
      refine ai_bipush (v := 7) dX4_enterBody_37 (by decide) ?_
      refine ai_putI dX4_enterBody_39 fdX4_34 pdX4_7 rfl rfl rfl rfl ?_
      exact ai_retv dX4_enterBody_42 rfl h
    · have h := h.2 hc2
      refine ai_aload_n dX4_enterBody_26 rfl (j := 0) rfl ?_
      refine ai_getR dX4_enterBody_27 fdX4_24 rfl rfl ?_
      refine ai_aload_n dX4_enterBody_30 rfl (j := 0) rfl ?_
      refine ai_getIx ((S 3 5) + 1) dX4_enterBody_31 fdX4_31 rfl rfl rfl ?_
      refine ai_iload_n dX4_enterBody_34 rfl (j := 1) rfl ?_
      refine ai_iast dX4_enterBody_35 rfl ⟨h.1, ?_⟩
      have hi3 := h.1
      have h := h.2
      refine ai_aload_n dX4_enterBody_36 rfl (j := 0) rfl ?_
      refine ai_bipush (v := 7) dX4_enterBody_37 (by decide) ?_
      refine ai_putI dX4_enterBody_39 fdX4_34 pdX4_7 rfl rfl rfl rfl ?_
      exact ai_retv dX4_enterBody_42 rfl h
set_option maxHeartbeats 4000000 in
set_option maxRecDepth 100000 in
theorem vX4_isAroundHere {p1 : Int32} {S : ai_S} {V : ai_V} {G : Bool → ai_S → Prop}
    (h : ((p1 < 0 → G false S) ∧ (¬ p1 < 0 → (((S 3 4) ≤ p1 → G false S) ∧ (¬ (S 3 4) ≤ p1 → ((136 ≤ p1 → G false S) ∧ (¬ 136 ≤ p1 → (vp_in p1 136 ∧ (((S 5 (p1).toNatClampNeg) = 2 → ((((S 6 (p1).toNatClampNeg) + 1) < 1 → G false S) ∧ (¬ ((S 6 (p1).toNatClampNeg) + 1) < 1 → (((S 3 5) < ((S 6 (p1).toNatClampNeg) + 1) → G false S) ∧ (¬ (S 3 5) < ((S 6 (p1).toNatClampNeg) + 1) → ((10 < ((S 6 (p1).toNatClampNeg) + 1) → G false S) ∧ (¬ 10 < ((S 6 (p1).toNatClampNeg) + 1) → (vp_in ((S 6 (p1).toNatClampNeg) + 1) 11 ∧ ((¬ (S 8 (((S 6 (p1).toNatClampNeg) + 1)).toNatClampNeg) = (S 7 (p1).toNatClampNeg) → G false S) ∧ ((S 8 (((S 6 (p1).toNatClampNeg) + 1)).toNatClampNeg) = (S 7 (p1).toNatClampNeg) → G true S)))))))))) ∧ (¬ (S 5 (p1).toNatClampNeg) = 2 → G false S)))))))))) :
    ai_met (uC l D ρ τ) (d + 1) mX4_isAroundHere [.ref 3, .int p1] S V (ai_qz V G) := by
  refine ai_mof plX4 (Nat.le_of_ble_eq_true rfl) (lv := [(0, .ref 3), (1, .int p1)]) rfl ?_
  refine ai_aload_n dX4_isAroundHere_0 rfl (j := 0) rfl ?_
  refine ai_iload_n dX4_isAroundHere_1 rfl (j := 1) rfl ?_
  refine ai_callVz (As := [.int p1]) (rest := []) dX4_isAroundHere_2 cvX4_46 rfl rfl rfl (by decide) (vX4_isEntry ?_)
  refine ⟨fun (hc1 : p1 < 0) => ?_, fun (hc1 : ¬ p1 < 0) => ?_⟩
  · have h := h.1 hc1
    refine ai_zf ?_
    refine ai_if_eq (tgt := 18) dX4_isAroundHere_5 (by decide) ⟨fun _ => ?_, fun hc => absurd hc (by decide)⟩
    refine ai_iconst (v := 0) dX4_isAroundHere_18 (by decide) ?_
    exact ai_retf dX4_isAroundHere_19 rfl h
  · have h := h.2 hc1
    refine ⟨fun (hc2 : (S 3 4) ≤ p1) => ?_, fun (hc2 : ¬ (S 3 4) ≤ p1) => ?_⟩
    · have h := h.1 hc2
      refine ai_zf ?_
      refine ai_if_eq (tgt := 18) dX4_isAroundHere_5 (by decide) ⟨fun _ => ?_, fun hc => absurd hc (by decide)⟩
      refine ai_iconst (v := 0) dX4_isAroundHere_18 (by decide) ?_
      exact ai_retf dX4_isAroundHere_19 rfl h
    · have h := h.2 hc2
      refine ⟨fun (hc3 : 136 ≤ p1) => ?_, fun (hc3 : ¬ 136 ≤ p1) => ?_⟩
      · have h := h.1 hc3
        refine ai_zf ?_
        refine ai_if_eq (tgt := 18) dX4_isAroundHere_5 (by decide) ⟨fun _ => ?_, fun hc => absurd hc (by decide)⟩
        refine ai_iconst (v := 0) dX4_isAroundHere_18 (by decide) ?_
        exact ai_retf dX4_isAroundHere_19 rfl h
      · have h := h.2 hc3
        refine ai_zt ?_
        refine ai_if_eq (tgt := 18) dX4_isAroundHere_5 (by decide) ⟨fun hc => absurd hc (by decide), fun _ => ?_⟩
        refine ai_aload_n dX4_isAroundHere_8 rfl (j := 0) rfl ?_
        refine ai_getR dX4_isAroundHere_9 fdX4_15 rfl rfl ?_
        refine ai_iload_n dX4_isAroundHere_12 rfl (j := 1) rfl ?_
        refine ai_iald dX4_isAroundHere_13 rfl ⟨h.1, ?_⟩
        have hi4 := h.1
        have h := h.2
        refine ai_iconst (v := 2) dX4_isAroundHere_14 (by decide) ?_
        refine ai_icmp_eq (tgt := 20) dX4_isAroundHere_15 (by decide) ⟨fun (hc5 : (S 5 (p1).toNatClampNeg) = 2) => ?_, fun (hc5 : ¬ (S 5 (p1).toNatClampNeg) = 2) => ?_⟩
        · have h := h.1 hc5
          refine ai_aload_n dX4_isAroundHere_20 rfl (j := 0) rfl ?_
          refine ai_getR dX4_isAroundHere_21 fdX4_18 rfl rfl ?_
          refine ai_iload_n dX4_isAroundHere_24 rfl (j := 1) rfl ?_
          refine ai_iald dX4_isAroundHere_25 rfl ⟨hi4, ?_⟩
          refine ai_iconst (v := 1) dX4_isAroundHere_26 (by decide) ?_
          refine ai_iadd dX4_isAroundHere_27 ?_
          refine ai_istore_n (lv' := [(2, .int ((S 6 (p1).toNatClampNeg) + 1)), (0, .ref 3), (1, .int p1)]) dX4_isAroundHere_28 rfl (by decide) rfl ?_
          refine ai_iload_n dX4_isAroundHere_29 rfl (j := 0) rfl ?_
          refine ai_iconst (v := 1) dX4_isAroundHere_30 (by decide) ?_
          refine ai_icmp_lt (tgt := 67) dX4_isAroundHere_31 (by decide) ⟨fun (hc6 : ((S 6 (p1).toNatClampNeg) + 1) < 1) => ?_, fun (hc6 : ¬ ((S 6 (p1).toNatClampNeg) + 1) < 1) => ?_⟩
          · have h := h.1 hc6
            refine ai_iconst (v := 0) dX4_isAroundHere_67 (by decide) ?_
            exact ai_retf dX4_isAroundHere_68 rfl h
          · have h := h.2 hc6
            refine ai_iload_n dX4_isAroundHere_34 rfl (j := 0) rfl ?_
            refine ai_aload_n dX4_isAroundHere_35 rfl (j := 1) rfl ?_
            refine ai_getI dX4_isAroundHere_36 fdX4_31 rfl rfl ?_
            refine ai_icmp_gt (tgt := 67) dX4_isAroundHere_39 (by decide) ⟨fun (hc7 : (S 3 5) < ((S 6 (p1).toNatClampNeg) + 1)) => ?_, fun (hc7 : ¬ (S 3 5) < ((S 6 (p1).toNatClampNeg) + 1)) => ?_⟩
            · have h := h.1 hc7
              refine ai_iconst (v := 0) dX4_isAroundHere_67 (by decide) ?_
              exact ai_retf dX4_isAroundHere_68 rfl h
            · have h := h.2 hc7
              refine ai_iload_n dX4_isAroundHere_42 rfl (j := 0) rfl ?_
              refine ai_bipush (v := 10) dX4_isAroundHere_43 (by decide) ?_
              refine ai_icmp_gt (tgt := 67) dX4_isAroundHere_45 (by decide) ⟨fun (hc8 : 10 < ((S 6 (p1).toNatClampNeg) + 1)) => ?_, fun (hc8 : ¬ 10 < ((S 6 (p1).toNatClampNeg) + 1)) => ?_⟩
              · have h := h.1 hc8
                refine ai_iconst (v := 0) dX4_isAroundHere_67 (by decide) ?_
                exact ai_retf dX4_isAroundHere_68 rfl h
              · have h := h.2 hc8
                refine ai_aload_n dX4_isAroundHere_48 rfl (j := 1) rfl ?_
                refine ai_getR dX4_isAroundHere_49 fdX4_24 rfl rfl ?_
                refine ai_iload_n dX4_isAroundHere_52 rfl (j := 0) rfl ?_
                refine ai_iald dX4_isAroundHere_53 rfl ⟨h.1, ?_⟩
                have hi9 := h.1
                have h := h.2
                refine ai_aload_n dX4_isAroundHere_54 rfl (j := 1) rfl ?_
                refine ai_getR dX4_isAroundHere_55 fdX4_21 rfl rfl ?_
                refine ai_iload_n dX4_isAroundHere_58 rfl (j := 2) rfl ?_
                refine ai_iald dX4_isAroundHere_59 rfl ⟨hi4, ?_⟩
                refine ai_icmp_ne (tgt := 67) dX4_isAroundHere_60 (by decide) ⟨fun (hc10 : ¬ (S 8 (((S 6 (p1).toNatClampNeg) + 1)).toNatClampNeg) = (S 7 (p1).toNatClampNeg)) => ?_, fun (hc10 : (S 8 (((S 6 (p1).toNatClampNeg) + 1)).toNatClampNeg) = (S 7 (p1).toNatClampNeg)) => ?_⟩
                · have h := h.1 hc10
                  refine ai_iconst (v := 0) dX4_isAroundHere_67 (by decide) ?_
                  exact ai_retf dX4_isAroundHere_68 rfl h
                · have h := h.2 hc10
                  refine ai_iconst (v := 1) dX4_isAroundHere_63 (by decide) ?_
                  refine ai_goto (tgt := 68) dX4_isAroundHere_64 (by decide) ?_
                  exact ai_rett dX4_isAroundHere_68 rfl h
        · have h := h.2 hc5
          refine ai_iconst (v := 0) dX4_isAroundHere_18 (by decide) ?_
          exact ai_retf dX4_isAroundHere_19 rfl h
end GC1
end
