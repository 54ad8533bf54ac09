-- ===== PART A: goes FIRST, ahead of the names: the tables' words, and 'selects' of the private methods out of them =====
/-- a private method of a class that the tables say can be made, by its rows of tables_1 -/
def lw_okq (q : MethodName × Nat) : Prop := (q.1.cls ≠ "java/lang/invoke/MethodHandle" ∧ q.1.cls ≠ "java/lang/invoke/VarHandle") ∧ Cond.instantiable q.1.cls q.2 ∈ tables_1 ∧ Cond.privateMethod q.1 ∈ tables_1 ∧ Cond.instanceMethod q.1 ∈ tables_1
theorem lw_p0 : lw_okq (⟨"HeldMusic$Tape", "takeWord", "()V"⟩, 6) := ⟨⟨by decide +kernel, by decide +kernel⟩, List.mem_of_getElem? (i := 38) (by decide +kernel), List.mem_of_getElem? (i := 355) (by decide +kernel), List.mem_of_getElem? (i := 356) (by decide +kernel)⟩
theorem lw_p1 : lw_okq (⟨"HeldMusic$Tape", "takeNumber", "()V"⟩, 6) := ⟨⟨by decide +kernel, by decide +kernel⟩, List.mem_of_getElem? (i := 38) (by decide +kernel), List.mem_of_getElem? (i := 359) (by decide +kernel), List.mem_of_getElem? (i := 360) (by decide +kernel)⟩
theorem lw_p2 : lw_okq (⟨"HeldMusic$Tape", "takeSign", "()V"⟩, 6) := ⟨⟨by decide +kernel, by decide +kernel⟩, List.mem_of_getElem? (i := 38) (by decide +kernel), List.mem_of_getElem? (i := 364) (by decide +kernel), List.mem_of_getElem? (i := 365) (by decide +kernel)⟩
theorem lw_p3 : lw_okq (⟨"HeldMusic$Reader", "officeLine", "(LHeldMusic$Desk;)Z"⟩, 5) := ⟨⟨by decide +kernel, by decide +kernel⟩, List.mem_of_getElem? (i := 32) (by decide +kernel), List.mem_of_getElem? (i := 455) (by decide +kernel), List.mem_of_getElem? (i := 456) (by decide +kernel)⟩
theorem lw_p4 : lw_okq (⟨"HeldMusic$Reader", "callerLine", "(LHeldMusic$Desk;I)Z"⟩, 5) := ⟨⟨by decide +kernel, by decide +kernel⟩, List.mem_of_getElem? (i := 32) (by decide +kernel), List.mem_of_getElem? (i := 464) (by decide +kernel), List.mem_of_getElem? (i := 465) (by decide +kernel)⟩
theorem lw_p5 : lw_okq (⟨"HeldMusic$Reader", "newName", "(LHeldMusic$Desk;I)Z"⟩, 5) := ⟨⟨by decide +kernel, by decide +kernel⟩, List.mem_of_getElem? (i := 32) (by decide +kernel), List.mem_of_getElem? (i := 469) (by decide +kernel), List.mem_of_getElem? (i := 470) (by decide +kernel)⟩
theorem lw_p6 : lw_okq (⟨"HeldMusic$Reader", "isName", "()Z"⟩, 5) := ⟨⟨by decide +kernel, by decide +kernel⟩, List.mem_of_getElem? (i := 32) (by decide +kernel), List.mem_of_getElem? (i := 473) (by decide +kernel), List.mem_of_getElem? (i := 474) (by decide +kernel)⟩
theorem lw_p7 : lw_okq (⟨"HeldMusic$Reader", "fail", "(I)Z"⟩, 5) := ⟨⟨by decide +kernel, by decide +kernel⟩, List.mem_of_getElem? (i := 32) (by decide +kernel), List.mem_of_getElem? (i := 499) (by decide +kernel), List.mem_of_getElem? (i := 500) (by decide +kernel)⟩
theorem lw_p8 : lw_okq (⟨"HeldMusic$Reader", "kindWord", "(LHeldMusic$Desk;I)Z"⟩, 5) := ⟨⟨by decide +kernel, by decide +kernel⟩, List.mem_of_getElem? (i := 32) (by decide +kernel), List.mem_of_getElem? (i := 507) (by decide +kernel), List.mem_of_getElem? (i := 508) (by decide +kernel)⟩
theorem lw_p9 : lw_okq (⟨"HeldMusic$Reader", "passWord", "(J)Z"⟩, 5) := ⟨⟨by decide +kernel, by decide +kernel⟩, List.mem_of_getElem? (i := 32) (by decide +kernel), List.mem_of_getElem? (i := 511) (by decide +kernel), List.mem_of_getElem? (i := 512) (by decide +kernel)⟩
theorem lw_p10 : lw_okq (⟨"HeldMusic$Reader", "passNumber", "(II)Z"⟩, 5) := ⟨⟨by decide +kernel, by decide +kernel⟩, List.mem_of_getElem? (i := 32) (by decide +kernel), List.mem_of_getElem? (i := 515) (by decide +kernel), List.mem_of_getElem? (i := 516) (by decide +kernel)⟩
theorem lw_p11 : lw_okq (⟨"HeldMusic$Reader", "answers", "(LHeldMusic$Desk;I)Z"⟩, 5) := ⟨⟨by decide +kernel, by decide +kernel⟩, List.mem_of_getElem? (i := 32) (by decide +kernel), List.mem_of_getElem? (i := 519) (by decide +kernel), List.mem_of_getElem? (i := 520) (by decide +kernel)⟩
theorem lw_p12 : lw_okq (⟨"HeldMusic$Reader", "passSign", "(C)Z"⟩, 5) := ⟨⟨by decide +kernel, by decide +kernel⟩, List.mem_of_getElem? (i := 32) (by decide +kernel), List.mem_of_getElem? (i := 524) (by decide +kernel), List.mem_of_getElem? (i := 525) (by decide +kernel)⟩
theorem lw_p13 : lw_okq (⟨"HeldMusic$Reader", "takesLine", "(LHeldMusic$Desk;)Z"⟩, 5) := ⟨⟨by decide +kernel, by decide +kernel⟩, List.mem_of_getElem? (i := 32) (by decide +kernel), List.mem_of_getElem? (i := 532) (by decide +kernel), List.mem_of_getElem? (i := 533) (by decide +kernel)⟩
theorem lw_p14 : lw_okq (⟨"HeldMusic$Reader", "wholeTest", "(LHeldMusic$Law;I)Z"⟩, 5) := ⟨⟨by decide +kernel, by decide +kernel⟩, List.mem_of_getElem? (i := 32) (by decide +kernel), List.mem_of_getElem? (i := 536) (by decide +kernel), List.mem_of_getElem? (i := 537) (by decide +kernel)⟩
theorem lw_p15 : lw_okq (⟨"HeldMusic$Reader", "test", "(LHeldMusic$Law;I)Z"⟩, 5) := ⟨⟨by decide +kernel, by decide +kernel⟩, List.mem_of_getElem? (i := 32) (by decide +kernel), List.mem_of_getElem? (i := 540) (by decide +kernel), List.mem_of_getElem? (i := 541) (by decide +kernel)⟩
def lw_privs_1 : List (MethodName × Nat) := [(⟨"HeldMusic$Tape", "takeWord", "()V"⟩, 6), (⟨"HeldMusic$Tape", "takeNumber", "()V"⟩, 6), (⟨"HeldMusic$Tape", "takeSign", "()V"⟩, 6), (⟨"HeldMusic$Reader", "officeLine", "(LHeldMusic$Desk;)Z"⟩, 5), (⟨"HeldMusic$Reader", "callerLine", "(LHeldMusic$Desk;I)Z"⟩, 5), (⟨"HeldMusic$Reader", "newName", "(LHeldMusic$Desk;I)Z"⟩, 5), (⟨"HeldMusic$Reader", "isName", "()Z"⟩, 5), (⟨"HeldMusic$Reader", "fail", "(I)Z"⟩, 5), (⟨"HeldMusic$Reader", "kindWord", "(LHeldMusic$Desk;I)Z"⟩, 5), (⟨"HeldMusic$Reader", "passWord", "(J)Z"⟩, 5), (⟨"HeldMusic$Reader", "passNumber", "(II)Z"⟩, 5), (⟨"HeldMusic$Reader", "answers", "(LHeldMusic$Desk;I)Z"⟩, 5), (⟨"HeldMusic$Reader", "passSign", "(C)Z"⟩, 5), (⟨"HeldMusic$Reader", "takesLine", "(LHeldMusic$Desk;)Z"⟩, 5), (⟨"HeldMusic$Reader", "wholeTest", "(LHeldMusic$Law;I)Z"⟩, 5), (⟨"HeldMusic$Reader", "test", "(LHeldMusic$Law;I)Z"⟩, 5)]
theorem lw_r1 : ∀ q ∈ lw_privs_1, lw_okq q := List.forall_mem_cons.mpr ⟨lw_p0, List.forall_mem_cons.mpr ⟨lw_p1, List.forall_mem_cons.mpr ⟨lw_p2, List.forall_mem_cons.mpr ⟨lw_p3, List.forall_mem_cons.mpr ⟨lw_p4, List.forall_mem_cons.mpr ⟨lw_p5, List.forall_mem_cons.mpr ⟨lw_p6, List.forall_mem_cons.mpr ⟨lw_p7, List.forall_mem_cons.mpr ⟨lw_p8, List.forall_mem_cons.mpr ⟨lw_p9, List.forall_mem_cons.mpr ⟨lw_p10, List.forall_mem_cons.mpr ⟨lw_p11, List.forall_mem_cons.mpr ⟨lw_p12, List.forall_mem_cons.mpr ⟨lw_p13, List.forall_mem_cons.mpr ⟨lw_p14, List.forall_mem_cons.mpr ⟨lw_p15, fun _ h => absurd h List.not_mem_nil⟩⟩⟩⟩⟩⟩⟩⟩⟩⟩⟩⟩⟩⟩⟩⟩
theorem lw_p16 : lw_okq (⟨"HeldMusic$Reader", "sum", "(LHeldMusic$Law;I)Z"⟩, 5) := ⟨⟨by decide +kernel, by decide +kernel⟩, List.mem_of_getElem? (i := 32) (by decide +kernel), List.mem_of_getElem? (i := 544) (by decide +kernel), List.mem_of_getElem? (i := 545) (by decide +kernel)⟩
theorem lw_p17 : lw_okq (⟨"HeldMusic$Reader", "product", "(LHeldMusic$Law;I)Z"⟩, 5) := ⟨⟨by decide +kernel, by decide +kernel⟩, List.mem_of_getElem? (i := 32) (by decide +kernel), List.mem_of_getElem? (i := 548) (by decide +kernel), List.mem_of_getElem? (i := 549) (by decide +kernel)⟩
theorem lw_p18 : lw_okq (⟨"HeldMusic$Reader", "part", "(LHeldMusic$Law;I)Z"⟩, 5) := ⟨⟨by decide +kernel, by decide +kernel⟩, List.mem_of_getElem? (i := 32) (by decide +kernel), List.mem_of_getElem? (i := 552) (by decide +kernel), List.mem_of_getElem? (i := 553) (by decide +kernel)⟩
theorem lw_p19 : lw_okq (⟨"HeldMusic$Reader", "givenPart", "()I"⟩, 5) := ⟨⟨by decide +kernel, by decide +kernel⟩, List.mem_of_getElem? (i := 32) (by decide +kernel), List.mem_of_getElem? (i := 556) (by decide +kernel), List.mem_of_getElem? (i := 557) (by decide +kernel)⟩
theorem lw_p20 : lw_okq (⟨"HeldMusic$Reader", "isJoin", "()Z"⟩, 5) := ⟨⟨by decide +kernel, by decide +kernel⟩, List.mem_of_getElem? (i := 32) (by decide +kernel), List.mem_of_getElem? (i := 568) (by decide +kernel), List.mem_of_getElem? (i := 569) (by decide +kernel)⟩
theorem lw_p21 : lw_okq (⟨"HeldMusic", "openDraft", "()V"⟩, 16) := ⟨⟨by decide +kernel, by decide +kernel⟩, List.mem_of_getElem? (i := 24) (by decide +kernel), List.mem_of_getElem? (i := 576) (by decide +kernel), List.mem_of_getElem? (i := 577) (by decide +kernel)⟩
theorem lw_p22 : lw_okq (⟨"HeldMusic$Reader", "dayLine", "(LHeldMusic$Plan;LHeldMusic$Desk;)Z"⟩, 5) := ⟨⟨by decide +kernel, by decide +kernel⟩, List.mem_of_getElem? (i := 32) (by decide +kernel), List.mem_of_getElem? (i := 592) (by decide +kernel), List.mem_of_getElem? (i := 593) (by decide +kernel)⟩
theorem lw_p23 : lw_okq (⟨"HeldMusic$Reader", "deedWord", "()I"⟩, 5) := ⟨⟨by decide +kernel, by decide +kernel⟩, List.mem_of_getElem? (i := 32) (by decide +kernel), List.mem_of_getElem? (i := 596) (by decide +kernel), List.mem_of_getElem? (i := 597) (by decide +kernel)⟩
theorem lw_p24 : lw_okq (⟨"HeldMusic$Reader", "namedCaller", "(LHeldMusic$Desk;I)I"⟩, 5) := ⟨⟨by decide +kernel, by decide +kernel⟩, List.mem_of_getElem? (i := 32) (by decide +kernel), List.mem_of_getElem? (i := 600) (by decide +kernel), List.mem_of_getElem? (i := 601) (by decide +kernel)⟩
theorem lw_p25 : lw_okq (⟨"HeldMusic", "isCaller", "(I)Z"⟩, 16) := ⟨⟨by decide +kernel, by decide +kernel⟩, List.mem_of_getElem? (i := 24) (by decide +kernel), List.mem_of_getElem? (i := 612) (by decide +kernel), List.mem_of_getElem? (i := 613) (by decide +kernel)⟩
theorem lw_p26 : lw_okq (⟨"HeldMusic", "areTwo", "(II)Z"⟩, 16) := ⟨⟨by decide +kernel, by decide +kernel⟩, List.mem_of_getElem? (i := 24) (by decide +kernel), List.mem_of_getElem? (i := 624) (by decide +kernel), List.mem_of_getElem? (i := 625) (by decide +kernel)⟩
theorem lw_p27 : lw_okq (⟨"HeldMusic", "keepPast", "()V"⟩, 16) := ⟨⟨by decide +kernel, by decide +kernel⟩, List.mem_of_getElem? (i := 24) (by decide +kernel), List.mem_of_getElem? (i := 645) (by decide +kernel), List.mem_of_getElem? (i := 646) (by decide +kernel)⟩
theorem lw_p28 : lw_okq (⟨"HeldMusic", "isOnLine", "(I)Z"⟩, 16) := ⟨⟨by decide +kernel, by decide +kernel⟩, List.mem_of_getElem? (i := 24) (by decide +kernel), List.mem_of_getElem? (i := 665) (by decide +kernel), List.mem_of_getElem? (i := 666) (by decide +kernel)⟩
theorem lw_p29 : lw_okq (⟨"HeldMusic$Hall", "putThrough", "(LHeldMusic$Desk;I)V"⟩, 8) := ⟨⟨by decide +kernel, by decide +kernel⟩, List.mem_of_getElem? (i := 178) (by decide +kernel), List.mem_of_getElem? (i := 689) (by decide +kernel), List.mem_of_getElem? (i := 690) (by decide +kernel)⟩
theorem lw_p30 : lw_okq (⟨"HeldMusic$Hall", "settleWhoKnow", "(LHeldMusic$Desk;)V"⟩, 8) := ⟨⟨by decide +kernel, by decide +kernel⟩, List.mem_of_getElem? (i := 178) (by decide +kernel), List.mem_of_getElem? (i := 707) (by decide +kernel), List.mem_of_getElem? (i := 708) (by decide +kernel)⟩
theorem lw_p31 : lw_okq (⟨"HeldMusic$Hall", "holdLonger", "(LHeldMusic$Desk;)V"⟩, 8) := ⟨⟨by decide +kernel, by decide +kernel⟩, List.mem_of_getElem? (i := 178) (by decide +kernel), List.mem_of_getElem? (i := 711) (by decide +kernel), List.mem_of_getElem? (i := 712) (by decide +kernel)⟩
def lw_privs_2 : List (MethodName × Nat) := [(⟨"HeldMusic$Reader", "sum", "(LHeldMusic$Law;I)Z"⟩, 5), (⟨"HeldMusic$Reader", "product", "(LHeldMusic$Law;I)Z"⟩, 5), (⟨"HeldMusic$Reader", "part", "(LHeldMusic$Law;I)Z"⟩, 5), (⟨"HeldMusic$Reader", "givenPart", "()I"⟩, 5), (⟨"HeldMusic$Reader", "isJoin", "()Z"⟩, 5), (⟨"HeldMusic", "openDraft", "()V"⟩, 16), (⟨"HeldMusic$Reader", "dayLine", "(LHeldMusic$Plan;LHeldMusic$Desk;)Z"⟩, 5), (⟨"HeldMusic$Reader", "deedWord", "()I"⟩, 5), (⟨"HeldMusic$Reader", "namedCaller", "(LHeldMusic$Desk;I)I"⟩, 5), (⟨"HeldMusic", "isCaller", "(I)Z"⟩, 16), (⟨"HeldMusic", "areTwo", "(II)Z"⟩, 16), (⟨"HeldMusic", "keepPast", "()V"⟩, 16), (⟨"HeldMusic", "isOnLine", "(I)Z"⟩, 16), (⟨"HeldMusic$Hall", "putThrough", "(LHeldMusic$Desk;I)V"⟩, 8), (⟨"HeldMusic$Hall", "settleWhoKnow", "(LHeldMusic$Desk;)V"⟩, 8), (⟨"HeldMusic$Hall", "holdLonger", "(LHeldMusic$Desk;)V"⟩, 8)]
theorem lw_r2 : ∀ q ∈ lw_privs_2, lw_okq q := List.forall_mem_cons.mpr ⟨lw_p16, List.forall_mem_cons.mpr ⟨lw_p17, List.forall_mem_cons.mpr ⟨lw_p18, List.forall_mem_cons.mpr ⟨lw_p19, List.forall_mem_cons.mpr ⟨lw_p20, List.forall_mem_cons.mpr ⟨lw_p21, List.forall_mem_cons.mpr ⟨lw_p22, List.forall_mem_cons.mpr ⟨lw_p23, List.forall_mem_cons.mpr ⟨lw_p24, List.forall_mem_cons.mpr ⟨lw_p25, List.forall_mem_cons.mpr ⟨lw_p26, List.forall_mem_cons.mpr ⟨lw_p27, List.forall_mem_cons.mpr ⟨lw_p28, List.forall_mem_cons.mpr ⟨lw_p29, List.forall_mem_cons.mpr ⟨lw_p30, List.forall_mem_cons.mpr ⟨lw_p31, fun _ h => absurd h List.not_mem_nil⟩⟩⟩⟩⟩⟩⟩⟩⟩⟩⟩⟩⟩⟩⟩⟩
theorem lw_p32 : lw_okq (⟨"HeldMusic$Hall", "takeUp", "(LHeldMusic$Desk;I)V"⟩, 8) := ⟨⟨by decide +kernel, by decide +kernel⟩, List.mem_of_getElem? (i := 178) (by decide +kernel), List.mem_of_getElem? (i := 715) (by decide +kernel), List.mem_of_getElem? (i := 716) (by decide +kernel)⟩
theorem lw_p33 : lw_okq (⟨"HeldMusic", "judgeDay", "(II)I"⟩, 16) := ⟨⟨by decide +kernel, by decide +kernel⟩, List.mem_of_getElem? (i := 24) (by decide +kernel), List.mem_of_getElem? (i := 728) (by decide +kernel), List.mem_of_getElem? (i := 729) (by decide +kernel)⟩
theorem lw_p34 : lw_okq (⟨"HeldMusic", "doLine", "(II)Z"⟩, 16) := ⟨⟨by decide +kernel, by decide +kernel⟩, List.mem_of_getElem? (i := 24) (by decide +kernel), List.mem_of_getElem? (i := 732) (by decide +kernel), List.mem_of_getElem? (i := 733) (by decide +kernel)⟩
theorem lw_p35 : lw_okq (⟨"HeldMusic", "findOrder", "()V"⟩, 16) := ⟨⟨by decide +kernel, by decide +kernel⟩, List.mem_of_getElem? (i := 24) (by decide +kernel), List.mem_of_getElem? (i := 774) (by decide +kernel), List.mem_of_getElem? (i := 775) (by decide +kernel)⟩
theorem lw_p36 : lw_okq (⟨"HeldMusic", "freeCallers", "()I"⟩, 16) := ⟨⟨by decide +kernel, by decide +kernel⟩, List.mem_of_getElem? (i := 24) (by decide +kernel), List.mem_of_getElem? (i := 778) (by decide +kernel), List.mem_of_getElem? (i := 779) (by decide +kernel)⟩
theorem lw_p37 : lw_okq (⟨"HeldMusic$Rows", "exchange", "(II)V"⟩, 5) := ⟨⟨by decide +kernel, by decide +kernel⟩, List.mem_of_getElem? (i := 220) (by decide +kernel), List.mem_of_getElem? (i := 799) (by decide +kernel), List.mem_of_getElem? (i := 800) (by decide +kernel)⟩
theorem lw_p38 : lw_okq (⟨"HeldMusic", "settledWith", "(I)I"⟩, 16) := ⟨⟨by decide +kernel, by decide +kernel⟩, List.mem_of_getElem? (i := 24) (by decide +kernel), List.mem_of_getElem? (i := 811) (by decide +kernel), List.mem_of_getElem? (i := 812) (by decide +kernel)⟩
theorem lw_p39 : lw_okq (⟨"HeldMusic", "settledNextBy", "(LHeldMusic$Rows;)I"⟩, 16) := ⟨⟨by decide +kernel, by decide +kernel⟩, List.mem_of_getElem? (i := 24) (by decide +kernel), List.mem_of_getElem? (i := 832) (by decide +kernel), List.mem_of_getElem? (i := 833) (by decide +kernel)⟩
theorem lw_p40 : lw_okq (⟨"HeldMusic", "isAsTold", "(I)Z"⟩, 16) := ⟨⟨by decide +kernel, by decide +kernel⟩, List.mem_of_getElem? (i := 24) (by decide +kernel), List.mem_of_getElem? (i := 860) (by decide +kernel), List.mem_of_getElem? (i := 861) (by decide +kernel)⟩
theorem lw_p41 : lw_okq (⟨"HeldMusic", "addToTally", "(I)V"⟩, 16) := ⟨⟨by decide +kernel, by decide +kernel⟩, List.mem_of_getElem? (i := 24) (by decide +kernel), List.mem_of_getElem? (i := 868) (by decide +kernel), List.mem_of_getElem? (i := 869) (by decide +kernel)⟩
theorem lw_p42 : lw_okq (⟨"HeldMusic", "evenestUntold", "(I)I"⟩, 16) := ⟨⟨by decide +kernel, by decide +kernel⟩, List.mem_of_getElem? (i := 24) (by decide +kernel), List.mem_of_getElem? (i := 872) (by decide +kernel), List.mem_of_getElem? (i := 873) (by decide +kernel)⟩
theorem lw_p43 : lw_okq (⟨"HeldMusic", "actByDraw", "(J)J"⟩, 16) := ⟨⟨by decide +kernel, by decide +kernel⟩, List.mem_of_getElem? (i := 24) (by decide +kernel), List.mem_of_getElem? (i := 890) (by decide +kernel), List.mem_of_getElem? (i := 891) (by decide +kernel)⟩
theorem lw_p44 : lw_okq (⟨"HeldMusic", "goBackTo", "(LHeldMusic$Mark;)V"⟩, 16) := ⟨⟨by decide +kernel, by decide +kernel⟩, List.mem_of_getElem? (i := 24) (by decide +kernel), List.mem_of_getElem? (i := 910) (by decide +kernel), List.mem_of_getElem? (i := 911) (by decide +kernel)⟩
theorem lw_p45 : lw_okq (⟨"HeldMusic", "layOn", "(LHeldMusic$Mark;)V"⟩, 16) := ⟨⟨by decide +kernel, by decide +kernel⟩, List.mem_of_getElem? (i := 24) (by decide +kernel), List.mem_of_getElem? (i := 919) (by decide +kernel), List.mem_of_getElem? (i := 920) (by decide +kernel)⟩
theorem lw_p46 : lw_okq (⟨"java/lang/Throwable", "fillInStackTrace", "(I)Ljava/lang/Throwable;"⟩, 6) := ⟨⟨by decide +kernel, by decide +kernel⟩, List.mem_of_getElem? (i := 974) (by decide +kernel), List.mem_of_getElem? (i := 972) (by decide +kernel), List.mem_of_getElem? (i := 973) (by decide +kernel)⟩
theorem lw_p47 : lw_okq (⟨"HeldMusicModel", "forgets", "()V"⟩, 60) := ⟨⟨by decide +kernel, by decide +kernel⟩, List.mem_of_getElem? (i := 1002) (by decide +kernel), List.mem_of_getElem? (i := 1008) (by decide +kernel), List.mem_of_getElem? (i := 1009) (by decide +kernel)⟩
def lw_privs_3 : List (MethodName × Nat) := [(⟨"HeldMusic$Hall", "takeUp", "(LHeldMusic$Desk;I)V"⟩, 8), (⟨"HeldMusic", "judgeDay", "(II)I"⟩, 16), (⟨"HeldMusic", "doLine", "(II)Z"⟩, 16), (⟨"HeldMusic", "findOrder", "()V"⟩, 16), (⟨"HeldMusic", "freeCallers", "()I"⟩, 16), (⟨"HeldMusic$Rows", "exchange", "(II)V"⟩, 5), (⟨"HeldMusic", "settledWith", "(I)I"⟩, 16), (⟨"HeldMusic", "settledNextBy", "(LHeldMusic$Rows;)I"⟩, 16), (⟨"HeldMusic", "isAsTold", "(I)Z"⟩, 16), (⟨"HeldMusic", "addToTally", "(I)V"⟩, 16), (⟨"HeldMusic", "evenestUntold", "(I)I"⟩, 16), (⟨"HeldMusic", "actByDraw", "(J)J"⟩, 16), (⟨"HeldMusic", "goBackTo", "(LHeldMusic$Mark;)V"⟩, 16), (⟨"HeldMusic", "layOn", "(LHeldMusic$Mark;)V"⟩, 16), (⟨"java/lang/Throwable", "fillInStackTrace", "(I)Ljava/lang/Throwable;"⟩, 6), (⟨"HeldMusicModel", "forgets", "()V"⟩, 60)]
theorem lw_r3 : ∀ q ∈ lw_privs_3, lw_okq q := List.forall_mem_cons.mpr ⟨lw_p32, List.forall_mem_cons.mpr ⟨lw_p33, List.forall_mem_cons.mpr ⟨lw_p34, List.forall_mem_cons.mpr ⟨lw_p35, List.forall_mem_cons.mpr ⟨lw_p36, List.forall_mem_cons.mpr ⟨lw_p37, List.forall_mem_cons.mpr ⟨lw_p38, List.forall_mem_cons.mpr ⟨lw_p39, List.forall_mem_cons.mpr ⟨lw_p40, List.forall_mem_cons.mpr ⟨lw_p41, List.forall_mem_cons.mpr ⟨lw_p42, List.forall_mem_cons.mpr ⟨lw_p43, List.forall_mem_cons.mpr ⟨lw_p44, List.forall_mem_cons.mpr ⟨lw_p45, List.forall_mem_cons.mpr ⟨lw_p46, List.forall_mem_cons.mpr ⟨lw_p47, fun _ h => absurd h List.not_mem_nil⟩⟩⟩⟩⟩⟩⟩⟩⟩⟩⟩⟩⟩⟩⟩⟩
theorem lw_p48 : lw_okq (⟨"HeldMusicModel", "readsAll", "()Z"⟩, 60) := ⟨⟨by decide +kernel, by decide +kernel⟩, List.mem_of_getElem? (i := 1002) (by decide +kernel), List.mem_of_getElem? (i := 1207) (by decide +kernel), List.mem_of_getElem? (i := 1208) (by decide +kernel)⟩
theorem lw_p49 : lw_okq (⟨"HeldMusicModel", "begins", "()V"⟩, 60) := ⟨⟨by decide +kernel, by decide +kernel⟩, List.mem_of_getElem? (i := 1002) (by decide +kernel), List.mem_of_getElem? (i := 1211) (by decide +kernel), List.mem_of_getElem? (i := 1212) (by decide +kernel)⟩
theorem lw_p50 : lw_okq (⟨"HeldMusicModel", "nextToken", "()V"⟩, 60) := ⟨⟨by decide +kernel, by decide +kernel⟩, List.mem_of_getElem? (i := 1002) (by decide +kernel), List.mem_of_getElem? (i := 1215) (by decide +kernel), List.mem_of_getElem? (i := 1216) (by decide +kernel)⟩
theorem lw_p51 : lw_okq (⟨"HeldMusicModel", "signAt", "(I)I"⟩, 60) := ⟨⟨by decide +kernel, by decide +kernel⟩, List.mem_of_getElem? (i := 1002) (by decide +kernel), List.mem_of_getElem? (i := 1219) (by decide +kernel), List.mem_of_getElem? (i := 1220) (by decide +kernel)⟩
theorem lw_p52 : lw_okq (⟨"HeldMusicModel", "isWord", "(J)Z"⟩, 60) := ⟨⟨by decide +kernel, by decide +kernel⟩, List.mem_of_getElem? (i := 1002) (by decide +kernel), List.mem_of_getElem? (i := 1226) (by decide +kernel), List.mem_of_getElem? (i := 1227) (by decide +kernel)⟩
theorem lw_p53 : lw_okq (⟨"HeldMusicModel", "readsCaller", "()Z"⟩, 60) := ⟨⟨by decide +kernel, by decide +kernel⟩, List.mem_of_getElem? (i := 1002) (by decide +kernel), List.mem_of_getElem? (i := 1230) (by decide +kernel), List.mem_of_getElem? (i := 1231) (by decide +kernel)⟩
theorem lw_p54 : lw_okq (⟨"HeldMusicModel", "fails", "(I)Z"⟩, 60) := ⟨⟨by decide +kernel, by decide +kernel⟩, List.mem_of_getElem? (i := 1002) (by decide +kernel), List.mem_of_getElem? (i := 1234) (by decide +kernel), List.mem_of_getElem? (i := 1235) (by decide +kernel)⟩
theorem lw_p55 : lw_okq (⟨"HeldMusicModel", "isKept", "()Z"⟩, 60) := ⟨⟨by decide +kernel, by decide +kernel⟩, List.mem_of_getElem? (i := 1002) (by decide +kernel), List.mem_of_getElem? (i := 1238) (by decide +kernel), List.mem_of_getElem? (i := 1239) (by decide +kernel)⟩
theorem lw_p56 : lw_okq (⟨"HeldMusicModel", "callerNamed", "(I)I"⟩, 60) := ⟨⟨by decide +kernel, by decide +kernel⟩, List.mem_of_getElem? (i := 1002) (by decide +kernel), List.mem_of_getElem? (i := 1258) (by decide +kernel), List.mem_of_getElem? (i := 1259) (by decide +kernel)⟩
theorem lw_p57 : lw_okq (⟨"HeldMusicModel", "needsWord", "(J)Z"⟩, 60) := ⟨⟨by decide +kernel, by decide +kernel⟩, List.mem_of_getElem? (i := 1002) (by decide +kernel), List.mem_of_getElem? (i := 1262) (by decide +kernel), List.mem_of_getElem? (i := 1263) (by decide +kernel)⟩
theorem lw_p58 : lw_okq (⟨"HeldMusicModel", "needsNumber", "(II)Z"⟩, 60) := ⟨⟨by decide +kernel, by decide +kernel⟩, List.mem_of_getElem? (i := 1002) (by decide +kernel), List.mem_of_getElem? (i := 1266) (by decide +kernel), List.mem_of_getElem? (i := 1267) (by decide +kernel)⟩
theorem lw_p59 : lw_okq (⟨"HeldMusicModel", "readsKnows", "(I)Z"⟩, 60) := ⟨⟨by decide +kernel, by decide +kernel⟩, List.mem_of_getElem? (i := 1002) (by decide +kernel), List.mem_of_getElem? (i := 1273) (by decide +kernel), List.mem_of_getElem? (i := 1274) (by decide +kernel)⟩
theorem lw_p60 : lw_okq (⟨"HeldMusicModel", "closes", "()Z"⟩, 60) := ⟨⟨by decide +kernel, by decide +kernel⟩, List.mem_of_getElem? (i := 1002) (by decide +kernel), List.mem_of_getElem? (i := 1277) (by decide +kernel), List.mem_of_getElem? (i := 1278) (by decide +kernel)⟩
theorem lw_p61 : lw_okq (⟨"HeldMusicModel", "isSign", "(I)Z"⟩, 60) := ⟨⟨by decide +kernel, by decide +kernel⟩, List.mem_of_getElem? (i := 1002) (by decide +kernel), List.mem_of_getElem? (i := 1281) (by decide +kernel), List.mem_of_getElem? (i := 1282) (by decide +kernel)⟩
theorem lw_p62 : lw_okq (⟨"HeldMusicModel", "readsTakes", "()Z"⟩, 60) := ⟨⟨by decide +kernel, by decide +kernel⟩, List.mem_of_getElem? (i := 1002) (by decide +kernel), List.mem_of_getElem? (i := 1285) (by decide +kernel), List.mem_of_getElem? (i := 1286) (by decide +kernel)⟩
theorem lw_p63 : lw_okq (⟨"HeldMusicModel", "readsBelieves", "()Z"⟩, 60) := ⟨⟨by decide +kernel, by decide +kernel⟩, List.mem_of_getElem? (i := 1002) (by decide +kernel), List.mem_of_getElem? (i := 1289) (by decide +kernel), List.mem_of_getElem? (i := 1290) (by decide +kernel)⟩
def lw_privs_4 : List (MethodName × Nat) := [(⟨"HeldMusicModel", "readsAll", "()Z"⟩, 60), (⟨"HeldMusicModel", "begins", "()V"⟩, 60), (⟨"HeldMusicModel", "nextToken", "()V"⟩, 60), (⟨"HeldMusicModel", "signAt", "(I)I"⟩, 60), (⟨"HeldMusicModel", "isWord", "(J)Z"⟩, 60), (⟨"HeldMusicModel", "readsCaller", "()Z"⟩, 60), (⟨"HeldMusicModel", "fails", "(I)Z"⟩, 60), (⟨"HeldMusicModel", "isKept", "()Z"⟩, 60), (⟨"HeldMusicModel", "callerNamed", "(I)I"⟩, 60), (⟨"HeldMusicModel", "needsWord", "(J)Z"⟩, 60), (⟨"HeldMusicModel", "needsNumber", "(II)Z"⟩, 60), (⟨"HeldMusicModel", "readsKnows", "(I)Z"⟩, 60), (⟨"HeldMusicModel", "closes", "()Z"⟩, 60), (⟨"HeldMusicModel", "isSign", "(I)Z"⟩, 60), (⟨"HeldMusicModel", "readsTakes", "()Z"⟩, 60), (⟨"HeldMusicModel", "readsBelieves", "()Z"⟩, 60)]
theorem lw_r4 : ∀ q ∈ lw_privs_4, lw_okq q := List.forall_mem_cons.mpr ⟨lw_p48, List.forall_mem_cons.mpr ⟨lw_p49, List.forall_mem_cons.mpr ⟨lw_p50, List.forall_mem_cons.mpr ⟨lw_p51, List.forall_mem_cons.mpr ⟨lw_p52, List.forall_mem_cons.mpr ⟨lw_p53, List.forall_mem_cons.mpr ⟨lw_p54, List.forall_mem_cons.mpr ⟨lw_p55, List.forall_mem_cons.mpr ⟨lw_p56, List.forall_mem_cons.mpr ⟨lw_p57, List.forall_mem_cons.mpr ⟨lw_p58, List.forall_mem_cons.mpr ⟨lw_p59, List.forall_mem_cons.mpr ⟨lw_p60, List.forall_mem_cons.mpr ⟨lw_p61, List.forall_mem_cons.mpr ⟨lw_p62, List.forall_mem_cons.mpr ⟨lw_p63, fun _ h => absurd h List.not_mem_nil⟩⟩⟩⟩⟩⟩⟩⟩⟩⟩⟩⟩⟩⟩⟩⟩
theorem lw_p64 : lw_okq (⟨"HeldMusicModel", "reads", "()Z"⟩, 60) := ⟨⟨by decide +kernel, by decide +kernel⟩, List.mem_of_getElem? (i := 1002) (by decide +kernel), List.mem_of_getElem? (i := 1293) (by decide +kernel), List.mem_of_getElem? (i := 1294) (by decide +kernel)⟩
theorem lw_p65 : lw_okq (⟨"HeldMusicModel", "fact", "()I"⟩, 60) := ⟨⟨by decide +kernel, by decide +kernel⟩, List.mem_of_getElem? (i := 1002) (by decide +kernel), List.mem_of_getElem? (i := 1297) (by decide +kernel), List.mem_of_getElem? (i := 1298) (by decide +kernel)⟩
theorem lw_p66 : lw_okq (⟨"HeldMusicModel", "puts", "(I)V"⟩, 60) := ⟨⟨by decide +kernel, by decide +kernel⟩, List.mem_of_getElem? (i := 1002) (by decide +kernel), List.mem_of_getElem? (i := 1305) (by decide +kernel), List.mem_of_getElem? (i := 1306) (by decide +kernel)⟩
theorem lw_p67 : lw_okq (⟨"HeldMusicModel", "lays", "()V"⟩, 60) := ⟨⟨by decide +kernel, by decide +kernel⟩, List.mem_of_getElem? (i := 1002) (by decide +kernel), List.mem_of_getElem? (i := 1309) (by decide +kernel), List.mem_of_getElem? (i := 1310) (by decide +kernel)⟩
theorem lw_p68 : lw_okq (⟨"HeldMusicModel", "fresh", "()V"⟩, 60) := ⟨⟨by decide +kernel, by decide +kernel⟩, List.mem_of_getElem? (i := 1002) (by decide +kernel), List.mem_of_getElem? (i := 1316) (by decide +kernel), List.mem_of_getElem? (i := 1317) (by decide +kernel)⟩
theorem lw_p69 : lw_okq (⟨"HeldMusicModel", "readsLine", "()Z"⟩, 60) := ⟨⟨by decide +kernel, by decide +kernel⟩, List.mem_of_getElem? (i := 1002) (by decide +kernel), List.mem_of_getElem? (i := 1324) (by decide +kernel), List.mem_of_getElem? (i := 1325) (by decide +kernel)⟩
theorem lw_p70 : lw_okq (⟨"HeldMusicModel", "needsCaller", "()Z"⟩, 60) := ⟨⟨by decide +kernel, by decide +kernel⟩, List.mem_of_getElem? (i := 1002) (by decide +kernel), List.mem_of_getElem? (i := 1328) (by decide +kernel), List.mem_of_getElem? (i := 1329) (by decide +kernel)⟩
theorem lw_p71 : lw_okq (⟨"HeldMusicModel", "laysLines", "(II)V"⟩, 60) := ⟨⟨by decide +kernel, by decide +kernel⟩, List.mem_of_getElem? (i := 1002) (by decide +kernel), List.mem_of_getElem? (i := 1332) (by decide +kernel), List.mem_of_getElem? (i := 1333) (by decide +kernel)⟩
theorem lw_p72 : lw_okq (⟨"HeldMusicModel", "isCaller", "(I)Z"⟩, 60) := ⟨⟨by decide +kernel, by decide +kernel⟩, List.mem_of_getElem? (i := 1002) (by decide +kernel), List.mem_of_getElem? (i := 1340) (by decide +kernel), List.mem_of_getElem? (i := 1341) (by decide +kernel)⟩
theorem lw_p73 : lw_okq (⟨"HeldMusicModel", "isSettled", "(I)Z"⟩, 60) := ⟨⟨by decide +kernel, by decide +kernel⟩, List.mem_of_getElem? (i := 1002) (by decide +kernel), List.mem_of_getElem? (i := 1344) (by decide +kernel), List.mem_of_getElem? (i := 1345) (by decide +kernel)⟩
theorem lw_p74 : lw_okq (⟨"HeldMusicModel", "placeOf", "(I)I"⟩, 60) := ⟨⟨by decide +kernel, by decide +kernel⟩, List.mem_of_getElem? (i := 1002) (by decide +kernel), List.mem_of_getElem? (i := 1348) (by decide +kernel), List.mem_of_getElem? (i := 1349) (by decide +kernel)⟩
theorem lw_p75 : lw_okq (⟨"HeldMusicModel", "canRing", "(I)Z"⟩, 60) := ⟨⟨by decide +kernel, by decide +kernel⟩, List.mem_of_getElem? (i := 1002) (by decide +kernel), List.mem_of_getElem? (i := 1364) (by decide +kernel), List.mem_of_getElem? (i := 1365) (by decide +kernel)⟩
theorem lw_p76 : lw_okq (⟨"HeldMusicModel", "keeps", "()V"⟩, 60) := ⟨⟨by decide +kernel, by decide +kernel⟩, List.mem_of_getElem? (i := 1002) (by decide +kernel), List.mem_of_getElem? (i := 1368) (by decide +kernel), List.mem_of_getElem? (i := 1369) (by decide +kernel)⟩
theorem lw_p77 : lw_okq (⟨"HeldMusicModel", "rings", "(I)V"⟩, 60) := ⟨⟨by decide +kernel, by decide +kernel⟩, List.mem_of_getElem? (i := 1002) (by decide +kernel), List.mem_of_getElem? (i := 1375) (by decide +kernel), List.mem_of_getElem? (i := 1376) (by decide +kernel)⟩
theorem lw_p78 : lw_okq (⟨"HeldMusicModel", "ends", "(I)V"⟩, 60) := ⟨⟨by decide +kernel, by decide +kernel⟩, List.mem_of_getElem? (i := 1002) (by decide +kernel), List.mem_of_getElem? (i := 1383) (by decide +kernel), List.mem_of_getElem? (i := 1384) (by decide +kernel)⟩
theorem lw_p79 : lw_okq (⟨"HeldMusicModel", "canSwap", "(II)Z"⟩, 60) := ⟨⟨by decide +kernel, by decide +kernel⟩, List.mem_of_getElem? (i := 1002) (by decide +kernel), List.mem_of_getElem? (i := 1391) (by decide +kernel), List.mem_of_getElem? (i := 1392) (by decide +kernel)⟩
def lw_privs_5 : List (MethodName × Nat) := [(⟨"HeldMusicModel", "reads", "()Z"⟩, 60), (⟨"HeldMusicModel", "fact", "()I"⟩, 60), (⟨"HeldMusicModel", "puts", "(I)V"⟩, 60), (⟨"HeldMusicModel", "lays", "()V"⟩, 60), (⟨"HeldMusicModel", "fresh", "()V"⟩, 60), (⟨"HeldMusicModel", "readsLine", "()Z"⟩, 60), (⟨"HeldMusicModel", "needsCaller", "()Z"⟩, 60), (⟨"HeldMusicModel", "laysLines", "(II)V"⟩, 60), (⟨"HeldMusicModel", "isCaller", "(I)Z"⟩, 60), (⟨"HeldMusicModel", "isSettled", "(I)Z"⟩, 60), (⟨"HeldMusicModel", "placeOf", "(I)I"⟩, 60), (⟨"HeldMusicModel", "canRing", "(I)Z"⟩, 60), (⟨"HeldMusicModel", "keeps", "()V"⟩, 60), (⟨"HeldMusicModel", "rings", "(I)V"⟩, 60), (⟨"HeldMusicModel", "ends", "(I)V"⟩, 60), (⟨"HeldMusicModel", "canSwap", "(II)Z"⟩, 60)]
theorem lw_r5 : ∀ q ∈ lw_privs_5, lw_okq q := List.forall_mem_cons.mpr ⟨lw_p64, List.forall_mem_cons.mpr ⟨lw_p65, List.forall_mem_cons.mpr ⟨lw_p66, List.forall_mem_cons.mpr ⟨lw_p67, List.forall_mem_cons.mpr ⟨lw_p68, List.forall_mem_cons.mpr ⟨lw_p69, List.forall_mem_cons.mpr ⟨lw_p70, List.forall_mem_cons.mpr ⟨lw_p71, List.forall_mem_cons.mpr ⟨lw_p72, List.forall_mem_cons.mpr ⟨lw_p73, List.forall_mem_cons.mpr ⟨lw_p74, List.forall_mem_cons.mpr ⟨lw_p75, List.forall_mem_cons.mpr ⟨lw_p76, List.forall_mem_cons.mpr ⟨lw_p77, List.forall_mem_cons.mpr ⟨lw_p78, List.forall_mem_cons.mpr ⟨lw_p79, fun _ h => absurd h List.not_mem_nil⟩⟩⟩⟩⟩⟩⟩⟩⟩⟩⟩⟩⟩⟩⟩⟩
theorem lw_p80 : lw_okq (⟨"HeldMusicModel", "swaps", "(II)V"⟩, 60) := ⟨⟨by decide +kernel, by decide +kernel⟩, List.mem_of_getElem? (i := 1002) (by decide +kernel), List.mem_of_getElem? (i := 1395) (by decide +kernel), List.mem_of_getElem? (i := 1396) (by decide +kernel)⟩
theorem lw_p81 : lw_okq (⟨"HeldMusicModel", "passes", "()I"⟩, 60) := ⟨⟨by decide +kernel, by decide +kernel⟩, List.mem_of_getElem? (i := 1002) (by decide +kernel), List.mem_of_getElem? (i := 1403) (by decide +kernel), List.mem_of_getElem? (i := 1404) (by decide +kernel)⟩
theorem lw_p82 : lw_okq (⟨"HeldMusicModel", "talks", "()V"⟩, 60) := ⟨⟨by decide +kernel, by decide +kernel⟩, List.mem_of_getElem? (i := 1002) (by decide +kernel), List.mem_of_getElem? (i := 1407) (by decide +kernel), List.mem_of_getElem? (i := 1408) (by decide +kernel)⟩
theorem lw_p83 : lw_okq (⟨"HeldMusicModel", "tells", "(III)V"⟩, 60) := ⟨⟨by decide +kernel, by decide +kernel⟩, List.mem_of_getElem? (i := 1002) (by decide +kernel), List.mem_of_getElem? (i := 1411) (by decide +kernel), List.mem_of_getElem? (i := 1412) (by decide +kernel)⟩
theorem lw_p84 : lw_okq (⟨"HeldMusicModel", "believes", "(II)Z"⟩, 60) := ⟨⟨by decide +kernel, by decide +kernel⟩, List.mem_of_getElem? (i := 1002) (by decide +kernel), List.mem_of_getElem? (i := 1415) (by decide +kernel), List.mem_of_getElem? (i := 1416) (by decide +kernel)⟩
theorem lw_p85 : lw_okq (⟨"HeldMusicModel", "worked", "(I)I"⟩, 60) := ⟨⟨by decide +kernel, by decide +kernel⟩, List.mem_of_getElem? (i := 1002) (by decide +kernel), List.mem_of_getElem? (i := 1422) (by decide +kernel), List.mem_of_getElem? (i := 1423) (by decide +kernel)⟩
theorem lw_p86 : lw_okq (⟨"HeldMusicModel", "opens", "(I)V"⟩, 60) := ⟨⟨by decide +kernel, by decide +kernel⟩, List.mem_of_getElem? (i := 1002) (by decide +kernel), List.mem_of_getElem? (i := 1426) (by decide +kernel), List.mem_of_getElem? (i := 1427) (by decide +kernel)⟩
theorem lw_p87 : lw_okq (⟨"HeldMusicModel", "sums", "(I)V"⟩, 60) := ⟨⟨by decide +kernel, by decide +kernel⟩, List.mem_of_getElem? (i := 1002) (by decide +kernel), List.mem_of_getElem? (i := 1430) (by decide +kernel), List.mem_of_getElem? (i := 1431) (by decide +kernel)⟩
theorem lw_p88 : lw_okq (⟨"HeldMusicModel", "tests", "(I)V"⟩, 60) := ⟨⟨by decide +kernel, by decide +kernel⟩, List.mem_of_getElem? (i := 1002) (by decide +kernel), List.mem_of_getElem? (i := 1434) (by decide +kernel), List.mem_of_getElem? (i := 1435) (by decide +kernel)⟩
theorem lw_p89 : lw_okq (⟨"HeldMusicModel", "isHelped", "(I)Z"⟩, 60) := ⟨⟨by decide +kernel, by decide +kernel⟩, List.mem_of_getElem? (i := 1002) (by decide +kernel), List.mem_of_getElem? (i := 1438) (by decide +kernel), List.mem_of_getElem? (i := 1439) (by decide +kernel)⟩
theorem lw_p90 : lw_okq (⟨"HeldMusicModel", "settles", "(I)V"⟩, 60) := ⟨⟨by decide +kernel, by decide +kernel⟩, List.mem_of_getElem? (i := 1002) (by decide +kernel), List.mem_of_getElem? (i := 1442) (by decide +kernel), List.mem_of_getElem? (i := 1443) (by decide +kernel)⟩
theorem lw_p91 : lw_okq (⟨"HeldMusicModel", "judges", "(I)I"⟩, 60) := ⟨⟨by decide +kernel, by decide +kernel⟩, List.mem_of_getElem? (i := 1002) (by decide +kernel), List.mem_of_getElem? (i := 1454) (by decide +kernel), List.mem_of_getElem? (i := 1455) (by decide +kernel)⟩
theorem lw_p92 : lw_okq (⟨"HeldMusicModel", "goes", "(I)Z"⟩, 60) := ⟨⟨by decide +kernel, by decide +kernel⟩, List.mem_of_getElem? (i := 1002) (by decide +kernel), List.mem_of_getElem? (i := 1458) (by decide +kernel), List.mem_of_getElem? (i := 1459) (by decide +kernel)⟩
theorem lw_p93 : lw_okq (⟨"HeldMusicModel", "tries", "()V"⟩, 60) := ⟨⟨by decide +kernel, by decide +kernel⟩, List.mem_of_getElem? (i := 1002) (by decide +kernel), List.mem_of_getElem? (i := 1474) (by decide +kernel), List.mem_of_getElem? (i := 1475) (by decide +kernel)⟩
theorem lw_p94 : lw_okq (⟨"HeldMusicModel", "goesOn", "()V"⟩, 60) := ⟨⟨by decide +kernel, by decide +kernel⟩, List.mem_of_getElem? (i := 1002) (by decide +kernel), List.mem_of_getElem? (i := 1478) (by decide +kernel), List.mem_of_getElem? (i := 1479) (by decide +kernel)⟩
theorem lw_p95 : lw_okq (⟨"HeldMusicModel", "mayRing", "()I"⟩, 60) := ⟨⟨by decide +kernel, by decide +kernel⟩, List.mem_of_getElem? (i := 1002) (by decide +kernel), List.mem_of_getElem? (i := 1510) (by decide +kernel), List.mem_of_getElem? (i := 1511) (by decide +kernel)⟩
def lw_privs_6 : List (MethodName × Nat) := [(⟨"HeldMusicModel", "swaps", "(II)V"⟩, 60), (⟨"HeldMusicModel", "passes", "()I"⟩, 60), (⟨"HeldMusicModel", "talks", "()V"⟩, 60), (⟨"HeldMusicModel", "tells", "(III)V"⟩, 60), (⟨"HeldMusicModel", "believes", "(II)Z"⟩, 60), (⟨"HeldMusicModel", "worked", "(I)I"⟩, 60), (⟨"HeldMusicModel", "opens", "(I)V"⟩, 60), (⟨"HeldMusicModel", "sums", "(I)V"⟩, 60), (⟨"HeldMusicModel", "tests", "(I)V"⟩, 60), (⟨"HeldMusicModel", "isHelped", "(I)Z"⟩, 60), (⟨"HeldMusicModel", "settles", "(I)V"⟩, 60), (⟨"HeldMusicModel", "judges", "(I)I"⟩, 60), (⟨"HeldMusicModel", "goes", "(I)Z"⟩, 60), (⟨"HeldMusicModel", "tries", "()V"⟩, 60), (⟨"HeldMusicModel", "goesOn", "()V"⟩, 60), (⟨"HeldMusicModel", "mayRing", "()I"⟩, 60)]
theorem lw_r6 : ∀ q ∈ lw_privs_6, lw_okq q := List.forall_mem_cons.mpr ⟨lw_p80, List.forall_mem_cons.mpr ⟨lw_p81, List.forall_mem_cons.mpr ⟨lw_p82, List.forall_mem_cons.mpr ⟨lw_p83, List.forall_mem_cons.mpr ⟨lw_p84, List.forall_mem_cons.mpr ⟨lw_p85, List.forall_mem_cons.mpr ⟨lw_p86, List.forall_mem_cons.mpr ⟨lw_p87, List.forall_mem_cons.mpr ⟨lw_p88, List.forall_mem_cons.mpr ⟨lw_p89, List.forall_mem_cons.mpr ⟨lw_p90, List.forall_mem_cons.mpr ⟨lw_p91, List.forall_mem_cons.mpr ⟨lw_p92, List.forall_mem_cons.mpr ⟨lw_p93, List.forall_mem_cons.mpr ⟨lw_p94, List.forall_mem_cons.mpr ⟨lw_p95, fun _ h => absurd h List.not_mem_nil⟩⟩⟩⟩⟩⟩⟩⟩⟩⟩⟩⟩⟩⟩⟩⟩
theorem lw_p96 : lw_okq (⟨"HeldMusicModel", "orders", "(II)V"⟩, 60) := ⟨⟨by decide +kernel, by decide +kernel⟩, List.mem_of_getElem? (i := 1002) (by decide +kernel), List.mem_of_getElem? (i := 1514) (by decide +kernel), List.mem_of_getElem? (i := 1515) (by decide +kernel)⟩
theorem lw_p97 : lw_okq (⟨"HeldMusicModel", "settledBy", "(I)I"⟩, 60) := ⟨⟨by decide +kernel, by decide +kernel⟩, List.mem_of_getElem? (i := 1002) (by decide +kernel), List.mem_of_getElem? (i := 1522) (by decide +kernel), List.mem_of_getElem? (i := 1523) (by decide +kernel)⟩
theorem lw_p98 : lw_okq (⟨"HeldMusicModel", "onLine", "()I"⟩, 60) := ⟨⟨by decide +kernel, by decide +kernel⟩, List.mem_of_getElem? (i := 1002) (by decide +kernel), List.mem_of_getElem? (i := 1534) (by decide +kernel), List.mem_of_getElem? (i := 1535) (by decide +kernel)⟩
theorem lw_p99 : lw_okq (⟨"HeldMusicModel", "laysSettled", "(I)V"⟩, 60) := ⟨⟨by decide +kernel, by decide +kernel⟩, List.mem_of_getElem? (i := 1002) (by decide +kernel), List.mem_of_getElem? (i := 1550) (by decide +kernel), List.mem_of_getElem? (i := 1551) (by decide +kernel)⟩
theorem lw_p100 : lw_okq (⟨"HeldMusicModel", "isAsTold", "(I)Z"⟩, 60) := ⟨⟨by decide +kernel, by decide +kernel⟩, List.mem_of_getElem? (i := 1002) (by decide +kernel), List.mem_of_getElem? (i := 1554) (by decide +kernel), List.mem_of_getElem? (i := 1555) (by decide +kernel)⟩
theorem lw_p101 : lw_okq (⟨"HeldMusicModel", "shuffles", "(III)V"⟩, 60) := ⟨⟨by decide +kernel, by decide +kernel⟩, List.mem_of_getElem? (i := 1002) (by decide +kernel), List.mem_of_getElem? (i := 1568) (by decide +kernel), List.mem_of_getElem? (i := 1569) (by decide +kernel)⟩
theorem lw_p102 : lw_okq (⟨"HeldMusicModel", "deals", "(II)V"⟩, 60) := ⟨⟨by decide +kernel, by decide +kernel⟩, List.mem_of_getElem? (i := 1002) (by decide +kernel), List.mem_of_getElem? (i := 1577) (by decide +kernel), List.mem_of_getElem? (i := 1578) (by decide +kernel)⟩
theorem lw_p103 : lw_okq (⟨"HeldMusicModel", "livesMinute", "()I"⟩, 60) := ⟨⟨by decide +kernel, by decide +kernel⟩, List.mem_of_getElem? (i := 1002) (by decide +kernel), List.mem_of_getElem? (i := 1592) (by decide +kernel), List.mem_of_getElem? (i := 1593) (by decide +kernel)⟩
theorem lw_p104 : lw_okq (⟨"HeldMusicModel", "draws", "(I)I"⟩, 60) := ⟨⟨by decide +kernel, by decide +kernel⟩, List.mem_of_getElem? (i := 1002) (by decide +kernel), List.mem_of_getElem? (i := 1596) (by decide +kernel), List.mem_of_getElem? (i := 1597) (by decide +kernel)⟩
theorem lw_p105 : lw_okq (⟨"HeldMusicModel", "allAnswers", "()I"⟩, 60) := ⟨⟨by decide +kernel, by decide +kernel⟩, List.mem_of_getElem? (i := 1002) (by decide +kernel), List.mem_of_getElem? (i := 1604) (by decide +kernel), List.mem_of_getElem? (i := 1605) (by decide +kernel)⟩
theorem lw_p106 : lw_okq (⟨"HeldMusicModel", "laysTale", "(II)V"⟩, 60) := ⟨⟨by decide +kernel, by decide +kernel⟩, List.mem_of_getElem? (i := 1002) (by decide +kernel), List.mem_of_getElem? (i := 1612) (by decide +kernel), List.mem_of_getElem? (i := 1613) (by decide +kernel)⟩
theorem lw_p107 : lw_okq (⟨"HeldMusicModel", "toldMany", "()I"⟩, 60) := ⟨⟨by decide +kernel, by decide +kernel⟩, List.mem_of_getElem? (i := 1002) (by decide +kernel), List.mem_of_getElem? (i := 1620) (by decide +kernel), List.mem_of_getElem? (i := 1621) (by decide +kernel)⟩
def lw_privs_7 : List (MethodName × Nat) := [(⟨"HeldMusicModel", "orders", "(II)V"⟩, 60), (⟨"HeldMusicModel", "settledBy", "(I)I"⟩, 60), (⟨"HeldMusicModel", "onLine", "()I"⟩, 60), (⟨"HeldMusicModel", "laysSettled", "(I)V"⟩, 60), (⟨"HeldMusicModel", "isAsTold", "(I)Z"⟩, 60), (⟨"HeldMusicModel", "shuffles", "(III)V"⟩, 60), (⟨"HeldMusicModel", "deals", "(II)V"⟩, 60), (⟨"HeldMusicModel", "livesMinute", "()I"⟩, 60), (⟨"HeldMusicModel", "draws", "(I)I"⟩, 60), (⟨"HeldMusicModel", "allAnswers", "()I"⟩, 60), (⟨"HeldMusicModel", "laysTale", "(II)V"⟩, 60), (⟨"HeldMusicModel", "toldMany", "()I"⟩, 60)]
theorem lw_r7 : ∀ q ∈ lw_privs_7, lw_okq q := List.forall_mem_cons.mpr ⟨lw_p96, List.forall_mem_cons.mpr ⟨lw_p97, List.forall_mem_cons.mpr ⟨lw_p98, List.forall_mem_cons.mpr ⟨lw_p99, List.forall_mem_cons.mpr ⟨lw_p100, List.forall_mem_cons.mpr ⟨lw_p101, List.forall_mem_cons.mpr ⟨lw_p102, List.forall_mem_cons.mpr ⟨lw_p103, List.forall_mem_cons.mpr ⟨lw_p104, List.forall_mem_cons.mpr ⟨lw_p105, List.forall_mem_cons.mpr ⟨lw_p106, List.forall_mem_cons.mpr ⟨lw_p107, fun _ h => absurd h List.not_mem_nil⟩⟩⟩⟩⟩⟩⟩⟩⟩⟩⟩⟩
def lw_privs : List (MethodName × Nat) := lw_privs_1 ++ (lw_privs_2 ++ (lw_privs_3 ++ (lw_privs_4 ++ (lw_privs_5 ++ (lw_privs_6 ++ (lw_privs_7))))))
def lw_tbl : List Cond := k2_sels lw_privs ++ tables_1
theorem lw_privs_ok : ∀ q ∈ lw_privs, lw_okq q := by
  show ∀ q ∈ lw_privs_1 ++ (lw_privs_2 ++ (lw_privs_3 ++ (lw_privs_4 ++ (lw_privs_5 ++ (lw_privs_6 ++ (lw_privs_7)))))), lw_okq q
  exact List.forall_mem_append.mpr ⟨lw_r1, List.forall_mem_append.mpr ⟨lw_r2, List.forall_mem_append.mpr ⟨lw_r3, List.forall_mem_append.mpr ⟨lw_r4, List.forall_mem_append.mpr ⟨lw_r5, List.forall_mem_append.mpr ⟨lw_r6, lw_r7⟩⟩⟩⟩⟩⟩
def RX0 : String := "HeldMusic$Desk"
def TX0 : u_T := fun k => match k with
  | 0 => ("HeldMusic$Desk", "name", "[J", true)
  | 1 => ("HeldMusic$Desk", "kind", "[I", true)
  | 2 => ("HeldMusic$Desk", "trouble", "[I", true)
  | 3 => ("HeldMusic$Desk", "knows", "[I", true)
  | 4 => ("HeldMusic$Desk", "holds", "[I", true)
  | 5 => ("HeldMusic$Desk", "law", "LHeldMusic$Law;", true)
  | 6 => ("HeldMusic$Desk", "callers", "I", false)
  | _ => ("HeldMusic$Desk", "takes", "I", false)
def tyX0 : Nat → FieldType := fun k => match k with
  | 0 => .array .long
  | 1 => .array .int
  | 2 => .array .int
  | 3 => .array .int
  | 4 => .array .int
  | 5 => .object "HeldMusic$Law"
  | 6 => .int
  | _ => .int
theorem nmX0 : ∀ a, a < 8 → ∀ b, b < 8 → a ≠ b → (TX0 a).2.1 ≠ (TX0 b).2.1 := by decide +kernel
theorem tyX0_ok : ∀ k, k < 8 → parseFieldDescriptor (TX0 k).2.2.1 = some (tyX0 k) := by decide +kernel
abbrev cX0_init : ByteArray := prog_2_method_1_code
def yX0_init : MethodName := ⟨RX0, "<init>", "()V"⟩
abbrev cX0_clear : ByteArray := prog_2_method_2_code
def yX0_clear : MethodName := ⟨RX0, "clear", "()V"⟩
abbrev cX0_callerNamed : ByteArray := prog_2_method_3_code
def yX0_callerNamed : MethodName := ⟨RX0, "callerNamed", "(J)I"⟩
def RX1 : String := "HeldMusic$Hall"
def TX1 : u_T := fun k => match k with
  | 0 => ("HeldMusic$Hall", "has", "[I", true)
  | 1 => ("HeldMusic$Hall", "held", "[I", true)
  | 2 => ("HeldMusic$Hall", "waits", "[I", true)
  | 3 => ("HeldMusic$Hall", "talks", "[I", true)
  | 4 => ("HeldMusic$Hall", "length", "I", false)
  | 5 => ("HeldMusic$Hall", "settled", "I", false)
  | 6 => ("HeldMusic$Hall", "taken", "I", false)
  | _ => ("HeldMusic$Hall", "minute", "I", false)
def tyX1 : Nat → FieldType := fun k => match k with
  | 0 => .array .int
  | 1 => .array .int
  | 2 => .array .int
  | 3 => .array .int
  | 4 => .int
  | 5 => .int
  | 6 => .int
  | _ => .int
theorem nmX1 : ∀ a, a < 8 → ∀ b, b < 8 → a ≠ b → (TX1 a).2.1 ≠ (TX1 b).2.1 := by decide +kernel
theorem tyX1_ok : ∀ k, k < 8 → parseFieldDescriptor (TX1 k).2.2.1 = some (tyX1 k) := by decide +kernel
abbrev cX1_init : ByteArray := prog_3_method_1_code
def yX1_init : MethodName := ⟨RX1, "<init>", "()V"⟩
abbrev cX1_begin : ByteArray := prog_3_method_2_code
def yX1_begin : MethodName := ⟨RX1, "begin", "(LHeldMusic$Desk;)V"⟩
abbrev cX1_copyFrom : ByteArray := prog_3_method_3_code
def yX1_copyFrom : MethodName := ⟨RX1, "copyFrom", "(LHeldMusic$Hall;)V"⟩
abbrev cX1_isSettled : ByteArray := prog_3_method_4_code
def yX1_isSettled : MethodName := ⟨RX1, "isSettled", "(I)Z"⟩
abbrev cX1_placeOf : ByteArray := prog_3_method_5_code
def yX1_placeOf : MethodName := ⟨RX1, "placeOf", "(I)I"⟩
abbrev cX1_lineBits : ByteArray := prog_3_method_6_code
def yX1_lineBits : MethodName := ⟨RX1, "lineBits", "()I"⟩
abbrev cX1_whoHas : ByteArray := prog_3_method_7_code
def yX1_whoHas : MethodName := ⟨RX1, "whoHas", "(II)I"⟩
abbrev cX1_answersInAll : ByteArray := prog_3_method_8_code
def yX1_answersInAll : MethodName := ⟨RX1, "answersInAll", "(I)I"⟩
abbrev cX1_canRing : ByteArray := prog_3_method_9_code
def yX1_canRing : MethodName := ⟨RX1, "canRing", "(I)Z"⟩
abbrev cX1_comeToEnd : ByteArray := prog_3_method_10_code
def yX1_comeToEnd : MethodName := ⟨RX1, "comeToEnd", "(I)V"⟩
abbrev cX1_leave : ByteArray := prog_3_method_11_code
def yX1_leave : MethodName := ⟨RX1, "leave", "(I)V"⟩
abbrev cX1_changePlaces : ByteArray := prog_3_method_12_code
def yX1_changePlaces : MethodName := ⟨RX1, "changePlaces", "(II)V"⟩
abbrev cX1_standAs : ByteArray := prog_3_method_13_code
def yX1_standAs : MethodName := ⟨RX1, "standAs", "([II)V"⟩
abbrev cX1_runOut : ByteArray := prog_3_method_14_code
def yX1_runOut : MethodName := ⟨RX1, "runOut", "(LHeldMusic$Desk;)I"⟩
abbrev cX1_passMinute : ByteArray := prog_3_method_15_code
def yX1_passMinute : MethodName := ⟨RX1, "passMinute", "(LHeldMusic$Desk;I)I"⟩
abbrev cX1_putThrough : ByteArray := prog_3_method_16_code
def yX1_putThrough : MethodName := ⟨RX1, "putThrough", "(LHeldMusic$Desk;I)V"⟩
abbrev cX1_heard : ByteArray := prog_3_method_17_code
def yX1_heard : MethodName := ⟨RX1, "heard", "(LHeldMusic$Desk;IIII)I"⟩
abbrev cX1_settleWhoKnow : ByteArray := prog_3_method_18_code
def yX1_settleWhoKnow : MethodName := ⟨RX1, "settleWhoKnow", "(LHeldMusic$Desk;)V"⟩
abbrev cX1_holdLonger : ByteArray := prog_3_method_19_code
def yX1_holdLonger : MethodName := ⟨RX1, "holdLonger", "(LHeldMusic$Desk;)V"⟩
abbrev cX1_takeUp : ByteArray := prog_3_method_20_code
def yX1_takeUp : MethodName := ⟨RX1, "takeUp", "(LHeldMusic$Desk;I)V"⟩
def RX2 : String := "HeldMusic$Law"
def TX2 : u_T := fun k => match k with
  | 0 => ("HeldMusic$Law", "steps", "[I", true)
  | 1 => ("HeldMusic$Law", "stack", "[I", true)
  | _ => ("HeldMusic$Law", "size", "I", false)
def tyX2 : Nat → FieldType := fun k => match k with
  | 0 => .array .int
  | 1 => .array .int
  | _ => .int
theorem nmX2 : ∀ a, a < 3 → ∀ b, b < 3 → a ≠ b → (TX2 a).2.1 ≠ (TX2 b).2.1 := by decide +kernel
theorem tyX2_ok : ∀ k, k < 3 → parseFieldDescriptor (TX2 k).2.2.1 = some (tyX2 k) := by decide +kernel
abbrev cX2_init : ByteArray := prog_4_method_1_code
def yX2_init : MethodName := ⟨RX2, "<init>", "()V"⟩
abbrev cX2_clear : ByteArray := prog_4_method_2_code
def yX2_clear : MethodName := ⟨RX2, "clear", "()V"⟩
abbrev cX2_add : ByteArray := prog_4_method_3_code
def yX2_add : MethodName := ⟨RX2, "add", "(I)V"⟩
abbrev cX2_valueOf : ByteArray := prog_4_method_4_code
def yX2_valueOf : MethodName := ⟨RX2, "valueOf", "(IIII)I"⟩
def RX3 : String := "HeldMusic$Mark"
def TX3 : u_T := fun k => match k with
  | 0 => ("HeldMusic$Mark", "hall", "LHeldMusic$Hall;", true)
  | 1 => ("HeldMusic$Mark", "plan", "LHeldMusic$Plan;", true)
  | 2 => ("HeldMusic$Mark", "told", "I", false)
  | 3 => ("HeldMusic$Mark", "toldSettled", "I", false)
  | _ => ("HeldMusic$Mark", "laid", "Z", false)
def tyX3 : Nat → FieldType := fun k => match k with
  | 0 => .object "HeldMusic$Hall"
  | 1 => .object "HeldMusic$Plan"
  | 2 => .int
  | 3 => .int
  | _ => .boolean
theorem nmX3 : ∀ a, a < 5 → ∀ b, b < 5 → a ≠ b → (TX3 a).2.1 ≠ (TX3 b).2.1 := by decide +kernel
theorem tyX3_ok : ∀ k, k < 5 → parseFieldDescriptor (TX3 k).2.2.1 = some (tyX3 k) := by decide +kernel
abbrev cX3_init : ByteArray := prog_5_method_1_code
def yX3_init : MethodName := ⟨RX3, "<init>", "()V"⟩
def RX4 : String := "HeldMusic$Plan"
def TX4 : u_T := fun k => match k with
  | 0 => ("HeldMusic$Plan", "deed", "[I", true)
  | 1 => ("HeldMusic$Plan", "who", "[I", true)
  | 2 => ("HeldMusic$Plan", "whom", "[I", true)
  | _ => ("HeldMusic$Plan", "lines", "I", false)
def tyX4 : Nat → FieldType := fun k => match k with
  | 0 => .array .int
  | 1 => .array .int
  | 2 => .array .int
  | _ => .int
theorem nmX4 : ∀ a, a < 4 → ∀ b, b < 4 → a ≠ b → (TX4 a).2.1 ≠ (TX4 b).2.1 := by decide +kernel
theorem tyX4_ok : ∀ k, k < 4 → parseFieldDescriptor (TX4 k).2.2.1 = some (tyX4 k) := by decide +kernel
abbrev cX4_init : ByteArray := prog_6_method_1_code
def yX4_init : MethodName := ⟨RX4, "<init>", "()V"⟩
abbrev cX4_add : ByteArray := prog_6_method_2_code
def yX4_add : MethodName := ⟨RX4, "add", "(III)V"⟩
abbrev cX4_copyFrom : ByteArray := prog_6_method_3_code
def yX4_copyFrom : MethodName := ⟨RX4, "copyFrom", "(LHeldMusic$Plan;)V"⟩
def RX5 : String := "HeldMusic$Reader"
def TX5 : u_T := fun k => match k with
  | 0 => ("HeldMusic$Reader", "tape", "LHeldMusic$Tape;", true)
  | 1 => ("HeldMusic$Reader", "fault", "I", false)
  | 2 => ("HeldMusic$Reader", "number", "I", false)
  | 3 => ("HeldMusic$Reader", "takesTold", "Z", false)
  | _ => ("HeldMusic$Reader", "lawTold", "Z", false)
def tyX5 : Nat → FieldType := fun k => match k with
  | 0 => .object "HeldMusic$Tape"
  | 1 => .int
  | 2 => .int
  | 3 => .boolean
  | _ => .boolean
theorem nmX5 : ∀ a, a < 5 → ∀ b, b < 5 → a ≠ b → (TX5 a).2.1 ≠ (TX5 b).2.1 := by decide +kernel
theorem tyX5_ok : ∀ k, k < 5 → parseFieldDescriptor (TX5 k).2.2.1 = some (tyX5 k) := by decide +kernel
abbrev cX5_init : ByteArray := prog_7_method_1_code
def yX5_init : MethodName := ⟨RX5, "<init>", "()V"⟩
abbrev cX5_readOffice : ByteArray := prog_7_method_2_code
def yX5_readOffice : MethodName := ⟨RX5, "readOffice", "(LHeldMusic$Desk;)I"⟩
abbrev cX5_readDay : ByteArray := prog_7_method_3_code
def yX5_readDay : MethodName := ⟨RX5, "readDay", "(LHeldMusic$Plan;LHeldMusic$Desk;)I"⟩
abbrev cX5_fail : ByteArray := prog_7_method_4_code
def yX5_fail : MethodName := ⟨RX5, "fail", "(I)Z"⟩
abbrev cX5_passWord : ByteArray := prog_7_method_5_code
def yX5_passWord : MethodName := ⟨RX5, "passWord", "(J)Z"⟩
abbrev cX5_passSign : ByteArray := prog_7_method_6_code
def yX5_passSign : MethodName := ⟨RX5, "passSign", "(C)Z"⟩
abbrev cX5_passNumber : ByteArray := prog_7_method_7_code
def yX5_passNumber : MethodName := ⟨RX5, "passNumber", "(II)Z"⟩
abbrev cX5_officeLine : ByteArray := prog_7_method_8_code
def yX5_officeLine : MethodName := ⟨RX5, "officeLine", "(LHeldMusic$Desk;)Z"⟩
abbrev cX5_callerLine : ByteArray := prog_7_method_9_code
def yX5_callerLine : MethodName := ⟨RX5, "callerLine", "(LHeldMusic$Desk;I)Z"⟩
abbrev cX5_takesLine : ByteArray := prog_7_method_10_code
def yX5_takesLine : MethodName := ⟨RX5, "takesLine", "(LHeldMusic$Desk;)Z"⟩
abbrev cX5_isName : ByteArray := prog_7_method_11_code
def yX5_isName : MethodName := ⟨RX5, "isName", "()Z"⟩
abbrev cX5_isLineWord : ByteArray := prog_7_method_12_code
def yX5_isLineWord : MethodName := ⟨RX5, "isLineWord", "(J)Z"⟩
abbrev cX5_kindOf : ByteArray := prog_7_method_13_code
def yX5_kindOf : MethodName := ⟨RX5, "kindOf", "(J)I"⟩
abbrev cX5_newName : ByteArray := prog_7_method_14_code
def yX5_newName : MethodName := ⟨RX5, "newName", "(LHeldMusic$Desk;I)Z"⟩
abbrev cX5_kindWord : ByteArray := prog_7_method_15_code
def yX5_kindWord : MethodName := ⟨RX5, "kindWord", "(LHeldMusic$Desk;I)Z"⟩
abbrev cX5_answers : ByteArray := prog_7_method_16_code
def yX5_answers : MethodName := ⟨RX5, "answers", "(LHeldMusic$Desk;I)Z"⟩
abbrev cX5_dayLine : ByteArray := prog_7_method_17_code
def yX5_dayLine : MethodName := ⟨RX5, "dayLine", "(LHeldMusic$Plan;LHeldMusic$Desk;)Z"⟩
abbrev cX5_deedWord : ByteArray := prog_7_method_18_code
def yX5_deedWord : MethodName := ⟨RX5, "deedWord", "()I"⟩
abbrev cX5_namedCaller : ByteArray := prog_7_method_19_code
def yX5_namedCaller : MethodName := ⟨RX5, "namedCaller", "(LHeldMusic$Desk;I)I"⟩
abbrev cX5_wholeTest : ByteArray := prog_7_method_20_code
def yX5_wholeTest : MethodName := ⟨RX5, "wholeTest", "(LHeldMusic$Law;I)Z"⟩
abbrev cX5_isJoin : ByteArray := prog_7_method_21_code
def yX5_isJoin : MethodName := ⟨RX5, "isJoin", "()Z"⟩
abbrev cX5_test : ByteArray := prog_7_method_22_code
def yX5_test : MethodName := ⟨RX5, "test", "(LHeldMusic$Law;I)Z"⟩
abbrev cX5_sum : ByteArray := prog_7_method_23_code
def yX5_sum : MethodName := ⟨RX5, "sum", "(LHeldMusic$Law;I)Z"⟩
abbrev cX5_product : ByteArray := prog_7_method_24_code
def yX5_product : MethodName := ⟨RX5, "product", "(LHeldMusic$Law;I)Z"⟩
abbrev cX5_part : ByteArray := prog_7_method_25_code
def yX5_part : MethodName := ⟨RX5, "part", "(LHeldMusic$Law;I)Z"⟩
abbrev cX5_givenPart : ByteArray := prog_7_method_26_code
def yX5_givenPart : MethodName := ⟨RX5, "givenPart", "()I"⟩
def RX6 : String := "HeldMusic$Rows"
def TX6 : u_T := fun k => match k with
  | 0 => ("HeldMusic$Rows", "row", "[I", true)
  | 1 => ("HeldMusic$Rows", "best", "[I", true)
  | 2 => ("HeldMusic$Rows", "size", "I", false)
  | 3 => ("HeldMusic$Rows", "most", "I", false)
  | _ => ("HeldMusic$Rows", "known", "Z", false)
def tyX6 : Nat → FieldType := fun k => match k with
  | 0 => .array .int
  | 1 => .array .int
  | 2 => .int
  | 3 => .int
  | _ => .boolean
theorem nmX6 : ∀ a, a < 5 → ∀ b, b < 5 → a ≠ b → (TX6 a).2.1 ≠ (TX6 b).2.1 := by decide +kernel
theorem tyX6_ok : ∀ k, k < 5 → parseFieldDescriptor (TX6 k).2.2.1 = some (tyX6 k) := by decide +kernel
abbrev cX6_init : ByteArray := prog_8_method_1_code
def yX6_init : MethodName := ⟨RX6, "<init>", "()V"⟩
abbrev cX6_begin : ByteArray := prog_8_method_2_code
def yX6_begin : MethodName := ⟨RX6, "begin", "(I)V"⟩
abbrev cX6_weigh : ByteArray := prog_8_method_3_code
def yX6_weigh : MethodName := ⟨RX6, "weigh", "(I)V"⟩
abbrev cX6_answerTo : ByteArray := prog_8_method_4_code
def yX6_answerTo : MethodName := ⟨RX6, "answerTo", "(I)I"⟩
abbrev cX6_advance : ByteArray := prog_8_method_5_code
def yX6_advance : MethodName := ⟨RX6, "advance", "()Z"⟩
abbrev cX6_exchange : ByteArray := prog_8_method_6_code
def yX6_exchange : MethodName := ⟨RX6, "exchange", "(II)V"⟩
def RX7 : String := "HeldMusic$Tape"
def TX7 : u_T := fun k => match k with
  | 0 => ("HeldMusic$Tape", "signs", "[B", true)
  | 1 => ("HeldMusic$Tape", "length", "I", false)
  | 2 => ("HeldMusic$Tape", "sort", "I", false)
  | 3 => ("HeldMusic$Tape", "place", "I", false)
  | 4 => ("HeldMusic$Tape", "value", "J", false)
  | _ => ("HeldMusic$Tape", "behind", "I", false)
def tyX7 : Nat → FieldType := fun k => match k with
  | 0 => .array .byte
  | 1 => .int
  | 2 => .int
  | 3 => .int
  | 4 => .long
  | _ => .int
theorem nmX7 : ∀ a, a < 6 → ∀ b, b < 6 → a ≠ b → (TX7 a).2.1 ≠ (TX7 b).2.1 := by decide +kernel
theorem tyX7_ok : ∀ k, k < 6 → parseFieldDescriptor (TX7 k).2.2.1 = some (tyX7 k) := by decide +kernel
abbrev cX7_init : ByteArray := prog_9_method_1_code
def yX7_init : MethodName := ⟨RX7, "<init>", "()V"⟩
abbrev cX7_write : ByteArray := prog_9_method_2_code
def yX7_write : MethodName := ⟨RX7, "write", "(J)V"⟩
abbrev cX7_clear : ByteArray := prog_9_method_3_code
def yX7_clear : MethodName := ⟨RX7, "clear", "()V"⟩
abbrev cX7_rewind : ByteArray := prog_9_method_4_code
def yX7_rewind : MethodName := ⟨RX7, "rewind", "()V"⟩
abbrev cX7_isWord : ByteArray := prog_9_method_5_code
def yX7_isWord : MethodName := ⟨RX7, "isWord", "(J)Z"⟩
abbrev cX7_isSign : ByteArray := prog_9_method_6_code
def yX7_isSign : MethodName := ⟨RX7, "isSign", "(C)Z"⟩
abbrev cX7_step : ByteArray := prog_9_method_7_code
def yX7_step : MethodName := ⟨RX7, "step", "()V"⟩
abbrev cX7_takeWord : ByteArray := prog_9_method_8_code
def yX7_takeWord : MethodName := ⟨RX7, "takeWord", "()V"⟩
abbrev cX7_takeNumber : ByteArray := prog_9_method_9_code
def yX7_takeNumber : MethodName := ⟨RX7, "takeNumber", "()V"⟩
abbrev cX7_takeSign : ByteArray := prog_9_method_10_code
def yX7_takeSign : MethodName := ⟨RX7, "takeSign", "()V"⟩
def RX8 : String := "HeldMusic"
def TX8 : u_T := fun k => match k with
  | 0 => ("HeldMusic", "reader", "LHeldMusic$Reader;", true)
  | 1 => ("HeldMusic", "desk", "LHeldMusic$Desk;", false)
  | 2 => ("HeldMusic", "deskDraft", "LHeldMusic$Desk;", false)
  | 3 => ("HeldMusic", "plan", "LHeldMusic$Plan;", false)
  | 4 => ("HeldMusic", "planDraft", "LHeldMusic$Plan;", false)
  | 5 => ("HeldMusic", "now", "LHeldMusic$Hall;", true)
  | 6 => ("HeldMusic", "trial", "LHeldMusic$Hall;", true)
  | 7 => ("HeldMusic", "past", "[LHeldMusic$Hall;", true)
  | 8 => ("HeldMusic", "pastSize", "I", false)
  | 9 => ("HeldMusic", "pastEnd", "I", false)
  | 10 => ("HeldMusic", "marks", "[LHeldMusic$Mark;", true)
  | 11 => ("HeldMusic", "told", "I", false)
  | 12 => ("HeldMusic", "toldSettled", "I", false)
  | 13 => ("HeldMusic", "orders", "LHeldMusic$Rows;", true)
  | 14 => ("HeldMusic", "deals", "LHeldMusic$Rows;", true)
  | _ => ("HeldMusic", "tally", "[I", true)
def tyX8 : Nat → FieldType := fun k => match k with
  | 0 => .object "HeldMusic$Reader"
  | 1 => .object "HeldMusic$Desk"
  | 2 => .object "HeldMusic$Desk"
  | 3 => .object "HeldMusic$Plan"
  | 4 => .object "HeldMusic$Plan"
  | 5 => .object "HeldMusic$Hall"
  | 6 => .object "HeldMusic$Hall"
  | 7 => .array (.object "HeldMusic$Hall")
  | 8 => .int
  | 9 => .int
  | 10 => .array (.object "HeldMusic$Mark")
  | 11 => .int
  | 12 => .int
  | 13 => .object "HeldMusic$Rows"
  | 14 => .object "HeldMusic$Rows"
  | _ => .array .int
theorem nmX8 : ∀ a, a < 16 → ∀ b, b < 16 → a ≠ b → (TX8 a).2.1 ≠ (TX8 b).2.1 := by decide +kernel
theorem tyX8_ok : ∀ k, k < 16 → parseFieldDescriptor (TX8 k).2.2.1 = some (tyX8 k) := by decide +kernel
abbrev cX8_init : ByteArray := prog_1_method_1_code
def yX8_init : MethodName := ⟨RX8, "<init>", "()V"⟩
abbrev cX8_feed : ByteArray := prog_1_method_2_code
def yX8_feed : MethodName := ⟨RX8, "feed", "(JJJ)I"⟩
abbrev cX8_office : ByteArray := prog_1_method_3_code
def yX8_office : MethodName := ⟨RX8, "office", "()I"⟩
abbrev cX8_day : ByteArray := prog_1_method_4_code
def yX8_day : MethodName := ⟨RX8, "day", "()I"⟩
abbrev cX8_caller : ByteArray := prog_1_method_5_code
def yX8_caller : MethodName := ⟨RX8, "caller", "(II)I"⟩
abbrev cX8_met : ByteArray := prog_1_method_6_code
def yX8_met : MethodName := ⟨RX8, "met", "(II)I"⟩
abbrev cX8_line : ByteArray := prog_1_method_7_code
def yX8_line : MethodName := ⟨RX8, "line", "(I)I"⟩
abbrev cX8_ring : ByteArray := prog_1_method_8_code
def yX8_ring : MethodName := ⟨RX8, "ring", "(I)I"⟩
abbrev cX8_off : ByteArray := prog_1_method_9_code
def yX8_off : MethodName := ⟨RX8, "off", "(I)Z"⟩
abbrev cX8_swap : ByteArray := prog_1_method_10_code
def yX8_swap : MethodName := ⟨RX8, "swap", "(II)Z"⟩
abbrev cX8_minute : ByteArray := prog_1_method_11_code
def yX8_minute : MethodName := ⟨RX8, "minute", "()I"⟩
abbrev cX8_undo : ByteArray := prog_1_method_12_code
def yX8_undo : MethodName := ⟨RX8, "undo", "()Z"⟩
abbrev cX8_judged : ByteArray := prog_1_method_13_code
def yX8_judged : MethodName := ⟨RX8, "judged", "(I)I"⟩
abbrev cX8_next : ByteArray := prog_1_method_14_code
def yX8_next : MethodName := ⟨RX8, "next", "(I)I"⟩
abbrev cX8_when : ByteArray := prog_1_method_15_code
def yX8_when : MethodName := ⟨RX8, "when", "(I)I"⟩
abbrev cX8_empty : ByteArray := prog_1_method_16_code
def yX8_empty : MethodName := ⟨RX8, "empty", "()I"⟩
abbrev cX8_meets : ByteArray := prog_1_method_17_code
def yX8_meets : MethodName := ⟨RX8, "meets", "(II)I"⟩
abbrev cX8_spread : ByteArray := prog_1_method_18_code
def yX8_spread : MethodName := ⟨RX8, "spread", "(I)I"⟩
abbrev cX8_order : ByteArray := prog_1_method_19_code
def yX8_order : MethodName := ⟨RX8, "order", "(I)I"⟩
abbrev cX8_helpers : ByteArray := prog_1_method_20_code
def yX8_helpers : MethodName := ⟨RX8, "helpers", "(I)I"⟩
abbrev cX8_gone : ByteArray := prog_1_method_21_code
def yX8_gone : MethodName := ⟨RX8, "gone", "(I)I"⟩
abbrev cX8_holders : ByteArray := prog_1_method_22_code
def yX8_holders : MethodName := ⟨RX8, "holders", "(I)I"⟩
abbrev cX8_hears : ByteArray := prog_1_method_23_code
def yX8_hears : MethodName := ⟨RX8, "hears", "(II)I"⟩
abbrev cX8_deal : ByteArray := prog_1_method_24_code
def yX8_deal : MethodName := ⟨RX8, "deal", "(I)I"⟩
abbrev cX8_usual : ByteArray := prog_1_method_25_code
def yX8_usual : MethodName := ⟨RX8, "usual", "(I)I"⟩
abbrev cX8_lost : ByteArray := prog_1_method_26_code
def yX8_lost : MethodName := ⟨RX8, "lost", "()I"⟩
abbrev cX8_wisest : ByteArray := prog_1_method_27_code
def yX8_wisest : MethodName := ⟨RX8, "wisest", "()I"⟩
abbrev cX8_tell : ByteArray := prog_1_method_28_code
def yX8_tell : MethodName := ⟨RX8, "tell", "(IZ)Z"⟩
abbrev cX8_sets : ByteArray := prog_1_method_29_code
def yX8_sets : MethodName := ⟨RX8, "sets", "(I)I"⟩
abbrev cX8_ask : ByteArray := prog_1_method_30_code
def yX8_ask : MethodName := ⟨RX8, "ask", "()I"⟩
abbrev cX8_chance : ByteArray := prog_1_method_31_code
def yX8_chance : MethodName := ⟨RX8, "chance", "(I)I"⟩
abbrev cX8_other : ByteArray := prog_1_method_32_code
def yX8_other : MethodName := ⟨RX8, "other", "(I)I"⟩
abbrev cX8_rests : ByteArray := prog_1_method_33_code
def yX8_rests : MethodName := ⟨RX8, "rests", "(IIII)I"⟩
abbrev cX8_days : ByteArray := prog_1_method_34_code
def yX8_days : MethodName := ⟨RX8, "days", "(III)I"⟩
abbrev cX8_mark : ByteArray := prog_1_method_35_code
def yX8_mark : MethodName := ⟨RX8, "mark", "(IZ)Z"⟩
abbrev cX8_count : ByteArray := prog_1_method_36_code
def yX8_count : MethodName := ⟨RX8, "count", "(I)I"⟩
abbrev cX8_isCaller : ByteArray := prog_1_method_37_code
def yX8_isCaller : MethodName := ⟨RX8, "isCaller", "(I)Z"⟩
abbrev cX8_isOnLine : ByteArray := prog_1_method_38_code
def yX8_isOnLine : MethodName := ⟨RX8, "isOnLine", "(I)Z"⟩
abbrev cX8_areTwo : ByteArray := prog_1_method_39_code
def yX8_areTwo : MethodName := ⟨RX8, "areTwo", "(II)Z"⟩
abbrev cX8_isAnswer : ByteArray := prog_1_method_40_code
def yX8_isAnswer : MethodName := ⟨RX8, "isAnswer", "(I)Z"⟩
abbrev cX8_isGain : ByteArray := prog_1_method_41_code
def yX8_isGain : MethodName := ⟨RX8, "isGain", "(I)Z"⟩
abbrev cX8_openDraft : ByteArray := prog_1_method_42_code
def yX8_openDraft : MethodName := ⟨RX8, "openDraft", "()V"⟩
abbrev cX8_keepPast : ByteArray := prog_1_method_43_code
def yX8_keepPast : MethodName := ⟨RX8, "keepPast", "()V"⟩
abbrev cX8_layOn : ByteArray := prog_1_method_44_code
def yX8_layOn : MethodName := ⟨RX8, "layOn", "(LHeldMusic$Mark;)V"⟩
abbrev cX8_goBackTo : ByteArray := prog_1_method_45_code
def yX8_goBackTo : MethodName := ⟨RX8, "goBackTo", "(LHeldMusic$Mark;)V"⟩
abbrev cX8_judgeDay : ByteArray := prog_1_method_46_code
def yX8_judgeDay : MethodName := ⟨RX8, "judgeDay", "(II)I"⟩
abbrev cX8_doLine : ByteArray := prog_1_method_47_code
def yX8_doLine : MethodName := ⟨RX8, "doLine", "(II)Z"⟩
abbrev cX8_freeCallers : ByteArray := prog_1_method_48_code
def yX8_freeCallers : MethodName := ⟨RX8, "freeCallers", "()I"⟩
abbrev cX8_settledWith : ByteArray := prog_1_method_49_code
def yX8_settledWith : MethodName := ⟨RX8, "settledWith", "(I)I"⟩
abbrev cX8_isAsTold : ByteArray := prog_1_method_50_code
def yX8_isAsTold : MethodName := ⟨RX8, "isAsTold", "(I)Z"⟩
abbrev cX8_addToTally : ByteArray := prog_1_method_51_code
def yX8_addToTally : MethodName := ⟨RX8, "addToTally", "(I)V"⟩
abbrev cX8_evenestUntold : ByteArray := prog_1_method_52_code
def yX8_evenestUntold : MethodName := ⟨RX8, "evenestUntold", "(I)I"⟩
abbrev cX8_findOrder : ByteArray := prog_1_method_53_code
def yX8_findOrder : MethodName := ⟨RX8, "findOrder", "()V"⟩
abbrev cX8_settledNextBy : ByteArray := prog_1_method_54_code
def yX8_settledNextBy : MethodName := ⟨RX8, "settledNextBy", "(LHeldMusic$Rows;)I"⟩
abbrev cX8_gainOf : ByteArray := prog_1_method_55_code
def yX8_gainOf : MethodName := ⟨RX8, "gainOf", "(IIIII)I"⟩
abbrev cX8_drawAfter : ByteArray := prog_1_method_56_code
def yX8_drawAfter : MethodName := ⟨RX8, "drawAfter", "(J)J"⟩
abbrev cX8_actByDraw : ByteArray := prog_1_method_57_code
def yX8_actByDraw : MethodName := ⟨RX8, "actByDraw", "(J)J"⟩
def RX9 : String := "HeldMusicModel"
def TX9 : u_T := fun k => match k with
  | 0 => ("HeldMusicModel", "thrown", "I", false)
  | 1 => ("HeldMusicModel", "taped", "I", false)
  | 2 => ("HeldMusicModel", "tape", "[I", true)
  | 3 => ("HeldMusicModel", "size", "I", false)
  | 4 => ("HeldMusicModel", "place", "I", false)
  | 5 => ("HeldMusicModel", "begin", "I", false)
  | 6 => ("HeldMusicModel", "token", "I", false)
  | 7 => ("HeldMusicModel", "word", "J", false)
  | 8 => ("HeldMusicModel", "told", "I", false)
  | 9 => ("HeldMusicModel", "wrong", "I", false)
  | 10 => ("HeldMusicModel", "office", "[I", true)
  | 11 => ("HeldMusicModel", "callerName", "[J", true)
  | 12 => ("HeldMusicModel", "kind", "[I", true)
  | 13 => ("HeldMusicModel", "trouble", "[I", true)
  | 14 => ("HeldMusicModel", "knowsTold", "[I", true)
  | 15 => ("HeldMusicModel", "holds", "[I", true)
  | 16 => ("HeldMusicModel", "lineFrom", "[I", true)
  | 17 => ("HeldMusicModel", "lineTo", "[I", true)
  | 18 => ("HeldMusicModel", "codes", "[I", true)
  | 19 => ("HeldMusicModel", "code", "I", false)
  | 20 => ("HeldMusicModel", "isTakes", "Z", false)
  | 21 => ("HeldMusicModel", "opened", "[I", true)
  | 22 => ("HeldMusicModel", "compared", "[Z", true)
  | 23 => ("HeldMusicModel", "kept", "[I", true)
  | 24 => ("HeldMusicModel", "keptBy", "[I", true)
  | 25 => ("HeldMusicModel", "ahead", "[I", true)
  | 26 => ("HeldMusicModel", "against", "[I", true)
  | 27 => ("HeldMusicModel", "sum", "[I", true)
  | 28 => ("HeldMusicModel", "sumBy", "[I", true)
  | 29 => ("HeldMusicModel", "term", "[I", true)
  | 30 => ("HeldMusicModel", "termBy", "[I", true)
  | 31 => ("HeldMusicModel", "byNot", "[I", true)
  | 32 => ("HeldMusicModel", "valueOf", "[I", true)
  | 33 => ("HeldMusicModel", "given", "I", false)
  | 34 => ("HeldMusicModel", "lines", "[I", true)
  | 35 => ("HeldMusicModel", "lineWhat", "[I", true)
  | 36 => ("HeldMusicModel", "lineA", "[I", true)
  | 37 => ("HeldMusicModel", "lineB", "[I", true)
  | 38 => ("HeldMusicModel", "tale", "[I", true)
  | 39 => ("HeldMusicModel", "s", "[I", true)
  | 40 => ("HeldMusicModel", "aside", "[I", true)
  | 41 => ("HeldMusicModel", "before", "[I", true)
  | 42 => ("HeldMusicModel", "marked", "[I", true)
  | 43 => ("HeldMusicModel", "undone", "[I", true)
  | 44 => ("HeldMusicModel", "isLaid", "[Z", true)
  | 45 => ("HeldMusicModel", "done", "I", false)
  | 46 => ("HeldMusicModel", "takesNow", "I", false)
  | 47 => ("HeldMusicModel", "badLine", "I", false)
  | 48 => ("HeldMusicModel", "firstLine", "I", false)
  | 49 => ("HeldMusicModel", "settledAt", "[I", true)
  | 50 => ("HeldMusicModel", "emptyAt", "I", false)
  | 51 => ("HeldMusicModel", "settledLast", "I", false)
  | 52 => ("HeldMusicModel", "row", "[I", true)
  | 53 => ("HeldMusicModel", "bestRow", "[I", true)
  | 54 => ("HeldMusicModel", "mostSettled", "I", false)
  | 55 => ("HeldMusicModel", "settledOf", "[I", true)
  | 56 => ("HeldMusicModel", "ordersMany", "I", false)
  | 57 => ("HeldMusicModel", "ordersHelped", "I", false)
  | 58 => ("HeldMusicModel", "mostDealt", "I", false)
  | _ => ("HeldMusicModel", "g", "J", false)
def tyX9 : Nat → FieldType := fun k => match k with
  | 0 => .int
  | 1 => .int
  | 2 => .array .int
  | 3 => .int
  | 4 => .int
  | 5 => .int
  | 6 => .int
  | 7 => .long
  | 8 => .int
  | 9 => .int
  | 10 => .array .int
  | 11 => .array .long
  | 12 => .array .int
  | 13 => .array .int
  | 14 => .array .int
  | 15 => .array .int
  | 16 => .array .int
  | 17 => .array .int
  | 18 => .array .int
  | 19 => .int
  | 20 => .boolean
  | 21 => .array .int
  | 22 => .array .boolean
  | 23 => .array .int
  | 24 => .array .int
  | 25 => .array .int
  | 26 => .array .int
  | 27 => .array .int
  | 28 => .array .int
  | 29 => .array .int
  | 30 => .array .int
  | 31 => .array .int
  | 32 => .array .int
  | 33 => .int
  | 34 => .array .int
  | 35 => .array .int
  | 36 => .array .int
  | 37 => .array .int
  | 38 => .array .int
  | 39 => .array .int
  | 40 => .array .int
  | 41 => .array .int
  | 42 => .array .int
  | 43 => .array .int
  | 44 => .array .boolean
  | 45 => .int
  | 46 => .int
  | 47 => .int
  | 48 => .int
  | 49 => .array .int
  | 50 => .int
  | 51 => .int
  | 52 => .array .int
  | 53 => .array .int
  | 54 => .int
  | 55 => .array .int
  | 56 => .int
  | 57 => .int
  | 58 => .int
  | _ => .long
theorem nmX9 : ∀ a, a < 60 → ∀ b, b < 60 → a ≠ b → (TX9 a).2.1 ≠ (TX9 b).2.1 := by decide +kernel
theorem tyX9_ok : ∀ k, k < 60 → parseFieldDescriptor (TX9 k).2.2.1 = some (tyX9 k) := by decide +kernel
abbrev cX9_init : ByteArray := prog_11_method_1_code
def yX9_init : MethodName := ⟨RX9, "<init>", "()V"⟩
abbrev cX9_thrown : ByteArray := prog_11_method_2_code
def yX9_thrown : MethodName := ⟨RX9, "thrown", "()I"⟩
abbrev cX9_within : ByteArray := prog_11_method_3_code
def yX9_within : MethodName := ⟨RX9, "within", "(III)Z"⟩
abbrev cX9_bits : ByteArray := prog_11_method_4_code
def yX9_bits : MethodName := ⟨RX9, "bits", "(I)I"⟩
abbrev cX9_feed : ByteArray := prog_11_method_5_code
def yX9_feed : MethodName := ⟨RX9, "feed", "(JJJ)I"⟩
abbrev cX9_signAt : ByteArray := prog_11_method_6_code
def yX9_signAt : MethodName := ⟨RX9, "signAt", "(I)I"⟩
abbrev cX9_nextToken : ByteArray := prog_11_method_7_code
def yX9_nextToken : MethodName := ⟨RX9, "nextToken", "()V"⟩
abbrev cX9_isWord : ByteArray := prog_11_method_8_code
def yX9_isWord : MethodName := ⟨RX9, "isWord", "(J)Z"⟩
abbrev cX9_isSign : ByteArray := prog_11_method_9_code
def yX9_isSign : MethodName := ⟨RX9, "isSign", "(I)Z"⟩
abbrev cX9_fails : ByteArray := prog_11_method_10_code
def yX9_fails : MethodName := ⟨RX9, "fails", "(I)Z"⟩
abbrev cX9_puts : ByteArray := prog_11_method_11_code
def yX9_puts : MethodName := ⟨RX9, "puts", "(I)V"⟩
abbrev cX9_fact : ByteArray := prog_11_method_12_code
def yX9_fact : MethodName := ⟨RX9, "fact", "()I"⟩
abbrev cX9_reads : ByteArray := prog_11_method_13_code
def yX9_reads : MethodName := ⟨RX9, "reads", "()Z"⟩
abbrev cX9_opens : ByteArray := prog_11_method_14_code
def yX9_opens : MethodName := ⟨RX9, "opens", "(I)V"⟩
abbrev cX9_sums : ByteArray := prog_11_method_15_code
def yX9_sums : MethodName := ⟨RX9, "sums", "(I)V"⟩
abbrev cX9_tests : ByteArray := prog_11_method_16_code
def yX9_tests : MethodName := ⟨RX9, "tests", "(I)V"⟩
abbrev cX9_worked : ByteArray := prog_11_method_17_code
def yX9_worked : MethodName := ⟨RX9, "worked", "(I)I"⟩
abbrev cX9_isKept : ByteArray := prog_11_method_18_code
def yX9_isKept : MethodName := ⟨RX9, "isKept", "()Z"⟩
abbrev cX9_callerNamed : ByteArray := prog_11_method_19_code
def yX9_callerNamed : MethodName := ⟨RX9, "callerNamed", "(I)I"⟩
abbrev cX9_needsNumber : ByteArray := prog_11_method_20_code
def yX9_needsNumber : MethodName := ⟨RX9, "needsNumber", "(II)Z"⟩
abbrev cX9_needsWord : ByteArray := prog_11_method_21_code
def yX9_needsWord : MethodName := ⟨RX9, "needsWord", "(J)Z"⟩
abbrev cX9_closes : ByteArray := prog_11_method_22_code
def yX9_closes : MethodName := ⟨RX9, "closes", "()Z"⟩
abbrev cX9_needsCaller : ByteArray := prog_11_method_23_code
def yX9_needsCaller : MethodName := ⟨RX9, "needsCaller", "()Z"⟩
abbrev cX9_readsKnows : ByteArray := prog_11_method_24_code
def yX9_readsKnows : MethodName := ⟨RX9, "readsKnows", "(I)Z"⟩
abbrev cX9_readsCaller : ByteArray := prog_11_method_25_code
def yX9_readsCaller : MethodName := ⟨RX9, "readsCaller", "()Z"⟩
abbrev cX9_readsTakes : ByteArray := prog_11_method_26_code
def yX9_readsTakes : MethodName := ⟨RX9, "readsTakes", "()Z"⟩
abbrev cX9_readsBelieves : ByteArray := prog_11_method_27_code
def yX9_readsBelieves : MethodName := ⟨RX9, "readsBelieves", "()Z"⟩
abbrev cX9_begins : ByteArray := prog_11_method_28_code
def yX9_begins : MethodName := ⟨RX9, "begins", "()V"⟩
abbrev cX9_readsAll : ByteArray := prog_11_method_29_code
def yX9_readsAll : MethodName := ⟨RX9, "readsAll", "()Z"⟩
abbrev cX9_shifts : ByteArray := prog_11_method_30_code
def yX9_shifts : MethodName := ⟨RX9, "shifts", "([II)V"⟩
abbrev cX9_lays : ByteArray := prog_11_method_31_code
def yX9_lays : MethodName := ⟨RX9, "lays", "()V"⟩
abbrev cX9_copies : ByteArray := prog_11_method_32_code
def yX9_copies : MethodName := ⟨RX9, "copies", "([II[II)V"⟩
abbrev cX9_readsLine : ByteArray := prog_11_method_33_code
def yX9_readsLine : MethodName := ⟨RX9, "readsLine", "()Z"⟩
abbrev cX9_laysLines : ByteArray := prog_11_method_34_code
def yX9_laysLines : MethodName := ⟨RX9, "laysLines", "(II)V"⟩
abbrev cX9_laysTale : ByteArray := prog_11_method_35_code
def yX9_laysTale : MethodName := ⟨RX9, "laysTale", "(II)V"⟩
abbrev cX9_fresh : ByteArray := prog_11_method_36_code
def yX9_fresh : MethodName := ⟨RX9, "fresh", "()V"⟩
abbrev cX9_forgets : ByteArray := prog_11_method_37_code
def yX9_forgets : MethodName := ⟨RX9, "forgets", "()V"⟩
abbrev cX9_office : ByteArray := prog_11_method_38_code
def yX9_office : MethodName := ⟨RX9, "office", "()I"⟩
abbrev cX9_day : ByteArray := prog_11_method_39_code
def yX9_day : MethodName := ⟨RX9, "day", "()I"⟩
abbrev cX9_isCaller : ByteArray := prog_11_method_40_code
def yX9_isCaller : MethodName := ⟨RX9, "isCaller", "(I)Z"⟩
abbrev cX9_placeOf : ByteArray := prog_11_method_41_code
def yX9_placeOf : MethodName := ⟨RX9, "placeOf", "(I)I"⟩
abbrev cX9_isSettled : ByteArray := prog_11_method_42_code
def yX9_isSettled : MethodName := ⟨RX9, "isSettled", "(I)Z"⟩
abbrev cX9_canRing : ByteArray := prog_11_method_43_code
def yX9_canRing : MethodName := ⟨RX9, "canRing", "(I)Z"⟩
abbrev cX9_rings : ByteArray := prog_11_method_44_code
def yX9_rings : MethodName := ⟨RX9, "rings", "(I)V"⟩
abbrev cX9_ends : ByteArray := prog_11_method_45_code
def yX9_ends : MethodName := ⟨RX9, "ends", "(I)V"⟩
abbrev cX9_swaps : ByteArray := prog_11_method_46_code
def yX9_swaps : MethodName := ⟨RX9, "swaps", "(II)V"⟩
abbrev cX9_onLine : ByteArray := prog_11_method_47_code
def yX9_onLine : MethodName := ⟨RX9, "onLine", "()I"⟩
abbrev cX9_believes : ByteArray := prog_11_method_48_code
def yX9_believes : MethodName := ⟨RX9, "believes", "(II)Z"⟩
abbrev cX9_tells : ByteArray := prog_11_method_49_code
def yX9_tells : MethodName := ⟨RX9, "tells", "(III)V"⟩
abbrev cX9_talks : ByteArray := prog_11_method_50_code
def yX9_talks : MethodName := ⟨RX9, "talks", "()V"⟩
abbrev cX9_isHelped : ByteArray := prog_11_method_51_code
def yX9_isHelped : MethodName := ⟨RX9, "isHelped", "(I)Z"⟩
abbrev cX9_settles : ByteArray := prog_11_method_52_code
def yX9_settles : MethodName := ⟨RX9, "settles", "(I)V"⟩
abbrev cX9_passes : ByteArray := prog_11_method_53_code
def yX9_passes : MethodName := ⟨RX9, "passes", "()I"⟩
abbrev cX9_allAnswers : ByteArray := prog_11_method_54_code
def yX9_allAnswers : MethodName := ⟨RX9, "allAnswers", "()I"⟩
abbrev cX9_caller : ByteArray := prog_11_method_55_code
def yX9_caller : MethodName := ⟨RX9, "caller", "(II)I"⟩
abbrev cX9_met : ByteArray := prog_11_method_56_code
def yX9_met : MethodName := ⟨RX9, "met", "(II)I"⟩
abbrev cX9_line : ByteArray := prog_11_method_57_code
def yX9_line : MethodName := ⟨RX9, "line", "(I)I"⟩
abbrev cX9_keeps : ByteArray := prog_11_method_58_code
def yX9_keeps : MethodName := ⟨RX9, "keeps", "()V"⟩
abbrev cX9_ring : ByteArray := prog_11_method_59_code
def yX9_ring : MethodName := ⟨RX9, "ring", "(I)I"⟩
abbrev cX9_off : ByteArray := prog_11_method_60_code
def yX9_off : MethodName := ⟨RX9, "off", "(I)Z"⟩
abbrev cX9_canSwap : ByteArray := prog_11_method_61_code
def yX9_canSwap : MethodName := ⟨RX9, "canSwap", "(II)Z"⟩
abbrev cX9_swap : ByteArray := prog_11_method_62_code
def yX9_swap : MethodName := ⟨RX9, "swap", "(II)Z"⟩
abbrev cX9_minute : ByteArray := prog_11_method_63_code
def yX9_minute : MethodName := ⟨RX9, "minute", "()I"⟩
abbrev cX9_undo : ByteArray := prog_11_method_64_code
def yX9_undo : MethodName := ⟨RX9, "undo", "()Z"⟩
abbrev cX9_goes : ByteArray := prog_11_method_65_code
def yX9_goes : MethodName := ⟨RX9, "goes", "(I)Z"⟩
abbrev cX9_judges : ByteArray := prog_11_method_66_code
def yX9_judges : MethodName := ⟨RX9, "judges", "(I)I"⟩
abbrev cX9_judged : ByteArray := prog_11_method_67_code
def yX9_judged : MethodName := ⟨RX9, "judged", "(I)I"⟩
abbrev cX9_other : ByteArray := prog_11_method_68_code
def yX9_other : MethodName := ⟨RX9, "other", "(I)I"⟩
abbrev cX9_goesOn : ByteArray := prog_11_method_69_code
def yX9_goesOn : MethodName := ⟨RX9, "goesOn", "()V"⟩
abbrev cX9_tries : ByteArray := prog_11_method_70_code
def yX9_tries : MethodName := ⟨RX9, "tries", "()V"⟩
abbrev cX9_next : ByteArray := prog_11_method_71_code
def yX9_next : MethodName := ⟨RX9, "next", "(I)I"⟩
abbrev cX9_when : ByteArray := prog_11_method_72_code
def yX9_when : MethodName := ⟨RX9, "when", "(I)I"⟩
abbrev cX9_empty : ByteArray := prog_11_method_73_code
def yX9_empty : MethodName := ⟨RX9, "empty", "()I"⟩
abbrev cX9_gone : ByteArray := prog_11_method_74_code
def yX9_gone : MethodName := ⟨RX9, "gone", "(I)I"⟩
abbrev cX9_holders : ByteArray := prog_11_method_75_code
def yX9_holders : MethodName := ⟨RX9, "holders", "(I)I"⟩
abbrev cX9_hears : ByteArray := prog_11_method_76_code
def yX9_hears : MethodName := ⟨RX9, "hears", "(II)I"⟩
abbrev cX9_meets : ByteArray := prog_11_method_77_code
def yX9_meets : MethodName := ⟨RX9, "meets", "(II)I"⟩
abbrev cX9_spread : ByteArray := prog_11_method_78_code
def yX9_spread : MethodName := ⟨RX9, "spread", "(I)I"⟩
abbrev cX9_mayRing : ByteArray := prog_11_method_79_code
def yX9_mayRing : MethodName := ⟨RX9, "mayRing", "()I"⟩
abbrev cX9_orders : ByteArray := prog_11_method_80_code
def yX9_orders : MethodName := ⟨RX9, "orders", "(II)V"⟩
abbrev cX9_order : ByteArray := prog_11_method_81_code
def yX9_order : MethodName := ⟨RX9, "order", "(I)I"⟩
abbrev cX9_settledBy : ByteArray := prog_11_method_82_code
def yX9_settledBy : MethodName := ⟨RX9, "settledBy", "(I)I"⟩
abbrev cX9_helpers : ByteArray := prog_11_method_83_code
def yX9_helpers : MethodName := ⟨RX9, "helpers", "(I)I"⟩
abbrev cX9_usual : ByteArray := prog_11_method_84_code
def yX9_usual : MethodName := ⟨RX9, "usual", "(I)I"⟩
abbrev cX9_lost : ByteArray := prog_11_method_85_code
def yX9_lost : MethodName := ⟨RX9, "lost", "()I"⟩
abbrev cX9_wisest : ByteArray := prog_11_method_86_code
def yX9_wisest : MethodName := ⟨RX9, "wisest", "()I"⟩
abbrev cX9_tell : ByteArray := prog_11_method_87_code
def yX9_tell : MethodName := ⟨RX9, "tell", "(IZ)Z"⟩
abbrev cX9_isAsTold : ByteArray := prog_11_method_88_code
def yX9_isAsTold : MethodName := ⟨RX9, "isAsTold", "(I)Z"⟩
abbrev cX9_laysSettled : ByteArray := prog_11_method_89_code
def yX9_laysSettled : MethodName := ⟨RX9, "laysSettled", "(I)V"⟩
abbrev cX9_sets : ByteArray := prog_11_method_90_code
def yX9_sets : MethodName := ⟨RX9, "sets", "(I)I"⟩
abbrev cX9_ask : ByteArray := prog_11_method_91_code
def yX9_ask : MethodName := ⟨RX9, "ask", "()I"⟩
abbrev cX9_shuffles : ByteArray := prog_11_method_92_code
def yX9_shuffles : MethodName := ⟨RX9, "shuffles", "(III)V"⟩
abbrev cX9_chance : ByteArray := prog_11_method_93_code
def yX9_chance : MethodName := ⟨RX9, "chance", "(I)I"⟩
abbrev cX9_deals : ByteArray := prog_11_method_94_code
def yX9_deals : MethodName := ⟨RX9, "deals", "(II)V"⟩
abbrev cX9_deal : ByteArray := prog_11_method_95_code
def yX9_deal : MethodName := ⟨RX9, "deal", "(I)I"⟩
abbrev cX9_getsBy : ByteArray := prog_11_method_96_code
def yX9_getsBy : MethodName := ⟨RX9, "getsBy", "(IIIII)I"⟩
abbrev cX9_rests : ByteArray := prog_11_method_97_code
def yX9_rests : MethodName := ⟨RX9, "rests", "(IIII)I"⟩
abbrev cX9_draws : ByteArray := prog_11_method_98_code
def yX9_draws : MethodName := ⟨RX9, "draws", "(I)I"⟩
abbrev cX9_livesMinute : ByteArray := prog_11_method_99_code
def yX9_livesMinute : MethodName := ⟨RX9, "livesMinute", "()I"⟩
abbrev cX9_days : ByteArray := prog_11_method_100_code
def yX9_days : MethodName := ⟨RX9, "days", "(III)I"⟩
abbrev cX9_mark : ByteArray := prog_11_method_101_code
def yX9_mark : MethodName := ⟨RX9, "mark", "(IZ)Z"⟩
abbrev cX9_toldMany : ByteArray := prog_11_method_102_code
def yX9_toldMany : MethodName := ⟨RX9, "toldMany", "()I"⟩
abbrev cX9_count : ByteArray := prog_11_method_103_code
def yX9_count : MethodName := ⟨RX9, "count", "(I)I"⟩
def RJ11 : String := "java/lang/Character"
def TJ11 : u_T := fun k => match k with
  | _ => ("", "", "", false)
def tyJ11 : Nat → FieldType := fun k => match k with
  | _ => .int
theorem nmJ11 : ∀ a, a < 0 → ∀ b, b < 0 → a ≠ b → (TJ11 a).2.1 ≠ (TJ11 b).2.1 := by decide +kernel
theorem tyJ11_ok : ∀ k, k < 0 → parseFieldDescriptor (TJ11 k).2.2.1 = some (tyJ11 k) := by decide +kernel
abbrev cJ11_isValidCodePoint_9a6ad : ByteArray := prog_14_method_11_code
def yJ11_isValidCodePoint_9a6ad : MethodName := ⟨RJ11, "isValidCodePoint", "(I)Z"⟩
abbrev cJ11_highSurrogate_5068e : ByteArray := prog_14_method_28_code
def yJ11_highSurrogate_5068e : MethodName := ⟨RJ11, "highSurrogate", "(I)C"⟩
abbrev cJ11_lowSurrogate_5068e : ByteArray := prog_14_method_29_code
def yJ11_lowSurrogate_5068e : MethodName := ⟨RJ11, "lowSurrogate", "(I)C"⟩
def RJ6 : String := "java/lang/Integer"
def TJ6 : u_T := fun k => match k with
  | _ => ("", "", "", false)
def tyJ6 : Nat → FieldType := fun k => match k with
  | _ => .int
theorem nmJ6 : ∀ a, a < 0 → ∀ b, b < 0 → a ≠ b → (TJ6 a).2.1 ≠ (TJ6 b).2.1 := by decide +kernel
theorem tyJ6_ok : ∀ k, k < 0 → parseFieldDescriptor (TJ6 k).2.2.1 = some (tyJ6 k) := by decide +kernel
abbrev cJ6_bitCount_0f7a4 : ByteArray := prog_17_method_49_code
def yJ6_bitCount_0f7a4 : MethodName := ⟨RJ6, "bitCount", "(I)I"⟩
def RJ9 : String := "java/lang/Math"
def TJ9 : u_T := fun k => match k with
  | _ => ("", "", "", false)
def tyJ9 : Nat → FieldType := fun k => match k with
  | _ => .int
theorem nmJ9 : ∀ a, a < 0 → ∀ b, b < 0 → a ≠ b → (TJ9 a).2.1 ≠ (TJ9 b).2.1 := by decide +kernel
theorem tyJ9_ok : ∀ k, k < 0 → parseFieldDescriptor (TJ9 k).2.2.1 = some (tyJ9 k) := by decide +kernel
abbrev cJ9_max_7cf53 : ByteArray := prog_18_method_65_code
def yJ9_max_7cf53 : MethodName := ⟨RJ9, "max", "(II)I"⟩
abbrev cJ9_min_7cf53 : ByteArray := prog_18_method_69_code
def yJ9_min_7cf53 : MethodName := ⟨RJ9, "min", "(II)I"⟩
def RJ0 : String := "java/lang/String"
def TJ0 : u_T := fun k => match k with
  | _ => ("", "", "", false)
def tyJ0 : Nat → FieldType := fun k => match k with
  | _ => .int
theorem nmJ0 : ∀ a, a < 0 → ∀ b, b < 0 → a ≠ b → (TJ0 a).2.1 ≠ (TJ0 b).2.1 := by decide +kernel
theorem tyJ0_ok : ∀ k, k < 0 → parseFieldDescriptor (TJ0 k).2.2.1 = some (tyJ0 k) := by decide +kernel
abbrev cJ0_length_8abf5 : ByteArray := prog_20_method_54_code
def yJ0_length_8abf5 : MethodName := ⟨RJ0, "length", "()I"⟩
abbrev cJ0_indexOf_0f7a4 : ByteArray := prog_20_method_79_code
def yJ0_indexOf_0f7a4 : MethodName := ⟨RJ0, "indexOf", "(I)I"⟩
abbrev cJ0_indexOf_7cf53 : ByteArray := prog_20_method_80_code
def yJ0_indexOf_7cf53 : MethodName := ⟨RJ0, "indexOf", "(II)I"⟩
abbrev cJ0_coder_7d493 : ByteArray := prog_20_method_152_code
def yJ0_coder_7d493 : MethodName := ⟨RJ0, "coder", "()B"⟩
abbrev cJ0_isLatin1_aae02 : ByteArray := prog_20_method_154_code
def yJ0_isLatin1_aae02 : MethodName := ⟨RJ0, "isLatin1", "()Z"⟩
abbrev cJ0_checkBoundsBeginEnd_23922 : ByteArray := prog_20_method_158_code
def yJ0_checkBoundsBeginEnd_23922 : MethodName := ⟨RJ0, "checkBoundsBeginEnd", "(III)V"⟩
def RJ1 : String := "java/lang/StringLatin1"
def TJ1 : u_T := fun k => match k with
  | _ => ("", "", "", false)
def tyJ1 : Nat → FieldType := fun k => match k with
  | _ => .int
theorem nmJ1 : ∀ a, a < 0 → ∀ b, b < 0 → a ≠ b → (TJ1 a).2.1 ≠ (TJ1 b).2.1 := by decide +kernel
theorem tyJ1_ok : ∀ k, k < 0 → parseFieldDescriptor (TJ1 k).2.2.1 = some (tyJ1 k) := by decide +kernel
abbrev cJ1_canEncode_9a6ad : ByteArray := prog_21_method_4_code
def yJ1_canEncode_9a6ad : MethodName := ⟨RJ1, "canEncode", "(I)Z"⟩
abbrev cJ1_indexOf_4cfef : ByteArray := prog_21_method_22_code
def yJ1_indexOf_4cfef : MethodName := ⟨RJ1, "indexOf", "([BIII)I"⟩
abbrev cJ1_indexOfChar_4cfef : ByteArray := prog_21_method_23_code
def yJ1_indexOfChar_4cfef : MethodName := ⟨RJ1, "indexOfChar", "([BIII)I"⟩
def RJ2 : String := "java/lang/StringUTF16"
def TJ2 : u_T := fun k => match k with
  | _ => ("", "", "", false)
def tyJ2 : Nat → FieldType := fun k => match k with
  | _ => .int
theorem nmJ2 : ∀ a, a < 0 → ∀ b, b < 0 → a ≠ b → (TJ2 a).2.1 ≠ (TJ2 b).2.1 := by decide +kernel
theorem tyJ2_ok : ∀ k, k < 0 → parseFieldDescriptor (TJ2 k).2.2.1 = some (tyJ2 k) := by decide +kernel
abbrev cJ2_getChar_3b067 : ByteArray := prog_22_method_5_code
def yJ2_getChar_3b067 : MethodName := ⟨RJ2, "getChar", "([BI)C"⟩
abbrev cJ2_length_9d52b : ByteArray := prog_22_method_6_code
def yJ2_length_9d52b : MethodName := ⟨RJ2, "length", "([B)I"⟩
abbrev cJ2_indexOf_4cfef : ByteArray := prog_22_method_40_code
def yJ2_indexOf_4cfef : MethodName := ⟨RJ2, "indexOf", "([BIII)I"⟩
abbrev cJ2_indexOfChar_4cfef : ByteArray := prog_22_method_47_code
def yJ2_indexOfChar_4cfef : MethodName := ⟨RJ2, "indexOfChar", "([BIII)I"⟩
abbrev cJ2_indexOfCharUnsafe_4cfef : ByteArray := prog_22_method_48_code
def yJ2_indexOfCharUnsafe_4cfef : MethodName := ⟨RJ2, "indexOfCharUnsafe", "([BIII)I"⟩
abbrev cJ2_indexOfSupplementary_4cfef : ByteArray := prog_22_method_49_code
def yJ2_indexOfSupplementary_4cfef : MethodName := ⟨RJ2, "indexOfSupplementary", "([BIII)I"⟩
abbrev cJ2_checkBoundsBeginEnd_d044e : ByteArray := prog_22_method_93_code
def yJ2_checkBoundsBeginEnd_d044e : MethodName := ⟨RJ2, "checkBoundsBeginEnd", "(II[B)V"⟩
def RJ10 : String := "java/lang/System"
def TJ10 : u_T := fun k => match k with
  | _ => ("", "", "", false)
def tyJ10 : Nat → FieldType := fun k => match k with
  | _ => .int
theorem nmJ10 : ∀ a, a < 0 → ∀ b, b < 0 → a ≠ b → (TJ10 a).2.1 ≠ (TJ10 b).2.1 := by decide +kernel
theorem tyJ10_ok : ∀ k, k < 0 → parseFieldDescriptor (TJ10 k).2.2.1 = some (tyJ10 k) := by decide +kernel
def RJ3 : String := "jdk/internal/util/Preconditions"
def TJ3 : u_T := fun k => match k with
  | _ => ("", "", "", false)
def tyJ3 : Nat → FieldType := fun k => match k with
  | _ => .int
theorem nmJ3 : ∀ a, a < 0 → ∀ b, b < 0 → a ≠ b → (TJ3 a).2.1 ≠ (TJ3 b).2.1 := by decide +kernel
theorem tyJ3_ok : ∀ k, k < 0 → parseFieldDescriptor (TJ3 k).2.2.1 = some (tyJ3 k) := by decide +kernel
abbrev cJ3_checkFromToIndex_8c36e : ByteArray := prog_28_method_12_code
def yJ3_checkFromToIndex_8c36e : MethodName := ⟨RJ3, "checkFromToIndex", "(IIILjava/util/function/BiFunction;)I"⟩
def RL : String := "HeldMusicLaw"
abbrev cL_rests : ByteArray := method_3_code
def yL_rests : MethodName := ⟨RL, "rests", "(LHeldMusic;IIII[J)I"⟩
abbrev cL_law : ByteArray := code
def yL_law : MethodName := ⟨RL, "law", "([I)Z"⟩
abbrev vwCl : List vw_C := [(RX0, TX0, 8), (RX1, TX1, 8), (RX2, TX2, 3), (RX3, TX3, 5), (RX4, TX4, 4), (RX5, TX5, 5), (RX6, TX6, 5), (RX7, TX7, 6), (RX8, TX8, 16), (RX9, TX9, 60)]
