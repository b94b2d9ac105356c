section
-- ===== PART A: goes FIRST, ahead of the names: the tables' words, and 'selects' of the private methods out of them =====
/-- a private method of a class that the tables say can be made, by its rows of tables_1 -/
def lw_okq (q : MethodName × Nat) : Prop := (q.1.cls ≠ "java/lang/invoke/MethodHandle" ∧ q.1.cls ≠ "java/lang/invoke/VarHandle") ∧ Cond.instantiable q.1.cls q.2 ∈ tables_1 ∧ Cond.privateMethod q.1 ∈ tables_1 ∧ Cond.instanceMethod q.1 ∈ tables_1
theorem lw_p0 : lw_okq (⟨"UpwardGrants", "beginAnew", "()V"⟩, 13) := ⟨⟨by decide +kernel, by decide +kernel⟩, List.mem_of_getElem? (i := 14) (by decide +kernel), List.mem_of_getElem? (i := 286) (by decide +kernel), List.mem_of_getElem? (i := 287) (by decide +kernel)⟩
theorem lw_p1 : lw_okq (⟨"UpwardGrants$Text", "nextToken", "()V"⟩, 6) := ⟨⟨by decide +kernel, by decide +kernel⟩, List.mem_of_getElem? (i := 22) (by decide +kernel), List.mem_of_getElem? (i := 365) (by decide +kernel), List.mem_of_getElem? (i := 366) (by decide +kernel)⟩
theorem lw_p2 : lw_okq (⟨"UpwardGrants$Text", "letterAt", "(I)C"⟩, 6) := ⟨⟨by decide +kernel, by decide +kernel⟩, List.mem_of_getElem? (i := 22) (by decide +kernel), List.mem_of_getElem? (i := 369) (by decide +kernel), List.mem_of_getElem? (i := 370) (by decide +kernel)⟩
theorem lw_p3 : lw_okq (⟨"UpwardGrants$Text", "nextNumber", "()V"⟩, 6) := ⟨⟨by decide +kernel, by decide +kernel⟩, List.mem_of_getElem? (i := 22) (by decide +kernel), List.mem_of_getElem? (i := 376) (by decide +kernel), List.mem_of_getElem? (i := 377) (by decide +kernel)⟩
theorem lw_p4 : lw_okq (⟨"UpwardGrants$Text", "readTerminal", "(LUpwardGrants$Setup;)Z"⟩, 6) := ⟨⟨by decide +kernel, by decide +kernel⟩, List.mem_of_getElem? (i := 22) (by decide +kernel), List.mem_of_getElem? (i := 386) (by decide +kernel), List.mem_of_getElem? (i := 387) (by decide +kernel)⟩
theorem lw_p5 : lw_okq (⟨"UpwardGrants$Text", "readNumber", "(II)Z"⟩, 6) := ⟨⟨by decide +kernel, by decide +kernel⟩, List.mem_of_getElem? (i := 22) (by decide +kernel), List.mem_of_getElem? (i := 390) (by decide +kernel), List.mem_of_getElem? (i := 391) (by decide +kernel)⟩
theorem lw_p6 : lw_okq (⟨"UpwardGrants$Text", "readClass", "(LUpwardGrants$Setup;)Z"⟩, 6) := ⟨⟨by decide +kernel, by decide +kernel⟩, List.mem_of_getElem? (i := 22) (by decide +kernel), List.mem_of_getElem? (i := 394) (by decide +kernel), List.mem_of_getElem? (i := 395) (by decide +kernel)⟩
theorem lw_p7 : lw_okq (⟨"UpwardGrants$Text", "readRoom", "(LUpwardGrants$Setup;)Z"⟩, 6) := ⟨⟨by decide +kernel, by decide +kernel⟩, List.mem_of_getElem? (i := 22) (by decide +kernel), List.mem_of_getElem? (i := 398) (by decide +kernel), List.mem_of_getElem? (i := 399) (by decide +kernel)⟩
theorem lw_p8 : lw_okq (⟨"UpwardGrants$Text", "readBan", "(LUpwardGrants$Setup;)Z"⟩, 6) := ⟨⟨by decide +kernel, by decide +kernel⟩, List.mem_of_getElem? (i := 22) (by decide +kernel), List.mem_of_getElem? (i := 402) (by decide +kernel), List.mem_of_getElem? (i := 403) (by decide +kernel)⟩
theorem lw_p9 : lw_okq (⟨"UpwardGrants$Text", "readBackAndTries", "(LUpwardGrants$Setup;)Z"⟩, 6) := ⟨⟨by decide +kernel, by decide +kernel⟩, List.mem_of_getElem? (i := 22) (by decide +kernel), List.mem_of_getElem? (i := 406) (by decide +kernel), List.mem_of_getElem? (i := 407) (by decide +kernel)⟩
theorem lw_p10 : lw_okq (⟨"UpwardGrants$Text", "readEnd", "()Z"⟩, 6) := ⟨⟨by decide +kernel, by decide +kernel⟩, List.mem_of_getElem? (i := 22) (by decide +kernel), List.mem_of_getElem? (i := 410) (by decide +kernel), List.mem_of_getElem? (i := 411) (by decide +kernel)⟩
theorem lw_p11 : lw_okq (⟨"UpwardGrants", "hasClass", "(I)Z"⟩, 13) := ⟨⟨by decide +kernel, by decide +kernel⟩, List.mem_of_getElem? (i := 14) (by decide +kernel), List.mem_of_getElem? (i := 429) (by decide +kernel), List.mem_of_getElem? (i := 430) (by decide +kernel)⟩
theorem lw_p12 : lw_okq (⟨"UpwardGrants$History", "rowAt", "(I)LUpwardGrants$State;"⟩, 3) := ⟨⟨by decide +kernel, by decide +kernel⟩, List.mem_of_getElem? (i := 249) (by decide +kernel), List.mem_of_getElem? (i := 437) (by decide +kernel), List.mem_of_getElem? (i := 438) (by decide +kernel)⟩
theorem lw_p13 : lw_okq (⟨"UpwardGrants$Station", "waitsUpTo", "(I)Z"⟩, 3) := ⟨⟨by decide +kernel, by decide +kernel⟩, List.mem_of_getElem? (i := 233) (by decide +kernel), List.mem_of_getElem? (i := 458) (by decide +kernel), List.mem_of_getElem? (i := 459) (by decide +kernel)⟩
theorem lw_p14 : lw_okq (⟨"UpwardGrants$Station", "gainTokens", "()V"⟩, 3) := ⟨⟨by decide +kernel, by decide +kernel⟩, List.mem_of_getElem? (i := 233) (by decide +kernel), List.mem_of_getElem? (i := 478) (by decide +kernel), List.mem_of_getElem? (i := 479) (by decide +kernel)⟩
theorem lw_p15 : lw_okq (⟨"UpwardGrants$Station", "askInPlaces", "()V"⟩, 3) := ⟨⟨by decide +kernel, by decide +kernel⟩, List.mem_of_getElem? (i := 233) (by decide +kernel), List.mem_of_getElem? (i := 483) (by decide +kernel), List.mem_of_getElem? (i := 484) (by decide +kernel)⟩
def lw_privs_1 : List (MethodName × Nat) := [(⟨"UpwardGrants", "beginAnew", "()V"⟩, 13), (⟨"UpwardGrants$Text", "nextToken", "()V"⟩, 6), (⟨"UpwardGrants$Text", "letterAt", "(I)C"⟩, 6), (⟨"UpwardGrants$Text", "nextNumber", "()V"⟩, 6), (⟨"UpwardGrants$Text", "readTerminal", "(LUpwardGrants$Setup;)Z"⟩, 6), (⟨"UpwardGrants$Text", "readNumber", "(II)Z"⟩, 6), (⟨"UpwardGrants$Text", "readClass", "(LUpwardGrants$Setup;)Z"⟩, 6), (⟨"UpwardGrants$Text", "readRoom", "(LUpwardGrants$Setup;)Z"⟩, 6), (⟨"UpwardGrants$Text", "readBan", "(LUpwardGrants$Setup;)Z"⟩, 6), (⟨"UpwardGrants$Text", "readBackAndTries", "(LUpwardGrants$Setup;)Z"⟩, 6), (⟨"UpwardGrants$Text", "readEnd", "()Z"⟩, 6), (⟨"UpwardGrants", "hasClass", "(I)Z"⟩, 13), (⟨"UpwardGrants$History", "rowAt", "(I)LUpwardGrants$State;"⟩, 3), (⟨"UpwardGrants$Station", "waitsUpTo", "(I)Z"⟩, 3), (⟨"UpwardGrants$Station", "gainTokens", "()V"⟩, 3), (⟨"UpwardGrants$Station", "askInPlaces", "()V"⟩, 3)]
theorem lw_r1 : ∀ q ∈ lw_privs_1, lw_okq q := List.forall_mem_cons.mpr ⟨lw_p0, List.forall_mem_cons.mpr ⟨lw_p1, List.forall_mem_cons.mpr ⟨lw_p2, List.forall_mem_cons.mpr ⟨lw_p3, List.forall_mem_cons.mpr ⟨lw_p4, List.forall_mem_cons.mpr ⟨lw_p5, List.forall_mem_cons.mpr ⟨lw_p6, List.forall_mem_cons.mpr ⟨lw_p7, List.forall_mem_cons.mpr ⟨lw_p8, List.forall_mem_cons.mpr ⟨lw_p9, List.forall_mem_cons.mpr ⟨lw_p10, List.forall_mem_cons.mpr ⟨lw_p11, List.forall_mem_cons.mpr ⟨lw_p12, List.forall_mem_cons.mpr ⟨lw_p13, List.forall_mem_cons.mpr ⟨lw_p14, List.forall_mem_cons.mpr ⟨lw_p15, fun _ h => absurd h List.not_mem_nil⟩⟩⟩⟩⟩⟩⟩⟩⟩⟩⟩⟩⟩⟩⟩⟩
theorem lw_p16 : lw_okq (⟨"UpwardGrants$Station", "sendAgain", "()V"⟩, 3) := ⟨⟨by decide +kernel, by decide +kernel⟩, List.mem_of_getElem? (i := 233) (by decide +kernel), List.mem_of_getElem? (i := 491) (by decide +kernel), List.mem_of_getElem? (i := 492) (by decide +kernel)⟩
theorem lw_p17 : lw_okq (⟨"UpwardGrants$Station", "send", "(II)V"⟩, 3) := ⟨⟨by decide +kernel, by decide +kernel⟩, List.mem_of_getElem? (i := 233) (by decide +kernel), List.mem_of_getElem? (i := 514) (by decide +kernel), List.mem_of_getElem? (i := 515) (by decide +kernel)⟩
theorem lw_p18 : lw_okq (⟨"UpwardGrants$Station", "giveGrants", "()V"⟩, 3) := ⟨⟨by decide +kernel, by decide +kernel⟩, List.mem_of_getElem? (i := 233) (by decide +kernel), List.mem_of_getElem? (i := 540) (by decide +kernel), List.mem_of_getElem? (i := 541) (by decide +kernel)⟩
theorem lw_p19 : lw_okq (⟨"UpwardGrants$Station", "takeGrant", "(I)I"⟩, 3) := ⟨⟨by decide +kernel, by decide +kernel⟩, List.mem_of_getElem? (i := 233) (by decide +kernel), List.mem_of_getElem? (i := 544) (by decide +kernel), List.mem_of_getElem? (i := 545) (by decide +kernel)⟩
theorem lw_p20 : lw_okq (⟨"UpwardGrants$Station", "pack", "(II)V"⟩, 3) := ⟨⟨by decide +kernel, by decide +kernel⟩, List.mem_of_getElem? (i := 233) (by decide +kernel), List.mem_of_getElem? (i := 548) (by decide +kernel), List.mem_of_getElem? (i := 549) (by decide +kernel)⟩
theorem lw_p21 : lw_okq (⟨"UpwardGrants$Station", "packLetters", "(IIIZ)I"⟩, 3) := ⟨⟨by decide +kernel, by decide +kernel⟩, List.mem_of_getElem? (i := 233) (by decide +kernel), List.mem_of_getElem? (i := 556) (by decide +kernel), List.mem_of_getElem? (i := 557) (by decide +kernel)⟩
theorem lw_p22 : lw_okq (⟨"UpwardGrants$Blocks", "move", "(II)V"⟩, 6) := ⟨⟨by decide +kernel, by decide +kernel⟩, List.mem_of_getElem? (i := 131) (by decide +kernel), List.mem_of_getElem? (i := 576) (by decide +kernel), List.mem_of_getElem? (i := 577) (by decide +kernel)⟩
theorem lw_p23 : lw_okq (⟨"UpwardGrants", "hasTerminal", "(I)Z"⟩, 13) := ⟨⟨by decide +kernel, by decide +kernel⟩, List.mem_of_getElem? (i := 14) (by decide +kernel), List.mem_of_getElem? (i := 584) (by decide +kernel), List.mem_of_getElem? (i := 585) (by decide +kernel)⟩
theorem lw_p24 : lw_okq (⟨"UpwardGrants$Blocks", "isEarlier", "(II)Z"⟩, 6) := ⟨⟨by decide +kernel, by decide +kernel⟩, List.mem_of_getElem? (i := 131) (by decide +kernel), List.mem_of_getElem? (i := 635) (by decide +kernel), List.mem_of_getElem? (i := 636) (by decide +kernel)⟩
theorem lw_p25 : lw_okq (⟨"UpwardGrants", "explainsAllSeen", "(I)Z"⟩, 13) := ⟨⟨by decide +kernel, by decide +kernel⟩, List.mem_of_getElem? (i := 14) (by decide +kernel), List.mem_of_getElem? (i := 683) (by decide +kernel), List.mem_of_getElem? (i := 684) (by decide +kernel)⟩
theorem lw_p26 : lw_okq (⟨"UpwardGrants", "imageAt", "(I)LUpwardGrants$Image;"⟩, 13) := ⟨⟨by decide +kernel, by decide +kernel⟩, List.mem_of_getElem? (i := 14) (by decide +kernel), List.mem_of_getElem? (i := 691) (by decide +kernel), List.mem_of_getElem? (i := 692) (by decide +kernel)⟩
theorem lw_p27 : lw_okq (⟨"UpwardGrantsModel", "begins", "()V"⟩, 32) := ⟨⟨by decide +kernel, by decide +kernel⟩, List.mem_of_getElem? (i := 708) (by decide +kernel), List.mem_of_getElem? (i := 714) (by decide +kernel), List.mem_of_getElem? (i := 715) (by decide +kernel)⟩
theorem lw_p28 : lw_okq (⟨"UpwardGrantsModel", "becomes", "()V"⟩, 32) := ⟨⟨by decide +kernel, by decide +kernel⟩, List.mem_of_getElem? (i := 708) (by decide +kernel), List.mem_of_getElem? (i := 718) (by decide +kernel), List.mem_of_getElem? (i := 719) (by decide +kernel)⟩
theorem lw_p29 : lw_okq (⟨"UpwardGrantsModel", "takes", "()V"⟩, 32) := ⟨⟨by decide +kernel, by decide +kernel⟩, List.mem_of_getElem? (i := 708) (by decide +kernel), List.mem_of_getElem? (i := 835) (by decide +kernel), List.mem_of_getElem? (i := 836) (by decide +kernel)⟩
theorem lw_p30 : lw_okq (⟨"UpwardGrantsModel", "isFigure", "(I)Z"⟩, 32) := ⟨⟨by decide +kernel, by decide +kernel⟩, List.mem_of_getElem? (i := 708) (by decide +kernel), List.mem_of_getElem? (i := 839) (by decide +kernel), List.mem_of_getElem? (i := 840) (by decide +kernel)⟩
theorem lw_p31 : lw_okq (⟨"UpwardGrantsModel", "item", "()Z"⟩, 32) := ⟨⟨by decide +kernel, by decide +kernel⟩, List.mem_of_getElem? (i := 708) (by decide +kernel), List.mem_of_getElem? (i := 843) (by decide +kernel), List.mem_of_getElem? (i := 844) (by decide +kernel)⟩
def lw_privs_2 : List (MethodName × Nat) := [(⟨"UpwardGrants$Station", "sendAgain", "()V"⟩, 3), (⟨"UpwardGrants$Station", "send", "(II)V"⟩, 3), (⟨"UpwardGrants$Station", "giveGrants", "()V"⟩, 3), (⟨"UpwardGrants$Station", "takeGrant", "(I)I"⟩, 3), (⟨"UpwardGrants$Station", "pack", "(II)V"⟩, 3), (⟨"UpwardGrants$Station", "packLetters", "(IIIZ)I"⟩, 3), (⟨"UpwardGrants$Blocks", "move", "(II)V"⟩, 6), (⟨"UpwardGrants", "hasTerminal", "(I)Z"⟩, 13), (⟨"UpwardGrants$Blocks", "isEarlier", "(II)Z"⟩, 6), (⟨"UpwardGrants", "explainsAllSeen", "(I)Z"⟩, 13), (⟨"UpwardGrants", "imageAt", "(I)LUpwardGrants$Image;"⟩, 13), (⟨"UpwardGrantsModel", "begins", "()V"⟩, 32), (⟨"UpwardGrantsModel", "becomes", "()V"⟩, 32), (⟨"UpwardGrantsModel", "takes", "()V"⟩, 32), (⟨"UpwardGrantsModel", "isFigure", "(I)Z"⟩, 32), (⟨"UpwardGrantsModel", "item", "()Z"⟩, 32)]
theorem lw_r2 : ∀ q ∈ lw_privs_2, lw_okq q := List.forall_mem_cons.mpr ⟨lw_p16, List.forall_mem_cons.mpr ⟨lw_p17, List.forall_mem_cons.mpr ⟨lw_p18, List.forall_mem_cons.mpr ⟨lw_p19, List.forall_mem_cons.mpr ⟨lw_p20, List.forall_mem_cons.mpr ⟨lw_p21, List.forall_mem_cons.mpr ⟨lw_p22, List.forall_mem_cons.mpr ⟨lw_p23, List.forall_mem_cons.mpr ⟨lw_p24, List.forall_mem_cons.mpr ⟨lw_p25, List.forall_mem_cons.mpr ⟨lw_p26, List.forall_mem_cons.mpr ⟨lw_p27, List.forall_mem_cons.mpr ⟨lw_p28, List.forall_mem_cons.mpr ⟨lw_p29, List.forall_mem_cons.mpr ⟨lw_p30, List.forall_mem_cons.mpr ⟨lw_p31, fun _ h => absurd h List.not_mem_nil⟩⟩⟩⟩⟩⟩⟩⟩⟩⟩⟩⟩⟩⟩⟩⟩
theorem lw_p32 : lw_okq (⟨"UpwardGrantsModel", "readsTerminal", "()Z"⟩, 32) := ⟨⟨by decide +kernel, by decide +kernel⟩, List.mem_of_getElem? (i := 708) (by decide +kernel), List.mem_of_getElem? (i := 847) (by decide +kernel), List.mem_of_getElem? (i := 848) (by decide +kernel)⟩
theorem lw_p33 : lw_okq (⟨"UpwardGrantsModel", "reads", "(II)Z"⟩, 32) := ⟨⟨by decide +kernel, by decide +kernel⟩, List.mem_of_getElem? (i := 708) (by decide +kernel), List.mem_of_getElem? (i := 851) (by decide +kernel), List.mem_of_getElem? (i := 852) (by decide +kernel)⟩
theorem lw_p34 : lw_okq (⟨"UpwardGrantsModel", "readsClass", "()Z"⟩, 32) := ⟨⟨by decide +kernel, by decide +kernel⟩, List.mem_of_getElem? (i := 708) (by decide +kernel), List.mem_of_getElem? (i := 855) (by decide +kernel), List.mem_of_getElem? (i := 856) (by decide +kernel)⟩
theorem lw_p35 : lw_okq (⟨"UpwardGrantsModel", "readsOne", "(II)Z"⟩, 32) := ⟨⟨by decide +kernel, by decide +kernel⟩, List.mem_of_getElem? (i := 708) (by decide +kernel), List.mem_of_getElem? (i := 859) (by decide +kernel), List.mem_of_getElem? (i := 860) (by decide +kernel)⟩
theorem lw_p36 : lw_okq (⟨"UpwardGrantsModel", "isClass", "(I)Z"⟩, 32) := ⟨⟨by decide +kernel, by decide +kernel⟩, List.mem_of_getElem? (i := 708) (by decide +kernel), List.mem_of_getElem? (i := 867) (by decide +kernel), List.mem_of_getElem? (i := 868) (by decide +kernel)⟩
theorem lw_p37 : lw_okq (⟨"UpwardGrantsModel", "notes", "()V"⟩, 32) := ⟨⟨by decide +kernel, by decide +kernel⟩, List.mem_of_getElem? (i := 708) (by decide +kernel), List.mem_of_getElem? (i := 874) (by decide +kernel), List.mem_of_getElem? (i := 875) (by decide +kernel)⟩
theorem lw_p38 : lw_okq (⟨"UpwardGrantsModel", "copies", "([I[III)V"⟩, 32) := ⟨⟨by decide +kernel, by decide +kernel⟩, List.mem_of_getElem? (i := 708) (by decide +kernel), List.mem_of_getElem? (i := 878) (by decide +kernel), List.mem_of_getElem? (i := 879) (by decide +kernel)⟩
theorem lw_p39 : lw_okq (⟨"UpwardGrantsModel", "isAhead", "(II)Z"⟩, 32) := ⟨⟨by decide +kernel, by decide +kernel⟩, List.mem_of_getElem? (i := 708) (by decide +kernel), List.mem_of_getElem? (i := 882) (by decide +kernel), List.mem_of_getElem? (i := 883) (by decide +kernel)⟩
theorem lw_p40 : lw_okq (⟨"UpwardGrantsModel", "step", "()V"⟩, 32) := ⟨⟨by decide +kernel, by decide +kernel⟩, List.mem_of_getElem? (i := 708) (by decide +kernel), List.mem_of_getElem? (i := 893) (by decide +kernel), List.mem_of_getElem? (i := 894) (by decide +kernel)⟩
theorem lw_p41 : lw_okq (⟨"UpwardGrantsModel", "asks", "(I)V"⟩, 32) := ⟨⟨by decide +kernel, by decide +kernel⟩, List.mem_of_getElem? (i := 708) (by decide +kernel), List.mem_of_getElem? (i := 900) (by decide +kernel), List.mem_of_getElem? (i := 901) (by decide +kernel)⟩
theorem lw_p42 : lw_okq (⟨"UpwardGrantsModel", "sendsAgain", "()I"⟩, 32) := ⟨⟨by decide +kernel, by decide +kernel⟩, List.mem_of_getElem? (i := 708) (by decide +kernel), List.mem_of_getElem? (i := 904) (by decide +kernel), List.mem_of_getElem? (i := 905) (by decide +kernel)⟩
theorem lw_p43 : lw_okq (⟨"UpwardGrantsModel", "inBlock", "(I)I"⟩, 32) := ⟨⟨by decide +kernel, by decide +kernel⟩, List.mem_of_getElem? (i := 708) (by decide +kernel), List.mem_of_getElem? (i := 911) (by decide +kernel), List.mem_of_getElem? (i := 912) (by decide +kernel)⟩
theorem lw_p44 : lw_okq (⟨"UpwardGrantsModel", "lettersIn", "(I)I"⟩, 32) := ⟨⟨by decide +kernel, by decide +kernel⟩, List.mem_of_getElem? (i := 708) (by decide +kernel), List.mem_of_getElem? (i := 915) (by decide +kernel), List.mem_of_getElem? (i := 916) (by decide +kernel)⟩
theorem lw_p45 : lw_okq (⟨"UpwardGrantsModel", "sends", "(I)V"⟩, 32) := ⟨⟨by decide +kernel, by decide +kernel⟩, List.mem_of_getElem? (i := 708) (by decide +kernel), List.mem_of_getElem? (i := 919) (by decide +kernel), List.mem_of_getElem? (i := 920) (by decide +kernel)⟩
theorem lw_p46 : lw_okq (⟨"UpwardGrantsModel", "isDeaf", "(II)Z"⟩, 32) := ⟨⟨by decide +kernel, by decide +kernel⟩, List.mem_of_getElem? (i := 708) (by decide +kernel), List.mem_of_getElem? (i := 923) (by decide +kernel), List.mem_of_getElem? (i := 924) (by decide +kernel)⟩
theorem lw_p47 : lw_okq (⟨"UpwardGrantsModel", "clearsGone", "()V"⟩, 32) := ⟨⟨by decide +kernel, by decide +kernel⟩, List.mem_of_getElem? (i := 708) (by decide +kernel), List.mem_of_getElem? (i := 927) (by decide +kernel), List.mem_of_getElem? (i := 928) (by decide +kernel)⟩
def lw_privs_3 : List (MethodName × Nat) := [(⟨"UpwardGrantsModel", "readsTerminal", "()Z"⟩, 32), (⟨"UpwardGrantsModel", "reads", "(II)Z"⟩, 32), (⟨"UpwardGrantsModel", "readsClass", "()Z"⟩, 32), (⟨"UpwardGrantsModel", "readsOne", "(II)Z"⟩, 32), (⟨"UpwardGrantsModel", "isClass", "(I)Z"⟩, 32), (⟨"UpwardGrantsModel", "notes", "()V"⟩, 32), (⟨"UpwardGrantsModel", "copies", "([I[III)V"⟩, 32), (⟨"UpwardGrantsModel", "isAhead", "(II)Z"⟩, 32), (⟨"UpwardGrantsModel", "step", "()V"⟩, 32), (⟨"UpwardGrantsModel", "asks", "(I)V"⟩, 32), (⟨"UpwardGrantsModel", "sendsAgain", "()I"⟩, 32), (⟨"UpwardGrantsModel", "inBlock", "(I)I"⟩, 32), (⟨"UpwardGrantsModel", "lettersIn", "(I)I"⟩, 32), (⟨"UpwardGrantsModel", "sends", "(I)V"⟩, 32), (⟨"UpwardGrantsModel", "isDeaf", "(II)Z"⟩, 32), (⟨"UpwardGrantsModel", "clearsGone", "()V"⟩, 32)]
theorem lw_r3 : ∀ q ∈ lw_privs_3, lw_okq q := List.forall_mem_cons.mpr ⟨lw_p32, List.forall_mem_cons.mpr ⟨lw_p33, List.forall_mem_cons.mpr ⟨lw_p34, List.forall_mem_cons.mpr ⟨lw_p35, List.forall_mem_cons.mpr ⟨lw_p36, List.forall_mem_cons.mpr ⟨lw_p37, List.forall_mem_cons.mpr ⟨lw_p38, List.forall_mem_cons.mpr ⟨lw_p39, List.forall_mem_cons.mpr ⟨lw_p40, List.forall_mem_cons.mpr ⟨lw_p41, List.forall_mem_cons.mpr ⟨lw_p42, List.forall_mem_cons.mpr ⟨lw_p43, List.forall_mem_cons.mpr ⟨lw_p44, List.forall_mem_cons.mpr ⟨lw_p45, List.forall_mem_cons.mpr ⟨lw_p46, List.forall_mem_cons.mpr ⟨lw_p47, fun _ h => absurd h List.not_mem_nil⟩⟩⟩⟩⟩⟩⟩⟩⟩⟩⟩⟩⟩⟩⟩⟩
theorem lw_p48 : lw_okq (⟨"UpwardGrantsModel", "grants", "(I)V"⟩, 32) := ⟨⟨by decide +kernel, by decide +kernel⟩, List.mem_of_getElem? (i := 708) (by decide +kernel), List.mem_of_getElem? (i := 931) (by decide +kernel), List.mem_of_getElem? (i := 932) (by decide +kernel)⟩
theorem lw_p49 : lw_okq (⟨"UpwardGrantsModel", "packs", "(II)V"⟩, 32) := ⟨⟨by decide +kernel, by decide +kernel⟩, List.mem_of_getElem? (i := 708) (by decide +kernel), List.mem_of_getElem? (i := 935) (by decide +kernel), List.mem_of_getElem? (i := 936) (by decide +kernel)⟩
theorem lw_p50 : lw_okq (⟨"UpwardGrantsModel", "fills", "(IIIZ)I"⟩, 32) := ⟨⟨by decide +kernel, by decide +kernel⟩, List.mem_of_getElem? (i := 708) (by decide +kernel), List.mem_of_getElem? (i := 939) (by decide +kernel), List.mem_of_getElem? (i := 940) (by decide +kernel)⟩
theorem lw_p51 : lw_okq (⟨"UpwardGrantsModel", "classAt", "(II)I"⟩, 32) := ⟨⟨by decide +kernel, by decide +kernel⟩, List.mem_of_getElem? (i := 708) (by decide +kernel), List.mem_of_getElem? (i := 943) (by decide +kernel), List.mem_of_getElem? (i := 944) (by decide +kernel)⟩
theorem lw_p52 : lw_okq (⟨"UpwardGrantsModel", "waitsOf", "(I)I"⟩, 32) := ⟨⟨by decide +kernel, by decide +kernel⟩, List.mem_of_getElem? (i := 708) (by decide +kernel), List.mem_of_getElem? (i := 947) (by decide +kernel), List.mem_of_getElem? (i := 948) (by decide +kernel)⟩
theorem lw_p53 : lw_okq (⟨"UpwardGrantsModel", "isTerminal", "(I)Z"⟩, 32) := ⟨⟨by decide +kernel, by decide +kernel⟩, List.mem_of_getElem? (i := 708) (by decide +kernel), List.mem_of_getElem? (i := 955) (by decide +kernel), List.mem_of_getElem? (i := 956) (by decide +kernel)⟩
theorem lw_p54 : lw_okq (⟨"UpwardGrantsModel", "deafen", "(III)I"⟩, 32) := ⟨⟨by decide +kernel, by decide +kernel⟩, List.mem_of_getElem? (i := 708) (by decide +kernel), List.mem_of_getElem? (i := 959) (by decide +kernel), List.mem_of_getElem? (i := 960) (by decide +kernel)⟩
theorem lw_p55 : lw_okq (⟨"UpwardGrantsModel", "blocksOf", "(I)I"⟩, 32) := ⟨⟨by decide +kernel, by decide +kernel⟩, List.mem_of_getElem? (i := 708) (by decide +kernel), List.mem_of_getElem? (i := 979) (by decide +kernel), List.mem_of_getElem? (i := 980) (by decide +kernel)⟩
theorem lw_p56 : lw_okq (⟨"UpwardGrantsModel", "isSooner", "(II)Z"⟩, 32) := ⟨⟨by decide +kernel, by decide +kernel⟩, List.mem_of_getElem? (i := 708) (by decide +kernel), List.mem_of_getElem? (i := 987) (by decide +kernel), List.mem_of_getElem? (i := 988) (by decide +kernel)⟩
theorem lw_p57 : lw_okq (⟨"UpwardGrantsModel", "drains", "(I)I"⟩, 32) := ⟨⟨by decide +kernel, by decide +kernel⟩, List.mem_of_getElem? (i := 708) (by decide +kernel), List.mem_of_getElem? (i := 999) (by decide +kernel), List.mem_of_getElem? (i := 1000) (by decide +kernel)⟩
theorem lw_p58 : lw_okq (⟨"UpwardGrantsModel", "isDrained", "()Z"⟩, 32) := ⟨⟨by decide +kernel, by decide +kernel⟩, List.mem_of_getElem? (i := 708) (by decide +kernel), List.mem_of_getElem? (i := 1003) (by decide +kernel), List.mem_of_getElem? (i := 1004) (by decide +kernel)⟩
theorem lw_p59 : lw_okq (⟨"UpwardGrantsModel", "isSo", "(II)Z"⟩, 32) := ⟨⟨by decide +kernel, by decide +kernel⟩, List.mem_of_getElem? (i := 708) (by decide +kernel), List.mem_of_getElem? (i := 1027) (by decide +kernel), List.mem_of_getElem? (i := 1028) (by decide +kernel)⟩
def lw_privs_4 : List (MethodName × Nat) := [(⟨"UpwardGrantsModel", "grants", "(I)V"⟩, 32), (⟨"UpwardGrantsModel", "packs", "(II)V"⟩, 32), (⟨"UpwardGrantsModel", "fills", "(IIIZ)I"⟩, 32), (⟨"UpwardGrantsModel", "classAt", "(II)I"⟩, 32), (⟨"UpwardGrantsModel", "waitsOf", "(I)I"⟩, 32), (⟨"UpwardGrantsModel", "isTerminal", "(I)Z"⟩, 32), (⟨"UpwardGrantsModel", "deafen", "(III)I"⟩, 32), (⟨"UpwardGrantsModel", "blocksOf", "(I)I"⟩, 32), (⟨"UpwardGrantsModel", "isSooner", "(II)Z"⟩, 32), (⟨"UpwardGrantsModel", "drains", "(I)I"⟩, 32), (⟨"UpwardGrantsModel", "isDrained", "()Z"⟩, 32), (⟨"UpwardGrantsModel", "isSo", "(II)Z"⟩, 32)]
theorem lw_r4 : ∀ q ∈ lw_privs_4, lw_okq q := List.forall_mem_cons.mpr ⟨lw_p48, List.forall_mem_cons.mpr ⟨lw_p49, List.forall_mem_cons.mpr ⟨lw_p50, List.forall_mem_cons.mpr ⟨lw_p51, List.forall_mem_cons.mpr ⟨lw_p52, List.forall_mem_cons.mpr ⟨lw_p53, List.forall_mem_cons.mpr ⟨lw_p54, List.forall_mem_cons.mpr ⟨lw_p55, List.forall_mem_cons.mpr ⟨lw_p56, List.forall_mem_cons.mpr ⟨lw_p57, List.forall_mem_cons.mpr ⟨lw_p58, List.forall_mem_cons.mpr ⟨lw_p59, fun _ h => absurd h List.not_mem_nil⟩⟩⟩⟩⟩⟩⟩⟩⟩⟩⟩⟩
def lw_privs : List (MethodName × Nat) := lw_privs_1 ++ (lw_privs_2 ++ (lw_privs_3 ++ (lw_privs_4)))
def lw_tbl : List Cond := k2_sels lw_privs ++ tables_1
theorem lw_privs_ok : ∀ q ∈ lw_privs, lw_okq q := by
  show ∀ q ∈ lw_privs_1 ++ (lw_privs_2 ++ (lw_privs_3 ++ (lw_privs_4))), lw_okq q
  exact List.forall_mem_append.mpr ⟨lw_r1, List.forall_mem_append.mpr ⟨lw_r2, List.forall_mem_append.mpr ⟨lw_r3, lw_r4⟩⟩⟩
end
section
/-! ===== BEGIN words of one list among another's, by their places ===== -/
theorem goodIn_r {big : List Cond} (ws : List Cond) (ps : List Nat) (hp : ws = ps.filterMap (fun i => big[i]?)) (h : ws.all goodWord = true) : GoodIn big ws := by
  intro w hw
  have h1 := List.all_eq_true.mp h w hw
  rw [hp] at hw
  obtain ⟨i, -, hi⟩ := List.mem_filterMap.mp hw
  have hm : w ∈ big := by first | exact List.mem_of_getElem? hi | exact List.getElem?_mem hi
  exact ⟨hm, good_of_word h1⟩
theorem goodIn_app {big a b : List Cond} (ha : GoodIn big a) (hb : GoodIn big b) : GoodIn big (a ++ b) := fun w h => (List.mem_append.mp h).elim (ha w) (hb w)
theorem goodIn_ca {big a b : List Cond} {c : Cond} (ha : GoodIn big (c :: a)) (hb : GoodIn big b) : GoodIn big (c :: (a ++ b)) := fun w h => (List.mem_cons.mp h).elim (fun e => ha w (List.mem_cons.mpr (Or.inl e))) (fun h => (List.mem_append.mp h).elim (fun h => ha w (List.mem_cons.mpr (Or.inr h))) (hb w))
theorem goodIn_sub {big ws : List Cond} (hm : ∀ w ∈ ws, w ∈ big) (h : ws.all goodWord = true) : GoodIn big ws := fun w hw => ⟨hm w hw, good_of_word (List.all_eq_true.mp h w hw)⟩
/-! ===== END ===== -/

/-! ===== BEGIN printed: names, fields, word lists, decode rows ===== -/
def RX0 : String := "UpwardGrants$Blocks"
def TX0 : u_T := fun k => match k with
  | 0 => ("UpwardGrants$Blocks", "size", "I", false)
  | 1 => ("UpwardGrants$Blocks", "terminal", "[I", true)
  | 2 => ("UpwardGrants$Blocks", "due", "[I", true)
  | 3 => ("UpwardGrants$Blocks", "sent", "[I", true)
  | 4 => ("UpwardGrants$Blocks", "report", "[I", true)
  | _ => ("UpwardGrants$Blocks", "letters", "[I", true)
def tyX0 : Nat → FieldType := fun k => match k with
  | 0 => .int
  | 1 => .array .int
  | 2 => .array .int
  | 3 => .array .int
  | 4 => .array .int
  | _ => .array .int
abbrev wsX00 : List Cond := u_ws RX0 TX0 6
theorem nmX0 : ∀ a, a < 6 → ∀ b, b < 6 → a ≠ b → (TX0 a).2.1 ≠ (TX0 b).2.1 := by decide +kernel
theorem tyX0_ok : ∀ k, k < 6 → parseFieldDescriptor (TX0 k).2.2.1 = some (tyX0 k) := by decide +kernel
abbrev cX0_init : ByteArray := prog_2_method_1_code
def yX0_init : MethodName := ⟨RX0, "<init>", "()V"⟩
abbrev cX0_open : ByteArray := prog_2_method_2_code
def yX0_open : MethodName := ⟨RX0, "open", "(I)I"⟩
abbrev cX0_isDue : ByteArray := prog_2_method_3_code
def yX0_isDue : MethodName := ⟨RX0, "isDue", "(III)Z"⟩
abbrev cX0_putLetters : ByteArray := prog_2_method_4_code
def yX0_putLetters : MethodName := ⟨RX0, "putLetters", "(III)V"⟩
abbrev cX0_lettersOf : ByteArray := prog_2_method_5_code
def yX0_lettersOf : MethodName := ⟨RX0, "lettersOf", "(II)I"⟩
abbrev cX0_addLettersTo : ByteArray := prog_2_method_6_code
def yX0_addLettersTo : MethodName := ⟨RX0, "addLettersTo", "([II)V"⟩
abbrev cX0_allLetters : ByteArray := prog_2_method_7_code
def yX0_allLetters : MethodName := ⟨RX0, "allLetters", "(I)I"⟩
abbrev cX0_putReport : ByteArray := prog_2_method_8_code
def yX0_putReport : MethodName := ⟨RX0, "putReport", "(II)V"⟩
abbrev cX0_reportOf : ByteArray := prog_2_method_9_code
def yX0_reportOf : MethodName := ⟨RX0, "reportOf", "(I)I"⟩
abbrev cX0_content : ByteArray := prog_2_method_10_code
def yX0_content : MethodName := ⟨RX0, "content", "(I)I"⟩
abbrev cX0_countSending : ByteArray := prog_2_method_11_code
def yX0_countSending : MethodName := ⟨RX0, "countSending", "(I)I"⟩
abbrev cX0_putDue : ByteArray := prog_2_method_12_code
def yX0_putDue : MethodName := ⟨RX0, "putDue", "(II)V"⟩
abbrev cX0_markGone : ByteArray := prog_2_method_13_code
def yX0_markGone : MethodName := ⟨RX0, "markGone", "(I)V"⟩
abbrev cX0_dropGone : ByteArray := prog_2_method_14_code
def yX0_dropGone : MethodName := ⟨RX0, "dropGone", "()V"⟩
abbrev cX0_move : ByteArray := prog_2_method_15_code
def yX0_move : MethodName := ⟨RX0, "move", "(II)V"⟩
abbrev cX0_placeOf : ByteArray := prog_2_method_16_code
def yX0_placeOf : MethodName := ⟨RX0, "placeOf", "(I)I"⟩
abbrev cX0_isEarlier : ByteArray := prog_2_method_17_code
def yX0_isEarlier : MethodName := ⟨RX0, "isEarlier", "(II)Z"⟩
abbrev cX0_told : ByteArray := prog_2_method_18_code
def yX0_told : MethodName := ⟨RX0, "told", "(II)I"⟩
abbrev cX0_lettersOnTheWay : ByteArray := prog_2_method_19_code
def yX0_lettersOnTheWay : MethodName := ⟨RX0, "lettersOnTheWay", "(I)I"⟩
abbrev cX0_blocksOf : ByteArray := prog_2_method_20_code
def yX0_blocksOf : MethodName := ⟨RX0, "blocksOf", "(I)I"⟩
abbrev cX0_copyFrom : ByteArray := prog_2_method_21_code
def yX0_copyFrom : MethodName := ⟨RX0, "copyFrom", "(LUpwardGrants$Blocks;)V"⟩
def RX1 : String := "UpwardGrants$History"
def TX1 : u_T := fun k => match k with
  | 0 => ("UpwardGrants$History", "known", "I", false)
  | 1 => ("UpwardGrants$History", "newest", "I", false)
  | _ => ("UpwardGrants$History", "before", "[LUpwardGrants$State;", true)
def tyX1 : Nat → FieldType := fun k => match k with
  | 0 => .int
  | 1 => .int
  | _ => .array (.object "UpwardGrants$State")
abbrev wsX10 : List Cond := u_ws RX1 TX1 3
theorem nmX1 : ∀ a, a < 3 → ∀ b, b < 3 → a ≠ b → (TX1 a).2.1 ≠ (TX1 b).2.1 := by decide +kernel
theorem tyX1_ok : ∀ k, k < 3 → parseFieldDescriptor (TX1 k).2.2.1 = some (tyX1 k) := by decide +kernel
abbrev cX1_init : ByteArray := prog_3_method_1_code
def yX1_init : MethodName := ⟨RX1, "<init>", "()V"⟩
abbrev cX1_remember : ByteArray := prog_3_method_2_code
def yX1_remember : MethodName := ⟨RX1, "remember", "(LUpwardGrants$State;)V"⟩
abbrev cX1_takeBack : ByteArray := prog_3_method_3_code
def yX1_takeBack : MethodName := ⟨RX1, "takeBack", "(LUpwardGrants$State;)Z"⟩
abbrev cX1_rowAt : ByteArray := prog_3_method_4_code
def yX1_rowAt : MethodName := ⟨RX1, "rowAt", "(I)LUpwardGrants$State;"⟩
def RX2 : String := "UpwardGrants$Image"
def TX2 : u_T := fun k => match k with
  | 0 => ("UpwardGrants$Image", "there", "Z", false)
  | _ => ("UpwardGrants$Image", "state", "LUpwardGrants$State;", true)
def tyX2 : Nat → FieldType := fun k => match k with
  | 0 => .boolean
  | _ => .object "UpwardGrants$State"
abbrev wsX20 : List Cond := u_ws RX2 TX2 2
theorem nmX2 : ∀ a, a < 2 → ∀ b, b < 2 → a ≠ b → (TX2 a).2.1 ≠ (TX2 b).2.1 := by decide +kernel
theorem tyX2_ok : ∀ k, k < 2 → parseFieldDescriptor (TX2 k).2.2.1 = some (tyX2 k) := by decide +kernel
abbrev cX2_init : ByteArray := prog_4_method_1_code
def yX2_init : MethodName := ⟨RX2, "<init>", "()V"⟩
abbrev cX2_take : ByteArray := prog_4_method_2_code
def yX2_take : MethodName := ⟨RX2, "take", "(LUpwardGrants$State;)V"⟩
def RX3 : String := "UpwardGrants$Setup"
def TX3 : u_T := fun k => match k with
  | 0 => ("UpwardGrants$Setup", "terminals", "I", false)
  | 1 => ("UpwardGrants$Setup", "classes", "I", false)
  | 2 => ("UpwardGrants$Setup", "room", "I", false)
  | 3 => ("UpwardGrants$Setup", "ban", "I", false)
  | 4 => ("UpwardGrants$Setup", "back", "I", false)
  | 5 => ("UpwardGrants$Setup", "tries", "I", false)
  | 6 => ("UpwardGrants$Setup", "period", "[I", true)
  | 7 => ("UpwardGrants$Setup", "owner", "[I", true)
  | 8 => ("UpwardGrants$Setup", "priority", "[I", true)
  | 9 => ("UpwardGrants$Setup", "rate", "[I", true)
  | _ => ("UpwardGrants$Setup", "limit", "[I", true)
def tyX3 : Nat → FieldType := fun k => match k with
  | 0 => .int
  | 1 => .int
  | 2 => .int
  | 3 => .int
  | 4 => .int
  | 5 => .int
  | 6 => .array .int
  | 7 => .array .int
  | 8 => .array .int
  | 9 => .array .int
  | _ => .array .int
abbrev wsX30 : List Cond := u_ws RX3 TX3 11
theorem nmX3 : ∀ a, a < 11 → ∀ b, b < 11 → a ≠ b → (TX3 a).2.1 ≠ (TX3 b).2.1 := by decide +kernel
theorem tyX3_ok : ∀ k, k < 11 → parseFieldDescriptor (TX3 k).2.2.1 = some (tyX3 k) := by decide +kernel
abbrev cX3_init : ByteArray := prog_5_method_1_code
def yX3_init : MethodName := ⟨RX3, "<init>", "()V"⟩
abbrev cX3_begin : ByteArray := prog_5_method_2_code
def yX3_begin : MethodName := ⟨RX3, "begin", "()V"⟩
abbrev cX3_copyFrom : ByteArray := prog_5_method_3_code
def yX3_copyFrom : MethodName := ⟨RX3, "copyFrom", "(LUpwardGrants$Setup;)V"⟩
abbrev cX3_isAhead : ByteArray := prog_5_method_4_code
def yX3_isAhead : MethodName := ⟨RX3, "isAhead", "(II)Z"⟩
abbrev cX3_isPlaceToAsk : ByteArray := prog_5_method_5_code
def yX3_isPlaceToAsk : MethodName := ⟨RX3, "isPlaceToAsk", "(II)Z"⟩
def RX4 : String := "UpwardGrants$State"
def TX4 : u_T := fun k => match k with
  | 0 => ("UpwardGrants$State", "now", "I", false)
  | 1 => ("UpwardGrants$State", "room", "I", false)
  | 2 => ("UpwardGrants$State", "last", "I", false)
  | 3 => ("UpwardGrants$State", "wants", "[I", true)
  | 4 => ("UpwardGrants$State", "bannedTill", "[I", true)
  | 5 => ("UpwardGrants$State", "asked", "[I", true)
  | 6 => ("UpwardGrants$State", "thought", "[I", true)
  | 7 => ("UpwardGrants$State", "asks", "[I", true)
  | 8 => ("UpwardGrants$State", "granted", "[I", true)
  | 9 => ("UpwardGrants$State", "waits", "[I", true)
  | 10 => ("UpwardGrants$State", "tokens", "[I", true)
  | 11 => ("UpwardGrants$State", "through", "[I", true)
  | 12 => ("UpwardGrants$State", "lost", "[I", true)
  | 13 => ("UpwardGrants$State", "deafBits", "[I", true)
  | _ => ("UpwardGrants$State", "blocks", "LUpwardGrants$Blocks;", true)
def tyX4 : Nat → FieldType := fun k => match k with
  | 0 => .int
  | 1 => .int
  | 2 => .int
  | 3 => .array .int
  | 4 => .array .int
  | 5 => .array .int
  | 6 => .array .int
  | 7 => .array .int
  | 8 => .array .int
  | 9 => .array .int
  | 10 => .array .int
  | 11 => .array .int
  | 12 => .array .int
  | 13 => .array .int
  | _ => .object "UpwardGrants$Blocks"
abbrev wsX40 : List Cond := u_ws RX4 TX4 15
theorem nmX4 : ∀ a, a < 15 → ∀ b, b < 15 → a ≠ b → (TX4 a).2.1 ≠ (TX4 b).2.1 := by decide +kernel
theorem tyX4_ok : ∀ k, k < 15 → parseFieldDescriptor (TX4 k).2.2.1 = some (tyX4 k) := by decide +kernel
abbrev cX4_init : ByteArray := prog_6_method_1_code
def yX4_init : MethodName := ⟨RX4, "<init>", "()V"⟩
abbrev cX4_begin : ByteArray := prog_6_method_2_code
def yX4_begin : MethodName := ⟨RX4, "begin", "(I)V"⟩
abbrev cX4_copyFrom : ByteArray := prog_6_method_3_code
def yX4_copyFrom : MethodName := ⟨RX4, "copyFrom", "(LUpwardGrants$State;)V"⟩
abbrev cX4_isDeaf : ByteArray := prog_6_method_4_code
def yX4_isDeaf : MethodName := ⟨RX4, "isDeaf", "(II)Z"⟩
abbrev cX4_makeDeaf : ByteArray := prog_6_method_5_code
def yX4_makeDeaf : MethodName := ⟨RX4, "makeDeaf", "(III)I"⟩
abbrev cX4_allThrough : ByteArray := prog_6_method_6_code
def yX4_allThrough : MethodName := ⟨RX4, "allThrough", "()I"⟩
abbrev cX4_isDrained : ByteArray := prog_6_method_7_code
def yX4_isDrained : MethodName := ⟨RX4, "isDrained", "()Z"⟩
def RX5 : String := "UpwardGrants$Station"
def TX5 : u_T := fun k => match k with
  | 0 => ("UpwardGrants$Station", "setup", "LUpwardGrants$Setup;", true)
  | 1 => ("UpwardGrants$Station", "state", "LUpwardGrants$State;", true)
  | _ => ("UpwardGrants$Station", "left", "I", false)
def tyX5 : Nat → FieldType := fun k => match k with
  | 0 => .object "UpwardGrants$Setup"
  | 1 => .object "UpwardGrants$State"
  | _ => .int
abbrev wsX50 : List Cond := u_ws RX5 TX5 3
theorem nmX5 : ∀ a, a < 3 → ∀ b, b < 3 → a ≠ b → (TX5 a).2.1 ≠ (TX5 b).2.1 := by decide +kernel
theorem tyX5_ok : ∀ k, k < 3 → parseFieldDescriptor (TX5 k).2.2.1 = some (tyX5 k) := by decide +kernel
abbrev cX5_init : ByteArray := prog_7_method_1_code
def yX5_init : MethodName := ⟨RX5, "<init>", "(LUpwardGrants$Setup;LUpwardGrants$State;)V"⟩
abbrev cX5_bring : ByteArray := prog_7_method_2_code
def yX5_bring : MethodName := ⟨RX5, "bring", "(II)V"⟩
abbrev cX5_waitsUpTo : ByteArray := prog_7_method_3_code
def yX5_waitsUpTo : MethodName := ⟨RX5, "waitsUpTo", "(I)Z"⟩
abbrev cX5_waitingAt : ByteArray := prog_7_method_4_code
def yX5_waitingAt : MethodName := ⟨RX5, "waitingAt", "(I)I"⟩
abbrev cX5_drainedWithin : ByteArray := prog_7_method_5_code
def yX5_drainedWithin : MethodName := ⟨RX5, "drainedWithin", "(I)I"⟩
abbrev cX5_takeSteps : ByteArray := prog_7_method_6_code
def yX5_takeSteps : MethodName := ⟨RX5, "takeSteps", "(I)I"⟩
abbrev cX5_gainTokens : ByteArray := prog_7_method_7_code
def yX5_gainTokens : MethodName := ⟨RX5, "gainTokens", "()V"⟩
abbrev cX5_askInPlaces : ByteArray := prog_7_method_8_code
def yX5_askInPlaces : MethodName := ⟨RX5, "askInPlaces", "()V"⟩
abbrev cX5_sendAgain : ByteArray := prog_7_method_9_code
def yX5_sendAgain : MethodName := ⟨RX5, "sendAgain", "()V"⟩
abbrev cX5_giveGrants : ByteArray := prog_7_method_10_code
def yX5_giveGrants : MethodName := ⟨RX5, "giveGrants", "()V"⟩
abbrev cX5_takeGrant : ByteArray := prog_7_method_11_code
def yX5_takeGrant : MethodName := ⟨RX5, "takeGrant", "(I)I"⟩
abbrev cX5_pack : ByteArray := prog_7_method_12_code
def yX5_pack : MethodName := ⟨RX5, "pack", "(II)V"⟩
abbrev cX5_packLetters : ByteArray := prog_7_method_13_code
def yX5_packLetters : MethodName := ⟨RX5, "packLetters", "(IIIZ)I"⟩
abbrev cX5_send : ByteArray := prog_7_method_14_code
def yX5_send : MethodName := ⟨RX5, "send", "(II)V"⟩
def RX6 : String := "UpwardGrants$Text"
def TX6 : u_T := fun k => match k with
  | 0 => ("UpwardGrants$Text", "letters", "[C", true)
  | 1 => ("UpwardGrants$Text", "length", "I", false)
  | 2 => ("UpwardGrants$Text", "place", "I", false)
  | 3 => ("UpwardGrants$Text", "tokenPlace", "I", false)
  | 4 => ("UpwardGrants$Text", "token", "I", false)
  | _ => ("UpwardGrants$Text", "number", "I", false)
def tyX6 : Nat → FieldType := fun k => match k with
  | 0 => .array .char
  | 1 => .int
  | 2 => .int
  | 3 => .int
  | 4 => .int
  | _ => .int
abbrev wsX60 : List Cond := u_ws RX6 TX6 6
theorem nmX6 : ∀ a, a < 6 → ∀ b, b < 6 → a ≠ b → (TX6 a).2.1 ≠ (TX6 b).2.1 := by decide +kernel
theorem tyX6_ok : ∀ k, k < 6 → parseFieldDescriptor (TX6 k).2.2.1 = some (tyX6 k) := by decide +kernel
abbrev cX6_init : ByteArray := prog_8_method_1_code
def yX6_init : MethodName := ⟨RX6, "<init>", "()V"⟩
abbrev cX6_add : ByteArray := prog_8_method_2_code
def yX6_add : MethodName := ⟨RX6, "add", "(I)Z"⟩
abbrev cX6_empty : ByteArray := prog_8_method_3_code
def yX6_empty : MethodName := ⟨RX6, "empty", "()I"⟩
abbrev cX6_readInto : ByteArray := prog_8_method_4_code
def yX6_readInto : MethodName := ⟨RX6, "readInto", "(LUpwardGrants$Setup;)I"⟩
abbrev cX6_readTerminal : ByteArray := prog_8_method_5_code
def yX6_readTerminal : MethodName := ⟨RX6, "readTerminal", "(LUpwardGrants$Setup;)Z"⟩
abbrev cX6_readClass : ByteArray := prog_8_method_6_code
def yX6_readClass : MethodName := ⟨RX6, "readClass", "(LUpwardGrants$Setup;)Z"⟩
abbrev cX6_readRoom : ByteArray := prog_8_method_7_code
def yX6_readRoom : MethodName := ⟨RX6, "readRoom", "(LUpwardGrants$Setup;)Z"⟩
abbrev cX6_readBan : ByteArray := prog_8_method_8_code
def yX6_readBan : MethodName := ⟨RX6, "readBan", "(LUpwardGrants$Setup;)Z"⟩
abbrev cX6_readBackAndTries : ByteArray := prog_8_method_9_code
def yX6_readBackAndTries : MethodName := ⟨RX6, "readBackAndTries", "(LUpwardGrants$Setup;)Z"⟩
abbrev cX6_readEnd : ByteArray := prog_8_method_10_code
def yX6_readEnd : MethodName := ⟨RX6, "readEnd", "()Z"⟩
abbrev cX6_readNumber : ByteArray := prog_8_method_11_code
def yX6_readNumber : MethodName := ⟨RX6, "readNumber", "(II)Z"⟩
abbrev cX6_nextToken : ByteArray := prog_8_method_12_code
def yX6_nextToken : MethodName := ⟨RX6, "nextToken", "()V"⟩
abbrev cX6_nextNumber : ByteArray := prog_8_method_13_code
def yX6_nextNumber : MethodName := ⟨RX6, "nextNumber", "()V"⟩
abbrev cX6_letterAt : ByteArray := prog_8_method_14_code
def yX6_letterAt : MethodName := ⟨RX6, "letterAt", "(I)C"⟩
abbrev cX6_isDigit : ByteArray := prog_8_method_15_code
def yX6_isDigit : MethodName := ⟨RX6, "isDigit", "(C)Z"⟩
abbrev cX6_isSign : ByteArray := prog_8_method_16_code
def yX6_isSign : MethodName := ⟨RX6, "isSign", "(C)Z"⟩
def RX7 : String := "UpwardGrants"
def TX7 : u_T := fun k => match k with
  | 0 => ("UpwardGrants", "text", "LUpwardGrants$Text;", true)
  | 1 => ("UpwardGrants", "setup", "LUpwardGrants$Setup;", true)
  | 2 => ("UpwardGrants", "draft", "LUpwardGrants$Setup;", true)
  | 3 => ("UpwardGrants", "state", "LUpwardGrants$State;", true)
  | 4 => ("UpwardGrants", "trialState", "LUpwardGrants$State;", true)
  | 5 => ("UpwardGrants", "station", "LUpwardGrants$Station;", true)
  | 6 => ("UpwardGrants", "trial", "LUpwardGrants$Station;", true)
  | 7 => ("UpwardGrants", "history", "LUpwardGrants$History;", true)
  | 8 => ("UpwardGrants", "firstImage", "LUpwardGrants$Image;", true)
  | 9 => ("UpwardGrants", "secondImage", "LUpwardGrants$Image;", true)
  | 10 => ("UpwardGrants", "seenSteps", "[I", true)
  | 11 => ("UpwardGrants", "seenLetters", "[I", true)
  | _ => ("UpwardGrants", "seen", "I", false)
def tyX7 : Nat → FieldType := fun k => match k with
  | 0 => .object "UpwardGrants$Text"
  | 1 => .object "UpwardGrants$Setup"
  | 2 => .object "UpwardGrants$Setup"
  | 3 => .object "UpwardGrants$State"
  | 4 => .object "UpwardGrants$State"
  | 5 => .object "UpwardGrants$Station"
  | 6 => .object "UpwardGrants$Station"
  | 7 => .object "UpwardGrants$History"
  | 8 => .object "UpwardGrants$Image"
  | 9 => .object "UpwardGrants$Image"
  | 10 => .array .int
  | 11 => .array .int
  | _ => .int
abbrev wsX70 : List Cond := u_ws RX7 TX7 13
theorem nmX7 : ∀ a, a < 13 → ∀ b, b < 13 → a ≠ b → (TX7 a).2.1 ≠ (TX7 b).2.1 := by decide +kernel
theorem tyX7_ok : ∀ k, k < 13 → parseFieldDescriptor (TX7 k).2.2.1 = some (tyX7 k) := by decide +kernel
abbrev cX7_init : ByteArray := prog_1_method_1_code
def yX7_init : MethodName := ⟨RX7, "<init>", "()V"⟩
abbrev cX7_type : ByteArray := prog_1_method_2_code
def yX7_type : MethodName := ⟨RX7, "type", "(I)I"⟩
abbrev cX7_clear : ByteArray := prog_1_method_3_code
def yX7_clear : MethodName := ⟨RX7, "clear", "()I"⟩
abbrev cX7_cell : ByteArray := prog_1_method_4_code
def yX7_cell : MethodName := ⟨RX7, "cell", "()I"⟩
abbrev cX7_comes : ByteArray := prog_1_method_5_code
def yX7_comes : MethodName := ⟨RX7, "comes", "(II)I"⟩
abbrev cX7_steps : ByteArray := prog_1_method_6_code
def yX7_steps : MethodName := ⟨RX7, "steps", "(I)I"⟩
abbrev cX7_deafens : ByteArray := prog_1_method_7_code
def yX7_deafens : MethodName := ⟨RX7, "deafens", "(III)I"⟩
abbrev cX7_widens : ByteArray := prog_1_method_8_code
def yX7_widens : MethodName := ⟨RX7, "widens", "(I)I"⟩
abbrev cX7_undo : ByteArray := prog_1_method_9_code
def yX7_undo : MethodName := ⟨RX7, "undo", "()I"⟩
abbrev cX7_sort : ByteArray := prog_1_method_10_code
def yX7_sort : MethodName := ⟨RX7, "sort", "(II)I"⟩
abbrev cX7_terminal : ByteArray := prog_1_method_11_code
def yX7_terminal : MethodName := ⟨RX7, "terminal", "(II)I"⟩
abbrev cX7_block : ByteArray := prog_1_method_12_code
def yX7_block : MethodName := ⟨RX7, "block", "(II)I"⟩
abbrev cX7_deaf : ByteArray := prog_1_method_13_code
def yX7_deaf : MethodName := ⟨RX7, "deaf", "(II)I"⟩
abbrev cX7_drain : ByteArray := prog_1_method_14_code
def yX7_drain : MethodName := ⟨RX7, "drain", "()I"⟩
abbrev cX7_enough : ByteArray := prog_1_method_15_code
def yX7_enough : MethodName := ⟨RX7, "enough", "(I)I"⟩
abbrev cX7_ahead : ByteArray := prog_1_method_16_code
def yX7_ahead : MethodName := ⟨RX7, "ahead", "(II)I"⟩
abbrev cX7_sees : ByteArray := prog_1_method_17_code
def yX7_sees : MethodName := ⟨RX7, "sees", "(II)I"⟩
abbrev cX7_forget : ByteArray := prog_1_method_18_code
def yX7_forget : MethodName := ⟨RX7, "forget", "()I"⟩
abbrev cX7_unseen : ByteArray := prog_1_method_19_code
def yX7_unseen : MethodName := ⟨RX7, "unseen", "()I"⟩
abbrev cX7_keep : ByteArray := prog_1_method_20_code
def yX7_keep : MethodName := ⟨RX7, "keep", "(I)I"⟩
abbrev cX7_back : ByteArray := prog_1_method_21_code
def yX7_back : MethodName := ⟨RX7, "back", "(I)I"⟩
abbrev cX7_count : ByteArray := prog_1_method_22_code
def yX7_count : MethodName := ⟨RX7, "count", "(I)I"⟩
abbrev cX7_beginAnew : ByteArray := prog_1_method_23_code
def yX7_beginAnew : MethodName := ⟨RX7, "beginAnew", "()V"⟩
abbrev cX7_hasTerminal : ByteArray := prog_1_method_24_code
def yX7_hasTerminal : MethodName := ⟨RX7, "hasTerminal", "(I)Z"⟩
abbrev cX7_hasClass : ByteArray := prog_1_method_25_code
def yX7_hasClass : MethodName := ⟨RX7, "hasClass", "(I)Z"⟩
abbrev cX7_imageAt : ByteArray := prog_1_method_26_code
def yX7_imageAt : MethodName := ⟨RX7, "imageAt", "(I)LUpwardGrants$Image;"⟩
abbrev cX7_explainsAllSeen : ByteArray := prog_1_method_27_code
def yX7_explainsAllSeen : MethodName := ⟨RX7, "explainsAllSeen", "(I)Z"⟩
abbrev cX7_isWithin : ByteArray := prog_1_method_28_code
def yX7_isWithin : MethodName := ⟨RX7, "isWithin", "(III)Z"⟩
abbrev cX7_copyRow : ByteArray := prog_1_method_29_code
def yX7_copyRow : MethodName := ⟨RX7, "copyRow", "([I[I)V"⟩
def RX8 : String := "UpwardGrantsModel"
def TX8 : u_T := fun k => match k with
  | 0 => ("UpwardGrantsModel", "thrown", "I", false)
  | 1 => ("UpwardGrantsModel", "terminals", "I", false)
  | 2 => ("UpwardGrantsModel", "classes", "I", false)
  | 3 => ("UpwardGrantsModel", "ban", "I", false)
  | 4 => ("UpwardGrantsModel", "back", "I", false)
  | 5 => ("UpwardGrantsModel", "tries", "I", false)
  | 6 => ("UpwardGrantsModel", "period", "[I", true)
  | 7 => ("UpwardGrantsModel", "of", "[I", true)
  | 8 => ("UpwardGrantsModel", "readTerminals", "I", false)
  | 9 => ("UpwardGrantsModel", "readClasses", "I", false)
  | 10 => ("UpwardGrantsModel", "readRoom", "I", false)
  | 11 => ("UpwardGrantsModel", "readBan", "I", false)
  | 12 => ("UpwardGrantsModel", "readBack", "I", false)
  | 13 => ("UpwardGrantsModel", "readTries", "I", false)
  | 14 => ("UpwardGrantsModel", "readPeriod", "[I", true)
  | 15 => ("UpwardGrantsModel", "readOf", "[I", true)
  | 16 => ("UpwardGrantsModel", "s", "[I", true)
  | 17 => ("UpwardGrantsModel", "undos", "I", false)
  | 18 => ("UpwardGrantsModel", "past", "[I", true)
  | 19 => ("UpwardGrantsModel", "kept", "[I", true)
  | 20 => ("UpwardGrantsModel", "isKept", "[Z", true)
  | 21 => ("UpwardGrantsModel", "aside", "[I", true)
  | 22 => ("UpwardGrantsModel", "seen", "I", false)
  | 23 => ("UpwardGrantsModel", "seenSteps", "[I", true)
  | 24 => ("UpwardGrantsModel", "seenIs", "[I", true)
  | 25 => ("UpwardGrantsModel", "letters", "I", false)
  | 26 => ("UpwardGrantsModel", "text", "[I", true)
  | 27 => ("UpwardGrantsModel", "next", "I", false)
  | 28 => ("UpwardGrantsModel", "begin", "I", false)
  | 29 => ("UpwardGrantsModel", "token", "I", false)
  | 30 => ("UpwardGrantsModel", "number", "I", false)
  | _ => ("UpwardGrantsModel", "through", "I", false)
def tyX8 : Nat → FieldType := fun k => match k with
  | 0 => .int
  | 1 => .int
  | 2 => .int
  | 3 => .int
  | 4 => .int
  | 5 => .int
  | 6 => .array .int
  | 7 => .array .int
  | 8 => .int
  | 9 => .int
  | 10 => .int
  | 11 => .int
  | 12 => .int
  | 13 => .int
  | 14 => .array .int
  | 15 => .array .int
  | 16 => .array .int
  | 17 => .int
  | 18 => .array .int
  | 19 => .array .int
  | 20 => .array .boolean
  | 21 => .array .int
  | 22 => .int
  | 23 => .array .int
  | 24 => .array .int
  | 25 => .int
  | 26 => .array .int
  | 27 => .int
  | 28 => .int
  | 29 => .int
  | 30 => .int
  | _ => .int
abbrev wsX80 : List Cond := u_ws RX8 TX8 32
theorem nmX8 : ∀ a, a < 32 → ∀ b, b < 32 → a ≠ b → (TX8 a).2.1 ≠ (TX8 b).2.1 := by decide +kernel
theorem tyX8_ok : ∀ k, k < 32 → parseFieldDescriptor (TX8 k).2.2.1 = some (tyX8 k) := by decide +kernel
abbrev cX8_init : ByteArray := prog_10_method_1_code
def yX8_init : MethodName := ⟨RX8, "<init>", "()V"⟩
abbrev cX8_in : ByteArray := prog_10_method_3_code
def yX8_in : MethodName := ⟨RX8, "in", "(III)Z"⟩
abbrev cX8_less : ByteArray := prog_10_method_4_code
def yX8_less : MethodName := ⟨RX8, "less", "(II)I"⟩
abbrev cX8_isTerminal : ByteArray := prog_10_method_5_code
def yX8_isTerminal : MethodName := ⟨RX8, "isTerminal", "(I)Z"⟩
abbrev cX8_isClass : ByteArray := prog_10_method_6_code
def yX8_isClass : MethodName := ⟨RX8, "isClass", "(I)Z"⟩
abbrev cX8_ofTerminal : ByteArray := prog_10_method_7_code
def yX8_ofTerminal : MethodName := ⟨RX8, "ofTerminal", "(II)I"⟩
abbrev cX8_ofClass : ByteArray := prog_10_method_8_code
def yX8_ofClass : MethodName := ⟨RX8, "ofClass", "(II)I"⟩
abbrev cX8_ofBlock : ByteArray := prog_10_method_9_code
def yX8_ofBlock : MethodName := ⟨RX8, "ofBlock", "(II)I"⟩
abbrev cX8_type : ByteArray := prog_10_method_10_code
def yX8_type : MethodName := ⟨RX8, "type", "(I)I"⟩
abbrev cX8_clear : ByteArray := prog_10_method_11_code
def yX8_clear : MethodName := ⟨RX8, "clear", "()I"⟩
abbrev cX8_isFigure : ByteArray := prog_10_method_12_code
def yX8_isFigure : MethodName := ⟨RX8, "isFigure", "(I)Z"⟩
abbrev cX8_takes : ByteArray := prog_10_method_13_code
def yX8_takes : MethodName := ⟨RX8, "takes", "()V"⟩
abbrev cX8_reads : ByteArray := prog_10_method_14_code
def yX8_reads : MethodName := ⟨RX8, "reads", "(II)Z"⟩
abbrev cX8_readsTerminal : ByteArray := prog_10_method_15_code
def yX8_readsTerminal : MethodName := ⟨RX8, "readsTerminal", "()Z"⟩
abbrev cX8_readsOne : ByteArray := prog_10_method_16_code
def yX8_readsOne : MethodName := ⟨RX8, "readsOne", "(II)Z"⟩
abbrev cX8_readsClass : ByteArray := prog_10_method_17_code
def yX8_readsClass : MethodName := ⟨RX8, "readsClass", "()Z"⟩
abbrev cX8_item : ByteArray := prog_10_method_18_code
def yX8_item : MethodName := ⟨RX8, "item", "()Z"⟩
abbrev cX8_begins : ByteArray := prog_10_method_19_code
def yX8_begins : MethodName := ⟨RX8, "begins", "()V"⟩
abbrev cX8_becomes : ByteArray := prog_10_method_20_code
def yX8_becomes : MethodName := ⟨RX8, "becomes", "()V"⟩
abbrev cX8_cell : ByteArray := prog_10_method_21_code
def yX8_cell : MethodName := ⟨RX8, "cell", "()I"⟩
abbrev cX8_isDeaf : ByteArray := prog_10_method_22_code
def yX8_isDeaf : MethodName := ⟨RX8, "isDeaf", "(II)Z"⟩
abbrev cX8_waitsOf : ByteArray := prog_10_method_23_code
def yX8_waitsOf : MethodName := ⟨RX8, "waitsOf", "(I)I"⟩
abbrev cX8_lettersIn : ByteArray := prog_10_method_24_code
def yX8_lettersIn : MethodName := ⟨RX8, "lettersIn", "(I)I"⟩
abbrev cX8_inBlock : ByteArray := prog_10_method_25_code
def yX8_inBlock : MethodName := ⟨RX8, "inBlock", "(I)I"⟩
abbrev cX8_sends : ByteArray := prog_10_method_26_code
def yX8_sends : MethodName := ⟨RX8, "sends", "(I)V"⟩
abbrev cX8_clearsGone : ByteArray := prog_10_method_27_code
def yX8_clearsGone : MethodName := ⟨RX8, "clearsGone", "()V"⟩
abbrev cX8_isAhead : ByteArray := prog_10_method_28_code
def yX8_isAhead : MethodName := ⟨RX8, "isAhead", "(II)Z"⟩
abbrev cX8_classAt : ByteArray := prog_10_method_29_code
def yX8_classAt : MethodName := ⟨RX8, "classAt", "(II)I"⟩
abbrev cX8_fills : ByteArray := prog_10_method_30_code
def yX8_fills : MethodName := ⟨RX8, "fills", "(IIIZ)I"⟩
abbrev cX8_packs : ByteArray := prog_10_method_31_code
def yX8_packs : MethodName := ⟨RX8, "packs", "(II)V"⟩
abbrev cX8_asks : ByteArray := prog_10_method_32_code
def yX8_asks : MethodName := ⟨RX8, "asks", "(I)V"⟩
abbrev cX8_sendsAgain : ByteArray := prog_10_method_33_code
def yX8_sendsAgain : MethodName := ⟨RX8, "sendsAgain", "()I"⟩
abbrev cX8_grants : ByteArray := prog_10_method_34_code
def yX8_grants : MethodName := ⟨RX8, "grants", "(I)V"⟩
abbrev cX8_step : ByteArray := prog_10_method_35_code
def yX8_step : MethodName := ⟨RX8, "step", "()V"⟩
abbrev cX8_copies : ByteArray := prog_10_method_36_code
def yX8_copies : MethodName := ⟨RX8, "copies", "([I[III)V"⟩
abbrev cX8_notes : ByteArray := prog_10_method_37_code
def yX8_notes : MethodName := ⟨RX8, "notes", "()V"⟩
abbrev cX8_comes : ByteArray := prog_10_method_38_code
def yX8_comes : MethodName := ⟨RX8, "comes", "(II)I"⟩
abbrev cX8_steps : ByteArray := prog_10_method_39_code
def yX8_steps : MethodName := ⟨RX8, "steps", "(I)I"⟩
abbrev cX8_deafen : ByteArray := prog_10_method_40_code
def yX8_deafen : MethodName := ⟨RX8, "deafen", "(III)I"⟩
abbrev cX8_deafens : ByteArray := prog_10_method_41_code
def yX8_deafens : MethodName := ⟨RX8, "deafens", "(III)I"⟩
abbrev cX8_widens : ByteArray := prog_10_method_42_code
def yX8_widens : MethodName := ⟨RX8, "widens", "(I)I"⟩
abbrev cX8_undo : ByteArray := prog_10_method_43_code
def yX8_undo : MethodName := ⟨RX8, "undo", "()I"⟩
abbrev cX8_sort : ByteArray := prog_10_method_44_code
def yX8_sort : MethodName := ⟨RX8, "sort", "(II)I"⟩
abbrev cX8_blocksOf : ByteArray := prog_10_method_45_code
def yX8_blocksOf : MethodName := ⟨RX8, "blocksOf", "(I)I"⟩
abbrev cX8_terminal : ByteArray := prog_10_method_46_code
def yX8_terminal : MethodName := ⟨RX8, "terminal", "(II)I"⟩
abbrev cX8_isSooner : ByteArray := prog_10_method_47_code
def yX8_isSooner : MethodName := ⟨RX8, "isSooner", "(II)Z"⟩
abbrev cX8_block : ByteArray := prog_10_method_48_code
def yX8_block : MethodName := ⟨RX8, "block", "(II)I"⟩
abbrev cX8_deaf : ByteArray := prog_10_method_49_code
def yX8_deaf : MethodName := ⟨RX8, "deaf", "(II)I"⟩
abbrev cX8_isDrained : ByteArray := prog_10_method_50_code
def yX8_isDrained : MethodName := ⟨RX8, "isDrained", "()Z"⟩
abbrev cX8_drains : ByteArray := prog_10_method_51_code
def yX8_drains : MethodName := ⟨RX8, "drains", "(I)I"⟩
abbrev cX8_drain : ByteArray := prog_10_method_52_code
def yX8_drain : MethodName := ⟨RX8, "drain", "()I"⟩
abbrev cX8_enough : ByteArray := prog_10_method_53_code
def yX8_enough : MethodName := ⟨RX8, "enough", "(I)I"⟩
abbrev cX8_ahead : ByteArray := prog_10_method_54_code
def yX8_ahead : MethodName := ⟨RX8, "ahead", "(II)I"⟩
abbrev cX8_sees : ByteArray := prog_10_method_55_code
def yX8_sees : MethodName := ⟨RX8, "sees", "(II)I"⟩
abbrev cX8_forget : ByteArray := prog_10_method_56_code
def yX8_forget : MethodName := ⟨RX8, "forget", "()I"⟩
abbrev cX8_isSo : ByteArray := prog_10_method_57_code
def yX8_isSo : MethodName := ⟨RX8, "isSo", "(II)Z"⟩
abbrev cX8_unseen : ByteArray := prog_10_method_58_code
def yX8_unseen : MethodName := ⟨RX8, "unseen", "()I"⟩
abbrev cX8_keep : ByteArray := prog_10_method_59_code
def yX8_keep : MethodName := ⟨RX8, "keep", "(I)I"⟩
abbrev cX8_back : ByteArray := prog_10_method_60_code
def yX8_back : MethodName := ⟨RX8, "back", "(I)I"⟩
abbrev cX8_count : ByteArray := prog_10_method_61_code
def yX8_count : MethodName := ⟨RX8, "count", "(I)I"⟩
def RJ9 : String := "java/lang/Math"
def TJ9 : u_T := fun k => match k with
  | _ => ("", "", "", false)
def tyJ9 : Nat → FieldType := fun k => match k with
  | _ => .int
abbrev wsJ90 : List Cond := u_ws RJ9 TJ9 0
theorem nmJ9 : ∀ a, a < 0 → ∀ b, b < 0 → a ≠ b → (TJ9 a).2.1 ≠ (TJ9 b).2.1 := by decide +kernel
theorem tyJ9_ok : ∀ k, k < 0 → parseFieldDescriptor (TJ9 k).2.2.1 = some (tyJ9 k) := by decide +kernel
abbrev cJ9_max_7cf53 : ByteArray := prog_11_method_65_code
def yJ9_max_7cf53 : MethodName := ⟨RJ9, "max", "(II)I"⟩
abbrev cJ9_min_7cf53 : ByteArray := prog_11_method_69_code
def yJ9_min_7cf53 : MethodName := ⟨RJ9, "min", "(II)I"⟩
def RJ10 : String := "java/lang/System"
def TJ10 : u_T := fun k => match k with
  | _ => ("", "", "", false)
def tyJ10 : Nat → FieldType := fun k => match k with
  | _ => .int
abbrev wsJ100 : List Cond := u_ws RJ10 TJ10 0
theorem nmJ10 : ∀ a, a < 0 → ∀ b, b < 0 → a ≠ b → (TJ10 a).2.1 ≠ (TJ10 b).2.1 := by decide +kernel
theorem tyJ10_ok : ∀ k, k < 0 → parseFieldDescriptor (TJ10 k).2.2.1 = some (tyJ10 k) := by decide +kernel
def RJ7 : String := "java/util/Arrays"
def TJ7 : u_T := fun k => match k with
  | _ => ("", "", "", false)
def tyJ7 : Nat → FieldType := fun k => match k with
  | _ => .int
abbrev wsJ70 : List Cond := u_ws RJ7 TJ7 0
theorem nmJ7 : ∀ a, a < 0 → ∀ b, b < 0 → a ≠ b → (TJ7 a).2.1 ≠ (TJ7 b).2.1 := by decide +kernel
theorem tyJ7_ok : ∀ k, k < 0 → parseFieldDescriptor (TJ7 k).2.2.1 = some (tyJ7 k) := by decide +kernel
abbrev cJ7_fill_53178 : ByteArray := prog_13_method_103_code
def yJ7_fill_53178 : MethodName := ⟨RJ7, "fill", "([II)V"⟩
def RL : String := "UpwardGrantsLaw"
abbrev cL_law : ByteArray := code
def yL_law : MethodName := ⟨RL, "law", "([I)Z"⟩
def wsX0_init : List Cond := .code yX0_init cX0_init 1 none :: ([.methodLink RX0 3 objectInit, .instanceMethod objectInit, .code objectInit ⟨#[0xb1]⟩ 1 none, .fieldLink RX0 9 "UpwardGrants$Blocks" "size" "I", .arrayClass .int, .fieldLink RX0 15 "UpwardGrants$Blocks" "terminal" "[I", .fieldLink RX0 19 "UpwardGrants$Blocks" "due" "[I", .fieldLink RX0 22 "UpwardGrants$Blocks" "sent" "[I", .fieldLink RX0 25 "UpwardGrants$Blocks" "report" "[I", .fieldLink RX0 28 "UpwardGrants$Blocks" "letters" "[I"] ++ wsX00)
def wsX0_open : List Cond := .code yX0_open cX0_open 4 (some .int) :: ([.fieldLink RX0 9 "UpwardGrants$Blocks" "size" "I", .fieldLink RX0 15 "UpwardGrants$Blocks" "terminal" "[I", .fieldLink RX0 19 "UpwardGrants$Blocks" "due" "[I", .fieldLink RX0 22 "UpwardGrants$Blocks" "sent" "[I", .fieldLink RX0 25 "UpwardGrants$Blocks" "report" "[I", .fieldLink RX0 28 "UpwardGrants$Blocks" "letters" "[I"] ++ wsX00)
def wsX0_isDue : List Cond := .code yX0_isDue cX0_isDue 4 (some .boolean) :: ([.fieldLink RX0 15 "UpwardGrants$Blocks" "terminal" "[I", .fieldLink RX0 19 "UpwardGrants$Blocks" "due" "[I"] ++ wsX00)
def wsX0_putLetters : List Cond := .code yX0_putLetters cX0_putLetters 5 none :: ([.fieldLink RX0 28 "UpwardGrants$Blocks" "letters" "[I"] ++ wsX00)
def wsX0_lettersOf : List Cond := .code yX0_lettersOf cX0_lettersOf 4 (some .int) :: ([.fieldLink RX0 28 "UpwardGrants$Blocks" "letters" "[I"] ++ wsX00)
def wsX0_addLettersTo : List Cond := .code yX0_addLettersTo cX0_addLettersTo 6 none :: ([.fieldLink RX0 28 "UpwardGrants$Blocks" "letters" "[I"] ++ wsX00)
def wsX0_allLetters : List Cond := .code yX0_allLetters cX0_allLetters 5 (some .int) :: ([.fieldLink RX0 28 "UpwardGrants$Blocks" "letters" "[I"] ++ wsX00)
def wsX0_putReport : List Cond := .code yX0_putReport cX0_putReport 3 none :: ([.fieldLink RX0 25 "UpwardGrants$Blocks" "report" "[I"] ++ wsX00)
def wsX0_reportOf : List Cond := .code yX0_reportOf cX0_reportOf 2 (some .int) :: ([.fieldLink RX0 25 "UpwardGrants$Blocks" "report" "[I"] ++ wsX00)
def wsX0_content : List Cond := .code yX0_content cX0_content 2 (some .int) :: ([.methodLink RX0 31 yX0_allLetters, .instanceMethod yX0_allLetters, .selects RX0 yX0_allLetters yX0_allLetters, .initialized RX0, .code yX0_allLetters cX0_allLetters 5 (some .int), .fieldLink RX0 28 "UpwardGrants$Blocks" "letters" "[I", .methodLink RX0 35 yX0_reportOf, .instanceMethod yX0_reportOf, .selects RX0 yX0_reportOf yX0_reportOf, .code yX0_reportOf cX0_reportOf 2 (some .int), .fieldLink RX0 25 "UpwardGrants$Blocks" "report" "[I"] ++ wsX00)
def wsX0_countSending : List Cond := .code yX0_countSending cX0_countSending 2 (some .int) :: ([.fieldLink RX0 22 "UpwardGrants$Blocks" "sent" "[I"] ++ wsX00)
def wsX0_putDue : List Cond := .code yX0_putDue cX0_putDue 3 none :: ([.fieldLink RX0 19 "UpwardGrants$Blocks" "due" "[I"] ++ wsX00)
def wsX0_markGone : List Cond := .code yX0_markGone cX0_markGone 2 none :: ([.fieldLink RX0 19 "UpwardGrants$Blocks" "due" "[I"] ++ wsX00)
def wsX0_move : List Cond := .code yX0_move cX0_move 4 none :: ([.fieldLink RX0 15 "UpwardGrants$Blocks" "terminal" "[I", .fieldLink RX0 19 "UpwardGrants$Blocks" "due" "[I", .fieldLink RX0 22 "UpwardGrants$Blocks" "sent" "[I", .fieldLink RX0 25 "UpwardGrants$Blocks" "report" "[I", .fieldLink RX0 28 "UpwardGrants$Blocks" "letters" "[I"] ++ wsX00)
def wsX0_dropGone : List Cond := .code yX0_dropGone cX0_dropGone 3 none :: ([.fieldLink RX0 9 "UpwardGrants$Blocks" "size" "I", .fieldLink RX0 19 "UpwardGrants$Blocks" "due" "[I", .methodLink RX0 38 yX0_move, .instanceMethod yX0_move, .selects RX0 yX0_move yX0_move, .initialized RX0, .code yX0_move cX0_move 4 none, .fieldLink RX0 15 "UpwardGrants$Blocks" "terminal" "[I", .fieldLink RX0 22 "UpwardGrants$Blocks" "sent" "[I", .fieldLink RX0 25 "UpwardGrants$Blocks" "report" "[I", .fieldLink RX0 28 "UpwardGrants$Blocks" "letters" "[I"] ++ wsX00)
def wsX0_isEarlier : List Cond := .code yX0_isEarlier cX0_isEarlier 3 (some .boolean) :: ([.fieldLink RX0 19 "UpwardGrants$Blocks" "due" "[I", .fieldLink RX0 15 "UpwardGrants$Blocks" "terminal" "[I"] ++ wsX00)
def wsX0_placeOf : List Cond := .code yX0_placeOf cX0_placeOf 5 (some .int) :: ([.fieldLink RX0 9 "UpwardGrants$Blocks" "size" "I", .methodLink RX0 42 yX0_isEarlier, .instanceMethod yX0_isEarlier, .selects RX0 yX0_isEarlier yX0_isEarlier, .initialized RX0, .code yX0_isEarlier cX0_isEarlier 3 (some .boolean), .fieldLink RX0 19 "UpwardGrants$Blocks" "due" "[I", .fieldLink RX0 15 "UpwardGrants$Blocks" "terminal" "[I"] ++ wsX00)
def wsX0_told : List Cond := .code yX0_told cX0_told 3 (some .int) :: ([.fieldLink RX0 15 "UpwardGrants$Blocks" "terminal" "[I", .fieldLink RX0 19 "UpwardGrants$Blocks" "due" "[I", .fieldLink RX0 22 "UpwardGrants$Blocks" "sent" "[I", .fieldLink RX0 25 "UpwardGrants$Blocks" "report" "[I", .methodLink RX0 46 yX0_content, .instanceMethod yX0_content, .selects RX0 yX0_content yX0_content, .initialized RX0, .code yX0_content cX0_content 2 (some .int), .methodLink RX0 31 yX0_allLetters, .instanceMethod yX0_allLetters, .selects RX0 yX0_allLetters yX0_allLetters, .code yX0_allLetters cX0_allLetters 5 (some .int), .fieldLink RX0 28 "UpwardGrants$Blocks" "letters" "[I", .methodLink RX0 35 yX0_reportOf, .instanceMethod yX0_reportOf, .selects RX0 yX0_reportOf yX0_reportOf, .code yX0_reportOf cX0_reportOf 2 (some .int)] ++ wsX00)
def wsX0_lettersOnTheWay : List Cond := .code yX0_lettersOnTheWay cX0_lettersOnTheWay 4 (some .int) :: ([.fieldLink RX0 9 "UpwardGrants$Blocks" "size" "I", .methodLink RX0 49 yX0_lettersOf, .instanceMethod yX0_lettersOf, .selects RX0 yX0_lettersOf yX0_lettersOf, .initialized RX0, .code yX0_lettersOf cX0_lettersOf 4 (some .int), .fieldLink RX0 28 "UpwardGrants$Blocks" "letters" "[I"] ++ wsX00)
def wsX0_blocksOf : List Cond := .code yX0_blocksOf cX0_blocksOf 4 (some .int) :: ([.fieldLink RX0 9 "UpwardGrants$Blocks" "size" "I", .fieldLink RX0 15 "UpwardGrants$Blocks" "terminal" "[I"] ++ wsX00)
def wsX7_copyRow : List Cond := .code yX7_copyRow cX7_copyRow 2 none :: ([.methodLink RX7 254 Lib.Math.min.name, .static Lib.Math.min.name, .initialized "java/lang/Math", .code Lib.Math.min.name Lib.Math.min.code 2 (some .int), .methodLink RX7 259 arraycopyName, .native arraycopyName, .static arraycopyName, .initialized "java/lang/System"])
def wsX0_copyFrom : List Cond := .code yX0_copyFrom cX0_copyFrom 2 none :: ([.fieldLink RX0 9 "UpwardGrants$Blocks" "size" "I", .fieldLink RX0 15 "UpwardGrants$Blocks" "terminal" "[I", .fieldLink RX0 19 "UpwardGrants$Blocks" "due" "[I", .fieldLink RX0 22 "UpwardGrants$Blocks" "sent" "[I", .fieldLink RX0 25 "UpwardGrants$Blocks" "report" "[I", .fieldLink RX0 28 "UpwardGrants$Blocks" "letters" "[I", .static yX7_copyRow, .initialized RX7, .code yX7_copyRow cX7_copyRow 2 none, .methodLink RX7 254 Lib.Math.min.name, .static Lib.Math.min.name, .initialized "java/lang/Math", .code Lib.Math.min.name Lib.Math.min.code 2 (some .int), .methodLink RX7 259 arraycopyName, .native arraycopyName, .static arraycopyName, .initialized "java/lang/System"] ++ wsX00)
def wsX4_init_r1 : List Cond := [Cond.methodLink RX4 3 objectInit, Cond.instanceMethod objectInit, Cond.code objectInit ⟨#[0xb1]⟩ 1 none, Cond.arrayClass .int, Cond.fieldLink RX4 9 "UpwardGrants$State" "wants" "[I", Cond.fieldLink RX4 15 "UpwardGrants$State" "bannedTill" "[I", Cond.fieldLink RX4 18 "UpwardGrants$State" "asked" "[I", Cond.fieldLink RX4 21 "UpwardGrants$State" "thought" "[I", Cond.fieldLink RX4 24 "UpwardGrants$State" "asks" "[I", Cond.fieldLink RX4 27 "UpwardGrants$State" "granted" "[I", Cond.fieldLink RX4 30 "UpwardGrants$State" "waits" "[I", Cond.fieldLink RX4 33 "UpwardGrants$State" "tokens" "[I", Cond.fieldLink RX4 36 "UpwardGrants$State" "through" "[I", Cond.fieldLink RX4 39 "UpwardGrants$State" "lost" "[I", Cond.fieldLink RX4 42 "UpwardGrants$State" "deafBits" "[I", Cond.classLink RX4 45 RX0, Cond.instantiable RX0 6, Cond.initialized RX0, Cond.fieldLink RX4 48 "UpwardGrants$State" "blocks" "LUpwardGrants$Blocks;", Cond.instanceMethod yX0_init, Cond.code yX0_init cX0_init 1 none, Cond.methodLink RX0 3 objectInit, Cond.fieldLink RX0 9 "UpwardGrants$Blocks" "size" "I", Cond.fieldLink RX0 15 "UpwardGrants$Blocks" "terminal" "[I"]
def wsX4_init_r2 : List Cond := [Cond.fieldLink RX0 19 "UpwardGrants$Blocks" "due" "[I", Cond.fieldLink RX0 22 "UpwardGrants$Blocks" "sent" "[I", Cond.fieldLink RX0 25 "UpwardGrants$Blocks" "report" "[I", Cond.fieldLink RX0 28 "UpwardGrants$Blocks" "letters" "[I"]
def wsX4_init : List Cond := .code yX4_init cX4_init 1 none :: ((wsX4_init_r1 ++ wsX4_init_r2) ++ wsX40 ++ wsX00)
def wsX1_init_r1 : List Cond := [Cond.methodLink RX1 3 objectInit, Cond.instanceMethod objectInit, Cond.code objectInit ⟨#[0xb1]⟩ 1 none, Cond.fieldLink RX1 9 "UpwardGrants$History" "known" "I", Cond.fieldLink RX1 15 "UpwardGrants$History" "newest" "I", Cond.classLink RX1 18 RX4, Cond.fieldLink RX1 20 "UpwardGrants$History" "before" "[LUpwardGrants$State;", Cond.instantiable RX4 15, Cond.initialized RX4, Cond.instanceMethod yX4_init, Cond.code yX4_init cX4_init 1 none, Cond.methodLink RX4 3 objectInit, Cond.arrayClass .int, Cond.fieldLink RX4 9 "UpwardGrants$State" "wants" "[I", Cond.fieldLink RX4 15 "UpwardGrants$State" "bannedTill" "[I", Cond.fieldLink RX4 18 "UpwardGrants$State" "asked" "[I", Cond.fieldLink RX4 21 "UpwardGrants$State" "thought" "[I", Cond.fieldLink RX4 24 "UpwardGrants$State" "asks" "[I", Cond.fieldLink RX4 27 "UpwardGrants$State" "granted" "[I", Cond.fieldLink RX4 30 "UpwardGrants$State" "waits" "[I", Cond.fieldLink RX4 33 "UpwardGrants$State" "tokens" "[I", Cond.fieldLink RX4 36 "UpwardGrants$State" "through" "[I", Cond.fieldLink RX4 39 "UpwardGrants$State" "lost" "[I", Cond.fieldLink RX4 42 "UpwardGrants$State" "deafBits" "[I"]
def wsX1_init_r2 : List Cond := [Cond.classLink RX4 45 RX0, Cond.instantiable RX0 6, Cond.initialized RX0, Cond.fieldLink RX4 48 "UpwardGrants$State" "blocks" "LUpwardGrants$Blocks;", Cond.instanceMethod yX0_init, Cond.code yX0_init cX0_init 1 none, Cond.methodLink RX0 3 objectInit, Cond.fieldLink RX0 9 "UpwardGrants$Blocks" "size" "I", Cond.fieldLink RX0 15 "UpwardGrants$Blocks" "terminal" "[I", Cond.fieldLink RX0 19 "UpwardGrants$Blocks" "due" "[I", Cond.fieldLink RX0 22 "UpwardGrants$Blocks" "sent" "[I", Cond.fieldLink RX0 25 "UpwardGrants$Blocks" "report" "[I", Cond.fieldLink RX0 28 "UpwardGrants$Blocks" "letters" "[I"]
def wsX1_init : List Cond := .code yX1_init cX1_init 2 none :: ((wsX1_init_r1 ++ wsX1_init_r2) ++ wsX10 ++ wsX40 ++ wsX00)
def wsX7_isWithin : List Cond := .code yX7_isWithin cX7_isWithin 3 (some .boolean) :: ([])
def wsX1_rowAt : List Cond := .code yX1_rowAt cX1_rowAt 2 (some (.object "UpwardGrants$State")) :: ([.fieldLink RX1 20 "UpwardGrants$History" "before" "[LUpwardGrants$State;", .static yX7_isWithin, .initialized RX7, .code yX7_isWithin cX7_isWithin 3 (some .boolean)] ++ wsX10)
def wsX4_copyFrom_r1 : List Cond := [Cond.fieldLink RX4 52 "UpwardGrants$State" "now" "I", Cond.fieldLink RX4 56 "UpwardGrants$State" "room" "I", Cond.fieldLink RX4 59 "UpwardGrants$State" "last" "I", Cond.fieldLink RX4 9 "UpwardGrants$State" "wants" "[I", Cond.fieldLink RX4 15 "UpwardGrants$State" "bannedTill" "[I", Cond.fieldLink RX4 18 "UpwardGrants$State" "asked" "[I", Cond.fieldLink RX4 21 "UpwardGrants$State" "thought" "[I", Cond.fieldLink RX4 24 "UpwardGrants$State" "asks" "[I", Cond.fieldLink RX4 27 "UpwardGrants$State" "granted" "[I", Cond.fieldLink RX4 30 "UpwardGrants$State" "waits" "[I", Cond.fieldLink RX4 33 "UpwardGrants$State" "tokens" "[I", Cond.fieldLink RX4 36 "UpwardGrants$State" "through" "[I", Cond.fieldLink RX4 39 "UpwardGrants$State" "lost" "[I", Cond.fieldLink RX4 42 "UpwardGrants$State" "deafBits" "[I", Cond.fieldLink RX4 48 "UpwardGrants$State" "blocks" "LUpwardGrants$Blocks;", Cond.static yX7_copyRow, Cond.initialized RX7, Cond.code yX7_copyRow cX7_copyRow 2 none, Cond.methodLink RX7 254 Lib.Math.min.name, Cond.static Lib.Math.min.name, Cond.initialized "java/lang/Math", Cond.code Lib.Math.min.name Lib.Math.min.code 2 (some .int), Cond.methodLink RX7 259 arraycopyName, Cond.native arraycopyName]
def wsX4_copyFrom_r2 : List Cond := [Cond.static arraycopyName, Cond.initialized "java/lang/System", Cond.methodLink RX4 75 yX0_copyFrom, Cond.instanceMethod yX0_copyFrom, Cond.selects RX0 yX0_copyFrom yX0_copyFrom, Cond.initialized RX0, Cond.code yX0_copyFrom cX0_copyFrom 2 none, Cond.fieldLink RX0 9 "UpwardGrants$Blocks" "size" "I", Cond.fieldLink RX0 15 "UpwardGrants$Blocks" "terminal" "[I", Cond.fieldLink RX0 19 "UpwardGrants$Blocks" "due" "[I", Cond.fieldLink RX0 22 "UpwardGrants$Blocks" "sent" "[I", Cond.fieldLink RX0 25 "UpwardGrants$Blocks" "report" "[I", Cond.fieldLink RX0 28 "UpwardGrants$Blocks" "letters" "[I"]
def wsX4_copyFrom : List Cond := .code yX4_copyFrom cX4_copyFrom 2 none :: ((wsX4_copyFrom_r1 ++ wsX4_copyFrom_r2) ++ wsX40 ++ wsX00)
def wsX1_remember_r1 : List Cond := [Cond.fieldLink RX1 15 "UpwardGrants$History" "newest" "I", Cond.fieldLink RX1 9 "UpwardGrants$History" "known" "I", Cond.methodLink RX1 33 Lib.Math.min.name, Cond.static Lib.Math.min.name, Cond.initialized "java/lang/Math", Cond.code Lib.Math.min.name Lib.Math.min.code 2 (some .int), Cond.methodLink RX1 25 yX1_rowAt, Cond.instanceMethod yX1_rowAt, Cond.selects RX1 yX1_rowAt yX1_rowAt, Cond.initialized RX1, Cond.code yX1_rowAt cX1_rowAt 2 (some (.object "UpwardGrants$State")), Cond.fieldLink RX1 20 "UpwardGrants$History" "before" "[LUpwardGrants$State;", Cond.static yX7_isWithin, Cond.initialized RX7, Cond.code yX7_isWithin cX7_isWithin 3 (some .boolean), Cond.methodLink RX1 29 yX4_copyFrom, Cond.instanceMethod yX4_copyFrom, Cond.selects RX4 yX4_copyFrom yX4_copyFrom, Cond.initialized RX4, Cond.code yX4_copyFrom cX4_copyFrom 2 none, Cond.fieldLink RX4 52 "UpwardGrants$State" "now" "I", Cond.fieldLink RX4 56 "UpwardGrants$State" "room" "I", Cond.fieldLink RX4 59 "UpwardGrants$State" "last" "I", Cond.fieldLink RX4 9 "UpwardGrants$State" "wants" "[I"]
def wsX1_remember_r2 : List Cond := [Cond.fieldLink RX4 15 "UpwardGrants$State" "bannedTill" "[I", Cond.fieldLink RX4 18 "UpwardGrants$State" "asked" "[I", Cond.fieldLink RX4 21 "UpwardGrants$State" "thought" "[I", Cond.fieldLink RX4 24 "UpwardGrants$State" "asks" "[I", Cond.fieldLink RX4 27 "UpwardGrants$State" "granted" "[I", Cond.fieldLink RX4 30 "UpwardGrants$State" "waits" "[I", Cond.fieldLink RX4 33 "UpwardGrants$State" "tokens" "[I", Cond.fieldLink RX4 36 "UpwardGrants$State" "through" "[I", Cond.fieldLink RX4 39 "UpwardGrants$State" "lost" "[I", Cond.fieldLink RX4 42 "UpwardGrants$State" "deafBits" "[I", Cond.fieldLink RX4 48 "UpwardGrants$State" "blocks" "LUpwardGrants$Blocks;", Cond.static yX7_copyRow, Cond.code yX7_copyRow cX7_copyRow 2 none, Cond.methodLink RX7 254 Lib.Math.min.name, Cond.methodLink RX7 259 arraycopyName, Cond.native arraycopyName, Cond.static arraycopyName, Cond.initialized "java/lang/System", Cond.methodLink RX4 75 yX0_copyFrom, Cond.instanceMethod yX0_copyFrom, Cond.selects RX0 yX0_copyFrom yX0_copyFrom, Cond.initialized RX0, Cond.code yX0_copyFrom cX0_copyFrom 2 none, Cond.fieldLink RX0 9 "UpwardGrants$Blocks" "size" "I"]
def wsX1_remember_r3 : List Cond := [Cond.fieldLink RX0 15 "UpwardGrants$Blocks" "terminal" "[I", Cond.fieldLink RX0 19 "UpwardGrants$Blocks" "due" "[I", Cond.fieldLink RX0 22 "UpwardGrants$Blocks" "sent" "[I", Cond.fieldLink RX0 25 "UpwardGrants$Blocks" "report" "[I", Cond.fieldLink RX0 28 "UpwardGrants$Blocks" "letters" "[I"]
def wsX1_remember : List Cond := .code yX1_remember cX1_remember 3 none :: ((wsX1_remember_r1 ++ (wsX1_remember_r2 ++ wsX1_remember_r3)) ++ wsX10 ++ wsX40 ++ wsX00)
def wsX1_takeBack_r1 : List Cond := [Cond.fieldLink RX1 15 "UpwardGrants$History" "newest" "I", Cond.fieldLink RX1 9 "UpwardGrants$History" "known" "I", Cond.methodLink RX1 25 yX1_rowAt, Cond.instanceMethod yX1_rowAt, Cond.selects RX1 yX1_rowAt yX1_rowAt, Cond.initialized RX1, Cond.code yX1_rowAt cX1_rowAt 2 (some (.object "UpwardGrants$State")), Cond.fieldLink RX1 20 "UpwardGrants$History" "before" "[LUpwardGrants$State;", Cond.static yX7_isWithin, Cond.initialized RX7, Cond.code yX7_isWithin cX7_isWithin 3 (some .boolean), Cond.methodLink RX1 29 yX4_copyFrom, Cond.instanceMethod yX4_copyFrom, Cond.selects RX4 yX4_copyFrom yX4_copyFrom, Cond.initialized RX4, Cond.code yX4_copyFrom cX4_copyFrom 2 none, Cond.fieldLink RX4 52 "UpwardGrants$State" "now" "I", Cond.fieldLink RX4 56 "UpwardGrants$State" "room" "I", Cond.fieldLink RX4 59 "UpwardGrants$State" "last" "I", Cond.fieldLink RX4 9 "UpwardGrants$State" "wants" "[I", Cond.fieldLink RX4 15 "UpwardGrants$State" "bannedTill" "[I", Cond.fieldLink RX4 18 "UpwardGrants$State" "asked" "[I", Cond.fieldLink RX4 21 "UpwardGrants$State" "thought" "[I", Cond.fieldLink RX4 24 "UpwardGrants$State" "asks" "[I"]
def wsX1_takeBack_r2 : List Cond := [Cond.fieldLink RX4 27 "UpwardGrants$State" "granted" "[I", Cond.fieldLink RX4 30 "UpwardGrants$State" "waits" "[I", Cond.fieldLink RX4 33 "UpwardGrants$State" "tokens" "[I", Cond.fieldLink RX4 36 "UpwardGrants$State" "through" "[I", Cond.fieldLink RX4 39 "UpwardGrants$State" "lost" "[I", Cond.fieldLink RX4 42 "UpwardGrants$State" "deafBits" "[I", Cond.fieldLink RX4 48 "UpwardGrants$State" "blocks" "LUpwardGrants$Blocks;", Cond.static yX7_copyRow, Cond.code yX7_copyRow cX7_copyRow 2 none, Cond.methodLink RX7 254 Lib.Math.min.name, Cond.static Lib.Math.min.name, Cond.initialized "java/lang/Math", Cond.code Lib.Math.min.name Lib.Math.min.code 2 (some .int), Cond.methodLink RX7 259 arraycopyName, Cond.native arraycopyName, Cond.static arraycopyName, Cond.initialized "java/lang/System", Cond.methodLink RX4 75 yX0_copyFrom, Cond.instanceMethod yX0_copyFrom, Cond.selects RX0 yX0_copyFrom yX0_copyFrom, Cond.initialized RX0, Cond.code yX0_copyFrom cX0_copyFrom 2 none, Cond.fieldLink RX0 9 "UpwardGrants$Blocks" "size" "I", Cond.fieldLink RX0 15 "UpwardGrants$Blocks" "terminal" "[I"]
def wsX1_takeBack_r3 : List Cond := [Cond.fieldLink RX0 19 "UpwardGrants$Blocks" "due" "[I", Cond.fieldLink RX0 22 "UpwardGrants$Blocks" "sent" "[I", Cond.fieldLink RX0 25 "UpwardGrants$Blocks" "report" "[I", Cond.fieldLink RX0 28 "UpwardGrants$Blocks" "letters" "[I"]
def wsX1_takeBack : List Cond := .code yX1_takeBack cX1_takeBack 3 (some .boolean) :: ((wsX1_takeBack_r1 ++ (wsX1_takeBack_r2 ++ wsX1_takeBack_r3)) ++ wsX10 ++ wsX40 ++ wsX00)
def wsX2_init_r1 : List Cond := [Cond.methodLink RX2 1 objectInit, Cond.instanceMethod objectInit, Cond.code objectInit ⟨#[0xb1]⟩ 1 none, Cond.fieldLink RX2 7 "UpwardGrants$Image" "there" "Z", Cond.classLink RX2 13 RX4, Cond.instantiable RX4 15, Cond.initialized RX4, Cond.fieldLink RX2 16 "UpwardGrants$Image" "state" "LUpwardGrants$State;", Cond.instanceMethod yX4_init, Cond.code yX4_init cX4_init 1 none, Cond.methodLink RX4 3 objectInit, Cond.arrayClass .int, Cond.fieldLink RX4 9 "UpwardGrants$State" "wants" "[I", Cond.fieldLink RX4 15 "UpwardGrants$State" "bannedTill" "[I", Cond.fieldLink RX4 18 "UpwardGrants$State" "asked" "[I", Cond.fieldLink RX4 21 "UpwardGrants$State" "thought" "[I", Cond.fieldLink RX4 24 "UpwardGrants$State" "asks" "[I", Cond.fieldLink RX4 27 "UpwardGrants$State" "granted" "[I", Cond.fieldLink RX4 30 "UpwardGrants$State" "waits" "[I", Cond.fieldLink RX4 33 "UpwardGrants$State" "tokens" "[I", Cond.fieldLink RX4 36 "UpwardGrants$State" "through" "[I", Cond.fieldLink RX4 39 "UpwardGrants$State" "lost" "[I", Cond.fieldLink RX4 42 "UpwardGrants$State" "deafBits" "[I", Cond.classLink RX4 45 RX0]
def wsX2_init_r2 : List Cond := [Cond.instantiable RX0 6, Cond.initialized RX0, Cond.fieldLink RX4 48 "UpwardGrants$State" "blocks" "LUpwardGrants$Blocks;", Cond.instanceMethod yX0_init, Cond.code yX0_init cX0_init 1 none, Cond.methodLink RX0 3 objectInit, Cond.fieldLink RX0 9 "UpwardGrants$Blocks" "size" "I", Cond.fieldLink RX0 15 "UpwardGrants$Blocks" "terminal" "[I", Cond.fieldLink RX0 19 "UpwardGrants$Blocks" "due" "[I", Cond.fieldLink RX0 22 "UpwardGrants$Blocks" "sent" "[I", Cond.fieldLink RX0 25 "UpwardGrants$Blocks" "report" "[I", Cond.fieldLink RX0 28 "UpwardGrants$Blocks" "letters" "[I"]
def wsX2_init : List Cond := .code yX2_init cX2_init 1 none :: ((wsX2_init_r1 ++ wsX2_init_r2) ++ wsX20 ++ wsX40 ++ wsX00)
def wsX2_take_r1 : List Cond := [Cond.fieldLink RX2 16 "UpwardGrants$Image" "state" "LUpwardGrants$State;", Cond.fieldLink RX2 7 "UpwardGrants$Image" "there" "Z", Cond.methodLink RX2 20 yX4_copyFrom, Cond.instanceMethod yX4_copyFrom, Cond.selects RX4 yX4_copyFrom yX4_copyFrom, Cond.initialized RX4, Cond.code yX4_copyFrom cX4_copyFrom 2 none, Cond.fieldLink RX4 52 "UpwardGrants$State" "now" "I", Cond.fieldLink RX4 56 "UpwardGrants$State" "room" "I", Cond.fieldLink RX4 59 "UpwardGrants$State" "last" "I", Cond.fieldLink RX4 9 "UpwardGrants$State" "wants" "[I", Cond.fieldLink RX4 15 "UpwardGrants$State" "bannedTill" "[I", Cond.fieldLink RX4 18 "UpwardGrants$State" "asked" "[I", Cond.fieldLink RX4 21 "UpwardGrants$State" "thought" "[I", Cond.fieldLink RX4 24 "UpwardGrants$State" "asks" "[I", Cond.fieldLink RX4 27 "UpwardGrants$State" "granted" "[I", Cond.fieldLink RX4 30 "UpwardGrants$State" "waits" "[I", Cond.fieldLink RX4 33 "UpwardGrants$State" "tokens" "[I", Cond.fieldLink RX4 36 "UpwardGrants$State" "through" "[I", Cond.fieldLink RX4 39 "UpwardGrants$State" "lost" "[I", Cond.fieldLink RX4 42 "UpwardGrants$State" "deafBits" "[I", Cond.fieldLink RX4 48 "UpwardGrants$State" "blocks" "LUpwardGrants$Blocks;", Cond.static yX7_copyRow, Cond.initialized RX7]
def wsX2_take_r2 : List Cond := [Cond.code yX7_copyRow cX7_copyRow 2 none, Cond.methodLink RX7 254 Lib.Math.min.name, Cond.static Lib.Math.min.name, Cond.initialized "java/lang/Math", Cond.code Lib.Math.min.name Lib.Math.min.code 2 (some .int), Cond.methodLink RX7 259 arraycopyName, Cond.native arraycopyName, Cond.static arraycopyName, Cond.initialized "java/lang/System", Cond.methodLink RX4 75 yX0_copyFrom, Cond.instanceMethod yX0_copyFrom, Cond.selects RX0 yX0_copyFrom yX0_copyFrom, Cond.initialized RX0, Cond.code yX0_copyFrom cX0_copyFrom 2 none, Cond.fieldLink RX0 9 "UpwardGrants$Blocks" "size" "I", Cond.fieldLink RX0 15 "UpwardGrants$Blocks" "terminal" "[I", Cond.fieldLink RX0 19 "UpwardGrants$Blocks" "due" "[I", Cond.fieldLink RX0 22 "UpwardGrants$Blocks" "sent" "[I", Cond.fieldLink RX0 25 "UpwardGrants$Blocks" "report" "[I", Cond.fieldLink RX0 28 "UpwardGrants$Blocks" "letters" "[I"]
def wsX2_take : List Cond := .code yX2_take cX2_take 2 none :: ((wsX2_take_r1 ++ wsX2_take_r2) ++ wsX20 ++ wsX40 ++ wsX00)
def wsX3_begin : List Cond := .code yX3_begin cX3_begin 1 none :: ([.fieldLink RX3 30 "UpwardGrants$Setup" "terminals" "I", .fieldLink RX3 34 "UpwardGrants$Setup" "classes" "I", .fieldLink RX3 37 "UpwardGrants$Setup" "room" "I", .fieldLink RX3 40 "UpwardGrants$Setup" "ban" "I", .fieldLink RX3 43 "UpwardGrants$Setup" "back" "I", .fieldLink RX3 46 "UpwardGrants$Setup" "tries" "I"] ++ wsX30)
def wsX3_init : List Cond := .code yX3_init cX3_init 1 none :: ([.methodLink RX3 3 objectInit, .instanceMethod objectInit, .code objectInit ⟨#[0xb1]⟩ 1 none, .arrayClass .int, .fieldLink RX3 9 "UpwardGrants$Setup" "period" "[I", .fieldLink RX3 15 "UpwardGrants$Setup" "owner" "[I", .fieldLink RX3 18 "UpwardGrants$Setup" "priority" "[I", .fieldLink RX3 21 "UpwardGrants$Setup" "rate" "[I", .fieldLink RX3 24 "UpwardGrants$Setup" "limit" "[I", .methodLink RX3 27 yX3_begin, .instanceMethod yX3_begin, .selects RX3 yX3_begin yX3_begin, .initialized RX3, .code yX3_begin cX3_begin 1 none, .fieldLink RX3 30 "UpwardGrants$Setup" "terminals" "I", .fieldLink RX3 34 "UpwardGrants$Setup" "classes" "I", .fieldLink RX3 37 "UpwardGrants$Setup" "room" "I", .fieldLink RX3 40 "UpwardGrants$Setup" "ban" "I", .fieldLink RX3 43 "UpwardGrants$Setup" "back" "I", .fieldLink RX3 46 "UpwardGrants$Setup" "tries" "I"] ++ wsX30)
def wsX3_copyFrom : List Cond := .code yX3_copyFrom cX3_copyFrom 2 none :: ([.fieldLink RX3 30 "UpwardGrants$Setup" "terminals" "I", .fieldLink RX3 34 "UpwardGrants$Setup" "classes" "I", .fieldLink RX3 37 "UpwardGrants$Setup" "room" "I", .fieldLink RX3 40 "UpwardGrants$Setup" "ban" "I", .fieldLink RX3 43 "UpwardGrants$Setup" "back" "I", .fieldLink RX3 46 "UpwardGrants$Setup" "tries" "I", .fieldLink RX3 9 "UpwardGrants$Setup" "period" "[I", .fieldLink RX3 15 "UpwardGrants$Setup" "owner" "[I", .fieldLink RX3 18 "UpwardGrants$Setup" "priority" "[I", .fieldLink RX3 21 "UpwardGrants$Setup" "rate" "[I", .fieldLink RX3 24 "UpwardGrants$Setup" "limit" "[I", .static yX7_copyRow, .initialized RX7, .code yX7_copyRow cX7_copyRow 2 none, .methodLink RX7 254 Lib.Math.min.name, .static Lib.Math.min.name, .initialized "java/lang/Math", .code Lib.Math.min.name Lib.Math.min.code 2 (some .int), .methodLink RX7 259 arraycopyName, .native arraycopyName, .static arraycopyName, .initialized "java/lang/System"] ++ wsX30)
def wsX3_isAhead : List Cond := .code yX3_isAhead cX3_isAhead 3 (some .boolean) :: ([.fieldLink RX3 18 "UpwardGrants$Setup" "priority" "[I"] ++ wsX30)
def wsX3_isPlaceToAsk : List Cond := .code yX3_isPlaceToAsk cX3_isPlaceToAsk 4 (some .boolean) :: ([.fieldLink RX3 9 "UpwardGrants$Setup" "period" "[I"] ++ wsX30)
def wsJ7_fill_53178 : List Cond := .code yJ7_fill_53178 cJ7_fill_53178 4 none :: ([])
def wsX4_begin : List Cond := .code yX4_begin cX4_begin 2 none :: ([.fieldLink RX4 52 "UpwardGrants$State" "now" "I", .fieldLink RX4 56 "UpwardGrants$State" "room" "I", .fieldLink RX4 59 "UpwardGrants$State" "last" "I", .fieldLink RX4 9 "UpwardGrants$State" "wants" "[I", .fieldLink RX4 15 "UpwardGrants$State" "bannedTill" "[I", .fieldLink RX4 18 "UpwardGrants$State" "asked" "[I", .fieldLink RX4 21 "UpwardGrants$State" "thought" "[I", .fieldLink RX4 24 "UpwardGrants$State" "asks" "[I", .fieldLink RX4 27 "UpwardGrants$State" "granted" "[I", .fieldLink RX4 30 "UpwardGrants$State" "waits" "[I", .fieldLink RX4 33 "UpwardGrants$State" "tokens" "[I", .fieldLink RX4 36 "UpwardGrants$State" "through" "[I", .fieldLink RX4 39 "UpwardGrants$State" "lost" "[I", .fieldLink RX4 42 "UpwardGrants$State" "deafBits" "[I", .fieldLink RX4 48 "UpwardGrants$State" "blocks" "LUpwardGrants$Blocks;", .fieldLink RX4 68 "UpwardGrants$Blocks" "size" "I", .methodLink RX4 62 yJ7_fill_53178, .static yJ7_fill_53178, .initialized RJ7, .code yJ7_fill_53178 cJ7_fill_53178 4 none] ++ wsX40 ++ wsX00)
def wsX4_isDeaf : List Cond := .code yX4_isDeaf cX4_isDeaf 3 (some .boolean) :: ([.fieldLink RX4 42 "UpwardGrants$State" "deafBits" "[I"] ++ wsX40)
def wsX4_makeDeaf : List Cond := .code yX4_makeDeaf cX4_makeDeaf 6 (some .int) :: ([.methodLink RX4 79 Lib.Math.max.name, .static Lib.Math.max.name, .initialized "java/lang/Math", .code Lib.Math.max.name Lib.Math.max.code 2 (some .int), .fieldLink RX4 42 "UpwardGrants$State" "deafBits" "[I", .methodLink RX4 85 yX4_isDeaf, .instanceMethod yX4_isDeaf, .selects RX4 yX4_isDeaf yX4_isDeaf, .initialized RX4, .code yX4_isDeaf cX4_isDeaf 3 (some .boolean)] ++ wsX40)
def wsX4_allThrough : List Cond := .code yX4_allThrough cX4_allThrough 3 (some .int) :: ([.fieldLink RX4 36 "UpwardGrants$State" "through" "[I"] ++ wsX40)
def wsX4_isDrained : List Cond := .code yX4_isDrained cX4_isDrained 3 (some .boolean) :: ([.fieldLink RX4 48 "UpwardGrants$State" "blocks" "LUpwardGrants$Blocks;", .fieldLink RX4 68 "UpwardGrants$Blocks" "size" "I", .fieldLink RX4 30 "UpwardGrants$State" "waits" "[I"] ++ wsX40 ++ wsX00)
def wsX5_init : List Cond := .code yX5_init cX5_init 3 none :: ([.methodLink RX5 3 objectInit, .instanceMethod objectInit, .code objectInit ⟨#[0xb1]⟩ 1 none, .fieldLink RX5 9 "UpwardGrants$Station" "left" "I", .fieldLink RX5 15 "UpwardGrants$Station" "setup" "LUpwardGrants$Setup;", .fieldLink RX5 19 "UpwardGrants$Station" "state" "LUpwardGrants$State;"] ++ wsX50)
def wsX5_waitsUpTo : List Cond := .code yX5_waitsUpTo cX5_waitsUpTo 4 (some .boolean) :: ([.fieldLink RX5 15 "UpwardGrants$Station" "setup" "LUpwardGrants$Setup;", .fieldLink RX5 45 "UpwardGrants$Setup" "classes" "I", .fieldLink RX5 23 "UpwardGrants$Setup" "owner" "[I", .fieldLink RX5 19 "UpwardGrants$Station" "state" "LUpwardGrants$State;", .fieldLink RX5 42 "UpwardGrants$State" "waits" "[I", .methodLink RX5 48 yX3_isAhead, .instanceMethod yX3_isAhead, .selects RX3 yX3_isAhead yX3_isAhead, .initialized RX3, .code yX3_isAhead cX3_isAhead 3 (some .boolean), .fieldLink RX3 18 "UpwardGrants$Setup" "priority" "[I"] ++ wsX50 ++ wsX30 ++ wsX40)
def wsX5_bring : List Cond := .code yX5_bring cX5_bring 4 none :: ([.fieldLink RX5 15 "UpwardGrants$Station" "setup" "LUpwardGrants$Setup;", .fieldLink RX5 23 "UpwardGrants$Setup" "owner" "[I", .fieldLink RX5 19 "UpwardGrants$Station" "state" "LUpwardGrants$State;", .fieldLink RX5 37 "UpwardGrants$State" "wants" "[I", .fieldLink RX5 42 "UpwardGrants$State" "waits" "[I", .static yX7_isWithin, .initialized RX7, .code yX7_isWithin cX7_isWithin 3 (some .boolean), .methodLink RX5 33 yX5_waitsUpTo, .instanceMethod yX5_waitsUpTo, .selects RX5 yX5_waitsUpTo yX5_waitsUpTo, .initialized RX5, .code yX5_waitsUpTo cX5_waitsUpTo 4 (some .boolean), .fieldLink RX5 45 "UpwardGrants$Setup" "classes" "I", .methodLink RX5 48 yX3_isAhead, .instanceMethod yX3_isAhead, .selects RX3 yX3_isAhead yX3_isAhead, .initialized RX3, .code yX3_isAhead cX3_isAhead 3 (some .boolean), .fieldLink RX3 18 "UpwardGrants$Setup" "priority" "[I"] ++ wsX50 ++ wsX30 ++ wsX40)
def wsX5_waitingAt : List Cond := .code yX5_waitingAt cX5_waitingAt 4 (some .int) :: ([.fieldLink RX5 15 "UpwardGrants$Station" "setup" "LUpwardGrants$Setup;", .fieldLink RX5 45 "UpwardGrants$Setup" "classes" "I", .fieldLink RX5 23 "UpwardGrants$Setup" "owner" "[I", .fieldLink RX5 19 "UpwardGrants$Station" "state" "LUpwardGrants$State;", .fieldLink RX5 42 "UpwardGrants$State" "waits" "[I"] ++ wsX50 ++ wsX30 ++ wsX40)
def wsX5_gainTokens : List Cond := .code yX5_gainTokens cX5_gainTokens 2 none :: ([.fieldLink RX5 15 "UpwardGrants$Station" "setup" "LUpwardGrants$Setup;", .fieldLink RX5 45 "UpwardGrants$Setup" "classes" "I", .fieldLink RX5 19 "UpwardGrants$Station" "state" "LUpwardGrants$State;", .fieldLink RX5 91 "UpwardGrants$State" "tokens" "[I", .fieldLink RX5 94 "UpwardGrants$Setup" "limit" "[I", .fieldLink RX5 97 "UpwardGrants$Setup" "rate" "[I", .methodLink RX5 100 Lib.Math.min.name, .static Lib.Math.min.name, .initialized "java/lang/Math", .code Lib.Math.min.name Lib.Math.min.code 2 (some .int)] ++ wsX50 ++ wsX30 ++ wsX40)
def wsX5_askInPlaces : List Cond := .code yX5_askInPlaces cX5_askInPlaces 3 none :: ([.fieldLink RX5 15 "UpwardGrants$Station" "setup" "LUpwardGrants$Setup;", .fieldLink RX5 106 "UpwardGrants$Setup" "terminals" "I", .fieldLink RX5 19 "UpwardGrants$Station" "state" "LUpwardGrants$State;", .fieldLink RX5 88 "UpwardGrants$State" "now" "I", .fieldLink RX5 112 "UpwardGrants$State" "bannedTill" "[I", .fieldLink RX5 37 "UpwardGrants$State" "wants" "[I", .fieldLink RX5 115 "UpwardGrants$State" "asked" "[I", .fieldLink RX5 118 "UpwardGrants$State" "asks" "[I", .fieldLink RX5 121 "UpwardGrants$Setup" "ban" "I", .methodLink RX5 109 yX3_isPlaceToAsk, .instanceMethod yX3_isPlaceToAsk, .selects RX3 yX3_isPlaceToAsk yX3_isPlaceToAsk, .initialized RX3, .code yX3_isPlaceToAsk cX3_isPlaceToAsk 4 (some .boolean), .fieldLink RX3 9 "UpwardGrants$Setup" "period" "[I"] ++ wsX50 ++ wsX30 ++ wsX40)
def wsX5_send_r1 : List Cond := [Cond.fieldLink RX5 19 "UpwardGrants$Station" "state" "LUpwardGrants$State;", Cond.fieldLink RX5 79 "UpwardGrants$State" "blocks" "LUpwardGrants$Blocks;", Cond.fieldLink RX5 88 "UpwardGrants$State" "now" "I", Cond.fieldLink RX5 143 "UpwardGrants$State" "thought" "[I", Cond.methodLink RX5 133 Lib.Math.max.name, Cond.static Lib.Math.max.name, Cond.initialized "java/lang/Math", Cond.code Lib.Math.max.name Lib.Math.max.code 2 (some .int), Cond.fieldLink RX5 187 "UpwardGrants$State" "through" "[I", Cond.fieldLink RX5 15 "UpwardGrants$Station" "setup" "LUpwardGrants$Setup;", Cond.fieldLink RX5 198 "UpwardGrants$Setup" "tries" "I", Cond.fieldLink RX5 201 "UpwardGrants$Setup" "back" "I", Cond.fieldLink RX5 37 "UpwardGrants$State" "wants" "[I", Cond.fieldLink RX5 207 "UpwardGrants$State" "lost" "[I", Cond.methodLink RX5 175 yX0_countSending, Cond.instanceMethod yX0_countSending, Cond.selects RX0 yX0_countSending yX0_countSending, Cond.initialized RX0, Cond.code yX0_countSending cX0_countSending 2 (some .int), Cond.fieldLink RX0 22 "UpwardGrants$Blocks" "sent" "[I", Cond.methodLink RX5 178 yX4_isDeaf, Cond.instanceMethod yX4_isDeaf, Cond.selects RX4 yX4_isDeaf yX4_isDeaf, Cond.initialized RX4]
def wsX5_send_r2 : List Cond := [Cond.code yX4_isDeaf cX4_isDeaf 3 (some .boolean), Cond.fieldLink RX4 42 "UpwardGrants$State" "deafBits" "[I", Cond.methodLink RX5 181 yX0_reportOf, Cond.instanceMethod yX0_reportOf, Cond.selects RX0 yX0_reportOf yX0_reportOf, Cond.code yX0_reportOf cX0_reportOf 2 (some .int), Cond.fieldLink RX0 25 "UpwardGrants$Blocks" "report" "[I", Cond.methodLink RX5 184 yX0_allLetters, Cond.instanceMethod yX0_allLetters, Cond.selects RX0 yX0_allLetters yX0_allLetters, Cond.code yX0_allLetters cX0_allLetters 5 (some .int), Cond.fieldLink RX0 28 "UpwardGrants$Blocks" "letters" "[I", Cond.methodLink RX5 190 yX0_addLettersTo, Cond.instanceMethod yX0_addLettersTo, Cond.selects RX0 yX0_addLettersTo yX0_addLettersTo, Cond.code yX0_addLettersTo cX0_addLettersTo 6 none, Cond.methodLink RX5 194 yX0_markGone, Cond.instanceMethod yX0_markGone, Cond.selects RX0 yX0_markGone yX0_markGone, Cond.code yX0_markGone cX0_markGone 2 none, Cond.fieldLink RX0 19 "UpwardGrants$Blocks" "due" "[I", Cond.methodLink RX5 204 yX0_putDue, Cond.instanceMethod yX0_putDue, Cond.selects RX0 yX0_putDue yX0_putDue]
def wsX5_send_r3 : List Cond := [Cond.code yX0_putDue cX0_putDue 3 none]
def wsX5_send : List Cond := .code yX5_send cX5_send 7 none :: ((wsX5_send_r1 ++ (wsX5_send_r2 ++ wsX5_send_r3)) ++ wsX50 ++ wsX40 ++ wsX30 ++ wsX00)
def wsX5_sendAgain_r1 : List Cond := [Cond.fieldLink RX5 15 "UpwardGrants$Station" "setup" "LUpwardGrants$Setup;", Cond.fieldLink RX5 106 "UpwardGrants$Setup" "terminals" "I", Cond.fieldLink RX5 19 "UpwardGrants$Station" "state" "LUpwardGrants$State;", Cond.fieldLink RX5 79 "UpwardGrants$State" "blocks" "LUpwardGrants$Blocks;", Cond.fieldLink RX5 124 "UpwardGrants$Blocks" "size" "I", Cond.fieldLink RX5 88 "UpwardGrants$State" "now" "I", Cond.fieldLink RX5 9 "UpwardGrants$Station" "left" "I", Cond.methodLink RX5 133 Lib.Math.max.name, Cond.static Lib.Math.max.name, Cond.initialized "java/lang/Math", Cond.code Lib.Math.max.name Lib.Math.max.code 2 (some .int), Cond.methodLink RX5 127 yX0_isDue, Cond.instanceMethod yX0_isDue, Cond.selects RX0 yX0_isDue yX0_isDue, Cond.initialized RX0, Cond.code yX0_isDue cX0_isDue 4 (some .boolean), Cond.fieldLink RX0 15 "UpwardGrants$Blocks" "terminal" "[I", Cond.fieldLink RX0 19 "UpwardGrants$Blocks" "due" "[I", Cond.methodLink RX5 130 yX0_content, Cond.instanceMethod yX0_content, Cond.selects RX0 yX0_content yX0_content, Cond.code yX0_content cX0_content 2 (some .int), Cond.methodLink RX0 31 yX0_allLetters, Cond.instanceMethod yX0_allLetters]
def wsX5_sendAgain_r2 : List Cond := [Cond.selects RX0 yX0_allLetters yX0_allLetters, Cond.code yX0_allLetters cX0_allLetters 5 (some .int), Cond.fieldLink RX0 28 "UpwardGrants$Blocks" "letters" "[I", Cond.methodLink RX0 35 yX0_reportOf, Cond.instanceMethod yX0_reportOf, Cond.selects RX0 yX0_reportOf yX0_reportOf, Cond.code yX0_reportOf cX0_reportOf 2 (some .int), Cond.fieldLink RX0 25 "UpwardGrants$Blocks" "report" "[I", Cond.methodLink RX5 136 yX5_send, Cond.instanceMethod yX5_send, Cond.selects RX5 yX5_send yX5_send, Cond.initialized RX5, Cond.code yX5_send cX5_send 7 none, Cond.fieldLink RX5 143 "UpwardGrants$State" "thought" "[I", Cond.fieldLink RX5 187 "UpwardGrants$State" "through" "[I", Cond.fieldLink RX5 198 "UpwardGrants$Setup" "tries" "I", Cond.fieldLink RX5 201 "UpwardGrants$Setup" "back" "I", Cond.fieldLink RX5 37 "UpwardGrants$State" "wants" "[I", Cond.fieldLink RX5 207 "UpwardGrants$State" "lost" "[I", Cond.methodLink RX5 175 yX0_countSending, Cond.instanceMethod yX0_countSending, Cond.selects RX0 yX0_countSending yX0_countSending, Cond.code yX0_countSending cX0_countSending 2 (some .int), Cond.fieldLink RX0 22 "UpwardGrants$Blocks" "sent" "[I"]
def wsX5_sendAgain_r3 : List Cond := [Cond.methodLink RX5 178 yX4_isDeaf, Cond.instanceMethod yX4_isDeaf, Cond.selects RX4 yX4_isDeaf yX4_isDeaf, Cond.initialized RX4, Cond.code yX4_isDeaf cX4_isDeaf 3 (some .boolean), Cond.fieldLink RX4 42 "UpwardGrants$State" "deafBits" "[I", Cond.methodLink RX5 181 yX0_reportOf, Cond.methodLink RX5 184 yX0_allLetters, Cond.methodLink RX5 190 yX0_addLettersTo, Cond.instanceMethod yX0_addLettersTo, Cond.selects RX0 yX0_addLettersTo yX0_addLettersTo, Cond.code yX0_addLettersTo cX0_addLettersTo 6 none, Cond.methodLink RX5 194 yX0_markGone, Cond.instanceMethod yX0_markGone, Cond.selects RX0 yX0_markGone yX0_markGone, Cond.code yX0_markGone cX0_markGone 2 none, Cond.methodLink RX5 204 yX0_putDue, Cond.instanceMethod yX0_putDue, Cond.selects RX0 yX0_putDue yX0_putDue, Cond.code yX0_putDue cX0_putDue 3 none]
def wsX5_sendAgain : List Cond := .code yX5_sendAgain cX5_sendAgain 3 none :: ((wsX5_sendAgain_r1 ++ (wsX5_sendAgain_r2 ++ wsX5_sendAgain_r3)) ++ wsX50 ++ wsX30 ++ wsX40 ++ wsX00)
def wsX5_takeGrant : List Cond := .code yX5_takeGrant cX5_takeGrant 4 (some .int) :: ([.fieldLink RX5 19 "UpwardGrants$Station" "state" "LUpwardGrants$State;", .fieldLink RX5 143 "UpwardGrants$State" "thought" "[I", .fieldLink RX5 9 "UpwardGrants$Station" "left" "I", .methodLink RX5 100 Lib.Math.min.name, .static Lib.Math.min.name, .initialized "java/lang/Math", .code Lib.Math.min.name Lib.Math.min.code 2 (some .int), .fieldLink RX5 115 "UpwardGrants$State" "asked" "[I", .fieldLink RX5 152 "UpwardGrants$State" "granted" "[I", .fieldLink RX5 140 "UpwardGrants$State" "last" "I"] ++ wsX50 ++ wsX40)
def wsX5_packLetters : List Cond := .code yX5_packLetters cX5_packLetters 9 (some .int) :: ([.fieldLink RX5 15 "UpwardGrants$Station" "setup" "LUpwardGrants$Setup;", .fieldLink RX5 45 "UpwardGrants$Setup" "classes" "I", .fieldLink RX5 23 "UpwardGrants$Setup" "owner" "[I", .fieldLink RX5 168 "UpwardGrants$Setup" "priority" "[I", .fieldLink RX5 19 "UpwardGrants$Station" "state" "LUpwardGrants$State;", .fieldLink RX5 42 "UpwardGrants$State" "waits" "[I", .methodLink RX5 100 Lib.Math.min.name, .static Lib.Math.min.name, .initialized "java/lang/Math", .code Lib.Math.min.name Lib.Math.min.code 2 (some .int), .fieldLink RX5 91 "UpwardGrants$State" "tokens" "[I", .fieldLink RX5 79 "UpwardGrants$State" "blocks" "LUpwardGrants$Blocks;", .methodLink RX5 171 yX0_putLetters, .instanceMethod yX0_putLetters, .selects RX0 yX0_putLetters yX0_putLetters, .initialized RX0, .code yX0_putLetters cX0_putLetters 5 none, .fieldLink RX0 28 "UpwardGrants$Blocks" "letters" "[I"] ++ wsX50 ++ wsX30 ++ wsX40 ++ wsX00)
def wsX5_pack_r1 : List Cond := [Cond.fieldLink RX5 19 "UpwardGrants$Station" "state" "LUpwardGrants$State;", Cond.fieldLink RX5 79 "UpwardGrants$State" "blocks" "LUpwardGrants$Blocks;", Cond.fieldLink RX5 37 "UpwardGrants$State" "wants" "[I", Cond.methodLink RX5 155 yX0_open, Cond.instanceMethod yX0_open, Cond.selects RX0 yX0_open yX0_open, Cond.initialized RX0, Cond.code yX0_open cX0_open 4 (some .int), Cond.fieldLink RX0 9 "UpwardGrants$Blocks" "size" "I", Cond.fieldLink RX0 15 "UpwardGrants$Blocks" "terminal" "[I", Cond.fieldLink RX0 19 "UpwardGrants$Blocks" "due" "[I", Cond.fieldLink RX0 22 "UpwardGrants$Blocks" "sent" "[I", Cond.fieldLink RX0 25 "UpwardGrants$Blocks" "report" "[I", Cond.fieldLink RX0 28 "UpwardGrants$Blocks" "letters" "[I", Cond.methodLink RX5 158 yX5_packLetters, Cond.instanceMethod yX5_packLetters, Cond.selects RX5 yX5_packLetters yX5_packLetters, Cond.initialized RX5, Cond.code yX5_packLetters cX5_packLetters 9 (some .int), Cond.fieldLink RX5 15 "UpwardGrants$Station" "setup" "LUpwardGrants$Setup;", Cond.fieldLink RX5 45 "UpwardGrants$Setup" "classes" "I", Cond.fieldLink RX5 23 "UpwardGrants$Setup" "owner" "[I", Cond.fieldLink RX5 168 "UpwardGrants$Setup" "priority" "[I", Cond.fieldLink RX5 42 "UpwardGrants$State" "waits" "[I"]
def wsX5_pack_r2 : List Cond := [Cond.methodLink RX5 100 Lib.Math.min.name, Cond.static Lib.Math.min.name, Cond.initialized "java/lang/Math", Cond.code Lib.Math.min.name Lib.Math.min.code 2 (some .int), Cond.fieldLink RX5 91 "UpwardGrants$State" "tokens" "[I", Cond.methodLink RX5 171 yX0_putLetters, Cond.instanceMethod yX0_putLetters, Cond.selects RX0 yX0_putLetters yX0_putLetters, Cond.code yX0_putLetters cX0_putLetters 5 none, Cond.methodLink RX5 162 yX5_waitingAt, Cond.instanceMethod yX5_waitingAt, Cond.selects RX5 yX5_waitingAt yX5_waitingAt, Cond.code yX5_waitingAt cX5_waitingAt 4 (some .int), Cond.methodLink RX5 165 yX0_putReport, Cond.instanceMethod yX0_putReport, Cond.selects RX0 yX0_putReport yX0_putReport, Cond.code yX0_putReport cX0_putReport 3 none, Cond.methodLink RX5 130 yX0_content, Cond.instanceMethod yX0_content, Cond.selects RX0 yX0_content yX0_content, Cond.code yX0_content cX0_content 2 (some .int), Cond.methodLink RX0 31 yX0_allLetters, Cond.instanceMethod yX0_allLetters, Cond.selects RX0 yX0_allLetters yX0_allLetters]
def wsX5_pack_r3 : List Cond := [Cond.code yX0_allLetters cX0_allLetters 5 (some .int), Cond.methodLink RX0 35 yX0_reportOf, Cond.instanceMethod yX0_reportOf, Cond.selects RX0 yX0_reportOf yX0_reportOf, Cond.code yX0_reportOf cX0_reportOf 2 (some .int), Cond.methodLink RX5 136 yX5_send, Cond.instanceMethod yX5_send, Cond.selects RX5 yX5_send yX5_send, Cond.code yX5_send cX5_send 7 none, Cond.fieldLink RX5 88 "UpwardGrants$State" "now" "I", Cond.fieldLink RX5 143 "UpwardGrants$State" "thought" "[I", Cond.methodLink RX5 133 Lib.Math.max.name, Cond.static Lib.Math.max.name, Cond.code Lib.Math.max.name Lib.Math.max.code 2 (some .int), Cond.fieldLink RX5 187 "UpwardGrants$State" "through" "[I", Cond.fieldLink RX5 198 "UpwardGrants$Setup" "tries" "I", Cond.fieldLink RX5 201 "UpwardGrants$Setup" "back" "I", Cond.fieldLink RX5 207 "UpwardGrants$State" "lost" "[I", Cond.methodLink RX5 175 yX0_countSending, Cond.instanceMethod yX0_countSending, Cond.selects RX0 yX0_countSending yX0_countSending, Cond.code yX0_countSending cX0_countSending 2 (some .int), Cond.methodLink RX5 178 yX4_isDeaf, Cond.instanceMethod yX4_isDeaf]
def wsX5_pack_r4 : List Cond := [Cond.selects RX4 yX4_isDeaf yX4_isDeaf, Cond.initialized RX4, Cond.code yX4_isDeaf cX4_isDeaf 3 (some .boolean), Cond.fieldLink RX4 42 "UpwardGrants$State" "deafBits" "[I", Cond.methodLink RX5 181 yX0_reportOf, Cond.methodLink RX5 184 yX0_allLetters, Cond.methodLink RX5 190 yX0_addLettersTo, Cond.instanceMethod yX0_addLettersTo, Cond.selects RX0 yX0_addLettersTo yX0_addLettersTo, Cond.code yX0_addLettersTo cX0_addLettersTo 6 none, Cond.methodLink RX5 194 yX0_markGone, Cond.instanceMethod yX0_markGone, Cond.selects RX0 yX0_markGone yX0_markGone, Cond.code yX0_markGone cX0_markGone 2 none, Cond.methodLink RX5 204 yX0_putDue, Cond.instanceMethod yX0_putDue, Cond.selects RX0 yX0_putDue yX0_putDue, Cond.code yX0_putDue cX0_putDue 3 none]
def wsX5_pack : List Cond := .code yX5_pack cX5_pack 6 none :: ((wsX5_pack_r1 ++ (wsX5_pack_r2 ++ (wsX5_pack_r3 ++ wsX5_pack_r4))) ++ wsX50 ++ wsX40 ++ wsX00 ++ wsX30)
def wsX5_giveGrants_r1 : List Cond := [Cond.fieldLink RX5 15 "UpwardGrants$Station" "setup" "LUpwardGrants$Setup;", Cond.fieldLink RX5 106 "UpwardGrants$Setup" "terminals" "I", Cond.fieldLink RX5 19 "UpwardGrants$Station" "state" "LUpwardGrants$State;", Cond.fieldLink RX5 140 "UpwardGrants$State" "last" "I", Cond.fieldLink RX5 9 "UpwardGrants$Station" "left" "I", Cond.fieldLink RX5 115 "UpwardGrants$State" "asked" "[I", Cond.fieldLink RX5 143 "UpwardGrants$State" "thought" "[I", Cond.methodLink RX5 146 yX5_takeGrant, Cond.instanceMethod yX5_takeGrant, Cond.selects RX5 yX5_takeGrant yX5_takeGrant, Cond.initialized RX5, Cond.code yX5_takeGrant cX5_takeGrant 4 (some .int), Cond.methodLink RX5 100 Lib.Math.min.name, Cond.static Lib.Math.min.name, Cond.initialized "java/lang/Math", Cond.code Lib.Math.min.name Lib.Math.min.code 2 (some .int), Cond.fieldLink RX5 152 "UpwardGrants$State" "granted" "[I", Cond.methodLink RX5 149 yX5_pack, Cond.instanceMethod yX5_pack, Cond.selects RX5 yX5_pack yX5_pack, Cond.code yX5_pack cX5_pack 6 none, Cond.fieldLink RX5 79 "UpwardGrants$State" "blocks" "LUpwardGrants$Blocks;", Cond.fieldLink RX5 37 "UpwardGrants$State" "wants" "[I", Cond.methodLink RX5 155 yX0_open]
def wsX5_giveGrants_r2 : List Cond := [Cond.instanceMethod yX0_open, Cond.selects RX0 yX0_open yX0_open, Cond.initialized RX0, Cond.code yX0_open cX0_open 4 (some .int), Cond.fieldLink RX0 9 "UpwardGrants$Blocks" "size" "I", Cond.fieldLink RX0 15 "UpwardGrants$Blocks" "terminal" "[I", Cond.fieldLink RX0 19 "UpwardGrants$Blocks" "due" "[I", Cond.fieldLink RX0 22 "UpwardGrants$Blocks" "sent" "[I", Cond.fieldLink RX0 25 "UpwardGrants$Blocks" "report" "[I", Cond.fieldLink RX0 28 "UpwardGrants$Blocks" "letters" "[I", Cond.methodLink RX5 158 yX5_packLetters, Cond.instanceMethod yX5_packLetters, Cond.selects RX5 yX5_packLetters yX5_packLetters, Cond.code yX5_packLetters cX5_packLetters 9 (some .int), Cond.fieldLink RX5 45 "UpwardGrants$Setup" "classes" "I", Cond.fieldLink RX5 23 "UpwardGrants$Setup" "owner" "[I", Cond.fieldLink RX5 168 "UpwardGrants$Setup" "priority" "[I", Cond.fieldLink RX5 42 "UpwardGrants$State" "waits" "[I", Cond.fieldLink RX5 91 "UpwardGrants$State" "tokens" "[I", Cond.methodLink RX5 171 yX0_putLetters, Cond.instanceMethod yX0_putLetters, Cond.selects RX0 yX0_putLetters yX0_putLetters, Cond.code yX0_putLetters cX0_putLetters 5 none, Cond.methodLink RX5 162 yX5_waitingAt]
def wsX5_giveGrants_r3 : List Cond := [Cond.instanceMethod yX5_waitingAt, Cond.selects RX5 yX5_waitingAt yX5_waitingAt, Cond.code yX5_waitingAt cX5_waitingAt 4 (some .int), Cond.methodLink RX5 165 yX0_putReport, Cond.instanceMethod yX0_putReport, Cond.selects RX0 yX0_putReport yX0_putReport, Cond.code yX0_putReport cX0_putReport 3 none, Cond.methodLink RX5 130 yX0_content, Cond.instanceMethod yX0_content, Cond.selects RX0 yX0_content yX0_content, Cond.code yX0_content cX0_content 2 (some .int), Cond.methodLink RX0 31 yX0_allLetters, Cond.instanceMethod yX0_allLetters, Cond.selects RX0 yX0_allLetters yX0_allLetters, Cond.code yX0_allLetters cX0_allLetters 5 (some .int), Cond.methodLink RX0 35 yX0_reportOf, Cond.instanceMethod yX0_reportOf, Cond.selects RX0 yX0_reportOf yX0_reportOf, Cond.code yX0_reportOf cX0_reportOf 2 (some .int), Cond.methodLink RX5 136 yX5_send, Cond.instanceMethod yX5_send, Cond.selects RX5 yX5_send yX5_send, Cond.code yX5_send cX5_send 7 none, Cond.fieldLink RX5 88 "UpwardGrants$State" "now" "I"]
def wsX5_giveGrants_r4 : List Cond := [Cond.methodLink RX5 133 Lib.Math.max.name, Cond.static Lib.Math.max.name, Cond.code Lib.Math.max.name Lib.Math.max.code 2 (some .int), Cond.fieldLink RX5 187 "UpwardGrants$State" "through" "[I", Cond.fieldLink RX5 198 "UpwardGrants$Setup" "tries" "I", Cond.fieldLink RX5 201 "UpwardGrants$Setup" "back" "I", Cond.fieldLink RX5 207 "UpwardGrants$State" "lost" "[I", Cond.methodLink RX5 175 yX0_countSending, Cond.instanceMethod yX0_countSending, Cond.selects RX0 yX0_countSending yX0_countSending, Cond.code yX0_countSending cX0_countSending 2 (some .int), Cond.methodLink RX5 178 yX4_isDeaf, Cond.instanceMethod yX4_isDeaf, Cond.selects RX4 yX4_isDeaf yX4_isDeaf, Cond.initialized RX4, Cond.code yX4_isDeaf cX4_isDeaf 3 (some .boolean), Cond.fieldLink RX4 42 "UpwardGrants$State" "deafBits" "[I", Cond.methodLink RX5 181 yX0_reportOf, Cond.methodLink RX5 184 yX0_allLetters, Cond.methodLink RX5 190 yX0_addLettersTo, Cond.instanceMethod yX0_addLettersTo, Cond.selects RX0 yX0_addLettersTo yX0_addLettersTo, Cond.code yX0_addLettersTo cX0_addLettersTo 6 none, Cond.methodLink RX5 194 yX0_markGone]
def wsX5_giveGrants_r5 : List Cond := [Cond.instanceMethod yX0_markGone, Cond.selects RX0 yX0_markGone yX0_markGone, Cond.code yX0_markGone cX0_markGone 2 none, Cond.methodLink RX5 204 yX0_putDue, Cond.instanceMethod yX0_putDue, Cond.selects RX0 yX0_putDue yX0_putDue, Cond.code yX0_putDue cX0_putDue 3 none]
def wsX5_giveGrants : List Cond := .code yX5_giveGrants cX5_giveGrants 5 none :: ((wsX5_giveGrants_r1 ++ (wsX5_giveGrants_r2 ++ (wsX5_giveGrants_r3 ++ (wsX5_giveGrants_r4 ++ wsX5_giveGrants_r5)))) ++ wsX50 ++ wsX30 ++ wsX40 ++ wsX00)
def wsX5_takeSteps_r1 : List Cond := [Cond.fieldLink RX5 19 "UpwardGrants$Station" "state" "LUpwardGrants$State;", Cond.fieldLink RX5 70 "UpwardGrants$State" "room" "I", Cond.fieldLink RX5 9 "UpwardGrants$Station" "left" "I", Cond.fieldLink RX5 79 "UpwardGrants$State" "blocks" "LUpwardGrants$Blocks;", Cond.fieldLink RX5 88 "UpwardGrants$State" "now" "I", Cond.methodLink RX5 60 yX4_allThrough, Cond.instanceMethod yX4_allThrough, Cond.selects RX4 yX4_allThrough yX4_allThrough, Cond.initialized RX4, Cond.code yX4_allThrough cX4_allThrough 3 (some .int), Cond.fieldLink RX4 36 "UpwardGrants$State" "through" "[I", Cond.methodLink RX5 64 yX5_gainTokens, Cond.instanceMethod yX5_gainTokens, Cond.selects RX5 yX5_gainTokens yX5_gainTokens, Cond.initialized RX5, Cond.code yX5_gainTokens cX5_gainTokens 2 none, Cond.fieldLink RX5 15 "UpwardGrants$Station" "setup" "LUpwardGrants$Setup;", Cond.fieldLink RX5 45 "UpwardGrants$Setup" "classes" "I", Cond.fieldLink RX5 91 "UpwardGrants$State" "tokens" "[I", Cond.fieldLink RX5 94 "UpwardGrants$Setup" "limit" "[I", Cond.fieldLink RX5 97 "UpwardGrants$Setup" "rate" "[I", Cond.methodLink RX5 100 Lib.Math.min.name, Cond.static Lib.Math.min.name, Cond.initialized "java/lang/Math"]
def wsX5_takeSteps_r2 : List Cond := [Cond.code Lib.Math.min.name Lib.Math.min.code 2 (some .int), Cond.methodLink RX5 67 yX5_askInPlaces, Cond.instanceMethod yX5_askInPlaces, Cond.selects RX5 yX5_askInPlaces yX5_askInPlaces, Cond.code yX5_askInPlaces cX5_askInPlaces 3 none, Cond.fieldLink RX5 106 "UpwardGrants$Setup" "terminals" "I", Cond.fieldLink RX5 112 "UpwardGrants$State" "bannedTill" "[I", Cond.fieldLink RX5 37 "UpwardGrants$State" "wants" "[I", Cond.fieldLink RX5 115 "UpwardGrants$State" "asked" "[I", Cond.fieldLink RX5 118 "UpwardGrants$State" "asks" "[I", Cond.fieldLink RX5 121 "UpwardGrants$Setup" "ban" "I", Cond.methodLink RX5 109 yX3_isPlaceToAsk, Cond.instanceMethod yX3_isPlaceToAsk, Cond.selects RX3 yX3_isPlaceToAsk yX3_isPlaceToAsk, Cond.initialized RX3, Cond.code yX3_isPlaceToAsk cX3_isPlaceToAsk 4 (some .boolean), Cond.fieldLink RX3 9 "UpwardGrants$Setup" "period" "[I", Cond.methodLink RX5 73 yX5_sendAgain, Cond.instanceMethod yX5_sendAgain, Cond.selects RX5 yX5_sendAgain yX5_sendAgain, Cond.code yX5_sendAgain cX5_sendAgain 3 none, Cond.fieldLink RX5 124 "UpwardGrants$Blocks" "size" "I", Cond.methodLink RX5 133 Lib.Math.max.name, Cond.static Lib.Math.max.name]
def wsX5_takeSteps_r3 : List Cond := [Cond.code Lib.Math.max.name Lib.Math.max.code 2 (some .int), Cond.methodLink RX5 127 yX0_isDue, Cond.instanceMethod yX0_isDue, Cond.selects RX0 yX0_isDue yX0_isDue, Cond.initialized RX0, Cond.code yX0_isDue cX0_isDue 4 (some .boolean), Cond.fieldLink RX0 15 "UpwardGrants$Blocks" "terminal" "[I", Cond.fieldLink RX0 19 "UpwardGrants$Blocks" "due" "[I", Cond.methodLink RX5 130 yX0_content, Cond.instanceMethod yX0_content, Cond.selects RX0 yX0_content yX0_content, Cond.code yX0_content cX0_content 2 (some .int), Cond.methodLink RX0 31 yX0_allLetters, Cond.instanceMethod yX0_allLetters, Cond.selects RX0 yX0_allLetters yX0_allLetters, Cond.code yX0_allLetters cX0_allLetters 5 (some .int), Cond.fieldLink RX0 28 "UpwardGrants$Blocks" "letters" "[I", Cond.methodLink RX0 35 yX0_reportOf, Cond.instanceMethod yX0_reportOf, Cond.selects RX0 yX0_reportOf yX0_reportOf, Cond.code yX0_reportOf cX0_reportOf 2 (some .int), Cond.fieldLink RX0 25 "UpwardGrants$Blocks" "report" "[I", Cond.methodLink RX5 136 yX5_send, Cond.instanceMethod yX5_send]
def wsX5_takeSteps_r4 : List Cond := [Cond.selects RX5 yX5_send yX5_send, Cond.code yX5_send cX5_send 7 none, Cond.fieldLink RX5 143 "UpwardGrants$State" "thought" "[I", Cond.fieldLink RX5 187 "UpwardGrants$State" "through" "[I", Cond.fieldLink RX5 198 "UpwardGrants$Setup" "tries" "I", Cond.fieldLink RX5 201 "UpwardGrants$Setup" "back" "I", Cond.fieldLink RX5 207 "UpwardGrants$State" "lost" "[I", Cond.methodLink RX5 175 yX0_countSending, Cond.instanceMethod yX0_countSending, Cond.selects RX0 yX0_countSending yX0_countSending, Cond.code yX0_countSending cX0_countSending 2 (some .int), Cond.fieldLink RX0 22 "UpwardGrants$Blocks" "sent" "[I", Cond.methodLink RX5 178 yX4_isDeaf, Cond.instanceMethod yX4_isDeaf, Cond.selects RX4 yX4_isDeaf yX4_isDeaf, Cond.code yX4_isDeaf cX4_isDeaf 3 (some .boolean), Cond.fieldLink RX4 42 "UpwardGrants$State" "deafBits" "[I", Cond.methodLink RX5 181 yX0_reportOf, Cond.methodLink RX5 184 yX0_allLetters, Cond.methodLink RX5 190 yX0_addLettersTo, Cond.instanceMethod yX0_addLettersTo, Cond.selects RX0 yX0_addLettersTo yX0_addLettersTo, Cond.code yX0_addLettersTo cX0_addLettersTo 6 none, Cond.methodLink RX5 194 yX0_markGone]
def wsX5_takeSteps_r5 : List Cond := [Cond.instanceMethod yX0_markGone, Cond.selects RX0 yX0_markGone yX0_markGone, Cond.code yX0_markGone cX0_markGone 2 none, Cond.methodLink RX5 204 yX0_putDue, Cond.instanceMethod yX0_putDue, Cond.selects RX0 yX0_putDue yX0_putDue, Cond.code yX0_putDue cX0_putDue 3 none, Cond.methodLink RX5 76 yX5_giveGrants, Cond.instanceMethod yX5_giveGrants, Cond.selects RX5 yX5_giveGrants yX5_giveGrants, Cond.code yX5_giveGrants cX5_giveGrants 5 none, Cond.fieldLink RX5 140 "UpwardGrants$State" "last" "I", Cond.methodLink RX5 146 yX5_takeGrant, Cond.instanceMethod yX5_takeGrant, Cond.selects RX5 yX5_takeGrant yX5_takeGrant, Cond.code yX5_takeGrant cX5_takeGrant 4 (some .int), Cond.fieldLink RX5 152 "UpwardGrants$State" "granted" "[I", Cond.methodLink RX5 149 yX5_pack, Cond.instanceMethod yX5_pack, Cond.selects RX5 yX5_pack yX5_pack, Cond.code yX5_pack cX5_pack 6 none, Cond.methodLink RX5 155 yX0_open, Cond.instanceMethod yX0_open, Cond.selects RX0 yX0_open yX0_open]
def wsX5_takeSteps_r6 : List Cond := [Cond.code yX0_open cX0_open 4 (some .int), Cond.fieldLink RX0 9 "UpwardGrants$Blocks" "size" "I", Cond.methodLink RX5 158 yX5_packLetters, Cond.instanceMethod yX5_packLetters, Cond.selects RX5 yX5_packLetters yX5_packLetters, Cond.code yX5_packLetters cX5_packLetters 9 (some .int), Cond.fieldLink RX5 23 "UpwardGrants$Setup" "owner" "[I", Cond.fieldLink RX5 168 "UpwardGrants$Setup" "priority" "[I", Cond.fieldLink RX5 42 "UpwardGrants$State" "waits" "[I", Cond.methodLink RX5 171 yX0_putLetters, Cond.instanceMethod yX0_putLetters, Cond.selects RX0 yX0_putLetters yX0_putLetters, Cond.code yX0_putLetters cX0_putLetters 5 none, Cond.methodLink RX5 162 yX5_waitingAt, Cond.instanceMethod yX5_waitingAt, Cond.selects RX5 yX5_waitingAt yX5_waitingAt, Cond.code yX5_waitingAt cX5_waitingAt 4 (some .int), Cond.methodLink RX5 165 yX0_putReport, Cond.instanceMethod yX0_putReport, Cond.selects RX0 yX0_putReport yX0_putReport, Cond.code yX0_putReport cX0_putReport 3 none, Cond.methodLink RX5 83 yX0_dropGone, Cond.instanceMethod yX0_dropGone, Cond.selects RX0 yX0_dropGone yX0_dropGone]
def wsX5_takeSteps_r7 : List Cond := [Cond.code yX0_dropGone cX0_dropGone 3 none, Cond.methodLink RX0 38 yX0_move, Cond.instanceMethod yX0_move, Cond.selects RX0 yX0_move yX0_move, Cond.code yX0_move cX0_move 4 none]
def wsX5_takeSteps : List Cond := .code yX5_takeSteps cX5_takeSteps 4 (some .int) :: ((wsX5_takeSteps_r1 ++ (wsX5_takeSteps_r2 ++ (wsX5_takeSteps_r3 ++ (wsX5_takeSteps_r4 ++ (wsX5_takeSteps_r5 ++ (wsX5_takeSteps_r6 ++ wsX5_takeSteps_r7)))))) ++ wsX50 ++ wsX40 ++ wsX30 ++ wsX00)
def wsX5_drainedWithin_r1 : List Cond := [Cond.fieldLink RX5 19 "UpwardGrants$Station" "state" "LUpwardGrants$State;", Cond.methodLink RX5 52 yX4_isDrained, Cond.instanceMethod yX4_isDrained, Cond.selects RX4 yX4_isDrained yX4_isDrained, Cond.initialized RX4, Cond.code yX4_isDrained cX4_isDrained 3 (some .boolean), Cond.fieldLink RX4 48 "UpwardGrants$State" "blocks" "LUpwardGrants$Blocks;", Cond.fieldLink RX4 68 "UpwardGrants$Blocks" "size" "I", Cond.fieldLink RX4 30 "UpwardGrants$State" "waits" "[I", Cond.methodLink RX5 56 yX5_takeSteps, Cond.instanceMethod yX5_takeSteps, Cond.selects RX5 yX5_takeSteps yX5_takeSteps, Cond.initialized RX5, Cond.code yX5_takeSteps cX5_takeSteps 4 (some .int), Cond.fieldLink RX5 70 "UpwardGrants$State" "room" "I", Cond.fieldLink RX5 9 "UpwardGrants$Station" "left" "I", Cond.fieldLink RX5 79 "UpwardGrants$State" "blocks" "LUpwardGrants$Blocks;", Cond.fieldLink RX5 88 "UpwardGrants$State" "now" "I", Cond.methodLink RX5 60 yX4_allThrough, Cond.instanceMethod yX4_allThrough, Cond.selects RX4 yX4_allThrough yX4_allThrough, Cond.code yX4_allThrough cX4_allThrough 3 (some .int), Cond.fieldLink RX4 36 "UpwardGrants$State" "through" "[I", Cond.methodLink RX5 64 yX5_gainTokens]
def wsX5_drainedWithin_r2 : List Cond := [Cond.instanceMethod yX5_gainTokens, Cond.selects RX5 yX5_gainTokens yX5_gainTokens, Cond.code yX5_gainTokens cX5_gainTokens 2 none, Cond.fieldLink RX5 15 "UpwardGrants$Station" "setup" "LUpwardGrants$Setup;", Cond.fieldLink RX5 45 "UpwardGrants$Setup" "classes" "I", Cond.fieldLink RX5 91 "UpwardGrants$State" "tokens" "[I", Cond.fieldLink RX5 94 "UpwardGrants$Setup" "limit" "[I", Cond.fieldLink RX5 97 "UpwardGrants$Setup" "rate" "[I", Cond.methodLink RX5 100 Lib.Math.min.name, Cond.static Lib.Math.min.name, Cond.initialized "java/lang/Math", Cond.code Lib.Math.min.name Lib.Math.min.code 2 (some .int), Cond.methodLink RX5 67 yX5_askInPlaces, Cond.instanceMethod yX5_askInPlaces, Cond.selects RX5 yX5_askInPlaces yX5_askInPlaces, Cond.code yX5_askInPlaces cX5_askInPlaces 3 none, Cond.fieldLink RX5 106 "UpwardGrants$Setup" "terminals" "I", Cond.fieldLink RX5 112 "UpwardGrants$State" "bannedTill" "[I", Cond.fieldLink RX5 37 "UpwardGrants$State" "wants" "[I", Cond.fieldLink RX5 115 "UpwardGrants$State" "asked" "[I", Cond.fieldLink RX5 118 "UpwardGrants$State" "asks" "[I", Cond.fieldLink RX5 121 "UpwardGrants$Setup" "ban" "I", Cond.methodLink RX5 109 yX3_isPlaceToAsk, Cond.instanceMethod yX3_isPlaceToAsk]
def wsX5_drainedWithin_r3 : List Cond := [Cond.selects RX3 yX3_isPlaceToAsk yX3_isPlaceToAsk, Cond.initialized RX3, Cond.code yX3_isPlaceToAsk cX3_isPlaceToAsk 4 (some .boolean), Cond.fieldLink RX3 9 "UpwardGrants$Setup" "period" "[I", Cond.methodLink RX5 73 yX5_sendAgain, Cond.instanceMethod yX5_sendAgain, Cond.selects RX5 yX5_sendAgain yX5_sendAgain, Cond.code yX5_sendAgain cX5_sendAgain 3 none, Cond.fieldLink RX5 124 "UpwardGrants$Blocks" "size" "I", Cond.methodLink RX5 133 Lib.Math.max.name, Cond.static Lib.Math.max.name, Cond.code Lib.Math.max.name Lib.Math.max.code 2 (some .int), Cond.methodLink RX5 127 yX0_isDue, Cond.instanceMethod yX0_isDue, Cond.selects RX0 yX0_isDue yX0_isDue, Cond.initialized RX0, Cond.code yX0_isDue cX0_isDue 4 (some .boolean), Cond.fieldLink RX0 15 "UpwardGrants$Blocks" "terminal" "[I", Cond.fieldLink RX0 19 "UpwardGrants$Blocks" "due" "[I", Cond.methodLink RX5 130 yX0_content, Cond.instanceMethod yX0_content, Cond.selects RX0 yX0_content yX0_content, Cond.code yX0_content cX0_content 2 (some .int), Cond.methodLink RX0 31 yX0_allLetters]
def wsX5_drainedWithin_r4 : List Cond := [Cond.instanceMethod yX0_allLetters, Cond.selects RX0 yX0_allLetters yX0_allLetters, Cond.code yX0_allLetters cX0_allLetters 5 (some .int), Cond.fieldLink RX0 28 "UpwardGrants$Blocks" "letters" "[I", Cond.methodLink RX0 35 yX0_reportOf, Cond.instanceMethod yX0_reportOf, Cond.selects RX0 yX0_reportOf yX0_reportOf, Cond.code yX0_reportOf cX0_reportOf 2 (some .int), Cond.fieldLink RX0 25 "UpwardGrants$Blocks" "report" "[I", Cond.methodLink RX5 136 yX5_send, Cond.instanceMethod yX5_send, Cond.selects RX5 yX5_send yX5_send, Cond.code yX5_send cX5_send 7 none, Cond.fieldLink RX5 143 "UpwardGrants$State" "thought" "[I", Cond.fieldLink RX5 187 "UpwardGrants$State" "through" "[I", Cond.fieldLink RX5 198 "UpwardGrants$Setup" "tries" "I", Cond.fieldLink RX5 201 "UpwardGrants$Setup" "back" "I", Cond.fieldLink RX5 207 "UpwardGrants$State" "lost" "[I", Cond.methodLink RX5 175 yX0_countSending, Cond.instanceMethod yX0_countSending, Cond.selects RX0 yX0_countSending yX0_countSending, Cond.code yX0_countSending cX0_countSending 2 (some .int), Cond.fieldLink RX0 22 "UpwardGrants$Blocks" "sent" "[I", Cond.methodLink RX5 178 yX4_isDeaf]
def wsX5_drainedWithin_r5 : List Cond := [Cond.instanceMethod yX4_isDeaf, Cond.selects RX4 yX4_isDeaf yX4_isDeaf, Cond.code yX4_isDeaf cX4_isDeaf 3 (some .boolean), Cond.fieldLink RX4 42 "UpwardGrants$State" "deafBits" "[I", Cond.methodLink RX5 181 yX0_reportOf, Cond.methodLink RX5 184 yX0_allLetters, Cond.methodLink RX5 190 yX0_addLettersTo, Cond.instanceMethod yX0_addLettersTo, Cond.selects RX0 yX0_addLettersTo yX0_addLettersTo, Cond.code yX0_addLettersTo cX0_addLettersTo 6 none, Cond.methodLink RX5 194 yX0_markGone, Cond.instanceMethod yX0_markGone, Cond.selects RX0 yX0_markGone yX0_markGone, Cond.code yX0_markGone cX0_markGone 2 none, Cond.methodLink RX5 204 yX0_putDue, Cond.instanceMethod yX0_putDue, Cond.selects RX0 yX0_putDue yX0_putDue, Cond.code yX0_putDue cX0_putDue 3 none, Cond.methodLink RX5 76 yX5_giveGrants, Cond.instanceMethod yX5_giveGrants, Cond.selects RX5 yX5_giveGrants yX5_giveGrants, Cond.code yX5_giveGrants cX5_giveGrants 5 none, Cond.fieldLink RX5 140 "UpwardGrants$State" "last" "I", Cond.methodLink RX5 146 yX5_takeGrant]
def wsX5_drainedWithin_r6 : List Cond := [Cond.instanceMethod yX5_takeGrant, Cond.selects RX5 yX5_takeGrant yX5_takeGrant, Cond.code yX5_takeGrant cX5_takeGrant 4 (some .int), Cond.fieldLink RX5 152 "UpwardGrants$State" "granted" "[I", Cond.methodLink RX5 149 yX5_pack, Cond.instanceMethod yX5_pack, Cond.selects RX5 yX5_pack yX5_pack, Cond.code yX5_pack cX5_pack 6 none, Cond.methodLink RX5 155 yX0_open, Cond.instanceMethod yX0_open, Cond.selects RX0 yX0_open yX0_open, Cond.code yX0_open cX0_open 4 (some .int), Cond.fieldLink RX0 9 "UpwardGrants$Blocks" "size" "I", Cond.methodLink RX5 158 yX5_packLetters, Cond.instanceMethod yX5_packLetters, Cond.selects RX5 yX5_packLetters yX5_packLetters, Cond.code yX5_packLetters cX5_packLetters 9 (some .int), Cond.fieldLink RX5 23 "UpwardGrants$Setup" "owner" "[I", Cond.fieldLink RX5 168 "UpwardGrants$Setup" "priority" "[I", Cond.fieldLink RX5 42 "UpwardGrants$State" "waits" "[I", Cond.methodLink RX5 171 yX0_putLetters, Cond.instanceMethod yX0_putLetters, Cond.selects RX0 yX0_putLetters yX0_putLetters, Cond.code yX0_putLetters cX0_putLetters 5 none]
def wsX5_drainedWithin_r7 : List Cond := [Cond.methodLink RX5 162 yX5_waitingAt, Cond.instanceMethod yX5_waitingAt, Cond.selects RX5 yX5_waitingAt yX5_waitingAt, Cond.code yX5_waitingAt cX5_waitingAt 4 (some .int), Cond.methodLink RX5 165 yX0_putReport, Cond.instanceMethod yX0_putReport, Cond.selects RX0 yX0_putReport yX0_putReport, Cond.code yX0_putReport cX0_putReport 3 none, Cond.methodLink RX5 83 yX0_dropGone, Cond.instanceMethod yX0_dropGone, Cond.selects RX0 yX0_dropGone yX0_dropGone, Cond.code yX0_dropGone cX0_dropGone 3 none, Cond.methodLink RX0 38 yX0_move, Cond.instanceMethod yX0_move, Cond.selects RX0 yX0_move yX0_move, Cond.code yX0_move cX0_move 4 none]
def wsX5_drainedWithin : List Cond := .code yX5_drainedWithin cX5_drainedWithin 3 (some .int) :: ((wsX5_drainedWithin_r1 ++ (wsX5_drainedWithin_r2 ++ (wsX5_drainedWithin_r3 ++ (wsX5_drainedWithin_r4 ++ (wsX5_drainedWithin_r5 ++ (wsX5_drainedWithin_r6 ++ wsX5_drainedWithin_r7)))))) ++ wsX50 ++ wsX40 ++ wsX00 ++ wsX30)
def wsX6_init : List Cond := .code yX6_init cX6_init 1 none :: ([.methodLink RX6 3 objectInit, .instanceMethod objectInit, .code objectInit ⟨#[0xb1]⟩ 1 none, .arrayClass .char, .fieldLink RX6 9 "UpwardGrants$Text" "letters" "[C", .fieldLink RX6 15 "UpwardGrants$Text" "length" "I"] ++ wsX60)
def wsX6_add : List Cond := .code yX6_add cX6_add 2 (some .boolean) :: ([.fieldLink RX6 15 "UpwardGrants$Text" "length" "I", .fieldLink RX6 9 "UpwardGrants$Text" "letters" "[C"] ++ wsX60)
def wsX6_empty : List Cond := .code yX6_empty cX6_empty 2 (some .int) :: ([.fieldLink RX6 15 "UpwardGrants$Text" "length" "I"] ++ wsX60)
def wsX6_letterAt : List Cond := .code yX6_letterAt cX6_letterAt 2 (some .char) :: ([.fieldLink RX6 15 "UpwardGrants$Text" "length" "I", .fieldLink RX6 9 "UpwardGrants$Text" "letters" "[C"] ++ wsX60)
def wsX6_isDigit : List Cond := .code yX6_isDigit cX6_isDigit 1 (some .boolean) :: ([])
def wsX6_nextNumber : List Cond := .code yX6_nextNumber cX6_nextNumber 2 none :: ([.fieldLink RX6 67 "UpwardGrants$Text" "number" "I", .fieldLink RX6 24 "UpwardGrants$Text" "place" "I", .fieldLink RX6 15 "UpwardGrants$Text" "length" "I", .fieldLink RX6 53 "UpwardGrants$Text" "tokenPlace" "I", .methodLink RX6 111 Lib.Math.min.name, .static Lib.Math.min.name, .initialized "java/lang/Math", .code Lib.Math.min.name Lib.Math.min.code 2 (some .int), .fieldLink RX6 30 "UpwardGrants$Text" "token" "I", .methodLink RX6 97 yX6_letterAt, .instanceMethod yX6_letterAt, .selects RX6 yX6_letterAt yX6_letterAt, .initialized RX6, .code yX6_letterAt cX6_letterAt 2 (some .char), .fieldLink RX6 9 "UpwardGrants$Text" "letters" "[C", .methodLink RX6 101 yX6_isDigit, .static yX6_isDigit, .code yX6_isDigit cX6_isDigit 1 (some .boolean)] ++ wsX60)
def wsX6_isSign : List Cond := .code yX6_isSign cX6_isSign 1 (some .boolean) :: ([])
def wsX6_nextToken_r1 : List Cond := [Cond.fieldLink RX6 24 "UpwardGrants$Text" "place" "I", Cond.fieldLink RX6 15 "UpwardGrants$Text" "length" "I", Cond.fieldLink RX6 53 "UpwardGrants$Text" "tokenPlace" "I", Cond.fieldLink RX6 30 "UpwardGrants$Text" "token" "I", Cond.methodLink RX6 97 yX6_letterAt, Cond.instanceMethod yX6_letterAt, Cond.selects RX6 yX6_letterAt yX6_letterAt, Cond.initialized RX6, Cond.code yX6_letterAt cX6_letterAt 2 (some .char), Cond.fieldLink RX6 9 "UpwardGrants$Text" "letters" "[C", Cond.methodLink RX6 101 yX6_isDigit, Cond.static yX6_isDigit, Cond.code yX6_isDigit cX6_isDigit 1 (some .boolean), Cond.methodLink RX6 105 yX6_nextNumber, Cond.instanceMethod yX6_nextNumber, Cond.selects RX6 yX6_nextNumber yX6_nextNumber, Cond.code yX6_nextNumber cX6_nextNumber 2 none, Cond.fieldLink RX6 67 "UpwardGrants$Text" "number" "I", Cond.methodLink RX6 111 Lib.Math.min.name, Cond.static Lib.Math.min.name, Cond.initialized "java/lang/Math", Cond.code Lib.Math.min.name Lib.Math.min.code 2 (some .int), Cond.methodLink RX6 108 yX6_isSign, Cond.static yX6_isSign]
def wsX6_nextToken_r2 : List Cond := [Cond.code yX6_isSign cX6_isSign 1 (some .boolean)]
def wsX6_nextToken : List Cond := .code yX6_nextToken cX6_nextToken 2 none :: ((wsX6_nextToken_r1 ++ wsX6_nextToken_r2) ++ wsX60)
def wsX6_readNumber_r1 : List Cond := [Cond.fieldLink RX6 30 "UpwardGrants$Text" "token" "I", Cond.fieldLink RX6 67 "UpwardGrants$Text" "number" "I", Cond.methodLink RX6 27 yX6_nextToken, Cond.instanceMethod yX6_nextToken, Cond.selects RX6 yX6_nextToken yX6_nextToken, Cond.initialized RX6, Cond.code yX6_nextToken cX6_nextToken 2 none, Cond.fieldLink RX6 24 "UpwardGrants$Text" "place" "I", Cond.fieldLink RX6 15 "UpwardGrants$Text" "length" "I", Cond.fieldLink RX6 53 "UpwardGrants$Text" "tokenPlace" "I", Cond.methodLink RX6 97 yX6_letterAt, Cond.instanceMethod yX6_letterAt, Cond.selects RX6 yX6_letterAt yX6_letterAt, Cond.code yX6_letterAt cX6_letterAt 2 (some .char), Cond.fieldLink RX6 9 "UpwardGrants$Text" "letters" "[C", Cond.methodLink RX6 101 yX6_isDigit, Cond.static yX6_isDigit, Cond.code yX6_isDigit cX6_isDigit 1 (some .boolean), Cond.methodLink RX6 105 yX6_nextNumber, Cond.instanceMethod yX6_nextNumber, Cond.selects RX6 yX6_nextNumber yX6_nextNumber, Cond.code yX6_nextNumber cX6_nextNumber 2 none, Cond.methodLink RX6 111 Lib.Math.min.name, Cond.static Lib.Math.min.name]
def wsX6_readNumber_r2 : List Cond := [Cond.initialized "java/lang/Math", Cond.code Lib.Math.min.name Lib.Math.min.code 2 (some .int), Cond.methodLink RX6 108 yX6_isSign, Cond.static yX6_isSign, Cond.code yX6_isSign cX6_isSign 1 (some .boolean)]
def wsX6_readNumber : List Cond := .code yX6_readNumber cX6_readNumber 3 (some .boolean) :: ((wsX6_readNumber_r1 ++ wsX6_readNumber_r2) ++ wsX60)
def wsX6_readTerminal_r1 : List Cond := [Cond.fieldLink RX6 56 "UpwardGrants$Setup" "terminals" "I", Cond.fieldLink RX6 63 "UpwardGrants$Setup" "period" "[I", Cond.fieldLink RX6 67 "UpwardGrants$Text" "number" "I", Cond.methodLink RX6 59 yX6_readNumber, Cond.instanceMethod yX6_readNumber, Cond.selects RX6 yX6_readNumber yX6_readNumber, Cond.initialized RX6, Cond.code yX6_readNumber cX6_readNumber 3 (some .boolean), Cond.fieldLink RX6 30 "UpwardGrants$Text" "token" "I", Cond.methodLink RX6 27 yX6_nextToken, Cond.instanceMethod yX6_nextToken, Cond.selects RX6 yX6_nextToken yX6_nextToken, Cond.code yX6_nextToken cX6_nextToken 2 none, Cond.fieldLink RX6 24 "UpwardGrants$Text" "place" "I", Cond.fieldLink RX6 15 "UpwardGrants$Text" "length" "I", Cond.fieldLink RX6 53 "UpwardGrants$Text" "tokenPlace" "I", Cond.methodLink RX6 97 yX6_letterAt, Cond.instanceMethod yX6_letterAt, Cond.selects RX6 yX6_letterAt yX6_letterAt, Cond.code yX6_letterAt cX6_letterAt 2 (some .char), Cond.fieldLink RX6 9 "UpwardGrants$Text" "letters" "[C", Cond.methodLink RX6 101 yX6_isDigit, Cond.static yX6_isDigit, Cond.code yX6_isDigit cX6_isDigit 1 (some .boolean)]
def wsX6_readTerminal_r2 : List Cond := [Cond.methodLink RX6 105 yX6_nextNumber, Cond.instanceMethod yX6_nextNumber, Cond.selects RX6 yX6_nextNumber yX6_nextNumber, Cond.code yX6_nextNumber cX6_nextNumber 2 none, Cond.methodLink RX6 111 Lib.Math.min.name, Cond.static Lib.Math.min.name, Cond.initialized "java/lang/Math", Cond.code Lib.Math.min.name Lib.Math.min.code 2 (some .int), Cond.methodLink RX6 108 yX6_isSign, Cond.static yX6_isSign, Cond.code yX6_isSign cX6_isSign 1 (some .boolean)]
def wsX6_readTerminal : List Cond := .code yX6_readTerminal cX6_readTerminal 3 (some .boolean) :: ((wsX6_readTerminal_r1 ++ wsX6_readTerminal_r2) ++ wsX30 ++ wsX60)
def wsX6_readClass_r1 : List Cond := [Cond.fieldLink RX6 70 "UpwardGrants$Setup" "classes" "I", Cond.fieldLink RX6 56 "UpwardGrants$Setup" "terminals" "I", Cond.fieldLink RX6 73 "UpwardGrants$Setup" "owner" "[I", Cond.fieldLink RX6 67 "UpwardGrants$Text" "number" "I", Cond.fieldLink RX6 76 "UpwardGrants$Setup" "priority" "[I", Cond.fieldLink RX6 79 "UpwardGrants$Setup" "rate" "[I", Cond.fieldLink RX6 82 "UpwardGrants$Setup" "limit" "[I", Cond.methodLink RX6 59 yX6_readNumber, Cond.instanceMethod yX6_readNumber, Cond.selects RX6 yX6_readNumber yX6_readNumber, Cond.initialized RX6, Cond.code yX6_readNumber cX6_readNumber 3 (some .boolean), Cond.fieldLink RX6 30 "UpwardGrants$Text" "token" "I", Cond.methodLink RX6 27 yX6_nextToken, Cond.instanceMethod yX6_nextToken, Cond.selects RX6 yX6_nextToken yX6_nextToken, Cond.code yX6_nextToken cX6_nextToken 2 none, Cond.fieldLink RX6 24 "UpwardGrants$Text" "place" "I", Cond.fieldLink RX6 15 "UpwardGrants$Text" "length" "I", Cond.fieldLink RX6 53 "UpwardGrants$Text" "tokenPlace" "I", Cond.methodLink RX6 97 yX6_letterAt, Cond.instanceMethod yX6_letterAt, Cond.selects RX6 yX6_letterAt yX6_letterAt, Cond.code yX6_letterAt cX6_letterAt 2 (some .char)]
def wsX6_readClass_r2 : List Cond := [Cond.fieldLink RX6 9 "UpwardGrants$Text" "letters" "[C", Cond.methodLink RX6 101 yX6_isDigit, Cond.static yX6_isDigit, Cond.code yX6_isDigit cX6_isDigit 1 (some .boolean), Cond.methodLink RX6 105 yX6_nextNumber, Cond.instanceMethod yX6_nextNumber, Cond.selects RX6 yX6_nextNumber yX6_nextNumber, Cond.code yX6_nextNumber cX6_nextNumber 2 none, Cond.methodLink RX6 111 Lib.Math.min.name, Cond.static Lib.Math.min.name, Cond.initialized "java/lang/Math", Cond.code Lib.Math.min.name Lib.Math.min.code 2 (some .int), Cond.methodLink RX6 108 yX6_isSign, Cond.static yX6_isSign, Cond.code yX6_isSign cX6_isSign 1 (some .boolean)]
def wsX6_readClass : List Cond := .code yX6_readClass cX6_readClass 3 (some .boolean) :: ((wsX6_readClass_r1 ++ wsX6_readClass_r2) ++ wsX30 ++ wsX60)
def wsX6_readRoom_r1 : List Cond := [Cond.fieldLink RX6 67 "UpwardGrants$Text" "number" "I", Cond.fieldLink RX6 85 "UpwardGrants$Setup" "room" "I", Cond.methodLink RX6 59 yX6_readNumber, Cond.instanceMethod yX6_readNumber, Cond.selects RX6 yX6_readNumber yX6_readNumber, Cond.initialized RX6, Cond.code yX6_readNumber cX6_readNumber 3 (some .boolean), Cond.fieldLink RX6 30 "UpwardGrants$Text" "token" "I", Cond.methodLink RX6 27 yX6_nextToken, Cond.instanceMethod yX6_nextToken, Cond.selects RX6 yX6_nextToken yX6_nextToken, Cond.code yX6_nextToken cX6_nextToken 2 none, Cond.fieldLink RX6 24 "UpwardGrants$Text" "place" "I", Cond.fieldLink RX6 15 "UpwardGrants$Text" "length" "I", Cond.fieldLink RX6 53 "UpwardGrants$Text" "tokenPlace" "I", Cond.methodLink RX6 97 yX6_letterAt, Cond.instanceMethod yX6_letterAt, Cond.selects RX6 yX6_letterAt yX6_letterAt, Cond.code yX6_letterAt cX6_letterAt 2 (some .char), Cond.fieldLink RX6 9 "UpwardGrants$Text" "letters" "[C", Cond.methodLink RX6 101 yX6_isDigit, Cond.static yX6_isDigit, Cond.code yX6_isDigit cX6_isDigit 1 (some .boolean), Cond.methodLink RX6 105 yX6_nextNumber]
def wsX6_readRoom_r2 : List Cond := [Cond.instanceMethod yX6_nextNumber, Cond.selects RX6 yX6_nextNumber yX6_nextNumber, Cond.code yX6_nextNumber cX6_nextNumber 2 none, Cond.methodLink RX6 111 Lib.Math.min.name, Cond.static Lib.Math.min.name, Cond.initialized "java/lang/Math", Cond.code Lib.Math.min.name Lib.Math.min.code 2 (some .int), Cond.methodLink RX6 108 yX6_isSign, Cond.static yX6_isSign, Cond.code yX6_isSign cX6_isSign 1 (some .boolean)]
def wsX6_readRoom : List Cond := .code yX6_readRoom cX6_readRoom 2 (some .boolean) :: ((wsX6_readRoom_r1 ++ wsX6_readRoom_r2) ++ wsX60 ++ wsX30)
def wsX6_readBan_r1 : List Cond := [Cond.fieldLink RX6 67 "UpwardGrants$Text" "number" "I", Cond.fieldLink RX6 88 "UpwardGrants$Setup" "ban" "I", Cond.methodLink RX6 59 yX6_readNumber, Cond.instanceMethod yX6_readNumber, Cond.selects RX6 yX6_readNumber yX6_readNumber, Cond.initialized RX6, Cond.code yX6_readNumber cX6_readNumber 3 (some .boolean), Cond.fieldLink RX6 30 "UpwardGrants$Text" "token" "I", Cond.methodLink RX6 27 yX6_nextToken, Cond.instanceMethod yX6_nextToken, Cond.selects RX6 yX6_nextToken yX6_nextToken, Cond.code yX6_nextToken cX6_nextToken 2 none, Cond.fieldLink RX6 24 "UpwardGrants$Text" "place" "I", Cond.fieldLink RX6 15 "UpwardGrants$Text" "length" "I", Cond.fieldLink RX6 53 "UpwardGrants$Text" "tokenPlace" "I", Cond.methodLink RX6 97 yX6_letterAt, Cond.instanceMethod yX6_letterAt, Cond.selects RX6 yX6_letterAt yX6_letterAt, Cond.code yX6_letterAt cX6_letterAt 2 (some .char), Cond.fieldLink RX6 9 "UpwardGrants$Text" "letters" "[C", Cond.methodLink RX6 101 yX6_isDigit, Cond.static yX6_isDigit, Cond.code yX6_isDigit cX6_isDigit 1 (some .boolean), Cond.methodLink RX6 105 yX6_nextNumber]
def wsX6_readBan_r2 : List Cond := [Cond.instanceMethod yX6_nextNumber, Cond.selects RX6 yX6_nextNumber yX6_nextNumber, Cond.code yX6_nextNumber cX6_nextNumber 2 none, Cond.methodLink RX6 111 Lib.Math.min.name, Cond.static Lib.Math.min.name, Cond.initialized "java/lang/Math", Cond.code Lib.Math.min.name Lib.Math.min.code 2 (some .int), Cond.methodLink RX6 108 yX6_isSign, Cond.static yX6_isSign, Cond.code yX6_isSign cX6_isSign 1 (some .boolean)]
def wsX6_readBan : List Cond := .code yX6_readBan cX6_readBan 2 (some .boolean) :: ((wsX6_readBan_r1 ++ wsX6_readBan_r2) ++ wsX60 ++ wsX30)
def wsX6_readBackAndTries_r1 : List Cond := [Cond.fieldLink RX6 67 "UpwardGrants$Text" "number" "I", Cond.fieldLink RX6 91 "UpwardGrants$Setup" "back" "I", Cond.fieldLink RX6 94 "UpwardGrants$Setup" "tries" "I", Cond.methodLink RX6 59 yX6_readNumber, Cond.instanceMethod yX6_readNumber, Cond.selects RX6 yX6_readNumber yX6_readNumber, Cond.initialized RX6, Cond.code yX6_readNumber cX6_readNumber 3 (some .boolean), Cond.fieldLink RX6 30 "UpwardGrants$Text" "token" "I", Cond.methodLink RX6 27 yX6_nextToken, Cond.instanceMethod yX6_nextToken, Cond.selects RX6 yX6_nextToken yX6_nextToken, Cond.code yX6_nextToken cX6_nextToken 2 none, Cond.fieldLink RX6 24 "UpwardGrants$Text" "place" "I", Cond.fieldLink RX6 15 "UpwardGrants$Text" "length" "I", Cond.fieldLink RX6 53 "UpwardGrants$Text" "tokenPlace" "I", Cond.methodLink RX6 97 yX6_letterAt, Cond.instanceMethod yX6_letterAt, Cond.selects RX6 yX6_letterAt yX6_letterAt, Cond.code yX6_letterAt cX6_letterAt 2 (some .char), Cond.fieldLink RX6 9 "UpwardGrants$Text" "letters" "[C", Cond.methodLink RX6 101 yX6_isDigit, Cond.static yX6_isDigit, Cond.code yX6_isDigit cX6_isDigit 1 (some .boolean)]
def wsX6_readBackAndTries_r2 : List Cond := [Cond.methodLink RX6 105 yX6_nextNumber, Cond.instanceMethod yX6_nextNumber, Cond.selects RX6 yX6_nextNumber yX6_nextNumber, Cond.code yX6_nextNumber cX6_nextNumber 2 none, Cond.methodLink RX6 111 Lib.Math.min.name, Cond.static Lib.Math.min.name, Cond.initialized "java/lang/Math", Cond.code Lib.Math.min.name Lib.Math.min.code 2 (some .int), Cond.methodLink RX6 108 yX6_isSign, Cond.static yX6_isSign, Cond.code yX6_isSign cX6_isSign 1 (some .boolean)]
def wsX6_readBackAndTries : List Cond := .code yX6_readBackAndTries cX6_readBackAndTries 2 (some .boolean) :: ((wsX6_readBackAndTries_r1 ++ wsX6_readBackAndTries_r2) ++ wsX60 ++ wsX30)
def wsX6_readEnd_r1 : List Cond := [Cond.fieldLink RX6 30 "UpwardGrants$Text" "token" "I", Cond.methodLink RX6 27 yX6_nextToken, Cond.instanceMethod yX6_nextToken, Cond.selects RX6 yX6_nextToken yX6_nextToken, Cond.initialized RX6, Cond.code yX6_nextToken cX6_nextToken 2 none, Cond.fieldLink RX6 24 "UpwardGrants$Text" "place" "I", Cond.fieldLink RX6 15 "UpwardGrants$Text" "length" "I", Cond.fieldLink RX6 53 "UpwardGrants$Text" "tokenPlace" "I", Cond.methodLink RX6 97 yX6_letterAt, Cond.instanceMethod yX6_letterAt, Cond.selects RX6 yX6_letterAt yX6_letterAt, Cond.code yX6_letterAt cX6_letterAt 2 (some .char), Cond.fieldLink RX6 9 "UpwardGrants$Text" "letters" "[C", Cond.methodLink RX6 101 yX6_isDigit, Cond.static yX6_isDigit, Cond.code yX6_isDigit cX6_isDigit 1 (some .boolean), Cond.methodLink RX6 105 yX6_nextNumber, Cond.instanceMethod yX6_nextNumber, Cond.selects RX6 yX6_nextNumber yX6_nextNumber, Cond.code yX6_nextNumber cX6_nextNumber 2 none, Cond.fieldLink RX6 67 "UpwardGrants$Text" "number" "I", Cond.methodLink RX6 111 Lib.Math.min.name, Cond.static Lib.Math.min.name]
def wsX6_readEnd_r2 : List Cond := [Cond.initialized "java/lang/Math", Cond.code Lib.Math.min.name Lib.Math.min.code 2 (some .int), Cond.methodLink RX6 108 yX6_isSign, Cond.static yX6_isSign, Cond.code yX6_isSign cX6_isSign 1 (some .boolean)]
def wsX6_readEnd : List Cond := .code yX6_readEnd cX6_readEnd 1 (some .boolean) :: ((wsX6_readEnd_r1 ++ wsX6_readEnd_r2) ++ wsX60)
def wsX6_readInto_r1 : List Cond := [Cond.fieldLink RX6 24 "UpwardGrants$Text" "place" "I", Cond.fieldLink RX6 30 "UpwardGrants$Text" "token" "I", Cond.fieldLink RX6 53 "UpwardGrants$Text" "tokenPlace" "I", Cond.methodLink RX6 19 yX3_begin, Cond.instanceMethod yX3_begin, Cond.selects RX3 yX3_begin yX3_begin, Cond.initialized RX3, Cond.code yX3_begin cX3_begin 1 none, Cond.fieldLink RX3 30 "UpwardGrants$Setup" "terminals" "I", Cond.fieldLink RX3 34 "UpwardGrants$Setup" "classes" "I", Cond.fieldLink RX3 37 "UpwardGrants$Setup" "room" "I", Cond.fieldLink RX3 40 "UpwardGrants$Setup" "ban" "I", Cond.fieldLink RX3 43 "UpwardGrants$Setup" "back" "I", Cond.fieldLink RX3 46 "UpwardGrants$Setup" "tries" "I", Cond.methodLink RX6 27 yX6_nextToken, Cond.instanceMethod yX6_nextToken, Cond.selects RX6 yX6_nextToken yX6_nextToken, Cond.initialized RX6, Cond.code yX6_nextToken cX6_nextToken 2 none, Cond.fieldLink RX6 15 "UpwardGrants$Text" "length" "I", Cond.methodLink RX6 97 yX6_letterAt, Cond.instanceMethod yX6_letterAt, Cond.selects RX6 yX6_letterAt yX6_letterAt, Cond.code yX6_letterAt cX6_letterAt 2 (some .char)]
def wsX6_readInto_r2 : List Cond := [Cond.fieldLink RX6 9 "UpwardGrants$Text" "letters" "[C", Cond.methodLink RX6 101 yX6_isDigit, Cond.static yX6_isDigit, Cond.code yX6_isDigit cX6_isDigit 1 (some .boolean), Cond.methodLink RX6 105 yX6_nextNumber, Cond.instanceMethod yX6_nextNumber, Cond.selects RX6 yX6_nextNumber yX6_nextNumber, Cond.code yX6_nextNumber cX6_nextNumber 2 none, Cond.fieldLink RX6 67 "UpwardGrants$Text" "number" "I", Cond.methodLink RX6 111 Lib.Math.min.name, Cond.static Lib.Math.min.name, Cond.initialized "java/lang/Math", Cond.code Lib.Math.min.name Lib.Math.min.code 2 (some .int), Cond.methodLink RX6 108 yX6_isSign, Cond.static yX6_isSign, Cond.code yX6_isSign cX6_isSign 1 (some .boolean), Cond.methodLink RX6 33 yX6_readTerminal, Cond.instanceMethod yX6_readTerminal, Cond.selects RX6 yX6_readTerminal yX6_readTerminal, Cond.code yX6_readTerminal cX6_readTerminal 3 (some .boolean), Cond.fieldLink RX6 56 "UpwardGrants$Setup" "terminals" "I", Cond.fieldLink RX6 63 "UpwardGrants$Setup" "period" "[I", Cond.methodLink RX6 59 yX6_readNumber, Cond.instanceMethod yX6_readNumber]
def wsX6_readInto_r3 : List Cond := [Cond.selects RX6 yX6_readNumber yX6_readNumber, Cond.code yX6_readNumber cX6_readNumber 3 (some .boolean), Cond.methodLink RX6 37 yX6_readClass, Cond.instanceMethod yX6_readClass, Cond.selects RX6 yX6_readClass yX6_readClass, Cond.code yX6_readClass cX6_readClass 3 (some .boolean), Cond.fieldLink RX6 70 "UpwardGrants$Setup" "classes" "I", Cond.fieldLink RX6 73 "UpwardGrants$Setup" "owner" "[I", Cond.fieldLink RX6 76 "UpwardGrants$Setup" "priority" "[I", Cond.fieldLink RX6 79 "UpwardGrants$Setup" "rate" "[I", Cond.fieldLink RX6 82 "UpwardGrants$Setup" "limit" "[I", Cond.methodLink RX6 40 yX6_readRoom, Cond.instanceMethod yX6_readRoom, Cond.selects RX6 yX6_readRoom yX6_readRoom, Cond.code yX6_readRoom cX6_readRoom 2 (some .boolean), Cond.fieldLink RX6 85 "UpwardGrants$Setup" "room" "I", Cond.methodLink RX6 43 yX6_readBan, Cond.instanceMethod yX6_readBan, Cond.selects RX6 yX6_readBan yX6_readBan, Cond.code yX6_readBan cX6_readBan 2 (some .boolean), Cond.fieldLink RX6 88 "UpwardGrants$Setup" "ban" "I", Cond.methodLink RX6 46 yX6_readBackAndTries, Cond.instanceMethod yX6_readBackAndTries, Cond.selects RX6 yX6_readBackAndTries yX6_readBackAndTries]
def wsX6_readInto_r4 : List Cond := [Cond.code yX6_readBackAndTries cX6_readBackAndTries 2 (some .boolean), Cond.fieldLink RX6 91 "UpwardGrants$Setup" "back" "I", Cond.fieldLink RX6 94 "UpwardGrants$Setup" "tries" "I", Cond.methodLink RX6 49 yX6_readEnd, Cond.instanceMethod yX6_readEnd, Cond.selects RX6 yX6_readEnd yX6_readEnd, Cond.code yX6_readEnd cX6_readEnd 1 (some .boolean)]
def wsX6_readInto : List Cond := .code yX6_readInto cX6_readInto 4 (some .int) :: ((wsX6_readInto_r1 ++ (wsX6_readInto_r2 ++ (wsX6_readInto_r3 ++ wsX6_readInto_r4))) ++ wsX60 ++ wsX30)
def wsX7_beginAnew_r1 : List Cond := [Cond.fieldLink RX7 29 "UpwardGrants" "state" "LUpwardGrants$State;", Cond.fieldLink RX7 19 "UpwardGrants" "setup" "LUpwardGrants$Setup;", Cond.fieldLink RX7 249 "UpwardGrants$Setup" "room" "I", Cond.fieldLink RX7 51 "UpwardGrants" "history" "LUpwardGrants$History;", Cond.fieldLink RX7 137 "UpwardGrants$History" "known" "I", Cond.fieldLink RX7 58 "UpwardGrants" "firstImage" "LUpwardGrants$Image;", Cond.fieldLink RX7 226 "UpwardGrants$Image" "there" "Z", Cond.fieldLink RX7 62 "UpwardGrants" "secondImage" "LUpwardGrants$Image;", Cond.fieldLink RX7 72 "UpwardGrants" "seen" "I", Cond.methodLink RX7 250 yX4_begin, Cond.instanceMethod yX4_begin, Cond.selects RX4 yX4_begin yX4_begin, Cond.initialized RX4, Cond.code yX4_begin cX4_begin 2 none, Cond.fieldLink RX4 52 "UpwardGrants$State" "now" "I", Cond.fieldLink RX4 56 "UpwardGrants$State" "room" "I", Cond.fieldLink RX4 59 "UpwardGrants$State" "last" "I", Cond.fieldLink RX4 9 "UpwardGrants$State" "wants" "[I", Cond.fieldLink RX4 15 "UpwardGrants$State" "bannedTill" "[I", Cond.fieldLink RX4 18 "UpwardGrants$State" "asked" "[I", Cond.fieldLink RX4 21 "UpwardGrants$State" "thought" "[I", Cond.fieldLink RX4 24 "UpwardGrants$State" "asks" "[I", Cond.fieldLink RX4 27 "UpwardGrants$State" "granted" "[I", Cond.fieldLink RX4 30 "UpwardGrants$State" "waits" "[I"]
def wsX7_beginAnew_r2 : List Cond := [Cond.fieldLink RX4 33 "UpwardGrants$State" "tokens" "[I", Cond.fieldLink RX4 36 "UpwardGrants$State" "through" "[I", Cond.fieldLink RX4 39 "UpwardGrants$State" "lost" "[I", Cond.fieldLink RX4 42 "UpwardGrants$State" "deafBits" "[I", Cond.fieldLink RX4 48 "UpwardGrants$State" "blocks" "LUpwardGrants$Blocks;", Cond.fieldLink RX4 68 "UpwardGrants$Blocks" "size" "I", Cond.methodLink RX4 62 yJ7_fill_53178, Cond.static yJ7_fill_53178, Cond.initialized RJ7, Cond.code yJ7_fill_53178 cJ7_fill_53178 4 none]
def wsX7_beginAnew : List Cond := .code yX7_beginAnew cX7_beginAnew 1 none :: ((wsX7_beginAnew_r1 ++ wsX7_beginAnew_r2) ++ wsX70 ++ wsX30 ++ wsX10 ++ wsX20 ++ wsX40 ++ wsX00)
def wsX7_init_r1 : List Cond := [Cond.methodLink RX7 1 objectInit, Cond.instanceMethod objectInit, Cond.code objectInit ⟨#[0xb1]⟩ 1 none, Cond.classLink RX7 7 RX6, Cond.instantiable RX6 6, Cond.initialized RX6, Cond.fieldLink RX7 10 "UpwardGrants" "text" "LUpwardGrants$Text;", Cond.classLink RX7 16 RX3, Cond.instantiable RX3 11, Cond.initialized RX3, Cond.fieldLink RX7 19 "UpwardGrants" "setup" "LUpwardGrants$Setup;", Cond.fieldLink RX7 23 "UpwardGrants" "draft" "LUpwardGrants$Setup;", Cond.classLink RX7 26 RX4, Cond.instantiable RX4 15, Cond.initialized RX4, Cond.fieldLink RX7 29 "UpwardGrants" "state" "LUpwardGrants$State;", Cond.fieldLink RX7 33 "UpwardGrants" "trialState" "LUpwardGrants$State;", Cond.classLink RX7 36 RX5, Cond.instantiable RX5 3, Cond.initialized RX5, Cond.fieldLink RX7 41 "UpwardGrants" "station" "LUpwardGrants$Station;", Cond.fieldLink RX7 45 "UpwardGrants" "trial" "LUpwardGrants$Station;", Cond.classLink RX7 48 RX1, Cond.instantiable RX1 3]
def wsX7_init_r2 : List Cond := [Cond.initialized RX1, Cond.fieldLink RX7 51 "UpwardGrants" "history" "LUpwardGrants$History;", Cond.classLink RX7 55 RX2, Cond.instantiable RX2 2, Cond.initialized RX2, Cond.fieldLink RX7 58 "UpwardGrants" "firstImage" "LUpwardGrants$Image;", Cond.fieldLink RX7 62 "UpwardGrants" "secondImage" "LUpwardGrants$Image;", Cond.arrayClass .int, Cond.fieldLink RX7 65 "UpwardGrants" "seenSteps" "[I", Cond.fieldLink RX7 69 "UpwardGrants" "seenLetters" "[I", Cond.fieldLink RX7 72 "UpwardGrants" "seen" "I", Cond.instanceMethod yX6_init, Cond.code yX6_init cX6_init 1 none, Cond.methodLink RX6 3 objectInit, Cond.arrayClass .char, Cond.fieldLink RX6 9 "UpwardGrants$Text" "letters" "[C", Cond.fieldLink RX6 15 "UpwardGrants$Text" "length" "I", Cond.methodLink RX7 18 yX3_init, Cond.instanceMethod yX3_init, Cond.code yX3_init cX3_init 1 none, Cond.methodLink RX3 3 objectInit, Cond.fieldLink RX3 9 "UpwardGrants$Setup" "period" "[I", Cond.fieldLink RX3 15 "UpwardGrants$Setup" "owner" "[I", Cond.fieldLink RX3 18 "UpwardGrants$Setup" "priority" "[I"]
def wsX7_init_r3 : List Cond := [Cond.fieldLink RX3 21 "UpwardGrants$Setup" "rate" "[I", Cond.fieldLink RX3 24 "UpwardGrants$Setup" "limit" "[I", Cond.methodLink RX3 27 yX3_begin, Cond.instanceMethod yX3_begin, Cond.selects RX3 yX3_begin yX3_begin, Cond.code yX3_begin cX3_begin 1 none, Cond.fieldLink RX3 30 "UpwardGrants$Setup" "terminals" "I", Cond.fieldLink RX3 34 "UpwardGrants$Setup" "classes" "I", Cond.fieldLink RX3 37 "UpwardGrants$Setup" "room" "I", Cond.fieldLink RX3 40 "UpwardGrants$Setup" "ban" "I", Cond.fieldLink RX3 43 "UpwardGrants$Setup" "back" "I", Cond.fieldLink RX3 46 "UpwardGrants$Setup" "tries" "I", Cond.instanceMethod yX4_init, Cond.code yX4_init cX4_init 1 none, Cond.methodLink RX4 3 objectInit, Cond.fieldLink RX4 9 "UpwardGrants$State" "wants" "[I", Cond.fieldLink RX4 15 "UpwardGrants$State" "bannedTill" "[I", Cond.fieldLink RX4 18 "UpwardGrants$State" "asked" "[I", Cond.fieldLink RX4 21 "UpwardGrants$State" "thought" "[I", Cond.fieldLink RX4 24 "UpwardGrants$State" "asks" "[I", Cond.fieldLink RX4 27 "UpwardGrants$State" "granted" "[I", Cond.fieldLink RX4 30 "UpwardGrants$State" "waits" "[I", Cond.fieldLink RX4 33 "UpwardGrants$State" "tokens" "[I", Cond.fieldLink RX4 36 "UpwardGrants$State" "through" "[I"]
def wsX7_init_r4 : List Cond := [Cond.fieldLink RX4 39 "UpwardGrants$State" "lost" "[I", Cond.fieldLink RX4 42 "UpwardGrants$State" "deafBits" "[I", Cond.classLink RX4 45 RX0, Cond.instantiable RX0 6, Cond.initialized RX0, Cond.fieldLink RX4 48 "UpwardGrants$State" "blocks" "LUpwardGrants$Blocks;", Cond.instanceMethod yX0_init, Cond.code yX0_init cX0_init 1 none, Cond.methodLink RX0 3 objectInit, Cond.fieldLink RX0 9 "UpwardGrants$Blocks" "size" "I", Cond.fieldLink RX0 15 "UpwardGrants$Blocks" "terminal" "[I", Cond.fieldLink RX0 19 "UpwardGrants$Blocks" "due" "[I", Cond.fieldLink RX0 22 "UpwardGrants$Blocks" "sent" "[I", Cond.fieldLink RX0 25 "UpwardGrants$Blocks" "report" "[I", Cond.fieldLink RX0 28 "UpwardGrants$Blocks" "letters" "[I", Cond.methodLink RX7 38 yX5_init, Cond.instanceMethod yX5_init, Cond.code yX5_init cX5_init 3 none, Cond.methodLink RX5 3 objectInit, Cond.fieldLink RX5 9 "UpwardGrants$Station" "left" "I", Cond.fieldLink RX5 15 "UpwardGrants$Station" "setup" "LUpwardGrants$Setup;", Cond.fieldLink RX5 19 "UpwardGrants$Station" "state" "LUpwardGrants$State;", Cond.methodLink RX7 50 yX1_init, Cond.instanceMethod yX1_init]
def wsX7_init_r5 : List Cond := [Cond.code yX1_init cX1_init 2 none, Cond.methodLink RX1 3 objectInit, Cond.fieldLink RX1 9 "UpwardGrants$History" "known" "I", Cond.fieldLink RX1 15 "UpwardGrants$History" "newest" "I", Cond.classLink RX1 18 RX4, Cond.fieldLink RX1 20 "UpwardGrants$History" "before" "[LUpwardGrants$State;", Cond.instanceMethod yX2_init, Cond.code yX2_init cX2_init 1 none, Cond.methodLink RX2 1 objectInit, Cond.fieldLink RX2 7 "UpwardGrants$Image" "there" "Z", Cond.classLink RX2 13 RX4, Cond.fieldLink RX2 16 "UpwardGrants$Image" "state" "LUpwardGrants$State;", Cond.methodLink RX7 76 yX7_beginAnew, Cond.instanceMethod yX7_beginAnew, Cond.selects RX7 yX7_beginAnew yX7_beginAnew, Cond.initialized RX7, Cond.code yX7_beginAnew cX7_beginAnew 1 none, Cond.fieldLink RX7 249 "UpwardGrants$Setup" "room" "I", Cond.fieldLink RX7 137 "UpwardGrants$History" "known" "I", Cond.fieldLink RX7 226 "UpwardGrants$Image" "there" "Z", Cond.methodLink RX7 250 yX4_begin, Cond.instanceMethod yX4_begin, Cond.selects RX4 yX4_begin yX4_begin, Cond.code yX4_begin cX4_begin 2 none]
def wsX7_init_r6 : List Cond := [Cond.fieldLink RX4 52 "UpwardGrants$State" "now" "I", Cond.fieldLink RX4 56 "UpwardGrants$State" "room" "I", Cond.fieldLink RX4 59 "UpwardGrants$State" "last" "I", Cond.fieldLink RX4 68 "UpwardGrants$Blocks" "size" "I", Cond.methodLink RX4 62 yJ7_fill_53178, Cond.static yJ7_fill_53178, Cond.initialized RJ7, Cond.code yJ7_fill_53178 cJ7_fill_53178 4 none]
def wsX7_init : List Cond := .code yX7_init cX7_init 1 none :: ((wsX7_init_r1 ++ (wsX7_init_r2 ++ (wsX7_init_r3 ++ (wsX7_init_r4 ++ (wsX7_init_r5 ++ wsX7_init_r6))))) ++ wsX60 ++ wsX70 ++ wsX30 ++ wsX40 ++ wsX50 ++ wsX10 ++ wsX20 ++ wsX00)
def wsX7_type : List Cond := .code yX7_type cX7_type 2 (some .int) :: ([.fieldLink RX7 10 "UpwardGrants" "text" "LUpwardGrants$Text;", .fieldLink RX7 87 "UpwardGrants$Text" "length" "I", .methodLink RX7 79 yX7_isWithin, .static yX7_isWithin, .initialized RX7, .code yX7_isWithin cX7_isWithin 3 (some .boolean), .methodLink RX7 83 yX6_add, .instanceMethod yX6_add, .selects RX6 yX6_add yX6_add, .initialized RX6, .code yX6_add cX6_add 2 (some .boolean), .fieldLink RX6 15 "UpwardGrants$Text" "length" "I", .fieldLink RX6 9 "UpwardGrants$Text" "letters" "[C"] ++ wsX70 ++ wsX60)
def wsX7_clear : List Cond := .code yX7_clear cX7_clear 1 (some .int) :: ([.fieldLink RX7 10 "UpwardGrants" "text" "LUpwardGrants$Text;", .methodLink RX7 90 yX6_empty, .instanceMethod yX6_empty, .selects RX6 yX6_empty yX6_empty, .initialized RX6, .code yX6_empty cX6_empty 2 (some .int), .fieldLink RX6 15 "UpwardGrants$Text" "length" "I"] ++ wsX70 ++ wsX60)
def wsX7_cell_r1 : List Cond := [Cond.fieldLink RX7 10 "UpwardGrants" "text" "LUpwardGrants$Text;", Cond.fieldLink RX7 23 "UpwardGrants" "draft" "LUpwardGrants$Setup;", Cond.fieldLink RX7 19 "UpwardGrants" "setup" "LUpwardGrants$Setup;", Cond.methodLink RX7 94 yX6_readInto, Cond.instanceMethod yX6_readInto, Cond.selects RX6 yX6_readInto yX6_readInto, Cond.initialized RX6, Cond.code yX6_readInto cX6_readInto 4 (some .int), Cond.fieldLink RX6 24 "UpwardGrants$Text" "place" "I", Cond.fieldLink RX6 30 "UpwardGrants$Text" "token" "I", Cond.fieldLink RX6 53 "UpwardGrants$Text" "tokenPlace" "I", Cond.methodLink RX6 19 yX3_begin, Cond.instanceMethod yX3_begin, Cond.selects RX3 yX3_begin yX3_begin, Cond.initialized RX3, Cond.code yX3_begin cX3_begin 1 none, Cond.fieldLink RX3 30 "UpwardGrants$Setup" "terminals" "I", Cond.fieldLink RX3 34 "UpwardGrants$Setup" "classes" "I", Cond.fieldLink RX3 37 "UpwardGrants$Setup" "room" "I", Cond.fieldLink RX3 40 "UpwardGrants$Setup" "ban" "I", Cond.fieldLink RX3 43 "UpwardGrants$Setup" "back" "I", Cond.fieldLink RX3 46 "UpwardGrants$Setup" "tries" "I", Cond.methodLink RX6 27 yX6_nextToken, Cond.instanceMethod yX6_nextToken]
def wsX7_cell_r2 : List Cond := [Cond.selects RX6 yX6_nextToken yX6_nextToken, Cond.code yX6_nextToken cX6_nextToken 2 none, Cond.fieldLink RX6 15 "UpwardGrants$Text" "length" "I", Cond.methodLink RX6 97 yX6_letterAt, Cond.instanceMethod yX6_letterAt, Cond.selects RX6 yX6_letterAt yX6_letterAt, Cond.code yX6_letterAt cX6_letterAt 2 (some .char), Cond.fieldLink RX6 9 "UpwardGrants$Text" "letters" "[C", Cond.methodLink RX6 101 yX6_isDigit, Cond.static yX6_isDigit, Cond.code yX6_isDigit cX6_isDigit 1 (some .boolean), Cond.methodLink RX6 105 yX6_nextNumber, Cond.instanceMethod yX6_nextNumber, Cond.selects RX6 yX6_nextNumber yX6_nextNumber, Cond.code yX6_nextNumber cX6_nextNumber 2 none, Cond.fieldLink RX6 67 "UpwardGrants$Text" "number" "I", Cond.methodLink RX6 111 Lib.Math.min.name, Cond.static Lib.Math.min.name, Cond.initialized "java/lang/Math", Cond.code Lib.Math.min.name Lib.Math.min.code 2 (some .int), Cond.methodLink RX6 108 yX6_isSign, Cond.static yX6_isSign, Cond.code yX6_isSign cX6_isSign 1 (some .boolean), Cond.methodLink RX6 33 yX6_readTerminal]
def wsX7_cell_r3 : List Cond := [Cond.instanceMethod yX6_readTerminal, Cond.selects RX6 yX6_readTerminal yX6_readTerminal, Cond.code yX6_readTerminal cX6_readTerminal 3 (some .boolean), Cond.fieldLink RX6 56 "UpwardGrants$Setup" "terminals" "I", Cond.fieldLink RX6 63 "UpwardGrants$Setup" "period" "[I", Cond.methodLink RX6 59 yX6_readNumber, Cond.instanceMethod yX6_readNumber, Cond.selects RX6 yX6_readNumber yX6_readNumber, Cond.code yX6_readNumber cX6_readNumber 3 (some .boolean), Cond.methodLink RX6 37 yX6_readClass, Cond.instanceMethod yX6_readClass, Cond.selects RX6 yX6_readClass yX6_readClass, Cond.code yX6_readClass cX6_readClass 3 (some .boolean), Cond.fieldLink RX6 70 "UpwardGrants$Setup" "classes" "I", Cond.fieldLink RX6 73 "UpwardGrants$Setup" "owner" "[I", Cond.fieldLink RX6 76 "UpwardGrants$Setup" "priority" "[I", Cond.fieldLink RX6 79 "UpwardGrants$Setup" "rate" "[I", Cond.fieldLink RX6 82 "UpwardGrants$Setup" "limit" "[I", Cond.methodLink RX6 40 yX6_readRoom, Cond.instanceMethod yX6_readRoom, Cond.selects RX6 yX6_readRoom yX6_readRoom, Cond.code yX6_readRoom cX6_readRoom 2 (some .boolean), Cond.fieldLink RX6 85 "UpwardGrants$Setup" "room" "I", Cond.methodLink RX6 43 yX6_readBan]
def wsX7_cell_r4 : List Cond := [Cond.instanceMethod yX6_readBan, Cond.selects RX6 yX6_readBan yX6_readBan, Cond.code yX6_readBan cX6_readBan 2 (some .boolean), Cond.fieldLink RX6 88 "UpwardGrants$Setup" "ban" "I", Cond.methodLink RX6 46 yX6_readBackAndTries, Cond.instanceMethod yX6_readBackAndTries, Cond.selects RX6 yX6_readBackAndTries yX6_readBackAndTries, Cond.code yX6_readBackAndTries cX6_readBackAndTries 2 (some .boolean), Cond.fieldLink RX6 91 "UpwardGrants$Setup" "back" "I", Cond.fieldLink RX6 94 "UpwardGrants$Setup" "tries" "I", Cond.methodLink RX6 49 yX6_readEnd, Cond.instanceMethod yX6_readEnd, Cond.selects RX6 yX6_readEnd yX6_readEnd, Cond.code yX6_readEnd cX6_readEnd 1 (some .boolean), Cond.methodLink RX7 98 yX3_copyFrom, Cond.instanceMethod yX3_copyFrom, Cond.selects RX3 yX3_copyFrom yX3_copyFrom, Cond.code yX3_copyFrom cX3_copyFrom 2 none, Cond.fieldLink RX3 9 "UpwardGrants$Setup" "period" "[I", Cond.fieldLink RX3 15 "UpwardGrants$Setup" "owner" "[I", Cond.fieldLink RX3 18 "UpwardGrants$Setup" "priority" "[I", Cond.fieldLink RX3 21 "UpwardGrants$Setup" "rate" "[I", Cond.fieldLink RX3 24 "UpwardGrants$Setup" "limit" "[I", Cond.static yX7_copyRow]
def wsX7_cell_r5 : List Cond := [Cond.initialized RX7, Cond.code yX7_copyRow cX7_copyRow 2 none, Cond.methodLink RX7 254 Lib.Math.min.name, Cond.methodLink RX7 259 arraycopyName, Cond.native arraycopyName, Cond.static arraycopyName, Cond.initialized "java/lang/System", Cond.methodLink RX7 90 yX6_empty, Cond.instanceMethod yX6_empty, Cond.selects RX6 yX6_empty yX6_empty, Cond.code yX6_empty cX6_empty 2 (some .int), Cond.methodLink RX7 76 yX7_beginAnew, Cond.instanceMethod yX7_beginAnew, Cond.selects RX7 yX7_beginAnew yX7_beginAnew, Cond.code yX7_beginAnew cX7_beginAnew 1 none, Cond.fieldLink RX7 29 "UpwardGrants" "state" "LUpwardGrants$State;", Cond.fieldLink RX7 249 "UpwardGrants$Setup" "room" "I", Cond.fieldLink RX7 51 "UpwardGrants" "history" "LUpwardGrants$History;", Cond.fieldLink RX7 137 "UpwardGrants$History" "known" "I", Cond.fieldLink RX7 58 "UpwardGrants" "firstImage" "LUpwardGrants$Image;", Cond.fieldLink RX7 226 "UpwardGrants$Image" "there" "Z", Cond.fieldLink RX7 62 "UpwardGrants" "secondImage" "LUpwardGrants$Image;", Cond.fieldLink RX7 72 "UpwardGrants" "seen" "I", Cond.methodLink RX7 250 yX4_begin]
def wsX7_cell_r6 : List Cond := [Cond.instanceMethod yX4_begin, Cond.selects RX4 yX4_begin yX4_begin, Cond.initialized RX4, Cond.code yX4_begin cX4_begin 2 none, Cond.fieldLink RX4 52 "UpwardGrants$State" "now" "I", Cond.fieldLink RX4 56 "UpwardGrants$State" "room" "I", Cond.fieldLink RX4 59 "UpwardGrants$State" "last" "I", Cond.fieldLink RX4 9 "UpwardGrants$State" "wants" "[I", Cond.fieldLink RX4 15 "UpwardGrants$State" "bannedTill" "[I", Cond.fieldLink RX4 18 "UpwardGrants$State" "asked" "[I", Cond.fieldLink RX4 21 "UpwardGrants$State" "thought" "[I", Cond.fieldLink RX4 24 "UpwardGrants$State" "asks" "[I", Cond.fieldLink RX4 27 "UpwardGrants$State" "granted" "[I", Cond.fieldLink RX4 30 "UpwardGrants$State" "waits" "[I", Cond.fieldLink RX4 33 "UpwardGrants$State" "tokens" "[I", Cond.fieldLink RX4 36 "UpwardGrants$State" "through" "[I", Cond.fieldLink RX4 39 "UpwardGrants$State" "lost" "[I", Cond.fieldLink RX4 42 "UpwardGrants$State" "deafBits" "[I", Cond.fieldLink RX4 48 "UpwardGrants$State" "blocks" "LUpwardGrants$Blocks;", Cond.fieldLink RX4 68 "UpwardGrants$Blocks" "size" "I", Cond.methodLink RX4 62 yJ7_fill_53178, Cond.static yJ7_fill_53178, Cond.initialized RJ7, Cond.code yJ7_fill_53178 cJ7_fill_53178 4 none]
def wsX7_cell : List Cond := .code yX7_cell cX7_cell 2 (some .int) :: ((wsX7_cell_r1 ++ (wsX7_cell_r2 ++ (wsX7_cell_r3 ++ (wsX7_cell_r4 ++ (wsX7_cell_r5 ++ wsX7_cell_r6))))) ++ wsX70 ++ wsX60 ++ wsX30 ++ wsX10 ++ wsX20 ++ wsX40 ++ wsX00)
def wsX7_hasClass : List Cond := .code yX7_hasClass cX7_hasClass 2 (some .boolean) :: ([.fieldLink RX7 19 "UpwardGrants" "setup" "LUpwardGrants$Setup;", .fieldLink RX7 231 "UpwardGrants$Setup" "classes" "I"] ++ wsX70 ++ wsX30)
def wsX7_comes_r1 : List Cond := [Cond.fieldLink RX7 29 "UpwardGrants" "state" "LUpwardGrants$State;", Cond.fieldLink RX7 105 "UpwardGrants$State" "waits" "[I", Cond.fieldLink RX7 51 "UpwardGrants" "history" "LUpwardGrants$History;", Cond.fieldLink RX7 41 "UpwardGrants" "station" "LUpwardGrants$Station;", Cond.methodLink RX7 102 yX7_hasClass, Cond.instanceMethod yX7_hasClass, Cond.selects RX7 yX7_hasClass yX7_hasClass, Cond.initialized RX7, Cond.code yX7_hasClass cX7_hasClass 2 (some .boolean), Cond.fieldLink RX7 19 "UpwardGrants" "setup" "LUpwardGrants$Setup;", Cond.fieldLink RX7 231 "UpwardGrants$Setup" "classes" "I", Cond.methodLink RX7 79 yX7_isWithin, Cond.static yX7_isWithin, Cond.code yX7_isWithin cX7_isWithin 3 (some .boolean), Cond.methodLink RX7 108 yX1_remember, Cond.instanceMethod yX1_remember, Cond.selects RX1 yX1_remember yX1_remember, Cond.initialized RX1, Cond.code yX1_remember cX1_remember 3 none, Cond.fieldLink RX1 15 "UpwardGrants$History" "newest" "I", Cond.fieldLink RX1 9 "UpwardGrants$History" "known" "I", Cond.methodLink RX1 33 Lib.Math.min.name, Cond.static Lib.Math.min.name, Cond.initialized "java/lang/Math"]
def wsX7_comes_r2 : List Cond := [Cond.code Lib.Math.min.name Lib.Math.min.code 2 (some .int), Cond.methodLink RX1 25 yX1_rowAt, Cond.instanceMethod yX1_rowAt, Cond.selects RX1 yX1_rowAt yX1_rowAt, Cond.code yX1_rowAt cX1_rowAt 2 (some (.object "UpwardGrants$State")), Cond.fieldLink RX1 20 "UpwardGrants$History" "before" "[LUpwardGrants$State;", Cond.methodLink RX1 29 yX4_copyFrom, Cond.instanceMethod yX4_copyFrom, Cond.selects RX4 yX4_copyFrom yX4_copyFrom, Cond.initialized RX4, Cond.code yX4_copyFrom cX4_copyFrom 2 none, Cond.fieldLink RX4 52 "UpwardGrants$State" "now" "I", Cond.fieldLink RX4 56 "UpwardGrants$State" "room" "I", Cond.fieldLink RX4 59 "UpwardGrants$State" "last" "I", Cond.fieldLink RX4 9 "UpwardGrants$State" "wants" "[I", Cond.fieldLink RX4 15 "UpwardGrants$State" "bannedTill" "[I", Cond.fieldLink RX4 18 "UpwardGrants$State" "asked" "[I", Cond.fieldLink RX4 21 "UpwardGrants$State" "thought" "[I", Cond.fieldLink RX4 24 "UpwardGrants$State" "asks" "[I", Cond.fieldLink RX4 27 "UpwardGrants$State" "granted" "[I", Cond.fieldLink RX4 30 "UpwardGrants$State" "waits" "[I", Cond.fieldLink RX4 33 "UpwardGrants$State" "tokens" "[I", Cond.fieldLink RX4 36 "UpwardGrants$State" "through" "[I", Cond.fieldLink RX4 39 "UpwardGrants$State" "lost" "[I"]
def wsX7_comes_r3 : List Cond := [Cond.fieldLink RX4 42 "UpwardGrants$State" "deafBits" "[I", Cond.fieldLink RX4 48 "UpwardGrants$State" "blocks" "LUpwardGrants$Blocks;", Cond.static yX7_copyRow, Cond.code yX7_copyRow cX7_copyRow 2 none, Cond.methodLink RX7 254 Lib.Math.min.name, Cond.methodLink RX7 259 arraycopyName, Cond.native arraycopyName, Cond.static arraycopyName, Cond.initialized "java/lang/System", Cond.methodLink RX4 75 yX0_copyFrom, Cond.instanceMethod yX0_copyFrom, Cond.selects RX0 yX0_copyFrom yX0_copyFrom, Cond.initialized RX0, Cond.code yX0_copyFrom cX0_copyFrom 2 none, Cond.fieldLink RX0 9 "UpwardGrants$Blocks" "size" "I", Cond.fieldLink RX0 15 "UpwardGrants$Blocks" "terminal" "[I", Cond.fieldLink RX0 19 "UpwardGrants$Blocks" "due" "[I", Cond.fieldLink RX0 22 "UpwardGrants$Blocks" "sent" "[I", Cond.fieldLink RX0 25 "UpwardGrants$Blocks" "report" "[I", Cond.fieldLink RX0 28 "UpwardGrants$Blocks" "letters" "[I", Cond.methodLink RX7 112 yX5_bring, Cond.instanceMethod yX5_bring, Cond.selects RX5 yX5_bring yX5_bring, Cond.initialized RX5]
def wsX7_comes_r4 : List Cond := [Cond.code yX5_bring cX5_bring 4 none, Cond.fieldLink RX5 15 "UpwardGrants$Station" "setup" "LUpwardGrants$Setup;", Cond.fieldLink RX5 23 "UpwardGrants$Setup" "owner" "[I", Cond.fieldLink RX5 19 "UpwardGrants$Station" "state" "LUpwardGrants$State;", Cond.fieldLink RX5 37 "UpwardGrants$State" "wants" "[I", Cond.fieldLink RX5 42 "UpwardGrants$State" "waits" "[I", Cond.methodLink RX5 33 yX5_waitsUpTo, Cond.instanceMethod yX5_waitsUpTo, Cond.selects RX5 yX5_waitsUpTo yX5_waitsUpTo, Cond.code yX5_waitsUpTo cX5_waitsUpTo 4 (some .boolean), Cond.fieldLink RX5 45 "UpwardGrants$Setup" "classes" "I", Cond.methodLink RX5 48 yX3_isAhead, Cond.instanceMethod yX3_isAhead, Cond.selects RX3 yX3_isAhead yX3_isAhead, Cond.initialized RX3, Cond.code yX3_isAhead cX3_isAhead 3 (some .boolean), Cond.fieldLink RX3 18 "UpwardGrants$Setup" "priority" "[I"]
def wsX7_comes : List Cond := .code yX7_comes cX7_comes 3 (some .int) :: ((wsX7_comes_r1 ++ (wsX7_comes_r2 ++ (wsX7_comes_r3 ++ wsX7_comes_r4))) ++ wsX70 ++ wsX40 ++ wsX30 ++ wsX10 ++ wsX00 ++ wsX50)
def wsX7_steps_r1 : List Cond := [Cond.fieldLink RX7 29 "UpwardGrants" "state" "LUpwardGrants$State;", Cond.fieldLink RX7 116 "UpwardGrants$State" "now" "I", Cond.fieldLink RX7 51 "UpwardGrants" "history" "LUpwardGrants$History;", Cond.fieldLink RX7 41 "UpwardGrants" "station" "LUpwardGrants$Station;", Cond.methodLink RX7 79 yX7_isWithin, Cond.static yX7_isWithin, Cond.initialized RX7, Cond.code yX7_isWithin cX7_isWithin 3 (some .boolean), Cond.methodLink RX7 108 yX1_remember, Cond.instanceMethod yX1_remember, Cond.selects RX1 yX1_remember yX1_remember, Cond.initialized RX1, Cond.code yX1_remember cX1_remember 3 none, Cond.fieldLink RX1 15 "UpwardGrants$History" "newest" "I", Cond.fieldLink RX1 9 "UpwardGrants$History" "known" "I", Cond.methodLink RX1 33 Lib.Math.min.name, Cond.static Lib.Math.min.name, Cond.initialized "java/lang/Math", Cond.code Lib.Math.min.name Lib.Math.min.code 2 (some .int), Cond.methodLink RX1 25 yX1_rowAt, Cond.instanceMethod yX1_rowAt, Cond.selects RX1 yX1_rowAt yX1_rowAt, Cond.code yX1_rowAt cX1_rowAt 2 (some (.object "UpwardGrants$State")), Cond.fieldLink RX1 20 "UpwardGrants$History" "before" "[LUpwardGrants$State;"]
def wsX7_steps_r2 : List Cond := [Cond.methodLink RX1 29 yX4_copyFrom, Cond.instanceMethod yX4_copyFrom, Cond.selects RX4 yX4_copyFrom yX4_copyFrom, Cond.initialized RX4, Cond.code yX4_copyFrom cX4_copyFrom 2 none, Cond.fieldLink RX4 52 "UpwardGrants$State" "now" "I", Cond.fieldLink RX4 56 "UpwardGrants$State" "room" "I", Cond.fieldLink RX4 59 "UpwardGrants$State" "last" "I", Cond.fieldLink RX4 9 "UpwardGrants$State" "wants" "[I", Cond.fieldLink RX4 15 "UpwardGrants$State" "bannedTill" "[I", Cond.fieldLink RX4 18 "UpwardGrants$State" "asked" "[I", Cond.fieldLink RX4 21 "UpwardGrants$State" "thought" "[I", Cond.fieldLink RX4 24 "UpwardGrants$State" "asks" "[I", Cond.fieldLink RX4 27 "UpwardGrants$State" "granted" "[I", Cond.fieldLink RX4 30 "UpwardGrants$State" "waits" "[I", Cond.fieldLink RX4 33 "UpwardGrants$State" "tokens" "[I", Cond.fieldLink RX4 36 "UpwardGrants$State" "through" "[I", Cond.fieldLink RX4 39 "UpwardGrants$State" "lost" "[I", Cond.fieldLink RX4 42 "UpwardGrants$State" "deafBits" "[I", Cond.fieldLink RX4 48 "UpwardGrants$State" "blocks" "LUpwardGrants$Blocks;", Cond.static yX7_copyRow, Cond.code yX7_copyRow cX7_copyRow 2 none, Cond.methodLink RX7 254 Lib.Math.min.name, Cond.methodLink RX7 259 arraycopyName]
def wsX7_steps_r3 : List Cond := [Cond.native arraycopyName, Cond.static arraycopyName, Cond.initialized "java/lang/System", Cond.methodLink RX4 75 yX0_copyFrom, Cond.instanceMethod yX0_copyFrom, Cond.selects RX0 yX0_copyFrom yX0_copyFrom, Cond.initialized RX0, Cond.code yX0_copyFrom cX0_copyFrom 2 none, Cond.fieldLink RX0 9 "UpwardGrants$Blocks" "size" "I", Cond.fieldLink RX0 15 "UpwardGrants$Blocks" "terminal" "[I", Cond.fieldLink RX0 19 "UpwardGrants$Blocks" "due" "[I", Cond.fieldLink RX0 22 "UpwardGrants$Blocks" "sent" "[I", Cond.fieldLink RX0 25 "UpwardGrants$Blocks" "report" "[I", Cond.fieldLink RX0 28 "UpwardGrants$Blocks" "letters" "[I", Cond.methodLink RX7 119 yX5_takeSteps, Cond.instanceMethod yX5_takeSteps, Cond.selects RX5 yX5_takeSteps yX5_takeSteps, Cond.initialized RX5, Cond.code yX5_takeSteps cX5_takeSteps 4 (some .int), Cond.fieldLink RX5 19 "UpwardGrants$Station" "state" "LUpwardGrants$State;", Cond.fieldLink RX5 70 "UpwardGrants$State" "room" "I", Cond.fieldLink RX5 9 "UpwardGrants$Station" "left" "I", Cond.fieldLink RX5 79 "UpwardGrants$State" "blocks" "LUpwardGrants$Blocks;", Cond.fieldLink RX5 88 "UpwardGrants$State" "now" "I"]
def wsX7_steps_r4 : List Cond := [Cond.methodLink RX5 60 yX4_allThrough, Cond.instanceMethod yX4_allThrough, Cond.selects RX4 yX4_allThrough yX4_allThrough, Cond.code yX4_allThrough cX4_allThrough 3 (some .int), Cond.methodLink RX5 64 yX5_gainTokens, Cond.instanceMethod yX5_gainTokens, Cond.selects RX5 yX5_gainTokens yX5_gainTokens, Cond.code yX5_gainTokens cX5_gainTokens 2 none, Cond.fieldLink RX5 15 "UpwardGrants$Station" "setup" "LUpwardGrants$Setup;", Cond.fieldLink RX5 45 "UpwardGrants$Setup" "classes" "I", Cond.fieldLink RX5 91 "UpwardGrants$State" "tokens" "[I", Cond.fieldLink RX5 94 "UpwardGrants$Setup" "limit" "[I", Cond.fieldLink RX5 97 "UpwardGrants$Setup" "rate" "[I", Cond.methodLink RX5 100 Lib.Math.min.name, Cond.methodLink RX5 67 yX5_askInPlaces, Cond.instanceMethod yX5_askInPlaces, Cond.selects RX5 yX5_askInPlaces yX5_askInPlaces, Cond.code yX5_askInPlaces cX5_askInPlaces 3 none, Cond.fieldLink RX5 106 "UpwardGrants$Setup" "terminals" "I", Cond.fieldLink RX5 112 "UpwardGrants$State" "bannedTill" "[I", Cond.fieldLink RX5 37 "UpwardGrants$State" "wants" "[I", Cond.fieldLink RX5 115 "UpwardGrants$State" "asked" "[I", Cond.fieldLink RX5 118 "UpwardGrants$State" "asks" "[I", Cond.fieldLink RX5 121 "UpwardGrants$Setup" "ban" "I"]
def wsX7_steps_r5 : List Cond := [Cond.methodLink RX5 109 yX3_isPlaceToAsk, Cond.instanceMethod yX3_isPlaceToAsk, Cond.selects RX3 yX3_isPlaceToAsk yX3_isPlaceToAsk, Cond.initialized RX3, Cond.code yX3_isPlaceToAsk cX3_isPlaceToAsk 4 (some .boolean), Cond.fieldLink RX3 9 "UpwardGrants$Setup" "period" "[I", Cond.methodLink RX5 73 yX5_sendAgain, Cond.instanceMethod yX5_sendAgain, Cond.selects RX5 yX5_sendAgain yX5_sendAgain, Cond.code yX5_sendAgain cX5_sendAgain 3 none, Cond.fieldLink RX5 124 "UpwardGrants$Blocks" "size" "I", Cond.methodLink RX5 133 Lib.Math.max.name, Cond.static Lib.Math.max.name, Cond.code Lib.Math.max.name Lib.Math.max.code 2 (some .int), Cond.methodLink RX5 127 yX0_isDue, Cond.instanceMethod yX0_isDue, Cond.selects RX0 yX0_isDue yX0_isDue, Cond.code yX0_isDue cX0_isDue 4 (some .boolean), Cond.methodLink RX5 130 yX0_content, Cond.instanceMethod yX0_content, Cond.selects RX0 yX0_content yX0_content, Cond.code yX0_content cX0_content 2 (some .int), Cond.methodLink RX0 31 yX0_allLetters, Cond.instanceMethod yX0_allLetters]
def wsX7_steps_r6 : List Cond := [Cond.selects RX0 yX0_allLetters yX0_allLetters, Cond.code yX0_allLetters cX0_allLetters 5 (some .int), Cond.methodLink RX0 35 yX0_reportOf, Cond.instanceMethod yX0_reportOf, Cond.selects RX0 yX0_reportOf yX0_reportOf, Cond.code yX0_reportOf cX0_reportOf 2 (some .int), Cond.methodLink RX5 136 yX5_send, Cond.instanceMethod yX5_send, Cond.selects RX5 yX5_send yX5_send, Cond.code yX5_send cX5_send 7 none, Cond.fieldLink RX5 143 "UpwardGrants$State" "thought" "[I", Cond.fieldLink RX5 187 "UpwardGrants$State" "through" "[I", Cond.fieldLink RX5 198 "UpwardGrants$Setup" "tries" "I", Cond.fieldLink RX5 201 "UpwardGrants$Setup" "back" "I", Cond.fieldLink RX5 207 "UpwardGrants$State" "lost" "[I", Cond.methodLink RX5 175 yX0_countSending, Cond.instanceMethod yX0_countSending, Cond.selects RX0 yX0_countSending yX0_countSending, Cond.code yX0_countSending cX0_countSending 2 (some .int), Cond.methodLink RX5 178 yX4_isDeaf, Cond.instanceMethod yX4_isDeaf, Cond.selects RX4 yX4_isDeaf yX4_isDeaf, Cond.code yX4_isDeaf cX4_isDeaf 3 (some .boolean), Cond.methodLink RX5 181 yX0_reportOf]
def wsX7_steps_r7 : List Cond := [Cond.methodLink RX5 184 yX0_allLetters, Cond.methodLink RX5 190 yX0_addLettersTo, Cond.instanceMethod yX0_addLettersTo, Cond.selects RX0 yX0_addLettersTo yX0_addLettersTo, Cond.code yX0_addLettersTo cX0_addLettersTo 6 none, Cond.methodLink RX5 194 yX0_markGone, Cond.instanceMethod yX0_markGone, Cond.selects RX0 yX0_markGone yX0_markGone, Cond.code yX0_markGone cX0_markGone 2 none, Cond.methodLink RX5 204 yX0_putDue, Cond.instanceMethod yX0_putDue, Cond.selects RX0 yX0_putDue yX0_putDue, Cond.code yX0_putDue cX0_putDue 3 none, Cond.methodLink RX5 76 yX5_giveGrants, Cond.instanceMethod yX5_giveGrants, Cond.selects RX5 yX5_giveGrants yX5_giveGrants, Cond.code yX5_giveGrants cX5_giveGrants 5 none, Cond.fieldLink RX5 140 "UpwardGrants$State" "last" "I", Cond.methodLink RX5 146 yX5_takeGrant, Cond.instanceMethod yX5_takeGrant, Cond.selects RX5 yX5_takeGrant yX5_takeGrant, Cond.code yX5_takeGrant cX5_takeGrant 4 (some .int), Cond.fieldLink RX5 152 "UpwardGrants$State" "granted" "[I", Cond.methodLink RX5 149 yX5_pack]
def wsX7_steps_r8 : List Cond := [Cond.instanceMethod yX5_pack, Cond.selects RX5 yX5_pack yX5_pack, Cond.code yX5_pack cX5_pack 6 none, Cond.methodLink RX5 155 yX0_open, Cond.instanceMethod yX0_open, Cond.selects RX0 yX0_open yX0_open, Cond.code yX0_open cX0_open 4 (some .int), Cond.methodLink RX5 158 yX5_packLetters, Cond.instanceMethod yX5_packLetters, Cond.selects RX5 yX5_packLetters yX5_packLetters, Cond.code yX5_packLetters cX5_packLetters 9 (some .int), Cond.fieldLink RX5 23 "UpwardGrants$Setup" "owner" "[I", Cond.fieldLink RX5 168 "UpwardGrants$Setup" "priority" "[I", Cond.fieldLink RX5 42 "UpwardGrants$State" "waits" "[I", Cond.methodLink RX5 171 yX0_putLetters, Cond.instanceMethod yX0_putLetters, Cond.selects RX0 yX0_putLetters yX0_putLetters, Cond.code yX0_putLetters cX0_putLetters 5 none, Cond.methodLink RX5 162 yX5_waitingAt, Cond.instanceMethod yX5_waitingAt, Cond.selects RX5 yX5_waitingAt yX5_waitingAt, Cond.code yX5_waitingAt cX5_waitingAt 4 (some .int), Cond.methodLink RX5 165 yX0_putReport, Cond.instanceMethod yX0_putReport]
def wsX7_steps_r9 : List Cond := [Cond.selects RX0 yX0_putReport yX0_putReport, Cond.code yX0_putReport cX0_putReport 3 none, Cond.methodLink RX5 83 yX0_dropGone, Cond.instanceMethod yX0_dropGone, Cond.selects RX0 yX0_dropGone yX0_dropGone, Cond.code yX0_dropGone cX0_dropGone 3 none, Cond.methodLink RX0 38 yX0_move, Cond.instanceMethod yX0_move, Cond.selects RX0 yX0_move yX0_move, Cond.code yX0_move cX0_move 4 none]
def wsX7_steps : List Cond := .code yX7_steps cX7_steps 2 (some .int) :: ((wsX7_steps_r1 ++ (wsX7_steps_r2 ++ (wsX7_steps_r3 ++ (wsX7_steps_r4 ++ (wsX7_steps_r5 ++ (wsX7_steps_r6 ++ (wsX7_steps_r7 ++ (wsX7_steps_r8 ++ wsX7_steps_r9)))))))) ++ wsX70 ++ wsX40 ++ wsX10 ++ wsX00 ++ wsX50 ++ wsX30)
def wsX7_hasTerminal : List Cond := .code yX7_hasTerminal cX7_hasTerminal 2 (some .boolean) :: ([.fieldLink RX7 19 "UpwardGrants" "setup" "LUpwardGrants$Setup;", .fieldLink RX7 213 "UpwardGrants$Setup" "terminals" "I"] ++ wsX70 ++ wsX30)
def wsX7_deafens_r1 : List Cond := [Cond.fieldLink RX7 29 "UpwardGrants" "state" "LUpwardGrants$State;", Cond.fieldLink RX7 116 "UpwardGrants$State" "now" "I", Cond.fieldLink RX7 51 "UpwardGrants" "history" "LUpwardGrants$History;", Cond.methodLink RX7 123 yX7_hasTerminal, Cond.instanceMethod yX7_hasTerminal, Cond.selects RX7 yX7_hasTerminal yX7_hasTerminal, Cond.initialized RX7, Cond.code yX7_hasTerminal cX7_hasTerminal 2 (some .boolean), Cond.fieldLink RX7 19 "UpwardGrants" "setup" "LUpwardGrants$Setup;", Cond.fieldLink RX7 213 "UpwardGrants$Setup" "terminals" "I", Cond.methodLink RX7 79 yX7_isWithin, Cond.static yX7_isWithin, Cond.code yX7_isWithin cX7_isWithin 3 (some .boolean), Cond.methodLink RX7 108 yX1_remember, Cond.instanceMethod yX1_remember, Cond.selects RX1 yX1_remember yX1_remember, Cond.initialized RX1, Cond.code yX1_remember cX1_remember 3 none, Cond.fieldLink RX1 15 "UpwardGrants$History" "newest" "I", Cond.fieldLink RX1 9 "UpwardGrants$History" "known" "I", Cond.methodLink RX1 33 Lib.Math.min.name, Cond.static Lib.Math.min.name, Cond.initialized "java/lang/Math", Cond.code Lib.Math.min.name Lib.Math.min.code 2 (some .int)]
def wsX7_deafens_r2 : List Cond := [Cond.methodLink RX1 25 yX1_rowAt, Cond.instanceMethod yX1_rowAt, Cond.selects RX1 yX1_rowAt yX1_rowAt, Cond.code yX1_rowAt cX1_rowAt 2 (some (.object "UpwardGrants$State")), Cond.fieldLink RX1 20 "UpwardGrants$History" "before" "[LUpwardGrants$State;", Cond.methodLink RX1 29 yX4_copyFrom, Cond.instanceMethod yX4_copyFrom, Cond.selects RX4 yX4_copyFrom yX4_copyFrom, Cond.initialized RX4, Cond.code yX4_copyFrom cX4_copyFrom 2 none, Cond.fieldLink RX4 52 "UpwardGrants$State" "now" "I", Cond.fieldLink RX4 56 "UpwardGrants$State" "room" "I", Cond.fieldLink RX4 59 "UpwardGrants$State" "last" "I", Cond.fieldLink RX4 9 "UpwardGrants$State" "wants" "[I", Cond.fieldLink RX4 15 "UpwardGrants$State" "bannedTill" "[I", Cond.fieldLink RX4 18 "UpwardGrants$State" "asked" "[I", Cond.fieldLink RX4 21 "UpwardGrants$State" "thought" "[I", Cond.fieldLink RX4 24 "UpwardGrants$State" "asks" "[I", Cond.fieldLink RX4 27 "UpwardGrants$State" "granted" "[I", Cond.fieldLink RX4 30 "UpwardGrants$State" "waits" "[I", Cond.fieldLink RX4 33 "UpwardGrants$State" "tokens" "[I", Cond.fieldLink RX4 36 "UpwardGrants$State" "through" "[I", Cond.fieldLink RX4 39 "UpwardGrants$State" "lost" "[I", Cond.fieldLink RX4 42 "UpwardGrants$State" "deafBits" "[I"]
def wsX7_deafens_r3 : List Cond := [Cond.fieldLink RX4 48 "UpwardGrants$State" "blocks" "LUpwardGrants$Blocks;", Cond.static yX7_copyRow, Cond.code yX7_copyRow cX7_copyRow 2 none, Cond.methodLink RX7 254 Lib.Math.min.name, Cond.methodLink RX7 259 arraycopyName, Cond.native arraycopyName, Cond.static arraycopyName, Cond.initialized "java/lang/System", Cond.methodLink RX4 75 yX0_copyFrom, Cond.instanceMethod yX0_copyFrom, Cond.selects RX0 yX0_copyFrom yX0_copyFrom, Cond.initialized RX0, Cond.code yX0_copyFrom cX0_copyFrom 2 none, Cond.fieldLink RX0 9 "UpwardGrants$Blocks" "size" "I", Cond.fieldLink RX0 15 "UpwardGrants$Blocks" "terminal" "[I", Cond.fieldLink RX0 19 "UpwardGrants$Blocks" "due" "[I", Cond.fieldLink RX0 22 "UpwardGrants$Blocks" "sent" "[I", Cond.fieldLink RX0 25 "UpwardGrants$Blocks" "report" "[I", Cond.fieldLink RX0 28 "UpwardGrants$Blocks" "letters" "[I", Cond.methodLink RX7 126 yX4_makeDeaf, Cond.instanceMethod yX4_makeDeaf, Cond.selects RX4 yX4_makeDeaf yX4_makeDeaf, Cond.code yX4_makeDeaf cX4_makeDeaf 6 (some .int), Cond.methodLink RX4 79 Lib.Math.max.name]
def wsX7_deafens_r4 : List Cond := [Cond.static Lib.Math.max.name, Cond.code Lib.Math.max.name Lib.Math.max.code 2 (some .int), Cond.methodLink RX4 85 yX4_isDeaf, Cond.instanceMethod yX4_isDeaf, Cond.selects RX4 yX4_isDeaf yX4_isDeaf, Cond.code yX4_isDeaf cX4_isDeaf 3 (some .boolean)]
def wsX7_deafens : List Cond := .code yX7_deafens cX7_deafens 4 (some .int) :: ((wsX7_deafens_r1 ++ (wsX7_deafens_r2 ++ (wsX7_deafens_r3 ++ wsX7_deafens_r4))) ++ wsX70 ++ wsX40 ++ wsX30 ++ wsX10 ++ wsX00)
def wsX7_widens_r1 : List Cond := [Cond.fieldLink RX7 29 "UpwardGrants" "state" "LUpwardGrants$State;", Cond.fieldLink RX7 130 "UpwardGrants$State" "room" "I", Cond.fieldLink RX7 51 "UpwardGrants" "history" "LUpwardGrants$History;", Cond.methodLink RX7 79 yX7_isWithin, Cond.static yX7_isWithin, Cond.initialized RX7, Cond.code yX7_isWithin cX7_isWithin 3 (some .boolean), Cond.methodLink RX7 108 yX1_remember, Cond.instanceMethod yX1_remember, Cond.selects RX1 yX1_remember yX1_remember, Cond.initialized RX1, Cond.code yX1_remember cX1_remember 3 none, Cond.fieldLink RX1 15 "UpwardGrants$History" "newest" "I", Cond.fieldLink RX1 9 "UpwardGrants$History" "known" "I", Cond.methodLink RX1 33 Lib.Math.min.name, Cond.static Lib.Math.min.name, Cond.initialized "java/lang/Math", Cond.code Lib.Math.min.name Lib.Math.min.code 2 (some .int), Cond.methodLink RX1 25 yX1_rowAt, Cond.instanceMethod yX1_rowAt, Cond.selects RX1 yX1_rowAt yX1_rowAt, Cond.code yX1_rowAt cX1_rowAt 2 (some (.object "UpwardGrants$State")), Cond.fieldLink RX1 20 "UpwardGrants$History" "before" "[LUpwardGrants$State;", Cond.methodLink RX1 29 yX4_copyFrom]
def wsX7_widens_r2 : List Cond := [Cond.instanceMethod yX4_copyFrom, Cond.selects RX4 yX4_copyFrom yX4_copyFrom, Cond.initialized RX4, Cond.code yX4_copyFrom cX4_copyFrom 2 none, Cond.fieldLink RX4 52 "UpwardGrants$State" "now" "I", Cond.fieldLink RX4 56 "UpwardGrants$State" "room" "I", Cond.fieldLink RX4 59 "UpwardGrants$State" "last" "I", Cond.fieldLink RX4 9 "UpwardGrants$State" "wants" "[I", Cond.fieldLink RX4 15 "UpwardGrants$State" "bannedTill" "[I", Cond.fieldLink RX4 18 "UpwardGrants$State" "asked" "[I", Cond.fieldLink RX4 21 "UpwardGrants$State" "thought" "[I", Cond.fieldLink RX4 24 "UpwardGrants$State" "asks" "[I", Cond.fieldLink RX4 27 "UpwardGrants$State" "granted" "[I", Cond.fieldLink RX4 30 "UpwardGrants$State" "waits" "[I", Cond.fieldLink RX4 33 "UpwardGrants$State" "tokens" "[I", Cond.fieldLink RX4 36 "UpwardGrants$State" "through" "[I", Cond.fieldLink RX4 39 "UpwardGrants$State" "lost" "[I", Cond.fieldLink RX4 42 "UpwardGrants$State" "deafBits" "[I", Cond.fieldLink RX4 48 "UpwardGrants$State" "blocks" "LUpwardGrants$Blocks;", Cond.static yX7_copyRow, Cond.code yX7_copyRow cX7_copyRow 2 none, Cond.methodLink RX7 254 Lib.Math.min.name, Cond.methodLink RX7 259 arraycopyName, Cond.native arraycopyName]
def wsX7_widens_r3 : List Cond := [Cond.static arraycopyName, Cond.initialized "java/lang/System", Cond.methodLink RX4 75 yX0_copyFrom, Cond.instanceMethod yX0_copyFrom, Cond.selects RX0 yX0_copyFrom yX0_copyFrom, Cond.initialized RX0, Cond.code yX0_copyFrom cX0_copyFrom 2 none, Cond.fieldLink RX0 9 "UpwardGrants$Blocks" "size" "I", Cond.fieldLink RX0 15 "UpwardGrants$Blocks" "terminal" "[I", Cond.fieldLink RX0 19 "UpwardGrants$Blocks" "due" "[I", Cond.fieldLink RX0 22 "UpwardGrants$Blocks" "sent" "[I", Cond.fieldLink RX0 25 "UpwardGrants$Blocks" "report" "[I", Cond.fieldLink RX0 28 "UpwardGrants$Blocks" "letters" "[I"]
def wsX7_widens : List Cond := .code yX7_widens cX7_widens 3 (some .int) :: ((wsX7_widens_r1 ++ (wsX7_widens_r2 ++ wsX7_widens_r3)) ++ wsX70 ++ wsX40 ++ wsX10 ++ wsX00)
def wsX7_undo_r1 : List Cond := [Cond.fieldLink RX7 51 "UpwardGrants" "history" "LUpwardGrants$History;", Cond.fieldLink RX7 29 "UpwardGrants" "state" "LUpwardGrants$State;", Cond.fieldLink RX7 137 "UpwardGrants$History" "known" "I", Cond.methodLink RX7 133 yX1_takeBack, Cond.instanceMethod yX1_takeBack, Cond.selects RX1 yX1_takeBack yX1_takeBack, Cond.initialized RX1, Cond.code yX1_takeBack cX1_takeBack 3 (some .boolean), Cond.fieldLink RX1 15 "UpwardGrants$History" "newest" "I", Cond.fieldLink RX1 9 "UpwardGrants$History" "known" "I", Cond.methodLink RX1 25 yX1_rowAt, Cond.instanceMethod yX1_rowAt, Cond.selects RX1 yX1_rowAt yX1_rowAt, Cond.code yX1_rowAt cX1_rowAt 2 (some (.object "UpwardGrants$State")), Cond.fieldLink RX1 20 "UpwardGrants$History" "before" "[LUpwardGrants$State;", Cond.static yX7_isWithin, Cond.initialized RX7, Cond.code yX7_isWithin cX7_isWithin 3 (some .boolean), Cond.methodLink RX1 29 yX4_copyFrom, Cond.instanceMethod yX4_copyFrom, Cond.selects RX4 yX4_copyFrom yX4_copyFrom, Cond.initialized RX4, Cond.code yX4_copyFrom cX4_copyFrom 2 none, Cond.fieldLink RX4 52 "UpwardGrants$State" "now" "I"]
def wsX7_undo_r2 : List Cond := [Cond.fieldLink RX4 56 "UpwardGrants$State" "room" "I", Cond.fieldLink RX4 59 "UpwardGrants$State" "last" "I", Cond.fieldLink RX4 9 "UpwardGrants$State" "wants" "[I", Cond.fieldLink RX4 15 "UpwardGrants$State" "bannedTill" "[I", Cond.fieldLink RX4 18 "UpwardGrants$State" "asked" "[I", Cond.fieldLink RX4 21 "UpwardGrants$State" "thought" "[I", Cond.fieldLink RX4 24 "UpwardGrants$State" "asks" "[I", Cond.fieldLink RX4 27 "UpwardGrants$State" "granted" "[I", Cond.fieldLink RX4 30 "UpwardGrants$State" "waits" "[I", Cond.fieldLink RX4 33 "UpwardGrants$State" "tokens" "[I", Cond.fieldLink RX4 36 "UpwardGrants$State" "through" "[I", Cond.fieldLink RX4 39 "UpwardGrants$State" "lost" "[I", Cond.fieldLink RX4 42 "UpwardGrants$State" "deafBits" "[I", Cond.fieldLink RX4 48 "UpwardGrants$State" "blocks" "LUpwardGrants$Blocks;", Cond.static yX7_copyRow, Cond.code yX7_copyRow cX7_copyRow 2 none, Cond.methodLink RX7 254 Lib.Math.min.name, Cond.static Lib.Math.min.name, Cond.initialized "java/lang/Math", Cond.code Lib.Math.min.name Lib.Math.min.code 2 (some .int), Cond.methodLink RX7 259 arraycopyName, Cond.native arraycopyName, Cond.static arraycopyName, Cond.initialized "java/lang/System"]
def wsX7_undo_r3 : List Cond := [Cond.methodLink RX4 75 yX0_copyFrom, Cond.instanceMethod yX0_copyFrom, Cond.selects RX0 yX0_copyFrom yX0_copyFrom, Cond.initialized RX0, Cond.code yX0_copyFrom cX0_copyFrom 2 none, Cond.fieldLink RX0 9 "UpwardGrants$Blocks" "size" "I", Cond.fieldLink RX0 15 "UpwardGrants$Blocks" "terminal" "[I", Cond.fieldLink RX0 19 "UpwardGrants$Blocks" "due" "[I", Cond.fieldLink RX0 22 "UpwardGrants$Blocks" "sent" "[I", Cond.fieldLink RX0 25 "UpwardGrants$Blocks" "report" "[I", Cond.fieldLink RX0 28 "UpwardGrants$Blocks" "letters" "[I"]
def wsX7_undo : List Cond := .code yX7_undo cX7_undo 1 (some .int) :: ((wsX7_undo_r1 ++ (wsX7_undo_r2 ++ wsX7_undo_r3)) ++ wsX70 ++ wsX10 ++ wsX40 ++ wsX00)
def wsX7_sort_r1 : List Cond := [Cond.fieldLink RX7 19 "UpwardGrants" "setup" "LUpwardGrants$Setup;", Cond.fieldLink RX7 140 "UpwardGrants$Setup" "owner" "[I", Cond.fieldLink RX7 143 "UpwardGrants$Setup" "priority" "[I", Cond.fieldLink RX7 146 "UpwardGrants$Setup" "rate" "[I", Cond.fieldLink RX7 149 "UpwardGrants$Setup" "limit" "[I", Cond.fieldLink RX7 29 "UpwardGrants" "state" "LUpwardGrants$State;", Cond.fieldLink RX7 105 "UpwardGrants$State" "waits" "[I", Cond.fieldLink RX7 152 "UpwardGrants$State" "tokens" "[I", Cond.fieldLink RX7 155 "UpwardGrants$State" "through" "[I", Cond.fieldLink RX7 158 "UpwardGrants$State" "lost" "[I", Cond.fieldLink RX7 161 "UpwardGrants$State" "blocks" "LUpwardGrants$Blocks;", Cond.methodLink RX7 102 yX7_hasClass, Cond.instanceMethod yX7_hasClass, Cond.selects RX7 yX7_hasClass yX7_hasClass, Cond.initialized RX7, Cond.code yX7_hasClass cX7_hasClass 2 (some .boolean), Cond.fieldLink RX7 231 "UpwardGrants$Setup" "classes" "I", Cond.methodLink RX7 165 yX0_lettersOnTheWay, Cond.instanceMethod yX0_lettersOnTheWay, Cond.selects RX0 yX0_lettersOnTheWay yX0_lettersOnTheWay, Cond.initialized RX0, Cond.code yX0_lettersOnTheWay cX0_lettersOnTheWay 4 (some .int), Cond.fieldLink RX0 9 "UpwardGrants$Blocks" "size" "I", Cond.methodLink RX0 49 yX0_lettersOf]
def wsX7_sort_r2 : List Cond := [Cond.instanceMethod yX0_lettersOf, Cond.selects RX0 yX0_lettersOf yX0_lettersOf, Cond.code yX0_lettersOf cX0_lettersOf 4 (some .int), Cond.fieldLink RX0 28 "UpwardGrants$Blocks" "letters" "[I"]
def wsX7_sort : List Cond := .code yX7_sort cX7_sort 3 (some .int) :: ((wsX7_sort_r1 ++ wsX7_sort_r2) ++ wsX70 ++ wsX30 ++ wsX40 ++ wsX00)
def wsX7_terminal_r1 : List Cond := [Cond.fieldLink RX7 19 "UpwardGrants" "setup" "LUpwardGrants$Setup;", Cond.fieldLink RX7 170 "UpwardGrants$Setup" "period" "[I", Cond.fieldLink RX7 29 "UpwardGrants" "state" "LUpwardGrants$State;", Cond.fieldLink RX7 173 "UpwardGrants$State" "wants" "[I", Cond.fieldLink RX7 176 "UpwardGrants$State" "bannedTill" "[I", Cond.fieldLink RX7 179 "UpwardGrants$State" "asked" "[I", Cond.fieldLink RX7 182 "UpwardGrants$State" "thought" "[I", Cond.fieldLink RX7 41 "UpwardGrants" "station" "LUpwardGrants$Station;", Cond.fieldLink RX7 188 "UpwardGrants$State" "asks" "[I", Cond.fieldLink RX7 191 "UpwardGrants$State" "granted" "[I", Cond.fieldLink RX7 161 "UpwardGrants$State" "blocks" "LUpwardGrants$Blocks;", Cond.methodLink RX7 123 yX7_hasTerminal, Cond.instanceMethod yX7_hasTerminal, Cond.selects RX7 yX7_hasTerminal yX7_hasTerminal, Cond.initialized RX7, Cond.code yX7_hasTerminal cX7_hasTerminal 2 (some .boolean), Cond.fieldLink RX7 213 "UpwardGrants$Setup" "terminals" "I", Cond.methodLink RX7 185 yX5_waitingAt, Cond.instanceMethod yX5_waitingAt, Cond.selects RX5 yX5_waitingAt yX5_waitingAt, Cond.initialized RX5, Cond.code yX5_waitingAt cX5_waitingAt 4 (some .int), Cond.fieldLink RX5 15 "UpwardGrants$Station" "setup" "LUpwardGrants$Setup;", Cond.fieldLink RX5 45 "UpwardGrants$Setup" "classes" "I"]
def wsX7_terminal_r2 : List Cond := [Cond.fieldLink RX5 23 "UpwardGrants$Setup" "owner" "[I", Cond.fieldLink RX5 19 "UpwardGrants$Station" "state" "LUpwardGrants$State;", Cond.fieldLink RX5 42 "UpwardGrants$State" "waits" "[I", Cond.methodLink RX7 194 yX0_blocksOf, Cond.instanceMethod yX0_blocksOf, Cond.selects RX0 yX0_blocksOf yX0_blocksOf, Cond.initialized RX0, Cond.code yX0_blocksOf cX0_blocksOf 4 (some .int), Cond.fieldLink RX0 9 "UpwardGrants$Blocks" "size" "I", Cond.fieldLink RX0 15 "UpwardGrants$Blocks" "terminal" "[I"]
def wsX7_terminal : List Cond := .code yX7_terminal cX7_terminal 3 (some .int) :: ((wsX7_terminal_r1 ++ wsX7_terminal_r2) ++ wsX70 ++ wsX30 ++ wsX40 ++ wsX50 ++ wsX00)
def wsX7_block_r1 : List Cond := [Cond.fieldLink RX7 29 "UpwardGrants" "state" "LUpwardGrants$State;", Cond.fieldLink RX7 161 "UpwardGrants$State" "blocks" "LUpwardGrants$Blocks;", Cond.methodLink RX7 79 yX7_isWithin, Cond.static yX7_isWithin, Cond.initialized RX7, Cond.code yX7_isWithin cX7_isWithin 3 (some .boolean), Cond.methodLink RX7 197 yX0_placeOf, Cond.instanceMethod yX0_placeOf, Cond.selects RX0 yX0_placeOf yX0_placeOf, Cond.initialized RX0, Cond.code yX0_placeOf cX0_placeOf 5 (some .int), Cond.fieldLink RX0 9 "UpwardGrants$Blocks" "size" "I", Cond.methodLink RX0 42 yX0_isEarlier, Cond.instanceMethod yX0_isEarlier, Cond.selects RX0 yX0_isEarlier yX0_isEarlier, Cond.code yX0_isEarlier cX0_isEarlier 3 (some .boolean), Cond.fieldLink RX0 19 "UpwardGrants$Blocks" "due" "[I", Cond.fieldLink RX0 15 "UpwardGrants$Blocks" "terminal" "[I", Cond.methodLink RX7 200 yX0_told, Cond.instanceMethod yX0_told, Cond.selects RX0 yX0_told yX0_told, Cond.code yX0_told cX0_told 3 (some .int), Cond.fieldLink RX0 22 "UpwardGrants$Blocks" "sent" "[I", Cond.fieldLink RX0 25 "UpwardGrants$Blocks" "report" "[I"]
def wsX7_block_r2 : List Cond := [Cond.methodLink RX0 46 yX0_content, Cond.instanceMethod yX0_content, Cond.selects RX0 yX0_content yX0_content, Cond.code yX0_content cX0_content 2 (some .int), Cond.methodLink RX0 31 yX0_allLetters, Cond.instanceMethod yX0_allLetters, Cond.selects RX0 yX0_allLetters yX0_allLetters, Cond.code yX0_allLetters cX0_allLetters 5 (some .int), Cond.fieldLink RX0 28 "UpwardGrants$Blocks" "letters" "[I", Cond.methodLink RX0 35 yX0_reportOf, Cond.instanceMethod yX0_reportOf, Cond.selects RX0 yX0_reportOf yX0_reportOf, Cond.code yX0_reportOf cX0_reportOf 2 (some .int)]
def wsX7_block : List Cond := .code yX7_block cX7_block 4 (some .int) :: ((wsX7_block_r1 ++ wsX7_block_r2) ++ wsX70 ++ wsX40 ++ wsX00)
def wsX7_deaf : List Cond := .code yX7_deaf cX7_deaf 3 (some .int) :: ([.fieldLink RX7 29 "UpwardGrants" "state" "LUpwardGrants$State;", .methodLink RX7 123 yX7_hasTerminal, .instanceMethod yX7_hasTerminal, .selects RX7 yX7_hasTerminal yX7_hasTerminal, .initialized RX7, .code yX7_hasTerminal cX7_hasTerminal 2 (some .boolean), .fieldLink RX7 19 "UpwardGrants" "setup" "LUpwardGrants$Setup;", .fieldLink RX7 213 "UpwardGrants$Setup" "terminals" "I", .methodLink RX7 79 yX7_isWithin, .static yX7_isWithin, .code yX7_isWithin cX7_isWithin 3 (some .boolean), .methodLink RX7 204 yX4_isDeaf, .instanceMethod yX4_isDeaf, .selects RX4 yX4_isDeaf yX4_isDeaf, .initialized RX4, .code yX4_isDeaf cX4_isDeaf 3 (some .boolean), .fieldLink RX4 42 "UpwardGrants$State" "deafBits" "[I"] ++ wsX70 ++ wsX30 ++ wsX40)
def wsX7_drain_r1 : List Cond := [Cond.fieldLink RX7 33 "UpwardGrants" "trialState" "LUpwardGrants$State;", Cond.fieldLink RX7 29 "UpwardGrants" "state" "LUpwardGrants$State;", Cond.fieldLink RX7 45 "UpwardGrants" "trial" "LUpwardGrants$Station;", Cond.methodLink RX7 208 yX4_copyFrom, Cond.instanceMethod yX4_copyFrom, Cond.selects RX4 yX4_copyFrom yX4_copyFrom, Cond.initialized RX4, Cond.code yX4_copyFrom cX4_copyFrom 2 none, Cond.fieldLink RX4 52 "UpwardGrants$State" "now" "I", Cond.fieldLink RX4 56 "UpwardGrants$State" "room" "I", Cond.fieldLink RX4 59 "UpwardGrants$State" "last" "I", Cond.fieldLink RX4 9 "UpwardGrants$State" "wants" "[I", Cond.fieldLink RX4 15 "UpwardGrants$State" "bannedTill" "[I", Cond.fieldLink RX4 18 "UpwardGrants$State" "asked" "[I", Cond.fieldLink RX4 21 "UpwardGrants$State" "thought" "[I", Cond.fieldLink RX4 24 "UpwardGrants$State" "asks" "[I", Cond.fieldLink RX4 27 "UpwardGrants$State" "granted" "[I", Cond.fieldLink RX4 30 "UpwardGrants$State" "waits" "[I", Cond.fieldLink RX4 33 "UpwardGrants$State" "tokens" "[I", Cond.fieldLink RX4 36 "UpwardGrants$State" "through" "[I", Cond.fieldLink RX4 39 "UpwardGrants$State" "lost" "[I", Cond.fieldLink RX4 42 "UpwardGrants$State" "deafBits" "[I", Cond.fieldLink RX4 48 "UpwardGrants$State" "blocks" "LUpwardGrants$Blocks;", Cond.static yX7_copyRow]
def wsX7_drain_r2 : List Cond := [Cond.initialized RX7, Cond.code yX7_copyRow cX7_copyRow 2 none, Cond.methodLink RX7 254 Lib.Math.min.name, Cond.static Lib.Math.min.name, Cond.initialized "java/lang/Math", Cond.code Lib.Math.min.name Lib.Math.min.code 2 (some .int), Cond.methodLink RX7 259 arraycopyName, Cond.native arraycopyName, Cond.static arraycopyName, Cond.initialized "java/lang/System", Cond.methodLink RX4 75 yX0_copyFrom, Cond.instanceMethod yX0_copyFrom, Cond.selects RX0 yX0_copyFrom yX0_copyFrom, Cond.initialized RX0, Cond.code yX0_copyFrom cX0_copyFrom 2 none, Cond.fieldLink RX0 9 "UpwardGrants$Blocks" "size" "I", Cond.fieldLink RX0 15 "UpwardGrants$Blocks" "terminal" "[I", Cond.fieldLink RX0 19 "UpwardGrants$Blocks" "due" "[I", Cond.fieldLink RX0 22 "UpwardGrants$Blocks" "sent" "[I", Cond.fieldLink RX0 25 "UpwardGrants$Blocks" "report" "[I", Cond.fieldLink RX0 28 "UpwardGrants$Blocks" "letters" "[I", Cond.methodLink RX7 210 yX5_drainedWithin, Cond.instanceMethod yX5_drainedWithin, Cond.selects RX5 yX5_drainedWithin yX5_drainedWithin]
def wsX7_drain_r3 : List Cond := [Cond.initialized RX5, Cond.code yX5_drainedWithin cX5_drainedWithin 3 (some .int), Cond.fieldLink RX5 19 "UpwardGrants$Station" "state" "LUpwardGrants$State;", Cond.methodLink RX5 52 yX4_isDrained, Cond.instanceMethod yX4_isDrained, Cond.selects RX4 yX4_isDrained yX4_isDrained, Cond.code yX4_isDrained cX4_isDrained 3 (some .boolean), Cond.fieldLink RX4 68 "UpwardGrants$Blocks" "size" "I", Cond.methodLink RX5 56 yX5_takeSteps, Cond.instanceMethod yX5_takeSteps, Cond.selects RX5 yX5_takeSteps yX5_takeSteps, Cond.code yX5_takeSteps cX5_takeSteps 4 (some .int), Cond.fieldLink RX5 70 "UpwardGrants$State" "room" "I", Cond.fieldLink RX5 9 "UpwardGrants$Station" "left" "I", Cond.fieldLink RX5 79 "UpwardGrants$State" "blocks" "LUpwardGrants$Blocks;", Cond.fieldLink RX5 88 "UpwardGrants$State" "now" "I", Cond.methodLink RX5 60 yX4_allThrough, Cond.instanceMethod yX4_allThrough, Cond.selects RX4 yX4_allThrough yX4_allThrough, Cond.code yX4_allThrough cX4_allThrough 3 (some .int), Cond.methodLink RX5 64 yX5_gainTokens, Cond.instanceMethod yX5_gainTokens, Cond.selects RX5 yX5_gainTokens yX5_gainTokens, Cond.code yX5_gainTokens cX5_gainTokens 2 none]
def wsX7_drain_r4 : List Cond := [Cond.fieldLink RX5 15 "UpwardGrants$Station" "setup" "LUpwardGrants$Setup;", Cond.fieldLink RX5 45 "UpwardGrants$Setup" "classes" "I", Cond.fieldLink RX5 91 "UpwardGrants$State" "tokens" "[I", Cond.fieldLink RX5 94 "UpwardGrants$Setup" "limit" "[I", Cond.fieldLink RX5 97 "UpwardGrants$Setup" "rate" "[I", Cond.methodLink RX5 100 Lib.Math.min.name, Cond.methodLink RX5 67 yX5_askInPlaces, Cond.instanceMethod yX5_askInPlaces, Cond.selects RX5 yX5_askInPlaces yX5_askInPlaces, Cond.code yX5_askInPlaces cX5_askInPlaces 3 none, Cond.fieldLink RX5 106 "UpwardGrants$Setup" "terminals" "I", Cond.fieldLink RX5 112 "UpwardGrants$State" "bannedTill" "[I", Cond.fieldLink RX5 37 "UpwardGrants$State" "wants" "[I", Cond.fieldLink RX5 115 "UpwardGrants$State" "asked" "[I", Cond.fieldLink RX5 118 "UpwardGrants$State" "asks" "[I", Cond.fieldLink RX5 121 "UpwardGrants$Setup" "ban" "I", Cond.methodLink RX5 109 yX3_isPlaceToAsk, Cond.instanceMethod yX3_isPlaceToAsk, Cond.selects RX3 yX3_isPlaceToAsk yX3_isPlaceToAsk, Cond.initialized RX3, Cond.code yX3_isPlaceToAsk cX3_isPlaceToAsk 4 (some .boolean), Cond.fieldLink RX3 9 "UpwardGrants$Setup" "period" "[I", Cond.methodLink RX5 73 yX5_sendAgain, Cond.instanceMethod yX5_sendAgain]
def wsX7_drain_r5 : List Cond := [Cond.selects RX5 yX5_sendAgain yX5_sendAgain, Cond.code yX5_sendAgain cX5_sendAgain 3 none, Cond.fieldLink RX5 124 "UpwardGrants$Blocks" "size" "I", Cond.methodLink RX5 133 Lib.Math.max.name, Cond.static Lib.Math.max.name, Cond.code Lib.Math.max.name Lib.Math.max.code 2 (some .int), Cond.methodLink RX5 127 yX0_isDue, Cond.instanceMethod yX0_isDue, Cond.selects RX0 yX0_isDue yX0_isDue, Cond.code yX0_isDue cX0_isDue 4 (some .boolean), Cond.methodLink RX5 130 yX0_content, Cond.instanceMethod yX0_content, Cond.selects RX0 yX0_content yX0_content, Cond.code yX0_content cX0_content 2 (some .int), Cond.methodLink RX0 31 yX0_allLetters, Cond.instanceMethod yX0_allLetters, Cond.selects RX0 yX0_allLetters yX0_allLetters, Cond.code yX0_allLetters cX0_allLetters 5 (some .int), Cond.methodLink RX0 35 yX0_reportOf, Cond.instanceMethod yX0_reportOf, Cond.selects RX0 yX0_reportOf yX0_reportOf, Cond.code yX0_reportOf cX0_reportOf 2 (some .int), Cond.methodLink RX5 136 yX5_send, Cond.instanceMethod yX5_send]
def wsX7_drain_r6 : List Cond := [Cond.selects RX5 yX5_send yX5_send, Cond.code yX5_send cX5_send 7 none, Cond.fieldLink RX5 143 "UpwardGrants$State" "thought" "[I", Cond.fieldLink RX5 187 "UpwardGrants$State" "through" "[I", Cond.fieldLink RX5 198 "UpwardGrants$Setup" "tries" "I", Cond.fieldLink RX5 201 "UpwardGrants$Setup" "back" "I", Cond.fieldLink RX5 207 "UpwardGrants$State" "lost" "[I", Cond.methodLink RX5 175 yX0_countSending, Cond.instanceMethod yX0_countSending, Cond.selects RX0 yX0_countSending yX0_countSending, Cond.code yX0_countSending cX0_countSending 2 (some .int), Cond.methodLink RX5 178 yX4_isDeaf, Cond.instanceMethod yX4_isDeaf, Cond.selects RX4 yX4_isDeaf yX4_isDeaf, Cond.code yX4_isDeaf cX4_isDeaf 3 (some .boolean), Cond.methodLink RX5 181 yX0_reportOf, Cond.methodLink RX5 184 yX0_allLetters, Cond.methodLink RX5 190 yX0_addLettersTo, Cond.instanceMethod yX0_addLettersTo, Cond.selects RX0 yX0_addLettersTo yX0_addLettersTo, Cond.code yX0_addLettersTo cX0_addLettersTo 6 none, Cond.methodLink RX5 194 yX0_markGone, Cond.instanceMethod yX0_markGone, Cond.selects RX0 yX0_markGone yX0_markGone]
def wsX7_drain_r7 : List Cond := [Cond.code yX0_markGone cX0_markGone 2 none, Cond.methodLink RX5 204 yX0_putDue, Cond.instanceMethod yX0_putDue, Cond.selects RX0 yX0_putDue yX0_putDue, Cond.code yX0_putDue cX0_putDue 3 none, Cond.methodLink RX5 76 yX5_giveGrants, Cond.instanceMethod yX5_giveGrants, Cond.selects RX5 yX5_giveGrants yX5_giveGrants, Cond.code yX5_giveGrants cX5_giveGrants 5 none, Cond.fieldLink RX5 140 "UpwardGrants$State" "last" "I", Cond.methodLink RX5 146 yX5_takeGrant, Cond.instanceMethod yX5_takeGrant, Cond.selects RX5 yX5_takeGrant yX5_takeGrant, Cond.code yX5_takeGrant cX5_takeGrant 4 (some .int), Cond.fieldLink RX5 152 "UpwardGrants$State" "granted" "[I", Cond.methodLink RX5 149 yX5_pack, Cond.instanceMethod yX5_pack, Cond.selects RX5 yX5_pack yX5_pack, Cond.code yX5_pack cX5_pack 6 none, Cond.methodLink RX5 155 yX0_open, Cond.instanceMethod yX0_open, Cond.selects RX0 yX0_open yX0_open, Cond.code yX0_open cX0_open 4 (some .int), Cond.methodLink RX5 158 yX5_packLetters]
def wsX7_drain_r8 : List Cond := [Cond.instanceMethod yX5_packLetters, Cond.selects RX5 yX5_packLetters yX5_packLetters, Cond.code yX5_packLetters cX5_packLetters 9 (some .int), Cond.fieldLink RX5 23 "UpwardGrants$Setup" "owner" "[I", Cond.fieldLink RX5 168 "UpwardGrants$Setup" "priority" "[I", Cond.fieldLink RX5 42 "UpwardGrants$State" "waits" "[I", Cond.methodLink RX5 171 yX0_putLetters, Cond.instanceMethod yX0_putLetters, Cond.selects RX0 yX0_putLetters yX0_putLetters, Cond.code yX0_putLetters cX0_putLetters 5 none, Cond.methodLink RX5 162 yX5_waitingAt, Cond.instanceMethod yX5_waitingAt, Cond.selects RX5 yX5_waitingAt yX5_waitingAt, Cond.code yX5_waitingAt cX5_waitingAt 4 (some .int), Cond.methodLink RX5 165 yX0_putReport, Cond.instanceMethod yX0_putReport, Cond.selects RX0 yX0_putReport yX0_putReport, Cond.code yX0_putReport cX0_putReport 3 none, Cond.methodLink RX5 83 yX0_dropGone, Cond.instanceMethod yX0_dropGone, Cond.selects RX0 yX0_dropGone yX0_dropGone, Cond.code yX0_dropGone cX0_dropGone 3 none, Cond.methodLink RX0 38 yX0_move, Cond.instanceMethod yX0_move]
def wsX7_drain_r9 : List Cond := [Cond.selects RX0 yX0_move yX0_move, Cond.code yX0_move cX0_move 4 none]
def wsX7_drain : List Cond := .code yX7_drain cX7_drain 1 (some .int) :: ((wsX7_drain_r1 ++ (wsX7_drain_r2 ++ (wsX7_drain_r3 ++ (wsX7_drain_r4 ++ (wsX7_drain_r5 ++ (wsX7_drain_r6 ++ (wsX7_drain_r7 ++ (wsX7_drain_r8 ++ wsX7_drain_r9)))))))) ++ wsX70 ++ wsX40 ++ wsX00 ++ wsX50 ++ wsX30)
def wsX7_enough_r1 : List Cond := [Cond.fieldLink RX7 33 "UpwardGrants" "trialState" "LUpwardGrants$State;", Cond.fieldLink RX7 29 "UpwardGrants" "state" "LUpwardGrants$State;", Cond.fieldLink RX7 130 "UpwardGrants$State" "room" "I", Cond.fieldLink RX7 45 "UpwardGrants" "trial" "LUpwardGrants$Station;", Cond.methodLink RX7 79 yX7_isWithin, Cond.static yX7_isWithin, Cond.initialized RX7, Cond.code yX7_isWithin cX7_isWithin 3 (some .boolean), Cond.methodLink RX7 208 yX4_copyFrom, Cond.instanceMethod yX4_copyFrom, Cond.selects RX4 yX4_copyFrom yX4_copyFrom, Cond.initialized RX4, Cond.code yX4_copyFrom cX4_copyFrom 2 none, Cond.fieldLink RX4 52 "UpwardGrants$State" "now" "I", Cond.fieldLink RX4 56 "UpwardGrants$State" "room" "I", Cond.fieldLink RX4 59 "UpwardGrants$State" "last" "I", Cond.fieldLink RX4 9 "UpwardGrants$State" "wants" "[I", Cond.fieldLink RX4 15 "UpwardGrants$State" "bannedTill" "[I", Cond.fieldLink RX4 18 "UpwardGrants$State" "asked" "[I", Cond.fieldLink RX4 21 "UpwardGrants$State" "thought" "[I", Cond.fieldLink RX4 24 "UpwardGrants$State" "asks" "[I", Cond.fieldLink RX4 27 "UpwardGrants$State" "granted" "[I", Cond.fieldLink RX4 30 "UpwardGrants$State" "waits" "[I", Cond.fieldLink RX4 33 "UpwardGrants$State" "tokens" "[I"]
def wsX7_enough_r2 : List Cond := [Cond.fieldLink RX4 36 "UpwardGrants$State" "through" "[I", Cond.fieldLink RX4 39 "UpwardGrants$State" "lost" "[I", Cond.fieldLink RX4 42 "UpwardGrants$State" "deafBits" "[I", Cond.fieldLink RX4 48 "UpwardGrants$State" "blocks" "LUpwardGrants$Blocks;", Cond.static yX7_copyRow, Cond.code yX7_copyRow cX7_copyRow 2 none, Cond.methodLink RX7 254 Lib.Math.min.name, Cond.static Lib.Math.min.name, Cond.initialized "java/lang/Math", Cond.code Lib.Math.min.name Lib.Math.min.code 2 (some .int), Cond.methodLink RX7 259 arraycopyName, Cond.native arraycopyName, Cond.static arraycopyName, Cond.initialized "java/lang/System", Cond.methodLink RX4 75 yX0_copyFrom, Cond.instanceMethod yX0_copyFrom, Cond.selects RX0 yX0_copyFrom yX0_copyFrom, Cond.initialized RX0, Cond.code yX0_copyFrom cX0_copyFrom 2 none, Cond.fieldLink RX0 9 "UpwardGrants$Blocks" "size" "I", Cond.fieldLink RX0 15 "UpwardGrants$Blocks" "terminal" "[I", Cond.fieldLink RX0 19 "UpwardGrants$Blocks" "due" "[I", Cond.fieldLink RX0 22 "UpwardGrants$Blocks" "sent" "[I", Cond.fieldLink RX0 25 "UpwardGrants$Blocks" "report" "[I"]
def wsX7_enough_r3 : List Cond := [Cond.fieldLink RX0 28 "UpwardGrants$Blocks" "letters" "[I", Cond.methodLink RX7 210 yX5_drainedWithin, Cond.instanceMethod yX5_drainedWithin, Cond.selects RX5 yX5_drainedWithin yX5_drainedWithin, Cond.initialized RX5, Cond.code yX5_drainedWithin cX5_drainedWithin 3 (some .int), Cond.fieldLink RX5 19 "UpwardGrants$Station" "state" "LUpwardGrants$State;", Cond.methodLink RX5 52 yX4_isDrained, Cond.instanceMethod yX4_isDrained, Cond.selects RX4 yX4_isDrained yX4_isDrained, Cond.code yX4_isDrained cX4_isDrained 3 (some .boolean), Cond.fieldLink RX4 68 "UpwardGrants$Blocks" "size" "I", Cond.methodLink RX5 56 yX5_takeSteps, Cond.instanceMethod yX5_takeSteps, Cond.selects RX5 yX5_takeSteps yX5_takeSteps, Cond.code yX5_takeSteps cX5_takeSteps 4 (some .int), Cond.fieldLink RX5 70 "UpwardGrants$State" "room" "I", Cond.fieldLink RX5 9 "UpwardGrants$Station" "left" "I", Cond.fieldLink RX5 79 "UpwardGrants$State" "blocks" "LUpwardGrants$Blocks;", Cond.fieldLink RX5 88 "UpwardGrants$State" "now" "I", Cond.methodLink RX5 60 yX4_allThrough, Cond.instanceMethod yX4_allThrough, Cond.selects RX4 yX4_allThrough yX4_allThrough, Cond.code yX4_allThrough cX4_allThrough 3 (some .int)]
def wsX7_enough_r4 : List Cond := [Cond.methodLink RX5 64 yX5_gainTokens, Cond.instanceMethod yX5_gainTokens, Cond.selects RX5 yX5_gainTokens yX5_gainTokens, Cond.code yX5_gainTokens cX5_gainTokens 2 none, Cond.fieldLink RX5 15 "UpwardGrants$Station" "setup" "LUpwardGrants$Setup;", Cond.fieldLink RX5 45 "UpwardGrants$Setup" "classes" "I", Cond.fieldLink RX5 91 "UpwardGrants$State" "tokens" "[I", Cond.fieldLink RX5 94 "UpwardGrants$Setup" "limit" "[I", Cond.fieldLink RX5 97 "UpwardGrants$Setup" "rate" "[I", Cond.methodLink RX5 100 Lib.Math.min.name, Cond.methodLink RX5 67 yX5_askInPlaces, Cond.instanceMethod yX5_askInPlaces, Cond.selects RX5 yX5_askInPlaces yX5_askInPlaces, Cond.code yX5_askInPlaces cX5_askInPlaces 3 none, Cond.fieldLink RX5 106 "UpwardGrants$Setup" "terminals" "I", Cond.fieldLink RX5 112 "UpwardGrants$State" "bannedTill" "[I", Cond.fieldLink RX5 37 "UpwardGrants$State" "wants" "[I", Cond.fieldLink RX5 115 "UpwardGrants$State" "asked" "[I", Cond.fieldLink RX5 118 "UpwardGrants$State" "asks" "[I", Cond.fieldLink RX5 121 "UpwardGrants$Setup" "ban" "I", Cond.methodLink RX5 109 yX3_isPlaceToAsk, Cond.instanceMethod yX3_isPlaceToAsk, Cond.selects RX3 yX3_isPlaceToAsk yX3_isPlaceToAsk, Cond.initialized RX3]
def wsX7_enough_r5 : List Cond := [Cond.code yX3_isPlaceToAsk cX3_isPlaceToAsk 4 (some .boolean), Cond.fieldLink RX3 9 "UpwardGrants$Setup" "period" "[I", Cond.methodLink RX5 73 yX5_sendAgain, Cond.instanceMethod yX5_sendAgain, Cond.selects RX5 yX5_sendAgain yX5_sendAgain, Cond.code yX5_sendAgain cX5_sendAgain 3 none, Cond.fieldLink RX5 124 "UpwardGrants$Blocks" "size" "I", Cond.methodLink RX5 133 Lib.Math.max.name, Cond.static Lib.Math.max.name, Cond.code Lib.Math.max.name Lib.Math.max.code 2 (some .int), Cond.methodLink RX5 127 yX0_isDue, Cond.instanceMethod yX0_isDue, Cond.selects RX0 yX0_isDue yX0_isDue, Cond.code yX0_isDue cX0_isDue 4 (some .boolean), Cond.methodLink RX5 130 yX0_content, Cond.instanceMethod yX0_content, Cond.selects RX0 yX0_content yX0_content, Cond.code yX0_content cX0_content 2 (some .int), Cond.methodLink RX0 31 yX0_allLetters, Cond.instanceMethod yX0_allLetters, Cond.selects RX0 yX0_allLetters yX0_allLetters, Cond.code yX0_allLetters cX0_allLetters 5 (some .int), Cond.methodLink RX0 35 yX0_reportOf, Cond.instanceMethod yX0_reportOf]
def wsX7_enough_r6 : List Cond := [Cond.selects RX0 yX0_reportOf yX0_reportOf, Cond.code yX0_reportOf cX0_reportOf 2 (some .int), Cond.methodLink RX5 136 yX5_send, Cond.instanceMethod yX5_send, Cond.selects RX5 yX5_send yX5_send, Cond.code yX5_send cX5_send 7 none, Cond.fieldLink RX5 143 "UpwardGrants$State" "thought" "[I", Cond.fieldLink RX5 187 "UpwardGrants$State" "through" "[I", Cond.fieldLink RX5 198 "UpwardGrants$Setup" "tries" "I", Cond.fieldLink RX5 201 "UpwardGrants$Setup" "back" "I", Cond.fieldLink RX5 207 "UpwardGrants$State" "lost" "[I", Cond.methodLink RX5 175 yX0_countSending, Cond.instanceMethod yX0_countSending, Cond.selects RX0 yX0_countSending yX0_countSending, Cond.code yX0_countSending cX0_countSending 2 (some .int), Cond.methodLink RX5 178 yX4_isDeaf, Cond.instanceMethod yX4_isDeaf, Cond.selects RX4 yX4_isDeaf yX4_isDeaf, Cond.code yX4_isDeaf cX4_isDeaf 3 (some .boolean), Cond.methodLink RX5 181 yX0_reportOf, Cond.methodLink RX5 184 yX0_allLetters, Cond.methodLink RX5 190 yX0_addLettersTo, Cond.instanceMethod yX0_addLettersTo, Cond.selects RX0 yX0_addLettersTo yX0_addLettersTo]
def wsX7_enough_r7 : List Cond := [Cond.code yX0_addLettersTo cX0_addLettersTo 6 none, Cond.methodLink RX5 194 yX0_markGone, Cond.instanceMethod yX0_markGone, Cond.selects RX0 yX0_markGone yX0_markGone, Cond.code yX0_markGone cX0_markGone 2 none, Cond.methodLink RX5 204 yX0_putDue, Cond.instanceMethod yX0_putDue, Cond.selects RX0 yX0_putDue yX0_putDue, Cond.code yX0_putDue cX0_putDue 3 none, Cond.methodLink RX5 76 yX5_giveGrants, Cond.instanceMethod yX5_giveGrants, Cond.selects RX5 yX5_giveGrants yX5_giveGrants, Cond.code yX5_giveGrants cX5_giveGrants 5 none, Cond.fieldLink RX5 140 "UpwardGrants$State" "last" "I", Cond.methodLink RX5 146 yX5_takeGrant, Cond.instanceMethod yX5_takeGrant, Cond.selects RX5 yX5_takeGrant yX5_takeGrant, Cond.code yX5_takeGrant cX5_takeGrant 4 (some .int), Cond.fieldLink RX5 152 "UpwardGrants$State" "granted" "[I", Cond.methodLink RX5 149 yX5_pack, Cond.instanceMethod yX5_pack, Cond.selects RX5 yX5_pack yX5_pack, Cond.code yX5_pack cX5_pack 6 none, Cond.methodLink RX5 155 yX0_open]
def wsX7_enough_r8 : List Cond := [Cond.instanceMethod yX0_open, Cond.selects RX0 yX0_open yX0_open, Cond.code yX0_open cX0_open 4 (some .int), Cond.methodLink RX5 158 yX5_packLetters, Cond.instanceMethod yX5_packLetters, Cond.selects RX5 yX5_packLetters yX5_packLetters, Cond.code yX5_packLetters cX5_packLetters 9 (some .int), Cond.fieldLink RX5 23 "UpwardGrants$Setup" "owner" "[I", Cond.fieldLink RX5 168 "UpwardGrants$Setup" "priority" "[I", Cond.fieldLink RX5 42 "UpwardGrants$State" "waits" "[I", Cond.methodLink RX5 171 yX0_putLetters, Cond.instanceMethod yX0_putLetters, Cond.selects RX0 yX0_putLetters yX0_putLetters, Cond.code yX0_putLetters cX0_putLetters 5 none, Cond.methodLink RX5 162 yX5_waitingAt, Cond.instanceMethod yX5_waitingAt, Cond.selects RX5 yX5_waitingAt yX5_waitingAt, Cond.code yX5_waitingAt cX5_waitingAt 4 (some .int), Cond.methodLink RX5 165 yX0_putReport, Cond.instanceMethod yX0_putReport, Cond.selects RX0 yX0_putReport yX0_putReport, Cond.code yX0_putReport cX0_putReport 3 none, Cond.methodLink RX5 83 yX0_dropGone, Cond.instanceMethod yX0_dropGone]
def wsX7_enough_r9 : List Cond := [Cond.selects RX0 yX0_dropGone yX0_dropGone, Cond.code yX0_dropGone cX0_dropGone 3 none, Cond.methodLink RX0 38 yX0_move, Cond.instanceMethod yX0_move, Cond.selects RX0 yX0_move yX0_move, Cond.code yX0_move cX0_move 4 none]
def wsX7_enough : List Cond := .code yX7_enough cX7_enough 3 (some .int) :: ((wsX7_enough_r1 ++ (wsX7_enough_r2 ++ (wsX7_enough_r3 ++ (wsX7_enough_r4 ++ (wsX7_enough_r5 ++ (wsX7_enough_r6 ++ (wsX7_enough_r7 ++ (wsX7_enough_r8 ++ wsX7_enough_r9)))))))) ++ wsX70 ++ wsX40 ++ wsX00 ++ wsX50 ++ wsX30)
def wsX7_ahead_r1 : List Cond := [Cond.fieldLink RX7 33 "UpwardGrants" "trialState" "LUpwardGrants$State;", Cond.fieldLink RX7 29 "UpwardGrants" "state" "LUpwardGrants$State;", Cond.fieldLink RX7 45 "UpwardGrants" "trial" "LUpwardGrants$Station;", Cond.fieldLink RX7 155 "UpwardGrants$State" "through" "[I", Cond.methodLink RX7 102 yX7_hasClass, Cond.instanceMethod yX7_hasClass, Cond.selects RX7 yX7_hasClass yX7_hasClass, Cond.initialized RX7, Cond.code yX7_hasClass cX7_hasClass 2 (some .boolean), Cond.fieldLink RX7 19 "UpwardGrants" "setup" "LUpwardGrants$Setup;", Cond.fieldLink RX7 231 "UpwardGrants$Setup" "classes" "I", Cond.methodLink RX7 79 yX7_isWithin, Cond.static yX7_isWithin, Cond.code yX7_isWithin cX7_isWithin 3 (some .boolean), Cond.methodLink RX7 208 yX4_copyFrom, Cond.instanceMethod yX4_copyFrom, Cond.selects RX4 yX4_copyFrom yX4_copyFrom, Cond.initialized RX4, Cond.code yX4_copyFrom cX4_copyFrom 2 none, Cond.fieldLink RX4 52 "UpwardGrants$State" "now" "I", Cond.fieldLink RX4 56 "UpwardGrants$State" "room" "I", Cond.fieldLink RX4 59 "UpwardGrants$State" "last" "I", Cond.fieldLink RX4 9 "UpwardGrants$State" "wants" "[I", Cond.fieldLink RX4 15 "UpwardGrants$State" "bannedTill" "[I"]
def wsX7_ahead_r2 : List Cond := [Cond.fieldLink RX4 18 "UpwardGrants$State" "asked" "[I", Cond.fieldLink RX4 21 "UpwardGrants$State" "thought" "[I", Cond.fieldLink RX4 24 "UpwardGrants$State" "asks" "[I", Cond.fieldLink RX4 27 "UpwardGrants$State" "granted" "[I", Cond.fieldLink RX4 30 "UpwardGrants$State" "waits" "[I", Cond.fieldLink RX4 33 "UpwardGrants$State" "tokens" "[I", Cond.fieldLink RX4 36 "UpwardGrants$State" "through" "[I", Cond.fieldLink RX4 39 "UpwardGrants$State" "lost" "[I", Cond.fieldLink RX4 42 "UpwardGrants$State" "deafBits" "[I", Cond.fieldLink RX4 48 "UpwardGrants$State" "blocks" "LUpwardGrants$Blocks;", Cond.static yX7_copyRow, Cond.code yX7_copyRow cX7_copyRow 2 none, Cond.methodLink RX7 254 Lib.Math.min.name, Cond.static Lib.Math.min.name, Cond.initialized "java/lang/Math", Cond.code Lib.Math.min.name Lib.Math.min.code 2 (some .int), Cond.methodLink RX7 259 arraycopyName, Cond.native arraycopyName, Cond.static arraycopyName, Cond.initialized "java/lang/System", Cond.methodLink RX4 75 yX0_copyFrom, Cond.instanceMethod yX0_copyFrom, Cond.selects RX0 yX0_copyFrom yX0_copyFrom, Cond.initialized RX0]
def wsX7_ahead_r3 : List Cond := [Cond.code yX0_copyFrom cX0_copyFrom 2 none, Cond.fieldLink RX0 9 "UpwardGrants$Blocks" "size" "I", Cond.fieldLink RX0 15 "UpwardGrants$Blocks" "terminal" "[I", Cond.fieldLink RX0 19 "UpwardGrants$Blocks" "due" "[I", Cond.fieldLink RX0 22 "UpwardGrants$Blocks" "sent" "[I", Cond.fieldLink RX0 25 "UpwardGrants$Blocks" "report" "[I", Cond.fieldLink RX0 28 "UpwardGrants$Blocks" "letters" "[I", Cond.methodLink RX7 119 yX5_takeSteps, Cond.instanceMethod yX5_takeSteps, Cond.selects RX5 yX5_takeSteps yX5_takeSteps, Cond.initialized RX5, Cond.code yX5_takeSteps cX5_takeSteps 4 (some .int), Cond.fieldLink RX5 19 "UpwardGrants$Station" "state" "LUpwardGrants$State;", Cond.fieldLink RX5 70 "UpwardGrants$State" "room" "I", Cond.fieldLink RX5 9 "UpwardGrants$Station" "left" "I", Cond.fieldLink RX5 79 "UpwardGrants$State" "blocks" "LUpwardGrants$Blocks;", Cond.fieldLink RX5 88 "UpwardGrants$State" "now" "I", Cond.methodLink RX5 60 yX4_allThrough, Cond.instanceMethod yX4_allThrough, Cond.selects RX4 yX4_allThrough yX4_allThrough, Cond.code yX4_allThrough cX4_allThrough 3 (some .int), Cond.methodLink RX5 64 yX5_gainTokens, Cond.instanceMethod yX5_gainTokens, Cond.selects RX5 yX5_gainTokens yX5_gainTokens]
def wsX7_ahead_r4 : List Cond := [Cond.code yX5_gainTokens cX5_gainTokens 2 none, Cond.fieldLink RX5 15 "UpwardGrants$Station" "setup" "LUpwardGrants$Setup;", Cond.fieldLink RX5 45 "UpwardGrants$Setup" "classes" "I", Cond.fieldLink RX5 91 "UpwardGrants$State" "tokens" "[I", Cond.fieldLink RX5 94 "UpwardGrants$Setup" "limit" "[I", Cond.fieldLink RX5 97 "UpwardGrants$Setup" "rate" "[I", Cond.methodLink RX5 100 Lib.Math.min.name, Cond.methodLink RX5 67 yX5_askInPlaces, Cond.instanceMethod yX5_askInPlaces, Cond.selects RX5 yX5_askInPlaces yX5_askInPlaces, Cond.code yX5_askInPlaces cX5_askInPlaces 3 none, Cond.fieldLink RX5 106 "UpwardGrants$Setup" "terminals" "I", Cond.fieldLink RX5 112 "UpwardGrants$State" "bannedTill" "[I", Cond.fieldLink RX5 37 "UpwardGrants$State" "wants" "[I", Cond.fieldLink RX5 115 "UpwardGrants$State" "asked" "[I", Cond.fieldLink RX5 118 "UpwardGrants$State" "asks" "[I", Cond.fieldLink RX5 121 "UpwardGrants$Setup" "ban" "I", Cond.methodLink RX5 109 yX3_isPlaceToAsk, Cond.instanceMethod yX3_isPlaceToAsk, Cond.selects RX3 yX3_isPlaceToAsk yX3_isPlaceToAsk, Cond.initialized RX3, Cond.code yX3_isPlaceToAsk cX3_isPlaceToAsk 4 (some .boolean), Cond.fieldLink RX3 9 "UpwardGrants$Setup" "period" "[I", Cond.methodLink RX5 73 yX5_sendAgain]
def wsX7_ahead_r5 : List Cond := [Cond.instanceMethod yX5_sendAgain, Cond.selects RX5 yX5_sendAgain yX5_sendAgain, Cond.code yX5_sendAgain cX5_sendAgain 3 none, Cond.fieldLink RX5 124 "UpwardGrants$Blocks" "size" "I", Cond.methodLink RX5 133 Lib.Math.max.name, Cond.static Lib.Math.max.name, Cond.code Lib.Math.max.name Lib.Math.max.code 2 (some .int), Cond.methodLink RX5 127 yX0_isDue, Cond.instanceMethod yX0_isDue, Cond.selects RX0 yX0_isDue yX0_isDue, Cond.code yX0_isDue cX0_isDue 4 (some .boolean), Cond.methodLink RX5 130 yX0_content, Cond.instanceMethod yX0_content, Cond.selects RX0 yX0_content yX0_content, Cond.code yX0_content cX0_content 2 (some .int), Cond.methodLink RX0 31 yX0_allLetters, Cond.instanceMethod yX0_allLetters, Cond.selects RX0 yX0_allLetters yX0_allLetters, Cond.code yX0_allLetters cX0_allLetters 5 (some .int), Cond.methodLink RX0 35 yX0_reportOf, Cond.instanceMethod yX0_reportOf, Cond.selects RX0 yX0_reportOf yX0_reportOf, Cond.code yX0_reportOf cX0_reportOf 2 (some .int), Cond.methodLink RX5 136 yX5_send]
def wsX7_ahead_r6 : List Cond := [Cond.instanceMethod yX5_send, Cond.selects RX5 yX5_send yX5_send, Cond.code yX5_send cX5_send 7 none, Cond.fieldLink RX5 143 "UpwardGrants$State" "thought" "[I", Cond.fieldLink RX5 187 "UpwardGrants$State" "through" "[I", Cond.fieldLink RX5 198 "UpwardGrants$Setup" "tries" "I", Cond.fieldLink RX5 201 "UpwardGrants$Setup" "back" "I", Cond.fieldLink RX5 207 "UpwardGrants$State" "lost" "[I", Cond.methodLink RX5 175 yX0_countSending, Cond.instanceMethod yX0_countSending, Cond.selects RX0 yX0_countSending yX0_countSending, Cond.code yX0_countSending cX0_countSending 2 (some .int), Cond.methodLink RX5 178 yX4_isDeaf, Cond.instanceMethod yX4_isDeaf, Cond.selects RX4 yX4_isDeaf yX4_isDeaf, Cond.code yX4_isDeaf cX4_isDeaf 3 (some .boolean), Cond.methodLink RX5 181 yX0_reportOf, Cond.methodLink RX5 184 yX0_allLetters, Cond.methodLink RX5 190 yX0_addLettersTo, Cond.instanceMethod yX0_addLettersTo, Cond.selects RX0 yX0_addLettersTo yX0_addLettersTo, Cond.code yX0_addLettersTo cX0_addLettersTo 6 none, Cond.methodLink RX5 194 yX0_markGone, Cond.instanceMethod yX0_markGone]
def wsX7_ahead_r7 : List Cond := [Cond.selects RX0 yX0_markGone yX0_markGone, Cond.code yX0_markGone cX0_markGone 2 none, Cond.methodLink RX5 204 yX0_putDue, Cond.instanceMethod yX0_putDue, Cond.selects RX0 yX0_putDue yX0_putDue, Cond.code yX0_putDue cX0_putDue 3 none, Cond.methodLink RX5 76 yX5_giveGrants, Cond.instanceMethod yX5_giveGrants, Cond.selects RX5 yX5_giveGrants yX5_giveGrants, Cond.code yX5_giveGrants cX5_giveGrants 5 none, Cond.fieldLink RX5 140 "UpwardGrants$State" "last" "I", Cond.methodLink RX5 146 yX5_takeGrant, Cond.instanceMethod yX5_takeGrant, Cond.selects RX5 yX5_takeGrant yX5_takeGrant, Cond.code yX5_takeGrant cX5_takeGrant 4 (some .int), Cond.fieldLink RX5 152 "UpwardGrants$State" "granted" "[I", Cond.methodLink RX5 149 yX5_pack, Cond.instanceMethod yX5_pack, Cond.selects RX5 yX5_pack yX5_pack, Cond.code yX5_pack cX5_pack 6 none, Cond.methodLink RX5 155 yX0_open, Cond.instanceMethod yX0_open, Cond.selects RX0 yX0_open yX0_open, Cond.code yX0_open cX0_open 4 (some .int)]
def wsX7_ahead_r8 : List Cond := [Cond.methodLink RX5 158 yX5_packLetters, Cond.instanceMethod yX5_packLetters, Cond.selects RX5 yX5_packLetters yX5_packLetters, Cond.code yX5_packLetters cX5_packLetters 9 (some .int), Cond.fieldLink RX5 23 "UpwardGrants$Setup" "owner" "[I", Cond.fieldLink RX5 168 "UpwardGrants$Setup" "priority" "[I", Cond.fieldLink RX5 42 "UpwardGrants$State" "waits" "[I", Cond.methodLink RX5 171 yX0_putLetters, Cond.instanceMethod yX0_putLetters, Cond.selects RX0 yX0_putLetters yX0_putLetters, Cond.code yX0_putLetters cX0_putLetters 5 none, Cond.methodLink RX5 162 yX5_waitingAt, Cond.instanceMethod yX5_waitingAt, Cond.selects RX5 yX5_waitingAt yX5_waitingAt, Cond.code yX5_waitingAt cX5_waitingAt 4 (some .int), Cond.methodLink RX5 165 yX0_putReport, Cond.instanceMethod yX0_putReport, Cond.selects RX0 yX0_putReport yX0_putReport, Cond.code yX0_putReport cX0_putReport 3 none, Cond.methodLink RX5 83 yX0_dropGone, Cond.instanceMethod yX0_dropGone, Cond.selects RX0 yX0_dropGone yX0_dropGone, Cond.code yX0_dropGone cX0_dropGone 3 none, Cond.methodLink RX0 38 yX0_move]
def wsX7_ahead_r9 : List Cond := [Cond.instanceMethod yX0_move, Cond.selects RX0 yX0_move yX0_move, Cond.code yX0_move cX0_move 4 none]
def wsX7_ahead : List Cond := .code yX7_ahead cX7_ahead 3 (some .int) :: ((wsX7_ahead_r1 ++ (wsX7_ahead_r2 ++ (wsX7_ahead_r3 ++ (wsX7_ahead_r4 ++ (wsX7_ahead_r5 ++ (wsX7_ahead_r6 ++ (wsX7_ahead_r7 ++ (wsX7_ahead_r8 ++ wsX7_ahead_r9)))))))) ++ wsX70 ++ wsX40 ++ wsX30 ++ wsX00 ++ wsX50)
def wsX7_sees : List Cond := .code yX7_sees cX7_sees 3 (some .int) :: ([.fieldLink RX7 72 "UpwardGrants" "seen" "I", .fieldLink RX7 65 "UpwardGrants" "seenSteps" "[I", .fieldLink RX7 69 "UpwardGrants" "seenLetters" "[I", .methodLink RX7 79 yX7_isWithin, .static yX7_isWithin, .initialized RX7, .code yX7_isWithin cX7_isWithin 3 (some .boolean)] ++ wsX70)
def wsX7_forget : List Cond := .code yX7_forget cX7_forget 2 (some .int) :: ([.fieldLink RX7 72 "UpwardGrants" "seen" "I"] ++ wsX70)
def wsX7_explainsAllSeen_r1 : List Cond := [Cond.fieldLink RX7 72 "UpwardGrants" "seen" "I", Cond.fieldLink RX7 33 "UpwardGrants" "trialState" "LUpwardGrants$State;", Cond.fieldLink RX7 29 "UpwardGrants" "state" "LUpwardGrants$State;", Cond.fieldLink RX7 116 "UpwardGrants$State" "now" "I", Cond.fieldLink RX7 65 "UpwardGrants" "seenSteps" "[I", Cond.fieldLink RX7 45 "UpwardGrants" "trial" "LUpwardGrants$Station;", Cond.fieldLink RX7 69 "UpwardGrants" "seenLetters" "[I", Cond.methodLink RX7 208 yX4_copyFrom, Cond.instanceMethod yX4_copyFrom, Cond.selects RX4 yX4_copyFrom yX4_copyFrom, Cond.initialized RX4, Cond.code yX4_copyFrom cX4_copyFrom 2 none, Cond.fieldLink RX4 52 "UpwardGrants$State" "now" "I", Cond.fieldLink RX4 56 "UpwardGrants$State" "room" "I", Cond.fieldLink RX4 59 "UpwardGrants$State" "last" "I", Cond.fieldLink RX4 9 "UpwardGrants$State" "wants" "[I", Cond.fieldLink RX4 15 "UpwardGrants$State" "bannedTill" "[I", Cond.fieldLink RX4 18 "UpwardGrants$State" "asked" "[I", Cond.fieldLink RX4 21 "UpwardGrants$State" "thought" "[I", Cond.fieldLink RX4 24 "UpwardGrants$State" "asks" "[I", Cond.fieldLink RX4 27 "UpwardGrants$State" "granted" "[I", Cond.fieldLink RX4 30 "UpwardGrants$State" "waits" "[I", Cond.fieldLink RX4 33 "UpwardGrants$State" "tokens" "[I", Cond.fieldLink RX4 36 "UpwardGrants$State" "through" "[I"]
def wsX7_explainsAllSeen_r2 : List Cond := [Cond.fieldLink RX4 39 "UpwardGrants$State" "lost" "[I", Cond.fieldLink RX4 42 "UpwardGrants$State" "deafBits" "[I", Cond.fieldLink RX4 48 "UpwardGrants$State" "blocks" "LUpwardGrants$Blocks;", Cond.static yX7_copyRow, Cond.initialized RX7, Cond.code yX7_copyRow cX7_copyRow 2 none, Cond.methodLink RX7 254 Lib.Math.min.name, Cond.static Lib.Math.min.name, Cond.initialized "java/lang/Math", Cond.code Lib.Math.min.name Lib.Math.min.code 2 (some .int), Cond.methodLink RX7 259 arraycopyName, Cond.native arraycopyName, Cond.static arraycopyName, Cond.initialized "java/lang/System", Cond.methodLink RX4 75 yX0_copyFrom, Cond.instanceMethod yX0_copyFrom, Cond.selects RX0 yX0_copyFrom yX0_copyFrom, Cond.initialized RX0, Cond.code yX0_copyFrom cX0_copyFrom 2 none, Cond.fieldLink RX0 9 "UpwardGrants$Blocks" "size" "I", Cond.fieldLink RX0 15 "UpwardGrants$Blocks" "terminal" "[I", Cond.fieldLink RX0 19 "UpwardGrants$Blocks" "due" "[I", Cond.fieldLink RX0 22 "UpwardGrants$Blocks" "sent" "[I", Cond.fieldLink RX0 25 "UpwardGrants$Blocks" "report" "[I"]
def wsX7_explainsAllSeen_r3 : List Cond := [Cond.fieldLink RX0 28 "UpwardGrants$Blocks" "letters" "[I", Cond.methodLink RX7 126 yX4_makeDeaf, Cond.instanceMethod yX4_makeDeaf, Cond.selects RX4 yX4_makeDeaf yX4_makeDeaf, Cond.code yX4_makeDeaf cX4_makeDeaf 6 (some .int), Cond.methodLink RX4 79 Lib.Math.max.name, Cond.static Lib.Math.max.name, Cond.code Lib.Math.max.name Lib.Math.max.code 2 (some .int), Cond.methodLink RX4 85 yX4_isDeaf, Cond.instanceMethod yX4_isDeaf, Cond.selects RX4 yX4_isDeaf yX4_isDeaf, Cond.code yX4_isDeaf cX4_isDeaf 3 (some .boolean), Cond.methodLink RX7 119 yX5_takeSteps, Cond.instanceMethod yX5_takeSteps, Cond.selects RX5 yX5_takeSteps yX5_takeSteps, Cond.initialized RX5, Cond.code yX5_takeSteps cX5_takeSteps 4 (some .int), Cond.fieldLink RX5 19 "UpwardGrants$Station" "state" "LUpwardGrants$State;", Cond.fieldLink RX5 70 "UpwardGrants$State" "room" "I", Cond.fieldLink RX5 9 "UpwardGrants$Station" "left" "I", Cond.fieldLink RX5 79 "UpwardGrants$State" "blocks" "LUpwardGrants$Blocks;", Cond.fieldLink RX5 88 "UpwardGrants$State" "now" "I", Cond.methodLink RX5 60 yX4_allThrough, Cond.instanceMethod yX4_allThrough]
def wsX7_explainsAllSeen_r4 : List Cond := [Cond.selects RX4 yX4_allThrough yX4_allThrough, Cond.code yX4_allThrough cX4_allThrough 3 (some .int), Cond.methodLink RX5 64 yX5_gainTokens, Cond.instanceMethod yX5_gainTokens, Cond.selects RX5 yX5_gainTokens yX5_gainTokens, Cond.code yX5_gainTokens cX5_gainTokens 2 none, Cond.fieldLink RX5 15 "UpwardGrants$Station" "setup" "LUpwardGrants$Setup;", Cond.fieldLink RX5 45 "UpwardGrants$Setup" "classes" "I", Cond.fieldLink RX5 91 "UpwardGrants$State" "tokens" "[I", Cond.fieldLink RX5 94 "UpwardGrants$Setup" "limit" "[I", Cond.fieldLink RX5 97 "UpwardGrants$Setup" "rate" "[I", Cond.methodLink RX5 100 Lib.Math.min.name, Cond.methodLink RX5 67 yX5_askInPlaces, Cond.instanceMethod yX5_askInPlaces, Cond.selects RX5 yX5_askInPlaces yX5_askInPlaces, Cond.code yX5_askInPlaces cX5_askInPlaces 3 none, Cond.fieldLink RX5 106 "UpwardGrants$Setup" "terminals" "I", Cond.fieldLink RX5 112 "UpwardGrants$State" "bannedTill" "[I", Cond.fieldLink RX5 37 "UpwardGrants$State" "wants" "[I", Cond.fieldLink RX5 115 "UpwardGrants$State" "asked" "[I", Cond.fieldLink RX5 118 "UpwardGrants$State" "asks" "[I", Cond.fieldLink RX5 121 "UpwardGrants$Setup" "ban" "I", Cond.methodLink RX5 109 yX3_isPlaceToAsk, Cond.instanceMethod yX3_isPlaceToAsk]
def wsX7_explainsAllSeen_r5 : List Cond := [Cond.selects RX3 yX3_isPlaceToAsk yX3_isPlaceToAsk, Cond.initialized RX3, Cond.code yX3_isPlaceToAsk cX3_isPlaceToAsk 4 (some .boolean), Cond.fieldLink RX3 9 "UpwardGrants$Setup" "period" "[I", Cond.methodLink RX5 73 yX5_sendAgain, Cond.instanceMethod yX5_sendAgain, Cond.selects RX5 yX5_sendAgain yX5_sendAgain, Cond.code yX5_sendAgain cX5_sendAgain 3 none, Cond.fieldLink RX5 124 "UpwardGrants$Blocks" "size" "I", Cond.methodLink RX5 133 Lib.Math.max.name, Cond.methodLink RX5 127 yX0_isDue, Cond.instanceMethod yX0_isDue, Cond.selects RX0 yX0_isDue yX0_isDue, Cond.code yX0_isDue cX0_isDue 4 (some .boolean), Cond.methodLink RX5 130 yX0_content, Cond.instanceMethod yX0_content, Cond.selects RX0 yX0_content yX0_content, Cond.code yX0_content cX0_content 2 (some .int), Cond.methodLink RX0 31 yX0_allLetters, Cond.instanceMethod yX0_allLetters, Cond.selects RX0 yX0_allLetters yX0_allLetters, Cond.code yX0_allLetters cX0_allLetters 5 (some .int), Cond.methodLink RX0 35 yX0_reportOf, Cond.instanceMethod yX0_reportOf]
def wsX7_explainsAllSeen_r6 : List Cond := [Cond.selects RX0 yX0_reportOf yX0_reportOf, Cond.code yX0_reportOf cX0_reportOf 2 (some .int), Cond.methodLink RX5 136 yX5_send, Cond.instanceMethod yX5_send, Cond.selects RX5 yX5_send yX5_send, Cond.code yX5_send cX5_send 7 none, Cond.fieldLink RX5 143 "UpwardGrants$State" "thought" "[I", Cond.fieldLink RX5 187 "UpwardGrants$State" "through" "[I", Cond.fieldLink RX5 198 "UpwardGrants$Setup" "tries" "I", Cond.fieldLink RX5 201 "UpwardGrants$Setup" "back" "I", Cond.fieldLink RX5 207 "UpwardGrants$State" "lost" "[I", Cond.methodLink RX5 175 yX0_countSending, Cond.instanceMethod yX0_countSending, Cond.selects RX0 yX0_countSending yX0_countSending, Cond.code yX0_countSending cX0_countSending 2 (some .int), Cond.methodLink RX5 178 yX4_isDeaf, Cond.methodLink RX5 181 yX0_reportOf, Cond.methodLink RX5 184 yX0_allLetters, Cond.methodLink RX5 190 yX0_addLettersTo, Cond.instanceMethod yX0_addLettersTo, Cond.selects RX0 yX0_addLettersTo yX0_addLettersTo, Cond.code yX0_addLettersTo cX0_addLettersTo 6 none, Cond.methodLink RX5 194 yX0_markGone, Cond.instanceMethod yX0_markGone]
def wsX7_explainsAllSeen_r7 : List Cond := [Cond.selects RX0 yX0_markGone yX0_markGone, Cond.code yX0_markGone cX0_markGone 2 none, Cond.methodLink RX5 204 yX0_putDue, Cond.instanceMethod yX0_putDue, Cond.selects RX0 yX0_putDue yX0_putDue, Cond.code yX0_putDue cX0_putDue 3 none, Cond.methodLink RX5 76 yX5_giveGrants, Cond.instanceMethod yX5_giveGrants, Cond.selects RX5 yX5_giveGrants yX5_giveGrants, Cond.code yX5_giveGrants cX5_giveGrants 5 none, Cond.fieldLink RX5 140 "UpwardGrants$State" "last" "I", Cond.methodLink RX5 146 yX5_takeGrant, Cond.instanceMethod yX5_takeGrant, Cond.selects RX5 yX5_takeGrant yX5_takeGrant, Cond.code yX5_takeGrant cX5_takeGrant 4 (some .int), Cond.fieldLink RX5 152 "UpwardGrants$State" "granted" "[I", Cond.methodLink RX5 149 yX5_pack, Cond.instanceMethod yX5_pack, Cond.selects RX5 yX5_pack yX5_pack, Cond.code yX5_pack cX5_pack 6 none, Cond.methodLink RX5 155 yX0_open, Cond.instanceMethod yX0_open, Cond.selects RX0 yX0_open yX0_open, Cond.code yX0_open cX0_open 4 (some .int)]
def wsX7_explainsAllSeen_r8 : List Cond := [Cond.methodLink RX5 158 yX5_packLetters, Cond.instanceMethod yX5_packLetters, Cond.selects RX5 yX5_packLetters yX5_packLetters, Cond.code yX5_packLetters cX5_packLetters 9 (some .int), Cond.fieldLink RX5 23 "UpwardGrants$Setup" "owner" "[I", Cond.fieldLink RX5 168 "UpwardGrants$Setup" "priority" "[I", Cond.fieldLink RX5 42 "UpwardGrants$State" "waits" "[I", Cond.methodLink RX5 171 yX0_putLetters, Cond.instanceMethod yX0_putLetters, Cond.selects RX0 yX0_putLetters yX0_putLetters, Cond.code yX0_putLetters cX0_putLetters 5 none, Cond.methodLink RX5 162 yX5_waitingAt, Cond.instanceMethod yX5_waitingAt, Cond.selects RX5 yX5_waitingAt yX5_waitingAt, Cond.code yX5_waitingAt cX5_waitingAt 4 (some .int), Cond.methodLink RX5 165 yX0_putReport, Cond.instanceMethod yX0_putReport, Cond.selects RX0 yX0_putReport yX0_putReport, Cond.code yX0_putReport cX0_putReport 3 none, Cond.methodLink RX5 83 yX0_dropGone, Cond.instanceMethod yX0_dropGone, Cond.selects RX0 yX0_dropGone yX0_dropGone, Cond.code yX0_dropGone cX0_dropGone 3 none, Cond.methodLink RX0 38 yX0_move]
def wsX7_explainsAllSeen_r9 : List Cond := [Cond.instanceMethod yX0_move, Cond.selects RX0 yX0_move yX0_move, Cond.code yX0_move cX0_move 4 none]
def wsX7_explainsAllSeen : List Cond := .code yX7_explainsAllSeen cX7_explainsAllSeen 3 (some .boolean) :: ((wsX7_explainsAllSeen_r1 ++ (wsX7_explainsAllSeen_r2 ++ (wsX7_explainsAllSeen_r3 ++ (wsX7_explainsAllSeen_r4 ++ (wsX7_explainsAllSeen_r5 ++ (wsX7_explainsAllSeen_r6 ++ (wsX7_explainsAllSeen_r7 ++ (wsX7_explainsAllSeen_r8 ++ wsX7_explainsAllSeen_r9)))))))) ++ wsX70 ++ wsX40 ++ wsX00 ++ wsX50 ++ wsX30)
def wsX7_unseen_r1 : List Cond := [Cond.fieldLink RX7 19 "UpwardGrants" "setup" "LUpwardGrants$Setup;", Cond.fieldLink RX7 213 "UpwardGrants$Setup" "terminals" "I", Cond.methodLink RX7 216 yX7_explainsAllSeen, Cond.instanceMethod yX7_explainsAllSeen, Cond.selects RX7 yX7_explainsAllSeen yX7_explainsAllSeen, Cond.initialized RX7, Cond.code yX7_explainsAllSeen cX7_explainsAllSeen 3 (some .boolean), Cond.fieldLink RX7 72 "UpwardGrants" "seen" "I", Cond.fieldLink RX7 33 "UpwardGrants" "trialState" "LUpwardGrants$State;", Cond.fieldLink RX7 29 "UpwardGrants" "state" "LUpwardGrants$State;", Cond.fieldLink RX7 116 "UpwardGrants$State" "now" "I", Cond.fieldLink RX7 65 "UpwardGrants" "seenSteps" "[I", Cond.fieldLink RX7 45 "UpwardGrants" "trial" "LUpwardGrants$Station;", Cond.fieldLink RX7 69 "UpwardGrants" "seenLetters" "[I", Cond.methodLink RX7 208 yX4_copyFrom, Cond.instanceMethod yX4_copyFrom, Cond.selects RX4 yX4_copyFrom yX4_copyFrom, Cond.initialized RX4, Cond.code yX4_copyFrom cX4_copyFrom 2 none, Cond.fieldLink RX4 52 "UpwardGrants$State" "now" "I", Cond.fieldLink RX4 56 "UpwardGrants$State" "room" "I", Cond.fieldLink RX4 59 "UpwardGrants$State" "last" "I", Cond.fieldLink RX4 9 "UpwardGrants$State" "wants" "[I", Cond.fieldLink RX4 15 "UpwardGrants$State" "bannedTill" "[I"]
def wsX7_unseen_r2 : List Cond := [Cond.fieldLink RX4 18 "UpwardGrants$State" "asked" "[I", Cond.fieldLink RX4 21 "UpwardGrants$State" "thought" "[I", Cond.fieldLink RX4 24 "UpwardGrants$State" "asks" "[I", Cond.fieldLink RX4 27 "UpwardGrants$State" "granted" "[I", Cond.fieldLink RX4 30 "UpwardGrants$State" "waits" "[I", Cond.fieldLink RX4 33 "UpwardGrants$State" "tokens" "[I", Cond.fieldLink RX4 36 "UpwardGrants$State" "through" "[I", Cond.fieldLink RX4 39 "UpwardGrants$State" "lost" "[I", Cond.fieldLink RX4 42 "UpwardGrants$State" "deafBits" "[I", Cond.fieldLink RX4 48 "UpwardGrants$State" "blocks" "LUpwardGrants$Blocks;", Cond.static yX7_copyRow, Cond.code yX7_copyRow cX7_copyRow 2 none, Cond.methodLink RX7 254 Lib.Math.min.name, Cond.static Lib.Math.min.name, Cond.initialized "java/lang/Math", Cond.code Lib.Math.min.name Lib.Math.min.code 2 (some .int), Cond.methodLink RX7 259 arraycopyName, Cond.native arraycopyName, Cond.static arraycopyName, Cond.initialized "java/lang/System", Cond.methodLink RX4 75 yX0_copyFrom, Cond.instanceMethod yX0_copyFrom, Cond.selects RX0 yX0_copyFrom yX0_copyFrom, Cond.initialized RX0]
def wsX7_unseen_r3 : List Cond := [Cond.code yX0_copyFrom cX0_copyFrom 2 none, Cond.fieldLink RX0 9 "UpwardGrants$Blocks" "size" "I", Cond.fieldLink RX0 15 "UpwardGrants$Blocks" "terminal" "[I", Cond.fieldLink RX0 19 "UpwardGrants$Blocks" "due" "[I", Cond.fieldLink RX0 22 "UpwardGrants$Blocks" "sent" "[I", Cond.fieldLink RX0 25 "UpwardGrants$Blocks" "report" "[I", Cond.fieldLink RX0 28 "UpwardGrants$Blocks" "letters" "[I", Cond.methodLink RX7 126 yX4_makeDeaf, Cond.instanceMethod yX4_makeDeaf, Cond.selects RX4 yX4_makeDeaf yX4_makeDeaf, Cond.code yX4_makeDeaf cX4_makeDeaf 6 (some .int), Cond.methodLink RX4 79 Lib.Math.max.name, Cond.static Lib.Math.max.name, Cond.code Lib.Math.max.name Lib.Math.max.code 2 (some .int), Cond.methodLink RX4 85 yX4_isDeaf, Cond.instanceMethod yX4_isDeaf, Cond.selects RX4 yX4_isDeaf yX4_isDeaf, Cond.code yX4_isDeaf cX4_isDeaf 3 (some .boolean), Cond.methodLink RX7 119 yX5_takeSteps, Cond.instanceMethod yX5_takeSteps, Cond.selects RX5 yX5_takeSteps yX5_takeSteps, Cond.initialized RX5, Cond.code yX5_takeSteps cX5_takeSteps 4 (some .int), Cond.fieldLink RX5 19 "UpwardGrants$Station" "state" "LUpwardGrants$State;"]
def wsX7_unseen_r4 : List Cond := [Cond.fieldLink RX5 70 "UpwardGrants$State" "room" "I", Cond.fieldLink RX5 9 "UpwardGrants$Station" "left" "I", Cond.fieldLink RX5 79 "UpwardGrants$State" "blocks" "LUpwardGrants$Blocks;", Cond.fieldLink RX5 88 "UpwardGrants$State" "now" "I", Cond.methodLink RX5 60 yX4_allThrough, Cond.instanceMethod yX4_allThrough, Cond.selects RX4 yX4_allThrough yX4_allThrough, Cond.code yX4_allThrough cX4_allThrough 3 (some .int), Cond.methodLink RX5 64 yX5_gainTokens, Cond.instanceMethod yX5_gainTokens, Cond.selects RX5 yX5_gainTokens yX5_gainTokens, Cond.code yX5_gainTokens cX5_gainTokens 2 none, Cond.fieldLink RX5 15 "UpwardGrants$Station" "setup" "LUpwardGrants$Setup;", Cond.fieldLink RX5 45 "UpwardGrants$Setup" "classes" "I", Cond.fieldLink RX5 91 "UpwardGrants$State" "tokens" "[I", Cond.fieldLink RX5 94 "UpwardGrants$Setup" "limit" "[I", Cond.fieldLink RX5 97 "UpwardGrants$Setup" "rate" "[I", Cond.methodLink RX5 100 Lib.Math.min.name, Cond.methodLink RX5 67 yX5_askInPlaces, Cond.instanceMethod yX5_askInPlaces, Cond.selects RX5 yX5_askInPlaces yX5_askInPlaces, Cond.code yX5_askInPlaces cX5_askInPlaces 3 none, Cond.fieldLink RX5 106 "UpwardGrants$Setup" "terminals" "I", Cond.fieldLink RX5 112 "UpwardGrants$State" "bannedTill" "[I"]
def wsX7_unseen_r5 : List Cond := [Cond.fieldLink RX5 37 "UpwardGrants$State" "wants" "[I", Cond.fieldLink RX5 115 "UpwardGrants$State" "asked" "[I", Cond.fieldLink RX5 118 "UpwardGrants$State" "asks" "[I", Cond.fieldLink RX5 121 "UpwardGrants$Setup" "ban" "I", Cond.methodLink RX5 109 yX3_isPlaceToAsk, Cond.instanceMethod yX3_isPlaceToAsk, Cond.selects RX3 yX3_isPlaceToAsk yX3_isPlaceToAsk, Cond.initialized RX3, Cond.code yX3_isPlaceToAsk cX3_isPlaceToAsk 4 (some .boolean), Cond.fieldLink RX3 9 "UpwardGrants$Setup" "period" "[I", Cond.methodLink RX5 73 yX5_sendAgain, Cond.instanceMethod yX5_sendAgain, Cond.selects RX5 yX5_sendAgain yX5_sendAgain, Cond.code yX5_sendAgain cX5_sendAgain 3 none, Cond.fieldLink RX5 124 "UpwardGrants$Blocks" "size" "I", Cond.methodLink RX5 133 Lib.Math.max.name, Cond.methodLink RX5 127 yX0_isDue, Cond.instanceMethod yX0_isDue, Cond.selects RX0 yX0_isDue yX0_isDue, Cond.code yX0_isDue cX0_isDue 4 (some .boolean), Cond.methodLink RX5 130 yX0_content, Cond.instanceMethod yX0_content, Cond.selects RX0 yX0_content yX0_content, Cond.code yX0_content cX0_content 2 (some .int)]
def wsX7_unseen_r6 : List Cond := [Cond.methodLink RX0 31 yX0_allLetters, Cond.instanceMethod yX0_allLetters, Cond.selects RX0 yX0_allLetters yX0_allLetters, Cond.code yX0_allLetters cX0_allLetters 5 (some .int), Cond.methodLink RX0 35 yX0_reportOf, Cond.instanceMethod yX0_reportOf, Cond.selects RX0 yX0_reportOf yX0_reportOf, Cond.code yX0_reportOf cX0_reportOf 2 (some .int), Cond.methodLink RX5 136 yX5_send, Cond.instanceMethod yX5_send, Cond.selects RX5 yX5_send yX5_send, Cond.code yX5_send cX5_send 7 none, Cond.fieldLink RX5 143 "UpwardGrants$State" "thought" "[I", Cond.fieldLink RX5 187 "UpwardGrants$State" "through" "[I", Cond.fieldLink RX5 198 "UpwardGrants$Setup" "tries" "I", Cond.fieldLink RX5 201 "UpwardGrants$Setup" "back" "I", Cond.fieldLink RX5 207 "UpwardGrants$State" "lost" "[I", Cond.methodLink RX5 175 yX0_countSending, Cond.instanceMethod yX0_countSending, Cond.selects RX0 yX0_countSending yX0_countSending, Cond.code yX0_countSending cX0_countSending 2 (some .int), Cond.methodLink RX5 178 yX4_isDeaf, Cond.methodLink RX5 181 yX0_reportOf, Cond.methodLink RX5 184 yX0_allLetters]
def wsX7_unseen_r7 : List Cond := [Cond.methodLink RX5 190 yX0_addLettersTo, Cond.instanceMethod yX0_addLettersTo, Cond.selects RX0 yX0_addLettersTo yX0_addLettersTo, Cond.code yX0_addLettersTo cX0_addLettersTo 6 none, Cond.methodLink RX5 194 yX0_markGone, Cond.instanceMethod yX0_markGone, Cond.selects RX0 yX0_markGone yX0_markGone, Cond.code yX0_markGone cX0_markGone 2 none, Cond.methodLink RX5 204 yX0_putDue, Cond.instanceMethod yX0_putDue, Cond.selects RX0 yX0_putDue yX0_putDue, Cond.code yX0_putDue cX0_putDue 3 none, Cond.methodLink RX5 76 yX5_giveGrants, Cond.instanceMethod yX5_giveGrants, Cond.selects RX5 yX5_giveGrants yX5_giveGrants, Cond.code yX5_giveGrants cX5_giveGrants 5 none, Cond.fieldLink RX5 140 "UpwardGrants$State" "last" "I", Cond.methodLink RX5 146 yX5_takeGrant, Cond.instanceMethod yX5_takeGrant, Cond.selects RX5 yX5_takeGrant yX5_takeGrant, Cond.code yX5_takeGrant cX5_takeGrant 4 (some .int), Cond.fieldLink RX5 152 "UpwardGrants$State" "granted" "[I", Cond.methodLink RX5 149 yX5_pack, Cond.instanceMethod yX5_pack]
def wsX7_unseen_r8 : List Cond := [Cond.selects RX5 yX5_pack yX5_pack, Cond.code yX5_pack cX5_pack 6 none, Cond.methodLink RX5 155 yX0_open, Cond.instanceMethod yX0_open, Cond.selects RX0 yX0_open yX0_open, Cond.code yX0_open cX0_open 4 (some .int), Cond.methodLink RX5 158 yX5_packLetters, Cond.instanceMethod yX5_packLetters, Cond.selects RX5 yX5_packLetters yX5_packLetters, Cond.code yX5_packLetters cX5_packLetters 9 (some .int), Cond.fieldLink RX5 23 "UpwardGrants$Setup" "owner" "[I", Cond.fieldLink RX5 168 "UpwardGrants$Setup" "priority" "[I", Cond.fieldLink RX5 42 "UpwardGrants$State" "waits" "[I", Cond.methodLink RX5 171 yX0_putLetters, Cond.instanceMethod yX0_putLetters, Cond.selects RX0 yX0_putLetters yX0_putLetters, Cond.code yX0_putLetters cX0_putLetters 5 none, Cond.methodLink RX5 162 yX5_waitingAt, Cond.instanceMethod yX5_waitingAt, Cond.selects RX5 yX5_waitingAt yX5_waitingAt, Cond.code yX5_waitingAt cX5_waitingAt 4 (some .int), Cond.methodLink RX5 165 yX0_putReport, Cond.instanceMethod yX0_putReport, Cond.selects RX0 yX0_putReport yX0_putReport]
def wsX7_unseen_r9 : List Cond := [Cond.code yX0_putReport cX0_putReport 3 none, Cond.methodLink RX5 83 yX0_dropGone, Cond.instanceMethod yX0_dropGone, Cond.selects RX0 yX0_dropGone yX0_dropGone, Cond.code yX0_dropGone cX0_dropGone 3 none, Cond.methodLink RX0 38 yX0_move, Cond.instanceMethod yX0_move, Cond.selects RX0 yX0_move yX0_move, Cond.code yX0_move cX0_move 4 none]
def wsX7_unseen : List Cond := .code yX7_unseen cX7_unseen 3 (some .int) :: ((wsX7_unseen_r1 ++ (wsX7_unseen_r2 ++ (wsX7_unseen_r3 ++ (wsX7_unseen_r4 ++ (wsX7_unseen_r5 ++ (wsX7_unseen_r6 ++ (wsX7_unseen_r7 ++ (wsX7_unseen_r8 ++ wsX7_unseen_r9)))))))) ++ wsX70 ++ wsX30 ++ wsX40 ++ wsX00 ++ wsX50)
def wsX7_imageAt : List Cond := .code yX7_imageAt cX7_imageAt 2 (some (.object "UpwardGrants$Image")) :: ([.fieldLink RX7 58 "UpwardGrants" "firstImage" "LUpwardGrants$Image;", .fieldLink RX7 62 "UpwardGrants" "secondImage" "LUpwardGrants$Image;"] ++ wsX70)
def wsX7_keep_r1 : List Cond := [Cond.fieldLink RX7 29 "UpwardGrants" "state" "LUpwardGrants$State;", Cond.fieldLink RX7 116 "UpwardGrants$State" "now" "I", Cond.methodLink RX7 79 yX7_isWithin, Cond.static yX7_isWithin, Cond.initialized RX7, Cond.code yX7_isWithin cX7_isWithin 3 (some .boolean), Cond.methodLink RX7 219 yX7_imageAt, Cond.instanceMethod yX7_imageAt, Cond.selects RX7 yX7_imageAt yX7_imageAt, Cond.code yX7_imageAt cX7_imageAt 2 (some (.object "UpwardGrants$Image")), Cond.fieldLink RX7 58 "UpwardGrants" "firstImage" "LUpwardGrants$Image;", Cond.fieldLink RX7 62 "UpwardGrants" "secondImage" "LUpwardGrants$Image;", Cond.methodLink RX7 223 yX2_take, Cond.instanceMethod yX2_take, Cond.selects RX2 yX2_take yX2_take, Cond.initialized RX2, Cond.code yX2_take cX2_take 2 none, Cond.fieldLink RX2 16 "UpwardGrants$Image" "state" "LUpwardGrants$State;", Cond.fieldLink RX2 7 "UpwardGrants$Image" "there" "Z", Cond.methodLink RX2 20 yX4_copyFrom, Cond.instanceMethod yX4_copyFrom, Cond.selects RX4 yX4_copyFrom yX4_copyFrom, Cond.initialized RX4, Cond.code yX4_copyFrom cX4_copyFrom 2 none]
def wsX7_keep_r2 : List Cond := [Cond.fieldLink RX4 52 "UpwardGrants$State" "now" "I", Cond.fieldLink RX4 56 "UpwardGrants$State" "room" "I", Cond.fieldLink RX4 59 "UpwardGrants$State" "last" "I", Cond.fieldLink RX4 9 "UpwardGrants$State" "wants" "[I", Cond.fieldLink RX4 15 "UpwardGrants$State" "bannedTill" "[I", Cond.fieldLink RX4 18 "UpwardGrants$State" "asked" "[I", Cond.fieldLink RX4 21 "UpwardGrants$State" "thought" "[I", Cond.fieldLink RX4 24 "UpwardGrants$State" "asks" "[I", Cond.fieldLink RX4 27 "UpwardGrants$State" "granted" "[I", Cond.fieldLink RX4 30 "UpwardGrants$State" "waits" "[I", Cond.fieldLink RX4 33 "UpwardGrants$State" "tokens" "[I", Cond.fieldLink RX4 36 "UpwardGrants$State" "through" "[I", Cond.fieldLink RX4 39 "UpwardGrants$State" "lost" "[I", Cond.fieldLink RX4 42 "UpwardGrants$State" "deafBits" "[I", Cond.fieldLink RX4 48 "UpwardGrants$State" "blocks" "LUpwardGrants$Blocks;", Cond.static yX7_copyRow, Cond.code yX7_copyRow cX7_copyRow 2 none, Cond.methodLink RX7 254 Lib.Math.min.name, Cond.static Lib.Math.min.name, Cond.initialized "java/lang/Math", Cond.code Lib.Math.min.name Lib.Math.min.code 2 (some .int), Cond.methodLink RX7 259 arraycopyName, Cond.native arraycopyName, Cond.static arraycopyName]
def wsX7_keep_r3 : List Cond := [Cond.initialized "java/lang/System", Cond.methodLink RX4 75 yX0_copyFrom, Cond.instanceMethod yX0_copyFrom, Cond.selects RX0 yX0_copyFrom yX0_copyFrom, Cond.initialized RX0, Cond.code yX0_copyFrom cX0_copyFrom 2 none, Cond.fieldLink RX0 9 "UpwardGrants$Blocks" "size" "I", Cond.fieldLink RX0 15 "UpwardGrants$Blocks" "terminal" "[I", Cond.fieldLink RX0 19 "UpwardGrants$Blocks" "due" "[I", Cond.fieldLink RX0 22 "UpwardGrants$Blocks" "sent" "[I", Cond.fieldLink RX0 25 "UpwardGrants$Blocks" "report" "[I", Cond.fieldLink RX0 28 "UpwardGrants$Blocks" "letters" "[I"]
def wsX7_keep : List Cond := .code yX7_keep cX7_keep 2 (some .int) :: ((wsX7_keep_r1 ++ (wsX7_keep_r2 ++ wsX7_keep_r3)) ++ wsX70 ++ wsX40 ++ wsX20 ++ wsX00)
def wsX7_back_r1 : List Cond := [Cond.fieldLink RX7 226 "UpwardGrants$Image" "there" "Z", Cond.fieldLink RX7 29 "UpwardGrants" "state" "LUpwardGrants$State;", Cond.fieldLink RX7 230 "UpwardGrants$Image" "state" "LUpwardGrants$State;", Cond.fieldLink RX7 51 "UpwardGrants" "history" "LUpwardGrants$History;", Cond.fieldLink RX7 137 "UpwardGrants$History" "known" "I", Cond.fieldLink RX7 116 "UpwardGrants$State" "now" "I", Cond.methodLink RX7 79 yX7_isWithin, Cond.static yX7_isWithin, Cond.initialized RX7, Cond.code yX7_isWithin cX7_isWithin 3 (some .boolean), Cond.methodLink RX7 219 yX7_imageAt, Cond.instanceMethod yX7_imageAt, Cond.selects RX7 yX7_imageAt yX7_imageAt, Cond.code yX7_imageAt cX7_imageAt 2 (some (.object "UpwardGrants$Image")), Cond.fieldLink RX7 58 "UpwardGrants" "firstImage" "LUpwardGrants$Image;", Cond.fieldLink RX7 62 "UpwardGrants" "secondImage" "LUpwardGrants$Image;", Cond.methodLink RX7 208 yX4_copyFrom, Cond.instanceMethod yX4_copyFrom, Cond.selects RX4 yX4_copyFrom yX4_copyFrom, Cond.initialized RX4, Cond.code yX4_copyFrom cX4_copyFrom 2 none, Cond.fieldLink RX4 52 "UpwardGrants$State" "now" "I", Cond.fieldLink RX4 56 "UpwardGrants$State" "room" "I", Cond.fieldLink RX4 59 "UpwardGrants$State" "last" "I"]
def wsX7_back_r2 : List Cond := [Cond.fieldLink RX4 9 "UpwardGrants$State" "wants" "[I", Cond.fieldLink RX4 15 "UpwardGrants$State" "bannedTill" "[I", Cond.fieldLink RX4 18 "UpwardGrants$State" "asked" "[I", Cond.fieldLink RX4 21 "UpwardGrants$State" "thought" "[I", Cond.fieldLink RX4 24 "UpwardGrants$State" "asks" "[I", Cond.fieldLink RX4 27 "UpwardGrants$State" "granted" "[I", Cond.fieldLink RX4 30 "UpwardGrants$State" "waits" "[I", Cond.fieldLink RX4 33 "UpwardGrants$State" "tokens" "[I", Cond.fieldLink RX4 36 "UpwardGrants$State" "through" "[I", Cond.fieldLink RX4 39 "UpwardGrants$State" "lost" "[I", Cond.fieldLink RX4 42 "UpwardGrants$State" "deafBits" "[I", Cond.fieldLink RX4 48 "UpwardGrants$State" "blocks" "LUpwardGrants$Blocks;", Cond.static yX7_copyRow, Cond.code yX7_copyRow cX7_copyRow 2 none, Cond.methodLink RX7 254 Lib.Math.min.name, Cond.static Lib.Math.min.name, Cond.initialized "java/lang/Math", Cond.code Lib.Math.min.name Lib.Math.min.code 2 (some .int), Cond.methodLink RX7 259 arraycopyName, Cond.native arraycopyName, Cond.static arraycopyName, Cond.initialized "java/lang/System", Cond.methodLink RX4 75 yX0_copyFrom, Cond.instanceMethod yX0_copyFrom]
def wsX7_back_r3 : List Cond := [Cond.selects RX0 yX0_copyFrom yX0_copyFrom, Cond.initialized RX0, Cond.code yX0_copyFrom cX0_copyFrom 2 none, Cond.fieldLink RX0 9 "UpwardGrants$Blocks" "size" "I", Cond.fieldLink RX0 15 "UpwardGrants$Blocks" "terminal" "[I", Cond.fieldLink RX0 19 "UpwardGrants$Blocks" "due" "[I", Cond.fieldLink RX0 22 "UpwardGrants$Blocks" "sent" "[I", Cond.fieldLink RX0 25 "UpwardGrants$Blocks" "report" "[I", Cond.fieldLink RX0 28 "UpwardGrants$Blocks" "letters" "[I"]
def wsX7_back : List Cond := .code yX7_back cX7_back 3 (some .int) :: ((wsX7_back_r1 ++ (wsX7_back_r2 ++ wsX7_back_r3)) ++ wsX20 ++ wsX70 ++ wsX10 ++ wsX40 ++ wsX00)
def wsX7_count : List Cond := .code yX7_count cX7_count 2 (some .int) :: ([.fieldLink RX7 19 "UpwardGrants" "setup" "LUpwardGrants$Setup;", .fieldLink RX7 213 "UpwardGrants$Setup" "terminals" "I", .fieldLink RX7 231 "UpwardGrants$Setup" "classes" "I", .fieldLink RX7 29 "UpwardGrants" "state" "LUpwardGrants$State;", .fieldLink RX7 130 "UpwardGrants$State" "room" "I", .fieldLink RX7 234 "UpwardGrants$Setup" "ban" "I", .fieldLink RX7 237 "UpwardGrants$Setup" "back" "I", .fieldLink RX7 240 "UpwardGrants$Setup" "tries" "I", .fieldLink RX7 116 "UpwardGrants$State" "now" "I", .fieldLink RX7 161 "UpwardGrants$State" "blocks" "LUpwardGrants$Blocks;", .fieldLink RX7 243 "UpwardGrants$Blocks" "size" "I", .fieldLink RX7 246 "UpwardGrants$State" "last" "I", .fieldLink RX7 72 "UpwardGrants" "seen" "I", .fieldLink RX7 10 "UpwardGrants" "text" "LUpwardGrants$Text;", .fieldLink RX7 87 "UpwardGrants$Text" "length" "I", .fieldLink RX7 51 "UpwardGrants" "history" "LUpwardGrants$History;", .fieldLink RX7 137 "UpwardGrants$History" "known" "I"] ++ wsX70 ++ wsX30 ++ wsX40 ++ wsX00 ++ wsX60 ++ wsX10)
def wsX8_begins : List Cond := .code yX8_begins cX8_begins 1 none :: ([.fieldLink RX8 89 "UpwardGrantsModel" "readTerminals" "I", .fieldLink RX8 96 "UpwardGrantsModel" "readClasses" "I", .fieldLink RX8 109 "UpwardGrantsModel" "readRoom" "I", .fieldLink RX8 112 "UpwardGrantsModel" "readBan" "I", .fieldLink RX8 115 "UpwardGrantsModel" "readBack" "I", .fieldLink RX8 118 "UpwardGrantsModel" "readTries" "I"] ++ wsX80)
def wsX8_becomes : List Cond := .code yX8_becomes cX8_becomes 2 none :: ([.fieldLink RX8 89 "UpwardGrantsModel" "readTerminals" "I", .fieldLink RX8 57 "UpwardGrantsModel" "terminals" "I", .fieldLink RX8 96 "UpwardGrantsModel" "readClasses" "I", .fieldLink RX8 64 "UpwardGrantsModel" "classes" "I", .fieldLink RX8 112 "UpwardGrantsModel" "readBan" "I", .fieldLink RX8 121 "UpwardGrantsModel" "ban" "I", .fieldLink RX8 115 "UpwardGrantsModel" "readBack" "I", .fieldLink RX8 124 "UpwardGrantsModel" "back" "I", .fieldLink RX8 118 "UpwardGrantsModel" "readTries" "I", .fieldLink RX8 127 "UpwardGrantsModel" "tries" "I", .fieldLink RX8 7 "UpwardGrantsModel" "period" "[I", .fieldLink RX8 16 "UpwardGrantsModel" "readPeriod" "[I", .fieldLink RX8 13 "UpwardGrantsModel" "of" "[I", .fieldLink RX8 19 "UpwardGrantsModel" "readOf" "[I", .fieldLink RX8 22 "UpwardGrantsModel" "s" "[I", .fieldLink RX8 109 "UpwardGrantsModel" "readRoom" "I", .fieldLink RX8 130 "UpwardGrantsModel" "undos" "I", .fieldLink RX8 133 "UpwardGrantsModel" "seen" "I", .fieldLink RX8 31 "UpwardGrantsModel" "isKept" "[Z"] ++ wsX80)
def wsX8_init_r1 : List Cond := [Cond.methodLink RX8 1 objectInit, Cond.instanceMethod objectInit, Cond.code objectInit ⟨#[0xb1]⟩ 1 none, Cond.arrayClass .int, Cond.fieldLink RX8 7 "UpwardGrantsModel" "period" "[I", Cond.fieldLink RX8 13 "UpwardGrantsModel" "of" "[I", Cond.fieldLink RX8 16 "UpwardGrantsModel" "readPeriod" "[I", Cond.fieldLink RX8 19 "UpwardGrantsModel" "readOf" "[I", Cond.fieldLink RX8 22 "UpwardGrantsModel" "s" "[I", Cond.fieldLink RX8 25 "UpwardGrantsModel" "past" "[I", Cond.fieldLink RX8 28 "UpwardGrantsModel" "kept" "[I", Cond.arrayClass .boolean, Cond.fieldLink RX8 31 "UpwardGrantsModel" "isKept" "[Z", Cond.fieldLink RX8 35 "UpwardGrantsModel" "aside" "[I", Cond.fieldLink RX8 38 "UpwardGrantsModel" "seenSteps" "[I", Cond.fieldLink RX8 41 "UpwardGrantsModel" "seenIs" "[I", Cond.fieldLink RX8 44 "UpwardGrantsModel" "text" "[I", Cond.methodLink RX8 47 yX8_begins, Cond.instanceMethod yX8_begins, Cond.selects RX8 yX8_begins yX8_begins, Cond.initialized RX8, Cond.code yX8_begins cX8_begins 1 none, Cond.fieldLink RX8 89 "UpwardGrantsModel" "readTerminals" "I", Cond.fieldLink RX8 96 "UpwardGrantsModel" "readClasses" "I"]
def wsX8_init_r2 : List Cond := [Cond.fieldLink RX8 109 "UpwardGrantsModel" "readRoom" "I", Cond.fieldLink RX8 112 "UpwardGrantsModel" "readBan" "I", Cond.fieldLink RX8 115 "UpwardGrantsModel" "readBack" "I", Cond.fieldLink RX8 118 "UpwardGrantsModel" "readTries" "I", Cond.methodLink RX8 50 yX8_becomes, Cond.instanceMethod yX8_becomes, Cond.selects RX8 yX8_becomes yX8_becomes, Cond.code yX8_becomes cX8_becomes 2 none, Cond.fieldLink RX8 57 "UpwardGrantsModel" "terminals" "I", Cond.fieldLink RX8 64 "UpwardGrantsModel" "classes" "I", Cond.fieldLink RX8 121 "UpwardGrantsModel" "ban" "I", Cond.fieldLink RX8 124 "UpwardGrantsModel" "back" "I", Cond.fieldLink RX8 127 "UpwardGrantsModel" "tries" "I", Cond.fieldLink RX8 130 "UpwardGrantsModel" "undos" "I", Cond.fieldLink RX8 133 "UpwardGrantsModel" "seen" "I"]
def wsX8_init : List Cond := .code yX8_init cX8_init 1 none :: ((wsX8_init_r1 ++ wsX8_init_r2) ++ wsX80)
def wsX8_in : List Cond := .code yX8_in cX8_in 3 (some .boolean) :: ([])
def wsX8_less : List Cond := .code yX8_less cX8_less 2 (some .int) :: ([])
def wsX8_isTerminal : List Cond := .code yX8_isTerminal cX8_isTerminal 2 (some .boolean) :: ([.fieldLink RX8 57 "UpwardGrantsModel" "terminals" "I", .methodLink RX8 60 yX8_in, .static yX8_in, .initialized RX8, .code yX8_in cX8_in 3 (some .boolean)] ++ wsX80)
def wsX8_isClass : List Cond := .code yX8_isClass cX8_isClass 2 (some .boolean) :: ([.fieldLink RX8 64 "UpwardGrantsModel" "classes" "I", .methodLink RX8 60 yX8_in, .static yX8_in, .initialized RX8, .code yX8_in cX8_in 3 (some .boolean)] ++ wsX80)
def wsX8_ofTerminal : List Cond := .code yX8_ofTerminal cX8_ofTerminal 2 (some .int) :: ([])
def wsX8_ofClass : List Cond := .code yX8_ofClass cX8_ofClass 2 (some .int) :: ([])
def wsX8_ofBlock : List Cond := .code yX8_ofBlock cX8_ofBlock 2 (some .int) :: ([])
def wsX8_type : List Cond := .code yX8_type cX8_type 2 (some .int) :: ([.fieldLink RX8 53 "UpwardGrantsModel" "thrown" "I", .fieldLink RX8 67 "UpwardGrantsModel" "letters" "I", .fieldLink RX8 44 "UpwardGrantsModel" "text" "[I", .methodLink RX8 60 yX8_in, .static yX8_in, .initialized RX8, .code yX8_in cX8_in 3 (some .boolean)] ++ wsX80)
def wsX8_clear : List Cond := .code yX8_clear cX8_clear 2 (some .int) :: ([.fieldLink RX8 53 "UpwardGrantsModel" "thrown" "I", .fieldLink RX8 67 "UpwardGrantsModel" "letters" "I"] ++ wsX80)
def wsX8_isFigure : List Cond := .code yX8_isFigure cX8_isFigure 2 (some .boolean) :: ([.fieldLink RX8 67 "UpwardGrantsModel" "letters" "I", .fieldLink RX8 44 "UpwardGrantsModel" "text" "[I", .methodLink RX8 60 yX8_in, .static yX8_in, .initialized RX8, .code yX8_in cX8_in 3 (some .boolean)] ++ wsX80)
def wsX8_takes : List Cond := .code yX8_takes cX8_takes 2 none :: ([.fieldLink RX8 70 "UpwardGrantsModel" "next" "I", .fieldLink RX8 67 "UpwardGrantsModel" "letters" "I", .fieldLink RX8 44 "UpwardGrantsModel" "text" "[I", .fieldLink RX8 73 "UpwardGrantsModel" "begin" "I", .fieldLink RX8 76 "UpwardGrantsModel" "token" "I", .methodLink RX8 79 yX8_isFigure, .instanceMethod yX8_isFigure, .selects RX8 yX8_isFigure yX8_isFigure, .initialized RX8, .code yX8_isFigure cX8_isFigure 2 (some .boolean), .methodLink RX8 60 yX8_in, .static yX8_in, .code yX8_in cX8_in 3 (some .boolean)] ++ wsX80)
def wsX8_reads : List Cond := .code yX8_reads cX8_reads 3 (some .boolean) :: ([.fieldLink RX8 76 "UpwardGrantsModel" "token" "I", .fieldLink RX8 86 "UpwardGrantsModel" "number" "I", .methodLink RX8 83 yX8_takes, .instanceMethod yX8_takes, .selects RX8 yX8_takes yX8_takes, .initialized RX8, .code yX8_takes cX8_takes 2 none, .fieldLink RX8 70 "UpwardGrantsModel" "next" "I", .fieldLink RX8 67 "UpwardGrantsModel" "letters" "I", .fieldLink RX8 44 "UpwardGrantsModel" "text" "[I", .fieldLink RX8 73 "UpwardGrantsModel" "begin" "I", .methodLink RX8 79 yX8_isFigure, .instanceMethod yX8_isFigure, .selects RX8 yX8_isFigure yX8_isFigure, .code yX8_isFigure cX8_isFigure 2 (some .boolean), .methodLink RX8 60 yX8_in, .static yX8_in, .code yX8_in cX8_in 3 (some .boolean)] ++ wsX80)
def wsX8_readsTerminal : List Cond := .code yX8_readsTerminal cX8_readsTerminal 1 (some .boolean) :: ([.fieldLink RX8 89 "UpwardGrantsModel" "readTerminals" "I", .fieldLink RX8 16 "UpwardGrantsModel" "readPeriod" "[I", .fieldLink RX8 86 "UpwardGrantsModel" "number" "I", .methodLink RX8 92 yX8_reads, .instanceMethod yX8_reads, .selects RX8 yX8_reads yX8_reads, .initialized RX8, .code yX8_reads cX8_reads 3 (some .boolean), .fieldLink RX8 76 "UpwardGrantsModel" "token" "I", .methodLink RX8 83 yX8_takes, .instanceMethod yX8_takes, .selects RX8 yX8_takes yX8_takes, .code yX8_takes cX8_takes 2 none, .fieldLink RX8 70 "UpwardGrantsModel" "next" "I", .fieldLink RX8 67 "UpwardGrantsModel" "letters" "I", .fieldLink RX8 44 "UpwardGrantsModel" "text" "[I", .fieldLink RX8 73 "UpwardGrantsModel" "begin" "I", .methodLink RX8 79 yX8_isFigure, .instanceMethod yX8_isFigure, .selects RX8 yX8_isFigure yX8_isFigure, .code yX8_isFigure cX8_isFigure 2 (some .boolean), .methodLink RX8 60 yX8_in, .static yX8_in, .code yX8_in cX8_in 3 (some .boolean)] ++ wsX80)
def wsX8_readsOne : List Cond := .code yX8_readsOne cX8_readsOne 4 (some .boolean) :: ([.fieldLink RX8 19 "UpwardGrantsModel" "readOf" "[I", .fieldLink RX8 96 "UpwardGrantsModel" "readClasses" "I", .fieldLink RX8 86 "UpwardGrantsModel" "number" "I", .methodLink RX8 92 yX8_reads, .instanceMethod yX8_reads, .selects RX8 yX8_reads yX8_reads, .initialized RX8, .code yX8_reads cX8_reads 3 (some .boolean), .fieldLink RX8 76 "UpwardGrantsModel" "token" "I", .methodLink RX8 83 yX8_takes, .instanceMethod yX8_takes, .selects RX8 yX8_takes yX8_takes, .code yX8_takes cX8_takes 2 none, .fieldLink RX8 70 "UpwardGrantsModel" "next" "I", .fieldLink RX8 67 "UpwardGrantsModel" "letters" "I", .fieldLink RX8 44 "UpwardGrantsModel" "text" "[I", .fieldLink RX8 73 "UpwardGrantsModel" "begin" "I", .methodLink RX8 79 yX8_isFigure, .instanceMethod yX8_isFigure, .selects RX8 yX8_isFigure yX8_isFigure, .code yX8_isFigure cX8_isFigure 2 (some .boolean), .methodLink RX8 60 yX8_in, .static yX8_in, .code yX8_in cX8_in 3 (some .boolean)] ++ wsX80)
def wsX8_readsClass_r1 : List Cond := [Cond.fieldLink RX8 96 "UpwardGrantsModel" "readClasses" "I", Cond.fieldLink RX8 89 "UpwardGrantsModel" "readTerminals" "I", Cond.methodLink RX8 99 yX8_readsOne, Cond.instanceMethod yX8_readsOne, Cond.selects RX8 yX8_readsOne yX8_readsOne, Cond.initialized RX8, Cond.code yX8_readsOne cX8_readsOne 4 (some .boolean), Cond.fieldLink RX8 19 "UpwardGrantsModel" "readOf" "[I", Cond.fieldLink RX8 86 "UpwardGrantsModel" "number" "I", Cond.methodLink RX8 92 yX8_reads, Cond.instanceMethod yX8_reads, Cond.selects RX8 yX8_reads yX8_reads, Cond.code yX8_reads cX8_reads 3 (some .boolean), Cond.fieldLink RX8 76 "UpwardGrantsModel" "token" "I", Cond.methodLink RX8 83 yX8_takes, Cond.instanceMethod yX8_takes, Cond.selects RX8 yX8_takes yX8_takes, Cond.code yX8_takes cX8_takes 2 none, Cond.fieldLink RX8 70 "UpwardGrantsModel" "next" "I", Cond.fieldLink RX8 67 "UpwardGrantsModel" "letters" "I", Cond.fieldLink RX8 44 "UpwardGrantsModel" "text" "[I", Cond.fieldLink RX8 73 "UpwardGrantsModel" "begin" "I", Cond.methodLink RX8 79 yX8_isFigure, Cond.instanceMethod yX8_isFigure]
def wsX8_readsClass_r2 : List Cond := [Cond.selects RX8 yX8_isFigure yX8_isFigure, Cond.code yX8_isFigure cX8_isFigure 2 (some .boolean), Cond.methodLink RX8 60 yX8_in, Cond.static yX8_in, Cond.code yX8_in cX8_in 3 (some .boolean)]
def wsX8_readsClass : List Cond := .code yX8_readsClass cX8_readsClass 1 (some .boolean) :: ((wsX8_readsClass_r1 ++ wsX8_readsClass_r2) ++ wsX80)
def wsX8_item_r1 : List Cond := [Cond.fieldLink RX8 76 "UpwardGrantsModel" "token" "I", Cond.fieldLink RX8 86 "UpwardGrantsModel" "number" "I", Cond.fieldLink RX8 109 "UpwardGrantsModel" "readRoom" "I", Cond.fieldLink RX8 112 "UpwardGrantsModel" "readBan" "I", Cond.fieldLink RX8 115 "UpwardGrantsModel" "readBack" "I", Cond.fieldLink RX8 118 "UpwardGrantsModel" "readTries" "I", Cond.methodLink RX8 102 yX8_readsTerminal, Cond.instanceMethod yX8_readsTerminal, Cond.selects RX8 yX8_readsTerminal yX8_readsTerminal, Cond.initialized RX8, Cond.code yX8_readsTerminal cX8_readsTerminal 1 (some .boolean), Cond.fieldLink RX8 89 "UpwardGrantsModel" "readTerminals" "I", Cond.fieldLink RX8 16 "UpwardGrantsModel" "readPeriod" "[I", Cond.methodLink RX8 92 yX8_reads, Cond.instanceMethod yX8_reads, Cond.selects RX8 yX8_reads yX8_reads, Cond.code yX8_reads cX8_reads 3 (some .boolean), Cond.methodLink RX8 83 yX8_takes, Cond.instanceMethod yX8_takes, Cond.selects RX8 yX8_takes yX8_takes, Cond.code yX8_takes cX8_takes 2 none, Cond.fieldLink RX8 70 "UpwardGrantsModel" "next" "I", Cond.fieldLink RX8 67 "UpwardGrantsModel" "letters" "I", Cond.fieldLink RX8 44 "UpwardGrantsModel" "text" "[I"]
def wsX8_item_r2 : List Cond := [Cond.fieldLink RX8 73 "UpwardGrantsModel" "begin" "I", Cond.methodLink RX8 79 yX8_isFigure, Cond.instanceMethod yX8_isFigure, Cond.selects RX8 yX8_isFigure yX8_isFigure, Cond.code yX8_isFigure cX8_isFigure 2 (some .boolean), Cond.methodLink RX8 60 yX8_in, Cond.static yX8_in, Cond.code yX8_in cX8_in 3 (some .boolean), Cond.methodLink RX8 106 yX8_readsClass, Cond.instanceMethod yX8_readsClass, Cond.selects RX8 yX8_readsClass yX8_readsClass, Cond.code yX8_readsClass cX8_readsClass 1 (some .boolean), Cond.fieldLink RX8 96 "UpwardGrantsModel" "readClasses" "I", Cond.methodLink RX8 99 yX8_readsOne, Cond.instanceMethod yX8_readsOne, Cond.selects RX8 yX8_readsOne yX8_readsOne, Cond.code yX8_readsOne cX8_readsOne 4 (some .boolean), Cond.fieldLink RX8 19 "UpwardGrantsModel" "readOf" "[I"]
def wsX8_item : List Cond := .code yX8_item cX8_item 2 (some .boolean) :: ((wsX8_item_r1 ++ wsX8_item_r2) ++ wsX80)
def wsX8_cell_r1 : List Cond := [Cond.fieldLink RX8 53 "UpwardGrantsModel" "thrown" "I", Cond.fieldLink RX8 70 "UpwardGrantsModel" "next" "I", Cond.fieldLink RX8 76 "UpwardGrantsModel" "token" "I", Cond.fieldLink RX8 73 "UpwardGrantsModel" "begin" "I", Cond.fieldLink RX8 67 "UpwardGrantsModel" "letters" "I", Cond.methodLink RX8 47 yX8_begins, Cond.instanceMethod yX8_begins, Cond.selects RX8 yX8_begins yX8_begins, Cond.initialized RX8, Cond.code yX8_begins cX8_begins 1 none, Cond.fieldLink RX8 89 "UpwardGrantsModel" "readTerminals" "I", Cond.fieldLink RX8 96 "UpwardGrantsModel" "readClasses" "I", Cond.fieldLink RX8 109 "UpwardGrantsModel" "readRoom" "I", Cond.fieldLink RX8 112 "UpwardGrantsModel" "readBan" "I", Cond.fieldLink RX8 115 "UpwardGrantsModel" "readBack" "I", Cond.fieldLink RX8 118 "UpwardGrantsModel" "readTries" "I", Cond.methodLink RX8 83 yX8_takes, Cond.instanceMethod yX8_takes, Cond.selects RX8 yX8_takes yX8_takes, Cond.code yX8_takes cX8_takes 2 none, Cond.fieldLink RX8 44 "UpwardGrantsModel" "text" "[I", Cond.methodLink RX8 79 yX8_isFigure, Cond.instanceMethod yX8_isFigure, Cond.selects RX8 yX8_isFigure yX8_isFigure]
def wsX8_cell_r2 : List Cond := [Cond.code yX8_isFigure cX8_isFigure 2 (some .boolean), Cond.methodLink RX8 60 yX8_in, Cond.static yX8_in, Cond.code yX8_in cX8_in 3 (some .boolean), Cond.methodLink RX8 136 yX8_item, Cond.instanceMethod yX8_item, Cond.selects RX8 yX8_item yX8_item, Cond.code yX8_item cX8_item 2 (some .boolean), Cond.fieldLink RX8 86 "UpwardGrantsModel" "number" "I", Cond.methodLink RX8 102 yX8_readsTerminal, Cond.instanceMethod yX8_readsTerminal, Cond.selects RX8 yX8_readsTerminal yX8_readsTerminal, Cond.code yX8_readsTerminal cX8_readsTerminal 1 (some .boolean), Cond.fieldLink RX8 16 "UpwardGrantsModel" "readPeriod" "[I", Cond.methodLink RX8 92 yX8_reads, Cond.instanceMethod yX8_reads, Cond.selects RX8 yX8_reads yX8_reads, Cond.code yX8_reads cX8_reads 3 (some .boolean), Cond.methodLink RX8 106 yX8_readsClass, Cond.instanceMethod yX8_readsClass, Cond.selects RX8 yX8_readsClass yX8_readsClass, Cond.code yX8_readsClass cX8_readsClass 1 (some .boolean), Cond.methodLink RX8 99 yX8_readsOne, Cond.instanceMethod yX8_readsOne]
def wsX8_cell_r3 : List Cond := [Cond.selects RX8 yX8_readsOne yX8_readsOne, Cond.code yX8_readsOne cX8_readsOne 4 (some .boolean), Cond.fieldLink RX8 19 "UpwardGrantsModel" "readOf" "[I", Cond.methodLink RX8 50 yX8_becomes, Cond.instanceMethod yX8_becomes, Cond.selects RX8 yX8_becomes yX8_becomes, Cond.code yX8_becomes cX8_becomes 2 none, Cond.fieldLink RX8 57 "UpwardGrantsModel" "terminals" "I", Cond.fieldLink RX8 64 "UpwardGrantsModel" "classes" "I", Cond.fieldLink RX8 121 "UpwardGrantsModel" "ban" "I", Cond.fieldLink RX8 124 "UpwardGrantsModel" "back" "I", Cond.fieldLink RX8 127 "UpwardGrantsModel" "tries" "I", Cond.fieldLink RX8 7 "UpwardGrantsModel" "period" "[I", Cond.fieldLink RX8 13 "UpwardGrantsModel" "of" "[I", Cond.fieldLink RX8 22 "UpwardGrantsModel" "s" "[I", Cond.fieldLink RX8 130 "UpwardGrantsModel" "undos" "I", Cond.fieldLink RX8 133 "UpwardGrantsModel" "seen" "I", Cond.fieldLink RX8 31 "UpwardGrantsModel" "isKept" "[Z"]
def wsX8_cell : List Cond := .code yX8_cell cX8_cell 3 (some .int) :: ((wsX8_cell_r1 ++ (wsX8_cell_r2 ++ wsX8_cell_r3)) ++ wsX80)
def wsX8_isDeaf : List Cond := .code yX8_isDeaf cX8_isDeaf 3 (some .boolean) :: ([.fieldLink RX8 22 "UpwardGrantsModel" "s" "[I", .methodLink RX8 139 yX8_ofTerminal, .static yX8_ofTerminal, .initialized RX8, .code yX8_ofTerminal cX8_ofTerminal 2 (some .int)] ++ wsX80)
def wsX8_waitsOf : List Cond := .code yX8_waitsOf cX8_waitsOf 4 (some .int) :: ([.fieldLink RX8 64 "UpwardGrantsModel" "classes" "I", .fieldLink RX8 13 "UpwardGrantsModel" "of" "[I", .fieldLink RX8 22 "UpwardGrantsModel" "s" "[I", .methodLink RX8 143 yX8_ofClass, .static yX8_ofClass, .initialized RX8, .code yX8_ofClass cX8_ofClass 2 (some .int)] ++ wsX80)
def wsX8_lettersIn : List Cond := .code yX8_lettersIn cX8_lettersIn 4 (some .int) :: ([.fieldLink RX8 64 "UpwardGrantsModel" "classes" "I", .fieldLink RX8 22 "UpwardGrantsModel" "s" "[I", .methodLink RX8 146 yX8_ofBlock, .static yX8_ofBlock, .initialized RX8, .code yX8_ofBlock cX8_ofBlock 2 (some .int)] ++ wsX80)
def wsX8_inBlock : List Cond := .code yX8_inBlock cX8_inBlock 2 (some .int) :: ([.fieldLink RX8 22 "UpwardGrantsModel" "s" "[I", .methodLink RX8 149 yX8_lettersIn, .instanceMethod yX8_lettersIn, .selects RX8 yX8_lettersIn yX8_lettersIn, .initialized RX8, .code yX8_lettersIn cX8_lettersIn 4 (some .int), .fieldLink RX8 64 "UpwardGrantsModel" "classes" "I", .methodLink RX8 146 yX8_ofBlock, .static yX8_ofBlock, .code yX8_ofBlock cX8_ofBlock 2 (some .int)] ++ wsX80)
def wsX8_sends : List Cond := .code yX8_sends cX8_sends 5 none :: ([.fieldLink RX8 22 "UpwardGrantsModel" "s" "[I", .fieldLink RX8 127 "UpwardGrantsModel" "tries" "I", .fieldLink RX8 124 "UpwardGrantsModel" "back" "I", .fieldLink RX8 64 "UpwardGrantsModel" "classes" "I", .fieldLink RX8 156 "UpwardGrantsModel" "through" "I", .methodLink RX8 146 yX8_ofBlock, .static yX8_ofBlock, .initialized RX8, .code yX8_ofBlock cX8_ofBlock 2 (some .int), .methodLink RX8 153 yX8_isDeaf, .instanceMethod yX8_isDeaf, .selects RX8 yX8_isDeaf yX8_isDeaf, .code yX8_isDeaf cX8_isDeaf 3 (some .boolean), .methodLink RX8 139 yX8_ofTerminal, .static yX8_ofTerminal, .code yX8_ofTerminal cX8_ofTerminal 2 (some .int), .methodLink RX8 143 yX8_ofClass, .static yX8_ofClass, .code yX8_ofClass cX8_ofClass 2 (some .int), .methodLink RX8 149 yX8_lettersIn, .instanceMethod yX8_lettersIn, .selects RX8 yX8_lettersIn yX8_lettersIn, .code yX8_lettersIn cX8_lettersIn 4 (some .int)] ++ wsX80)
def wsX8_clearsGone : List Cond := .code yX8_clearsGone cX8_clearsGone 4 none :: ([.fieldLink RX8 22 "UpwardGrantsModel" "s" "[I", .methodLink RX8 146 yX8_ofBlock, .static yX8_ofBlock, .initialized RX8, .code yX8_ofBlock cX8_ofBlock 2 (some .int)] ++ wsX80)
def wsX8_isAhead : List Cond := .code yX8_isAhead cX8_isAhead 3 (some .boolean) :: ([.fieldLink RX8 13 "UpwardGrantsModel" "of" "[I"] ++ wsX80)
def wsX8_classAt : List Cond := .code yX8_classAt cX8_classAt 6 (some .int) :: ([.fieldLink RX8 64 "UpwardGrantsModel" "classes" "I", .fieldLink RX8 13 "UpwardGrantsModel" "of" "[I", .methodLink RX8 159 yX8_isAhead, .instanceMethod yX8_isAhead, .selects RX8 yX8_isAhead yX8_isAhead, .initialized RX8, .code yX8_isAhead cX8_isAhead 3 (some .boolean)] ++ wsX80)
def wsX8_fills : List Cond := .code yX8_fills cX8_fills 9 (some .int) :: ([.fieldLink RX8 64 "UpwardGrantsModel" "classes" "I", .fieldLink RX8 22 "UpwardGrantsModel" "s" "[I", .methodLink RX8 162 yX8_classAt, .instanceMethod yX8_classAt, .selects RX8 yX8_classAt yX8_classAt, .initialized RX8, .code yX8_classAt cX8_classAt 6 (some .int), .fieldLink RX8 13 "UpwardGrantsModel" "of" "[I", .methodLink RX8 159 yX8_isAhead, .instanceMethod yX8_isAhead, .selects RX8 yX8_isAhead yX8_isAhead, .code yX8_isAhead cX8_isAhead 3 (some .boolean), .methodLink RX8 143 yX8_ofClass, .static yX8_ofClass, .code yX8_ofClass cX8_ofClass 2 (some .int), .methodLink RX8 165 yX8_less, .static yX8_less, .code yX8_less cX8_less 2 (some .int), .methodLink RX8 146 yX8_ofBlock, .static yX8_ofBlock, .code yX8_ofBlock cX8_ofBlock 2 (some .int)] ++ wsX80)
def wsX8_packs_r1 : List Cond := [Cond.fieldLink RX8 22 "UpwardGrantsModel" "s" "[I", Cond.methodLink RX8 146 yX8_ofBlock, Cond.static yX8_ofBlock, Cond.initialized RX8, Cond.code yX8_ofBlock cX8_ofBlock 2 (some .int), Cond.methodLink RX8 139 yX8_ofTerminal, Cond.static yX8_ofTerminal, Cond.code yX8_ofTerminal cX8_ofTerminal 2 (some .int), Cond.methodLink RX8 168 yX8_fills, Cond.instanceMethod yX8_fills, Cond.selects RX8 yX8_fills yX8_fills, Cond.code yX8_fills cX8_fills 9 (some .int), Cond.fieldLink RX8 64 "UpwardGrantsModel" "classes" "I", Cond.methodLink RX8 162 yX8_classAt, Cond.instanceMethod yX8_classAt, Cond.selects RX8 yX8_classAt yX8_classAt, Cond.code yX8_classAt cX8_classAt 6 (some .int), Cond.fieldLink RX8 13 "UpwardGrantsModel" "of" "[I", Cond.methodLink RX8 159 yX8_isAhead, Cond.instanceMethod yX8_isAhead, Cond.selects RX8 yX8_isAhead yX8_isAhead, Cond.code yX8_isAhead cX8_isAhead 3 (some .boolean), Cond.methodLink RX8 143 yX8_ofClass, Cond.static yX8_ofClass]
def wsX8_packs_r2 : List Cond := [Cond.code yX8_ofClass cX8_ofClass 2 (some .int), Cond.methodLink RX8 165 yX8_less, Cond.static yX8_less, Cond.code yX8_less cX8_less 2 (some .int), Cond.methodLink RX8 172 yX8_waitsOf, Cond.instanceMethod yX8_waitsOf, Cond.selects RX8 yX8_waitsOf yX8_waitsOf, Cond.code yX8_waitsOf cX8_waitsOf 4 (some .int), Cond.methodLink RX8 175 yX8_inBlock, Cond.instanceMethod yX8_inBlock, Cond.selects RX8 yX8_inBlock yX8_inBlock, Cond.code yX8_inBlock cX8_inBlock 2 (some .int), Cond.methodLink RX8 149 yX8_lettersIn, Cond.instanceMethod yX8_lettersIn, Cond.selects RX8 yX8_lettersIn yX8_lettersIn, Cond.code yX8_lettersIn cX8_lettersIn 4 (some .int), Cond.methodLink RX8 178 yX8_sends, Cond.instanceMethod yX8_sends, Cond.selects RX8 yX8_sends yX8_sends, Cond.code yX8_sends cX8_sends 5 none, Cond.fieldLink RX8 127 "UpwardGrantsModel" "tries" "I", Cond.fieldLink RX8 124 "UpwardGrantsModel" "back" "I", Cond.fieldLink RX8 156 "UpwardGrantsModel" "through" "I", Cond.methodLink RX8 153 yX8_isDeaf]
def wsX8_packs_r3 : List Cond := [Cond.instanceMethod yX8_isDeaf, Cond.selects RX8 yX8_isDeaf yX8_isDeaf, Cond.code yX8_isDeaf cX8_isDeaf 3 (some .boolean), Cond.methodLink RX8 182 yX8_clearsGone, Cond.instanceMethod yX8_clearsGone, Cond.selects RX8 yX8_clearsGone yX8_clearsGone, Cond.code yX8_clearsGone cX8_clearsGone 4 none]
def wsX8_packs : List Cond := .code yX8_packs cX8_packs 6 none :: ((wsX8_packs_r1 ++ (wsX8_packs_r2 ++ wsX8_packs_r3)) ++ wsX80)
def wsX8_asks : List Cond := .code yX8_asks cX8_asks 3 none :: ([.fieldLink RX8 22 "UpwardGrantsModel" "s" "[I", .fieldLink RX8 7 "UpwardGrantsModel" "period" "[I", .fieldLink RX8 121 "UpwardGrantsModel" "ban" "I", .methodLink RX8 139 yX8_ofTerminal, .static yX8_ofTerminal, .initialized RX8, .code yX8_ofTerminal cX8_ofTerminal 2 (some .int)] ++ wsX80)
def wsX8_sendsAgain_r1 : List Cond := [Cond.fieldLink RX8 22 "UpwardGrantsModel" "s" "[I", Cond.fieldLink RX8 57 "UpwardGrantsModel" "terminals" "I", Cond.methodLink RX8 146 yX8_ofBlock, Cond.static yX8_ofBlock, Cond.initialized RX8, Cond.code yX8_ofBlock cX8_ofBlock 2 (some .int), Cond.methodLink RX8 175 yX8_inBlock, Cond.instanceMethod yX8_inBlock, Cond.selects RX8 yX8_inBlock yX8_inBlock, Cond.code yX8_inBlock cX8_inBlock 2 (some .int), Cond.methodLink RX8 149 yX8_lettersIn, Cond.instanceMethod yX8_lettersIn, Cond.selects RX8 yX8_lettersIn yX8_lettersIn, Cond.code yX8_lettersIn cX8_lettersIn 4 (some .int), Cond.fieldLink RX8 64 "UpwardGrantsModel" "classes" "I", Cond.methodLink RX8 165 yX8_less, Cond.static yX8_less, Cond.code yX8_less cX8_less 2 (some .int), Cond.methodLink RX8 178 yX8_sends, Cond.instanceMethod yX8_sends, Cond.selects RX8 yX8_sends yX8_sends, Cond.code yX8_sends cX8_sends 5 none, Cond.fieldLink RX8 127 "UpwardGrantsModel" "tries" "I", Cond.fieldLink RX8 124 "UpwardGrantsModel" "back" "I"]
def wsX8_sendsAgain_r2 : List Cond := [Cond.fieldLink RX8 156 "UpwardGrantsModel" "through" "I", Cond.methodLink RX8 153 yX8_isDeaf, Cond.instanceMethod yX8_isDeaf, Cond.selects RX8 yX8_isDeaf yX8_isDeaf, Cond.code yX8_isDeaf cX8_isDeaf 3 (some .boolean), Cond.methodLink RX8 139 yX8_ofTerminal, Cond.static yX8_ofTerminal, Cond.code yX8_ofTerminal cX8_ofTerminal 2 (some .int), Cond.methodLink RX8 143 yX8_ofClass, Cond.static yX8_ofClass, Cond.code yX8_ofClass cX8_ofClass 2 (some .int), Cond.methodLink RX8 182 yX8_clearsGone, Cond.instanceMethod yX8_clearsGone, Cond.selects RX8 yX8_clearsGone yX8_clearsGone, Cond.code yX8_clearsGone cX8_clearsGone 4 none]
def wsX8_sendsAgain : List Cond := .code yX8_sendsAgain cX8_sendsAgain 4 (some .int) :: ((wsX8_sendsAgain_r1 ++ wsX8_sendsAgain_r2) ++ wsX80)
def wsX8_grants_r1 : List Cond := [Cond.fieldLink RX8 22 "UpwardGrantsModel" "s" "[I", Cond.fieldLink RX8 57 "UpwardGrantsModel" "terminals" "I", Cond.methodLink RX8 139 yX8_ofTerminal, Cond.static yX8_ofTerminal, Cond.initialized RX8, Cond.code yX8_ofTerminal cX8_ofTerminal 2 (some .int), Cond.methodLink RX8 165 yX8_less, Cond.static yX8_less, Cond.code yX8_less cX8_less 2 (some .int), Cond.methodLink RX8 185 yX8_packs, Cond.instanceMethod yX8_packs, Cond.selects RX8 yX8_packs yX8_packs, Cond.code yX8_packs cX8_packs 6 none, Cond.methodLink RX8 146 yX8_ofBlock, Cond.static yX8_ofBlock, Cond.code yX8_ofBlock cX8_ofBlock 2 (some .int), Cond.methodLink RX8 168 yX8_fills, Cond.instanceMethod yX8_fills, Cond.selects RX8 yX8_fills yX8_fills, Cond.code yX8_fills cX8_fills 9 (some .int), Cond.fieldLink RX8 64 "UpwardGrantsModel" "classes" "I", Cond.methodLink RX8 162 yX8_classAt, Cond.instanceMethod yX8_classAt, Cond.selects RX8 yX8_classAt yX8_classAt]
def wsX8_grants_r2 : List Cond := [Cond.code yX8_classAt cX8_classAt 6 (some .int), Cond.fieldLink RX8 13 "UpwardGrantsModel" "of" "[I", Cond.methodLink RX8 159 yX8_isAhead, Cond.instanceMethod yX8_isAhead, Cond.selects RX8 yX8_isAhead yX8_isAhead, Cond.code yX8_isAhead cX8_isAhead 3 (some .boolean), Cond.methodLink RX8 143 yX8_ofClass, Cond.static yX8_ofClass, Cond.code yX8_ofClass cX8_ofClass 2 (some .int), Cond.methodLink RX8 172 yX8_waitsOf, Cond.instanceMethod yX8_waitsOf, Cond.selects RX8 yX8_waitsOf yX8_waitsOf, Cond.code yX8_waitsOf cX8_waitsOf 4 (some .int), Cond.methodLink RX8 175 yX8_inBlock, Cond.instanceMethod yX8_inBlock, Cond.selects RX8 yX8_inBlock yX8_inBlock, Cond.code yX8_inBlock cX8_inBlock 2 (some .int), Cond.methodLink RX8 149 yX8_lettersIn, Cond.instanceMethod yX8_lettersIn, Cond.selects RX8 yX8_lettersIn yX8_lettersIn, Cond.code yX8_lettersIn cX8_lettersIn 4 (some .int), Cond.methodLink RX8 178 yX8_sends, Cond.instanceMethod yX8_sends, Cond.selects RX8 yX8_sends yX8_sends]
def wsX8_grants_r3 : List Cond := [Cond.code yX8_sends cX8_sends 5 none, Cond.fieldLink RX8 127 "UpwardGrantsModel" "tries" "I", Cond.fieldLink RX8 124 "UpwardGrantsModel" "back" "I", Cond.fieldLink RX8 156 "UpwardGrantsModel" "through" "I", Cond.methodLink RX8 153 yX8_isDeaf, Cond.instanceMethod yX8_isDeaf, Cond.selects RX8 yX8_isDeaf yX8_isDeaf, Cond.code yX8_isDeaf cX8_isDeaf 3 (some .boolean), Cond.methodLink RX8 182 yX8_clearsGone, Cond.instanceMethod yX8_clearsGone, Cond.selects RX8 yX8_clearsGone yX8_clearsGone, Cond.code yX8_clearsGone cX8_clearsGone 4 none]
def wsX8_grants : List Cond := .code yX8_grants cX8_grants 8 none :: ((wsX8_grants_r1 ++ (wsX8_grants_r2 ++ wsX8_grants_r3)) ++ wsX80)
def wsX8_step_r1 : List Cond := [Cond.fieldLink RX8 64 "UpwardGrantsModel" "classes" "I", Cond.fieldLink RX8 22 "UpwardGrantsModel" "s" "[I", Cond.fieldLink RX8 13 "UpwardGrantsModel" "of" "[I", Cond.fieldLink RX8 57 "UpwardGrantsModel" "terminals" "I", Cond.methodLink RX8 143 yX8_ofClass, Cond.static yX8_ofClass, Cond.initialized RX8, Cond.code yX8_ofClass cX8_ofClass 2 (some .int), Cond.methodLink RX8 165 yX8_less, Cond.static yX8_less, Cond.code yX8_less cX8_less 2 (some .int), Cond.methodLink RX8 189 yX8_asks, Cond.instanceMethod yX8_asks, Cond.selects RX8 yX8_asks yX8_asks, Cond.code yX8_asks cX8_asks 3 none, Cond.fieldLink RX8 7 "UpwardGrantsModel" "period" "[I", Cond.fieldLink RX8 121 "UpwardGrantsModel" "ban" "I", Cond.methodLink RX8 139 yX8_ofTerminal, Cond.static yX8_ofTerminal, Cond.code yX8_ofTerminal cX8_ofTerminal 2 (some .int), Cond.methodLink RX8 192 yX8_sendsAgain, Cond.instanceMethod yX8_sendsAgain, Cond.selects RX8 yX8_sendsAgain yX8_sendsAgain, Cond.code yX8_sendsAgain cX8_sendsAgain 4 (some .int)]
def wsX8_step_r2 : List Cond := [Cond.methodLink RX8 146 yX8_ofBlock, Cond.static yX8_ofBlock, Cond.code yX8_ofBlock cX8_ofBlock 2 (some .int), Cond.methodLink RX8 175 yX8_inBlock, Cond.instanceMethod yX8_inBlock, Cond.selects RX8 yX8_inBlock yX8_inBlock, Cond.code yX8_inBlock cX8_inBlock 2 (some .int), Cond.methodLink RX8 149 yX8_lettersIn, Cond.instanceMethod yX8_lettersIn, Cond.selects RX8 yX8_lettersIn yX8_lettersIn, Cond.code yX8_lettersIn cX8_lettersIn 4 (some .int), Cond.methodLink RX8 178 yX8_sends, Cond.instanceMethod yX8_sends, Cond.selects RX8 yX8_sends yX8_sends, Cond.code yX8_sends cX8_sends 5 none, Cond.fieldLink RX8 127 "UpwardGrantsModel" "tries" "I", Cond.fieldLink RX8 124 "UpwardGrantsModel" "back" "I", Cond.fieldLink RX8 156 "UpwardGrantsModel" "through" "I", Cond.methodLink RX8 153 yX8_isDeaf, Cond.instanceMethod yX8_isDeaf, Cond.selects RX8 yX8_isDeaf yX8_isDeaf, Cond.code yX8_isDeaf cX8_isDeaf 3 (some .boolean), Cond.methodLink RX8 182 yX8_clearsGone, Cond.instanceMethod yX8_clearsGone]
def wsX8_step_r3 : List Cond := [Cond.selects RX8 yX8_clearsGone yX8_clearsGone, Cond.code yX8_clearsGone cX8_clearsGone 4 none, Cond.methodLink RX8 196 yX8_grants, Cond.instanceMethod yX8_grants, Cond.selects RX8 yX8_grants yX8_grants, Cond.code yX8_grants cX8_grants 8 none, Cond.methodLink RX8 185 yX8_packs, Cond.instanceMethod yX8_packs, Cond.selects RX8 yX8_packs yX8_packs, Cond.code yX8_packs cX8_packs 6 none, Cond.methodLink RX8 168 yX8_fills, Cond.instanceMethod yX8_fills, Cond.selects RX8 yX8_fills yX8_fills, Cond.code yX8_fills cX8_fills 9 (some .int), Cond.methodLink RX8 162 yX8_classAt, Cond.instanceMethod yX8_classAt, Cond.selects RX8 yX8_classAt yX8_classAt, Cond.code yX8_classAt cX8_classAt 6 (some .int), Cond.methodLink RX8 159 yX8_isAhead, Cond.instanceMethod yX8_isAhead, Cond.selects RX8 yX8_isAhead yX8_isAhead, Cond.code yX8_isAhead cX8_isAhead 3 (some .boolean), Cond.methodLink RX8 172 yX8_waitsOf, Cond.instanceMethod yX8_waitsOf]
def wsX8_step_r4 : List Cond := [Cond.selects RX8 yX8_waitsOf yX8_waitsOf, Cond.code yX8_waitsOf cX8_waitsOf 4 (some .int)]
def wsX8_step : List Cond := .code yX8_step cX8_step 2 none :: ((wsX8_step_r1 ++ (wsX8_step_r2 ++ (wsX8_step_r3 ++ wsX8_step_r4))) ++ wsX80)
def wsX8_copies : List Cond := .code yX8_copies cX8_copies 6 none :: ([])
def wsX8_notes : List Cond := .code yX8_notes cX8_notes 2 none :: ([.fieldLink RX8 130 "UpwardGrantsModel" "undos" "I", .fieldLink RX8 25 "UpwardGrantsModel" "past" "[I", .fieldLink RX8 22 "UpwardGrantsModel" "s" "[I", .methodLink RX8 199 yX8_copies, .instanceMethod yX8_copies, .selects RX8 yX8_copies yX8_copies, .initialized RX8, .code yX8_copies cX8_copies 6 none] ++ wsX80)
def wsX8_comes_r1 : List Cond := [Cond.fieldLink RX8 53 "UpwardGrantsModel" "thrown" "I", Cond.fieldLink RX8 22 "UpwardGrantsModel" "s" "[I", Cond.fieldLink RX8 13 "UpwardGrantsModel" "of" "[I", Cond.fieldLink RX8 64 "UpwardGrantsModel" "classes" "I", Cond.methodLink RX8 203 yX8_isClass, Cond.instanceMethod yX8_isClass, Cond.selects RX8 yX8_isClass yX8_isClass, Cond.initialized RX8, Cond.code yX8_isClass cX8_isClass 2 (some .boolean), Cond.methodLink RX8 60 yX8_in, Cond.static yX8_in, Cond.code yX8_in cX8_in 3 (some .boolean), Cond.methodLink RX8 143 yX8_ofClass, Cond.static yX8_ofClass, Cond.code yX8_ofClass cX8_ofClass 2 (some .int), Cond.methodLink RX8 206 yX8_notes, Cond.instanceMethod yX8_notes, Cond.selects RX8 yX8_notes yX8_notes, Cond.code yX8_notes cX8_notes 2 none, Cond.fieldLink RX8 130 "UpwardGrantsModel" "undos" "I", Cond.fieldLink RX8 25 "UpwardGrantsModel" "past" "[I", Cond.methodLink RX8 199 yX8_copies, Cond.instanceMethod yX8_copies, Cond.selects RX8 yX8_copies yX8_copies]
def wsX8_comes_r2 : List Cond := [Cond.code yX8_copies cX8_copies 6 none, Cond.methodLink RX8 159 yX8_isAhead, Cond.instanceMethod yX8_isAhead, Cond.selects RX8 yX8_isAhead yX8_isAhead, Cond.code yX8_isAhead cX8_isAhead 3 (some .boolean), Cond.methodLink RX8 139 yX8_ofTerminal, Cond.static yX8_ofTerminal, Cond.code yX8_ofTerminal cX8_ofTerminal 2 (some .int)]
def wsX8_comes : List Cond := .code yX8_comes cX8_comes 6 (some .int) :: ((wsX8_comes_r1 ++ wsX8_comes_r2) ++ wsX80)
def wsX8_steps_r1 : List Cond := [Cond.fieldLink RX8 53 "UpwardGrantsModel" "thrown" "I", Cond.fieldLink RX8 22 "UpwardGrantsModel" "s" "[I", Cond.fieldLink RX8 156 "UpwardGrantsModel" "through" "I", Cond.methodLink RX8 60 yX8_in, Cond.static yX8_in, Cond.initialized RX8, Cond.code yX8_in cX8_in 3 (some .boolean), Cond.methodLink RX8 206 yX8_notes, Cond.instanceMethod yX8_notes, Cond.selects RX8 yX8_notes yX8_notes, Cond.code yX8_notes cX8_notes 2 none, Cond.fieldLink RX8 130 "UpwardGrantsModel" "undos" "I", Cond.fieldLink RX8 25 "UpwardGrantsModel" "past" "[I", Cond.methodLink RX8 199 yX8_copies, Cond.instanceMethod yX8_copies, Cond.selects RX8 yX8_copies yX8_copies, Cond.code yX8_copies cX8_copies 6 none, Cond.methodLink RX8 209 yX8_step, Cond.instanceMethod yX8_step, Cond.selects RX8 yX8_step yX8_step, Cond.code yX8_step cX8_step 2 none, Cond.fieldLink RX8 64 "UpwardGrantsModel" "classes" "I", Cond.fieldLink RX8 13 "UpwardGrantsModel" "of" "[I", Cond.fieldLink RX8 57 "UpwardGrantsModel" "terminals" "I"]
def wsX8_steps_r2 : List Cond := [Cond.methodLink RX8 143 yX8_ofClass, Cond.static yX8_ofClass, Cond.code yX8_ofClass cX8_ofClass 2 (some .int), Cond.methodLink RX8 165 yX8_less, Cond.static yX8_less, Cond.code yX8_less cX8_less 2 (some .int), Cond.methodLink RX8 189 yX8_asks, Cond.instanceMethod yX8_asks, Cond.selects RX8 yX8_asks yX8_asks, Cond.code yX8_asks cX8_asks 3 none, Cond.fieldLink RX8 7 "UpwardGrantsModel" "period" "[I", Cond.fieldLink RX8 121 "UpwardGrantsModel" "ban" "I", Cond.methodLink RX8 139 yX8_ofTerminal, Cond.static yX8_ofTerminal, Cond.code yX8_ofTerminal cX8_ofTerminal 2 (some .int), Cond.methodLink RX8 192 yX8_sendsAgain, Cond.instanceMethod yX8_sendsAgain, Cond.selects RX8 yX8_sendsAgain yX8_sendsAgain, Cond.code yX8_sendsAgain cX8_sendsAgain 4 (some .int), Cond.methodLink RX8 146 yX8_ofBlock, Cond.static yX8_ofBlock, Cond.code yX8_ofBlock cX8_ofBlock 2 (some .int), Cond.methodLink RX8 175 yX8_inBlock, Cond.instanceMethod yX8_inBlock]
def wsX8_steps_r3 : List Cond := [Cond.selects RX8 yX8_inBlock yX8_inBlock, Cond.code yX8_inBlock cX8_inBlock 2 (some .int), Cond.methodLink RX8 149 yX8_lettersIn, Cond.instanceMethod yX8_lettersIn, Cond.selects RX8 yX8_lettersIn yX8_lettersIn, Cond.code yX8_lettersIn cX8_lettersIn 4 (some .int), Cond.methodLink RX8 178 yX8_sends, Cond.instanceMethod yX8_sends, Cond.selects RX8 yX8_sends yX8_sends, Cond.code yX8_sends cX8_sends 5 none, Cond.fieldLink RX8 127 "UpwardGrantsModel" "tries" "I", Cond.fieldLink RX8 124 "UpwardGrantsModel" "back" "I", Cond.methodLink RX8 153 yX8_isDeaf, Cond.instanceMethod yX8_isDeaf, Cond.selects RX8 yX8_isDeaf yX8_isDeaf, Cond.code yX8_isDeaf cX8_isDeaf 3 (some .boolean), Cond.methodLink RX8 182 yX8_clearsGone, Cond.instanceMethod yX8_clearsGone, Cond.selects RX8 yX8_clearsGone yX8_clearsGone, Cond.code yX8_clearsGone cX8_clearsGone 4 none, Cond.methodLink RX8 196 yX8_grants, Cond.instanceMethod yX8_grants, Cond.selects RX8 yX8_grants yX8_grants, Cond.code yX8_grants cX8_grants 8 none]
def wsX8_steps_r4 : List Cond := [Cond.methodLink RX8 185 yX8_packs, Cond.instanceMethod yX8_packs, Cond.selects RX8 yX8_packs yX8_packs, Cond.code yX8_packs cX8_packs 6 none, Cond.methodLink RX8 168 yX8_fills, Cond.instanceMethod yX8_fills, Cond.selects RX8 yX8_fills yX8_fills, Cond.code yX8_fills cX8_fills 9 (some .int), Cond.methodLink RX8 162 yX8_classAt, Cond.instanceMethod yX8_classAt, Cond.selects RX8 yX8_classAt yX8_classAt, Cond.code yX8_classAt cX8_classAt 6 (some .int), Cond.methodLink RX8 159 yX8_isAhead, Cond.instanceMethod yX8_isAhead, Cond.selects RX8 yX8_isAhead yX8_isAhead, Cond.code yX8_isAhead cX8_isAhead 3 (some .boolean), Cond.methodLink RX8 172 yX8_waitsOf, Cond.instanceMethod yX8_waitsOf, Cond.selects RX8 yX8_waitsOf yX8_waitsOf, Cond.code yX8_waitsOf cX8_waitsOf 4 (some .int)]
def wsX8_steps : List Cond := .code yX8_steps cX8_steps 3 (some .int) :: ((wsX8_steps_r1 ++ (wsX8_steps_r2 ++ (wsX8_steps_r3 ++ wsX8_steps_r4))) ++ wsX80)
def wsX8_deafen : List Cond := .code yX8_deafen cX8_deafen 6 (some .int) :: ([.fieldLink RX8 22 "UpwardGrantsModel" "s" "[I", .methodLink RX8 153 yX8_isDeaf, .instanceMethod yX8_isDeaf, .selects RX8 yX8_isDeaf yX8_isDeaf, .initialized RX8, .code yX8_isDeaf cX8_isDeaf 3 (some .boolean), .methodLink RX8 139 yX8_ofTerminal, .static yX8_ofTerminal, .code yX8_ofTerminal cX8_ofTerminal 2 (some .int)] ++ wsX80)
def wsX8_deafens_r1 : List Cond := [Cond.fieldLink RX8 53 "UpwardGrantsModel" "thrown" "I", Cond.fieldLink RX8 22 "UpwardGrantsModel" "s" "[I", Cond.methodLink RX8 212 yX8_isTerminal, Cond.instanceMethod yX8_isTerminal, Cond.selects RX8 yX8_isTerminal yX8_isTerminal, Cond.initialized RX8, Cond.code yX8_isTerminal cX8_isTerminal 2 (some .boolean), Cond.fieldLink RX8 57 "UpwardGrantsModel" "terminals" "I", Cond.methodLink RX8 60 yX8_in, Cond.static yX8_in, Cond.code yX8_in cX8_in 3 (some .boolean), Cond.methodLink RX8 206 yX8_notes, Cond.instanceMethod yX8_notes, Cond.selects RX8 yX8_notes yX8_notes, Cond.code yX8_notes cX8_notes 2 none, Cond.fieldLink RX8 130 "UpwardGrantsModel" "undos" "I", Cond.fieldLink RX8 25 "UpwardGrantsModel" "past" "[I", Cond.methodLink RX8 199 yX8_copies, Cond.instanceMethod yX8_copies, Cond.selects RX8 yX8_copies yX8_copies, Cond.code yX8_copies cX8_copies 6 none, Cond.methodLink RX8 215 yX8_deafen, Cond.instanceMethod yX8_deafen, Cond.selects RX8 yX8_deafen yX8_deafen]
def wsX8_deafens_r2 : List Cond := [Cond.code yX8_deafen cX8_deafen 6 (some .int), Cond.methodLink RX8 153 yX8_isDeaf, Cond.instanceMethod yX8_isDeaf, Cond.selects RX8 yX8_isDeaf yX8_isDeaf, Cond.code yX8_isDeaf cX8_isDeaf 3 (some .boolean), Cond.methodLink RX8 139 yX8_ofTerminal, Cond.static yX8_ofTerminal, Cond.code yX8_ofTerminal cX8_ofTerminal 2 (some .int)]
def wsX8_deafens : List Cond := .code yX8_deafens cX8_deafens 4 (some .int) :: ((wsX8_deafens_r1 ++ wsX8_deafens_r2) ++ wsX80)
def wsX8_widens : List Cond := .code yX8_widens cX8_widens 3 (some .int) :: ([.fieldLink RX8 53 "UpwardGrantsModel" "thrown" "I", .fieldLink RX8 22 "UpwardGrantsModel" "s" "[I", .methodLink RX8 60 yX8_in, .static yX8_in, .initialized RX8, .code yX8_in cX8_in 3 (some .boolean), .methodLink RX8 206 yX8_notes, .instanceMethod yX8_notes, .selects RX8 yX8_notes yX8_notes, .code yX8_notes cX8_notes 2 none, .fieldLink RX8 130 "UpwardGrantsModel" "undos" "I", .fieldLink RX8 25 "UpwardGrantsModel" "past" "[I", .methodLink RX8 199 yX8_copies, .instanceMethod yX8_copies, .selects RX8 yX8_copies yX8_copies, .code yX8_copies cX8_copies 6 none] ++ wsX80)
def wsX8_undo : List Cond := .code yX8_undo cX8_undo 1 (some .int) :: ([.fieldLink RX8 53 "UpwardGrantsModel" "thrown" "I", .fieldLink RX8 130 "UpwardGrantsModel" "undos" "I", .fieldLink RX8 25 "UpwardGrantsModel" "past" "[I", .fieldLink RX8 22 "UpwardGrantsModel" "s" "[I", .methodLink RX8 199 yX8_copies, .instanceMethod yX8_copies, .selects RX8 yX8_copies yX8_copies, .initialized RX8, .code yX8_copies cX8_copies 6 none] ++ wsX80)
def wsX8_sort : List Cond := .code yX8_sort cX8_sort 5 (some .int) :: ([.fieldLink RX8 53 "UpwardGrantsModel" "thrown" "I", .fieldLink RX8 13 "UpwardGrantsModel" "of" "[I", .fieldLink RX8 22 "UpwardGrantsModel" "s" "[I", .methodLink RX8 203 yX8_isClass, .instanceMethod yX8_isClass, .selects RX8 yX8_isClass yX8_isClass, .initialized RX8, .code yX8_isClass cX8_isClass 2 (some .boolean), .fieldLink RX8 64 "UpwardGrantsModel" "classes" "I", .methodLink RX8 60 yX8_in, .static yX8_in, .code yX8_in cX8_in 3 (some .boolean), .methodLink RX8 143 yX8_ofClass, .static yX8_ofClass, .code yX8_ofClass cX8_ofClass 2 (some .int), .methodLink RX8 146 yX8_ofBlock, .static yX8_ofBlock, .code yX8_ofBlock cX8_ofBlock 2 (some .int)] ++ wsX80)
def wsX8_blocksOf : List Cond := .code yX8_blocksOf cX8_blocksOf 4 (some .int) :: ([.fieldLink RX8 22 "UpwardGrantsModel" "s" "[I", .methodLink RX8 146 yX8_ofBlock, .static yX8_ofBlock, .initialized RX8, .code yX8_ofBlock cX8_ofBlock 2 (some .int)] ++ wsX80)
def wsX8_terminal_r1 : List Cond := [Cond.fieldLink RX8 53 "UpwardGrantsModel" "thrown" "I", Cond.fieldLink RX8 7 "UpwardGrantsModel" "period" "[I", Cond.fieldLink RX8 22 "UpwardGrantsModel" "s" "[I", Cond.methodLink RX8 212 yX8_isTerminal, Cond.instanceMethod yX8_isTerminal, Cond.selects RX8 yX8_isTerminal yX8_isTerminal, Cond.initialized RX8, Cond.code yX8_isTerminal cX8_isTerminal 2 (some .boolean), Cond.fieldLink RX8 57 "UpwardGrantsModel" "terminals" "I", Cond.methodLink RX8 60 yX8_in, Cond.static yX8_in, Cond.code yX8_in cX8_in 3 (some .boolean), Cond.methodLink RX8 139 yX8_ofTerminal, Cond.static yX8_ofTerminal, Cond.code yX8_ofTerminal cX8_ofTerminal 2 (some .int), Cond.methodLink RX8 172 yX8_waitsOf, Cond.instanceMethod yX8_waitsOf, Cond.selects RX8 yX8_waitsOf yX8_waitsOf, Cond.code yX8_waitsOf cX8_waitsOf 4 (some .int), Cond.fieldLink RX8 64 "UpwardGrantsModel" "classes" "I", Cond.fieldLink RX8 13 "UpwardGrantsModel" "of" "[I", Cond.methodLink RX8 143 yX8_ofClass, Cond.static yX8_ofClass, Cond.code yX8_ofClass cX8_ofClass 2 (some .int)]
def wsX8_terminal_r2 : List Cond := [Cond.methodLink RX8 219 yX8_blocksOf, Cond.instanceMethod yX8_blocksOf, Cond.selects RX8 yX8_blocksOf yX8_blocksOf, Cond.code yX8_blocksOf cX8_blocksOf 4 (some .int), Cond.methodLink RX8 146 yX8_ofBlock, Cond.static yX8_ofBlock, Cond.code yX8_ofBlock cX8_ofBlock 2 (some .int)]
def wsX8_terminal : List Cond := .code yX8_terminal cX8_terminal 3 (some .int) :: ((wsX8_terminal_r1 ++ wsX8_terminal_r2) ++ wsX80)
def wsX8_isSooner : List Cond := .code yX8_isSooner cX8_isSooner 5 (some .boolean) :: ([.fieldLink RX8 22 "UpwardGrantsModel" "s" "[I", .methodLink RX8 146 yX8_ofBlock, .static yX8_ofBlock, .initialized RX8, .code yX8_ofBlock cX8_ofBlock 2 (some .int)] ++ wsX80)
def wsX8_block : List Cond := .code yX8_block cX8_block 6 (some .int) :: ([.fieldLink RX8 53 "UpwardGrantsModel" "thrown" "I", .fieldLink RX8 22 "UpwardGrantsModel" "s" "[I", .methodLink RX8 60 yX8_in, .static yX8_in, .initialized RX8, .code yX8_in cX8_in 3 (some .boolean), .methodLink RX8 222 yX8_isSooner, .instanceMethod yX8_isSooner, .selects RX8 yX8_isSooner yX8_isSooner, .code yX8_isSooner cX8_isSooner 5 (some .boolean), .methodLink RX8 146 yX8_ofBlock, .static yX8_ofBlock, .code yX8_ofBlock cX8_ofBlock 2 (some .int), .methodLink RX8 175 yX8_inBlock, .instanceMethod yX8_inBlock, .selects RX8 yX8_inBlock yX8_inBlock, .code yX8_inBlock cX8_inBlock 2 (some .int), .methodLink RX8 149 yX8_lettersIn, .instanceMethod yX8_lettersIn, .selects RX8 yX8_lettersIn yX8_lettersIn, .code yX8_lettersIn cX8_lettersIn 4 (some .int), .fieldLink RX8 64 "UpwardGrantsModel" "classes" "I"] ++ wsX80)
def wsX8_deaf : List Cond := .code yX8_deaf cX8_deaf 3 (some .int) :: ([.fieldLink RX8 53 "UpwardGrantsModel" "thrown" "I", .methodLink RX8 212 yX8_isTerminal, .instanceMethod yX8_isTerminal, .selects RX8 yX8_isTerminal yX8_isTerminal, .initialized RX8, .code yX8_isTerminal cX8_isTerminal 2 (some .boolean), .fieldLink RX8 57 "UpwardGrantsModel" "terminals" "I", .methodLink RX8 60 yX8_in, .static yX8_in, .code yX8_in cX8_in 3 (some .boolean), .methodLink RX8 153 yX8_isDeaf, .instanceMethod yX8_isDeaf, .selects RX8 yX8_isDeaf yX8_isDeaf, .code yX8_isDeaf cX8_isDeaf 3 (some .boolean), .fieldLink RX8 22 "UpwardGrantsModel" "s" "[I", .methodLink RX8 139 yX8_ofTerminal, .static yX8_ofTerminal, .code yX8_ofTerminal cX8_ofTerminal 2 (some .int)] ++ wsX80)
def wsX8_isDrained : List Cond := .code yX8_isDrained cX8_isDrained 3 (some .boolean) :: ([.fieldLink RX8 22 "UpwardGrantsModel" "s" "[I", .fieldLink RX8 64 "UpwardGrantsModel" "classes" "I", .methodLink RX8 143 yX8_ofClass, .static yX8_ofClass, .initialized RX8, .code yX8_ofClass cX8_ofClass 2 (some .int)] ++ wsX80)
def wsX8_drains_r1 : List Cond := [Cond.methodLink RX8 225 yX8_isDrained, Cond.instanceMethod yX8_isDrained, Cond.selects RX8 yX8_isDrained yX8_isDrained, Cond.initialized RX8, Cond.code yX8_isDrained cX8_isDrained 3 (some .boolean), Cond.fieldLink RX8 22 "UpwardGrantsModel" "s" "[I", Cond.fieldLink RX8 64 "UpwardGrantsModel" "classes" "I", Cond.methodLink RX8 143 yX8_ofClass, Cond.static yX8_ofClass, Cond.code yX8_ofClass cX8_ofClass 2 (some .int), Cond.methodLink RX8 209 yX8_step, Cond.instanceMethod yX8_step, Cond.selects RX8 yX8_step yX8_step, Cond.code yX8_step cX8_step 2 none, Cond.fieldLink RX8 13 "UpwardGrantsModel" "of" "[I", Cond.fieldLink RX8 57 "UpwardGrantsModel" "terminals" "I", Cond.methodLink RX8 165 yX8_less, Cond.static yX8_less, Cond.code yX8_less cX8_less 2 (some .int), Cond.methodLink RX8 189 yX8_asks, Cond.instanceMethod yX8_asks, Cond.selects RX8 yX8_asks yX8_asks, Cond.code yX8_asks cX8_asks 3 none, Cond.fieldLink RX8 7 "UpwardGrantsModel" "period" "[I"]
def wsX8_drains_r2 : List Cond := [Cond.fieldLink RX8 121 "UpwardGrantsModel" "ban" "I", Cond.methodLink RX8 139 yX8_ofTerminal, Cond.static yX8_ofTerminal, Cond.code yX8_ofTerminal cX8_ofTerminal 2 (some .int), Cond.methodLink RX8 192 yX8_sendsAgain, Cond.instanceMethod yX8_sendsAgain, Cond.selects RX8 yX8_sendsAgain yX8_sendsAgain, Cond.code yX8_sendsAgain cX8_sendsAgain 4 (some .int), Cond.methodLink RX8 146 yX8_ofBlock, Cond.static yX8_ofBlock, Cond.code yX8_ofBlock cX8_ofBlock 2 (some .int), Cond.methodLink RX8 175 yX8_inBlock, Cond.instanceMethod yX8_inBlock, Cond.selects RX8 yX8_inBlock yX8_inBlock, Cond.code yX8_inBlock cX8_inBlock 2 (some .int), Cond.methodLink RX8 149 yX8_lettersIn, Cond.instanceMethod yX8_lettersIn, Cond.selects RX8 yX8_lettersIn yX8_lettersIn, Cond.code yX8_lettersIn cX8_lettersIn 4 (some .int), Cond.methodLink RX8 178 yX8_sends, Cond.instanceMethod yX8_sends, Cond.selects RX8 yX8_sends yX8_sends, Cond.code yX8_sends cX8_sends 5 none, Cond.fieldLink RX8 127 "UpwardGrantsModel" "tries" "I"]
def wsX8_drains_r3 : List Cond := [Cond.fieldLink RX8 124 "UpwardGrantsModel" "back" "I", Cond.fieldLink RX8 156 "UpwardGrantsModel" "through" "I", Cond.methodLink RX8 153 yX8_isDeaf, Cond.instanceMethod yX8_isDeaf, Cond.selects RX8 yX8_isDeaf yX8_isDeaf, Cond.code yX8_isDeaf cX8_isDeaf 3 (some .boolean), Cond.methodLink RX8 182 yX8_clearsGone, Cond.instanceMethod yX8_clearsGone, Cond.selects RX8 yX8_clearsGone yX8_clearsGone, Cond.code yX8_clearsGone cX8_clearsGone 4 none, Cond.methodLink RX8 196 yX8_grants, Cond.instanceMethod yX8_grants, Cond.selects RX8 yX8_grants yX8_grants, Cond.code yX8_grants cX8_grants 8 none, Cond.methodLink RX8 185 yX8_packs, Cond.instanceMethod yX8_packs, Cond.selects RX8 yX8_packs yX8_packs, Cond.code yX8_packs cX8_packs 6 none, Cond.methodLink RX8 168 yX8_fills, Cond.instanceMethod yX8_fills, Cond.selects RX8 yX8_fills yX8_fills, Cond.code yX8_fills cX8_fills 9 (some .int), Cond.methodLink RX8 162 yX8_classAt, Cond.instanceMethod yX8_classAt]
def wsX8_drains_r4 : List Cond := [Cond.selects RX8 yX8_classAt yX8_classAt, Cond.code yX8_classAt cX8_classAt 6 (some .int), Cond.methodLink RX8 159 yX8_isAhead, Cond.instanceMethod yX8_isAhead, Cond.selects RX8 yX8_isAhead yX8_isAhead, Cond.code yX8_isAhead cX8_isAhead 3 (some .boolean), Cond.methodLink RX8 172 yX8_waitsOf, Cond.instanceMethod yX8_waitsOf, Cond.selects RX8 yX8_waitsOf yX8_waitsOf, Cond.code yX8_waitsOf cX8_waitsOf 4 (some .int)]
def wsX8_drains : List Cond := .code yX8_drains cX8_drains 3 (some .int) :: ((wsX8_drains_r1 ++ (wsX8_drains_r2 ++ (wsX8_drains_r3 ++ wsX8_drains_r4))) ++ wsX80)
def wsX8_drain_r1 : List Cond := [Cond.fieldLink RX8 53 "UpwardGrantsModel" "thrown" "I", Cond.fieldLink RX8 22 "UpwardGrantsModel" "s" "[I", Cond.fieldLink RX8 35 "UpwardGrantsModel" "aside" "[I", Cond.methodLink RX8 199 yX8_copies, Cond.instanceMethod yX8_copies, Cond.selects RX8 yX8_copies yX8_copies, Cond.initialized RX8, Cond.code yX8_copies cX8_copies 6 none, Cond.methodLink RX8 228 yX8_drains, Cond.instanceMethod yX8_drains, Cond.selects RX8 yX8_drains yX8_drains, Cond.code yX8_drains cX8_drains 3 (some .int), Cond.methodLink RX8 225 yX8_isDrained, Cond.instanceMethod yX8_isDrained, Cond.selects RX8 yX8_isDrained yX8_isDrained, Cond.code yX8_isDrained cX8_isDrained 3 (some .boolean), Cond.fieldLink RX8 64 "UpwardGrantsModel" "classes" "I", Cond.methodLink RX8 143 yX8_ofClass, Cond.static yX8_ofClass, Cond.code yX8_ofClass cX8_ofClass 2 (some .int), Cond.methodLink RX8 209 yX8_step, Cond.instanceMethod yX8_step, Cond.selects RX8 yX8_step yX8_step, Cond.code yX8_step cX8_step 2 none]
def wsX8_drain_r2 : List Cond := [Cond.fieldLink RX8 13 "UpwardGrantsModel" "of" "[I", Cond.fieldLink RX8 57 "UpwardGrantsModel" "terminals" "I", Cond.methodLink RX8 165 yX8_less, Cond.static yX8_less, Cond.code yX8_less cX8_less 2 (some .int), Cond.methodLink RX8 189 yX8_asks, Cond.instanceMethod yX8_asks, Cond.selects RX8 yX8_asks yX8_asks, Cond.code yX8_asks cX8_asks 3 none, Cond.fieldLink RX8 7 "UpwardGrantsModel" "period" "[I", Cond.fieldLink RX8 121 "UpwardGrantsModel" "ban" "I", Cond.methodLink RX8 139 yX8_ofTerminal, Cond.static yX8_ofTerminal, Cond.code yX8_ofTerminal cX8_ofTerminal 2 (some .int), Cond.methodLink RX8 192 yX8_sendsAgain, Cond.instanceMethod yX8_sendsAgain, Cond.selects RX8 yX8_sendsAgain yX8_sendsAgain, Cond.code yX8_sendsAgain cX8_sendsAgain 4 (some .int), Cond.methodLink RX8 146 yX8_ofBlock, Cond.static yX8_ofBlock, Cond.code yX8_ofBlock cX8_ofBlock 2 (some .int), Cond.methodLink RX8 175 yX8_inBlock, Cond.instanceMethod yX8_inBlock, Cond.selects RX8 yX8_inBlock yX8_inBlock]
def wsX8_drain_r3 : List Cond := [Cond.code yX8_inBlock cX8_inBlock 2 (some .int), Cond.methodLink RX8 149 yX8_lettersIn, Cond.instanceMethod yX8_lettersIn, Cond.selects RX8 yX8_lettersIn yX8_lettersIn, Cond.code yX8_lettersIn cX8_lettersIn 4 (some .int), Cond.methodLink RX8 178 yX8_sends, Cond.instanceMethod yX8_sends, Cond.selects RX8 yX8_sends yX8_sends, Cond.code yX8_sends cX8_sends 5 none, Cond.fieldLink RX8 127 "UpwardGrantsModel" "tries" "I", Cond.fieldLink RX8 124 "UpwardGrantsModel" "back" "I", Cond.fieldLink RX8 156 "UpwardGrantsModel" "through" "I", Cond.methodLink RX8 153 yX8_isDeaf, Cond.instanceMethod yX8_isDeaf, Cond.selects RX8 yX8_isDeaf yX8_isDeaf, Cond.code yX8_isDeaf cX8_isDeaf 3 (some .boolean), Cond.methodLink RX8 182 yX8_clearsGone, Cond.instanceMethod yX8_clearsGone, Cond.selects RX8 yX8_clearsGone yX8_clearsGone, Cond.code yX8_clearsGone cX8_clearsGone 4 none, Cond.methodLink RX8 196 yX8_grants, Cond.instanceMethod yX8_grants, Cond.selects RX8 yX8_grants yX8_grants, Cond.code yX8_grants cX8_grants 8 none]
def wsX8_drain_r4 : List Cond := [Cond.methodLink RX8 185 yX8_packs, Cond.instanceMethod yX8_packs, Cond.selects RX8 yX8_packs yX8_packs, Cond.code yX8_packs cX8_packs 6 none, Cond.methodLink RX8 168 yX8_fills, Cond.instanceMethod yX8_fills, Cond.selects RX8 yX8_fills yX8_fills, Cond.code yX8_fills cX8_fills 9 (some .int), Cond.methodLink RX8 162 yX8_classAt, Cond.instanceMethod yX8_classAt, Cond.selects RX8 yX8_classAt yX8_classAt, Cond.code yX8_classAt cX8_classAt 6 (some .int), Cond.methodLink RX8 159 yX8_isAhead, Cond.instanceMethod yX8_isAhead, Cond.selects RX8 yX8_isAhead yX8_isAhead, Cond.code yX8_isAhead cX8_isAhead 3 (some .boolean), Cond.methodLink RX8 172 yX8_waitsOf, Cond.instanceMethod yX8_waitsOf, Cond.selects RX8 yX8_waitsOf yX8_waitsOf, Cond.code yX8_waitsOf cX8_waitsOf 4 (some .int)]
def wsX8_drain : List Cond := .code yX8_drain cX8_drain 2 (some .int) :: ((wsX8_drain_r1 ++ (wsX8_drain_r2 ++ (wsX8_drain_r3 ++ wsX8_drain_r4))) ++ wsX80)
def wsX8_enough_r1 : List Cond := [Cond.fieldLink RX8 53 "UpwardGrantsModel" "thrown" "I", Cond.fieldLink RX8 22 "UpwardGrantsModel" "s" "[I", Cond.fieldLink RX8 35 "UpwardGrantsModel" "aside" "[I", Cond.methodLink RX8 60 yX8_in, Cond.static yX8_in, Cond.initialized RX8, Cond.code yX8_in cX8_in 3 (some .boolean), Cond.methodLink RX8 199 yX8_copies, Cond.instanceMethod yX8_copies, Cond.selects RX8 yX8_copies yX8_copies, Cond.code yX8_copies cX8_copies 6 none, Cond.methodLink RX8 228 yX8_drains, Cond.instanceMethod yX8_drains, Cond.selects RX8 yX8_drains yX8_drains, Cond.code yX8_drains cX8_drains 3 (some .int), Cond.methodLink RX8 225 yX8_isDrained, Cond.instanceMethod yX8_isDrained, Cond.selects RX8 yX8_isDrained yX8_isDrained, Cond.code yX8_isDrained cX8_isDrained 3 (some .boolean), Cond.fieldLink RX8 64 "UpwardGrantsModel" "classes" "I", Cond.methodLink RX8 143 yX8_ofClass, Cond.static yX8_ofClass, Cond.code yX8_ofClass cX8_ofClass 2 (some .int), Cond.methodLink RX8 209 yX8_step]
def wsX8_enough_r2 : List Cond := [Cond.instanceMethod yX8_step, Cond.selects RX8 yX8_step yX8_step, Cond.code yX8_step cX8_step 2 none, Cond.fieldLink RX8 13 "UpwardGrantsModel" "of" "[I", Cond.fieldLink RX8 57 "UpwardGrantsModel" "terminals" "I", Cond.methodLink RX8 165 yX8_less, Cond.static yX8_less, Cond.code yX8_less cX8_less 2 (some .int), Cond.methodLink RX8 189 yX8_asks, Cond.instanceMethod yX8_asks, Cond.selects RX8 yX8_asks yX8_asks, Cond.code yX8_asks cX8_asks 3 none, Cond.fieldLink RX8 7 "UpwardGrantsModel" "period" "[I", Cond.fieldLink RX8 121 "UpwardGrantsModel" "ban" "I", Cond.methodLink RX8 139 yX8_ofTerminal, Cond.static yX8_ofTerminal, Cond.code yX8_ofTerminal cX8_ofTerminal 2 (some .int), Cond.methodLink RX8 192 yX8_sendsAgain, Cond.instanceMethod yX8_sendsAgain, Cond.selects RX8 yX8_sendsAgain yX8_sendsAgain, Cond.code yX8_sendsAgain cX8_sendsAgain 4 (some .int), Cond.methodLink RX8 146 yX8_ofBlock, Cond.static yX8_ofBlock, Cond.code yX8_ofBlock cX8_ofBlock 2 (some .int)]
def wsX8_enough_r3 : List Cond := [Cond.methodLink RX8 175 yX8_inBlock, Cond.instanceMethod yX8_inBlock, Cond.selects RX8 yX8_inBlock yX8_inBlock, Cond.code yX8_inBlock cX8_inBlock 2 (some .int), Cond.methodLink RX8 149 yX8_lettersIn, Cond.instanceMethod yX8_lettersIn, Cond.selects RX8 yX8_lettersIn yX8_lettersIn, Cond.code yX8_lettersIn cX8_lettersIn 4 (some .int), Cond.methodLink RX8 178 yX8_sends, Cond.instanceMethod yX8_sends, Cond.selects RX8 yX8_sends yX8_sends, Cond.code yX8_sends cX8_sends 5 none, Cond.fieldLink RX8 127 "UpwardGrantsModel" "tries" "I", Cond.fieldLink RX8 124 "UpwardGrantsModel" "back" "I", Cond.fieldLink RX8 156 "UpwardGrantsModel" "through" "I", Cond.methodLink RX8 153 yX8_isDeaf, Cond.instanceMethod yX8_isDeaf, Cond.selects RX8 yX8_isDeaf yX8_isDeaf, Cond.code yX8_isDeaf cX8_isDeaf 3 (some .boolean), Cond.methodLink RX8 182 yX8_clearsGone, Cond.instanceMethod yX8_clearsGone, Cond.selects RX8 yX8_clearsGone yX8_clearsGone, Cond.code yX8_clearsGone cX8_clearsGone 4 none, Cond.methodLink RX8 196 yX8_grants]
def wsX8_enough_r4 : List Cond := [Cond.instanceMethod yX8_grants, Cond.selects RX8 yX8_grants yX8_grants, Cond.code yX8_grants cX8_grants 8 none, Cond.methodLink RX8 185 yX8_packs, Cond.instanceMethod yX8_packs, Cond.selects RX8 yX8_packs yX8_packs, Cond.code yX8_packs cX8_packs 6 none, Cond.methodLink RX8 168 yX8_fills, Cond.instanceMethod yX8_fills, Cond.selects RX8 yX8_fills yX8_fills, Cond.code yX8_fills cX8_fills 9 (some .int), Cond.methodLink RX8 162 yX8_classAt, Cond.instanceMethod yX8_classAt, Cond.selects RX8 yX8_classAt yX8_classAt, Cond.code yX8_classAt cX8_classAt 6 (some .int), Cond.methodLink RX8 159 yX8_isAhead, Cond.instanceMethod yX8_isAhead, Cond.selects RX8 yX8_isAhead yX8_isAhead, Cond.code yX8_isAhead cX8_isAhead 3 (some .boolean), Cond.methodLink RX8 172 yX8_waitsOf, Cond.instanceMethod yX8_waitsOf, Cond.selects RX8 yX8_waitsOf yX8_waitsOf, Cond.code yX8_waitsOf cX8_waitsOf 4 (some .int)]
def wsX8_enough : List Cond := .code yX8_enough cX8_enough 4 (some .int) :: ((wsX8_enough_r1 ++ (wsX8_enough_r2 ++ (wsX8_enough_r3 ++ wsX8_enough_r4))) ++ wsX80)
def wsX8_ahead_r1 : List Cond := [Cond.fieldLink RX8 53 "UpwardGrantsModel" "thrown" "I", Cond.fieldLink RX8 22 "UpwardGrantsModel" "s" "[I", Cond.fieldLink RX8 35 "UpwardGrantsModel" "aside" "[I", Cond.methodLink RX8 203 yX8_isClass, Cond.instanceMethod yX8_isClass, Cond.selects RX8 yX8_isClass yX8_isClass, Cond.initialized RX8, Cond.code yX8_isClass cX8_isClass 2 (some .boolean), Cond.fieldLink RX8 64 "UpwardGrantsModel" "classes" "I", Cond.methodLink RX8 60 yX8_in, Cond.static yX8_in, Cond.code yX8_in cX8_in 3 (some .boolean), Cond.methodLink RX8 199 yX8_copies, Cond.instanceMethod yX8_copies, Cond.selects RX8 yX8_copies yX8_copies, Cond.code yX8_copies cX8_copies 6 none, Cond.methodLink RX8 209 yX8_step, Cond.instanceMethod yX8_step, Cond.selects RX8 yX8_step yX8_step, Cond.code yX8_step cX8_step 2 none, Cond.fieldLink RX8 13 "UpwardGrantsModel" "of" "[I", Cond.fieldLink RX8 57 "UpwardGrantsModel" "terminals" "I", Cond.methodLink RX8 143 yX8_ofClass, Cond.static yX8_ofClass]
def wsX8_ahead_r2 : List Cond := [Cond.code yX8_ofClass cX8_ofClass 2 (some .int), Cond.methodLink RX8 165 yX8_less, Cond.static yX8_less, Cond.code yX8_less cX8_less 2 (some .int), Cond.methodLink RX8 189 yX8_asks, Cond.instanceMethod yX8_asks, Cond.selects RX8 yX8_asks yX8_asks, Cond.code yX8_asks cX8_asks 3 none, Cond.fieldLink RX8 7 "UpwardGrantsModel" "period" "[I", Cond.fieldLink RX8 121 "UpwardGrantsModel" "ban" "I", Cond.methodLink RX8 139 yX8_ofTerminal, Cond.static yX8_ofTerminal, Cond.code yX8_ofTerminal cX8_ofTerminal 2 (some .int), Cond.methodLink RX8 192 yX8_sendsAgain, Cond.instanceMethod yX8_sendsAgain, Cond.selects RX8 yX8_sendsAgain yX8_sendsAgain, Cond.code yX8_sendsAgain cX8_sendsAgain 4 (some .int), Cond.methodLink RX8 146 yX8_ofBlock, Cond.static yX8_ofBlock, Cond.code yX8_ofBlock cX8_ofBlock 2 (some .int), Cond.methodLink RX8 175 yX8_inBlock, Cond.instanceMethod yX8_inBlock, Cond.selects RX8 yX8_inBlock yX8_inBlock, Cond.code yX8_inBlock cX8_inBlock 2 (some .int)]
def wsX8_ahead_r3 : List Cond := [Cond.methodLink RX8 149 yX8_lettersIn, Cond.instanceMethod yX8_lettersIn, Cond.selects RX8 yX8_lettersIn yX8_lettersIn, Cond.code yX8_lettersIn cX8_lettersIn 4 (some .int), Cond.methodLink RX8 178 yX8_sends, Cond.instanceMethod yX8_sends, Cond.selects RX8 yX8_sends yX8_sends, Cond.code yX8_sends cX8_sends 5 none, Cond.fieldLink RX8 127 "UpwardGrantsModel" "tries" "I", Cond.fieldLink RX8 124 "UpwardGrantsModel" "back" "I", Cond.fieldLink RX8 156 "UpwardGrantsModel" "through" "I", Cond.methodLink RX8 153 yX8_isDeaf, Cond.instanceMethod yX8_isDeaf, Cond.selects RX8 yX8_isDeaf yX8_isDeaf, Cond.code yX8_isDeaf cX8_isDeaf 3 (some .boolean), Cond.methodLink RX8 182 yX8_clearsGone, Cond.instanceMethod yX8_clearsGone, Cond.selects RX8 yX8_clearsGone yX8_clearsGone, Cond.code yX8_clearsGone cX8_clearsGone 4 none, Cond.methodLink RX8 196 yX8_grants, Cond.instanceMethod yX8_grants, Cond.selects RX8 yX8_grants yX8_grants, Cond.code yX8_grants cX8_grants 8 none, Cond.methodLink RX8 185 yX8_packs]
def wsX8_ahead_r4 : List Cond := [Cond.instanceMethod yX8_packs, Cond.selects RX8 yX8_packs yX8_packs, Cond.code yX8_packs cX8_packs 6 none, Cond.methodLink RX8 168 yX8_fills, Cond.instanceMethod yX8_fills, Cond.selects RX8 yX8_fills yX8_fills, Cond.code yX8_fills cX8_fills 9 (some .int), Cond.methodLink RX8 162 yX8_classAt, Cond.instanceMethod yX8_classAt, Cond.selects RX8 yX8_classAt yX8_classAt, Cond.code yX8_classAt cX8_classAt 6 (some .int), Cond.methodLink RX8 159 yX8_isAhead, Cond.instanceMethod yX8_isAhead, Cond.selects RX8 yX8_isAhead yX8_isAhead, Cond.code yX8_isAhead cX8_isAhead 3 (some .boolean), Cond.methodLink RX8 172 yX8_waitsOf, Cond.instanceMethod yX8_waitsOf, Cond.selects RX8 yX8_waitsOf yX8_waitsOf, Cond.code yX8_waitsOf cX8_waitsOf 4 (some .int)]
def wsX8_ahead : List Cond := .code yX8_ahead cX8_ahead 4 (some .int) :: ((wsX8_ahead_r1 ++ (wsX8_ahead_r2 ++ (wsX8_ahead_r3 ++ wsX8_ahead_r4))) ++ wsX80)
def wsX8_sees : List Cond := .code yX8_sees cX8_sees 3 (some .int) :: ([.fieldLink RX8 53 "UpwardGrantsModel" "thrown" "I", .fieldLink RX8 133 "UpwardGrantsModel" "seen" "I", .fieldLink RX8 38 "UpwardGrantsModel" "seenSteps" "[I", .fieldLink RX8 41 "UpwardGrantsModel" "seenIs" "[I", .methodLink RX8 60 yX8_in, .static yX8_in, .initialized RX8, .code yX8_in cX8_in 3 (some .boolean)] ++ wsX80)
def wsX8_forget : List Cond := .code yX8_forget cX8_forget 2 (some .int) :: ([.fieldLink RX8 53 "UpwardGrantsModel" "thrown" "I", .fieldLink RX8 133 "UpwardGrantsModel" "seen" "I"] ++ wsX80)
def wsX8_isSo_r1 : List Cond := [Cond.fieldLink RX8 22 "UpwardGrantsModel" "s" "[I", Cond.fieldLink RX8 35 "UpwardGrantsModel" "aside" "[I", Cond.fieldLink RX8 38 "UpwardGrantsModel" "seenSteps" "[I", Cond.fieldLink RX8 156 "UpwardGrantsModel" "through" "I", Cond.fieldLink RX8 41 "UpwardGrantsModel" "seenIs" "[I", Cond.methodLink RX8 199 yX8_copies, Cond.instanceMethod yX8_copies, Cond.selects RX8 yX8_copies yX8_copies, Cond.initialized RX8, Cond.code yX8_copies cX8_copies 6 none, Cond.methodLink RX8 215 yX8_deafen, Cond.instanceMethod yX8_deafen, Cond.selects RX8 yX8_deafen yX8_deafen, Cond.code yX8_deafen cX8_deafen 6 (some .int), Cond.methodLink RX8 153 yX8_isDeaf, Cond.instanceMethod yX8_isDeaf, Cond.selects RX8 yX8_isDeaf yX8_isDeaf, Cond.code yX8_isDeaf cX8_isDeaf 3 (some .boolean), Cond.methodLink RX8 139 yX8_ofTerminal, Cond.static yX8_ofTerminal, Cond.code yX8_ofTerminal cX8_ofTerminal 2 (some .int), Cond.methodLink RX8 209 yX8_step, Cond.instanceMethod yX8_step, Cond.selects RX8 yX8_step yX8_step]
def wsX8_isSo_r2 : List Cond := [Cond.code yX8_step cX8_step 2 none, Cond.fieldLink RX8 64 "UpwardGrantsModel" "classes" "I", Cond.fieldLink RX8 13 "UpwardGrantsModel" "of" "[I", Cond.fieldLink RX8 57 "UpwardGrantsModel" "terminals" "I", Cond.methodLink RX8 143 yX8_ofClass, Cond.static yX8_ofClass, Cond.code yX8_ofClass cX8_ofClass 2 (some .int), Cond.methodLink RX8 165 yX8_less, Cond.static yX8_less, Cond.code yX8_less cX8_less 2 (some .int), Cond.methodLink RX8 189 yX8_asks, Cond.instanceMethod yX8_asks, Cond.selects RX8 yX8_asks yX8_asks, Cond.code yX8_asks cX8_asks 3 none, Cond.fieldLink RX8 7 "UpwardGrantsModel" "period" "[I", Cond.fieldLink RX8 121 "UpwardGrantsModel" "ban" "I", Cond.methodLink RX8 192 yX8_sendsAgain, Cond.instanceMethod yX8_sendsAgain, Cond.selects RX8 yX8_sendsAgain yX8_sendsAgain, Cond.code yX8_sendsAgain cX8_sendsAgain 4 (some .int), Cond.methodLink RX8 146 yX8_ofBlock, Cond.static yX8_ofBlock, Cond.code yX8_ofBlock cX8_ofBlock 2 (some .int), Cond.methodLink RX8 175 yX8_inBlock]
def wsX8_isSo_r3 : List Cond := [Cond.instanceMethod yX8_inBlock, Cond.selects RX8 yX8_inBlock yX8_inBlock, Cond.code yX8_inBlock cX8_inBlock 2 (some .int), Cond.methodLink RX8 149 yX8_lettersIn, Cond.instanceMethod yX8_lettersIn, Cond.selects RX8 yX8_lettersIn yX8_lettersIn, Cond.code yX8_lettersIn cX8_lettersIn 4 (some .int), Cond.methodLink RX8 178 yX8_sends, Cond.instanceMethod yX8_sends, Cond.selects RX8 yX8_sends yX8_sends, Cond.code yX8_sends cX8_sends 5 none, Cond.fieldLink RX8 127 "UpwardGrantsModel" "tries" "I", Cond.fieldLink RX8 124 "UpwardGrantsModel" "back" "I", Cond.methodLink RX8 182 yX8_clearsGone, Cond.instanceMethod yX8_clearsGone, Cond.selects RX8 yX8_clearsGone yX8_clearsGone, Cond.code yX8_clearsGone cX8_clearsGone 4 none, Cond.methodLink RX8 196 yX8_grants, Cond.instanceMethod yX8_grants, Cond.selects RX8 yX8_grants yX8_grants, Cond.code yX8_grants cX8_grants 8 none, Cond.methodLink RX8 185 yX8_packs, Cond.instanceMethod yX8_packs, Cond.selects RX8 yX8_packs yX8_packs]
def wsX8_isSo_r4 : List Cond := [Cond.code yX8_packs cX8_packs 6 none, Cond.methodLink RX8 168 yX8_fills, Cond.instanceMethod yX8_fills, Cond.selects RX8 yX8_fills yX8_fills, Cond.code yX8_fills cX8_fills 9 (some .int), Cond.methodLink RX8 162 yX8_classAt, Cond.instanceMethod yX8_classAt, Cond.selects RX8 yX8_classAt yX8_classAt, Cond.code yX8_classAt cX8_classAt 6 (some .int), Cond.methodLink RX8 159 yX8_isAhead, Cond.instanceMethod yX8_isAhead, Cond.selects RX8 yX8_isAhead yX8_isAhead, Cond.code yX8_isAhead cX8_isAhead 3 (some .boolean), Cond.methodLink RX8 172 yX8_waitsOf, Cond.instanceMethod yX8_waitsOf, Cond.selects RX8 yX8_waitsOf yX8_waitsOf, Cond.code yX8_waitsOf cX8_waitsOf 4 (some .int)]
def wsX8_isSo : List Cond := .code yX8_isSo cX8_isSo 4 (some .boolean) :: ((wsX8_isSo_r1 ++ (wsX8_isSo_r2 ++ (wsX8_isSo_r3 ++ wsX8_isSo_r4))) ++ wsX80)
def wsX8_unseen_r1 : List Cond := [Cond.fieldLink RX8 53 "UpwardGrantsModel" "thrown" "I", Cond.fieldLink RX8 57 "UpwardGrantsModel" "terminals" "I", Cond.fieldLink RX8 133 "UpwardGrantsModel" "seen" "I", Cond.methodLink RX8 231 yX8_isSo, Cond.instanceMethod yX8_isSo, Cond.selects RX8 yX8_isSo yX8_isSo, Cond.initialized RX8, Cond.code yX8_isSo cX8_isSo 4 (some .boolean), Cond.fieldLink RX8 22 "UpwardGrantsModel" "s" "[I", Cond.fieldLink RX8 35 "UpwardGrantsModel" "aside" "[I", Cond.fieldLink RX8 38 "UpwardGrantsModel" "seenSteps" "[I", Cond.fieldLink RX8 156 "UpwardGrantsModel" "through" "I", Cond.fieldLink RX8 41 "UpwardGrantsModel" "seenIs" "[I", Cond.methodLink RX8 199 yX8_copies, Cond.instanceMethod yX8_copies, Cond.selects RX8 yX8_copies yX8_copies, Cond.code yX8_copies cX8_copies 6 none, Cond.methodLink RX8 215 yX8_deafen, Cond.instanceMethod yX8_deafen, Cond.selects RX8 yX8_deafen yX8_deafen, Cond.code yX8_deafen cX8_deafen 6 (some .int), Cond.methodLink RX8 153 yX8_isDeaf, Cond.instanceMethod yX8_isDeaf, Cond.selects RX8 yX8_isDeaf yX8_isDeaf]
def wsX8_unseen_r2 : List Cond := [Cond.code yX8_isDeaf cX8_isDeaf 3 (some .boolean), Cond.methodLink RX8 139 yX8_ofTerminal, Cond.static yX8_ofTerminal, Cond.code yX8_ofTerminal cX8_ofTerminal 2 (some .int), Cond.methodLink RX8 209 yX8_step, Cond.instanceMethod yX8_step, Cond.selects RX8 yX8_step yX8_step, Cond.code yX8_step cX8_step 2 none, Cond.fieldLink RX8 64 "UpwardGrantsModel" "classes" "I", Cond.fieldLink RX8 13 "UpwardGrantsModel" "of" "[I", Cond.methodLink RX8 143 yX8_ofClass, Cond.static yX8_ofClass, Cond.code yX8_ofClass cX8_ofClass 2 (some .int), Cond.methodLink RX8 165 yX8_less, Cond.static yX8_less, Cond.code yX8_less cX8_less 2 (some .int), Cond.methodLink RX8 189 yX8_asks, Cond.instanceMethod yX8_asks, Cond.selects RX8 yX8_asks yX8_asks, Cond.code yX8_asks cX8_asks 3 none, Cond.fieldLink RX8 7 "UpwardGrantsModel" "period" "[I", Cond.fieldLink RX8 121 "UpwardGrantsModel" "ban" "I", Cond.methodLink RX8 192 yX8_sendsAgain, Cond.instanceMethod yX8_sendsAgain]
def wsX8_unseen_r3 : List Cond := [Cond.selects RX8 yX8_sendsAgain yX8_sendsAgain, Cond.code yX8_sendsAgain cX8_sendsAgain 4 (some .int), Cond.methodLink RX8 146 yX8_ofBlock, Cond.static yX8_ofBlock, Cond.code yX8_ofBlock cX8_ofBlock 2 (some .int), Cond.methodLink RX8 175 yX8_inBlock, Cond.instanceMethod yX8_inBlock, Cond.selects RX8 yX8_inBlock yX8_inBlock, Cond.code yX8_inBlock cX8_inBlock 2 (some .int), Cond.methodLink RX8 149 yX8_lettersIn, Cond.instanceMethod yX8_lettersIn, Cond.selects RX8 yX8_lettersIn yX8_lettersIn, Cond.code yX8_lettersIn cX8_lettersIn 4 (some .int), Cond.methodLink RX8 178 yX8_sends, Cond.instanceMethod yX8_sends, Cond.selects RX8 yX8_sends yX8_sends, Cond.code yX8_sends cX8_sends 5 none, Cond.fieldLink RX8 127 "UpwardGrantsModel" "tries" "I", Cond.fieldLink RX8 124 "UpwardGrantsModel" "back" "I", Cond.methodLink RX8 182 yX8_clearsGone, Cond.instanceMethod yX8_clearsGone, Cond.selects RX8 yX8_clearsGone yX8_clearsGone, Cond.code yX8_clearsGone cX8_clearsGone 4 none, Cond.methodLink RX8 196 yX8_grants]
def wsX8_unseen_r4 : List Cond := [Cond.instanceMethod yX8_grants, Cond.selects RX8 yX8_grants yX8_grants, Cond.code yX8_grants cX8_grants 8 none, Cond.methodLink RX8 185 yX8_packs, Cond.instanceMethod yX8_packs, Cond.selects RX8 yX8_packs yX8_packs, Cond.code yX8_packs cX8_packs 6 none, Cond.methodLink RX8 168 yX8_fills, Cond.instanceMethod yX8_fills, Cond.selects RX8 yX8_fills yX8_fills, Cond.code yX8_fills cX8_fills 9 (some .int), Cond.methodLink RX8 162 yX8_classAt, Cond.instanceMethod yX8_classAt, Cond.selects RX8 yX8_classAt yX8_classAt, Cond.code yX8_classAt cX8_classAt 6 (some .int), Cond.methodLink RX8 159 yX8_isAhead, Cond.instanceMethod yX8_isAhead, Cond.selects RX8 yX8_isAhead yX8_isAhead, Cond.code yX8_isAhead cX8_isAhead 3 (some .boolean), Cond.methodLink RX8 172 yX8_waitsOf, Cond.instanceMethod yX8_waitsOf, Cond.selects RX8 yX8_waitsOf yX8_waitsOf, Cond.code yX8_waitsOf cX8_waitsOf 4 (some .int)]
def wsX8_unseen : List Cond := .code yX8_unseen cX8_unseen 5 (some .int) :: ((wsX8_unseen_r1 ++ (wsX8_unseen_r2 ++ (wsX8_unseen_r3 ++ wsX8_unseen_r4))) ++ wsX80)
def wsX8_keep : List Cond := .code yX8_keep cX8_keep 2 (some .int) :: ([.fieldLink RX8 53 "UpwardGrantsModel" "thrown" "I", .fieldLink RX8 22 "UpwardGrantsModel" "s" "[I", .fieldLink RX8 28 "UpwardGrantsModel" "kept" "[I", .fieldLink RX8 31 "UpwardGrantsModel" "isKept" "[Z", .methodLink RX8 60 yX8_in, .static yX8_in, .initialized RX8, .code yX8_in cX8_in 3 (some .boolean), .methodLink RX8 199 yX8_copies, .instanceMethod yX8_copies, .selects RX8 yX8_copies yX8_copies, .code yX8_copies cX8_copies 6 none] ++ wsX80)
def wsX8_back : List Cond := .code yX8_back cX8_back 2 (some .int) :: ([.fieldLink RX8 53 "UpwardGrantsModel" "thrown" "I", .fieldLink RX8 31 "UpwardGrantsModel" "isKept" "[Z", .fieldLink RX8 28 "UpwardGrantsModel" "kept" "[I", .fieldLink RX8 22 "UpwardGrantsModel" "s" "[I", .fieldLink RX8 130 "UpwardGrantsModel" "undos" "I", .methodLink RX8 60 yX8_in, .static yX8_in, .initialized RX8, .code yX8_in cX8_in 3 (some .boolean), .methodLink RX8 199 yX8_copies, .instanceMethod yX8_copies, .selects RX8 yX8_copies yX8_copies, .code yX8_copies cX8_copies 6 none] ++ wsX80)
def wsX8_count : List Cond := .code yX8_count cX8_count 2 (some .int) :: ([.fieldLink RX8 53 "UpwardGrantsModel" "thrown" "I", .fieldLink RX8 57 "UpwardGrantsModel" "terminals" "I", .fieldLink RX8 64 "UpwardGrantsModel" "classes" "I", .fieldLink RX8 22 "UpwardGrantsModel" "s" "[I", .fieldLink RX8 121 "UpwardGrantsModel" "ban" "I", .fieldLink RX8 124 "UpwardGrantsModel" "back" "I", .fieldLink RX8 127 "UpwardGrantsModel" "tries" "I", .fieldLink RX8 133 "UpwardGrantsModel" "seen" "I", .fieldLink RX8 67 "UpwardGrantsModel" "letters" "I", .fieldLink RX8 130 "UpwardGrantsModel" "undos" "I"] ++ wsX80)
def wsJ9_max_7cf53 : List Cond := .code yJ9_max_7cf53 cJ9_max_7cf53 2 (some .int) :: ([])
def wsJ9_min_7cf53 : List Cond := .code yJ9_min_7cf53 cJ9_min_7cf53 2 (some .int) :: ([])
def wsL_law_r1 : List Cond := [Cond.classLink RL 7 RX7, Cond.instantiable RX7 13, Cond.initialized RX7, Cond.classLink RL 10 RX8, Cond.instantiable RX8 32, Cond.initialized RX8, Cond.methodLink RL 9 yX7_init, Cond.instanceMethod yX7_init, Cond.code yX7_init cX7_init 1 none, Cond.methodLink RX7 1 objectInit, Cond.instanceMethod objectInit, Cond.code objectInit ⟨#[0xb1]⟩ 1 none, Cond.classLink RX7 7 RX6, Cond.instantiable RX6 6, Cond.initialized RX6, Cond.fieldLink RX7 10 "UpwardGrants" "text" "LUpwardGrants$Text;", Cond.classLink RX7 16 RX3, Cond.instantiable RX3 11, Cond.initialized RX3, Cond.fieldLink RX7 19 "UpwardGrants" "setup" "LUpwardGrants$Setup;", Cond.fieldLink RX7 23 "UpwardGrants" "draft" "LUpwardGrants$Setup;", Cond.classLink RX7 26 RX4, Cond.instantiable RX4 15, Cond.initialized RX4]
def wsL_law_r2 : List Cond := [Cond.fieldLink RX7 29 "UpwardGrants" "state" "LUpwardGrants$State;", Cond.fieldLink RX7 33 "UpwardGrants" "trialState" "LUpwardGrants$State;", Cond.classLink RX7 36 RX5, Cond.instantiable RX5 3, Cond.initialized RX5, Cond.fieldLink RX7 41 "UpwardGrants" "station" "LUpwardGrants$Station;", Cond.fieldLink RX7 45 "UpwardGrants" "trial" "LUpwardGrants$Station;", Cond.classLink RX7 48 RX1, Cond.instantiable RX1 3, Cond.initialized RX1, Cond.fieldLink RX7 51 "UpwardGrants" "history" "LUpwardGrants$History;", Cond.classLink RX7 55 RX2, Cond.instantiable RX2 2, Cond.initialized RX2, Cond.fieldLink RX7 58 "UpwardGrants" "firstImage" "LUpwardGrants$Image;", Cond.fieldLink RX7 62 "UpwardGrants" "secondImage" "LUpwardGrants$Image;", Cond.arrayClass .int, Cond.fieldLink RX7 65 "UpwardGrants" "seenSteps" "[I", Cond.fieldLink RX7 69 "UpwardGrants" "seenLetters" "[I", Cond.fieldLink RX7 72 "UpwardGrants" "seen" "I", Cond.instanceMethod yX6_init, Cond.code yX6_init cX6_init 1 none, Cond.methodLink RX6 3 objectInit, Cond.arrayClass .char]
def wsL_law_r3 : List Cond := [Cond.fieldLink RX6 9 "UpwardGrants$Text" "letters" "[C", Cond.fieldLink RX6 15 "UpwardGrants$Text" "length" "I", Cond.methodLink RX7 18 yX3_init, Cond.instanceMethod yX3_init, Cond.code yX3_init cX3_init 1 none, Cond.methodLink RX3 3 objectInit, Cond.fieldLink RX3 9 "UpwardGrants$Setup" "period" "[I", Cond.fieldLink RX3 15 "UpwardGrants$Setup" "owner" "[I", Cond.fieldLink RX3 18 "UpwardGrants$Setup" "priority" "[I", Cond.fieldLink RX3 21 "UpwardGrants$Setup" "rate" "[I", Cond.fieldLink RX3 24 "UpwardGrants$Setup" "limit" "[I", Cond.methodLink RX3 27 yX3_begin, Cond.instanceMethod yX3_begin, Cond.selects RX3 yX3_begin yX3_begin, Cond.code yX3_begin cX3_begin 1 none, Cond.fieldLink RX3 30 "UpwardGrants$Setup" "terminals" "I", Cond.fieldLink RX3 34 "UpwardGrants$Setup" "classes" "I", Cond.fieldLink RX3 37 "UpwardGrants$Setup" "room" "I", Cond.fieldLink RX3 40 "UpwardGrants$Setup" "ban" "I", Cond.fieldLink RX3 43 "UpwardGrants$Setup" "back" "I", Cond.fieldLink RX3 46 "UpwardGrants$Setup" "tries" "I", Cond.instanceMethod yX4_init, Cond.code yX4_init cX4_init 1 none, Cond.methodLink RX4 3 objectInit]
def wsL_law_r4 : List Cond := [Cond.fieldLink RX4 9 "UpwardGrants$State" "wants" "[I", Cond.fieldLink RX4 15 "UpwardGrants$State" "bannedTill" "[I", Cond.fieldLink RX4 18 "UpwardGrants$State" "asked" "[I", Cond.fieldLink RX4 21 "UpwardGrants$State" "thought" "[I", Cond.fieldLink RX4 24 "UpwardGrants$State" "asks" "[I", Cond.fieldLink RX4 27 "UpwardGrants$State" "granted" "[I", Cond.fieldLink RX4 30 "UpwardGrants$State" "waits" "[I", Cond.fieldLink RX4 33 "UpwardGrants$State" "tokens" "[I", Cond.fieldLink RX4 36 "UpwardGrants$State" "through" "[I", Cond.fieldLink RX4 39 "UpwardGrants$State" "lost" "[I", Cond.fieldLink RX4 42 "UpwardGrants$State" "deafBits" "[I", Cond.classLink RX4 45 RX0, Cond.instantiable RX0 6, Cond.initialized RX0, Cond.fieldLink RX4 48 "UpwardGrants$State" "blocks" "LUpwardGrants$Blocks;", Cond.instanceMethod yX0_init, Cond.code yX0_init cX0_init 1 none, Cond.methodLink RX0 3 objectInit, Cond.fieldLink RX0 9 "UpwardGrants$Blocks" "size" "I", Cond.fieldLink RX0 15 "UpwardGrants$Blocks" "terminal" "[I", Cond.fieldLink RX0 19 "UpwardGrants$Blocks" "due" "[I", Cond.fieldLink RX0 22 "UpwardGrants$Blocks" "sent" "[I", Cond.fieldLink RX0 25 "UpwardGrants$Blocks" "report" "[I", Cond.fieldLink RX0 28 "UpwardGrants$Blocks" "letters" "[I"]
def wsL_law_r5 : List Cond := [Cond.methodLink RX7 38 yX5_init, Cond.instanceMethod yX5_init, Cond.code yX5_init cX5_init 3 none, Cond.methodLink RX5 3 objectInit, Cond.fieldLink RX5 9 "UpwardGrants$Station" "left" "I", Cond.fieldLink RX5 15 "UpwardGrants$Station" "setup" "LUpwardGrants$Setup;", Cond.fieldLink RX5 19 "UpwardGrants$Station" "state" "LUpwardGrants$State;", Cond.methodLink RX7 50 yX1_init, Cond.instanceMethod yX1_init, Cond.code yX1_init cX1_init 2 none, Cond.methodLink RX1 3 objectInit, Cond.fieldLink RX1 9 "UpwardGrants$History" "known" "I", Cond.fieldLink RX1 15 "UpwardGrants$History" "newest" "I", Cond.classLink RX1 18 RX4, Cond.fieldLink RX1 20 "UpwardGrants$History" "before" "[LUpwardGrants$State;", Cond.instanceMethod yX2_init, Cond.code yX2_init cX2_init 1 none, Cond.methodLink RX2 1 objectInit, Cond.fieldLink RX2 7 "UpwardGrants$Image" "there" "Z", Cond.classLink RX2 13 RX4, Cond.fieldLink RX2 16 "UpwardGrants$Image" "state" "LUpwardGrants$State;", Cond.methodLink RX7 76 yX7_beginAnew, Cond.instanceMethod yX7_beginAnew, Cond.selects RX7 yX7_beginAnew yX7_beginAnew]
def wsL_law_r6 : List Cond := [Cond.code yX7_beginAnew cX7_beginAnew 1 none, Cond.fieldLink RX7 249 "UpwardGrants$Setup" "room" "I", Cond.fieldLink RX7 137 "UpwardGrants$History" "known" "I", Cond.fieldLink RX7 226 "UpwardGrants$Image" "there" "Z", Cond.methodLink RX7 250 yX4_begin, Cond.instanceMethod yX4_begin, Cond.selects RX4 yX4_begin yX4_begin, Cond.code yX4_begin cX4_begin 2 none, Cond.fieldLink RX4 52 "UpwardGrants$State" "now" "I", Cond.fieldLink RX4 56 "UpwardGrants$State" "room" "I", Cond.fieldLink RX4 59 "UpwardGrants$State" "last" "I", Cond.fieldLink RX4 68 "UpwardGrants$Blocks" "size" "I", Cond.methodLink RX4 62 yJ7_fill_53178, Cond.static yJ7_fill_53178, Cond.initialized RJ7, Cond.code yJ7_fill_53178 cJ7_fill_53178 4 none, Cond.methodLink RL 12 yX8_init, Cond.instanceMethod yX8_init, Cond.code yX8_init cX8_init 1 none, Cond.methodLink RX8 1 objectInit, Cond.fieldLink RX8 7 "UpwardGrantsModel" "period" "[I", Cond.fieldLink RX8 13 "UpwardGrantsModel" "of" "[I", Cond.fieldLink RX8 16 "UpwardGrantsModel" "readPeriod" "[I", Cond.fieldLink RX8 19 "UpwardGrantsModel" "readOf" "[I"]
def wsL_law_r7 : List Cond := [Cond.fieldLink RX8 22 "UpwardGrantsModel" "s" "[I", Cond.fieldLink RX8 25 "UpwardGrantsModel" "past" "[I", Cond.fieldLink RX8 28 "UpwardGrantsModel" "kept" "[I", Cond.arrayClass .boolean, Cond.fieldLink RX8 31 "UpwardGrantsModel" "isKept" "[Z", Cond.fieldLink RX8 35 "UpwardGrantsModel" "aside" "[I", Cond.fieldLink RX8 38 "UpwardGrantsModel" "seenSteps" "[I", Cond.fieldLink RX8 41 "UpwardGrantsModel" "seenIs" "[I", Cond.fieldLink RX8 44 "UpwardGrantsModel" "text" "[I", Cond.methodLink RX8 47 yX8_begins, Cond.instanceMethod yX8_begins, Cond.selects RX8 yX8_begins yX8_begins, Cond.code yX8_begins cX8_begins 1 none, Cond.fieldLink RX8 89 "UpwardGrantsModel" "readTerminals" "I", Cond.fieldLink RX8 96 "UpwardGrantsModel" "readClasses" "I", Cond.fieldLink RX8 109 "UpwardGrantsModel" "readRoom" "I", Cond.fieldLink RX8 112 "UpwardGrantsModel" "readBan" "I", Cond.fieldLink RX8 115 "UpwardGrantsModel" "readBack" "I", Cond.fieldLink RX8 118 "UpwardGrantsModel" "readTries" "I", Cond.methodLink RX8 50 yX8_becomes, Cond.instanceMethod yX8_becomes, Cond.selects RX8 yX8_becomes yX8_becomes, Cond.code yX8_becomes cX8_becomes 2 none, Cond.fieldLink RX8 57 "UpwardGrantsModel" "terminals" "I"]
def wsL_law_r8 : List Cond := [Cond.fieldLink RX8 64 "UpwardGrantsModel" "classes" "I", Cond.fieldLink RX8 121 "UpwardGrantsModel" "ban" "I", Cond.fieldLink RX8 124 "UpwardGrantsModel" "back" "I", Cond.fieldLink RX8 127 "UpwardGrantsModel" "tries" "I", Cond.fieldLink RX8 130 "UpwardGrantsModel" "undos" "I", Cond.fieldLink RX8 133 "UpwardGrantsModel" "seen" "I", Cond.methodLink RL 13 yX7_type, Cond.instanceMethod yX7_type, Cond.selects RX7 yX7_type yX7_type, Cond.code yX7_type cX7_type 2 (some .int), Cond.fieldLink RX7 87 "UpwardGrants$Text" "length" "I", Cond.methodLink RX7 79 yX7_isWithin, Cond.static yX7_isWithin, Cond.code yX7_isWithin cX7_isWithin 3 (some .boolean), Cond.methodLink RX7 83 yX6_add, Cond.instanceMethod yX6_add, Cond.selects RX6 yX6_add yX6_add, Cond.code yX6_add cX6_add 2 (some .boolean), Cond.methodLink RL 17 yX8_type, Cond.instanceMethod yX8_type, Cond.selects RX8 yX8_type yX8_type, Cond.code yX8_type cX8_type 2 (some .int), Cond.fieldLink RX8 53 "UpwardGrantsModel" "thrown" "I", Cond.fieldLink RX8 67 "UpwardGrantsModel" "letters" "I"]
def wsL_law_r9 : List Cond := [Cond.methodLink RX8 60 yX8_in, Cond.static yX8_in, Cond.code yX8_in cX8_in 3 (some .boolean), Cond.methodLink RL 18 yX7_clear, Cond.instanceMethod yX7_clear, Cond.selects RX7 yX7_clear yX7_clear, Cond.code yX7_clear cX7_clear 1 (some .int), Cond.methodLink RX7 90 yX6_empty, Cond.instanceMethod yX6_empty, Cond.selects RX6 yX6_empty yX6_empty, Cond.code yX6_empty cX6_empty 2 (some .int), Cond.methodLink RL 22 yX8_clear, Cond.instanceMethod yX8_clear, Cond.selects RX8 yX8_clear yX8_clear, Cond.code yX8_clear cX8_clear 2 (some .int), Cond.methodLink RL 23 yX7_cell, Cond.instanceMethod yX7_cell, Cond.selects RX7 yX7_cell yX7_cell, Cond.code yX7_cell cX7_cell 2 (some .int), Cond.methodLink RX7 94 yX6_readInto, Cond.instanceMethod yX6_readInto, Cond.selects RX6 yX6_readInto yX6_readInto, Cond.code yX6_readInto cX6_readInto 4 (some .int), Cond.fieldLink RX6 24 "UpwardGrants$Text" "place" "I"]
def wsL_law_r10 : List Cond := [Cond.fieldLink RX6 30 "UpwardGrants$Text" "token" "I", Cond.fieldLink RX6 53 "UpwardGrants$Text" "tokenPlace" "I", Cond.methodLink RX6 19 yX3_begin, Cond.methodLink RX6 27 yX6_nextToken, Cond.instanceMethod yX6_nextToken, Cond.selects RX6 yX6_nextToken yX6_nextToken, Cond.code yX6_nextToken cX6_nextToken 2 none, Cond.methodLink RX6 97 yX6_letterAt, Cond.instanceMethod yX6_letterAt, Cond.selects RX6 yX6_letterAt yX6_letterAt, Cond.code yX6_letterAt cX6_letterAt 2 (some .char), Cond.methodLink RX6 101 yX6_isDigit, Cond.static yX6_isDigit, Cond.code yX6_isDigit cX6_isDigit 1 (some .boolean), Cond.methodLink RX6 105 yX6_nextNumber, Cond.instanceMethod yX6_nextNumber, Cond.selects RX6 yX6_nextNumber yX6_nextNumber, Cond.code yX6_nextNumber cX6_nextNumber 2 none, Cond.fieldLink RX6 67 "UpwardGrants$Text" "number" "I", Cond.methodLink RX6 111 Lib.Math.min.name, Cond.static Lib.Math.min.name, Cond.initialized "java/lang/Math", Cond.code Lib.Math.min.name Lib.Math.min.code 2 (some .int), Cond.methodLink RX6 108 yX6_isSign]
def wsL_law_r11 : List Cond := [Cond.static yX6_isSign, Cond.code yX6_isSign cX6_isSign 1 (some .boolean), Cond.methodLink RX6 33 yX6_readTerminal, Cond.instanceMethod yX6_readTerminal, Cond.selects RX6 yX6_readTerminal yX6_readTerminal, Cond.code yX6_readTerminal cX6_readTerminal 3 (some .boolean), Cond.fieldLink RX6 56 "UpwardGrants$Setup" "terminals" "I", Cond.fieldLink RX6 63 "UpwardGrants$Setup" "period" "[I", Cond.methodLink RX6 59 yX6_readNumber, Cond.instanceMethod yX6_readNumber, Cond.selects RX6 yX6_readNumber yX6_readNumber, Cond.code yX6_readNumber cX6_readNumber 3 (some .boolean), Cond.methodLink RX6 37 yX6_readClass, Cond.instanceMethod yX6_readClass, Cond.selects RX6 yX6_readClass yX6_readClass, Cond.code yX6_readClass cX6_readClass 3 (some .boolean), Cond.fieldLink RX6 70 "UpwardGrants$Setup" "classes" "I", Cond.fieldLink RX6 73 "UpwardGrants$Setup" "owner" "[I", Cond.fieldLink RX6 76 "UpwardGrants$Setup" "priority" "[I", Cond.fieldLink RX6 79 "UpwardGrants$Setup" "rate" "[I", Cond.fieldLink RX6 82 "UpwardGrants$Setup" "limit" "[I", Cond.methodLink RX6 40 yX6_readRoom, Cond.instanceMethod yX6_readRoom, Cond.selects RX6 yX6_readRoom yX6_readRoom]
def wsL_law_r12 : List Cond := [Cond.code yX6_readRoom cX6_readRoom 2 (some .boolean), Cond.fieldLink RX6 85 "UpwardGrants$Setup" "room" "I", Cond.methodLink RX6 43 yX6_readBan, Cond.instanceMethod yX6_readBan, Cond.selects RX6 yX6_readBan yX6_readBan, Cond.code yX6_readBan cX6_readBan 2 (some .boolean), Cond.fieldLink RX6 88 "UpwardGrants$Setup" "ban" "I", Cond.methodLink RX6 46 yX6_readBackAndTries, Cond.instanceMethod yX6_readBackAndTries, Cond.selects RX6 yX6_readBackAndTries yX6_readBackAndTries, Cond.code yX6_readBackAndTries cX6_readBackAndTries 2 (some .boolean), Cond.fieldLink RX6 91 "UpwardGrants$Setup" "back" "I", Cond.fieldLink RX6 94 "UpwardGrants$Setup" "tries" "I", Cond.methodLink RX6 49 yX6_readEnd, Cond.instanceMethod yX6_readEnd, Cond.selects RX6 yX6_readEnd yX6_readEnd, Cond.code yX6_readEnd cX6_readEnd 1 (some .boolean), Cond.methodLink RX7 98 yX3_copyFrom, Cond.instanceMethod yX3_copyFrom, Cond.selects RX3 yX3_copyFrom yX3_copyFrom, Cond.code yX3_copyFrom cX3_copyFrom 2 none, Cond.static yX7_copyRow, Cond.code yX7_copyRow cX7_copyRow 2 none, Cond.methodLink RX7 254 Lib.Math.min.name]
def wsL_law_r13 : List Cond := [Cond.methodLink RX7 259 arraycopyName, Cond.native arraycopyName, Cond.static arraycopyName, Cond.initialized "java/lang/System", Cond.methodLink RL 26 yX8_cell, Cond.instanceMethod yX8_cell, Cond.selects RX8 yX8_cell yX8_cell, Cond.code yX8_cell cX8_cell 3 (some .int), Cond.fieldLink RX8 70 "UpwardGrantsModel" "next" "I", Cond.fieldLink RX8 76 "UpwardGrantsModel" "token" "I", Cond.fieldLink RX8 73 "UpwardGrantsModel" "begin" "I", Cond.methodLink RX8 83 yX8_takes, Cond.instanceMethod yX8_takes, Cond.selects RX8 yX8_takes yX8_takes, Cond.code yX8_takes cX8_takes 2 none, Cond.methodLink RX8 79 yX8_isFigure, Cond.instanceMethod yX8_isFigure, Cond.selects RX8 yX8_isFigure yX8_isFigure, Cond.code yX8_isFigure cX8_isFigure 2 (some .boolean), Cond.methodLink RX8 136 yX8_item, Cond.instanceMethod yX8_item, Cond.selects RX8 yX8_item yX8_item, Cond.code yX8_item cX8_item 2 (some .boolean), Cond.fieldLink RX8 86 "UpwardGrantsModel" "number" "I"]
def wsL_law_r14 : List Cond := [Cond.methodLink RX8 102 yX8_readsTerminal, Cond.instanceMethod yX8_readsTerminal, Cond.selects RX8 yX8_readsTerminal yX8_readsTerminal, Cond.code yX8_readsTerminal cX8_readsTerminal 1 (some .boolean), Cond.methodLink RX8 92 yX8_reads, Cond.instanceMethod yX8_reads, Cond.selects RX8 yX8_reads yX8_reads, Cond.code yX8_reads cX8_reads 3 (some .boolean), Cond.methodLink RX8 106 yX8_readsClass, Cond.instanceMethod yX8_readsClass, Cond.selects RX8 yX8_readsClass yX8_readsClass, Cond.code yX8_readsClass cX8_readsClass 1 (some .boolean), Cond.methodLink RX8 99 yX8_readsOne, Cond.instanceMethod yX8_readsOne, Cond.selects RX8 yX8_readsOne yX8_readsOne, Cond.code yX8_readsOne cX8_readsOne 4 (some .boolean), Cond.methodLink RL 27 yX7_comes, Cond.instanceMethod yX7_comes, Cond.selects RX7 yX7_comes yX7_comes, Cond.code yX7_comes cX7_comes 3 (some .int), Cond.fieldLink RX7 105 "UpwardGrants$State" "waits" "[I", Cond.methodLink RX7 102 yX7_hasClass, Cond.instanceMethod yX7_hasClass, Cond.selects RX7 yX7_hasClass yX7_hasClass]
def wsL_law_r15 : List Cond := [Cond.code yX7_hasClass cX7_hasClass 2 (some .boolean), Cond.fieldLink RX7 231 "UpwardGrants$Setup" "classes" "I", Cond.methodLink RX7 108 yX1_remember, Cond.instanceMethod yX1_remember, Cond.selects RX1 yX1_remember yX1_remember, Cond.code yX1_remember cX1_remember 3 none, Cond.methodLink RX1 33 Lib.Math.min.name, Cond.methodLink RX1 25 yX1_rowAt, Cond.instanceMethod yX1_rowAt, Cond.selects RX1 yX1_rowAt yX1_rowAt, Cond.code yX1_rowAt cX1_rowAt 2 (some (.object "UpwardGrants$State")), Cond.methodLink RX1 29 yX4_copyFrom, Cond.instanceMethod yX4_copyFrom, Cond.selects RX4 yX4_copyFrom yX4_copyFrom, Cond.code yX4_copyFrom cX4_copyFrom 2 none, Cond.methodLink RX4 75 yX0_copyFrom, Cond.instanceMethod yX0_copyFrom, Cond.selects RX0 yX0_copyFrom yX0_copyFrom, Cond.code yX0_copyFrom cX0_copyFrom 2 none, Cond.methodLink RX7 112 yX5_bring, Cond.instanceMethod yX5_bring, Cond.selects RX5 yX5_bring yX5_bring, Cond.code yX5_bring cX5_bring 4 none, Cond.fieldLink RX5 23 "UpwardGrants$Setup" "owner" "[I"]
def wsL_law_r16 : List Cond := [Cond.fieldLink RX5 37 "UpwardGrants$State" "wants" "[I", Cond.fieldLink RX5 42 "UpwardGrants$State" "waits" "[I", Cond.methodLink RX5 33 yX5_waitsUpTo, Cond.instanceMethod yX5_waitsUpTo, Cond.selects RX5 yX5_waitsUpTo yX5_waitsUpTo, Cond.code yX5_waitsUpTo cX5_waitsUpTo 4 (some .boolean), Cond.fieldLink RX5 45 "UpwardGrants$Setup" "classes" "I", Cond.methodLink RX5 48 yX3_isAhead, Cond.instanceMethod yX3_isAhead, Cond.selects RX3 yX3_isAhead yX3_isAhead, Cond.code yX3_isAhead cX3_isAhead 3 (some .boolean), Cond.methodLink RL 31 yX8_comes, Cond.instanceMethod yX8_comes, Cond.selects RX8 yX8_comes yX8_comes, Cond.code yX8_comes cX8_comes 6 (some .int), Cond.methodLink RX8 203 yX8_isClass, Cond.instanceMethod yX8_isClass, Cond.selects RX8 yX8_isClass yX8_isClass, Cond.code yX8_isClass cX8_isClass 2 (some .boolean), Cond.methodLink RX8 143 yX8_ofClass, Cond.static yX8_ofClass, Cond.code yX8_ofClass cX8_ofClass 2 (some .int), Cond.methodLink RX8 206 yX8_notes, Cond.instanceMethod yX8_notes]
def wsL_law_r17 : List Cond := [Cond.selects RX8 yX8_notes yX8_notes, Cond.code yX8_notes cX8_notes 2 none, Cond.methodLink RX8 199 yX8_copies, Cond.instanceMethod yX8_copies, Cond.selects RX8 yX8_copies yX8_copies, Cond.code yX8_copies cX8_copies 6 none, Cond.methodLink RX8 159 yX8_isAhead, Cond.instanceMethod yX8_isAhead, Cond.selects RX8 yX8_isAhead yX8_isAhead, Cond.code yX8_isAhead cX8_isAhead 3 (some .boolean), Cond.methodLink RX8 139 yX8_ofTerminal, Cond.static yX8_ofTerminal, Cond.code yX8_ofTerminal cX8_ofTerminal 2 (some .int), Cond.methodLink RL 32 yX7_steps, Cond.instanceMethod yX7_steps, Cond.selects RX7 yX7_steps yX7_steps, Cond.code yX7_steps cX7_steps 2 (some .int), Cond.fieldLink RX7 116 "UpwardGrants$State" "now" "I", Cond.methodLink RX7 119 yX5_takeSteps, Cond.instanceMethod yX5_takeSteps, Cond.selects RX5 yX5_takeSteps yX5_takeSteps, Cond.code yX5_takeSteps cX5_takeSteps 4 (some .int), Cond.fieldLink RX5 70 "UpwardGrants$State" "room" "I", Cond.fieldLink RX5 79 "UpwardGrants$State" "blocks" "LUpwardGrants$Blocks;"]
def wsL_law_r18 : List Cond := [Cond.fieldLink RX5 88 "UpwardGrants$State" "now" "I", Cond.methodLink RX5 60 yX4_allThrough, Cond.instanceMethod yX4_allThrough, Cond.selects RX4 yX4_allThrough yX4_allThrough, Cond.code yX4_allThrough cX4_allThrough 3 (some .int), Cond.methodLink RX5 64 yX5_gainTokens, Cond.instanceMethod yX5_gainTokens, Cond.selects RX5 yX5_gainTokens yX5_gainTokens, Cond.code yX5_gainTokens cX5_gainTokens 2 none, Cond.fieldLink RX5 91 "UpwardGrants$State" "tokens" "[I", Cond.fieldLink RX5 94 "UpwardGrants$Setup" "limit" "[I", Cond.fieldLink RX5 97 "UpwardGrants$Setup" "rate" "[I", Cond.methodLink RX5 100 Lib.Math.min.name, Cond.methodLink RX5 67 yX5_askInPlaces, Cond.instanceMethod yX5_askInPlaces, Cond.selects RX5 yX5_askInPlaces yX5_askInPlaces, Cond.code yX5_askInPlaces cX5_askInPlaces 3 none, Cond.fieldLink RX5 106 "UpwardGrants$Setup" "terminals" "I", Cond.fieldLink RX5 112 "UpwardGrants$State" "bannedTill" "[I", Cond.fieldLink RX5 115 "UpwardGrants$State" "asked" "[I", Cond.fieldLink RX5 118 "UpwardGrants$State" "asks" "[I", Cond.fieldLink RX5 121 "UpwardGrants$Setup" "ban" "I", Cond.methodLink RX5 109 yX3_isPlaceToAsk, Cond.instanceMethod yX3_isPlaceToAsk]
def wsL_law_r19 : List Cond := [Cond.selects RX3 yX3_isPlaceToAsk yX3_isPlaceToAsk, Cond.code yX3_isPlaceToAsk cX3_isPlaceToAsk 4 (some .boolean), Cond.methodLink RX5 73 yX5_sendAgain, Cond.instanceMethod yX5_sendAgain, Cond.selects RX5 yX5_sendAgain yX5_sendAgain, Cond.code yX5_sendAgain cX5_sendAgain 3 none, Cond.fieldLink RX5 124 "UpwardGrants$Blocks" "size" "I", Cond.methodLink RX5 133 Lib.Math.max.name, Cond.static Lib.Math.max.name, Cond.code Lib.Math.max.name Lib.Math.max.code 2 (some .int), Cond.methodLink RX5 127 yX0_isDue, Cond.instanceMethod yX0_isDue, Cond.selects RX0 yX0_isDue yX0_isDue, Cond.code yX0_isDue cX0_isDue 4 (some .boolean), Cond.methodLink RX5 130 yX0_content, Cond.instanceMethod yX0_content, Cond.selects RX0 yX0_content yX0_content, Cond.code yX0_content cX0_content 2 (some .int), Cond.methodLink RX0 31 yX0_allLetters, Cond.instanceMethod yX0_allLetters, Cond.selects RX0 yX0_allLetters yX0_allLetters, Cond.code yX0_allLetters cX0_allLetters 5 (some .int), Cond.methodLink RX0 35 yX0_reportOf, Cond.instanceMethod yX0_reportOf]
def wsL_law_r20 : List Cond := [Cond.selects RX0 yX0_reportOf yX0_reportOf, Cond.code yX0_reportOf cX0_reportOf 2 (some .int), Cond.methodLink RX5 136 yX5_send, Cond.instanceMethod yX5_send, Cond.selects RX5 yX5_send yX5_send, Cond.code yX5_send cX5_send 7 none, Cond.fieldLink RX5 143 "UpwardGrants$State" "thought" "[I", Cond.fieldLink RX5 187 "UpwardGrants$State" "through" "[I", Cond.fieldLink RX5 198 "UpwardGrants$Setup" "tries" "I", Cond.fieldLink RX5 201 "UpwardGrants$Setup" "back" "I", Cond.fieldLink RX5 207 "UpwardGrants$State" "lost" "[I", Cond.methodLink RX5 175 yX0_countSending, Cond.instanceMethod yX0_countSending, Cond.selects RX0 yX0_countSending yX0_countSending, Cond.code yX0_countSending cX0_countSending 2 (some .int), Cond.methodLink RX5 178 yX4_isDeaf, Cond.instanceMethod yX4_isDeaf, Cond.selects RX4 yX4_isDeaf yX4_isDeaf, Cond.code yX4_isDeaf cX4_isDeaf 3 (some .boolean), Cond.methodLink RX5 181 yX0_reportOf, Cond.methodLink RX5 184 yX0_allLetters, Cond.methodLink RX5 190 yX0_addLettersTo, Cond.instanceMethod yX0_addLettersTo, Cond.selects RX0 yX0_addLettersTo yX0_addLettersTo]
def wsL_law_r21 : List Cond := [Cond.code yX0_addLettersTo cX0_addLettersTo 6 none, Cond.methodLink RX5 194 yX0_markGone, Cond.instanceMethod yX0_markGone, Cond.selects RX0 yX0_markGone yX0_markGone, Cond.code yX0_markGone cX0_markGone 2 none, Cond.methodLink RX5 204 yX0_putDue, Cond.instanceMethod yX0_putDue, Cond.selects RX0 yX0_putDue yX0_putDue, Cond.code yX0_putDue cX0_putDue 3 none, Cond.methodLink RX5 76 yX5_giveGrants, Cond.instanceMethod yX5_giveGrants, Cond.selects RX5 yX5_giveGrants yX5_giveGrants, Cond.code yX5_giveGrants cX5_giveGrants 5 none, Cond.fieldLink RX5 140 "UpwardGrants$State" "last" "I", Cond.methodLink RX5 146 yX5_takeGrant, Cond.instanceMethod yX5_takeGrant, Cond.selects RX5 yX5_takeGrant yX5_takeGrant, Cond.code yX5_takeGrant cX5_takeGrant 4 (some .int), Cond.fieldLink RX5 152 "UpwardGrants$State" "granted" "[I", Cond.methodLink RX5 149 yX5_pack, Cond.instanceMethod yX5_pack, Cond.selects RX5 yX5_pack yX5_pack, Cond.code yX5_pack cX5_pack 6 none, Cond.methodLink RX5 155 yX0_open]
def wsL_law_r22 : List Cond := [Cond.instanceMethod yX0_open, Cond.selects RX0 yX0_open yX0_open, Cond.code yX0_open cX0_open 4 (some .int), Cond.methodLink RX5 158 yX5_packLetters, Cond.instanceMethod yX5_packLetters, Cond.selects RX5 yX5_packLetters yX5_packLetters, Cond.code yX5_packLetters cX5_packLetters 9 (some .int), Cond.fieldLink RX5 168 "UpwardGrants$Setup" "priority" "[I", Cond.methodLink RX5 171 yX0_putLetters, Cond.instanceMethod yX0_putLetters, Cond.selects RX0 yX0_putLetters yX0_putLetters, Cond.code yX0_putLetters cX0_putLetters 5 none, Cond.methodLink RX5 162 yX5_waitingAt, Cond.instanceMethod yX5_waitingAt, Cond.selects RX5 yX5_waitingAt yX5_waitingAt, Cond.code yX5_waitingAt cX5_waitingAt 4 (some .int), Cond.methodLink RX5 165 yX0_putReport, Cond.instanceMethod yX0_putReport, Cond.selects RX0 yX0_putReport yX0_putReport, Cond.code yX0_putReport cX0_putReport 3 none, Cond.methodLink RX5 83 yX0_dropGone, Cond.instanceMethod yX0_dropGone, Cond.selects RX0 yX0_dropGone yX0_dropGone, Cond.code yX0_dropGone cX0_dropGone 3 none]
def wsL_law_r23 : List Cond := [Cond.methodLink RX0 38 yX0_move, Cond.instanceMethod yX0_move, Cond.selects RX0 yX0_move yX0_move, Cond.code yX0_move cX0_move 4 none, Cond.methodLink RL 35 yX8_steps, Cond.instanceMethod yX8_steps, Cond.selects RX8 yX8_steps yX8_steps, Cond.code yX8_steps cX8_steps 3 (some .int), Cond.fieldLink RX8 156 "UpwardGrantsModel" "through" "I", Cond.methodLink RX8 209 yX8_step, Cond.instanceMethod yX8_step, Cond.selects RX8 yX8_step yX8_step, Cond.code yX8_step cX8_step 2 none, Cond.methodLink RX8 165 yX8_less, Cond.static yX8_less, Cond.code yX8_less cX8_less 2 (some .int), Cond.methodLink RX8 189 yX8_asks, Cond.instanceMethod yX8_asks, Cond.selects RX8 yX8_asks yX8_asks, Cond.code yX8_asks cX8_asks 3 none, Cond.methodLink RX8 192 yX8_sendsAgain, Cond.instanceMethod yX8_sendsAgain, Cond.selects RX8 yX8_sendsAgain yX8_sendsAgain, Cond.code yX8_sendsAgain cX8_sendsAgain 4 (some .int)]
def wsL_law_r24 : List Cond := [Cond.methodLink RX8 146 yX8_ofBlock, Cond.static yX8_ofBlock, Cond.code yX8_ofBlock cX8_ofBlock 2 (some .int), Cond.methodLink RX8 175 yX8_inBlock, Cond.instanceMethod yX8_inBlock, Cond.selects RX8 yX8_inBlock yX8_inBlock, Cond.code yX8_inBlock cX8_inBlock 2 (some .int), Cond.methodLink RX8 149 yX8_lettersIn, Cond.instanceMethod yX8_lettersIn, Cond.selects RX8 yX8_lettersIn yX8_lettersIn, Cond.code yX8_lettersIn cX8_lettersIn 4 (some .int), Cond.methodLink RX8 178 yX8_sends, Cond.instanceMethod yX8_sends, Cond.selects RX8 yX8_sends yX8_sends, Cond.code yX8_sends cX8_sends 5 none, Cond.methodLink RX8 153 yX8_isDeaf, Cond.instanceMethod yX8_isDeaf, Cond.selects RX8 yX8_isDeaf yX8_isDeaf, Cond.code yX8_isDeaf cX8_isDeaf 3 (some .boolean), Cond.methodLink RX8 182 yX8_clearsGone, Cond.instanceMethod yX8_clearsGone, Cond.selects RX8 yX8_clearsGone yX8_clearsGone, Cond.code yX8_clearsGone cX8_clearsGone 4 none, Cond.methodLink RX8 196 yX8_grants]
def wsL_law_r25 : List Cond := [Cond.instanceMethod yX8_grants, Cond.selects RX8 yX8_grants yX8_grants, Cond.code yX8_grants cX8_grants 8 none, Cond.methodLink RX8 185 yX8_packs, Cond.instanceMethod yX8_packs, Cond.selects RX8 yX8_packs yX8_packs, Cond.code yX8_packs cX8_packs 6 none, Cond.methodLink RX8 168 yX8_fills, Cond.instanceMethod yX8_fills, Cond.selects RX8 yX8_fills yX8_fills, Cond.code yX8_fills cX8_fills 9 (some .int), Cond.methodLink RX8 162 yX8_classAt, Cond.instanceMethod yX8_classAt, Cond.selects RX8 yX8_classAt yX8_classAt, Cond.code yX8_classAt cX8_classAt 6 (some .int), Cond.methodLink RX8 172 yX8_waitsOf, Cond.instanceMethod yX8_waitsOf, Cond.selects RX8 yX8_waitsOf yX8_waitsOf, Cond.code yX8_waitsOf cX8_waitsOf 4 (some .int), Cond.methodLink RL 36 yX7_deafens, Cond.instanceMethod yX7_deafens, Cond.selects RX7 yX7_deafens yX7_deafens, Cond.code yX7_deafens cX7_deafens 4 (some .int), Cond.methodLink RX7 123 yX7_hasTerminal]
def wsL_law_r26 : List Cond := [Cond.instanceMethod yX7_hasTerminal, Cond.selects RX7 yX7_hasTerminal yX7_hasTerminal, Cond.code yX7_hasTerminal cX7_hasTerminal 2 (some .boolean), Cond.fieldLink RX7 213 "UpwardGrants$Setup" "terminals" "I", Cond.methodLink RX7 126 yX4_makeDeaf, Cond.instanceMethod yX4_makeDeaf, Cond.selects RX4 yX4_makeDeaf yX4_makeDeaf, Cond.code yX4_makeDeaf cX4_makeDeaf 6 (some .int), Cond.methodLink RX4 79 Lib.Math.max.name, Cond.methodLink RX4 85 yX4_isDeaf, Cond.methodLink RL 40 yX8_deafens, Cond.instanceMethod yX8_deafens, Cond.selects RX8 yX8_deafens yX8_deafens, Cond.code yX8_deafens cX8_deafens 4 (some .int), Cond.methodLink RX8 212 yX8_isTerminal, Cond.instanceMethod yX8_isTerminal, Cond.selects RX8 yX8_isTerminal yX8_isTerminal, Cond.code yX8_isTerminal cX8_isTerminal 2 (some .boolean), Cond.methodLink RX8 215 yX8_deafen, Cond.instanceMethod yX8_deafen, Cond.selects RX8 yX8_deafen yX8_deafen, Cond.code yX8_deafen cX8_deafen 6 (some .int), Cond.methodLink RL 41 yX7_widens, Cond.instanceMethod yX7_widens]
def wsL_law_r27 : List Cond := [Cond.selects RX7 yX7_widens yX7_widens, Cond.code yX7_widens cX7_widens 3 (some .int), Cond.fieldLink RX7 130 "UpwardGrants$State" "room" "I", Cond.methodLink RL 44 yX8_widens, Cond.instanceMethod yX8_widens, Cond.selects RX8 yX8_widens yX8_widens, Cond.code yX8_widens cX8_widens 3 (some .int), Cond.methodLink RL 45 yX7_undo, Cond.instanceMethod yX7_undo, Cond.selects RX7 yX7_undo yX7_undo, Cond.code yX7_undo cX7_undo 1 (some .int), Cond.methodLink RX7 133 yX1_takeBack, Cond.instanceMethod yX1_takeBack, Cond.selects RX1 yX1_takeBack yX1_takeBack, Cond.code yX1_takeBack cX1_takeBack 3 (some .boolean), Cond.methodLink RL 48 yX8_undo, Cond.instanceMethod yX8_undo, Cond.selects RX8 yX8_undo yX8_undo, Cond.code yX8_undo cX8_undo 1 (some .int), Cond.methodLink RL 49 yX7_sort, Cond.instanceMethod yX7_sort, Cond.selects RX7 yX7_sort yX7_sort, Cond.code yX7_sort cX7_sort 3 (some .int), Cond.fieldLink RX7 140 "UpwardGrants$Setup" "owner" "[I"]
def wsL_law_r28 : List Cond := [Cond.fieldLink RX7 143 "UpwardGrants$Setup" "priority" "[I", Cond.fieldLink RX7 146 "UpwardGrants$Setup" "rate" "[I", Cond.fieldLink RX7 149 "UpwardGrants$Setup" "limit" "[I", Cond.fieldLink RX7 152 "UpwardGrants$State" "tokens" "[I", Cond.fieldLink RX7 155 "UpwardGrants$State" "through" "[I", Cond.fieldLink RX7 158 "UpwardGrants$State" "lost" "[I", Cond.fieldLink RX7 161 "UpwardGrants$State" "blocks" "LUpwardGrants$Blocks;", Cond.methodLink RX7 165 yX0_lettersOnTheWay, Cond.instanceMethod yX0_lettersOnTheWay, Cond.selects RX0 yX0_lettersOnTheWay yX0_lettersOnTheWay, Cond.code yX0_lettersOnTheWay cX0_lettersOnTheWay 4 (some .int), Cond.methodLink RX0 49 yX0_lettersOf, Cond.instanceMethod yX0_lettersOf, Cond.selects RX0 yX0_lettersOf yX0_lettersOf, Cond.code yX0_lettersOf cX0_lettersOf 4 (some .int), Cond.methodLink RL 52 yX8_sort, Cond.instanceMethod yX8_sort, Cond.selects RX8 yX8_sort yX8_sort, Cond.code yX8_sort cX8_sort 5 (some .int), Cond.methodLink RL 53 yX7_terminal, Cond.instanceMethod yX7_terminal, Cond.selects RX7 yX7_terminal yX7_terminal, Cond.code yX7_terminal cX7_terminal 3 (some .int), Cond.fieldLink RX7 170 "UpwardGrants$Setup" "period" "[I"]
def wsL_law_r29 : List Cond := [Cond.fieldLink RX7 173 "UpwardGrants$State" "wants" "[I", Cond.fieldLink RX7 176 "UpwardGrants$State" "bannedTill" "[I", Cond.fieldLink RX7 179 "UpwardGrants$State" "asked" "[I", Cond.fieldLink RX7 182 "UpwardGrants$State" "thought" "[I", Cond.fieldLink RX7 188 "UpwardGrants$State" "asks" "[I", Cond.fieldLink RX7 191 "UpwardGrants$State" "granted" "[I", Cond.methodLink RX7 185 yX5_waitingAt, Cond.methodLink RX7 194 yX0_blocksOf, Cond.instanceMethod yX0_blocksOf, Cond.selects RX0 yX0_blocksOf yX0_blocksOf, Cond.code yX0_blocksOf cX0_blocksOf 4 (some .int), Cond.methodLink RL 56 yX8_terminal, Cond.instanceMethod yX8_terminal, Cond.selects RX8 yX8_terminal yX8_terminal, Cond.code yX8_terminal cX8_terminal 3 (some .int), Cond.methodLink RX8 219 yX8_blocksOf, Cond.instanceMethod yX8_blocksOf, Cond.selects RX8 yX8_blocksOf yX8_blocksOf, Cond.code yX8_blocksOf cX8_blocksOf 4 (some .int), Cond.methodLink RL 57 yX7_block, Cond.instanceMethod yX7_block, Cond.selects RX7 yX7_block yX7_block, Cond.code yX7_block cX7_block 4 (some .int), Cond.methodLink RX7 197 yX0_placeOf]
def wsL_law_r30 : List Cond := [Cond.instanceMethod yX0_placeOf, Cond.selects RX0 yX0_placeOf yX0_placeOf, Cond.code yX0_placeOf cX0_placeOf 5 (some .int), Cond.methodLink RX0 42 yX0_isEarlier, Cond.instanceMethod yX0_isEarlier, Cond.selects RX0 yX0_isEarlier yX0_isEarlier, Cond.code yX0_isEarlier cX0_isEarlier 3 (some .boolean), Cond.methodLink RX7 200 yX0_told, Cond.instanceMethod yX0_told, Cond.selects RX0 yX0_told yX0_told, Cond.code yX0_told cX0_told 3 (some .int), Cond.methodLink RX0 46 yX0_content, Cond.methodLink RL 60 yX8_block, Cond.instanceMethod yX8_block, Cond.selects RX8 yX8_block yX8_block, Cond.code yX8_block cX8_block 6 (some .int), Cond.methodLink RX8 222 yX8_isSooner, Cond.instanceMethod yX8_isSooner, Cond.selects RX8 yX8_isSooner yX8_isSooner, Cond.code yX8_isSooner cX8_isSooner 5 (some .boolean), Cond.methodLink RL 61 yX7_deaf, Cond.instanceMethod yX7_deaf, Cond.selects RX7 yX7_deaf yX7_deaf, Cond.code yX7_deaf cX7_deaf 3 (some .int)]
def wsL_law_r31 : List Cond := [Cond.methodLink RX7 204 yX4_isDeaf, Cond.methodLink RL 64 yX8_deaf, Cond.instanceMethod yX8_deaf, Cond.selects RX8 yX8_deaf yX8_deaf, Cond.code yX8_deaf cX8_deaf 3 (some .int), Cond.methodLink RL 65 yX7_drain, Cond.instanceMethod yX7_drain, Cond.selects RX7 yX7_drain yX7_drain, Cond.code yX7_drain cX7_drain 1 (some .int), Cond.methodLink RX7 208 yX4_copyFrom, Cond.methodLink RX7 210 yX5_drainedWithin, Cond.instanceMethod yX5_drainedWithin, Cond.selects RX5 yX5_drainedWithin yX5_drainedWithin, Cond.code yX5_drainedWithin cX5_drainedWithin 3 (some .int), Cond.methodLink RX5 52 yX4_isDrained, Cond.instanceMethod yX4_isDrained, Cond.selects RX4 yX4_isDrained yX4_isDrained, Cond.code yX4_isDrained cX4_isDrained 3 (some .boolean), Cond.methodLink RX5 56 yX5_takeSteps, Cond.methodLink RL 68 yX8_drain, Cond.instanceMethod yX8_drain, Cond.selects RX8 yX8_drain yX8_drain, Cond.code yX8_drain cX8_drain 2 (some .int), Cond.methodLink RX8 228 yX8_drains]
def wsL_law_r32 : List Cond := [Cond.instanceMethod yX8_drains, Cond.selects RX8 yX8_drains yX8_drains, Cond.code yX8_drains cX8_drains 3 (some .int), Cond.methodLink RX8 225 yX8_isDrained, Cond.instanceMethod yX8_isDrained, Cond.selects RX8 yX8_isDrained yX8_isDrained, Cond.code yX8_isDrained cX8_isDrained 3 (some .boolean), Cond.methodLink RL 69 yX7_enough, Cond.instanceMethod yX7_enough, Cond.selects RX7 yX7_enough yX7_enough, Cond.code yX7_enough cX7_enough 3 (some .int), Cond.methodLink RL 72 yX8_enough, Cond.instanceMethod yX8_enough, Cond.selects RX8 yX8_enough yX8_enough, Cond.code yX8_enough cX8_enough 4 (some .int), Cond.methodLink RL 73 yX7_ahead, Cond.instanceMethod yX7_ahead, Cond.selects RX7 yX7_ahead yX7_ahead, Cond.code yX7_ahead cX7_ahead 3 (some .int), Cond.methodLink RL 76 yX8_ahead, Cond.instanceMethod yX8_ahead, Cond.selects RX8 yX8_ahead yX8_ahead, Cond.code yX8_ahead cX8_ahead 4 (some .int), Cond.methodLink RL 77 yX7_sees]
def wsL_law_r33 : List Cond := [Cond.instanceMethod yX7_sees, Cond.selects RX7 yX7_sees yX7_sees, Cond.code yX7_sees cX7_sees 3 (some .int), Cond.methodLink RL 80 yX8_sees, Cond.instanceMethod yX8_sees, Cond.selects RX8 yX8_sees yX8_sees, Cond.code yX8_sees cX8_sees 3 (some .int), Cond.methodLink RL 81 yX7_forget, Cond.instanceMethod yX7_forget, Cond.selects RX7 yX7_forget yX7_forget, Cond.code yX7_forget cX7_forget 2 (some .int), Cond.methodLink RL 84 yX8_forget, Cond.instanceMethod yX8_forget, Cond.selects RX8 yX8_forget yX8_forget, Cond.code yX8_forget cX8_forget 2 (some .int), Cond.methodLink RL 85 yX7_unseen, Cond.instanceMethod yX7_unseen, Cond.selects RX7 yX7_unseen yX7_unseen, Cond.code yX7_unseen cX7_unseen 3 (some .int), Cond.methodLink RX7 216 yX7_explainsAllSeen, Cond.instanceMethod yX7_explainsAllSeen, Cond.selects RX7 yX7_explainsAllSeen yX7_explainsAllSeen, Cond.code yX7_explainsAllSeen cX7_explainsAllSeen 3 (some .boolean), Cond.methodLink RL 88 yX8_unseen]
def wsL_law_r34 : List Cond := [Cond.instanceMethod yX8_unseen, Cond.selects RX8 yX8_unseen yX8_unseen, Cond.code yX8_unseen cX8_unseen 5 (some .int), Cond.methodLink RX8 231 yX8_isSo, Cond.instanceMethod yX8_isSo, Cond.selects RX8 yX8_isSo yX8_isSo, Cond.code yX8_isSo cX8_isSo 4 (some .boolean), Cond.methodLink RL 89 yX7_keep, Cond.instanceMethod yX7_keep, Cond.selects RX7 yX7_keep yX7_keep, Cond.code yX7_keep cX7_keep 2 (some .int), Cond.methodLink RX7 219 yX7_imageAt, Cond.instanceMethod yX7_imageAt, Cond.selects RX7 yX7_imageAt yX7_imageAt, Cond.code yX7_imageAt cX7_imageAt 2 (some (.object "UpwardGrants$Image")), Cond.methodLink RX7 223 yX2_take, Cond.instanceMethod yX2_take, Cond.selects RX2 yX2_take yX2_take, Cond.code yX2_take cX2_take 2 none, Cond.methodLink RX2 20 yX4_copyFrom, Cond.methodLink RL 92 yX8_keep, Cond.instanceMethod yX8_keep, Cond.selects RX8 yX8_keep yX8_keep, Cond.code yX8_keep cX8_keep 2 (some .int)]
def wsL_law_r35 : List Cond := [Cond.methodLink RL 93 yX7_back, Cond.instanceMethod yX7_back, Cond.selects RX7 yX7_back yX7_back, Cond.code yX7_back cX7_back 3 (some .int), Cond.fieldLink RX7 230 "UpwardGrants$Image" "state" "LUpwardGrants$State;", Cond.methodLink RL 96 yX8_back, Cond.instanceMethod yX8_back, Cond.selects RX8 yX8_back yX8_back, Cond.code yX8_back cX8_back 2 (some .int), Cond.methodLink RL 97 yX7_count, Cond.instanceMethod yX7_count, Cond.selects RX7 yX7_count yX7_count, Cond.code yX7_count cX7_count 2 (some .int), Cond.fieldLink RX7 234 "UpwardGrants$Setup" "ban" "I", Cond.fieldLink RX7 237 "UpwardGrants$Setup" "back" "I", Cond.fieldLink RX7 240 "UpwardGrants$Setup" "tries" "I", Cond.fieldLink RX7 243 "UpwardGrants$Blocks" "size" "I", Cond.fieldLink RX7 246 "UpwardGrants$State" "last" "I", Cond.methodLink RL 100 yX8_count, Cond.instanceMethod yX8_count, Cond.selects RX8 yX8_count yX8_count, Cond.code yX8_count cX8_count 2 (some .int)]
def wsL_law : List Cond := (wsL_law_r1 ++ (wsL_law_r2 ++ (wsL_law_r3 ++ (wsL_law_r4 ++ (wsL_law_r5 ++ (wsL_law_r6 ++ (wsL_law_r7 ++ (wsL_law_r8 ++ (wsL_law_r9 ++ (wsL_law_r10 ++ (wsL_law_r11 ++ (wsL_law_r12 ++ (wsL_law_r13 ++ (wsL_law_r14 ++ (wsL_law_r15 ++ (wsL_law_r16 ++ (wsL_law_r17 ++ (wsL_law_r18 ++ (wsL_law_r19 ++ (wsL_law_r20 ++ (wsL_law_r21 ++ (wsL_law_r22 ++ (wsL_law_r23 ++ (wsL_law_r24 ++ (wsL_law_r25 ++ (wsL_law_r26 ++ (wsL_law_r27 ++ (wsL_law_r28 ++ (wsL_law_r29 ++ (wsL_law_r30 ++ (wsL_law_r31 ++ (wsL_law_r32 ++ (wsL_law_r33 ++ (wsL_law_r34 ++ wsL_law_r35)))))))))))))))))))))))))))))))))) ++ wsX70 ++ wsX80 ++ wsX60 ++ wsX30 ++ wsX40 ++ wsX50 ++ wsX10 ++ wsX20 ++ wsX00 ++ ([] : List Cond)
abbrev vwCl : List vw_C := [(RX0, TX0, 6), (RX1, TX1, 3), (RX2, TX2, 2), (RX3, TX3, 11), (RX4, TX4, 15), (RX5, TX5, 3), (RX6, TX6, 6), (RX7, TX7, 13), (RX8, TX8, 32)]
end
section
/-! words of this proof: numbers of an object as a function (row, place); worlds as lists of chunks, a chunk being an object with its rows of numbers -/
abbrev MM : Type := Nat → Nat → Int32
def st (v : MM) (k : Nat) (f : Nat → Int32) : MM := fun q => bif Nat.beq k q then f else v q
theorem st_eq (v : MM) (k : Nat) (f : Nat → Int32) : st v k f k = f := by simp [st]
theorem st_ne {v : MM} {k q : Nat} {f : Nat → Int32} (h : k ≠ q) : st v k f q = v q := by
  have h2 : Nat.beq k q = false := by
    cases hb : Nat.beq k q with
    | false => rfl
    | true => exact absurd (Nat.eq_of_beq_eq_true hb) h
  simp [st, h2]
abbrev GT : Type := va_G × (ClassId × ClassId × ClassId × ClassId)
abbrev gTy (g : GT) : List (ClassId × FieldType) := [(g.2.1, .int), (g.2.2.1, .char), (g.2.2.2.1, .boolean), (g.2.2.2.2, .object "UpwardGrants$State")]
/-- the links to private members of nest mates -/
def gNest : List (String × Nat × MethodName) := [(RX3, 49, yX7_copyRow), (RX1, 39, yX7_isWithin), (RX4, 71, yX7_copyRow), (RX0, 53, yX7_copyRow), (RX5, 29, yX7_isWithin), (RX7, 9, yX6_init), (RX7, 28, yX4_init), (RX4, 47, yX0_init), (RX1, 24, yX4_init), (RX7, 57, yX2_init), (RX2, 15, yX4_init)]
def gK (g : GT) (U : State) : Prop := va_K g.1 vwCl (gTy g) U ∧ ∀ q ∈ gNest, va_Nw (.methodLinkNest q.1 q.2.1 q.2.2 "UpwardGrants") U
theorem gK.same {g : GT} {u U : State} (h : u.vm = U.vm) (hk : gK g u) : gK g U := ⟨va_K.moved (by rw [h]; exact Vm.Alike.refl _) hk.1, fun q hq => va_Nw.same rfl h (hk.2 q hq)⟩
theorem gK.warm {g : GT} {s U : State} (h : s.WarmedH U.vm) (hk : gK g s) : gK g U := ⟨va_K.moved h.alike hk.1, fun q hq => va_Nw.warmM h (hk.2 q hq)⟩
theorem fl_at {α : Type} : ∀ (ch : List (List α)) (i j : Nat) (c : List α) (x : α), ch[i]? = some c → c[j]? = some x → ∃ q : Nat, ch.flatten[q]? = some x ∧ ∀ y : α, ch.flatten.set q y = (ch.set i (c.set j y)).flatten
  | [], i, j, c, x, h, _ => by simp at h
  | d :: ch, 0, j, c, x, h, hj => by
    simp only [List.getElem?_cons_zero, Option.some.injEq] at h
    subst h
    have hl := (List.getElem?_eq_some_iff.mp hj).1
    refine ⟨j, ?_, fun y => ?_⟩
    · rw [List.flatten_cons, List.getElem?_append_left hl]; exact hj
    · rw [List.flatten_cons, List.set_append, if_pos hl, List.set_cons_zero, List.flatten_cons]
  | d :: ch, i + 1, j, c, x, h, hj => by
    obtain ⟨q, h1, h2⟩ := fl_at ch i j c x (by simpa using h) hj
    refine ⟨d.length + q, ?_, fun y => ?_⟩
    · rw [List.flatten_cons, List.getElem?_append_right (by omega), Nat.add_sub_cancel_left]; exact h1
    · rw [List.flatten_cons, List.set_append, if_neg (by omega), Nat.add_sub_cancel_left, h2 y, List.set_cons_succ, List.flatten_cons]
theorem va_P_iff {D : va_G} {cl : List vw_C} {ws : va_W} {H : Heap} : va_P D cl ws H ↔ ∀ x ∈ ws, va_at D cl x H := ⟨fun h x hx => by
    obtain ⟨k, hk⟩ := List.getElem?_of_mem hx
    exact h k x hk, fun h k q hk => h q (List.mem_of_getElem? hk)⟩
theorem va_D_iff {A : Nat → Prop} {ws : va_W} : va_D A ws ↔ ws.Pairwise (fun p q => p.1 ≠ q.1) ∧ ∀ x ∈ ws, A x.1 := by
  constructor
  · intro hD
    refine ⟨List.pairwise_iff_getElem.mpr fun i j hi hj hij h => ?_, fun x hx => ?_⟩
    · have := hD.1 i j _ _ (List.getElem?_eq_getElem hi) (List.getElem?_eq_getElem hj) h
      omega
    · obtain ⟨k, hk⟩ := List.getElem?_of_mem hx
      exact hD.2 k x hk
  · intro h
    refine ⟨fun i j p q hi hj hpq => ?_, fun k q hk => h.2 q (List.mem_of_getElem? hk)⟩
    obtain ⟨li, ei⟩ := List.getElem?_eq_some_iff.mp hi
    obtain ⟨lj, ej⟩ := List.getElem?_eq_some_iff.mp hj
    rcases Nat.lt_trichotomy i j with q1 | q1 | q1
    · exact absurd (by rw [ei, ej]; exact hpq) (List.pairwise_iff_getElem.mp h.1 i j li lj q1)
    · exact q1
    · exact absurd (by rw [ei, ej]; exact hpq.symm) (List.pairwise_iff_getElem.mp h.1 j i lj li q1)
theorem va_D2 {A : Nat → Prop} {ch : List va_W} : va_D A ch.flatten ↔ (∀ (i j : Nat) (c d : va_W), ch[i]? = some c → ch[j]? = some d → i ≠ j → ∀ x ∈ c, ∀ y ∈ d, x.1 ≠ y.1) ∧ (∀ c ∈ ch, c.Pairwise (fun p q => p.1 ≠ q.1)) ∧ ∀ c ∈ ch, ∀ x ∈ c, A x.1 := by
  rw [va_D_iff, List.pairwise_flatten]
  constructor
  · rintro ⟨⟨h1, h2⟩, h3⟩
    refine ⟨fun i j c d hi hj hij x hx y hy => ?_, h1, fun c hc x hx => h3 x (List.mem_flatten.mpr ⟨c, hc, hx⟩)⟩
    obtain ⟨li, ei⟩ := List.getElem?_eq_some_iff.mp hi
    obtain ⟨lj, ej⟩ := List.getElem?_eq_some_iff.mp hj
    rcases Nat.lt_or_gt_of_ne hij with q | q
    · exact List.pairwise_iff_getElem.mp h2 i j li lj q x (by rw [ei]; exact hx) y (by rw [ej]; exact hy)
    · exact fun z => List.pairwise_iff_getElem.mp h2 j i lj li q y (by rw [ej]; exact hy) x (by rw [ei]; exact hx) z.symm
  · rintro ⟨h1, h2, h3⟩
    refine ⟨⟨h2, List.pairwise_iff_getElem.mpr fun i j hi hj hij x hx y hy => h1 i j _ _ (List.getElem?_eq_getElem hi) (List.getElem?_eq_getElem hj) (by omega) x hx y hy⟩, fun x hx => ?_⟩
    obtain ⟨c, hc, hxc⟩ := List.mem_flatten.mp hx
    exact h3 c hc x hxc
def pAll {α : Type} : List α → List Nat → List α → List α
  | ch, i :: is, c :: cs => pAll (ch.set i c) is cs
  | ch, _, _ => ch
theorem pAll_get {α : Type} : ∀ (is : List Nat) (cs ch : List α) (j : Nat) (x : α), is.length = cs.length → (pAll ch is cs)[j]? = some x → (∃ u : Nat, is[u]? = some j ∧ cs[u]? = some x) ∨ (j ∉ is ∧ ch[j]? = some x)
  | [], cs, ch, j, x, _, h => by
    right
    cases cs <;> exact ⟨by simp, h⟩
  | i :: is, [], ch, j, x, hl, h => by simp at hl
  | i :: is, c :: cs, ch, j, x, hl, h => by
    have h : (pAll (ch.set i c) is cs)[j]? = some x := h
    rcases pAll_get is cs (ch.set i c) j x (by simpa using hl) h with ⟨u, h1, h2⟩ | ⟨h1, h2⟩
    · exact Or.inl ⟨u + 1, by simpa using h1, by simpa using h2⟩
    · by_cases hij : i = j
      · subst hij
        left
        refine ⟨0, by simp, ?_⟩
        have hlt : i < (ch.set i c).length := (List.getElem?_eq_some_iff.mp h2).1
        rw [List.getElem?_set_self (by simpa using hlt)] at h2
        simpa using h2
      · right
        rw [List.getElem?_set_ne hij] at h2
        exact ⟨by simp only [List.mem_cons, not_or]; exact ⟨fun q => hij q.symm, h1⟩, h2⟩
theorem map_at {α β : Type} {is : List Nat} {f : Nat → Option β} {cs : List β} (h : is.map f = cs.map some) : ∀ (u : Nat) (c : β), cs[u]? = some c → ∃ i, is[u]? = some i ∧ f i = some c := by
  intro u c hc
  have h1 : (is.map f)[u]? = some (some c) := by rw [h, List.getElem?_map, hc]; rfl
  rw [List.getElem?_map] at h1
  cases hi : is[u]? with
  | none => rw [hi] at h1; cases h1
  | some i => rw [hi] at h1; exact ⟨i, rfl, Option.some.inj h1⟩
theorem chs_P {D : va_G} {cl : List vw_C} {ch chc : List va_W} {H : Heap} (hP : va_P D cl ch.flatten H) (is : List Nat) (hC : is.map (fun i => ch[i]?) = chc.map some) : va_P D cl chc.flatten H := by
  rw [va_P_iff] at hP ⊢
  intro x hx
  obtain ⟨c, hc, hxc⟩ := List.mem_flatten.mp hx
  obtain ⟨u, hu⟩ := List.getElem?_of_mem hc
  obtain ⟨i, -, hi⟩ := map_at (α := Nat) hC u c hu
  exact hP x (List.mem_flatten.mpr ⟨c, List.mem_of_getElem? hi, hxc⟩)
theorem chs_D {A : Nat → Prop} {ch chc : List va_W} (hD : va_D A ch.flatten) (is : List Nat) (hC : is.map (fun i => ch[i]?) = chc.map some) (hn : va_nd is = true) : va_D A chc.flatten := by
  rw [va_D2] at hD ⊢
  obtain ⟨h1, h2, h3⟩ := hD
  refine ⟨fun i j c d hi hj hij x hx y hy => ?_, fun c hc => ?_, fun c hc x hx => ?_⟩
  · obtain ⟨i', e1, e2⟩ := map_at (α := Nat) hC i c hi
    obtain ⟨j', e3, e4⟩ := map_at (α := Nat) hC j d hj
    refine h1 i' j' c d e2 e4 (fun q => hij ?_) x hx y hy
    subst q
    exact va_nd_inj is hn i j i' e1 e3
  · obtain ⟨u, hu⟩ := List.getElem?_of_mem hc
    obtain ⟨i, -, hi⟩ := map_at (α := Nat) hC u c hu
    exact h2 c (List.mem_of_getElem? hi)
  · obtain ⟨u, hu⟩ := List.getElem?_of_mem hc
    obtain ⟨i, -, hi⟩ := map_at (α := Nat) hC u c hu
    exact h3 c (List.mem_of_getElem? hi) x hx
theorem chs_repl {A : Nat → Prop} {D : va_G} {cl : List vw_C} {ch chc ch1 : List va_W} {H H1 : Heap} (hP : va_P D cl ch.flatten H) (hD : va_D A ch.flatten) (is : List Nat) (hC : is.map (fun i => ch[i]?) = chc.map some) (hn : va_nd is = true) (hlen : chc.length = ch1.length)
    (hk : ∀ q : Nat, q < H.size → ¬ va_A chc.flatten H.size q → H1[q]? = H[q]?) (hF : ∀ q, va_A chc.flatten H.size q → A q) (hP1 : va_P D cl ch1.flatten H1) (hD1 : va_D (va_A chc.flatten H.size) ch1.flatten) : va_P D cl (pAll ch is ch1).flatten H1 ∧ va_D A (pAll ch is ch1).flatten := by
  have hl : is.length = ch1.length := by
    have := congrArg List.length hC
    simp only [List.length_map] at this
    omega
  have hP0 := va_P_iff.mp hP
  obtain ⟨d1, d2, d3⟩ := va_D2.mp hD
  obtain ⟨f1, f2, f3⟩ := va_D2.mp hD1
  have hQ1 := va_P_iff.mp hP1
  have apart : ∀ (j : Nat) (c : va_W), j ∉ is → ch[j]? = some c → ∀ x ∈ c, x.1 < H.size ∧ ¬ va_A chc.flatten H.size x.1 := by
    intro j c hj hc x hx
    have hlt := (hP0 x (List.mem_flatten.mpr ⟨c, List.mem_of_getElem? hc, hx⟩)).lt
    refine ⟨hlt, fun h => ?_⟩
    rcases h with ⟨k, e, h⟩ | h
    · obtain ⟨d, hd, hxd⟩ := List.mem_flatten.mp (List.mem_of_getElem? h)
      obtain ⟨u, hu⟩ := List.getElem?_of_mem hd
      obtain ⟨i, hi, hdi⟩ := map_at (α := Nat) hC u d hu
      exact d1 i j d c hdi hc (fun q => hj (q ▸ List.mem_of_getElem? hi)) _ hxd x hx rfl
    · omega
  refine ⟨va_P_iff.mpr fun x hx => ?_, va_D2.mpr ⟨fun i j c d hi hj hij x hx y hy => ?_, fun c hc => ?_, fun c hc x hx => ?_⟩⟩
  · obtain ⟨c, hc, hxc⟩ := List.mem_flatten.mp hx
    obtain ⟨j, hj⟩ := List.getElem?_of_mem hc
    rcases pAll_get is ch1 ch j c hl hj with ⟨u, h1, h2⟩ | ⟨h1, h2⟩
    · exact hQ1 x (List.mem_flatten.mpr ⟨c, List.mem_of_getElem? h2, hxc⟩)
    · obtain ⟨g1, g2⟩ := apart j c h1 h2 x hxc
      exact (hP0 x (List.mem_flatten.mpr ⟨c, List.mem_of_getElem? h2, hxc⟩)).kept (hk x.1 g1 g2)
  · rcases pAll_get is ch1 ch i c hl hi with ⟨u, h1, h2⟩ | ⟨h1, h2⟩ <;> rcases pAll_get is ch1 ch j d hl hj with ⟨w, h3, h4⟩ | ⟨h3, h4⟩
    · exact f1 u w c d h2 h4 (fun q => hij (by subst q; exact Option.some.inj (h1.symm.trans h3))) x hx y hy
    · exact fun z => (apart j d h3 h4 y hy).2 (by rw [← z]; exact f3 c (List.mem_of_getElem? h2) x hx)
    · exact fun z => (apart i c h1 h2 x hx).2 (by rw [z]; exact f3 d (List.mem_of_getElem? h4) y hy)
    · exact d1 i j c d h2 h4 hij x hx y hy
  · obtain ⟨j, hj⟩ := List.getElem?_of_mem hc
    rcases pAll_get is ch1 ch j c hl hj with ⟨u, h1, h2⟩ | ⟨h1, h2⟩
    · exact f2 c (List.mem_of_getElem? h2)
    · exact d2 c (List.mem_of_getElem? h2)
  · obtain ⟨j, hj⟩ := List.getElem?_of_mem hc
    rcases pAll_get is ch1 ch j c hl hj with ⟨u, h1, h2⟩ | ⟨h1, h2⟩
    · exact hF _ (f3 c (List.mem_of_getElem? h2) x hx)
    · exact d3 c (List.mem_of_getElem? h2) x hx
/-- the world of a walk: chunks, apart, what isn't in them stays -/
def wd (g : GT) (A : Nat → Prop) (H0 : Heap) (ch : List va_W) (H : Heap) (locs : List Loc) : Prop := va_P g.1 vwCl ch.flatten H ∧ va_D A ch.flatten ∧ va_S A H0 H locs
/-- other cuts of the same cells -/
theorem wd.re {g : GT} {A : Nat → Prop} {H0 H : Heap} {ch : List va_W} {locs : List Loc} (h : wd g A H0 ch H locs) {ch' : List va_W} (e : ch.flatten = ch'.flatten) : wd g A H0 ch' H locs := by
  unfold wd at h ⊢
  rw [← e]
  exact h
def ctQ (g : GT) (A : Nat → Prop) (r : Option Value) (ch1 : List va_W) : Array Value → State → Outcome → State → Prop := fun _ st oc t => (oc = .returned r ∧ va_P g.1 vwCl ch1.flatten t.heap ∧ va_D A ch1.flatten) ∧ va_F A st t
def ctP (g : GT) (As : List Value) (ch : List va_W) (sz : Nat) : Array Value → State → Prop := va_Pc As (fun U => U.heap.size = sz ∧ va_P g.1 vwCl ch.flatten U.heap ∧ gK g U ∧ va_D (fun _ => True) ch.flatten)
/-- a method that makes no cells, at these arguments and in this world: its answer and the world behind it -/
def ct (g : GT) (l : Launch) (y : MethodName) (ws : List Cond) (rm : Room) (As : List Value) (ch : List va_W) (r : Option Value) (ch1 : List va_W) : Prop :=
  ∀ sz : Nat, Met l y ws rm (ctP g As ch sz) (ctQ g (va_A ch.flatten sz) r ch1) 0 0 (va_A ch.flatten sz)
theorem ctP_blind {g : GT} {As : List Value} {ch : List va_W} {sz : Nat} : FrameBlind (ctP g As ch sz) := fun a U g mk q => by
  obtain ⟨q0, q1, qP, qK, qD⟩ := q
  exact ⟨q0, q1, qP, gK.same rfl qK, qD⟩
abbrev rmk (f n : Nat) : Room := { frames := f, cells := 0, slots := 0, locals := n }
section GR
variable {p : Program} {l : Launch} {e : Env} {R : Room} {s : State} {m : MethodId} {args : Array Value} {below : List Frame} {meth : Method} {c : Code} {H : Heap} {locs : List Loc} {cells slots : Nat} {Q : State → Prop} {cc : ByteArray} {pc nL : Nat} {ls : Array Slot} {rest : List Value} {g : GT} {A : Nat → Prop} {H0 : Heap} {Ts : List Cond} {own : String} {ch : List va_W}
abbrev cx (g : GT) (p : Program) (m : MethodId) (c : Code) (cc : ByteArray) (nL : Nat) (s : State) (args : Array Value) (Ts : List Cond) (own : String) : Prop := CallFix p m c cc nL s args Ts own ∧ gK g s
theorem ct_of {y : MethodName} {ws ws' : List Cond} {rm : Room} {As : List Value} {r : Option Value} {ch1 : List va_W} {maxL : Nat} {ret : Option FieldType} (hy : plainName y.cls = true) (hw : ws = Cond.code y cc maxL ret :: ws') (hAs : (lg_sl As).length ≤ maxL)
    (body : ∀ (p : Program) (e : Env) (s : State) (m : MethodId) (args : Array Value) (below : List Frame) (meth : Method) (c : Code) (A : Nat → Prop) (ls : Array Slot), cx g p m c cc maxL s args ws y.cls → meth.sig.returnType = ret → meth.locks = false → (∀ q, s.heap.size ≤ q → A q) → wd g A s.heap ch s.heap [] → lv_has ls maxL (lv_args 0 As) →
      W p l e rm s m args below meth c s.heap [] 0 0 (MQ below (ctQ g A r ch1) args s 0 0 A) (F0 m 0 ls [])) : ct g l y ws rm As ch r ch1 := by
  intro sz
  refine Met.ofW (cc := cc) (maxL := maxL) (ret := ret) hy hw ?_
  intro p e s m args below meth c s₁ B hml hv
  obtain ⟨rfl, hsz, hP, hK, hD0⟩ := hv
  subst hsz
  rw [lg_entry_eq]
  exact body p e s m _ below meth c _ _ ⟨⟨B.exec, B.bytes, hml, findClass_of_methodNamed B.named, atoms_spec (ws := ws) B.pre⟩, hK⟩ B.returns B.notSynchronized (fun q h => Or.inr h) ⟨hP, hD0.self, va_S.rf⟩ (lv_entry As hAs)
theorem g_get (C : cx g p m c cc nL s args Ts own) (hW : wd g A H0 ch H locs) {Rn : String} {T : u_T} {N ci index : Nat} (hin : ∀ w ∈ u_ws Rn T N, w ∈ Ts) (i : Nat) {k : va_W} (hi : ch[i]? = some k) {a : Nat} {fs : List Value} (hj : k[0]? = some (a, .inr (ci, fs))) (hc : vwCl[ci]? = some (Rn, T, N)) (f : Nat) (hf : f < N) (hl : Cond.fieldLink own index (T f).1 (T f).2.1 (T f).2.2.1 ∈ Ts) {v : Value} (hv : fs[f]? = some v) (hdg : decode cc pc = .ok (.getfield index, 3))
    (kk : W p l e R s m args below meth c H locs cells slots Q (F0 m (pc + 3) ls (v :: rest))) : W p l e R s m args below meth c H locs cells slots Q (F0 m pc ls (.ref a :: rest)) := by
  obtain ⟨⟨hx, hb, -, hown, hts⟩, hK, -⟩ := C
  obtain ⟨q, hq, -⟩ := fl_at ch i 0 k _ hi hj
  exact va_get hx hb hts hin hown hK hW.1 q hq hc f hf (hts _ hl) (fun _ h => h) hv hdg kk
theorem g_put (C : cx g p m c cc nL s args Ts own) (hW : wd g A H0 ch H locs) {Rn : String} {T : u_T} {N ci index : Nat} (hin : ∀ w ∈ u_ws Rn T N, w ∈ Ts) {ty0 : Nat → FieldType} (hty : ∀ k, k < N → parseFieldDescriptor (T k).2.2.1 = some (ty0 k)) (hnm : ∀ a, a < N → ∀ b, b < N → a ≠ b → (T a).2.1 ≠ (T b).2.1) (i : Nat) {k : va_W} (hi : ch[i]? = some k) {a : Nat} {fs : List Value} (hj : k[0]? = some (a, .inr (ci, fs))) (hc : vwCl[ci]? = some (Rn, T, N)) (f : Nat) (hf : f < N) (hl : Cond.fieldLink own index (T f).1 (T f).2.1 (T f).2.2.1 ∈ Ts) (hfin : (T f).2.2.2 = false) {v : Value} (hn : narrow (ty0 f) v = v) (hfit : fits (ty0 f) v = true) (hlen : Nat.ble (f + 1) fs.length = true) {ch' : List va_W} (he : ch.set i (k.set 0 (a, .inr (ci, fs.set f v))) = ch') (hdg : decode cc pc = .ok (.putfield index, 3))
    (kk : ∀ (H1 : Heap) (locs1 : List Loc), wd g A H0 ch' H1 locs1 → W p l e R s m args below meth c H1 locs1 cells slots Q (F0 m (pc + 3) ls rest)) : W p l e R s m args below meth c H locs cells slots Q (F0 m pc ls (v :: .ref a :: rest)) := by
  obtain ⟨⟨hx, hb, -, hown, hts⟩, hK, -⟩ := C
  obtain ⟨q, hq, hset⟩ := fl_at ch i 0 k _ hi hj
  refine va_put hx hb hts hin ty0 hty hnm hown hK hW.1 hW.2.1 hW.2.2 q hq hc f hf (hts _ hl) (fun _ h => h) hfin (hty f hf) hn hfit (Nat.le_of_ble_eq_true hlen) hdg (fun H1 locs1 hP hD hS => ?_)
  rw [hset, he] at hP hD
  exact kk H1 locs1 ⟨hP, hD, hS⟩
theorem g_iald (C : cx g p m c cc nL s args Ts own) (hW : wd g A H0 ch H locs) (i j : Nat) {k : va_W} (hi : ch[i]? = some k) {a n : Nat} {f : Nat → Int32} (hj : k[j]? = some (a, .inl (g.2.1, n, .inl f))) {ix : Int32} (hin : vp_in ix n) (hdg : decode cc pc = .ok (.iaload, 1))
    (kk : W p l e R s m args below meth c H locs cells slots Q (F0 m (pc + 1) ls (.int (f ix.toNatClampNeg) :: rest))) : W p l e R s m args below meth c H locs cells slots Q (F0 m pc ls (.int ix :: .ref a :: rest)) := by
  obtain ⟨⟨hx, hb, -, hown, hts⟩, hK, -⟩ := C
  obtain ⟨q, hq, -⟩ := fl_at ch i j k _ hi hj
  exact va_iald hx hb hK hW.1 q 0 hq rfl hin hdg kk
theorem g_cald (C : cx g p m c cc nL s args Ts own) (hW : wd g A H0 ch H locs) (i j : Nat) {k : va_W} (hi : ch[i]? = some k) {a n : Nat} {f : Nat → Int32} (hj : k[j]? = some (a, .inl (g.2.2.1, n, .inl f))) {ix : Int32} (hin : vp_in ix n) (hdg : decode cc pc = .ok (.caload, 1))
    (kk : W p l e R s m args below meth c H locs cells slots Q (F0 m (pc + 1) ls (.int (f ix.toNatClampNeg) :: rest))) : W p l e R s m args below meth c H locs cells slots Q (F0 m pc ls (.int ix :: .ref a :: rest)) := by
  obtain ⟨⟨hx, hb, -, hown, hts⟩, hK, -⟩ := C
  obtain ⟨q, hq, -⟩ := fl_at ch i j k _ hi hj
  exact va_cald hx hb hK hW.1 q 1 hq rfl hin hdg kk
theorem g_zald (C : cx g p m c cc nL s args Ts own) (hW : wd g A H0 ch H locs) (i j : Nat) {k : va_W} (hi : ch[i]? = some k) {a n : Nat} {f : Nat → Int32} (hj : k[j]? = some (a, .inl (g.2.2.2.1, n, .inl f))) {ix : Int32} (hin : vp_in ix n) (hdg : decode cc pc = .ok (.baload, 1))
    (kk : W p l e R s m args below meth c H locs cells slots Q (F0 m (pc + 1) ls (.int (f ix.toNatClampNeg) :: rest))) : W p l e R s m args below meth c H locs cells slots Q (F0 m pc ls (.int ix :: .ref a :: rest)) := by
  obtain ⟨⟨hx, hb, -, hown, hts⟩, hK, -⟩ := C
  obtain ⟨q, hq, -⟩ := fl_at ch i j k _ hi hj
  exact va_zald hx hb hK hW.1 q 2 hq rfl hin hdg kk
theorem g_aald (C : cx g p m c cc nL s args Ts own) (hW : wd g A H0 ch H locs) (i j : Nat) {k : va_W} (hi : ch[i]? = some k) {a n : Nat} {f : Nat → Option Nat} (hj : k[j]? = some (a, .inl (g.2.2.2.2, n, .inr (.inr (.inr (.inr f)))))) {ix : Int32} (hin : vp_in ix n) (hdg : decode cc pc = .ok (.aaload, 1))
    (kk : W p l e R s m args below meth c H locs cells slots Q (F0 m (pc + 1) ls (va_rf (f ix.toNatClampNeg) :: rest))) : W p l e R s m args below meth c H locs cells slots Q (F0 m pc ls (.int ix :: .ref a :: rest)) := by
  obtain ⟨⟨hx, hb, -, hown, hts⟩, hK, -⟩ := C
  obtain ⟨q, hq, -⟩ := fl_at ch i j k _ hi hj
  exact va_aldq (C := "UpwardGrants$State") hx hb hK hW.1 q 3 hq rfl hin hdg kk
theorem g_iast (C : cx g p m c cc nL s args Ts own) (hW : wd g A H0 ch H locs) (i j : Nat) {k : va_W} (hi : ch[i]? = some k) {a n : Nat} {f : Nat → Int32} (hj : k[j]? = some (a, .inl (g.2.1, n, .inl f))) {ix x : Int32} (hin : vp_in ix n) {ch' : List va_W} (he : ch.set i (k.set j (a, .inl (g.2.1, n, .inl (upd f ix.toNatClampNeg x)))) = ch') (hdg : decode cc pc = .ok (.iastore, 1))
    (kk : ∀ (H1 : Heap) (locs1 : List Loc), wd g A H0 ch' H1 locs1 → W p l e R s m args below meth c H1 locs1 cells slots Q (F0 m (pc + 1) ls rest)) : W p l e R s m args below meth c H locs cells slots Q (F0 m pc ls (.int x :: .int ix :: .ref a :: rest)) := by
  obtain ⟨⟨hx, hb, -, hown, hts⟩, hK, -⟩ := C
  obtain ⟨q, hq, hset⟩ := fl_at ch i j k _ hi hj
  refine va_iast hx hb hK hW.1 hW.2.1 hW.2.2 q 0 hq rfl hin hdg (fun H1 locs1 hP hD hS => ?_)
  rw [hset, he] at hP hD
  exact kk H1 locs1 ⟨hP, hD, hS⟩
theorem g_cast (C : cx g p m c cc nL s args Ts own) (hW : wd g A H0 ch H locs) (i j : Nat) {k : va_W} (hi : ch[i]? = some k) {a n : Nat} {f : Nat → Int32} (hj : k[j]? = some (a, .inl (g.2.2.1, n, .inl f))) {ix x : Int32} (hin : vp_in ix n) {ch' : List va_W} (he : ch.set i (k.set j (a, .inl (g.2.2.1, n, .inl (upd f ix.toNatClampNeg (vp_nar .char x))))) = ch') (hdg : decode cc pc = .ok (.castore, 1))
    (kk : ∀ (H1 : Heap) (locs1 : List Loc), wd g A H0 ch' H1 locs1 → W p l e R s m args below meth c H1 locs1 cells slots Q (F0 m (pc + 1) ls rest)) : W p l e R s m args below meth c H locs cells slots Q (F0 m pc ls (.int x :: .int ix :: .ref a :: rest)) := by
  obtain ⟨⟨hx, hb, -, hown, hts⟩, hK, -⟩ := C
  obtain ⟨q, hq, hset⟩ := fl_at ch i j k _ hi hj
  refine va_cast hx hb hK hW.1 hW.2.1 hW.2.2 q 1 hq rfl hin hdg (fun H1 locs1 hP hD hS => ?_)
  rw [hset, he] at hP hD
  exact kk H1 locs1 ⟨hP, hD, hS⟩
theorem g_zast (C : cx g p m c cc nL s args Ts own) (hW : wd g A H0 ch H locs) (i j : Nat) {k : va_W} (hi : ch[i]? = some k) {a n : Nat} {f : Nat → Int32} (hj : k[j]? = some (a, .inl (g.2.2.2.1, n, .inl f))) {ix x : Int32} (hin : vp_in ix n) {ch' : List va_W} (he : ch.set i (k.set j (a, .inl (g.2.2.2.1, n, .inl (upd f ix.toNatClampNeg (vp_nar .boolean x))))) = ch') (hdg : decode cc pc = .ok (.bastore, 1))
    (kk : ∀ (H1 : Heap) (locs1 : List Loc), wd g A H0 ch' H1 locs1 → W p l e R s m args below meth c H1 locs1 cells slots Q (F0 m (pc + 1) ls rest)) : W p l e R s m args below meth c H locs cells slots Q (F0 m pc ls (.int x :: .int ix :: .ref a :: rest)) := by
  obtain ⟨⟨hx, hb, -, hown, hts⟩, hK, -⟩ := C
  obtain ⟨q, hq, hset⟩ := fl_at ch i j k _ hi hj
  refine va_zast hx hb hK hW.1 hW.2.1 hW.2.2 q 2 hq rfl hin hdg (fun H1 locs1 hP hD hS => ?_)
  rw [hset, he] at hP hD
  exact kk H1 locs1 ⟨hP, hD, hS⟩
theorem g_alen (C : cx g p m c cc nL s args Ts own) (hW : wd g A H0 ch H locs) (i j t0 : Nat) {k : va_W} (hi : ch[i]? = some k) {a : Nat} {cA : ClassId} {x : vp_A} (hj : k[j]? = some (a, .inl (cA, x))) {ty : FieldType} (ht : (gTy g)[t0]? = some (cA, ty)) {v : Int32} (hv : Int32.ofNat x.1 = v) (hdg : decode cc pc = .ok (.arraylength, 1))
    (kk : W p l e R s m args below meth c H locs cells slots Q (F0 m (pc + 1) ls (.int v :: rest))) : W p l e R s m args below meth c H locs cells slots Q (F0 m pc ls (.ref a :: rest)) := by
  obtain ⟨⟨hx, hb, -, hown, hts⟩, hK, -⟩ := C
  obtain ⟨q, hq, -⟩ := fl_at ch i j k _ hi hj
  exact va_alen hx hb hK hW.1 q t0 hq ht hv hdg kk
/-- behind a call: the callee's chunks are put at their places -/
theorem g_call {chc ch1 : List va_W} {r : Option Value} {st0 : List Value} {a : Array Value} (hr : va_Run p l e R s m args below meth c H locs cells slots 0 0 (F0 m pc ls st0) rest (ctQ g (va_A chc.flatten H.size) r ch1 a) (va_A chc.flatten H.size)) (hW : wd g A H0 ch H locs) (hA : ∀ q, H0.size ≤ q → A q) (is : List Nat) (hC : is.map (fun i => ch[i]?) = chc.map some) (hn : va_nd is = true) (hlen : chc.length = ch1.length) {ch' : List va_W} (he : pAll ch is ch1 = ch')
    (kk : ∀ (H1 : Heap) (locs1 : List Loc), wd g A H0 ch' H1 locs1 → W p l e R s m args below meth c H1 locs1 cells slots Q (F0 m (pc + 3) ls (r.toList ++ rest))) : W p l e R s m args below meth c H locs cells slots Q (F0 m pc ls st0) := by
  intro T hT X
  obtain ⟨v, st₀, t, T', L, h0, X', hL, e1, e2, ⟨⟨hv, hP1, hD1⟩, hz, hk⟩, st⟩ := hr T hT X
  cases hv
  rw [h0] at hz hk
  obtain ⟨hP, hD, hS⟩ := hW
  have hF : ∀ q, va_A chc.flatten H.size q → A q := by
    intro q h
    rcases h with ⟨k, e, h⟩ | h
    · exact (chs_D hD is hC hn).2 k _ h
    · exact hA q (Nat.le_trans hS.1 h)
  obtain ⟨g1, g2⟩ := chs_repl (H1 := T'.heap) hP hD is hC hn hlen (fun q h1 h2 => by rw [e1]; exact hk q h1 h2) hF (by rw [e1]; exact hP1) hD1
  rw [he] at g1 g2
  obtain ⟨t2, a1, b1⟩ := kk T'.heap (locs ++ L) ⟨g1, g2, Nat.le_trans hS.1 (by rw [e1]; exact hz), fun q h1 h2 => by rw [e1, hk q (Nat.lt_of_lt_of_le h1 hS.1) (fun z => h2 (hF q z))]; exact hS.2.1 q h1 h2, fun q hq => by
      rcases List.mem_append.mp hq with h | h
      · exact hS.2.2 q h
      · exact hF _ (hL q h)⟩ T' rfl X'
  exact ⟨t2, st t2 a1, b1⟩
theorem g_pre {Cn : String} {b : Nat} {As : List Value} {chc : List va_W} (C : cx g p m c cc nL s args Ts own) (hW : wd g A H0 ch H locs) (is : List Nat) (hC : is.map (fun i => ch[i]?) = chc.map some) (hn : va_nd is = true) : ∀ U : State, U.heap = H → s.WarmedH U.vm → ctP g As chc H.size As.toArray U := fun U hU hw => ⟨rfl, by rw [hU], by rw [hU]; exact chs_P hW.1 is hC, C.2.warm hw, (chs_D hW.2.1 is hC hn).weaken (fun _ _ _ _ => trivial)⟩
variable {y : MethodName} {bytes : ByteArray} {maxL index n : Nat} {ret : Option FieldType} {wsy wsy' : List Cond} {rm : Room} {b : Nat} {As : List Value} {chc ch1 ch' : List va_W} {lvs : List (Nat × Value)} {Cn : String}
/-- what a callee's room asks of the caller's -/
abbrev rOK (rm R : Room) (maxL cells slots : Nat) : Prop := rm.cells = 0 ∧ rm.slots = 0 ∧ (rm.frames + 1 ≤ R.frames ∧ 8 + (maxL + 11) + rm.locals ≤ R.locals) ∧ cells ≤ R.cells ∧ slots ≤ R.slots
theorem g_cV {v : Value} (C : cx g p m c cc nL s args Ts own) (hM : ct g l y wsy rm (.ref b :: As) chc (some v) ch1) (hG : GoodIn Ts (wsV own index Cn y wsy)) (hw : wsy = Cond.code y bytes maxL ret :: wsy') (n : Nat) (hd : y.cls = Cn ∧ y.cls ≠ "java/lang/invoke/MethodHandle" ∧ y.cls ≠ "java/lang/invoke/VarHandle" ∧ (parseMethodDescriptor y.desc).map (fun d => d.parameters.length) = some n) (hR : rOK rm R maxL cells slots) (hnA : As.length = n) (hl : lv_has ls nL lvs) (hrest : (rest.map fun v => v.category).sum ≤ 8) (hdg : decode cc pc = .ok (.invokevirtual index, 3)) {st0 : List Value} (hst : st0 = As.reverse ++ .ref b :: rest)
    (hW : wd g A H0 ch H locs) (hA : ∀ q, H0.size ≤ q → A q) (is : List Nat) (hC : is.map (fun i => ch[i]?) = chc.map some) (hn : va_nd is = true) (hlen : chc.length = ch1.length) (he : pAll ch is ch1 = ch') (ir : Nat) {kr : va_W} (hir : ch[ir]? = some kr) {ci : Nat} {fs : List Value} (hkr : kr[0]? = some (b, .inr (ci, fs))) {T : u_T} {N : Nat} (hcl : vwCl[ci]? = some (Cn, T, N))
    (kk : ∀ (H1 : Heap) (locs1 : List Loc), wd g A H0 ch' H1 locs1 → W p l e R s m args below meth c H1 locs1 cells slots Q (F0 m (pc + 3) ls (v :: rest))) : W p l e R s m args below meth c H locs cells slots Q (F0 m pc ls st0) := by
  obtain ⟨q, hq, -⟩ := fl_at ch ir 0 kr _ hir hkr
  subst hst
  exact g_call (va_runV C.1 (hM H.size) (cwV n C.1.2.2.2.2 hG hw hR.1 hR.2.1 hd hR.2.2.1) ⟨ctP_blind, va_recv C.2.1 hW.1 hcl hq, g_pre C hW (Cn := "") (b := 0) is hC hn⟩ rfl hnA hl.1 rfl (lv_room hrest) hdg hR.2.2.2) hW hA is hC hn hlen he kk
theorem g_cVv (C : cx g p m c cc nL s args Ts own) (hM : ct g l y wsy rm (.ref b :: As) chc none ch1) (hG : GoodIn Ts (wsV own index Cn y wsy)) (hw : wsy = Cond.code y bytes maxL ret :: wsy') (n : Nat) (hd : y.cls = Cn ∧ y.cls ≠ "java/lang/invoke/MethodHandle" ∧ y.cls ≠ "java/lang/invoke/VarHandle" ∧ (parseMethodDescriptor y.desc).map (fun d => d.parameters.length) = some n) (hR : rOK rm R maxL cells slots) (hnA : As.length = n) (hl : lv_has ls nL lvs) (hrest : (rest.map fun v => v.category).sum ≤ 8) (hdg : decode cc pc = .ok (.invokevirtual index, 3)) {st0 : List Value} (hst : st0 = As.reverse ++ .ref b :: rest)
    (hW : wd g A H0 ch H locs) (hA : ∀ q, H0.size ≤ q → A q) (is : List Nat) (hC : is.map (fun i => ch[i]?) = chc.map some) (hn : va_nd is = true) (hlen : chc.length = ch1.length) (he : pAll ch is ch1 = ch') (ir : Nat) {kr : va_W} (hir : ch[ir]? = some kr) {ci : Nat} {fs : List Value} (hkr : kr[0]? = some (b, .inr (ci, fs))) {T : u_T} {N : Nat} (hcl : vwCl[ci]? = some (Cn, T, N))
    (kk : ∀ (H1 : Heap) (locs1 : List Loc), wd g A H0 ch' H1 locs1 → W p l e R s m args below meth c H1 locs1 cells slots Q (F0 m (pc + 3) ls rest)) : W p l e R s m args below meth c H locs cells slots Q (F0 m pc ls st0) := by
  obtain ⟨q, hq, -⟩ := fl_at ch ir 0 kr _ hir hkr
  subst hst
  exact g_call (va_runV C.1 (hM H.size) (cwV n C.1.2.2.2.2 hG hw hR.1 hR.2.1 hd hR.2.2.1) ⟨ctP_blind, va_recv C.2.1 hW.1 hcl hq, g_pre C hW (Cn := "") (b := 0) is hC hn⟩ rfl hnA hl.1 rfl (lv_room hrest) hdg hR.2.2.2) hW hA is hC hn hlen he kk
theorem g_cS {v : Value} (C : cx g p m c cc nL s args Ts own) (hM : ct g l y wsy rm As chc (some v) ch1) (hG : GoodIn Ts (va_wsS own index y wsy)) (hw : wsy = Cond.code y bytes maxL ret :: wsy') (n : Nat) (hd : y.cls ≠ "java/lang/invoke/MethodHandle" ∧ y.cls ≠ "java/lang/invoke/VarHandle" ∧ (parseMethodDescriptor y.desc).map (fun d => d.parameters.length) = some n) (hR : rOK rm R maxL cells slots) (hnA : As.length = n) (hl : lv_has ls nL lvs) (hrest : (rest.map fun v => v.category).sum ≤ 8) (hdg : decode cc pc = .ok (.invokestatic index, 3)) {st0 : List Value} (hst : st0 = As.reverse ++ rest)
    (hW : wd g A H0 ch H locs) (hA : ∀ q, H0.size ≤ q → A q) (is : List Nat) (hC : is.map (fun i => ch[i]?) = chc.map some) (hn : va_nd is = true) (hlen : chc.length = ch1.length) (he : pAll ch is ch1 = ch')
    (kk : ∀ (H1 : Heap) (locs1 : List Loc), wd g A H0 ch' H1 locs1 → W p l e R s m args below meth c H1 locs1 cells slots Q (F0 m (pc + 3) ls (v :: rest))) : W p l e R s m args below meth c H locs cells slots Q (F0 m pc ls st0) := by
  subst hst
  exact g_call (va_runS C.1 (hM H.size) (va_cwS n C.1.2.2.2.2 hG hw hR.1 hR.2.1 hd hR.2.2.1) ⟨ctP_blind, g_pre C hW (Cn := "") (b := 0) is hC hn⟩ rfl hnA hl.1 rfl (lv_room hrest) hdg hR.2.2.2) hW hA is hC hn hlen he kk
theorem g_cSv (C : cx g p m c cc nL s args Ts own) (hM : ct g l y wsy rm As chc none ch1) (hG : GoodIn Ts (va_wsS own index y wsy)) (hw : wsy = Cond.code y bytes maxL ret :: wsy') (n : Nat) (hd : y.cls ≠ "java/lang/invoke/MethodHandle" ∧ y.cls ≠ "java/lang/invoke/VarHandle" ∧ (parseMethodDescriptor y.desc).map (fun d => d.parameters.length) = some n) (hR : rOK rm R maxL cells slots) (hnA : As.length = n) (hl : lv_has ls nL lvs) (hrest : (rest.map fun v => v.category).sum ≤ 8) (hdg : decode cc pc = .ok (.invokestatic index, 3)) {st0 : List Value} (hst : st0 = As.reverse ++ rest)
    (hW : wd g A H0 ch H locs) (hA : ∀ q, H0.size ≤ q → A q) (is : List Nat) (hC : is.map (fun i => ch[i]?) = chc.map some) (hn : va_nd is = true) (hlen : chc.length = ch1.length) (he : pAll ch is ch1 = ch')
    (kk : ∀ (H1 : Heap) (locs1 : List Loc), wd g A H0 ch' H1 locs1 → W p l e R s m args below meth c H1 locs1 cells slots Q (F0 m (pc + 3) ls rest)) : W p l e R s m args below meth c H locs cells slots Q (F0 m pc ls st0) := by
  subst hst
  exact g_call (va_runS C.1 (hM H.size) (va_cwS n C.1.2.2.2.2 hG hw hR.1 hR.2.1 hd hR.2.2.1) ⟨ctP_blind, g_pre C hW (Cn := "") (b := 0) is hC hn⟩ rfl hnA hl.1 rfl (lv_room hrest) hdg hR.2.2.2) hW hA is hC hn hlen he kk
theorem g_cSN {v : Value} (C : cx g p m c cc nL s args Ts own) (hM : ct g l y wsy rm As chc (some v) ch1) (hG : GoodIn Ts wsy) (hw : wsy = Cond.code y bytes maxL ret :: wsy') (n : Nat) (hd : y.cls ≠ "java/lang/invoke/MethodHandle" ∧ y.cls ≠ "java/lang/invoke/VarHandle" ∧ (parseMethodDescriptor y.desc).map (fun d => d.parameters.length) = some n) (hnest : (own, index, y) ∈ gNest) (hst2 : Cond.static y ∈ Ts) (hini : Cond.initialized y.cls ∈ Ts) (hR : rOK rm R maxL cells slots) (hnA : As.length = n) (hl : lv_has ls nL lvs) (hrest : (rest.map fun v => v.category).sum ≤ 8) (hdg : decode cc pc = .ok (.invokestatic index, 3)) {st0 : List Value} (hst : st0 = As.reverse ++ rest)
    (hW : wd g A H0 ch H locs) (hA : ∀ q, H0.size ≤ q → A q) (is : List Nat) (hC : is.map (fun i => ch[i]?) = chc.map some) (hn : va_nd is = true) (hlen : chc.length = ch1.length) (he : pAll ch is ch1 = ch')
    (kk : ∀ (H1 : Heap) (locs1 : List Loc), wd g A H0 ch' H1 locs1 → W p l e R s m args below meth c H1 locs1 cells slots Q (F0 m (pc + 3) ls (v :: rest))) : W p l e R s m args below meth c H locs cells slots Q (F0 m pc ls st0) := by
  subst hst
  exact g_call (va_runSN C.1 (hM H.size) ⟨va_cnB n C.1.2.2.2.2 hG hw hR.1 hR.2.1 (C.2.2 _ hnest) (C.1.2.2.2.2 _ hini) hd hR.2.2.1, C.1.2.2.2.2 _ hst2, trivial⟩ ⟨ctP_blind, g_pre C hW (Cn := "") (b := 0) is hC hn⟩ rfl hnA hl.1 rfl (lv_room hrest) hdg hR.2.2.2) hW hA is hC hn hlen he kk
theorem g_cSNv (C : cx g p m c cc nL s args Ts own) (hM : ct g l y wsy rm As chc none ch1) (hG : GoodIn Ts wsy) (hw : wsy = Cond.code y bytes maxL ret :: wsy') (n : Nat) (hd : y.cls ≠ "java/lang/invoke/MethodHandle" ∧ y.cls ≠ "java/lang/invoke/VarHandle" ∧ (parseMethodDescriptor y.desc).map (fun d => d.parameters.length) = some n) (hnest : (own, index, y) ∈ gNest) (hst2 : Cond.static y ∈ Ts) (hini : Cond.initialized y.cls ∈ Ts) (hR : rOK rm R maxL cells slots) (hnA : As.length = n) (hl : lv_has ls nL lvs) (hrest : (rest.map fun v => v.category).sum ≤ 8) (hdg : decode cc pc = .ok (.invokestatic index, 3)) {st0 : List Value} (hst : st0 = As.reverse ++ rest)
    (hW : wd g A H0 ch H locs) (hA : ∀ q, H0.size ≤ q → A q) (is : List Nat) (hC : is.map (fun i => ch[i]?) = chc.map some) (hn : va_nd is = true) (hlen : chc.length = ch1.length) (he : pAll ch is ch1 = ch')
    (kk : ∀ (H1 : Heap) (locs1 : List Loc), wd g A H0 ch' H1 locs1 → W p l e R s m args below meth c H1 locs1 cells slots Q (F0 m (pc + 3) ls rest)) : W p l e R s m args below meth c H locs cells slots Q (F0 m pc ls st0) := by
  subst hst
  exact g_call (va_runSN C.1 (hM H.size) ⟨va_cnB n C.1.2.2.2.2 hG hw hR.1 hR.2.1 (C.2.2 _ hnest) (C.1.2.2.2.2 _ hini) hd hR.2.2.1, C.1.2.2.2.2 _ hst2, trivial⟩ ⟨ctP_blind, g_pre C hW (Cn := "") (b := 0) is hC hn⟩ rfl hnA hl.1 rfl (lv_room hrest) hdg hR.2.2.2) hW hA is hC hn hlen he kk
theorem g_mmax (C : cx g p m c cc nL s args Ts own) (hl : lv_has ls nL lvs) (h1 : Cond.methodLink own index Lib.Math.max.name ∈ Ts) (h2 : Cond.static Lib.Math.max.name ∈ Ts) (h3 : Cond.initialized "java/lang/Math" ∈ Ts) (h4 : Cond.code Lib.Math.max.name Lib.Math.max.code 2 (some .int) ∈ Ts) (hR : 1 ≤ R.frames ∧ 21 ≤ R.locals ∧ cells ≤ R.cells ∧ slots ≤ R.slots) (hrest : (rest.map fun v => v.category).sum ≤ 8) {x y : Int32} (hdg : decode cc pc = .ok (.invokestatic index, 3))
    (kk : W p l e R s m args below meth c H locs cells slots Q (F0 m (pc + 3) ls (.int (if x < y then y else x) :: rest))) : W p l e R s m args below meth c H locs cells slots Q (F0 m pc ls (.int y :: .int x :: rest)) := by
  have hts := C.1.2.2.2.2
  exact va_mmax C.1.1 C.1.2.1 (by rw [C.1.2.2.1, hl.1]) C.1.2.2.2.1 (hts _ h1) (hts _ h2) (hts _ h3) (hts _ h4) hR.1 (by have := hR.2.1; omega) hR.2.2.1 hR.2.2.2 hdg kk
theorem g_mmin (C : cx g p m c cc nL s args Ts own) (hl : lv_has ls nL lvs) (h1 : Cond.methodLink own index Lib.Math.min.name ∈ Ts) (h2 : Cond.static Lib.Math.min.name ∈ Ts) (h3 : Cond.initialized "java/lang/Math" ∈ Ts) (h4 : Cond.code Lib.Math.min.name Lib.Math.min.code 2 (some .int) ∈ Ts) (hR : 1 ≤ R.frames ∧ 21 ≤ R.locals ∧ cells ≤ R.cells ∧ slots ≤ R.slots) (hrest : (rest.map fun v => v.category).sum ≤ 8) {x y : Int32} (hdg : decode cc pc = .ok (.invokestatic index, 3))
    (kk : W p l e R s m args below meth c H locs cells slots Q (F0 m (pc + 3) ls (.int (if y < x then y else x) :: rest))) : W p l e R s m args below meth c H locs cells slots Q (F0 m pc ls (.int y :: .int x :: rest)) := by
  have hts := C.1.2.2.2.2
  exact va_mmin C.1.1 C.1.2.1 (by rw [C.1.2.2.1, hl.1]) C.1.2.2.2.1 (hts _ h1) (hts _ h2) (hts _ h3) (hts _ h4) hR.1 (by have := hR.2.1; omega) hR.2.2.1 hR.2.2.2 hdg kk
/-- a tableswitch that is met, and one that isn't -/
theorem g_tsw (C : cx g p m c cc nL s args Ts own) {dflt lo hi : Int} {offs : Array Int} {len : Nat} {x k : Int32} {off : Int} {tgt : Nat} (hx : x = k) (hdg : decode cc pc = .ok (.tableswitch dflt lo hi offs, len)) (hk : (decide (k.toInt < lo) || decide (hi < k.toInt)) = false) (ho : offs[(k.toInt - lo).toNat]? = some off) (ht : (pc : Int) + off = (tgt : Int))
    (kk : W p l e R s m args below meth c H locs cells slots Q (F0 m tgt ls rest)) : W p l e R s m args below meth c H locs cells slots Q (F0 m pc ls (.int x :: rest)) := by
  subst hx
  simp only [Bool.or_eq_false_iff, decide_eq_false_iff_not] at hk
  exact lv_tableIn C.1.1 C.1.2.1 hdg hk.1 hk.2 ho ht kk
def acb (sp dp w : Int32) (n n' : Nat) : Bool := !(decide (sp < 0) || decide (dp < 0) || decide (w < 0)) && Nat.ble (sp.toNatClampNeg + w.toNatClampNeg) n && Nat.ble (dp.toNatClampNeg + w.toNatClampNeg) n'
theorem g_acp (C : cx g p m c cc nL s args Ts own) (hW : wd g A H0 ch H locs) (hl : lv_has ls nL lvs) (h1 : Cond.methodLink own index arraycopyName ∈ Ts) (h2 : Cond.native arraycopyName ∈ Ts) (h3 : Cond.static arraycopyName ∈ Ts) (h4 : Cond.initialized "java/lang/System" ∈ Ts) (i j i' j' : Nat) {k k' : va_W} {a n b2 n' : Nat} {f f' : Nat → Int32} (hi : ch[i]? = some k) (hj : k[j]? = some (a, .inl (g.2.1, n, .inl f))) (hi' : ch[i']? = some k') (hj' : k'[j']? = some (b2, .inl (g.2.1, n', .inl f'))) {sp dp w : Int32} (hc : acb sp dp w n n' = true) (hR : 1 ≤ R.frames ∧ 8 + (nativeFrameWords "java/lang/System" "arraycopy" 5 + 11) ≤ R.locals) (hrest : (rest.map fun v => v.category).sum ≤ 8) (he : ch.set i' (k'.set j' (b2, .inl (g.2.1, n', .inl (va_cpy f f' sp.toNatClampNeg dp.toNatClampNeg w.toNatClampNeg)))) = ch') (hdg : decode cc pc = .ok (.invokestatic index, 3))
    (kk : ∀ (H1 : Heap) (locs1 : List Loc), wd g A H0 ch' H1 locs1 → W p l e R s m args below meth c H1 locs1 cells slots Q (F0 m (pc + 3) ls rest)) : W p l e R s m args below meth c H locs cells slots Q (F0 m pc ls (.int w :: .int dp :: .ref b2 :: .int sp :: .ref a :: rest)) := by
  obtain ⟨q, hq, -⟩ := fl_at ch i j k _ hi hj
  obtain ⟨q', hq', hset⟩ := fl_at ch i' j' k' _ hi' hj'
  unfold acb at hc
  simp only [Bool.and_eq_true, Bool.not_eq_true', Bool.or_eq_false_iff, decide_eq_false_iff_not] at hc
  have hts := C.1.2.2.2.2
  refine va_copyi C.1.1 C.1.2.1 (by rw [C.1.2.2.1, hl.1]) C.1.2.2.2.1 (hts _ h1) (hts _ h2) (hts _ h3) (hts _ h4) C.2.1 hW.1 hW.2.1 hW.2.2 q q' 0 0 hq hq' rfl rfl rfl hc.1.1.1.1 hc.1.1.1.2 hc.1.1.2 (Nat.le_of_ble_eq_true hc.1.2) (Nat.le_of_ble_eq_true hc.2) (fun _ _ => rfl) hR.1 (by have := hR.2; omega) hdg (fun H1 locs1 hP hD hS => ?_)
  rw [hset, he] at hP hD
  exact kk H1 locs1 ⟨hP, hD, hS⟩
/-- the ends -/
theorem g_iret {v : Int32} {r : Option Value} {ch1 : List va_W} (C : cx g p m c cc nL s args Ts own) (hr : meth.sig.returnType = some .int) (hk : meth.locks = false) (hW : wd g A s.heap ch H locs) (hv : r = some (.int v)) (hc : ch1 = ch) (hdg : decode cc pc = .ok (.ireturn, 1)) : W p l e R s m args below meth c H locs 0 0 (MQ below (ctQ g A r ch1) args s 0 0 A) (F0 m pc ls [.int v]) := by
  subst hv; subst hc
  exact W.iret C.1.1 C.1.2.1 hr (fun t ht hw => ⟨⟨rfl, by rw [ht]; exact hW.1, hW.2.1⟩, hW.2.2.F ht⟩) hW.2.2.2.2 hdg hk
theorem g_zret {v : Int32} {r : Option Value} {ch1 : List va_W} (C : cx g p m c cc nL s args Ts own) {ty : FieldType} (hr : meth.sig.returnType = some ty) (hk : meth.locks = false) (hW : wd g A s.heap ch H locs) (hn : narrow ty (.int v) = .int v) (hv : r = some (.int v)) (hc : ch1 = ch) (hdg : decode cc pc = .ok (.ireturn, 1)) : W p l e R s m args below meth c H locs 0 0 (MQ below (ctQ g A r ch1) args s 0 0 A) (F0 m pc ls [.int v]) := by
  subst hv; subst hc
  exact W.zret C.1.1 C.1.2.1 hr hn (fun t ht hw => ⟨⟨rfl, by rw [ht]; exact hW.1, hW.2.1⟩, hW.2.2.F ht⟩) hW.2.2.2.2 hdg hk
theorem g_vret {r : Option Value} {ch1 : List va_W} (C : cx g p m c cc nL s args Ts own) (hr : meth.sig.returnType = none) (hk : meth.locks = false) (hW : wd g A s.heap ch H locs) (hv : r = none) (hc : ch1 = ch) (hdg : decode cc pc = .ok (.return_, 1)) : W p l e R s m args below meth c H locs 0 0 (MQ below (ctQ g A r ch1) args s 0 0 A) (F0 m pc ls []) := by
  subst hv; subst hc
  exact W.vret C.1.1 C.1.2.1 hr (fun t ht hw => ⟨⟨rfl, by rw [ht]; exact hW.1, hW.2.1⟩, hW.2.2.F ht⟩) hW.2.2.2.2 hdg hk
theorem g_aret {v : Value} {r : Option Value} {ch1 : List va_W} (C : cx g p m c cc nL s args Ts own) {n : String} (hr : meth.sig.returnType = some (.object n)) (hk : meth.locks = false) (hW : wd g A s.heap ch H locs) (hvv : v = .null ∨ ∃ a, v = .ref a) (hv : r = some v) (hc : ch1 = ch) (hdg : decode cc pc = .ok (.areturn, 1)) : W p l e R s m args below meth c H locs 0 0 (MQ below (ctQ g A r ch1) args s 0 0 A) (F0 m pc ls [v]) := by
  subst hv; subst hc
  exact W.aret C.1.1 C.1.2.1 hr (Or.inl ⟨_, rfl⟩) hvv (fun t ht hw => ⟨⟨rfl, by rw [ht]; exact hW.1, hW.2.1⟩, hW.2.2.F ht⟩) hW.2.2.2.2 hdg hk
end GR
/-- checks and binds of the functions that the methods are -/
theorem gd_of {c : Prop} {i : Decidable c} {α : Type} {e : Option α} {r : α} (h : (@ite _ c i e none) = some r) : c ∧ e = some r := by
  by_cases hc : c
  · rw [if_pos hc] at h; exact ⟨hc, h⟩
  · rw [if_neg hc] at h; cases h
theorem bd_of {α β : Type} {x : Option α} {k : α → Option β} {r : β} (h : x.bind k = some r) : ∃ y, x = some y ∧ k y = some r := by
  cases x with
  | none => cases h
  | some y => exact ⟨y, rfl, h⟩
def ib (i : Int32) (n : Nat) : Bool := !(decide (i < 0) || Nat.ble n i.toNatClampNeg)
theorem ib_in {i : Int32} {n : Nat} (h : ib i n = true) : vp_in i n := by
  unfold ib at h
  unfold vp_in
  simp only [Bool.not_eq_true', Bool.or_eq_false_iff, decide_eq_false_iff_not] at h
  rintro (q | q)
  · exact h.1 q
  · rw [Nat.ble_eq_true_of_le q] at h
    exact absurd h.2 (by decide)
def zb (x : Int32) : Bool := decide (x = 0) || decide (x = 1)
theorem zb_nar {x : Int32} (h : zb x = true) : narrow .boolean (.int x) = .int x := by
  unfold zb at h
  simp only [Bool.or_eq_true, decide_eq_true_eq] at h
  rcases h with rfl | rfl <;> rfl
def cb (x : Int32) : Bool := !decide (x < 0) && decide (x ≤ 65535)
theorem cb_nar {x : Int32} (h : cb x = true) : narrow .char (.int x) = .int x := by
  unfold cb at h
  simp only [Bool.and_eq_true, Bool.not_eq_true', decide_eq_false_iff_not, decide_eq_true_eq] at h
  obtain ⟨j, hj, rfl⟩ := nI_of2 (n := 65535) (by decide) h.1 h.2
  exact (pk_charN (by omega)).1
end
section
def rw8 (b0 b1 b2 b3 b4 b5 b6 b7 : Nat) : Nat → Option Nat := fun j => match j with | 0 => some b0 | 1 => some b1 | 2 => some b2 | 3 => some b3 | 4 => some b4 | 5 => some b5 | 6 => some b6 | 7 => some b7 | _ => none
def kX0 (g : GT) (a : Nat → Nat) (v : MM) : va_W := [(a 0, .inr (0, [.int (v 0 0), .ref (a 1), .ref (a 2), .ref (a 3), .ref (a 4), .ref (a 5)])), (a 1, .inl (g.2.1, 60, .inl (v 1))), (a 2, .inl (g.2.1, 60, .inl (v 2))), (a 3, .inl (g.2.1, 60, .inl (v 3))), (a 4, .inl (g.2.1, 60, .inl (v 4))), (a 5, .inl (g.2.1, 360, .inl (v 5)))]
def kX1 (g : GT) (a : Nat → Nat) (be0 : Nat) (be1 : Nat) (be2 : Nat) (be3 : Nat) (be4 : Nat) (be5 : Nat) (be6 : Nat) (be7 : Nat) (v : MM) : va_W := [(a 0, .inr (1, [.int (v 0 0), .int (v 1 0), .ref (a 1)])), (a 1, .inl (g.2.2.2.2, 8, .inr (.inr (.inr (.inr (rw8 be0 be1 be2 be3 be4 be5 be6 be7))))))]
def kX2 (g : GT) (a : Nat → Nat) (b1 : Nat) (v : MM) : va_W := [(a 0, .inr (2, [.int (v 0 0), .ref b1]))]
def kX3 (g : GT) (a : Nat → Nat) (v : MM) : va_W := [(a 0, .inr (3, [.int (v 0 0), .int (v 1 0), .int (v 2 0), .int (v 3 0), .int (v 4 0), .int (v 5 0), .ref (a 1), .ref (a 2), .ref (a 3), .ref (a 4), .ref (a 5)])), (a 1, .inl (g.2.1, 3, .inl (v 6))), (a 2, .inl (g.2.1, 6, .inl (v 7))), (a 3, .inl (g.2.1, 6, .inl (v 8))), (a 4, .inl (g.2.1, 6, .inl (v 9))), (a 5, .inl (g.2.1, 6, .inl (v 10)))]
def kX4 (g : GT) (a : Nat → Nat) (b14 : Nat) (v : MM) : va_W := [(a 0, .inr (4, [.int (v 0 0), .int (v 1 0), .int (v 2 0), .ref (a 1), .ref (a 2), .ref (a 3), .ref (a 4), .ref (a 5), .ref (a 6), .ref (a 7), .ref (a 8), .ref (a 9), .ref (a 10), .ref (a 11), .ref b14])), (a 1, .inl (g.2.1, 3, .inl (v 3))), (a 2, .inl (g.2.1, 3, .inl (v 4))), (a 3, .inl (g.2.1, 3, .inl (v 5))), (a 4, .inl (g.2.1, 3, .inl (v 6))), (a 5, .inl (g.2.1, 3, .inl (v 7))), (a 6, .inl (g.2.1, 3, .inl (v 8))), (a 7, .inl (g.2.1, 6, .inl (v 9))), (a 8, .inl (g.2.1, 6, .inl (v 10))), (a 9, .inl (g.2.1, 6, .inl (v 11))), (a 10, .inl (g.2.1, 6, .inl (v 12))), (a 11, .inl (g.2.1, 200, .inl (v 13)))]
def kX5 (g : GT) (a : Nat → Nat) (b0 : Nat) (b1 : Nat) (v : MM) : va_W := [(a 0, .inr (5, [.ref b0, .ref b1, .int (v 2 0)]))]
def kX6 (g : GT) (a : Nat → Nat) (v : MM) : va_W := [(a 0, .inr (6, [.ref (a 1), .int (v 1 0), .int (v 2 0), .int (v 3 0), .int (v 4 0), .int (v 5 0)])), (a 1, .inl (g.2.2.1, 120, .inl (v 0)))]
def kX7 (g : GT) (a : Nat → Nat) (b0 : Nat) (b1 : Nat) (b2 : Nat) (b3 : Nat) (b4 : Nat) (b5 : Nat) (b6 : Nat) (b7 : Nat) (b8 : Nat) (b9 : Nat) (v : MM) : va_W := [(a 0, .inr (7, [.ref b0, .ref b1, .ref b2, .ref b3, .ref b4, .ref b5, .ref b6, .ref b7, .ref b8, .ref b9, .ref (a 1), .ref (a 2), .int (v 12 0)])), (a 1, .inl (g.2.1, 4, .inl (v 10))), (a 2, .inl (g.2.1, 4, .inl (v 11)))]
def kX8 (g : GT) (a : Nat → Nat) (v : MM) : va_W := [(a 0, .inr (8, [.int (v 0 0), .int (v 1 0), .int (v 2 0), .int (v 3 0), .int (v 4 0), .int (v 5 0), .ref (a 1), .ref (a 2), .int (v 8 0), .int (v 9 0), .int (v 10 0), .int (v 11 0), .int (v 12 0), .int (v 13 0), .ref (a 3), .ref (a 4), .ref (a 5), .int (v 17 0), .ref (a 6), .ref (a 7), .ref (a 8), .ref (a 9), .int (v 22 0), .ref (a 10), .ref (a 11), .int (v 25 0), .ref (a 12), .int (v 27 0), .int (v 28 0), .int (v 29 0), .int (v 30 0), .int (v 31 0)])), (a 1, .inl (g.2.1, 3, .inl (v 6))), (a 2, .inl (g.2.1, 24, .inl (v 7))), (a 3, .inl (g.2.1, 3, .inl (v 14))), (a 4, .inl (g.2.1, 24, .inl (v 15))), (a 5, .inl (g.2.1, 667, .inl (v 16))), (a 6, .inl (g.2.1, 5336, .inl (v 18))), (a 7, .inl (g.2.1, 1334, .inl (v 19))), (a 8, .inl (g.2.2.2.1, 2, .inl (v 20))), (a 9, .inl (g.2.1, 667, .inl (v 21))), (a 10, .inl (g.2.1, 4, .inl (v 23))), (a 11, .inl (g.2.1, 4, .inl (v 24))), (a 12, .inl (g.2.1, 120, .inl (v 26)))]
end
section
theorem dX0_init_0 : decode cX0_init 0 = .ok (.aload_n 0, 1) := by decide +kernel
theorem dX0_init_1 : decode cX0_init 1 = .ok (.invokespecial 3, 3) := by decide +kernel
theorem dX0_init_4 : decode cX0_init 4 = .ok (.aload_n 0, 1) := by decide +kernel
theorem dX0_init_5 : decode cX0_init 5 = .ok (.iconst 0, 1) := by decide +kernel
theorem dX0_init_6 : decode cX0_init 6 = .ok (.putfield 9, 3) := by decide +kernel
theorem dX0_init_9 : decode cX0_init 9 = .ok (.aload_n 0, 1) := by decide +kernel
theorem dX0_init_10 : decode cX0_init 10 = .ok (.bipush 60, 2) := by decide +kernel
theorem dX0_init_12 : decode cX0_init 12 = .ok (.newarray .int, 2) := by decide +kernel
theorem dX0_init_14 : decode cX0_init 14 = .ok (.putfield 15, 3) := by decide +kernel
theorem dX0_init_17 : decode cX0_init 17 = .ok (.aload_n 0, 1) := by decide +kernel
theorem dX0_init_18 : decode cX0_init 18 = .ok (.bipush 60, 2) := by decide +kernel
theorem dX0_init_20 : decode cX0_init 20 = .ok (.newarray .int, 2) := by decide +kernel
theorem dX0_init_22 : decode cX0_init 22 = .ok (.putfield 19, 3) := by decide +kernel
theorem dX0_init_25 : decode cX0_init 25 = .ok (.aload_n 0, 1) := by decide +kernel
theorem dX0_init_26 : decode cX0_init 26 = .ok (.bipush 60, 2) := by decide +kernel
theorem dX0_init_28 : decode cX0_init 28 = .ok (.newarray .int, 2) := by decide +kernel
theorem dX0_init_30 : decode cX0_init 30 = .ok (.putfield 22, 3) := by decide +kernel
theorem dX0_init_33 : decode cX0_init 33 = .ok (.aload_n 0, 1) := by decide +kernel
theorem dX0_init_34 : decode cX0_init 34 = .ok (.bipush 60, 2) := by decide +kernel
theorem dX0_init_36 : decode cX0_init 36 = .ok (.newarray .int, 2) := by decide +kernel
theorem dX0_init_38 : decode cX0_init 38 = .ok (.putfield 25, 3) := by decide +kernel
theorem dX0_init_41 : decode cX0_init 41 = .ok (.aload_n 0, 1) := by decide +kernel
theorem dX0_init_42 : decode cX0_init 42 = .ok (.sipush 360, 3) := by decide +kernel
theorem dX0_init_45 : decode cX0_init 45 = .ok (.newarray .int, 2) := by decide +kernel
theorem dX0_init_47 : decode cX0_init 47 = .ok (.putfield 28, 3) := by decide +kernel
theorem dX0_init_50 : decode cX0_init 50 = .ok (.return_, 1) := by decide +kernel
theorem dX0_open_0 : decode cX0_open 0 = .ok (.aload_n 0, 1) := by decide +kernel
theorem dX0_open_1 : decode cX0_open 1 = .ok (.getfield 9, 3) := by decide +kernel
theorem dX0_open_4 : decode cX0_open 4 = .ok (.ifCond .lt 12, 3) := by decide +kernel
theorem dX0_open_7 : decode cX0_open 7 = .ok (.aload_n 0, 1) := by decide +kernel
theorem dX0_open_8 : decode cX0_open 8 = .ok (.getfield 9, 3) := by decide +kernel
theorem dX0_open_11 : decode cX0_open 11 = .ok (.bipush 60, 2) := by decide +kernel
theorem dX0_open_13 : decode cX0_open 13 = .ok (.if_icmp .lt 5, 3) := by decide +kernel
theorem dX0_open_16 : decode cX0_open 16 = .ok (.iconst (-1), 1) := by decide +kernel
theorem dX0_open_17 : decode cX0_open 17 = .ok (.ireturn, 1) := by decide +kernel
theorem dX0_open_18 : decode cX0_open 18 = .ok (.aload_n 0, 1) := by decide +kernel
theorem dX0_open_19 : decode cX0_open 19 = .ok (.getfield 9, 3) := by decide +kernel
theorem dX0_open_22 : decode cX0_open 22 = .ok (.istore_n 2, 1) := by decide +kernel
theorem dX0_open_23 : decode cX0_open 23 = .ok (.aload_n 0, 1) := by decide +kernel
theorem dX0_open_24 : decode cX0_open 24 = .ok (.getfield 15, 3) := by decide +kernel
theorem dX0_open_27 : decode cX0_open 27 = .ok (.iload_n 2, 1) := by decide +kernel
theorem dX0_open_28 : decode cX0_open 28 = .ok (.iload_n 1, 1) := by decide +kernel
theorem dX0_open_29 : decode cX0_open 29 = .ok (.iastore, 1) := by decide +kernel
theorem dX0_open_30 : decode cX0_open 30 = .ok (.aload_n 0, 1) := by decide +kernel
theorem dX0_open_31 : decode cX0_open 31 = .ok (.getfield 19, 3) := by decide +kernel
theorem dX0_open_34 : decode cX0_open 34 = .ok (.iload_n 2, 1) := by decide +kernel
theorem dX0_open_35 : decode cX0_open 35 = .ok (.iconst (-1), 1) := by decide +kernel
theorem dX0_open_36 : decode cX0_open 36 = .ok (.iastore, 1) := by decide +kernel
theorem dX0_open_37 : decode cX0_open 37 = .ok (.aload_n 0, 1) := by decide +kernel
theorem dX0_open_38 : decode cX0_open 38 = .ok (.getfield 22, 3) := by decide +kernel
theorem dX0_open_41 : decode cX0_open 41 = .ok (.iload_n 2, 1) := by decide +kernel
theorem dX0_open_42 : decode cX0_open 42 = .ok (.iconst 0, 1) := by decide +kernel
theorem dX0_open_43 : decode cX0_open 43 = .ok (.iastore, 1) := by decide +kernel
theorem dX0_open_44 : decode cX0_open 44 = .ok (.aload_n 0, 1) := by decide +kernel
theorem dX0_open_45 : decode cX0_open 45 = .ok (.getfield 25, 3) := by decide +kernel
theorem dX0_open_48 : decode cX0_open 48 = .ok (.iload_n 2, 1) := by decide +kernel
theorem dX0_open_49 : decode cX0_open 49 = .ok (.bipush (-9), 2) := by decide +kernel
theorem dX0_open_51 : decode cX0_open 51 = .ok (.iastore, 1) := by decide +kernel
theorem dX0_open_52 : decode cX0_open 52 = .ok (.iconst 0, 1) := by decide +kernel
theorem dX0_open_53 : decode cX0_open 53 = .ok (.istore_n 3, 1) := by decide +kernel
theorem dX0_open_54 : decode cX0_open 54 = .ok (.iload_n 3, 1) := by decide +kernel
theorem dX0_open_55 : decode cX0_open 55 = .ok (.bipush 6, 2) := by decide +kernel
theorem dX0_open_57 : decode cX0_open 57 = .ok (.if_icmp .ge 21, 3) := by decide +kernel
theorem dX0_open_60 : decode cX0_open 60 = .ok (.aload_n 0, 1) := by decide +kernel
theorem dX0_open_61 : decode cX0_open 61 = .ok (.getfield 28, 3) := by decide +kernel
theorem dX0_open_64 : decode cX0_open 64 = .ok (.iload_n 2, 1) := by decide +kernel
theorem dX0_open_65 : decode cX0_open 65 = .ok (.bipush 6, 2) := by decide +kernel
theorem dX0_open_67 : decode cX0_open 67 = .ok (.imul, 1) := by decide +kernel
theorem dX0_open_68 : decode cX0_open 68 = .ok (.iload_n 3, 1) := by decide +kernel
theorem dX0_open_69 : decode cX0_open 69 = .ok (.iadd, 1) := by decide +kernel
theorem dX0_open_70 : decode cX0_open 70 = .ok (.iconst 0, 1) := by decide +kernel
theorem dX0_open_71 : decode cX0_open 71 = .ok (.iastore, 1) := by decide +kernel
theorem dX0_open_72 : decode cX0_open 72 = .ok (.iinc 3 1, 3) := by decide +kernel
theorem dX0_open_75 : decode cX0_open 75 = .ok (.goto (-21), 3) := by decide +kernel
theorem dX0_open_78 : decode cX0_open 78 = .ok (.aload_n 0, 1) := by decide +kernel
theorem dX0_open_79 : decode cX0_open 79 = .ok (.dup, 1) := by decide +kernel
theorem dX0_open_80 : decode cX0_open 80 = .ok (.getfield 9, 3) := by decide +kernel
theorem dX0_open_83 : decode cX0_open 83 = .ok (.iconst 1, 1) := by decide +kernel
theorem dX0_open_84 : decode cX0_open 84 = .ok (.iadd, 1) := by decide +kernel
theorem dX0_open_85 : decode cX0_open 85 = .ok (.putfield 9, 3) := by decide +kernel
theorem dX0_open_88 : decode cX0_open 88 = .ok (.iload_n 2, 1) := by decide +kernel
theorem dX0_open_89 : decode cX0_open 89 = .ok (.ireturn, 1) := by decide +kernel
theorem dX0_isDue_0 : decode cX0_isDue 0 = .ok (.iload_n 1, 1) := by decide +kernel
theorem dX0_isDue_1 : decode cX0_isDue 1 = .ok (.ifCond .lt 33, 3) := by decide +kernel
theorem dX0_isDue_4 : decode cX0_isDue 4 = .ok (.iload_n 1, 1) := by decide +kernel
theorem dX0_isDue_5 : decode cX0_isDue 5 = .ok (.bipush 60, 2) := by decide +kernel
theorem dX0_isDue_7 : decode cX0_isDue 7 = .ok (.if_icmp .ge 27, 3) := by decide +kernel
theorem dX0_isDue_10 : decode cX0_isDue 10 = .ok (.aload_n 0, 1) := by decide +kernel
theorem dX0_isDue_11 : decode cX0_isDue 11 = .ok (.getfield 15, 3) := by decide +kernel
theorem dX0_isDue_14 : decode cX0_isDue 14 = .ok (.iload_n 1, 1) := by decide +kernel
theorem dX0_isDue_15 : decode cX0_isDue 15 = .ok (.iaload, 1) := by decide +kernel
theorem dX0_isDue_16 : decode cX0_isDue 16 = .ok (.iload_n 2, 1) := by decide +kernel
theorem dX0_isDue_17 : decode cX0_isDue 17 = .ok (.if_icmp .ne 17, 3) := by decide +kernel
theorem dX0_isDue_20 : decode cX0_isDue 20 = .ok (.aload_n 0, 1) := by decide +kernel
theorem dX0_isDue_21 : decode cX0_isDue 21 = .ok (.getfield 19, 3) := by decide +kernel
theorem dX0_isDue_24 : decode cX0_isDue 24 = .ok (.iload_n 1, 1) := by decide +kernel
theorem dX0_isDue_25 : decode cX0_isDue 25 = .ok (.iaload, 1) := by decide +kernel
theorem dX0_isDue_26 : decode cX0_isDue 26 = .ok (.iload_n 3, 1) := by decide +kernel
theorem dX0_isDue_27 : decode cX0_isDue 27 = .ok (.if_icmp .ne 7, 3) := by decide +kernel
theorem dX0_isDue_30 : decode cX0_isDue 30 = .ok (.iconst 1, 1) := by decide +kernel
theorem dX0_isDue_31 : decode cX0_isDue 31 = .ok (.goto 4, 3) := by decide +kernel
theorem dX0_isDue_34 : decode cX0_isDue 34 = .ok (.iconst 0, 1) := by decide +kernel
theorem dX0_isDue_35 : decode cX0_isDue 35 = .ok (.ireturn, 1) := by decide +kernel
theorem dX0_putLetters_0 : decode cX0_putLetters 0 = .ok (.iload_n 1, 1) := by decide +kernel
theorem dX0_putLetters_1 : decode cX0_putLetters 1 = .ok (.bipush 6, 2) := by decide +kernel
theorem dX0_putLetters_3 : decode cX0_putLetters 3 = .ok (.imul, 1) := by decide +kernel
theorem dX0_putLetters_4 : decode cX0_putLetters 4 = .ok (.iload_n 2, 1) := by decide +kernel
theorem dX0_putLetters_5 : decode cX0_putLetters 5 = .ok (.iadd, 1) := by decide +kernel
theorem dX0_putLetters_6 : decode cX0_putLetters 6 = .ok (.istore 4, 2) := by decide +kernel
theorem dX0_putLetters_8 : decode cX0_putLetters 8 = .ok (.iload 4, 2) := by decide +kernel
theorem dX0_putLetters_10 : decode cX0_putLetters 10 = .ok (.ifCond .lt 24, 3) := by decide +kernel
theorem dX0_putLetters_13 : decode cX0_putLetters 13 = .ok (.iload 4, 2) := by decide +kernel
theorem dX0_putLetters_15 : decode cX0_putLetters 15 = .ok (.aload_n 0, 1) := by decide +kernel
theorem dX0_putLetters_16 : decode cX0_putLetters 16 = .ok (.getfield 28, 3) := by decide +kernel
theorem dX0_putLetters_19 : decode cX0_putLetters 19 = .ok (.arraylength, 1) := by decide +kernel
theorem dX0_putLetters_20 : decode cX0_putLetters 20 = .ok (.if_icmp .ge 14, 3) := by decide +kernel
theorem dX0_putLetters_23 : decode cX0_putLetters 23 = .ok (.aload_n 0, 1) := by decide +kernel
theorem dX0_putLetters_24 : decode cX0_putLetters 24 = .ok (.getfield 28, 3) := by decide +kernel
theorem dX0_putLetters_27 : decode cX0_putLetters 27 = .ok (.iload 4, 2) := by decide +kernel
theorem dX0_putLetters_29 : decode cX0_putLetters 29 = .ok (.dup2, 1) := by decide +kernel
theorem dX0_putLetters_30 : decode cX0_putLetters 30 = .ok (.iaload, 1) := by decide +kernel
theorem dX0_putLetters_31 : decode cX0_putLetters 31 = .ok (.iload_n 3, 1) := by decide +kernel
theorem dX0_putLetters_32 : decode cX0_putLetters 32 = .ok (.iadd, 1) := by decide +kernel
theorem dX0_putLetters_33 : decode cX0_putLetters 33 = .ok (.iastore, 1) := by decide +kernel
theorem dX0_putLetters_34 : decode cX0_putLetters 34 = .ok (.return_, 1) := by decide +kernel
theorem dX0_lettersOf_0 : decode cX0_lettersOf 0 = .ok (.iload_n 1, 1) := by decide +kernel
theorem dX0_lettersOf_1 : decode cX0_lettersOf 1 = .ok (.bipush 6, 2) := by decide +kernel
theorem dX0_lettersOf_3 : decode cX0_lettersOf 3 = .ok (.imul, 1) := by decide +kernel
theorem dX0_lettersOf_4 : decode cX0_lettersOf 4 = .ok (.iload_n 2, 1) := by decide +kernel
theorem dX0_lettersOf_5 : decode cX0_lettersOf 5 = .ok (.iadd, 1) := by decide +kernel
theorem dX0_lettersOf_6 : decode cX0_lettersOf 6 = .ok (.istore_n 3, 1) := by decide +kernel
theorem dX0_lettersOf_7 : decode cX0_lettersOf 7 = .ok (.iload_n 3, 1) := by decide +kernel
theorem dX0_lettersOf_8 : decode cX0_lettersOf 8 = .ok (.ifCond .lt 21, 3) := by decide +kernel
theorem dX0_lettersOf_11 : decode cX0_lettersOf 11 = .ok (.iload_n 3, 1) := by decide +kernel
theorem dX0_lettersOf_12 : decode cX0_lettersOf 12 = .ok (.aload_n 0, 1) := by decide +kernel
theorem dX0_lettersOf_13 : decode cX0_lettersOf 13 = .ok (.getfield 28, 3) := by decide +kernel
theorem dX0_lettersOf_16 : decode cX0_lettersOf 16 = .ok (.arraylength, 1) := by decide +kernel
theorem dX0_lettersOf_17 : decode cX0_lettersOf 17 = .ok (.if_icmp .ge 12, 3) := by decide +kernel
theorem dX0_lettersOf_20 : decode cX0_lettersOf 20 = .ok (.aload_n 0, 1) := by decide +kernel
theorem dX0_lettersOf_21 : decode cX0_lettersOf 21 = .ok (.getfield 28, 3) := by decide +kernel
theorem dX0_lettersOf_24 : decode cX0_lettersOf 24 = .ok (.iload_n 3, 1) := by decide +kernel
theorem dX0_lettersOf_25 : decode cX0_lettersOf 25 = .ok (.iaload, 1) := by decide +kernel
theorem dX0_lettersOf_26 : decode cX0_lettersOf 26 = .ok (.goto 4, 3) := by decide +kernel
theorem dX0_lettersOf_29 : decode cX0_lettersOf 29 = .ok (.iconst 0, 1) := by decide +kernel
theorem dX0_lettersOf_30 : decode cX0_lettersOf 30 = .ok (.ireturn, 1) := by decide +kernel
theorem dX0_addLettersTo_0 : decode cX0_addLettersTo 0 = .ok (.iload_n 2, 1) := by decide +kernel
theorem dX0_addLettersTo_1 : decode cX0_addLettersTo 1 = .ok (.bipush 6, 2) := by decide +kernel
theorem dX0_addLettersTo_3 : decode cX0_addLettersTo 3 = .ok (.imul, 1) := by decide +kernel
theorem dX0_addLettersTo_4 : decode cX0_addLettersTo 4 = .ok (.istore_n 3, 1) := by decide +kernel
theorem dX0_addLettersTo_5 : decode cX0_addLettersTo 5 = .ok (.iconst 0, 1) := by decide +kernel
theorem dX0_addLettersTo_6 : decode cX0_addLettersTo 6 = .ok (.istore 4, 2) := by decide +kernel
theorem dX0_addLettersTo_8 : decode cX0_addLettersTo 8 = .ok (.iload 4, 2) := by decide +kernel
theorem dX0_addLettersTo_10 : decode cX0_addLettersTo 10 = .ok (.bipush 6, 2) := by decide +kernel
theorem dX0_addLettersTo_12 : decode cX0_addLettersTo 12 = .ok (.if_icmp .ge 55, 3) := by decide +kernel
theorem dX0_addLettersTo_15 : decode cX0_addLettersTo 15 = .ok (.iload 4, 2) := by decide +kernel
theorem dX0_addLettersTo_17 : decode cX0_addLettersTo 17 = .ok (.aload_n 1, 1) := by decide +kernel
theorem dX0_addLettersTo_18 : decode cX0_addLettersTo 18 = .ok (.arraylength, 1) := by decide +kernel
theorem dX0_addLettersTo_19 : decode cX0_addLettersTo 19 = .ok (.if_icmp .ge 48, 3) := by decide +kernel
theorem dX0_addLettersTo_22 : decode cX0_addLettersTo 22 = .ok (.iload_n 3, 1) := by decide +kernel
theorem dX0_addLettersTo_23 : decode cX0_addLettersTo 23 = .ok (.iload 4, 2) := by decide +kernel
theorem dX0_addLettersTo_25 : decode cX0_addLettersTo 25 = .ok (.iadd, 1) := by decide +kernel
theorem dX0_addLettersTo_26 : decode cX0_addLettersTo 26 = .ok (.istore 5, 2) := by decide +kernel
theorem dX0_addLettersTo_28 : decode cX0_addLettersTo 28 = .ok (.aload_n 1, 1) := by decide +kernel
theorem dX0_addLettersTo_29 : decode cX0_addLettersTo 29 = .ok (.iload 4, 2) := by decide +kernel
theorem dX0_addLettersTo_31 : decode cX0_addLettersTo 31 = .ok (.dup2, 1) := by decide +kernel
theorem dX0_addLettersTo_32 : decode cX0_addLettersTo 32 = .ok (.iaload, 1) := by decide +kernel
theorem dX0_addLettersTo_33 : decode cX0_addLettersTo 33 = .ok (.iload 5, 2) := by decide +kernel
theorem dX0_addLettersTo_35 : decode cX0_addLettersTo 35 = .ok (.ifCond .lt 23, 3) := by decide +kernel
theorem dX0_addLettersTo_38 : decode cX0_addLettersTo 38 = .ok (.iload 5, 2) := by decide +kernel
theorem dX0_addLettersTo_40 : decode cX0_addLettersTo 40 = .ok (.aload_n 0, 1) := by decide +kernel
theorem dX0_addLettersTo_41 : decode cX0_addLettersTo 41 = .ok (.getfield 28, 3) := by decide +kernel
theorem dX0_addLettersTo_44 : decode cX0_addLettersTo 44 = .ok (.arraylength, 1) := by decide +kernel
theorem dX0_addLettersTo_45 : decode cX0_addLettersTo 45 = .ok (.if_icmp .ge 13, 3) := by decide +kernel
theorem dX0_addLettersTo_48 : decode cX0_addLettersTo 48 = .ok (.aload_n 0, 1) := by decide +kernel
theorem dX0_addLettersTo_49 : decode cX0_addLettersTo 49 = .ok (.getfield 28, 3) := by decide +kernel
theorem dX0_addLettersTo_52 : decode cX0_addLettersTo 52 = .ok (.iload 5, 2) := by decide +kernel
theorem dX0_addLettersTo_54 : decode cX0_addLettersTo 54 = .ok (.iaload, 1) := by decide +kernel
theorem dX0_addLettersTo_55 : decode cX0_addLettersTo 55 = .ok (.goto 4, 3) := by decide +kernel
theorem dX0_addLettersTo_58 : decode cX0_addLettersTo 58 = .ok (.iconst 0, 1) := by decide +kernel
theorem dX0_addLettersTo_59 : decode cX0_addLettersTo 59 = .ok (.iadd, 1) := by decide +kernel
theorem dX0_addLettersTo_60 : decode cX0_addLettersTo 60 = .ok (.iastore, 1) := by decide +kernel
theorem dX0_addLettersTo_61 : decode cX0_addLettersTo 61 = .ok (.iinc 4 1, 3) := by decide +kernel
theorem dX0_addLettersTo_64 : decode cX0_addLettersTo 64 = .ok (.goto (-56), 3) := by decide +kernel
theorem dX0_addLettersTo_67 : decode cX0_addLettersTo 67 = .ok (.return_, 1) := by decide +kernel
theorem dX0_allLetters_0 : decode cX0_allLetters 0 = .ok (.iload_n 1, 1) := by decide +kernel
theorem dX0_allLetters_1 : decode cX0_allLetters 1 = .ok (.bipush 6, 2) := by decide +kernel
theorem dX0_allLetters_3 : decode cX0_allLetters 3 = .ok (.imul, 1) := by decide +kernel
theorem dX0_allLetters_4 : decode cX0_allLetters 4 = .ok (.istore_n 2, 1) := by decide +kernel
theorem dX0_allLetters_5 : decode cX0_allLetters 5 = .ok (.iconst 0, 1) := by decide +kernel
theorem dX0_allLetters_6 : decode cX0_allLetters 6 = .ok (.istore_n 3, 1) := by decide +kernel
theorem dX0_allLetters_7 : decode cX0_allLetters 7 = .ok (.iload_n 2, 1) := by decide +kernel
theorem dX0_allLetters_8 : decode cX0_allLetters 8 = .ok (.istore 4, 2) := by decide +kernel
theorem dX0_allLetters_10 : decode cX0_allLetters 10 = .ok (.iload 4, 2) := by decide +kernel
theorem dX0_allLetters_12 : decode cX0_allLetters 12 = .ok (.ifCond .lt 38, 3) := by decide +kernel
theorem dX0_allLetters_15 : decode cX0_allLetters 15 = .ok (.iload 4, 2) := by decide +kernel
theorem dX0_allLetters_17 : decode cX0_allLetters 17 = .ok (.iload_n 2, 1) := by decide +kernel
theorem dX0_allLetters_18 : decode cX0_allLetters 18 = .ok (.bipush 6, 2) := by decide +kernel
theorem dX0_allLetters_20 : decode cX0_allLetters 20 = .ok (.iadd, 1) := by decide +kernel
theorem dX0_allLetters_21 : decode cX0_allLetters 21 = .ok (.if_icmp .ge 29, 3) := by decide +kernel
theorem dX0_allLetters_24 : decode cX0_allLetters 24 = .ok (.iload 4, 2) := by decide +kernel
theorem dX0_allLetters_26 : decode cX0_allLetters 26 = .ok (.aload_n 0, 1) := by decide +kernel
theorem dX0_allLetters_27 : decode cX0_allLetters 27 = .ok (.getfield 28, 3) := by decide +kernel
theorem dX0_allLetters_30 : decode cX0_allLetters 30 = .ok (.arraylength, 1) := by decide +kernel
theorem dX0_allLetters_31 : decode cX0_allLetters 31 = .ok (.if_icmp .ge 19, 3) := by decide +kernel
theorem dX0_allLetters_34 : decode cX0_allLetters 34 = .ok (.iload_n 3, 1) := by decide +kernel
theorem dX0_allLetters_35 : decode cX0_allLetters 35 = .ok (.aload_n 0, 1) := by decide +kernel
theorem dX0_allLetters_36 : decode cX0_allLetters 36 = .ok (.getfield 28, 3) := by decide +kernel
theorem dX0_allLetters_39 : decode cX0_allLetters 39 = .ok (.iload 4, 2) := by decide +kernel
theorem dX0_allLetters_41 : decode cX0_allLetters 41 = .ok (.iaload, 1) := by decide +kernel
theorem dX0_allLetters_42 : decode cX0_allLetters 42 = .ok (.iadd, 1) := by decide +kernel
theorem dX0_allLetters_43 : decode cX0_allLetters 43 = .ok (.istore_n 3, 1) := by decide +kernel
theorem dX0_allLetters_44 : decode cX0_allLetters 44 = .ok (.iinc 4 1, 3) := by decide +kernel
theorem dX0_allLetters_47 : decode cX0_allLetters 47 = .ok (.goto (-37), 3) := by decide +kernel
theorem dX0_allLetters_50 : decode cX0_allLetters 50 = .ok (.iload_n 3, 1) := by decide +kernel
theorem dX0_allLetters_51 : decode cX0_allLetters 51 = .ok (.ireturn, 1) := by decide +kernel
theorem dX0_putReport_0 : decode cX0_putReport 0 = .ok (.iload_n 1, 1) := by decide +kernel
theorem dX0_putReport_1 : decode cX0_putReport 1 = .ok (.ifCond .lt 16, 3) := by decide +kernel
theorem dX0_putReport_4 : decode cX0_putReport 4 = .ok (.iload_n 1, 1) := by decide +kernel
theorem dX0_putReport_5 : decode cX0_putReport 5 = .ok (.bipush 60, 2) := by decide +kernel
theorem dX0_putReport_7 : decode cX0_putReport 7 = .ok (.if_icmp .ge 10, 3) := by decide +kernel
theorem dX0_putReport_10 : decode cX0_putReport 10 = .ok (.aload_n 0, 1) := by decide +kernel
theorem dX0_putReport_11 : decode cX0_putReport 11 = .ok (.getfield 25, 3) := by decide +kernel
theorem dX0_putReport_14 : decode cX0_putReport 14 = .ok (.iload_n 1, 1) := by decide +kernel
theorem dX0_putReport_15 : decode cX0_putReport 15 = .ok (.iload_n 2, 1) := by decide +kernel
theorem dX0_putReport_16 : decode cX0_putReport 16 = .ok (.iastore, 1) := by decide +kernel
theorem dX0_putReport_17 : decode cX0_putReport 17 = .ok (.return_, 1) := by decide +kernel
theorem dX0_reportOf_0 : decode cX0_reportOf 0 = .ok (.iload_n 1, 1) := by decide +kernel
theorem dX0_reportOf_1 : decode cX0_reportOf 1 = .ok (.ifCond .lt 18, 3) := by decide +kernel
theorem dX0_reportOf_4 : decode cX0_reportOf 4 = .ok (.iload_n 1, 1) := by decide +kernel
theorem dX0_reportOf_5 : decode cX0_reportOf 5 = .ok (.bipush 60, 2) := by decide +kernel
theorem dX0_reportOf_7 : decode cX0_reportOf 7 = .ok (.if_icmp .ge 12, 3) := by decide +kernel
theorem dX0_reportOf_10 : decode cX0_reportOf 10 = .ok (.aload_n 0, 1) := by decide +kernel
theorem dX0_reportOf_11 : decode cX0_reportOf 11 = .ok (.getfield 25, 3) := by decide +kernel
theorem dX0_reportOf_14 : decode cX0_reportOf 14 = .ok (.iload_n 1, 1) := by decide +kernel
theorem dX0_reportOf_15 : decode cX0_reportOf 15 = .ok (.iaload, 1) := by decide +kernel
theorem dX0_reportOf_16 : decode cX0_reportOf 16 = .ok (.goto 5, 3) := by decide +kernel
theorem dX0_reportOf_19 : decode cX0_reportOf 19 = .ok (.bipush (-9), 2) := by decide +kernel
theorem dX0_reportOf_21 : decode cX0_reportOf 21 = .ok (.ireturn, 1) := by decide +kernel
set_option maxRecDepth 20000 in
theorem ggX0_content_X0_allLetters : GoodIn wsX0_content wsX0_allLetters := goodIn_r _ [5, 6, 12, 13, 14, 15, 16, 17] (by decide +kernel) (by decide +kernel)
set_option maxRecDepth 20000 in
theorem gX0_content_X0_allLetters : GoodIn wsX0_content (wsV RX0 31 RX0 yX0_allLetters wsX0_allLetters) := goodIn_app (goodIn_of _ (by decide +kernel)) ggX0_content_X0_allLetters
set_option maxRecDepth 20000 in
theorem ggX0_content_X0_reportOf : GoodIn wsX0_content wsX0_reportOf := goodIn_r _ [10, 11, 12, 13, 14, 15, 16, 17] (by decide +kernel) (by decide +kernel)
set_option maxRecDepth 20000 in
theorem gX0_content_X0_reportOf : GoodIn wsX0_content (wsV RX0 35 RX0 yX0_reportOf wsX0_reportOf) := goodIn_app (goodIn_of _ (by decide +kernel)) ggX0_content_X0_reportOf
theorem dX0_content_0 : decode cX0_content 0 = .ok (.aload_n 0, 1) := by decide +kernel
theorem dX0_content_1 : decode cX0_content 1 = .ok (.iload_n 1, 1) := by decide +kernel
theorem dX0_content_2 : decode cX0_content 2 = .ok (.invokevirtual 31, 3) := by decide +kernel
theorem dX0_content_5 : decode cX0_content 5 = .ok (.aload_n 0, 1) := by decide +kernel
theorem dX0_content_6 : decode cX0_content 6 = .ok (.iload_n 1, 1) := by decide +kernel
theorem dX0_content_7 : decode cX0_content 7 = .ok (.invokevirtual 35, 3) := by decide +kernel
theorem dX0_content_10 : decode cX0_content 10 = .ok (.bipush (-9), 2) := by decide +kernel
theorem dX0_content_12 : decode cX0_content 12 = .ok (.if_icmp .ne 7, 3) := by decide +kernel
theorem dX0_content_15 : decode cX0_content 15 = .ok (.iconst 0, 1) := by decide +kernel
theorem dX0_content_16 : decode cX0_content 16 = .ok (.goto 4, 3) := by decide +kernel
theorem dX0_content_19 : decode cX0_content 19 = .ok (.iconst 2, 1) := by decide +kernel
theorem dX0_content_20 : decode cX0_content 20 = .ok (.iadd, 1) := by decide +kernel
theorem dX0_content_21 : decode cX0_content 21 = .ok (.ireturn, 1) := by decide +kernel
theorem dX0_countSending_0 : decode cX0_countSending 0 = .ok (.iload_n 1, 1) := by decide +kernel
theorem dX0_countSending_1 : decode cX0_countSending 1 = .ok (.ifCond .lt 9, 3) := by decide +kernel
theorem dX0_countSending_4 : decode cX0_countSending 4 = .ok (.iload_n 1, 1) := by decide +kernel
theorem dX0_countSending_5 : decode cX0_countSending 5 = .ok (.bipush 60, 2) := by decide +kernel
theorem dX0_countSending_7 : decode cX0_countSending 7 = .ok (.if_icmp .lt 5, 3) := by decide +kernel
theorem dX0_countSending_10 : decode cX0_countSending 10 = .ok (.iconst 0, 1) := by decide +kernel
theorem dX0_countSending_11 : decode cX0_countSending 11 = .ok (.ireturn, 1) := by decide +kernel
theorem dX0_countSending_12 : decode cX0_countSending 12 = .ok (.aload_n 0, 1) := by decide +kernel
theorem dX0_countSending_13 : decode cX0_countSending 13 = .ok (.getfield 22, 3) := by decide +kernel
theorem dX0_countSending_16 : decode cX0_countSending 16 = .ok (.iload_n 1, 1) := by decide +kernel
theorem dX0_countSending_17 : decode cX0_countSending 17 = .ok (.dup2, 1) := by decide +kernel
theorem dX0_countSending_18 : decode cX0_countSending 18 = .ok (.iaload, 1) := by decide +kernel
theorem dX0_countSending_19 : decode cX0_countSending 19 = .ok (.iconst 1, 1) := by decide +kernel
theorem dX0_countSending_20 : decode cX0_countSending 20 = .ok (.iadd, 1) := by decide +kernel
theorem dX0_countSending_21 : decode cX0_countSending 21 = .ok (.iastore, 1) := by decide +kernel
theorem dX0_countSending_22 : decode cX0_countSending 22 = .ok (.aload_n 0, 1) := by decide +kernel
theorem dX0_countSending_23 : decode cX0_countSending 23 = .ok (.getfield 22, 3) := by decide +kernel
theorem dX0_countSending_26 : decode cX0_countSending 26 = .ok (.iload_n 1, 1) := by decide +kernel
theorem dX0_countSending_27 : decode cX0_countSending 27 = .ok (.iaload, 1) := by decide +kernel
theorem dX0_countSending_28 : decode cX0_countSending 28 = .ok (.ireturn, 1) := by decide +kernel
theorem dX0_putDue_0 : decode cX0_putDue 0 = .ok (.iload_n 1, 1) := by decide +kernel
theorem dX0_putDue_1 : decode cX0_putDue 1 = .ok (.ifCond .lt 16, 3) := by decide +kernel
theorem dX0_putDue_4 : decode cX0_putDue 4 = .ok (.iload_n 1, 1) := by decide +kernel
theorem dX0_putDue_5 : decode cX0_putDue 5 = .ok (.bipush 60, 2) := by decide +kernel
theorem dX0_putDue_7 : decode cX0_putDue 7 = .ok (.if_icmp .ge 10, 3) := by decide +kernel
theorem dX0_putDue_10 : decode cX0_putDue 10 = .ok (.aload_n 0, 1) := by decide +kernel
theorem dX0_putDue_11 : decode cX0_putDue 11 = .ok (.getfield 19, 3) := by decide +kernel
theorem dX0_putDue_14 : decode cX0_putDue 14 = .ok (.iload_n 1, 1) := by decide +kernel
theorem dX0_putDue_15 : decode cX0_putDue 15 = .ok (.iload_n 2, 1) := by decide +kernel
theorem dX0_putDue_16 : decode cX0_putDue 16 = .ok (.iastore, 1) := by decide +kernel
theorem dX0_putDue_17 : decode cX0_putDue 17 = .ok (.return_, 1) := by decide +kernel
theorem dX0_markGone_0 : decode cX0_markGone 0 = .ok (.iload_n 1, 1) := by decide +kernel
theorem dX0_markGone_1 : decode cX0_markGone 1 = .ok (.ifCond .lt 16, 3) := by decide +kernel
theorem dX0_markGone_4 : decode cX0_markGone 4 = .ok (.iload_n 1, 1) := by decide +kernel
theorem dX0_markGone_5 : decode cX0_markGone 5 = .ok (.bipush 60, 2) := by decide +kernel
theorem dX0_markGone_7 : decode cX0_markGone 7 = .ok (.if_icmp .ge 10, 3) := by decide +kernel
theorem dX0_markGone_10 : decode cX0_markGone 10 = .ok (.aload_n 0, 1) := by decide +kernel
theorem dX0_markGone_11 : decode cX0_markGone 11 = .ok (.getfield 19, 3) := by decide +kernel
theorem dX0_markGone_14 : decode cX0_markGone 14 = .ok (.iload_n 1, 1) := by decide +kernel
theorem dX0_markGone_15 : decode cX0_markGone 15 = .ok (.iconst (-1), 1) := by decide +kernel
theorem dX0_markGone_16 : decode cX0_markGone 16 = .ok (.iastore, 1) := by decide +kernel
theorem dX0_markGone_17 : decode cX0_markGone 17 = .ok (.return_, 1) := by decide +kernel
set_option maxRecDepth 20000 in
theorem ggX0_dropGone_X0_move : GoodIn wsX0_dropGone wsX0_move := goodIn_r _ [7, 8, 2, 9, 10, 11, 12, 13, 14, 15, 16, 17] (by decide +kernel) (by decide +kernel)
set_option maxRecDepth 20000 in
theorem gX0_dropGone_X0_move : GoodIn wsX0_dropGone (wsV RX0 38 RX0 yX0_move wsX0_move) := goodIn_app (goodIn_of _ (by decide +kernel)) ggX0_dropGone_X0_move
theorem dX0_dropGone_0 : decode cX0_dropGone 0 = .ok (.iconst 0, 1) := by decide +kernel
theorem dX0_dropGone_1 : decode cX0_dropGone 1 = .ok (.istore_n 1, 1) := by decide +kernel
theorem dX0_dropGone_2 : decode cX0_dropGone 2 = .ok (.iconst 0, 1) := by decide +kernel
theorem dX0_dropGone_3 : decode cX0_dropGone 3 = .ok (.istore_n 2, 1) := by decide +kernel
theorem dX0_dropGone_4 : decode cX0_dropGone 4 = .ok (.iload_n 2, 1) := by decide +kernel
theorem dX0_dropGone_5 : decode cX0_dropGone 5 = .ok (.aload_n 0, 1) := by decide +kernel
theorem dX0_dropGone_6 : decode cX0_dropGone 6 = .ok (.getfield 9, 3) := by decide +kernel
theorem dX0_dropGone_9 : decode cX0_dropGone 9 = .ok (.if_icmp .ge 34, 3) := by decide +kernel
theorem dX0_dropGone_12 : decode cX0_dropGone 12 = .ok (.iload_n 2, 1) := by decide +kernel
theorem dX0_dropGone_13 : decode cX0_dropGone 13 = .ok (.bipush 60, 2) := by decide +kernel
theorem dX0_dropGone_15 : decode cX0_dropGone 15 = .ok (.if_icmp .ge 28, 3) := by decide +kernel
theorem dX0_dropGone_18 : decode cX0_dropGone 18 = .ok (.aload_n 0, 1) := by decide +kernel
theorem dX0_dropGone_19 : decode cX0_dropGone 19 = .ok (.getfield 19, 3) := by decide +kernel
theorem dX0_dropGone_22 : decode cX0_dropGone 22 = .ok (.iload_n 2, 1) := by decide +kernel
theorem dX0_dropGone_23 : decode cX0_dropGone 23 = .ok (.iaload, 1) := by decide +kernel
theorem dX0_dropGone_24 : decode cX0_dropGone 24 = .ok (.iconst (-1), 1) := by decide +kernel
theorem dX0_dropGone_25 : decode cX0_dropGone 25 = .ok (.if_icmp .eq 12, 3) := by decide +kernel
theorem dX0_dropGone_28 : decode cX0_dropGone 28 = .ok (.aload_n 0, 1) := by decide +kernel
theorem dX0_dropGone_29 : decode cX0_dropGone 29 = .ok (.iload_n 2, 1) := by decide +kernel
theorem dX0_dropGone_30 : decode cX0_dropGone 30 = .ok (.iload_n 1, 1) := by decide +kernel
theorem dX0_dropGone_31 : decode cX0_dropGone 31 = .ok (.invokevirtual 38, 3) := by decide +kernel
theorem dX0_dropGone_34 : decode cX0_dropGone 34 = .ok (.iinc 1 1, 3) := by decide +kernel
theorem dX0_dropGone_37 : decode cX0_dropGone 37 = .ok (.iinc 2 1, 3) := by decide +kernel
theorem dX0_dropGone_40 : decode cX0_dropGone 40 = .ok (.goto (-36), 3) := by decide +kernel
theorem dX0_dropGone_43 : decode cX0_dropGone 43 = .ok (.aload_n 0, 1) := by decide +kernel
theorem dX0_dropGone_44 : decode cX0_dropGone 44 = .ok (.iload_n 1, 1) := by decide +kernel
theorem dX0_dropGone_45 : decode cX0_dropGone 45 = .ok (.putfield 9, 3) := by decide +kernel
theorem dX0_dropGone_48 : decode cX0_dropGone 48 = .ok (.return_, 1) := by decide +kernel
theorem dX0_move_0 : decode cX0_move 0 = .ok (.iload_n 2, 1) := by decide +kernel
theorem dX0_move_1 : decode cX0_move 1 = .ok (.ifCond .lt 14, 3) := by decide +kernel
theorem dX0_move_4 : decode cX0_move 4 = .ok (.iload_n 2, 1) := by decide +kernel
theorem dX0_move_5 : decode cX0_move 5 = .ok (.iload_n 1, 1) := by decide +kernel
theorem dX0_move_6 : decode cX0_move 6 = .ok (.if_icmp .ge 9, 3) := by decide +kernel
theorem dX0_move_9 : decode cX0_move 9 = .ok (.iload_n 1, 1) := by decide +kernel
theorem dX0_move_10 : decode cX0_move 10 = .ok (.bipush 60, 2) := by decide +kernel
theorem dX0_move_12 : decode cX0_move 12 = .ok (.if_icmp .lt 4, 3) := by decide +kernel
theorem dX0_move_15 : decode cX0_move 15 = .ok (.return_, 1) := by decide +kernel
theorem dX0_move_16 : decode cX0_move 16 = .ok (.aload_n 0, 1) := by decide +kernel
theorem dX0_move_17 : decode cX0_move 17 = .ok (.getfield 15, 3) := by decide +kernel
theorem dX0_move_20 : decode cX0_move 20 = .ok (.iload_n 2, 1) := by decide +kernel
theorem dX0_move_21 : decode cX0_move 21 = .ok (.aload_n 0, 1) := by decide +kernel
theorem dX0_move_22 : decode cX0_move 22 = .ok (.getfield 15, 3) := by decide +kernel
theorem dX0_move_25 : decode cX0_move 25 = .ok (.iload_n 1, 1) := by decide +kernel
theorem dX0_move_26 : decode cX0_move 26 = .ok (.iaload, 1) := by decide +kernel
theorem dX0_move_27 : decode cX0_move 27 = .ok (.iastore, 1) := by decide +kernel
theorem dX0_move_28 : decode cX0_move 28 = .ok (.aload_n 0, 1) := by decide +kernel
theorem dX0_move_29 : decode cX0_move 29 = .ok (.getfield 19, 3) := by decide +kernel
theorem dX0_move_32 : decode cX0_move 32 = .ok (.iload_n 2, 1) := by decide +kernel
theorem dX0_move_33 : decode cX0_move 33 = .ok (.aload_n 0, 1) := by decide +kernel
theorem dX0_move_34 : decode cX0_move 34 = .ok (.getfield 19, 3) := by decide +kernel
theorem dX0_move_37 : decode cX0_move 37 = .ok (.iload_n 1, 1) := by decide +kernel
theorem dX0_move_38 : decode cX0_move 38 = .ok (.iaload, 1) := by decide +kernel
theorem dX0_move_39 : decode cX0_move 39 = .ok (.iastore, 1) := by decide +kernel
theorem dX0_move_40 : decode cX0_move 40 = .ok (.aload_n 0, 1) := by decide +kernel
theorem dX0_move_41 : decode cX0_move 41 = .ok (.getfield 22, 3) := by decide +kernel
theorem dX0_move_44 : decode cX0_move 44 = .ok (.iload_n 2, 1) := by decide +kernel
theorem dX0_move_45 : decode cX0_move 45 = .ok (.aload_n 0, 1) := by decide +kernel
theorem dX0_move_46 : decode cX0_move 46 = .ok (.getfield 22, 3) := by decide +kernel
theorem dX0_move_49 : decode cX0_move 49 = .ok (.iload_n 1, 1) := by decide +kernel
theorem dX0_move_50 : decode cX0_move 50 = .ok (.iaload, 1) := by decide +kernel
theorem dX0_move_51 : decode cX0_move 51 = .ok (.iastore, 1) := by decide +kernel
theorem dX0_move_52 : decode cX0_move 52 = .ok (.aload_n 0, 1) := by decide +kernel
theorem dX0_move_53 : decode cX0_move 53 = .ok (.getfield 25, 3) := by decide +kernel
theorem dX0_move_56 : decode cX0_move 56 = .ok (.iload_n 2, 1) := by decide +kernel
theorem dX0_move_57 : decode cX0_move 57 = .ok (.aload_n 0, 1) := by decide +kernel
theorem dX0_move_58 : decode cX0_move 58 = .ok (.getfield 25, 3) := by decide +kernel
theorem dX0_move_61 : decode cX0_move 61 = .ok (.iload_n 1, 1) := by decide +kernel
theorem dX0_move_62 : decode cX0_move 62 = .ok (.iaload, 1) := by decide +kernel
theorem dX0_move_63 : decode cX0_move 63 = .ok (.iastore, 1) := by decide +kernel
theorem dX0_move_64 : decode cX0_move 64 = .ok (.iconst 0, 1) := by decide +kernel
theorem dX0_move_65 : decode cX0_move 65 = .ok (.istore_n 3, 1) := by decide +kernel
theorem dX0_move_66 : decode cX0_move 66 = .ok (.iload_n 3, 1) := by decide +kernel
theorem dX0_move_67 : decode cX0_move 67 = .ok (.bipush 6, 2) := by decide +kernel
theorem dX0_move_69 : decode cX0_move 69 = .ok (.if_icmp .ge 31, 3) := by decide +kernel
theorem dX0_move_72 : decode cX0_move 72 = .ok (.aload_n 0, 1) := by decide +kernel
theorem dX0_move_73 : decode cX0_move 73 = .ok (.getfield 28, 3) := by decide +kernel
theorem dX0_move_76 : decode cX0_move 76 = .ok (.iload_n 2, 1) := by decide +kernel
theorem dX0_move_77 : decode cX0_move 77 = .ok (.bipush 6, 2) := by decide +kernel
theorem dX0_move_79 : decode cX0_move 79 = .ok (.imul, 1) := by decide +kernel
theorem dX0_move_80 : decode cX0_move 80 = .ok (.iload_n 3, 1) := by decide +kernel
theorem dX0_move_81 : decode cX0_move 81 = .ok (.iadd, 1) := by decide +kernel
theorem dX0_move_82 : decode cX0_move 82 = .ok (.aload_n 0, 1) := by decide +kernel
theorem dX0_move_83 : decode cX0_move 83 = .ok (.getfield 28, 3) := by decide +kernel
theorem dX0_move_86 : decode cX0_move 86 = .ok (.iload_n 1, 1) := by decide +kernel
theorem dX0_move_87 : decode cX0_move 87 = .ok (.bipush 6, 2) := by decide +kernel
theorem dX0_move_89 : decode cX0_move 89 = .ok (.imul, 1) := by decide +kernel
theorem dX0_move_90 : decode cX0_move 90 = .ok (.iload_n 3, 1) := by decide +kernel
theorem dX0_move_91 : decode cX0_move 91 = .ok (.iadd, 1) := by decide +kernel
theorem dX0_move_92 : decode cX0_move 92 = .ok (.iaload, 1) := by decide +kernel
theorem dX0_move_93 : decode cX0_move 93 = .ok (.iastore, 1) := by decide +kernel
theorem dX0_move_94 : decode cX0_move 94 = .ok (.iinc 3 1, 3) := by decide +kernel
theorem dX0_move_97 : decode cX0_move 97 = .ok (.goto (-31), 3) := by decide +kernel
theorem dX0_move_100 : decode cX0_move 100 = .ok (.return_, 1) := by decide +kernel
set_option maxRecDepth 20000 in
theorem ggX0_placeOf_X0_isEarlier : GoodIn wsX0_placeOf wsX0_isEarlier := goodIn_r _ [6, 7, 8, 9, 10, 11, 12, 13, 14] (by decide +kernel) (by decide +kernel)
set_option maxRecDepth 20000 in
theorem gX0_placeOf_X0_isEarlier : GoodIn wsX0_placeOf (wsV RX0 42 RX0 yX0_isEarlier wsX0_isEarlier) := goodIn_app (goodIn_of _ (by decide +kernel)) ggX0_placeOf_X0_isEarlier
theorem dX0_placeOf_0 : decode cX0_placeOf 0 = .ok (.iconst 0, 1) := by decide +kernel
theorem dX0_placeOf_1 : decode cX0_placeOf 1 = .ok (.istore_n 2, 1) := by decide +kernel
theorem dX0_placeOf_2 : decode cX0_placeOf 2 = .ok (.iload_n 2, 1) := by decide +kernel
theorem dX0_placeOf_3 : decode cX0_placeOf 3 = .ok (.aload_n 0, 1) := by decide +kernel
theorem dX0_placeOf_4 : decode cX0_placeOf 4 = .ok (.getfield 9, 3) := by decide +kernel
theorem dX0_placeOf_7 : decode cX0_placeOf 7 = .ok (.if_icmp .ge 67, 3) := by decide +kernel
theorem dX0_placeOf_10 : decode cX0_placeOf 10 = .ok (.iload_n 2, 1) := by decide +kernel
theorem dX0_placeOf_11 : decode cX0_placeOf 11 = .ok (.bipush 60, 2) := by decide +kernel
theorem dX0_placeOf_13 : decode cX0_placeOf 13 = .ok (.if_icmp .ge 61, 3) := by decide +kernel
theorem dX0_placeOf_16 : decode cX0_placeOf 16 = .ok (.iconst 0, 1) := by decide +kernel
theorem dX0_placeOf_17 : decode cX0_placeOf 17 = .ok (.istore_n 3, 1) := by decide +kernel
theorem dX0_placeOf_18 : decode cX0_placeOf 18 = .ok (.iconst 0, 1) := by decide +kernel
theorem dX0_placeOf_19 : decode cX0_placeOf 19 = .ok (.istore 4, 2) := by decide +kernel
theorem dX0_placeOf_21 : decode cX0_placeOf 21 = .ok (.iload 4, 2) := by decide +kernel
theorem dX0_placeOf_23 : decode cX0_placeOf 23 = .ok (.aload_n 0, 1) := by decide +kernel
theorem dX0_placeOf_24 : decode cX0_placeOf 24 = .ok (.getfield 9, 3) := by decide +kernel
theorem dX0_placeOf_27 : decode cX0_placeOf 27 = .ok (.if_icmp .ge 34, 3) := by decide +kernel
theorem dX0_placeOf_30 : decode cX0_placeOf 30 = .ok (.iload 4, 2) := by decide +kernel
theorem dX0_placeOf_32 : decode cX0_placeOf 32 = .ok (.bipush 60, 2) := by decide +kernel
theorem dX0_placeOf_34 : decode cX0_placeOf 34 = .ok (.if_icmp .ge 27, 3) := by decide +kernel
theorem dX0_placeOf_37 : decode cX0_placeOf 37 = .ok (.iload_n 3, 1) := by decide +kernel
theorem dX0_placeOf_38 : decode cX0_placeOf 38 = .ok (.aload_n 0, 1) := by decide +kernel
theorem dX0_placeOf_39 : decode cX0_placeOf 39 = .ok (.iload 4, 2) := by decide +kernel
theorem dX0_placeOf_41 : decode cX0_placeOf 41 = .ok (.iload_n 2, 1) := by decide +kernel
theorem dX0_placeOf_42 : decode cX0_placeOf 42 = .ok (.invokevirtual 42, 3) := by decide +kernel
theorem dX0_placeOf_45 : decode cX0_placeOf 45 = .ok (.ifCond .eq 7, 3) := by decide +kernel
theorem dX0_placeOf_48 : decode cX0_placeOf 48 = .ok (.iconst 1, 1) := by decide +kernel
theorem dX0_placeOf_49 : decode cX0_placeOf 49 = .ok (.goto 4, 3) := by decide +kernel
theorem dX0_placeOf_52 : decode cX0_placeOf 52 = .ok (.iconst 0, 1) := by decide +kernel
theorem dX0_placeOf_53 : decode cX0_placeOf 53 = .ok (.iadd, 1) := by decide +kernel
theorem dX0_placeOf_54 : decode cX0_placeOf 54 = .ok (.istore_n 3, 1) := by decide +kernel
theorem dX0_placeOf_55 : decode cX0_placeOf 55 = .ok (.iinc 4 1, 3) := by decide +kernel
theorem dX0_placeOf_58 : decode cX0_placeOf 58 = .ok (.goto (-37), 3) := by decide +kernel
theorem dX0_placeOf_61 : decode cX0_placeOf 61 = .ok (.iload_n 3, 1) := by decide +kernel
theorem dX0_placeOf_62 : decode cX0_placeOf 62 = .ok (.iload_n 1, 1) := by decide +kernel
theorem dX0_placeOf_63 : decode cX0_placeOf 63 = .ok (.if_icmp .ne 5, 3) := by decide +kernel
theorem dX0_placeOf_66 : decode cX0_placeOf 66 = .ok (.iload_n 2, 1) := by decide +kernel
theorem dX0_placeOf_67 : decode cX0_placeOf 67 = .ok (.ireturn, 1) := by decide +kernel
theorem dX0_placeOf_68 : decode cX0_placeOf 68 = .ok (.iinc 2 1, 3) := by decide +kernel
theorem dX0_placeOf_71 : decode cX0_placeOf 71 = .ok (.goto (-69), 3) := by decide +kernel
theorem dX0_placeOf_74 : decode cX0_placeOf 74 = .ok (.iconst (-1), 1) := by decide +kernel
theorem dX0_placeOf_75 : decode cX0_placeOf 75 = .ok (.ireturn, 1) := by decide +kernel
theorem dX0_isEarlier_0 : decode cX0_isEarlier 0 = .ok (.aload_n 0, 1) := by decide +kernel
theorem dX0_isEarlier_1 : decode cX0_isEarlier 1 = .ok (.getfield 19, 3) := by decide +kernel
theorem dX0_isEarlier_4 : decode cX0_isEarlier 4 = .ok (.iload_n 1, 1) := by decide +kernel
theorem dX0_isEarlier_5 : decode cX0_isEarlier 5 = .ok (.iaload, 1) := by decide +kernel
theorem dX0_isEarlier_6 : decode cX0_isEarlier 6 = .ok (.aload_n 0, 1) := by decide +kernel
theorem dX0_isEarlier_7 : decode cX0_isEarlier 7 = .ok (.getfield 19, 3) := by decide +kernel
theorem dX0_isEarlier_10 : decode cX0_isEarlier 10 = .ok (.iload_n 2, 1) := by decide +kernel
theorem dX0_isEarlier_11 : decode cX0_isEarlier 11 = .ok (.iaload, 1) := by decide +kernel
theorem dX0_isEarlier_12 : decode cX0_isEarlier 12 = .ok (.if_icmp .eq 24, 3) := by decide +kernel
theorem dX0_isEarlier_15 : decode cX0_isEarlier 15 = .ok (.aload_n 0, 1) := by decide +kernel
theorem dX0_isEarlier_16 : decode cX0_isEarlier 16 = .ok (.getfield 19, 3) := by decide +kernel
theorem dX0_isEarlier_19 : decode cX0_isEarlier 19 = .ok (.iload_n 1, 1) := by decide +kernel
theorem dX0_isEarlier_20 : decode cX0_isEarlier 20 = .ok (.iaload, 1) := by decide +kernel
theorem dX0_isEarlier_21 : decode cX0_isEarlier 21 = .ok (.aload_n 0, 1) := by decide +kernel
theorem dX0_isEarlier_22 : decode cX0_isEarlier 22 = .ok (.getfield 19, 3) := by decide +kernel
theorem dX0_isEarlier_25 : decode cX0_isEarlier 25 = .ok (.iload_n 2, 1) := by decide +kernel
theorem dX0_isEarlier_26 : decode cX0_isEarlier 26 = .ok (.iaload, 1) := by decide +kernel
theorem dX0_isEarlier_27 : decode cX0_isEarlier 27 = .ok (.if_icmp .ge 7, 3) := by decide +kernel
theorem dX0_isEarlier_30 : decode cX0_isEarlier 30 = .ok (.iconst 1, 1) := by decide +kernel
theorem dX0_isEarlier_31 : decode cX0_isEarlier 31 = .ok (.goto 4, 3) := by decide +kernel
theorem dX0_isEarlier_34 : decode cX0_isEarlier 34 = .ok (.iconst 0, 1) := by decide +kernel
theorem dX0_isEarlier_35 : decode cX0_isEarlier 35 = .ok (.ireturn, 1) := by decide +kernel
theorem dX0_isEarlier_36 : decode cX0_isEarlier 36 = .ok (.aload_n 0, 1) := by decide +kernel
theorem dX0_isEarlier_37 : decode cX0_isEarlier 37 = .ok (.getfield 15, 3) := by decide +kernel
theorem dX0_isEarlier_40 : decode cX0_isEarlier 40 = .ok (.iload_n 1, 1) := by decide +kernel
theorem dX0_isEarlier_41 : decode cX0_isEarlier 41 = .ok (.iaload, 1) := by decide +kernel
theorem dX0_isEarlier_42 : decode cX0_isEarlier 42 = .ok (.aload_n 0, 1) := by decide +kernel
theorem dX0_isEarlier_43 : decode cX0_isEarlier 43 = .ok (.getfield 15, 3) := by decide +kernel
theorem dX0_isEarlier_46 : decode cX0_isEarlier 46 = .ok (.iload_n 2, 1) := by decide +kernel
theorem dX0_isEarlier_47 : decode cX0_isEarlier 47 = .ok (.iaload, 1) := by decide +kernel
theorem dX0_isEarlier_48 : decode cX0_isEarlier 48 = .ok (.if_icmp .eq 26, 3) := by decide +kernel
theorem dX0_isEarlier_51 : decode cX0_isEarlier 51 = .ok (.aload_n 0, 1) := by decide +kernel
theorem dX0_isEarlier_52 : decode cX0_isEarlier 52 = .ok (.getfield 15, 3) := by decide +kernel
theorem dX0_isEarlier_55 : decode cX0_isEarlier 55 = .ok (.iload_n 1, 1) := by decide +kernel
theorem dX0_isEarlier_56 : decode cX0_isEarlier 56 = .ok (.iaload, 1) := by decide +kernel
theorem dX0_isEarlier_57 : decode cX0_isEarlier 57 = .ok (.aload_n 0, 1) := by decide +kernel
theorem dX0_isEarlier_58 : decode cX0_isEarlier 58 = .ok (.getfield 15, 3) := by decide +kernel
theorem dX0_isEarlier_61 : decode cX0_isEarlier 61 = .ok (.iload_n 2, 1) := by decide +kernel
theorem dX0_isEarlier_62 : decode cX0_isEarlier 62 = .ok (.iaload, 1) := by decide +kernel
theorem dX0_isEarlier_63 : decode cX0_isEarlier 63 = .ok (.if_icmp .ge 7, 3) := by decide +kernel
theorem dX0_isEarlier_66 : decode cX0_isEarlier 66 = .ok (.iconst 1, 1) := by decide +kernel
theorem dX0_isEarlier_67 : decode cX0_isEarlier 67 = .ok (.goto 17, 3) := by decide +kernel
theorem dX0_isEarlier_70 : decode cX0_isEarlier 70 = .ok (.iconst 0, 1) := by decide +kernel
theorem dX0_isEarlier_71 : decode cX0_isEarlier 71 = .ok (.goto 13, 3) := by decide +kernel
theorem dX0_isEarlier_74 : decode cX0_isEarlier 74 = .ok (.iload_n 1, 1) := by decide +kernel
theorem dX0_isEarlier_75 : decode cX0_isEarlier 75 = .ok (.iload_n 2, 1) := by decide +kernel
theorem dX0_isEarlier_76 : decode cX0_isEarlier 76 = .ok (.if_icmp .ge 7, 3) := by decide +kernel
theorem dX0_isEarlier_79 : decode cX0_isEarlier 79 = .ok (.iconst 1, 1) := by decide +kernel
theorem dX0_isEarlier_80 : decode cX0_isEarlier 80 = .ok (.goto 4, 3) := by decide +kernel
theorem dX0_isEarlier_83 : decode cX0_isEarlier 83 = .ok (.iconst 0, 1) := by decide +kernel
theorem dX0_isEarlier_84 : decode cX0_isEarlier 84 = .ok (.ireturn, 1) := by decide +kernel
set_option maxRecDepth 20000 in
theorem ggX0_told_X0_content : GoodIn wsX0_told wsX0_content := goodIn_r _ [9, 10, 11, 12, 8, 13, 14, 15, 16, 17, 18, 4, 19, 20, 21, 22, 23, 24] (by decide +kernel) (by decide +kernel)
set_option maxRecDepth 20000 in
theorem gX0_told_X0_content : GoodIn wsX0_told (wsV RX0 46 RX0 yX0_content wsX0_content) := goodIn_app (goodIn_of _ (by decide +kernel)) ggX0_told_X0_content
theorem dX0_told_0 : decode cX0_told 0 = .ok (.iload_n 1, 1) := by decide +kernel
theorem dX0_told_1 : decode cX0_told 1 = .ok (.ifCond .lt 9, 3) := by decide +kernel
theorem dX0_told_4 : decode cX0_told 4 = .ok (.iload_n 1, 1) := by decide +kernel
theorem dX0_told_5 : decode cX0_told 5 = .ok (.bipush 60, 2) := by decide +kernel
theorem dX0_told_7 : decode cX0_told 7 = .ok (.if_icmp .lt 6, 3) := by decide +kernel
theorem dX0_told_10 : decode cX0_told 10 = .ok (.bipush (-9), 2) := by decide +kernel
theorem dX0_told_12 : decode cX0_told 12 = .ok (.ireturn, 1) := by decide +kernel
theorem dX0_told_13 : decode cX0_told 13 = .ok (.iload_n 2, 1) := by decide +kernel
theorem dX0_told_14 : decode cX0_told 14 = .ok (.tableswitch 57 0 3 #[30, 37, 44, 51], 30) := by decide +kernel
theorem dX0_told_44 : decode cX0_told 44 = .ok (.aload_n 0, 1) := by decide +kernel
theorem dX0_told_45 : decode cX0_told 45 = .ok (.getfield 15, 3) := by decide +kernel
theorem dX0_told_48 : decode cX0_told 48 = .ok (.iload_n 1, 1) := by decide +kernel
theorem dX0_told_49 : decode cX0_told 49 = .ok (.iaload, 1) := by decide +kernel
theorem dX0_told_50 : decode cX0_told 50 = .ok (.ireturn, 1) := by decide +kernel
theorem dX0_told_51 : decode cX0_told 51 = .ok (.aload_n 0, 1) := by decide +kernel
theorem dX0_told_52 : decode cX0_told 52 = .ok (.getfield 19, 3) := by decide +kernel
theorem dX0_told_55 : decode cX0_told 55 = .ok (.iload_n 1, 1) := by decide +kernel
theorem dX0_told_56 : decode cX0_told 56 = .ok (.iaload, 1) := by decide +kernel
theorem dX0_told_57 : decode cX0_told 57 = .ok (.ireturn, 1) := by decide +kernel
theorem dX0_told_58 : decode cX0_told 58 = .ok (.aload_n 0, 1) := by decide +kernel
theorem dX0_told_59 : decode cX0_told 59 = .ok (.getfield 22, 3) := by decide +kernel
theorem dX0_told_62 : decode cX0_told 62 = .ok (.iload_n 1, 1) := by decide +kernel
theorem dX0_told_63 : decode cX0_told 63 = .ok (.iaload, 1) := by decide +kernel
theorem dX0_told_64 : decode cX0_told 64 = .ok (.ireturn, 1) := by decide +kernel
theorem dX0_told_65 : decode cX0_told 65 = .ok (.aload_n 0, 1) := by decide +kernel
theorem dX0_told_66 : decode cX0_told 66 = .ok (.iload_n 1, 1) := by decide +kernel
theorem dX0_told_67 : decode cX0_told 67 = .ok (.invokevirtual 46, 3) := by decide +kernel
theorem dX0_told_70 : decode cX0_told 70 = .ok (.ireturn, 1) := by decide +kernel
theorem dX0_told_71 : decode cX0_told 71 = .ok (.aload_n 0, 1) := by decide +kernel
theorem dX0_told_72 : decode cX0_told 72 = .ok (.getfield 25, 3) := by decide +kernel
theorem dX0_told_75 : decode cX0_told 75 = .ok (.iload_n 1, 1) := by decide +kernel
theorem dX0_told_76 : decode cX0_told 76 = .ok (.iaload, 1) := by decide +kernel
theorem dX0_told_77 : decode cX0_told 77 = .ok (.ireturn, 1) := by decide +kernel
set_option maxRecDepth 20000 in
theorem ggX0_lettersOnTheWay_X0_lettersOf : GoodIn wsX0_lettersOnTheWay wsX0_lettersOf := goodIn_r _ [6, 7, 8, 9, 10, 11, 12, 13] (by decide +kernel) (by decide +kernel)
set_option maxRecDepth 20000 in
theorem gX0_lettersOnTheWay_X0_lettersOf : GoodIn wsX0_lettersOnTheWay (wsV RX0 49 RX0 yX0_lettersOf wsX0_lettersOf) := goodIn_app (goodIn_of _ (by decide +kernel)) ggX0_lettersOnTheWay_X0_lettersOf
theorem dX0_lettersOnTheWay_0 : decode cX0_lettersOnTheWay 0 = .ok (.iconst 0, 1) := by decide +kernel
theorem dX0_lettersOnTheWay_1 : decode cX0_lettersOnTheWay 1 = .ok (.istore_n 2, 1) := by decide +kernel
theorem dX0_lettersOnTheWay_2 : decode cX0_lettersOnTheWay 2 = .ok (.iconst 0, 1) := by decide +kernel
theorem dX0_lettersOnTheWay_3 : decode cX0_lettersOnTheWay 3 = .ok (.istore_n 3, 1) := by decide +kernel
theorem dX0_lettersOnTheWay_4 : decode cX0_lettersOnTheWay 4 = .ok (.iload_n 3, 1) := by decide +kernel
theorem dX0_lettersOnTheWay_5 : decode cX0_lettersOnTheWay 5 = .ok (.aload_n 0, 1) := by decide +kernel
theorem dX0_lettersOnTheWay_6 : decode cX0_lettersOnTheWay 6 = .ok (.getfield 9, 3) := by decide +kernel
theorem dX0_lettersOnTheWay_9 : decode cX0_lettersOnTheWay 9 = .ok (.if_icmp .ge 18, 3) := by decide +kernel
theorem dX0_lettersOnTheWay_12 : decode cX0_lettersOnTheWay 12 = .ok (.iload_n 2, 1) := by decide +kernel
theorem dX0_lettersOnTheWay_13 : decode cX0_lettersOnTheWay 13 = .ok (.aload_n 0, 1) := by decide +kernel
theorem dX0_lettersOnTheWay_14 : decode cX0_lettersOnTheWay 14 = .ok (.iload_n 3, 1) := by decide +kernel
theorem dX0_lettersOnTheWay_15 : decode cX0_lettersOnTheWay 15 = .ok (.iload_n 1, 1) := by decide +kernel
theorem dX0_lettersOnTheWay_16 : decode cX0_lettersOnTheWay 16 = .ok (.invokevirtual 49, 3) := by decide +kernel
theorem dX0_lettersOnTheWay_19 : decode cX0_lettersOnTheWay 19 = .ok (.iadd, 1) := by decide +kernel
theorem dX0_lettersOnTheWay_20 : decode cX0_lettersOnTheWay 20 = .ok (.istore_n 2, 1) := by decide +kernel
theorem dX0_lettersOnTheWay_21 : decode cX0_lettersOnTheWay 21 = .ok (.iinc 3 1, 3) := by decide +kernel
theorem dX0_lettersOnTheWay_24 : decode cX0_lettersOnTheWay 24 = .ok (.goto (-20), 3) := by decide +kernel
theorem dX0_lettersOnTheWay_27 : decode cX0_lettersOnTheWay 27 = .ok (.iload_n 2, 1) := by decide +kernel
theorem dX0_lettersOnTheWay_28 : decode cX0_lettersOnTheWay 28 = .ok (.ireturn, 1) := by decide +kernel
theorem dX0_blocksOf_0 : decode cX0_blocksOf 0 = .ok (.iconst 0, 1) := by decide +kernel
theorem dX0_blocksOf_1 : decode cX0_blocksOf 1 = .ok (.istore_n 2, 1) := by decide +kernel
theorem dX0_blocksOf_2 : decode cX0_blocksOf 2 = .ok (.iconst 0, 1) := by decide +kernel
theorem dX0_blocksOf_3 : decode cX0_blocksOf 3 = .ok (.istore_n 3, 1) := by decide +kernel
theorem dX0_blocksOf_4 : decode cX0_blocksOf 4 = .ok (.iload_n 3, 1) := by decide +kernel
theorem dX0_blocksOf_5 : decode cX0_blocksOf 5 = .ok (.aload_n 0, 1) := by decide +kernel
theorem dX0_blocksOf_6 : decode cX0_blocksOf 6 = .ok (.getfield 9, 3) := by decide +kernel
theorem dX0_blocksOf_9 : decode cX0_blocksOf 9 = .ok (.if_icmp .ge 33, 3) := by decide +kernel
theorem dX0_blocksOf_12 : decode cX0_blocksOf 12 = .ok (.iload_n 3, 1) := by decide +kernel
theorem dX0_blocksOf_13 : decode cX0_blocksOf 13 = .ok (.bipush 60, 2) := by decide +kernel
theorem dX0_blocksOf_15 : decode cX0_blocksOf 15 = .ok (.if_icmp .ge 27, 3) := by decide +kernel
theorem dX0_blocksOf_18 : decode cX0_blocksOf 18 = .ok (.iload_n 2, 1) := by decide +kernel
theorem dX0_blocksOf_19 : decode cX0_blocksOf 19 = .ok (.aload_n 0, 1) := by decide +kernel
theorem dX0_blocksOf_20 : decode cX0_blocksOf 20 = .ok (.getfield 15, 3) := by decide +kernel
theorem dX0_blocksOf_23 : decode cX0_blocksOf 23 = .ok (.iload_n 3, 1) := by decide +kernel
theorem dX0_blocksOf_24 : decode cX0_blocksOf 24 = .ok (.iaload, 1) := by decide +kernel
theorem dX0_blocksOf_25 : decode cX0_blocksOf 25 = .ok (.iload_n 1, 1) := by decide +kernel
theorem dX0_blocksOf_26 : decode cX0_blocksOf 26 = .ok (.if_icmp .ne 7, 3) := by decide +kernel
theorem dX0_blocksOf_29 : decode cX0_blocksOf 29 = .ok (.iconst 1, 1) := by decide +kernel
theorem dX0_blocksOf_30 : decode cX0_blocksOf 30 = .ok (.goto 4, 3) := by decide +kernel
theorem dX0_blocksOf_33 : decode cX0_blocksOf 33 = .ok (.iconst 0, 1) := by decide +kernel
theorem dX0_blocksOf_34 : decode cX0_blocksOf 34 = .ok (.iadd, 1) := by decide +kernel
theorem dX0_blocksOf_35 : decode cX0_blocksOf 35 = .ok (.istore_n 2, 1) := by decide +kernel
theorem dX0_blocksOf_36 : decode cX0_blocksOf 36 = .ok (.iinc 3 1, 3) := by decide +kernel
theorem dX0_blocksOf_39 : decode cX0_blocksOf 39 = .ok (.goto (-35), 3) := by decide +kernel
theorem dX0_blocksOf_42 : decode cX0_blocksOf 42 = .ok (.iload_n 2, 1) := by decide +kernel
theorem dX0_blocksOf_43 : decode cX0_blocksOf 43 = .ok (.ireturn, 1) := by decide +kernel
set_option maxRecDepth 20000 in
theorem ggX0_copyFrom_X7_copyRow : GoodIn wsX0_copyFrom wsX7_copyRow := goodIn_r _ [9, 10, 11, 12, 13, 14, 15, 16, 17] (by decide +kernel) (by decide +kernel)
set_option maxRecDepth 20000 in
theorem gX0_copyFrom_X7_copyRow_n53 : GoodIn wsX0_copyFrom (wsX7_copyRow) := ggX0_copyFrom_X7_copyRow
theorem dX0_copyFrom_0 : decode cX0_copyFrom 0 = .ok (.aload_n 0, 1) := by decide +kernel
theorem dX0_copyFrom_1 : decode cX0_copyFrom 1 = .ok (.aload_n 1, 1) := by decide +kernel
theorem dX0_copyFrom_2 : decode cX0_copyFrom 2 = .ok (.getfield 9, 3) := by decide +kernel
theorem dX0_copyFrom_5 : decode cX0_copyFrom 5 = .ok (.putfield 9, 3) := by decide +kernel
theorem dX0_copyFrom_8 : decode cX0_copyFrom 8 = .ok (.aload_n 1, 1) := by decide +kernel
theorem dX0_copyFrom_9 : decode cX0_copyFrom 9 = .ok (.getfield 15, 3) := by decide +kernel
theorem dX0_copyFrom_12 : decode cX0_copyFrom 12 = .ok (.aload_n 0, 1) := by decide +kernel
theorem dX0_copyFrom_13 : decode cX0_copyFrom 13 = .ok (.getfield 15, 3) := by decide +kernel
theorem dX0_copyFrom_16 : decode cX0_copyFrom 16 = .ok (.invokestatic 53, 3) := by decide +kernel
theorem dX0_copyFrom_19 : decode cX0_copyFrom 19 = .ok (.aload_n 1, 1) := by decide +kernel
theorem dX0_copyFrom_20 : decode cX0_copyFrom 20 = .ok (.getfield 19, 3) := by decide +kernel
theorem dX0_copyFrom_23 : decode cX0_copyFrom 23 = .ok (.aload_n 0, 1) := by decide +kernel
theorem dX0_copyFrom_24 : decode cX0_copyFrom 24 = .ok (.getfield 19, 3) := by decide +kernel
theorem dX0_copyFrom_27 : decode cX0_copyFrom 27 = .ok (.invokestatic 53, 3) := by decide +kernel
theorem dX0_copyFrom_30 : decode cX0_copyFrom 30 = .ok (.aload_n 1, 1) := by decide +kernel
theorem dX0_copyFrom_31 : decode cX0_copyFrom 31 = .ok (.getfield 22, 3) := by decide +kernel
theorem dX0_copyFrom_34 : decode cX0_copyFrom 34 = .ok (.aload_n 0, 1) := by decide +kernel
theorem dX0_copyFrom_35 : decode cX0_copyFrom 35 = .ok (.getfield 22, 3) := by decide +kernel
theorem dX0_copyFrom_38 : decode cX0_copyFrom 38 = .ok (.invokestatic 53, 3) := by decide +kernel
theorem dX0_copyFrom_41 : decode cX0_copyFrom 41 = .ok (.aload_n 1, 1) := by decide +kernel
theorem dX0_copyFrom_42 : decode cX0_copyFrom 42 = .ok (.getfield 25, 3) := by decide +kernel
theorem dX0_copyFrom_45 : decode cX0_copyFrom 45 = .ok (.aload_n 0, 1) := by decide +kernel
theorem dX0_copyFrom_46 : decode cX0_copyFrom 46 = .ok (.getfield 25, 3) := by decide +kernel
theorem dX0_copyFrom_49 : decode cX0_copyFrom 49 = .ok (.invokestatic 53, 3) := by decide +kernel
theorem dX0_copyFrom_52 : decode cX0_copyFrom 52 = .ok (.aload_n 1, 1) := by decide +kernel
theorem dX0_copyFrom_53 : decode cX0_copyFrom 53 = .ok (.getfield 28, 3) := by decide +kernel
theorem dX0_copyFrom_56 : decode cX0_copyFrom 56 = .ok (.aload_n 0, 1) := by decide +kernel
theorem dX0_copyFrom_57 : decode cX0_copyFrom 57 = .ok (.getfield 28, 3) := by decide +kernel
theorem dX0_copyFrom_60 : decode cX0_copyFrom 60 = .ok (.invokestatic 53, 3) := by decide +kernel
theorem dX0_copyFrom_63 : decode cX0_copyFrom 63 = .ok (.return_, 1) := by decide +kernel
end
section
set_option maxRecDepth 20000 in
theorem ggX1_init_X4_init : GoodIn wsX1_init wsX4_init := goodIn_r _ [11, 12, 2, 3, 13, 14, 15, 16, 17, 18, 19, 20, 21, 22, 23, 24, 25, 26, 27, 28, 29, 30, 31, 32, 33, 34, 35, 36, 37, 41, 42, 43, 44, 45, 46, 47, 48, 49, 50, 51, 52, 53, 54, 55, 56, 57, 58, 59, 60, 61] (by decide +kernel) (by decide +kernel)
set_option maxRecDepth 20000 in
theorem gX1_init_X4_init_n24 : GoodIn wsX1_init (wsX4_init) := ggX1_init_X4_init
theorem dX1_init_0 : decode cX1_init 0 = .ok (.aload_n 0, 1) := by decide +kernel
theorem dX1_init_1 : decode cX1_init 1 = .ok (.invokespecial 3, 3) := by decide +kernel
theorem dX1_init_4 : decode cX1_init 4 = .ok (.aload_n 0, 1) := by decide +kernel
theorem dX1_init_5 : decode cX1_init 5 = .ok (.iconst 0, 1) := by decide +kernel
theorem dX1_init_6 : decode cX1_init 6 = .ok (.putfield 9, 3) := by decide +kernel
theorem dX1_init_9 : decode cX1_init 9 = .ok (.aload_n 0, 1) := by decide +kernel
theorem dX1_init_10 : decode cX1_init 10 = .ok (.iconst 0, 1) := by decide +kernel
theorem dX1_init_11 : decode cX1_init 11 = .ok (.putfield 15, 3) := by decide +kernel
theorem dX1_init_14 : decode cX1_init 14 = .ok (.aload_n 0, 1) := by decide +kernel
theorem dX1_init_15 : decode cX1_init 15 = .ok (.bipush 8, 2) := by decide +kernel
theorem dX1_init_17 : decode cX1_init 17 = .ok (.anewarray 18, 3) := by decide +kernel
theorem dX1_init_20 : decode cX1_init 20 = .ok (.putfield 20, 3) := by decide +kernel
theorem dX1_init_23 : decode cX1_init 23 = .ok (.iconst 0, 1) := by decide +kernel
theorem dX1_init_24 : decode cX1_init 24 = .ok (.istore_n 1, 1) := by decide +kernel
theorem dX1_init_25 : decode cX1_init 25 = .ok (.iload_n 1, 1) := by decide +kernel
theorem dX1_init_26 : decode cX1_init 26 = .ok (.bipush 8, 2) := by decide +kernel
theorem dX1_init_28 : decode cX1_init 28 = .ok (.if_icmp .ge 22, 3) := by decide +kernel
theorem dX1_init_31 : decode cX1_init 31 = .ok (.aload_n 0, 1) := by decide +kernel
theorem dX1_init_32 : decode cX1_init 32 = .ok (.getfield 20, 3) := by decide +kernel
theorem dX1_init_35 : decode cX1_init 35 = .ok (.iload_n 1, 1) := by decide +kernel
theorem dX1_init_36 : decode cX1_init 36 = .ok (.new 18, 3) := by decide +kernel
theorem dX1_init_39 : decode cX1_init 39 = .ok (.dup, 1) := by decide +kernel
theorem dX1_init_40 : decode cX1_init 40 = .ok (.invokespecial 24, 3) := by decide +kernel
theorem dX1_init_43 : decode cX1_init 43 = .ok (.aastore, 1) := by decide +kernel
theorem dX1_init_44 : decode cX1_init 44 = .ok (.iinc 1 1, 3) := by decide +kernel
theorem dX1_init_47 : decode cX1_init 47 = .ok (.goto (-22), 3) := by decide +kernel
theorem dX1_init_50 : decode cX1_init 50 = .ok (.return_, 1) := by decide +kernel
set_option maxRecDepth 20000 in
theorem ggX1_remember_X1_rowAt : GoodIn wsX1_remember wsX1_rowAt := goodIn_r _ [11, 12, 13, 14, 15, 54, 55, 56] (by decide +kernel) (by decide +kernel)
set_option maxRecDepth 20000 in
theorem gX1_remember_X1_rowAt : GoodIn wsX1_remember (wsV RX1 25 RX1 yX1_rowAt wsX1_rowAt) := goodIn_app (goodIn_of _ (by decide +kernel)) ggX1_remember_X1_rowAt
set_option maxRecDepth 20000 in
theorem ggX1_remember_X4_copyFrom : GoodIn wsX1_remember wsX4_copyFrom := goodIn_r _ [20, 21, 22, 23, 24, 25, 26, 27, 28, 29, 30, 31, 32, 33, 34, 35, 36, 14, 37, 38, 4, 5, 6, 39, 40, 41, 42, 43, 44, 45, 46, 47, 48, 49, 50, 51, 52, 53, 57, 58, 59, 60, 61, 62, 63, 64, 65, 66, 67, 68, 69, 70, 71, 72, 73, 74, 75, 76, 77] (by decide +kernel) (by decide +kernel)
set_option maxRecDepth 20000 in
theorem gX1_remember_X4_copyFrom : GoodIn wsX1_remember (wsV RX1 29 RX4 yX4_copyFrom wsX4_copyFrom) := goodIn_app (goodIn_of _ (by decide +kernel)) ggX1_remember_X4_copyFrom
theorem dX1_remember_0 : decode cX1_remember 0 = .ok (.aload_n 0, 1) := by decide +kernel
theorem dX1_remember_1 : decode cX1_remember 1 = .ok (.aload_n 0, 1) := by decide +kernel
theorem dX1_remember_2 : decode cX1_remember 2 = .ok (.getfield 15, 3) := by decide +kernel
theorem dX1_remember_5 : decode cX1_remember 5 = .ok (.iconst 1, 1) := by decide +kernel
theorem dX1_remember_6 : decode cX1_remember 6 = .ok (.iadd, 1) := by decide +kernel
theorem dX1_remember_7 : decode cX1_remember 7 = .ok (.bipush 8, 2) := by decide +kernel
theorem dX1_remember_9 : decode cX1_remember 9 = .ok (.irem, 1) := by decide +kernel
theorem dX1_remember_10 : decode cX1_remember 10 = .ok (.putfield 15, 3) := by decide +kernel
theorem dX1_remember_13 : decode cX1_remember 13 = .ok (.aload_n 0, 1) := by decide +kernel
theorem dX1_remember_14 : decode cX1_remember 14 = .ok (.aload_n 0, 1) := by decide +kernel
theorem dX1_remember_15 : decode cX1_remember 15 = .ok (.getfield 15, 3) := by decide +kernel
theorem dX1_remember_18 : decode cX1_remember 18 = .ok (.invokevirtual 25, 3) := by decide +kernel
theorem dX1_remember_21 : decode cX1_remember 21 = .ok (.astore_n 2, 1) := by decide +kernel
theorem dX1_remember_22 : decode cX1_remember 22 = .ok (.aload_n 2, 1) := by decide +kernel
theorem dX1_remember_23 : decode cX1_remember 23 = .ok (.ifnull 23, 3) := by decide +kernel
theorem dX1_remember_26 : decode cX1_remember 26 = .ok (.aload_n 2, 1) := by decide +kernel
theorem dX1_remember_27 : decode cX1_remember 27 = .ok (.aload_n 1, 1) := by decide +kernel
theorem dX1_remember_28 : decode cX1_remember 28 = .ok (.invokevirtual 29, 3) := by decide +kernel
theorem dX1_remember_31 : decode cX1_remember 31 = .ok (.aload_n 0, 1) := by decide +kernel
theorem dX1_remember_32 : decode cX1_remember 32 = .ok (.bipush 8, 2) := by decide +kernel
theorem dX1_remember_34 : decode cX1_remember 34 = .ok (.aload_n 0, 1) := by decide +kernel
theorem dX1_remember_35 : decode cX1_remember 35 = .ok (.getfield 9, 3) := by decide +kernel
theorem dX1_remember_38 : decode cX1_remember 38 = .ok (.iconst 1, 1) := by decide +kernel
theorem dX1_remember_39 : decode cX1_remember 39 = .ok (.iadd, 1) := by decide +kernel
theorem dX1_remember_40 : decode cX1_remember 40 = .ok (.invokestatic 33, 3) := by decide +kernel
theorem dX1_remember_43 : decode cX1_remember 43 = .ok (.putfield 9, 3) := by decide +kernel
theorem dX1_remember_46 : decode cX1_remember 46 = .ok (.return_, 1) := by decide +kernel
set_option maxRecDepth 20000 in
theorem ggX1_takeBack_X1_rowAt : GoodIn wsX1_takeBack wsX1_rowAt := goodIn_r _ [7, 8, 9, 10, 11, 53, 54, 55] (by decide +kernel) (by decide +kernel)
set_option maxRecDepth 20000 in
theorem gX1_takeBack_X1_rowAt : GoodIn wsX1_takeBack (wsV RX1 25 RX1 yX1_rowAt wsX1_rowAt) := goodIn_app (goodIn_of _ (by decide +kernel)) ggX1_takeBack_X1_rowAt
set_option maxRecDepth 20000 in
theorem ggX1_takeBack_X4_copyFrom : GoodIn wsX1_takeBack wsX4_copyFrom := goodIn_r _ [16, 17, 18, 19, 20, 21, 22, 23, 24, 25, 26, 27, 28, 29, 30, 31, 32, 10, 33, 34, 35, 36, 37, 38, 39, 40, 41, 42, 43, 44, 45, 46, 47, 48, 49, 50, 51, 52, 56, 57, 58, 59, 60, 61, 62, 63, 64, 65, 66, 67, 68, 69, 70, 71, 72, 73, 74, 75, 76] (by decide +kernel) (by decide +kernel)
set_option maxRecDepth 20000 in
theorem gX1_takeBack_X4_copyFrom : GoodIn wsX1_takeBack (wsV RX1 29 RX4 yX4_copyFrom wsX4_copyFrom) := goodIn_app (goodIn_of _ (by decide +kernel)) ggX1_takeBack_X4_copyFrom
theorem dX1_takeBack_0 : decode cX1_takeBack 0 = .ok (.aload_n 0, 1) := by decide +kernel
theorem dX1_takeBack_1 : decode cX1_takeBack 1 = .ok (.aload_n 0, 1) := by decide +kernel
theorem dX1_takeBack_2 : decode cX1_takeBack 2 = .ok (.getfield 15, 3) := by decide +kernel
theorem dX1_takeBack_5 : decode cX1_takeBack 5 = .ok (.invokevirtual 25, 3) := by decide +kernel
theorem dX1_takeBack_8 : decode cX1_takeBack 8 = .ok (.astore_n 2, 1) := by decide +kernel
theorem dX1_takeBack_9 : decode cX1_takeBack 9 = .ok (.aload_n 0, 1) := by decide +kernel
theorem dX1_takeBack_10 : decode cX1_takeBack 10 = .ok (.getfield 9, 3) := by decide +kernel
theorem dX1_takeBack_13 : decode cX1_takeBack 13 = .ok (.ifCond .le 7, 3) := by decide +kernel
theorem dX1_takeBack_16 : decode cX1_takeBack 16 = .ok (.aload_n 2, 1) := by decide +kernel
theorem dX1_takeBack_17 : decode cX1_takeBack 17 = .ok (.ifnonnull 5, 3) := by decide +kernel
theorem dX1_takeBack_20 : decode cX1_takeBack 20 = .ok (.iconst 0, 1) := by decide +kernel
theorem dX1_takeBack_21 : decode cX1_takeBack 21 = .ok (.ireturn, 1) := by decide +kernel
theorem dX1_takeBack_22 : decode cX1_takeBack 22 = .ok (.aload_n 1, 1) := by decide +kernel
theorem dX1_takeBack_23 : decode cX1_takeBack 23 = .ok (.aload_n 2, 1) := by decide +kernel
theorem dX1_takeBack_24 : decode cX1_takeBack 24 = .ok (.invokevirtual 29, 3) := by decide +kernel
theorem dX1_takeBack_27 : decode cX1_takeBack 27 = .ok (.aload_n 0, 1) := by decide +kernel
theorem dX1_takeBack_28 : decode cX1_takeBack 28 = .ok (.aload_n 0, 1) := by decide +kernel
theorem dX1_takeBack_29 : decode cX1_takeBack 29 = .ok (.getfield 15, 3) := by decide +kernel
theorem dX1_takeBack_32 : decode cX1_takeBack 32 = .ok (.bipush 8, 2) := by decide +kernel
theorem dX1_takeBack_34 : decode cX1_takeBack 34 = .ok (.iadd, 1) := by decide +kernel
theorem dX1_takeBack_35 : decode cX1_takeBack 35 = .ok (.iconst 1, 1) := by decide +kernel
theorem dX1_takeBack_36 : decode cX1_takeBack 36 = .ok (.isub, 1) := by decide +kernel
theorem dX1_takeBack_37 : decode cX1_takeBack 37 = .ok (.bipush 8, 2) := by decide +kernel
theorem dX1_takeBack_39 : decode cX1_takeBack 39 = .ok (.irem, 1) := by decide +kernel
theorem dX1_takeBack_40 : decode cX1_takeBack 40 = .ok (.putfield 15, 3) := by decide +kernel
theorem dX1_takeBack_43 : decode cX1_takeBack 43 = .ok (.aload_n 0, 1) := by decide +kernel
theorem dX1_takeBack_44 : decode cX1_takeBack 44 = .ok (.dup, 1) := by decide +kernel
theorem dX1_takeBack_45 : decode cX1_takeBack 45 = .ok (.getfield 9, 3) := by decide +kernel
theorem dX1_takeBack_48 : decode cX1_takeBack 48 = .ok (.iconst 1, 1) := by decide +kernel
theorem dX1_takeBack_49 : decode cX1_takeBack 49 = .ok (.isub, 1) := by decide +kernel
theorem dX1_takeBack_50 : decode cX1_takeBack 50 = .ok (.putfield 9, 3) := by decide +kernel
theorem dX1_takeBack_53 : decode cX1_takeBack 53 = .ok (.iconst 1, 1) := by decide +kernel
theorem dX1_takeBack_54 : decode cX1_takeBack 54 = .ok (.ireturn, 1) := by decide +kernel
set_option maxRecDepth 20000 in
theorem ggX1_rowAt_X7_isWithin : GoodIn wsX1_rowAt wsX7_isWithin := goodIn_r _ [4] (by decide +kernel) (by decide +kernel)
set_option maxRecDepth 20000 in
theorem gX1_rowAt_X7_isWithin_n39 : GoodIn wsX1_rowAt (wsX7_isWithin) := ggX1_rowAt_X7_isWithin
theorem dX1_rowAt_0 : decode cX1_rowAt 0 = .ok (.iload_n 1, 1) := by decide +kernel
theorem dX1_rowAt_1 : decode cX1_rowAt 1 = .ok (.iconst 0, 1) := by decide +kernel
theorem dX1_rowAt_2 : decode cX1_rowAt 2 = .ok (.bipush 7, 2) := by decide +kernel
theorem dX1_rowAt_4 : decode cX1_rowAt 4 = .ok (.invokestatic 39, 3) := by decide +kernel
theorem dX1_rowAt_7 : decode cX1_rowAt 7 = .ok (.ifCond .eq 12, 3) := by decide +kernel
theorem dX1_rowAt_10 : decode cX1_rowAt 10 = .ok (.aload_n 0, 1) := by decide +kernel
theorem dX1_rowAt_11 : decode cX1_rowAt 11 = .ok (.getfield 20, 3) := by decide +kernel
theorem dX1_rowAt_14 : decode cX1_rowAt 14 = .ok (.iload_n 1, 1) := by decide +kernel
theorem dX1_rowAt_15 : decode cX1_rowAt 15 = .ok (.aaload, 1) := by decide +kernel
theorem dX1_rowAt_16 : decode cX1_rowAt 16 = .ok (.goto 4, 3) := by decide +kernel
theorem dX1_rowAt_19 : decode cX1_rowAt 19 = .ok (.aconst_null, 1) := by decide +kernel
theorem dX1_rowAt_20 : decode cX1_rowAt 20 = .ok (.areturn, 1) := by decide +kernel
set_option maxRecDepth 20000 in
theorem ggX2_init_X4_init : GoodIn wsX2_init wsX4_init := goodIn_r _ [10, 11, 2, 3, 12, 13, 14, 15, 16, 17, 18, 19, 20, 21, 22, 23, 24, 25, 26, 27, 28, 29, 30, 31, 32, 33, 34, 35, 36, 39, 40, 41, 42, 43, 44, 45, 46, 47, 48, 49, 50, 51, 52, 53, 54, 55, 56, 57, 58, 59] (by decide +kernel) (by decide +kernel)
set_option maxRecDepth 20000 in
theorem gX2_init_X4_init_n15 : GoodIn wsX2_init (wsX4_init) := ggX2_init_X4_init
theorem dX2_init_0 : decode cX2_init 0 = .ok (.aload_n 0, 1) := by decide +kernel
theorem dX2_init_1 : decode cX2_init 1 = .ok (.invokespecial 1, 3) := by decide +kernel
theorem dX2_init_4 : decode cX2_init 4 = .ok (.aload_n 0, 1) := by decide +kernel
theorem dX2_init_5 : decode cX2_init 5 = .ok (.iconst 0, 1) := by decide +kernel
theorem dX2_init_6 : decode cX2_init 6 = .ok (.putfield 7, 3) := by decide +kernel
theorem dX2_init_9 : decode cX2_init 9 = .ok (.aload_n 0, 1) := by decide +kernel
theorem dX2_init_10 : decode cX2_init 10 = .ok (.new 13, 3) := by decide +kernel
theorem dX2_init_13 : decode cX2_init 13 = .ok (.dup, 1) := by decide +kernel
theorem dX2_init_14 : decode cX2_init 14 = .ok (.invokespecial 15, 3) := by decide +kernel
theorem dX2_init_17 : decode cX2_init 17 = .ok (.putfield 16, 3) := by decide +kernel
theorem dX2_init_20 : decode cX2_init 20 = .ok (.return_, 1) := by decide +kernel
set_option maxRecDepth 20000 in
theorem ggX2_take_X4_copyFrom : GoodIn wsX2_take wsX4_copyFrom := goodIn_r _ [7, 8, 9, 10, 11, 12, 13, 14, 15, 16, 17, 18, 19, 20, 21, 22, 23, 24, 25, 26, 27, 28, 29, 30, 31, 32, 33, 34, 35, 36, 37, 38, 39, 40, 41, 42, 43, 44, 47, 48, 49, 50, 51, 52, 53, 54, 55, 56, 57, 58, 59, 60, 61, 62, 63, 64, 65, 66, 67] (by decide +kernel) (by decide +kernel)
set_option maxRecDepth 20000 in
theorem gX2_take_X4_copyFrom : GoodIn wsX2_take (wsV RX2 20 RX4 yX4_copyFrom wsX4_copyFrom) := goodIn_app (goodIn_of _ (by decide +kernel)) ggX2_take_X4_copyFrom
theorem dX2_take_0 : decode cX2_take 0 = .ok (.aload_n 0, 1) := by decide +kernel
theorem dX2_take_1 : decode cX2_take 1 = .ok (.getfield 16, 3) := by decide +kernel
theorem dX2_take_4 : decode cX2_take 4 = .ok (.aload_n 1, 1) := by decide +kernel
theorem dX2_take_5 : decode cX2_take 5 = .ok (.invokevirtual 20, 3) := by decide +kernel
theorem dX2_take_8 : decode cX2_take 8 = .ok (.aload_n 0, 1) := by decide +kernel
theorem dX2_take_9 : decode cX2_take 9 = .ok (.iconst 1, 1) := by decide +kernel
theorem dX2_take_10 : decode cX2_take 10 = .ok (.putfield 7, 3) := by decide +kernel
theorem dX2_take_13 : decode cX2_take 13 = .ok (.return_, 1) := by decide +kernel
set_option maxRecDepth 20000 in
theorem ggX3_init_X3_begin : GoodIn wsX3_init wsX3_begin := goodIn_r _ [14, 15, 16, 17, 18, 19, 20, 21, 22, 23, 24, 25, 26, 27, 28, 29, 30, 31] (by decide +kernel) (by decide +kernel)
set_option maxRecDepth 20000 in
theorem gX3_init_X3_begin : GoodIn wsX3_init (wsV RX3 27 RX3 yX3_begin wsX3_begin) := goodIn_app (goodIn_of _ (by decide +kernel)) ggX3_init_X3_begin
theorem dX3_init_0 : decode cX3_init 0 = .ok (.aload_n 0, 1) := by decide +kernel
theorem dX3_init_1 : decode cX3_init 1 = .ok (.invokespecial 3, 3) := by decide +kernel
theorem dX3_init_4 : decode cX3_init 4 = .ok (.aload_n 0, 1) := by decide +kernel
theorem dX3_init_5 : decode cX3_init 5 = .ok (.iconst 3, 1) := by decide +kernel
theorem dX3_init_6 : decode cX3_init 6 = .ok (.newarray .int, 2) := by decide +kernel
theorem dX3_init_8 : decode cX3_init 8 = .ok (.putfield 9, 3) := by decide +kernel
theorem dX3_init_11 : decode cX3_init 11 = .ok (.aload_n 0, 1) := by decide +kernel
theorem dX3_init_12 : decode cX3_init 12 = .ok (.bipush 6, 2) := by decide +kernel
theorem dX3_init_14 : decode cX3_init 14 = .ok (.newarray .int, 2) := by decide +kernel
theorem dX3_init_16 : decode cX3_init 16 = .ok (.putfield 15, 3) := by decide +kernel
theorem dX3_init_19 : decode cX3_init 19 = .ok (.aload_n 0, 1) := by decide +kernel
theorem dX3_init_20 : decode cX3_init 20 = .ok (.bipush 6, 2) := by decide +kernel
theorem dX3_init_22 : decode cX3_init 22 = .ok (.newarray .int, 2) := by decide +kernel
theorem dX3_init_24 : decode cX3_init 24 = .ok (.putfield 18, 3) := by decide +kernel
theorem dX3_init_27 : decode cX3_init 27 = .ok (.aload_n 0, 1) := by decide +kernel
theorem dX3_init_28 : decode cX3_init 28 = .ok (.bipush 6, 2) := by decide +kernel
theorem dX3_init_30 : decode cX3_init 30 = .ok (.newarray .int, 2) := by decide +kernel
theorem dX3_init_32 : decode cX3_init 32 = .ok (.putfield 21, 3) := by decide +kernel
theorem dX3_init_35 : decode cX3_init 35 = .ok (.aload_n 0, 1) := by decide +kernel
theorem dX3_init_36 : decode cX3_init 36 = .ok (.bipush 6, 2) := by decide +kernel
theorem dX3_init_38 : decode cX3_init 38 = .ok (.newarray .int, 2) := by decide +kernel
theorem dX3_init_40 : decode cX3_init 40 = .ok (.putfield 24, 3) := by decide +kernel
theorem dX3_init_43 : decode cX3_init 43 = .ok (.aload_n 0, 1) := by decide +kernel
theorem dX3_init_44 : decode cX3_init 44 = .ok (.invokevirtual 27, 3) := by decide +kernel
theorem dX3_init_47 : decode cX3_init 47 = .ok (.return_, 1) := by decide +kernel
theorem dX3_begin_0 : decode cX3_begin 0 = .ok (.aload_n 0, 1) := by decide +kernel
theorem dX3_begin_1 : decode cX3_begin 1 = .ok (.iconst 0, 1) := by decide +kernel
theorem dX3_begin_2 : decode cX3_begin 2 = .ok (.putfield 30, 3) := by decide +kernel
theorem dX3_begin_5 : decode cX3_begin 5 = .ok (.aload_n 0, 1) := by decide +kernel
theorem dX3_begin_6 : decode cX3_begin 6 = .ok (.iconst 0, 1) := by decide +kernel
theorem dX3_begin_7 : decode cX3_begin 7 = .ok (.putfield 34, 3) := by decide +kernel
theorem dX3_begin_10 : decode cX3_begin 10 = .ok (.aload_n 0, 1) := by decide +kernel
theorem dX3_begin_11 : decode cX3_begin 11 = .ok (.bipush 20, 2) := by decide +kernel
theorem dX3_begin_13 : decode cX3_begin 13 = .ok (.putfield 37, 3) := by decide +kernel
theorem dX3_begin_16 : decode cX3_begin 16 = .ok (.aload_n 0, 1) := by decide +kernel
theorem dX3_begin_17 : decode cX3_begin 17 = .ok (.iconst 2, 1) := by decide +kernel
theorem dX3_begin_18 : decode cX3_begin 18 = .ok (.putfield 40, 3) := by decide +kernel
theorem dX3_begin_21 : decode cX3_begin 21 = .ok (.aload_n 0, 1) := by decide +kernel
theorem dX3_begin_22 : decode cX3_begin 22 = .ok (.iconst 4, 1) := by decide +kernel
theorem dX3_begin_23 : decode cX3_begin 23 = .ok (.putfield 43, 3) := by decide +kernel
theorem dX3_begin_26 : decode cX3_begin 26 = .ok (.aload_n 0, 1) := by decide +kernel
theorem dX3_begin_27 : decode cX3_begin 27 = .ok (.iconst 3, 1) := by decide +kernel
theorem dX3_begin_28 : decode cX3_begin 28 = .ok (.putfield 46, 3) := by decide +kernel
theorem dX3_begin_31 : decode cX3_begin 31 = .ok (.return_, 1) := by decide +kernel
set_option maxRecDepth 20000 in
theorem ggX3_copyFrom_X7_copyRow : GoodIn wsX3_copyFrom wsX7_copyRow := goodIn_r _ [14, 15, 16, 17, 18, 19, 20, 21, 22] (by decide +kernel) (by decide +kernel)
set_option maxRecDepth 20000 in
theorem gX3_copyFrom_X7_copyRow_n49 : GoodIn wsX3_copyFrom (wsX7_copyRow) := ggX3_copyFrom_X7_copyRow
theorem dX3_copyFrom_0 : decode cX3_copyFrom 0 = .ok (.aload_n 0, 1) := by decide +kernel
theorem dX3_copyFrom_1 : decode cX3_copyFrom 1 = .ok (.aload_n 1, 1) := by decide +kernel
theorem dX3_copyFrom_2 : decode cX3_copyFrom 2 = .ok (.getfield 30, 3) := by decide +kernel
theorem dX3_copyFrom_5 : decode cX3_copyFrom 5 = .ok (.putfield 30, 3) := by decide +kernel
theorem dX3_copyFrom_8 : decode cX3_copyFrom 8 = .ok (.aload_n 0, 1) := by decide +kernel
theorem dX3_copyFrom_9 : decode cX3_copyFrom 9 = .ok (.aload_n 1, 1) := by decide +kernel
theorem dX3_copyFrom_10 : decode cX3_copyFrom 10 = .ok (.getfield 34, 3) := by decide +kernel
theorem dX3_copyFrom_13 : decode cX3_copyFrom 13 = .ok (.putfield 34, 3) := by decide +kernel
theorem dX3_copyFrom_16 : decode cX3_copyFrom 16 = .ok (.aload_n 0, 1) := by decide +kernel
theorem dX3_copyFrom_17 : decode cX3_copyFrom 17 = .ok (.aload_n 1, 1) := by decide +kernel
theorem dX3_copyFrom_18 : decode cX3_copyFrom 18 = .ok (.getfield 37, 3) := by decide +kernel
theorem dX3_copyFrom_21 : decode cX3_copyFrom 21 = .ok (.putfield 37, 3) := by decide +kernel
theorem dX3_copyFrom_24 : decode cX3_copyFrom 24 = .ok (.aload_n 0, 1) := by decide +kernel
theorem dX3_copyFrom_25 : decode cX3_copyFrom 25 = .ok (.aload_n 1, 1) := by decide +kernel
theorem dX3_copyFrom_26 : decode cX3_copyFrom 26 = .ok (.getfield 40, 3) := by decide +kernel
theorem dX3_copyFrom_29 : decode cX3_copyFrom 29 = .ok (.putfield 40, 3) := by decide +kernel
theorem dX3_copyFrom_32 : decode cX3_copyFrom 32 = .ok (.aload_n 0, 1) := by decide +kernel
theorem dX3_copyFrom_33 : decode cX3_copyFrom 33 = .ok (.aload_n 1, 1) := by decide +kernel
theorem dX3_copyFrom_34 : decode cX3_copyFrom 34 = .ok (.getfield 43, 3) := by decide +kernel
theorem dX3_copyFrom_37 : decode cX3_copyFrom 37 = .ok (.putfield 43, 3) := by decide +kernel
theorem dX3_copyFrom_40 : decode cX3_copyFrom 40 = .ok (.aload_n 0, 1) := by decide +kernel
theorem dX3_copyFrom_41 : decode cX3_copyFrom 41 = .ok (.aload_n 1, 1) := by decide +kernel
theorem dX3_copyFrom_42 : decode cX3_copyFrom 42 = .ok (.getfield 46, 3) := by decide +kernel
theorem dX3_copyFrom_45 : decode cX3_copyFrom 45 = .ok (.putfield 46, 3) := by decide +kernel
theorem dX3_copyFrom_48 : decode cX3_copyFrom 48 = .ok (.aload_n 1, 1) := by decide +kernel
theorem dX3_copyFrom_49 : decode cX3_copyFrom 49 = .ok (.getfield 9, 3) := by decide +kernel
theorem dX3_copyFrom_52 : decode cX3_copyFrom 52 = .ok (.aload_n 0, 1) := by decide +kernel
theorem dX3_copyFrom_53 : decode cX3_copyFrom 53 = .ok (.getfield 9, 3) := by decide +kernel
theorem dX3_copyFrom_56 : decode cX3_copyFrom 56 = .ok (.invokestatic 49, 3) := by decide +kernel
theorem dX3_copyFrom_59 : decode cX3_copyFrom 59 = .ok (.aload_n 1, 1) := by decide +kernel
theorem dX3_copyFrom_60 : decode cX3_copyFrom 60 = .ok (.getfield 15, 3) := by decide +kernel
theorem dX3_copyFrom_63 : decode cX3_copyFrom 63 = .ok (.aload_n 0, 1) := by decide +kernel
theorem dX3_copyFrom_64 : decode cX3_copyFrom 64 = .ok (.getfield 15, 3) := by decide +kernel
theorem dX3_copyFrom_67 : decode cX3_copyFrom 67 = .ok (.invokestatic 49, 3) := by decide +kernel
theorem dX3_copyFrom_70 : decode cX3_copyFrom 70 = .ok (.aload_n 1, 1) := by decide +kernel
theorem dX3_copyFrom_71 : decode cX3_copyFrom 71 = .ok (.getfield 18, 3) := by decide +kernel
theorem dX3_copyFrom_74 : decode cX3_copyFrom 74 = .ok (.aload_n 0, 1) := by decide +kernel
theorem dX3_copyFrom_75 : decode cX3_copyFrom 75 = .ok (.getfield 18, 3) := by decide +kernel
theorem dX3_copyFrom_78 : decode cX3_copyFrom 78 = .ok (.invokestatic 49, 3) := by decide +kernel
theorem dX3_copyFrom_81 : decode cX3_copyFrom 81 = .ok (.aload_n 1, 1) := by decide +kernel
theorem dX3_copyFrom_82 : decode cX3_copyFrom 82 = .ok (.getfield 21, 3) := by decide +kernel
theorem dX3_copyFrom_85 : decode cX3_copyFrom 85 = .ok (.aload_n 0, 1) := by decide +kernel
theorem dX3_copyFrom_86 : decode cX3_copyFrom 86 = .ok (.getfield 21, 3) := by decide +kernel
theorem dX3_copyFrom_89 : decode cX3_copyFrom 89 = .ok (.invokestatic 49, 3) := by decide +kernel
theorem dX3_copyFrom_92 : decode cX3_copyFrom 92 = .ok (.aload_n 1, 1) := by decide +kernel
theorem dX3_copyFrom_93 : decode cX3_copyFrom 93 = .ok (.getfield 24, 3) := by decide +kernel
theorem dX3_copyFrom_96 : decode cX3_copyFrom 96 = .ok (.aload_n 0, 1) := by decide +kernel
theorem dX3_copyFrom_97 : decode cX3_copyFrom 97 = .ok (.getfield 24, 3) := by decide +kernel
theorem dX3_copyFrom_100 : decode cX3_copyFrom 100 = .ok (.invokestatic 49, 3) := by decide +kernel
theorem dX3_copyFrom_103 : decode cX3_copyFrom 103 = .ok (.return_, 1) := by decide +kernel
theorem dX3_isAhead_0 : decode cX3_isAhead 0 = .ok (.aload_n 0, 1) := by decide +kernel
theorem dX3_isAhead_1 : decode cX3_isAhead 1 = .ok (.getfield 18, 3) := by decide +kernel
theorem dX3_isAhead_4 : decode cX3_isAhead 4 = .ok (.iload_n 1, 1) := by decide +kernel
theorem dX3_isAhead_5 : decode cX3_isAhead 5 = .ok (.iaload, 1) := by decide +kernel
theorem dX3_isAhead_6 : decode cX3_isAhead 6 = .ok (.aload_n 0, 1) := by decide +kernel
theorem dX3_isAhead_7 : decode cX3_isAhead 7 = .ok (.getfield 18, 3) := by decide +kernel
theorem dX3_isAhead_10 : decode cX3_isAhead 10 = .ok (.iload_n 2, 1) := by decide +kernel
theorem dX3_isAhead_11 : decode cX3_isAhead 11 = .ok (.iaload, 1) := by decide +kernel
theorem dX3_isAhead_12 : decode cX3_isAhead 12 = .ok (.if_icmp .lt 23, 3) := by decide +kernel
theorem dX3_isAhead_15 : decode cX3_isAhead 15 = .ok (.aload_n 0, 1) := by decide +kernel
theorem dX3_isAhead_16 : decode cX3_isAhead 16 = .ok (.getfield 18, 3) := by decide +kernel
theorem dX3_isAhead_19 : decode cX3_isAhead 19 = .ok (.iload_n 1, 1) := by decide +kernel
theorem dX3_isAhead_20 : decode cX3_isAhead 20 = .ok (.iaload, 1) := by decide +kernel
theorem dX3_isAhead_21 : decode cX3_isAhead 21 = .ok (.aload_n 0, 1) := by decide +kernel
theorem dX3_isAhead_22 : decode cX3_isAhead 22 = .ok (.getfield 18, 3) := by decide +kernel
theorem dX3_isAhead_25 : decode cX3_isAhead 25 = .ok (.iload_n 2, 1) := by decide +kernel
theorem dX3_isAhead_26 : decode cX3_isAhead 26 = .ok (.iaload, 1) := by decide +kernel
theorem dX3_isAhead_27 : decode cX3_isAhead 27 = .ok (.if_icmp .ne 12, 3) := by decide +kernel
theorem dX3_isAhead_30 : decode cX3_isAhead 30 = .ok (.iload_n 1, 1) := by decide +kernel
theorem dX3_isAhead_31 : decode cX3_isAhead 31 = .ok (.iload_n 2, 1) := by decide +kernel
theorem dX3_isAhead_32 : decode cX3_isAhead 32 = .ok (.if_icmp .ge 7, 3) := by decide +kernel
theorem dX3_isAhead_35 : decode cX3_isAhead 35 = .ok (.iconst 1, 1) := by decide +kernel
theorem dX3_isAhead_36 : decode cX3_isAhead 36 = .ok (.goto 4, 3) := by decide +kernel
theorem dX3_isAhead_39 : decode cX3_isAhead 39 = .ok (.iconst 0, 1) := by decide +kernel
theorem dX3_isAhead_40 : decode cX3_isAhead 40 = .ok (.ireturn, 1) := by decide +kernel
theorem dX3_isPlaceToAsk_0 : decode cX3_isPlaceToAsk 0 = .ok (.aload_n 0, 1) := by decide +kernel
theorem dX3_isPlaceToAsk_1 : decode cX3_isPlaceToAsk 1 = .ok (.getfield 9, 3) := by decide +kernel
theorem dX3_isPlaceToAsk_4 : decode cX3_isPlaceToAsk 4 = .ok (.iload_n 1, 1) := by decide +kernel
theorem dX3_isPlaceToAsk_5 : decode cX3_isPlaceToAsk 5 = .ok (.iaload, 1) := by decide +kernel
theorem dX3_isPlaceToAsk_6 : decode cX3_isPlaceToAsk 6 = .ok (.istore_n 3, 1) := by decide +kernel
theorem dX3_isPlaceToAsk_7 : decode cX3_isPlaceToAsk 7 = .ok (.iload_n 3, 1) := by decide +kernel
theorem dX3_isPlaceToAsk_8 : decode cX3_isPlaceToAsk 8 = .ok (.ifCond .le 16, 3) := by decide +kernel
theorem dX3_isPlaceToAsk_11 : decode cX3_isPlaceToAsk 11 = .ok (.iload_n 2, 1) := by decide +kernel
theorem dX3_isPlaceToAsk_12 : decode cX3_isPlaceToAsk 12 = .ok (.iload_n 3, 1) := by decide +kernel
theorem dX3_isPlaceToAsk_13 : decode cX3_isPlaceToAsk 13 = .ok (.irem, 1) := by decide +kernel
theorem dX3_isPlaceToAsk_14 : decode cX3_isPlaceToAsk 14 = .ok (.iload_n 1, 1) := by decide +kernel
theorem dX3_isPlaceToAsk_15 : decode cX3_isPlaceToAsk 15 = .ok (.iload_n 3, 1) := by decide +kernel
theorem dX3_isPlaceToAsk_16 : decode cX3_isPlaceToAsk 16 = .ok (.irem, 1) := by decide +kernel
theorem dX3_isPlaceToAsk_17 : decode cX3_isPlaceToAsk 17 = .ok (.if_icmp .ne 7, 3) := by decide +kernel
theorem dX3_isPlaceToAsk_20 : decode cX3_isPlaceToAsk 20 = .ok (.iconst 1, 1) := by decide +kernel
theorem dX3_isPlaceToAsk_21 : decode cX3_isPlaceToAsk 21 = .ok (.goto 4, 3) := by decide +kernel
theorem dX3_isPlaceToAsk_24 : decode cX3_isPlaceToAsk 24 = .ok (.iconst 0, 1) := by decide +kernel
theorem dX3_isPlaceToAsk_25 : decode cX3_isPlaceToAsk 25 = .ok (.ireturn, 1) := by decide +kernel
end
section
set_option maxRecDepth 20000 in
theorem ggX4_init_X0_init : GoodIn wsX4_init wsX0_init := goodIn_r _ [21, 22, 2, 3, 23, 4, 24, 25, 26, 27, 28, 44, 45, 46, 47, 48, 49] (by decide +kernel) (by decide +kernel)
set_option maxRecDepth 20000 in
theorem gX4_init_X0_init_n47 : GoodIn wsX4_init (wsX0_init) := ggX4_init_X0_init
theorem dX4_init_0 : decode cX4_init 0 = .ok (.aload_n 0, 1) := by decide +kernel
theorem dX4_init_1 : decode cX4_init 1 = .ok (.invokespecial 3, 3) := by decide +kernel
theorem dX4_init_4 : decode cX4_init 4 = .ok (.aload_n 0, 1) := by decide +kernel
theorem dX4_init_5 : decode cX4_init 5 = .ok (.iconst 3, 1) := by decide +kernel
theorem dX4_init_6 : decode cX4_init 6 = .ok (.newarray .int, 2) := by decide +kernel
theorem dX4_init_8 : decode cX4_init 8 = .ok (.putfield 9, 3) := by decide +kernel
theorem dX4_init_11 : decode cX4_init 11 = .ok (.aload_n 0, 1) := by decide +kernel
theorem dX4_init_12 : decode cX4_init 12 = .ok (.iconst 3, 1) := by decide +kernel
theorem dX4_init_13 : decode cX4_init 13 = .ok (.newarray .int, 2) := by decide +kernel
theorem dX4_init_15 : decode cX4_init 15 = .ok (.putfield 15, 3) := by decide +kernel
theorem dX4_init_18 : decode cX4_init 18 = .ok (.aload_n 0, 1) := by decide +kernel
theorem dX4_init_19 : decode cX4_init 19 = .ok (.iconst 3, 1) := by decide +kernel
theorem dX4_init_20 : decode cX4_init 20 = .ok (.newarray .int, 2) := by decide +kernel
theorem dX4_init_22 : decode cX4_init 22 = .ok (.putfield 18, 3) := by decide +kernel
theorem dX4_init_25 : decode cX4_init 25 = .ok (.aload_n 0, 1) := by decide +kernel
theorem dX4_init_26 : decode cX4_init 26 = .ok (.iconst 3, 1) := by decide +kernel
theorem dX4_init_27 : decode cX4_init 27 = .ok (.newarray .int, 2) := by decide +kernel
theorem dX4_init_29 : decode cX4_init 29 = .ok (.putfield 21, 3) := by decide +kernel
theorem dX4_init_32 : decode cX4_init 32 = .ok (.aload_n 0, 1) := by decide +kernel
theorem dX4_init_33 : decode cX4_init 33 = .ok (.iconst 3, 1) := by decide +kernel
theorem dX4_init_34 : decode cX4_init 34 = .ok (.newarray .int, 2) := by decide +kernel
theorem dX4_init_36 : decode cX4_init 36 = .ok (.putfield 24, 3) := by decide +kernel
theorem dX4_init_39 : decode cX4_init 39 = .ok (.aload_n 0, 1) := by decide +kernel
theorem dX4_init_40 : decode cX4_init 40 = .ok (.iconst 3, 1) := by decide +kernel
theorem dX4_init_41 : decode cX4_init 41 = .ok (.newarray .int, 2) := by decide +kernel
theorem dX4_init_43 : decode cX4_init 43 = .ok (.putfield 27, 3) := by decide +kernel
theorem dX4_init_46 : decode cX4_init 46 = .ok (.aload_n 0, 1) := by decide +kernel
theorem dX4_init_47 : decode cX4_init 47 = .ok (.bipush 6, 2) := by decide +kernel
theorem dX4_init_49 : decode cX4_init 49 = .ok (.newarray .int, 2) := by decide +kernel
theorem dX4_init_51 : decode cX4_init 51 = .ok (.putfield 30, 3) := by decide +kernel
theorem dX4_init_54 : decode cX4_init 54 = .ok (.aload_n 0, 1) := by decide +kernel
theorem dX4_init_55 : decode cX4_init 55 = .ok (.bipush 6, 2) := by decide +kernel
theorem dX4_init_57 : decode cX4_init 57 = .ok (.newarray .int, 2) := by decide +kernel
theorem dX4_init_59 : decode cX4_init 59 = .ok (.putfield 33, 3) := by decide +kernel
theorem dX4_init_62 : decode cX4_init 62 = .ok (.aload_n 0, 1) := by decide +kernel
theorem dX4_init_63 : decode cX4_init 63 = .ok (.bipush 6, 2) := by decide +kernel
theorem dX4_init_65 : decode cX4_init 65 = .ok (.newarray .int, 2) := by decide +kernel
theorem dX4_init_67 : decode cX4_init 67 = .ok (.putfield 36, 3) := by decide +kernel
theorem dX4_init_70 : decode cX4_init 70 = .ok (.aload_n 0, 1) := by decide +kernel
theorem dX4_init_71 : decode cX4_init 71 = .ok (.bipush 6, 2) := by decide +kernel
theorem dX4_init_73 : decode cX4_init 73 = .ok (.newarray .int, 2) := by decide +kernel
theorem dX4_init_75 : decode cX4_init 75 = .ok (.putfield 39, 3) := by decide +kernel
theorem dX4_init_78 : decode cX4_init 78 = .ok (.aload_n 0, 1) := by decide +kernel
theorem dX4_init_79 : decode cX4_init 79 = .ok (.sipush 200, 3) := by decide +kernel
theorem dX4_init_82 : decode cX4_init 82 = .ok (.newarray .int, 2) := by decide +kernel
theorem dX4_init_84 : decode cX4_init 84 = .ok (.putfield 42, 3) := by decide +kernel
theorem dX4_init_87 : decode cX4_init 87 = .ok (.aload_n 0, 1) := by decide +kernel
theorem dX4_init_88 : decode cX4_init 88 = .ok (.new 45, 3) := by decide +kernel
theorem dX4_init_91 : decode cX4_init 91 = .ok (.dup, 1) := by decide +kernel
theorem dX4_init_92 : decode cX4_init 92 = .ok (.invokespecial 47, 3) := by decide +kernel
theorem dX4_init_95 : decode cX4_init 95 = .ok (.putfield 48, 3) := by decide +kernel
theorem dX4_init_98 : decode cX4_init 98 = .ok (.return_, 1) := by decide +kernel
set_option maxRecDepth 20000 in
theorem ggX4_begin_J7_fill_53178 : GoodIn wsX4_begin wsJ7_fill_53178 := goodIn_r _ [20] (by decide +kernel) (by decide +kernel)
set_option maxRecDepth 20000 in
theorem gX4_begin_J7_fill_53178 : GoodIn wsX4_begin (va_wsS RX4 62 yJ7_fill_53178 wsJ7_fill_53178) := goodIn_app (goodIn_of _ (by decide +kernel)) ggX4_begin_J7_fill_53178
theorem dX4_begin_0 : decode cX4_begin 0 = .ok (.aload_n 0, 1) := by decide +kernel
theorem dX4_begin_1 : decode cX4_begin 1 = .ok (.iconst 0, 1) := by decide +kernel
theorem dX4_begin_2 : decode cX4_begin 2 = .ok (.putfield 52, 3) := by decide +kernel
theorem dX4_begin_5 : decode cX4_begin 5 = .ok (.aload_n 0, 1) := by decide +kernel
theorem dX4_begin_6 : decode cX4_begin 6 = .ok (.iload_n 1, 1) := by decide +kernel
theorem dX4_begin_7 : decode cX4_begin 7 = .ok (.putfield 56, 3) := by decide +kernel
theorem dX4_begin_10 : decode cX4_begin 10 = .ok (.aload_n 0, 1) := by decide +kernel
theorem dX4_begin_11 : decode cX4_begin 11 = .ok (.bipush (-9), 2) := by decide +kernel
theorem dX4_begin_13 : decode cX4_begin 13 = .ok (.putfield 59, 3) := by decide +kernel
theorem dX4_begin_16 : decode cX4_begin 16 = .ok (.aload_n 0, 1) := by decide +kernel
theorem dX4_begin_17 : decode cX4_begin 17 = .ok (.getfield 9, 3) := by decide +kernel
theorem dX4_begin_20 : decode cX4_begin 20 = .ok (.iconst 0, 1) := by decide +kernel
theorem dX4_begin_21 : decode cX4_begin 21 = .ok (.invokestatic 62, 3) := by decide +kernel
theorem dX4_begin_24 : decode cX4_begin 24 = .ok (.aload_n 0, 1) := by decide +kernel
theorem dX4_begin_25 : decode cX4_begin 25 = .ok (.getfield 15, 3) := by decide +kernel
theorem dX4_begin_28 : decode cX4_begin 28 = .ok (.iconst 0, 1) := by decide +kernel
theorem dX4_begin_29 : decode cX4_begin 29 = .ok (.invokestatic 62, 3) := by decide +kernel
theorem dX4_begin_32 : decode cX4_begin 32 = .ok (.aload_n 0, 1) := by decide +kernel
theorem dX4_begin_33 : decode cX4_begin 33 = .ok (.getfield 18, 3) := by decide +kernel
theorem dX4_begin_36 : decode cX4_begin 36 = .ok (.iconst 0, 1) := by decide +kernel
theorem dX4_begin_37 : decode cX4_begin 37 = .ok (.invokestatic 62, 3) := by decide +kernel
theorem dX4_begin_40 : decode cX4_begin 40 = .ok (.aload_n 0, 1) := by decide +kernel
theorem dX4_begin_41 : decode cX4_begin 41 = .ok (.getfield 21, 3) := by decide +kernel
theorem dX4_begin_44 : decode cX4_begin 44 = .ok (.iconst 0, 1) := by decide +kernel
theorem dX4_begin_45 : decode cX4_begin 45 = .ok (.invokestatic 62, 3) := by decide +kernel
theorem dX4_begin_48 : decode cX4_begin 48 = .ok (.aload_n 0, 1) := by decide +kernel
theorem dX4_begin_49 : decode cX4_begin 49 = .ok (.getfield 24, 3) := by decide +kernel
theorem dX4_begin_52 : decode cX4_begin 52 = .ok (.iconst 0, 1) := by decide +kernel
theorem dX4_begin_53 : decode cX4_begin 53 = .ok (.invokestatic 62, 3) := by decide +kernel
theorem dX4_begin_56 : decode cX4_begin 56 = .ok (.aload_n 0, 1) := by decide +kernel
theorem dX4_begin_57 : decode cX4_begin 57 = .ok (.getfield 27, 3) := by decide +kernel
theorem dX4_begin_60 : decode cX4_begin 60 = .ok (.iconst 0, 1) := by decide +kernel
theorem dX4_begin_61 : decode cX4_begin 61 = .ok (.invokestatic 62, 3) := by decide +kernel
theorem dX4_begin_64 : decode cX4_begin 64 = .ok (.aload_n 0, 1) := by decide +kernel
theorem dX4_begin_65 : decode cX4_begin 65 = .ok (.getfield 30, 3) := by decide +kernel
theorem dX4_begin_68 : decode cX4_begin 68 = .ok (.iconst 0, 1) := by decide +kernel
theorem dX4_begin_69 : decode cX4_begin 69 = .ok (.invokestatic 62, 3) := by decide +kernel
theorem dX4_begin_72 : decode cX4_begin 72 = .ok (.aload_n 0, 1) := by decide +kernel
theorem dX4_begin_73 : decode cX4_begin 73 = .ok (.getfield 33, 3) := by decide +kernel
theorem dX4_begin_76 : decode cX4_begin 76 = .ok (.iconst 0, 1) := by decide +kernel
theorem dX4_begin_77 : decode cX4_begin 77 = .ok (.invokestatic 62, 3) := by decide +kernel
theorem dX4_begin_80 : decode cX4_begin 80 = .ok (.aload_n 0, 1) := by decide +kernel
theorem dX4_begin_81 : decode cX4_begin 81 = .ok (.getfield 36, 3) := by decide +kernel
theorem dX4_begin_84 : decode cX4_begin 84 = .ok (.iconst 0, 1) := by decide +kernel
theorem dX4_begin_85 : decode cX4_begin 85 = .ok (.invokestatic 62, 3) := by decide +kernel
theorem dX4_begin_88 : decode cX4_begin 88 = .ok (.aload_n 0, 1) := by decide +kernel
theorem dX4_begin_89 : decode cX4_begin 89 = .ok (.getfield 39, 3) := by decide +kernel
theorem dX4_begin_92 : decode cX4_begin 92 = .ok (.iconst 0, 1) := by decide +kernel
theorem dX4_begin_93 : decode cX4_begin 93 = .ok (.invokestatic 62, 3) := by decide +kernel
theorem dX4_begin_96 : decode cX4_begin 96 = .ok (.aload_n 0, 1) := by decide +kernel
theorem dX4_begin_97 : decode cX4_begin 97 = .ok (.getfield 42, 3) := by decide +kernel
theorem dX4_begin_100 : decode cX4_begin 100 = .ok (.iconst 0, 1) := by decide +kernel
theorem dX4_begin_101 : decode cX4_begin 101 = .ok (.invokestatic 62, 3) := by decide +kernel
theorem dX4_begin_104 : decode cX4_begin 104 = .ok (.aload_n 0, 1) := by decide +kernel
theorem dX4_begin_105 : decode cX4_begin 105 = .ok (.getfield 48, 3) := by decide +kernel
theorem dX4_begin_108 : decode cX4_begin 108 = .ok (.iconst 0, 1) := by decide +kernel
theorem dX4_begin_109 : decode cX4_begin 109 = .ok (.putfield 68, 3) := by decide +kernel
theorem dX4_begin_112 : decode cX4_begin 112 = .ok (.return_, 1) := by decide +kernel
set_option maxRecDepth 20000 in
theorem ggX4_copyFrom_X7_copyRow : GoodIn wsX4_copyFrom wsX7_copyRow := goodIn_r _ [18, 19, 20, 21, 22, 23, 24, 25, 26] (by decide +kernel) (by decide +kernel)
set_option maxRecDepth 20000 in
theorem gX4_copyFrom_X7_copyRow_n71 : GoodIn wsX4_copyFrom (wsX7_copyRow) := ggX4_copyFrom_X7_copyRow
set_option maxRecDepth 20000 in
theorem ggX4_copyFrom_X0_copyFrom : GoodIn wsX4_copyFrom wsX0_copyFrom := goodIn_r _ [31, 32, 33, 34, 35, 36, 37, 16, 17, 18, 19, 20, 21, 22, 23, 24, 25, 26, 53, 54, 55, 56, 57, 58] (by decide +kernel) (by decide +kernel)
set_option maxRecDepth 20000 in
theorem gX4_copyFrom_X0_copyFrom : GoodIn wsX4_copyFrom (wsV RX4 75 RX0 yX0_copyFrom wsX0_copyFrom) := goodIn_app (goodIn_of _ (by decide +kernel)) ggX4_copyFrom_X0_copyFrom
theorem dX4_copyFrom_0 : decode cX4_copyFrom 0 = .ok (.aload_n 0, 1) := by decide +kernel
theorem dX4_copyFrom_1 : decode cX4_copyFrom 1 = .ok (.aload_n 1, 1) := by decide +kernel
theorem dX4_copyFrom_2 : decode cX4_copyFrom 2 = .ok (.getfield 52, 3) := by decide +kernel
theorem dX4_copyFrom_5 : decode cX4_copyFrom 5 = .ok (.putfield 52, 3) := by decide +kernel
theorem dX4_copyFrom_8 : decode cX4_copyFrom 8 = .ok (.aload_n 0, 1) := by decide +kernel
theorem dX4_copyFrom_9 : decode cX4_copyFrom 9 = .ok (.aload_n 1, 1) := by decide +kernel
theorem dX4_copyFrom_10 : decode cX4_copyFrom 10 = .ok (.getfield 56, 3) := by decide +kernel
theorem dX4_copyFrom_13 : decode cX4_copyFrom 13 = .ok (.putfield 56, 3) := by decide +kernel
theorem dX4_copyFrom_16 : decode cX4_copyFrom 16 = .ok (.aload_n 0, 1) := by decide +kernel
theorem dX4_copyFrom_17 : decode cX4_copyFrom 17 = .ok (.aload_n 1, 1) := by decide +kernel
theorem dX4_copyFrom_18 : decode cX4_copyFrom 18 = .ok (.getfield 59, 3) := by decide +kernel
theorem dX4_copyFrom_21 : decode cX4_copyFrom 21 = .ok (.putfield 59, 3) := by decide +kernel
theorem dX4_copyFrom_24 : decode cX4_copyFrom 24 = .ok (.aload_n 1, 1) := by decide +kernel
theorem dX4_copyFrom_25 : decode cX4_copyFrom 25 = .ok (.getfield 9, 3) := by decide +kernel
theorem dX4_copyFrom_28 : decode cX4_copyFrom 28 = .ok (.aload_n 0, 1) := by decide +kernel
theorem dX4_copyFrom_29 : decode cX4_copyFrom 29 = .ok (.getfield 9, 3) := by decide +kernel
theorem dX4_copyFrom_32 : decode cX4_copyFrom 32 = .ok (.invokestatic 71, 3) := by decide +kernel
theorem dX4_copyFrom_35 : decode cX4_copyFrom 35 = .ok (.aload_n 1, 1) := by decide +kernel
theorem dX4_copyFrom_36 : decode cX4_copyFrom 36 = .ok (.getfield 15, 3) := by decide +kernel
theorem dX4_copyFrom_39 : decode cX4_copyFrom 39 = .ok (.aload_n 0, 1) := by decide +kernel
theorem dX4_copyFrom_40 : decode cX4_copyFrom 40 = .ok (.getfield 15, 3) := by decide +kernel
theorem dX4_copyFrom_43 : decode cX4_copyFrom 43 = .ok (.invokestatic 71, 3) := by decide +kernel
theorem dX4_copyFrom_46 : decode cX4_copyFrom 46 = .ok (.aload_n 1, 1) := by decide +kernel
theorem dX4_copyFrom_47 : decode cX4_copyFrom 47 = .ok (.getfield 18, 3) := by decide +kernel
theorem dX4_copyFrom_50 : decode cX4_copyFrom 50 = .ok (.aload_n 0, 1) := by decide +kernel
theorem dX4_copyFrom_51 : decode cX4_copyFrom 51 = .ok (.getfield 18, 3) := by decide +kernel
theorem dX4_copyFrom_54 : decode cX4_copyFrom 54 = .ok (.invokestatic 71, 3) := by decide +kernel
theorem dX4_copyFrom_57 : decode cX4_copyFrom 57 = .ok (.aload_n 1, 1) := by decide +kernel
theorem dX4_copyFrom_58 : decode cX4_copyFrom 58 = .ok (.getfield 21, 3) := by decide +kernel
theorem dX4_copyFrom_61 : decode cX4_copyFrom 61 = .ok (.aload_n 0, 1) := by decide +kernel
theorem dX4_copyFrom_62 : decode cX4_copyFrom 62 = .ok (.getfield 21, 3) := by decide +kernel
theorem dX4_copyFrom_65 : decode cX4_copyFrom 65 = .ok (.invokestatic 71, 3) := by decide +kernel
theorem dX4_copyFrom_68 : decode cX4_copyFrom 68 = .ok (.aload_n 1, 1) := by decide +kernel
theorem dX4_copyFrom_69 : decode cX4_copyFrom 69 = .ok (.getfield 24, 3) := by decide +kernel
theorem dX4_copyFrom_72 : decode cX4_copyFrom 72 = .ok (.aload_n 0, 1) := by decide +kernel
theorem dX4_copyFrom_73 : decode cX4_copyFrom 73 = .ok (.getfield 24, 3) := by decide +kernel
theorem dX4_copyFrom_76 : decode cX4_copyFrom 76 = .ok (.invokestatic 71, 3) := by decide +kernel
theorem dX4_copyFrom_79 : decode cX4_copyFrom 79 = .ok (.aload_n 1, 1) := by decide +kernel
theorem dX4_copyFrom_80 : decode cX4_copyFrom 80 = .ok (.getfield 27, 3) := by decide +kernel
theorem dX4_copyFrom_83 : decode cX4_copyFrom 83 = .ok (.aload_n 0, 1) := by decide +kernel
theorem dX4_copyFrom_84 : decode cX4_copyFrom 84 = .ok (.getfield 27, 3) := by decide +kernel
theorem dX4_copyFrom_87 : decode cX4_copyFrom 87 = .ok (.invokestatic 71, 3) := by decide +kernel
theorem dX4_copyFrom_90 : decode cX4_copyFrom 90 = .ok (.aload_n 1, 1) := by decide +kernel
theorem dX4_copyFrom_91 : decode cX4_copyFrom 91 = .ok (.getfield 30, 3) := by decide +kernel
theorem dX4_copyFrom_94 : decode cX4_copyFrom 94 = .ok (.aload_n 0, 1) := by decide +kernel
theorem dX4_copyFrom_95 : decode cX4_copyFrom 95 = .ok (.getfield 30, 3) := by decide +kernel
theorem dX4_copyFrom_98 : decode cX4_copyFrom 98 = .ok (.invokestatic 71, 3) := by decide +kernel
theorem dX4_copyFrom_101 : decode cX4_copyFrom 101 = .ok (.aload_n 1, 1) := by decide +kernel
theorem dX4_copyFrom_102 : decode cX4_copyFrom 102 = .ok (.getfield 33, 3) := by decide +kernel
theorem dX4_copyFrom_105 : decode cX4_copyFrom 105 = .ok (.aload_n 0, 1) := by decide +kernel
theorem dX4_copyFrom_106 : decode cX4_copyFrom 106 = .ok (.getfield 33, 3) := by decide +kernel
theorem dX4_copyFrom_109 : decode cX4_copyFrom 109 = .ok (.invokestatic 71, 3) := by decide +kernel
theorem dX4_copyFrom_112 : decode cX4_copyFrom 112 = .ok (.aload_n 1, 1) := by decide +kernel
theorem dX4_copyFrom_113 : decode cX4_copyFrom 113 = .ok (.getfield 36, 3) := by decide +kernel
theorem dX4_copyFrom_116 : decode cX4_copyFrom 116 = .ok (.aload_n 0, 1) := by decide +kernel
theorem dX4_copyFrom_117 : decode cX4_copyFrom 117 = .ok (.getfield 36, 3) := by decide +kernel
theorem dX4_copyFrom_120 : decode cX4_copyFrom 120 = .ok (.invokestatic 71, 3) := by decide +kernel
theorem dX4_copyFrom_123 : decode cX4_copyFrom 123 = .ok (.aload_n 1, 1) := by decide +kernel
theorem dX4_copyFrom_124 : decode cX4_copyFrom 124 = .ok (.getfield 39, 3) := by decide +kernel
theorem dX4_copyFrom_127 : decode cX4_copyFrom 127 = .ok (.aload_n 0, 1) := by decide +kernel
theorem dX4_copyFrom_128 : decode cX4_copyFrom 128 = .ok (.getfield 39, 3) := by decide +kernel
theorem dX4_copyFrom_131 : decode cX4_copyFrom 131 = .ok (.invokestatic 71, 3) := by decide +kernel
theorem dX4_copyFrom_134 : decode cX4_copyFrom 134 = .ok (.aload_n 1, 1) := by decide +kernel
theorem dX4_copyFrom_135 : decode cX4_copyFrom 135 = .ok (.getfield 42, 3) := by decide +kernel
theorem dX4_copyFrom_138 : decode cX4_copyFrom 138 = .ok (.aload_n 0, 1) := by decide +kernel
theorem dX4_copyFrom_139 : decode cX4_copyFrom 139 = .ok (.getfield 42, 3) := by decide +kernel
theorem dX4_copyFrom_142 : decode cX4_copyFrom 142 = .ok (.invokestatic 71, 3) := by decide +kernel
theorem dX4_copyFrom_145 : decode cX4_copyFrom 145 = .ok (.aload_n 0, 1) := by decide +kernel
theorem dX4_copyFrom_146 : decode cX4_copyFrom 146 = .ok (.getfield 48, 3) := by decide +kernel
theorem dX4_copyFrom_149 : decode cX4_copyFrom 149 = .ok (.aload_n 1, 1) := by decide +kernel
theorem dX4_copyFrom_150 : decode cX4_copyFrom 150 = .ok (.getfield 48, 3) := by decide +kernel
theorem dX4_copyFrom_153 : decode cX4_copyFrom 153 = .ok (.invokevirtual 75, 3) := by decide +kernel
theorem dX4_copyFrom_156 : decode cX4_copyFrom 156 = .ok (.return_, 1) := by decide +kernel
theorem dX4_isDeaf_0 : decode cX4_isDeaf 0 = .ok (.iload_n 2, 1) := by decide +kernel
theorem dX4_isDeaf_1 : decode cX4_isDeaf 1 = .ok (.ifCond .lt 27, 3) := by decide +kernel
theorem dX4_isDeaf_4 : decode cX4_isDeaf 4 = .ok (.iload_n 2, 1) := by decide +kernel
theorem dX4_isDeaf_5 : decode cX4_isDeaf 5 = .ok (.sipush 199, 3) := by decide +kernel
theorem dX4_isDeaf_8 : decode cX4_isDeaf 8 = .ok (.if_icmp .gt 20, 3) := by decide +kernel
theorem dX4_isDeaf_11 : decode cX4_isDeaf 11 = .ok (.aload_n 0, 1) := by decide +kernel
theorem dX4_isDeaf_12 : decode cX4_isDeaf 12 = .ok (.getfield 42, 3) := by decide +kernel
theorem dX4_isDeaf_15 : decode cX4_isDeaf 15 = .ok (.iload_n 2, 1) := by decide +kernel
theorem dX4_isDeaf_16 : decode cX4_isDeaf 16 = .ok (.iaload, 1) := by decide +kernel
theorem dX4_isDeaf_17 : decode cX4_isDeaf 17 = .ok (.iconst 1, 1) := by decide +kernel
theorem dX4_isDeaf_18 : decode cX4_isDeaf 18 = .ok (.iload_n 1, 1) := by decide +kernel
theorem dX4_isDeaf_19 : decode cX4_isDeaf 19 = .ok (.ishl, 1) := by decide +kernel
theorem dX4_isDeaf_20 : decode cX4_isDeaf 20 = .ok (.iand, 1) := by decide +kernel
theorem dX4_isDeaf_21 : decode cX4_isDeaf 21 = .ok (.ifCond .eq 7, 3) := by decide +kernel
theorem dX4_isDeaf_24 : decode cX4_isDeaf 24 = .ok (.iconst 1, 1) := by decide +kernel
theorem dX4_isDeaf_25 : decode cX4_isDeaf 25 = .ok (.goto 4, 3) := by decide +kernel
theorem dX4_isDeaf_28 : decode cX4_isDeaf 28 = .ok (.iconst 0, 1) := by decide +kernel
theorem dX4_isDeaf_29 : decode cX4_isDeaf 29 = .ok (.ireturn, 1) := by decide +kernel
set_option maxRecDepth 20000 in
theorem ggX4_makeDeaf_X4_isDeaf : GoodIn wsX4_makeDeaf wsX4_isDeaf := goodIn_r _ [10, 5, 11, 12, 13, 14, 15, 16, 17, 18, 19, 20, 21, 22, 23, 24, 25] (by decide +kernel) (by decide +kernel)
set_option maxRecDepth 20000 in
theorem gX4_makeDeaf_X4_isDeaf : GoodIn wsX4_makeDeaf (wsV RX4 85 RX4 yX4_isDeaf wsX4_isDeaf) := goodIn_app (goodIn_of _ (by decide +kernel)) ggX4_makeDeaf_X4_isDeaf
theorem dX4_makeDeaf_0 : decode cX4_makeDeaf 0 = .ok (.iconst 0, 1) := by decide +kernel
theorem dX4_makeDeaf_1 : decode cX4_makeDeaf 1 = .ok (.istore 4, 2) := by decide +kernel
theorem dX4_makeDeaf_3 : decode cX4_makeDeaf 3 = .ok (.iconst 0, 1) := by decide +kernel
theorem dX4_makeDeaf_4 : decode cX4_makeDeaf 4 = .ok (.iload_n 2, 1) := by decide +kernel
theorem dX4_makeDeaf_5 : decode cX4_makeDeaf 5 = .ok (.invokestatic 79, 3) := by decide +kernel
theorem dX4_makeDeaf_8 : decode cX4_makeDeaf 8 = .ok (.istore 5, 2) := by decide +kernel
theorem dX4_makeDeaf_10 : decode cX4_makeDeaf 10 = .ok (.iload 5, 2) := by decide +kernel
theorem dX4_makeDeaf_12 : decode cX4_makeDeaf 12 = .ok (.iload_n 3, 1) := by decide +kernel
theorem dX4_makeDeaf_13 : decode cX4_makeDeaf 13 = .ok (.if_icmp .gt 43, 3) := by decide +kernel
theorem dX4_makeDeaf_16 : decode cX4_makeDeaf 16 = .ok (.iload 5, 2) := by decide +kernel
theorem dX4_makeDeaf_18 : decode cX4_makeDeaf 18 = .ok (.sipush 199, 3) := by decide +kernel
theorem dX4_makeDeaf_21 : decode cX4_makeDeaf 21 = .ok (.if_icmp .gt 35, 3) := by decide +kernel
theorem dX4_makeDeaf_24 : decode cX4_makeDeaf 24 = .ok (.aload_n 0, 1) := by decide +kernel
theorem dX4_makeDeaf_25 : decode cX4_makeDeaf 25 = .ok (.iload_n 1, 1) := by decide +kernel
theorem dX4_makeDeaf_26 : decode cX4_makeDeaf 26 = .ok (.iload 5, 2) := by decide +kernel
theorem dX4_makeDeaf_28 : decode cX4_makeDeaf 28 = .ok (.invokevirtual 85, 3) := by decide +kernel
theorem dX4_makeDeaf_31 : decode cX4_makeDeaf 31 = .ok (.ifCond .ne 19, 3) := by decide +kernel
theorem dX4_makeDeaf_34 : decode cX4_makeDeaf 34 = .ok (.aload_n 0, 1) := by decide +kernel
theorem dX4_makeDeaf_35 : decode cX4_makeDeaf 35 = .ok (.getfield 42, 3) := by decide +kernel
theorem dX4_makeDeaf_38 : decode cX4_makeDeaf 38 = .ok (.iload 5, 2) := by decide +kernel
theorem dX4_makeDeaf_40 : decode cX4_makeDeaf 40 = .ok (.dup2, 1) := by decide +kernel
theorem dX4_makeDeaf_41 : decode cX4_makeDeaf 41 = .ok (.iaload, 1) := by decide +kernel
theorem dX4_makeDeaf_42 : decode cX4_makeDeaf 42 = .ok (.iconst 1, 1) := by decide +kernel
theorem dX4_makeDeaf_43 : decode cX4_makeDeaf 43 = .ok (.iload_n 1, 1) := by decide +kernel
theorem dX4_makeDeaf_44 : decode cX4_makeDeaf 44 = .ok (.ishl, 1) := by decide +kernel
theorem dX4_makeDeaf_45 : decode cX4_makeDeaf 45 = .ok (.ior, 1) := by decide +kernel
theorem dX4_makeDeaf_46 : decode cX4_makeDeaf 46 = .ok (.iastore, 1) := by decide +kernel
theorem dX4_makeDeaf_47 : decode cX4_makeDeaf 47 = .ok (.iinc 4 1, 3) := by decide +kernel
theorem dX4_makeDeaf_50 : decode cX4_makeDeaf 50 = .ok (.iinc 5 1, 3) := by decide +kernel
theorem dX4_makeDeaf_53 : decode cX4_makeDeaf 53 = .ok (.goto (-43), 3) := by decide +kernel
theorem dX4_makeDeaf_56 : decode cX4_makeDeaf 56 = .ok (.iload 4, 2) := by decide +kernel
theorem dX4_makeDeaf_58 : decode cX4_makeDeaf 58 = .ok (.ireturn, 1) := by decide +kernel
theorem dX4_allThrough_0 : decode cX4_allThrough 0 = .ok (.iconst 0, 1) := by decide +kernel
theorem dX4_allThrough_1 : decode cX4_allThrough 1 = .ok (.istore_n 1, 1) := by decide +kernel
theorem dX4_allThrough_2 : decode cX4_allThrough 2 = .ok (.iconst 0, 1) := by decide +kernel
theorem dX4_allThrough_3 : decode cX4_allThrough 3 = .ok (.istore_n 2, 1) := by decide +kernel
theorem dX4_allThrough_4 : decode cX4_allThrough 4 = .ok (.iload_n 2, 1) := by decide +kernel
theorem dX4_allThrough_5 : decode cX4_allThrough 5 = .ok (.bipush 6, 2) := by decide +kernel
theorem dX4_allThrough_7 : decode cX4_allThrough 7 = .ok (.if_icmp .ge 18, 3) := by decide +kernel
theorem dX4_allThrough_10 : decode cX4_allThrough 10 = .ok (.iload_n 1, 1) := by decide +kernel
theorem dX4_allThrough_11 : decode cX4_allThrough 11 = .ok (.aload_n 0, 1) := by decide +kernel
theorem dX4_allThrough_12 : decode cX4_allThrough 12 = .ok (.getfield 36, 3) := by decide +kernel
theorem dX4_allThrough_15 : decode cX4_allThrough 15 = .ok (.iload_n 2, 1) := by decide +kernel
theorem dX4_allThrough_16 : decode cX4_allThrough 16 = .ok (.iaload, 1) := by decide +kernel
theorem dX4_allThrough_17 : decode cX4_allThrough 17 = .ok (.iadd, 1) := by decide +kernel
theorem dX4_allThrough_18 : decode cX4_allThrough 18 = .ok (.istore_n 1, 1) := by decide +kernel
theorem dX4_allThrough_19 : decode cX4_allThrough 19 = .ok (.iinc 2 1, 3) := by decide +kernel
theorem dX4_allThrough_22 : decode cX4_allThrough 22 = .ok (.goto (-18), 3) := by decide +kernel
theorem dX4_allThrough_25 : decode cX4_allThrough 25 = .ok (.iload_n 1, 1) := by decide +kernel
theorem dX4_allThrough_26 : decode cX4_allThrough 26 = .ok (.ireturn, 1) := by decide +kernel
theorem dX4_isDrained_0 : decode cX4_isDrained 0 = .ok (.aload_n 0, 1) := by decide +kernel
theorem dX4_isDrained_1 : decode cX4_isDrained 1 = .ok (.getfield 48, 3) := by decide +kernel
theorem dX4_isDrained_4 : decode cX4_isDrained 4 = .ok (.getfield 68, 3) := by decide +kernel
theorem dX4_isDrained_7 : decode cX4_isDrained 7 = .ok (.istore_n 1, 1) := by decide +kernel
theorem dX4_isDrained_8 : decode cX4_isDrained 8 = .ok (.iconst 0, 1) := by decide +kernel
theorem dX4_isDrained_9 : decode cX4_isDrained 9 = .ok (.istore_n 2, 1) := by decide +kernel
theorem dX4_isDrained_10 : decode cX4_isDrained 10 = .ok (.iload_n 2, 1) := by decide +kernel
theorem dX4_isDrained_11 : decode cX4_isDrained 11 = .ok (.bipush 6, 2) := by decide +kernel
theorem dX4_isDrained_13 : decode cX4_isDrained 13 = .ok (.if_icmp .ge 18, 3) := by decide +kernel
theorem dX4_isDrained_16 : decode cX4_isDrained 16 = .ok (.iload_n 1, 1) := by decide +kernel
theorem dX4_isDrained_17 : decode cX4_isDrained 17 = .ok (.aload_n 0, 1) := by decide +kernel
theorem dX4_isDrained_18 : decode cX4_isDrained 18 = .ok (.getfield 30, 3) := by decide +kernel
theorem dX4_isDrained_21 : decode cX4_isDrained 21 = .ok (.iload_n 2, 1) := by decide +kernel
theorem dX4_isDrained_22 : decode cX4_isDrained 22 = .ok (.iaload, 1) := by decide +kernel
theorem dX4_isDrained_23 : decode cX4_isDrained 23 = .ok (.iadd, 1) := by decide +kernel
theorem dX4_isDrained_24 : decode cX4_isDrained 24 = .ok (.istore_n 1, 1) := by decide +kernel
theorem dX4_isDrained_25 : decode cX4_isDrained 25 = .ok (.iinc 2 1, 3) := by decide +kernel
theorem dX4_isDrained_28 : decode cX4_isDrained 28 = .ok (.goto (-18), 3) := by decide +kernel
theorem dX4_isDrained_31 : decode cX4_isDrained 31 = .ok (.iload_n 1, 1) := by decide +kernel
theorem dX4_isDrained_32 : decode cX4_isDrained 32 = .ok (.ifCond .ne 7, 3) := by decide +kernel
theorem dX4_isDrained_35 : decode cX4_isDrained 35 = .ok (.iconst 1, 1) := by decide +kernel
theorem dX4_isDrained_36 : decode cX4_isDrained 36 = .ok (.goto 4, 3) := by decide +kernel
theorem dX4_isDrained_39 : decode cX4_isDrained 39 = .ok (.iconst 0, 1) := by decide +kernel
theorem dX4_isDrained_40 : decode cX4_isDrained 40 = .ok (.ireturn, 1) := by decide +kernel
end
section
theorem dX5_init_0 : decode cX5_init 0 = .ok (.aload_n 0, 1) := by decide +kernel
theorem dX5_init_1 : decode cX5_init 1 = .ok (.invokespecial 3, 3) := by decide +kernel
theorem dX5_init_4 : decode cX5_init 4 = .ok (.aload_n 0, 1) := by decide +kernel
theorem dX5_init_5 : decode cX5_init 5 = .ok (.iconst 0, 1) := by decide +kernel
theorem dX5_init_6 : decode cX5_init 6 = .ok (.putfield 9, 3) := by decide +kernel
theorem dX5_init_9 : decode cX5_init 9 = .ok (.aload_n 0, 1) := by decide +kernel
theorem dX5_init_10 : decode cX5_init 10 = .ok (.aload_n 1, 1) := by decide +kernel
theorem dX5_init_11 : decode cX5_init 11 = .ok (.putfield 15, 3) := by decide +kernel
theorem dX5_init_14 : decode cX5_init 14 = .ok (.aload_n 0, 1) := by decide +kernel
theorem dX5_init_15 : decode cX5_init 15 = .ok (.aload_n 2, 1) := by decide +kernel
theorem dX5_init_16 : decode cX5_init 16 = .ok (.putfield 19, 3) := by decide +kernel
theorem dX5_init_19 : decode cX5_init 19 = .ok (.return_, 1) := by decide +kernel
set_option maxRecDepth 20000 in
theorem ggX5_bring_X7_isWithin : GoodIn wsX5_bring wsX7_isWithin := goodIn_r _ [8] (by decide +kernel) (by decide +kernel)
set_option maxRecDepth 20000 in
theorem gX5_bring_X7_isWithin_n29 : GoodIn wsX5_bring (wsX7_isWithin) := ggX5_bring_X7_isWithin
set_option maxRecDepth 20000 in
theorem ggX5_bring_X5_waitsUpTo : GoodIn wsX5_bring wsX5_waitsUpTo := goodIn_r _ [13, 1, 14, 2, 3, 5, 15, 16, 17, 18, 19, 20, 21, 22, 23, 24, 25, 26, 27, 28, 29, 30, 31, 32, 33, 34, 35, 36, 37, 38, 39, 40, 41, 42, 43, 44, 45, 46, 47, 48, 49] (by decide +kernel) (by decide +kernel)
set_option maxRecDepth 20000 in
theorem gX5_bring_X5_waitsUpTo : GoodIn wsX5_bring (wsV RX5 33 RX5 yX5_waitsUpTo wsX5_waitsUpTo) := goodIn_app (goodIn_of _ (by decide +kernel)) ggX5_bring_X5_waitsUpTo
theorem dX5_bring_0 : decode cX5_bring 0 = .ok (.aload_n 0, 1) := by decide +kernel
theorem dX5_bring_1 : decode cX5_bring 1 = .ok (.getfield 15, 3) := by decide +kernel
theorem dX5_bring_4 : decode cX5_bring 4 = .ok (.getfield 23, 3) := by decide +kernel
theorem dX5_bring_7 : decode cX5_bring 7 = .ok (.iload_n 1, 1) := by decide +kernel
theorem dX5_bring_8 : decode cX5_bring 8 = .ok (.iaload, 1) := by decide +kernel
theorem dX5_bring_9 : decode cX5_bring 9 = .ok (.istore_n 3, 1) := by decide +kernel
theorem dX5_bring_10 : decode cX5_bring 10 = .ok (.iload_n 3, 1) := by decide +kernel
theorem dX5_bring_11 : decode cX5_bring 11 = .ok (.iconst 0, 1) := by decide +kernel
theorem dX5_bring_12 : decode cX5_bring 12 = .ok (.iconst 2, 1) := by decide +kernel
theorem dX5_bring_13 : decode cX5_bring 13 = .ok (.invokestatic 29, 3) := by decide +kernel
theorem dX5_bring_16 : decode cX5_bring 16 = .ok (.ifCond .eq 21, 3) := by decide +kernel
theorem dX5_bring_19 : decode cX5_bring 19 = .ok (.aload_n 0, 1) := by decide +kernel
theorem dX5_bring_20 : decode cX5_bring 20 = .ok (.iload_n 1, 1) := by decide +kernel
theorem dX5_bring_21 : decode cX5_bring 21 = .ok (.invokevirtual 33, 3) := by decide +kernel
theorem dX5_bring_24 : decode cX5_bring 24 = .ok (.ifCond .ne 13, 3) := by decide +kernel
theorem dX5_bring_27 : decode cX5_bring 27 = .ok (.aload_n 0, 1) := by decide +kernel
theorem dX5_bring_28 : decode cX5_bring 28 = .ok (.getfield 19, 3) := by decide +kernel
theorem dX5_bring_31 : decode cX5_bring 31 = .ok (.getfield 37, 3) := by decide +kernel
theorem dX5_bring_34 : decode cX5_bring 34 = .ok (.iload_n 3, 1) := by decide +kernel
theorem dX5_bring_35 : decode cX5_bring 35 = .ok (.iconst 1, 1) := by decide +kernel
theorem dX5_bring_36 : decode cX5_bring 36 = .ok (.iastore, 1) := by decide +kernel
theorem dX5_bring_37 : decode cX5_bring 37 = .ok (.aload_n 0, 1) := by decide +kernel
theorem dX5_bring_38 : decode cX5_bring 38 = .ok (.getfield 19, 3) := by decide +kernel
theorem dX5_bring_41 : decode cX5_bring 41 = .ok (.getfield 42, 3) := by decide +kernel
theorem dX5_bring_44 : decode cX5_bring 44 = .ok (.iload_n 1, 1) := by decide +kernel
theorem dX5_bring_45 : decode cX5_bring 45 = .ok (.dup2, 1) := by decide +kernel
theorem dX5_bring_46 : decode cX5_bring 46 = .ok (.iaload, 1) := by decide +kernel
theorem dX5_bring_47 : decode cX5_bring 47 = .ok (.iload_n 2, 1) := by decide +kernel
theorem dX5_bring_48 : decode cX5_bring 48 = .ok (.iadd, 1) := by decide +kernel
theorem dX5_bring_49 : decode cX5_bring 49 = .ok (.iastore, 1) := by decide +kernel
theorem dX5_bring_50 : decode cX5_bring 50 = .ok (.return_, 1) := by decide +kernel
set_option maxRecDepth 20000 in
theorem ggX5_waitsUpTo_X3_isAhead : GoodIn wsX5_waitsUpTo wsX3_isAhead := goodIn_r _ [10, 11, 15, 16, 17, 18, 19, 20, 21, 22, 23, 24, 25] (by decide +kernel) (by decide +kernel)
set_option maxRecDepth 20000 in
theorem gX5_waitsUpTo_X3_isAhead : GoodIn wsX5_waitsUpTo (wsV RX5 48 RX3 yX3_isAhead wsX3_isAhead) := goodIn_app (goodIn_of _ (by decide +kernel)) ggX5_waitsUpTo_X3_isAhead
theorem dX5_waitsUpTo_0 : decode cX5_waitsUpTo 0 = .ok (.iconst 0, 1) := by decide +kernel
theorem dX5_waitsUpTo_1 : decode cX5_waitsUpTo 1 = .ok (.istore_n 2, 1) := by decide +kernel
theorem dX5_waitsUpTo_2 : decode cX5_waitsUpTo 2 = .ok (.iload_n 2, 1) := by decide +kernel
theorem dX5_waitsUpTo_3 : decode cX5_waitsUpTo 3 = .ok (.aload_n 0, 1) := by decide +kernel
theorem dX5_waitsUpTo_4 : decode cX5_waitsUpTo 4 = .ok (.getfield 15, 3) := by decide +kernel
theorem dX5_waitsUpTo_7 : decode cX5_waitsUpTo 7 = .ok (.getfield 45, 3) := by decide +kernel
theorem dX5_waitsUpTo_10 : decode cX5_waitsUpTo 10 = .ok (.if_icmp .ge 66, 3) := by decide +kernel
theorem dX5_waitsUpTo_13 : decode cX5_waitsUpTo 13 = .ok (.aload_n 0, 1) := by decide +kernel
theorem dX5_waitsUpTo_14 : decode cX5_waitsUpTo 14 = .ok (.getfield 15, 3) := by decide +kernel
theorem dX5_waitsUpTo_17 : decode cX5_waitsUpTo 17 = .ok (.getfield 23, 3) := by decide +kernel
theorem dX5_waitsUpTo_20 : decode cX5_waitsUpTo 20 = .ok (.iload_n 2, 1) := by decide +kernel
theorem dX5_waitsUpTo_21 : decode cX5_waitsUpTo 21 = .ok (.iaload, 1) := by decide +kernel
theorem dX5_waitsUpTo_22 : decode cX5_waitsUpTo 22 = .ok (.aload_n 0, 1) := by decide +kernel
theorem dX5_waitsUpTo_23 : decode cX5_waitsUpTo 23 = .ok (.getfield 15, 3) := by decide +kernel
theorem dX5_waitsUpTo_26 : decode cX5_waitsUpTo 26 = .ok (.getfield 23, 3) := by decide +kernel
theorem dX5_waitsUpTo_29 : decode cX5_waitsUpTo 29 = .ok (.iload_n 1, 1) := by decide +kernel
theorem dX5_waitsUpTo_30 : decode cX5_waitsUpTo 30 = .ok (.iaload, 1) := by decide +kernel
theorem dX5_waitsUpTo_31 : decode cX5_waitsUpTo 31 = .ok (.if_icmp .ne 19, 3) := by decide +kernel
theorem dX5_waitsUpTo_34 : decode cX5_waitsUpTo 34 = .ok (.aload_n 0, 1) := by decide +kernel
theorem dX5_waitsUpTo_35 : decode cX5_waitsUpTo 35 = .ok (.getfield 15, 3) := by decide +kernel
theorem dX5_waitsUpTo_38 : decode cX5_waitsUpTo 38 = .ok (.iload_n 1, 1) := by decide +kernel
theorem dX5_waitsUpTo_39 : decode cX5_waitsUpTo 39 = .ok (.iload_n 2, 1) := by decide +kernel
theorem dX5_waitsUpTo_40 : decode cX5_waitsUpTo 40 = .ok (.invokevirtual 48, 3) := by decide +kernel
theorem dX5_waitsUpTo_43 : decode cX5_waitsUpTo 43 = .ok (.ifCond .ne 7, 3) := by decide +kernel
theorem dX5_waitsUpTo_46 : decode cX5_waitsUpTo 46 = .ok (.iconst 1, 1) := by decide +kernel
theorem dX5_waitsUpTo_47 : decode cX5_waitsUpTo 47 = .ok (.goto 4, 3) := by decide +kernel
theorem dX5_waitsUpTo_50 : decode cX5_waitsUpTo 50 = .ok (.iconst 0, 1) := by decide +kernel
theorem dX5_waitsUpTo_51 : decode cX5_waitsUpTo 51 = .ok (.istore_n 3, 1) := by decide +kernel
theorem dX5_waitsUpTo_52 : decode cX5_waitsUpTo 52 = .ok (.iload_n 3, 1) := by decide +kernel
theorem dX5_waitsUpTo_53 : decode cX5_waitsUpTo 53 = .ok (.ifCond .eq 17, 3) := by decide +kernel
theorem dX5_waitsUpTo_56 : decode cX5_waitsUpTo 56 = .ok (.aload_n 0, 1) := by decide +kernel
theorem dX5_waitsUpTo_57 : decode cX5_waitsUpTo 57 = .ok (.getfield 19, 3) := by decide +kernel
theorem dX5_waitsUpTo_60 : decode cX5_waitsUpTo 60 = .ok (.getfield 42, 3) := by decide +kernel
theorem dX5_waitsUpTo_63 : decode cX5_waitsUpTo 63 = .ok (.iload_n 2, 1) := by decide +kernel
theorem dX5_waitsUpTo_64 : decode cX5_waitsUpTo 64 = .ok (.iaload, 1) := by decide +kernel
theorem dX5_waitsUpTo_65 : decode cX5_waitsUpTo 65 = .ok (.ifCond .le 5, 3) := by decide +kernel
theorem dX5_waitsUpTo_68 : decode cX5_waitsUpTo 68 = .ok (.iconst 1, 1) := by decide +kernel
theorem dX5_waitsUpTo_69 : decode cX5_waitsUpTo 69 = .ok (.ireturn, 1) := by decide +kernel
theorem dX5_waitsUpTo_70 : decode cX5_waitsUpTo 70 = .ok (.iinc 2 1, 3) := by decide +kernel
theorem dX5_waitsUpTo_73 : decode cX5_waitsUpTo 73 = .ok (.goto (-71), 3) := by decide +kernel
theorem dX5_waitsUpTo_76 : decode cX5_waitsUpTo 76 = .ok (.iconst 0, 1) := by decide +kernel
theorem dX5_waitsUpTo_77 : decode cX5_waitsUpTo 77 = .ok (.ireturn, 1) := by decide +kernel
theorem dX5_waitingAt_0 : decode cX5_waitingAt 0 = .ok (.iconst 0, 1) := by decide +kernel
theorem dX5_waitingAt_1 : decode cX5_waitingAt 1 = .ok (.istore_n 2, 1) := by decide +kernel
theorem dX5_waitingAt_2 : decode cX5_waitingAt 2 = .ok (.iconst 0, 1) := by decide +kernel
theorem dX5_waitingAt_3 : decode cX5_waitingAt 3 = .ok (.istore_n 3, 1) := by decide +kernel
theorem dX5_waitingAt_4 : decode cX5_waitingAt 4 = .ok (.iload_n 3, 1) := by decide +kernel
theorem dX5_waitingAt_5 : decode cX5_waitingAt 5 = .ok (.aload_n 0, 1) := by decide +kernel
theorem dX5_waitingAt_6 : decode cX5_waitingAt 6 = .ok (.getfield 15, 3) := by decide +kernel
theorem dX5_waitingAt_9 : decode cX5_waitingAt 9 = .ok (.getfield 45, 3) := by decide +kernel
theorem dX5_waitingAt_12 : decode cX5_waitingAt 12 = .ok (.if_icmp .ge 38, 3) := by decide +kernel
theorem dX5_waitingAt_15 : decode cX5_waitingAt 15 = .ok (.iload_n 2, 1) := by decide +kernel
theorem dX5_waitingAt_16 : decode cX5_waitingAt 16 = .ok (.aload_n 0, 1) := by decide +kernel
theorem dX5_waitingAt_17 : decode cX5_waitingAt 17 = .ok (.getfield 15, 3) := by decide +kernel
theorem dX5_waitingAt_20 : decode cX5_waitingAt 20 = .ok (.getfield 23, 3) := by decide +kernel
theorem dX5_waitingAt_23 : decode cX5_waitingAt 23 = .ok (.iload_n 3, 1) := by decide +kernel
theorem dX5_waitingAt_24 : decode cX5_waitingAt 24 = .ok (.iaload, 1) := by decide +kernel
theorem dX5_waitingAt_25 : decode cX5_waitingAt 25 = .ok (.iload_n 1, 1) := by decide +kernel
theorem dX5_waitingAt_26 : decode cX5_waitingAt 26 = .ok (.if_icmp .ne 15, 3) := by decide +kernel
theorem dX5_waitingAt_29 : decode cX5_waitingAt 29 = .ok (.aload_n 0, 1) := by decide +kernel
theorem dX5_waitingAt_30 : decode cX5_waitingAt 30 = .ok (.getfield 19, 3) := by decide +kernel
theorem dX5_waitingAt_33 : decode cX5_waitingAt 33 = .ok (.getfield 42, 3) := by decide +kernel
theorem dX5_waitingAt_36 : decode cX5_waitingAt 36 = .ok (.iload_n 3, 1) := by decide +kernel
theorem dX5_waitingAt_37 : decode cX5_waitingAt 37 = .ok (.iaload, 1) := by decide +kernel
theorem dX5_waitingAt_38 : decode cX5_waitingAt 38 = .ok (.goto 4, 3) := by decide +kernel
theorem dX5_waitingAt_41 : decode cX5_waitingAt 41 = .ok (.iconst 0, 1) := by decide +kernel
theorem dX5_waitingAt_42 : decode cX5_waitingAt 42 = .ok (.iadd, 1) := by decide +kernel
theorem dX5_waitingAt_43 : decode cX5_waitingAt 43 = .ok (.istore_n 2, 1) := by decide +kernel
theorem dX5_waitingAt_44 : decode cX5_waitingAt 44 = .ok (.iinc 3 1, 3) := by decide +kernel
theorem dX5_waitingAt_47 : decode cX5_waitingAt 47 = .ok (.goto (-43), 3) := by decide +kernel
theorem dX5_waitingAt_50 : decode cX5_waitingAt 50 = .ok (.iload_n 2, 1) := by decide +kernel
theorem dX5_waitingAt_51 : decode cX5_waitingAt 51 = .ok (.ireturn, 1) := by decide +kernel
set_option maxRecDepth 20000 in
theorem ggX5_drainedWithin_X4_isDrained : GoodIn wsX5_drainedWithin wsX4_isDrained := goodIn_r _ [6, 7, 8, 9, 164, 165, 166, 167, 168, 169, 170, 171, 172, 173, 174, 175, 176, 177, 178, 179, 180, 181, 182, 183, 184] (by decide +kernel) (by decide +kernel)
set_option maxRecDepth 20000 in
theorem gX5_drainedWithin_X4_isDrained : GoodIn wsX5_drainedWithin (wsV RX5 52 RX4 yX4_isDrained wsX4_isDrained) := goodIn_app (goodIn_of _ (by decide +kernel)) ggX5_drainedWithin_X4_isDrained
set_option maxRecDepth 20000 in
theorem ggX5_drainedWithin_X5_takeSteps : GoodIn wsX5_drainedWithin wsX5_takeSteps := goodIn_r _ [14, 1, 15, 16, 17, 18, 19, 20, 21, 5, 22, 23, 24, 25, 26, 13, 27, 28, 29, 30, 31, 32, 33, 34, 35, 36, 37, 38, 39, 40, 41, 42, 43, 44, 45, 46, 47, 48, 49, 50, 51, 52, 53, 54, 55, 56, 57, 58, 59, 60, 61, 62, 63, 64, 65, 66, 67, 68, 69, 70, 71, 72, 73, 74, 75, 76, 77, 78, 79, 80, 81, 82, 83, 84, 85, 86, 87, 88, 89, 90, 91, 92, 93, 94, 95, 96, 97, 98, 99, 100, 101, 102, 103, 104, 105, 106, 107, 108, 109, 110, 111, 112, 113, 114, 115, 116, 117, 118, 119, 120, 121, 122, 123, 124, 125, 126, 127, 128, 129, 130, 131, 132, 133, 134, 135, 136, 137, 138, 139, 140, 141, 142, 143, 144, 145, 146, 147, 148, 149, 150, 151, 152, 153, 154, 155, 156, 157, 158, 159, 160, 161, 162, 163, 164, 165, 166, 167, 168, 169, 170, 171, 172, 173, 174, 175, 176, 177, 178, 185, 186, 187, 188, 189, 190, 191, 192, 193, 194, 195, 179, 180, 181, 182, 183, 184] (by decide +kernel) (by decide +kernel)
set_option maxRecDepth 20000 in
theorem gX5_drainedWithin_X5_takeSteps : GoodIn wsX5_drainedWithin (wsV RX5 56 RX5 yX5_takeSteps wsX5_takeSteps) := goodIn_app (goodIn_of _ (by decide +kernel)) ggX5_drainedWithin_X5_takeSteps
theorem dX5_drainedWithin_0 : decode cX5_drainedWithin 0 = .ok (.iconst 0, 1) := by decide +kernel
theorem dX5_drainedWithin_1 : decode cX5_drainedWithin 1 = .ok (.istore_n 2, 1) := by decide +kernel
theorem dX5_drainedWithin_2 : decode cX5_drainedWithin 2 = .ok (.iload_n 2, 1) := by decide +kernel
theorem dX5_drainedWithin_3 : decode cX5_drainedWithin 3 = .ok (.iload_n 1, 1) := by decide +kernel
theorem dX5_drainedWithin_4 : decode cX5_drainedWithin 4 = .ok (.if_icmp .gt 27, 3) := by decide +kernel
theorem dX5_drainedWithin_7 : decode cX5_drainedWithin 7 = .ok (.aload_n 0, 1) := by decide +kernel
theorem dX5_drainedWithin_8 : decode cX5_drainedWithin 8 = .ok (.getfield 19, 3) := by decide +kernel
theorem dX5_drainedWithin_11 : decode cX5_drainedWithin 11 = .ok (.invokevirtual 52, 3) := by decide +kernel
theorem dX5_drainedWithin_14 : decode cX5_drainedWithin 14 = .ok (.ifCond .eq 5, 3) := by decide +kernel
theorem dX5_drainedWithin_17 : decode cX5_drainedWithin 17 = .ok (.iload_n 2, 1) := by decide +kernel
theorem dX5_drainedWithin_18 : decode cX5_drainedWithin 18 = .ok (.ireturn, 1) := by decide +kernel
theorem dX5_drainedWithin_19 : decode cX5_drainedWithin 19 = .ok (.aload_n 0, 1) := by decide +kernel
theorem dX5_drainedWithin_20 : decode cX5_drainedWithin 20 = .ok (.iconst 1, 1) := by decide +kernel
theorem dX5_drainedWithin_21 : decode cX5_drainedWithin 21 = .ok (.invokevirtual 56, 3) := by decide +kernel
theorem dX5_drainedWithin_24 : decode cX5_drainedWithin 24 = .ok (.pop, 1) := by decide +kernel
theorem dX5_drainedWithin_25 : decode cX5_drainedWithin 25 = .ok (.iinc 2 1, 3) := by decide +kernel
theorem dX5_drainedWithin_28 : decode cX5_drainedWithin 28 = .ok (.goto (-26), 3) := by decide +kernel
theorem dX5_drainedWithin_31 : decode cX5_drainedWithin 31 = .ok (.bipush (-9), 2) := by decide +kernel
theorem dX5_drainedWithin_33 : decode cX5_drainedWithin 33 = .ok (.ireturn, 1) := by decide +kernel
set_option maxRecDepth 20000 in
theorem ggX5_takeSteps_X4_allThrough : GoodIn wsX5_takeSteps wsX4_allThrough := goodIn_r _ [10, 11, 153, 154, 155, 156, 157, 158, 159, 160, 161, 162, 163, 164, 165, 166, 167] (by decide +kernel) (by decide +kernel)
set_option maxRecDepth 20000 in
theorem gX5_takeSteps_X4_allThrough : GoodIn wsX5_takeSteps (wsV RX5 60 RX4 yX4_allThrough wsX4_allThrough) := goodIn_app (goodIn_of _ (by decide +kernel)) ggX5_takeSteps_X4_allThrough
set_option maxRecDepth 20000 in
theorem ggX5_takeSteps_X5_gainTokens : GoodIn wsX5_takeSteps wsX5_gainTokens := goodIn_r _ [16, 17, 18, 1, 19, 20, 21, 22, 23, 24, 25, 150, 151, 152, 168, 169, 170, 171, 172, 173, 174, 175, 176, 177, 178, 153, 154, 155, 156, 157, 158, 159, 160, 161, 162, 163, 164, 165, 166, 167] (by decide +kernel) (by decide +kernel)
set_option maxRecDepth 20000 in
theorem gX5_takeSteps_X5_gainTokens : GoodIn wsX5_takeSteps (wsV RX5 64 RX5 yX5_gainTokens wsX5_gainTokens) := goodIn_app (goodIn_of _ (by decide +kernel)) ggX5_takeSteps_X5_gainTokens
set_option maxRecDepth 20000 in
theorem ggX5_takeSteps_X5_askInPlaces : GoodIn wsX5_takeSteps wsX5_askInPlaces := goodIn_r _ [29, 17, 30, 1, 5, 31, 32, 33, 34, 35, 36, 37, 38, 39, 40, 41, 150, 151, 152, 168, 169, 170, 171, 172, 173, 174, 175, 176, 177, 178, 153, 154, 155, 156, 157, 158, 159, 160, 161, 162, 163, 164, 165, 166, 167] (by decide +kernel) (by decide +kernel)
set_option maxRecDepth 20000 in
theorem gX5_takeSteps_X5_askInPlaces : GoodIn wsX5_takeSteps (wsV RX5 67 RX5 yX5_askInPlaces wsX5_askInPlaces) := goodIn_app (goodIn_of _ (by decide +kernel)) ggX5_takeSteps_X5_askInPlaces
set_option maxRecDepth 20000 in
theorem ggX5_takeSteps_X5_sendAgain : GoodIn wsX5_takeSteps wsX5_sendAgain := goodIn_r _ [45, 17, 30, 1, 4, 46, 5, 3, 47, 48, 24, 49, 50, 51, 52, 53, 54, 55, 56, 57, 58, 59, 60, 61, 62, 63, 64, 65, 66, 67, 68, 69, 70, 71, 72, 73, 15, 74, 75, 76, 77, 78, 32, 79, 80, 81, 82, 83, 84, 85, 86, 87, 9, 88, 89, 90, 91, 92, 93, 94, 95, 96, 97, 98, 99, 100, 101, 102, 103, 150, 151, 152, 168, 169, 170, 171, 172, 173, 174, 175, 176, 177, 178, 153, 154, 155, 156, 157, 158, 159, 160, 161, 162, 163, 164, 165, 166, 167, 179, 180, 181, 182, 183, 184] (by decide +kernel) (by decide +kernel)
set_option maxRecDepth 20000 in
theorem gX5_takeSteps_X5_sendAgain : GoodIn wsX5_takeSteps (wsV RX5 73 RX5 yX5_sendAgain wsX5_sendAgain) := goodIn_app (goodIn_of _ (by decide +kernel)) ggX5_takeSteps_X5_sendAgain
set_option maxRecDepth 20000 in
theorem ggX5_takeSteps_X5_giveGrants : GoodIn wsX5_takeSteps wsX5_giveGrants := goodIn_r _ [107, 17, 30, 1, 108, 3, 33, 75, 109, 110, 111, 15, 112, 22, 23, 24, 25, 113, 114, 115, 116, 117, 4, 32, 118, 119, 120, 53, 121, 122, 55, 56, 84, 70, 65, 123, 124, 125, 126, 18, 127, 128, 129, 19, 130, 131, 132, 133, 134, 135, 136, 137, 138, 139, 140, 141, 57, 58, 59, 60, 61, 62, 63, 64, 66, 67, 68, 69, 71, 72, 73, 74, 5, 47, 48, 49, 76, 77, 78, 79, 80, 81, 82, 83, 85, 86, 87, 9, 88, 89, 90, 91, 92, 93, 94, 95, 96, 97, 98, 99, 100, 101, 102, 103, 150, 151, 152, 168, 169, 170, 171, 172, 173, 174, 175, 176, 177, 178, 153, 154, 155, 156, 157, 158, 159, 160, 161, 162, 163, 164, 165, 166, 167, 179, 180, 181, 182, 183, 184] (by decide +kernel) (by decide +kernel)
set_option maxRecDepth 20000 in
theorem gX5_takeSteps_X5_giveGrants : GoodIn wsX5_takeSteps (wsV RX5 76 RX5 yX5_giveGrants wsX5_giveGrants) := goodIn_app (goodIn_of _ (by decide +kernel)) ggX5_takeSteps_X5_giveGrants
set_option maxRecDepth 20000 in
theorem ggX5_takeSteps_X0_dropGone : GoodIn wsX5_takeSteps wsX0_dropGone := goodIn_r _ [145, 122, 56, 146, 147, 148, 53, 149, 55, 84, 70, 65, 179, 180, 181, 182, 183, 184] (by decide +kernel) (by decide +kernel)
set_option maxRecDepth 20000 in
theorem gX5_takeSteps_X0_dropGone : GoodIn wsX5_takeSteps (wsV RX5 83 RX0 yX0_dropGone wsX0_dropGone) := goodIn_app (goodIn_of _ (by decide +kernel)) ggX5_takeSteps_X0_dropGone
theorem dX5_takeSteps_0 : decode cX5_takeSteps 0 = .ok (.aload_n 0, 1) := by decide +kernel
theorem dX5_takeSteps_1 : decode cX5_takeSteps 1 = .ok (.getfield 19, 3) := by decide +kernel
theorem dX5_takeSteps_4 : decode cX5_takeSteps 4 = .ok (.invokevirtual 60, 3) := by decide +kernel
theorem dX5_takeSteps_7 : decode cX5_takeSteps 7 = .ok (.istore_n 2, 1) := by decide +kernel
theorem dX5_takeSteps_8 : decode cX5_takeSteps 8 = .ok (.iconst 0, 1) := by decide +kernel
theorem dX5_takeSteps_9 : decode cX5_takeSteps 9 = .ok (.istore_n 3, 1) := by decide +kernel
theorem dX5_takeSteps_10 : decode cX5_takeSteps 10 = .ok (.iload_n 3, 1) := by decide +kernel
theorem dX5_takeSteps_11 : decode cX5_takeSteps 11 = .ok (.iload_n 1, 1) := by decide +kernel
theorem dX5_takeSteps_12 : decode cX5_takeSteps 12 = .ok (.if_icmp .ge 59, 3) := by decide +kernel
theorem dX5_takeSteps_15 : decode cX5_takeSteps 15 = .ok (.aload_n 0, 1) := by decide +kernel
theorem dX5_takeSteps_16 : decode cX5_takeSteps 16 = .ok (.invokevirtual 64, 3) := by decide +kernel
theorem dX5_takeSteps_19 : decode cX5_takeSteps 19 = .ok (.aload_n 0, 1) := by decide +kernel
theorem dX5_takeSteps_20 : decode cX5_takeSteps 20 = .ok (.invokevirtual 67, 3) := by decide +kernel
theorem dX5_takeSteps_23 : decode cX5_takeSteps 23 = .ok (.aload_n 0, 1) := by decide +kernel
theorem dX5_takeSteps_24 : decode cX5_takeSteps 24 = .ok (.aload_n 0, 1) := by decide +kernel
theorem dX5_takeSteps_25 : decode cX5_takeSteps 25 = .ok (.getfield 19, 3) := by decide +kernel
theorem dX5_takeSteps_28 : decode cX5_takeSteps 28 = .ok (.getfield 70, 3) := by decide +kernel
theorem dX5_takeSteps_31 : decode cX5_takeSteps 31 = .ok (.putfield 9, 3) := by decide +kernel
theorem dX5_takeSteps_34 : decode cX5_takeSteps 34 = .ok (.aload_n 0, 1) := by decide +kernel
theorem dX5_takeSteps_35 : decode cX5_takeSteps 35 = .ok (.invokevirtual 73, 3) := by decide +kernel
theorem dX5_takeSteps_38 : decode cX5_takeSteps 38 = .ok (.aload_n 0, 1) := by decide +kernel
theorem dX5_takeSteps_39 : decode cX5_takeSteps 39 = .ok (.invokevirtual 76, 3) := by decide +kernel
theorem dX5_takeSteps_42 : decode cX5_takeSteps 42 = .ok (.aload_n 0, 1) := by decide +kernel
theorem dX5_takeSteps_43 : decode cX5_takeSteps 43 = .ok (.getfield 19, 3) := by decide +kernel
theorem dX5_takeSteps_46 : decode cX5_takeSteps 46 = .ok (.getfield 79, 3) := by decide +kernel
theorem dX5_takeSteps_49 : decode cX5_takeSteps 49 = .ok (.invokevirtual 83, 3) := by decide +kernel
theorem dX5_takeSteps_52 : decode cX5_takeSteps 52 = .ok (.aload_n 0, 1) := by decide +kernel
theorem dX5_takeSteps_53 : decode cX5_takeSteps 53 = .ok (.getfield 19, 3) := by decide +kernel
theorem dX5_takeSteps_56 : decode cX5_takeSteps 56 = .ok (.dup, 1) := by decide +kernel
theorem dX5_takeSteps_57 : decode cX5_takeSteps 57 = .ok (.getfield 88, 3) := by decide +kernel
theorem dX5_takeSteps_60 : decode cX5_takeSteps 60 = .ok (.iconst 1, 1) := by decide +kernel
theorem dX5_takeSteps_61 : decode cX5_takeSteps 61 = .ok (.iadd, 1) := by decide +kernel
theorem dX5_takeSteps_62 : decode cX5_takeSteps 62 = .ok (.putfield 88, 3) := by decide +kernel
theorem dX5_takeSteps_65 : decode cX5_takeSteps 65 = .ok (.iinc 3 1, 3) := by decide +kernel
theorem dX5_takeSteps_68 : decode cX5_takeSteps 68 = .ok (.goto (-58), 3) := by decide +kernel
theorem dX5_takeSteps_71 : decode cX5_takeSteps 71 = .ok (.aload_n 0, 1) := by decide +kernel
theorem dX5_takeSteps_72 : decode cX5_takeSteps 72 = .ok (.getfield 19, 3) := by decide +kernel
theorem dX5_takeSteps_75 : decode cX5_takeSteps 75 = .ok (.invokevirtual 60, 3) := by decide +kernel
theorem dX5_takeSteps_78 : decode cX5_takeSteps 78 = .ok (.iload_n 2, 1) := by decide +kernel
theorem dX5_takeSteps_79 : decode cX5_takeSteps 79 = .ok (.isub, 1) := by decide +kernel
theorem dX5_takeSteps_80 : decode cX5_takeSteps 80 = .ok (.ireturn, 1) := by decide +kernel
theorem dX5_gainTokens_0 : decode cX5_gainTokens 0 = .ok (.iconst 0, 1) := by decide +kernel
theorem dX5_gainTokens_1 : decode cX5_gainTokens 1 = .ok (.istore_n 1, 1) := by decide +kernel
theorem dX5_gainTokens_2 : decode cX5_gainTokens 2 = .ok (.iload_n 1, 1) := by decide +kernel
theorem dX5_gainTokens_3 : decode cX5_gainTokens 3 = .ok (.aload_n 0, 1) := by decide +kernel
theorem dX5_gainTokens_4 : decode cX5_gainTokens 4 = .ok (.getfield 15, 3) := by decide +kernel
theorem dX5_gainTokens_7 : decode cX5_gainTokens 7 = .ok (.getfield 45, 3) := by decide +kernel
theorem dX5_gainTokens_10 : decode cX5_gainTokens 10 = .ok (.if_icmp .ge 49, 3) := by decide +kernel
theorem dX5_gainTokens_13 : decode cX5_gainTokens 13 = .ok (.aload_n 0, 1) := by decide +kernel
theorem dX5_gainTokens_14 : decode cX5_gainTokens 14 = .ok (.getfield 19, 3) := by decide +kernel
theorem dX5_gainTokens_17 : decode cX5_gainTokens 17 = .ok (.getfield 91, 3) := by decide +kernel
theorem dX5_gainTokens_20 : decode cX5_gainTokens 20 = .ok (.iload_n 1, 1) := by decide +kernel
theorem dX5_gainTokens_21 : decode cX5_gainTokens 21 = .ok (.aload_n 0, 1) := by decide +kernel
theorem dX5_gainTokens_22 : decode cX5_gainTokens 22 = .ok (.getfield 15, 3) := by decide +kernel
theorem dX5_gainTokens_25 : decode cX5_gainTokens 25 = .ok (.getfield 94, 3) := by decide +kernel
theorem dX5_gainTokens_28 : decode cX5_gainTokens 28 = .ok (.iload_n 1, 1) := by decide +kernel
theorem dX5_gainTokens_29 : decode cX5_gainTokens 29 = .ok (.iaload, 1) := by decide +kernel
theorem dX5_gainTokens_30 : decode cX5_gainTokens 30 = .ok (.aload_n 0, 1) := by decide +kernel
theorem dX5_gainTokens_31 : decode cX5_gainTokens 31 = .ok (.getfield 19, 3) := by decide +kernel
theorem dX5_gainTokens_34 : decode cX5_gainTokens 34 = .ok (.getfield 91, 3) := by decide +kernel
theorem dX5_gainTokens_37 : decode cX5_gainTokens 37 = .ok (.iload_n 1, 1) := by decide +kernel
theorem dX5_gainTokens_38 : decode cX5_gainTokens 38 = .ok (.iaload, 1) := by decide +kernel
theorem dX5_gainTokens_39 : decode cX5_gainTokens 39 = .ok (.aload_n 0, 1) := by decide +kernel
theorem dX5_gainTokens_40 : decode cX5_gainTokens 40 = .ok (.getfield 15, 3) := by decide +kernel
theorem dX5_gainTokens_43 : decode cX5_gainTokens 43 = .ok (.getfield 97, 3) := by decide +kernel
theorem dX5_gainTokens_46 : decode cX5_gainTokens 46 = .ok (.iload_n 1, 1) := by decide +kernel
theorem dX5_gainTokens_47 : decode cX5_gainTokens 47 = .ok (.iaload, 1) := by decide +kernel
theorem dX5_gainTokens_48 : decode cX5_gainTokens 48 = .ok (.iadd, 1) := by decide +kernel
theorem dX5_gainTokens_49 : decode cX5_gainTokens 49 = .ok (.invokestatic 100, 3) := by decide +kernel
theorem dX5_gainTokens_52 : decode cX5_gainTokens 52 = .ok (.iastore, 1) := by decide +kernel
theorem dX5_gainTokens_53 : decode cX5_gainTokens 53 = .ok (.iinc 1 1, 3) := by decide +kernel
theorem dX5_gainTokens_56 : decode cX5_gainTokens 56 = .ok (.goto (-54), 3) := by decide +kernel
theorem dX5_gainTokens_59 : decode cX5_gainTokens 59 = .ok (.return_, 1) := by decide +kernel
set_option maxRecDepth 20000 in
theorem ggX5_askInPlaces_X3_isPlaceToAsk : GoodIn wsX5_askInPlaces wsX3_isPlaceToAsk := goodIn_r _ [14, 15, 19, 20, 21, 22, 23, 24, 25, 26, 27, 28, 29] (by decide +kernel) (by decide +kernel)
set_option maxRecDepth 20000 in
theorem gX5_askInPlaces_X3_isPlaceToAsk : GoodIn wsX5_askInPlaces (wsV RX5 109 RX3 yX3_isPlaceToAsk wsX3_isPlaceToAsk) := goodIn_app (goodIn_of _ (by decide +kernel)) ggX5_askInPlaces_X3_isPlaceToAsk
theorem dX5_askInPlaces_0 : decode cX5_askInPlaces 0 = .ok (.iconst 0, 1) := by decide +kernel
theorem dX5_askInPlaces_1 : decode cX5_askInPlaces 1 = .ok (.istore_n 1, 1) := by decide +kernel
theorem dX5_askInPlaces_2 : decode cX5_askInPlaces 2 = .ok (.iload_n 1, 1) := by decide +kernel
theorem dX5_askInPlaces_3 : decode cX5_askInPlaces 3 = .ok (.aload_n 0, 1) := by decide +kernel
theorem dX5_askInPlaces_4 : decode cX5_askInPlaces 4 = .ok (.getfield 15, 3) := by decide +kernel
theorem dX5_askInPlaces_7 : decode cX5_askInPlaces 7 = .ok (.getfield 106, 3) := by decide +kernel
theorem dX5_askInPlaces_10 : decode cX5_askInPlaces 10 = .ok (.if_icmp .ge 118, 3) := by decide +kernel
theorem dX5_askInPlaces_13 : decode cX5_askInPlaces 13 = .ok (.aload_n 0, 1) := by decide +kernel
theorem dX5_askInPlaces_14 : decode cX5_askInPlaces 14 = .ok (.getfield 15, 3) := by decide +kernel
theorem dX5_askInPlaces_17 : decode cX5_askInPlaces 17 = .ok (.iload_n 1, 1) := by decide +kernel
theorem dX5_askInPlaces_18 : decode cX5_askInPlaces 18 = .ok (.aload_n 0, 1) := by decide +kernel
theorem dX5_askInPlaces_19 : decode cX5_askInPlaces 19 = .ok (.getfield 19, 3) := by decide +kernel
theorem dX5_askInPlaces_22 : decode cX5_askInPlaces 22 = .ok (.getfield 88, 3) := by decide +kernel
theorem dX5_askInPlaces_25 : decode cX5_askInPlaces 25 = .ok (.invokevirtual 109, 3) := by decide +kernel
theorem dX5_askInPlaces_28 : decode cX5_askInPlaces 28 = .ok (.ifCond .eq 26, 3) := by decide +kernel
theorem dX5_askInPlaces_31 : decode cX5_askInPlaces 31 = .ok (.aload_n 0, 1) := by decide +kernel
theorem dX5_askInPlaces_32 : decode cX5_askInPlaces 32 = .ok (.getfield 19, 3) := by decide +kernel
theorem dX5_askInPlaces_35 : decode cX5_askInPlaces 35 = .ok (.getfield 88, 3) := by decide +kernel
theorem dX5_askInPlaces_38 : decode cX5_askInPlaces 38 = .ok (.aload_n 0, 1) := by decide +kernel
theorem dX5_askInPlaces_39 : decode cX5_askInPlaces 39 = .ok (.getfield 19, 3) := by decide +kernel
theorem dX5_askInPlaces_42 : decode cX5_askInPlaces 42 = .ok (.getfield 112, 3) := by decide +kernel
theorem dX5_askInPlaces_45 : decode cX5_askInPlaces 45 = .ok (.iload_n 1, 1) := by decide +kernel
theorem dX5_askInPlaces_46 : decode cX5_askInPlaces 46 = .ok (.iaload, 1) := by decide +kernel
theorem dX5_askInPlaces_47 : decode cX5_askInPlaces 47 = .ok (.if_icmp .lt 7, 3) := by decide +kernel
theorem dX5_askInPlaces_50 : decode cX5_askInPlaces 50 = .ok (.iconst 1, 1) := by decide +kernel
theorem dX5_askInPlaces_51 : decode cX5_askInPlaces 51 = .ok (.goto 4, 3) := by decide +kernel
theorem dX5_askInPlaces_54 : decode cX5_askInPlaces 54 = .ok (.iconst 0, 1) := by decide +kernel
theorem dX5_askInPlaces_55 : decode cX5_askInPlaces 55 = .ok (.istore_n 2, 1) := by decide +kernel
theorem dX5_askInPlaces_56 : decode cX5_askInPlaces 56 = .ok (.iload_n 2, 1) := by decide +kernel
theorem dX5_askInPlaces_57 : decode cX5_askInPlaces 57 = .ok (.ifCond .eq 65, 3) := by decide +kernel
theorem dX5_askInPlaces_60 : decode cX5_askInPlaces 60 = .ok (.aload_n 0, 1) := by decide +kernel
theorem dX5_askInPlaces_61 : decode cX5_askInPlaces 61 = .ok (.getfield 19, 3) := by decide +kernel
theorem dX5_askInPlaces_64 : decode cX5_askInPlaces 64 = .ok (.getfield 37, 3) := by decide +kernel
theorem dX5_askInPlaces_67 : decode cX5_askInPlaces 67 = .ok (.iload_n 1, 1) := by decide +kernel
theorem dX5_askInPlaces_68 : decode cX5_askInPlaces 68 = .ok (.iaload, 1) := by decide +kernel
theorem dX5_askInPlaces_69 : decode cX5_askInPlaces 69 = .ok (.iconst 1, 1) := by decide +kernel
theorem dX5_askInPlaces_70 : decode cX5_askInPlaces 70 = .ok (.if_icmp .ne 52, 3) := by decide +kernel
theorem dX5_askInPlaces_73 : decode cX5_askInPlaces 73 = .ok (.aload_n 0, 1) := by decide +kernel
theorem dX5_askInPlaces_74 : decode cX5_askInPlaces 74 = .ok (.getfield 19, 3) := by decide +kernel
theorem dX5_askInPlaces_77 : decode cX5_askInPlaces 77 = .ok (.getfield 115, 3) := by decide +kernel
theorem dX5_askInPlaces_80 : decode cX5_askInPlaces 80 = .ok (.iload_n 1, 1) := by decide +kernel
theorem dX5_askInPlaces_81 : decode cX5_askInPlaces 81 = .ok (.iconst 1, 1) := by decide +kernel
theorem dX5_askInPlaces_82 : decode cX5_askInPlaces 82 = .ok (.iastore, 1) := by decide +kernel
theorem dX5_askInPlaces_83 : decode cX5_askInPlaces 83 = .ok (.aload_n 0, 1) := by decide +kernel
theorem dX5_askInPlaces_84 : decode cX5_askInPlaces 84 = .ok (.getfield 19, 3) := by decide +kernel
theorem dX5_askInPlaces_87 : decode cX5_askInPlaces 87 = .ok (.getfield 118, 3) := by decide +kernel
theorem dX5_askInPlaces_90 : decode cX5_askInPlaces 90 = .ok (.iload_n 1, 1) := by decide +kernel
theorem dX5_askInPlaces_91 : decode cX5_askInPlaces 91 = .ok (.dup2, 1) := by decide +kernel
theorem dX5_askInPlaces_92 : decode cX5_askInPlaces 92 = .ok (.iaload, 1) := by decide +kernel
theorem dX5_askInPlaces_93 : decode cX5_askInPlaces 93 = .ok (.iconst 1, 1) := by decide +kernel
theorem dX5_askInPlaces_94 : decode cX5_askInPlaces 94 = .ok (.iadd, 1) := by decide +kernel
theorem dX5_askInPlaces_95 : decode cX5_askInPlaces 95 = .ok (.iastore, 1) := by decide +kernel
theorem dX5_askInPlaces_96 : decode cX5_askInPlaces 96 = .ok (.aload_n 0, 1) := by decide +kernel
theorem dX5_askInPlaces_97 : decode cX5_askInPlaces 97 = .ok (.getfield 19, 3) := by decide +kernel
theorem dX5_askInPlaces_100 : decode cX5_askInPlaces 100 = .ok (.getfield 112, 3) := by decide +kernel
theorem dX5_askInPlaces_103 : decode cX5_askInPlaces 103 = .ok (.iload_n 1, 1) := by decide +kernel
theorem dX5_askInPlaces_104 : decode cX5_askInPlaces 104 = .ok (.aload_n 0, 1) := by decide +kernel
theorem dX5_askInPlaces_105 : decode cX5_askInPlaces 105 = .ok (.getfield 19, 3) := by decide +kernel
theorem dX5_askInPlaces_108 : decode cX5_askInPlaces 108 = .ok (.getfield 88, 3) := by decide +kernel
theorem dX5_askInPlaces_111 : decode cX5_askInPlaces 111 = .ok (.aload_n 0, 1) := by decide +kernel
theorem dX5_askInPlaces_112 : decode cX5_askInPlaces 112 = .ok (.getfield 15, 3) := by decide +kernel
theorem dX5_askInPlaces_115 : decode cX5_askInPlaces 115 = .ok (.getfield 121, 3) := by decide +kernel
theorem dX5_askInPlaces_118 : decode cX5_askInPlaces 118 = .ok (.iadd, 1) := by decide +kernel
theorem dX5_askInPlaces_119 : decode cX5_askInPlaces 119 = .ok (.iconst 1, 1) := by decide +kernel
theorem dX5_askInPlaces_120 : decode cX5_askInPlaces 120 = .ok (.iadd, 1) := by decide +kernel
theorem dX5_askInPlaces_121 : decode cX5_askInPlaces 121 = .ok (.iastore, 1) := by decide +kernel
theorem dX5_askInPlaces_122 : decode cX5_askInPlaces 122 = .ok (.iinc 1 1, 3) := by decide +kernel
theorem dX5_askInPlaces_125 : decode cX5_askInPlaces 125 = .ok (.goto (-123), 3) := by decide +kernel
theorem dX5_askInPlaces_128 : decode cX5_askInPlaces 128 = .ok (.return_, 1) := by decide +kernel
set_option maxRecDepth 20000 in
theorem ggX5_sendAgain_X0_isDue : GoodIn wsX5_sendAgain wsX0_isDue := goodIn_r _ [16, 17, 18, 98, 99, 100, 101, 102, 103] (by decide +kernel) (by decide +kernel)
set_option maxRecDepth 20000 in
theorem gX5_sendAgain_X0_isDue : GoodIn wsX5_sendAgain (wsV RX5 127 RX0 yX0_isDue wsX0_isDue) := goodIn_app (goodIn_of _ (by decide +kernel)) ggX5_sendAgain_X0_isDue
set_option maxRecDepth 20000 in
theorem ggX5_sendAgain_X0_content : GoodIn wsX5_sendAgain wsX0_content := goodIn_r _ [22, 23, 24, 25, 15, 26, 27, 28, 29, 30, 31, 32, 98, 99, 100, 101, 102, 103] (by decide +kernel) (by decide +kernel)
set_option maxRecDepth 20000 in
theorem gX5_sendAgain_X0_content : GoodIn wsX5_sendAgain (wsV RX5 130 RX0 yX0_content wsX0_content) := goodIn_app (goodIn_of _ (by decide +kernel)) ggX5_sendAgain_X0_content
set_option maxRecDepth 20000 in
theorem ggX5_sendAgain_X5_send : GoodIn wsX5_sendAgain wsX5_send := goodIn_r _ [37, 3, 4, 6, 38, 8, 9, 10, 11, 39, 1, 40, 41, 42, 43, 44, 45, 46, 15, 47, 48, 49, 50, 51, 52, 53, 54, 55, 29, 30, 31, 32, 56, 24, 25, 26, 27, 57, 58, 59, 60, 61, 62, 63, 64, 18, 65, 66, 67, 68, 69, 70, 71, 83, 84, 85, 86, 87, 88, 89, 90, 91, 92, 93, 94, 95, 96, 97, 72, 73, 74, 75, 76, 77, 78, 79, 80, 81, 82, 98, 99, 100, 101, 102, 103] (by decide +kernel) (by decide +kernel)
set_option maxRecDepth 20000 in
theorem gX5_sendAgain_X5_send : GoodIn wsX5_sendAgain (wsV RX5 136 RX5 yX5_send wsX5_send) := goodIn_app (goodIn_of _ (by decide +kernel)) ggX5_sendAgain_X5_send
theorem dX5_sendAgain_0 : decode cX5_sendAgain 0 = .ok (.iconst 0, 1) := by decide +kernel
theorem dX5_sendAgain_1 : decode cX5_sendAgain 1 = .ok (.istore_n 1, 1) := by decide +kernel
theorem dX5_sendAgain_2 : decode cX5_sendAgain 2 = .ok (.iload_n 1, 1) := by decide +kernel
theorem dX5_sendAgain_3 : decode cX5_sendAgain 3 = .ok (.aload_n 0, 1) := by decide +kernel
theorem dX5_sendAgain_4 : decode cX5_sendAgain 4 = .ok (.getfield 15, 3) := by decide +kernel
theorem dX5_sendAgain_7 : decode cX5_sendAgain 7 = .ok (.getfield 106, 3) := by decide +kernel
theorem dX5_sendAgain_10 : decode cX5_sendAgain 10 = .ok (.if_icmp .ge 83, 3) := by decide +kernel
theorem dX5_sendAgain_13 : decode cX5_sendAgain 13 = .ok (.iconst 0, 1) := by decide +kernel
theorem dX5_sendAgain_14 : decode cX5_sendAgain 14 = .ok (.istore_n 2, 1) := by decide +kernel
theorem dX5_sendAgain_15 : decode cX5_sendAgain 15 = .ok (.iload_n 2, 1) := by decide +kernel
theorem dX5_sendAgain_16 : decode cX5_sendAgain 16 = .ok (.aload_n 0, 1) := by decide +kernel
theorem dX5_sendAgain_17 : decode cX5_sendAgain 17 = .ok (.getfield 19, 3) := by decide +kernel
theorem dX5_sendAgain_20 : decode cX5_sendAgain 20 = .ok (.getfield 79, 3) := by decide +kernel
theorem dX5_sendAgain_23 : decode cX5_sendAgain 23 = .ok (.getfield 124, 3) := by decide +kernel
theorem dX5_sendAgain_26 : decode cX5_sendAgain 26 = .ok (.if_icmp .ge 61, 3) := by decide +kernel
theorem dX5_sendAgain_29 : decode cX5_sendAgain 29 = .ok (.aload_n 0, 1) := by decide +kernel
theorem dX5_sendAgain_30 : decode cX5_sendAgain 30 = .ok (.getfield 19, 3) := by decide +kernel
theorem dX5_sendAgain_33 : decode cX5_sendAgain 33 = .ok (.getfield 79, 3) := by decide +kernel
theorem dX5_sendAgain_36 : decode cX5_sendAgain 36 = .ok (.iload_n 2, 1) := by decide +kernel
theorem dX5_sendAgain_37 : decode cX5_sendAgain 37 = .ok (.iload_n 1, 1) := by decide +kernel
theorem dX5_sendAgain_38 : decode cX5_sendAgain 38 = .ok (.aload_n 0, 1) := by decide +kernel
theorem dX5_sendAgain_39 : decode cX5_sendAgain 39 = .ok (.getfield 19, 3) := by decide +kernel
theorem dX5_sendAgain_42 : decode cX5_sendAgain 42 = .ok (.getfield 88, 3) := by decide +kernel
theorem dX5_sendAgain_45 : decode cX5_sendAgain 45 = .ok (.invokevirtual 127, 3) := by decide +kernel
theorem dX5_sendAgain_48 : decode cX5_sendAgain 48 = .ok (.ifCond .eq 33, 3) := by decide +kernel
theorem dX5_sendAgain_51 : decode cX5_sendAgain 51 = .ok (.aload_n 0, 1) := by decide +kernel
theorem dX5_sendAgain_52 : decode cX5_sendAgain 52 = .ok (.iconst 0, 1) := by decide +kernel
theorem dX5_sendAgain_53 : decode cX5_sendAgain 53 = .ok (.aload_n 0, 1) := by decide +kernel
theorem dX5_sendAgain_54 : decode cX5_sendAgain 54 = .ok (.getfield 9, 3) := by decide +kernel
theorem dX5_sendAgain_57 : decode cX5_sendAgain 57 = .ok (.aload_n 0, 1) := by decide +kernel
theorem dX5_sendAgain_58 : decode cX5_sendAgain 58 = .ok (.getfield 19, 3) := by decide +kernel
theorem dX5_sendAgain_61 : decode cX5_sendAgain 61 = .ok (.getfield 79, 3) := by decide +kernel
theorem dX5_sendAgain_64 : decode cX5_sendAgain 64 = .ok (.iload_n 2, 1) := by decide +kernel
theorem dX5_sendAgain_65 : decode cX5_sendAgain 65 = .ok (.invokevirtual 130, 3) := by decide +kernel
theorem dX5_sendAgain_68 : decode cX5_sendAgain 68 = .ok (.isub, 1) := by decide +kernel
theorem dX5_sendAgain_69 : decode cX5_sendAgain 69 = .ok (.invokestatic 133, 3) := by decide +kernel
theorem dX5_sendAgain_72 : decode cX5_sendAgain 72 = .ok (.putfield 9, 3) := by decide +kernel
theorem dX5_sendAgain_75 : decode cX5_sendAgain 75 = .ok (.aload_n 0, 1) := by decide +kernel
theorem dX5_sendAgain_76 : decode cX5_sendAgain 76 = .ok (.iload_n 2, 1) := by decide +kernel
theorem dX5_sendAgain_77 : decode cX5_sendAgain 77 = .ok (.iload_n 1, 1) := by decide +kernel
theorem dX5_sendAgain_78 : decode cX5_sendAgain 78 = .ok (.invokevirtual 136, 3) := by decide +kernel
theorem dX5_sendAgain_81 : decode cX5_sendAgain 81 = .ok (.iinc 2 1, 3) := by decide +kernel
theorem dX5_sendAgain_84 : decode cX5_sendAgain 84 = .ok (.goto (-69), 3) := by decide +kernel
theorem dX5_sendAgain_87 : decode cX5_sendAgain 87 = .ok (.iinc 1 1, 3) := by decide +kernel
theorem dX5_sendAgain_90 : decode cX5_sendAgain 90 = .ok (.goto (-88), 3) := by decide +kernel
theorem dX5_sendAgain_93 : decode cX5_sendAgain 93 = .ok (.return_, 1) := by decide +kernel
set_option maxRecDepth 20000 in
theorem ggX5_giveGrants_X5_takeGrant : GoodIn wsX5_giveGrants wsX5_takeGrant := goodIn_r _ [12, 3, 7, 5, 13, 14, 15, 16, 6, 17, 4, 104, 105, 106, 118, 119, 120, 121, 122, 123, 124, 125, 126, 127, 128, 129, 130, 131, 132] (by decide +kernel) (by decide +kernel)
set_option maxRecDepth 20000 in
theorem gX5_giveGrants_X5_takeGrant : GoodIn wsX5_giveGrants (wsV RX5 146 RX5 yX5_takeGrant wsX5_takeGrant) := goodIn_app (goodIn_of _ (by decide +kernel)) ggX5_giveGrants_X5_takeGrant
set_option maxRecDepth 20000 in
theorem ggX5_giveGrants_X5_pack : GoodIn wsX5_giveGrants wsX5_pack := goodIn_r _ [21, 3, 22, 23, 24, 25, 26, 27, 28, 29, 30, 31, 32, 33, 34, 35, 36, 37, 11, 38, 1, 39, 40, 41, 42, 13, 14, 15, 16, 43, 44, 45, 46, 47, 48, 49, 50, 51, 52, 53, 54, 55, 56, 57, 58, 59, 60, 61, 62, 63, 64, 65, 66, 67, 68, 69, 70, 71, 72, 7, 73, 74, 75, 76, 77, 78, 79, 80, 81, 82, 83, 84, 85, 86, 87, 88, 89, 90, 91, 92, 93, 94, 95, 96, 97, 98, 99, 100, 101, 102, 103, 104, 105, 106, 118, 119, 120, 121, 122, 123, 124, 125, 126, 127, 128, 129, 130, 131, 132, 133, 134, 135, 136, 137, 138, 107, 108, 109, 110, 111, 112, 113, 114, 115, 116, 117] (by decide +kernel) (by decide +kernel)
set_option maxRecDepth 20000 in
theorem gX5_giveGrants_X5_pack : GoodIn wsX5_giveGrants (wsV RX5 149 RX5 yX5_pack wsX5_pack) := goodIn_app (goodIn_of _ (by decide +kernel)) ggX5_giveGrants_X5_pack
theorem dX5_giveGrants_0 : decode cX5_giveGrants 0 = .ok (.aload_n 0, 1) := by decide +kernel
theorem dX5_giveGrants_1 : decode cX5_giveGrants 1 = .ok (.getfield 15, 3) := by decide +kernel
theorem dX5_giveGrants_4 : decode cX5_giveGrants 4 = .ok (.getfield 106, 3) := by decide +kernel
theorem dX5_giveGrants_7 : decode cX5_giveGrants 7 = .ok (.istore_n 1, 1) := by decide +kernel
theorem dX5_giveGrants_8 : decode cX5_giveGrants 8 = .ok (.aload_n 0, 1) := by decide +kernel
theorem dX5_giveGrants_9 : decode cX5_giveGrants 9 = .ok (.getfield 19, 3) := by decide +kernel
theorem dX5_giveGrants_12 : decode cX5_giveGrants 12 = .ok (.getfield 140, 3) := by decide +kernel
theorem dX5_giveGrants_15 : decode cX5_giveGrants 15 = .ok (.bipush (-9), 2) := by decide +kernel
theorem dX5_giveGrants_17 : decode cX5_giveGrants 17 = .ok (.if_icmp .ne 7, 3) := by decide +kernel
theorem dX5_giveGrants_20 : decode cX5_giveGrants 20 = .ok (.iconst 0, 1) := by decide +kernel
theorem dX5_giveGrants_21 : decode cX5_giveGrants 21 = .ok (.goto 12, 3) := by decide +kernel
theorem dX5_giveGrants_24 : decode cX5_giveGrants 24 = .ok (.aload_n 0, 1) := by decide +kernel
theorem dX5_giveGrants_25 : decode cX5_giveGrants 25 = .ok (.getfield 19, 3) := by decide +kernel
theorem dX5_giveGrants_28 : decode cX5_giveGrants 28 = .ok (.getfield 140, 3) := by decide +kernel
theorem dX5_giveGrants_31 : decode cX5_giveGrants 31 = .ok (.iconst 1, 1) := by decide +kernel
theorem dX5_giveGrants_32 : decode cX5_giveGrants 32 = .ok (.iadd, 1) := by decide +kernel
theorem dX5_giveGrants_33 : decode cX5_giveGrants 33 = .ok (.istore_n 2, 1) := by decide +kernel
theorem dX5_giveGrants_34 : decode cX5_giveGrants 34 = .ok (.iconst 0, 1) := by decide +kernel
theorem dX5_giveGrants_35 : decode cX5_giveGrants 35 = .ok (.istore_n 3, 1) := by decide +kernel
theorem dX5_giveGrants_36 : decode cX5_giveGrants 36 = .ok (.iload_n 3, 1) := by decide +kernel
theorem dX5_giveGrants_37 : decode cX5_giveGrants 37 = .ok (.iload_n 1, 1) := by decide +kernel
theorem dX5_giveGrants_38 : decode cX5_giveGrants 38 = .ok (.if_icmp .ge 73, 3) := by decide +kernel
theorem dX5_giveGrants_41 : decode cX5_giveGrants 41 = .ok (.aload_n 0, 1) := by decide +kernel
theorem dX5_giveGrants_42 : decode cX5_giveGrants 42 = .ok (.getfield 9, 3) := by decide +kernel
theorem dX5_giveGrants_45 : decode cX5_giveGrants 45 = .ok (.ifCond .le 66, 3) := by decide +kernel
theorem dX5_giveGrants_48 : decode cX5_giveGrants 48 = .ok (.iload_n 2, 1) := by decide +kernel
theorem dX5_giveGrants_49 : decode cX5_giveGrants 49 = .ok (.iload_n 3, 1) := by decide +kernel
theorem dX5_giveGrants_50 : decode cX5_giveGrants 50 = .ok (.iadd, 1) := by decide +kernel
theorem dX5_giveGrants_51 : decode cX5_giveGrants 51 = .ok (.iload_n 1, 1) := by decide +kernel
theorem dX5_giveGrants_52 : decode cX5_giveGrants 52 = .ok (.irem, 1) := by decide +kernel
theorem dX5_giveGrants_53 : decode cX5_giveGrants 53 = .ok (.istore 4, 2) := by decide +kernel
theorem dX5_giveGrants_55 : decode cX5_giveGrants 55 = .ok (.iload 4, 2) := by decide +kernel
theorem dX5_giveGrants_57 : decode cX5_giveGrants 57 = .ok (.ifCond .lt 48, 3) := by decide +kernel
theorem dX5_giveGrants_60 : decode cX5_giveGrants 60 = .ok (.iload 4, 2) := by decide +kernel
theorem dX5_giveGrants_62 : decode cX5_giveGrants 62 = .ok (.iconst 3, 1) := by decide +kernel
theorem dX5_giveGrants_63 : decode cX5_giveGrants 63 = .ok (.if_icmp .ge 42, 3) := by decide +kernel
theorem dX5_giveGrants_66 : decode cX5_giveGrants 66 = .ok (.aload_n 0, 1) := by decide +kernel
theorem dX5_giveGrants_67 : decode cX5_giveGrants 67 = .ok (.getfield 19, 3) := by decide +kernel
theorem dX5_giveGrants_70 : decode cX5_giveGrants 70 = .ok (.getfield 115, 3) := by decide +kernel
theorem dX5_giveGrants_73 : decode cX5_giveGrants 73 = .ok (.iload 4, 2) := by decide +kernel
theorem dX5_giveGrants_75 : decode cX5_giveGrants 75 = .ok (.iaload, 1) := by decide +kernel
theorem dX5_giveGrants_76 : decode cX5_giveGrants 76 = .ok (.iconst 1, 1) := by decide +kernel
theorem dX5_giveGrants_77 : decode cX5_giveGrants 77 = .ok (.if_icmp .eq 16, 3) := by decide +kernel
theorem dX5_giveGrants_80 : decode cX5_giveGrants 80 = .ok (.aload_n 0, 1) := by decide +kernel
theorem dX5_giveGrants_81 : decode cX5_giveGrants 81 = .ok (.getfield 19, 3) := by decide +kernel
theorem dX5_giveGrants_84 : decode cX5_giveGrants 84 = .ok (.getfield 143, 3) := by decide +kernel
theorem dX5_giveGrants_87 : decode cX5_giveGrants 87 = .ok (.iload 4, 2) := by decide +kernel
theorem dX5_giveGrants_89 : decode cX5_giveGrants 89 = .ok (.iaload, 1) := by decide +kernel
theorem dX5_giveGrants_90 : decode cX5_giveGrants 90 = .ok (.ifCond .le 15, 3) := by decide +kernel
theorem dX5_giveGrants_93 : decode cX5_giveGrants 93 = .ok (.aload_n 0, 1) := by decide +kernel
theorem dX5_giveGrants_94 : decode cX5_giveGrants 94 = .ok (.iload 4, 2) := by decide +kernel
theorem dX5_giveGrants_96 : decode cX5_giveGrants 96 = .ok (.aload_n 0, 1) := by decide +kernel
theorem dX5_giveGrants_97 : decode cX5_giveGrants 97 = .ok (.iload 4, 2) := by decide +kernel
theorem dX5_giveGrants_99 : decode cX5_giveGrants 99 = .ok (.invokevirtual 146, 3) := by decide +kernel
theorem dX5_giveGrants_102 : decode cX5_giveGrants 102 = .ok (.invokevirtual 149, 3) := by decide +kernel
theorem dX5_giveGrants_105 : decode cX5_giveGrants 105 = .ok (.iinc 3 1, 3) := by decide +kernel
theorem dX5_giveGrants_108 : decode cX5_giveGrants 108 = .ok (.goto (-72), 3) := by decide +kernel
theorem dX5_giveGrants_111 : decode cX5_giveGrants 111 = .ok (.return_, 1) := by decide +kernel
theorem dX5_takeGrant_0 : decode cX5_takeGrant 0 = .ok (.aload_n 0, 1) := by decide +kernel
theorem dX5_takeGrant_1 : decode cX5_takeGrant 1 = .ok (.getfield 19, 3) := by decide +kernel
theorem dX5_takeGrant_4 : decode cX5_takeGrant 4 = .ok (.getfield 143, 3) := by decide +kernel
theorem dX5_takeGrant_7 : decode cX5_takeGrant 7 = .ok (.iload_n 1, 1) := by decide +kernel
theorem dX5_takeGrant_8 : decode cX5_takeGrant 8 = .ok (.iaload, 1) := by decide +kernel
theorem dX5_takeGrant_9 : decode cX5_takeGrant 9 = .ok (.ifCond .le 17, 3) := by decide +kernel
theorem dX5_takeGrant_12 : decode cX5_takeGrant 12 = .ok (.aload_n 0, 1) := by decide +kernel
theorem dX5_takeGrant_13 : decode cX5_takeGrant 13 = .ok (.getfield 19, 3) := by decide +kernel
theorem dX5_takeGrant_16 : decode cX5_takeGrant 16 = .ok (.getfield 143, 3) := by decide +kernel
theorem dX5_takeGrant_19 : decode cX5_takeGrant 19 = .ok (.iload_n 1, 1) := by decide +kernel
theorem dX5_takeGrant_20 : decode cX5_takeGrant 20 = .ok (.iaload, 1) := by decide +kernel
theorem dX5_takeGrant_21 : decode cX5_takeGrant 21 = .ok (.iconst 2, 1) := by decide +kernel
theorem dX5_takeGrant_22 : decode cX5_takeGrant 22 = .ok (.iadd, 1) := by decide +kernel
theorem dX5_takeGrant_23 : decode cX5_takeGrant 23 = .ok (.goto 4, 3) := by decide +kernel
theorem dX5_takeGrant_26 : decode cX5_takeGrant 26 = .ok (.iconst 4, 1) := by decide +kernel
theorem dX5_takeGrant_27 : decode cX5_takeGrant 27 = .ok (.istore_n 2, 1) := by decide +kernel
theorem dX5_takeGrant_28 : decode cX5_takeGrant 28 = .ok (.iload_n 2, 1) := by decide +kernel
theorem dX5_takeGrant_29 : decode cX5_takeGrant 29 = .ok (.aload_n 0, 1) := by decide +kernel
theorem dX5_takeGrant_30 : decode cX5_takeGrant 30 = .ok (.getfield 9, 3) := by decide +kernel
theorem dX5_takeGrant_33 : decode cX5_takeGrant 33 = .ok (.invokestatic 100, 3) := by decide +kernel
theorem dX5_takeGrant_36 : decode cX5_takeGrant 36 = .ok (.istore_n 3, 1) := by decide +kernel
theorem dX5_takeGrant_37 : decode cX5_takeGrant 37 = .ok (.aload_n 0, 1) := by decide +kernel
theorem dX5_takeGrant_38 : decode cX5_takeGrant 38 = .ok (.dup, 1) := by decide +kernel
theorem dX5_takeGrant_39 : decode cX5_takeGrant 39 = .ok (.getfield 9, 3) := by decide +kernel
theorem dX5_takeGrant_42 : decode cX5_takeGrant 42 = .ok (.iload_n 3, 1) := by decide +kernel
theorem dX5_takeGrant_43 : decode cX5_takeGrant 43 = .ok (.isub, 1) := by decide +kernel
theorem dX5_takeGrant_44 : decode cX5_takeGrant 44 = .ok (.putfield 9, 3) := by decide +kernel
theorem dX5_takeGrant_47 : decode cX5_takeGrant 47 = .ok (.aload_n 0, 1) := by decide +kernel
theorem dX5_takeGrant_48 : decode cX5_takeGrant 48 = .ok (.getfield 19, 3) := by decide +kernel
theorem dX5_takeGrant_51 : decode cX5_takeGrant 51 = .ok (.getfield 115, 3) := by decide +kernel
theorem dX5_takeGrant_54 : decode cX5_takeGrant 54 = .ok (.iload_n 1, 1) := by decide +kernel
theorem dX5_takeGrant_55 : decode cX5_takeGrant 55 = .ok (.iconst 0, 1) := by decide +kernel
theorem dX5_takeGrant_56 : decode cX5_takeGrant 56 = .ok (.iastore, 1) := by decide +kernel
theorem dX5_takeGrant_57 : decode cX5_takeGrant 57 = .ok (.aload_n 0, 1) := by decide +kernel
theorem dX5_takeGrant_58 : decode cX5_takeGrant 58 = .ok (.getfield 19, 3) := by decide +kernel
theorem dX5_takeGrant_61 : decode cX5_takeGrant 61 = .ok (.getfield 152, 3) := by decide +kernel
theorem dX5_takeGrant_64 : decode cX5_takeGrant 64 = .ok (.iload_n 1, 1) := by decide +kernel
theorem dX5_takeGrant_65 : decode cX5_takeGrant 65 = .ok (.dup2, 1) := by decide +kernel
theorem dX5_takeGrant_66 : decode cX5_takeGrant 66 = .ok (.iaload, 1) := by decide +kernel
theorem dX5_takeGrant_67 : decode cX5_takeGrant 67 = .ok (.iload_n 3, 1) := by decide +kernel
theorem dX5_takeGrant_68 : decode cX5_takeGrant 68 = .ok (.iadd, 1) := by decide +kernel
theorem dX5_takeGrant_69 : decode cX5_takeGrant 69 = .ok (.iastore, 1) := by decide +kernel
theorem dX5_takeGrant_70 : decode cX5_takeGrant 70 = .ok (.aload_n 0, 1) := by decide +kernel
theorem dX5_takeGrant_71 : decode cX5_takeGrant 71 = .ok (.getfield 19, 3) := by decide +kernel
theorem dX5_takeGrant_74 : decode cX5_takeGrant 74 = .ok (.iload_n 1, 1) := by decide +kernel
theorem dX5_takeGrant_75 : decode cX5_takeGrant 75 = .ok (.putfield 140, 3) := by decide +kernel
theorem dX5_takeGrant_78 : decode cX5_takeGrant 78 = .ok (.iload_n 3, 1) := by decide +kernel
theorem dX5_takeGrant_79 : decode cX5_takeGrant 79 = .ok (.ireturn, 1) := by decide +kernel
set_option maxRecDepth 20000 in
theorem ggX5_pack_X0_open : GoodIn wsX5_pack wsX0_open := goodIn_r _ [8, 9, 10, 11, 12, 13, 14, 109, 110, 111, 112, 113, 114] (by decide +kernel) (by decide +kernel)
set_option maxRecDepth 20000 in
theorem gX5_pack_X0_open : GoodIn wsX5_pack (wsV RX5 155 RX0 yX0_open wsX0_open) := goodIn_app (goodIn_of _ (by decide +kernel)) ggX5_pack_X0_open
set_option maxRecDepth 20000 in
theorem ggX5_pack_X5_packLetters : GoodIn wsX5_pack wsX5_packLetters := goodIn_r _ [19, 20, 21, 22, 23, 1, 24, 25, 26, 27, 28, 29, 2, 30, 31, 32, 7, 33, 14, 91, 92, 93, 115, 116, 117, 118, 119, 120, 121, 122, 123, 124, 125, 94, 95, 96, 97, 98, 99, 100, 101, 102, 103, 104, 105, 106, 107, 108, 109, 110, 111, 112, 113, 114] (by decide +kernel) (by decide +kernel)
set_option maxRecDepth 20000 in
theorem gX5_pack_X5_packLetters : GoodIn wsX5_pack (wsV RX5 158 RX5 yX5_packLetters wsX5_packLetters) := goodIn_app (goodIn_of _ (by decide +kernel)) ggX5_pack_X5_packLetters
set_option maxRecDepth 20000 in
theorem ggX5_pack_X5_waitingAt : GoodIn wsX5_pack wsX5_waitingAt := goodIn_r _ [37, 20, 21, 22, 1, 24, 91, 92, 93, 115, 116, 117, 118, 119, 120, 121, 122, 123, 124, 125, 94, 95, 96, 97, 98, 99, 100, 101, 102, 103, 104, 105, 106, 107, 108] (by decide +kernel) (by decide +kernel)
set_option maxRecDepth 20000 in
theorem gX5_pack_X5_waitingAt : GoodIn wsX5_pack (wsV RX5 162 RX5 yX5_waitingAt wsX5_waitingAt) := goodIn_app (goodIn_of _ (by decide +kernel)) ggX5_pack_X5_waitingAt
set_option maxRecDepth 20000 in
theorem ggX5_pack_X0_putReport : GoodIn wsX5_pack wsX0_putReport := goodIn_r _ [41, 13, 109, 110, 111, 112, 113, 114] (by decide +kernel) (by decide +kernel)
set_option maxRecDepth 20000 in
theorem gX5_pack_X0_putReport : GoodIn wsX5_pack (wsV RX5 165 RX0 yX0_putReport wsX0_putReport) := goodIn_app (goodIn_of _ (by decide +kernel)) ggX5_pack_X0_putReport
set_option maxRecDepth 20000 in
theorem ggX5_pack_X0_content : GoodIn wsX5_pack wsX0_content := goodIn_r _ [45, 46, 47, 48, 7, 49, 14, 50, 51, 52, 53, 13, 109, 110, 111, 112, 113, 114] (by decide +kernel) (by decide +kernel)
set_option maxRecDepth 20000 in
theorem gX5_pack_X0_content : GoodIn wsX5_pack (wsV RX5 130 RX0 yX0_content wsX0_content) := goodIn_app (goodIn_of _ (by decide +kernel)) ggX5_pack_X0_content
set_option maxRecDepth 20000 in
theorem ggX5_pack_X5_send : GoodIn wsX5_pack wsX5_send := goodIn_r _ [57, 1, 2, 58, 59, 60, 61, 27, 62, 63, 20, 64, 65, 3, 66, 67, 68, 69, 7, 70, 12, 71, 72, 73, 74, 75, 76, 77, 51, 52, 53, 13, 78, 47, 48, 49, 14, 79, 80, 81, 82, 83, 84, 85, 86, 11, 87, 88, 89, 90, 91, 92, 93, 94, 95, 96, 97, 98, 99, 100, 101, 102, 103, 104, 105, 106, 107, 108, 115, 116, 117, 118, 119, 120, 121, 122, 123, 124, 125, 109, 110, 111, 112, 113, 114] (by decide +kernel) (by decide +kernel)
set_option maxRecDepth 20000 in
theorem gX5_pack_X5_send : GoodIn wsX5_pack (wsV RX5 136 RX5 yX5_send wsX5_send) := goodIn_app (goodIn_of _ (by decide +kernel)) ggX5_pack_X5_send
theorem dX5_pack_0 : decode cX5_pack 0 = .ok (.aload_n 0, 1) := by decide +kernel
theorem dX5_pack_1 : decode cX5_pack 1 = .ok (.getfield 19, 3) := by decide +kernel
theorem dX5_pack_4 : decode cX5_pack 4 = .ok (.getfield 79, 3) := by decide +kernel
theorem dX5_pack_7 : decode cX5_pack 7 = .ok (.iload_n 1, 1) := by decide +kernel
theorem dX5_pack_8 : decode cX5_pack 8 = .ok (.invokevirtual 155, 3) := by decide +kernel
theorem dX5_pack_11 : decode cX5_pack 11 = .ok (.istore_n 3, 1) := by decide +kernel
theorem dX5_pack_12 : decode cX5_pack 12 = .ok (.aload_n 0, 1) := by decide +kernel
theorem dX5_pack_13 : decode cX5_pack 13 = .ok (.getfield 19, 3) := by decide +kernel
theorem dX5_pack_16 : decode cX5_pack 16 = .ok (.getfield 37, 3) := by decide +kernel
theorem dX5_pack_19 : decode cX5_pack 19 = .ok (.iload_n 1, 1) := by decide +kernel
theorem dX5_pack_20 : decode cX5_pack 20 = .ok (.iaload, 1) := by decide +kernel
theorem dX5_pack_21 : decode cX5_pack 21 = .ok (.iconst 1, 1) := by decide +kernel
theorem dX5_pack_22 : decode cX5_pack 22 = .ok (.if_icmp .ne 12, 3) := by decide +kernel
theorem dX5_pack_25 : decode cX5_pack 25 = .ok (.iload_n 2, 1) := by decide +kernel
theorem dX5_pack_26 : decode cX5_pack 26 = .ok (.iconst 2, 1) := by decide +kernel
theorem dX5_pack_27 : decode cX5_pack 27 = .ok (.if_icmp .lt 7, 3) := by decide +kernel
theorem dX5_pack_30 : decode cX5_pack 30 = .ok (.iconst 1, 1) := by decide +kernel
theorem dX5_pack_31 : decode cX5_pack 31 = .ok (.goto 4, 3) := by decide +kernel
theorem dX5_pack_34 : decode cX5_pack 34 = .ok (.iconst 0, 1) := by decide +kernel
theorem dX5_pack_35 : decode cX5_pack 35 = .ok (.istore 4, 2) := by decide +kernel
theorem dX5_pack_37 : decode cX5_pack 37 = .ok (.iload 4, 2) := by decide +kernel
theorem dX5_pack_39 : decode cX5_pack 39 = .ok (.ifCond .eq 9, 3) := by decide +kernel
theorem dX5_pack_42 : decode cX5_pack 42 = .ok (.iload_n 2, 1) := by decide +kernel
theorem dX5_pack_43 : decode cX5_pack 43 = .ok (.iconst 2, 1) := by decide +kernel
theorem dX5_pack_44 : decode cX5_pack 44 = .ok (.isub, 1) := by decide +kernel
theorem dX5_pack_45 : decode cX5_pack 45 = .ok (.goto 4, 3) := by decide +kernel
theorem dX5_pack_48 : decode cX5_pack 48 = .ok (.iload_n 2, 1) := by decide +kernel
theorem dX5_pack_49 : decode cX5_pack 49 = .ok (.istore 5, 2) := by decide +kernel
theorem dX5_pack_51 : decode cX5_pack 51 = .ok (.aload_n 0, 1) := by decide +kernel
theorem dX5_pack_52 : decode cX5_pack 52 = .ok (.iload_n 1, 1) := by decide +kernel
theorem dX5_pack_53 : decode cX5_pack 53 = .ok (.iload_n 3, 1) := by decide +kernel
theorem dX5_pack_54 : decode cX5_pack 54 = .ok (.iload 5, 2) := by decide +kernel
theorem dX5_pack_56 : decode cX5_pack 56 = .ok (.iconst 1, 1) := by decide +kernel
theorem dX5_pack_57 : decode cX5_pack 57 = .ok (.invokevirtual 158, 3) := by decide +kernel
theorem dX5_pack_60 : decode cX5_pack 60 = .ok (.istore 5, 2) := by decide +kernel
theorem dX5_pack_62 : decode cX5_pack 62 = .ok (.aload_n 0, 1) := by decide +kernel
theorem dX5_pack_63 : decode cX5_pack 63 = .ok (.iload_n 1, 1) := by decide +kernel
theorem dX5_pack_64 : decode cX5_pack 64 = .ok (.iload_n 3, 1) := by decide +kernel
theorem dX5_pack_65 : decode cX5_pack 65 = .ok (.iload 5, 2) := by decide +kernel
theorem dX5_pack_67 : decode cX5_pack 67 = .ok (.iconst 0, 1) := by decide +kernel
theorem dX5_pack_68 : decode cX5_pack 68 = .ok (.invokevirtual 158, 3) := by decide +kernel
theorem dX5_pack_71 : decode cX5_pack 71 = .ok (.istore 5, 2) := by decide +kernel
theorem dX5_pack_73 : decode cX5_pack 73 = .ok (.iload 4, 2) := by decide +kernel
theorem dX5_pack_75 : decode cX5_pack 75 = .ok (.ifCond .ne 9, 3) := by decide +kernel
theorem dX5_pack_78 : decode cX5_pack 78 = .ok (.iload 5, 2) := by decide +kernel
theorem dX5_pack_80 : decode cX5_pack 80 = .ok (.iconst 2, 1) := by decide +kernel
theorem dX5_pack_81 : decode cX5_pack 81 = .ok (.if_icmp .lt 29, 3) := by decide +kernel
theorem dX5_pack_84 : decode cX5_pack 84 = .ok (.aload_n 0, 1) := by decide +kernel
theorem dX5_pack_85 : decode cX5_pack 85 = .ok (.getfield 19, 3) := by decide +kernel
theorem dX5_pack_88 : decode cX5_pack 88 = .ok (.getfield 79, 3) := by decide +kernel
theorem dX5_pack_91 : decode cX5_pack 91 = .ok (.iload_n 3, 1) := by decide +kernel
theorem dX5_pack_92 : decode cX5_pack 92 = .ok (.aload_n 0, 1) := by decide +kernel
theorem dX5_pack_93 : decode cX5_pack 93 = .ok (.iload_n 1, 1) := by decide +kernel
theorem dX5_pack_94 : decode cX5_pack 94 = .ok (.invokevirtual 162, 3) := by decide +kernel
theorem dX5_pack_97 : decode cX5_pack 97 = .ok (.invokevirtual 165, 3) := by decide +kernel
theorem dX5_pack_100 : decode cX5_pack 100 = .ok (.aload_n 0, 1) := by decide +kernel
theorem dX5_pack_101 : decode cX5_pack 101 = .ok (.getfield 19, 3) := by decide +kernel
theorem dX5_pack_104 : decode cX5_pack 104 = .ok (.getfield 37, 3) := by decide +kernel
theorem dX5_pack_107 : decode cX5_pack 107 = .ok (.iload_n 1, 1) := by decide +kernel
theorem dX5_pack_108 : decode cX5_pack 108 = .ok (.iconst 0, 1) := by decide +kernel
theorem dX5_pack_109 : decode cX5_pack 109 = .ok (.iastore, 1) := by decide +kernel
theorem dX5_pack_110 : decode cX5_pack 110 = .ok (.aload_n 0, 1) := by decide +kernel
theorem dX5_pack_111 : decode cX5_pack 111 = .ok (.getfield 19, 3) := by decide +kernel
theorem dX5_pack_114 : decode cX5_pack 114 = .ok (.getfield 79, 3) := by decide +kernel
theorem dX5_pack_117 : decode cX5_pack 117 = .ok (.iload_n 3, 1) := by decide +kernel
theorem dX5_pack_118 : decode cX5_pack 118 = .ok (.invokevirtual 130, 3) := by decide +kernel
theorem dX5_pack_121 : decode cX5_pack 121 = .ok (.ifCond .le 9, 3) := by decide +kernel
theorem dX5_pack_124 : decode cX5_pack 124 = .ok (.aload_n 0, 1) := by decide +kernel
theorem dX5_pack_125 : decode cX5_pack 125 = .ok (.iload_n 3, 1) := by decide +kernel
theorem dX5_pack_126 : decode cX5_pack 126 = .ok (.iload_n 1, 1) := by decide +kernel
theorem dX5_pack_127 : decode cX5_pack 127 = .ok (.invokevirtual 136, 3) := by decide +kernel
theorem dX5_pack_130 : decode cX5_pack 130 = .ok (.return_, 1) := by decide +kernel
set_option maxRecDepth 20000 in
theorem ggX5_packLetters_X0_putLetters : GoodIn wsX5_packLetters wsX0_putLetters := goodIn_r _ [17, 18, 48, 49, 50, 51, 52, 53] (by decide +kernel) (by decide +kernel)
set_option maxRecDepth 20000 in
theorem gX5_packLetters_X0_putLetters : GoodIn wsX5_packLetters (wsV RX5 171 RX0 yX0_putLetters wsX0_putLetters) := goodIn_app (goodIn_of _ (by decide +kernel)) ggX5_packLetters_X0_putLetters
theorem dX5_packLetters_0 : decode cX5_packLetters 0 = .ok (.iload_n 3, 1) := by decide +kernel
theorem dX5_packLetters_1 : decode cX5_packLetters 1 = .ok (.istore 5, 2) := by decide +kernel
theorem dX5_packLetters_3 : decode cX5_packLetters 3 = .ok (.iconst 0, 1) := by decide +kernel
theorem dX5_packLetters_4 : decode cX5_packLetters 4 = .ok (.istore 6, 2) := by decide +kernel
theorem dX5_packLetters_6 : decode cX5_packLetters 6 = .ok (.iload 6, 2) := by decide +kernel
theorem dX5_packLetters_8 : decode cX5_packLetters 8 = .ok (.bipush 9, 2) := by decide +kernel
theorem dX5_packLetters_10 : decode cX5_packLetters 10 = .ok (.if_icmp .gt 153, 3) := by decide +kernel
theorem dX5_packLetters_13 : decode cX5_packLetters 13 = .ok (.iconst 0, 1) := by decide +kernel
theorem dX5_packLetters_14 : decode cX5_packLetters 14 = .ok (.istore 7, 2) := by decide +kernel
theorem dX5_packLetters_16 : decode cX5_packLetters 16 = .ok (.iload 7, 2) := by decide +kernel
theorem dX5_packLetters_18 : decode cX5_packLetters 18 = .ok (.aload_n 0, 1) := by decide +kernel
theorem dX5_packLetters_19 : decode cX5_packLetters 19 = .ok (.getfield 15, 3) := by decide +kernel
theorem dX5_packLetters_22 : decode cX5_packLetters 22 = .ok (.getfield 45, 3) := by decide +kernel
theorem dX5_packLetters_25 : decode cX5_packLetters 25 = .ok (.if_icmp .ge 132, 3) := by decide +kernel
theorem dX5_packLetters_28 : decode cX5_packLetters 28 = .ok (.aload_n 0, 1) := by decide +kernel
theorem dX5_packLetters_29 : decode cX5_packLetters 29 = .ok (.getfield 15, 3) := by decide +kernel
theorem dX5_packLetters_32 : decode cX5_packLetters 32 = .ok (.getfield 23, 3) := by decide +kernel
theorem dX5_packLetters_35 : decode cX5_packLetters 35 = .ok (.iload 7, 2) := by decide +kernel
theorem dX5_packLetters_37 : decode cX5_packLetters 37 = .ok (.iaload, 1) := by decide +kernel
theorem dX5_packLetters_38 : decode cX5_packLetters 38 = .ok (.iload_n 1, 1) := by decide +kernel
theorem dX5_packLetters_39 : decode cX5_packLetters 39 = .ok (.if_icmp .ne 112, 3) := by decide +kernel
theorem dX5_packLetters_42 : decode cX5_packLetters 42 = .ok (.aload_n 0, 1) := by decide +kernel
theorem dX5_packLetters_43 : decode cX5_packLetters 43 = .ok (.getfield 15, 3) := by decide +kernel
theorem dX5_packLetters_46 : decode cX5_packLetters 46 = .ok (.getfield 168, 3) := by decide +kernel
theorem dX5_packLetters_49 : decode cX5_packLetters 49 = .ok (.iload 7, 2) := by decide +kernel
theorem dX5_packLetters_51 : decode cX5_packLetters 51 = .ok (.iaload, 1) := by decide +kernel
theorem dX5_packLetters_52 : decode cX5_packLetters 52 = .ok (.iload 6, 2) := by decide +kernel
theorem dX5_packLetters_54 : decode cX5_packLetters 54 = .ok (.if_icmp .eq 6, 3) := by decide +kernel
theorem dX5_packLetters_57 : decode cX5_packLetters 57 = .ok (.goto 94, 3) := by decide +kernel
theorem dX5_packLetters_60 : decode cX5_packLetters 60 = .ok (.aload_n 0, 1) := by decide +kernel
theorem dX5_packLetters_61 : decode cX5_packLetters 61 = .ok (.getfield 19, 3) := by decide +kernel
theorem dX5_packLetters_64 : decode cX5_packLetters 64 = .ok (.getfield 42, 3) := by decide +kernel
theorem dX5_packLetters_67 : decode cX5_packLetters 67 = .ok (.iload 7, 2) := by decide +kernel
theorem dX5_packLetters_69 : decode cX5_packLetters 69 = .ok (.iaload, 1) := by decide +kernel
theorem dX5_packLetters_70 : decode cX5_packLetters 70 = .ok (.iload 5, 2) := by decide +kernel
theorem dX5_packLetters_72 : decode cX5_packLetters 72 = .ok (.invokestatic 100, 3) := by decide +kernel
theorem dX5_packLetters_75 : decode cX5_packLetters 75 = .ok (.istore 8, 2) := by decide +kernel
theorem dX5_packLetters_77 : decode cX5_packLetters 77 = .ok (.iload 4, 2) := by decide +kernel
theorem dX5_packLetters_79 : decode cX5_packLetters 79 = .ok (.ifCond .eq 35, 3) := by decide +kernel
theorem dX5_packLetters_82 : decode cX5_packLetters 82 = .ok (.iload 8, 2) := by decide +kernel
theorem dX5_packLetters_84 : decode cX5_packLetters 84 = .ok (.aload_n 0, 1) := by decide +kernel
theorem dX5_packLetters_85 : decode cX5_packLetters 85 = .ok (.getfield 19, 3) := by decide +kernel
theorem dX5_packLetters_88 : decode cX5_packLetters 88 = .ok (.getfield 91, 3) := by decide +kernel
theorem dX5_packLetters_91 : decode cX5_packLetters 91 = .ok (.iload 7, 2) := by decide +kernel
theorem dX5_packLetters_93 : decode cX5_packLetters 93 = .ok (.iaload, 1) := by decide +kernel
theorem dX5_packLetters_94 : decode cX5_packLetters 94 = .ok (.invokestatic 100, 3) := by decide +kernel
theorem dX5_packLetters_97 : decode cX5_packLetters 97 = .ok (.istore 8, 2) := by decide +kernel
theorem dX5_packLetters_99 : decode cX5_packLetters 99 = .ok (.aload_n 0, 1) := by decide +kernel
theorem dX5_packLetters_100 : decode cX5_packLetters 100 = .ok (.getfield 19, 3) := by decide +kernel
theorem dX5_packLetters_103 : decode cX5_packLetters 103 = .ok (.getfield 91, 3) := by decide +kernel
theorem dX5_packLetters_106 : decode cX5_packLetters 106 = .ok (.iload 7, 2) := by decide +kernel
theorem dX5_packLetters_108 : decode cX5_packLetters 108 = .ok (.dup2, 1) := by decide +kernel
theorem dX5_packLetters_109 : decode cX5_packLetters 109 = .ok (.iaload, 1) := by decide +kernel
theorem dX5_packLetters_110 : decode cX5_packLetters 110 = .ok (.iload 8, 2) := by decide +kernel
theorem dX5_packLetters_112 : decode cX5_packLetters 112 = .ok (.isub, 1) := by decide +kernel
theorem dX5_packLetters_113 : decode cX5_packLetters 113 = .ok (.iastore, 1) := by decide +kernel
theorem dX5_packLetters_114 : decode cX5_packLetters 114 = .ok (.aload_n 0, 1) := by decide +kernel
theorem dX5_packLetters_115 : decode cX5_packLetters 115 = .ok (.getfield 19, 3) := by decide +kernel
theorem dX5_packLetters_118 : decode cX5_packLetters 118 = .ok (.getfield 42, 3) := by decide +kernel
theorem dX5_packLetters_121 : decode cX5_packLetters 121 = .ok (.iload 7, 2) := by decide +kernel
theorem dX5_packLetters_123 : decode cX5_packLetters 123 = .ok (.dup2, 1) := by decide +kernel
theorem dX5_packLetters_124 : decode cX5_packLetters 124 = .ok (.iaload, 1) := by decide +kernel
theorem dX5_packLetters_125 : decode cX5_packLetters 125 = .ok (.iload 8, 2) := by decide +kernel
theorem dX5_packLetters_127 : decode cX5_packLetters 127 = .ok (.isub, 1) := by decide +kernel
theorem dX5_packLetters_128 : decode cX5_packLetters 128 = .ok (.iastore, 1) := by decide +kernel
theorem dX5_packLetters_129 : decode cX5_packLetters 129 = .ok (.aload_n 0, 1) := by decide +kernel
theorem dX5_packLetters_130 : decode cX5_packLetters 130 = .ok (.getfield 19, 3) := by decide +kernel
theorem dX5_packLetters_133 : decode cX5_packLetters 133 = .ok (.getfield 79, 3) := by decide +kernel
theorem dX5_packLetters_136 : decode cX5_packLetters 136 = .ok (.iload_n 2, 1) := by decide +kernel
theorem dX5_packLetters_137 : decode cX5_packLetters 137 = .ok (.iload 7, 2) := by decide +kernel
theorem dX5_packLetters_139 : decode cX5_packLetters 139 = .ok (.iload 8, 2) := by decide +kernel
theorem dX5_packLetters_141 : decode cX5_packLetters 141 = .ok (.invokevirtual 171, 3) := by decide +kernel
theorem dX5_packLetters_144 : decode cX5_packLetters 144 = .ok (.iload 5, 2) := by decide +kernel
theorem dX5_packLetters_146 : decode cX5_packLetters 146 = .ok (.iload 8, 2) := by decide +kernel
theorem dX5_packLetters_148 : decode cX5_packLetters 148 = .ok (.isub, 1) := by decide +kernel
theorem dX5_packLetters_149 : decode cX5_packLetters 149 = .ok (.istore 5, 2) := by decide +kernel
theorem dX5_packLetters_151 : decode cX5_packLetters 151 = .ok (.iinc 7 1, 3) := by decide +kernel
theorem dX5_packLetters_154 : decode cX5_packLetters 154 = .ok (.goto (-138), 3) := by decide +kernel
theorem dX5_packLetters_157 : decode cX5_packLetters 157 = .ok (.iinc 6 1, 3) := by decide +kernel
theorem dX5_packLetters_160 : decode cX5_packLetters 160 = .ok (.goto (-154), 3) := by decide +kernel
theorem dX5_packLetters_163 : decode cX5_packLetters 163 = .ok (.iload 5, 2) := by decide +kernel
theorem dX5_packLetters_165 : decode cX5_packLetters 165 = .ok (.ireturn, 1) := by decide +kernel
set_option maxRecDepth 20000 in
theorem ggX5_send_X0_countSending : GoodIn wsX5_send wsX0_countSending := goodIn_r _ [19, 20, 79, 80, 81, 82, 83, 84] (by decide +kernel) (by decide +kernel)
set_option maxRecDepth 20000 in
theorem gX5_send_X0_countSending : GoodIn wsX5_send (wsV RX5 175 RX0 yX0_countSending wsX0_countSending) := goodIn_app (goodIn_of _ (by decide +kernel)) ggX5_send_X0_countSending
set_option maxRecDepth 20000 in
theorem ggX5_send_X4_isDeaf : GoodIn wsX5_send wsX4_isDeaf := goodIn_r _ [25, 26, 53, 54, 55, 56, 57, 58, 59, 60, 61, 62, 63, 64, 65, 66, 67] (by decide +kernel) (by decide +kernel)
set_option maxRecDepth 20000 in
theorem gX5_send_X4_isDeaf : GoodIn wsX5_send (wsV RX5 178 RX4 yX4_isDeaf wsX4_isDeaf) := goodIn_app (goodIn_of _ (by decide +kernel)) ggX5_send_X4_isDeaf
set_option maxRecDepth 20000 in
theorem ggX5_send_X0_reportOf : GoodIn wsX5_send wsX0_reportOf := goodIn_r _ [30, 31, 79, 80, 81, 82, 83, 84] (by decide +kernel) (by decide +kernel)
set_option maxRecDepth 20000 in
theorem gX5_send_X0_reportOf : GoodIn wsX5_send (wsV RX5 181 RX0 yX0_reportOf wsX0_reportOf) := goodIn_app (goodIn_of _ (by decide +kernel)) ggX5_send_X0_reportOf
set_option maxRecDepth 20000 in
theorem ggX5_send_X0_allLetters : GoodIn wsX5_send wsX0_allLetters := goodIn_r _ [35, 36, 79, 80, 81, 82, 83, 84] (by decide +kernel) (by decide +kernel)
set_option maxRecDepth 20000 in
theorem gX5_send_X0_allLetters : GoodIn wsX5_send (wsV RX5 184 RX0 yX0_allLetters wsX0_allLetters) := goodIn_app (goodIn_of _ (by decide +kernel)) ggX5_send_X0_allLetters
set_option maxRecDepth 20000 in
theorem ggX5_send_X0_addLettersTo : GoodIn wsX5_send wsX0_addLettersTo := goodIn_r _ [40, 36, 79, 80, 81, 82, 83, 84] (by decide +kernel) (by decide +kernel)
set_option maxRecDepth 20000 in
theorem gX5_send_X0_addLettersTo : GoodIn wsX5_send (wsV RX5 190 RX0 yX0_addLettersTo wsX0_addLettersTo) := goodIn_app (goodIn_of _ (by decide +kernel)) ggX5_send_X0_addLettersTo
set_option maxRecDepth 20000 in
theorem ggX5_send_X0_markGone : GoodIn wsX5_send wsX0_markGone := goodIn_r _ [44, 45, 79, 80, 81, 82, 83, 84] (by decide +kernel) (by decide +kernel)
set_option maxRecDepth 20000 in
theorem gX5_send_X0_markGone : GoodIn wsX5_send (wsV RX5 194 RX0 yX0_markGone wsX0_markGone) := goodIn_app (goodIn_of _ (by decide +kernel)) ggX5_send_X0_markGone
set_option maxRecDepth 20000 in
theorem ggX5_send_X0_putDue : GoodIn wsX5_send wsX0_putDue := goodIn_r _ [49, 45, 79, 80, 81, 82, 83, 84] (by decide +kernel) (by decide +kernel)
set_option maxRecDepth 20000 in
theorem gX5_send_X0_putDue : GoodIn wsX5_send (wsV RX5 204 RX0 yX0_putDue wsX0_putDue) := goodIn_app (goodIn_of _ (by decide +kernel)) ggX5_send_X0_putDue
theorem dX5_send_0 : decode cX5_send 0 = .ok (.aload_n 0, 1) := by decide +kernel
theorem dX5_send_1 : decode cX5_send 1 = .ok (.getfield 19, 3) := by decide +kernel
theorem dX5_send_4 : decode cX5_send 4 = .ok (.getfield 79, 3) := by decide +kernel
theorem dX5_send_7 : decode cX5_send 7 = .ok (.astore_n 3, 1) := by decide +kernel
theorem dX5_send_8 : decode cX5_send 8 = .ok (.aload_n 3, 1) := by decide +kernel
theorem dX5_send_9 : decode cX5_send 9 = .ok (.iload_n 1, 1) := by decide +kernel
theorem dX5_send_10 : decode cX5_send 10 = .ok (.invokevirtual 175, 3) := by decide +kernel
theorem dX5_send_13 : decode cX5_send 13 = .ok (.istore 4, 2) := by decide +kernel
theorem dX5_send_15 : decode cX5_send 15 = .ok (.aload_n 0, 1) := by decide +kernel
theorem dX5_send_16 : decode cX5_send 16 = .ok (.getfield 19, 3) := by decide +kernel
theorem dX5_send_19 : decode cX5_send 19 = .ok (.iload_n 2, 1) := by decide +kernel
theorem dX5_send_20 : decode cX5_send 20 = .ok (.aload_n 0, 1) := by decide +kernel
theorem dX5_send_21 : decode cX5_send 21 = .ok (.getfield 19, 3) := by decide +kernel
theorem dX5_send_24 : decode cX5_send 24 = .ok (.getfield 88, 3) := by decide +kernel
theorem dX5_send_27 : decode cX5_send 27 = .ok (.invokevirtual 178, 3) := by decide +kernel
theorem dX5_send_30 : decode cX5_send 30 = .ok (.ifCond .ne 74, 3) := by decide +kernel
theorem dX5_send_33 : decode cX5_send 33 = .ok (.aload_n 3, 1) := by decide +kernel
theorem dX5_send_34 : decode cX5_send 34 = .ok (.iload_n 1, 1) := by decide +kernel
theorem dX5_send_35 : decode cX5_send 35 = .ok (.invokevirtual 181, 3) := by decide +kernel
theorem dX5_send_38 : decode cX5_send 38 = .ok (.istore 5, 2) := by decide +kernel
theorem dX5_send_40 : decode cX5_send 40 = .ok (.iconst 0, 1) := by decide +kernel
theorem dX5_send_41 : decode cX5_send 41 = .ok (.aload_n 0, 1) := by decide +kernel
theorem dX5_send_42 : decode cX5_send 42 = .ok (.getfield 19, 3) := by decide +kernel
theorem dX5_send_45 : decode cX5_send 45 = .ok (.getfield 143, 3) := by decide +kernel
theorem dX5_send_48 : decode cX5_send 48 = .ok (.iload_n 2, 1) := by decide +kernel
theorem dX5_send_49 : decode cX5_send 49 = .ok (.iaload, 1) := by decide +kernel
theorem dX5_send_50 : decode cX5_send 50 = .ok (.aload_n 3, 1) := by decide +kernel
theorem dX5_send_51 : decode cX5_send 51 = .ok (.iload_n 1, 1) := by decide +kernel
theorem dX5_send_52 : decode cX5_send 52 = .ok (.invokevirtual 184, 3) := by decide +kernel
theorem dX5_send_55 : decode cX5_send 55 = .ok (.isub, 1) := by decide +kernel
theorem dX5_send_56 : decode cX5_send 56 = .ok (.invokestatic 133, 3) := by decide +kernel
theorem dX5_send_59 : decode cX5_send 59 = .ok (.istore 6, 2) := by decide +kernel
theorem dX5_send_61 : decode cX5_send 61 = .ok (.aload_n 0, 1) := by decide +kernel
theorem dX5_send_62 : decode cX5_send 62 = .ok (.getfield 19, 3) := by decide +kernel
theorem dX5_send_65 : decode cX5_send 65 = .ok (.getfield 143, 3) := by decide +kernel
theorem dX5_send_68 : decode cX5_send 68 = .ok (.iload_n 2, 1) := by decide +kernel
theorem dX5_send_69 : decode cX5_send 69 = .ok (.iload 5, 2) := by decide +kernel
theorem dX5_send_71 : decode cX5_send 71 = .ok (.bipush (-9), 2) := by decide +kernel
theorem dX5_send_73 : decode cX5_send 73 = .ok (.if_icmp .ne 8, 3) := by decide +kernel
theorem dX5_send_76 : decode cX5_send 76 = .ok (.iload 6, 2) := by decide +kernel
theorem dX5_send_78 : decode cX5_send 78 = .ok (.goto 5, 3) := by decide +kernel
theorem dX5_send_81 : decode cX5_send 81 = .ok (.iload 5, 2) := by decide +kernel
theorem dX5_send_83 : decode cX5_send 83 = .ok (.iastore, 1) := by decide +kernel
theorem dX5_send_84 : decode cX5_send 84 = .ok (.aload_n 3, 1) := by decide +kernel
theorem dX5_send_85 : decode cX5_send 85 = .ok (.aload_n 0, 1) := by decide +kernel
theorem dX5_send_86 : decode cX5_send 86 = .ok (.getfield 19, 3) := by decide +kernel
theorem dX5_send_89 : decode cX5_send 89 = .ok (.getfield 187, 3) := by decide +kernel
theorem dX5_send_92 : decode cX5_send 92 = .ok (.iload_n 1, 1) := by decide +kernel
theorem dX5_send_93 : decode cX5_send 93 = .ok (.invokevirtual 190, 3) := by decide +kernel
theorem dX5_send_96 : decode cX5_send 96 = .ok (.aload_n 3, 1) := by decide +kernel
theorem dX5_send_97 : decode cX5_send 97 = .ok (.iload_n 1, 1) := by decide +kernel
theorem dX5_send_98 : decode cX5_send 98 = .ok (.invokevirtual 194, 3) := by decide +kernel
theorem dX5_send_101 : decode cX5_send 101 = .ok (.goto 65, 3) := by decide +kernel
theorem dX5_send_104 : decode cX5_send 104 = .ok (.iload 4, 2) := by decide +kernel
theorem dX5_send_106 : decode cX5_send 106 = .ok (.aload_n 0, 1) := by decide +kernel
theorem dX5_send_107 : decode cX5_send 107 = .ok (.getfield 15, 3) := by decide +kernel
theorem dX5_send_110 : decode cX5_send 110 = .ok (.getfield 198, 3) := by decide +kernel
theorem dX5_send_113 : decode cX5_send 113 = .ok (.if_icmp .ge 26, 3) := by decide +kernel
theorem dX5_send_116 : decode cX5_send 116 = .ok (.aload_n 3, 1) := by decide +kernel
theorem dX5_send_117 : decode cX5_send 117 = .ok (.iload_n 1, 1) := by decide +kernel
theorem dX5_send_118 : decode cX5_send 118 = .ok (.aload_n 0, 1) := by decide +kernel
theorem dX5_send_119 : decode cX5_send 119 = .ok (.getfield 19, 3) := by decide +kernel
theorem dX5_send_122 : decode cX5_send 122 = .ok (.getfield 88, 3) := by decide +kernel
theorem dX5_send_125 : decode cX5_send 125 = .ok (.aload_n 0, 1) := by decide +kernel
theorem dX5_send_126 : decode cX5_send 126 = .ok (.getfield 15, 3) := by decide +kernel
theorem dX5_send_129 : decode cX5_send 129 = .ok (.getfield 201, 3) := by decide +kernel
theorem dX5_send_132 : decode cX5_send 132 = .ok (.iadd, 1) := by decide +kernel
theorem dX5_send_133 : decode cX5_send 133 = .ok (.invokevirtual 204, 3) := by decide +kernel
theorem dX5_send_136 : decode cX5_send 136 = .ok (.goto 30, 3) := by decide +kernel
theorem dX5_send_139 : decode cX5_send 139 = .ok (.aload_n 0, 1) := by decide +kernel
theorem dX5_send_140 : decode cX5_send 140 = .ok (.getfield 19, 3) := by decide +kernel
theorem dX5_send_143 : decode cX5_send 143 = .ok (.getfield 37, 3) := by decide +kernel
theorem dX5_send_146 : decode cX5_send 146 = .ok (.iload_n 2, 1) := by decide +kernel
theorem dX5_send_147 : decode cX5_send 147 = .ok (.iconst 1, 1) := by decide +kernel
theorem dX5_send_148 : decode cX5_send 148 = .ok (.iastore, 1) := by decide +kernel
theorem dX5_send_149 : decode cX5_send 149 = .ok (.aload_n 3, 1) := by decide +kernel
theorem dX5_send_150 : decode cX5_send 150 = .ok (.aload_n 0, 1) := by decide +kernel
theorem dX5_send_151 : decode cX5_send 151 = .ok (.getfield 19, 3) := by decide +kernel
theorem dX5_send_154 : decode cX5_send 154 = .ok (.getfield 207, 3) := by decide +kernel
theorem dX5_send_157 : decode cX5_send 157 = .ok (.iload_n 1, 1) := by decide +kernel
theorem dX5_send_158 : decode cX5_send 158 = .ok (.invokevirtual 190, 3) := by decide +kernel
theorem dX5_send_161 : decode cX5_send 161 = .ok (.aload_n 3, 1) := by decide +kernel
theorem dX5_send_162 : decode cX5_send 162 = .ok (.iload_n 1, 1) := by decide +kernel
theorem dX5_send_163 : decode cX5_send 163 = .ok (.invokevirtual 194, 3) := by decide +kernel
theorem dX5_send_166 : decode cX5_send 166 = .ok (.return_, 1) := by decide +kernel
end
section
theorem dX6_init_0 : decode cX6_init 0 = .ok (.aload_n 0, 1) := by decide +kernel
theorem dX6_init_1 : decode cX6_init 1 = .ok (.invokespecial 3, 3) := by decide +kernel
theorem dX6_init_4 : decode cX6_init 4 = .ok (.aload_n 0, 1) := by decide +kernel
theorem dX6_init_5 : decode cX6_init 5 = .ok (.bipush 120, 2) := by decide +kernel
theorem dX6_init_7 : decode cX6_init 7 = .ok (.newarray .char, 2) := by decide +kernel
theorem dX6_init_9 : decode cX6_init 9 = .ok (.putfield 9, 3) := by decide +kernel
theorem dX6_init_12 : decode cX6_init 12 = .ok (.aload_n 0, 1) := by decide +kernel
theorem dX6_init_13 : decode cX6_init 13 = .ok (.iconst 0, 1) := by decide +kernel
theorem dX6_init_14 : decode cX6_init 14 = .ok (.putfield 15, 3) := by decide +kernel
theorem dX6_init_17 : decode cX6_init 17 = .ok (.return_, 1) := by decide +kernel
theorem dX6_add_0 : decode cX6_add 0 = .ok (.aload_n 0, 1) := by decide +kernel
theorem dX6_add_1 : decode cX6_add 1 = .ok (.getfield 15, 3) := by decide +kernel
theorem dX6_add_4 : decode cX6_add 4 = .ok (.bipush 120, 2) := by decide +kernel
theorem dX6_add_6 : decode cX6_add 6 = .ok (.if_icmp .lt 5, 3) := by decide +kernel
theorem dX6_add_9 : decode cX6_add 9 = .ok (.iconst 0, 1) := by decide +kernel
theorem dX6_add_10 : decode cX6_add 10 = .ok (.ireturn, 1) := by decide +kernel
theorem dX6_add_11 : decode cX6_add 11 = .ok (.aload_n 0, 1) := by decide +kernel
theorem dX6_add_12 : decode cX6_add 12 = .ok (.getfield 9, 3) := by decide +kernel
theorem dX6_add_15 : decode cX6_add 15 = .ok (.aload_n 0, 1) := by decide +kernel
theorem dX6_add_16 : decode cX6_add 16 = .ok (.getfield 15, 3) := by decide +kernel
theorem dX6_add_19 : decode cX6_add 19 = .ok (.iload_n 1, 1) := by decide +kernel
theorem dX6_add_20 : decode cX6_add 20 = .ok (.i2c, 1) := by decide +kernel
theorem dX6_add_21 : decode cX6_add 21 = .ok (.castore, 1) := by decide +kernel
theorem dX6_add_22 : decode cX6_add 22 = .ok (.aload_n 0, 1) := by decide +kernel
theorem dX6_add_23 : decode cX6_add 23 = .ok (.dup, 1) := by decide +kernel
theorem dX6_add_24 : decode cX6_add 24 = .ok (.getfield 15, 3) := by decide +kernel
theorem dX6_add_27 : decode cX6_add 27 = .ok (.iconst 1, 1) := by decide +kernel
theorem dX6_add_28 : decode cX6_add 28 = .ok (.iadd, 1) := by decide +kernel
theorem dX6_add_29 : decode cX6_add 29 = .ok (.putfield 15, 3) := by decide +kernel
theorem dX6_add_32 : decode cX6_add 32 = .ok (.iconst 1, 1) := by decide +kernel
theorem dX6_add_33 : decode cX6_add 33 = .ok (.ireturn, 1) := by decide +kernel
theorem dX6_empty_0 : decode cX6_empty 0 = .ok (.aload_n 0, 1) := by decide +kernel
theorem dX6_empty_1 : decode cX6_empty 1 = .ok (.getfield 15, 3) := by decide +kernel
theorem dX6_empty_4 : decode cX6_empty 4 = .ok (.istore_n 1, 1) := by decide +kernel
theorem dX6_empty_5 : decode cX6_empty 5 = .ok (.aload_n 0, 1) := by decide +kernel
theorem dX6_empty_6 : decode cX6_empty 6 = .ok (.iconst 0, 1) := by decide +kernel
theorem dX6_empty_7 : decode cX6_empty 7 = .ok (.putfield 15, 3) := by decide +kernel
theorem dX6_empty_10 : decode cX6_empty 10 = .ok (.iload_n 1, 1) := by decide +kernel
theorem dX6_empty_11 : decode cX6_empty 11 = .ok (.ireturn, 1) := by decide +kernel
set_option maxRecDepth 20000 in
theorem ggX6_readInto_X3_begin : GoodIn wsX6_readInto wsX3_begin := goodIn_r _ [8, 9, 10, 11, 12, 13, 14, 86, 87, 88, 89, 90, 91, 92, 93, 94, 95, 96] (by decide +kernel) (by decide +kernel)
set_option maxRecDepth 20000 in
theorem gX6_readInto_X3_begin : GoodIn wsX6_readInto (wsV RX6 19 RX3 yX3_begin wsX3_begin) := goodIn_app (goodIn_of _ (by decide +kernel)) ggX6_readInto_X3_begin
set_option maxRecDepth 20000 in
theorem ggX6_readInto_X6_nextToken : GoodIn wsX6_readInto wsX6_nextToken := goodIn_r _ [19, 1, 20, 3, 2, 21, 22, 23, 18, 24, 25, 26, 27, 28, 29, 30, 31, 32, 33, 34, 35, 36, 37, 38, 39, 40, 80, 81, 82, 83, 84, 85] (by decide +kernel) (by decide +kernel)
set_option maxRecDepth 20000 in
theorem gX6_readInto_X6_nextToken : GoodIn wsX6_readInto (wsV RX6 27 RX6 yX6_nextToken wsX6_nextToken) := goodIn_app (goodIn_of _ (by decide +kernel)) ggX6_readInto_X6_nextToken
set_option maxRecDepth 20000 in
theorem ggX6_readInto_X6_readTerminal : GoodIn wsX6_readInto wsX6_readTerminal := goodIn_r _ [44, 45, 46, 33, 47, 48, 49, 18, 50, 2, 15, 16, 17, 19, 1, 20, 3, 21, 22, 23, 24, 25, 26, 27, 28, 29, 30, 31, 32, 34, 35, 36, 37, 38, 39, 40, 86, 87, 88, 89, 90, 91, 92, 93, 94, 95, 96, 80, 81, 82, 83, 84, 85] (by decide +kernel) (by decide +kernel)
set_option maxRecDepth 20000 in
theorem gX6_readInto_X6_readTerminal : GoodIn wsX6_readInto (wsV RX6 33 RX6 yX6_readTerminal wsX6_readTerminal) := goodIn_app (goodIn_of _ (by decide +kernel)) ggX6_readInto_X6_readTerminal
set_option maxRecDepth 20000 in
theorem ggX6_readInto_X6_readClass : GoodIn wsX6_readInto wsX6_readClass := goodIn_r _ [54, 55, 45, 56, 33, 57, 58, 59, 47, 48, 49, 18, 50, 2, 15, 16, 17, 19, 1, 20, 3, 21, 22, 23, 24, 25, 26, 27, 28, 29, 30, 31, 32, 34, 35, 36, 37, 38, 39, 40, 86, 87, 88, 89, 90, 91, 92, 93, 94, 95, 96, 80, 81, 82, 83, 84, 85] (by decide +kernel) (by decide +kernel)
set_option maxRecDepth 20000 in
theorem gX6_readInto_X6_readClass : GoodIn wsX6_readInto (wsV RX6 37 RX6 yX6_readClass wsX6_readClass) := goodIn_app (goodIn_of _ (by decide +kernel)) ggX6_readInto_X6_readClass
set_option maxRecDepth 20000 in
theorem ggX6_readInto_X6_readRoom : GoodIn wsX6_readInto wsX6_readRoom := goodIn_r _ [63, 33, 64, 47, 48, 49, 18, 50, 2, 15, 16, 17, 19, 1, 20, 3, 21, 22, 23, 24, 25, 26, 27, 28, 29, 30, 31, 32, 34, 35, 36, 37, 38, 39, 40, 80, 81, 82, 83, 84, 85, 86, 87, 88, 89, 90, 91, 92, 93, 94, 95, 96] (by decide +kernel) (by decide +kernel)
set_option maxRecDepth 20000 in
theorem gX6_readInto_X6_readRoom : GoodIn wsX6_readInto (wsV RX6 40 RX6 yX6_readRoom wsX6_readRoom) := goodIn_app (goodIn_of _ (by decide +kernel)) ggX6_readInto_X6_readRoom
set_option maxRecDepth 20000 in
theorem ggX6_readInto_X6_readBan : GoodIn wsX6_readInto wsX6_readBan := goodIn_r _ [68, 33, 69, 47, 48, 49, 18, 50, 2, 15, 16, 17, 19, 1, 20, 3, 21, 22, 23, 24, 25, 26, 27, 28, 29, 30, 31, 32, 34, 35, 36, 37, 38, 39, 40, 80, 81, 82, 83, 84, 85, 86, 87, 88, 89, 90, 91, 92, 93, 94, 95, 96] (by decide +kernel) (by decide +kernel)
set_option maxRecDepth 20000 in
theorem gX6_readInto_X6_readBan : GoodIn wsX6_readInto (wsV RX6 43 RX6 yX6_readBan wsX6_readBan) := goodIn_app (goodIn_of _ (by decide +kernel)) ggX6_readInto_X6_readBan
set_option maxRecDepth 20000 in
theorem ggX6_readInto_X6_readBackAndTries : GoodIn wsX6_readInto wsX6_readBackAndTries := goodIn_r _ [73, 33, 74, 75, 47, 48, 49, 18, 50, 2, 15, 16, 17, 19, 1, 20, 3, 21, 22, 23, 24, 25, 26, 27, 28, 29, 30, 31, 32, 34, 35, 36, 37, 38, 39, 40, 80, 81, 82, 83, 84, 85, 86, 87, 88, 89, 90, 91, 92, 93, 94, 95, 96] (by decide +kernel) (by decide +kernel)
set_option maxRecDepth 20000 in
theorem gX6_readInto_X6_readBackAndTries : GoodIn wsX6_readInto (wsV RX6 46 RX6 yX6_readBackAndTries wsX6_readBackAndTries) := goodIn_app (goodIn_of _ (by decide +kernel)) ggX6_readInto_X6_readBackAndTries
set_option maxRecDepth 20000 in
theorem ggX6_readInto_X6_readEnd : GoodIn wsX6_readInto wsX6_readEnd := goodIn_r _ [79, 2, 15, 16, 17, 18, 19, 1, 20, 3, 21, 22, 23, 24, 25, 26, 27, 28, 29, 30, 31, 32, 33, 34, 35, 36, 37, 38, 39, 40, 80, 81, 82, 83, 84, 85] (by decide +kernel) (by decide +kernel)
set_option maxRecDepth 20000 in
theorem gX6_readInto_X6_readEnd : GoodIn wsX6_readInto (wsV RX6 49 RX6 yX6_readEnd wsX6_readEnd) := goodIn_app (goodIn_of _ (by decide +kernel)) ggX6_readInto_X6_readEnd
theorem dX6_readInto_0 : decode cX6_readInto 0 = .ok (.aload_n 1, 1) := by decide +kernel
theorem dX6_readInto_1 : decode cX6_readInto 1 = .ok (.invokevirtual 19, 3) := by decide +kernel
theorem dX6_readInto_4 : decode cX6_readInto 4 = .ok (.aload_n 0, 1) := by decide +kernel
theorem dX6_readInto_5 : decode cX6_readInto 5 = .ok (.iconst 0, 1) := by decide +kernel
theorem dX6_readInto_6 : decode cX6_readInto 6 = .ok (.putfield 24, 3) := by decide +kernel
theorem dX6_readInto_9 : decode cX6_readInto 9 = .ok (.iconst 0, 1) := by decide +kernel
theorem dX6_readInto_10 : decode cX6_readInto 10 = .ok (.istore_n 2, 1) := by decide +kernel
theorem dX6_readInto_11 : decode cX6_readInto 11 = .ok (.iload_n 2, 1) := by decide +kernel
theorem dX6_readInto_12 : decode cX6_readInto 12 = .ok (.bipush 120, 2) := by decide +kernel
theorem dX6_readInto_14 : decode cX6_readInto 14 = .ok (.if_icmp .gt 142, 3) := by decide +kernel
theorem dX6_readInto_17 : decode cX6_readInto 17 = .ok (.aload_n 0, 1) := by decide +kernel
theorem dX6_readInto_18 : decode cX6_readInto 18 = .ok (.invokevirtual 27, 3) := by decide +kernel
theorem dX6_readInto_21 : decode cX6_readInto 21 = .ok (.iconst 0, 1) := by decide +kernel
theorem dX6_readInto_22 : decode cX6_readInto 22 = .ok (.istore_n 3, 1) := by decide +kernel
theorem dX6_readInto_23 : decode cX6_readInto 23 = .ok (.aload_n 0, 1) := by decide +kernel
theorem dX6_readInto_24 : decode cX6_readInto 24 = .ok (.getfield 30, 3) := by decide +kernel
theorem dX6_readInto_27 : decode cX6_readInto 27 = .ok (.lookupswitch 104 #[(46, 57), (98, 86), (99, 68), (114, 95), (115, 77), (116, 59)], 57) := by decide +kernel
theorem dX6_readInto_84 : decode cX6_readInto 84 = .ok (.iload_n 2, 1) := by decide +kernel
theorem dX6_readInto_85 : decode cX6_readInto 85 = .ok (.ireturn, 1) := by decide +kernel
theorem dX6_readInto_86 : decode cX6_readInto 86 = .ok (.aload_n 0, 1) := by decide +kernel
theorem dX6_readInto_87 : decode cX6_readInto 87 = .ok (.aload_n 1, 1) := by decide +kernel
theorem dX6_readInto_88 : decode cX6_readInto 88 = .ok (.invokevirtual 33, 3) := by decide +kernel
theorem dX6_readInto_91 : decode cX6_readInto 91 = .ok (.istore_n 3, 1) := by decide +kernel
theorem dX6_readInto_92 : decode cX6_readInto 92 = .ok (.goto 39, 3) := by decide +kernel
theorem dX6_readInto_95 : decode cX6_readInto 95 = .ok (.aload_n 0, 1) := by decide +kernel
theorem dX6_readInto_96 : decode cX6_readInto 96 = .ok (.aload_n 1, 1) := by decide +kernel
theorem dX6_readInto_97 : decode cX6_readInto 97 = .ok (.invokevirtual 37, 3) := by decide +kernel
theorem dX6_readInto_100 : decode cX6_readInto 100 = .ok (.istore_n 3, 1) := by decide +kernel
theorem dX6_readInto_101 : decode cX6_readInto 101 = .ok (.goto 30, 3) := by decide +kernel
theorem dX6_readInto_104 : decode cX6_readInto 104 = .ok (.aload_n 0, 1) := by decide +kernel
theorem dX6_readInto_105 : decode cX6_readInto 105 = .ok (.aload_n 1, 1) := by decide +kernel
theorem dX6_readInto_106 : decode cX6_readInto 106 = .ok (.invokevirtual 40, 3) := by decide +kernel
theorem dX6_readInto_109 : decode cX6_readInto 109 = .ok (.istore_n 3, 1) := by decide +kernel
theorem dX6_readInto_110 : decode cX6_readInto 110 = .ok (.goto 21, 3) := by decide +kernel
theorem dX6_readInto_113 : decode cX6_readInto 113 = .ok (.aload_n 0, 1) := by decide +kernel
theorem dX6_readInto_114 : decode cX6_readInto 114 = .ok (.aload_n 1, 1) := by decide +kernel
theorem dX6_readInto_115 : decode cX6_readInto 115 = .ok (.invokevirtual 43, 3) := by decide +kernel
theorem dX6_readInto_118 : decode cX6_readInto 118 = .ok (.istore_n 3, 1) := by decide +kernel
theorem dX6_readInto_119 : decode cX6_readInto 119 = .ok (.goto 12, 3) := by decide +kernel
theorem dX6_readInto_122 : decode cX6_readInto 122 = .ok (.aload_n 0, 1) := by decide +kernel
theorem dX6_readInto_123 : decode cX6_readInto 123 = .ok (.aload_n 1, 1) := by decide +kernel
theorem dX6_readInto_124 : decode cX6_readInto 124 = .ok (.invokevirtual 46, 3) := by decide +kernel
theorem dX6_readInto_127 : decode cX6_readInto 127 = .ok (.istore_n 3, 1) := by decide +kernel
theorem dX6_readInto_128 : decode cX6_readInto 128 = .ok (.goto 3, 3) := by decide +kernel
theorem dX6_readInto_131 : decode cX6_readInto 131 = .ok (.iload_n 3, 1) := by decide +kernel
theorem dX6_readInto_132 : decode cX6_readInto 132 = .ok (.ifCond .eq 10, 3) := by decide +kernel
theorem dX6_readInto_135 : decode cX6_readInto 135 = .ok (.aload_n 0, 1) := by decide +kernel
theorem dX6_readInto_136 : decode cX6_readInto 136 = .ok (.invokevirtual 49, 3) := by decide +kernel
theorem dX6_readInto_139 : decode cX6_readInto 139 = .ok (.ifCond .ne 11, 3) := by decide +kernel
theorem dX6_readInto_142 : decode cX6_readInto 142 = .ok (.bipush (-10), 2) := by decide +kernel
theorem dX6_readInto_144 : decode cX6_readInto 144 = .ok (.aload_n 0, 1) := by decide +kernel
theorem dX6_readInto_145 : decode cX6_readInto 145 = .ok (.getfield 53, 3) := by decide +kernel
theorem dX6_readInto_148 : decode cX6_readInto 148 = .ok (.isub, 1) := by decide +kernel
theorem dX6_readInto_149 : decode cX6_readInto 149 = .ok (.ireturn, 1) := by decide +kernel
theorem dX6_readInto_150 : decode cX6_readInto 150 = .ok (.iinc 2 1, 3) := by decide +kernel
theorem dX6_readInto_153 : decode cX6_readInto 153 = .ok (.goto (-142), 3) := by decide +kernel
theorem dX6_readInto_156 : decode cX6_readInto 156 = .ok (.bipush (-10), 2) := by decide +kernel
theorem dX6_readInto_158 : decode cX6_readInto 158 = .ok (.aload_n 0, 1) := by decide +kernel
theorem dX6_readInto_159 : decode cX6_readInto 159 = .ok (.getfield 53, 3) := by decide +kernel
theorem dX6_readInto_162 : decode cX6_readInto 162 = .ok (.isub, 1) := by decide +kernel
theorem dX6_readInto_163 : decode cX6_readInto 163 = .ok (.ireturn, 1) := by decide +kernel
set_option maxRecDepth 20000 in
theorem ggX6_readTerminal_X6_readNumber : GoodIn wsX6_readTerminal wsX6_readNumber := goodIn_r _ [8, 9, 3, 10, 11, 12, 7, 13, 14, 15, 16, 17, 18, 19, 20, 21, 22, 23, 24, 25, 26, 27, 28, 29, 30, 31, 32, 33, 34, 35, 47, 48, 49, 50, 51, 52] (by decide +kernel) (by decide +kernel)
set_option maxRecDepth 20000 in
theorem gX6_readTerminal_X6_readNumber : GoodIn wsX6_readTerminal (wsV RX6 59 RX6 yX6_readNumber wsX6_readNumber) := goodIn_app (goodIn_of _ (by decide +kernel)) ggX6_readTerminal_X6_readNumber
theorem dX6_readTerminal_0 : decode cX6_readTerminal 0 = .ok (.aload_n 1, 1) := by decide +kernel
theorem dX6_readTerminal_1 : decode cX6_readTerminal 1 = .ok (.getfield 56, 3) := by decide +kernel
theorem dX6_readTerminal_4 : decode cX6_readTerminal 4 = .ok (.istore_n 2, 1) := by decide +kernel
theorem dX6_readTerminal_5 : decode cX6_readTerminal 5 = .ok (.iload_n 2, 1) := by decide +kernel
theorem dX6_readTerminal_6 : decode cX6_readTerminal 6 = .ok (.iconst 3, 1) := by decide +kernel
theorem dX6_readTerminal_7 : decode cX6_readTerminal 7 = .ok (.if_icmp .ge 13, 3) := by decide +kernel
theorem dX6_readTerminal_10 : decode cX6_readTerminal 10 = .ok (.aload_n 0, 1) := by decide +kernel
theorem dX6_readTerminal_11 : decode cX6_readTerminal 11 = .ok (.iconst 1, 1) := by decide +kernel
theorem dX6_readTerminal_12 : decode cX6_readTerminal 12 = .ok (.bipush 9, 2) := by decide +kernel
theorem dX6_readTerminal_14 : decode cX6_readTerminal 14 = .ok (.invokevirtual 59, 3) := by decide +kernel
theorem dX6_readTerminal_17 : decode cX6_readTerminal 17 = .ok (.ifCond .ne 5, 3) := by decide +kernel
theorem dX6_readTerminal_20 : decode cX6_readTerminal 20 = .ok (.iconst 0, 1) := by decide +kernel
theorem dX6_readTerminal_21 : decode cX6_readTerminal 21 = .ok (.ireturn, 1) := by decide +kernel
theorem dX6_readTerminal_22 : decode cX6_readTerminal 22 = .ok (.aload_n 1, 1) := by decide +kernel
theorem dX6_readTerminal_23 : decode cX6_readTerminal 23 = .ok (.getfield 63, 3) := by decide +kernel
theorem dX6_readTerminal_26 : decode cX6_readTerminal 26 = .ok (.iload_n 2, 1) := by decide +kernel
theorem dX6_readTerminal_27 : decode cX6_readTerminal 27 = .ok (.aload_n 0, 1) := by decide +kernel
theorem dX6_readTerminal_28 : decode cX6_readTerminal 28 = .ok (.getfield 67, 3) := by decide +kernel
theorem dX6_readTerminal_31 : decode cX6_readTerminal 31 = .ok (.iastore, 1) := by decide +kernel
theorem dX6_readTerminal_32 : decode cX6_readTerminal 32 = .ok (.aload_n 1, 1) := by decide +kernel
theorem dX6_readTerminal_33 : decode cX6_readTerminal 33 = .ok (.iload_n 2, 1) := by decide +kernel
theorem dX6_readTerminal_34 : decode cX6_readTerminal 34 = .ok (.iconst 1, 1) := by decide +kernel
theorem dX6_readTerminal_35 : decode cX6_readTerminal 35 = .ok (.iadd, 1) := by decide +kernel
theorem dX6_readTerminal_36 : decode cX6_readTerminal 36 = .ok (.putfield 56, 3) := by decide +kernel
theorem dX6_readTerminal_39 : decode cX6_readTerminal 39 = .ok (.iconst 1, 1) := by decide +kernel
theorem dX6_readTerminal_40 : decode cX6_readTerminal 40 = .ok (.ireturn, 1) := by decide +kernel
set_option maxRecDepth 20000 in
theorem ggX6_readClass_X6_readNumber : GoodIn wsX6_readClass wsX6_readNumber := goodIn_r _ [12, 13, 4, 14, 15, 16, 11, 17, 18, 19, 20, 21, 22, 23, 24, 25, 26, 27, 28, 29, 30, 31, 32, 33, 34, 35, 36, 37, 38, 39, 51, 52, 53, 54, 55, 56] (by decide +kernel) (by decide +kernel)
set_option maxRecDepth 20000 in
theorem gX6_readClass_X6_readNumber : GoodIn wsX6_readClass (wsV RX6 59 RX6 yX6_readNumber wsX6_readNumber) := goodIn_app (goodIn_of _ (by decide +kernel)) ggX6_readClass_X6_readNumber
theorem dX6_readClass_0 : decode cX6_readClass 0 = .ok (.aload_n 1, 1) := by decide +kernel
theorem dX6_readClass_1 : decode cX6_readClass 1 = .ok (.getfield 70, 3) := by decide +kernel
theorem dX6_readClass_4 : decode cX6_readClass 4 = .ok (.istore_n 2, 1) := by decide +kernel
theorem dX6_readClass_5 : decode cX6_readClass 5 = .ok (.iload_n 2, 1) := by decide +kernel
theorem dX6_readClass_6 : decode cX6_readClass 6 = .ok (.bipush 6, 2) := by decide +kernel
theorem dX6_readClass_8 : decode cX6_readClass 8 = .ok (.if_icmp .ge 17, 3) := by decide +kernel
theorem dX6_readClass_11 : decode cX6_readClass 11 = .ok (.aload_n 0, 1) := by decide +kernel
theorem dX6_readClass_12 : decode cX6_readClass 12 = .ok (.iconst 0, 1) := by decide +kernel
theorem dX6_readClass_13 : decode cX6_readClass 13 = .ok (.aload_n 1, 1) := by decide +kernel
theorem dX6_readClass_14 : decode cX6_readClass 14 = .ok (.getfield 56, 3) := by decide +kernel
theorem dX6_readClass_17 : decode cX6_readClass 17 = .ok (.iconst 1, 1) := by decide +kernel
theorem dX6_readClass_18 : decode cX6_readClass 18 = .ok (.isub, 1) := by decide +kernel
theorem dX6_readClass_19 : decode cX6_readClass 19 = .ok (.invokevirtual 59, 3) := by decide +kernel
theorem dX6_readClass_22 : decode cX6_readClass 22 = .ok (.ifCond .ne 5, 3) := by decide +kernel
theorem dX6_readClass_25 : decode cX6_readClass 25 = .ok (.iconst 0, 1) := by decide +kernel
theorem dX6_readClass_26 : decode cX6_readClass 26 = .ok (.ireturn, 1) := by decide +kernel
theorem dX6_readClass_27 : decode cX6_readClass 27 = .ok (.aload_n 1, 1) := by decide +kernel
theorem dX6_readClass_28 : decode cX6_readClass 28 = .ok (.getfield 73, 3) := by decide +kernel
theorem dX6_readClass_31 : decode cX6_readClass 31 = .ok (.iload_n 2, 1) := by decide +kernel
theorem dX6_readClass_32 : decode cX6_readClass 32 = .ok (.aload_n 0, 1) := by decide +kernel
theorem dX6_readClass_33 : decode cX6_readClass 33 = .ok (.getfield 67, 3) := by decide +kernel
theorem dX6_readClass_36 : decode cX6_readClass 36 = .ok (.iastore, 1) := by decide +kernel
theorem dX6_readClass_37 : decode cX6_readClass 37 = .ok (.aload_n 0, 1) := by decide +kernel
theorem dX6_readClass_38 : decode cX6_readClass 38 = .ok (.iconst 0, 1) := by decide +kernel
theorem dX6_readClass_39 : decode cX6_readClass 39 = .ok (.bipush 9, 2) := by decide +kernel
theorem dX6_readClass_41 : decode cX6_readClass 41 = .ok (.invokevirtual 59, 3) := by decide +kernel
theorem dX6_readClass_44 : decode cX6_readClass 44 = .ok (.ifCond .ne 5, 3) := by decide +kernel
theorem dX6_readClass_47 : decode cX6_readClass 47 = .ok (.iconst 0, 1) := by decide +kernel
theorem dX6_readClass_48 : decode cX6_readClass 48 = .ok (.ireturn, 1) := by decide +kernel
theorem dX6_readClass_49 : decode cX6_readClass 49 = .ok (.aload_n 1, 1) := by decide +kernel
theorem dX6_readClass_50 : decode cX6_readClass 50 = .ok (.getfield 76, 3) := by decide +kernel
theorem dX6_readClass_53 : decode cX6_readClass 53 = .ok (.iload_n 2, 1) := by decide +kernel
theorem dX6_readClass_54 : decode cX6_readClass 54 = .ok (.aload_n 0, 1) := by decide +kernel
theorem dX6_readClass_55 : decode cX6_readClass 55 = .ok (.getfield 67, 3) := by decide +kernel
theorem dX6_readClass_58 : decode cX6_readClass 58 = .ok (.iastore, 1) := by decide +kernel
theorem dX6_readClass_59 : decode cX6_readClass 59 = .ok (.aload_n 0, 1) := by decide +kernel
theorem dX6_readClass_60 : decode cX6_readClass 60 = .ok (.iconst 0, 1) := by decide +kernel
theorem dX6_readClass_61 : decode cX6_readClass 61 = .ok (.bipush 20, 2) := by decide +kernel
theorem dX6_readClass_63 : decode cX6_readClass 63 = .ok (.invokevirtual 59, 3) := by decide +kernel
theorem dX6_readClass_66 : decode cX6_readClass 66 = .ok (.ifCond .ne 5, 3) := by decide +kernel
theorem dX6_readClass_69 : decode cX6_readClass 69 = .ok (.iconst 0, 1) := by decide +kernel
theorem dX6_readClass_70 : decode cX6_readClass 70 = .ok (.ireturn, 1) := by decide +kernel
theorem dX6_readClass_71 : decode cX6_readClass 71 = .ok (.aload_n 1, 1) := by decide +kernel
theorem dX6_readClass_72 : decode cX6_readClass 72 = .ok (.getfield 79, 3) := by decide +kernel
theorem dX6_readClass_75 : decode cX6_readClass 75 = .ok (.iload_n 2, 1) := by decide +kernel
theorem dX6_readClass_76 : decode cX6_readClass 76 = .ok (.aload_n 0, 1) := by decide +kernel
theorem dX6_readClass_77 : decode cX6_readClass 77 = .ok (.getfield 67, 3) := by decide +kernel
theorem dX6_readClass_80 : decode cX6_readClass 80 = .ok (.iastore, 1) := by decide +kernel
theorem dX6_readClass_81 : decode cX6_readClass 81 = .ok (.aload_n 0, 1) := by decide +kernel
theorem dX6_readClass_82 : decode cX6_readClass 82 = .ok (.iconst 0, 1) := by decide +kernel
theorem dX6_readClass_83 : decode cX6_readClass 83 = .ok (.bipush 60, 2) := by decide +kernel
theorem dX6_readClass_85 : decode cX6_readClass 85 = .ok (.invokevirtual 59, 3) := by decide +kernel
theorem dX6_readClass_88 : decode cX6_readClass 88 = .ok (.ifCond .ne 5, 3) := by decide +kernel
theorem dX6_readClass_91 : decode cX6_readClass 91 = .ok (.iconst 0, 1) := by decide +kernel
theorem dX6_readClass_92 : decode cX6_readClass 92 = .ok (.ireturn, 1) := by decide +kernel
theorem dX6_readClass_93 : decode cX6_readClass 93 = .ok (.aload_n 1, 1) := by decide +kernel
theorem dX6_readClass_94 : decode cX6_readClass 94 = .ok (.getfield 82, 3) := by decide +kernel
theorem dX6_readClass_97 : decode cX6_readClass 97 = .ok (.iload_n 2, 1) := by decide +kernel
theorem dX6_readClass_98 : decode cX6_readClass 98 = .ok (.aload_n 0, 1) := by decide +kernel
theorem dX6_readClass_99 : decode cX6_readClass 99 = .ok (.getfield 67, 3) := by decide +kernel
theorem dX6_readClass_102 : decode cX6_readClass 102 = .ok (.iastore, 1) := by decide +kernel
theorem dX6_readClass_103 : decode cX6_readClass 103 = .ok (.aload_n 1, 1) := by decide +kernel
theorem dX6_readClass_104 : decode cX6_readClass 104 = .ok (.iload_n 2, 1) := by decide +kernel
theorem dX6_readClass_105 : decode cX6_readClass 105 = .ok (.iconst 1, 1) := by decide +kernel
theorem dX6_readClass_106 : decode cX6_readClass 106 = .ok (.iadd, 1) := by decide +kernel
theorem dX6_readClass_107 : decode cX6_readClass 107 = .ok (.putfield 70, 3) := by decide +kernel
theorem dX6_readClass_110 : decode cX6_readClass 110 = .ok (.iconst 1, 1) := by decide +kernel
theorem dX6_readClass_111 : decode cX6_readClass 111 = .ok (.ireturn, 1) := by decide +kernel
set_option maxRecDepth 20000 in
theorem ggX6_readRoom_X6_readNumber : GoodIn wsX6_readRoom wsX6_readNumber := goodIn_r _ [7, 8, 1, 9, 10, 11, 6, 12, 13, 14, 15, 16, 17, 18, 19, 20, 21, 22, 23, 24, 25, 26, 27, 28, 29, 30, 31, 32, 33, 34, 35, 36, 37, 38, 39, 40] (by decide +kernel) (by decide +kernel)
set_option maxRecDepth 20000 in
theorem gX6_readRoom_X6_readNumber : GoodIn wsX6_readRoom (wsV RX6 59 RX6 yX6_readNumber wsX6_readNumber) := goodIn_app (goodIn_of _ (by decide +kernel)) ggX6_readRoom_X6_readNumber
theorem dX6_readRoom_0 : decode cX6_readRoom 0 = .ok (.aload_n 0, 1) := by decide +kernel
theorem dX6_readRoom_1 : decode cX6_readRoom 1 = .ok (.iconst 0, 1) := by decide +kernel
theorem dX6_readRoom_2 : decode cX6_readRoom 2 = .ok (.bipush 60, 2) := by decide +kernel
theorem dX6_readRoom_4 : decode cX6_readRoom 4 = .ok (.invokevirtual 59, 3) := by decide +kernel
theorem dX6_readRoom_7 : decode cX6_readRoom 7 = .ok (.ifCond .ne 5, 3) := by decide +kernel
theorem dX6_readRoom_10 : decode cX6_readRoom 10 = .ok (.iconst 0, 1) := by decide +kernel
theorem dX6_readRoom_11 : decode cX6_readRoom 11 = .ok (.ireturn, 1) := by decide +kernel
theorem dX6_readRoom_12 : decode cX6_readRoom 12 = .ok (.aload_n 1, 1) := by decide +kernel
theorem dX6_readRoom_13 : decode cX6_readRoom 13 = .ok (.aload_n 0, 1) := by decide +kernel
theorem dX6_readRoom_14 : decode cX6_readRoom 14 = .ok (.getfield 67, 3) := by decide +kernel
theorem dX6_readRoom_17 : decode cX6_readRoom 17 = .ok (.putfield 85, 3) := by decide +kernel
theorem dX6_readRoom_20 : decode cX6_readRoom 20 = .ok (.iconst 1, 1) := by decide +kernel
theorem dX6_readRoom_21 : decode cX6_readRoom 21 = .ok (.ireturn, 1) := by decide +kernel
set_option maxRecDepth 20000 in
theorem ggX6_readBan_X6_readNumber : GoodIn wsX6_readBan wsX6_readNumber := goodIn_r _ [7, 8, 1, 9, 10, 11, 6, 12, 13, 14, 15, 16, 17, 18, 19, 20, 21, 22, 23, 24, 25, 26, 27, 28, 29, 30, 31, 32, 33, 34, 35, 36, 37, 38, 39, 40] (by decide +kernel) (by decide +kernel)
set_option maxRecDepth 20000 in
theorem gX6_readBan_X6_readNumber : GoodIn wsX6_readBan (wsV RX6 59 RX6 yX6_readNumber wsX6_readNumber) := goodIn_app (goodIn_of _ (by decide +kernel)) ggX6_readBan_X6_readNumber
theorem dX6_readBan_0 : decode cX6_readBan 0 = .ok (.aload_n 0, 1) := by decide +kernel
theorem dX6_readBan_1 : decode cX6_readBan 1 = .ok (.iconst 0, 1) := by decide +kernel
theorem dX6_readBan_2 : decode cX6_readBan 2 = .ok (.bipush 9, 2) := by decide +kernel
theorem dX6_readBan_4 : decode cX6_readBan 4 = .ok (.invokevirtual 59, 3) := by decide +kernel
theorem dX6_readBan_7 : decode cX6_readBan 7 = .ok (.ifCond .ne 5, 3) := by decide +kernel
theorem dX6_readBan_10 : decode cX6_readBan 10 = .ok (.iconst 0, 1) := by decide +kernel
theorem dX6_readBan_11 : decode cX6_readBan 11 = .ok (.ireturn, 1) := by decide +kernel
theorem dX6_readBan_12 : decode cX6_readBan 12 = .ok (.aload_n 1, 1) := by decide +kernel
theorem dX6_readBan_13 : decode cX6_readBan 13 = .ok (.aload_n 0, 1) := by decide +kernel
theorem dX6_readBan_14 : decode cX6_readBan 14 = .ok (.getfield 67, 3) := by decide +kernel
theorem dX6_readBan_17 : decode cX6_readBan 17 = .ok (.putfield 88, 3) := by decide +kernel
theorem dX6_readBan_20 : decode cX6_readBan 20 = .ok (.iconst 1, 1) := by decide +kernel
theorem dX6_readBan_21 : decode cX6_readBan 21 = .ok (.ireturn, 1) := by decide +kernel
set_option maxRecDepth 20000 in
theorem ggX6_readBackAndTries_X6_readNumber : GoodIn wsX6_readBackAndTries wsX6_readNumber := goodIn_r _ [8, 9, 1, 10, 11, 12, 7, 13, 14, 15, 16, 17, 18, 19, 20, 21, 22, 23, 24, 25, 26, 27, 28, 29, 30, 31, 32, 33, 34, 35, 36, 37, 38, 39, 40, 41] (by decide +kernel) (by decide +kernel)
set_option maxRecDepth 20000 in
theorem gX6_readBackAndTries_X6_readNumber : GoodIn wsX6_readBackAndTries (wsV RX6 59 RX6 yX6_readNumber wsX6_readNumber) := goodIn_app (goodIn_of _ (by decide +kernel)) ggX6_readBackAndTries_X6_readNumber
theorem dX6_readBackAndTries_0 : decode cX6_readBackAndTries 0 = .ok (.aload_n 0, 1) := by decide +kernel
theorem dX6_readBackAndTries_1 : decode cX6_readBackAndTries 1 = .ok (.iconst 1, 1) := by decide +kernel
theorem dX6_readBackAndTries_2 : decode cX6_readBackAndTries 2 = .ok (.bipush 6, 2) := by decide +kernel
theorem dX6_readBackAndTries_4 : decode cX6_readBackAndTries 4 = .ok (.invokevirtual 59, 3) := by decide +kernel
theorem dX6_readBackAndTries_7 : decode cX6_readBackAndTries 7 = .ok (.ifCond .ne 5, 3) := by decide +kernel
theorem dX6_readBackAndTries_10 : decode cX6_readBackAndTries 10 = .ok (.iconst 0, 1) := by decide +kernel
theorem dX6_readBackAndTries_11 : decode cX6_readBackAndTries 11 = .ok (.ireturn, 1) := by decide +kernel
theorem dX6_readBackAndTries_12 : decode cX6_readBackAndTries 12 = .ok (.aload_n 1, 1) := by decide +kernel
theorem dX6_readBackAndTries_13 : decode cX6_readBackAndTries 13 = .ok (.aload_n 0, 1) := by decide +kernel
theorem dX6_readBackAndTries_14 : decode cX6_readBackAndTries 14 = .ok (.getfield 67, 3) := by decide +kernel
theorem dX6_readBackAndTries_17 : decode cX6_readBackAndTries 17 = .ok (.putfield 91, 3) := by decide +kernel
theorem dX6_readBackAndTries_20 : decode cX6_readBackAndTries 20 = .ok (.aload_n 0, 1) := by decide +kernel
theorem dX6_readBackAndTries_21 : decode cX6_readBackAndTries 21 = .ok (.iconst 1, 1) := by decide +kernel
theorem dX6_readBackAndTries_22 : decode cX6_readBackAndTries 22 = .ok (.iconst 4, 1) := by decide +kernel
theorem dX6_readBackAndTries_23 : decode cX6_readBackAndTries 23 = .ok (.invokevirtual 59, 3) := by decide +kernel
theorem dX6_readBackAndTries_26 : decode cX6_readBackAndTries 26 = .ok (.ifCond .ne 5, 3) := by decide +kernel
theorem dX6_readBackAndTries_29 : decode cX6_readBackAndTries 29 = .ok (.iconst 0, 1) := by decide +kernel
theorem dX6_readBackAndTries_30 : decode cX6_readBackAndTries 30 = .ok (.ireturn, 1) := by decide +kernel
theorem dX6_readBackAndTries_31 : decode cX6_readBackAndTries 31 = .ok (.aload_n 1, 1) := by decide +kernel
theorem dX6_readBackAndTries_32 : decode cX6_readBackAndTries 32 = .ok (.aload_n 0, 1) := by decide +kernel
theorem dX6_readBackAndTries_33 : decode cX6_readBackAndTries 33 = .ok (.getfield 67, 3) := by decide +kernel
theorem dX6_readBackAndTries_36 : decode cX6_readBackAndTries 36 = .ok (.putfield 94, 3) := by decide +kernel
theorem dX6_readBackAndTries_39 : decode cX6_readBackAndTries 39 = .ok (.iconst 1, 1) := by decide +kernel
theorem dX6_readBackAndTries_40 : decode cX6_readBackAndTries 40 = .ok (.ireturn, 1) := by decide +kernel
set_option maxRecDepth 20000 in
theorem ggX6_readEnd_X6_nextToken : GoodIn wsX6_readEnd wsX6_nextToken := goodIn_r _ [6, 7, 8, 9, 1, 10, 11, 12, 5, 13, 14, 15, 16, 17, 18, 19, 20, 21, 22, 23, 24, 25, 26, 27, 28, 29, 30, 31, 32, 33, 34, 35] (by decide +kernel) (by decide +kernel)
set_option maxRecDepth 20000 in
theorem gX6_readEnd_X6_nextToken : GoodIn wsX6_readEnd (wsV RX6 27 RX6 yX6_nextToken wsX6_nextToken) := goodIn_app (goodIn_of _ (by decide +kernel)) ggX6_readEnd_X6_nextToken
theorem dX6_readEnd_0 : decode cX6_readEnd 0 = .ok (.aload_n 0, 1) := by decide +kernel
theorem dX6_readEnd_1 : decode cX6_readEnd 1 = .ok (.invokevirtual 27, 3) := by decide +kernel
theorem dX6_readEnd_4 : decode cX6_readEnd 4 = .ok (.aload_n 0, 1) := by decide +kernel
theorem dX6_readEnd_5 : decode cX6_readEnd 5 = .ok (.getfield 30, 3) := by decide +kernel
theorem dX6_readEnd_8 : decode cX6_readEnd 8 = .ok (.bipush 59, 2) := by decide +kernel
theorem dX6_readEnd_10 : decode cX6_readEnd 10 = .ok (.if_icmp .ne 7, 3) := by decide +kernel
theorem dX6_readEnd_13 : decode cX6_readEnd 13 = .ok (.iconst 1, 1) := by decide +kernel
theorem dX6_readEnd_14 : decode cX6_readEnd 14 = .ok (.goto 4, 3) := by decide +kernel
theorem dX6_readEnd_17 : decode cX6_readEnd 17 = .ok (.iconst 0, 1) := by decide +kernel
theorem dX6_readEnd_18 : decode cX6_readEnd 18 = .ok (.ireturn, 1) := by decide +kernel
set_option maxRecDepth 20000 in
theorem ggX6_readNumber_X6_nextToken : GoodIn wsX6_readNumber wsX6_nextToken := goodIn_r _ [7, 8, 9, 10, 1, 11, 12, 13, 6, 14, 15, 16, 17, 18, 19, 20, 21, 22, 2, 23, 24, 25, 26, 27, 28, 29, 30, 31, 32, 33, 34, 35] (by decide +kernel) (by decide +kernel)
set_option maxRecDepth 20000 in
theorem gX6_readNumber_X6_nextToken : GoodIn wsX6_readNumber (wsV RX6 27 RX6 yX6_nextToken wsX6_nextToken) := goodIn_app (goodIn_of _ (by decide +kernel)) ggX6_readNumber_X6_nextToken
theorem dX6_readNumber_0 : decode cX6_readNumber 0 = .ok (.aload_n 0, 1) := by decide +kernel
theorem dX6_readNumber_1 : decode cX6_readNumber 1 = .ok (.invokevirtual 27, 3) := by decide +kernel
theorem dX6_readNumber_4 : decode cX6_readNumber 4 = .ok (.aload_n 0, 1) := by decide +kernel
theorem dX6_readNumber_5 : decode cX6_readNumber 5 = .ok (.getfield 30, 3) := by decide +kernel
theorem dX6_readNumber_8 : decode cX6_readNumber 8 = .ok (.bipush 48, 2) := by decide +kernel
theorem dX6_readNumber_10 : decode cX6_readNumber 10 = .ok (.if_icmp .ne 23, 3) := by decide +kernel
theorem dX6_readNumber_13 : decode cX6_readNumber 13 = .ok (.aload_n 0, 1) := by decide +kernel
theorem dX6_readNumber_14 : decode cX6_readNumber 14 = .ok (.getfield 67, 3) := by decide +kernel
theorem dX6_readNumber_17 : decode cX6_readNumber 17 = .ok (.iload_n 1, 1) := by decide +kernel
theorem dX6_readNumber_18 : decode cX6_readNumber 18 = .ok (.if_icmp .lt 15, 3) := by decide +kernel
theorem dX6_readNumber_21 : decode cX6_readNumber 21 = .ok (.aload_n 0, 1) := by decide +kernel
theorem dX6_readNumber_22 : decode cX6_readNumber 22 = .ok (.getfield 67, 3) := by decide +kernel
theorem dX6_readNumber_25 : decode cX6_readNumber 25 = .ok (.iload_n 2, 1) := by decide +kernel
theorem dX6_readNumber_26 : decode cX6_readNumber 26 = .ok (.if_icmp .gt 7, 3) := by decide +kernel
theorem dX6_readNumber_29 : decode cX6_readNumber 29 = .ok (.iconst 1, 1) := by decide +kernel
theorem dX6_readNumber_30 : decode cX6_readNumber 30 = .ok (.goto 4, 3) := by decide +kernel
theorem dX6_readNumber_33 : decode cX6_readNumber 33 = .ok (.iconst 0, 1) := by decide +kernel
theorem dX6_readNumber_34 : decode cX6_readNumber 34 = .ok (.ireturn, 1) := by decide +kernel
set_option maxRecDepth 20000 in
theorem ggX6_nextToken_X6_letterAt : GoodIn wsX6_nextToken wsX6_letterAt := goodIn_r _ [9, 2, 10, 26, 27, 28, 29, 30, 31] (by decide +kernel) (by decide +kernel)
set_option maxRecDepth 20000 in
theorem gX6_nextToken_X6_letterAt : GoodIn wsX6_nextToken (wsV RX6 97 RX6 yX6_letterAt wsX6_letterAt) := goodIn_app (goodIn_of _ (by decide +kernel)) ggX6_nextToken_X6_letterAt
set_option maxRecDepth 20000 in
theorem ggX6_nextToken_X6_isDigit : GoodIn wsX6_nextToken wsX6_isDigit := goodIn_r _ [13] (by decide +kernel) (by decide +kernel)
set_option maxRecDepth 20000 in
theorem gX6_nextToken_X6_isDigit : GoodIn wsX6_nextToken (va_wsS RX6 101 yX6_isDigit wsX6_isDigit) := goodIn_app (goodIn_of _ (by decide +kernel)) ggX6_nextToken_X6_isDigit
set_option maxRecDepth 20000 in
theorem ggX6_nextToken_X6_nextNumber : GoodIn wsX6_nextToken wsX6_nextNumber := goodIn_r _ [17, 18, 1, 2, 3, 19, 20, 21, 22, 4, 5, 6, 7, 8, 9, 10, 11, 12, 13, 26, 27, 28, 29, 30, 31] (by decide +kernel) (by decide +kernel)
set_option maxRecDepth 20000 in
theorem gX6_nextToken_X6_nextNumber : GoodIn wsX6_nextToken (wsV RX6 105 RX6 yX6_nextNumber wsX6_nextNumber) := goodIn_app (goodIn_of _ (by decide +kernel)) ggX6_nextToken_X6_nextNumber
set_option maxRecDepth 20000 in
theorem ggX6_nextToken_X6_isSign : GoodIn wsX6_nextToken wsX6_isSign := goodIn_r _ [25] (by decide +kernel) (by decide +kernel)
set_option maxRecDepth 20000 in
theorem gX6_nextToken_X6_isSign : GoodIn wsX6_nextToken (va_wsS RX6 108 yX6_isSign wsX6_isSign) := goodIn_app (goodIn_of _ (by decide +kernel)) ggX6_nextToken_X6_isSign
theorem dX6_nextToken_0 : decode cX6_nextToken 0 = .ok (.aload_n 0, 1) := by decide +kernel
theorem dX6_nextToken_1 : decode cX6_nextToken 1 = .ok (.getfield 24, 3) := by decide +kernel
theorem dX6_nextToken_4 : decode cX6_nextToken 4 = .ok (.aload_n 0, 1) := by decide +kernel
theorem dX6_nextToken_5 : decode cX6_nextToken 5 = .ok (.getfield 15, 3) := by decide +kernel
theorem dX6_nextToken_8 : decode cX6_nextToken 8 = .ok (.if_icmp .ge 29, 3) := by decide +kernel
theorem dX6_nextToken_11 : decode cX6_nextToken 11 = .ok (.aload_n 0, 1) := by decide +kernel
theorem dX6_nextToken_12 : decode cX6_nextToken 12 = .ok (.aload_n 0, 1) := by decide +kernel
theorem dX6_nextToken_13 : decode cX6_nextToken 13 = .ok (.getfield 24, 3) := by decide +kernel
theorem dX6_nextToken_16 : decode cX6_nextToken 16 = .ok (.invokevirtual 97, 3) := by decide +kernel
theorem dX6_nextToken_19 : decode cX6_nextToken 19 = .ok (.bipush 32, 2) := by decide +kernel
theorem dX6_nextToken_21 : decode cX6_nextToken 21 = .ok (.if_icmp .ne 16, 3) := by decide +kernel
theorem dX6_nextToken_24 : decode cX6_nextToken 24 = .ok (.aload_n 0, 1) := by decide +kernel
theorem dX6_nextToken_25 : decode cX6_nextToken 25 = .ok (.dup, 1) := by decide +kernel
theorem dX6_nextToken_26 : decode cX6_nextToken 26 = .ok (.getfield 24, 3) := by decide +kernel
theorem dX6_nextToken_29 : decode cX6_nextToken 29 = .ok (.iconst 1, 1) := by decide +kernel
theorem dX6_nextToken_30 : decode cX6_nextToken 30 = .ok (.iadd, 1) := by decide +kernel
theorem dX6_nextToken_31 : decode cX6_nextToken 31 = .ok (.putfield 24, 3) := by decide +kernel
theorem dX6_nextToken_34 : decode cX6_nextToken 34 = .ok (.goto (-34), 3) := by decide +kernel
theorem dX6_nextToken_37 : decode cX6_nextToken 37 = .ok (.aload_n 0, 1) := by decide +kernel
theorem dX6_nextToken_38 : decode cX6_nextToken 38 = .ok (.aload_n 0, 1) := by decide +kernel
theorem dX6_nextToken_39 : decode cX6_nextToken 39 = .ok (.getfield 24, 3) := by decide +kernel
theorem dX6_nextToken_42 : decode cX6_nextToken 42 = .ok (.putfield 53, 3) := by decide +kernel
theorem dX6_nextToken_45 : decode cX6_nextToken 45 = .ok (.aload_n 0, 1) := by decide +kernel
theorem dX6_nextToken_46 : decode cX6_nextToken 46 = .ok (.aload_n 0, 1) := by decide +kernel
theorem dX6_nextToken_47 : decode cX6_nextToken 47 = .ok (.getfield 24, 3) := by decide +kernel
theorem dX6_nextToken_50 : decode cX6_nextToken 50 = .ok (.invokevirtual 97, 3) := by decide +kernel
theorem dX6_nextToken_53 : decode cX6_nextToken 53 = .ok (.istore_n 1, 1) := by decide +kernel
theorem dX6_nextToken_54 : decode cX6_nextToken 54 = .ok (.iload_n 1, 1) := by decide +kernel
theorem dX6_nextToken_55 : decode cX6_nextToken 55 = .ok (.invokestatic 101, 3) := by decide +kernel
theorem dX6_nextToken_58 : decode cX6_nextToken 58 = .ok (.ifCond .eq 8, 3) := by decide +kernel
theorem dX6_nextToken_61 : decode cX6_nextToken 61 = .ok (.aload_n 0, 1) := by decide +kernel
theorem dX6_nextToken_62 : decode cX6_nextToken 62 = .ok (.invokevirtual 105, 3) := by decide +kernel
theorem dX6_nextToken_65 : decode cX6_nextToken 65 = .ok (.return_, 1) := by decide +kernel
theorem dX6_nextToken_66 : decode cX6_nextToken 66 = .ok (.aload_n 0, 1) := by decide +kernel
theorem dX6_nextToken_67 : decode cX6_nextToken 67 = .ok (.getfield 24, 3) := by decide +kernel
theorem dX6_nextToken_70 : decode cX6_nextToken 70 = .ok (.aload_n 0, 1) := by decide +kernel
theorem dX6_nextToken_71 : decode cX6_nextToken 71 = .ok (.getfield 15, 3) := by decide +kernel
theorem dX6_nextToken_74 : decode cX6_nextToken 74 = .ok (.if_icmp .lt 10, 3) := by decide +kernel
theorem dX6_nextToken_77 : decode cX6_nextToken 77 = .ok (.aload_n 0, 1) := by decide +kernel
theorem dX6_nextToken_78 : decode cX6_nextToken 78 = .ok (.bipush 46, 2) := by decide +kernel
theorem dX6_nextToken_80 : decode cX6_nextToken 80 = .ok (.putfield 30, 3) := by decide +kernel
theorem dX6_nextToken_83 : decode cX6_nextToken 83 = .ok (.return_, 1) := by decide +kernel
theorem dX6_nextToken_84 : decode cX6_nextToken 84 = .ok (.aload_n 0, 1) := by decide +kernel
theorem dX6_nextToken_85 : decode cX6_nextToken 85 = .ok (.iload_n 1, 1) := by decide +kernel
theorem dX6_nextToken_86 : decode cX6_nextToken 86 = .ok (.invokestatic 108, 3) := by decide +kernel
theorem dX6_nextToken_89 : decode cX6_nextToken 89 = .ok (.ifCond .eq 7, 3) := by decide +kernel
theorem dX6_nextToken_92 : decode cX6_nextToken 92 = .ok (.iload_n 1, 1) := by decide +kernel
theorem dX6_nextToken_93 : decode cX6_nextToken 93 = .ok (.goto 5, 3) := by decide +kernel
theorem dX6_nextToken_96 : decode cX6_nextToken 96 = .ok (.bipush 63, 2) := by decide +kernel
theorem dX6_nextToken_98 : decode cX6_nextToken 98 = .ok (.putfield 30, 3) := by decide +kernel
theorem dX6_nextToken_101 : decode cX6_nextToken 101 = .ok (.aload_n 0, 1) := by decide +kernel
theorem dX6_nextToken_102 : decode cX6_nextToken 102 = .ok (.dup, 1) := by decide +kernel
theorem dX6_nextToken_103 : decode cX6_nextToken 103 = .ok (.getfield 24, 3) := by decide +kernel
theorem dX6_nextToken_106 : decode cX6_nextToken 106 = .ok (.iconst 1, 1) := by decide +kernel
theorem dX6_nextToken_107 : decode cX6_nextToken 107 = .ok (.iadd, 1) := by decide +kernel
theorem dX6_nextToken_108 : decode cX6_nextToken 108 = .ok (.putfield 24, 3) := by decide +kernel
theorem dX6_nextToken_111 : decode cX6_nextToken 111 = .ok (.return_, 1) := by decide +kernel
set_option maxRecDepth 20000 in
theorem ggX6_nextNumber_X6_letterAt : GoodIn wsX6_nextNumber wsX6_letterAt := goodIn_r _ [14, 3, 15, 19, 20, 21, 22, 23, 24] (by decide +kernel) (by decide +kernel)
set_option maxRecDepth 20000 in
theorem gX6_nextNumber_X6_letterAt : GoodIn wsX6_nextNumber (wsV RX6 97 RX6 yX6_letterAt wsX6_letterAt) := goodIn_app (goodIn_of _ (by decide +kernel)) ggX6_nextNumber_X6_letterAt
set_option maxRecDepth 20000 in
theorem ggX6_nextNumber_X6_isDigit : GoodIn wsX6_nextNumber wsX6_isDigit := goodIn_r _ [18] (by decide +kernel) (by decide +kernel)
set_option maxRecDepth 20000 in
theorem gX6_nextNumber_X6_isDigit : GoodIn wsX6_nextNumber (va_wsS RX6 101 yX6_isDigit wsX6_isDigit) := goodIn_app (goodIn_of _ (by decide +kernel)) ggX6_nextNumber_X6_isDigit
theorem dX6_nextNumber_0 : decode cX6_nextNumber 0 = .ok (.iconst 1, 1) := by decide +kernel
theorem dX6_nextNumber_1 : decode cX6_nextNumber 1 = .ok (.istore_n 1, 1) := by decide +kernel
theorem dX6_nextNumber_2 : decode cX6_nextNumber 2 = .ok (.aload_n 0, 1) := by decide +kernel
theorem dX6_nextNumber_3 : decode cX6_nextNumber 3 = .ok (.iconst 0, 1) := by decide +kernel
theorem dX6_nextNumber_4 : decode cX6_nextNumber 4 = .ok (.putfield 67, 3) := by decide +kernel
theorem dX6_nextNumber_7 : decode cX6_nextNumber 7 = .ok (.aload_n 0, 1) := by decide +kernel
theorem dX6_nextNumber_8 : decode cX6_nextNumber 8 = .ok (.getfield 24, 3) := by decide +kernel
theorem dX6_nextNumber_11 : decode cX6_nextNumber 11 = .ok (.aload_n 0, 1) := by decide +kernel
theorem dX6_nextNumber_12 : decode cX6_nextNumber 12 = .ok (.getfield 15, 3) := by decide +kernel
theorem dX6_nextNumber_15 : decode cX6_nextNumber 15 = .ok (.if_icmp .ge 86, 3) := by decide +kernel
theorem dX6_nextNumber_18 : decode cX6_nextNumber 18 = .ok (.aload_n 0, 1) := by decide +kernel
theorem dX6_nextNumber_19 : decode cX6_nextNumber 19 = .ok (.aload_n 0, 1) := by decide +kernel
theorem dX6_nextNumber_20 : decode cX6_nextNumber 20 = .ok (.getfield 24, 3) := by decide +kernel
theorem dX6_nextNumber_23 : decode cX6_nextNumber 23 = .ok (.invokevirtual 97, 3) := by decide +kernel
theorem dX6_nextNumber_26 : decode cX6_nextNumber 26 = .ok (.invokestatic 101, 3) := by decide +kernel
theorem dX6_nextNumber_29 : decode cX6_nextNumber 29 = .ok (.ifCond .eq 72, 3) := by decide +kernel
theorem dX6_nextNumber_32 : decode cX6_nextNumber 32 = .ok (.iload_n 1, 1) := by decide +kernel
theorem dX6_nextNumber_33 : decode cX6_nextNumber 33 = .ok (.ifCond .eq 25, 3) := by decide +kernel
theorem dX6_nextNumber_36 : decode cX6_nextNumber 36 = .ok (.aload_n 0, 1) := by decide +kernel
theorem dX6_nextNumber_37 : decode cX6_nextNumber 37 = .ok (.getfield 24, 3) := by decide +kernel
theorem dX6_nextNumber_40 : decode cX6_nextNumber 40 = .ok (.aload_n 0, 1) := by decide +kernel
theorem dX6_nextNumber_41 : decode cX6_nextNumber 41 = .ok (.getfield 53, 3) := by decide +kernel
theorem dX6_nextNumber_44 : decode cX6_nextNumber 44 = .ok (.if_icmp .eq 10, 3) := by decide +kernel
theorem dX6_nextNumber_47 : decode cX6_nextNumber 47 = .ok (.aload_n 0, 1) := by decide +kernel
theorem dX6_nextNumber_48 : decode cX6_nextNumber 48 = .ok (.getfield 67, 3) := by decide +kernel
theorem dX6_nextNumber_51 : decode cX6_nextNumber 51 = .ok (.ifCond .le 7, 3) := by decide +kernel
theorem dX6_nextNumber_54 : decode cX6_nextNumber 54 = .ok (.iconst 1, 1) := by decide +kernel
theorem dX6_nextNumber_55 : decode cX6_nextNumber 55 = .ok (.goto 4, 3) := by decide +kernel
theorem dX6_nextNumber_58 : decode cX6_nextNumber 58 = .ok (.iconst 0, 1) := by decide +kernel
theorem dX6_nextNumber_59 : decode cX6_nextNumber 59 = .ok (.istore_n 1, 1) := by decide +kernel
theorem dX6_nextNumber_60 : decode cX6_nextNumber 60 = .ok (.aload_n 0, 1) := by decide +kernel
theorem dX6_nextNumber_61 : decode cX6_nextNumber 61 = .ok (.bipush 100, 2) := by decide +kernel
theorem dX6_nextNumber_63 : decode cX6_nextNumber 63 = .ok (.aload_n 0, 1) := by decide +kernel
theorem dX6_nextNumber_64 : decode cX6_nextNumber 64 = .ok (.getfield 67, 3) := by decide +kernel
theorem dX6_nextNumber_67 : decode cX6_nextNumber 67 = .ok (.bipush 10, 2) := by decide +kernel
theorem dX6_nextNumber_69 : decode cX6_nextNumber 69 = .ok (.imul, 1) := by decide +kernel
theorem dX6_nextNumber_70 : decode cX6_nextNumber 70 = .ok (.aload_n 0, 1) := by decide +kernel
theorem dX6_nextNumber_71 : decode cX6_nextNumber 71 = .ok (.aload_n 0, 1) := by decide +kernel
theorem dX6_nextNumber_72 : decode cX6_nextNumber 72 = .ok (.getfield 24, 3) := by decide +kernel
theorem dX6_nextNumber_75 : decode cX6_nextNumber 75 = .ok (.invokevirtual 97, 3) := by decide +kernel
theorem dX6_nextNumber_78 : decode cX6_nextNumber 78 = .ok (.iadd, 1) := by decide +kernel
theorem dX6_nextNumber_79 : decode cX6_nextNumber 79 = .ok (.bipush 48, 2) := by decide +kernel
theorem dX6_nextNumber_81 : decode cX6_nextNumber 81 = .ok (.isub, 1) := by decide +kernel
theorem dX6_nextNumber_82 : decode cX6_nextNumber 82 = .ok (.invokestatic 111, 3) := by decide +kernel
theorem dX6_nextNumber_85 : decode cX6_nextNumber 85 = .ok (.putfield 67, 3) := by decide +kernel
theorem dX6_nextNumber_88 : decode cX6_nextNumber 88 = .ok (.aload_n 0, 1) := by decide +kernel
theorem dX6_nextNumber_89 : decode cX6_nextNumber 89 = .ok (.dup, 1) := by decide +kernel
theorem dX6_nextNumber_90 : decode cX6_nextNumber 90 = .ok (.getfield 24, 3) := by decide +kernel
theorem dX6_nextNumber_93 : decode cX6_nextNumber 93 = .ok (.iconst 1, 1) := by decide +kernel
theorem dX6_nextNumber_94 : decode cX6_nextNumber 94 = .ok (.iadd, 1) := by decide +kernel
theorem dX6_nextNumber_95 : decode cX6_nextNumber 95 = .ok (.putfield 24, 3) := by decide +kernel
theorem dX6_nextNumber_98 : decode cX6_nextNumber 98 = .ok (.goto (-91), 3) := by decide +kernel
theorem dX6_nextNumber_101 : decode cX6_nextNumber 101 = .ok (.aload_n 0, 1) := by decide +kernel
theorem dX6_nextNumber_102 : decode cX6_nextNumber 102 = .ok (.iload_n 1, 1) := by decide +kernel
theorem dX6_nextNumber_103 : decode cX6_nextNumber 103 = .ok (.ifCond .eq 17, 3) := by decide +kernel
theorem dX6_nextNumber_106 : decode cX6_nextNumber 106 = .ok (.aload_n 0, 1) := by decide +kernel
theorem dX6_nextNumber_107 : decode cX6_nextNumber 107 = .ok (.getfield 67, 3) := by decide +kernel
theorem dX6_nextNumber_110 : decode cX6_nextNumber 110 = .ok (.bipush 99, 2) := by decide +kernel
theorem dX6_nextNumber_112 : decode cX6_nextNumber 112 = .ok (.if_icmp .gt 8, 3) := by decide +kernel
theorem dX6_nextNumber_115 : decode cX6_nextNumber 115 = .ok (.bipush 48, 2) := by decide +kernel
theorem dX6_nextNumber_117 : decode cX6_nextNumber 117 = .ok (.goto 5, 3) := by decide +kernel
theorem dX6_nextNumber_120 : decode cX6_nextNumber 120 = .ok (.bipush 63, 2) := by decide +kernel
theorem dX6_nextNumber_122 : decode cX6_nextNumber 122 = .ok (.putfield 30, 3) := by decide +kernel
theorem dX6_nextNumber_125 : decode cX6_nextNumber 125 = .ok (.return_, 1) := by decide +kernel
theorem dX6_letterAt_0 : decode cX6_letterAt 0 = .ok (.iload_n 1, 1) := by decide +kernel
theorem dX6_letterAt_1 : decode cX6_letterAt 1 = .ok (.ifCond .lt 26, 3) := by decide +kernel
theorem dX6_letterAt_4 : decode cX6_letterAt 4 = .ok (.iload_n 1, 1) := by decide +kernel
theorem dX6_letterAt_5 : decode cX6_letterAt 5 = .ok (.aload_n 0, 1) := by decide +kernel
theorem dX6_letterAt_6 : decode cX6_letterAt 6 = .ok (.getfield 15, 3) := by decide +kernel
theorem dX6_letterAt_9 : decode cX6_letterAt 9 = .ok (.if_icmp .ge 18, 3) := by decide +kernel
theorem dX6_letterAt_12 : decode cX6_letterAt 12 = .ok (.iload_n 1, 1) := by decide +kernel
theorem dX6_letterAt_13 : decode cX6_letterAt 13 = .ok (.bipush 120, 2) := by decide +kernel
theorem dX6_letterAt_15 : decode cX6_letterAt 15 = .ok (.if_icmp .ge 12, 3) := by decide +kernel
theorem dX6_letterAt_18 : decode cX6_letterAt 18 = .ok (.aload_n 0, 1) := by decide +kernel
theorem dX6_letterAt_19 : decode cX6_letterAt 19 = .ok (.getfield 9, 3) := by decide +kernel
theorem dX6_letterAt_22 : decode cX6_letterAt 22 = .ok (.iload_n 1, 1) := by decide +kernel
theorem dX6_letterAt_23 : decode cX6_letterAt 23 = .ok (.caload, 1) := by decide +kernel
theorem dX6_letterAt_24 : decode cX6_letterAt 24 = .ok (.goto 4, 3) := by decide +kernel
theorem dX6_letterAt_27 : decode cX6_letterAt 27 = .ok (.iconst 0, 1) := by decide +kernel
theorem dX6_letterAt_28 : decode cX6_letterAt 28 = .ok (.ireturn, 1) := by decide +kernel
theorem dX6_isDigit_0 : decode cX6_isDigit 0 = .ok (.iload_n 0, 1) := by decide +kernel
theorem dX6_isDigit_1 : decode cX6_isDigit 1 = .ok (.bipush 48, 2) := by decide +kernel
theorem dX6_isDigit_3 : decode cX6_isDigit 3 = .ok (.if_icmp .lt 13, 3) := by decide +kernel
theorem dX6_isDigit_6 : decode cX6_isDigit 6 = .ok (.iload_n 0, 1) := by decide +kernel
theorem dX6_isDigit_7 : decode cX6_isDigit 7 = .ok (.bipush 57, 2) := by decide +kernel
theorem dX6_isDigit_9 : decode cX6_isDigit 9 = .ok (.if_icmp .gt 7, 3) := by decide +kernel
theorem dX6_isDigit_12 : decode cX6_isDigit 12 = .ok (.iconst 1, 1) := by decide +kernel
theorem dX6_isDigit_13 : decode cX6_isDigit 13 = .ok (.goto 4, 3) := by decide +kernel
theorem dX6_isDigit_16 : decode cX6_isDigit 16 = .ok (.iconst 0, 1) := by decide +kernel
theorem dX6_isDigit_17 : decode cX6_isDigit 17 = .ok (.ireturn, 1) := by decide +kernel
theorem dX6_isSign_0 : decode cX6_isSign 0 = .ok (.iload_n 0, 1) := by decide +kernel
theorem dX6_isSign_1 : decode cX6_isSign 1 = .ok (.bipush 116, 2) := by decide +kernel
theorem dX6_isSign_3 : decode cX6_isSign 3 = .ok (.if_icmp .eq 33, 3) := by decide +kernel
theorem dX6_isSign_6 : decode cX6_isSign 6 = .ok (.iload_n 0, 1) := by decide +kernel
theorem dX6_isSign_7 : decode cX6_isSign 7 = .ok (.bipush 99, 2) := by decide +kernel
theorem dX6_isSign_9 : decode cX6_isSign 9 = .ok (.if_icmp .eq 27, 3) := by decide +kernel
theorem dX6_isSign_12 : decode cX6_isSign 12 = .ok (.iload_n 0, 1) := by decide +kernel
theorem dX6_isSign_13 : decode cX6_isSign 13 = .ok (.bipush 115, 2) := by decide +kernel
theorem dX6_isSign_15 : decode cX6_isSign 15 = .ok (.if_icmp .eq 21, 3) := by decide +kernel
theorem dX6_isSign_18 : decode cX6_isSign 18 = .ok (.iload_n 0, 1) := by decide +kernel
theorem dX6_isSign_19 : decode cX6_isSign 19 = .ok (.bipush 98, 2) := by decide +kernel
theorem dX6_isSign_21 : decode cX6_isSign 21 = .ok (.if_icmp .eq 15, 3) := by decide +kernel
theorem dX6_isSign_24 : decode cX6_isSign 24 = .ok (.iload_n 0, 1) := by decide +kernel
theorem dX6_isSign_25 : decode cX6_isSign 25 = .ok (.bipush 114, 2) := by decide +kernel
theorem dX6_isSign_27 : decode cX6_isSign 27 = .ok (.if_icmp .eq 9, 3) := by decide +kernel
theorem dX6_isSign_30 : decode cX6_isSign 30 = .ok (.iload_n 0, 1) := by decide +kernel
theorem dX6_isSign_31 : decode cX6_isSign 31 = .ok (.bipush 59, 2) := by decide +kernel
theorem dX6_isSign_33 : decode cX6_isSign 33 = .ok (.if_icmp .ne 7, 3) := by decide +kernel
theorem dX6_isSign_36 : decode cX6_isSign 36 = .ok (.iconst 1, 1) := by decide +kernel
theorem dX6_isSign_37 : decode cX6_isSign 37 = .ok (.goto 4, 3) := by decide +kernel
theorem dX6_isSign_40 : decode cX6_isSign 40 = .ok (.iconst 0, 1) := by decide +kernel
theorem dX6_isSign_41 : decode cX6_isSign 41 = .ok (.ireturn, 1) := by decide +kernel
end
section
def fX0_open_L54 (N : Nat) (k : Int32 → MM → Option (Int32 × MM)) (x1 : Int32) (x2 : Int32) : Nat → Int32 → MM → Option (Int32 × MM)
  | 0, _, _ => none
  | n + 1, x3, v0 => (if (6 : Int32) ≤ x3 then k x3 v0 else (if ib ((x2 * (6 : Int32)) + x3) 360 = true then fX0_open_L54 N k x1 x2 n (x3 + 1) (st v0 5 (upd (v0 5) (Int32.toNatClampNeg ((x2 * (6 : Int32)) + x3)) (0 : Int32))) else none))
def fX0_open (N : Nat) (x1 : Int32) (v0 : MM) : Option (Int32 × MM) := (if (v0 0 0) < 0 then some ((-1 : Int32), v0) else (if (v0 0 0) < (60 : Int32) then (if ib (v0 0 0) 60 = true then (if ib (v0 0 0) 60 = true then (if ib (v0 0 0) 60 = true then (if ib (v0 0 0) 60 = true then (fX0_open_L54 N (fun (x3_1 : Int32) (v0_1 : MM) => some ((v0 0 0), (st v0_1 0 (fun _ => ((v0_1 0 0) + (1 : Int32)))))) x1 (v0 0 0) N (0 : Int32) (st (st (st (st v0 1 (upd (v0 1) (Int32.toNatClampNeg (v0 0 0)) x1)) 2 (upd (v0 2) (Int32.toNatClampNeg (v0 0 0)) (-1 : Int32))) 3 (upd (v0 3) (Int32.toNatClampNeg (v0 0 0)) (0 : Int32))) 4 (upd (v0 4) (Int32.toNatClampNeg (v0 0 0)) (-9 : Int32)))) else none) else none) else none) else none) else some ((-1 : Int32), v0)))
set_option maxHeartbeats 4000000 in
set_option maxRecDepth 100000 in
theorem ct_X0_open (g : GT) (l : Launch) (N : Nat) (a0 : Nat → Nat) (x1 : Int32) (v0 : MM) {y : Int32 × MM} (hf : fX0_open N x1 v0 = some y) : ct g l yX0_open wsX0_open (rmk 0 0) [.ref (a0 0), .int x1] [kX0 g a0 v0] (some (.int y.1)) [kX0 g a0 y.2] := by
  refine ct_of (cc := cX0_open) (maxL := 4) (ret := (some .int)) (by decide) rfl (Nat.le_of_ble_eq_true rfl) ?_
  intro p e s m args below meth c A ls C hr hk0 hA hW hl
  have hx := C.1.1
  have hb := C.1.2.1
  replace hl : lv_has ls 4 [(0, .ref (a0 0)), (1, .int x1)] := hl
  obtain ⟨Q, hQ⟩ : ∃ Q, Q = MQ below (ctQ g A (some (.int y.1)) [kX0 g a0 y.2]) args s 0 0 A := ⟨_, rfl⟩
  rw [← hQ]
  obtain ⟨H, hH⟩ : ∃ H, H = s.heap := ⟨_, rfl⟩
  obtain ⟨locs, hL⟩ : ∃ locs : List Loc, locs = [] := ⟨_, rfl⟩
  replace hW : wd g A s.heap [kX0 g a0 v0] H locs := by rw [hH, hL]; exact hW
  suffices hG : W p l e (rmk 0 0) s m args below meth c H locs 0 0 Q (F0 m 0 ls []) by
    rw [hH, hL] at hG; exact hG
  clear hH hL
  have inX0 : ∀ w ∈ wsX00, w ∈ wsX0_open := fun _ h => List.mem_cons_of_mem _ (List.mem_append_right _ (h))
  have L54 : ∀ (x1 : Int32) (x2 : Int32) (k : Int32 → MM → Option (Int32 × MM)) (hk : ∀ (x3 : Int32) (v0 : MM) (H : Heap) (locs : List Loc) (ls : Array Slot), k x3 v0 = some y → wd g A s.heap [kX0 g a0 v0] H locs → lv_has ls 4 [(0, .ref (a0 0)), (1, .int x1), (2, .int x2), (3, .int x3)] → W p l e (rmk 0 0) s m args below meth c H locs 0 0 Q (F0 m 78 ls [])) (n : Nat) (x3 : Int32) (v0 : MM) (H : Heap) (locs : List Loc) (ls : Array Slot), fX0_open_L54 N k x1 x2 n x3 v0 = some y → wd g A s.heap [kX0 g a0 v0] H locs → lv_has ls 4 [(0, .ref (a0 0)), (1, .int x1), (2, .int x2), (3, .int x3)] → W p l e (rmk 0 0) s m args below meth c H locs 0 0 Q (F0 m 54 ls []) := by
    intro x1 x2 k hk n
    induction n with
    | zero => intro x3 v0 H locs ls hf; rw [fX0_open_L54] at hf; cases hf
    | succ n ih =>
      intro x3 v0 H locs ls hf hW hl
      rw [fX0_open_L54] at hf
      refine lv_iload_n hx hb dX0_open_54 rfl (lv_at hl 3 rfl) ?_
      refine lv_bipush (v := (6 : Int32)) hx hb dX0_open_55 (by decide) ?_
      refine lv_icmp_ge (tgt := 78) hx hb dX0_open_57 (by decide) (fun h => ?_) (fun h => ?_)
      · replace hf := (if_pos h).symm.trans hf
        exact hk _ _ H locs ls hf hW (lv_sub hl [0, 1, 2, 3] rfl)
      · replace hf := (if_neg h).symm.trans hf
        refine lv_aload_n hx hb dX0_open_60 rfl (lv_at hl 0 rfl) ?_
        refine g_get C hW inX0 0 rfl rfl rfl 5 (by decide) (List.mem_of_getElem? (i := 6) rfl) (v := .ref (a0 5)) rfl dX0_open_61 ?_
        refine lv_iload_n hx hb dX0_open_64 rfl (lv_at hl 2 rfl) ?_
        refine lv_bipush (v := (6 : Int32)) hx hb dX0_open_65 (by decide) ?_
        refine lv_imul hx hb dX0_open_67 ?_
        refine lv_iload_n hx hb dX0_open_68 rfl (lv_at hl 3 rfl) ?_
        refine lv_iadd hx hb dX0_open_69 ?_
        refine lv_iconst (v := (0 : Int32)) hx hb dX0_open_70 (by decide) ?_
        obtain ⟨hi, hf⟩ := gd_of hf
        refine g_iast C hW 0 5 rfl (f := (v0 5)) rfl (ib_in hi) (ch' := [kX0 g a0 (st v0 5 (upd (v0 5) (Int32.toNatClampNeg ((x2 * (6 : Int32)) + x3)) (0 : Int32)))]) rfl dX0_open_71 (fun H locs hW => ?_)
        refine lv_iinc (v := (x3 + 1)) (lv' := [(3, .int (x3 + 1)), (0, .ref (a0 0)), (1, .int x1), (2, .int x2)]) hx hb dX0_open_72 hl (k := 3) rfl (by first | rfl | decide) (by decide) rfl (fun ls hl => ?_)
        refine lv_goto (tgt := 54) hx hb dX0_open_75 (by decide) ?_
        exact ih _ _ H locs ls hf hW (lv_sub hl [1, 2, 3, 0] rfl)
  rw [fX0_open] at hf
  refine lv_aload_n hx hb dX0_open_0 rfl (lv_at hl 0 rfl) ?_
  refine g_get C hW inX0 0 rfl rfl rfl 0 (by decide) (List.mem_of_getElem? (i := 1) rfl) (v := .int (v0 0 0)) rfl dX0_open_1 ?_
  refine lv_if_lt (tgt := 16) hx hb dX0_open_4 (by decide) (fun h => ?_) (fun h => ?_)
  · replace hf := (if_pos h).symm.trans hf
    refine lv_iconst (v := (-1 : Int32)) hx hb dX0_open_16 (by decide) ?_
    obtain rfl := Option.some.inj hf
    subst hQ
    exact g_iret C hr hk0 hW rfl rfl dX0_open_17
  · replace hf := (if_neg h).symm.trans hf
    refine lv_aload_n hx hb dX0_open_7 rfl (lv_at hl 0 rfl) ?_
    refine g_get C hW inX0 0 rfl rfl rfl 0 (by decide) (List.mem_of_getElem? (i := 1) rfl) (v := .int (v0 0 0)) rfl dX0_open_8 ?_
    refine lv_bipush (v := (60 : Int32)) hx hb dX0_open_11 (by decide) ?_
    refine lv_icmp_lt (tgt := 18) hx hb dX0_open_13 (by decide) (fun h => ?_) (fun h => ?_)
    · replace hf := (if_pos h).symm.trans hf
      refine lv_aload_n hx hb dX0_open_18 rfl (lv_at hl 0 rfl) ?_
      refine g_get C hW inX0 0 rfl rfl rfl 0 (by decide) (List.mem_of_getElem? (i := 1) rfl) (v := .int (v0 0 0)) rfl dX0_open_19 ?_
      refine lv_istore_n (lv' := [(2, .int (v0 0 0)), (0, .ref (a0 0)), (1, .int x1)]) hx hb dX0_open_22 rfl hl (by decide) rfl (fun ls hl => ?_)
      refine lv_aload_n hx hb dX0_open_23 rfl (lv_at hl 1 rfl) ?_
      refine g_get C hW inX0 0 rfl rfl rfl 1 (by decide) (List.mem_of_getElem? (i := 2) rfl) (v := .ref (a0 1)) rfl dX0_open_24 ?_
      refine lv_iload_n hx hb dX0_open_27 rfl (lv_at hl 0 rfl) ?_
      refine lv_iload_n hx hb dX0_open_28 rfl (lv_at hl 2 rfl) ?_
      obtain ⟨hi, hf⟩ := gd_of hf
      refine g_iast C hW 0 1 rfl (f := (v0 1)) rfl (ib_in hi) (ch' := [kX0 g a0 (st v0 1 (upd (v0 1) (Int32.toNatClampNeg (v0 0 0)) x1))]) rfl dX0_open_29 (fun H locs hW => ?_)
      refine lv_aload_n hx hb dX0_open_30 rfl (lv_at hl 1 rfl) ?_
      refine g_get C hW inX0 0 rfl rfl rfl 2 (by decide) (List.mem_of_getElem? (i := 3) rfl) (v := .ref (a0 2)) rfl dX0_open_31 ?_
      refine lv_iload_n hx hb dX0_open_34 rfl (lv_at hl 0 rfl) ?_
      refine lv_iconst (v := (-1 : Int32)) hx hb dX0_open_35 (by decide) ?_
      obtain ⟨hi, hf⟩ := gd_of hf
      refine g_iast C hW 0 2 rfl (f := (v0 2)) rfl (ib_in hi) (ch' := [kX0 g a0 (st (st v0 1 (upd (v0 1) (Int32.toNatClampNeg (v0 0 0)) x1)) 2 (upd (v0 2) (Int32.toNatClampNeg (v0 0 0)) (-1 : Int32)))]) rfl dX0_open_36 (fun H locs hW => ?_)
      refine lv_aload_n hx hb dX0_open_37 rfl (lv_at hl 1 rfl) ?_
      refine g_get C hW inX0 0 rfl rfl rfl 3 (by decide) (List.mem_of_getElem? (i := 4) rfl) (v := .ref (a0 3)) rfl dX0_open_38 ?_
      refine lv_iload_n hx hb dX0_open_41 rfl (lv_at hl 0 rfl) ?_
      refine lv_iconst (v := (0 : Int32)) hx hb dX0_open_42 (by decide) ?_
      obtain ⟨hi, hf⟩ := gd_of hf
      refine g_iast C hW 0 3 rfl (f := (v0 3)) rfl (ib_in hi) (ch' := [kX0 g a0 (st (st (st v0 1 (upd (v0 1) (Int32.toNatClampNeg (v0 0 0)) x1)) 2 (upd (v0 2) (Int32.toNatClampNeg (v0 0 0)) (-1 : Int32))) 3 (upd (v0 3) (Int32.toNatClampNeg (v0 0 0)) (0 : Int32)))]) rfl dX0_open_43 (fun H locs hW => ?_)
      refine lv_aload_n hx hb dX0_open_44 rfl (lv_at hl 1 rfl) ?_
      refine g_get C hW inX0 0 rfl rfl rfl 4 (by decide) (List.mem_of_getElem? (i := 5) rfl) (v := .ref (a0 4)) rfl dX0_open_45 ?_
      refine lv_iload_n hx hb dX0_open_48 rfl (lv_at hl 0 rfl) ?_
      refine lv_bipush (v := (-9 : Int32)) hx hb dX0_open_49 (by decide) ?_
      obtain ⟨hi, hf⟩ := gd_of hf
      refine g_iast C hW 0 4 rfl (f := (v0 4)) rfl (ib_in hi) (ch' := [kX0 g a0 (st (st (st (st v0 1 (upd (v0 1) (Int32.toNatClampNeg (v0 0 0)) x1)) 2 (upd (v0 2) (Int32.toNatClampNeg (v0 0 0)) (-1 : Int32))) 3 (upd (v0 3) (Int32.toNatClampNeg (v0 0 0)) (0 : Int32))) 4 (upd (v0 4) (Int32.toNatClampNeg (v0 0 0)) (-9 : Int32)))]) rfl dX0_open_51 (fun H locs hW => ?_)
      refine lv_iconst (v := (0 : Int32)) hx hb dX0_open_52 (by decide) ?_
      refine lv_istore_n (lv' := [(3, .int (0 : Int32)), (2, .int (v0 0 0)), (0, .ref (a0 0)), (1, .int x1)]) hx hb dX0_open_53 rfl hl (by decide) rfl (fun ls hl => ?_)
      refine L54 x1 (v0 0 0) _ (fun x3_1 v0_1 H locs ls hf hW hl => ?_) N (0 : Int32) (st (st (st (st v0 1 (upd (v0 1) (Int32.toNatClampNeg (v0 0 0)) x1)) 2 (upd (v0 2) (Int32.toNatClampNeg (v0 0 0)) (-1 : Int32))) 3 (upd (v0 3) (Int32.toNatClampNeg (v0 0 0)) (0 : Int32))) 4 (upd (v0 4) (Int32.toNatClampNeg (v0 0 0)) (-9 : Int32))) H locs ls hf hW (lv_sub hl [2, 3, 1, 0] rfl)
      refine lv_aload_n hx hb dX0_open_78 rfl (lv_at hl 0 rfl) ?_
      refine lv_dup hx hb dX0_open_79 rfl ?_
      refine g_get C hW inX0 0 rfl rfl rfl 0 (by decide) (List.mem_of_getElem? (i := 1) rfl) (v := .int (v0_1 0 0)) rfl dX0_open_80 ?_
      refine lv_iconst (v := (1 : Int32)) hx hb dX0_open_83 (by decide) ?_
      refine lv_iadd hx hb dX0_open_84 ?_
      refine g_put C hW inX0 tyX0_ok nmX0 0 rfl rfl rfl 0 (by decide) (List.mem_of_getElem? (i := 1) rfl) rfl rfl rfl rfl (ch' := [kX0 g a0 (st v0_1 0 (fun _ => ((v0_1 0 0) + (1 : Int32))))]) rfl dX0_open_85 (fun H locs hW => ?_)
      refine lv_iload_n hx hb dX0_open_88 rfl (lv_at hl 2 rfl) ?_
      obtain rfl := Option.some.inj hf
      subst hQ
      exact g_iret C hr hk0 hW rfl rfl dX0_open_89
    · replace hf := (if_neg h).symm.trans hf
      refine lv_iconst (v := (-1 : Int32)) hx hb dX0_open_16 (by decide) ?_
      obtain rfl := Option.some.inj hf
      subst hQ
      exact g_iret C hr hk0 hW rfl rfl dX0_open_17
def fX0_isDue (N : Nat) (x1 : Int32) (x2 : Int32) (x3 : Int32) (v0 : MM) : Option (Int32) := (if x1 < 0 then some (0 : Int32) else (if (60 : Int32) ≤ x1 then some (0 : Int32) else (if ib x1 60 = true then (if ((v0 1) (Int32.toNatClampNeg x1)) = x2 then (if ib x1 60 = true then (if ((v0 2) (Int32.toNatClampNeg x1)) = x3 then some (1 : Int32) else some (0 : Int32)) else none) else some (0 : Int32)) else none)))
set_option maxHeartbeats 4000000 in
set_option maxRecDepth 100000 in
theorem ct_X0_isDue (g : GT) (l : Launch) (N : Nat) (a0 : Nat → Nat) (x1 : Int32) (x2 : Int32) (x3 : Int32) (v0 : MM) {y : Int32} (hf : fX0_isDue N x1 x2 x3 v0 = some y) : ct g l yX0_isDue wsX0_isDue (rmk 0 0) [.ref (a0 0), .int x1, .int x2, .int x3] [kX0 g a0 v0] (some (.int y)) [kX0 g a0 v0] := by
  refine ct_of (cc := cX0_isDue) (maxL := 4) (ret := (some .boolean)) (by decide) rfl (Nat.le_of_ble_eq_true rfl) ?_
  intro p e s m args below meth c A ls C hr hk0 hA hW hl
  have hx := C.1.1
  have hb := C.1.2.1
  replace hl : lv_has ls 4 [(0, .ref (a0 0)), (1, .int x1), (2, .int x2), (3, .int x3)] := hl
  obtain ⟨Q, hQ⟩ : ∃ Q, Q = MQ below (ctQ g A (some (.int y)) [kX0 g a0 v0]) args s 0 0 A := ⟨_, rfl⟩
  rw [← hQ]
  obtain ⟨H, hH⟩ : ∃ H, H = s.heap := ⟨_, rfl⟩
  obtain ⟨locs, hL⟩ : ∃ locs : List Loc, locs = [] := ⟨_, rfl⟩
  replace hW : wd g A s.heap [kX0 g a0 v0] H locs := by rw [hH, hL]; exact hW
  suffices hG : W p l e (rmk 0 0) s m args below meth c H locs 0 0 Q (F0 m 0 ls []) by
    rw [hH, hL] at hG; exact hG
  clear hH hL
  have inX0 : ∀ w ∈ wsX00, w ∈ wsX0_isDue := fun _ h => List.mem_cons_of_mem _ (List.mem_append_right _ (h))
  rw [fX0_isDue] at hf
  refine lv_iload_n hx hb dX0_isDue_0 rfl (lv_at hl 1 rfl) ?_
  refine lv_if_lt (tgt := 34) hx hb dX0_isDue_1 (by decide) (fun h => ?_) (fun h => ?_)
  · replace hf := (if_pos h).symm.trans hf
    refine lv_iconst (v := (0 : Int32)) hx hb dX0_isDue_34 (by decide) ?_
    obtain rfl := Option.some.inj hf
    subst hQ
    exact g_zret C hr hk0 hW rfl rfl rfl dX0_isDue_35
  · replace hf := (if_neg h).symm.trans hf
    refine lv_iload_n hx hb dX0_isDue_4 rfl (lv_at hl 1 rfl) ?_
    refine lv_bipush (v := (60 : Int32)) hx hb dX0_isDue_5 (by decide) ?_
    refine lv_icmp_ge (tgt := 34) hx hb dX0_isDue_7 (by decide) (fun h => ?_) (fun h => ?_)
    · replace hf := (if_pos h).symm.trans hf
      refine lv_iconst (v := (0 : Int32)) hx hb dX0_isDue_34 (by decide) ?_
      obtain rfl := Option.some.inj hf
      subst hQ
      exact g_zret C hr hk0 hW rfl rfl rfl dX0_isDue_35
    · replace hf := (if_neg h).symm.trans hf
      refine lv_aload_n hx hb dX0_isDue_10 rfl (lv_at hl 0 rfl) ?_
      refine g_get C hW inX0 0 rfl rfl rfl 1 (by decide) (List.mem_of_getElem? (i := 1) rfl) (v := .ref (a0 1)) rfl dX0_isDue_11 ?_
      refine lv_iload_n hx hb dX0_isDue_14 rfl (lv_at hl 1 rfl) ?_
      obtain ⟨hi, hf⟩ := gd_of hf
      refine g_iald C hW 0 1 rfl (f := (v0 1)) rfl (ib_in hi) dX0_isDue_15 ?_
      refine lv_iload_n hx hb dX0_isDue_16 rfl (lv_at hl 2 rfl) ?_
      refine lv_icmp_ne (tgt := 34) hx hb dX0_isDue_17 (by decide) (fun h => ?_) (fun h => ?_)
      · replace hf := (if_neg h).symm.trans hf
        refine lv_iconst (v := (0 : Int32)) hx hb dX0_isDue_34 (by decide) ?_
        obtain rfl := Option.some.inj hf
        subst hQ
        exact g_zret C hr hk0 hW rfl rfl rfl dX0_isDue_35
      · replace hf := (if_pos h).symm.trans hf
        refine lv_aload_n hx hb dX0_isDue_20 rfl (lv_at hl 0 rfl) ?_
        refine g_get C hW inX0 0 rfl rfl rfl 2 (by decide) (List.mem_of_getElem? (i := 2) rfl) (v := .ref (a0 2)) rfl dX0_isDue_21 ?_
        refine lv_iload_n hx hb dX0_isDue_24 rfl (lv_at hl 1 rfl) ?_
        obtain ⟨hi, hf⟩ := gd_of hf
        refine g_iald C hW 0 2 rfl (f := (v0 2)) rfl (ib_in hi) dX0_isDue_25 ?_
        refine lv_iload_n hx hb dX0_isDue_26 rfl (lv_at hl 3 rfl) ?_
        refine lv_icmp_ne (tgt := 34) hx hb dX0_isDue_27 (by decide) (fun h => ?_) (fun h => ?_)
        · replace hf := (if_neg h).symm.trans hf
          refine lv_iconst (v := (0 : Int32)) hx hb dX0_isDue_34 (by decide) ?_
          obtain rfl := Option.some.inj hf
          subst hQ
          exact g_zret C hr hk0 hW rfl rfl rfl dX0_isDue_35
        · replace hf := (if_pos h).symm.trans hf
          refine lv_iconst (v := (1 : Int32)) hx hb dX0_isDue_30 (by decide) ?_
          refine lv_goto (tgt := 35) hx hb dX0_isDue_31 (by decide) ?_
          obtain rfl := Option.some.inj hf
          subst hQ
          exact g_zret C hr hk0 hW rfl rfl rfl dX0_isDue_35
def fX0_putLetters (N : Nat) (x1 : Int32) (x2 : Int32) (x3 : Int32) (v0 : MM) : Option (MM) := (if ((x1 * (6 : Int32)) + x2) < 0 then some v0 else (if (360 : Int32) ≤ ((x1 * (6 : Int32)) + x2) then some v0 else (if ib ((x1 * (6 : Int32)) + x2) 360 = true then (if ib ((x1 * (6 : Int32)) + x2) 360 = true then some (st v0 5 (upd (v0 5) (Int32.toNatClampNeg ((x1 * (6 : Int32)) + x2)) (((v0 5) (Int32.toNatClampNeg ((x1 * (6 : Int32)) + x2))) + x3))) else none) else none)))
set_option maxHeartbeats 4000000 in
set_option maxRecDepth 100000 in
theorem ct_X0_putLetters (g : GT) (l : Launch) (N : Nat) (a0 : Nat → Nat) (x1 : Int32) (x2 : Int32) (x3 : Int32) (v0 : MM) {y : MM} (hf : fX0_putLetters N x1 x2 x3 v0 = some y) : ct g l yX0_putLetters wsX0_putLetters (rmk 0 0) [.ref (a0 0), .int x1, .int x2, .int x3] [kX0 g a0 v0] none [kX0 g a0 y] := by
  refine ct_of (cc := cX0_putLetters) (maxL := 5) (ret := none) (by decide) rfl (Nat.le_of_ble_eq_true rfl) ?_
  intro p e s m args below meth c A ls C hr hk0 hA hW hl
  have hx := C.1.1
  have hb := C.1.2.1
  replace hl : lv_has ls 5 [(0, .ref (a0 0)), (1, .int x1), (2, .int x2), (3, .int x3)] := hl
  obtain ⟨Q, hQ⟩ : ∃ Q, Q = MQ below (ctQ g A none [kX0 g a0 y]) args s 0 0 A := ⟨_, rfl⟩
  rw [← hQ]
  obtain ⟨H, hH⟩ : ∃ H, H = s.heap := ⟨_, rfl⟩
  obtain ⟨locs, hL⟩ : ∃ locs : List Loc, locs = [] := ⟨_, rfl⟩
  replace hW : wd g A s.heap [kX0 g a0 v0] H locs := by rw [hH, hL]; exact hW
  suffices hG : W p l e (rmk 0 0) s m args below meth c H locs 0 0 Q (F0 m 0 ls []) by
    rw [hH, hL] at hG; exact hG
  clear hH hL
  have inX0 : ∀ w ∈ wsX00, w ∈ wsX0_putLetters := fun _ h => List.mem_cons_of_mem _ (List.mem_append_right _ (h))
  rw [fX0_putLetters] at hf
  refine lv_iload_n hx hb dX0_putLetters_0 rfl (lv_at hl 1 rfl) ?_
  refine lv_bipush (v := (6 : Int32)) hx hb dX0_putLetters_1 (by decide) ?_
  refine lv_imul hx hb dX0_putLetters_3 ?_
  refine lv_iload_n hx hb dX0_putLetters_4 rfl (lv_at hl 2 rfl) ?_
  refine lv_iadd hx hb dX0_putLetters_5 ?_
  refine lv_istore (lv' := [(4, .int ((x1 * (6 : Int32)) + x2)), (0, .ref (a0 0)), (1, .int x1), (2, .int x2), (3, .int x3)]) hx hb dX0_putLetters_6 hl (by decide) rfl (fun ls hl => ?_)
  refine lv_iload hx hb dX0_putLetters_8 (lv_at hl 0 rfl) ?_
  refine lv_if_lt (tgt := 34) hx hb dX0_putLetters_10 (by decide) (fun h => ?_) (fun h => ?_)
  · replace hf := (if_pos h).symm.trans hf
    obtain rfl := Option.some.inj hf
    subst hQ
    exact g_vret C hr hk0 hW rfl rfl dX0_putLetters_34
  · replace hf := (if_neg h).symm.trans hf
    refine lv_iload hx hb dX0_putLetters_13 (lv_at hl 0 rfl) ?_
    refine lv_aload_n hx hb dX0_putLetters_15 rfl (lv_at hl 1 rfl) ?_
    refine g_get C hW inX0 0 rfl rfl rfl 5 (by decide) (List.mem_of_getElem? (i := 1) rfl) (v := .ref (a0 5)) rfl dX0_putLetters_16 ?_
    refine g_alen C hW 0 5 0 rfl rfl rfl (v := (360 : Int32)) (by first | rfl | decide) dX0_putLetters_19 ?_
    refine lv_icmp_ge (tgt := 34) hx hb dX0_putLetters_20 (by decide) (fun h => ?_) (fun h => ?_)
    · replace hf := (if_pos h).symm.trans hf
      obtain rfl := Option.some.inj hf
      subst hQ
      exact g_vret C hr hk0 hW rfl rfl dX0_putLetters_34
    · replace hf := (if_neg h).symm.trans hf
      refine lv_aload_n hx hb dX0_putLetters_23 rfl (lv_at hl 1 rfl) ?_
      refine g_get C hW inX0 0 rfl rfl rfl 5 (by decide) (List.mem_of_getElem? (i := 1) rfl) (v := .ref (a0 5)) rfl dX0_putLetters_24 ?_
      refine lv_iload hx hb dX0_putLetters_27 (lv_at hl 0 rfl) ?_
      refine lv_dup2_11 hx hb dX0_putLetters_29 rfl rfl ?_
      obtain ⟨hi, hf⟩ := gd_of hf
      refine g_iald C hW 0 5 rfl (f := (v0 5)) rfl (ib_in hi) dX0_putLetters_30 ?_
      refine lv_iload_n hx hb dX0_putLetters_31 rfl (lv_at hl 4 rfl) ?_
      refine lv_iadd hx hb dX0_putLetters_32 ?_
      obtain ⟨hi, hf⟩ := gd_of hf
      refine g_iast C hW 0 5 rfl (f := (v0 5)) rfl (ib_in hi) (ch' := [kX0 g a0 (st v0 5 (upd (v0 5) (Int32.toNatClampNeg ((x1 * (6 : Int32)) + x2)) (((v0 5) (Int32.toNatClampNeg ((x1 * (6 : Int32)) + x2))) + x3)))]) rfl dX0_putLetters_33 (fun H locs hW => ?_)
      obtain rfl := Option.some.inj hf
      subst hQ
      exact g_vret C hr hk0 hW rfl rfl dX0_putLetters_34
def fX0_lettersOf (N : Nat) (x1 : Int32) (x2 : Int32) (v0 : MM) : Option (Int32) := (if ((x1 * (6 : Int32)) + x2) < 0 then some (0 : Int32) else (if (360 : Int32) ≤ ((x1 * (6 : Int32)) + x2) then some (0 : Int32) else (if ib ((x1 * (6 : Int32)) + x2) 360 = true then some ((v0 5) (Int32.toNatClampNeg ((x1 * (6 : Int32)) + x2))) else none)))
set_option maxHeartbeats 4000000 in
set_option maxRecDepth 100000 in
theorem ct_X0_lettersOf (g : GT) (l : Launch) (N : Nat) (a0 : Nat → Nat) (x1 : Int32) (x2 : Int32) (v0 : MM) {y : Int32} (hf : fX0_lettersOf N x1 x2 v0 = some y) : ct g l yX0_lettersOf wsX0_lettersOf (rmk 0 0) [.ref (a0 0), .int x1, .int x2] [kX0 g a0 v0] (some (.int y)) [kX0 g a0 v0] := by
  refine ct_of (cc := cX0_lettersOf) (maxL := 4) (ret := (some .int)) (by decide) rfl (Nat.le_of_ble_eq_true rfl) ?_
  intro p e s m args below meth c A ls C hr hk0 hA hW hl
  have hx := C.1.1
  have hb := C.1.2.1
  replace hl : lv_has ls 4 [(0, .ref (a0 0)), (1, .int x1), (2, .int x2)] := hl
  obtain ⟨Q, hQ⟩ : ∃ Q, Q = MQ below (ctQ g A (some (.int y)) [kX0 g a0 v0]) args s 0 0 A := ⟨_, rfl⟩
  rw [← hQ]
  obtain ⟨H, hH⟩ : ∃ H, H = s.heap := ⟨_, rfl⟩
  obtain ⟨locs, hL⟩ : ∃ locs : List Loc, locs = [] := ⟨_, rfl⟩
  replace hW : wd g A s.heap [kX0 g a0 v0] H locs := by rw [hH, hL]; exact hW
  suffices hG : W p l e (rmk 0 0) s m args below meth c H locs 0 0 Q (F0 m 0 ls []) by
    rw [hH, hL] at hG; exact hG
  clear hH hL
  have inX0 : ∀ w ∈ wsX00, w ∈ wsX0_lettersOf := fun _ h => List.mem_cons_of_mem _ (List.mem_append_right _ (h))
  rw [fX0_lettersOf] at hf
  refine lv_iload_n hx hb dX0_lettersOf_0 rfl (lv_at hl 1 rfl) ?_
  refine lv_bipush (v := (6 : Int32)) hx hb dX0_lettersOf_1 (by decide) ?_
  refine lv_imul hx hb dX0_lettersOf_3 ?_
  refine lv_iload_n hx hb dX0_lettersOf_4 rfl (lv_at hl 2 rfl) ?_
  refine lv_iadd hx hb dX0_lettersOf_5 ?_
  refine lv_istore_n (lv' := [(3, .int ((x1 * (6 : Int32)) + x2)), (0, .ref (a0 0)), (1, .int x1), (2, .int x2)]) hx hb dX0_lettersOf_6 rfl hl (by decide) rfl (fun ls hl => ?_)
  refine lv_iload_n hx hb dX0_lettersOf_7 rfl (lv_at hl 0 rfl) ?_
  refine lv_if_lt (tgt := 29) hx hb dX0_lettersOf_8 (by decide) (fun h => ?_) (fun h => ?_)
  · replace hf := (if_pos h).symm.trans hf
    refine lv_iconst (v := (0 : Int32)) hx hb dX0_lettersOf_29 (by decide) ?_
    obtain rfl := Option.some.inj hf
    subst hQ
    exact g_iret C hr hk0 hW rfl rfl dX0_lettersOf_30
  · replace hf := (if_neg h).symm.trans hf
    refine lv_iload_n hx hb dX0_lettersOf_11 rfl (lv_at hl 0 rfl) ?_
    refine lv_aload_n hx hb dX0_lettersOf_12 rfl (lv_at hl 1 rfl) ?_
    refine g_get C hW inX0 0 rfl rfl rfl 5 (by decide) (List.mem_of_getElem? (i := 1) rfl) (v := .ref (a0 5)) rfl dX0_lettersOf_13 ?_
    refine g_alen C hW 0 5 0 rfl rfl rfl (v := (360 : Int32)) (by first | rfl | decide) dX0_lettersOf_16 ?_
    refine lv_icmp_ge (tgt := 29) hx hb dX0_lettersOf_17 (by decide) (fun h => ?_) (fun h => ?_)
    · replace hf := (if_pos h).symm.trans hf
      refine lv_iconst (v := (0 : Int32)) hx hb dX0_lettersOf_29 (by decide) ?_
      obtain rfl := Option.some.inj hf
      subst hQ
      exact g_iret C hr hk0 hW rfl rfl dX0_lettersOf_30
    · replace hf := (if_neg h).symm.trans hf
      refine lv_aload_n hx hb dX0_lettersOf_20 rfl (lv_at hl 1 rfl) ?_
      refine g_get C hW inX0 0 rfl rfl rfl 5 (by decide) (List.mem_of_getElem? (i := 1) rfl) (v := .ref (a0 5)) rfl dX0_lettersOf_21 ?_
      refine lv_iload_n hx hb dX0_lettersOf_24 rfl (lv_at hl 0 rfl) ?_
      obtain ⟨hi, hf⟩ := gd_of hf
      refine g_iald C hW 0 5 rfl (f := (v0 5)) rfl (ib_in hi) dX0_lettersOf_25 ?_
      refine lv_goto (tgt := 30) hx hb dX0_lettersOf_26 (by decide) ?_
      obtain rfl := Option.some.inj hf
      subst hQ
      exact g_iret C hr hk0 hW rfl rfl dX0_lettersOf_30
def fX0_addLettersTo_L8 (N : Nat) (k : Int32 → (Nat → Int32) → Option ((Nat → Int32))) (x2 : Int32) (x3 : Int32) (n1 : Nat) (v0 : MM) : Nat → Int32 → (Nat → Int32) → Option ((Nat → Int32))
  | 0, _, _ => none
  | n + 1, x4, v1 => (if (6 : Int32) ≤ x4 then k x4 v1 else (if (Int32.ofNat n1) ≤ x4 then k x4 v1 else (if ib x4 n1 = true then (if (x3 + x4) < 0 then (if ib x4 n1 = true then fX0_addLettersTo_L8 N k x2 x3 n1 v0 n (x4 + 1) (upd v1 (Int32.toNatClampNeg x4) ((v1 (Int32.toNatClampNeg x4)) + (0 : Int32))) else none) else (if (360 : Int32) ≤ (x3 + x4) then (if ib x4 n1 = true then fX0_addLettersTo_L8 N k x2 x3 n1 v0 n (x4 + 1) (upd v1 (Int32.toNatClampNeg x4) ((v1 (Int32.toNatClampNeg x4)) + (0 : Int32))) else none) else (if ib (x3 + x4) 360 = true then (if ib x4 n1 = true then fX0_addLettersTo_L8 N k x2 x3 n1 v0 n (x4 + 1) (upd v1 (Int32.toNatClampNeg x4) ((v1 (Int32.toNatClampNeg x4)) + ((v0 5) (Int32.toNatClampNeg (x3 + x4))))) else none) else none))) else none)))
def fX0_addLettersTo (N : Nat) (x2 : Int32) (n1 : Nat) (v0 : MM) (v1 : Nat → Int32) : Option ((Nat → Int32)) := (fX0_addLettersTo_L8 N (fun (x4_1 : Int32) (v1_1 : (Nat → Int32)) => some v1_1) x2 (x2 * (6 : Int32)) n1 v0 N (0 : Int32) v1)
set_option maxHeartbeats 4000000 in
set_option maxRecDepth 100000 in
theorem ct_X0_addLettersTo (g : GT) (l : Launch) (N : Nat) (a0 : Nat → Nat) (a1 : Nat) (x2 : Int32) (n1 : Nat) (v0 : MM) (v1 : Nat → Int32) {y : (Nat → Int32)} (hf : fX0_addLettersTo N x2 n1 v0 v1 = some y) : ct g l yX0_addLettersTo wsX0_addLettersTo (rmk 0 0) [.ref (a0 0), .ref a1, .int x2] [kX0 g a0 v0, [(a1, .inl (g.2.1, n1, .inl v1))]] none [kX0 g a0 v0, [(a1, .inl (g.2.1, n1, .inl y))]] := by
  refine ct_of (cc := cX0_addLettersTo) (maxL := 6) (ret := none) (by decide) rfl (Nat.le_of_ble_eq_true rfl) ?_
  intro p e s m args below meth c A ls C hr hk0 hA hW hl
  have hx := C.1.1
  have hb := C.1.2.1
  replace hl : lv_has ls 6 [(0, .ref (a0 0)), (1, .ref a1), (2, .int x2)] := hl
  obtain ⟨Q, hQ⟩ : ∃ Q, Q = MQ below (ctQ g A none [kX0 g a0 v0, [(a1, .inl (g.2.1, n1, .inl y))]]) args s 0 0 A := ⟨_, rfl⟩
  rw [← hQ]
  obtain ⟨H, hH⟩ : ∃ H, H = s.heap := ⟨_, rfl⟩
  obtain ⟨locs, hL⟩ : ∃ locs : List Loc, locs = [] := ⟨_, rfl⟩
  replace hW : wd g A s.heap [kX0 g a0 v0, [(a1, .inl (g.2.1, n1, .inl v1))]] H locs := by rw [hH, hL]; exact hW
  suffices hG : W p l e (rmk 0 0) s m args below meth c H locs 0 0 Q (F0 m 0 ls []) by
    rw [hH, hL] at hG; exact hG
  clear hH hL
  have inX0 : ∀ w ∈ wsX00, w ∈ wsX0_addLettersTo := fun _ h => List.mem_cons_of_mem _ (List.mem_append_right _ (h))
  have L8 : ∀ (x2 : Int32) (x3 : Int32) (k : Int32 → (Nat → Int32) → Option ((Nat → Int32))) (hk : ∀ (x4 : Int32) (v1 : (Nat → Int32)) (H : Heap) (locs : List Loc) (ls : Array Slot), k x4 v1 = some y → wd g A s.heap [kX0 g a0 v0, [(a1, .inl (g.2.1, n1, .inl v1))]] H locs → lv_has ls 6 [(0, .ref (a0 0)), (1, .ref a1), (2, .int x2), (3, .int x3), (4, .int x4)] → W p l e (rmk 0 0) s m args below meth c H locs 0 0 Q (F0 m 67 ls [])) (n : Nat) (x4 : Int32) (v1 : (Nat → Int32)) (H : Heap) (locs : List Loc) (ls : Array Slot), fX0_addLettersTo_L8 N k x2 x3 n1 v0 n x4 v1 = some y → wd g A s.heap [kX0 g a0 v0, [(a1, .inl (g.2.1, n1, .inl v1))]] H locs → lv_has ls 6 [(0, .ref (a0 0)), (1, .ref a1), (2, .int x2), (3, .int x3), (4, .int x4)] → W p l e (rmk 0 0) s m args below meth c H locs 0 0 Q (F0 m 8 ls []) := by
    intro x2 x3 k hk n
    induction n with
    | zero => intro x4 v1 H locs ls hf; rw [fX0_addLettersTo_L8] at hf; cases hf
    | succ n ih =>
      intro x4 v1 H locs ls hf hW hl
      rw [fX0_addLettersTo_L8] at hf
      refine lv_iload hx hb dX0_addLettersTo_8 (lv_at hl 4 rfl) ?_
      refine lv_bipush (v := (6 : Int32)) hx hb dX0_addLettersTo_10 (by decide) ?_
      refine lv_icmp_ge (tgt := 67) hx hb dX0_addLettersTo_12 (by decide) (fun h => ?_) (fun h => ?_)
      · replace hf := (if_pos h).symm.trans hf
        exact hk _ _ H locs ls hf hW (lv_sub hl [0, 1, 2, 3, 4] rfl)
      · replace hf := (if_neg h).symm.trans hf
        refine lv_iload hx hb dX0_addLettersTo_15 (lv_at hl 4 rfl) ?_
        refine lv_aload_n hx hb dX0_addLettersTo_17 rfl (lv_at hl 1 rfl) ?_
        refine g_alen C hW 1 0 0 rfl rfl rfl (v := (Int32.ofNat n1)) (by first | rfl | decide) dX0_addLettersTo_18 ?_
        refine lv_icmp_ge (tgt := 67) hx hb dX0_addLettersTo_19 (by decide) (fun h => ?_) (fun h => ?_)
        · replace hf := (if_pos h).symm.trans hf
          exact hk _ _ H locs ls hf hW (lv_sub hl [0, 1, 2, 3, 4] rfl)
        · replace hf := (if_neg h).symm.trans hf
          refine lv_iload_n hx hb dX0_addLettersTo_22 rfl (lv_at hl 3 rfl) ?_
          refine lv_iload hx hb dX0_addLettersTo_23 (lv_at hl 4 rfl) ?_
          refine lv_iadd hx hb dX0_addLettersTo_25 ?_
          refine lv_istore (lv' := [(5, .int (x3 + x4)), (0, .ref (a0 0)), (1, .ref a1), (2, .int x2), (3, .int x3), (4, .int x4)]) hx hb dX0_addLettersTo_26 hl (by decide) rfl (fun ls hl => ?_)
          refine lv_aload_n hx hb dX0_addLettersTo_28 rfl (lv_at hl 2 rfl) ?_
          refine lv_iload hx hb dX0_addLettersTo_29 (lv_at hl 5 rfl) ?_
          refine lv_dup2_11 hx hb dX0_addLettersTo_31 rfl rfl ?_
          obtain ⟨hi, hf⟩ := gd_of hf
          refine g_iald C hW 1 0 rfl (f := v1) rfl (ib_in hi) dX0_addLettersTo_32 ?_
          refine lv_iload hx hb dX0_addLettersTo_33 (lv_at hl 0 rfl) ?_
          refine lv_if_lt (tgt := 58) hx hb dX0_addLettersTo_35 (by decide) (fun h => ?_) (fun h => ?_)
          · replace hf := (if_pos h).symm.trans hf
            refine lv_iconst (v := (0 : Int32)) hx hb dX0_addLettersTo_58 (by decide) ?_
            refine lv_iadd hx hb dX0_addLettersTo_59 ?_
            obtain ⟨hi, hf⟩ := gd_of hf
            refine g_iast C hW 1 0 rfl (f := v1) rfl (ib_in hi) (ch' := [kX0 g a0 v0, [(a1, .inl (g.2.1, n1, .inl (upd v1 (Int32.toNatClampNeg x4) ((v1 (Int32.toNatClampNeg x4)) + (0 : Int32)))))]]) rfl dX0_addLettersTo_60 (fun H locs hW => ?_)
            refine lv_iinc (v := (x4 + 1)) (lv' := [(4, .int (x4 + 1)), (5, .int (x3 + x4)), (0, .ref (a0 0)), (1, .ref a1), (2, .int x2), (3, .int x3)]) hx hb dX0_addLettersTo_61 hl (k := 5) rfl (by first | rfl | decide) (by decide) rfl (fun ls hl => ?_)
            refine lv_goto (tgt := 8) hx hb dX0_addLettersTo_64 (by decide) ?_
            exact ih _ _ H locs ls hf hW (lv_sub hl [2, 3, 4, 5, 0] rfl)
          · replace hf := (if_neg h).symm.trans hf
            refine lv_iload hx hb dX0_addLettersTo_38 (lv_at hl 0 rfl) ?_
            refine lv_aload_n hx hb dX0_addLettersTo_40 rfl (lv_at hl 1 rfl) ?_
            refine g_get C hW inX0 0 rfl rfl rfl 5 (by decide) (List.mem_of_getElem? (i := 1) rfl) (v := .ref (a0 5)) rfl dX0_addLettersTo_41 ?_
            refine g_alen C hW 0 5 0 rfl rfl rfl (v := (360 : Int32)) (by first | rfl | decide) dX0_addLettersTo_44 ?_
            refine lv_icmp_ge (tgt := 58) hx hb dX0_addLettersTo_45 (by decide) (fun h => ?_) (fun h => ?_)
            · replace hf := (if_pos h).symm.trans hf
              refine lv_iconst (v := (0 : Int32)) hx hb dX0_addLettersTo_58 (by decide) ?_
              refine lv_iadd hx hb dX0_addLettersTo_59 ?_
              obtain ⟨hi, hf⟩ := gd_of hf
              refine g_iast C hW 1 0 rfl (f := v1) rfl (ib_in hi) (ch' := [kX0 g a0 v0, [(a1, .inl (g.2.1, n1, .inl (upd v1 (Int32.toNatClampNeg x4) ((v1 (Int32.toNatClampNeg x4)) + (0 : Int32)))))]]) rfl dX0_addLettersTo_60 (fun H locs hW => ?_)
              refine lv_iinc (v := (x4 + 1)) (lv' := [(4, .int (x4 + 1)), (5, .int (x3 + x4)), (0, .ref (a0 0)), (1, .ref a1), (2, .int x2), (3, .int x3)]) hx hb dX0_addLettersTo_61 hl (k := 5) rfl (by first | rfl | decide) (by decide) rfl (fun ls hl => ?_)
              refine lv_goto (tgt := 8) hx hb dX0_addLettersTo_64 (by decide) ?_
              exact ih _ _ H locs ls hf hW (lv_sub hl [2, 3, 4, 5, 0] rfl)
            · replace hf := (if_neg h).symm.trans hf
              refine lv_aload_n hx hb dX0_addLettersTo_48 rfl (lv_at hl 1 rfl) ?_
              refine g_get C hW inX0 0 rfl rfl rfl 5 (by decide) (List.mem_of_getElem? (i := 1) rfl) (v := .ref (a0 5)) rfl dX0_addLettersTo_49 ?_
              refine lv_iload hx hb dX0_addLettersTo_52 (lv_at hl 0 rfl) ?_
              obtain ⟨hi, hf⟩ := gd_of hf
              refine g_iald C hW 0 5 rfl (f := (v0 5)) rfl (ib_in hi) dX0_addLettersTo_54 ?_
              refine lv_goto (tgt := 59) hx hb dX0_addLettersTo_55 (by decide) ?_
              refine lv_iadd hx hb dX0_addLettersTo_59 ?_
              obtain ⟨hi, hf⟩ := gd_of hf
              refine g_iast C hW 1 0 rfl (f := v1) rfl (ib_in hi) (ch' := [kX0 g a0 v0, [(a1, .inl (g.2.1, n1, .inl (upd v1 (Int32.toNatClampNeg x4) ((v1 (Int32.toNatClampNeg x4)) + ((v0 5) (Int32.toNatClampNeg (x3 + x4)))))))]]) rfl dX0_addLettersTo_60 (fun H locs hW => ?_)
              refine lv_iinc (v := (x4 + 1)) (lv' := [(4, .int (x4 + 1)), (5, .int (x3 + x4)), (0, .ref (a0 0)), (1, .ref a1), (2, .int x2), (3, .int x3)]) hx hb dX0_addLettersTo_61 hl (k := 5) rfl (by first | rfl | decide) (by decide) rfl (fun ls hl => ?_)
              refine lv_goto (tgt := 8) hx hb dX0_addLettersTo_64 (by decide) ?_
              exact ih _ _ H locs ls hf hW (lv_sub hl [2, 3, 4, 5, 0] rfl)
  rw [fX0_addLettersTo] at hf
  refine lv_iload_n hx hb dX0_addLettersTo_0 rfl (lv_at hl 2 rfl) ?_
  refine lv_bipush (v := (6 : Int32)) hx hb dX0_addLettersTo_1 (by decide) ?_
  refine lv_imul hx hb dX0_addLettersTo_3 ?_
  refine lv_istore_n (lv' := [(3, .int (x2 * (6 : Int32))), (0, .ref (a0 0)), (1, .ref a1), (2, .int x2)]) hx hb dX0_addLettersTo_4 rfl hl (by decide) rfl (fun ls hl => ?_)
  refine lv_iconst (v := (0 : Int32)) hx hb dX0_addLettersTo_5 (by decide) ?_
  refine lv_istore (lv' := [(4, .int (0 : Int32)), (3, .int (x2 * (6 : Int32))), (0, .ref (a0 0)), (1, .ref a1), (2, .int x2)]) hx hb dX0_addLettersTo_6 hl (by decide) rfl (fun ls hl => ?_)
  refine L8 x2 (x2 * (6 : Int32)) _ (fun x4_1 v1_1 H locs ls hf hW hl => ?_) N (0 : Int32) v1 H locs ls hf hW (lv_sub hl [2, 3, 4, 1, 0] rfl)
  obtain rfl := Option.some.inj hf
  subst hQ
  exact g_vret C hr hk0 hW rfl rfl dX0_addLettersTo_67
def fX0_allLetters_L10 (N : Nat) (k : Int32 → Int32 → Option (Int32)) (x1 : Int32) (x2 : Int32) (v0 : MM) : Nat → Int32 → Int32 → Option (Int32)
  | 0, _, _ => none
  | n + 1, x3, x4 => (if x4 < 0 then k x3 x4 else (if (x2 + (6 : Int32)) ≤ x4 then k x3 x4 else (if (360 : Int32) ≤ x4 then k x3 x4 else (if ib x4 360 = true then fX0_allLetters_L10 N k x1 x2 v0 n (x3 + ((v0 5) (Int32.toNatClampNeg x4))) (x4 + 1) else none))))
def fX0_allLetters (N : Nat) (x1 : Int32) (v0 : MM) : Option (Int32) := (fX0_allLetters_L10 N (fun (x3_1 : Int32) (x4_1 : Int32) => some x3_1) x1 (x1 * (6 : Int32)) v0 N (0 : Int32) (x1 * (6 : Int32)))
set_option maxHeartbeats 4000000 in
set_option maxRecDepth 100000 in
theorem ct_X0_allLetters (g : GT) (l : Launch) (N : Nat) (a0 : Nat → Nat) (x1 : Int32) (v0 : MM) {y : Int32} (hf : fX0_allLetters N x1 v0 = some y) : ct g l yX0_allLetters wsX0_allLetters (rmk 0 0) [.ref (a0 0), .int x1] [kX0 g a0 v0] (some (.int y)) [kX0 g a0 v0] := by
  refine ct_of (cc := cX0_allLetters) (maxL := 5) (ret := (some .int)) (by decide) rfl (Nat.le_of_ble_eq_true rfl) ?_
  intro p e s m args below meth c A ls C hr hk0 hA hW hl
  have hx := C.1.1
  have hb := C.1.2.1
  replace hl : lv_has ls 5 [(0, .ref (a0 0)), (1, .int x1)] := hl
  obtain ⟨Q, hQ⟩ : ∃ Q, Q = MQ below (ctQ g A (some (.int y)) [kX0 g a0 v0]) args s 0 0 A := ⟨_, rfl⟩
  rw [← hQ]
  obtain ⟨H, hH⟩ : ∃ H, H = s.heap := ⟨_, rfl⟩
  obtain ⟨locs, hL⟩ : ∃ locs : List Loc, locs = [] := ⟨_, rfl⟩
  replace hW : wd g A s.heap [kX0 g a0 v0] H locs := by rw [hH, hL]; exact hW
  suffices hG : W p l e (rmk 0 0) s m args below meth c H locs 0 0 Q (F0 m 0 ls []) by
    rw [hH, hL] at hG; exact hG
  clear hH hL
  have inX0 : ∀ w ∈ wsX00, w ∈ wsX0_allLetters := fun _ h => List.mem_cons_of_mem _ (List.mem_append_right _ (h))
  have L10 : ∀ (x1 : Int32) (x2 : Int32) (k : Int32 → Int32 → Option (Int32)) (hk : ∀ (x3 : Int32) (x4 : Int32) (H : Heap) (locs : List Loc) (ls : Array Slot), k x3 x4 = some y → wd g A s.heap [kX0 g a0 v0] H locs → lv_has ls 5 [(0, .ref (a0 0)), (1, .int x1), (2, .int x2), (3, .int x3), (4, .int x4)] → W p l e (rmk 0 0) s m args below meth c H locs 0 0 Q (F0 m 50 ls [])) (n : Nat) (x3 : Int32) (x4 : Int32) (H : Heap) (locs : List Loc) (ls : Array Slot), fX0_allLetters_L10 N k x1 x2 v0 n x3 x4 = some y → wd g A s.heap [kX0 g a0 v0] H locs → lv_has ls 5 [(0, .ref (a0 0)), (1, .int x1), (2, .int x2), (3, .int x3), (4, .int x4)] → W p l e (rmk 0 0) s m args below meth c H locs 0 0 Q (F0 m 10 ls []) := by
    intro x1 x2 k hk n
    induction n with
    | zero => intro x3 x4 H locs ls hf; rw [fX0_allLetters_L10] at hf; cases hf
    | succ n ih =>
      intro x3 x4 H locs ls hf hW hl
      rw [fX0_allLetters_L10] at hf
      refine lv_iload hx hb dX0_allLetters_10 (lv_at hl 4 rfl) ?_
      refine lv_if_lt (tgt := 50) hx hb dX0_allLetters_12 (by decide) (fun h => ?_) (fun h => ?_)
      · replace hf := (if_pos h).symm.trans hf
        exact hk _ _ H locs ls hf hW (lv_sub hl [0, 1, 2, 3, 4] rfl)
      · replace hf := (if_neg h).symm.trans hf
        refine lv_iload hx hb dX0_allLetters_15 (lv_at hl 4 rfl) ?_
        refine lv_iload_n hx hb dX0_allLetters_17 rfl (lv_at hl 2 rfl) ?_
        refine lv_bipush (v := (6 : Int32)) hx hb dX0_allLetters_18 (by decide) ?_
        refine lv_iadd hx hb dX0_allLetters_20 ?_
        refine lv_icmp_ge (tgt := 50) hx hb dX0_allLetters_21 (by decide) (fun h => ?_) (fun h => ?_)
        · replace hf := (if_pos h).symm.trans hf
          exact hk _ _ H locs ls hf hW (lv_sub hl [0, 1, 2, 3, 4] rfl)
        · replace hf := (if_neg h).symm.trans hf
          refine lv_iload hx hb dX0_allLetters_24 (lv_at hl 4 rfl) ?_
          refine lv_aload_n hx hb dX0_allLetters_26 rfl (lv_at hl 0 rfl) ?_
          refine g_get C hW inX0 0 rfl rfl rfl 5 (by decide) (List.mem_of_getElem? (i := 1) rfl) (v := .ref (a0 5)) rfl dX0_allLetters_27 ?_
          refine g_alen C hW 0 5 0 rfl rfl rfl (v := (360 : Int32)) (by first | rfl | decide) dX0_allLetters_30 ?_
          refine lv_icmp_ge (tgt := 50) hx hb dX0_allLetters_31 (by decide) (fun h => ?_) (fun h => ?_)
          · replace hf := (if_pos h).symm.trans hf
            exact hk _ _ H locs ls hf hW (lv_sub hl [0, 1, 2, 3, 4] rfl)
          · replace hf := (if_neg h).symm.trans hf
            refine lv_iload_n hx hb dX0_allLetters_34 rfl (lv_at hl 3 rfl) ?_
            refine lv_aload_n hx hb dX0_allLetters_35 rfl (lv_at hl 0 rfl) ?_
            refine g_get C hW inX0 0 rfl rfl rfl 5 (by decide) (List.mem_of_getElem? (i := 1) rfl) (v := .ref (a0 5)) rfl dX0_allLetters_36 ?_
            refine lv_iload hx hb dX0_allLetters_39 (lv_at hl 4 rfl) ?_
            obtain ⟨hi, hf⟩ := gd_of hf
            refine g_iald C hW 0 5 rfl (f := (v0 5)) rfl (ib_in hi) dX0_allLetters_41 ?_
            refine lv_iadd hx hb dX0_allLetters_42 ?_
            refine lv_istore_n (lv' := [(3, .int (x3 + ((v0 5) (Int32.toNatClampNeg x4)))), (0, .ref (a0 0)), (1, .int x1), (2, .int x2), (4, .int x4)]) hx hb dX0_allLetters_43 rfl hl (by decide) rfl (fun ls hl => ?_)
            refine lv_iinc (v := (x4 + 1)) (lv' := [(4, .int (x4 + 1)), (3, .int (x3 + ((v0 5) (Int32.toNatClampNeg x4)))), (0, .ref (a0 0)), (1, .int x1), (2, .int x2)]) hx hb dX0_allLetters_44 hl (k := 4) rfl (by first | rfl | decide) (by decide) rfl (fun ls hl => ?_)
            refine lv_goto (tgt := 10) hx hb dX0_allLetters_47 (by decide) ?_
            exact ih _ _ H locs ls hf hW (lv_sub hl [2, 3, 4, 1, 0] rfl)
  rw [fX0_allLetters] at hf
  refine lv_iload_n hx hb dX0_allLetters_0 rfl (lv_at hl 1 rfl) ?_
  refine lv_bipush (v := (6 : Int32)) hx hb dX0_allLetters_1 (by decide) ?_
  refine lv_imul hx hb dX0_allLetters_3 ?_
  refine lv_istore_n (lv' := [(2, .int (x1 * (6 : Int32))), (0, .ref (a0 0)), (1, .int x1)]) hx hb dX0_allLetters_4 rfl hl (by decide) rfl (fun ls hl => ?_)
  refine lv_iconst (v := (0 : Int32)) hx hb dX0_allLetters_5 (by decide) ?_
  refine lv_istore_n (lv' := [(3, .int (0 : Int32)), (2, .int (x1 * (6 : Int32))), (0, .ref (a0 0)), (1, .int x1)]) hx hb dX0_allLetters_6 rfl hl (by decide) rfl (fun ls hl => ?_)
  refine lv_iload_n hx hb dX0_allLetters_7 rfl (lv_at hl 1 rfl) ?_
  refine lv_istore (lv' := [(4, .int (x1 * (6 : Int32))), (3, .int (0 : Int32)), (2, .int (x1 * (6 : Int32))), (0, .ref (a0 0)), (1, .int x1)]) hx hb dX0_allLetters_8 hl (by decide) rfl (fun ls hl => ?_)
  refine L10 x1 (x1 * (6 : Int32)) _ (fun x3_1 x4_1 H locs ls hf hW hl => ?_) N (0 : Int32) (x1 * (6 : Int32)) H locs ls hf hW (lv_sub hl [3, 4, 2, 1, 0] rfl)
  refine lv_iload_n hx hb dX0_allLetters_50 rfl (lv_at hl 3 rfl) ?_
  obtain rfl := Option.some.inj hf
  subst hQ
  exact g_iret C hr hk0 hW rfl rfl dX0_allLetters_51
def fX0_putReport (N : Nat) (x1 : Int32) (x2 : Int32) (v0 : MM) : Option (MM) := (if x1 < 0 then some v0 else (if (60 : Int32) ≤ x1 then some v0 else (if ib x1 60 = true then some (st v0 4 (upd (v0 4) (Int32.toNatClampNeg x1) x2)) else none)))
set_option maxHeartbeats 4000000 in
set_option maxRecDepth 100000 in
theorem ct_X0_putReport (g : GT) (l : Launch) (N : Nat) (a0 : Nat → Nat) (x1 : Int32) (x2 : Int32) (v0 : MM) {y : MM} (hf : fX0_putReport N x1 x2 v0 = some y) : ct g l yX0_putReport wsX0_putReport (rmk 0 0) [.ref (a0 0), .int x1, .int x2] [kX0 g a0 v0] none [kX0 g a0 y] := by
  refine ct_of (cc := cX0_putReport) (maxL := 3) (ret := none) (by decide) rfl (Nat.le_of_ble_eq_true rfl) ?_
  intro p e s m args below meth c A ls C hr hk0 hA hW hl
  have hx := C.1.1
  have hb := C.1.2.1
  replace hl : lv_has ls 3 [(0, .ref (a0 0)), (1, .int x1), (2, .int x2)] := hl
  obtain ⟨Q, hQ⟩ : ∃ Q, Q = MQ below (ctQ g A none [kX0 g a0 y]) args s 0 0 A := ⟨_, rfl⟩
  rw [← hQ]
  obtain ⟨H, hH⟩ : ∃ H, H = s.heap := ⟨_, rfl⟩
  obtain ⟨locs, hL⟩ : ∃ locs : List Loc, locs = [] := ⟨_, rfl⟩
  replace hW : wd g A s.heap [kX0 g a0 v0] H locs := by rw [hH, hL]; exact hW
  suffices hG : W p l e (rmk 0 0) s m args below meth c H locs 0 0 Q (F0 m 0 ls []) by
    rw [hH, hL] at hG; exact hG
  clear hH hL
  have inX0 : ∀ w ∈ wsX00, w ∈ wsX0_putReport := fun _ h => List.mem_cons_of_mem _ (List.mem_append_right _ (h))
  rw [fX0_putReport] at hf
  refine lv_iload_n hx hb dX0_putReport_0 rfl (lv_at hl 1 rfl) ?_
  refine lv_if_lt (tgt := 17) hx hb dX0_putReport_1 (by decide) (fun h => ?_) (fun h => ?_)
  · replace hf := (if_pos h).symm.trans hf
    obtain rfl := Option.some.inj hf
    subst hQ
    exact g_vret C hr hk0 hW rfl rfl dX0_putReport_17
  · replace hf := (if_neg h).symm.trans hf
    refine lv_iload_n hx hb dX0_putReport_4 rfl (lv_at hl 1 rfl) ?_
    refine lv_bipush (v := (60 : Int32)) hx hb dX0_putReport_5 (by decide) ?_
    refine lv_icmp_ge (tgt := 17) hx hb dX0_putReport_7 (by decide) (fun h => ?_) (fun h => ?_)
    · replace hf := (if_pos h).symm.trans hf
      obtain rfl := Option.some.inj hf
      subst hQ
      exact g_vret C hr hk0 hW rfl rfl dX0_putReport_17
    · replace hf := (if_neg h).symm.trans hf
      refine lv_aload_n hx hb dX0_putReport_10 rfl (lv_at hl 0 rfl) ?_
      refine g_get C hW inX0 0 rfl rfl rfl 4 (by decide) (List.mem_of_getElem? (i := 1) rfl) (v := .ref (a0 4)) rfl dX0_putReport_11 ?_
      refine lv_iload_n hx hb dX0_putReport_14 rfl (lv_at hl 1 rfl) ?_
      refine lv_iload_n hx hb dX0_putReport_15 rfl (lv_at hl 2 rfl) ?_
      obtain ⟨hi, hf⟩ := gd_of hf
      refine g_iast C hW 0 4 rfl (f := (v0 4)) rfl (ib_in hi) (ch' := [kX0 g a0 (st v0 4 (upd (v0 4) (Int32.toNatClampNeg x1) x2))]) rfl dX0_putReport_16 (fun H locs hW => ?_)
      obtain rfl := Option.some.inj hf
      subst hQ
      exact g_vret C hr hk0 hW rfl rfl dX0_putReport_17
def fX0_reportOf (N : Nat) (x1 : Int32) (v0 : MM) : Option (Int32) := (if x1 < 0 then some (-9 : Int32) else (if (60 : Int32) ≤ x1 then some (-9 : Int32) else (if ib x1 60 = true then some ((v0 4) (Int32.toNatClampNeg x1)) else none)))
set_option maxHeartbeats 4000000 in
set_option maxRecDepth 100000 in
theorem ct_X0_reportOf (g : GT) (l : Launch) (N : Nat) (a0 : Nat → Nat) (x1 : Int32) (v0 : MM) {y : Int32} (hf : fX0_reportOf N x1 v0 = some y) : ct g l yX0_reportOf wsX0_reportOf (rmk 0 0) [.ref (a0 0), .int x1] [kX0 g a0 v0] (some (.int y)) [kX0 g a0 v0] := by
  refine ct_of (cc := cX0_reportOf) (maxL := 2) (ret := (some .int)) (by decide) rfl (Nat.le_of_ble_eq_true rfl) ?_
  intro p e s m args below meth c A ls C hr hk0 hA hW hl
  have hx := C.1.1
  have hb := C.1.2.1
  replace hl : lv_has ls 2 [(0, .ref (a0 0)), (1, .int x1)] := hl
  obtain ⟨Q, hQ⟩ : ∃ Q, Q = MQ below (ctQ g A (some (.int y)) [kX0 g a0 v0]) args s 0 0 A := ⟨_, rfl⟩
  rw [← hQ]
  obtain ⟨H, hH⟩ : ∃ H, H = s.heap := ⟨_, rfl⟩
  obtain ⟨locs, hL⟩ : ∃ locs : List Loc, locs = [] := ⟨_, rfl⟩
  replace hW : wd g A s.heap [kX0 g a0 v0] H locs := by rw [hH, hL]; exact hW
  suffices hG : W p l e (rmk 0 0) s m args below meth c H locs 0 0 Q (F0 m 0 ls []) by
    rw [hH, hL] at hG; exact hG
  clear hH hL
  have inX0 : ∀ w ∈ wsX00, w ∈ wsX0_reportOf := fun _ h => List.mem_cons_of_mem _ (List.mem_append_right _ (h))
  rw [fX0_reportOf] at hf
  refine lv_iload_n hx hb dX0_reportOf_0 rfl (lv_at hl 1 rfl) ?_
  refine lv_if_lt (tgt := 19) hx hb dX0_reportOf_1 (by decide) (fun h => ?_) (fun h => ?_)
  · replace hf := (if_pos h).symm.trans hf
    refine lv_bipush (v := (-9 : Int32)) hx hb dX0_reportOf_19 (by decide) ?_
    obtain rfl := Option.some.inj hf
    subst hQ
    exact g_iret C hr hk0 hW rfl rfl dX0_reportOf_21
  · replace hf := (if_neg h).symm.trans hf
    refine lv_iload_n hx hb dX0_reportOf_4 rfl (lv_at hl 1 rfl) ?_
    refine lv_bipush (v := (60 : Int32)) hx hb dX0_reportOf_5 (by decide) ?_
    refine lv_icmp_ge (tgt := 19) hx hb dX0_reportOf_7 (by decide) (fun h => ?_) (fun h => ?_)
    · replace hf := (if_pos h).symm.trans hf
      refine lv_bipush (v := (-9 : Int32)) hx hb dX0_reportOf_19 (by decide) ?_
      obtain rfl := Option.some.inj hf
      subst hQ
      exact g_iret C hr hk0 hW rfl rfl dX0_reportOf_21
    · replace hf := (if_neg h).symm.trans hf
      refine lv_aload_n hx hb dX0_reportOf_10 rfl (lv_at hl 0 rfl) ?_
      refine g_get C hW inX0 0 rfl rfl rfl 4 (by decide) (List.mem_of_getElem? (i := 1) rfl) (v := .ref (a0 4)) rfl dX0_reportOf_11 ?_
      refine lv_iload_n hx hb dX0_reportOf_14 rfl (lv_at hl 1 rfl) ?_
      obtain ⟨hi, hf⟩ := gd_of hf
      refine g_iald C hW 0 4 rfl (f := (v0 4)) rfl (ib_in hi) dX0_reportOf_15 ?_
      refine lv_goto (tgt := 21) hx hb dX0_reportOf_16 (by decide) ?_
      obtain rfl := Option.some.inj hf
      subst hQ
      exact g_iret C hr hk0 hW rfl rfl dX0_reportOf_21
def fX0_content (N : Nat) (x1 : Int32) (v0 : MM) : Option (Int32) := ((fX0_allLetters N x1 v0).bind (fun y1 => ((fX0_reportOf N x1 v0).bind (fun y2 => (if y2 = (-9 : Int32) then some (y1 + (0 : Int32)) else some (y1 + (2 : Int32)))))))
set_option maxHeartbeats 4000000 in
set_option maxRecDepth 100000 in
theorem ct_X0_content (g : GT) (l : Launch) (N : Nat) (a0 : Nat → Nat) (x1 : Int32) (v0 : MM) {y : Int32} (hf : fX0_content N x1 v0 = some y) : ct g l yX0_content wsX0_content (rmk 1 24) [.ref (a0 0), .int x1] [kX0 g a0 v0] (some (.int y)) [kX0 g a0 v0] := by
  refine ct_of (cc := cX0_content) (maxL := 2) (ret := (some .int)) (by decide) rfl (Nat.le_of_ble_eq_true rfl) ?_
  intro p e s m args below meth c A ls C hr hk0 hA hW hl
  have hx := C.1.1
  have hb := C.1.2.1
  replace hl : lv_has ls 2 [(0, .ref (a0 0)), (1, .int x1)] := hl
  obtain ⟨Q, hQ⟩ : ∃ Q, Q = MQ below (ctQ g A (some (.int y)) [kX0 g a0 v0]) args s 0 0 A := ⟨_, rfl⟩
  rw [← hQ]
  obtain ⟨H, hH⟩ : ∃ H, H = s.heap := ⟨_, rfl⟩
  obtain ⟨locs, hL⟩ : ∃ locs : List Loc, locs = [] := ⟨_, rfl⟩
  replace hW : wd g A s.heap [kX0 g a0 v0] H locs := by rw [hH, hL]; exact hW
  suffices hG : W p l e (rmk 1 24) s m args below meth c H locs 0 0 Q (F0 m 0 ls []) by
    rw [hH, hL] at hG; exact hG
  clear hH hL
  rw [fX0_content] at hf
  refine lv_aload_n hx hb dX0_content_0 rfl (lv_at hl 0 rfl) ?_
  refine lv_iload_n hx hb dX0_content_1 rfl (lv_at hl 1 rfl) ?_
  obtain ⟨y1, hc, hf⟩ := bd_of hf
  refine g_cV (Cn := RX0) C (ct_X0_allLetters g l N a0 x1 v0 hc) gX0_content_X0_allLetters rfl 1 (by decide +kernel) ⟨rfl, rfl, ⟨Nat.le_of_ble_eq_true rfl, Nat.le_of_ble_eq_true rfl⟩, Nat.le_of_ble_eq_true rfl, Nat.le_of_ble_eq_true rfl⟩ rfl hl (Nat.le_of_ble_eq_true rfl) dX0_content_2 rfl hW hA [0] rfl rfl rfl (ch' := [kX0 g a0 v0]) rfl 0 rfl rfl rfl (fun H locs hW => ?_)
  refine lv_aload_n hx hb dX0_content_5 rfl (lv_at hl 0 rfl) ?_
  refine lv_iload_n hx hb dX0_content_6 rfl (lv_at hl 1 rfl) ?_
  obtain ⟨y2, hc, hf⟩ := bd_of hf
  refine g_cV (Cn := RX0) C (ct_X0_reportOf g l N a0 x1 v0 hc) gX0_content_X0_reportOf rfl 1 (by decide +kernel) ⟨rfl, rfl, ⟨Nat.le_of_ble_eq_true rfl, Nat.le_of_ble_eq_true rfl⟩, Nat.le_of_ble_eq_true rfl, Nat.le_of_ble_eq_true rfl⟩ rfl hl (Nat.le_of_ble_eq_true rfl) dX0_content_7 rfl hW hA [0] rfl rfl rfl (ch' := [kX0 g a0 v0]) rfl 0 rfl rfl rfl (fun H locs hW => ?_)
  refine lv_bipush (v := (-9 : Int32)) hx hb dX0_content_10 (by decide) ?_
  refine lv_icmp_ne (tgt := 19) hx hb dX0_content_12 (by decide) (fun h => ?_) (fun h => ?_)
  · replace hf := (if_neg h).symm.trans hf
    refine lv_iconst (v := (2 : Int32)) hx hb dX0_content_19 (by decide) ?_
    refine lv_iadd hx hb dX0_content_20 ?_
    obtain rfl := Option.some.inj hf
    subst hQ
    exact g_iret C hr hk0 hW rfl rfl dX0_content_21
  · replace hf := (if_pos h).symm.trans hf
    refine lv_iconst (v := (0 : Int32)) hx hb dX0_content_15 (by decide) ?_
    refine lv_goto (tgt := 20) hx hb dX0_content_16 (by decide) ?_
    refine lv_iadd hx hb dX0_content_20 ?_
    obtain rfl := Option.some.inj hf
    subst hQ
    exact g_iret C hr hk0 hW rfl rfl dX0_content_21
def fX0_countSending (N : Nat) (x1 : Int32) (v0 : MM) : Option (Int32 × MM) := (if x1 < 0 then some ((0 : Int32), v0) else (if x1 < (60 : Int32) then (if ib x1 60 = true then (if ib x1 60 = true then (if ib x1 60 = true then some (((upd (v0 3) (Int32.toNatClampNeg x1) (((v0 3) (Int32.toNatClampNeg x1)) + (1 : Int32))) (Int32.toNatClampNeg x1)), (st v0 3 (upd (v0 3) (Int32.toNatClampNeg x1) (((v0 3) (Int32.toNatClampNeg x1)) + (1 : Int32))))) else none) else none) else none) else some ((0 : Int32), v0)))
set_option maxHeartbeats 4000000 in
set_option maxRecDepth 100000 in
theorem ct_X0_countSending (g : GT) (l : Launch) (N : Nat) (a0 : Nat → Nat) (x1 : Int32) (v0 : MM) {y : Int32 × MM} (hf : fX0_countSending N x1 v0 = some y) : ct g l yX0_countSending wsX0_countSending (rmk 0 0) [.ref (a0 0), .int x1] [kX0 g a0 v0] (some (.int y.1)) [kX0 g a0 y.2] := by
  refine ct_of (cc := cX0_countSending) (maxL := 2) (ret := (some .int)) (by decide) rfl (Nat.le_of_ble_eq_true rfl) ?_
  intro p e s m args below meth c A ls C hr hk0 hA hW hl
  have hx := C.1.1
  have hb := C.1.2.1
  replace hl : lv_has ls 2 [(0, .ref (a0 0)), (1, .int x1)] := hl
  obtain ⟨Q, hQ⟩ : ∃ Q, Q = MQ below (ctQ g A (some (.int y.1)) [kX0 g a0 y.2]) args s 0 0 A := ⟨_, rfl⟩
  rw [← hQ]
  obtain ⟨H, hH⟩ : ∃ H, H = s.heap := ⟨_, rfl⟩
  obtain ⟨locs, hL⟩ : ∃ locs : List Loc, locs = [] := ⟨_, rfl⟩
  replace hW : wd g A s.heap [kX0 g a0 v0] H locs := by rw [hH, hL]; exact hW
  suffices hG : W p l e (rmk 0 0) s m args below meth c H locs 0 0 Q (F0 m 0 ls []) by
    rw [hH, hL] at hG; exact hG
  clear hH hL
  have inX0 : ∀ w ∈ wsX00, w ∈ wsX0_countSending := fun _ h => List.mem_cons_of_mem _ (List.mem_append_right _ (h))
  rw [fX0_countSending] at hf
  refine lv_iload_n hx hb dX0_countSending_0 rfl (lv_at hl 1 rfl) ?_
  refine lv_if_lt (tgt := 10) hx hb dX0_countSending_1 (by decide) (fun h => ?_) (fun h => ?_)
  · replace hf := (if_pos h).symm.trans hf
    refine lv_iconst (v := (0 : Int32)) hx hb dX0_countSending_10 (by decide) ?_
    obtain rfl := Option.some.inj hf
    subst hQ
    exact g_iret C hr hk0 hW rfl rfl dX0_countSending_11
  · replace hf := (if_neg h).symm.trans hf
    refine lv_iload_n hx hb dX0_countSending_4 rfl (lv_at hl 1 rfl) ?_
    refine lv_bipush (v := (60 : Int32)) hx hb dX0_countSending_5 (by decide) ?_
    refine lv_icmp_lt (tgt := 12) hx hb dX0_countSending_7 (by decide) (fun h => ?_) (fun h => ?_)
    · replace hf := (if_pos h).symm.trans hf
      refine lv_aload_n hx hb dX0_countSending_12 rfl (lv_at hl 0 rfl) ?_
      refine g_get C hW inX0 0 rfl rfl rfl 3 (by decide) (List.mem_of_getElem? (i := 1) rfl) (v := .ref (a0 3)) rfl dX0_countSending_13 ?_
      refine lv_iload_n hx hb dX0_countSending_16 rfl (lv_at hl 1 rfl) ?_
      refine lv_dup2_11 hx hb dX0_countSending_17 rfl rfl ?_
      obtain ⟨hi, hf⟩ := gd_of hf
      refine g_iald C hW 0 3 rfl (f := (v0 3)) rfl (ib_in hi) dX0_countSending_18 ?_
      refine lv_iconst (v := (1 : Int32)) hx hb dX0_countSending_19 (by decide) ?_
      refine lv_iadd hx hb dX0_countSending_20 ?_
      obtain ⟨hi, hf⟩ := gd_of hf
      refine g_iast C hW 0 3 rfl (f := (v0 3)) rfl (ib_in hi) (ch' := [kX0 g a0 (st v0 3 (upd (v0 3) (Int32.toNatClampNeg x1) (((v0 3) (Int32.toNatClampNeg x1)) + (1 : Int32))))]) rfl dX0_countSending_21 (fun H locs hW => ?_)
      refine lv_aload_n hx hb dX0_countSending_22 rfl (lv_at hl 0 rfl) ?_
      refine g_get C hW inX0 0 rfl rfl rfl 3 (by decide) (List.mem_of_getElem? (i := 1) rfl) (v := .ref (a0 3)) rfl dX0_countSending_23 ?_
      refine lv_iload_n hx hb dX0_countSending_26 rfl (lv_at hl 1 rfl) ?_
      obtain ⟨hi, hf⟩ := gd_of hf
      refine g_iald C hW 0 3 rfl (f := (upd (v0 3) (Int32.toNatClampNeg x1) (((v0 3) (Int32.toNatClampNeg x1)) + (1 : Int32)))) rfl (ib_in hi) dX0_countSending_27 ?_
      obtain rfl := Option.some.inj hf
      subst hQ
      exact g_iret C hr hk0 hW rfl rfl dX0_countSending_28
    · replace hf := (if_neg h).symm.trans hf
      refine lv_iconst (v := (0 : Int32)) hx hb dX0_countSending_10 (by decide) ?_
      obtain rfl := Option.some.inj hf
      subst hQ
      exact g_iret C hr hk0 hW rfl rfl dX0_countSending_11
def fX0_putDue (N : Nat) (x1 : Int32) (x2 : Int32) (v0 : MM) : Option (MM) := (if x1 < 0 then some v0 else (if (60 : Int32) ≤ x1 then some v0 else (if ib x1 60 = true then some (st v0 2 (upd (v0 2) (Int32.toNatClampNeg x1) x2)) else none)))
set_option maxHeartbeats 4000000 in
set_option maxRecDepth 100000 in
theorem ct_X0_putDue (g : GT) (l : Launch) (N : Nat) (a0 : Nat → Nat) (x1 : Int32) (x2 : Int32) (v0 : MM) {y : MM} (hf : fX0_putDue N x1 x2 v0 = some y) : ct g l yX0_putDue wsX0_putDue (rmk 0 0) [.ref (a0 0), .int x1, .int x2] [kX0 g a0 v0] none [kX0 g a0 y] := by
  refine ct_of (cc := cX0_putDue) (maxL := 3) (ret := none) (by decide) rfl (Nat.le_of_ble_eq_true rfl) ?_
  intro p e s m args below meth c A ls C hr hk0 hA hW hl
  have hx := C.1.1
  have hb := C.1.2.1
  replace hl : lv_has ls 3 [(0, .ref (a0 0)), (1, .int x1), (2, .int x2)] := hl
  obtain ⟨Q, hQ⟩ : ∃ Q, Q = MQ below (ctQ g A none [kX0 g a0 y]) args s 0 0 A := ⟨_, rfl⟩
  rw [← hQ]
  obtain ⟨H, hH⟩ : ∃ H, H = s.heap := ⟨_, rfl⟩
  obtain ⟨locs, hL⟩ : ∃ locs : List Loc, locs = [] := ⟨_, rfl⟩
  replace hW : wd g A s.heap [kX0 g a0 v0] H locs := by rw [hH, hL]; exact hW
  suffices hG : W p l e (rmk 0 0) s m args below meth c H locs 0 0 Q (F0 m 0 ls []) by
    rw [hH, hL] at hG; exact hG
  clear hH hL
  have inX0 : ∀ w ∈ wsX00, w ∈ wsX0_putDue := fun _ h => List.mem_cons_of_mem _ (List.mem_append_right _ (h))
  rw [fX0_putDue] at hf
  refine lv_iload_n hx hb dX0_putDue_0 rfl (lv_at hl 1 rfl) ?_
  refine lv_if_lt (tgt := 17) hx hb dX0_putDue_1 (by decide) (fun h => ?_) (fun h => ?_)
  · replace hf := (if_pos h).symm.trans hf
    obtain rfl := Option.some.inj hf
    subst hQ
    exact g_vret C hr hk0 hW rfl rfl dX0_putDue_17
  · replace hf := (if_neg h).symm.trans hf
    refine lv_iload_n hx hb dX0_putDue_4 rfl (lv_at hl 1 rfl) ?_
    refine lv_bipush (v := (60 : Int32)) hx hb dX0_putDue_5 (by decide) ?_
    refine lv_icmp_ge (tgt := 17) hx hb dX0_putDue_7 (by decide) (fun h => ?_) (fun h => ?_)
    · replace hf := (if_pos h).symm.trans hf
      obtain rfl := Option.some.inj hf
      subst hQ
      exact g_vret C hr hk0 hW rfl rfl dX0_putDue_17
    · replace hf := (if_neg h).symm.trans hf
      refine lv_aload_n hx hb dX0_putDue_10 rfl (lv_at hl 0 rfl) ?_
      refine g_get C hW inX0 0 rfl rfl rfl 2 (by decide) (List.mem_of_getElem? (i := 1) rfl) (v := .ref (a0 2)) rfl dX0_putDue_11 ?_
      refine lv_iload_n hx hb dX0_putDue_14 rfl (lv_at hl 1 rfl) ?_
      refine lv_iload_n hx hb dX0_putDue_15 rfl (lv_at hl 2 rfl) ?_
      obtain ⟨hi, hf⟩ := gd_of hf
      refine g_iast C hW 0 2 rfl (f := (v0 2)) rfl (ib_in hi) (ch' := [kX0 g a0 (st v0 2 (upd (v0 2) (Int32.toNatClampNeg x1) x2))]) rfl dX0_putDue_16 (fun H locs hW => ?_)
      obtain rfl := Option.some.inj hf
      subst hQ
      exact g_vret C hr hk0 hW rfl rfl dX0_putDue_17
def fX0_markGone (N : Nat) (x1 : Int32) (v0 : MM) : Option (MM) := (if x1 < 0 then some v0 else (if (60 : Int32) ≤ x1 then some v0 else (if ib x1 60 = true then some (st v0 2 (upd (v0 2) (Int32.toNatClampNeg x1) (-1 : Int32))) else none)))
set_option maxHeartbeats 4000000 in
set_option maxRecDepth 100000 in
theorem ct_X0_markGone (g : GT) (l : Launch) (N : Nat) (a0 : Nat → Nat) (x1 : Int32) (v0 : MM) {y : MM} (hf : fX0_markGone N x1 v0 = some y) : ct g l yX0_markGone wsX0_markGone (rmk 0 0) [.ref (a0 0), .int x1] [kX0 g a0 v0] none [kX0 g a0 y] := by
  refine ct_of (cc := cX0_markGone) (maxL := 2) (ret := none) (by decide) rfl (Nat.le_of_ble_eq_true rfl) ?_
  intro p e s m args below meth c A ls C hr hk0 hA hW hl
  have hx := C.1.1
  have hb := C.1.2.1
  replace hl : lv_has ls 2 [(0, .ref (a0 0)), (1, .int x1)] := hl
  obtain ⟨Q, hQ⟩ : ∃ Q, Q = MQ below (ctQ g A none [kX0 g a0 y]) args s 0 0 A := ⟨_, rfl⟩
  rw [← hQ]
  obtain ⟨H, hH⟩ : ∃ H, H = s.heap := ⟨_, rfl⟩
  obtain ⟨locs, hL⟩ : ∃ locs : List Loc, locs = [] := ⟨_, rfl⟩
  replace hW : wd g A s.heap [kX0 g a0 v0] H locs := by rw [hH, hL]; exact hW
  suffices hG : W p l e (rmk 0 0) s m args below meth c H locs 0 0 Q (F0 m 0 ls []) by
    rw [hH, hL] at hG; exact hG
  clear hH hL
  have inX0 : ∀ w ∈ wsX00, w ∈ wsX0_markGone := fun _ h => List.mem_cons_of_mem _ (List.mem_append_right _ (h))
  rw [fX0_markGone] at hf
  refine lv_iload_n hx hb dX0_markGone_0 rfl (lv_at hl 1 rfl) ?_
  refine lv_if_lt (tgt := 17) hx hb dX0_markGone_1 (by decide) (fun h => ?_) (fun h => ?_)
  · replace hf := (if_pos h).symm.trans hf
    obtain rfl := Option.some.inj hf
    subst hQ
    exact g_vret C hr hk0 hW rfl rfl dX0_markGone_17
  · replace hf := (if_neg h).symm.trans hf
    refine lv_iload_n hx hb dX0_markGone_4 rfl (lv_at hl 1 rfl) ?_
    refine lv_bipush (v := (60 : Int32)) hx hb dX0_markGone_5 (by decide) ?_
    refine lv_icmp_ge (tgt := 17) hx hb dX0_markGone_7 (by decide) (fun h => ?_) (fun h => ?_)
    · replace hf := (if_pos h).symm.trans hf
      obtain rfl := Option.some.inj hf
      subst hQ
      exact g_vret C hr hk0 hW rfl rfl dX0_markGone_17
    · replace hf := (if_neg h).symm.trans hf
      refine lv_aload_n hx hb dX0_markGone_10 rfl (lv_at hl 0 rfl) ?_
      refine g_get C hW inX0 0 rfl rfl rfl 2 (by decide) (List.mem_of_getElem? (i := 1) rfl) (v := .ref (a0 2)) rfl dX0_markGone_11 ?_
      refine lv_iload_n hx hb dX0_markGone_14 rfl (lv_at hl 1 rfl) ?_
      refine lv_iconst (v := (-1 : Int32)) hx hb dX0_markGone_15 (by decide) ?_
      obtain ⟨hi, hf⟩ := gd_of hf
      refine g_iast C hW 0 2 rfl (f := (v0 2)) rfl (ib_in hi) (ch' := [kX0 g a0 (st v0 2 (upd (v0 2) (Int32.toNatClampNeg x1) (-1 : Int32)))]) rfl dX0_markGone_16 (fun H locs hW => ?_)
      obtain rfl := Option.some.inj hf
      subst hQ
      exact g_vret C hr hk0 hW rfl rfl dX0_markGone_17
def fX0_move_L66 (N : Nat) (k : Int32 → MM → Option (MM)) (x1 : Int32) (x2 : Int32) : Nat → Int32 → MM → Option (MM)
  | 0, _, _ => none
  | n + 1, x3, v0 => (if (6 : Int32) ≤ x3 then k x3 v0 else (if ib ((x1 * (6 : Int32)) + x3) 360 = true then (if ib ((x2 * (6 : Int32)) + x3) 360 = true then fX0_move_L66 N k x1 x2 n (x3 + 1) (st v0 5 (upd (v0 5) (Int32.toNatClampNeg ((x2 * (6 : Int32)) + x3)) ((v0 5) (Int32.toNatClampNeg ((x1 * (6 : Int32)) + x3))))) else none) else none))
def fX0_move (N : Nat) (x1 : Int32) (x2 : Int32) (v0 : MM) : Option (MM) := (if x2 < 0 then some v0 else (if x1 ≤ x2 then some v0 else (if x1 < (60 : Int32) then (if ib x1 60 = true then (if ib x2 60 = true then (if ib x1 60 = true then (if ib x2 60 = true then (if ib x1 60 = true then (if ib x2 60 = true then (if ib x1 60 = true then (if ib x2 60 = true then (fX0_move_L66 N (fun (x3_1 : Int32) (v0_1 : MM) => some v0_1) x1 x2 N (0 : Int32) (st (st (st (st v0 1 (upd (v0 1) (Int32.toNatClampNeg x2) ((v0 1) (Int32.toNatClampNeg x1)))) 2 (upd (v0 2) (Int32.toNatClampNeg x2) ((v0 2) (Int32.toNatClampNeg x1)))) 3 (upd (v0 3) (Int32.toNatClampNeg x2) ((v0 3) (Int32.toNatClampNeg x1)))) 4 (upd (v0 4) (Int32.toNatClampNeg x2) ((v0 4) (Int32.toNatClampNeg x1))))) else none) else none) else none) else none) else none) else none) else none) else none) else some v0)))
set_option maxHeartbeats 4000000 in
set_option maxRecDepth 100000 in
theorem ct_X0_move (g : GT) (l : Launch) (N : Nat) (a0 : Nat → Nat) (x1 : Int32) (x2 : Int32) (v0 : MM) {y : MM} (hf : fX0_move N x1 x2 v0 = some y) : ct g l yX0_move wsX0_move (rmk 0 0) [.ref (a0 0), .int x1, .int x2] [kX0 g a0 v0] none [kX0 g a0 y] := by
  refine ct_of (cc := cX0_move) (maxL := 4) (ret := none) (by decide) rfl (Nat.le_of_ble_eq_true rfl) ?_
  intro p e s m args below meth c A ls C hr hk0 hA hW hl
  have hx := C.1.1
  have hb := C.1.2.1
  replace hl : lv_has ls 4 [(0, .ref (a0 0)), (1, .int x1), (2, .int x2)] := hl
  obtain ⟨Q, hQ⟩ : ∃ Q, Q = MQ below (ctQ g A none [kX0 g a0 y]) args s 0 0 A := ⟨_, rfl⟩
  rw [← hQ]
  obtain ⟨H, hH⟩ : ∃ H, H = s.heap := ⟨_, rfl⟩
  obtain ⟨locs, hL⟩ : ∃ locs : List Loc, locs = [] := ⟨_, rfl⟩
  replace hW : wd g A s.heap [kX0 g a0 v0] H locs := by rw [hH, hL]; exact hW
  suffices hG : W p l e (rmk 0 0) s m args below meth c H locs 0 0 Q (F0 m 0 ls []) by
    rw [hH, hL] at hG; exact hG
  clear hH hL
  have inX0 : ∀ w ∈ wsX00, w ∈ wsX0_move := fun _ h => List.mem_cons_of_mem _ (List.mem_append_right _ (h))
  have L66 : ∀ (x1 : Int32) (x2 : Int32) (k : Int32 → MM → Option (MM)) (hk : ∀ (x3 : Int32) (v0 : MM) (H : Heap) (locs : List Loc) (ls : Array Slot), k x3 v0 = some y → wd g A s.heap [kX0 g a0 v0] H locs → lv_has ls 4 [(0, .ref (a0 0)), (1, .int x1), (2, .int x2), (3, .int x3)] → W p l e (rmk 0 0) s m args below meth c H locs 0 0 Q (F0 m 100 ls [])) (n : Nat) (x3 : Int32) (v0 : MM) (H : Heap) (locs : List Loc) (ls : Array Slot), fX0_move_L66 N k x1 x2 n x3 v0 = some y → wd g A s.heap [kX0 g a0 v0] H locs → lv_has ls 4 [(0, .ref (a0 0)), (1, .int x1), (2, .int x2), (3, .int x3)] → W p l e (rmk 0 0) s m args below meth c H locs 0 0 Q (F0 m 66 ls []) := by
    intro x1 x2 k hk n
    induction n with
    | zero => intro x3 v0 H locs ls hf; rw [fX0_move_L66] at hf; cases hf
    | succ n ih =>
      intro x3 v0 H locs ls hf hW hl
      rw [fX0_move_L66] at hf
      refine lv_iload_n hx hb dX0_move_66 rfl (lv_at hl 3 rfl) ?_
      refine lv_bipush (v := (6 : Int32)) hx hb dX0_move_67 (by decide) ?_
      refine lv_icmp_ge (tgt := 100) hx hb dX0_move_69 (by decide) (fun h => ?_) (fun h => ?_)
      · replace hf := (if_pos h).symm.trans hf
        exact hk _ _ H locs ls hf hW (lv_sub hl [0, 1, 2, 3] rfl)
      · replace hf := (if_neg h).symm.trans hf
        refine lv_aload_n hx hb dX0_move_72 rfl (lv_at hl 0 rfl) ?_
        refine g_get C hW inX0 0 rfl rfl rfl 5 (by decide) (List.mem_of_getElem? (i := 5) rfl) (v := .ref (a0 5)) rfl dX0_move_73 ?_
        refine lv_iload_n hx hb dX0_move_76 rfl (lv_at hl 2 rfl) ?_
        refine lv_bipush (v := (6 : Int32)) hx hb dX0_move_77 (by decide) ?_
        refine lv_imul hx hb dX0_move_79 ?_
        refine lv_iload_n hx hb dX0_move_80 rfl (lv_at hl 3 rfl) ?_
        refine lv_iadd hx hb dX0_move_81 ?_
        refine lv_aload_n hx hb dX0_move_82 rfl (lv_at hl 0 rfl) ?_
        refine g_get C hW inX0 0 rfl rfl rfl 5 (by decide) (List.mem_of_getElem? (i := 5) rfl) (v := .ref (a0 5)) rfl dX0_move_83 ?_
        refine lv_iload_n hx hb dX0_move_86 rfl (lv_at hl 1 rfl) ?_
        refine lv_bipush (v := (6 : Int32)) hx hb dX0_move_87 (by decide) ?_
        refine lv_imul hx hb dX0_move_89 ?_
        refine lv_iload_n hx hb dX0_move_90 rfl (lv_at hl 3 rfl) ?_
        refine lv_iadd hx hb dX0_move_91 ?_
        obtain ⟨hi, hf⟩ := gd_of hf
        refine g_iald C hW 0 5 rfl (f := (v0 5)) rfl (ib_in hi) dX0_move_92 ?_
        obtain ⟨hi, hf⟩ := gd_of hf
        refine g_iast C hW 0 5 rfl (f := (v0 5)) rfl (ib_in hi) (ch' := [kX0 g a0 (st v0 5 (upd (v0 5) (Int32.toNatClampNeg ((x2 * (6 : Int32)) + x3)) ((v0 5) (Int32.toNatClampNeg ((x1 * (6 : Int32)) + x3)))))]) rfl dX0_move_93 (fun H locs hW => ?_)
        refine lv_iinc (v := (x3 + 1)) (lv' := [(3, .int (x3 + 1)), (0, .ref (a0 0)), (1, .int x1), (2, .int x2)]) hx hb dX0_move_94 hl (k := 3) rfl (by first | rfl | decide) (by decide) rfl (fun ls hl => ?_)
        refine lv_goto (tgt := 66) hx hb dX0_move_97 (by decide) ?_
        exact ih _ _ H locs ls hf hW (lv_sub hl [1, 2, 3, 0] rfl)
  rw [fX0_move] at hf
  refine lv_iload_n hx hb dX0_move_0 rfl (lv_at hl 2 rfl) ?_
  refine lv_if_lt (tgt := 15) hx hb dX0_move_1 (by decide) (fun h => ?_) (fun h => ?_)
  · replace hf := (if_pos h).symm.trans hf
    obtain rfl := Option.some.inj hf
    subst hQ
    exact g_vret C hr hk0 hW rfl rfl dX0_move_15
  · replace hf := (if_neg h).symm.trans hf
    refine lv_iload_n hx hb dX0_move_4 rfl (lv_at hl 2 rfl) ?_
    refine lv_iload_n hx hb dX0_move_5 rfl (lv_at hl 1 rfl) ?_
    refine lv_icmp_ge (tgt := 15) hx hb dX0_move_6 (by decide) (fun h => ?_) (fun h => ?_)
    · replace hf := (if_pos h).symm.trans hf
      obtain rfl := Option.some.inj hf
      subst hQ
      exact g_vret C hr hk0 hW rfl rfl dX0_move_15
    · replace hf := (if_neg h).symm.trans hf
      refine lv_iload_n hx hb dX0_move_9 rfl (lv_at hl 1 rfl) ?_
      refine lv_bipush (v := (60 : Int32)) hx hb dX0_move_10 (by decide) ?_
      refine lv_icmp_lt (tgt := 16) hx hb dX0_move_12 (by decide) (fun h => ?_) (fun h => ?_)
      · replace hf := (if_pos h).symm.trans hf
        refine lv_aload_n hx hb dX0_move_16 rfl (lv_at hl 0 rfl) ?_
        refine g_get C hW inX0 0 rfl rfl rfl 1 (by decide) (List.mem_of_getElem? (i := 1) rfl) (v := .ref (a0 1)) rfl dX0_move_17 ?_
        refine lv_iload_n hx hb dX0_move_20 rfl (lv_at hl 2 rfl) ?_
        refine lv_aload_n hx hb dX0_move_21 rfl (lv_at hl 0 rfl) ?_
        refine g_get C hW inX0 0 rfl rfl rfl 1 (by decide) (List.mem_of_getElem? (i := 1) rfl) (v := .ref (a0 1)) rfl dX0_move_22 ?_
        refine lv_iload_n hx hb dX0_move_25 rfl (lv_at hl 1 rfl) ?_
        obtain ⟨hi, hf⟩ := gd_of hf
        refine g_iald C hW 0 1 rfl (f := (v0 1)) rfl (ib_in hi) dX0_move_26 ?_
        obtain ⟨hi, hf⟩ := gd_of hf
        refine g_iast C hW 0 1 rfl (f := (v0 1)) rfl (ib_in hi) (ch' := [kX0 g a0 (st v0 1 (upd (v0 1) (Int32.toNatClampNeg x2) ((v0 1) (Int32.toNatClampNeg x1))))]) rfl dX0_move_27 (fun H locs hW => ?_)
        refine lv_aload_n hx hb dX0_move_28 rfl (lv_at hl 0 rfl) ?_
        refine g_get C hW inX0 0 rfl rfl rfl 2 (by decide) (List.mem_of_getElem? (i := 2) rfl) (v := .ref (a0 2)) rfl dX0_move_29 ?_
        refine lv_iload_n hx hb dX0_move_32 rfl (lv_at hl 2 rfl) ?_
        refine lv_aload_n hx hb dX0_move_33 rfl (lv_at hl 0 rfl) ?_
        refine g_get C hW inX0 0 rfl rfl rfl 2 (by decide) (List.mem_of_getElem? (i := 2) rfl) (v := .ref (a0 2)) rfl dX0_move_34 ?_
        refine lv_iload_n hx hb dX0_move_37 rfl (lv_at hl 1 rfl) ?_
        obtain ⟨hi, hf⟩ := gd_of hf
        refine g_iald C hW 0 2 rfl (f := (v0 2)) rfl (ib_in hi) dX0_move_38 ?_
        obtain ⟨hi, hf⟩ := gd_of hf
        refine g_iast C hW 0 2 rfl (f := (v0 2)) rfl (ib_in hi) (ch' := [kX0 g a0 (st (st v0 1 (upd (v0 1) (Int32.toNatClampNeg x2) ((v0 1) (Int32.toNatClampNeg x1)))) 2 (upd (v0 2) (Int32.toNatClampNeg x2) ((v0 2) (Int32.toNatClampNeg x1))))]) rfl dX0_move_39 (fun H locs hW => ?_)
        refine lv_aload_n hx hb dX0_move_40 rfl (lv_at hl 0 rfl) ?_
        refine g_get C hW inX0 0 rfl rfl rfl 3 (by decide) (List.mem_of_getElem? (i := 3) rfl) (v := .ref (a0 3)) rfl dX0_move_41 ?_
        refine lv_iload_n hx hb dX0_move_44 rfl (lv_at hl 2 rfl) ?_
        refine lv_aload_n hx hb dX0_move_45 rfl (lv_at hl 0 rfl) ?_
        refine g_get C hW inX0 0 rfl rfl rfl 3 (by decide) (List.mem_of_getElem? (i := 3) rfl) (v := .ref (a0 3)) rfl dX0_move_46 ?_
        refine lv_iload_n hx hb dX0_move_49 rfl (lv_at hl 1 rfl) ?_
        obtain ⟨hi, hf⟩ := gd_of hf
        refine g_iald C hW 0 3 rfl (f := (v0 3)) rfl (ib_in hi) dX0_move_50 ?_
        obtain ⟨hi, hf⟩ := gd_of hf
        refine g_iast C hW 0 3 rfl (f := (v0 3)) rfl (ib_in hi) (ch' := [kX0 g a0 (st (st (st v0 1 (upd (v0 1) (Int32.toNatClampNeg x2) ((v0 1) (Int32.toNatClampNeg x1)))) 2 (upd (v0 2) (Int32.toNatClampNeg x2) ((v0 2) (Int32.toNatClampNeg x1)))) 3 (upd (v0 3) (Int32.toNatClampNeg x2) ((v0 3) (Int32.toNatClampNeg x1))))]) rfl dX0_move_51 (fun H locs hW => ?_)
        refine lv_aload_n hx hb dX0_move_52 rfl (lv_at hl 0 rfl) ?_
        refine g_get C hW inX0 0 rfl rfl rfl 4 (by decide) (List.mem_of_getElem? (i := 4) rfl) (v := .ref (a0 4)) rfl dX0_move_53 ?_
        refine lv_iload_n hx hb dX0_move_56 rfl (lv_at hl 2 rfl) ?_
        refine lv_aload_n hx hb dX0_move_57 rfl (lv_at hl 0 rfl) ?_
        refine g_get C hW inX0 0 rfl rfl rfl 4 (by decide) (List.mem_of_getElem? (i := 4) rfl) (v := .ref (a0 4)) rfl dX0_move_58 ?_
        refine lv_iload_n hx hb dX0_move_61 rfl (lv_at hl 1 rfl) ?_
        obtain ⟨hi, hf⟩ := gd_of hf
        refine g_iald C hW 0 4 rfl (f := (v0 4)) rfl (ib_in hi) dX0_move_62 ?_
        obtain ⟨hi, hf⟩ := gd_of hf
        refine g_iast C hW 0 4 rfl (f := (v0 4)) rfl (ib_in hi) (ch' := [kX0 g a0 (st (st (st (st v0 1 (upd (v0 1) (Int32.toNatClampNeg x2) ((v0 1) (Int32.toNatClampNeg x1)))) 2 (upd (v0 2) (Int32.toNatClampNeg x2) ((v0 2) (Int32.toNatClampNeg x1)))) 3 (upd (v0 3) (Int32.toNatClampNeg x2) ((v0 3) (Int32.toNatClampNeg x1)))) 4 (upd (v0 4) (Int32.toNatClampNeg x2) ((v0 4) (Int32.toNatClampNeg x1))))]) rfl dX0_move_63 (fun H locs hW => ?_)
        refine lv_iconst (v := (0 : Int32)) hx hb dX0_move_64 (by decide) ?_
        refine lv_istore_n (lv' := [(3, .int (0 : Int32)), (0, .ref (a0 0)), (1, .int x1), (2, .int x2)]) hx hb dX0_move_65 rfl hl (by decide) rfl (fun ls hl => ?_)
        refine L66 x1 x2 _ (fun x3_1 v0_1 H locs ls hf hW hl => ?_) N (0 : Int32) (st (st (st (st v0 1 (upd (v0 1) (Int32.toNatClampNeg x2) ((v0 1) (Int32.toNatClampNeg x1)))) 2 (upd (v0 2) (Int32.toNatClampNeg x2) ((v0 2) (Int32.toNatClampNeg x1)))) 3 (upd (v0 3) (Int32.toNatClampNeg x2) ((v0 3) (Int32.toNatClampNeg x1)))) 4 (upd (v0 4) (Int32.toNatClampNeg x2) ((v0 4) (Int32.toNatClampNeg x1)))) H locs ls hf hW (lv_sub hl [1, 2, 3, 0] rfl)
        obtain rfl := Option.some.inj hf
        subst hQ
        exact g_vret C hr hk0 hW rfl rfl dX0_move_100
      · replace hf := (if_neg h).symm.trans hf
        obtain rfl := Option.some.inj hf
        subst hQ
        exact g_vret C hr hk0 hW rfl rfl dX0_move_15
def fX0_dropGone_L4 (N : Nat) (k : Int32 → Int32 → MM → Option (MM)) : Nat → Int32 → Int32 → MM → Option (MM)
  | 0, _, _, _ => none
  | n + 1, x1, x2, v0 => (if (v0 0 0) ≤ x2 then k x1 x2 v0 else (if (60 : Int32) ≤ x2 then k x1 x2 v0 else (if ib x2 60 = true then (if ((v0 2) (Int32.toNatClampNeg x2)) = (-1 : Int32) then fX0_dropGone_L4 N k n x1 (x2 + 1) v0 else ((fX0_move N x2 x1 v0).bind (fun y1 => fX0_dropGone_L4 N k n (x1 + 1) (x2 + 1) y1))) else none)))
def fX0_dropGone (N : Nat) (v0 : MM) : Option (MM) := (fX0_dropGone_L4 N (fun (x1_2 : Int32) (x2_2 : Int32) (v0_2 : MM) => some (st v0_2 0 (fun _ => x1_2))) N (0 : Int32) (0 : Int32) v0)
set_option maxHeartbeats 4000000 in
set_option maxRecDepth 100000 in
theorem ct_X0_dropGone (g : GT) (l : Launch) (N : Nat) (a0 : Nat → Nat) (v0 : MM) {y : MM} (hf : fX0_dropGone N v0 = some y) : ct g l yX0_dropGone wsX0_dropGone (rmk 1 23) [.ref (a0 0)] [kX0 g a0 v0] none [kX0 g a0 y] := by
  refine ct_of (cc := cX0_dropGone) (maxL := 3) (ret := none) (by decide) rfl (Nat.le_of_ble_eq_true rfl) ?_
  intro p e s m args below meth c A ls C hr hk0 hA hW hl
  have hx := C.1.1
  have hb := C.1.2.1
  replace hl : lv_has ls 3 [(0, .ref (a0 0))] := hl
  obtain ⟨Q, hQ⟩ : ∃ Q, Q = MQ below (ctQ g A none [kX0 g a0 y]) args s 0 0 A := ⟨_, rfl⟩
  rw [← hQ]
  obtain ⟨H, hH⟩ : ∃ H, H = s.heap := ⟨_, rfl⟩
  obtain ⟨locs, hL⟩ : ∃ locs : List Loc, locs = [] := ⟨_, rfl⟩
  replace hW : wd g A s.heap [kX0 g a0 v0] H locs := by rw [hH, hL]; exact hW
  suffices hG : W p l e (rmk 1 23) s m args below meth c H locs 0 0 Q (F0 m 0 ls []) by
    rw [hH, hL] at hG; exact hG
  clear hH hL
  have inX0 : ∀ w ∈ wsX00, w ∈ wsX0_dropGone := fun _ h => List.mem_cons_of_mem _ (List.mem_append_right _ (h))
  have L4 : ∀ (k : Int32 → Int32 → MM → Option (MM)) (hk : ∀ (x1 : Int32) (x2 : Int32) (v0 : MM) (H : Heap) (locs : List Loc) (ls : Array Slot), k x1 x2 v0 = some y → wd g A s.heap [kX0 g a0 v0] H locs → lv_has ls 3 [(0, .ref (a0 0)), (1, .int x1), (2, .int x2)] → W p l e (rmk 1 23) s m args below meth c H locs 0 0 Q (F0 m 43 ls [])) (n : Nat) (x1 : Int32) (x2 : Int32) (v0 : MM) (H : Heap) (locs : List Loc) (ls : Array Slot), fX0_dropGone_L4 N k n x1 x2 v0 = some y → wd g A s.heap [kX0 g a0 v0] H locs → lv_has ls 3 [(0, .ref (a0 0)), (1, .int x1), (2, .int x2)] → W p l e (rmk 1 23) s m args below meth c H locs 0 0 Q (F0 m 4 ls []) := by
    intro k hk n
    induction n with
    | zero => intro x1 x2 v0 H locs ls hf; rw [fX0_dropGone_L4] at hf; cases hf
    | succ n ih =>
      intro x1 x2 v0 H locs ls hf hW hl
      rw [fX0_dropGone_L4] at hf
      refine lv_iload_n hx hb dX0_dropGone_4 rfl (lv_at hl 2 rfl) ?_
      refine lv_aload_n hx hb dX0_dropGone_5 rfl (lv_at hl 0 rfl) ?_
      refine g_get C hW inX0 0 rfl rfl rfl 0 (by decide) (List.mem_of_getElem? (i := 1) rfl) (v := .int (v0 0 0)) rfl dX0_dropGone_6 ?_
      refine lv_icmp_ge (tgt := 43) hx hb dX0_dropGone_9 (by decide) (fun h => ?_) (fun h => ?_)
      · replace hf := (if_pos h).symm.trans hf
        exact hk _ _ _ H locs ls hf hW (lv_sub hl [0, 1, 2] rfl)
      · replace hf := (if_neg h).symm.trans hf
        refine lv_iload_n hx hb dX0_dropGone_12 rfl (lv_at hl 2 rfl) ?_
        refine lv_bipush (v := (60 : Int32)) hx hb dX0_dropGone_13 (by decide) ?_
        refine lv_icmp_ge (tgt := 43) hx hb dX0_dropGone_15 (by decide) (fun h => ?_) (fun h => ?_)
        · replace hf := (if_pos h).symm.trans hf
          exact hk _ _ _ H locs ls hf hW (lv_sub hl [0, 1, 2] rfl)
        · replace hf := (if_neg h).symm.trans hf
          refine lv_aload_n hx hb dX0_dropGone_18 rfl (lv_at hl 0 rfl) ?_
          refine g_get C hW inX0 0 rfl rfl rfl 2 (by decide) (List.mem_of_getElem? (i := 2) rfl) (v := .ref (a0 2)) rfl dX0_dropGone_19 ?_
          refine lv_iload_n hx hb dX0_dropGone_22 rfl (lv_at hl 2 rfl) ?_
          obtain ⟨hi, hf⟩ := gd_of hf
          refine g_iald C hW 0 2 rfl (f := (v0 2)) rfl (ib_in hi) dX0_dropGone_23 ?_
          refine lv_iconst (v := (-1 : Int32)) hx hb dX0_dropGone_24 (by decide) ?_
          refine lv_icmp_eq (tgt := 37) hx hb dX0_dropGone_25 (by decide) (fun h => ?_) (fun h => ?_)
          · replace hf := (if_pos h).symm.trans hf
            refine lv_iinc (v := (x2 + 1)) (lv' := [(2, .int (x2 + 1)), (0, .ref (a0 0)), (1, .int x1)]) hx hb dX0_dropGone_37 hl (k := 2) rfl (by first | rfl | decide) (by decide) rfl (fun ls hl => ?_)
            refine lv_goto (tgt := 4) hx hb dX0_dropGone_40 (by decide) ?_
            exact ih _ _ _ H locs ls hf hW (lv_sub hl [1, 2, 0] rfl)
          · replace hf := (if_neg h).symm.trans hf
            refine lv_aload_n hx hb dX0_dropGone_28 rfl (lv_at hl 0 rfl) ?_
            refine lv_iload_n hx hb dX0_dropGone_29 rfl (lv_at hl 2 rfl) ?_
            refine lv_iload_n hx hb dX0_dropGone_30 rfl (lv_at hl 1 rfl) ?_
            obtain ⟨y1, hc, hf⟩ := bd_of hf
            refine g_cVv (Cn := RX0) C (ct_X0_move g l N a0 x2 x1 v0 hc) gX0_dropGone_X0_move rfl 2 (by decide +kernel) ⟨rfl, rfl, ⟨Nat.le_of_ble_eq_true rfl, Nat.le_of_ble_eq_true rfl⟩, Nat.le_of_ble_eq_true rfl, Nat.le_of_ble_eq_true rfl⟩ rfl hl (Nat.le_of_ble_eq_true rfl) dX0_dropGone_31 rfl hW hA [0] rfl rfl rfl (ch' := [kX0 g a0 y1]) rfl 0 rfl rfl rfl (fun H locs hW => ?_)
            refine lv_iinc (v := (x1 + 1)) (lv' := [(1, .int (x1 + 1)), (0, .ref (a0 0)), (2, .int x2)]) hx hb dX0_dropGone_34 hl (k := 1) rfl (by first | rfl | decide) (by decide) rfl (fun ls hl => ?_)
            refine lv_iinc (v := (x2 + 1)) (lv' := [(2, .int (x2 + 1)), (1, .int (x1 + 1)), (0, .ref (a0 0))]) hx hb dX0_dropGone_37 hl (k := 2) rfl (by first | rfl | decide) (by decide) rfl (fun ls hl => ?_)
            refine lv_goto (tgt := 4) hx hb dX0_dropGone_40 (by decide) ?_
            exact ih _ _ _ H locs ls hf hW (lv_sub hl [2, 1, 0] rfl)
  rw [fX0_dropGone] at hf
  refine lv_iconst (v := (0 : Int32)) hx hb dX0_dropGone_0 (by decide) ?_
  refine lv_istore_n (lv' := [(1, .int (0 : Int32)), (0, .ref (a0 0))]) hx hb dX0_dropGone_1 rfl hl (by decide) rfl (fun ls hl => ?_)
  refine lv_iconst (v := (0 : Int32)) hx hb dX0_dropGone_2 (by decide) ?_
  refine lv_istore_n (lv' := [(2, .int (0 : Int32)), (1, .int (0 : Int32)), (0, .ref (a0 0))]) hx hb dX0_dropGone_3 rfl hl (by decide) rfl (fun ls hl => ?_)
  refine L4 _ (fun x1_2 x2_2 v0_2 H locs ls hf hW hl => ?_) N (0 : Int32) (0 : Int32) v0 H locs ls hf hW (lv_sub hl [2, 1, 0] rfl)
  refine lv_aload_n hx hb dX0_dropGone_43 rfl (lv_at hl 0 rfl) ?_
  refine lv_iload_n hx hb dX0_dropGone_44 rfl (lv_at hl 1 rfl) ?_
  refine g_put C hW inX0 tyX0_ok nmX0 0 rfl rfl rfl 0 (by decide) (List.mem_of_getElem? (i := 1) rfl) rfl rfl rfl rfl (ch' := [kX0 g a0 (st v0_2 0 (fun _ => x1_2))]) rfl dX0_dropGone_45 (fun H locs hW => ?_)
  obtain rfl := Option.some.inj hf
  subst hQ
  exact g_vret C hr hk0 hW rfl rfl dX0_dropGone_48
def fX0_isEarlier (N : Nat) (x1 : Int32) (x2 : Int32) (v0 : MM) : Option (Int32) := (if ib x1 60 = true then (if ib x2 60 = true then (if ((v0 2) (Int32.toNatClampNeg x1)) = ((v0 2) (Int32.toNatClampNeg x2)) then (if ib x1 60 = true then (if ib x2 60 = true then (if ((v0 1) (Int32.toNatClampNeg x1)) = ((v0 1) (Int32.toNatClampNeg x2)) then (if x2 ≤ x1 then some (0 : Int32) else some (1 : Int32)) else (if ib x1 60 = true then (if ib x2 60 = true then (if ((v0 1) (Int32.toNatClampNeg x2)) ≤ ((v0 1) (Int32.toNatClampNeg x1)) then some (0 : Int32) else some (1 : Int32)) else none) else none)) else none) else none) else (if ib x1 60 = true then (if ib x2 60 = true then (if ((v0 2) (Int32.toNatClampNeg x2)) ≤ ((v0 2) (Int32.toNatClampNeg x1)) then some (0 : Int32) else some (1 : Int32)) else none) else none)) else none) else none)
set_option maxHeartbeats 4000000 in
set_option maxRecDepth 100000 in
theorem ct_X0_isEarlier (g : GT) (l : Launch) (N : Nat) (a0 : Nat → Nat) (x1 : Int32) (x2 : Int32) (v0 : MM) {y : Int32} (hf : fX0_isEarlier N x1 x2 v0 = some y) : ct g l yX0_isEarlier wsX0_isEarlier (rmk 0 0) [.ref (a0 0), .int x1, .int x2] [kX0 g a0 v0] (some (.int y)) [kX0 g a0 v0] := by
  refine ct_of (cc := cX0_isEarlier) (maxL := 3) (ret := (some .boolean)) (by decide) rfl (Nat.le_of_ble_eq_true rfl) ?_
  intro p e s m args below meth c A ls C hr hk0 hA hW hl
  have hx := C.1.1
  have hb := C.1.2.1
  replace hl : lv_has ls 3 [(0, .ref (a0 0)), (1, .int x1), (2, .int x2)] := hl
  obtain ⟨Q, hQ⟩ : ∃ Q, Q = MQ below (ctQ g A (some (.int y)) [kX0 g a0 v0]) args s 0 0 A := ⟨_, rfl⟩
  rw [← hQ]
  obtain ⟨H, hH⟩ : ∃ H, H = s.heap := ⟨_, rfl⟩
  obtain ⟨locs, hL⟩ : ∃ locs : List Loc, locs = [] := ⟨_, rfl⟩
  replace hW : wd g A s.heap [kX0 g a0 v0] H locs := by rw [hH, hL]; exact hW
  suffices hG : W p l e (rmk 0 0) s m args below meth c H locs 0 0 Q (F0 m 0 ls []) by
    rw [hH, hL] at hG; exact hG
  clear hH hL
  have inX0 : ∀ w ∈ wsX00, w ∈ wsX0_isEarlier := fun _ h => List.mem_cons_of_mem _ (List.mem_append_right _ (h))
  rw [fX0_isEarlier] at hf
  refine lv_aload_n hx hb dX0_isEarlier_0 rfl (lv_at hl 0 rfl) ?_
  refine g_get C hW inX0 0 rfl rfl rfl 2 (by decide) (List.mem_of_getElem? (i := 1) rfl) (v := .ref (a0 2)) rfl dX0_isEarlier_1 ?_
  refine lv_iload_n hx hb dX0_isEarlier_4 rfl (lv_at hl 1 rfl) ?_
  obtain ⟨hi, hf⟩ := gd_of hf
  refine g_iald C hW 0 2 rfl (f := (v0 2)) rfl (ib_in hi) dX0_isEarlier_5 ?_
  refine lv_aload_n hx hb dX0_isEarlier_6 rfl (lv_at hl 0 rfl) ?_
  refine g_get C hW inX0 0 rfl rfl rfl 2 (by decide) (List.mem_of_getElem? (i := 1) rfl) (v := .ref (a0 2)) rfl dX0_isEarlier_7 ?_
  refine lv_iload_n hx hb dX0_isEarlier_10 rfl (lv_at hl 2 rfl) ?_
  obtain ⟨hi, hf⟩ := gd_of hf
  refine g_iald C hW 0 2 rfl (f := (v0 2)) rfl (ib_in hi) dX0_isEarlier_11 ?_
  refine lv_icmp_eq (tgt := 36) hx hb dX0_isEarlier_12 (by decide) (fun h => ?_) (fun h => ?_)
  · replace hf := (if_pos h).symm.trans hf
    refine lv_aload_n hx hb dX0_isEarlier_36 rfl (lv_at hl 0 rfl) ?_
    refine g_get C hW inX0 0 rfl rfl rfl 1 (by decide) (List.mem_of_getElem? (i := 2) rfl) (v := .ref (a0 1)) rfl dX0_isEarlier_37 ?_
    refine lv_iload_n hx hb dX0_isEarlier_40 rfl (lv_at hl 1 rfl) ?_
    obtain ⟨hi, hf⟩ := gd_of hf
    refine g_iald C hW 0 1 rfl (f := (v0 1)) rfl (ib_in hi) dX0_isEarlier_41 ?_
    refine lv_aload_n hx hb dX0_isEarlier_42 rfl (lv_at hl 0 rfl) ?_
    refine g_get C hW inX0 0 rfl rfl rfl 1 (by decide) (List.mem_of_getElem? (i := 2) rfl) (v := .ref (a0 1)) rfl dX0_isEarlier_43 ?_
    refine lv_iload_n hx hb dX0_isEarlier_46 rfl (lv_at hl 2 rfl) ?_
    obtain ⟨hi, hf⟩ := gd_of hf
    refine g_iald C hW 0 1 rfl (f := (v0 1)) rfl (ib_in hi) dX0_isEarlier_47 ?_
    refine lv_icmp_eq (tgt := 74) hx hb dX0_isEarlier_48 (by decide) (fun h => ?_) (fun h => ?_)
    · replace hf := (if_pos h).symm.trans hf
      refine lv_iload_n hx hb dX0_isEarlier_74 rfl (lv_at hl 1 rfl) ?_
      refine lv_iload_n hx hb dX0_isEarlier_75 rfl (lv_at hl 2 rfl) ?_
      refine lv_icmp_ge (tgt := 83) hx hb dX0_isEarlier_76 (by decide) (fun h => ?_) (fun h => ?_)
      · replace hf := (if_pos h).symm.trans hf
        refine lv_iconst (v := (0 : Int32)) hx hb dX0_isEarlier_83 (by decide) ?_
        obtain rfl := Option.some.inj hf
        subst hQ
        exact g_zret C hr hk0 hW rfl rfl rfl dX0_isEarlier_84
      · replace hf := (if_neg h).symm.trans hf
        refine lv_iconst (v := (1 : Int32)) hx hb dX0_isEarlier_79 (by decide) ?_
        refine lv_goto (tgt := 84) hx hb dX0_isEarlier_80 (by decide) ?_
        obtain rfl := Option.some.inj hf
        subst hQ
        exact g_zret C hr hk0 hW rfl rfl rfl dX0_isEarlier_84
    · replace hf := (if_neg h).symm.trans hf
      refine lv_aload_n hx hb dX0_isEarlier_51 rfl (lv_at hl 0 rfl) ?_
      refine g_get C hW inX0 0 rfl rfl rfl 1 (by decide) (List.mem_of_getElem? (i := 2) rfl) (v := .ref (a0 1)) rfl dX0_isEarlier_52 ?_
      refine lv_iload_n hx hb dX0_isEarlier_55 rfl (lv_at hl 1 rfl) ?_
      obtain ⟨hi, hf⟩ := gd_of hf
      refine g_iald C hW 0 1 rfl (f := (v0 1)) rfl (ib_in hi) dX0_isEarlier_56 ?_
      refine lv_aload_n hx hb dX0_isEarlier_57 rfl (lv_at hl 0 rfl) ?_
      refine g_get C hW inX0 0 rfl rfl rfl 1 (by decide) (List.mem_of_getElem? (i := 2) rfl) (v := .ref (a0 1)) rfl dX0_isEarlier_58 ?_
      refine lv_iload_n hx hb dX0_isEarlier_61 rfl (lv_at hl 2 rfl) ?_
      obtain ⟨hi, hf⟩ := gd_of hf
      refine g_iald C hW 0 1 rfl (f := (v0 1)) rfl (ib_in hi) dX0_isEarlier_62 ?_
      refine lv_icmp_ge (tgt := 70) hx hb dX0_isEarlier_63 (by decide) (fun h => ?_) (fun h => ?_)
      · replace hf := (if_pos h).symm.trans hf
        refine lv_iconst (v := (0 : Int32)) hx hb dX0_isEarlier_70 (by decide) ?_
        refine lv_goto (tgt := 84) hx hb dX0_isEarlier_71 (by decide) ?_
        obtain rfl := Option.some.inj hf
        subst hQ
        exact g_zret C hr hk0 hW rfl rfl rfl dX0_isEarlier_84
      · replace hf := (if_neg h).symm.trans hf
        refine lv_iconst (v := (1 : Int32)) hx hb dX0_isEarlier_66 (by decide) ?_
        refine lv_goto (tgt := 84) hx hb dX0_isEarlier_67 (by decide) ?_
        obtain rfl := Option.some.inj hf
        subst hQ
        exact g_zret C hr hk0 hW rfl rfl rfl dX0_isEarlier_84
  · replace hf := (if_neg h).symm.trans hf
    refine lv_aload_n hx hb dX0_isEarlier_15 rfl (lv_at hl 0 rfl) ?_
    refine g_get C hW inX0 0 rfl rfl rfl 2 (by decide) (List.mem_of_getElem? (i := 1) rfl) (v := .ref (a0 2)) rfl dX0_isEarlier_16 ?_
    refine lv_iload_n hx hb dX0_isEarlier_19 rfl (lv_at hl 1 rfl) ?_
    obtain ⟨hi, hf⟩ := gd_of hf
    refine g_iald C hW 0 2 rfl (f := (v0 2)) rfl (ib_in hi) dX0_isEarlier_20 ?_
    refine lv_aload_n hx hb dX0_isEarlier_21 rfl (lv_at hl 0 rfl) ?_
    refine g_get C hW inX0 0 rfl rfl rfl 2 (by decide) (List.mem_of_getElem? (i := 1) rfl) (v := .ref (a0 2)) rfl dX0_isEarlier_22 ?_
    refine lv_iload_n hx hb dX0_isEarlier_25 rfl (lv_at hl 2 rfl) ?_
    obtain ⟨hi, hf⟩ := gd_of hf
    refine g_iald C hW 0 2 rfl (f := (v0 2)) rfl (ib_in hi) dX0_isEarlier_26 ?_
    refine lv_icmp_ge (tgt := 34) hx hb dX0_isEarlier_27 (by decide) (fun h => ?_) (fun h => ?_)
    · replace hf := (if_pos h).symm.trans hf
      refine lv_iconst (v := (0 : Int32)) hx hb dX0_isEarlier_34 (by decide) ?_
      obtain rfl := Option.some.inj hf
      subst hQ
      exact g_zret C hr hk0 hW rfl rfl rfl dX0_isEarlier_35
    · replace hf := (if_neg h).symm.trans hf
      refine lv_iconst (v := (1 : Int32)) hx hb dX0_isEarlier_30 (by decide) ?_
      refine lv_goto (tgt := 35) hx hb dX0_isEarlier_31 (by decide) ?_
      obtain rfl := Option.some.inj hf
      subst hQ
      exact g_zret C hr hk0 hW rfl rfl rfl dX0_isEarlier_35
def fX0_placeOf_L21 (N : Nat) (k : Int32 → Int32 → Option (Int32)) (x1 : Int32) (x2 : Int32) (v0 : MM) : Nat → Int32 → Int32 → Option (Int32)
  | 0, _, _ => none
  | n + 1, x3, x4 => (if (v0 0 0) ≤ x4 then k x3 x4 else (if (60 : Int32) ≤ x4 then k x3 x4 else ((fX0_isEarlier N x4 x2 v0).bind (fun y1 => (if y1 = 0 then fX0_placeOf_L21 N k x1 x2 v0 n (x3 + (0 : Int32)) (x4 + 1) else fX0_placeOf_L21 N k x1 x2 v0 n (x3 + (1 : Int32)) (x4 + 1))))))
def fX0_placeOf_L2 (N : Nat) (k : Int32 → Option (Int32)) (x1 : Int32) (v0 : MM) : Nat → Int32 → Option (Int32)
  | 0, _ => none
  | n + 1, x2 => (if (v0 0 0) ≤ x2 then k x2 else (if (60 : Int32) ≤ x2 then k x2 else (fX0_placeOf_L21 N (fun (x3_2 : Int32) (x4_2 : Int32) => (if x3_2 = x1 then some x2 else fX0_placeOf_L2 N k x1 v0 n (x2 + 1))) x1 x2 v0 N (0 : Int32) (0 : Int32))))
def fX0_placeOf (N : Nat) (x1 : Int32) (v0 : MM) : Option (Int32) := (fX0_placeOf_L2 N (fun (x2_3 : Int32) => some (-1 : Int32)) x1 v0 N (0 : Int32))
set_option maxHeartbeats 4000000 in
set_option maxRecDepth 100000 in
theorem ct_X0_placeOf (g : GT) (l : Launch) (N : Nat) (a0 : Nat → Nat) (x1 : Int32) (v0 : MM) {y : Int32} (hf : fX0_placeOf N x1 v0 = some y) : ct g l yX0_placeOf wsX0_placeOf (rmk 1 22) [.ref (a0 0), .int x1] [kX0 g a0 v0] (some (.int y)) [kX0 g a0 v0] := by
  refine ct_of (cc := cX0_placeOf) (maxL := 5) (ret := (some .int)) (by decide) rfl (Nat.le_of_ble_eq_true rfl) ?_
  intro p e s m args below meth c A ls C hr hk0 hA hW hl
  have hx := C.1.1
  have hb := C.1.2.1
  replace hl : lv_has ls 5 [(0, .ref (a0 0)), (1, .int x1)] := hl
  obtain ⟨Q, hQ⟩ : ∃ Q, Q = MQ below (ctQ g A (some (.int y)) [kX0 g a0 v0]) args s 0 0 A := ⟨_, rfl⟩
  rw [← hQ]
  obtain ⟨H, hH⟩ : ∃ H, H = s.heap := ⟨_, rfl⟩
  obtain ⟨locs, hL⟩ : ∃ locs : List Loc, locs = [] := ⟨_, rfl⟩
  replace hW : wd g A s.heap [kX0 g a0 v0] H locs := by rw [hH, hL]; exact hW
  suffices hG : W p l e (rmk 1 22) s m args below meth c H locs 0 0 Q (F0 m 0 ls []) by
    rw [hH, hL] at hG; exact hG
  clear hH hL
  have inX0 : ∀ w ∈ wsX00, w ∈ wsX0_placeOf := fun _ h => List.mem_cons_of_mem _ (List.mem_append_right _ (h))
  have L21 : ∀ (x1 : Int32) (x2 : Int32) (k : Int32 → Int32 → Option (Int32)) (hk : ∀ (x3 : Int32) (x4 : Int32) (H : Heap) (locs : List Loc) (ls : Array Slot), k x3 x4 = some y → wd g A s.heap [kX0 g a0 v0] H locs → lv_has ls 5 [(0, .ref (a0 0)), (1, .int x1), (2, .int x2), (3, .int x3), (4, .int x4)] → W p l e (rmk 1 22) s m args below meth c H locs 0 0 Q (F0 m 61 ls [])) (n : Nat) (x3 : Int32) (x4 : Int32) (H : Heap) (locs : List Loc) (ls : Array Slot), fX0_placeOf_L21 N k x1 x2 v0 n x3 x4 = some y → wd g A s.heap [kX0 g a0 v0] H locs → lv_has ls 5 [(0, .ref (a0 0)), (1, .int x1), (2, .int x2), (3, .int x3), (4, .int x4)] → W p l e (rmk 1 22) s m args below meth c H locs 0 0 Q (F0 m 21 ls []) := by
    intro x1 x2 k hk n
    induction n with
    | zero => intro x3 x4 H locs ls hf; rw [fX0_placeOf_L21] at hf; cases hf
    | succ n ih =>
      intro x3 x4 H locs ls hf hW hl
      rw [fX0_placeOf_L21] at hf
      refine lv_iload hx hb dX0_placeOf_21 (lv_at hl 4 rfl) ?_
      refine lv_aload_n hx hb dX0_placeOf_23 rfl (lv_at hl 0 rfl) ?_
      refine g_get C hW inX0 0 rfl rfl rfl 0 (by decide) (List.mem_of_getElem? (i := 1) rfl) (v := .int (v0 0 0)) rfl dX0_placeOf_24 ?_
      refine lv_icmp_ge (tgt := 61) hx hb dX0_placeOf_27 (by decide) (fun h => ?_) (fun h => ?_)
      · replace hf := (if_pos h).symm.trans hf
        exact hk _ _ H locs ls hf hW (lv_sub hl [0, 1, 2, 3, 4] rfl)
      · replace hf := (if_neg h).symm.trans hf
        refine lv_iload hx hb dX0_placeOf_30 (lv_at hl 4 rfl) ?_
        refine lv_bipush (v := (60 : Int32)) hx hb dX0_placeOf_32 (by decide) ?_
        refine lv_icmp_ge (tgt := 61) hx hb dX0_placeOf_34 (by decide) (fun h => ?_) (fun h => ?_)
        · replace hf := (if_pos h).symm.trans hf
          exact hk _ _ H locs ls hf hW (lv_sub hl [0, 1, 2, 3, 4] rfl)
        · replace hf := (if_neg h).symm.trans hf
          refine lv_iload_n hx hb dX0_placeOf_37 rfl (lv_at hl 3 rfl) ?_
          refine lv_aload_n hx hb dX0_placeOf_38 rfl (lv_at hl 0 rfl) ?_
          refine lv_iload hx hb dX0_placeOf_39 (lv_at hl 4 rfl) ?_
          refine lv_iload_n hx hb dX0_placeOf_41 rfl (lv_at hl 2 rfl) ?_
          obtain ⟨y1, hc, hf⟩ := bd_of hf
          refine g_cV (Cn := RX0) C (ct_X0_isEarlier g l N a0 x4 x2 v0 hc) gX0_placeOf_X0_isEarlier rfl 2 (by decide +kernel) ⟨rfl, rfl, ⟨Nat.le_of_ble_eq_true rfl, Nat.le_of_ble_eq_true rfl⟩, Nat.le_of_ble_eq_true rfl, Nat.le_of_ble_eq_true rfl⟩ rfl hl (Nat.le_of_ble_eq_true rfl) dX0_placeOf_42 rfl hW hA [0] rfl rfl rfl (ch' := [kX0 g a0 v0]) rfl 0 rfl rfl rfl (fun H locs hW => ?_)
          refine lv_if_eq (tgt := 52) hx hb dX0_placeOf_45 (by decide) (fun h => ?_) (fun h => ?_)
          · replace hf := (if_pos h).symm.trans hf
            refine lv_iconst (v := (0 : Int32)) hx hb dX0_placeOf_52 (by decide) ?_
            refine lv_iadd hx hb dX0_placeOf_53 ?_
            refine lv_istore_n (lv' := [(3, .int (x3 + (0 : Int32))), (0, .ref (a0 0)), (1, .int x1), (2, .int x2), (4, .int x4)]) hx hb dX0_placeOf_54 rfl hl (by decide) rfl (fun ls hl => ?_)
            refine lv_iinc (v := (x4 + 1)) (lv' := [(4, .int (x4 + 1)), (3, .int (x3 + (0 : Int32))), (0, .ref (a0 0)), (1, .int x1), (2, .int x2)]) hx hb dX0_placeOf_55 hl (k := 4) rfl (by first | rfl | decide) (by decide) rfl (fun ls hl => ?_)
            refine lv_goto (tgt := 21) hx hb dX0_placeOf_58 (by decide) ?_
            exact ih _ _ H locs ls hf hW (lv_sub hl [2, 3, 4, 1, 0] rfl)
          · replace hf := (if_neg h).symm.trans hf
            refine lv_iconst (v := (1 : Int32)) hx hb dX0_placeOf_48 (by decide) ?_
            refine lv_goto (tgt := 53) hx hb dX0_placeOf_49 (by decide) ?_
            refine lv_iadd hx hb dX0_placeOf_53 ?_
            refine lv_istore_n (lv' := [(3, .int (x3 + (1 : Int32))), (0, .ref (a0 0)), (1, .int x1), (2, .int x2), (4, .int x4)]) hx hb dX0_placeOf_54 rfl hl (by decide) rfl (fun ls hl => ?_)
            refine lv_iinc (v := (x4 + 1)) (lv' := [(4, .int (x4 + 1)), (3, .int (x3 + (1 : Int32))), (0, .ref (a0 0)), (1, .int x1), (2, .int x2)]) hx hb dX0_placeOf_55 hl (k := 4) rfl (by first | rfl | decide) (by decide) rfl (fun ls hl => ?_)
            refine lv_goto (tgt := 21) hx hb dX0_placeOf_58 (by decide) ?_
            exact ih _ _ H locs ls hf hW (lv_sub hl [2, 3, 4, 1, 0] rfl)
  have L2 : ∀ (x1 : Int32) (k : Int32 → Option (Int32)) (hk : ∀ (x2 : Int32) (H : Heap) (locs : List Loc) (ls : Array Slot), k x2 = some y → wd g A s.heap [kX0 g a0 v0] H locs → lv_has ls 5 [(0, .ref (a0 0)), (1, .int x1), (2, .int x2)] → W p l e (rmk 1 22) s m args below meth c H locs 0 0 Q (F0 m 74 ls [])) (n : Nat) (x2 : Int32) (H : Heap) (locs : List Loc) (ls : Array Slot), fX0_placeOf_L2 N k x1 v0 n x2 = some y → wd g A s.heap [kX0 g a0 v0] H locs → lv_has ls 5 [(0, .ref (a0 0)), (1, .int x1), (2, .int x2)] → W p l e (rmk 1 22) s m args below meth c H locs 0 0 Q (F0 m 2 ls []) := by
    intro x1 k hk n
    induction n with
    | zero => intro x2 H locs ls hf; rw [fX0_placeOf_L2] at hf; cases hf
    | succ n ih =>
      intro x2 H locs ls hf hW hl
      rw [fX0_placeOf_L2] at hf
      refine lv_iload_n hx hb dX0_placeOf_2 rfl (lv_at hl 2 rfl) ?_
      refine lv_aload_n hx hb dX0_placeOf_3 rfl (lv_at hl 0 rfl) ?_
      refine g_get C hW inX0 0 rfl rfl rfl 0 (by decide) (List.mem_of_getElem? (i := 1) rfl) (v := .int (v0 0 0)) rfl dX0_placeOf_4 ?_
      refine lv_icmp_ge (tgt := 74) hx hb dX0_placeOf_7 (by decide) (fun h => ?_) (fun h => ?_)
      · replace hf := (if_pos h).symm.trans hf
        exact hk _ H locs ls hf hW (lv_sub hl [0, 1, 2] rfl)
      · replace hf := (if_neg h).symm.trans hf
        refine lv_iload_n hx hb dX0_placeOf_10 rfl (lv_at hl 2 rfl) ?_
        refine lv_bipush (v := (60 : Int32)) hx hb dX0_placeOf_11 (by decide) ?_
        refine lv_icmp_ge (tgt := 74) hx hb dX0_placeOf_13 (by decide) (fun h => ?_) (fun h => ?_)
        · replace hf := (if_pos h).symm.trans hf
          exact hk _ H locs ls hf hW (lv_sub hl [0, 1, 2] rfl)
        · replace hf := (if_neg h).symm.trans hf
          refine lv_iconst (v := (0 : Int32)) hx hb dX0_placeOf_16 (by decide) ?_
          refine lv_istore_n (lv' := [(3, .int (0 : Int32)), (0, .ref (a0 0)), (1, .int x1), (2, .int x2)]) hx hb dX0_placeOf_17 rfl hl (by decide) rfl (fun ls hl => ?_)
          refine lv_iconst (v := (0 : Int32)) hx hb dX0_placeOf_18 (by decide) ?_
          refine lv_istore (lv' := [(4, .int (0 : Int32)), (3, .int (0 : Int32)), (0, .ref (a0 0)), (1, .int x1), (2, .int x2)]) hx hb dX0_placeOf_19 hl (by decide) rfl (fun ls hl => ?_)
          refine L21 x1 x2 _ (fun x3_2 x4_2 H locs ls hf hW hl => ?_) N (0 : Int32) (0 : Int32) H locs ls hf hW (lv_sub hl [2, 3, 4, 1, 0] rfl)
          refine lv_iload_n hx hb dX0_placeOf_61 rfl (lv_at hl 3 rfl) ?_
          refine lv_iload_n hx hb dX0_placeOf_62 rfl (lv_at hl 1 rfl) ?_
          refine lv_icmp_ne (tgt := 68) hx hb dX0_placeOf_63 (by decide) (fun h => ?_) (fun h => ?_)
          · replace hf := (if_neg h).symm.trans hf
            refine lv_iinc (v := (x2 + 1)) (lv' := [(2, .int (x2 + 1)), (0, .ref (a0 0)), (1, .int x1), (3, .int x3_2), (4, .int x4_2)]) hx hb dX0_placeOf_68 hl (k := 2) rfl (by first | rfl | decide) (by decide) rfl (fun ls hl => ?_)
            refine lv_goto (tgt := 2) hx hb dX0_placeOf_71 (by decide) ?_
            exact ih _ H locs ls hf hW (lv_sub hl [1, 2, 0] rfl)
          · replace hf := (if_pos h).symm.trans hf
            refine lv_iload_n hx hb dX0_placeOf_66 rfl (lv_at hl 2 rfl) ?_
            obtain rfl := Option.some.inj hf
            subst hQ
            exact g_iret C hr hk0 hW rfl rfl dX0_placeOf_67
  rw [fX0_placeOf] at hf
  refine lv_iconst (v := (0 : Int32)) hx hb dX0_placeOf_0 (by decide) ?_
  refine lv_istore_n (lv' := [(2, .int (0 : Int32)), (0, .ref (a0 0)), (1, .int x1)]) hx hb dX0_placeOf_1 rfl hl (by decide) rfl (fun ls hl => ?_)
  refine L2 x1 _ (fun x2_3 H locs ls hf hW hl => ?_) N (0 : Int32) H locs ls hf hW (lv_sub hl [1, 2, 0] rfl)
  refine lv_iconst (v := (-1 : Int32)) hx hb dX0_placeOf_74 (by decide) ?_
  obtain rfl := Option.some.inj hf
  subst hQ
  exact g_iret C hr hk0 hW rfl rfl dX0_placeOf_75
def fX0_told (N : Nat) (x1 : Int32) (x2 : Int32) (v0 : MM) : Option (Int32) := (if x1 < 0 then some (-9 : Int32) else (if x1 < (60 : Int32) then (if x2 = (0 : Int32) then (if ib x1 60 = true then some ((v0 1) (Int32.toNatClampNeg x1)) else none) else (if x2 = (1 : Int32) then (if ib x1 60 = true then some ((v0 2) (Int32.toNatClampNeg x1)) else none) else (if x2 = (2 : Int32) then (if ib x1 60 = true then some ((v0 3) (Int32.toNatClampNeg x1)) else none) else (if x2 = (3 : Int32) then ((fX0_content N x1 v0).bind (fun y1 => some y1)) else (if ib x1 60 = true then some ((v0 4) (Int32.toNatClampNeg x1)) else none))))) else some (-9 : Int32)))
set_option maxHeartbeats 4000000 in
set_option maxRecDepth 100000 in
theorem ct_X0_told (g : GT) (l : Launch) (N : Nat) (a0 : Nat → Nat) (x1 : Int32) (x2 : Int32) (v0 : MM) {y : Int32} (hf : fX0_told N x1 x2 v0 = some y) : ct g l yX0_told wsX0_told (rmk 2 45) [.ref (a0 0), .int x1, .int x2] [kX0 g a0 v0] (some (.int y)) [kX0 g a0 v0] := by
  refine ct_of (cc := cX0_told) (maxL := 3) (ret := (some .int)) (by decide) rfl (Nat.le_of_ble_eq_true rfl) ?_
  intro p e s m args below meth c A ls C hr hk0 hA hW hl
  have hx := C.1.1
  have hb := C.1.2.1
  replace hl : lv_has ls 3 [(0, .ref (a0 0)), (1, .int x1), (2, .int x2)] := hl
  obtain ⟨Q, hQ⟩ : ∃ Q, Q = MQ below (ctQ g A (some (.int y)) [kX0 g a0 v0]) args s 0 0 A := ⟨_, rfl⟩
  rw [← hQ]
  obtain ⟨H, hH⟩ : ∃ H, H = s.heap := ⟨_, rfl⟩
  obtain ⟨locs, hL⟩ : ∃ locs : List Loc, locs = [] := ⟨_, rfl⟩
  replace hW : wd g A s.heap [kX0 g a0 v0] H locs := by rw [hH, hL]; exact hW
  suffices hG : W p l e (rmk 2 45) s m args below meth c H locs 0 0 Q (F0 m 0 ls []) by
    rw [hH, hL] at hG; exact hG
  clear hH hL
  have inX0 : ∀ w ∈ wsX00, w ∈ wsX0_told := fun _ h => List.mem_cons_of_mem _ (List.mem_append_right _ (h))
  rw [fX0_told] at hf
  refine lv_iload_n hx hb dX0_told_0 rfl (lv_at hl 1 rfl) ?_
  refine lv_if_lt (tgt := 10) hx hb dX0_told_1 (by decide) (fun h => ?_) (fun h => ?_)
  · replace hf := (if_pos h).symm.trans hf
    refine lv_bipush (v := (-9 : Int32)) hx hb dX0_told_10 (by decide) ?_
    obtain rfl := Option.some.inj hf
    subst hQ
    exact g_iret C hr hk0 hW rfl rfl dX0_told_12
  · replace hf := (if_neg h).symm.trans hf
    refine lv_iload_n hx hb dX0_told_4 rfl (lv_at hl 1 rfl) ?_
    refine lv_bipush (v := (60 : Int32)) hx hb dX0_told_5 (by decide) ?_
    refine lv_icmp_lt (tgt := 13) hx hb dX0_told_7 (by decide) (fun h => ?_) (fun h => ?_)
    · replace hf := (if_pos h).symm.trans hf
      refine lv_iload_n hx hb dX0_told_13 rfl (lv_at hl 2 rfl) ?_
      rcases Decidable.em (x2 = (0 : Int32)) with h0 | h0
      · replace hf := (if_pos h0).symm.trans hf
        refine g_tsw C (off := 30) h0 dX0_told_14 (by decide) (by decide) (tgt := 44) (by decide) ?_
        refine lv_aload_n hx hb dX0_told_44 rfl (lv_at hl 0 rfl) ?_
        refine g_get C hW inX0 0 rfl rfl rfl 1 (by decide) (List.mem_of_getElem? (i := 1) rfl) (v := .ref (a0 1)) rfl dX0_told_45 ?_
        refine lv_iload_n hx hb dX0_told_48 rfl (lv_at hl 1 rfl) ?_
        obtain ⟨hi, hf⟩ := gd_of hf
        refine g_iald C hW 0 1 rfl (f := (v0 1)) rfl (ib_in hi) dX0_told_49 ?_
        obtain rfl := Option.some.inj hf
        subst hQ
        exact g_iret C hr hk0 hW rfl rfl dX0_told_50
      replace hf := (if_neg h0).symm.trans hf
      rcases Decidable.em (x2 = (1 : Int32)) with h1 | h1
      · replace hf := (if_pos h1).symm.trans hf
        refine g_tsw C (off := 37) h1 dX0_told_14 (by decide) (by decide) (tgt := 51) (by decide) ?_
        refine lv_aload_n hx hb dX0_told_51 rfl (lv_at hl 0 rfl) ?_
        refine g_get C hW inX0 0 rfl rfl rfl 2 (by decide) (List.mem_of_getElem? (i := 2) rfl) (v := .ref (a0 2)) rfl dX0_told_52 ?_
        refine lv_iload_n hx hb dX0_told_55 rfl (lv_at hl 1 rfl) ?_
        obtain ⟨hi, hf⟩ := gd_of hf
        refine g_iald C hW 0 2 rfl (f := (v0 2)) rfl (ib_in hi) dX0_told_56 ?_
        obtain rfl := Option.some.inj hf
        subst hQ
        exact g_iret C hr hk0 hW rfl rfl dX0_told_57
      replace hf := (if_neg h1).symm.trans hf
      rcases Decidable.em (x2 = (2 : Int32)) with h2 | h2
      · replace hf := (if_pos h2).symm.trans hf
        refine g_tsw C (off := 44) h2 dX0_told_14 (by decide) (by decide) (tgt := 58) (by decide) ?_
        refine lv_aload_n hx hb dX0_told_58 rfl (lv_at hl 0 rfl) ?_
        refine g_get C hW inX0 0 rfl rfl rfl 3 (by decide) (List.mem_of_getElem? (i := 3) rfl) (v := .ref (a0 3)) rfl dX0_told_59 ?_
        refine lv_iload_n hx hb dX0_told_62 rfl (lv_at hl 1 rfl) ?_
        obtain ⟨hi, hf⟩ := gd_of hf
        refine g_iald C hW 0 3 rfl (f := (v0 3)) rfl (ib_in hi) dX0_told_63 ?_
        obtain rfl := Option.some.inj hf
        subst hQ
        exact g_iret C hr hk0 hW rfl rfl dX0_told_64
      replace hf := (if_neg h2).symm.trans hf
      rcases Decidable.em (x2 = (3 : Int32)) with h3 | h3
      · replace hf := (if_pos h3).symm.trans hf
        refine g_tsw C (off := 51) h3 dX0_told_14 (by decide) (by decide) (tgt := 65) (by decide) ?_
        refine lv_aload_n hx hb dX0_told_65 rfl (lv_at hl 0 rfl) ?_
        refine lv_iload_n hx hb dX0_told_66 rfl (lv_at hl 1 rfl) ?_
        obtain ⟨y1, hc, hf⟩ := bd_of hf
        refine g_cV (Cn := RX0) C (ct_X0_content g l N a0 x1 v0 hc) gX0_told_X0_content rfl 1 (by decide +kernel) ⟨rfl, rfl, ⟨Nat.le_of_ble_eq_true rfl, Nat.le_of_ble_eq_true rfl⟩, Nat.le_of_ble_eq_true rfl, Nat.le_of_ble_eq_true rfl⟩ rfl hl (Nat.le_of_ble_eq_true rfl) dX0_told_67 rfl hW hA [0] rfl rfl rfl (ch' := [kX0 g a0 v0]) rfl 0 rfl rfl rfl (fun H locs hW => ?_)
        obtain rfl := Option.some.inj hf
        subst hQ
        exact g_iret C hr hk0 hW rfl rfl dX0_told_70
      replace hf := (if_neg h3).symm.trans hf
      have t0 := lv_neT h0 (show (0 : Int32).toInt = 0 by decide)
      have t1 := lv_neT h1 (show (1 : Int32).toInt = 1 by decide)
      have t2 := lv_neT h2 (show (2 : Int32).toInt = 2 by decide)
      have t3 := lv_neT h3 (show (3 : Int32).toInt = 3 by decide)
      refine lv_tableOut hx hb dX0_told_14 (by omega) (tgt := 71) (by decide) ?_
      refine lv_aload_n hx hb dX0_told_71 rfl (lv_at hl 0 rfl) ?_
      refine g_get C hW inX0 0 rfl rfl rfl 4 (by decide) (List.mem_of_getElem? (i := 4) rfl) (v := .ref (a0 4)) rfl dX0_told_72 ?_
      refine lv_iload_n hx hb dX0_told_75 rfl (lv_at hl 1 rfl) ?_
      obtain ⟨hi, hf⟩ := gd_of hf
      refine g_iald C hW 0 4 rfl (f := (v0 4)) rfl (ib_in hi) dX0_told_76 ?_
      obtain rfl := Option.some.inj hf
      subst hQ
      exact g_iret C hr hk0 hW rfl rfl dX0_told_77
    · replace hf := (if_neg h).symm.trans hf
      refine lv_bipush (v := (-9 : Int32)) hx hb dX0_told_10 (by decide) ?_
      obtain rfl := Option.some.inj hf
      subst hQ
      exact g_iret C hr hk0 hW rfl rfl dX0_told_12
def fX0_lettersOnTheWay_L4 (N : Nat) (k : Int32 → Int32 → Option (Int32)) (x1 : Int32) (v0 : MM) : Nat → Int32 → Int32 → Option (Int32)
  | 0, _, _ => none
  | n + 1, x2, x3 => (if (v0 0 0) ≤ x3 then k x2 x3 else ((fX0_lettersOf N x3 x1 v0).bind (fun y1 => fX0_lettersOnTheWay_L4 N k x1 v0 n (x2 + y1) (x3 + 1))))
def fX0_lettersOnTheWay (N : Nat) (x1 : Int32) (v0 : MM) : Option (Int32) := (fX0_lettersOnTheWay_L4 N (fun (x2_2 : Int32) (x3_2 : Int32) => some x2_2) x1 v0 N (0 : Int32) (0 : Int32))
set_option maxHeartbeats 4000000 in
set_option maxRecDepth 100000 in
theorem ct_X0_lettersOnTheWay (g : GT) (l : Launch) (N : Nat) (a0 : Nat → Nat) (x1 : Int32) (v0 : MM) {y : Int32} (hf : fX0_lettersOnTheWay N x1 v0 = some y) : ct g l yX0_lettersOnTheWay wsX0_lettersOnTheWay (rmk 1 23) [.ref (a0 0), .int x1] [kX0 g a0 v0] (some (.int y)) [kX0 g a0 v0] := by
  refine ct_of (cc := cX0_lettersOnTheWay) (maxL := 4) (ret := (some .int)) (by decide) rfl (Nat.le_of_ble_eq_true rfl) ?_
  intro p e s m args below meth c A ls C hr hk0 hA hW hl
  have hx := C.1.1
  have hb := C.1.2.1
  replace hl : lv_has ls 4 [(0, .ref (a0 0)), (1, .int x1)] := hl
  obtain ⟨Q, hQ⟩ : ∃ Q, Q = MQ below (ctQ g A (some (.int y)) [kX0 g a0 v0]) args s 0 0 A := ⟨_, rfl⟩
  rw [← hQ]
  obtain ⟨H, hH⟩ : ∃ H, H = s.heap := ⟨_, rfl⟩
  obtain ⟨locs, hL⟩ : ∃ locs : List Loc, locs = [] := ⟨_, rfl⟩
  replace hW : wd g A s.heap [kX0 g a0 v0] H locs := by rw [hH, hL]; exact hW
  suffices hG : W p l e (rmk 1 23) s m args below meth c H locs 0 0 Q (F0 m 0 ls []) by
    rw [hH, hL] at hG; exact hG
  clear hH hL
  have inX0 : ∀ w ∈ wsX00, w ∈ wsX0_lettersOnTheWay := fun _ h => List.mem_cons_of_mem _ (List.mem_append_right _ (h))
  have L4 : ∀ (x1 : Int32) (k : Int32 → Int32 → Option (Int32)) (hk : ∀ (x2 : Int32) (x3 : Int32) (H : Heap) (locs : List Loc) (ls : Array Slot), k x2 x3 = some y → wd g A s.heap [kX0 g a0 v0] H locs → lv_has ls 4 [(0, .ref (a0 0)), (1, .int x1), (2, .int x2), (3, .int x3)] → W p l e (rmk 1 23) s m args below meth c H locs 0 0 Q (F0 m 27 ls [])) (n : Nat) (x2 : Int32) (x3 : Int32) (H : Heap) (locs : List Loc) (ls : Array Slot), fX0_lettersOnTheWay_L4 N k x1 v0 n x2 x3 = some y → wd g A s.heap [kX0 g a0 v0] H locs → lv_has ls 4 [(0, .ref (a0 0)), (1, .int x1), (2, .int x2), (3, .int x3)] → W p l e (rmk 1 23) s m args below meth c H locs 0 0 Q (F0 m 4 ls []) := by
    intro x1 k hk n
    induction n with
    | zero => intro x2 x3 H locs ls hf; rw [fX0_lettersOnTheWay_L4] at hf; cases hf
    | succ n ih =>
      intro x2 x3 H locs ls hf hW hl
      rw [fX0_lettersOnTheWay_L4] at hf
      refine lv_iload_n hx hb dX0_lettersOnTheWay_4 rfl (lv_at hl 3 rfl) ?_
      refine lv_aload_n hx hb dX0_lettersOnTheWay_5 rfl (lv_at hl 0 rfl) ?_
      refine g_get C hW inX0 0 rfl rfl rfl 0 (by decide) (List.mem_of_getElem? (i := 1) rfl) (v := .int (v0 0 0)) rfl dX0_lettersOnTheWay_6 ?_
      refine lv_icmp_ge (tgt := 27) hx hb dX0_lettersOnTheWay_9 (by decide) (fun h => ?_) (fun h => ?_)
      · replace hf := (if_pos h).symm.trans hf
        exact hk _ _ H locs ls hf hW (lv_sub hl [0, 1, 2, 3] rfl)
      · replace hf := (if_neg h).symm.trans hf
        refine lv_iload_n hx hb dX0_lettersOnTheWay_12 rfl (lv_at hl 2 rfl) ?_
        refine lv_aload_n hx hb dX0_lettersOnTheWay_13 rfl (lv_at hl 0 rfl) ?_
        refine lv_iload_n hx hb dX0_lettersOnTheWay_14 rfl (lv_at hl 3 rfl) ?_
        refine lv_iload_n hx hb dX0_lettersOnTheWay_15 rfl (lv_at hl 1 rfl) ?_
        obtain ⟨y1, hc, hf⟩ := bd_of hf
        refine g_cV (Cn := RX0) C (ct_X0_lettersOf g l N a0 x3 x1 v0 hc) gX0_lettersOnTheWay_X0_lettersOf rfl 2 (by decide +kernel) ⟨rfl, rfl, ⟨Nat.le_of_ble_eq_true rfl, Nat.le_of_ble_eq_true rfl⟩, Nat.le_of_ble_eq_true rfl, Nat.le_of_ble_eq_true rfl⟩ rfl hl (Nat.le_of_ble_eq_true rfl) dX0_lettersOnTheWay_16 rfl hW hA [0] rfl rfl rfl (ch' := [kX0 g a0 v0]) rfl 0 rfl rfl rfl (fun H locs hW => ?_)
        refine lv_iadd hx hb dX0_lettersOnTheWay_19 ?_
        refine lv_istore_n (lv' := [(2, .int (x2 + y1)), (0, .ref (a0 0)), (1, .int x1), (3, .int x3)]) hx hb dX0_lettersOnTheWay_20 rfl hl (by decide) rfl (fun ls hl => ?_)
        refine lv_iinc (v := (x3 + 1)) (lv' := [(3, .int (x3 + 1)), (2, .int (x2 + y1)), (0, .ref (a0 0)), (1, .int x1)]) hx hb dX0_lettersOnTheWay_21 hl (k := 3) rfl (by first | rfl | decide) (by decide) rfl (fun ls hl => ?_)
        refine lv_goto (tgt := 4) hx hb dX0_lettersOnTheWay_24 (by decide) ?_
        exact ih _ _ H locs ls hf hW (lv_sub hl [2, 3, 1, 0] rfl)
  rw [fX0_lettersOnTheWay] at hf
  refine lv_iconst (v := (0 : Int32)) hx hb dX0_lettersOnTheWay_0 (by decide) ?_
  refine lv_istore_n (lv' := [(2, .int (0 : Int32)), (0, .ref (a0 0)), (1, .int x1)]) hx hb dX0_lettersOnTheWay_1 rfl hl (by decide) rfl (fun ls hl => ?_)
  refine lv_iconst (v := (0 : Int32)) hx hb dX0_lettersOnTheWay_2 (by decide) ?_
  refine lv_istore_n (lv' := [(3, .int (0 : Int32)), (2, .int (0 : Int32)), (0, .ref (a0 0)), (1, .int x1)]) hx hb dX0_lettersOnTheWay_3 rfl hl (by decide) rfl (fun ls hl => ?_)
  refine L4 x1 _ (fun x2_2 x3_2 H locs ls hf hW hl => ?_) N (0 : Int32) (0 : Int32) H locs ls hf hW (lv_sub hl [2, 3, 1, 0] rfl)
  refine lv_iload_n hx hb dX0_lettersOnTheWay_27 rfl (lv_at hl 2 rfl) ?_
  obtain rfl := Option.some.inj hf
  subst hQ
  exact g_iret C hr hk0 hW rfl rfl dX0_lettersOnTheWay_28
def fX0_blocksOf_L4 (N : Nat) (k : Int32 → Int32 → Option (Int32)) (x1 : Int32) (v0 : MM) : Nat → Int32 → Int32 → Option (Int32)
  | 0, _, _ => none
  | n + 1, x2, x3 => (if (v0 0 0) ≤ x3 then k x2 x3 else (if (60 : Int32) ≤ x3 then k x2 x3 else (if ib x3 60 = true then (if ((v0 1) (Int32.toNatClampNeg x3)) = x1 then fX0_blocksOf_L4 N k x1 v0 n (x2 + (1 : Int32)) (x3 + 1) else fX0_blocksOf_L4 N k x1 v0 n (x2 + (0 : Int32)) (x3 + 1)) else none)))
def fX0_blocksOf (N : Nat) (x1 : Int32) (v0 : MM) : Option (Int32) := (fX0_blocksOf_L4 N (fun (x2_1 : Int32) (x3_1 : Int32) => some x2_1) x1 v0 N (0 : Int32) (0 : Int32))
set_option maxHeartbeats 4000000 in
set_option maxRecDepth 100000 in
theorem ct_X0_blocksOf (g : GT) (l : Launch) (N : Nat) (a0 : Nat → Nat) (x1 : Int32) (v0 : MM) {y : Int32} (hf : fX0_blocksOf N x1 v0 = some y) : ct g l yX0_blocksOf wsX0_blocksOf (rmk 0 0) [.ref (a0 0), .int x1] [kX0 g a0 v0] (some (.int y)) [kX0 g a0 v0] := by
  refine ct_of (cc := cX0_blocksOf) (maxL := 4) (ret := (some .int)) (by decide) rfl (Nat.le_of_ble_eq_true rfl) ?_
  intro p e s m args below meth c A ls C hr hk0 hA hW hl
  have hx := C.1.1
  have hb := C.1.2.1
  replace hl : lv_has ls 4 [(0, .ref (a0 0)), (1, .int x1)] := hl
  obtain ⟨Q, hQ⟩ : ∃ Q, Q = MQ below (ctQ g A (some (.int y)) [kX0 g a0 v0]) args s 0 0 A := ⟨_, rfl⟩
  rw [← hQ]
  obtain ⟨H, hH⟩ : ∃ H, H = s.heap := ⟨_, rfl⟩
  obtain ⟨locs, hL⟩ : ∃ locs : List Loc, locs = [] := ⟨_, rfl⟩
  replace hW : wd g A s.heap [kX0 g a0 v0] H locs := by rw [hH, hL]; exact hW
  suffices hG : W p l e (rmk 0 0) s m args below meth c H locs 0 0 Q (F0 m 0 ls []) by
    rw [hH, hL] at hG; exact hG
  clear hH hL
  have inX0 : ∀ w ∈ wsX00, w ∈ wsX0_blocksOf := fun _ h => List.mem_cons_of_mem _ (List.mem_append_right _ (h))
  have L4 : ∀ (x1 : Int32) (k : Int32 → Int32 → Option (Int32)) (hk : ∀ (x2 : Int32) (x3 : Int32) (H : Heap) (locs : List Loc) (ls : Array Slot), k x2 x3 = some y → wd g A s.heap [kX0 g a0 v0] H locs → lv_has ls 4 [(0, .ref (a0 0)), (1, .int x1), (2, .int x2), (3, .int x3)] → W p l e (rmk 0 0) s m args below meth c H locs 0 0 Q (F0 m 42 ls [])) (n : Nat) (x2 : Int32) (x3 : Int32) (H : Heap) (locs : List Loc) (ls : Array Slot), fX0_blocksOf_L4 N k x1 v0 n x2 x3 = some y → wd g A s.heap [kX0 g a0 v0] H locs → lv_has ls 4 [(0, .ref (a0 0)), (1, .int x1), (2, .int x2), (3, .int x3)] → W p l e (rmk 0 0) s m args below meth c H locs 0 0 Q (F0 m 4 ls []) := by
    intro x1 k hk n
    induction n with
    | zero => intro x2 x3 H locs ls hf; rw [fX0_blocksOf_L4] at hf; cases hf
    | succ n ih =>
      intro x2 x3 H locs ls hf hW hl
      rw [fX0_blocksOf_L4] at hf
      refine lv_iload_n hx hb dX0_blocksOf_4 rfl (lv_at hl 3 rfl) ?_
      refine lv_aload_n hx hb dX0_blocksOf_5 rfl (lv_at hl 0 rfl) ?_
      refine g_get C hW inX0 0 rfl rfl rfl 0 (by decide) (List.mem_of_getElem? (i := 1) rfl) (v := .int (v0 0 0)) rfl dX0_blocksOf_6 ?_
      refine lv_icmp_ge (tgt := 42) hx hb dX0_blocksOf_9 (by decide) (fun h => ?_) (fun h => ?_)
      · replace hf := (if_pos h).symm.trans hf
        exact hk _ _ H locs ls hf hW (lv_sub hl [0, 1, 2, 3] rfl)
      · replace hf := (if_neg h).symm.trans hf
        refine lv_iload_n hx hb dX0_blocksOf_12 rfl (lv_at hl 3 rfl) ?_
        refine lv_bipush (v := (60 : Int32)) hx hb dX0_blocksOf_13 (by decide) ?_
        refine lv_icmp_ge (tgt := 42) hx hb dX0_blocksOf_15 (by decide) (fun h => ?_) (fun h => ?_)
        · replace hf := (if_pos h).symm.trans hf
          exact hk _ _ H locs ls hf hW (lv_sub hl [0, 1, 2, 3] rfl)
        · replace hf := (if_neg h).symm.trans hf
          refine lv_iload_n hx hb dX0_blocksOf_18 rfl (lv_at hl 2 rfl) ?_
          refine lv_aload_n hx hb dX0_blocksOf_19 rfl (lv_at hl 0 rfl) ?_
          refine g_get C hW inX0 0 rfl rfl rfl 1 (by decide) (List.mem_of_getElem? (i := 2) rfl) (v := .ref (a0 1)) rfl dX0_blocksOf_20 ?_
          refine lv_iload_n hx hb dX0_blocksOf_23 rfl (lv_at hl 3 rfl) ?_
          obtain ⟨hi, hf⟩ := gd_of hf
          refine g_iald C hW 0 1 rfl (f := (v0 1)) rfl (ib_in hi) dX0_blocksOf_24 ?_
          refine lv_iload_n hx hb dX0_blocksOf_25 rfl (lv_at hl 1 rfl) ?_
          refine lv_icmp_ne (tgt := 33) hx hb dX0_blocksOf_26 (by decide) (fun h => ?_) (fun h => ?_)
          · replace hf := (if_neg h).symm.trans hf
            refine lv_iconst (v := (0 : Int32)) hx hb dX0_blocksOf_33 (by decide) ?_
            refine lv_iadd hx hb dX0_blocksOf_34 ?_
            refine lv_istore_n (lv' := [(2, .int (x2 + (0 : Int32))), (0, .ref (a0 0)), (1, .int x1), (3, .int x3)]) hx hb dX0_blocksOf_35 rfl hl (by decide) rfl (fun ls hl => ?_)
            refine lv_iinc (v := (x3 + 1)) (lv' := [(3, .int (x3 + 1)), (2, .int (x2 + (0 : Int32))), (0, .ref (a0 0)), (1, .int x1)]) hx hb dX0_blocksOf_36 hl (k := 3) rfl (by first | rfl | decide) (by decide) rfl (fun ls hl => ?_)
            refine lv_goto (tgt := 4) hx hb dX0_blocksOf_39 (by decide) ?_
            exact ih _ _ H locs ls hf hW (lv_sub hl [2, 3, 1, 0] rfl)
          · replace hf := (if_pos h).symm.trans hf
            refine lv_iconst (v := (1 : Int32)) hx hb dX0_blocksOf_29 (by decide) ?_
            refine lv_goto (tgt := 34) hx hb dX0_blocksOf_30 (by decide) ?_
            refine lv_iadd hx hb dX0_blocksOf_34 ?_
            refine lv_istore_n (lv' := [(2, .int (x2 + (1 : Int32))), (0, .ref (a0 0)), (1, .int x1), (3, .int x3)]) hx hb dX0_blocksOf_35 rfl hl (by decide) rfl (fun ls hl => ?_)
            refine lv_iinc (v := (x3 + 1)) (lv' := [(3, .int (x3 + 1)), (2, .int (x2 + (1 : Int32))), (0, .ref (a0 0)), (1, .int x1)]) hx hb dX0_blocksOf_36 hl (k := 3) rfl (by first | rfl | decide) (by decide) rfl (fun ls hl => ?_)
            refine lv_goto (tgt := 4) hx hb dX0_blocksOf_39 (by decide) ?_
            exact ih _ _ H locs ls hf hW (lv_sub hl [2, 3, 1, 0] rfl)
  rw [fX0_blocksOf] at hf
  refine lv_iconst (v := (0 : Int32)) hx hb dX0_blocksOf_0 (by decide) ?_
  refine lv_istore_n (lv' := [(2, .int (0 : Int32)), (0, .ref (a0 0)), (1, .int x1)]) hx hb dX0_blocksOf_1 rfl hl (by decide) rfl (fun ls hl => ?_)
  refine lv_iconst (v := (0 : Int32)) hx hb dX0_blocksOf_2 (by decide) ?_
  refine lv_istore_n (lv' := [(3, .int (0 : Int32)), (2, .int (0 : Int32)), (0, .ref (a0 0)), (1, .int x1)]) hx hb dX0_blocksOf_3 rfl hl (by decide) rfl (fun ls hl => ?_)
  refine L4 x1 _ (fun x2_1 x3_1 H locs ls hf hW hl => ?_) N (0 : Int32) (0 : Int32) H locs ls hf hW (lv_sub hl [2, 3, 1, 0] rfl)
  refine lv_iload_n hx hb dX0_blocksOf_42 rfl (lv_at hl 2 rfl) ?_
  obtain rfl := Option.some.inj hf
  subst hQ
  exact g_iret C hr hk0 hW rfl rfl dX0_blocksOf_43
end
section
def fX7_isWithin (N : Nat) (x0 : Int32) (x1 : Int32) (x2 : Int32) : Option (Int32) := (if x0 < x1 then some (0 : Int32) else (if x2 < x0 then some (0 : Int32) else some (1 : Int32)))
set_option maxHeartbeats 4000000 in
set_option maxRecDepth 100000 in
theorem ct_X7_isWithin (g : GT) (l : Launch) (N : Nat) (x0 : Int32) (x1 : Int32) (x2 : Int32) {y : Int32} (hf : fX7_isWithin N x0 x1 x2 = some y) : ct g l yX7_isWithin wsX7_isWithin (rmk 0 0) [.int x0, .int x1, .int x2] [] (some (.int y)) [] := by
  refine ct_of (cc := cX7_isWithin) (maxL := 3) (ret := (some .boolean)) (by decide) rfl (Nat.le_of_ble_eq_true rfl) ?_
  intro p e s m args below meth c A ls C hr hk0 hA hW hl
  have hx := C.1.1
  have hb := C.1.2.1
  replace hl : lv_has ls 3 [(0, .int x0), (1, .int x1), (2, .int x2)] := hl
  obtain ⟨Q, hQ⟩ : ∃ Q, Q = MQ below (ctQ g A (some (.int y)) []) args s 0 0 A := ⟨_, rfl⟩
  rw [← hQ]
  obtain ⟨H, hH⟩ : ∃ H, H = s.heap := ⟨_, rfl⟩
  obtain ⟨locs, hL⟩ : ∃ locs : List Loc, locs = [] := ⟨_, rfl⟩
  replace hW : wd g A s.heap [] H locs := by rw [hH, hL]; exact hW
  suffices hG : W p l e (rmk 0 0) s m args below meth c H locs 0 0 Q (F0 m 0 ls []) by
    rw [hH, hL] at hG; exact hG
  clear hH hL
  rw [fX7_isWithin] at hf
  refine lv_iload_n hx hb dX7_isWithin_0 rfl (lv_at hl 0 rfl) ?_
  refine lv_iload_n hx hb dX7_isWithin_1 rfl (lv_at hl 1 rfl) ?_
  refine lv_icmp_lt (tgt := 14) hx hb dX7_isWithin_2 (by decide) (fun h => ?_) (fun h => ?_)
  · replace hf := (if_pos h).symm.trans hf
    refine lv_iconst (v := (0 : Int32)) hx hb dX7_isWithin_14 (by decide) ?_
    obtain rfl := Option.some.inj hf
    subst hQ
    exact g_zret C hr hk0 hW rfl rfl rfl dX7_isWithin_15
  · replace hf := (if_neg h).symm.trans hf
    refine lv_iload_n hx hb dX7_isWithin_5 rfl (lv_at hl 0 rfl) ?_
    refine lv_iload_n hx hb dX7_isWithin_6 rfl (lv_at hl 2 rfl) ?_
    refine lv_icmp_gt (tgt := 14) hx hb dX7_isWithin_7 (by decide) (fun h => ?_) (fun h => ?_)
    · replace hf := (if_pos h).symm.trans hf
      refine lv_iconst (v := (0 : Int32)) hx hb dX7_isWithin_14 (by decide) ?_
      obtain rfl := Option.some.inj hf
      subst hQ
      exact g_zret C hr hk0 hW rfl rfl rfl dX7_isWithin_15
    · replace hf := (if_neg h).symm.trans hf
      refine lv_iconst (v := (1 : Int32)) hx hb dX7_isWithin_10 (by decide) ?_
      refine lv_goto (tgt := 15) hx hb dX7_isWithin_11 (by decide) ?_
      obtain rfl := Option.some.inj hf
      subst hQ
      exact g_zret C hr hk0 hW rfl rfl rfl dX7_isWithin_15
def fX3_begin (N : Nat) (v0 : MM) : Option (MM) := some (st (st (st (st (st (st v0 0 (fun _ => (0 : Int32))) 1 (fun _ => (0 : Int32))) 2 (fun _ => (20 : Int32))) 3 (fun _ => (2 : Int32))) 4 (fun _ => (4 : Int32))) 5 (fun _ => (3 : Int32)))
set_option maxHeartbeats 4000000 in
set_option maxRecDepth 100000 in
theorem ct_X3_begin (g : GT) (l : Launch) (N : Nat) (a0 : Nat → Nat) (v0 : MM) {y : MM} (hf : fX3_begin N v0 = some y) : ct g l yX3_begin wsX3_begin (rmk 0 0) [.ref (a0 0)] [kX3 g a0 v0] none [kX3 g a0 y] := by
  refine ct_of (cc := cX3_begin) (maxL := 1) (ret := none) (by decide) rfl (Nat.le_of_ble_eq_true rfl) ?_
  intro p e s m args below meth c A ls C hr hk0 hA hW hl
  have hx := C.1.1
  have hb := C.1.2.1
  replace hl : lv_has ls 1 [(0, .ref (a0 0))] := hl
  obtain ⟨Q, hQ⟩ : ∃ Q, Q = MQ below (ctQ g A none [kX3 g a0 y]) args s 0 0 A := ⟨_, rfl⟩
  rw [← hQ]
  obtain ⟨H, hH⟩ : ∃ H, H = s.heap := ⟨_, rfl⟩
  obtain ⟨locs, hL⟩ : ∃ locs : List Loc, locs = [] := ⟨_, rfl⟩
  replace hW : wd g A s.heap [kX3 g a0 v0] H locs := by rw [hH, hL]; exact hW
  suffices hG : W p l e (rmk 0 0) s m args below meth c H locs 0 0 Q (F0 m 0 ls []) by
    rw [hH, hL] at hG; exact hG
  clear hH hL
  have inX3 : ∀ w ∈ wsX30, w ∈ wsX3_begin := fun _ h => List.mem_cons_of_mem _ (List.mem_append_right _ (h))
  rw [fX3_begin] at hf
  refine lv_aload_n hx hb dX3_begin_0 rfl (lv_at hl 0 rfl) ?_
  refine lv_iconst (v := (0 : Int32)) hx hb dX3_begin_1 (by decide) ?_
  refine g_put C hW inX3 tyX3_ok nmX3 0 rfl rfl rfl 0 (by decide) (List.mem_of_getElem? (i := 1) rfl) rfl rfl rfl rfl (ch' := [kX3 g a0 (st v0 0 (fun _ => (0 : Int32)))]) rfl dX3_begin_2 (fun H locs hW => ?_)
  refine lv_aload_n hx hb dX3_begin_5 rfl (lv_at hl 0 rfl) ?_
  refine lv_iconst (v := (0 : Int32)) hx hb dX3_begin_6 (by decide) ?_
  refine g_put C hW inX3 tyX3_ok nmX3 0 rfl rfl rfl 1 (by decide) (List.mem_of_getElem? (i := 2) rfl) rfl rfl rfl rfl (ch' := [kX3 g a0 (st (st v0 0 (fun _ => (0 : Int32))) 1 (fun _ => (0 : Int32)))]) rfl dX3_begin_7 (fun H locs hW => ?_)
  refine lv_aload_n hx hb dX3_begin_10 rfl (lv_at hl 0 rfl) ?_
  refine lv_bipush (v := (20 : Int32)) hx hb dX3_begin_11 (by decide) ?_
  refine g_put C hW inX3 tyX3_ok nmX3 0 rfl rfl rfl 2 (by decide) (List.mem_of_getElem? (i := 3) rfl) rfl rfl rfl rfl (ch' := [kX3 g a0 (st (st (st v0 0 (fun _ => (0 : Int32))) 1 (fun _ => (0 : Int32))) 2 (fun _ => (20 : Int32)))]) rfl dX3_begin_13 (fun H locs hW => ?_)
  refine lv_aload_n hx hb dX3_begin_16 rfl (lv_at hl 0 rfl) ?_
  refine lv_iconst (v := (2 : Int32)) hx hb dX3_begin_17 (by decide) ?_
  refine g_put C hW inX3 tyX3_ok nmX3 0 rfl rfl rfl 3 (by decide) (List.mem_of_getElem? (i := 4) rfl) rfl rfl rfl rfl (ch' := [kX3 g a0 (st (st (st (st v0 0 (fun _ => (0 : Int32))) 1 (fun _ => (0 : Int32))) 2 (fun _ => (20 : Int32))) 3 (fun _ => (2 : Int32)))]) rfl dX3_begin_18 (fun H locs hW => ?_)
  refine lv_aload_n hx hb dX3_begin_21 rfl (lv_at hl 0 rfl) ?_
  refine lv_iconst (v := (4 : Int32)) hx hb dX3_begin_22 (by decide) ?_
  refine g_put C hW inX3 tyX3_ok nmX3 0 rfl rfl rfl 4 (by decide) (List.mem_of_getElem? (i := 5) rfl) rfl rfl rfl rfl (ch' := [kX3 g a0 (st (st (st (st (st v0 0 (fun _ => (0 : Int32))) 1 (fun _ => (0 : Int32))) 2 (fun _ => (20 : Int32))) 3 (fun _ => (2 : Int32))) 4 (fun _ => (4 : Int32)))]) rfl dX3_begin_23 (fun H locs hW => ?_)
  refine lv_aload_n hx hb dX3_begin_26 rfl (lv_at hl 0 rfl) ?_
  refine lv_iconst (v := (3 : Int32)) hx hb dX3_begin_27 (by decide) ?_
  refine g_put C hW inX3 tyX3_ok nmX3 0 rfl rfl rfl 5 (by decide) (List.mem_of_getElem? (i := 6) rfl) rfl rfl rfl rfl (ch' := [kX3 g a0 (st (st (st (st (st (st v0 0 (fun _ => (0 : Int32))) 1 (fun _ => (0 : Int32))) 2 (fun _ => (20 : Int32))) 3 (fun _ => (2 : Int32))) 4 (fun _ => (4 : Int32))) 5 (fun _ => (3 : Int32)))]) rfl dX3_begin_28 (fun H locs hW => ?_)
  obtain rfl := Option.some.inj hf
  subst hQ
  exact g_vret C hr hk0 hW rfl rfl dX3_begin_31
def fX3_isAhead (N : Nat) (x1 : Int32) (x2 : Int32) (v0 : MM) : Option (Int32) := (if ib x1 6 = true then (if ib x2 6 = true then (if ((v0 8) (Int32.toNatClampNeg x1)) < ((v0 8) (Int32.toNatClampNeg x2)) then some (1 : Int32) else (if ib x1 6 = true then (if ib x2 6 = true then (if ((v0 8) (Int32.toNatClampNeg x1)) = ((v0 8) (Int32.toNatClampNeg x2)) then (if x2 ≤ x1 then some (0 : Int32) else some (1 : Int32)) else some (0 : Int32)) else none) else none)) else none) else none)
set_option maxHeartbeats 4000000 in
set_option maxRecDepth 100000 in
theorem ct_X3_isAhead (g : GT) (l : Launch) (N : Nat) (a0 : Nat → Nat) (x1 : Int32) (x2 : Int32) (v0 : MM) {y : Int32} (hf : fX3_isAhead N x1 x2 v0 = some y) : ct g l yX3_isAhead wsX3_isAhead (rmk 0 0) [.ref (a0 0), .int x1, .int x2] [kX3 g a0 v0] (some (.int y)) [kX3 g a0 v0] := by
  refine ct_of (cc := cX3_isAhead) (maxL := 3) (ret := (some .boolean)) (by decide) rfl (Nat.le_of_ble_eq_true rfl) ?_
  intro p e s m args below meth c A ls C hr hk0 hA hW hl
  have hx := C.1.1
  have hb := C.1.2.1
  replace hl : lv_has ls 3 [(0, .ref (a0 0)), (1, .int x1), (2, .int x2)] := hl
  obtain ⟨Q, hQ⟩ : ∃ Q, Q = MQ below (ctQ g A (some (.int y)) [kX3 g a0 v0]) args s 0 0 A := ⟨_, rfl⟩
  rw [← hQ]
  obtain ⟨H, hH⟩ : ∃ H, H = s.heap := ⟨_, rfl⟩
  obtain ⟨locs, hL⟩ : ∃ locs : List Loc, locs = [] := ⟨_, rfl⟩
  replace hW : wd g A s.heap [kX3 g a0 v0] H locs := by rw [hH, hL]; exact hW
  suffices hG : W p l e (rmk 0 0) s m args below meth c H locs 0 0 Q (F0 m 0 ls []) by
    rw [hH, hL] at hG; exact hG
  clear hH hL
  have inX3 : ∀ w ∈ wsX30, w ∈ wsX3_isAhead := fun _ h => List.mem_cons_of_mem _ (List.mem_append_right _ (h))
  rw [fX3_isAhead] at hf
  refine lv_aload_n hx hb dX3_isAhead_0 rfl (lv_at hl 0 rfl) ?_
  refine g_get C hW inX3 0 rfl rfl rfl 8 (by decide) (List.mem_of_getElem? (i := 1) rfl) (v := .ref (a0 3)) rfl dX3_isAhead_1 ?_
  refine lv_iload_n hx hb dX3_isAhead_4 rfl (lv_at hl 1 rfl) ?_
  obtain ⟨hi, hf⟩ := gd_of hf
  refine g_iald C hW 0 3 rfl (f := (v0 8)) rfl (ib_in hi) dX3_isAhead_5 ?_
  refine lv_aload_n hx hb dX3_isAhead_6 rfl (lv_at hl 0 rfl) ?_
  refine g_get C hW inX3 0 rfl rfl rfl 8 (by decide) (List.mem_of_getElem? (i := 1) rfl) (v := .ref (a0 3)) rfl dX3_isAhead_7 ?_
  refine lv_iload_n hx hb dX3_isAhead_10 rfl (lv_at hl 2 rfl) ?_
  obtain ⟨hi, hf⟩ := gd_of hf
  refine g_iald C hW 0 3 rfl (f := (v0 8)) rfl (ib_in hi) dX3_isAhead_11 ?_
  refine lv_icmp_lt (tgt := 35) hx hb dX3_isAhead_12 (by decide) (fun h => ?_) (fun h => ?_)
  · replace hf := (if_pos h).symm.trans hf
    refine lv_iconst (v := (1 : Int32)) hx hb dX3_isAhead_35 (by decide) ?_
    refine lv_goto (tgt := 40) hx hb dX3_isAhead_36 (by decide) ?_
    obtain rfl := Option.some.inj hf
    subst hQ
    exact g_zret C hr hk0 hW rfl rfl rfl dX3_isAhead_40
  · replace hf := (if_neg h).symm.trans hf
    refine lv_aload_n hx hb dX3_isAhead_15 rfl (lv_at hl 0 rfl) ?_
    refine g_get C hW inX3 0 rfl rfl rfl 8 (by decide) (List.mem_of_getElem? (i := 1) rfl) (v := .ref (a0 3)) rfl dX3_isAhead_16 ?_
    refine lv_iload_n hx hb dX3_isAhead_19 rfl (lv_at hl 1 rfl) ?_
    obtain ⟨hi, hf⟩ := gd_of hf
    refine g_iald C hW 0 3 rfl (f := (v0 8)) rfl (ib_in hi) dX3_isAhead_20 ?_
    refine lv_aload_n hx hb dX3_isAhead_21 rfl (lv_at hl 0 rfl) ?_
    refine g_get C hW inX3 0 rfl rfl rfl 8 (by decide) (List.mem_of_getElem? (i := 1) rfl) (v := .ref (a0 3)) rfl dX3_isAhead_22 ?_
    refine lv_iload_n hx hb dX3_isAhead_25 rfl (lv_at hl 2 rfl) ?_
    obtain ⟨hi, hf⟩ := gd_of hf
    refine g_iald C hW 0 3 rfl (f := (v0 8)) rfl (ib_in hi) dX3_isAhead_26 ?_
    refine lv_icmp_ne (tgt := 39) hx hb dX3_isAhead_27 (by decide) (fun h => ?_) (fun h => ?_)
    · replace hf := (if_neg h).symm.trans hf
      refine lv_iconst (v := (0 : Int32)) hx hb dX3_isAhead_39 (by decide) ?_
      obtain rfl := Option.some.inj hf
      subst hQ
      exact g_zret C hr hk0 hW rfl rfl rfl dX3_isAhead_40
    · replace hf := (if_pos h).symm.trans hf
      refine lv_iload_n hx hb dX3_isAhead_30 rfl (lv_at hl 1 rfl) ?_
      refine lv_iload_n hx hb dX3_isAhead_31 rfl (lv_at hl 2 rfl) ?_
      refine lv_icmp_ge (tgt := 39) hx hb dX3_isAhead_32 (by decide) (fun h => ?_) (fun h => ?_)
      · replace hf := (if_pos h).symm.trans hf
        refine lv_iconst (v := (0 : Int32)) hx hb dX3_isAhead_39 (by decide) ?_
        obtain rfl := Option.some.inj hf
        subst hQ
        exact g_zret C hr hk0 hW rfl rfl rfl dX3_isAhead_40
      · replace hf := (if_neg h).symm.trans hf
        refine lv_iconst (v := (1 : Int32)) hx hb dX3_isAhead_35 (by decide) ?_
        refine lv_goto (tgt := 40) hx hb dX3_isAhead_36 (by decide) ?_
        obtain rfl := Option.some.inj hf
        subst hQ
        exact g_zret C hr hk0 hW rfl rfl rfl dX3_isAhead_40
def fX3_isPlaceToAsk (N : Nat) (x1 : Int32) (x2 : Int32) (v0 : MM) : Option (Int32) := (if ib x1 3 = true then (if ((v0 6) (Int32.toNatClampNeg x1)) ≤ 0 then some (0 : Int32) else (if ¬ ((v0 6) (Int32.toNatClampNeg x1)) = 0 then (if ¬ ((v0 6) (Int32.toNatClampNeg x1)) = 0 then (if (x2 - x2 / ((v0 6) (Int32.toNatClampNeg x1)) * ((v0 6) (Int32.toNatClampNeg x1))) = (x1 - x1 / ((v0 6) (Int32.toNatClampNeg x1)) * ((v0 6) (Int32.toNatClampNeg x1))) then some (1 : Int32) else some (0 : Int32)) else none) else none)) else none)
set_option maxHeartbeats 4000000 in
set_option maxRecDepth 100000 in
theorem ct_X3_isPlaceToAsk (g : GT) (l : Launch) (N : Nat) (a0 : Nat → Nat) (x1 : Int32) (x2 : Int32) (v0 : MM) {y : Int32} (hf : fX3_isPlaceToAsk N x1 x2 v0 = some y) : ct g l yX3_isPlaceToAsk wsX3_isPlaceToAsk (rmk 0 0) [.ref (a0 0), .int x1, .int x2] [kX3 g a0 v0] (some (.int y)) [kX3 g a0 v0] := by
  refine ct_of (cc := cX3_isPlaceToAsk) (maxL := 4) (ret := (some .boolean)) (by decide) rfl (Nat.le_of_ble_eq_true rfl) ?_
  intro p e s m args below meth c A ls C hr hk0 hA hW hl
  have hx := C.1.1
  have hb := C.1.2.1
  replace hl : lv_has ls 4 [(0, .ref (a0 0)), (1, .int x1), (2, .int x2)] := hl
  obtain ⟨Q, hQ⟩ : ∃ Q, Q = MQ below (ctQ g A (some (.int y)) [kX3 g a0 v0]) args s 0 0 A := ⟨_, rfl⟩
  rw [← hQ]
  obtain ⟨H, hH⟩ : ∃ H, H = s.heap := ⟨_, rfl⟩
  obtain ⟨locs, hL⟩ : ∃ locs : List Loc, locs = [] := ⟨_, rfl⟩
  replace hW : wd g A s.heap [kX3 g a0 v0] H locs := by rw [hH, hL]; exact hW
  suffices hG : W p l e (rmk 0 0) s m args below meth c H locs 0 0 Q (F0 m 0 ls []) by
    rw [hH, hL] at hG; exact hG
  clear hH hL
  have inX3 : ∀ w ∈ wsX30, w ∈ wsX3_isPlaceToAsk := fun _ h => List.mem_cons_of_mem _ (List.mem_append_right _ (h))
  rw [fX3_isPlaceToAsk] at hf
  refine lv_aload_n hx hb dX3_isPlaceToAsk_0 rfl (lv_at hl 0 rfl) ?_
  refine g_get C hW inX3 0 rfl rfl rfl 6 (by decide) (List.mem_of_getElem? (i := 1) rfl) (v := .ref (a0 1)) rfl dX3_isPlaceToAsk_1 ?_
  refine lv_iload_n hx hb dX3_isPlaceToAsk_4 rfl (lv_at hl 1 rfl) ?_
  obtain ⟨hi, hf⟩ := gd_of hf
  refine g_iald C hW 0 1 rfl (f := (v0 6)) rfl (ib_in hi) dX3_isPlaceToAsk_5 ?_
  refine lv_istore_n (lv' := [(3, .int ((v0 6) (Int32.toNatClampNeg x1))), (0, .ref (a0 0)), (1, .int x1), (2, .int x2)]) hx hb dX3_isPlaceToAsk_6 rfl hl (by decide) rfl (fun ls hl => ?_)
  refine lv_iload_n hx hb dX3_isPlaceToAsk_7 rfl (lv_at hl 0 rfl) ?_
  refine lv_if_le (tgt := 24) hx hb dX3_isPlaceToAsk_8 (by decide) (fun h => ?_) (fun h => ?_)
  · replace hf := (if_pos h).symm.trans hf
    refine lv_iconst (v := (0 : Int32)) hx hb dX3_isPlaceToAsk_24 (by decide) ?_
    obtain rfl := Option.some.inj hf
    subst hQ
    exact g_zret C hr hk0 hW rfl rfl rfl dX3_isPlaceToAsk_25
  · replace hf := (if_neg h).symm.trans hf
    refine lv_iload_n hx hb dX3_isPlaceToAsk_11 rfl (lv_at hl 3 rfl) ?_
    refine lv_iload_n hx hb dX3_isPlaceToAsk_12 rfl (lv_at hl 0 rfl) ?_
    obtain ⟨hi, hf⟩ := gd_of hf
    refine lv_irem hx hb dX3_isPlaceToAsk_13 hi ?_
    refine lv_iload_n hx hb dX3_isPlaceToAsk_14 rfl (lv_at hl 2 rfl) ?_
    refine lv_iload_n hx hb dX3_isPlaceToAsk_15 rfl (lv_at hl 0 rfl) ?_
    obtain ⟨hi, hf⟩ := gd_of hf
    refine lv_irem hx hb dX3_isPlaceToAsk_16 hi ?_
    refine lv_icmp_ne (tgt := 24) hx hb dX3_isPlaceToAsk_17 (by decide) (fun h => ?_) (fun h => ?_)
    · replace hf := (if_neg h).symm.trans hf
      refine lv_iconst (v := (0 : Int32)) hx hb dX3_isPlaceToAsk_24 (by decide) ?_
      obtain rfl := Option.some.inj hf
      subst hQ
      exact g_zret C hr hk0 hW rfl rfl rfl dX3_isPlaceToAsk_25
    · replace hf := (if_pos h).symm.trans hf
      refine lv_iconst (v := (1 : Int32)) hx hb dX3_isPlaceToAsk_20 (by decide) ?_
      refine lv_goto (tgt := 25) hx hb dX3_isPlaceToAsk_21 (by decide) ?_
      obtain rfl := Option.some.inj hf
      subst hQ
      exact g_zret C hr hk0 hW rfl rfl rfl dX3_isPlaceToAsk_25
def fX4_isDeaf (N : Nat) (x1 : Int32) (x2 : Int32) (v0 : MM) : Option (Int32) := (if x2 < 0 then some (0 : Int32) else (if (199 : Int32) < x2 then some (0 : Int32) else (if ib x2 200 = true then (if (((v0 13) (Int32.toNatClampNeg x2)) &&& ((1 : Int32) <<< (x1 &&& 31))) = 0 then some (0 : Int32) else some (1 : Int32)) else none)))
set_option maxHeartbeats 4000000 in
set_option maxRecDepth 100000 in
theorem ct_X4_isDeaf (g : GT) (l : Launch) (N : Nat) (a0 : Nat → Nat) (q14 : Nat) (x1 : Int32) (x2 : Int32) (v0 : MM) {y : Int32} (hf : fX4_isDeaf N x1 x2 v0 = some y) : ct g l yX4_isDeaf wsX4_isDeaf (rmk 0 0) [.ref (a0 0), .int x1, .int x2] [kX4 g a0 q14 v0] (some (.int y)) [kX4 g a0 q14 v0] := by
  refine ct_of (cc := cX4_isDeaf) (maxL := 3) (ret := (some .boolean)) (by decide) rfl (Nat.le_of_ble_eq_true rfl) ?_
  intro p e s m args below meth c A ls C hr hk0 hA hW hl
  have hx := C.1.1
  have hb := C.1.2.1
  replace hl : lv_has ls 3 [(0, .ref (a0 0)), (1, .int x1), (2, .int x2)] := hl
  obtain ⟨Q, hQ⟩ : ∃ Q, Q = MQ below (ctQ g A (some (.int y)) [kX4 g a0 q14 v0]) args s 0 0 A := ⟨_, rfl⟩
  rw [← hQ]
  obtain ⟨H, hH⟩ : ∃ H, H = s.heap := ⟨_, rfl⟩
  obtain ⟨locs, hL⟩ : ∃ locs : List Loc, locs = [] := ⟨_, rfl⟩
  replace hW : wd g A s.heap [kX4 g a0 q14 v0] H locs := by rw [hH, hL]; exact hW
  suffices hG : W p l e (rmk 0 0) s m args below meth c H locs 0 0 Q (F0 m 0 ls []) by
    rw [hH, hL] at hG; exact hG
  clear hH hL
  have inX4 : ∀ w ∈ wsX40, w ∈ wsX4_isDeaf := fun _ h => List.mem_cons_of_mem _ (List.mem_append_right _ (h))
  rw [fX4_isDeaf] at hf
  refine lv_iload_n hx hb dX4_isDeaf_0 rfl (lv_at hl 2 rfl) ?_
  refine lv_if_lt (tgt := 28) hx hb dX4_isDeaf_1 (by decide) (fun h => ?_) (fun h => ?_)
  · replace hf := (if_pos h).symm.trans hf
    refine lv_iconst (v := (0 : Int32)) hx hb dX4_isDeaf_28 (by decide) ?_
    obtain rfl := Option.some.inj hf
    subst hQ
    exact g_zret C hr hk0 hW rfl rfl rfl dX4_isDeaf_29
  · replace hf := (if_neg h).symm.trans hf
    refine lv_iload_n hx hb dX4_isDeaf_4 rfl (lv_at hl 2 rfl) ?_
    refine lv_sipush (v := (199 : Int32)) hx hb dX4_isDeaf_5 (by decide) ?_
    refine lv_icmp_gt (tgt := 28) hx hb dX4_isDeaf_8 (by decide) (fun h => ?_) (fun h => ?_)
    · replace hf := (if_pos h).symm.trans hf
      refine lv_iconst (v := (0 : Int32)) hx hb dX4_isDeaf_28 (by decide) ?_
      obtain rfl := Option.some.inj hf
      subst hQ
      exact g_zret C hr hk0 hW rfl rfl rfl dX4_isDeaf_29
    · replace hf := (if_neg h).symm.trans hf
      refine lv_aload_n hx hb dX4_isDeaf_11 rfl (lv_at hl 0 rfl) ?_
      refine g_get C hW inX4 0 rfl rfl rfl 13 (by decide) (List.mem_of_getElem? (i := 1) rfl) (v := .ref (a0 11)) rfl dX4_isDeaf_12 ?_
      refine lv_iload_n hx hb dX4_isDeaf_15 rfl (lv_at hl 2 rfl) ?_
      obtain ⟨hi, hf⟩ := gd_of hf
      refine g_iald C hW 0 11 rfl (f := (v0 13)) rfl (ib_in hi) dX4_isDeaf_16 ?_
      refine lv_iconst (v := (1 : Int32)) hx hb dX4_isDeaf_17 (by decide) ?_
      refine lv_iload_n hx hb dX4_isDeaf_18 rfl (lv_at hl 1 rfl) ?_
      refine lv_ishl hx hb dX4_isDeaf_19 ?_
      refine lv_iand hx hb dX4_isDeaf_20 ?_
      refine lv_if_eq (tgt := 28) hx hb dX4_isDeaf_21 (by decide) (fun h => ?_) (fun h => ?_)
      · replace hf := (if_pos h).symm.trans hf
        refine lv_iconst (v := (0 : Int32)) hx hb dX4_isDeaf_28 (by decide) ?_
        obtain rfl := Option.some.inj hf
        subst hQ
        exact g_zret C hr hk0 hW rfl rfl rfl dX4_isDeaf_29
      · replace hf := (if_neg h).symm.trans hf
        refine lv_iconst (v := (1 : Int32)) hx hb dX4_isDeaf_24 (by decide) ?_
        refine lv_goto (tgt := 29) hx hb dX4_isDeaf_25 (by decide) ?_
        obtain rfl := Option.some.inj hf
        subst hQ
        exact g_zret C hr hk0 hW rfl rfl rfl dX4_isDeaf_29
def fX4_makeDeaf_L10 (N : Nat) (k : Int32 → Int32 → MM → Option (Int32 × MM)) (x1 : Int32) (x2 : Int32) (x3 : Int32) : Nat → Int32 → Int32 → MM → Option (Int32 × MM)
  | 0, _, _, _ => none
  | n + 1, x4, x5, v0 => (if x3 < x5 then k x4 x5 v0 else (if (199 : Int32) < x5 then k x4 x5 v0 else ((fX4_isDeaf N x1 x5 v0).bind (fun y1 => (if y1 = 0 then (if ib x5 200 = true then (if ib x5 200 = true then fX4_makeDeaf_L10 N k x1 x2 x3 n (x4 + 1) (x5 + 1) (st v0 13 (upd (v0 13) (Int32.toNatClampNeg x5) (((v0 13) (Int32.toNatClampNeg x5)) ||| ((1 : Int32) <<< (x1 &&& 31))))) else none) else none) else fX4_makeDeaf_L10 N k x1 x2 x3 n x4 (x5 + 1) v0)))))
def fX4_makeDeaf (N : Nat) (x1 : Int32) (x2 : Int32) (x3 : Int32) (v0 : MM) : Option (Int32 × MM) := (fX4_makeDeaf_L10 N (fun (x4_2 : Int32) (x5_2 : Int32) (v0_2 : MM) => some (x4_2, v0_2)) x1 x2 x3 N (0 : Int32) (if (0 : Int32) < x2 then x2 else (0 : Int32)) v0)
set_option maxHeartbeats 4000000 in
set_option maxRecDepth 100000 in
theorem ct_X4_makeDeaf (g : GT) (l : Launch) (N : Nat) (a0 : Nat → Nat) (q14 : Nat) (x1 : Int32) (x2 : Int32) (x3 : Int32) (v0 : MM) {y : Int32 × MM} (hf : fX4_makeDeaf N x1 x2 x3 v0 = some y) : ct g l yX4_makeDeaf wsX4_makeDeaf (rmk 1 22) [.ref (a0 0), .int x1, .int x2, .int x3] [kX4 g a0 q14 v0] (some (.int y.1)) [kX4 g a0 q14 y.2] := by
  refine ct_of (cc := cX4_makeDeaf) (maxL := 6) (ret := (some .int)) (by decide) rfl (Nat.le_of_ble_eq_true rfl) ?_
  intro p e s m args below meth c A ls C hr hk0 hA hW hl
  have hx := C.1.1
  have hb := C.1.2.1
  replace hl : lv_has ls 6 [(0, .ref (a0 0)), (1, .int x1), (2, .int x2), (3, .int x3)] := hl
  obtain ⟨Q, hQ⟩ : ∃ Q, Q = MQ below (ctQ g A (some (.int y.1)) [kX4 g a0 q14 y.2]) args s 0 0 A := ⟨_, rfl⟩
  rw [← hQ]
  obtain ⟨H, hH⟩ : ∃ H, H = s.heap := ⟨_, rfl⟩
  obtain ⟨locs, hL⟩ : ∃ locs : List Loc, locs = [] := ⟨_, rfl⟩
  replace hW : wd g A s.heap [kX4 g a0 q14 v0] H locs := by rw [hH, hL]; exact hW
  suffices hG : W p l e (rmk 1 22) s m args below meth c H locs 0 0 Q (F0 m 0 ls []) by
    rw [hH, hL] at hG; exact hG
  clear hH hL
  have inX4 : ∀ w ∈ wsX40, w ∈ wsX4_makeDeaf := fun _ h => List.mem_cons_of_mem _ (List.mem_append_right _ (h))
  have L10 : ∀ (x1 : Int32) (x2 : Int32) (x3 : Int32) (k : Int32 → Int32 → MM → Option (Int32 × MM)) (hk : ∀ (x4 : Int32) (x5 : Int32) (v0 : MM) (H : Heap) (locs : List Loc) (ls : Array Slot), k x4 x5 v0 = some y → wd g A s.heap [kX4 g a0 q14 v0] H locs → lv_has ls 6 [(0, .ref (a0 0)), (1, .int x1), (2, .int x2), (3, .int x3), (4, .int x4), (5, .int x5)] → W p l e (rmk 1 22) s m args below meth c H locs 0 0 Q (F0 m 56 ls [])) (n : Nat) (x4 : Int32) (x5 : Int32) (v0 : MM) (H : Heap) (locs : List Loc) (ls : Array Slot), fX4_makeDeaf_L10 N k x1 x2 x3 n x4 x5 v0 = some y → wd g A s.heap [kX4 g a0 q14 v0] H locs → lv_has ls 6 [(0, .ref (a0 0)), (1, .int x1), (2, .int x2), (3, .int x3), (4, .int x4), (5, .int x5)] → W p l e (rmk 1 22) s m args below meth c H locs 0 0 Q (F0 m 10 ls []) := by
    intro x1 x2 x3 k hk n
    induction n with
    | zero => intro x4 x5 v0 H locs ls hf; rw [fX4_makeDeaf_L10] at hf; cases hf
    | succ n ih =>
      intro x4 x5 v0 H locs ls hf hW hl
      rw [fX4_makeDeaf_L10] at hf
      refine lv_iload hx hb dX4_makeDeaf_10 (lv_at hl 5 rfl) ?_
      refine lv_iload_n hx hb dX4_makeDeaf_12 rfl (lv_at hl 3 rfl) ?_
      refine lv_icmp_gt (tgt := 56) hx hb dX4_makeDeaf_13 (by decide) (fun h => ?_) (fun h => ?_)
      · replace hf := (if_pos h).symm.trans hf
        exact hk _ _ _ H locs ls hf hW (lv_sub hl [0, 1, 2, 3, 4, 5] rfl)
      · replace hf := (if_neg h).symm.trans hf
        refine lv_iload hx hb dX4_makeDeaf_16 (lv_at hl 5 rfl) ?_
        refine lv_sipush (v := (199 : Int32)) hx hb dX4_makeDeaf_18 (by decide) ?_
        refine lv_icmp_gt (tgt := 56) hx hb dX4_makeDeaf_21 (by decide) (fun h => ?_) (fun h => ?_)
        · replace hf := (if_pos h).symm.trans hf
          exact hk _ _ _ H locs ls hf hW (lv_sub hl [0, 1, 2, 3, 4, 5] rfl)
        · replace hf := (if_neg h).symm.trans hf
          refine lv_aload_n hx hb dX4_makeDeaf_24 rfl (lv_at hl 0 rfl) ?_
          refine lv_iload_n hx hb dX4_makeDeaf_25 rfl (lv_at hl 1 rfl) ?_
          refine lv_iload hx hb dX4_makeDeaf_26 (lv_at hl 5 rfl) ?_
          obtain ⟨y1, hc, hf⟩ := bd_of hf
          refine g_cV (Cn := RX4) C (ct_X4_isDeaf g l N a0 q14 x1 x5 v0 hc) gX4_makeDeaf_X4_isDeaf rfl 2 (by decide +kernel) ⟨rfl, rfl, ⟨Nat.le_of_ble_eq_true rfl, Nat.le_of_ble_eq_true rfl⟩, Nat.le_of_ble_eq_true rfl, Nat.le_of_ble_eq_true rfl⟩ rfl hl (Nat.le_of_ble_eq_true rfl) dX4_makeDeaf_28 rfl hW hA [0] rfl rfl rfl (ch' := [kX4 g a0 q14 v0]) rfl 0 rfl rfl rfl (fun H locs hW => ?_)
          refine lv_if_ne (tgt := 50) hx hb dX4_makeDeaf_31 (by decide) (fun h => ?_) (fun h => ?_)
          · replace hf := (if_neg h).symm.trans hf
            refine lv_iinc (v := (x5 + 1)) (lv' := [(5, .int (x5 + 1)), (0, .ref (a0 0)), (1, .int x1), (2, .int x2), (3, .int x3), (4, .int x4)]) hx hb dX4_makeDeaf_50 hl (k := 5) rfl (by first | rfl | decide) (by decide) rfl (fun ls hl => ?_)
            refine lv_goto (tgt := 10) hx hb dX4_makeDeaf_53 (by decide) ?_
            exact ih _ _ _ H locs ls hf hW (lv_sub hl [1, 2, 3, 4, 5, 0] rfl)
          · replace hf := (if_pos h).symm.trans hf
            refine lv_aload_n hx hb dX4_makeDeaf_34 rfl (lv_at hl 0 rfl) ?_
            refine g_get C hW inX4 0 rfl rfl rfl 13 (by decide) (List.mem_of_getElem? (i := 5) rfl) (v := .ref (a0 11)) rfl dX4_makeDeaf_35 ?_
            refine lv_iload hx hb dX4_makeDeaf_38 (lv_at hl 5 rfl) ?_
            refine lv_dup2_11 hx hb dX4_makeDeaf_40 rfl rfl ?_
            obtain ⟨hi, hf⟩ := gd_of hf
            refine g_iald C hW 0 11 rfl (f := (v0 13)) rfl (ib_in hi) dX4_makeDeaf_41 ?_
            refine lv_iconst (v := (1 : Int32)) hx hb dX4_makeDeaf_42 (by decide) ?_
            refine lv_iload_n hx hb dX4_makeDeaf_43 rfl (lv_at hl 1 rfl) ?_
            refine lv_ishl hx hb dX4_makeDeaf_44 ?_
            refine lv_ior hx hb dX4_makeDeaf_45 ?_
            obtain ⟨hi, hf⟩ := gd_of hf
            refine g_iast C hW 0 11 rfl (f := (v0 13)) rfl (ib_in hi) (ch' := [kX4 g a0 q14 (st v0 13 (upd (v0 13) (Int32.toNatClampNeg x5) (((v0 13) (Int32.toNatClampNeg x5)) ||| ((1 : Int32) <<< (x1 &&& 31)))))]) rfl dX4_makeDeaf_46 (fun H locs hW => ?_)
            refine lv_iinc (v := (x4 + 1)) (lv' := [(4, .int (x4 + 1)), (0, .ref (a0 0)), (1, .int x1), (2, .int x2), (3, .int x3), (5, .int x5)]) hx hb dX4_makeDeaf_47 hl (k := 4) rfl (by first | rfl | decide) (by decide) rfl (fun ls hl => ?_)
            refine lv_iinc (v := (x5 + 1)) (lv' := [(5, .int (x5 + 1)), (4, .int (x4 + 1)), (0, .ref (a0 0)), (1, .int x1), (2, .int x2), (3, .int x3)]) hx hb dX4_makeDeaf_50 hl (k := 5) rfl (by first | rfl | decide) (by decide) rfl (fun ls hl => ?_)
            refine lv_goto (tgt := 10) hx hb dX4_makeDeaf_53 (by decide) ?_
            exact ih _ _ _ H locs ls hf hW (lv_sub hl [2, 3, 4, 5, 1, 0] rfl)
  rw [fX4_makeDeaf] at hf
  refine lv_iconst (v := (0 : Int32)) hx hb dX4_makeDeaf_0 (by decide) ?_
  refine lv_istore (lv' := [(4, .int (0 : Int32)), (0, .ref (a0 0)), (1, .int x1), (2, .int x2), (3, .int x3)]) hx hb dX4_makeDeaf_1 hl (by decide) rfl (fun ls hl => ?_)
  refine lv_iconst (v := (0 : Int32)) hx hb dX4_makeDeaf_3 (by decide) ?_
  refine lv_iload_n hx hb dX4_makeDeaf_4 rfl (lv_at hl 3 rfl) ?_
  refine g_mmax C hl (List.mem_of_getElem? (i := 1) rfl) (List.mem_of_getElem? (i := 2) rfl) (List.mem_of_getElem? (i := 3) rfl) (List.mem_of_getElem? (i := 4) rfl) ⟨Nat.le_of_ble_eq_true rfl, Nat.le_of_ble_eq_true rfl, Nat.le_of_ble_eq_true rfl, Nat.le_of_ble_eq_true rfl⟩ (Nat.le_of_ble_eq_true rfl) dX4_makeDeaf_5 ?_
  refine lv_istore (lv' := [(5, .int (if (0 : Int32) < x2 then x2 else (0 : Int32))), (4, .int (0 : Int32)), (0, .ref (a0 0)), (1, .int x1), (2, .int x2), (3, .int x3)]) hx hb dX4_makeDeaf_8 hl (by decide) rfl (fun ls hl => ?_)
  refine L10 x1 x2 x3 _ (fun x4_2 x5_2 v0_2 H locs ls hf hW hl => ?_) N (0 : Int32) (if (0 : Int32) < x2 then x2 else (0 : Int32)) v0 H locs ls hf hW (lv_sub hl [2, 3, 4, 5, 1, 0] rfl)
  refine lv_iload hx hb dX4_makeDeaf_56 (lv_at hl 4 rfl) ?_
  obtain rfl := Option.some.inj hf
  subst hQ
  exact g_iret C hr hk0 hW rfl rfl dX4_makeDeaf_58
def fX4_allThrough_L4 (N : Nat) (k : Int32 → Int32 → Option (Int32)) (v0 : MM) : Nat → Int32 → Int32 → Option (Int32)
  | 0, _, _ => none
  | n + 1, x1, x2 => (if (6 : Int32) ≤ x2 then k x1 x2 else (if ib x2 6 = true then fX4_allThrough_L4 N k v0 n (x1 + ((v0 11) (Int32.toNatClampNeg x2))) (x2 + 1) else none))
def fX4_allThrough (N : Nat) (v0 : MM) : Option (Int32) := (fX4_allThrough_L4 N (fun (x1_1 : Int32) (x2_1 : Int32) => some x1_1) v0 N (0 : Int32) (0 : Int32))
set_option maxHeartbeats 4000000 in
set_option maxRecDepth 100000 in
theorem ct_X4_allThrough (g : GT) (l : Launch) (N : Nat) (a0 : Nat → Nat) (q14 : Nat) (v0 : MM) {y : Int32} (hf : fX4_allThrough N v0 = some y) : ct g l yX4_allThrough wsX4_allThrough (rmk 0 0) [.ref (a0 0)] [kX4 g a0 q14 v0] (some (.int y)) [kX4 g a0 q14 v0] := by
  refine ct_of (cc := cX4_allThrough) (maxL := 3) (ret := (some .int)) (by decide) rfl (Nat.le_of_ble_eq_true rfl) ?_
  intro p e s m args below meth c A ls C hr hk0 hA hW hl
  have hx := C.1.1
  have hb := C.1.2.1
  replace hl : lv_has ls 3 [(0, .ref (a0 0))] := hl
  obtain ⟨Q, hQ⟩ : ∃ Q, Q = MQ below (ctQ g A (some (.int y)) [kX4 g a0 q14 v0]) args s 0 0 A := ⟨_, rfl⟩
  rw [← hQ]
  obtain ⟨H, hH⟩ : ∃ H, H = s.heap := ⟨_, rfl⟩
  obtain ⟨locs, hL⟩ : ∃ locs : List Loc, locs = [] := ⟨_, rfl⟩
  replace hW : wd g A s.heap [kX4 g a0 q14 v0] H locs := by rw [hH, hL]; exact hW
  suffices hG : W p l e (rmk 0 0) s m args below meth c H locs 0 0 Q (F0 m 0 ls []) by
    rw [hH, hL] at hG; exact hG
  clear hH hL
  have inX4 : ∀ w ∈ wsX40, w ∈ wsX4_allThrough := fun _ h => List.mem_cons_of_mem _ (List.mem_append_right _ (h))
  have L4 : ∀ (k : Int32 → Int32 → Option (Int32)) (hk : ∀ (x1 : Int32) (x2 : Int32) (H : Heap) (locs : List Loc) (ls : Array Slot), k x1 x2 = some y → wd g A s.heap [kX4 g a0 q14 v0] H locs → lv_has ls 3 [(0, .ref (a0 0)), (1, .int x1), (2, .int x2)] → W p l e (rmk 0 0) s m args below meth c H locs 0 0 Q (F0 m 25 ls [])) (n : Nat) (x1 : Int32) (x2 : Int32) (H : Heap) (locs : List Loc) (ls : Array Slot), fX4_allThrough_L4 N k v0 n x1 x2 = some y → wd g A s.heap [kX4 g a0 q14 v0] H locs → lv_has ls 3 [(0, .ref (a0 0)), (1, .int x1), (2, .int x2)] → W p l e (rmk 0 0) s m args below meth c H locs 0 0 Q (F0 m 4 ls []) := by
    intro k hk n
    induction n with
    | zero => intro x1 x2 H locs ls hf; rw [fX4_allThrough_L4] at hf; cases hf
    | succ n ih =>
      intro x1 x2 H locs ls hf hW hl
      rw [fX4_allThrough_L4] at hf
      refine lv_iload_n hx hb dX4_allThrough_4 rfl (lv_at hl 2 rfl) ?_
      refine lv_bipush (v := (6 : Int32)) hx hb dX4_allThrough_5 (by decide) ?_
      refine lv_icmp_ge (tgt := 25) hx hb dX4_allThrough_7 (by decide) (fun h => ?_) (fun h => ?_)
      · replace hf := (if_pos h).symm.trans hf
        exact hk _ _ H locs ls hf hW (lv_sub hl [0, 1, 2] rfl)
      · replace hf := (if_neg h).symm.trans hf
        refine lv_iload_n hx hb dX4_allThrough_10 rfl (lv_at hl 1 rfl) ?_
        refine lv_aload_n hx hb dX4_allThrough_11 rfl (lv_at hl 0 rfl) ?_
        refine g_get C hW inX4 0 rfl rfl rfl 11 (by decide) (List.mem_of_getElem? (i := 1) rfl) (v := .ref (a0 9)) rfl dX4_allThrough_12 ?_
        refine lv_iload_n hx hb dX4_allThrough_15 rfl (lv_at hl 2 rfl) ?_
        obtain ⟨hi, hf⟩ := gd_of hf
        refine g_iald C hW 0 9 rfl (f := (v0 11)) rfl (ib_in hi) dX4_allThrough_16 ?_
        refine lv_iadd hx hb dX4_allThrough_17 ?_
        refine lv_istore_n (lv' := [(1, .int (x1 + ((v0 11) (Int32.toNatClampNeg x2)))), (0, .ref (a0 0)), (2, .int x2)]) hx hb dX4_allThrough_18 rfl hl (by decide) rfl (fun ls hl => ?_)
        refine lv_iinc (v := (x2 + 1)) (lv' := [(2, .int (x2 + 1)), (1, .int (x1 + ((v0 11) (Int32.toNatClampNeg x2)))), (0, .ref (a0 0))]) hx hb dX4_allThrough_19 hl (k := 2) rfl (by first | rfl | decide) (by decide) rfl (fun ls hl => ?_)
        refine lv_goto (tgt := 4) hx hb dX4_allThrough_22 (by decide) ?_
        exact ih _ _ H locs ls hf hW (lv_sub hl [2, 1, 0] rfl)
  rw [fX4_allThrough] at hf
  refine lv_iconst (v := (0 : Int32)) hx hb dX4_allThrough_0 (by decide) ?_
  refine lv_istore_n (lv' := [(1, .int (0 : Int32)), (0, .ref (a0 0))]) hx hb dX4_allThrough_1 rfl hl (by decide) rfl (fun ls hl => ?_)
  refine lv_iconst (v := (0 : Int32)) hx hb dX4_allThrough_2 (by decide) ?_
  refine lv_istore_n (lv' := [(2, .int (0 : Int32)), (1, .int (0 : Int32)), (0, .ref (a0 0))]) hx hb dX4_allThrough_3 rfl hl (by decide) rfl (fun ls hl => ?_)
  refine L4 _ (fun x1_1 x2_1 H locs ls hf hW hl => ?_) N (0 : Int32) (0 : Int32) H locs ls hf hW (lv_sub hl [2, 1, 0] rfl)
  refine lv_iload_n hx hb dX4_allThrough_25 rfl (lv_at hl 1 rfl) ?_
  obtain rfl := Option.some.inj hf
  subst hQ
  exact g_iret C hr hk0 hW rfl rfl dX4_allThrough_26
def fX4_isDrained_L10 (N : Nat) (k : Int32 → Int32 → Option (Int32)) (v0 : MM) (v1 : MM) : Nat → Int32 → Int32 → Option (Int32)
  | 0, _, _ => none
  | n + 1, x1, x2 => (if (6 : Int32) ≤ x2 then k x1 x2 else (if ib x2 6 = true then fX4_isDrained_L10 N k v0 v1 n (x1 + ((v1 9) (Int32.toNatClampNeg x2))) (x2 + 1) else none))
def fX4_isDrained (N : Nat) (v0 : MM) (v1 : MM) : Option (Int32) := (fX4_isDrained_L10 N (fun (x1_1 : Int32) (x2_1 : Int32) => (if x1_1 = 0 then some (1 : Int32) else some (0 : Int32))) v0 v1 N (v0 0 0) (0 : Int32))
set_option maxHeartbeats 4000000 in
set_option maxRecDepth 100000 in
theorem ct_X4_isDrained (g : GT) (l : Launch) (N : Nat) (a0 : Nat → Nat) (a1 : Nat → Nat) (v0 : MM) (v1 : MM) {y : Int32} (hf : fX4_isDrained N v0 v1 = some y) : ct g l yX4_isDrained wsX4_isDrained (rmk 0 0) [.ref (a1 0)] [kX0 g a0 v0, kX4 g a1 (a0 0) v1] (some (.int y)) [kX0 g a0 v0, kX4 g a1 (a0 0) v1] := by
  refine ct_of (cc := cX4_isDrained) (maxL := 3) (ret := (some .boolean)) (by decide) rfl (Nat.le_of_ble_eq_true rfl) ?_
  intro p e s m args below meth c A ls C hr hk0 hA hW hl
  have hx := C.1.1
  have hb := C.1.2.1
  replace hl : lv_has ls 3 [(0, .ref (a1 0))] := hl
  obtain ⟨Q, hQ⟩ : ∃ Q, Q = MQ below (ctQ g A (some (.int y)) [kX0 g a0 v0, kX4 g a1 (a0 0) v1]) args s 0 0 A := ⟨_, rfl⟩
  rw [← hQ]
  obtain ⟨H, hH⟩ : ∃ H, H = s.heap := ⟨_, rfl⟩
  obtain ⟨locs, hL⟩ : ∃ locs : List Loc, locs = [] := ⟨_, rfl⟩
  replace hW : wd g A s.heap [kX0 g a0 v0, kX4 g a1 (a0 0) v1] H locs := by rw [hH, hL]; exact hW
  suffices hG : W p l e (rmk 0 0) s m args below meth c H locs 0 0 Q (F0 m 0 ls []) by
    rw [hH, hL] at hG; exact hG
  clear hH hL
  have inX0 : ∀ w ∈ wsX00, w ∈ wsX4_isDrained := fun _ h => List.mem_cons_of_mem _ (List.mem_append_right _ (h))
  have inX4 : ∀ w ∈ wsX40, w ∈ wsX4_isDrained := fun _ h => List.mem_cons_of_mem _ (List.mem_append_left _ (List.mem_append_right _ (h)))
  have L10 : ∀ (k : Int32 → Int32 → Option (Int32)) (hk : ∀ (x1 : Int32) (x2 : Int32) (H : Heap) (locs : List Loc) (ls : Array Slot), k x1 x2 = some y → wd g A s.heap [kX0 g a0 v0, kX4 g a1 (a0 0) v1] H locs → lv_has ls 3 [(0, .ref (a1 0)), (1, .int x1), (2, .int x2)] → W p l e (rmk 0 0) s m args below meth c H locs 0 0 Q (F0 m 31 ls [])) (n : Nat) (x1 : Int32) (x2 : Int32) (H : Heap) (locs : List Loc) (ls : Array Slot), fX4_isDrained_L10 N k v0 v1 n x1 x2 = some y → wd g A s.heap [kX0 g a0 v0, kX4 g a1 (a0 0) v1] H locs → lv_has ls 3 [(0, .ref (a1 0)), (1, .int x1), (2, .int x2)] → W p l e (rmk 0 0) s m args below meth c H locs 0 0 Q (F0 m 10 ls []) := by
    intro k hk n
    induction n with
    | zero => intro x1 x2 H locs ls hf; rw [fX4_isDrained_L10] at hf; cases hf
    | succ n ih =>
      intro x1 x2 H locs ls hf hW hl
      rw [fX4_isDrained_L10] at hf
      refine lv_iload_n hx hb dX4_isDrained_10 rfl (lv_at hl 2 rfl) ?_
      refine lv_bipush (v := (6 : Int32)) hx hb dX4_isDrained_11 (by decide) ?_
      refine lv_icmp_ge (tgt := 31) hx hb dX4_isDrained_13 (by decide) (fun h => ?_) (fun h => ?_)
      · replace hf := (if_pos h).symm.trans hf
        exact hk _ _ H locs ls hf hW (lv_sub hl [0, 1, 2] rfl)
      · replace hf := (if_neg h).symm.trans hf
        refine lv_iload_n hx hb dX4_isDrained_16 rfl (lv_at hl 1 rfl) ?_
        refine lv_aload_n hx hb dX4_isDrained_17 rfl (lv_at hl 0 rfl) ?_
        refine g_get C hW inX4 1 rfl rfl rfl 9 (by decide) (List.mem_of_getElem? (i := 3) rfl) (v := .ref (a1 7)) rfl dX4_isDrained_18 ?_
        refine lv_iload_n hx hb dX4_isDrained_21 rfl (lv_at hl 2 rfl) ?_
        obtain ⟨hi, hf⟩ := gd_of hf
        refine g_iald C hW 1 7 rfl (f := (v1 9)) rfl (ib_in hi) dX4_isDrained_22 ?_
        refine lv_iadd hx hb dX4_isDrained_23 ?_
        refine lv_istore_n (lv' := [(1, .int (x1 + ((v1 9) (Int32.toNatClampNeg x2)))), (0, .ref (a1 0)), (2, .int x2)]) hx hb dX4_isDrained_24 rfl hl (by decide) rfl (fun ls hl => ?_)
        refine lv_iinc (v := (x2 + 1)) (lv' := [(2, .int (x2 + 1)), (1, .int (x1 + ((v1 9) (Int32.toNatClampNeg x2)))), (0, .ref (a1 0))]) hx hb dX4_isDrained_25 hl (k := 2) rfl (by first | rfl | decide) (by decide) rfl (fun ls hl => ?_)
        refine lv_goto (tgt := 10) hx hb dX4_isDrained_28 (by decide) ?_
        exact ih _ _ H locs ls hf hW (lv_sub hl [2, 1, 0] rfl)
  rw [fX4_isDrained] at hf
  refine lv_aload_n hx hb dX4_isDrained_0 rfl (lv_at hl 0 rfl) ?_
  refine g_get C hW inX4 1 rfl rfl rfl 14 (by decide) (List.mem_of_getElem? (i := 1) rfl) (v := .ref (a0 0)) rfl dX4_isDrained_1 ?_
  refine g_get C hW inX0 0 rfl rfl rfl 0 (by decide) (List.mem_of_getElem? (i := 2) rfl) (v := .int (v0 0 0)) rfl dX4_isDrained_4 ?_
  refine lv_istore_n (lv' := [(1, .int (v0 0 0)), (0, .ref (a1 0))]) hx hb dX4_isDrained_7 rfl hl (by decide) rfl (fun ls hl => ?_)
  refine lv_iconst (v := (0 : Int32)) hx hb dX4_isDrained_8 (by decide) ?_
  refine lv_istore_n (lv' := [(2, .int (0 : Int32)), (1, .int (v0 0 0)), (0, .ref (a1 0))]) hx hb dX4_isDrained_9 rfl hl (by decide) rfl (fun ls hl => ?_)
  refine L10 _ (fun x1_1 x2_1 H locs ls hf hW hl => ?_) N (v0 0 0) (0 : Int32) H locs ls hf hW (lv_sub hl [2, 1, 0] rfl)
  refine lv_iload_n hx hb dX4_isDrained_31 rfl (lv_at hl 1 rfl) ?_
  refine lv_if_ne (tgt := 39) hx hb dX4_isDrained_32 (by decide) (fun h => ?_) (fun h => ?_)
  · replace hf := (if_neg h).symm.trans hf
    refine lv_iconst (v := (0 : Int32)) hx hb dX4_isDrained_39 (by decide) ?_
    obtain rfl := Option.some.inj hf
    subst hQ
    exact g_zret C hr hk0 hW rfl rfl rfl dX4_isDrained_40
  · replace hf := (if_pos h).symm.trans hf
    refine lv_iconst (v := (1 : Int32)) hx hb dX4_isDrained_35 (by decide) ?_
    refine lv_goto (tgt := 40) hx hb dX4_isDrained_36 (by decide) ?_
    obtain rfl := Option.some.inj hf
    subst hQ
    exact g_zret C hr hk0 hW rfl rfl rfl dX4_isDrained_40
def fX5_waitsUpTo_L2 (N : Nat) (k : Int32 → Option (Int32)) (x1 : Int32) (v0 : MM) (v1 : MM) (v2 : MM) : Nat → Int32 → Option (Int32)
  | 0, _ => none
  | n + 1, x2 => (if (v0 1 0) ≤ x2 then k x2 else (if ib x2 6 = true then (if ib x1 6 = true then (if ((v0 7) (Int32.toNatClampNeg x2)) = ((v0 7) (Int32.toNatClampNeg x1)) then ((fX3_isAhead N x1 x2 v0).bind (fun y1 => (if y1 = 0 then (if ib x2 6 = true then (if ((v1 9) (Int32.toNatClampNeg x2)) ≤ 0 then fX5_waitsUpTo_L2 N k x1 v0 v1 v2 n (x2 + 1) else some (1 : Int32)) else none) else fX5_waitsUpTo_L2 N k x1 v0 v1 v2 n (x2 + 1)))) else fX5_waitsUpTo_L2 N k x1 v0 v1 v2 n (x2 + 1)) else none) else none))
def fX5_waitsUpTo (N : Nat) (x1 : Int32) (v0 : MM) (v1 : MM) (v2 : MM) : Option (Int32) := (fX5_waitsUpTo_L2 N (fun (x2_2 : Int32) => some (0 : Int32)) x1 v0 v1 v2 N (0 : Int32))
set_option maxHeartbeats 4000000 in
set_option maxRecDepth 100000 in
theorem ct_X5_waitsUpTo (g : GT) (l : Launch) (N : Nat) (a0 : Nat → Nat) (a1 : Nat → Nat) (a2 : Nat → Nat) (q1_14 : Nat) (x1 : Int32) (v0 : MM) (v1 : MM) (v2 : MM) {y : Int32} (hf : fX5_waitsUpTo N x1 v0 v1 v2 = some y) : ct g l yX5_waitsUpTo wsX5_waitsUpTo (rmk 1 22) [.ref (a2 0), .int x1] [kX3 g a0 v0, kX4 g a1 q1_14 v1, kX5 g a2 (a0 0) (a1 0) v2] (some (.int y)) [kX3 g a0 v0, kX4 g a1 q1_14 v1, kX5 g a2 (a0 0) (a1 0) v2] := by
  refine ct_of (cc := cX5_waitsUpTo) (maxL := 4) (ret := (some .boolean)) (by decide) rfl (Nat.le_of_ble_eq_true rfl) ?_
  intro p e s m args below meth c A ls C hr hk0 hA hW hl
  have hx := C.1.1
  have hb := C.1.2.1
  replace hl : lv_has ls 4 [(0, .ref (a2 0)), (1, .int x1)] := hl
  obtain ⟨Q, hQ⟩ : ∃ Q, Q = MQ below (ctQ g A (some (.int y)) [kX3 g a0 v0, kX4 g a1 q1_14 v1, kX5 g a2 (a0 0) (a1 0) v2]) args s 0 0 A := ⟨_, rfl⟩
  rw [← hQ]
  obtain ⟨H, hH⟩ : ∃ H, H = s.heap := ⟨_, rfl⟩
  obtain ⟨locs, hL⟩ : ∃ locs : List Loc, locs = [] := ⟨_, rfl⟩
  replace hW : wd g A s.heap [kX3 g a0 v0, kX4 g a1 q1_14 v1, kX5 g a2 (a0 0) (a1 0) v2] H locs := by rw [hH, hL]; exact hW
  suffices hG : W p l e (rmk 1 22) s m args below meth c H locs 0 0 Q (F0 m 0 ls []) by
    rw [hH, hL] at hG; exact hG
  clear hH hL
  have inX3 : ∀ w ∈ wsX30, w ∈ wsX5_waitsUpTo := fun _ h => List.mem_cons_of_mem _ (List.mem_append_left _ (List.mem_append_right _ (h)))
  have inX4 : ∀ w ∈ wsX40, w ∈ wsX5_waitsUpTo := fun _ h => List.mem_cons_of_mem _ (List.mem_append_right _ (h))
  have inX5 : ∀ w ∈ wsX50, w ∈ wsX5_waitsUpTo := fun _ h => List.mem_cons_of_mem _ (List.mem_append_left _ (List.mem_append_left _ (List.mem_append_right _ (h))))
  have L2 : ∀ (x1 : Int32) (k : Int32 → Option (Int32)) (hk : ∀ (x2 : Int32) (H : Heap) (locs : List Loc) (ls : Array Slot), k x2 = some y → wd g A s.heap [kX3 g a0 v0, kX4 g a1 q1_14 v1, kX5 g a2 (a0 0) (a1 0) v2] H locs → lv_has ls 4 [(0, .ref (a2 0)), (1, .int x1), (2, .int x2)] → W p l e (rmk 1 22) s m args below meth c H locs 0 0 Q (F0 m 76 ls [])) (n : Nat) (x2 : Int32) (H : Heap) (locs : List Loc) (ls : Array Slot), fX5_waitsUpTo_L2 N k x1 v0 v1 v2 n x2 = some y → wd g A s.heap [kX3 g a0 v0, kX4 g a1 q1_14 v1, kX5 g a2 (a0 0) (a1 0) v2] H locs → lv_has ls 4 [(0, .ref (a2 0)), (1, .int x1), (2, .int x2)] → W p l e (rmk 1 22) s m args below meth c H locs 0 0 Q (F0 m 2 ls []) := by
    intro x1 k hk n
    induction n with
    | zero => intro x2 H locs ls hf; rw [fX5_waitsUpTo_L2] at hf; cases hf
    | succ n ih =>
      intro x2 H locs ls hf hW hl
      rw [fX5_waitsUpTo_L2] at hf
      refine lv_iload_n hx hb dX5_waitsUpTo_2 rfl (lv_at hl 2 rfl) ?_
      refine lv_aload_n hx hb dX5_waitsUpTo_3 rfl (lv_at hl 0 rfl) ?_
      refine g_get C hW inX5 2 rfl rfl rfl 0 (by decide) (List.mem_of_getElem? (i := 1) rfl) (v := .ref (a0 0)) rfl dX5_waitsUpTo_4 ?_
      refine g_get C hW inX3 0 rfl rfl rfl 1 (by decide) (List.mem_of_getElem? (i := 2) rfl) (v := .int (v0 1 0)) rfl dX5_waitsUpTo_7 ?_
      refine lv_icmp_ge (tgt := 76) hx hb dX5_waitsUpTo_10 (by decide) (fun h => ?_) (fun h => ?_)
      · replace hf := (if_pos h).symm.trans hf
        exact hk _ H locs ls hf hW (lv_sub hl [0, 1, 2] rfl)
      · replace hf := (if_neg h).symm.trans hf
        refine lv_aload_n hx hb dX5_waitsUpTo_13 rfl (lv_at hl 0 rfl) ?_
        refine g_get C hW inX5 2 rfl rfl rfl 0 (by decide) (List.mem_of_getElem? (i := 1) rfl) (v := .ref (a0 0)) rfl dX5_waitsUpTo_14 ?_
        refine g_get C hW inX3 0 rfl rfl rfl 7 (by decide) (List.mem_of_getElem? (i := 3) rfl) (v := .ref (a0 2)) rfl dX5_waitsUpTo_17 ?_
        refine lv_iload_n hx hb dX5_waitsUpTo_20 rfl (lv_at hl 2 rfl) ?_
        obtain ⟨hi, hf⟩ := gd_of hf
        refine g_iald C hW 0 2 rfl (f := (v0 7)) rfl (ib_in hi) dX5_waitsUpTo_21 ?_
        refine lv_aload_n hx hb dX5_waitsUpTo_22 rfl (lv_at hl 0 rfl) ?_
        refine g_get C hW inX5 2 rfl rfl rfl 0 (by decide) (List.mem_of_getElem? (i := 1) rfl) (v := .ref (a0 0)) rfl dX5_waitsUpTo_23 ?_
        refine g_get C hW inX3 0 rfl rfl rfl 7 (by decide) (List.mem_of_getElem? (i := 3) rfl) (v := .ref (a0 2)) rfl dX5_waitsUpTo_26 ?_
        refine lv_iload_n hx hb dX5_waitsUpTo_29 rfl (lv_at hl 1 rfl) ?_
        obtain ⟨hi, hf⟩ := gd_of hf
        refine g_iald C hW 0 2 rfl (f := (v0 7)) rfl (ib_in hi) dX5_waitsUpTo_30 ?_
        refine lv_icmp_ne (tgt := 50) hx hb dX5_waitsUpTo_31 (by decide) (fun h => ?_) (fun h => ?_)
        · replace hf := (if_neg h).symm.trans hf
          refine lv_iconst (v := (0 : Int32)) hx hb dX5_waitsUpTo_50 (by decide) ?_
          refine lv_istore_n (lv' := [(3, .int (0 : Int32)), (0, .ref (a2 0)), (1, .int x1), (2, .int x2)]) hx hb dX5_waitsUpTo_51 rfl hl (by decide) rfl (fun ls hl => ?_)
          refine lv_iload_n hx hb dX5_waitsUpTo_52 rfl (lv_at hl 0 rfl) ?_
          refine lv_if_eq (tgt := 70) hx hb dX5_waitsUpTo_53 (by decide) (fun _ => ?_) (fun h => absurd h (by decide))
          refine lv_iinc (v := (x2 + 1)) (lv' := [(2, .int (x2 + 1)), (3, .int (0 : Int32)), (0, .ref (a2 0)), (1, .int x1)]) hx hb dX5_waitsUpTo_70 hl (k := 3) rfl (by first | rfl | decide) (by decide) rfl (fun ls hl => ?_)
          refine lv_goto (tgt := 2) hx hb dX5_waitsUpTo_73 (by decide) ?_
          exact ih _ H locs ls hf hW (lv_sub hl [2, 3, 0] rfl)
        · replace hf := (if_pos h).symm.trans hf
          refine lv_aload_n hx hb dX5_waitsUpTo_34 rfl (lv_at hl 0 rfl) ?_
          refine g_get C hW inX5 2 rfl rfl rfl 0 (by decide) (List.mem_of_getElem? (i := 1) rfl) (v := .ref (a0 0)) rfl dX5_waitsUpTo_35 ?_
          refine lv_iload_n hx hb dX5_waitsUpTo_38 rfl (lv_at hl 1 rfl) ?_
          refine lv_iload_n hx hb dX5_waitsUpTo_39 rfl (lv_at hl 2 rfl) ?_
          obtain ⟨y1, hc, hf⟩ := bd_of hf
          refine g_cV (Cn := RX3) C (ct_X3_isAhead g l N a0 x1 x2 v0 hc) gX5_waitsUpTo_X3_isAhead rfl 2 (by decide +kernel) ⟨rfl, rfl, ⟨Nat.le_of_ble_eq_true rfl, Nat.le_of_ble_eq_true rfl⟩, Nat.le_of_ble_eq_true rfl, Nat.le_of_ble_eq_true rfl⟩ rfl hl (Nat.le_of_ble_eq_true rfl) dX5_waitsUpTo_40 rfl hW hA [0] rfl rfl rfl (ch' := [kX3 g a0 v0, kX4 g a1 q1_14 v1, kX5 g a2 (a0 0) (a1 0) v2]) rfl 0 rfl rfl rfl (fun H locs hW => ?_)
          refine lv_if_ne (tgt := 50) hx hb dX5_waitsUpTo_43 (by decide) (fun h => ?_) (fun h => ?_)
          · replace hf := (if_neg h).symm.trans hf
            refine lv_iconst (v := (0 : Int32)) hx hb dX5_waitsUpTo_50 (by decide) ?_
            refine lv_istore_n (lv' := [(3, .int (0 : Int32)), (0, .ref (a2 0)), (1, .int x1), (2, .int x2)]) hx hb dX5_waitsUpTo_51 rfl hl (by decide) rfl (fun ls hl => ?_)
            refine lv_iload_n hx hb dX5_waitsUpTo_52 rfl (lv_at hl 0 rfl) ?_
            refine lv_if_eq (tgt := 70) hx hb dX5_waitsUpTo_53 (by decide) (fun _ => ?_) (fun h => absurd h (by decide))
            refine lv_iinc (v := (x2 + 1)) (lv' := [(2, .int (x2 + 1)), (3, .int (0 : Int32)), (0, .ref (a2 0)), (1, .int x1)]) hx hb dX5_waitsUpTo_70 hl (k := 3) rfl (by first | rfl | decide) (by decide) rfl (fun ls hl => ?_)
            refine lv_goto (tgt := 2) hx hb dX5_waitsUpTo_73 (by decide) ?_
            exact ih _ H locs ls hf hW (lv_sub hl [2, 3, 0] rfl)
          · replace hf := (if_pos h).symm.trans hf
            refine lv_iconst (v := (1 : Int32)) hx hb dX5_waitsUpTo_46 (by decide) ?_
            refine lv_goto (tgt := 51) hx hb dX5_waitsUpTo_47 (by decide) ?_
            refine lv_istore_n (lv' := [(3, .int (1 : Int32)), (0, .ref (a2 0)), (1, .int x1), (2, .int x2)]) hx hb dX5_waitsUpTo_51 rfl hl (by decide) rfl (fun ls hl => ?_)
            refine lv_iload_n hx hb dX5_waitsUpTo_52 rfl (lv_at hl 0 rfl) ?_
            refine lv_if_eq (tgt := 70) hx hb dX5_waitsUpTo_53 (by decide) (fun h => absurd h (by decide)) (fun _ => ?_)
            refine lv_aload_n hx hb dX5_waitsUpTo_56 rfl (lv_at hl 1 rfl) ?_
            refine g_get C hW inX5 2 rfl rfl rfl 1 (by decide) (List.mem_of_getElem? (i := 4) rfl) (v := .ref (a1 0)) rfl dX5_waitsUpTo_57 ?_
            refine g_get C hW inX4 1 rfl rfl rfl 9 (by decide) (List.mem_of_getElem? (i := 5) rfl) (v := .ref (a1 7)) rfl dX5_waitsUpTo_60 ?_
            refine lv_iload_n hx hb dX5_waitsUpTo_63 rfl (lv_at hl 3 rfl) ?_
            obtain ⟨hi, hf⟩ := gd_of hf
            refine g_iald C hW 1 7 rfl (f := (v1 9)) rfl (ib_in hi) dX5_waitsUpTo_64 ?_
            refine lv_if_le (tgt := 70) hx hb dX5_waitsUpTo_65 (by decide) (fun h => ?_) (fun h => ?_)
            · replace hf := (if_pos h).symm.trans hf
              refine lv_iinc (v := (x2 + 1)) (lv' := [(2, .int (x2 + 1)), (3, .int (1 : Int32)), (0, .ref (a2 0)), (1, .int x1)]) hx hb dX5_waitsUpTo_70 hl (k := 3) rfl (by first | rfl | decide) (by decide) rfl (fun ls hl => ?_)
              refine lv_goto (tgt := 2) hx hb dX5_waitsUpTo_73 (by decide) ?_
              exact ih _ H locs ls hf hW (lv_sub hl [2, 3, 0] rfl)
            · replace hf := (if_neg h).symm.trans hf
              refine lv_iconst (v := (1 : Int32)) hx hb dX5_waitsUpTo_68 (by decide) ?_
              obtain rfl := Option.some.inj hf
              subst hQ
              exact g_zret C hr hk0 hW rfl rfl rfl dX5_waitsUpTo_69
  rw [fX5_waitsUpTo] at hf
  refine lv_iconst (v := (0 : Int32)) hx hb dX5_waitsUpTo_0 (by decide) ?_
  refine lv_istore_n (lv' := [(2, .int (0 : Int32)), (0, .ref (a2 0)), (1, .int x1)]) hx hb dX5_waitsUpTo_1 rfl hl (by decide) rfl (fun ls hl => ?_)
  refine L2 x1 _ (fun x2_2 H locs ls hf hW hl => ?_) N (0 : Int32) H locs ls hf hW (lv_sub hl [1, 2, 0] rfl)
  refine lv_iconst (v := (0 : Int32)) hx hb dX5_waitsUpTo_76 (by decide) ?_
  obtain rfl := Option.some.inj hf
  subst hQ
  exact g_zret C hr hk0 hW rfl rfl rfl dX5_waitsUpTo_77
def fX5_bring (N : Nat) (x1 : Int32) (x2 : Int32) (v0 : MM) (v1 : MM) (v2 : MM) : Option (MM) := (if ib x1 6 = true then ((fX7_isWithin N ((v0 7) (Int32.toNatClampNeg x1)) (0 : Int32) (2 : Int32)).bind (fun y1 => (if y1 = 0 then (if ib x1 6 = true then (if ib x1 6 = true then some (st v1 9 (upd (v1 9) (Int32.toNatClampNeg x1) (((v1 9) (Int32.toNatClampNeg x1)) + x2))) else none) else none) else ((fX5_waitsUpTo N x1 v0 v1 v2).bind (fun y2 => (if y2 = 0 then (if ib ((v0 7) (Int32.toNatClampNeg x1)) 3 = true then (if ib x1 6 = true then (if ib x1 6 = true then some (st (st v1 3 (upd (v1 3) (Int32.toNatClampNeg ((v0 7) (Int32.toNatClampNeg x1))) (1 : Int32))) 9 (upd (v1 9) (Int32.toNatClampNeg x1) (((v1 9) (Int32.toNatClampNeg x1)) + x2))) else none) else none) else none) else (if ib x1 6 = true then (if ib x1 6 = true then some (st v1 9 (upd (v1 9) (Int32.toNatClampNeg x1) (((v1 9) (Int32.toNatClampNeg x1)) + x2))) else none) else none))))))) else none)
set_option maxHeartbeats 4000000 in
set_option maxRecDepth 100000 in
theorem ct_X5_bring (g : GT) (l : Launch) (N : Nat) (a0 : Nat → Nat) (a1 : Nat → Nat) (a2 : Nat → Nat) (q1_14 : Nat) (x1 : Int32) (x2 : Int32) (v0 : MM) (v1 : MM) (v2 : MM) {y : MM} (hf : fX5_bring N x1 x2 v0 v1 v2 = some y) : ct g l yX5_bring wsX5_bring (rmk 2 45) [.ref (a2 0), .int x1, .int x2] [kX3 g a0 v0, kX4 g a1 q1_14 v1, kX5 g a2 (a0 0) (a1 0) v2] none [kX3 g a0 v0, kX4 g a1 q1_14 y, kX5 g a2 (a0 0) (a1 0) v2] := by
  refine ct_of (cc := cX5_bring) (maxL := 4) (ret := none) (by decide) rfl (Nat.le_of_ble_eq_true rfl) ?_
  intro p e s m args below meth c A ls C hr hk0 hA hW hl
  have hx := C.1.1
  have hb := C.1.2.1
  replace hl : lv_has ls 4 [(0, .ref (a2 0)), (1, .int x1), (2, .int x2)] := hl
  obtain ⟨Q, hQ⟩ : ∃ Q, Q = MQ below (ctQ g A none [kX3 g a0 v0, kX4 g a1 q1_14 y, kX5 g a2 (a0 0) (a1 0) v2]) args s 0 0 A := ⟨_, rfl⟩
  rw [← hQ]
  obtain ⟨H, hH⟩ : ∃ H, H = s.heap := ⟨_, rfl⟩
  obtain ⟨locs, hL⟩ : ∃ locs : List Loc, locs = [] := ⟨_, rfl⟩
  replace hW : wd g A s.heap [kX3 g a0 v0, kX4 g a1 q1_14 v1, kX5 g a2 (a0 0) (a1 0) v2] H locs := by rw [hH, hL]; exact hW
  suffices hG : W p l e (rmk 2 45) s m args below meth c H locs 0 0 Q (F0 m 0 ls []) by
    rw [hH, hL] at hG; exact hG
  clear hH hL
  have inX3 : ∀ w ∈ wsX30, w ∈ wsX5_bring := fun _ h => List.mem_cons_of_mem _ (List.mem_append_left _ (List.mem_append_right _ (h)))
  have inX4 : ∀ w ∈ wsX40, w ∈ wsX5_bring := fun _ h => List.mem_cons_of_mem _ (List.mem_append_right _ (h))
  have inX5 : ∀ w ∈ wsX50, w ∈ wsX5_bring := fun _ h => List.mem_cons_of_mem _ (List.mem_append_left _ (List.mem_append_left _ (List.mem_append_right _ (h))))
  rw [fX5_bring] at hf
  refine lv_aload_n hx hb dX5_bring_0 rfl (lv_at hl 0 rfl) ?_
  refine g_get C hW inX5 2 rfl rfl rfl 0 (by decide) (List.mem_of_getElem? (i := 1) rfl) (v := .ref (a0 0)) rfl dX5_bring_1 ?_
  refine g_get C hW inX3 0 rfl rfl rfl 7 (by decide) (List.mem_of_getElem? (i := 2) rfl) (v := .ref (a0 2)) rfl dX5_bring_4 ?_
  refine lv_iload_n hx hb dX5_bring_7 rfl (lv_at hl 1 rfl) ?_
  obtain ⟨hi, hf⟩ := gd_of hf
  refine g_iald C hW 0 2 rfl (f := (v0 7)) rfl (ib_in hi) dX5_bring_8 ?_
  refine lv_istore_n (lv' := [(3, .int ((v0 7) (Int32.toNatClampNeg x1))), (0, .ref (a2 0)), (1, .int x1), (2, .int x2)]) hx hb dX5_bring_9 rfl hl (by decide) rfl (fun ls hl => ?_)
  refine lv_iload_n hx hb dX5_bring_10 rfl (lv_at hl 0 rfl) ?_
  refine lv_iconst (v := (0 : Int32)) hx hb dX5_bring_11 (by decide) ?_
  refine lv_iconst (v := (2 : Int32)) hx hb dX5_bring_12 (by decide) ?_
  obtain ⟨y1, hc, hf⟩ := bd_of hf
  refine g_cSN C (ct_X7_isWithin g l N ((v0 7) (Int32.toNatClampNeg x1)) (0 : Int32) (2 : Int32) hc) gX5_bring_X7_isWithin_n29 rfl 3 (by decide +kernel) (by decide +kernel) (List.mem_of_getElem? (i := 6) rfl) (List.mem_of_getElem? (i := 7) rfl) ⟨rfl, rfl, ⟨Nat.le_of_ble_eq_true rfl, Nat.le_of_ble_eq_true rfl⟩, Nat.le_of_ble_eq_true rfl, Nat.le_of_ble_eq_true rfl⟩ rfl hl (Nat.le_of_ble_eq_true rfl) dX5_bring_13 rfl hW hA [] rfl rfl rfl (ch' := [kX3 g a0 v0, kX4 g a1 q1_14 v1, kX5 g a2 (a0 0) (a1 0) v2]) rfl (fun H locs hW => ?_)
  refine lv_if_eq (tgt := 37) hx hb dX5_bring_16 (by decide) (fun h => ?_) (fun h => ?_)
  · replace hf := (if_pos h).symm.trans hf
    refine lv_aload_n hx hb dX5_bring_37 rfl (lv_at hl 1 rfl) ?_
    refine g_get C hW inX5 2 rfl rfl rfl 1 (by decide) (List.mem_of_getElem? (i := 3) rfl) (v := .ref (a1 0)) rfl dX5_bring_38 ?_
    refine g_get C hW inX4 1 rfl rfl rfl 9 (by decide) (List.mem_of_getElem? (i := 5) rfl) (v := .ref (a1 7)) rfl dX5_bring_41 ?_
    refine lv_iload_n hx hb dX5_bring_44 rfl (lv_at hl 2 rfl) ?_
    refine lv_dup2_11 hx hb dX5_bring_45 rfl rfl ?_
    obtain ⟨hi, hf⟩ := gd_of hf
    refine g_iald C hW 1 7 rfl (f := (v1 9)) rfl (ib_in hi) dX5_bring_46 ?_
    refine lv_iload_n hx hb dX5_bring_47 rfl (lv_at hl 3 rfl) ?_
    refine lv_iadd hx hb dX5_bring_48 ?_
    obtain ⟨hi, hf⟩ := gd_of hf
    refine g_iast C hW 1 7 rfl (f := (v1 9)) rfl (ib_in hi) (ch' := [kX3 g a0 v0, kX4 g a1 q1_14 (st v1 9 (upd (v1 9) (Int32.toNatClampNeg x1) (((v1 9) (Int32.toNatClampNeg x1)) + x2))), kX5 g a2 (a0 0) (a1 0) v2]) rfl dX5_bring_49 (fun H locs hW => ?_)
    obtain rfl := Option.some.inj hf
    subst hQ
    exact g_vret C hr hk0 hW rfl rfl dX5_bring_50
  · replace hf := (if_neg h).symm.trans hf
    refine lv_aload_n hx hb dX5_bring_19 rfl (lv_at hl 1 rfl) ?_
    refine lv_iload_n hx hb dX5_bring_20 rfl (lv_at hl 2 rfl) ?_
    obtain ⟨y2, hc, hf⟩ := bd_of hf
    refine g_cV (Cn := RX5) C (ct_X5_waitsUpTo g l N a0 a1 a2 q1_14 x1 v0 v1 v2 hc) gX5_bring_X5_waitsUpTo rfl 1 (by decide +kernel) ⟨rfl, rfl, ⟨Nat.le_of_ble_eq_true rfl, Nat.le_of_ble_eq_true rfl⟩, Nat.le_of_ble_eq_true rfl, Nat.le_of_ble_eq_true rfl⟩ rfl hl (Nat.le_of_ble_eq_true rfl) dX5_bring_21 rfl hW hA [0, 1, 2] rfl rfl rfl (ch' := [kX3 g a0 v0, kX4 g a1 q1_14 v1, kX5 g a2 (a0 0) (a1 0) v2]) rfl 2 rfl rfl rfl (fun H locs hW => ?_)
    refine lv_if_ne (tgt := 37) hx hb dX5_bring_24 (by decide) (fun h => ?_) (fun h => ?_)
    · replace hf := (if_neg h).symm.trans hf
      refine lv_aload_n hx hb dX5_bring_37 rfl (lv_at hl 1 rfl) ?_
      refine g_get C hW inX5 2 rfl rfl rfl 1 (by decide) (List.mem_of_getElem? (i := 3) rfl) (v := .ref (a1 0)) rfl dX5_bring_38 ?_
      refine g_get C hW inX4 1 rfl rfl rfl 9 (by decide) (List.mem_of_getElem? (i := 5) rfl) (v := .ref (a1 7)) rfl dX5_bring_41 ?_
      refine lv_iload_n hx hb dX5_bring_44 rfl (lv_at hl 2 rfl) ?_
      refine lv_dup2_11 hx hb dX5_bring_45 rfl rfl ?_
      obtain ⟨hi, hf⟩ := gd_of hf
      refine g_iald C hW 1 7 rfl (f := (v1 9)) rfl (ib_in hi) dX5_bring_46 ?_
      refine lv_iload_n hx hb dX5_bring_47 rfl (lv_at hl 3 rfl) ?_
      refine lv_iadd hx hb dX5_bring_48 ?_
      obtain ⟨hi, hf⟩ := gd_of hf
      refine g_iast C hW 1 7 rfl (f := (v1 9)) rfl (ib_in hi) (ch' := [kX3 g a0 v0, kX4 g a1 q1_14 (st v1 9 (upd (v1 9) (Int32.toNatClampNeg x1) (((v1 9) (Int32.toNatClampNeg x1)) + x2))), kX5 g a2 (a0 0) (a1 0) v2]) rfl dX5_bring_49 (fun H locs hW => ?_)
      obtain rfl := Option.some.inj hf
      subst hQ
      exact g_vret C hr hk0 hW rfl rfl dX5_bring_50
    · replace hf := (if_pos h).symm.trans hf
      refine lv_aload_n hx hb dX5_bring_27 rfl (lv_at hl 1 rfl) ?_
      refine g_get C hW inX5 2 rfl rfl rfl 1 (by decide) (List.mem_of_getElem? (i := 3) rfl) (v := .ref (a1 0)) rfl dX5_bring_28 ?_
      refine g_get C hW inX4 1 rfl rfl rfl 3 (by decide) (List.mem_of_getElem? (i := 4) rfl) (v := .ref (a1 1)) rfl dX5_bring_31 ?_
      refine lv_iload_n hx hb dX5_bring_34 rfl (lv_at hl 0 rfl) ?_
      refine lv_iconst (v := (1 : Int32)) hx hb dX5_bring_35 (by decide) ?_
      obtain ⟨hi, hf⟩ := gd_of hf
      refine g_iast C hW 1 1 rfl (f := (v1 3)) rfl (ib_in hi) (ch' := [kX3 g a0 v0, kX4 g a1 q1_14 (st v1 3 (upd (v1 3) (Int32.toNatClampNeg ((v0 7) (Int32.toNatClampNeg x1))) (1 : Int32))), kX5 g a2 (a0 0) (a1 0) v2]) rfl dX5_bring_36 (fun H locs hW => ?_)
      refine lv_aload_n hx hb dX5_bring_37 rfl (lv_at hl 1 rfl) ?_
      refine g_get C hW inX5 2 rfl rfl rfl 1 (by decide) (List.mem_of_getElem? (i := 3) rfl) (v := .ref (a1 0)) rfl dX5_bring_38 ?_
      refine g_get C hW inX4 1 rfl rfl rfl 9 (by decide) (List.mem_of_getElem? (i := 5) rfl) (v := .ref (a1 7)) rfl dX5_bring_41 ?_
      refine lv_iload_n hx hb dX5_bring_44 rfl (lv_at hl 2 rfl) ?_
      refine lv_dup2_11 hx hb dX5_bring_45 rfl rfl ?_
      obtain ⟨hi, hf⟩ := gd_of hf
      refine g_iald C hW 1 7 rfl (f := (v1 9)) rfl (ib_in hi) dX5_bring_46 ?_
      refine lv_iload_n hx hb dX5_bring_47 rfl (lv_at hl 3 rfl) ?_
      refine lv_iadd hx hb dX5_bring_48 ?_
      obtain ⟨hi, hf⟩ := gd_of hf
      refine g_iast C hW 1 7 rfl (f := (v1 9)) rfl (ib_in hi) (ch' := [kX3 g a0 v0, kX4 g a1 q1_14 (st (st v1 3 (upd (v1 3) (Int32.toNatClampNeg ((v0 7) (Int32.toNatClampNeg x1))) (1 : Int32))) 9 (upd (v1 9) (Int32.toNatClampNeg x1) (((v1 9) (Int32.toNatClampNeg x1)) + x2))), kX5 g a2 (a0 0) (a1 0) v2]) rfl dX5_bring_49 (fun H locs hW => ?_)
      obtain rfl := Option.some.inj hf
      subst hQ
      exact g_vret C hr hk0 hW rfl rfl dX5_bring_50
def fX5_waitingAt_L4 (N : Nat) (k : Int32 → Int32 → Option (Int32)) (x1 : Int32) (v0 : MM) (v1 : MM) (v2 : MM) : Nat → Int32 → Int32 → Option (Int32)
  | 0, _, _ => none
  | n + 1, x2, x3 => (if (v0 1 0) ≤ x3 then k x2 x3 else (if ib x3 6 = true then (if ((v0 7) (Int32.toNatClampNeg x3)) = x1 then (if ib x3 6 = true then fX5_waitingAt_L4 N k x1 v0 v1 v2 n (x2 + ((v1 9) (Int32.toNatClampNeg x3))) (x3 + 1) else none) else fX5_waitingAt_L4 N k x1 v0 v1 v2 n (x2 + (0 : Int32)) (x3 + 1)) else none))
def fX5_waitingAt (N : Nat) (x1 : Int32) (v0 : MM) (v1 : MM) (v2 : MM) : Option (Int32) := (fX5_waitingAt_L4 N (fun (x2_1 : Int32) (x3_1 : Int32) => some x2_1) x1 v0 v1 v2 N (0 : Int32) (0 : Int32))
set_option maxHeartbeats 4000000 in
set_option maxRecDepth 100000 in
theorem ct_X5_waitingAt (g : GT) (l : Launch) (N : Nat) (a0 : Nat → Nat) (a1 : Nat → Nat) (a2 : Nat → Nat) (q1_14 : Nat) (x1 : Int32) (v0 : MM) (v1 : MM) (v2 : MM) {y : Int32} (hf : fX5_waitingAt N x1 v0 v1 v2 = some y) : ct g l yX5_waitingAt wsX5_waitingAt (rmk 0 0) [.ref (a2 0), .int x1] [kX3 g a0 v0, kX4 g a1 q1_14 v1, kX5 g a2 (a0 0) (a1 0) v2] (some (.int y)) [kX3 g a0 v0, kX4 g a1 q1_14 v1, kX5 g a2 (a0 0) (a1 0) v2] := by
  refine ct_of (cc := cX5_waitingAt) (maxL := 4) (ret := (some .int)) (by decide) rfl (Nat.le_of_ble_eq_true rfl) ?_
  intro p e s m args below meth c A ls C hr hk0 hA hW hl
  have hx := C.1.1
  have hb := C.1.2.1
  replace hl : lv_has ls 4 [(0, .ref (a2 0)), (1, .int x1)] := hl
  obtain ⟨Q, hQ⟩ : ∃ Q, Q = MQ below (ctQ g A (some (.int y)) [kX3 g a0 v0, kX4 g a1 q1_14 v1, kX5 g a2 (a0 0) (a1 0) v2]) args s 0 0 A := ⟨_, rfl⟩
  rw [← hQ]
  obtain ⟨H, hH⟩ : ∃ H, H = s.heap := ⟨_, rfl⟩
  obtain ⟨locs, hL⟩ : ∃ locs : List Loc, locs = [] := ⟨_, rfl⟩
  replace hW : wd g A s.heap [kX3 g a0 v0, kX4 g a1 q1_14 v1, kX5 g a2 (a0 0) (a1 0) v2] H locs := by rw [hH, hL]; exact hW
  suffices hG : W p l e (rmk 0 0) s m args below meth c H locs 0 0 Q (F0 m 0 ls []) by
    rw [hH, hL] at hG; exact hG
  clear hH hL
  have inX3 : ∀ w ∈ wsX30, w ∈ wsX5_waitingAt := fun _ h => List.mem_cons_of_mem _ (List.mem_append_left _ (List.mem_append_right _ (h)))
  have inX4 : ∀ w ∈ wsX40, w ∈ wsX5_waitingAt := fun _ h => List.mem_cons_of_mem _ (List.mem_append_right _ (h))
  have inX5 : ∀ w ∈ wsX50, w ∈ wsX5_waitingAt := fun _ h => List.mem_cons_of_mem _ (List.mem_append_left _ (List.mem_append_left _ (List.mem_append_right _ (h))))
  have L4 : ∀ (x1 : Int32) (k : Int32 → Int32 → Option (Int32)) (hk : ∀ (x2 : Int32) (x3 : Int32) (H : Heap) (locs : List Loc) (ls : Array Slot), k x2 x3 = some y → wd g A s.heap [kX3 g a0 v0, kX4 g a1 q1_14 v1, kX5 g a2 (a0 0) (a1 0) v2] H locs → lv_has ls 4 [(0, .ref (a2 0)), (1, .int x1), (2, .int x2), (3, .int x3)] → W p l e (rmk 0 0) s m args below meth c H locs 0 0 Q (F0 m 50 ls [])) (n : Nat) (x2 : Int32) (x3 : Int32) (H : Heap) (locs : List Loc) (ls : Array Slot), fX5_waitingAt_L4 N k x1 v0 v1 v2 n x2 x3 = some y → wd g A s.heap [kX3 g a0 v0, kX4 g a1 q1_14 v1, kX5 g a2 (a0 0) (a1 0) v2] H locs → lv_has ls 4 [(0, .ref (a2 0)), (1, .int x1), (2, .int x2), (3, .int x3)] → W p l e (rmk 0 0) s m args below meth c H locs 0 0 Q (F0 m 4 ls []) := by
    intro x1 k hk n
    induction n with
    | zero => intro x2 x3 H locs ls hf; rw [fX5_waitingAt_L4] at hf; cases hf
    | succ n ih =>
      intro x2 x3 H locs ls hf hW hl
      rw [fX5_waitingAt_L4] at hf
      refine lv_iload_n hx hb dX5_waitingAt_4 rfl (lv_at hl 3 rfl) ?_
      refine lv_aload_n hx hb dX5_waitingAt_5 rfl (lv_at hl 0 rfl) ?_
      refine g_get C hW inX5 2 rfl rfl rfl 0 (by decide) (List.mem_of_getElem? (i := 1) rfl) (v := .ref (a0 0)) rfl dX5_waitingAt_6 ?_
      refine g_get C hW inX3 0 rfl rfl rfl 1 (by decide) (List.mem_of_getElem? (i := 2) rfl) (v := .int (v0 1 0)) rfl dX5_waitingAt_9 ?_
      refine lv_icmp_ge (tgt := 50) hx hb dX5_waitingAt_12 (by decide) (fun h => ?_) (fun h => ?_)
      · replace hf := (if_pos h).symm.trans hf
        exact hk _ _ H locs ls hf hW (lv_sub hl [0, 1, 2, 3] rfl)
      · replace hf := (if_neg h).symm.trans hf
        refine lv_iload_n hx hb dX5_waitingAt_15 rfl (lv_at hl 2 rfl) ?_
        refine lv_aload_n hx hb dX5_waitingAt_16 rfl (lv_at hl 0 rfl) ?_
        refine g_get C hW inX5 2 rfl rfl rfl 0 (by decide) (List.mem_of_getElem? (i := 1) rfl) (v := .ref (a0 0)) rfl dX5_waitingAt_17 ?_
        refine g_get C hW inX3 0 rfl rfl rfl 7 (by decide) (List.mem_of_getElem? (i := 3) rfl) (v := .ref (a0 2)) rfl dX5_waitingAt_20 ?_
        refine lv_iload_n hx hb dX5_waitingAt_23 rfl (lv_at hl 3 rfl) ?_
        obtain ⟨hi, hf⟩ := gd_of hf
        refine g_iald C hW 0 2 rfl (f := (v0 7)) rfl (ib_in hi) dX5_waitingAt_24 ?_
        refine lv_iload_n hx hb dX5_waitingAt_25 rfl (lv_at hl 1 rfl) ?_
        refine lv_icmp_ne (tgt := 41) hx hb dX5_waitingAt_26 (by decide) (fun h => ?_) (fun h => ?_)
        · replace hf := (if_neg h).symm.trans hf
          refine lv_iconst (v := (0 : Int32)) hx hb dX5_waitingAt_41 (by decide) ?_
          refine lv_iadd hx hb dX5_waitingAt_42 ?_
          refine lv_istore_n (lv' := [(2, .int (x2 + (0 : Int32))), (0, .ref (a2 0)), (1, .int x1), (3, .int x3)]) hx hb dX5_waitingAt_43 rfl hl (by decide) rfl (fun ls hl => ?_)
          refine lv_iinc (v := (x3 + 1)) (lv' := [(3, .int (x3 + 1)), (2, .int (x2 + (0 : Int32))), (0, .ref (a2 0)), (1, .int x1)]) hx hb dX5_waitingAt_44 hl (k := 3) rfl (by first | rfl | decide) (by decide) rfl (fun ls hl => ?_)
          refine lv_goto (tgt := 4) hx hb dX5_waitingAt_47 (by decide) ?_
          exact ih _ _ H locs ls hf hW (lv_sub hl [2, 3, 1, 0] rfl)
        · replace hf := (if_pos h).symm.trans hf
          refine lv_aload_n hx hb dX5_waitingAt_29 rfl (lv_at hl 0 rfl) ?_
          refine g_get C hW inX5 2 rfl rfl rfl 1 (by decide) (List.mem_of_getElem? (i := 4) rfl) (v := .ref (a1 0)) rfl dX5_waitingAt_30 ?_
          refine g_get C hW inX4 1 rfl rfl rfl 9 (by decide) (List.mem_of_getElem? (i := 5) rfl) (v := .ref (a1 7)) rfl dX5_waitingAt_33 ?_
          refine lv_iload_n hx hb dX5_waitingAt_36 rfl (lv_at hl 3 rfl) ?_
          obtain ⟨hi, hf⟩ := gd_of hf
          refine g_iald C hW 1 7 rfl (f := (v1 9)) rfl (ib_in hi) dX5_waitingAt_37 ?_
          refine lv_goto (tgt := 42) hx hb dX5_waitingAt_38 (by decide) ?_
          refine lv_iadd hx hb dX5_waitingAt_42 ?_
          refine lv_istore_n (lv' := [(2, .int (x2 + ((v1 9) (Int32.toNatClampNeg x3)))), (0, .ref (a2 0)), (1, .int x1), (3, .int x3)]) hx hb dX5_waitingAt_43 rfl hl (by decide) rfl (fun ls hl => ?_)
          refine lv_iinc (v := (x3 + 1)) (lv' := [(3, .int (x3 + 1)), (2, .int (x2 + ((v1 9) (Int32.toNatClampNeg x3)))), (0, .ref (a2 0)), (1, .int x1)]) hx hb dX5_waitingAt_44 hl (k := 3) rfl (by first | rfl | decide) (by decide) rfl (fun ls hl => ?_)
          refine lv_goto (tgt := 4) hx hb dX5_waitingAt_47 (by decide) ?_
          exact ih _ _ H locs ls hf hW (lv_sub hl [2, 3, 1, 0] rfl)
  rw [fX5_waitingAt] at hf
  refine lv_iconst (v := (0 : Int32)) hx hb dX5_waitingAt_0 (by decide) ?_
  refine lv_istore_n (lv' := [(2, .int (0 : Int32)), (0, .ref (a2 0)), (1, .int x1)]) hx hb dX5_waitingAt_1 rfl hl (by decide) rfl (fun ls hl => ?_)
  refine lv_iconst (v := (0 : Int32)) hx hb dX5_waitingAt_2 (by decide) ?_
  refine lv_istore_n (lv' := [(3, .int (0 : Int32)), (2, .int (0 : Int32)), (0, .ref (a2 0)), (1, .int x1)]) hx hb dX5_waitingAt_3 rfl hl (by decide) rfl (fun ls hl => ?_)
  refine L4 x1 _ (fun x2_1 x3_1 H locs ls hf hW hl => ?_) N (0 : Int32) (0 : Int32) H locs ls hf hW (lv_sub hl [2, 3, 1, 0] rfl)
  refine lv_iload_n hx hb dX5_waitingAt_50 rfl (lv_at hl 2 rfl) ?_
  obtain rfl := Option.some.inj hf
  subst hQ
  exact g_iret C hr hk0 hW rfl rfl dX5_waitingAt_51
def fX5_gainTokens_L2 (N : Nat) (k : Int32 → MM → Option (MM)) (v0 : MM) (v2 : MM) : Nat → Int32 → MM → Option (MM)
  | 0, _, _ => none
  | n + 1, x1, v1 => (if (v0 1 0) ≤ x1 then k x1 v1 else (if ib x1 6 = true then (if ib x1 6 = true then (if ib x1 6 = true then (if ib x1 6 = true then fX5_gainTokens_L2 N k v0 v2 n (x1 + 1) (st v1 10 (upd (v1 10) (Int32.toNatClampNeg x1) (if (((v1 10) (Int32.toNatClampNeg x1)) + ((v0 9) (Int32.toNatClampNeg x1))) < ((v0 10) (Int32.toNatClampNeg x1)) then (((v1 10) (Int32.toNatClampNeg x1)) + ((v0 9) (Int32.toNatClampNeg x1))) else ((v0 10) (Int32.toNatClampNeg x1))))) else none) else none) else none) else none))
def fX5_gainTokens (N : Nat) (v0 : MM) (v1 : MM) (v2 : MM) : Option (MM) := (fX5_gainTokens_L2 N (fun (x1_1 : Int32) (v1_1 : MM) => some v1_1) v0 v2 N (0 : Int32) v1)
set_option maxHeartbeats 4000000 in
set_option maxRecDepth 100000 in
theorem ct_X5_gainTokens (g : GT) (l : Launch) (N : Nat) (a0 : Nat → Nat) (a1 : Nat → Nat) (a2 : Nat → Nat) (q1_14 : Nat) (v0 : MM) (v1 : MM) (v2 : MM) {y : MM} (hf : fX5_gainTokens N v0 v1 v2 = some y) : ct g l yX5_gainTokens wsX5_gainTokens (rmk 1 21) [.ref (a2 0)] [kX3 g a0 v0, kX4 g a1 q1_14 v1, kX5 g a2 (a0 0) (a1 0) v2] none [kX3 g a0 v0, kX4 g a1 q1_14 y, kX5 g a2 (a0 0) (a1 0) v2] := by
  refine ct_of (cc := cX5_gainTokens) (maxL := 2) (ret := none) (by decide) rfl (Nat.le_of_ble_eq_true rfl) ?_
  intro p e s m args below meth c A ls C hr hk0 hA hW hl
  have hx := C.1.1
  have hb := C.1.2.1
  replace hl : lv_has ls 2 [(0, .ref (a2 0))] := hl
  obtain ⟨Q, hQ⟩ : ∃ Q, Q = MQ below (ctQ g A none [kX3 g a0 v0, kX4 g a1 q1_14 y, kX5 g a2 (a0 0) (a1 0) v2]) args s 0 0 A := ⟨_, rfl⟩
  rw [← hQ]
  obtain ⟨H, hH⟩ : ∃ H, H = s.heap := ⟨_, rfl⟩
  obtain ⟨locs, hL⟩ : ∃ locs : List Loc, locs = [] := ⟨_, rfl⟩
  replace hW : wd g A s.heap [kX3 g a0 v0, kX4 g a1 q1_14 v1, kX5 g a2 (a0 0) (a1 0) v2] H locs := by rw [hH, hL]; exact hW
  suffices hG : W p l e (rmk 1 21) s m args below meth c H locs 0 0 Q (F0 m 0 ls []) by
    rw [hH, hL] at hG; exact hG
  clear hH hL
  have inX3 : ∀ w ∈ wsX30, w ∈ wsX5_gainTokens := fun _ h => List.mem_cons_of_mem _ (List.mem_append_left _ (List.mem_append_right _ (h)))
  have inX4 : ∀ w ∈ wsX40, w ∈ wsX5_gainTokens := fun _ h => List.mem_cons_of_mem _ (List.mem_append_right _ (h))
  have inX5 : ∀ w ∈ wsX50, w ∈ wsX5_gainTokens := fun _ h => List.mem_cons_of_mem _ (List.mem_append_left _ (List.mem_append_left _ (List.mem_append_right _ (h))))
  have L2 : ∀ (k : Int32 → MM → Option (MM)) (hk : ∀ (x1 : Int32) (v1 : MM) (H : Heap) (locs : List Loc) (ls : Array Slot), k x1 v1 = some y → wd g A s.heap [kX3 g a0 v0, kX4 g a1 q1_14 v1, kX5 g a2 (a0 0) (a1 0) v2] H locs → lv_has ls 2 [(0, .ref (a2 0)), (1, .int x1)] → W p l e (rmk 1 21) s m args below meth c H locs 0 0 Q (F0 m 59 ls [])) (n : Nat) (x1 : Int32) (v1 : MM) (H : Heap) (locs : List Loc) (ls : Array Slot), fX5_gainTokens_L2 N k v0 v2 n x1 v1 = some y → wd g A s.heap [kX3 g a0 v0, kX4 g a1 q1_14 v1, kX5 g a2 (a0 0) (a1 0) v2] H locs → lv_has ls 2 [(0, .ref (a2 0)), (1, .int x1)] → W p l e (rmk 1 21) s m args below meth c H locs 0 0 Q (F0 m 2 ls []) := by
    intro k hk n
    induction n with
    | zero => intro x1 v1 H locs ls hf; rw [fX5_gainTokens_L2] at hf; cases hf
    | succ n ih =>
      intro x1 v1 H locs ls hf hW hl
      rw [fX5_gainTokens_L2] at hf
      refine lv_iload_n hx hb dX5_gainTokens_2 rfl (lv_at hl 1 rfl) ?_
      refine lv_aload_n hx hb dX5_gainTokens_3 rfl (lv_at hl 0 rfl) ?_
      refine g_get C hW inX5 2 rfl rfl rfl 0 (by decide) (List.mem_of_getElem? (i := 1) rfl) (v := .ref (a0 0)) rfl dX5_gainTokens_4 ?_
      refine g_get C hW inX3 0 rfl rfl rfl 1 (by decide) (List.mem_of_getElem? (i := 2) rfl) (v := .int (v0 1 0)) rfl dX5_gainTokens_7 ?_
      refine lv_icmp_ge (tgt := 59) hx hb dX5_gainTokens_10 (by decide) (fun h => ?_) (fun h => ?_)
      · replace hf := (if_pos h).symm.trans hf
        exact hk _ _ H locs ls hf hW (lv_sub hl [0, 1] rfl)
      · replace hf := (if_neg h).symm.trans hf
        refine lv_aload_n hx hb dX5_gainTokens_13 rfl (lv_at hl 0 rfl) ?_
        refine g_get C hW inX5 2 rfl rfl rfl 1 (by decide) (List.mem_of_getElem? (i := 3) rfl) (v := .ref (a1 0)) rfl dX5_gainTokens_14 ?_
        refine g_get C hW inX4 1 rfl rfl rfl 10 (by decide) (List.mem_of_getElem? (i := 4) rfl) (v := .ref (a1 8)) rfl dX5_gainTokens_17 ?_
        refine lv_iload_n hx hb dX5_gainTokens_20 rfl (lv_at hl 1 rfl) ?_
        refine lv_aload_n hx hb dX5_gainTokens_21 rfl (lv_at hl 0 rfl) ?_
        refine g_get C hW inX5 2 rfl rfl rfl 0 (by decide) (List.mem_of_getElem? (i := 1) rfl) (v := .ref (a0 0)) rfl dX5_gainTokens_22 ?_
        refine g_get C hW inX3 0 rfl rfl rfl 10 (by decide) (List.mem_of_getElem? (i := 5) rfl) (v := .ref (a0 5)) rfl dX5_gainTokens_25 ?_
        refine lv_iload_n hx hb dX5_gainTokens_28 rfl (lv_at hl 1 rfl) ?_
        obtain ⟨hi, hf⟩ := gd_of hf
        refine g_iald C hW 0 5 rfl (f := (v0 10)) rfl (ib_in hi) dX5_gainTokens_29 ?_
        refine lv_aload_n hx hb dX5_gainTokens_30 rfl (lv_at hl 0 rfl) ?_
        refine g_get C hW inX5 2 rfl rfl rfl 1 (by decide) (List.mem_of_getElem? (i := 3) rfl) (v := .ref (a1 0)) rfl dX5_gainTokens_31 ?_
        refine g_get C hW inX4 1 rfl rfl rfl 10 (by decide) (List.mem_of_getElem? (i := 4) rfl) (v := .ref (a1 8)) rfl dX5_gainTokens_34 ?_
        refine lv_iload_n hx hb dX5_gainTokens_37 rfl (lv_at hl 1 rfl) ?_
        obtain ⟨hi, hf⟩ := gd_of hf
        refine g_iald C hW 1 8 rfl (f := (v1 10)) rfl (ib_in hi) dX5_gainTokens_38 ?_
        refine lv_aload_n hx hb dX5_gainTokens_39 rfl (lv_at hl 0 rfl) ?_
        refine g_get C hW inX5 2 rfl rfl rfl 0 (by decide) (List.mem_of_getElem? (i := 1) rfl) (v := .ref (a0 0)) rfl dX5_gainTokens_40 ?_
        refine g_get C hW inX3 0 rfl rfl rfl 9 (by decide) (List.mem_of_getElem? (i := 6) rfl) (v := .ref (a0 4)) rfl dX5_gainTokens_43 ?_
        refine lv_iload_n hx hb dX5_gainTokens_46 rfl (lv_at hl 1 rfl) ?_
        obtain ⟨hi, hf⟩ := gd_of hf
        refine g_iald C hW 0 4 rfl (f := (v0 9)) rfl (ib_in hi) dX5_gainTokens_47 ?_
        refine lv_iadd hx hb dX5_gainTokens_48 ?_
        refine g_mmin C hl (List.mem_of_getElem? (i := 7) rfl) (List.mem_of_getElem? (i := 8) rfl) (List.mem_of_getElem? (i := 9) rfl) (List.mem_of_getElem? (i := 10) rfl) ⟨Nat.le_of_ble_eq_true rfl, Nat.le_of_ble_eq_true rfl, Nat.le_of_ble_eq_true rfl, Nat.le_of_ble_eq_true rfl⟩ (Nat.le_of_ble_eq_true rfl) dX5_gainTokens_49 ?_
        obtain ⟨hi, hf⟩ := gd_of hf
        refine g_iast C hW 1 8 rfl (f := (v1 10)) rfl (ib_in hi) (ch' := [kX3 g a0 v0, kX4 g a1 q1_14 (st v1 10 (upd (v1 10) (Int32.toNatClampNeg x1) (if (((v1 10) (Int32.toNatClampNeg x1)) + ((v0 9) (Int32.toNatClampNeg x1))) < ((v0 10) (Int32.toNatClampNeg x1)) then (((v1 10) (Int32.toNatClampNeg x1)) + ((v0 9) (Int32.toNatClampNeg x1))) else ((v0 10) (Int32.toNatClampNeg x1))))), kX5 g a2 (a0 0) (a1 0) v2]) rfl dX5_gainTokens_52 (fun H locs hW => ?_)
        refine lv_iinc (v := (x1 + 1)) (lv' := [(1, .int (x1 + 1)), (0, .ref (a2 0))]) hx hb dX5_gainTokens_53 hl (k := 1) rfl (by first | rfl | decide) (by decide) rfl (fun ls hl => ?_)
        refine lv_goto (tgt := 2) hx hb dX5_gainTokens_56 (by decide) ?_
        exact ih _ _ H locs ls hf hW (lv_sub hl [1, 0] rfl)
  rw [fX5_gainTokens] at hf
  refine lv_iconst (v := (0 : Int32)) hx hb dX5_gainTokens_0 (by decide) ?_
  refine lv_istore_n (lv' := [(1, .int (0 : Int32)), (0, .ref (a2 0))]) hx hb dX5_gainTokens_1 rfl hl (by decide) rfl (fun ls hl => ?_)
  refine L2 _ (fun x1_1 v1_1 H locs ls hf hW hl => ?_) N (0 : Int32) v1 H locs ls hf hW (lv_sub hl [1, 0] rfl)
  obtain rfl := Option.some.inj hf
  subst hQ
  exact g_vret C hr hk0 hW rfl rfl dX5_gainTokens_59
def fX5_askInPlaces_L2 (N : Nat) (k : Int32 → MM → Option (MM)) (v0 : MM) (v2 : MM) : Nat → Int32 → MM → Option (MM)
  | 0, _, _ => none
  | n + 1, x1, v1 => (if (v0 0 0) ≤ x1 then k x1 v1 else ((fX3_isPlaceToAsk N x1 (v1 0 0) v0).bind (fun y1 => (if y1 = 0 then fX5_askInPlaces_L2 N k v0 v2 n (x1 + 1) v1 else (if ib x1 3 = true then (if (v1 0 0) < ((v1 4) (Int32.toNatClampNeg x1)) then fX5_askInPlaces_L2 N k v0 v2 n (x1 + 1) v1 else (if ib x1 3 = true then (if ((v1 3) (Int32.toNatClampNeg x1)) = (1 : Int32) then (if ib x1 3 = true then (if ib x1 3 = true then (if ib x1 3 = true then (if ib x1 3 = true then fX5_askInPlaces_L2 N k v0 v2 n (x1 + 1) (st (st (st v1 5 (upd (v1 5) (Int32.toNatClampNeg x1) (1 : Int32))) 7 (upd (v1 7) (Int32.toNatClampNeg x1) (((v1 7) (Int32.toNatClampNeg x1)) + (1 : Int32)))) 4 (upd (v1 4) (Int32.toNatClampNeg x1) (((v1 0 0) + (v0 3 0)) + (1 : Int32)))) else none) else none) else none) else none) else fX5_askInPlaces_L2 N k v0 v2 n (x1 + 1) v1) else none)) else none)))))
def fX5_askInPlaces (N : Nat) (v0 : MM) (v1 : MM) (v2 : MM) : Option (MM) := (fX5_askInPlaces_L2 N (fun (x1_2 : Int32) (v1_2 : MM) => some v1_2) v0 v2 N (0 : Int32) v1)
set_option maxHeartbeats 4000000 in
set_option maxRecDepth 100000 in
theorem ct_X5_askInPlaces (g : GT) (l : Launch) (N : Nat) (a0 : Nat → Nat) (a1 : Nat → Nat) (a2 : Nat → Nat) (q1_14 : Nat) (v0 : MM) (v1 : MM) (v2 : MM) {y : MM} (hf : fX5_askInPlaces N v0 v1 v2 = some y) : ct g l yX5_askInPlaces wsX5_askInPlaces (rmk 1 23) [.ref (a2 0)] [kX3 g a0 v0, kX4 g a1 q1_14 v1, kX5 g a2 (a0 0) (a1 0) v2] none [kX3 g a0 v0, kX4 g a1 q1_14 y, kX5 g a2 (a0 0) (a1 0) v2] := by
  refine ct_of (cc := cX5_askInPlaces) (maxL := 3) (ret := none) (by decide) rfl (Nat.le_of_ble_eq_true rfl) ?_
  intro p e s m args below meth c A ls C hr hk0 hA hW hl
  have hx := C.1.1
  have hb := C.1.2.1
  replace hl : lv_has ls 3 [(0, .ref (a2 0))] := hl
  obtain ⟨Q, hQ⟩ : ∃ Q, Q = MQ below (ctQ g A none [kX3 g a0 v0, kX4 g a1 q1_14 y, kX5 g a2 (a0 0) (a1 0) v2]) args s 0 0 A := ⟨_, rfl⟩
  rw [← hQ]
  obtain ⟨H, hH⟩ : ∃ H, H = s.heap := ⟨_, rfl⟩
  obtain ⟨locs, hL⟩ : ∃ locs : List Loc, locs = [] := ⟨_, rfl⟩
  replace hW : wd g A s.heap [kX3 g a0 v0, kX4 g a1 q1_14 v1, kX5 g a2 (a0 0) (a1 0) v2] H locs := by rw [hH, hL]; exact hW
  suffices hG : W p l e (rmk 1 23) s m args below meth c H locs 0 0 Q (F0 m 0 ls []) by
    rw [hH, hL] at hG; exact hG
  clear hH hL
  have inX3 : ∀ w ∈ wsX30, w ∈ wsX5_askInPlaces := fun _ h => List.mem_cons_of_mem _ (List.mem_append_left _ (List.mem_append_right _ (h)))
  have inX4 : ∀ w ∈ wsX40, w ∈ wsX5_askInPlaces := fun _ h => List.mem_cons_of_mem _ (List.mem_append_right _ (h))
  have inX5 : ∀ w ∈ wsX50, w ∈ wsX5_askInPlaces := fun _ h => List.mem_cons_of_mem _ (List.mem_append_left _ (List.mem_append_left _ (List.mem_append_right _ (h))))
  have L2 : ∀ (k : Int32 → MM → Option (MM)) (hk : ∀ (x1 : Int32) (v1 : MM) (H : Heap) (locs : List Loc) (ls : Array Slot), k x1 v1 = some y → wd g A s.heap [kX3 g a0 v0, kX4 g a1 q1_14 v1, kX5 g a2 (a0 0) (a1 0) v2] H locs → lv_has ls 3 [(0, .ref (a2 0)), (1, .int x1)] → W p l e (rmk 1 23) s m args below meth c H locs 0 0 Q (F0 m 128 ls [])) (n : Nat) (x1 : Int32) (v1 : MM) (H : Heap) (locs : List Loc) (ls : Array Slot), fX5_askInPlaces_L2 N k v0 v2 n x1 v1 = some y → wd g A s.heap [kX3 g a0 v0, kX4 g a1 q1_14 v1, kX5 g a2 (a0 0) (a1 0) v2] H locs → lv_has ls 3 [(0, .ref (a2 0)), (1, .int x1)] → W p l e (rmk 1 23) s m args below meth c H locs 0 0 Q (F0 m 2 ls []) := by
    intro k hk n
    induction n with
    | zero => intro x1 v1 H locs ls hf; rw [fX5_askInPlaces_L2] at hf; cases hf
    | succ n ih =>
      intro x1 v1 H locs ls hf hW hl
      rw [fX5_askInPlaces_L2] at hf
      refine lv_iload_n hx hb dX5_askInPlaces_2 rfl (lv_at hl 1 rfl) ?_
      refine lv_aload_n hx hb dX5_askInPlaces_3 rfl (lv_at hl 0 rfl) ?_
      refine g_get C hW inX5 2 rfl rfl rfl 0 (by decide) (List.mem_of_getElem? (i := 1) rfl) (v := .ref (a0 0)) rfl dX5_askInPlaces_4 ?_
      refine g_get C hW inX3 0 rfl rfl rfl 0 (by decide) (List.mem_of_getElem? (i := 2) rfl) (v := .int (v0 0 0)) rfl dX5_askInPlaces_7 ?_
      refine lv_icmp_ge (tgt := 128) hx hb dX5_askInPlaces_10 (by decide) (fun h => ?_) (fun h => ?_)
      · replace hf := (if_pos h).symm.trans hf
        exact hk _ _ H locs ls hf hW (lv_sub hl [0, 1] rfl)
      · replace hf := (if_neg h).symm.trans hf
        refine lv_aload_n hx hb dX5_askInPlaces_13 rfl (lv_at hl 0 rfl) ?_
        refine g_get C hW inX5 2 rfl rfl rfl 0 (by decide) (List.mem_of_getElem? (i := 1) rfl) (v := .ref (a0 0)) rfl dX5_askInPlaces_14 ?_
        refine lv_iload_n hx hb dX5_askInPlaces_17 rfl (lv_at hl 1 rfl) ?_
        refine lv_aload_n hx hb dX5_askInPlaces_18 rfl (lv_at hl 0 rfl) ?_
        refine g_get C hW inX5 2 rfl rfl rfl 1 (by decide) (List.mem_of_getElem? (i := 3) rfl) (v := .ref (a1 0)) rfl dX5_askInPlaces_19 ?_
        refine g_get C hW inX4 1 rfl rfl rfl 0 (by decide) (List.mem_of_getElem? (i := 4) rfl) (v := .int (v1 0 0)) rfl dX5_askInPlaces_22 ?_
        obtain ⟨y1, hc, hf⟩ := bd_of hf
        refine g_cV (Cn := RX3) C (ct_X3_isPlaceToAsk g l N a0 x1 (v1 0 0) v0 hc) gX5_askInPlaces_X3_isPlaceToAsk rfl 2 (by decide +kernel) ⟨rfl, rfl, ⟨Nat.le_of_ble_eq_true rfl, Nat.le_of_ble_eq_true rfl⟩, Nat.le_of_ble_eq_true rfl, Nat.le_of_ble_eq_true rfl⟩ rfl hl (Nat.le_of_ble_eq_true rfl) dX5_askInPlaces_25 rfl hW hA [0] rfl rfl rfl (ch' := [kX3 g a0 v0, kX4 g a1 q1_14 v1, kX5 g a2 (a0 0) (a1 0) v2]) rfl 0 rfl rfl rfl (fun H locs hW => ?_)
        refine lv_if_eq (tgt := 54) hx hb dX5_askInPlaces_28 (by decide) (fun h => ?_) (fun h => ?_)
        · replace hf := (if_pos h).symm.trans hf
          refine lv_iconst (v := (0 : Int32)) hx hb dX5_askInPlaces_54 (by decide) ?_
          refine lv_istore_n (lv' := [(2, .int (0 : Int32)), (0, .ref (a2 0)), (1, .int x1)]) hx hb dX5_askInPlaces_55 rfl hl (by decide) rfl (fun ls hl => ?_)
          refine lv_iload_n hx hb dX5_askInPlaces_56 rfl (lv_at hl 0 rfl) ?_
          refine lv_if_eq (tgt := 122) hx hb dX5_askInPlaces_57 (by decide) (fun _ => ?_) (fun h => absurd h (by decide))
          refine lv_iinc (v := (x1 + 1)) (lv' := [(1, .int (x1 + 1)), (2, .int (0 : Int32)), (0, .ref (a2 0))]) hx hb dX5_askInPlaces_122 hl (k := 2) rfl (by first | rfl | decide) (by decide) rfl (fun ls hl => ?_)
          refine lv_goto (tgt := 2) hx hb dX5_askInPlaces_125 (by decide) ?_
          exact ih _ _ H locs ls hf hW (lv_sub hl [2, 0] rfl)
        · replace hf := (if_neg h).symm.trans hf
          refine lv_aload_n hx hb dX5_askInPlaces_31 rfl (lv_at hl 0 rfl) ?_
          refine g_get C hW inX5 2 rfl rfl rfl 1 (by decide) (List.mem_of_getElem? (i := 3) rfl) (v := .ref (a1 0)) rfl dX5_askInPlaces_32 ?_
          refine g_get C hW inX4 1 rfl rfl rfl 0 (by decide) (List.mem_of_getElem? (i := 4) rfl) (v := .int (v1 0 0)) rfl dX5_askInPlaces_35 ?_
          refine lv_aload_n hx hb dX5_askInPlaces_38 rfl (lv_at hl 0 rfl) ?_
          refine g_get C hW inX5 2 rfl rfl rfl 1 (by decide) (List.mem_of_getElem? (i := 3) rfl) (v := .ref (a1 0)) rfl dX5_askInPlaces_39 ?_
          refine g_get C hW inX4 1 rfl rfl rfl 4 (by decide) (List.mem_of_getElem? (i := 5) rfl) (v := .ref (a1 2)) rfl dX5_askInPlaces_42 ?_
          refine lv_iload_n hx hb dX5_askInPlaces_45 rfl (lv_at hl 1 rfl) ?_
          obtain ⟨hi, hf⟩ := gd_of hf
          refine g_iald C hW 1 2 rfl (f := (v1 4)) rfl (ib_in hi) dX5_askInPlaces_46 ?_
          refine lv_icmp_lt (tgt := 54) hx hb dX5_askInPlaces_47 (by decide) (fun h => ?_) (fun h => ?_)
          · replace hf := (if_pos h).symm.trans hf
            refine lv_iconst (v := (0 : Int32)) hx hb dX5_askInPlaces_54 (by decide) ?_
            refine lv_istore_n (lv' := [(2, .int (0 : Int32)), (0, .ref (a2 0)), (1, .int x1)]) hx hb dX5_askInPlaces_55 rfl hl (by decide) rfl (fun ls hl => ?_)
            refine lv_iload_n hx hb dX5_askInPlaces_56 rfl (lv_at hl 0 rfl) ?_
            refine lv_if_eq (tgt := 122) hx hb dX5_askInPlaces_57 (by decide) (fun _ => ?_) (fun h => absurd h (by decide))
            refine lv_iinc (v := (x1 + 1)) (lv' := [(1, .int (x1 + 1)), (2, .int (0 : Int32)), (0, .ref (a2 0))]) hx hb dX5_askInPlaces_122 hl (k := 2) rfl (by first | rfl | decide) (by decide) rfl (fun ls hl => ?_)
            refine lv_goto (tgt := 2) hx hb dX5_askInPlaces_125 (by decide) ?_
            exact ih _ _ H locs ls hf hW (lv_sub hl [2, 0] rfl)
          · replace hf := (if_neg h).symm.trans hf
            refine lv_iconst (v := (1 : Int32)) hx hb dX5_askInPlaces_50 (by decide) ?_
            refine lv_goto (tgt := 55) hx hb dX5_askInPlaces_51 (by decide) ?_
            refine lv_istore_n (lv' := [(2, .int (1 : Int32)), (0, .ref (a2 0)), (1, .int x1)]) hx hb dX5_askInPlaces_55 rfl hl (by decide) rfl (fun ls hl => ?_)
            refine lv_iload_n hx hb dX5_askInPlaces_56 rfl (lv_at hl 0 rfl) ?_
            refine lv_if_eq (tgt := 122) hx hb dX5_askInPlaces_57 (by decide) (fun h => absurd h (by decide)) (fun _ => ?_)
            refine lv_aload_n hx hb dX5_askInPlaces_60 rfl (lv_at hl 1 rfl) ?_
            refine g_get C hW inX5 2 rfl rfl rfl 1 (by decide) (List.mem_of_getElem? (i := 3) rfl) (v := .ref (a1 0)) rfl dX5_askInPlaces_61 ?_
            refine g_get C hW inX4 1 rfl rfl rfl 3 (by decide) (List.mem_of_getElem? (i := 6) rfl) (v := .ref (a1 1)) rfl dX5_askInPlaces_64 ?_
            refine lv_iload_n hx hb dX5_askInPlaces_67 rfl (lv_at hl 2 rfl) ?_
            obtain ⟨hi, hf⟩ := gd_of hf
            refine g_iald C hW 1 1 rfl (f := (v1 3)) rfl (ib_in hi) dX5_askInPlaces_68 ?_
            refine lv_iconst (v := (1 : Int32)) hx hb dX5_askInPlaces_69 (by decide) ?_
            refine lv_icmp_ne (tgt := 122) hx hb dX5_askInPlaces_70 (by decide) (fun h => ?_) (fun h => ?_)
            · replace hf := (if_neg h).symm.trans hf
              refine lv_iinc (v := (x1 + 1)) (lv' := [(1, .int (x1 + 1)), (2, .int (1 : Int32)), (0, .ref (a2 0))]) hx hb dX5_askInPlaces_122 hl (k := 2) rfl (by first | rfl | decide) (by decide) rfl (fun ls hl => ?_)
              refine lv_goto (tgt := 2) hx hb dX5_askInPlaces_125 (by decide) ?_
              exact ih _ _ H locs ls hf hW (lv_sub hl [2, 0] rfl)
            · replace hf := (if_pos h).symm.trans hf
              refine lv_aload_n hx hb dX5_askInPlaces_73 rfl (lv_at hl 1 rfl) ?_
              refine g_get C hW inX5 2 rfl rfl rfl 1 (by decide) (List.mem_of_getElem? (i := 3) rfl) (v := .ref (a1 0)) rfl dX5_askInPlaces_74 ?_
              refine g_get C hW inX4 1 rfl rfl rfl 5 (by decide) (List.mem_of_getElem? (i := 7) rfl) (v := .ref (a1 3)) rfl dX5_askInPlaces_77 ?_
              refine lv_iload_n hx hb dX5_askInPlaces_80 rfl (lv_at hl 2 rfl) ?_
              refine lv_iconst (v := (1 : Int32)) hx hb dX5_askInPlaces_81 (by decide) ?_
              obtain ⟨hi, hf⟩ := gd_of hf
              refine g_iast C hW 1 3 rfl (f := (v1 5)) rfl (ib_in hi) (ch' := [kX3 g a0 v0, kX4 g a1 q1_14 (st v1 5 (upd (v1 5) (Int32.toNatClampNeg x1) (1 : Int32))), kX5 g a2 (a0 0) (a1 0) v2]) rfl dX5_askInPlaces_82 (fun H locs hW => ?_)
              refine lv_aload_n hx hb dX5_askInPlaces_83 rfl (lv_at hl 1 rfl) ?_
              refine g_get C hW inX5 2 rfl rfl rfl 1 (by decide) (List.mem_of_getElem? (i := 3) rfl) (v := .ref (a1 0)) rfl dX5_askInPlaces_84 ?_
              refine g_get C hW inX4 1 rfl rfl rfl 7 (by decide) (List.mem_of_getElem? (i := 8) rfl) (v := .ref (a1 5)) rfl dX5_askInPlaces_87 ?_
              refine lv_iload_n hx hb dX5_askInPlaces_90 rfl (lv_at hl 2 rfl) ?_
              refine lv_dup2_11 hx hb dX5_askInPlaces_91 rfl rfl ?_
              obtain ⟨hi, hf⟩ := gd_of hf
              refine g_iald C hW 1 5 rfl (f := (v1 7)) rfl (ib_in hi) dX5_askInPlaces_92 ?_
              refine lv_iconst (v := (1 : Int32)) hx hb dX5_askInPlaces_93 (by decide) ?_
              refine lv_iadd hx hb dX5_askInPlaces_94 ?_
              obtain ⟨hi, hf⟩ := gd_of hf
              refine g_iast C hW 1 5 rfl (f := (v1 7)) rfl (ib_in hi) (ch' := [kX3 g a0 v0, kX4 g a1 q1_14 (st (st v1 5 (upd (v1 5) (Int32.toNatClampNeg x1) (1 : Int32))) 7 (upd (v1 7) (Int32.toNatClampNeg x1) (((v1 7) (Int32.toNatClampNeg x1)) + (1 : Int32)))), kX5 g a2 (a0 0) (a1 0) v2]) rfl dX5_askInPlaces_95 (fun H locs hW => ?_)
              refine lv_aload_n hx hb dX5_askInPlaces_96 rfl (lv_at hl 1 rfl) ?_
              refine g_get C hW inX5 2 rfl rfl rfl 1 (by decide) (List.mem_of_getElem? (i := 3) rfl) (v := .ref (a1 0)) rfl dX5_askInPlaces_97 ?_
              refine g_get C hW inX4 1 rfl rfl rfl 4 (by decide) (List.mem_of_getElem? (i := 5) rfl) (v := .ref (a1 2)) rfl dX5_askInPlaces_100 ?_
              refine lv_iload_n hx hb dX5_askInPlaces_103 rfl (lv_at hl 2 rfl) ?_
              refine lv_aload_n hx hb dX5_askInPlaces_104 rfl (lv_at hl 1 rfl) ?_
              refine g_get C hW inX5 2 rfl rfl rfl 1 (by decide) (List.mem_of_getElem? (i := 3) rfl) (v := .ref (a1 0)) rfl dX5_askInPlaces_105 ?_
              refine g_get C hW inX4 1 rfl rfl rfl 0 (by decide) (List.mem_of_getElem? (i := 4) rfl) (v := .int (v1 0 0)) rfl dX5_askInPlaces_108 ?_
              refine lv_aload_n hx hb dX5_askInPlaces_111 rfl (lv_at hl 1 rfl) ?_
              refine g_get C hW inX5 2 rfl rfl rfl 0 (by decide) (List.mem_of_getElem? (i := 1) rfl) (v := .ref (a0 0)) rfl dX5_askInPlaces_112 ?_
              refine g_get C hW inX3 0 rfl rfl rfl 3 (by decide) (List.mem_of_getElem? (i := 9) rfl) (v := .int (v0 3 0)) rfl dX5_askInPlaces_115 ?_
              refine lv_iadd hx hb dX5_askInPlaces_118 ?_
              refine lv_iconst (v := (1 : Int32)) hx hb dX5_askInPlaces_119 (by decide) ?_
              refine lv_iadd hx hb dX5_askInPlaces_120 ?_
              obtain ⟨hi, hf⟩ := gd_of hf
              refine g_iast C hW 1 2 rfl (f := (v1 4)) rfl (ib_in hi) (ch' := [kX3 g a0 v0, kX4 g a1 q1_14 (st (st (st v1 5 (upd (v1 5) (Int32.toNatClampNeg x1) (1 : Int32))) 7 (upd (v1 7) (Int32.toNatClampNeg x1) (((v1 7) (Int32.toNatClampNeg x1)) + (1 : Int32)))) 4 (upd (v1 4) (Int32.toNatClampNeg x1) (((v1 0 0) + (v0 3 0)) + (1 : Int32)))), kX5 g a2 (a0 0) (a1 0) v2]) rfl dX5_askInPlaces_121 (fun H locs hW => ?_)
              refine lv_iinc (v := (x1 + 1)) (lv' := [(1, .int (x1 + 1)), (2, .int (1 : Int32)), (0, .ref (a2 0))]) hx hb dX5_askInPlaces_122 hl (k := 2) rfl (by first | rfl | decide) (by decide) rfl (fun ls hl => ?_)
              refine lv_goto (tgt := 2) hx hb dX5_askInPlaces_125 (by decide) ?_
              exact ih _ _ H locs ls hf hW (lv_sub hl [2, 0] rfl)
  rw [fX5_askInPlaces] at hf
  refine lv_iconst (v := (0 : Int32)) hx hb dX5_askInPlaces_0 (by decide) ?_
  refine lv_istore_n (lv' := [(1, .int (0 : Int32)), (0, .ref (a2 0))]) hx hb dX5_askInPlaces_1 rfl hl (by decide) rfl (fun ls hl => ?_)
  refine L2 _ (fun x1_2 v1_2 H locs ls hf hW hl => ?_) N (0 : Int32) v1 H locs ls hf hW (lv_sub hl [1, 0] rfl)
  obtain rfl := Option.some.inj hf
  subst hQ
  exact g_vret C hr hk0 hW rfl rfl dX5_askInPlaces_128
def fX5_takeGrant (N : Nat) (x1 : Int32) (v0 : MM) (v1 : MM) : Option (Int32 × MM × MM) := (if ib x1 3 = true then (if ((v0 6) (Int32.toNatClampNeg x1)) ≤ 0 then (if ib x1 3 = true then (if ib x1 3 = true then (if ib x1 3 = true then some ((if (v1 2 0) < (4 : Int32) then (v1 2 0) else (4 : Int32)), (st (st (st v0 5 (upd (v0 5) (Int32.toNatClampNeg x1) (0 : Int32))) 8 (upd (v0 8) (Int32.toNatClampNeg x1) (((v0 8) (Int32.toNatClampNeg x1)) + (if (v1 2 0) < (4 : Int32) then (v1 2 0) else (4 : Int32))))) 2 (fun _ => x1)), (st v1 2 (fun _ => ((v1 2 0) - (if (v1 2 0) < (4 : Int32) then (v1 2 0) else (4 : Int32)))))) else none) else none) else none) else (if ib x1 3 = true then (if ib x1 3 = true then (if ib x1 3 = true then (if ib x1 3 = true then some ((if (v1 2 0) < (((v0 6) (Int32.toNatClampNeg x1)) + (2 : Int32)) then (v1 2 0) else (((v0 6) (Int32.toNatClampNeg x1)) + (2 : Int32))), (st (st (st v0 5 (upd (v0 5) (Int32.toNatClampNeg x1) (0 : Int32))) 8 (upd (v0 8) (Int32.toNatClampNeg x1) (((v0 8) (Int32.toNatClampNeg x1)) + (if (v1 2 0) < (((v0 6) (Int32.toNatClampNeg x1)) + (2 : Int32)) then (v1 2 0) else (((v0 6) (Int32.toNatClampNeg x1)) + (2 : Int32)))))) 2 (fun _ => x1)), (st v1 2 (fun _ => ((v1 2 0) - (if (v1 2 0) < (((v0 6) (Int32.toNatClampNeg x1)) + (2 : Int32)) then (v1 2 0) else (((v0 6) (Int32.toNatClampNeg x1)) + (2 : Int32))))))) else none) else none) else none) else none)) else none)
set_option maxHeartbeats 4000000 in
set_option maxRecDepth 100000 in
theorem ct_X5_takeGrant (g : GT) (l : Launch) (N : Nat) (a0 : Nat → Nat) (a1 : Nat → Nat) (q1_14 : Nat) (q0 : Nat) (x1 : Int32) (v0 : MM) (v1 : MM) {y : Int32 × MM × MM} (hf : fX5_takeGrant N x1 v0 v1 = some y) : ct g l yX5_takeGrant wsX5_takeGrant (rmk 1 21) [.ref (a1 0), .int x1] [kX4 g a0 q1_14 v0, kX5 g a1 q0 (a0 0) v1] (some (.int y.1)) [kX4 g a0 q1_14 y.2.1, kX5 g a1 q0 (a0 0) y.2.2] := by
  refine ct_of (cc := cX5_takeGrant) (maxL := 4) (ret := (some .int)) (by decide) rfl (Nat.le_of_ble_eq_true rfl) ?_
  intro p e s m args below meth c A ls C hr hk0 hA hW hl
  have hx := C.1.1
  have hb := C.1.2.1
  replace hl : lv_has ls 4 [(0, .ref (a1 0)), (1, .int x1)] := hl
  obtain ⟨Q, hQ⟩ : ∃ Q, Q = MQ below (ctQ g A (some (.int y.1)) [kX4 g a0 q1_14 y.2.1, kX5 g a1 q0 (a0 0) y.2.2]) args s 0 0 A := ⟨_, rfl⟩
  rw [← hQ]
  obtain ⟨H, hH⟩ : ∃ H, H = s.heap := ⟨_, rfl⟩
  obtain ⟨locs, hL⟩ : ∃ locs : List Loc, locs = [] := ⟨_, rfl⟩
  replace hW : wd g A s.heap [kX4 g a0 q1_14 v0, kX5 g a1 q0 (a0 0) v1] H locs := by rw [hH, hL]; exact hW
  suffices hG : W p l e (rmk 1 21) s m args below meth c H locs 0 0 Q (F0 m 0 ls []) by
    rw [hH, hL] at hG; exact hG
  clear hH hL
  have inX4 : ∀ w ∈ wsX40, w ∈ wsX5_takeGrant := fun _ h => List.mem_cons_of_mem _ (List.mem_append_right _ (h))
  have inX5 : ∀ w ∈ wsX50, w ∈ wsX5_takeGrant := fun _ h => List.mem_cons_of_mem _ (List.mem_append_left _ (List.mem_append_right _ (h)))
  rw [fX5_takeGrant] at hf
  refine lv_aload_n hx hb dX5_takeGrant_0 rfl (lv_at hl 0 rfl) ?_
  refine g_get C hW inX5 1 rfl rfl rfl 1 (by decide) (List.mem_of_getElem? (i := 1) rfl) (v := .ref (a0 0)) rfl dX5_takeGrant_1 ?_
  refine g_get C hW inX4 0 rfl rfl rfl 6 (by decide) (List.mem_of_getElem? (i := 2) rfl) (v := .ref (a0 4)) rfl dX5_takeGrant_4 ?_
  refine lv_iload_n hx hb dX5_takeGrant_7 rfl (lv_at hl 1 rfl) ?_
  obtain ⟨hi, hf⟩ := gd_of hf
  refine g_iald C hW 0 4 rfl (f := (v0 6)) rfl (ib_in hi) dX5_takeGrant_8 ?_
  refine lv_if_le (tgt := 26) hx hb dX5_takeGrant_9 (by decide) (fun h => ?_) (fun h => ?_)
  · replace hf := (if_pos h).symm.trans hf
    refine lv_iconst (v := (4 : Int32)) hx hb dX5_takeGrant_26 (by decide) ?_
    refine lv_istore_n (lv' := [(2, .int (4 : Int32)), (0, .ref (a1 0)), (1, .int x1)]) hx hb dX5_takeGrant_27 rfl hl (by decide) rfl (fun ls hl => ?_)
    refine lv_iload_n hx hb dX5_takeGrant_28 rfl (lv_at hl 0 rfl) ?_
    refine lv_aload_n hx hb dX5_takeGrant_29 rfl (lv_at hl 1 rfl) ?_
    refine g_get C hW inX5 1 rfl rfl rfl 2 (by decide) (List.mem_of_getElem? (i := 3) rfl) (v := .int (v1 2 0)) rfl dX5_takeGrant_30 ?_
    refine g_mmin C hl (List.mem_of_getElem? (i := 4) rfl) (List.mem_of_getElem? (i := 5) rfl) (List.mem_of_getElem? (i := 6) rfl) (List.mem_of_getElem? (i := 7) rfl) ⟨Nat.le_of_ble_eq_true rfl, Nat.le_of_ble_eq_true rfl, Nat.le_of_ble_eq_true rfl, Nat.le_of_ble_eq_true rfl⟩ (Nat.le_of_ble_eq_true rfl) dX5_takeGrant_33 ?_
    refine lv_istore_n (lv' := [(3, .int (if (v1 2 0) < (4 : Int32) then (v1 2 0) else (4 : Int32))), (2, .int (4 : Int32)), (0, .ref (a1 0)), (1, .int x1)]) hx hb dX5_takeGrant_36 rfl hl (by decide) rfl (fun ls hl => ?_)
    refine lv_aload_n hx hb dX5_takeGrant_37 rfl (lv_at hl 2 rfl) ?_
    refine lv_dup hx hb dX5_takeGrant_38 rfl ?_
    refine g_get C hW inX5 1 rfl rfl rfl 2 (by decide) (List.mem_of_getElem? (i := 3) rfl) (v := .int (v1 2 0)) rfl dX5_takeGrant_39 ?_
    refine lv_iload_n hx hb dX5_takeGrant_42 rfl (lv_at hl 0 rfl) ?_
    refine lv_isub hx hb dX5_takeGrant_43 ?_
    refine g_put C hW inX5 tyX5_ok nmX5 1 rfl rfl rfl 2 (by decide) (List.mem_of_getElem? (i := 3) rfl) rfl rfl rfl rfl (ch' := [kX4 g a0 q1_14 v0, kX5 g a1 q0 (a0 0) (st v1 2 (fun _ => ((v1 2 0) - (if (v1 2 0) < (4 : Int32) then (v1 2 0) else (4 : Int32)))))]) rfl dX5_takeGrant_44 (fun H locs hW => ?_)
    refine lv_aload_n hx hb dX5_takeGrant_47 rfl (lv_at hl 2 rfl) ?_
    refine g_get C hW inX5 1 rfl rfl rfl 1 (by decide) (List.mem_of_getElem? (i := 1) rfl) (v := .ref (a0 0)) rfl dX5_takeGrant_48 ?_
    refine g_get C hW inX4 0 rfl rfl rfl 5 (by decide) (List.mem_of_getElem? (i := 8) rfl) (v := .ref (a0 3)) rfl dX5_takeGrant_51 ?_
    refine lv_iload_n hx hb dX5_takeGrant_54 rfl (lv_at hl 3 rfl) ?_
    refine lv_iconst (v := (0 : Int32)) hx hb dX5_takeGrant_55 (by decide) ?_
    obtain ⟨hi, hf⟩ := gd_of hf
    refine g_iast C hW 0 3 rfl (f := (v0 5)) rfl (ib_in hi) (ch' := [kX4 g a0 q1_14 (st v0 5 (upd (v0 5) (Int32.toNatClampNeg x1) (0 : Int32))), kX5 g a1 q0 (a0 0) (st v1 2 (fun _ => ((v1 2 0) - (if (v1 2 0) < (4 : Int32) then (v1 2 0) else (4 : Int32)))))]) rfl dX5_takeGrant_56 (fun H locs hW => ?_)
    refine lv_aload_n hx hb dX5_takeGrant_57 rfl (lv_at hl 2 rfl) ?_
    refine g_get C hW inX5 1 rfl rfl rfl 1 (by decide) (List.mem_of_getElem? (i := 1) rfl) (v := .ref (a0 0)) rfl dX5_takeGrant_58 ?_
    refine g_get C hW inX4 0 rfl rfl rfl 8 (by decide) (List.mem_of_getElem? (i := 9) rfl) (v := .ref (a0 6)) rfl dX5_takeGrant_61 ?_
    refine lv_iload_n hx hb dX5_takeGrant_64 rfl (lv_at hl 3 rfl) ?_
    refine lv_dup2_11 hx hb dX5_takeGrant_65 rfl rfl ?_
    obtain ⟨hi, hf⟩ := gd_of hf
    refine g_iald C hW 0 6 rfl (f := (v0 8)) rfl (ib_in hi) dX5_takeGrant_66 ?_
    refine lv_iload_n hx hb dX5_takeGrant_67 rfl (lv_at hl 0 rfl) ?_
    refine lv_iadd hx hb dX5_takeGrant_68 ?_
    obtain ⟨hi, hf⟩ := gd_of hf
    refine g_iast C hW 0 6 rfl (f := (v0 8)) rfl (ib_in hi) (ch' := [kX4 g a0 q1_14 (st (st v0 5 (upd (v0 5) (Int32.toNatClampNeg x1) (0 : Int32))) 8 (upd (v0 8) (Int32.toNatClampNeg x1) (((v0 8) (Int32.toNatClampNeg x1)) + (if (v1 2 0) < (4 : Int32) then (v1 2 0) else (4 : Int32))))), kX5 g a1 q0 (a0 0) (st v1 2 (fun _ => ((v1 2 0) - (if (v1 2 0) < (4 : Int32) then (v1 2 0) else (4 : Int32)))))]) rfl dX5_takeGrant_69 (fun H locs hW => ?_)
    refine lv_aload_n hx hb dX5_takeGrant_70 rfl (lv_at hl 2 rfl) ?_
    refine g_get C hW inX5 1 rfl rfl rfl 1 (by decide) (List.mem_of_getElem? (i := 1) rfl) (v := .ref (a0 0)) rfl dX5_takeGrant_71 ?_
    refine lv_iload_n hx hb dX5_takeGrant_74 rfl (lv_at hl 3 rfl) ?_
    refine g_put C hW inX4 tyX4_ok nmX4 0 rfl rfl rfl 2 (by decide) (List.mem_of_getElem? (i := 10) rfl) rfl rfl rfl rfl (ch' := [kX4 g a0 q1_14 (st (st (st v0 5 (upd (v0 5) (Int32.toNatClampNeg x1) (0 : Int32))) 8 (upd (v0 8) (Int32.toNatClampNeg x1) (((v0 8) (Int32.toNatClampNeg x1)) + (if (v1 2 0) < (4 : Int32) then (v1 2 0) else (4 : Int32))))) 2 (fun _ => x1)), kX5 g a1 q0 (a0 0) (st v1 2 (fun _ => ((v1 2 0) - (if (v1 2 0) < (4 : Int32) then (v1 2 0) else (4 : Int32)))))]) rfl dX5_takeGrant_75 (fun H locs hW => ?_)
    refine lv_iload_n hx hb dX5_takeGrant_78 rfl (lv_at hl 0 rfl) ?_
    obtain rfl := Option.some.inj hf
    subst hQ
    exact g_iret C hr hk0 hW rfl rfl dX5_takeGrant_79
  · replace hf := (if_neg h).symm.trans hf
    refine lv_aload_n hx hb dX5_takeGrant_12 rfl (lv_at hl 0 rfl) ?_
    refine g_get C hW inX5 1 rfl rfl rfl 1 (by decide) (List.mem_of_getElem? (i := 1) rfl) (v := .ref (a0 0)) rfl dX5_takeGrant_13 ?_
    refine g_get C hW inX4 0 rfl rfl rfl 6 (by decide) (List.mem_of_getElem? (i := 2) rfl) (v := .ref (a0 4)) rfl dX5_takeGrant_16 ?_
    refine lv_iload_n hx hb dX5_takeGrant_19 rfl (lv_at hl 1 rfl) ?_
    obtain ⟨hi, hf⟩ := gd_of hf
    refine g_iald C hW 0 4 rfl (f := (v0 6)) rfl (ib_in hi) dX5_takeGrant_20 ?_
    refine lv_iconst (v := (2 : Int32)) hx hb dX5_takeGrant_21 (by decide) ?_
    refine lv_iadd hx hb dX5_takeGrant_22 ?_
    refine lv_goto (tgt := 27) hx hb dX5_takeGrant_23 (by decide) ?_
    refine lv_istore_n (lv' := [(2, .int (((v0 6) (Int32.toNatClampNeg x1)) + (2 : Int32))), (0, .ref (a1 0)), (1, .int x1)]) hx hb dX5_takeGrant_27 rfl hl (by decide) rfl (fun ls hl => ?_)
    refine lv_iload_n hx hb dX5_takeGrant_28 rfl (lv_at hl 0 rfl) ?_
    refine lv_aload_n hx hb dX5_takeGrant_29 rfl (lv_at hl 1 rfl) ?_
    refine g_get C hW inX5 1 rfl rfl rfl 2 (by decide) (List.mem_of_getElem? (i := 3) rfl) (v := .int (v1 2 0)) rfl dX5_takeGrant_30 ?_
    refine g_mmin C hl (List.mem_of_getElem? (i := 4) rfl) (List.mem_of_getElem? (i := 5) rfl) (List.mem_of_getElem? (i := 6) rfl) (List.mem_of_getElem? (i := 7) rfl) ⟨Nat.le_of_ble_eq_true rfl, Nat.le_of_ble_eq_true rfl, Nat.le_of_ble_eq_true rfl, Nat.le_of_ble_eq_true rfl⟩ (Nat.le_of_ble_eq_true rfl) dX5_takeGrant_33 ?_
    refine lv_istore_n (lv' := [(3, .int (if (v1 2 0) < (((v0 6) (Int32.toNatClampNeg x1)) + (2 : Int32)) then (v1 2 0) else (((v0 6) (Int32.toNatClampNeg x1)) + (2 : Int32)))), (2, .int (((v0 6) (Int32.toNatClampNeg x1)) + (2 : Int32))), (0, .ref (a1 0)), (1, .int x1)]) hx hb dX5_takeGrant_36 rfl hl (by decide) rfl (fun ls hl => ?_)
    refine lv_aload_n hx hb dX5_takeGrant_37 rfl (lv_at hl 2 rfl) ?_
    refine lv_dup hx hb dX5_takeGrant_38 rfl ?_
    refine g_get C hW inX5 1 rfl rfl rfl 2 (by decide) (List.mem_of_getElem? (i := 3) rfl) (v := .int (v1 2 0)) rfl dX5_takeGrant_39 ?_
    refine lv_iload_n hx hb dX5_takeGrant_42 rfl (lv_at hl 0 rfl) ?_
    refine lv_isub hx hb dX5_takeGrant_43 ?_
    refine g_put C hW inX5 tyX5_ok nmX5 1 rfl rfl rfl 2 (by decide) (List.mem_of_getElem? (i := 3) rfl) rfl rfl rfl rfl (ch' := [kX4 g a0 q1_14 v0, kX5 g a1 q0 (a0 0) (st v1 2 (fun _ => ((v1 2 0) - (if (v1 2 0) < (((v0 6) (Int32.toNatClampNeg x1)) + (2 : Int32)) then (v1 2 0) else (((v0 6) (Int32.toNatClampNeg x1)) + (2 : Int32))))))]) rfl dX5_takeGrant_44 (fun H locs hW => ?_)
    refine lv_aload_n hx hb dX5_takeGrant_47 rfl (lv_at hl 2 rfl) ?_
    refine g_get C hW inX5 1 rfl rfl rfl 1 (by decide) (List.mem_of_getElem? (i := 1) rfl) (v := .ref (a0 0)) rfl dX5_takeGrant_48 ?_
    refine g_get C hW inX4 0 rfl rfl rfl 5 (by decide) (List.mem_of_getElem? (i := 8) rfl) (v := .ref (a0 3)) rfl dX5_takeGrant_51 ?_
    refine lv_iload_n hx hb dX5_takeGrant_54 rfl (lv_at hl 3 rfl) ?_
    refine lv_iconst (v := (0 : Int32)) hx hb dX5_takeGrant_55 (by decide) ?_
    obtain ⟨hi, hf⟩ := gd_of hf
    refine g_iast C hW 0 3 rfl (f := (v0 5)) rfl (ib_in hi) (ch' := [kX4 g a0 q1_14 (st v0 5 (upd (v0 5) (Int32.toNatClampNeg x1) (0 : Int32))), kX5 g a1 q0 (a0 0) (st v1 2 (fun _ => ((v1 2 0) - (if (v1 2 0) < (((v0 6) (Int32.toNatClampNeg x1)) + (2 : Int32)) then (v1 2 0) else (((v0 6) (Int32.toNatClampNeg x1)) + (2 : Int32))))))]) rfl dX5_takeGrant_56 (fun H locs hW => ?_)
    refine lv_aload_n hx hb dX5_takeGrant_57 rfl (lv_at hl 2 rfl) ?_
    refine g_get C hW inX5 1 rfl rfl rfl 1 (by decide) (List.mem_of_getElem? (i := 1) rfl) (v := .ref (a0 0)) rfl dX5_takeGrant_58 ?_
    refine g_get C hW inX4 0 rfl rfl rfl 8 (by decide) (List.mem_of_getElem? (i := 9) rfl) (v := .ref (a0 6)) rfl dX5_takeGrant_61 ?_
    refine lv_iload_n hx hb dX5_takeGrant_64 rfl (lv_at hl 3 rfl) ?_
    refine lv_dup2_11 hx hb dX5_takeGrant_65 rfl rfl ?_
    obtain ⟨hi, hf⟩ := gd_of hf
    refine g_iald C hW 0 6 rfl (f := (v0 8)) rfl (ib_in hi) dX5_takeGrant_66 ?_
    refine lv_iload_n hx hb dX5_takeGrant_67 rfl (lv_at hl 0 rfl) ?_
    refine lv_iadd hx hb dX5_takeGrant_68 ?_
    obtain ⟨hi, hf⟩ := gd_of hf
    refine g_iast C hW 0 6 rfl (f := (v0 8)) rfl (ib_in hi) (ch' := [kX4 g a0 q1_14 (st (st v0 5 (upd (v0 5) (Int32.toNatClampNeg x1) (0 : Int32))) 8 (upd (v0 8) (Int32.toNatClampNeg x1) (((v0 8) (Int32.toNatClampNeg x1)) + (if (v1 2 0) < (((v0 6) (Int32.toNatClampNeg x1)) + (2 : Int32)) then (v1 2 0) else (((v0 6) (Int32.toNatClampNeg x1)) + (2 : Int32)))))), kX5 g a1 q0 (a0 0) (st v1 2 (fun _ => ((v1 2 0) - (if (v1 2 0) < (((v0 6) (Int32.toNatClampNeg x1)) + (2 : Int32)) then (v1 2 0) else (((v0 6) (Int32.toNatClampNeg x1)) + (2 : Int32))))))]) rfl dX5_takeGrant_69 (fun H locs hW => ?_)
    refine lv_aload_n hx hb dX5_takeGrant_70 rfl (lv_at hl 2 rfl) ?_
    refine g_get C hW inX5 1 rfl rfl rfl 1 (by decide) (List.mem_of_getElem? (i := 1) rfl) (v := .ref (a0 0)) rfl dX5_takeGrant_71 ?_
    refine lv_iload_n hx hb dX5_takeGrant_74 rfl (lv_at hl 3 rfl) ?_
    refine g_put C hW inX4 tyX4_ok nmX4 0 rfl rfl rfl 2 (by decide) (List.mem_of_getElem? (i := 10) rfl) rfl rfl rfl rfl (ch' := [kX4 g a0 q1_14 (st (st (st v0 5 (upd (v0 5) (Int32.toNatClampNeg x1) (0 : Int32))) 8 (upd (v0 8) (Int32.toNatClampNeg x1) (((v0 8) (Int32.toNatClampNeg x1)) + (if (v1 2 0) < (((v0 6) (Int32.toNatClampNeg x1)) + (2 : Int32)) then (v1 2 0) else (((v0 6) (Int32.toNatClampNeg x1)) + (2 : Int32)))))) 2 (fun _ => x1)), kX5 g a1 q0 (a0 0) (st v1 2 (fun _ => ((v1 2 0) - (if (v1 2 0) < (((v0 6) (Int32.toNatClampNeg x1)) + (2 : Int32)) then (v1 2 0) else (((v0 6) (Int32.toNatClampNeg x1)) + (2 : Int32))))))]) rfl dX5_takeGrant_75 (fun H locs hW => ?_)
    refine lv_iload_n hx hb dX5_takeGrant_78 rfl (lv_at hl 0 rfl) ?_
    obtain rfl := Option.some.inj hf
    subst hQ
    exact g_iret C hr hk0 hW rfl rfl dX5_takeGrant_79
def fX5_packLetters_L16 (N : Nat) (k : Int32 → Int32 → MM → MM → Option (Int32 × MM × MM)) (x1 : Int32) (x2 : Int32) (x3 : Int32) (x4 : Int32) (x6 : Int32) (v0 : MM) (v3 : MM) : Nat → Int32 → Int32 → MM → MM → Option (Int32 × MM × MM)
  | 0, _, _, _, _ => none
  | n + 1, x5, x7, v1, v2 => (if (v0 1 0) ≤ x7 then k x5 x7 v1 v2 else (if ib x7 6 = true then (if ((v0 7) (Int32.toNatClampNeg x7)) = x1 then (if ib x7 6 = true then (if ((v0 8) (Int32.toNatClampNeg x7)) = x6 then (if ib x7 6 = true then (if x4 = 0 then (if ib x7 6 = true then (if ib x7 6 = true then ((fX0_putLetters N x2 x7 (if x5 < ((v1 9) (Int32.toNatClampNeg x7)) then x5 else ((v1 9) (Int32.toNatClampNeg x7))) v2).bind (fun y1 => fX5_packLetters_L16 N k x1 x2 x3 x4 x6 v0 v3 n (x5 - (if x5 < ((v1 9) (Int32.toNatClampNeg x7)) then x5 else ((v1 9) (Int32.toNatClampNeg x7)))) (x7 + 1) (st v1 9 (upd (v1 9) (Int32.toNatClampNeg x7) (((v1 9) (Int32.toNatClampNeg x7)) - (if x5 < ((v1 9) (Int32.toNatClampNeg x7)) then x5 else ((v1 9) (Int32.toNatClampNeg x7)))))) y1)) else none) else none) else (if ib x7 6 = true then (if ib x7 6 = true then (if ib x7 6 = true then (if ib x7 6 = true then (if ib x7 6 = true then ((fX0_putLetters N x2 x7 (if ((v1 10) (Int32.toNatClampNeg x7)) < (if x5 < ((v1 9) (Int32.toNatClampNeg x7)) then x5 else ((v1 9) (Int32.toNatClampNeg x7))) then ((v1 10) (Int32.toNatClampNeg x7)) else (if x5 < ((v1 9) (Int32.toNatClampNeg x7)) then x5 else ((v1 9) (Int32.toNatClampNeg x7)))) v2).bind (fun y2 => fX5_packLetters_L16 N k x1 x2 x3 x4 x6 v0 v3 n (x5 - (if ((v1 10) (Int32.toNatClampNeg x7)) < (if x5 < ((v1 9) (Int32.toNatClampNeg x7)) then x5 else ((v1 9) (Int32.toNatClampNeg x7))) then ((v1 10) (Int32.toNatClampNeg x7)) else (if x5 < ((v1 9) (Int32.toNatClampNeg x7)) then x5 else ((v1 9) (Int32.toNatClampNeg x7))))) (x7 + 1) (st (st v1 10 (upd (v1 10) (Int32.toNatClampNeg x7) (((v1 10) (Int32.toNatClampNeg x7)) - (if ((v1 10) (Int32.toNatClampNeg x7)) < (if x5 < ((v1 9) (Int32.toNatClampNeg x7)) then x5 else ((v1 9) (Int32.toNatClampNeg x7))) then ((v1 10) (Int32.toNatClampNeg x7)) else (if x5 < ((v1 9) (Int32.toNatClampNeg x7)) then x5 else ((v1 9) (Int32.toNatClampNeg x7))))))) 9 (upd (v1 9) (Int32.toNatClampNeg x7) (((v1 9) (Int32.toNatClampNeg x7)) - (if ((v1 10) (Int32.toNatClampNeg x7)) < (if x5 < ((v1 9) (Int32.toNatClampNeg x7)) then x5 else ((v1 9) (Int32.toNatClampNeg x7))) then ((v1 10) (Int32.toNatClampNeg x7)) else (if x5 < ((v1 9) (Int32.toNatClampNeg x7)) then x5 else ((v1 9) (Int32.toNatClampNeg x7))))))) y2)) else none) else none) else none) else none) else none)) else none) else fX5_packLetters_L16 N k x1 x2 x3 x4 x6 v0 v3 n x5 (x7 + 1) v1 v2) else none) else fX5_packLetters_L16 N k x1 x2 x3 x4 x6 v0 v3 n x5 (x7 + 1) v1 v2) else none))
def fX5_packLetters_L6 (N : Nat) (k : Int32 → Int32 → MM → MM → Option (Int32 × MM × MM)) (x1 : Int32) (x2 : Int32) (x3 : Int32) (x4 : Int32) (v0 : MM) (v3 : MM) : Nat → Int32 → Int32 → MM → MM → Option (Int32 × MM × MM)
  | 0, _, _, _, _ => none
  | n + 1, x5, x6, v1, v2 => (if (9 : Int32) < x6 then k x5 x6 v1 v2 else (fX5_packLetters_L16 N (fun (x5_3 : Int32) (x7_3 : Int32) (v1_3 : MM) (v2_3 : MM) => fX5_packLetters_L6 N k x1 x2 x3 x4 v0 v3 n x5_3 (x6 + 1) v1_3 v2_3) x1 x2 x3 x4 x6 v0 v3 N x5 (0 : Int32) v1 v2))
def fX5_packLetters (N : Nat) (x1 : Int32) (x2 : Int32) (x3 : Int32) (x4 : Int32) (v0 : MM) (v1 : MM) (v2 : MM) (v3 : MM) : Option (Int32 × MM × MM) := (fX5_packLetters_L6 N (fun (x5_4 : Int32) (x6_4 : Int32) (v1_4 : MM) (v2_4 : MM) => some (x5_4, v1_4, v2_4)) x1 x2 x3 x4 v0 v3 N x3 (0 : Int32) v1 v2)
set_option maxHeartbeats 4000000 in
set_option maxRecDepth 100000 in
theorem ct_X5_packLetters (g : GT) (l : Launch) (N : Nat) (a0 : Nat → Nat) (a1 : Nat → Nat) (a2 : Nat → Nat) (a3 : Nat → Nat) (x1 : Int32) (x2 : Int32) (x3 : Int32) (x4 : Int32) (v0 : MM) (v1 : MM) (v2 : MM) (v3 : MM) {y : Int32 × MM × MM} (hf : fX5_packLetters N x1 x2 x3 x4 v0 v1 v2 v3 = some y) : ct g l yX5_packLetters wsX5_packLetters (rmk 1 24) [.ref (a3 0), .int x1, .int x2, .int x3, .int x4] [kX3 g a0 v0, kX4 g a1 (a2 0) v1, kX0 g a2 v2, kX5 g a3 (a0 0) (a1 0) v3] (some (.int y.1)) [kX3 g a0 v0, kX4 g a1 (a2 0) y.2.1, kX0 g a2 y.2.2, kX5 g a3 (a0 0) (a1 0) v3] := by
  refine ct_of (cc := cX5_packLetters) (maxL := 9) (ret := (some .int)) (by decide) rfl (Nat.le_of_ble_eq_true rfl) ?_
  intro p e s m args below meth c A ls C hr hk0 hA hW hl
  have hx := C.1.1
  have hb := C.1.2.1
  replace hl : lv_has ls 9 [(0, .ref (a3 0)), (1, .int x1), (2, .int x2), (3, .int x3), (4, .int x4)] := hl
  obtain ⟨Q, hQ⟩ : ∃ Q, Q = MQ below (ctQ g A (some (.int y.1)) [kX3 g a0 v0, kX4 g a1 (a2 0) y.2.1, kX0 g a2 y.2.2, kX5 g a3 (a0 0) (a1 0) v3]) args s 0 0 A := ⟨_, rfl⟩
  rw [← hQ]
  obtain ⟨H, hH⟩ : ∃ H, H = s.heap := ⟨_, rfl⟩
  obtain ⟨locs, hL⟩ : ∃ locs : List Loc, locs = [] := ⟨_, rfl⟩
  replace hW : wd g A s.heap [kX3 g a0 v0, kX4 g a1 (a2 0) v1, kX0 g a2 v2, kX5 g a3 (a0 0) (a1 0) v3] H locs := by rw [hH, hL]; exact hW
  suffices hG : W p l e (rmk 1 24) s m args below meth c H locs 0 0 Q (F0 m 0 ls []) by
    rw [hH, hL] at hG; exact hG
  clear hH hL
  have inX3 : ∀ w ∈ wsX30, w ∈ wsX5_packLetters := fun _ h => List.mem_cons_of_mem _ (List.mem_append_left _ (List.mem_append_left _ (List.mem_append_right _ (h))))
  have inX4 : ∀ w ∈ wsX40, w ∈ wsX5_packLetters := fun _ h => List.mem_cons_of_mem _ (List.mem_append_left _ (List.mem_append_right _ (h)))
  have inX5 : ∀ w ∈ wsX50, w ∈ wsX5_packLetters := fun _ h => List.mem_cons_of_mem _ (List.mem_append_left _ (List.mem_append_left _ (List.mem_append_left _ (List.mem_append_right _ (h)))))
  have L16 : ∀ (x1 : Int32) (x2 : Int32) (x3 : Int32) (x4 : Int32) (x6 : Int32) (k : Int32 → Int32 → MM → MM → Option (Int32 × MM × MM)) (hk : ∀ (x5 : Int32) (x7 : Int32) (v1 : MM) (v2 : MM) (H : Heap) (locs : List Loc) (ls : Array Slot), k x5 x7 v1 v2 = some y → wd g A s.heap [kX3 g a0 v0, kX4 g a1 (a2 0) v1, kX0 g a2 v2, kX5 g a3 (a0 0) (a1 0) v3] H locs → lv_has ls 9 [(0, .ref (a3 0)), (1, .int x1), (2, .int x2), (3, .int x3), (4, .int x4), (5, .int x5), (6, .int x6), (7, .int x7)] → W p l e (rmk 1 24) s m args below meth c H locs 0 0 Q (F0 m 157 ls [])) (n : Nat) (x5 : Int32) (x7 : Int32) (v1 : MM) (v2 : MM) (H : Heap) (locs : List Loc) (ls : Array Slot), fX5_packLetters_L16 N k x1 x2 x3 x4 x6 v0 v3 n x5 x7 v1 v2 = some y → wd g A s.heap [kX3 g a0 v0, kX4 g a1 (a2 0) v1, kX0 g a2 v2, kX5 g a3 (a0 0) (a1 0) v3] H locs → lv_has ls 9 [(0, .ref (a3 0)), (1, .int x1), (2, .int x2), (3, .int x3), (4, .int x4), (5, .int x5), (6, .int x6), (7, .int x7)] → W p l e (rmk 1 24) s m args below meth c H locs 0 0 Q (F0 m 16 ls []) := by
    intro x1 x2 x3 x4 x6 k hk n
    induction n with
    | zero => intro x5 x7 v1 v2 H locs ls hf; rw [fX5_packLetters_L16] at hf; cases hf
    | succ n ih =>
      intro x5 x7 v1 v2 H locs ls hf hW hl
      rw [fX5_packLetters_L16] at hf
      refine lv_iload hx hb dX5_packLetters_16 (lv_at hl 7 rfl) ?_
      refine lv_aload_n hx hb dX5_packLetters_18 rfl (lv_at hl 0 rfl) ?_
      refine g_get C hW inX5 3 rfl rfl rfl 0 (by decide) (List.mem_of_getElem? (i := 1) rfl) (v := .ref (a0 0)) rfl dX5_packLetters_19 ?_
      refine g_get C hW inX3 0 rfl rfl rfl 1 (by decide) (List.mem_of_getElem? (i := 2) rfl) (v := .int (v0 1 0)) rfl dX5_packLetters_22 ?_
      refine lv_icmp_ge (tgt := 157) hx hb dX5_packLetters_25 (by decide) (fun h => ?_) (fun h => ?_)
      · replace hf := (if_pos h).symm.trans hf
        exact hk _ _ _ _ H locs ls hf hW (lv_sub hl [0, 1, 2, 3, 4, 5, 6, 7] rfl)
      · replace hf := (if_neg h).symm.trans hf
        refine lv_aload_n hx hb dX5_packLetters_28 rfl (lv_at hl 0 rfl) ?_
        refine g_get C hW inX5 3 rfl rfl rfl 0 (by decide) (List.mem_of_getElem? (i := 1) rfl) (v := .ref (a0 0)) rfl dX5_packLetters_29 ?_
        refine g_get C hW inX3 0 rfl rfl rfl 7 (by decide) (List.mem_of_getElem? (i := 3) rfl) (v := .ref (a0 2)) rfl dX5_packLetters_32 ?_
        refine lv_iload hx hb dX5_packLetters_35 (lv_at hl 7 rfl) ?_
        obtain ⟨hi, hf⟩ := gd_of hf
        refine g_iald C hW 0 2 rfl (f := (v0 7)) rfl (ib_in hi) dX5_packLetters_37 ?_
        refine lv_iload_n hx hb dX5_packLetters_38 rfl (lv_at hl 1 rfl) ?_
        refine lv_icmp_ne (tgt := 151) hx hb dX5_packLetters_39 (by decide) (fun h => ?_) (fun h => ?_)
        · replace hf := (if_neg h).symm.trans hf
          refine lv_iinc (v := (x7 + 1)) (lv' := [(7, .int (x7 + 1)), (0, .ref (a3 0)), (1, .int x1), (2, .int x2), (3, .int x3), (4, .int x4), (5, .int x5), (6, .int x6)]) hx hb dX5_packLetters_151 hl (k := 7) rfl (by first | rfl | decide) (by decide) rfl (fun ls hl => ?_)
          refine lv_goto (tgt := 16) hx hb dX5_packLetters_154 (by decide) ?_
          exact ih _ _ _ _ H locs ls hf hW (lv_sub hl [1, 2, 3, 4, 5, 6, 7, 0] rfl)
        · replace hf := (if_pos h).symm.trans hf
          refine lv_aload_n hx hb dX5_packLetters_42 rfl (lv_at hl 0 rfl) ?_
          refine g_get C hW inX5 3 rfl rfl rfl 0 (by decide) (List.mem_of_getElem? (i := 1) rfl) (v := .ref (a0 0)) rfl dX5_packLetters_43 ?_
          refine g_get C hW inX3 0 rfl rfl rfl 8 (by decide) (List.mem_of_getElem? (i := 4) rfl) (v := .ref (a0 3)) rfl dX5_packLetters_46 ?_
          refine lv_iload hx hb dX5_packLetters_49 (lv_at hl 7 rfl) ?_
          obtain ⟨hi, hf⟩ := gd_of hf
          refine g_iald C hW 0 3 rfl (f := (v0 8)) rfl (ib_in hi) dX5_packLetters_51 ?_
          refine lv_iload hx hb dX5_packLetters_52 (lv_at hl 6 rfl) ?_
          refine lv_icmp_eq (tgt := 60) hx hb dX5_packLetters_54 (by decide) (fun h => ?_) (fun h => ?_)
          · replace hf := (if_pos h).symm.trans hf
            refine lv_aload_n hx hb dX5_packLetters_60 rfl (lv_at hl 0 rfl) ?_
            refine g_get C hW inX5 3 rfl rfl rfl 1 (by decide) (List.mem_of_getElem? (i := 5) rfl) (v := .ref (a1 0)) rfl dX5_packLetters_61 ?_
            refine g_get C hW inX4 1 rfl rfl rfl 9 (by decide) (List.mem_of_getElem? (i := 6) rfl) (v := .ref (a1 7)) rfl dX5_packLetters_64 ?_
            refine lv_iload hx hb dX5_packLetters_67 (lv_at hl 7 rfl) ?_
            obtain ⟨hi, hf⟩ := gd_of hf
            refine g_iald C hW 1 7 rfl (f := (v1 9)) rfl (ib_in hi) dX5_packLetters_69 ?_
            refine lv_iload hx hb dX5_packLetters_70 (lv_at hl 5 rfl) ?_
            refine g_mmin C hl (List.mem_of_getElem? (i := 7) rfl) (List.mem_of_getElem? (i := 8) rfl) (List.mem_of_getElem? (i := 9) rfl) (List.mem_of_getElem? (i := 10) rfl) ⟨Nat.le_of_ble_eq_true rfl, Nat.le_of_ble_eq_true rfl, Nat.le_of_ble_eq_true rfl, Nat.le_of_ble_eq_true rfl⟩ (Nat.le_of_ble_eq_true rfl) dX5_packLetters_72 ?_
            refine lv_istore (lv' := [(8, .int (if x5 < ((v1 9) (Int32.toNatClampNeg x7)) then x5 else ((v1 9) (Int32.toNatClampNeg x7)))), (0, .ref (a3 0)), (1, .int x1), (2, .int x2), (3, .int x3), (4, .int x4), (5, .int x5), (6, .int x6), (7, .int x7)]) hx hb dX5_packLetters_75 hl (by decide) rfl (fun ls hl => ?_)
            refine lv_iload hx hb dX5_packLetters_77 (lv_at hl 5 rfl) ?_
            refine lv_if_eq (tgt := 114) hx hb dX5_packLetters_79 (by decide) (fun h => ?_) (fun h => ?_)
            · replace hf := (if_pos h).symm.trans hf
              refine lv_aload_n hx hb dX5_packLetters_114 rfl (lv_at hl 1 rfl) ?_
              refine g_get C hW inX5 3 rfl rfl rfl 1 (by decide) (List.mem_of_getElem? (i := 5) rfl) (v := .ref (a1 0)) rfl dX5_packLetters_115 ?_
              refine g_get C hW inX4 1 rfl rfl rfl 9 (by decide) (List.mem_of_getElem? (i := 6) rfl) (v := .ref (a1 7)) rfl dX5_packLetters_118 ?_
              refine lv_iload hx hb dX5_packLetters_121 (lv_at hl 8 rfl) ?_
              refine lv_dup2_11 hx hb dX5_packLetters_123 rfl rfl ?_
              obtain ⟨hi, hf⟩ := gd_of hf
              refine g_iald C hW 1 7 rfl (f := (v1 9)) rfl (ib_in hi) dX5_packLetters_124 ?_
              refine lv_iload hx hb dX5_packLetters_125 (lv_at hl 0 rfl) ?_
              refine lv_isub hx hb dX5_packLetters_127 ?_
              obtain ⟨hi, hf⟩ := gd_of hf
              refine g_iast C hW 1 7 rfl (f := (v1 9)) rfl (ib_in hi) (ch' := [kX3 g a0 v0, kX4 g a1 (a2 0) (st v1 9 (upd (v1 9) (Int32.toNatClampNeg x7) (((v1 9) (Int32.toNatClampNeg x7)) - (if x5 < ((v1 9) (Int32.toNatClampNeg x7)) then x5 else ((v1 9) (Int32.toNatClampNeg x7)))))), kX0 g a2 v2, kX5 g a3 (a0 0) (a1 0) v3]) rfl dX5_packLetters_128 (fun H locs hW => ?_)
              refine lv_aload_n hx hb dX5_packLetters_129 rfl (lv_at hl 1 rfl) ?_
              refine g_get C hW inX5 3 rfl rfl rfl 1 (by decide) (List.mem_of_getElem? (i := 5) rfl) (v := .ref (a1 0)) rfl dX5_packLetters_130 ?_
              refine g_get C hW inX4 1 rfl rfl rfl 14 (by decide) (List.mem_of_getElem? (i := 12) rfl) (v := .ref (a2 0)) rfl dX5_packLetters_133 ?_
              refine lv_iload_n hx hb dX5_packLetters_136 rfl (lv_at hl 3 rfl) ?_
              refine lv_iload hx hb dX5_packLetters_137 (lv_at hl 8 rfl) ?_
              refine lv_iload hx hb dX5_packLetters_139 (lv_at hl 0 rfl) ?_
              obtain ⟨y1, hc, hf⟩ := bd_of hf
              refine g_cVv (Cn := RX0) C (ct_X0_putLetters g l N a2 x2 x7 (if x5 < ((v1 9) (Int32.toNatClampNeg x7)) then x5 else ((v1 9) (Int32.toNatClampNeg x7))) v2 hc) gX5_packLetters_X0_putLetters rfl 3 (by decide +kernel) ⟨rfl, rfl, ⟨Nat.le_of_ble_eq_true rfl, Nat.le_of_ble_eq_true rfl⟩, Nat.le_of_ble_eq_true rfl, Nat.le_of_ble_eq_true rfl⟩ rfl hl (Nat.le_of_ble_eq_true rfl) dX5_packLetters_141 rfl hW hA [2] rfl rfl rfl (ch' := [kX3 g a0 v0, kX4 g a1 (a2 0) (st v1 9 (upd (v1 9) (Int32.toNatClampNeg x7) (((v1 9) (Int32.toNatClampNeg x7)) - (if x5 < ((v1 9) (Int32.toNatClampNeg x7)) then x5 else ((v1 9) (Int32.toNatClampNeg x7)))))), kX0 g a2 y1, kX5 g a3 (a0 0) (a1 0) v3]) rfl 2 rfl rfl rfl (fun H locs hW => ?_)
              refine lv_iload hx hb dX5_packLetters_144 (lv_at hl 6 rfl) ?_
              refine lv_iload hx hb dX5_packLetters_146 (lv_at hl 0 rfl) ?_
              refine lv_isub hx hb dX5_packLetters_148 ?_
              refine lv_istore (lv' := [(5, .int (x5 - (if x5 < ((v1 9) (Int32.toNatClampNeg x7)) then x5 else ((v1 9) (Int32.toNatClampNeg x7))))), (8, .int (if x5 < ((v1 9) (Int32.toNatClampNeg x7)) then x5 else ((v1 9) (Int32.toNatClampNeg x7)))), (0, .ref (a3 0)), (1, .int x1), (2, .int x2), (3, .int x3), (4, .int x4), (6, .int x6), (7, .int x7)]) hx hb dX5_packLetters_149 hl (by decide) rfl (fun ls hl => ?_)
              refine lv_iinc (v := (x7 + 1)) (lv' := [(7, .int (x7 + 1)), (5, .int (x5 - (if x5 < ((v1 9) (Int32.toNatClampNeg x7)) then x5 else ((v1 9) (Int32.toNatClampNeg x7))))), (8, .int (if x5 < ((v1 9) (Int32.toNatClampNeg x7)) then x5 else ((v1 9) (Int32.toNatClampNeg x7)))), (0, .ref (a3 0)), (1, .int x1), (2, .int x2), (3, .int x3), (4, .int x4), (6, .int x6)]) hx hb dX5_packLetters_151 hl (k := 8) rfl (by first | rfl | decide) (by decide) rfl (fun ls hl => ?_)
              refine lv_goto (tgt := 16) hx hb dX5_packLetters_154 (by decide) ?_
              exact ih _ _ _ _ H locs ls hf hW (lv_sub hl [3, 4, 5, 6, 7, 1, 8, 0] rfl)
            · replace hf := (if_neg h).symm.trans hf
              refine lv_iload hx hb dX5_packLetters_82 (lv_at hl 0 rfl) ?_
              refine lv_aload_n hx hb dX5_packLetters_84 rfl (lv_at hl 1 rfl) ?_
              refine g_get C hW inX5 3 rfl rfl rfl 1 (by decide) (List.mem_of_getElem? (i := 5) rfl) (v := .ref (a1 0)) rfl dX5_packLetters_85 ?_
              refine g_get C hW inX4 1 rfl rfl rfl 10 (by decide) (List.mem_of_getElem? (i := 11) rfl) (v := .ref (a1 8)) rfl dX5_packLetters_88 ?_
              refine lv_iload hx hb dX5_packLetters_91 (lv_at hl 8 rfl) ?_
              obtain ⟨hi, hf⟩ := gd_of hf
              refine g_iald C hW 1 8 rfl (f := (v1 10)) rfl (ib_in hi) dX5_packLetters_93 ?_
              refine g_mmin C hl (List.mem_of_getElem? (i := 7) rfl) (List.mem_of_getElem? (i := 8) rfl) (List.mem_of_getElem? (i := 9) rfl) (List.mem_of_getElem? (i := 10) rfl) ⟨Nat.le_of_ble_eq_true rfl, Nat.le_of_ble_eq_true rfl, Nat.le_of_ble_eq_true rfl, Nat.le_of_ble_eq_true rfl⟩ (Nat.le_of_ble_eq_true rfl) dX5_packLetters_94 ?_
              refine lv_istore (lv' := [(8, .int (if ((v1 10) (Int32.toNatClampNeg x7)) < (if x5 < ((v1 9) (Int32.toNatClampNeg x7)) then x5 else ((v1 9) (Int32.toNatClampNeg x7))) then ((v1 10) (Int32.toNatClampNeg x7)) else (if x5 < ((v1 9) (Int32.toNatClampNeg x7)) then x5 else ((v1 9) (Int32.toNatClampNeg x7))))), (0, .ref (a3 0)), (1, .int x1), (2, .int x2), (3, .int x3), (4, .int x4), (5, .int x5), (6, .int x6), (7, .int x7)]) hx hb dX5_packLetters_97 hl (by decide) rfl (fun ls hl => ?_)
              refine lv_aload_n hx hb dX5_packLetters_99 rfl (lv_at hl 1 rfl) ?_
              refine g_get C hW inX5 3 rfl rfl rfl 1 (by decide) (List.mem_of_getElem? (i := 5) rfl) (v := .ref (a1 0)) rfl dX5_packLetters_100 ?_
              refine g_get C hW inX4 1 rfl rfl rfl 10 (by decide) (List.mem_of_getElem? (i := 11) rfl) (v := .ref (a1 8)) rfl dX5_packLetters_103 ?_
              refine lv_iload hx hb dX5_packLetters_106 (lv_at hl 8 rfl) ?_
              refine lv_dup2_11 hx hb dX5_packLetters_108 rfl rfl ?_
              obtain ⟨hi, hf⟩ := gd_of hf
              refine g_iald C hW 1 8 rfl (f := (v1 10)) rfl (ib_in hi) dX5_packLetters_109 ?_
              refine lv_iload hx hb dX5_packLetters_110 (lv_at hl 0 rfl) ?_
              refine lv_isub hx hb dX5_packLetters_112 ?_
              obtain ⟨hi, hf⟩ := gd_of hf
              refine g_iast C hW 1 8 rfl (f := (v1 10)) rfl (ib_in hi) (ch' := [kX3 g a0 v0, kX4 g a1 (a2 0) (st v1 10 (upd (v1 10) (Int32.toNatClampNeg x7) (((v1 10) (Int32.toNatClampNeg x7)) - (if ((v1 10) (Int32.toNatClampNeg x7)) < (if x5 < ((v1 9) (Int32.toNatClampNeg x7)) then x5 else ((v1 9) (Int32.toNatClampNeg x7))) then ((v1 10) (Int32.toNatClampNeg x7)) else (if x5 < ((v1 9) (Int32.toNatClampNeg x7)) then x5 else ((v1 9) (Int32.toNatClampNeg x7))))))), kX0 g a2 v2, kX5 g a3 (a0 0) (a1 0) v3]) rfl dX5_packLetters_113 (fun H locs hW => ?_)
              refine lv_aload_n hx hb dX5_packLetters_114 rfl (lv_at hl 1 rfl) ?_
              refine g_get C hW inX5 3 rfl rfl rfl 1 (by decide) (List.mem_of_getElem? (i := 5) rfl) (v := .ref (a1 0)) rfl dX5_packLetters_115 ?_
              refine g_get C hW inX4 1 rfl rfl rfl 9 (by decide) (List.mem_of_getElem? (i := 6) rfl) (v := .ref (a1 7)) rfl dX5_packLetters_118 ?_
              refine lv_iload hx hb dX5_packLetters_121 (lv_at hl 8 rfl) ?_
              refine lv_dup2_11 hx hb dX5_packLetters_123 rfl rfl ?_
              obtain ⟨hi, hf⟩ := gd_of hf
              refine g_iald C hW 1 7 rfl (f := (v1 9)) rfl (ib_in hi) dX5_packLetters_124 ?_
              refine lv_iload hx hb dX5_packLetters_125 (lv_at hl 0 rfl) ?_
              refine lv_isub hx hb dX5_packLetters_127 ?_
              obtain ⟨hi, hf⟩ := gd_of hf
              refine g_iast C hW 1 7 rfl (f := (v1 9)) rfl (ib_in hi) (ch' := [kX3 g a0 v0, kX4 g a1 (a2 0) (st (st v1 10 (upd (v1 10) (Int32.toNatClampNeg x7) (((v1 10) (Int32.toNatClampNeg x7)) - (if ((v1 10) (Int32.toNatClampNeg x7)) < (if x5 < ((v1 9) (Int32.toNatClampNeg x7)) then x5 else ((v1 9) (Int32.toNatClampNeg x7))) then ((v1 10) (Int32.toNatClampNeg x7)) else (if x5 < ((v1 9) (Int32.toNatClampNeg x7)) then x5 else ((v1 9) (Int32.toNatClampNeg x7))))))) 9 (upd (v1 9) (Int32.toNatClampNeg x7) (((v1 9) (Int32.toNatClampNeg x7)) - (if ((v1 10) (Int32.toNatClampNeg x7)) < (if x5 < ((v1 9) (Int32.toNatClampNeg x7)) then x5 else ((v1 9) (Int32.toNatClampNeg x7))) then ((v1 10) (Int32.toNatClampNeg x7)) else (if x5 < ((v1 9) (Int32.toNatClampNeg x7)) then x5 else ((v1 9) (Int32.toNatClampNeg x7))))))), kX0 g a2 v2, kX5 g a3 (a0 0) (a1 0) v3]) rfl dX5_packLetters_128 (fun H locs hW => ?_)
              refine lv_aload_n hx hb dX5_packLetters_129 rfl (lv_at hl 1 rfl) ?_
              refine g_get C hW inX5 3 rfl rfl rfl 1 (by decide) (List.mem_of_getElem? (i := 5) rfl) (v := .ref (a1 0)) rfl dX5_packLetters_130 ?_
              refine g_get C hW inX4 1 rfl rfl rfl 14 (by decide) (List.mem_of_getElem? (i := 12) rfl) (v := .ref (a2 0)) rfl dX5_packLetters_133 ?_
              refine lv_iload_n hx hb dX5_packLetters_136 rfl (lv_at hl 3 rfl) ?_
              refine lv_iload hx hb dX5_packLetters_137 (lv_at hl 8 rfl) ?_
              refine lv_iload hx hb dX5_packLetters_139 (lv_at hl 0 rfl) ?_
              obtain ⟨y2, hc, hf⟩ := bd_of hf
              refine g_cVv (Cn := RX0) C (ct_X0_putLetters g l N a2 x2 x7 (if ((v1 10) (Int32.toNatClampNeg x7)) < (if x5 < ((v1 9) (Int32.toNatClampNeg x7)) then x5 else ((v1 9) (Int32.toNatClampNeg x7))) then ((v1 10) (Int32.toNatClampNeg x7)) else (if x5 < ((v1 9) (Int32.toNatClampNeg x7)) then x5 else ((v1 9) (Int32.toNatClampNeg x7)))) v2 hc) gX5_packLetters_X0_putLetters rfl 3 (by decide +kernel) ⟨rfl, rfl, ⟨Nat.le_of_ble_eq_true rfl, Nat.le_of_ble_eq_true rfl⟩, Nat.le_of_ble_eq_true rfl, Nat.le_of_ble_eq_true rfl⟩ rfl hl (Nat.le_of_ble_eq_true rfl) dX5_packLetters_141 rfl hW hA [2] rfl rfl rfl (ch' := [kX3 g a0 v0, kX4 g a1 (a2 0) (st (st v1 10 (upd (v1 10) (Int32.toNatClampNeg x7) (((v1 10) (Int32.toNatClampNeg x7)) - (if ((v1 10) (Int32.toNatClampNeg x7)) < (if x5 < ((v1 9) (Int32.toNatClampNeg x7)) then x5 else ((v1 9) (Int32.toNatClampNeg x7))) then ((v1 10) (Int32.toNatClampNeg x7)) else (if x5 < ((v1 9) (Int32.toNatClampNeg x7)) then x5 else ((v1 9) (Int32.toNatClampNeg x7))))))) 9 (upd (v1 9) (Int32.toNatClampNeg x7) (((v1 9) (Int32.toNatClampNeg x7)) - (if ((v1 10) (Int32.toNatClampNeg x7)) < (if x5 < ((v1 9) (Int32.toNatClampNeg x7)) then x5 else ((v1 9) (Int32.toNatClampNeg x7))) then ((v1 10) (Int32.toNatClampNeg x7)) else (if x5 < ((v1 9) (Int32.toNatClampNeg x7)) then x5 else ((v1 9) (Int32.toNatClampNeg x7))))))), kX0 g a2 y2, kX5 g a3 (a0 0) (a1 0) v3]) rfl 2 rfl rfl rfl (fun H locs hW => ?_)
              refine lv_iload hx hb dX5_packLetters_144 (lv_at hl 6 rfl) ?_
              refine lv_iload hx hb dX5_packLetters_146 (lv_at hl 0 rfl) ?_
              refine lv_isub hx hb dX5_packLetters_148 ?_
              refine lv_istore (lv' := [(5, .int (x5 - (if ((v1 10) (Int32.toNatClampNeg x7)) < (if x5 < ((v1 9) (Int32.toNatClampNeg x7)) then x5 else ((v1 9) (Int32.toNatClampNeg x7))) then ((v1 10) (Int32.toNatClampNeg x7)) else (if x5 < ((v1 9) (Int32.toNatClampNeg x7)) then x5 else ((v1 9) (Int32.toNatClampNeg x7)))))), (8, .int (if ((v1 10) (Int32.toNatClampNeg x7)) < (if x5 < ((v1 9) (Int32.toNatClampNeg x7)) then x5 else ((v1 9) (Int32.toNatClampNeg x7))) then ((v1 10) (Int32.toNatClampNeg x7)) else (if x5 < ((v1 9) (Int32.toNatClampNeg x7)) then x5 else ((v1 9) (Int32.toNatClampNeg x7))))), (0, .ref (a3 0)), (1, .int x1), (2, .int x2), (3, .int x3), (4, .int x4), (6, .int x6), (7, .int x7)]) hx hb dX5_packLetters_149 hl (by decide) rfl (fun ls hl => ?_)
              refine lv_iinc (v := (x7 + 1)) (lv' := [(7, .int (x7 + 1)), (5, .int (x5 - (if ((v1 10) (Int32.toNatClampNeg x7)) < (if x5 < ((v1 9) (Int32.toNatClampNeg x7)) then x5 else ((v1 9) (Int32.toNatClampNeg x7))) then ((v1 10) (Int32.toNatClampNeg x7)) else (if x5 < ((v1 9) (Int32.toNatClampNeg x7)) then x5 else ((v1 9) (Int32.toNatClampNeg x7)))))), (8, .int (if ((v1 10) (Int32.toNatClampNeg x7)) < (if x5 < ((v1 9) (Int32.toNatClampNeg x7)) then x5 else ((v1 9) (Int32.toNatClampNeg x7))) then ((v1 10) (Int32.toNatClampNeg x7)) else (if x5 < ((v1 9) (Int32.toNatClampNeg x7)) then x5 else ((v1 9) (Int32.toNatClampNeg x7))))), (0, .ref (a3 0)), (1, .int x1), (2, .int x2), (3, .int x3), (4, .int x4), (6, .int x6)]) hx hb dX5_packLetters_151 hl (k := 8) rfl (by first | rfl | decide) (by decide) rfl (fun ls hl => ?_)
              refine lv_goto (tgt := 16) hx hb dX5_packLetters_154 (by decide) ?_
              exact ih _ _ _ _ H locs ls hf hW (lv_sub hl [3, 4, 5, 6, 7, 1, 8, 0] rfl)
          · replace hf := (if_neg h).symm.trans hf
            refine lv_goto (tgt := 151) hx hb dX5_packLetters_57 (by decide) ?_
            refine lv_iinc (v := (x7 + 1)) (lv' := [(7, .int (x7 + 1)), (0, .ref (a3 0)), (1, .int x1), (2, .int x2), (3, .int x3), (4, .int x4), (5, .int x5), (6, .int x6)]) hx hb dX5_packLetters_151 hl (k := 7) rfl (by first | rfl | decide) (by decide) rfl (fun ls hl => ?_)
            refine lv_goto (tgt := 16) hx hb dX5_packLetters_154 (by decide) ?_
            exact ih _ _ _ _ H locs ls hf hW (lv_sub hl [1, 2, 3, 4, 5, 6, 7, 0] rfl)
  have L6 : ∀ (x1 : Int32) (x2 : Int32) (x3 : Int32) (x4 : Int32) (k : Int32 → Int32 → MM → MM → Option (Int32 × MM × MM)) (hk : ∀ (x5 : Int32) (x6 : Int32) (v1 : MM) (v2 : MM) (H : Heap) (locs : List Loc) (ls : Array Slot), k x5 x6 v1 v2 = some y → wd g A s.heap [kX3 g a0 v0, kX4 g a1 (a2 0) v1, kX0 g a2 v2, kX5 g a3 (a0 0) (a1 0) v3] H locs → lv_has ls 9 [(0, .ref (a3 0)), (1, .int x1), (2, .int x2), (3, .int x3), (4, .int x4), (5, .int x5), (6, .int x6)] → W p l e (rmk 1 24) s m args below meth c H locs 0 0 Q (F0 m 163 ls [])) (n : Nat) (x5 : Int32) (x6 : Int32) (v1 : MM) (v2 : MM) (H : Heap) (locs : List Loc) (ls : Array Slot), fX5_packLetters_L6 N k x1 x2 x3 x4 v0 v3 n x5 x6 v1 v2 = some y → wd g A s.heap [kX3 g a0 v0, kX4 g a1 (a2 0) v1, kX0 g a2 v2, kX5 g a3 (a0 0) (a1 0) v3] H locs → lv_has ls 9 [(0, .ref (a3 0)), (1, .int x1), (2, .int x2), (3, .int x3), (4, .int x4), (5, .int x5), (6, .int x6)] → W p l e (rmk 1 24) s m args below meth c H locs 0 0 Q (F0 m 6 ls []) := by
    intro x1 x2 x3 x4 k hk n
    induction n with
    | zero => intro x5 x6 v1 v2 H locs ls hf; rw [fX5_packLetters_L6] at hf; cases hf
    | succ n ih =>
      intro x5 x6 v1 v2 H locs ls hf hW hl
      rw [fX5_packLetters_L6] at hf
      refine lv_iload hx hb dX5_packLetters_6 (lv_at hl 6 rfl) ?_
      refine lv_bipush (v := (9 : Int32)) hx hb dX5_packLetters_8 (by decide) ?_
      refine lv_icmp_gt (tgt := 163) hx hb dX5_packLetters_10 (by decide) (fun h => ?_) (fun h => ?_)
      · replace hf := (if_pos h).symm.trans hf
        exact hk _ _ _ _ H locs ls hf hW (lv_sub hl [0, 1, 2, 3, 4, 5, 6] rfl)
      · replace hf := (if_neg h).symm.trans hf
        refine lv_iconst (v := (0 : Int32)) hx hb dX5_packLetters_13 (by decide) ?_
        refine lv_istore (lv' := [(7, .int (0 : Int32)), (0, .ref (a3 0)), (1, .int x1), (2, .int x2), (3, .int x3), (4, .int x4), (5, .int x5), (6, .int x6)]) hx hb dX5_packLetters_14 hl (by decide) rfl (fun ls hl => ?_)
        refine L16 x1 x2 x3 x4 x6 _ (fun x5_3 x7_3 v1_3 v2_3 H locs ls hf hW hl => ?_) N x5 (0 : Int32) v1 v2 H locs ls hf hW (lv_sub hl [1, 2, 3, 4, 5, 6, 7, 0] rfl)
        refine lv_iinc (v := (x6 + 1)) (lv' := [(6, .int (x6 + 1)), (0, .ref (a3 0)), (1, .int x1), (2, .int x2), (3, .int x3), (4, .int x4), (5, .int x5_3), (7, .int x7_3)]) hx hb dX5_packLetters_157 hl (k := 6) rfl (by first | rfl | decide) (by decide) rfl (fun ls hl => ?_)
        refine lv_goto (tgt := 6) hx hb dX5_packLetters_160 (by decide) ?_
        exact ih _ _ _ _ H locs ls hf hW (lv_sub hl [1, 2, 3, 4, 5, 6, 0] rfl)
  rw [fX5_packLetters] at hf
  refine lv_iload_n hx hb dX5_packLetters_0 rfl (lv_at hl 3 rfl) ?_
  refine lv_istore (lv' := [(5, .int x3), (0, .ref (a3 0)), (1, .int x1), (2, .int x2), (3, .int x3), (4, .int x4)]) hx hb dX5_packLetters_1 hl (by decide) rfl (fun ls hl => ?_)
  refine lv_iconst (v := (0 : Int32)) hx hb dX5_packLetters_3 (by decide) ?_
  refine lv_istore (lv' := [(6, .int (0 : Int32)), (5, .int x3), (0, .ref (a3 0)), (1, .int x1), (2, .int x2), (3, .int x3), (4, .int x4)]) hx hb dX5_packLetters_4 hl (by decide) rfl (fun ls hl => ?_)
  refine L6 x1 x2 x3 x4 _ (fun x5_4 x6_4 v1_4 v2_4 H locs ls hf hW hl => ?_) N x3 (0 : Int32) v1 v2 H locs ls hf hW (lv_sub hl [2, 3, 4, 5, 6, 1, 0] rfl)
  refine lv_iload hx hb dX5_packLetters_163 (lv_at hl 5 rfl) ?_
  obtain rfl := Option.some.inj hf
  subst hQ
  exact g_iret C hr hk0 hW rfl rfl dX5_packLetters_165
end
