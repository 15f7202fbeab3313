-- ===== PART A: goes FIRST, ahead of the names: the tables' words, and 'selects' of the private methods out of them =====
/-- a private method of a class that the tables say can be made, by its rows of tables_1 -/
def lw_okq (q : MethodName × Nat) : Prop := (q.1.cls ≠ "java/lang/invoke/MethodHandle" ∧ q.1.cls ≠ "java/lang/invoke/VarHandle") ∧ Cond.instantiable q.1.cls q.2 ∈ tables_1 ∧ Cond.privateMethod q.1 ∈ tables_1 ∧ Cond.instanceMethod q.1 ∈ tables_1
theorem lw_p0 : lw_okq (⟨"java/util/ArrayList", "add", "(Ljava/lang/Object;[Ljava/lang/Object;I)V"⟩, 3) := ⟨⟨by decide +kernel, by decide +kernel⟩, List.mem_of_getElem? (i := 37) (by decide +kernel), List.mem_of_getElem? (i := 96) (by decide +kernel), List.mem_of_getElem? (i := 97) (by decide +kernel)⟩
theorem lw_p1 : lw_okq (⟨"java/util/ArrayList", "grow", "()[Ljava/lang/Object;"⟩, 3) := ⟨⟨by decide +kernel, by decide +kernel⟩, List.mem_of_getElem? (i := 37) (by decide +kernel), List.mem_of_getElem? (i := 100) (by decide +kernel), List.mem_of_getElem? (i := 101) (by decide +kernel)⟩
theorem lw_p2 : lw_okq (⟨"java/util/ArrayList", "grow", "(I)[Ljava/lang/Object;"⟩, 3) := ⟨⟨by decide +kernel, by decide +kernel⟩, List.mem_of_getElem? (i := 37) (by decide +kernel), List.mem_of_getElem? (i := 104) (by decide +kernel), List.mem_of_getElem? (i := 105) (by decide +kernel)⟩
theorem lw_p3 : lw_okq (⟨"ChitWright", "post", "(IJ)V"⟩, 18) := ⟨⟨by decide +kernel, by decide +kernel⟩, List.mem_of_getElem? (i := 29) (by decide +kernel), List.mem_of_getElem? (i := 268) (by decide +kernel), List.mem_of_getElem? (i := 269) (by decide +kernel)⟩
theorem lw_p4 : lw_okq (⟨"java/lang/Throwable", "fillInStackTrace", "(I)Ljava/lang/Throwable;"⟩, 6) := ⟨⟨by decide +kernel, by decide +kernel⟩, List.mem_of_getElem? (i := 313) (by decide +kernel), List.mem_of_getElem? (i := 311) (by decide +kernel), List.mem_of_getElem? (i := 312) (by decide +kernel)⟩
theorem lw_p5 : lw_okq (⟨"ChitWright", "personAt", "(I)LChitWright$Person;"⟩, 18) := ⟨⟨by decide +kernel, by decide +kernel⟩, List.mem_of_getElem? (i := 29) (by decide +kernel), List.mem_of_getElem? (i := 357) (by decide +kernel), List.mem_of_getElem? (i := 358) (by decide +kernel)⟩
theorem lw_p6 : lw_okq (⟨"ChitWright", "purseAt", "(II)LChitWright$Purse;"⟩, 18) := ⟨⟨by decide +kernel, by decide +kernel⟩, List.mem_of_getElem? (i := 29) (by decide +kernel), List.mem_of_getElem? (i := 472) (by decide +kernel), List.mem_of_getElem? (i := 473) (by decide +kernel)⟩
theorem lw_p7 : lw_okq (⟨"ChitWright", "centreAt", "(I)LChitWright$Centre;"⟩, 18) := ⟨⟨by decide +kernel, by decide +kernel⟩, List.mem_of_getElem? (i := 29) (by decide +kernel), List.mem_of_getElem? (i := 476) (by decide +kernel), List.mem_of_getElem? (i := 477) (by decide +kernel)⟩
theorem lw_p8 : lw_okq (⟨"ChitWright", "supplierAt", "(I)LChitWright$Supplier;"⟩, 18) := ⟨⟨by decide +kernel, by decide +kernel⟩, List.mem_of_getElem? (i := 29) (by decide +kernel), List.mem_of_getElem? (i := 519) (by decide +kernel), List.mem_of_getElem? (i := 520) (by decide +kernel)⟩
theorem lw_p9 : lw_okq (⟨"ChitWright", "moneyAt", "(I)LChitWright$Money;"⟩, 18) := ⟨⟨by decide +kernel, by decide +kernel⟩, List.mem_of_getElem? (i := 29) (by decide +kernel), List.mem_of_getElem? (i := 523) (by decide +kernel), List.mem_of_getElem? (i := 524) (by decide +kernel)⟩
theorem lw_p10 : lw_okq (⟨"ChitWright", "thisYear", "()I"⟩, 18) := ⟨⟨by decide +kernel, by decide +kernel⟩, List.mem_of_getElem? (i := 29) (by decide +kernel), List.mem_of_getElem? (i := 550) (by decide +kernel), List.mem_of_getElem? (i := 551) (by decide +kernel)⟩
theorem lw_p11 : lw_okq (⟨"ChitWright", "closeYear", "(I)V"⟩, 18) := ⟨⟨by decide +kernel, by decide +kernel⟩, List.mem_of_getElem? (i := 29) (by decide +kernel), List.mem_of_getElem? (i := 554) (by decide +kernel), List.mem_of_getElem? (i := 555) (by decide +kernel)⟩
theorem lw_p12 : lw_okq (⟨"ChitWright", "carryOver", "(LChitWright$Purse;LChitWright$Purse;)V"⟩, 18) := ⟨⟨by decide +kernel, by decide +kernel⟩, List.mem_of_getElem? (i := 29) (by decide +kernel), List.mem_of_getElem? (i := 569) (by decide +kernel), List.mem_of_getElem? (i := 570) (by decide +kernel)⟩
theorem lw_p13 : lw_okq (⟨"ChitWright", "requestAt", "(I)LChitWright$Request;"⟩, 18) := ⟨⟨by decide +kernel, by decide +kernel⟩, List.mem_of_getElem? (i := 29) (by decide +kernel), List.mem_of_getElem? (i := 641) (by decide +kernel), List.mem_of_getElem? (i := 642) (by decide +kernel)⟩
theorem lw_p14 : lw_okq (⟨"ChitWright", "startChain", "(LChitWright$Request;J)V"⟩, 18) := ⟨⟨by decide +kernel, by decide +kernel⟩, List.mem_of_getElem? (i := 29) (by decide +kernel), List.mem_of_getElem? (i := 711) (by decide +kernel), List.mem_of_getElem? (i := 712) (by decide +kernel)⟩
theorem lw_p15 : lw_okq (⟨"ChitWright", "approverFor", "(LChitWright$Request;LChitWright$Person;)LChitWright$Person;"⟩, 18) := ⟨⟨by decide +kernel, by decide +kernel⟩, List.mem_of_getElem? (i := 29) (by decide +kernel), List.mem_of_getElem? (i := 736) (by decide +kernel), List.mem_of_getElem? (i := 737) (by decide +kernel)⟩
def lw_privs_1 : List (MethodName × Nat) := [(⟨"java/util/ArrayList", "add", "(Ljava/lang/Object;[Ljava/lang/Object;I)V"⟩, 3), (⟨"java/util/ArrayList", "grow", "()[Ljava/lang/Object;"⟩, 3), (⟨"java/util/ArrayList", "grow", "(I)[Ljava/lang/Object;"⟩, 3), (⟨"ChitWright", "post", "(IJ)V"⟩, 18), (⟨"java/lang/Throwable", "fillInStackTrace", "(I)Ljava/lang/Throwable;"⟩, 6), (⟨"ChitWright", "personAt", "(I)LChitWright$Person;"⟩, 18), (⟨"ChitWright", "purseAt", "(II)LChitWright$Purse;"⟩, 18), (⟨"ChitWright", "centreAt", "(I)LChitWright$Centre;"⟩, 18), (⟨"ChitWright", "supplierAt", "(I)LChitWright$Supplier;"⟩, 18), (⟨"ChitWright", "moneyAt", "(I)LChitWright$Money;"⟩, 18), (⟨"ChitWright", "thisYear", "()I"⟩, 18), (⟨"ChitWright", "closeYear", "(I)V"⟩, 18), (⟨"ChitWright", "carryOver", "(LChitWright$Purse;LChitWright$Purse;)V"⟩, 18), (⟨"ChitWright", "requestAt", "(I)LChitWright$Request;"⟩, 18), (⟨"ChitWright", "startChain", "(LChitWright$Request;J)V"⟩, 18), (⟨"ChitWright", "approverFor", "(LChitWright$Request;LChitWright$Person;)LChitWright$Person;"⟩, 18)]
theorem lw_r1 : ∀ q ∈ lw_privs_1, lw_okq q := List.forall_mem_cons.mpr ⟨lw_p0, List.forall_mem_cons.mpr ⟨lw_p1, List.forall_mem_cons.mpr ⟨lw_p2, List.forall_mem_cons.mpr ⟨lw_p3, List.forall_mem_cons.mpr ⟨lw_p4, List.forall_mem_cons.mpr ⟨lw_p5, List.forall_mem_cons.mpr ⟨lw_p6, List.forall_mem_cons.mpr ⟨lw_p7, List.forall_mem_cons.mpr ⟨lw_p8, List.forall_mem_cons.mpr ⟨lw_p9, List.forall_mem_cons.mpr ⟨lw_p10, List.forall_mem_cons.mpr ⟨lw_p11, List.forall_mem_cons.mpr ⟨lw_p12, List.forall_mem_cons.mpr ⟨lw_p13, List.forall_mem_cons.mpr ⟨lw_p14, List.forall_mem_cons.mpr ⟨lw_p15, fun _ h => absurd h List.not_mem_nil⟩⟩⟩⟩⟩⟩⟩⟩⟩⟩⟩⟩⟩⟩⟩⟩
theorem lw_p16 : lw_okq (⟨"ChitWright", "lookAgain", "(LChitWright$Line;)I"⟩, 18) := ⟨⟨by decide +kernel, by decide +kernel⟩, List.mem_of_getElem? (i := 29) (by decide +kernel), List.mem_of_getElem? (i := 784) (by decide +kernel), List.mem_of_getElem? (i := 785) (by decide +kernel)⟩
theorem lw_p17 : lw_okq (⟨"ChitWright", "book", "(LChitWright$Invoice;)V"⟩, 18) := ⟨⟨by decide +kernel, by decide +kernel⟩, List.mem_of_getElem? (i := 29) (by decide +kernel), List.mem_of_getElem? (i := 803) (by decide +kernel), List.mem_of_getElem? (i := 804) (by decide +kernel)⟩
theorem lw_p18 : lw_okq (⟨"ChitWright", "spend", "(LChitWright$Centre;J)V"⟩, 18) := ⟨⟨by decide +kernel, by decide +kernel⟩, List.mem_of_getElem? (i := 29) (by decide +kernel), List.mem_of_getElem? (i := 807) (by decide +kernel), List.mem_of_getElem? (i := 808) (by decide +kernel)⟩
theorem lw_p19 : lw_okq (⟨"ChitWright", "bookUnlessHeld", "(LChitWright$Invoice;)Z"⟩, 18) := ⟨⟨by decide +kernel, by decide +kernel⟩, List.mem_of_getElem? (i := 29) (by decide +kernel), List.mem_of_getElem? (i := 921) (by decide +kernel), List.mem_of_getElem? (i := 922) (by decide +kernel)⟩
theorem lw_p20 : lw_okq (⟨"ChitWright", "invoiceAt", "(I)LChitWright$Invoice;"⟩, 18) := ⟨⟨by decide +kernel, by decide +kernel⟩, List.mem_of_getElem? (i := 29) (by decide +kernel), List.mem_of_getElem? (i := 932) (by decide +kernel), List.mem_of_getElem? (i := 933) (by decide +kernel)⟩
theorem lw_p21 : lw_okq (⟨"ChitWright", "isToPay", "(LChitWright$Invoice;IZ)Z"⟩, 18) := ⟨⟨by decide +kernel, by decide +kernel⟩, List.mem_of_getElem? (i := 29) (by decide +kernel), List.mem_of_getElem? (i := 946) (by decide +kernel), List.mem_of_getElem? (i := 947) (by decide +kernel)⟩
theorem lw_p22 : lw_okq (⟨"ChitWright", "isInDiscountDays", "(LChitWright$Invoice;)Z"⟩, 18) := ⟨⟨by decide +kernel, by decide +kernel⟩, List.mem_of_getElem? (i := 29) (by decide +kernel), List.mem_of_getElem? (i := 950) (by decide +kernel), List.mem_of_getElem? (i := 951) (by decide +kernel)⟩
theorem lw_p23 : lw_okq (⟨"ChitWright", "pay", "(LChitWright$Invoice;)V"⟩, 18) := ⟨⟨by decide +kernel, by decide +kernel⟩, List.mem_of_getElem? (i := 29) (by decide +kernel), List.mem_of_getElem? (i := 954) (by decide +kernel), List.mem_of_getElem? (i := 955) (by decide +kernel)⟩
theorem lw_p24 : lw_okq (⟨"ChitWright", "entryAt", "(I)LChitWright$Entry;"⟩, 18) := ⟨⟨by decide +kernel, by decide +kernel⟩, List.mem_of_getElem? (i := 29) (by decide +kernel), List.mem_of_getElem? (i := 1061) (by decide +kernel), List.mem_of_getElem? (i := 1062) (by decide +kernel)⟩
theorem lw_p25 : lw_okq (⟨"ChitWright", "countOfKind", "(I)I"⟩, 18) := ⟨⟨by decide +kernel, by decide +kernel⟩, List.mem_of_getElem? (i := 29) (by decide +kernel), List.mem_of_getElem? (i := 1149) (by decide +kernel), List.mem_of_getElem? (i := 1150) (by decide +kernel)⟩
theorem lw_p26 : lw_okq (⟨"ChitWrightModel", "isPerson", "(I)Z"⟩, 66) := ⟨⟨by decide +kernel, by decide +kernel⟩, List.mem_of_getElem? (i := 1154) (by decide +kernel), List.mem_of_getElem? (i := 1368) (by decide +kernel), List.mem_of_getElem? (i := 1369) (by decide +kernel)⟩
theorem lw_p27 : lw_okq (⟨"ChitWrightModel", "holds", "(I)Z"⟩, 66) := ⟨⟨by decide +kernel, by decide +kernel⟩, List.mem_of_getElem? (i := 1154) (by decide +kernel), List.mem_of_getElem? (i := 1376) (by decide +kernel), List.mem_of_getElem? (i := 1377) (by decide +kernel)⟩
theorem lw_p28 : lw_okq (⟨"ChitWrightModel", "free", "(II)J"⟩, 66) := ⟨⟨by decide +kernel, by decide +kernel⟩, List.mem_of_getElem? (i := 1154) (by decide +kernel), List.mem_of_getElem? (i := 1406) (by decide +kernel), List.mem_of_getElem? (i := 1407) (by decide +kernel)⟩
theorem lw_p29 : lw_okq (⟨"ChitWrightModel", "closes", "()V"⟩, 66) := ⟨⟨by decide +kernel, by decide +kernel⟩, List.mem_of_getElem? (i := 1154) (by decide +kernel), List.mem_of_getElem? (i := 1434) (by decide +kernel), List.mem_of_getElem? (i := 1435) (by decide +kernel)⟩
theorem lw_p30 : lw_okq (⟨"ChitWrightModel", "yearNow", "()I"⟩, 66) := ⟨⟨by decide +kernel, by decide +kernel⟩, List.mem_of_getElem? (i := 1154) (by decide +kernel), List.mem_of_getElem? (i := 1438) (by decide +kernel), List.mem_of_getElem? (i := 1439) (by decide +kernel)⟩
theorem lw_p31 : lw_okq (⟨"ChitWrightModel", "bookedPieces", "(I)I"⟩, 66) := ⟨⟨by decide +kernel, by decide +kernel⟩, List.mem_of_getElem? (i := 1154) (by decide +kernel), List.mem_of_getElem? (i := 1442) (by decide +kernel), List.mem_of_getElem? (i := 1443) (by decide +kernel)⟩
def lw_privs_2 : List (MethodName × Nat) := [(⟨"ChitWright", "lookAgain", "(LChitWright$Line;)I"⟩, 18), (⟨"ChitWright", "book", "(LChitWright$Invoice;)V"⟩, 18), (⟨"ChitWright", "spend", "(LChitWright$Centre;J)V"⟩, 18), (⟨"ChitWright", "bookUnlessHeld", "(LChitWright$Invoice;)Z"⟩, 18), (⟨"ChitWright", "invoiceAt", "(I)LChitWright$Invoice;"⟩, 18), (⟨"ChitWright", "isToPay", "(LChitWright$Invoice;IZ)Z"⟩, 18), (⟨"ChitWright", "isInDiscountDays", "(LChitWright$Invoice;)Z"⟩, 18), (⟨"ChitWright", "pay", "(LChitWright$Invoice;)V"⟩, 18), (⟨"ChitWright", "entryAt", "(I)LChitWright$Entry;"⟩, 18), (⟨"ChitWright", "countOfKind", "(I)I"⟩, 18), (⟨"ChitWrightModel", "isPerson", "(I)Z"⟩, 66), (⟨"ChitWrightModel", "holds", "(I)Z"⟩, 66), (⟨"ChitWrightModel", "free", "(II)J"⟩, 66), (⟨"ChitWrightModel", "closes", "()V"⟩, 66), (⟨"ChitWrightModel", "yearNow", "()I"⟩, 66), (⟨"ChitWrightModel", "bookedPieces", "(I)I"⟩, 66)]
theorem lw_r2 : ∀ q ∈ lw_privs_2, lw_okq q := List.forall_mem_cons.mpr ⟨lw_p16, List.forall_mem_cons.mpr ⟨lw_p17, List.forall_mem_cons.mpr ⟨lw_p18, List.forall_mem_cons.mpr ⟨lw_p19, List.forall_mem_cons.mpr ⟨lw_p20, List.forall_mem_cons.mpr ⟨lw_p21, List.forall_mem_cons.mpr ⟨lw_p22, List.forall_mem_cons.mpr ⟨lw_p23, List.forall_mem_cons.mpr ⟨lw_p24, List.forall_mem_cons.mpr ⟨lw_p25, List.forall_mem_cons.mpr ⟨lw_p26, List.forall_mem_cons.mpr ⟨lw_p27, List.forall_mem_cons.mpr ⟨lw_p28, List.forall_mem_cons.mpr ⟨lw_p29, List.forall_mem_cons.mpr ⟨lw_p30, List.forall_mem_cons.mpr ⟨lw_p31, fun _ h => absurd h List.not_mem_nil⟩⟩⟩⟩⟩⟩⟩⟩⟩⟩⟩⟩⟩⟩⟩⟩
theorem lw_p32 : lw_okq (⟨"ChitWrightModel", "isRequest", "(I)Z"⟩, 66) := ⟨⟨by decide +kernel, by decide +kernel⟩, List.mem_of_getElem? (i := 1154) (by decide +kernel), List.mem_of_getElem? (i := 1455) (by decide +kernel), List.mem_of_getElem? (i := 1456) (by decide +kernel)⟩
theorem lw_p33 : lw_okq (⟨"ChitWrightModel", "total", "(I)J"⟩, 66) := ⟨⟨by decide +kernel, by decide +kernel⟩, List.mem_of_getElem? (i := 1154) (by decide +kernel), List.mem_of_getElem? (i := 1464) (by decide +kernel), List.mem_of_getElem? (i := 1465) (by decide +kernel)⟩
theorem lw_p34 : lw_okq (⟨"ChitWrightModel", "may", "(IIJ)Z"⟩, 66) := ⟨⟨by decide +kernel, by decide +kernel⟩, List.mem_of_getElem? (i := 1154) (by decide +kernel), List.mem_of_getElem? (i := 1468) (by decide +kernel), List.mem_of_getElem? (i := 1469) (by decide +kernel)⟩
theorem lw_p35 : lw_okq (⟨"ChitWrightModel", "commits", "(IJ)V"⟩, 66) := ⟨⟨by decide +kernel, by decide +kernel⟩, List.mem_of_getElem? (i := 1154) (by decide +kernel), List.mem_of_getElem? (i := 1472) (by decide +kernel), List.mem_of_getElem? (i := 1473) (by decide +kernel)⟩
theorem lw_p36 : lw_okq (⟨"ChitWrightModel", "laysChain", "(IJ)V"⟩, 66) := ⟨⟨by decide +kernel, by decide +kernel⟩, List.mem_of_getElem? (i := 1154) (by decide +kernel), List.mem_of_getElem? (i := 1476) (by decide +kernel), List.mem_of_getElem? (i := 1477) (by decide +kernel)⟩
theorem lw_p37 : lw_okq (⟨"ChitWrightModel", "left", "(I)I"⟩, 66) := ⟨⟨by decide +kernel, by decide +kernel⟩, List.mem_of_getElem? (i := 1154) (by decide +kernel), List.mem_of_getElem? (i := 1481) (by decide +kernel), List.mem_of_getElem? (i := 1482) (by decide +kernel)⟩
theorem lw_p38 : lw_okq (⟨"ChitWrightModel", "can", "(II)Z"⟩, 66) := ⟨⟨by decide +kernel, by decide +kernel⟩, List.mem_of_getElem? (i := 1154) (by decide +kernel), List.mem_of_getElem? (i := 1489) (by decide +kernel), List.mem_of_getElem? (i := 1490) (by decide +kernel)⟩
theorem lw_p39 : lw_okq (⟨"ChitWrightModel", "byTurn", "(I)I"⟩, 66) := ⟨⟨by decide +kernel, by decide +kernel⟩, List.mem_of_getElem? (i := 1154) (by decide +kernel), List.mem_of_getElem? (i := 1493) (by decide +kernel), List.mem_of_getElem? (i := 1494) (by decide +kernel)⟩
theorem lw_p40 : lw_okq (⟨"ChitWrightModel", "approver", "(II)I"⟩, 66) := ⟨⟨by decide +kernel, by decide +kernel⟩, List.mem_of_getElem? (i := 1154) (by decide +kernel), List.mem_of_getElem? (i := 1497) (by decide +kernel), List.mem_of_getElem? (i := 1498) (by decide +kernel)⟩
theorem lw_p41 : lw_okq (⟨"ChitWrightModel", "byController", "(I)I"⟩, 66) := ⟨⟨by decide +kernel, by decide +kernel⟩, List.mem_of_getElem? (i := 1154) (by decide +kernel), List.mem_of_getElem? (i := 1501) (by decide +kernel), List.mem_of_getElem? (i := 1502) (by decide +kernel)⟩
theorem lw_p42 : lw_okq (⟨"ChitWrightModel", "frees", "(IJ)J"⟩, 66) := ⟨⟨by decide +kernel, by decide +kernel⟩, List.mem_of_getElem? (i := 1154) (by decide +kernel), List.mem_of_getElem? (i := 1509) (by decide +kernel), List.mem_of_getElem? (i := 1510) (by decide +kernel)⟩
theorem lw_p43 : lw_okq (⟨"ChitWrightModel", "isLine", "(II)Z"⟩, 66) := ⟨⟨by decide +kernel, by decide +kernel⟩, List.mem_of_getElem? (i := 1154) (by decide +kernel), List.mem_of_getElem? (i := 1517) (by decide +kernel), List.mem_of_getElem? (i := 1518) (by decide +kernel)⟩
theorem lw_p44 : lw_okq (⟨"ChitWrightModel", "looksAgain", "(I)I"⟩, 66) := ⟨⟨by decide +kernel, by decide +kernel⟩, List.mem_of_getElem? (i := 1154) (by decide +kernel), List.mem_of_getElem? (i := 1529) (by decide +kernel), List.mem_of_getElem? (i := 1530) (by decide +kernel)⟩
theorem lw_p45 : lw_okq (⟨"ChitWrightModel", "why", "(I)I"⟩, 66) := ⟨⟨by decide +kernel, by decide +kernel⟩, List.mem_of_getElem? (i := 1154) (by decide +kernel), List.mem_of_getElem? (i := 1533) (by decide +kernel), List.mem_of_getElem? (i := 1534) (by decide +kernel)⟩
theorem lw_p46 : lw_okq (⟨"ChitWrightModel", "books", "(I)V"⟩, 66) := ⟨⟨by decide +kernel, by decide +kernel⟩, List.mem_of_getElem? (i := 1154) (by decide +kernel), List.mem_of_getElem? (i := 1538) (by decide +kernel), List.mem_of_getElem? (i := 1539) (by decide +kernel)⟩
theorem lw_p47 : lw_okq (⟨"ChitWrightModel", "canChange", "(III)Z"⟩, 66) := ⟨⟨by decide +kernel, by decide +kernel⟩, List.mem_of_getElem? (i := 1154) (by decide +kernel), List.mem_of_getElem? (i := 1546) (by decide +kernel), List.mem_of_getElem? (i := 1547) (by decide +kernel)⟩
def lw_privs_3 : List (MethodName × Nat) := [(⟨"ChitWrightModel", "isRequest", "(I)Z"⟩, 66), (⟨"ChitWrightModel", "total", "(I)J"⟩, 66), (⟨"ChitWrightModel", "may", "(IIJ)Z"⟩, 66), (⟨"ChitWrightModel", "commits", "(IJ)V"⟩, 66), (⟨"ChitWrightModel", "laysChain", "(IJ)V"⟩, 66), (⟨"ChitWrightModel", "left", "(I)I"⟩, 66), (⟨"ChitWrightModel", "can", "(II)Z"⟩, 66), (⟨"ChitWrightModel", "byTurn", "(I)I"⟩, 66), (⟨"ChitWrightModel", "approver", "(II)I"⟩, 66), (⟨"ChitWrightModel", "byController", "(I)I"⟩, 66), (⟨"ChitWrightModel", "frees", "(IJ)J"⟩, 66), (⟨"ChitWrightModel", "isLine", "(II)Z"⟩, 66), (⟨"ChitWrightModel", "looksAgain", "(I)I"⟩, 66), (⟨"ChitWrightModel", "why", "(I)I"⟩, 66), (⟨"ChitWrightModel", "books", "(I)V"⟩, 66), (⟨"ChitWrightModel", "canChange", "(III)Z"⟩, 66)]
theorem lw_r3 : ∀ q ∈ lw_privs_3, lw_okq q := List.forall_mem_cons.mpr ⟨lw_p32, List.forall_mem_cons.mpr ⟨lw_p33, List.forall_mem_cons.mpr ⟨lw_p34, List.forall_mem_cons.mpr ⟨lw_p35, List.forall_mem_cons.mpr ⟨lw_p36, List.forall_mem_cons.mpr ⟨lw_p37, List.forall_mem_cons.mpr ⟨lw_p38, List.forall_mem_cons.mpr ⟨lw_p39, List.forall_mem_cons.mpr ⟨lw_p40, List.forall_mem_cons.mpr ⟨lw_p41, List.forall_mem_cons.mpr ⟨lw_p42, List.forall_mem_cons.mpr ⟨lw_p43, List.forall_mem_cons.mpr ⟨lw_p44, List.forall_mem_cons.mpr ⟨lw_p45, List.forall_mem_cons.mpr ⟨lw_p46, List.forall_mem_cons.mpr ⟨lw_p47, fun _ h => absurd h List.not_mem_nil⟩⟩⟩⟩⟩⟩⟩⟩⟩⟩⟩⟩⟩⟩⟩⟩
theorem lw_p48 : lw_okq (⟨"ChitWrightModel", "heldPieces", "(I)I"⟩, 66) := ⟨⟨by decide +kernel, by decide +kernel⟩, List.mem_of_getElem? (i := 1154) (by decide +kernel), List.mem_of_getElem? (i := 1550) (by decide +kernel), List.mem_of_getElem? (i := 1551) (by decide +kernel)⟩
theorem lw_p49 : lw_okq (⟨"ChitWrightModel", "isInvoice", "(I)Z"⟩, 66) := ⟨⟨by decide +kernel, by decide +kernel⟩, List.mem_of_getElem? (i := 1154) (by decide +kernel), List.mem_of_getElem? (i := 1568) (by decide +kernel), List.mem_of_getElem? (i := 1569) (by decide +kernel)⟩
theorem lw_p50 : lw_okq (⟨"ChitWrightModel", "isEarly", "(I)Z"⟩, 66) := ⟨⟨by decide +kernel, by decide +kernel⟩, List.mem_of_getElem? (i := 1154) (by decide +kernel), List.mem_of_getElem? (i := 1576) (by decide +kernel), List.mem_of_getElem? (i := 1577) (by decide +kernel)⟩
theorem lw_p51 : lw_okq (⟨"ChitWrightModel", "pays", "(I)V"⟩, 66) := ⟨⟨by decide +kernel, by decide +kernel⟩, List.mem_of_getElem? (i := 1154) (by decide +kernel), List.mem_of_getElem? (i := 1580) (by decide +kernel), List.mem_of_getElem? (i := 1581) (by decide +kernel)⟩
theorem lw_p52 : lw_okq (⟨"ChitWrightModel", "isIn", "(II)Z"⟩, 66) := ⟨⟨by decide +kernel, by decide +kernel⟩, List.mem_of_getElem? (i := 1154) (by decide +kernel), List.mem_of_getElem? (i := 1675) (by decide +kernel), List.mem_of_getElem? (i := 1676) (by decide +kernel)⟩
def lw_privs_4 : List (MethodName × Nat) := [(⟨"ChitWrightModel", "heldPieces", "(I)I"⟩, 66), (⟨"ChitWrightModel", "isInvoice", "(I)Z"⟩, 66), (⟨"ChitWrightModel", "isEarly", "(I)Z"⟩, 66), (⟨"ChitWrightModel", "pays", "(I)V"⟩, 66), (⟨"ChitWrightModel", "isIn", "(II)Z"⟩, 66)]
theorem lw_r4 : ∀ q ∈ lw_privs_4, lw_okq q := List.forall_mem_cons.mpr ⟨lw_p48, List.forall_mem_cons.mpr ⟨lw_p49, List.forall_mem_cons.mpr ⟨lw_p50, List.forall_mem_cons.mpr ⟨lw_p51, List.forall_mem_cons.mpr ⟨lw_p52, fun _ h => absurd h List.not_mem_nil⟩⟩⟩⟩⟩
def lw_privs : List (MethodName × Nat) := lw_privs_1 ++ (lw_privs_2 ++ (lw_privs_3 ++ (lw_privs_4)))
def lw_tbl : List Cond := k2_sels lw_privs ++ tables_1
theorem lw_privs_ok : ∀ q ∈ lw_privs, lw_okq q := by
  show ∀ q ∈ lw_privs_1 ++ (lw_privs_2 ++ (lw_privs_3 ++ (lw_privs_4))), lw_okq q
  exact List.forall_mem_append.mpr ⟨lw_r1, List.forall_mem_append.mpr ⟨lw_r2, List.forall_mem_append.mpr ⟨lw_r3, lw_r4⟩⟩⟩

def RX0 : String := "ChitWright$Centre"
def TX0 : u_T := fun k => match k with
  | 0 => ("ChitWright$Centre", "purses", "Ljava/util/ArrayList;", true)
  | _ => ("ChitWright$Centre", "isSoft", "Z", false)
def tyX0 : Nat → FieldType := fun k => match k with
  | 0 => .object "java/util/ArrayList"
  | _ => .boolean
abbrev wsX00 : List Cond := u_ws RX0 TX0 2
theorem nmX0 : ∀ a, a < 2 → ∀ b, b < 2 → a ≠ b → (TX0 a).2.1 ≠ (TX0 b).2.1 := by decide +kernel
theorem tyX0_ok : ∀ k, k < 2 → parseFieldDescriptor (TX0 k).2.2.1 = some (tyX0 k) := by decide +kernel
abbrev cX0_init : ByteArray := prog_2_method_1_code
def yX0_init : MethodName := ⟨RX0, "<init>", "()V"⟩
def RX1 : String := "ChitWright$Entry"
def TX1 : u_T := fun k => match k with
  | 0 => ("ChitWright$Entry", "holder", "LChitWright$Person;", true)
  | 1 => ("ChitWright$Entry", "amount", "I", true)
  | _ => ("ChitWright$Entry", "isDone", "Z", false)
def tyX1 : Nat → FieldType := fun k => match k with
  | 0 => .object "ChitWright$Person"
  | 1 => .int
  | _ => .boolean
abbrev wsX10 : List Cond := u_ws RX1 TX1 3
theorem nmX1 : ∀ a, a < 3 → ∀ b, b < 3 → a ≠ b → (TX1 a).2.1 ≠ (TX1 b).2.1 := by decide +kernel
theorem tyX1_ok : ∀ k, k < 3 → parseFieldDescriptor (TX1 k).2.2.1 = some (tyX1 k) := by decide +kernel
abbrev cX1_init : ByteArray := prog_3_method_1_code
def yX1_init : MethodName := ⟨RX1, "<init>", "(LChitWright$Person;I)V"⟩
def RX2 : String := "ChitWright$Invoice"
def TX2 : u_T := fun k => match k with
  | 0 => ("ChitWright$Invoice", "request", "LChitWright$Request;", true)
  | 1 => ("ChitWright$Invoice", "line", "LChitWright$Line;", true)
  | 2 => ("ChitWright$Invoice", "supplier", "LChitWright$Supplier;", true)
  | 3 => ("ChitWright$Invoice", "pieces", "I", true)
  | 4 => ("ChitWright$Invoice", "price", "I", true)
  | 5 => ("ChitWright$Invoice", "net", "J", true)
  | 6 => ("ChitWright$Invoice", "state", "I", false)
  | 7 => ("ChitWright$Invoice", "wasLetGo", "Z", false)
  | 8 => ("ChitWright$Invoice", "isFromHome", "Z", false)
  | 9 => ("ChitWright$Invoice", "taxPercents", "I", false)
  | 10 => ("ChitWright$Invoice", "tax", "J", false)
  | 11 => ("ChitWright$Invoice", "cost", "J", false)
  | 12 => ("ChitWright$Invoice", "owed", "J", false)
  | 13 => ("ChitWright$Invoice", "bookedDay", "I", false)
  | 14 => ("ChitWright$Invoice", "dueDay", "I", false)
  | 15 => ("ChitWright$Invoice", "isStopped", "Z", false)
  | 16 => ("ChitWright$Invoice", "paid", "J", false)
  | _ => ("ChitWright$Invoice", "discount", "J", false)
def tyX2 : Nat → FieldType := fun k => match k with
  | 0 => .object "ChitWright$Request"
  | 1 => .object "ChitWright$Line"
  | 2 => .object "ChitWright$Supplier"
  | 3 => .int
  | 4 => .int
  | 5 => .long
  | 6 => .int
  | 7 => .boolean
  | 8 => .boolean
  | 9 => .int
  | 10 => .long
  | 11 => .long
  | 12 => .long
  | 13 => .int
  | 14 => .int
  | 15 => .boolean
  | 16 => .long
  | _ => .long
abbrev wsX20 : List Cond := u_ws RX2 TX2 18
theorem nmX2 : ∀ a, a < 18 → ∀ b, b < 18 → a ≠ b → (TX2 a).2.1 ≠ (TX2 b).2.1 := by decide +kernel
theorem tyX2_ok : ∀ k, k < 18 → parseFieldDescriptor (TX2 k).2.2.1 = some (tyX2 k) := by decide +kernel
abbrev cX2_init : ByteArray := prog_4_method_1_code
def yX2_init : MethodName := ⟨RX2, "<init>", "(LChitWright$Request;LChitWright$Line;LChitWright$Supplier;II)V"⟩
abbrev cX2_orderedValue : ByteArray := prog_4_method_2_code
def yX2_orderedValue : MethodName := ⟨RX2, "orderedValue", "()J"⟩
abbrev cX2_reasons : ByteArray := prog_4_method_3_code
def yX2_reasons : MethodName := ⟨RX2, "reasons", "()I"⟩
abbrev cX2_isTooDear : ByteArray := prog_4_method_4_code
def yX2_isTooDear : MethodName := ⟨RX2, "isTooDear", "()Z"⟩
abbrev cX2_owedInMoney : ByteArray := prog_4_method_5_code
def yX2_owedInMoney : MethodName := ⟨RX2, "owedInMoney", "()J"⟩
def RX3 : String := "ChitWright$Line"
def TX3 : u_T := fun k => match k with
  | 0 => ("ChitWright$Line", "isService", "Z", true)
  | 1 => ("ChitWright$Line", "price", "I", true)
  | 2 => ("ChitWright$Line", "quantity", "I", false)
  | 3 => ("ChitWright$Line", "received", "I", false)
  | 4 => ("ChitWright$Line", "bookedPieces", "I", false)
  | _ => ("ChitWright$Line", "heldPieces", "I", false)
def tyX3 : Nat → FieldType := fun k => match k with
  | 0 => .boolean
  | 1 => .int
  | 2 => .int
  | 3 => .int
  | 4 => .int
  | _ => .int
abbrev wsX30 : List Cond := u_ws RX3 TX3 6
theorem nmX3 : ∀ a, a < 6 → ∀ b, b < 6 → a ≠ b → (TX3 a).2.1 ≠ (TX3 b).2.1 := by decide +kernel
theorem tyX3_ok : ∀ k, k < 6 → parseFieldDescriptor (TX3 k).2.2.1 = some (tyX3 k) := by decide +kernel
abbrev cX3_init : ByteArray := prog_5_method_1_code
def yX3_init : MethodName := ⟨RX3, "<init>", "(ZII)V"⟩
def RX4 : String := "ChitWright$Money"
def TX4 : u_T := fun k => match k with
  | _ => ("ChitWright$Money", "perThousand", "I", false)
def tyX4 : Nat → FieldType := fun k => match k with
  | _ => .int
abbrev wsX40 : List Cond := u_ws RX4 TX4 1
theorem nmX4 : ∀ a, a < 1 → ∀ b, b < 1 → a ≠ b → (TX4 a).2.1 ≠ (TX4 b).2.1 := by decide +kernel
theorem tyX4_ok : ∀ k, k < 1 → parseFieldDescriptor (TX4 k).2.2.1 = some (tyX4 k) := by decide +kernel
abbrev cX4_init : ByteArray := prog_6_method_1_code
def yX4_init : MethodName := ⟨RX4, "<init>", "()V"⟩
def RX5 : String := "ChitWright$Person"
def TX5 : u_T := fun k => match k with
  | 0 => ("ChitWright$Person", "number", "I", true)
  | 1 => ("ChitWright$Person", "boss", "LChitWright$Person;", true)
  | 2 => ("ChitWright$Person", "limit", "I", true)
  | 3 => ("ChitWright$Person", "awayUntil", "I", false)
  | 4 => ("ChitWright$Person", "substitute", "LChitWright$Person;", false)
  | 5 => ("ChitWright$Person", "owed", "J", false)
  | _ => ("ChitWright$Person", "advances", "J", false)
def tyX5 : Nat → FieldType := fun k => match k with
  | 0 => .int
  | 1 => .object "ChitWright$Person"
  | 2 => .int
  | 3 => .int
  | 4 => .object "ChitWright$Person"
  | 5 => .long
  | _ => .long
abbrev wsX50 : List Cond := u_ws RX5 TX5 7
theorem nmX5 : ∀ a, a < 7 → ∀ b, b < 7 → a ≠ b → (TX5 a).2.1 ≠ (TX5 b).2.1 := by decide +kernel
theorem tyX5_ok : ∀ k, k < 7 → parseFieldDescriptor (TX5 k).2.2.1 = some (tyX5 k) := by decide +kernel
abbrev cX5_init : ByteArray := prog_7_method_1_code
def yX5_init : MethodName := ⟨RX5, "<init>", "(ILChitWright$Person;I)V"⟩
def RX6 : String := "ChitWright$Purse"
def TX6 : u_T := fun k => match k with
  | 0 => ("ChitWright$Purse", "budgeted", "J", false)
  | 1 => ("ChitWright$Purse", "committed", "J", false)
  | _ => ("ChitWright$Purse", "spent", "J", false)
def tyX6 : Nat → FieldType := fun k => match k with
  | 0 => .long
  | 1 => .long
  | _ => .long
abbrev wsX60 : List Cond := u_ws RX6 TX6 3
theorem nmX6 : ∀ a, a < 3 → ∀ b, b < 3 → a ≠ b → (TX6 a).2.1 ≠ (TX6 b).2.1 := by decide +kernel
theorem tyX6_ok : ∀ k, k < 3 → parseFieldDescriptor (TX6 k).2.2.1 = some (tyX6 k) := by decide +kernel
abbrev cX6_init : ByteArray := prog_8_method_1_code
def yX6_init : MethodName := ⟨RX6, "<init>", "()V"⟩
abbrev cX6_free : ByteArray := prog_8_method_2_code
def yX6_free : MethodName := ⟨RX6, "free", "()J"⟩
def RX7 : String := "ChitWright$Request"
def TX7 : u_T := fun k => match k with
  | 0 => ("ChitWright$Request", "asker", "LChitWright$Person;", true)
  | 1 => ("ChitWright$Request", "centre", "LChitWright$Centre;", true)
  | 2 => ("ChitWright$Request", "lines", "Ljava/util/ArrayList;", true)
  | 3 => ("ChitWright$Request", "state", "I", false)
  | 4 => ("ChitWright$Request", "year", "I", false)
  | 5 => ("ChitWright$Request", "committed", "J", false)
  | 6 => ("ChitWright$Request", "turn", "LChitWright$Person;", false)
  | 7 => ("ChitWright$Request", "extra", "LChitWright$Person;", false)
  | 8 => ("ChitWright$Request", "supplier", "LChitWright$Supplier;", false)
  | _ => ("ChitWright$Request", "orderedTotal", "J", false)
def tyX7 : Nat → FieldType := fun k => match k with
  | 0 => .object "ChitWright$Person"
  | 1 => .object "ChitWright$Centre"
  | 2 => .object "java/util/ArrayList"
  | 3 => .int
  | 4 => .int
  | 5 => .long
  | 6 => .object "ChitWright$Person"
  | 7 => .object "ChitWright$Person"
  | 8 => .object "ChitWright$Supplier"
  | _ => .long
abbrev wsX70 : List Cond := u_ws RX7 TX7 10
theorem nmX7 : ∀ a, a < 10 → ∀ b, b < 10 → a ≠ b → (TX7 a).2.1 ≠ (TX7 b).2.1 := by decide +kernel
theorem tyX7_ok : ∀ k, k < 10 → parseFieldDescriptor (TX7 k).2.2.1 = some (tyX7 k) := by decide +kernel
abbrev cX7_init : ByteArray := prog_9_method_1_code
def yX7_init : MethodName := ⟨RX7, "<init>", "(LChitWright$Person;LChitWright$Centre;)V"⟩
abbrev cX7_total : ByteArray := prog_9_method_2_code
def yX7_total : MethodName := ⟨RX7, "total", "()J"⟩
abbrev cX7_isCommitting : ByteArray := prog_9_method_3_code
def yX7_isCommitting : MethodName := ⟨RX7, "isCommitting", "()Z"⟩
abbrev cX7_hasHeldInvoices : ByteArray := prog_9_method_4_code
def yX7_hasHeldInvoices : MethodName := ⟨RX7, "hasHeldInvoices", "()Z"⟩
abbrev cX7_receivedUnbooked : ByteArray := prog_9_method_5_code
def yX7_receivedUnbooked : MethodName := ⟨RX7, "receivedUnbooked", "()J"⟩
def RX8 : String := "ChitWright$Supplier"
def TX8 : u_T := fun k => match k with
  | 0 => ("ChitWright$Supplier", "number", "I", true)
  | 1 => ("ChitWright$Supplier", "money", "LChitWright$Money;", false)
  | 2 => ("ChitWright$Supplier", "country", "I", false)
  | 3 => ("ChitWright$Supplier", "terms", "I", false)
  | 4 => ("ChitWright$Supplier", "discount", "I", false)
  | _ => ("ChitWright$Supplier", "discountDays", "I", false)
def tyX8 : Nat → FieldType := fun k => match k with
  | 0 => .int
  | 1 => .object "ChitWright$Money"
  | 2 => .int
  | 3 => .int
  | 4 => .int
  | _ => .int
abbrev wsX80 : List Cond := u_ws RX8 TX8 6
theorem nmX8 : ∀ a, a < 6 → ∀ b, b < 6 → a ≠ b → (TX8 a).2.1 ≠ (TX8 b).2.1 := by decide +kernel
theorem tyX8_ok : ∀ k, k < 6 → parseFieldDescriptor (TX8 k).2.2.1 = some (tyX8 k) := by decide +kernel
abbrev cX8_init : ByteArray := prog_10_method_1_code
def yX8_init : MethodName := ⟨RX8, "<init>", "(ILChitWright$Money;)V"⟩
def RX9 : String := "ChitWright$Trip"
def TX9 : u_T := fun k => match k with
  | _ => ("ChitWright$Trip", "cost", "J", true)
def tyX9 : Nat → FieldType := fun k => match k with
  | _ => .long
abbrev wsX90 : List Cond := u_ws RX9 TX9 1
theorem nmX9 : ∀ a, a < 1 → ∀ b, b < 1 → a ≠ b → (TX9 a).2.1 ≠ (TX9 b).2.1 := by decide +kernel
theorem tyX9_ok : ∀ k, k < 1 → parseFieldDescriptor (TX9 k).2.2.1 = some (tyX9 k) := by decide +kernel
abbrev cX9_init : ByteArray := prog_11_method_1_code
def yX9_init : MethodName := ⟨RX9, "<init>", "(J)V"⟩
def RX10 : String := "ChitWright"
def TX10 : u_T := fun k => match k with
  | 0 => ("ChitWright", "persons", "Ljava/util/ArrayList;", true)
  | 1 => ("ChitWright", "centres", "Ljava/util/ArrayList;", true)
  | 2 => ("ChitWright", "moneys", "Ljava/util/ArrayList;", true)
  | 3 => ("ChitWright", "suppliers", "Ljava/util/ArrayList;", true)
  | 4 => ("ChitWright", "requests", "Ljava/util/ArrayList;", true)
  | 5 => ("ChitWright", "invoices", "Ljava/util/ArrayList;", true)
  | 6 => ("ChitWright", "trips", "Ljava/util/ArrayList;", true)
  | 7 => ("ChitWright", "entries", "Ljava/util/ArrayList;", true)
  | 8 => ("ChitWright", "placeRates", "[I", true)
  | 9 => ("ChitWright", "balances", "[J", true)
  | 10 => ("ChitWright", "theController", "LChitWright$Person;", false)
  | 11 => ("ChitWright", "today", "I", false)
  | 12 => ("ChitWright", "carriedPercents", "I", false)
  | 13 => ("ChitWright", "taxPercents", "I", false)
  | 14 => ("ChitWright", "backPercents", "I", false)
  | 15 => ("ChitWright", "toldOnCard", "J", false)
  | 16 => ("ChitWright", "sampleSeed", "I", false)
  | _ => ("ChitWright", "samplePercents", "I", false)
def tyX10 : Nat → FieldType := fun k => match k with
  | 0 => .object "java/util/ArrayList"
  | 1 => .object "java/util/ArrayList"
  | 2 => .object "java/util/ArrayList"
  | 3 => .object "java/util/ArrayList"
  | 4 => .object "java/util/ArrayList"
  | 5 => .object "java/util/ArrayList"
  | 6 => .object "java/util/ArrayList"
  | 7 => .object "java/util/ArrayList"
  | 8 => .array .int
  | 9 => .array .long
  | 10 => .object "ChitWright$Person"
  | 11 => .int
  | 12 => .int
  | 13 => .int
  | 14 => .int
  | 15 => .long
  | 16 => .int
  | _ => .int
abbrev wsX100 : List Cond := u_ws RX10 TX10 18
theorem nmX10 : ∀ a, a < 18 → ∀ b, b < 18 → a ≠ b → (TX10 a).2.1 ≠ (TX10 b).2.1 := by decide +kernel
theorem tyX10_ok : ∀ k, k < 18 → parseFieldDescriptor (TX10 k).2.2.1 = some (tyX10 k) := by decide +kernel
abbrev cX10_init : ByteArray := prog_1_method_1_code
def yX10_init : MethodName := ⟨RX10, "<init>", "()V"⟩
abbrev cX10_person : ByteArray := prog_1_method_2_code
def yX10_person : MethodName := ⟨RX10, "person", "(II)I"⟩
abbrev cX10_absent : ByteArray := prog_1_method_3_code
def yX10_absent : MethodName := ⟨RX10, "absent", "(III)V"⟩
abbrev cX10_controller : ByteArray := prog_1_method_4_code
def yX10_controller : MethodName := ⟨RX10, "controller", "(I)I"⟩
abbrev cX10_budget : ByteArray := prog_1_method_5_code
def yX10_budget : MethodName := ⟨RX10, "budget", "(III)J"⟩
abbrev cX10_transfer : ByteArray := prog_1_method_6_code
def yX10_transfer : MethodName := ⟨RX10, "transfer", "(IIII)J"⟩
abbrev cX10_soft : ByteArray := prog_1_method_7_code
def yX10_soft : MethodName := ⟨RX10, "soft", "(IZ)Z"⟩
abbrev cX10_carried : ByteArray := prog_1_method_8_code
def yX10_carried : MethodName := ⟨RX10, "carried", "(I)I"⟩
abbrev cX10_supplier : ByteArray := prog_1_method_9_code
def yX10_supplier : MethodName := ⟨RX10, "supplier", "(IIIIII)V"⟩
abbrev cX10_rate : ByteArray := prog_1_method_10_code
def yX10_rate : MethodName := ⟨RX10, "rate", "(II)I"⟩
abbrev cX10_taxes : ByteArray := prog_1_method_11_code
def yX10_taxes : MethodName := ⟨RX10, "taxes", "(II)V"⟩
abbrev cX10_pass : ByteArray := prog_1_method_12_code
def yX10_pass : MethodName := ⟨RX10, "pass", "(I)I"⟩
abbrev cX10_request : ByteArray := prog_1_method_13_code
def yX10_request : MethodName := ⟨RX10, "request", "(II)I"⟩
abbrev cX10_line : ByteArray := prog_1_method_14_code
def yX10_line : MethodName := ⟨RX10, "line", "(IZII)I"⟩
abbrev cX10_send : ByteArray := prog_1_method_15_code
def yX10_send : MethodName := ⟨RX10, "send", "(I)I"⟩
abbrev cX10_approve : ByteArray := prog_1_method_16_code
def yX10_approve : MethodName := ⟨RX10, "approve", "(II)I"⟩
abbrev cX10_refuse : ByteArray := prog_1_method_17_code
def yX10_refuse : MethodName := ⟨RX10, "refuse", "(II)V"⟩
abbrev cX10_edit : ByteArray := prog_1_method_18_code
def yX10_edit : MethodName := ⟨RX10, "edit", "(III)I"⟩
abbrev cX10_order : ByteArray := prog_1_method_19_code
def yX10_order : MethodName := ⟨RX10, "order", "(II)V"⟩
abbrev cX10_receive : ByteArray := prog_1_method_20_code
def yX10_receive : MethodName := ⟨RX10, "receive", "(III)I"⟩
abbrev cX10_change : ByteArray := prog_1_method_21_code
def yX10_change : MethodName := ⟨RX10, "change", "(III)I"⟩
abbrev cX10_end : ByteArray := prog_1_method_22_code
def yX10_end : MethodName := ⟨RX10, "end", "(I)J"⟩
abbrev cX10_invoice : ByteArray := prog_1_method_23_code
def yX10_invoice : MethodName := ⟨RX10, "invoice", "(IIII)I"⟩
abbrev cX10_letGo : ByteArray := prog_1_method_24_code
def yX10_letGo : MethodName := ⟨RX10, "letGo", "(II)Z"⟩
abbrev cX10_run : ByteArray := prog_1_method_25_code
def yX10_run : MethodName := ⟨RX10, "run", "(IZ)I"⟩
abbrev cX10_bounce : ByteArray := prog_1_method_26_code
def yX10_bounce : MethodName := ⟨RX10, "bounce", "(I)J"⟩
abbrev cX10_goOn : ByteArray := prog_1_method_27_code
def yX10_goOn : MethodName := ⟨RX10, "goOn", "(I)V"⟩
abbrev cX10_place : ByteArray := prog_1_method_28_code
def yX10_place : MethodName := ⟨RX10, "place", "(II)I"⟩
abbrev cX10_trip : ByteArray := prog_1_method_29_code
def yX10_trip : MethodName := ⟨RX10, "trip", "(IIIIIII)I"⟩
abbrev cX10_advance : ByteArray := prog_1_method_30_code
def yX10_advance : MethodName := ⟨RX10, "advance", "(II)J"⟩
abbrev cX10_settle : ByteArray := prog_1_method_31_code
def yX10_settle : MethodName := ⟨RX10, "settle", "(I)J"⟩
abbrev cX10_card : ByteArray := prog_1_method_32_code
def yX10_card : MethodName := ⟨RX10, "card", "(II)I"⟩
abbrev cX10_tell : ByteArray := prog_1_method_33_code
def yX10_tell : MethodName := ⟨RX10, "tell", "(III)J"⟩
abbrev cX10_payCard : ByteArray := prog_1_method_34_code
def yX10_payCard : MethodName := ⟨RX10, "payCard", "()J"⟩
abbrev cX10_sample : ByteArray := prog_1_method_35_code
def yX10_sample : MethodName := ⟨RX10, "sample", "(II)V"⟩
abbrev cX10_day : ByteArray := prog_1_method_36_code
def yX10_day : MethodName := ⟨RX10, "day", "()I"⟩
abbrev cX10_centre : ByteArray := prog_1_method_37_code
def yX10_centre : MethodName := ⟨RX10, "centre", "(III)J"⟩
abbrev cX10_requestOf : ByteArray := prog_1_method_38_code
def yX10_requestOf : MethodName := ⟨RX10, "requestOf", "(II)J"⟩
abbrev cX10_next : ByteArray := prog_1_method_39_code
def yX10_next : MethodName := ⟨RX10, "next", "(I)I"⟩
abbrev cX10_lineOf : ByteArray := prog_1_method_40_code
def yX10_lineOf : MethodName := ⟨RX10, "lineOf", "(III)I"⟩
abbrev cX10_invoiceOf : ByteArray := prog_1_method_41_code
def yX10_invoiceOf : MethodName := ⟨RX10, "invoiceOf", "(II)J"⟩
abbrev cX10_staff : ByteArray := prog_1_method_42_code
def yX10_staff : MethodName := ⟨RX10, "staff", "(II)J"⟩
abbrev cX10_tripCost : ByteArray := prog_1_method_43_code
def yX10_tripCost : MethodName := ⟨RX10, "tripCost", "(I)J"⟩
abbrev cX10_isTold : ByteArray := prog_1_method_44_code
def yX10_isTold : MethodName := ⟨RX10, "isTold", "(I)Z"⟩
abbrev cX10_account : ByteArray := prog_1_method_45_code
def yX10_account : MethodName := ⟨RX10, "account", "(I)J"⟩
abbrev cX10_isSampled : ByteArray := prog_1_method_46_code
def yX10_isSampled : MethodName := ⟨RX10, "isSampled", "(II)Z"⟩
abbrev cX10_requireNumber : ByteArray := prog_1_method_47_code
def yX10_requireNumber : MethodName := ⟨RX10, "requireNumber", "(II)V"⟩
abbrev cX10_requireRange : ByteArray := prog_1_method_48_code
def yX10_requireRange : MethodName := ⟨RX10, "requireRange", "(III)V"⟩
abbrev cX10_personAt : ByteArray := prog_1_method_49_code
def yX10_personAt : MethodName := ⟨RX10, "personAt", "(I)LChitWright$Person;"⟩
abbrev cX10_centreAt : ByteArray := prog_1_method_50_code
def yX10_centreAt : MethodName := ⟨RX10, "centreAt", "(I)LChitWright$Centre;"⟩
abbrev cX10_moneyAt : ByteArray := prog_1_method_51_code
def yX10_moneyAt : MethodName := ⟨RX10, "moneyAt", "(I)LChitWright$Money;"⟩
abbrev cX10_supplierAt : ByteArray := prog_1_method_52_code
def yX10_supplierAt : MethodName := ⟨RX10, "supplierAt", "(I)LChitWright$Supplier;"⟩
abbrev cX10_requestAt : ByteArray := prog_1_method_53_code
def yX10_requestAt : MethodName := ⟨RX10, "requestAt", "(I)LChitWright$Request;"⟩
abbrev cX10_lineAt : ByteArray := prog_1_method_54_code
def yX10_lineAt : MethodName := ⟨RX10, "lineAt", "(LChitWright$Request;I)LChitWright$Line;"⟩
abbrev cX10_invoiceAt : ByteArray := prog_1_method_55_code
def yX10_invoiceAt : MethodName := ⟨RX10, "invoiceAt", "(I)LChitWright$Invoice;"⟩
abbrev cX10_entryAt : ByteArray := prog_1_method_56_code
def yX10_entryAt : MethodName := ⟨RX10, "entryAt", "(I)LChitWright$Entry;"⟩
abbrev cX10_purseAt : ByteArray := prog_1_method_57_code
def yX10_purseAt : MethodName := ⟨RX10, "purseAt", "(II)LChitWright$Purse;"⟩
abbrev cX10_purseOf : ByteArray := prog_1_method_58_code
def yX10_purseOf : MethodName := ⟨RX10, "purseOf", "(LChitWright$Centre;I)LChitWright$Purse;"⟩
abbrev cX10_countOfKind : ByteArray := prog_1_method_59_code
def yX10_countOfKind : MethodName := ⟨RX10, "countOfKind", "(I)I"⟩
abbrev cX10_thisYear : ByteArray := prog_1_method_60_code
def yX10_thisYear : MethodName := ⟨RX10, "thisYear", "()I"⟩
abbrev cX10_requireFree : ByteArray := prog_1_method_61_code
def yX10_requireFree : MethodName := ⟨RX10, "requireFree", "(LChitWright$Centre;IJ)V"⟩
abbrev cX10_spend : ByteArray := prog_1_method_62_code
def yX10_spend : MethodName := ⟨RX10, "spend", "(LChitWright$Centre;J)V"⟩
abbrev cX10_commit : ByteArray := prog_1_method_63_code
def yX10_commit : MethodName := ⟨RX10, "commit", "(LChitWright$Request;J)V"⟩
abbrev cX10_release : ByteArray := prog_1_method_64_code
def yX10_release : MethodName := ⟨RX10, "release", "(LChitWright$Request;J)J"⟩
abbrev cX10_post : ByteArray := prog_1_method_65_code
def yX10_post : MethodName := ⟨RX10, "post", "(IJ)V"⟩
abbrev cX10_closeYear : ByteArray := prog_1_method_66_code
def yX10_closeYear : MethodName := ⟨RX10, "closeYear", "(I)V"⟩
abbrev cX10_accrue : ByteArray := prog_1_method_67_code
def yX10_accrue : MethodName := ⟨RX10, "accrue", "(LChitWright$Request;I)V"⟩
abbrev cX10_carryOver : ByteArray := prog_1_method_68_code
def yX10_carryOver : MethodName := ⟨RX10, "carryOver", "(LChitWright$Purse;LChitWright$Purse;)V"⟩
abbrev cX10_startChain : ByteArray := prog_1_method_69_code
def yX10_startChain : MethodName := ⟨RX10, "startChain", "(LChitWright$Request;J)V"⟩
abbrev cX10_bossAfter : ByteArray := prog_1_method_70_code
def yX10_bossAfter : MethodName := ⟨RX10, "bossAfter", "(LChitWright$Person;J)LChitWright$Person;"⟩
abbrev cX10_isAmongBosses : ByteArray := prog_1_method_71_code
def yX10_isAmongBosses : MethodName := ⟨RX10, "isAmongBosses", "(LChitWright$Request;LChitWright$Person;)Z"⟩
abbrev cX10_missingApprovals : ByteArray := prog_1_method_72_code
def yX10_missingApprovals : MethodName := ⟨RX10, "missingApprovals", "(LChitWright$Request;)I"⟩
abbrev cX10_waitOrApprove : ByteArray := prog_1_method_73_code
def yX10_waitOrApprove : MethodName := ⟨RX10, "waitOrApprove", "(LChitWright$Request;)I"⟩
abbrev cX10_approverFor : ByteArray := prog_1_method_74_code
def yX10_approverFor : MethodName := ⟨RX10, "approverFor", "(LChitWright$Request;LChitWright$Person;)LChitWright$Person;"⟩
abbrev cX10_lookAgain : ByteArray := prog_1_method_75_code
def yX10_lookAgain : MethodName := ⟨RX10, "lookAgain", "(LChitWright$Line;)I"⟩
abbrev cX10_bookUnlessHeld : ByteArray := prog_1_method_76_code
def yX10_bookUnlessHeld : MethodName := ⟨RX10, "bookUnlessHeld", "(LChitWright$Invoice;)Z"⟩
abbrev cX10_book : ByteArray := prog_1_method_77_code
def yX10_book : MethodName := ⟨RX10, "book", "(LChitWright$Invoice;)V"⟩
abbrev cX10_isToPay : ByteArray := prog_1_method_78_code
def yX10_isToPay : MethodName := ⟨RX10, "isToPay", "(LChitWright$Invoice;IZ)Z"⟩
abbrev cX10_isInDiscountDays : ByteArray := prog_1_method_79_code
def yX10_isInDiscountDays : MethodName := ⟨RX10, "isInDiscountDays", "(LChitWright$Invoice;)Z"⟩
abbrev cX10_pay : ByteArray := prog_1_method_80_code
def yX10_pay : MethodName := ⟨RX10, "pay", "(LChitWright$Invoice;)V"⟩
abbrev cX10_allowance : ByteArray := prog_1_method_81_code
def yX10_allowance : MethodName := ⟨RX10, "allowance", "(IIII)J"⟩
def RX11 : String := "ChitWrightModel"
def TX11 : u_T := fun k => match k with
  | 0 => ("ChitWrightModel", "thrown", "I", false)
  | 1 => ("ChitWrightModel", "day", "I", false)
  | 2 => ("ChitWrightModel", "accounts", "[J", true)
  | 3 => ("ChitWrightModel", "persons", "I", false)
  | 4 => ("ChitWrightModel", "bosses", "[I", true)
  | 5 => ("ChitWrightModel", "limits", "[I", true)
  | 6 => ("ChitWrightModel", "untils", "[I", true)
  | 7 => ("ChitWrightModel", "substitutes", "[I", true)
  | 8 => ("ChitWrightModel", "owedTo", "[J", true)
  | 9 => ("ChitWrightModel", "advances", "[J", true)
  | 10 => ("ChitWrightModel", "controller", "I", false)
  | 11 => ("ChitWrightModel", "money", "[J", true)
  | 12 => ("ChitWrightModel", "areSoft", "[Z", true)
  | 13 => ("ChitWrightModel", "carried", "I", false)
  | 14 => ("ChitWrightModel", "requests", "I", false)
  | 15 => ("ChitWrightModel", "whose", "[I", true)
  | 16 => ("ChitWrightModel", "centres", "[I", true)
  | 17 => ("ChitWrightModel", "states", "[I", true)
  | 18 => ("ChitWrightModel", "lines", "[I", true)
  | 19 => ("ChitWrightModel", "committed", "[J", true)
  | 20 => ("ChitWrightModel", "years", "[I", true)
  | 21 => ("ChitWrightModel", "suppliers", "[I", true)
  | 22 => ("ChitWrightModel", "orderedTotals", "[J", true)
  | 23 => ("ChitWrightModel", "chains", "[I", true)
  | 24 => ("ChitWrightModel", "chainLengths", "[I", true)
  | 25 => ("ChitWrightModel", "chainAt", "[I", true)
  | 26 => ("ChitWrightModel", "controllers", "[I", true)
  | 27 => ("ChitWrightModel", "areServices", "[Z", true)
  | 28 => ("ChitWrightModel", "quantities", "[I", true)
  | 29 => ("ChitWrightModel", "prices", "[I", true)
  | 30 => ("ChitWrightModel", "received", "[I", true)
  | 31 => ("ChitWrightModel", "countries", "[I", true)
  | 32 => ("ChitWrightModel", "moneys", "[I", true)
  | 33 => ("ChitWrightModel", "terms", "[I", true)
  | 34 => ("ChitWrightModel", "discounts", "[I", true)
  | 35 => ("ChitWrightModel", "discountDays", "[I", true)
  | 36 => ("ChitWrightModel", "rates", "[I", true)
  | 37 => ("ChitWrightModel", "percents", "I", false)
  | 38 => ("ChitWrightModel", "back", "I", false)
  | 39 => ("ChitWrightModel", "invoices", "I", false)
  | 40 => ("ChitWrightModel", "lineOf", "[I", true)
  | 41 => ("ChitWrightModel", "pieces", "[I", true)
  | 42 => ("ChitWrightModel", "invoicePrices", "[I", true)
  | 43 => ("ChitWrightModel", "nets", "[J", true)
  | 44 => ("ChitWrightModel", "invoiceStates", "[I", true)
  | 45 => ("ChitWrightModel", "areLetGo", "[Z", true)
  | 46 => ("ChitWrightModel", "taxes", "[J", true)
  | 47 => ("ChitWrightModel", "costs", "[J", true)
  | 48 => ("ChitWrightModel", "owed", "[J", true)
  | 49 => ("ChitWrightModel", "bookedOn", "[I", true)
  | 50 => ("ChitWrightModel", "dueOn", "[I", true)
  | 51 => ("ChitWrightModel", "taxPercents", "[I", true)
  | 52 => ("ChitWrightModel", "areHome", "[Z", true)
  | 53 => ("ChitWrightModel", "areStopped", "[Z", true)
  | 54 => ("ChitWrightModel", "paid", "[J", true)
  | 55 => ("ChitWrightModel", "taken", "[J", true)
  | 56 => ("ChitWrightModel", "placeRates", "[I", true)
  | 57 => ("ChitWrightModel", "trips", "I", false)
  | 58 => ("ChitWrightModel", "tripCosts", "[J", true)
  | 59 => ("ChitWrightModel", "cards", "I", false)
  | 60 => ("ChitWrightModel", "cardOf", "[I", true)
  | 61 => ("ChitWrightModel", "amounts", "[I", true)
  | 62 => ("ChitWrightModel", "areTold", "[Z", true)
  | 63 => ("ChitWrightModel", "onCard", "J", false)
  | 64 => ("ChitWrightModel", "seed", "I", false)
  | _ => ("ChitWrightModel", "sampled", "I", false)
def tyX11 : Nat → FieldType := fun k => match k with
  | 0 => .int
  | 1 => .int
  | 2 => .array .long
  | 3 => .int
  | 4 => .array .int
  | 5 => .array .int
  | 6 => .array .int
  | 7 => .array .int
  | 8 => .array .long
  | 9 => .array .long
  | 10 => .int
  | 11 => .array .long
  | 12 => .array .boolean
  | 13 => .int
  | 14 => .int
  | 15 => .array .int
  | 16 => .array .int
  | 17 => .array .int
  | 18 => .array .int
  | 19 => .array .long
  | 20 => .array .int
  | 21 => .array .int
  | 22 => .array .long
  | 23 => .array .int
  | 24 => .array .int
  | 25 => .array .int
  | 26 => .array .int
  | 27 => .array .boolean
  | 28 => .array .int
  | 29 => .array .int
  | 30 => .array .int
  | 31 => .array .int
  | 32 => .array .int
  | 33 => .array .int
  | 34 => .array .int
  | 35 => .array .int
  | 36 => .array .int
  | 37 => .int
  | 38 => .int
  | 39 => .int
  | 40 => .array .int
  | 41 => .array .int
  | 42 => .array .int
  | 43 => .array .long
  | 44 => .array .int
  | 45 => .array .boolean
  | 46 => .array .long
  | 47 => .array .long
  | 48 => .array .long
  | 49 => .array .int
  | 50 => .array .int
  | 51 => .array .int
  | 52 => .array .boolean
  | 53 => .array .boolean
  | 54 => .array .long
  | 55 => .array .long
  | 56 => .array .int
  | 57 => .int
  | 58 => .array .long
  | 59 => .int
  | 60 => .array .int
  | 61 => .array .int
  | 62 => .array .boolean
  | 63 => .long
  | 64 => .int
  | _ => .int
abbrev wsX110 : List Cond := u_ws RX11 TX11 66
theorem nmX11 : ∀ a, a < 66 → ∀ b, b < 66 → a ≠ b → (TX11 a).2.1 ≠ (TX11 b).2.1 := by decide +kernel
theorem tyX11_ok : ∀ k, k < 66 → parseFieldDescriptor (TX11 k).2.2.1 = some (tyX11 k) := by decide +kernel
abbrev cX11_init : ByteArray := prog_13_method_1_code
def yX11_init : MethodName := ⟨RX11, "<init>", "()V"⟩
abbrev cX11_thrown : ByteArray := prog_13_method_2_code
def yX11_thrown : MethodName := ⟨RX11, "thrown", "()I"⟩
abbrev cX11_holds : ByteArray := prog_13_method_3_code
def yX11_holds : MethodName := ⟨RX11, "holds", "(I)Z"⟩
abbrev cX11_in : ByteArray := prog_13_method_4_code
def yX11_in : MethodName := ⟨RX11, "in", "(III)Z"⟩
abbrev cX11_isPerson : ByteArray := prog_13_method_5_code
def yX11_isPerson : MethodName := ⟨RX11, "isPerson", "(I)Z"⟩
abbrev cX11_isCentre : ByteArray := prog_13_method_6_code
def yX11_isCentre : MethodName := ⟨RX11, "isCentre", "(I)Z"⟩
abbrev cX11_isYear : ByteArray := prog_13_method_7_code
def yX11_isYear : MethodName := ⟨RX11, "isYear", "(I)Z"⟩
abbrev cX11_isRequest : ByteArray := prog_13_method_8_code
def yX11_isRequest : MethodName := ⟨RX11, "isRequest", "(I)Z"⟩
abbrev cX11_isLine : ByteArray := prog_13_method_9_code
def yX11_isLine : MethodName := ⟨RX11, "isLine", "(II)Z"⟩
abbrev cX11_isInvoice : ByteArray := prog_13_method_10_code
def yX11_isInvoice : MethodName := ⟨RX11, "isInvoice", "(I)Z"⟩
abbrev cX11_yearNow : ByteArray := prog_13_method_11_code
def yX11_yearNow : MethodName := ⟨RX11, "yearNow", "()I"⟩
abbrev cX11_at : ByteArray := prog_13_method_12_code
def yX11_at : MethodName := ⟨RX11, "at", "(III)I"⟩
abbrev cX11_free : ByteArray := prog_13_method_13_code
def yX11_free : MethodName := ⟨RX11, "free", "(II)J"⟩
abbrev cX11_may : ByteArray := prog_13_method_14_code
def yX11_may : MethodName := ⟨RX11, "may", "(IIJ)Z"⟩
abbrev cX11_person : ByteArray := prog_13_method_15_code
def yX11_person : MethodName := ⟨RX11, "person", "(II)I"⟩
abbrev cX11_absent : ByteArray := prog_13_method_16_code
def yX11_absent : MethodName := ⟨RX11, "absent", "(III)V"⟩
abbrev cX11_controller : ByteArray := prog_13_method_17_code
def yX11_controller : MethodName := ⟨RX11, "controller", "(I)I"⟩
abbrev cX11_budget : ByteArray := prog_13_method_18_code
def yX11_budget : MethodName := ⟨RX11, "budget", "(III)J"⟩
abbrev cX11_transfer : ByteArray := prog_13_method_19_code
def yX11_transfer : MethodName := ⟨RX11, "transfer", "(IIII)J"⟩
abbrev cX11_soft : ByteArray := prog_13_method_20_code
def yX11_soft : MethodName := ⟨RX11, "soft", "(IZ)Z"⟩
abbrev cX11_carried : ByteArray := prog_13_method_21_code
def yX11_carried : MethodName := ⟨RX11, "carried", "(I)I"⟩
abbrev cX11_supplier : ByteArray := prog_13_method_22_code
def yX11_supplier : MethodName := ⟨RX11, "supplier", "(IIIIII)V"⟩
abbrev cX11_rate : ByteArray := prog_13_method_23_code
def yX11_rate : MethodName := ⟨RX11, "rate", "(II)I"⟩
abbrev cX11_taxes : ByteArray := prog_13_method_24_code
def yX11_taxes : MethodName := ⟨RX11, "taxes", "(II)V"⟩
abbrev cX11_closes : ByteArray := prog_13_method_25_code
def yX11_closes : MethodName := ⟨RX11, "closes", "()V"⟩
abbrev cX11_pass : ByteArray := prog_13_method_26_code
def yX11_pass : MethodName := ⟨RX11, "pass", "(I)I"⟩
abbrev cX11_total : ByteArray := prog_13_method_27_code
def yX11_total : MethodName := ⟨RX11, "total", "(I)J"⟩
abbrev cX11_request : ByteArray := prog_13_method_28_code
def yX11_request : MethodName := ⟨RX11, "request", "(II)I"⟩
abbrev cX11_line : ByteArray := prog_13_method_29_code
def yX11_line : MethodName := ⟨RX11, "line", "(IZII)I"⟩
abbrev cX11_commits : ByteArray := prog_13_method_30_code
def yX11_commits : MethodName := ⟨RX11, "commits", "(IJ)V"⟩
abbrev cX11_frees : ByteArray := prog_13_method_31_code
def yX11_frees : MethodName := ⟨RX11, "frees", "(IJ)J"⟩
abbrev cX11_left : ByteArray := prog_13_method_32_code
def yX11_left : MethodName := ⟨RX11, "left", "(I)I"⟩
abbrev cX11_laysChain : ByteArray := prog_13_method_33_code
def yX11_laysChain : MethodName := ⟨RX11, "laysChain", "(IJ)V"⟩
abbrev cX11_send : ByteArray := prog_13_method_34_code
def yX11_send : MethodName := ⟨RX11, "send", "(I)I"⟩
abbrev cX11_approver : ByteArray := prog_13_method_35_code
def yX11_approver : MethodName := ⟨RX11, "approver", "(II)I"⟩
abbrev cX11_byTurn : ByteArray := prog_13_method_36_code
def yX11_byTurn : MethodName := ⟨RX11, "byTurn", "(I)I"⟩
abbrev cX11_byController : ByteArray := prog_13_method_37_code
def yX11_byController : MethodName := ⟨RX11, "byController", "(I)I"⟩
abbrev cX11_can : ByteArray := prog_13_method_38_code
def yX11_can : MethodName := ⟨RX11, "can", "(II)Z"⟩
abbrev cX11_approve : ByteArray := prog_13_method_39_code
def yX11_approve : MethodName := ⟨RX11, "approve", "(II)I"⟩
abbrev cX11_refuse : ByteArray := prog_13_method_40_code
def yX11_refuse : MethodName := ⟨RX11, "refuse", "(II)V"⟩
abbrev cX11_edit : ByteArray := prog_13_method_41_code
def yX11_edit : MethodName := ⟨RX11, "edit", "(III)I"⟩
abbrev cX11_order : ByteArray := prog_13_method_42_code
def yX11_order : MethodName := ⟨RX11, "order", "(II)V"⟩
abbrev cX11_bookedPieces : ByteArray := prog_13_method_43_code
def yX11_bookedPieces : MethodName := ⟨RX11, "bookedPieces", "(I)I"⟩
abbrev cX11_heldPieces : ByteArray := prog_13_method_44_code
def yX11_heldPieces : MethodName := ⟨RX11, "heldPieces", "(I)I"⟩
abbrev cX11_why : ByteArray := prog_13_method_45_code
def yX11_why : MethodName := ⟨RX11, "why", "(I)I"⟩
abbrev cX11_books : ByteArray := prog_13_method_46_code
def yX11_books : MethodName := ⟨RX11, "books", "(I)V"⟩
abbrev cX11_looksAgain : ByteArray := prog_13_method_47_code
def yX11_looksAgain : MethodName := ⟨RX11, "looksAgain", "(I)I"⟩
abbrev cX11_receive : ByteArray := prog_13_method_48_code
def yX11_receive : MethodName := ⟨RX11, "receive", "(III)I"⟩
abbrev cX11_canChange : ByteArray := prog_13_method_49_code
def yX11_canChange : MethodName := ⟨RX11, "canChange", "(III)Z"⟩
abbrev cX11_change : ByteArray := prog_13_method_50_code
def yX11_change : MethodName := ⟨RX11, "change", "(III)I"⟩
abbrev cX11_end : ByteArray := prog_13_method_51_code
def yX11_end : MethodName := ⟨RX11, "end", "(I)J"⟩
abbrev cX11_invoice : ByteArray := prog_13_method_52_code
def yX11_invoice : MethodName := ⟨RX11, "invoice", "(IIII)I"⟩
abbrev cX11_letGo : ByteArray := prog_13_method_53_code
def yX11_letGo : MethodName := ⟨RX11, "letGo", "(II)Z"⟩
abbrev cX11_isEarly : ByteArray := prog_13_method_54_code
def yX11_isEarly : MethodName := ⟨RX11, "isEarly", "(I)Z"⟩
abbrev cX11_pays : ByteArray := prog_13_method_55_code
def yX11_pays : MethodName := ⟨RX11, "pays", "(I)V"⟩
abbrev cX11_run : ByteArray := prog_13_method_56_code
def yX11_run : MethodName := ⟨RX11, "run", "(IZ)I"⟩
abbrev cX11_bounce : ByteArray := prog_13_method_57_code
def yX11_bounce : MethodName := ⟨RX11, "bounce", "(I)J"⟩
abbrev cX11_goOn : ByteArray := prog_13_method_58_code
def yX11_goOn : MethodName := ⟨RX11, "goOn", "(I)V"⟩
abbrev cX11_place : ByteArray := prog_13_method_59_code
def yX11_place : MethodName := ⟨RX11, "place", "(II)I"⟩
abbrev cX11_costOf : ByteArray := prog_13_method_60_code
def yX11_costOf : MethodName := ⟨RX11, "costOf", "(IIIII)J"⟩
abbrev cX11_trip : ByteArray := prog_13_method_61_code
def yX11_trip : MethodName := ⟨RX11, "trip", "(IIIIIII)I"⟩
abbrev cX11_advance : ByteArray := prog_13_method_62_code
def yX11_advance : MethodName := ⟨RX11, "advance", "(II)J"⟩
abbrev cX11_settle : ByteArray := prog_13_method_63_code
def yX11_settle : MethodName := ⟨RX11, "settle", "(I)J"⟩
abbrev cX11_card : ByteArray := prog_13_method_64_code
def yX11_card : MethodName := ⟨RX11, "card", "(II)I"⟩
abbrev cX11_tell : ByteArray := prog_13_method_65_code
def yX11_tell : MethodName := ⟨RX11, "tell", "(III)J"⟩
abbrev cX11_payCard : ByteArray := prog_13_method_66_code
def yX11_payCard : MethodName := ⟨RX11, "payCard", "()J"⟩
abbrev cX11_sample : ByteArray := prog_13_method_67_code
def yX11_sample : MethodName := ⟨RX11, "sample", "(II)V"⟩
abbrev cX11_day : ByteArray := prog_13_method_68_code
def yX11_day : MethodName := ⟨RX11, "day", "()I"⟩
abbrev cX11_centre : ByteArray := prog_13_method_69_code
def yX11_centre : MethodName := ⟨RX11, "centre", "(III)J"⟩
abbrev cX11_requestOf : ByteArray := prog_13_method_70_code
def yX11_requestOf : MethodName := ⟨RX11, "requestOf", "(II)J"⟩
abbrev cX11_next : ByteArray := prog_13_method_71_code
def yX11_next : MethodName := ⟨RX11, "next", "(I)I"⟩
abbrev cX11_lineOf : ByteArray := prog_13_method_72_code
def yX11_lineOf : MethodName := ⟨RX11, "lineOf", "(III)I"⟩
abbrev cX11_invoiceOf : ByteArray := prog_13_method_73_code
def yX11_invoiceOf : MethodName := ⟨RX11, "invoiceOf", "(II)J"⟩
abbrev cX11_staff : ByteArray := prog_13_method_74_code
def yX11_staff : MethodName := ⟨RX11, "staff", "(II)J"⟩
abbrev cX11_tripCost : ByteArray := prog_13_method_75_code
def yX11_tripCost : MethodName := ⟨RX11, "tripCost", "(I)J"⟩
abbrev cX11_isTold : ByteArray := prog_13_method_76_code
def yX11_isTold : MethodName := ⟨RX11, "isTold", "(I)Z"⟩
abbrev cX11_account : ByteArray := prog_13_method_77_code
def yX11_account : MethodName := ⟨RX11, "account", "(I)J"⟩
abbrev cX11_isIn : ByteArray := prog_13_method_78_code
def yX11_isIn : MethodName := ⟨RX11, "isIn", "(II)Z"⟩
abbrev cX11_isSampled : ByteArray := prog_13_method_79_code
def yX11_isSampled : MethodName := ⟨RX11, "isSampled", "(II)Z"⟩
def RJx145de : String := "java/io/Serializable"
def TJx145de : u_T := fun k => match k with
  | _ => ("", "", "", false)
def tyJx145de : Nat → FieldType := fun k => match k with
  | _ => .int
abbrev wsJx145de0 : List Cond := u_ws RJx145de TJx145de 0
theorem nmJx145de : ∀ a, a < 0 → ∀ b, b < 0 → a ≠ b → (TJx145de a).2.1 ≠ (TJx145de b).2.1 := by decide +kernel
theorem tyJx145de_ok : ∀ k, k < 0 → parseFieldDescriptor (TJx145de k).2.2.1 = some (tyJx145de k) := by decide +kernel
def RJx8e188 : String := "java/lang/Cloneable"
def TJx8e188 : u_T := fun k => match k with
  | _ => ("", "", "", false)
def tyJx8e188 : Nat → FieldType := fun k => match k with
  | _ => .int
abbrev wsJx8e1880 : List Cond := u_ws RJx8e188 TJx8e188 0
theorem nmJx8e188 : ∀ a, a < 0 → ∀ b, b < 0 → a ≠ b → (TJx8e188 a).2.1 ≠ (TJx8e188 b).2.1 := by decide +kernel
theorem tyJx8e188_ok : ∀ k, k < 0 → parseFieldDescriptor (TJx8e188 k).2.2.1 = some (tyJx8e188 k) := by decide +kernel
def RJxab1ab : String := "java/lang/Iterable"
def TJxab1ab : u_T := fun k => match k with
  | _ => ("", "", "", false)
def tyJxab1ab : Nat → FieldType := fun k => match k with
  | _ => .int
abbrev wsJxab1ab0 : List Cond := u_ws RJxab1ab TJxab1ab 0
theorem nmJxab1ab : ∀ a, a < 0 → ∀ b, b < 0 → a ≠ b → (TJxab1ab a).2.1 ≠ (TJxab1ab b).2.1 := by decide +kernel
theorem tyJxab1ab_ok : ∀ k, k < 0 → parseFieldDescriptor (TJxab1ab k).2.2.1 = some (tyJxab1ab k) := by decide +kernel
def RJ9 : String := "java/lang/Math"
def TJ9 : u_T := fun k => match k with
  | _ => ("", "", "", false)
def tyJ9 : Nat → FieldType := fun k => match k with
  | _ => .int
abbrev wsJ90 : List Cond := u_ws RJ9 TJ9 0
theorem nmJ9 : ∀ a, a < 0 → ∀ b, b < 0 → a ≠ b → (TJ9 a).2.1 ≠ (TJ9 b).2.1 := by decide +kernel
theorem tyJ9_ok : ∀ k, k < 0 → parseFieldDescriptor (TJ9 k).2.2.1 = some (tyJ9 k) := by decide +kernel
abbrev cJ9_max_7cf53 : ByteArray := prog_21_method_65_code
def yJ9_max_7cf53 : MethodName := ⟨RJ9, "max", "(II)I"⟩
abbrev cJ9_min_7cf53 : ByteArray := prog_21_method_69_code
def yJ9_min_7cf53 : MethodName := ⟨RJ9, "min", "(II)I"⟩
abbrev cJ9_min_f86c9 : ByteArray := prog_21_method_70_code
def yJ9_min_f86c9 : MethodName := ⟨RJ9, "min", "(JJ)J"⟩
def RJ0 : String := "java/lang/String"
def TJ0 : u_T := fun k => match k with
  | _ => ("", "", "", false)
def tyJ0 : Nat → FieldType := fun k => match k with
  | _ => .int
abbrev wsJ00 : List Cond := u_ws RJ0 TJ0 0
theorem nmJ0 : ∀ a, a < 0 → ∀ b, b < 0 → a ≠ b → (TJ0 a).2.1 ≠ (TJ0 b).2.1 := by decide +kernel
theorem tyJ0_ok : ∀ k, k < 0 → parseFieldDescriptor (TJ0 k).2.2.1 = some (tyJ0 k) := by decide +kernel
def RJ10 : String := "java/lang/System"
def TJ10 : u_T := fun k => match k with
  | _ => ("", "", "", false)
def tyJ10 : Nat → FieldType := fun k => match k with
  | _ => .int
abbrev wsJ100 : List Cond := u_ws RJ10 TJ10 0
theorem nmJ10 : ∀ a, a < 0 → ∀ b, b < 0 → a ≠ b → (TJ10 a).2.1 ≠ (TJ10 b).2.1 := by decide +kernel
theorem tyJ10_ok : ∀ k, k < 0 → parseFieldDescriptor (TJ10 k).2.2.1 = some (tyJ10 k) := by decide +kernel
def RJxa1e45 : String := "java/util/AbstractCollection"
def TJxa1e45 : u_T := fun k => match k with
  | _ => ("", "", "", false)
def tyJxa1e45 : Nat → FieldType := fun k => match k with
  | _ => .int
abbrev wsJxa1e450 : List Cond := u_ws RJxa1e45 TJxa1e45 0
theorem nmJxa1e45 : ∀ a, a < 0 → ∀ b, b < 0 → a ≠ b → (TJxa1e45 a).2.1 ≠ (TJxa1e45 b).2.1 := by decide +kernel
theorem tyJxa1e45_ok : ∀ k, k < 0 → parseFieldDescriptor (TJxa1e45 k).2.2.1 = some (tyJxa1e45 k) := by decide +kernel
abbrev cJxa1e45_init_da8c8 : ByteArray := prog_26_method_1_code
def yJxa1e45_init_da8c8 : MethodName := ⟨RJxa1e45, "<init>", "()V"⟩
def RJxc12de : String := "java/util/AbstractList"
def TJxc12de : u_T := fun k => match k with
  | _ => ("", "", "", false)
def tyJxc12de : Nat → FieldType := fun k => match k with
  | _ => .int
abbrev wsJxc12de0 : List Cond := u_ws RJxc12de TJxc12de 0
theorem nmJxc12de : ∀ a, a < 0 → ∀ b, b < 0 → a ≠ b → (TJxc12de a).2.1 ≠ (TJxc12de b).2.1 := by decide +kernel
theorem tyJxc12de_ok : ∀ k, k < 0 → parseFieldDescriptor (TJxc12de k).2.2.1 = some (tyJxc12de k) := by decide +kernel
abbrev cJxc12de_init_da8c8 : ByteArray := prog_27_method_1_code
def yJxc12de_init_da8c8 : MethodName := ⟨RJxc12de, "<init>", "()V"⟩
def RJx4a65c : String := "java/util/ArrayList"
def TJx4a65c : u_T := fun k => match k with
  | 0 => ("java/util/AbstractList", "modCount", "I", false)
  | 1 => ("java/util/ArrayList", "elementData", "[Ljava/lang/Object;", false)
  | _ => ("java/util/ArrayList", "size", "I", false)
def tyJx4a65c : Nat → FieldType := fun k => match k with
  | 0 => .int
  | 1 => .array (.object "java/lang/Object")
  | _ => .int
abbrev wsJx4a65c0 : List Cond := u_ws RJx4a65c TJx4a65c 3
theorem nmJx4a65c : ∀ a, a < 3 → ∀ b, b < 3 → a ≠ b → (TJx4a65c a).2.1 ≠ (TJx4a65c b).2.1 := by decide +kernel
theorem tyJx4a65c_ok : ∀ k, k < 3 → parseFieldDescriptor (TJx4a65c k).2.2.1 = some (tyJx4a65c k) := by decide +kernel
abbrev cJx4a65c_init_da8c8 : ByteArray := prog_28_method_2_code
def yJx4a65c_init_da8c8 : MethodName := ⟨RJx4a65c, "<init>", "()V"⟩
abbrev cJx4a65c_grow_92f84 : ByteArray := prog_28_method_6_code
def yJx4a65c_grow_92f84 : MethodName := ⟨RJx4a65c, "grow", "(I)[Ljava/lang/Object;"⟩
abbrev cJx4a65c_grow_d5877 : ByteArray := prog_28_method_7_code
def yJx4a65c_grow_d5877 : MethodName := ⟨RJx4a65c, "grow", "()[Ljava/lang/Object;"⟩
abbrev cJx4a65c_size_8abf5 : ByteArray := prog_28_method_8_code
def yJx4a65c_size_8abf5 : MethodName := ⟨RJx4a65c, "size", "()I"⟩
abbrev cJx4a65c_isEmpty_aae02 : ByteArray := prog_28_method_9_code
def yJx4a65c_isEmpty_aae02 : MethodName := ⟨RJx4a65c, "isEmpty", "()Z"⟩
abbrev cJx4a65c_elementData_915e3 : ByteArray := prog_28_method_18_code
def yJx4a65c_elementData_915e3 : MethodName := ⟨RJx4a65c, "elementData", "(I)Ljava/lang/Object;"⟩
abbrev cJx4a65c_get_915e3 : ByteArray := prog_28_method_20_code
def yJx4a65c_get_915e3 : MethodName := ⟨RJx4a65c, "get", "(I)Ljava/lang/Object;"⟩
abbrev cJx4a65c_add_72be8 : ByteArray := prog_28_method_24_code
def yJx4a65c_add_72be8 : MethodName := ⟨RJx4a65c, "add", "(Ljava/lang/Object;[Ljava/lang/Object;I)V"⟩
abbrev cJx4a65c_add_9ea2d : ByteArray := prog_28_method_25_code
def yJx4a65c_add_9ea2d : MethodName := ⟨RJx4a65c, "add", "(Ljava/lang/Object;)Z"⟩
def RJ7 : String := "java/util/Arrays"
def TJ7 : u_T := fun k => match k with
  | _ => ("", "", "", false)
def tyJ7 : Nat → FieldType := fun k => match k with
  | _ => .int
abbrev wsJ70 : List Cond := u_ws RJ7 TJ7 0
theorem nmJ7 : ∀ a, a < 0 → ∀ b, b < 0 → a ≠ b → (TJ7 a).2.1 ≠ (TJ7 b).2.1 := by decide +kernel
theorem tyJ7_ok : ∀ k, k < 0 → parseFieldDescriptor (TJ7 k).2.2.1 = some (tyJ7 k) := by decide +kernel
abbrev cJ7_copyOf_1904c : ByteArray := prog_29_method_119_code
def yJ7_copyOf_1904c : MethodName := ⟨RJ7, "copyOf", "([Ljava/lang/Object;I)[Ljava/lang/Object;"⟩
abbrev cJ7_copyOf_6403c : ByteArray := prog_29_method_120_code
def yJ7_copyOf_6403c : MethodName := ⟨RJ7, "copyOf", "([Ljava/lang/Object;ILjava/lang/Class;)[Ljava/lang/Object;"⟩
def RJx5ef63 : String := "java/util/Collection"
def TJx5ef63 : u_T := fun k => match k with
  | _ => ("", "", "", false)
def tyJx5ef63 : Nat → FieldType := fun k => match k with
  | _ => .int
abbrev wsJx5ef630 : List Cond := u_ws RJx5ef63 TJx5ef63 0
theorem nmJx5ef63 : ∀ a, a < 0 → ∀ b, b < 0 → a ≠ b → (TJx5ef63 a).2.1 ≠ (TJx5ef63 b).2.1 := by decide +kernel
theorem tyJx5ef63_ok : ∀ k, k < 0 → parseFieldDescriptor (TJx5ef63 k).2.2.1 = some (tyJx5ef63 k) := by decide +kernel
def RJxbd725 : String := "java/util/List"
def TJxbd725 : u_T := fun k => match k with
  | _ => ("", "", "", false)
def tyJxbd725 : Nat → FieldType := fun k => match k with
  | _ => .int
abbrev wsJxbd7250 : List Cond := u_ws RJxbd725 TJxbd725 0
theorem nmJxbd725 : ∀ a, a < 0 → ∀ b, b < 0 → a ≠ b → (TJxbd725 a).2.1 ≠ (TJxbd725 b).2.1 := by decide +kernel
theorem tyJxbd725_ok : ∀ k, k < 0 → parseFieldDescriptor (TJxbd725 k).2.2.1 = some (tyJxbd725 k) := by decide +kernel
def RJ15 : String := "java/util/Objects"
def TJ15 : u_T := fun k => match k with
  | _ => ("", "", "", false)
def tyJ15 : Nat → FieldType := fun k => match k with
  | _ => .int
abbrev wsJ150 : List Cond := u_ws RJ15 TJ15 0
theorem nmJ15 : ∀ a, a < 0 → ∀ b, b < 0 → a ≠ b → (TJ15 a).2.1 ≠ (TJ15 b).2.1 := by decide +kernel
theorem tyJ15_ok : ∀ k, k < 0 → parseFieldDescriptor (TJ15 k).2.2.1 = some (tyJ15 k) := by decide +kernel
abbrev cJ15_checkIndex_7cf53 : ByteArray := prog_32_method_17_code
def yJ15_checkIndex_7cf53 : MethodName := ⟨RJ15, "checkIndex", "(II)I"⟩
def RJxf0a74 : String := "java/util/RandomAccess"
def TJxf0a74 : u_T := fun k => match k with
  | _ => ("", "", "", false)
def tyJxf0a74 : Nat → FieldType := fun k => match k with
  | _ => .int
abbrev wsJxf0a740 : List Cond := u_ws RJxf0a74 TJxf0a74 0
theorem nmJxf0a74 : ∀ a, a < 0 → ∀ b, b < 0 → a ≠ b → (TJxf0a74 a).2.1 ≠ (TJxf0a74 b).2.1 := by decide +kernel
theorem tyJxf0a74_ok : ∀ k, k < 0 → parseFieldDescriptor (TJxf0a74 k).2.2.1 = some (tyJxf0a74 k) := by decide +kernel
def RJxa66e6 : String := "java/util/SequencedCollection"
def TJxa66e6 : u_T := fun k => match k with
  | _ => ("", "", "", false)
def tyJxa66e6 : Nat → FieldType := fun k => match k with
  | _ => .int
abbrev wsJxa66e60 : List Cond := u_ws RJxa66e6 TJxa66e6 0
theorem nmJxa66e6 : ∀ a, a < 0 → ∀ b, b < 0 → a ≠ b → (TJxa66e6 a).2.1 ≠ (TJxa66e6 b).2.1 := by decide +kernel
theorem tyJxa66e6_ok : ∀ k, k < 0 → parseFieldDescriptor (TJxa66e6 k).2.2.1 = some (tyJxa66e6 k) := by decide +kernel
def RJ8 : String := "jdk/internal/util/ArraysSupport"
def TJ8 : u_T := fun k => match k with
  | _ => ("", "", "", false)
def tyJ8 : Nat → FieldType := fun k => match k with
  | _ => .int
abbrev wsJ80 : List Cond := u_ws RJ8 TJ8 0
theorem nmJ8 : ∀ a, a < 0 → ∀ b, b < 0 → a ≠ b → (TJ8 a).2.1 ≠ (TJ8 b).2.1 := by decide +kernel
theorem tyJ8_ok : ∀ k, k < 0 → parseFieldDescriptor (TJ8 k).2.2.1 = some (tyJ8 k) := by decide +kernel
abbrev cJ8_newLength_cabcc : ByteArray := prog_35_method_27_code
def yJ8_newLength_cabcc : MethodName := ⟨RJ8, "newLength", "(III)I"⟩
abbrev cJ8_hugeLength_7cf53 : ByteArray := prog_35_method_28_code
def yJ8_hugeLength_7cf53 : MethodName := ⟨RJ8, "hugeLength", "(II)I"⟩
def RJ3 : String := "jdk/internal/util/Preconditions"
def TJ3 : u_T := fun k => match k with
  | _ => ("", "", "", false)
def tyJ3 : Nat → FieldType := fun k => match k with
  | _ => .int
abbrev wsJ30 : List Cond := u_ws RJ3 TJ3 0
theorem nmJ3 : ∀ a, a < 0 → ∀ b, b < 0 → a ≠ b → (TJ3 a).2.1 ≠ (TJ3 b).2.1 := by decide +kernel
theorem tyJ3_ok : ∀ k, k < 0 → parseFieldDescriptor (TJ3 k).2.2.1 = some (tyJ3 k) := by decide +kernel
abbrev cJ3_checkIndex_8e157 : ByteArray := prog_36_method_11_code
def yJ3_checkIndex_8e157 : MethodName := ⟨RJ3, "checkIndex", "(IILjava/util/function/BiFunction;)I"⟩
def RL : String := "ChitWrightLaw"
abbrev cL_person : ByteArray := method_3_code
def yL_person : MethodName := ⟨RL, "person", "(LChitWright;II[J)I"⟩
abbrev cL_absent : ByteArray := method_4_code
def yL_absent : MethodName := ⟨RL, "absent", "(LChitWright;III)I"⟩
abbrev cL_controller : ByteArray := method_5_code
def yL_controller : MethodName := ⟨RL, "controller", "(LChitWright;I[J)I"⟩
abbrev cL_budget : ByteArray := method_6_code
def yL_budget : MethodName := ⟨RL, "budget", "(LChitWright;III[J)I"⟩
abbrev cL_transfer : ByteArray := method_7_code
def yL_transfer : MethodName := ⟨RL, "transfer", "(LChitWright;IIII[J)I"⟩
abbrev cL_soft : ByteArray := method_8_code
def yL_soft : MethodName := ⟨RL, "soft", "(LChitWright;IZ[J)I"⟩
abbrev cL_carried : ByteArray := method_9_code
def yL_carried : MethodName := ⟨RL, "carried", "(LChitWright;I[J)I"⟩
abbrev cL_supplier : ByteArray := method_10_code
def yL_supplier : MethodName := ⟨RL, "supplier", "(LChitWright;IIIIII)I"⟩
abbrev cL_rate : ByteArray := method_11_code
def yL_rate : MethodName := ⟨RL, "rate", "(LChitWright;II[J)I"⟩
abbrev cL_taxes : ByteArray := method_12_code
def yL_taxes : MethodName := ⟨RL, "taxes", "(LChitWright;II)I"⟩
abbrev cL_pass : ByteArray := method_13_code
def yL_pass : MethodName := ⟨RL, "pass", "(LChitWright;I[J)I"⟩
abbrev cL_request : ByteArray := method_14_code
def yL_request : MethodName := ⟨RL, "request", "(LChitWright;II[J)I"⟩
abbrev cL_line : ByteArray := method_15_code
def yL_line : MethodName := ⟨RL, "line", "(LChitWright;IZII[J)I"⟩
abbrev cL_send : ByteArray := method_16_code
def yL_send : MethodName := ⟨RL, "send", "(LChitWright;I[J)I"⟩
abbrev cL_approve : ByteArray := method_17_code
def yL_approve : MethodName := ⟨RL, "approve", "(LChitWright;II[J)I"⟩
abbrev cL_refuse : ByteArray := method_18_code
def yL_refuse : MethodName := ⟨RL, "refuse", "(LChitWright;II)I"⟩
abbrev cL_edit : ByteArray := method_19_code
def yL_edit : MethodName := ⟨RL, "edit", "(LChitWright;III[J)I"⟩
abbrev cL_order : ByteArray := method_20_code
def yL_order : MethodName := ⟨RL, "order", "(LChitWright;II)I"⟩
abbrev cL_receive : ByteArray := method_21_code
def yL_receive : MethodName := ⟨RL, "receive", "(LChitWright;III[J)I"⟩
abbrev cL_change : ByteArray := method_22_code
def yL_change : MethodName := ⟨RL, "change", "(LChitWright;III[J)I"⟩
abbrev cL_end : ByteArray := method_23_code
def yL_end : MethodName := ⟨RL, "end", "(LChitWright;I[J)I"⟩
abbrev cL_invoice : ByteArray := method_24_code
def yL_invoice : MethodName := ⟨RL, "invoice", "(LChitWright;IIII[J)I"⟩
abbrev cL_letGo : ByteArray := method_25_code
def yL_letGo : MethodName := ⟨RL, "letGo", "(LChitWright;II[J)I"⟩
abbrev cL_run : ByteArray := method_26_code
def yL_run : MethodName := ⟨RL, "run", "(LChitWright;IZ[J)I"⟩
abbrev cL_bounce : ByteArray := method_27_code
def yL_bounce : MethodName := ⟨RL, "bounce", "(LChitWright;I[J)I"⟩
abbrev cL_goOn : ByteArray := method_28_code
def yL_goOn : MethodName := ⟨RL, "goOn", "(LChitWright;I)I"⟩
abbrev cL_place : ByteArray := method_29_code
def yL_place : MethodName := ⟨RL, "place", "(LChitWright;II[J)I"⟩
abbrev cL_trip : ByteArray := method_30_code
def yL_trip : MethodName := ⟨RL, "trip", "(LChitWright;IIIIIII[J)I"⟩
abbrev cL_advance : ByteArray := method_31_code
def yL_advance : MethodName := ⟨RL, "advance", "(LChitWright;II[J)I"⟩
abbrev cL_settle : ByteArray := method_32_code
def yL_settle : MethodName := ⟨RL, "settle", "(LChitWright;I[J)I"⟩
abbrev cL_card : ByteArray := method_33_code
def yL_card : MethodName := ⟨RL, "card", "(LChitWright;II[J)I"⟩
abbrev cL_tell : ByteArray := method_34_code
def yL_tell : MethodName := ⟨RL, "tell", "(LChitWright;III[J)I"⟩
abbrev cL_sample : ByteArray := method_35_code
def yL_sample : MethodName := ⟨RL, "sample", "(LChitWright;II)I"⟩
abbrev cL_centre : ByteArray := method_36_code
def yL_centre : MethodName := ⟨RL, "centre", "(LChitWright;III[J)I"⟩
abbrev cL_requestOf : ByteArray := method_37_code
def yL_requestOf : MethodName := ⟨RL, "requestOf", "(LChitWright;II[J)I"⟩
abbrev cL_next : ByteArray := method_38_code
def yL_next : MethodName := ⟨RL, "next", "(LChitWright;I[J)I"⟩
abbrev cL_lineOf : ByteArray := method_39_code
def yL_lineOf : MethodName := ⟨RL, "lineOf", "(LChitWright;III[J)I"⟩
abbrev cL_invoiceOf : ByteArray := method_40_code
def yL_invoiceOf : MethodName := ⟨RL, "invoiceOf", "(LChitWright;II[J)I"⟩
abbrev cL_staff : ByteArray := method_41_code
def yL_staff : MethodName := ⟨RL, "staff", "(LChitWright;II[J)I"⟩
abbrev cL_tripCost : ByteArray := method_42_code
def yL_tripCost : MethodName := ⟨RL, "tripCost", "(LChitWright;I[J)I"⟩
abbrev cL_isTold : ByteArray := method_43_code
def yL_isTold : MethodName := ⟨RL, "isTold", "(LChitWright;I[J)I"⟩
abbrev cL_account : ByteArray := method_44_code
def yL_account : MethodName := ⟨RL, "account", "(LChitWright;I[J)I"⟩
abbrev cL_isSampled : ByteArray := method_45_code
def yL_isSampled : MethodName := ⟨RL, "isSampled", "(LChitWright;II[J)I"⟩
abbrev cL_law : ByteArray := code
def yL_law : MethodName := ⟨RL, "law", "([I)Z"⟩
abbrev vwCl : List vw_C := [(RJx4a65c, TJx4a65c, 3), (RX0, TX0, 2), (RX1, TX1, 3), (RX2, TX2, 18), (RX3, TX3, 6), (RX4, TX4, 1), (RX5, TX5, 7), (RX6, TX6, 3), (RX7, TX7, 10), (RX8, TX8, 6), (RX9, TX9, 1), (RX10, TX10, 18), (RX11, TX11, 66)]
def TB : List Cond := lw_tbl.filter goodWord
