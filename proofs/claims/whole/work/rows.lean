section
-- ===== PART A: goes FIRST, ahead of the names: the tables' words, and 'selects' of the private methods out of them =====
/-- a private method of a class that the tables say can be made, by its rows of tables_1 -/
def lw_okq (q : MethodName × Nat) : Prop := (q.1.cls ≠ "java/lang/invoke/MethodHandle" ∧ q.1.cls ≠ "java/lang/invoke/VarHandle") ∧ Cond.instantiable q.1.cls q.2 ∈ tables_1 ∧ Cond.privateMethod q.1 ∈ tables_1 ∧ Cond.instanceMethod q.1 ∈ tables_1
theorem lw_p0 : lw_okq (⟨"SupplyGrid$Asking", "end", "()V"⟩, 8) := ⟨⟨by decide +kernel, by decide +kernel⟩, List.mem_of_getElem? (i := 51) (by decide +kernel), List.mem_of_getElem? (i := 57) (by decide +kernel), List.mem_of_getElem? (i := 58) (by decide +kernel)⟩
theorem lw_p1 : lw_okq (⟨"SupplyGrid$Asking", "forgetAnswers", "()V"⟩, 8) := ⟨⟨by decide +kernel, by decide +kernel⟩, List.mem_of_getElem? (i := 51) (by decide +kernel), List.mem_of_getElem? (i := 61) (by decide +kernel), List.mem_of_getElem? (i := 62) (by decide +kernel)⟩
theorem lw_p2 : lw_okq (⟨"java/lang/Throwable", "fillInStackTrace", "(I)Ljava/lang/Throwable;"⟩, 6) := ⟨⟨by decide +kernel, by decide +kernel⟩, List.mem_of_getElem? (i := 297) (by decide +kernel), List.mem_of_getElem? (i := 295) (by decide +kernel), List.mem_of_getElem? (i := 296) (by decide +kernel)⟩
theorem lw_p3 : lw_okq (⟨"SupplyGrid", "needUp", "(I)V"⟩, 4) := ⟨⟨by decide +kernel, by decide +kernel⟩, List.mem_of_getElem? (i := 17) (by decide +kernel), List.mem_of_getElem? (i := 379) (by decide +kernel), List.mem_of_getElem? (i := 380) (by decide +kernel)⟩
theorem lw_p4 : lw_okq (⟨"SupplyGrid", "isUp", "(I)Z"⟩, 4) := ⟨⟨by decide +kernel, by decide +kernel⟩, List.mem_of_getElem? (i := 17) (by decide +kernel), List.mem_of_getElem? (i := 383) (by decide +kernel), List.mem_of_getElem? (i := 384) (by decide +kernel)⟩
theorem lw_p5 : lw_okq (⟨"SupplyGrid$Prescription", "letsAsk", "(LSupplyGrid$Desk;I)Z"⟩, 3) := ⟨⟨by decide +kernel, by decide +kernel⟩, List.mem_of_getElem? (i := 346) (by decide +kernel), List.mem_of_getElem? (i := 388) (by decide +kernel), List.mem_of_getElem? (i := 389) (by decide +kernel)⟩
theorem lw_p6 : lw_okq (⟨"SupplyGrid$Pairs", "last", "()I"⟩, 2) := ⟨⟨by decide +kernel, by decide +kernel⟩, List.mem_of_getElem? (i := 33) (by decide +kernel), List.mem_of_getElem? (i := 392) (by decide +kernel), List.mem_of_getElem? (i := 393) (by decide +kernel)⟩
theorem lw_p7 : lw_okq (⟨"SupplyGrid$Pairs", "of", "(I)I"⟩, 2) := ⟨⟨by decide +kernel, by decide +kernel⟩, List.mem_of_getElem? (i := 33) (by decide +kernel), List.mem_of_getElem? (i := 396) (by decide +kernel), List.mem_of_getElem? (i := 397) (by decide +kernel)⟩
theorem lw_p8 : lw_okq (⟨"SupplyGrid$Desk", "openSupply", "()I"⟩, 8) := ⟨⟨by decide +kernel, by decide +kernel⟩, List.mem_of_getElem? (i := 27) (by decide +kernel), List.mem_of_getElem? (i := 404) (by decide +kernel), List.mem_of_getElem? (i := 405) (by decide +kernel)⟩
theorem lw_p9 : lw_okq (⟨"SupplyGrid$Asking", "begin", "(II)V"⟩, 8) := ⟨⟨by decide +kernel, by decide +kernel⟩, List.mem_of_getElem? (i := 51) (by decide +kernel), List.mem_of_getElem? (i := 411) (by decide +kernel), List.mem_of_getElem? (i := 412) (by decide +kernel)⟩
theorem lw_p10 : lw_okq (⟨"SupplyGrid", "startRound", "(LSupplyGrid$Desk;)I"⟩, 4) := ⟨⟨by decide +kernel, by decide +kernel⟩, List.mem_of_getElem? (i := 17) (by decide +kernel), List.mem_of_getElem? (i := 415) (by decide +kernel), List.mem_of_getElem? (i := 416) (by decide +kernel)⟩
theorem lw_p11 : lw_okq (⟨"SupplyGrid$Desk", "nextNumber", "()I"⟩, 8) := ⟨⟨by decide +kernel, by decide +kernel⟩, List.mem_of_getElem? (i := 27) (by decide +kernel), List.mem_of_getElem? (i := 419) (by decide +kernel), List.mem_of_getElem? (i := 420) (by decide +kernel)⟩
theorem lw_p12 : lw_okq (⟨"SupplyGrid$Asking", "beginRound", "(I)V"⟩, 8) := ⟨⟨by decide +kernel, by decide +kernel⟩, List.mem_of_getElem? (i := 51) (by decide +kernel), List.mem_of_getElem? (i := 430) (by decide +kernel), List.mem_of_getElem? (i := 431) (by decide +kernel)⟩
theorem lw_p13 : lw_okq (⟨"SupplyGrid", "sendToAll", "(LSupplyGrid$Desk;II)I"⟩, 4) := ⟨⟨by decide +kernel, by decide +kernel⟩, List.mem_of_getElem? (i := 17) (by decide +kernel), List.mem_of_getElem? (i := 434) (by decide +kernel), List.mem_of_getElem? (i := 435) (by decide +kernel)⟩
theorem lw_p14 : lw_okq (⟨"SupplyGrid$Letter", "write", "(IIIIILSupplyGrid$Pairs;)V"⟩, 9) := ⟨⟨by decide +kernel, by decide +kernel⟩, List.mem_of_getElem? (i := 139) (by decide +kernel), List.mem_of_getElem? (i := 438) (by decide +kernel), List.mem_of_getElem? (i := 439) (by decide +kernel)⟩
theorem lw_p15 : lw_okq (⟨"SupplyGrid$Pairs", "become", "(LSupplyGrid$Pairs;)V"⟩, 2) := ⟨⟨by decide +kernel, by decide +kernel⟩, List.mem_of_getElem? (i := 33) (by decide +kernel), List.mem_of_getElem? (i := 442) (by decide +kernel), List.mem_of_getElem? (i := 443) (by decide +kernel)⟩
def lw_privs_1 : List (MethodName × Nat) := [(⟨"SupplyGrid$Asking", "end", "()V"⟩, 8), (⟨"SupplyGrid$Asking", "forgetAnswers", "()V"⟩, 8), (⟨"java/lang/Throwable", "fillInStackTrace", "(I)Ljava/lang/Throwable;"⟩, 6), (⟨"SupplyGrid", "needUp", "(I)V"⟩, 4), (⟨"SupplyGrid", "isUp", "(I)Z"⟩, 4), (⟨"SupplyGrid$Prescription", "letsAsk", "(LSupplyGrid$Desk;I)Z"⟩, 3), (⟨"SupplyGrid$Pairs", "last", "()I"⟩, 2), (⟨"SupplyGrid$Pairs", "of", "(I)I"⟩, 2), (⟨"SupplyGrid$Desk", "openSupply", "()I"⟩, 8), (⟨"SupplyGrid$Asking", "begin", "(II)V"⟩, 8), (⟨"SupplyGrid", "startRound", "(LSupplyGrid$Desk;)I"⟩, 4), (⟨"SupplyGrid$Desk", "nextNumber", "()I"⟩, 8), (⟨"SupplyGrid$Asking", "beginRound", "(I)V"⟩, 8), (⟨"SupplyGrid", "sendToAll", "(LSupplyGrid$Desk;II)I"⟩, 4), (⟨"SupplyGrid$Letter", "write", "(IIIIILSupplyGrid$Pairs;)V"⟩, 9), (⟨"SupplyGrid$Pairs", "become", "(LSupplyGrid$Pairs;)V"⟩, 2)]
theorem lw_r1 : ∀ q ∈ lw_privs_1, lw_okq q := List.forall_mem_cons.mpr ⟨lw_p0, List.forall_mem_cons.mpr ⟨lw_p1, List.forall_mem_cons.mpr ⟨lw_p2, List.forall_mem_cons.mpr ⟨lw_p3, List.forall_mem_cons.mpr ⟨lw_p4, List.forall_mem_cons.mpr ⟨lw_p5, List.forall_mem_cons.mpr ⟨lw_p6, List.forall_mem_cons.mpr ⟨lw_p7, List.forall_mem_cons.mpr ⟨lw_p8, List.forall_mem_cons.mpr ⟨lw_p9, List.forall_mem_cons.mpr ⟨lw_p10, List.forall_mem_cons.mpr ⟨lw_p11, List.forall_mem_cons.mpr ⟨lw_p12, List.forall_mem_cons.mpr ⟨lw_p13, List.forall_mem_cons.mpr ⟨lw_p14, List.forall_mem_cons.mpr ⟨lw_p15, fun _ h => absurd h List.not_mem_nil⟩⟩⟩⟩⟩⟩⟩⟩⟩⟩⟩⟩⟩⟩⟩⟩
theorem lw_p16 : lw_okq (⟨"SupplyGrid$LetterRow", "send", "(I)Z"⟩, 8) := ⟨⟨by decide +kernel, by decide +kernel⟩, List.mem_of_getElem? (i := 132) (by decide +kernel), List.mem_of_getElem? (i := 446) (by decide +kernel), List.mem_of_getElem? (i := 447) (by decide +kernel)⟩
theorem lw_p17 : lw_okq (⟨"SupplyGrid$LetterRow", "place", "(I)I"⟩, 8) := ⟨⟨by decide +kernel, by decide +kernel⟩, List.mem_of_getElem? (i := 132) (by decide +kernel), List.mem_of_getElem? (i := 450) (by decide +kernel), List.mem_of_getElem? (i := 451) (by decide +kernel)⟩
theorem lw_p18 : lw_okq (⟨"SupplyGrid$Letter", "become", "(LSupplyGrid$Letter;)V"⟩, 9) := ⟨⟨by decide +kernel, by decide +kernel⟩, List.mem_of_getElem? (i := 139) (by decide +kernel), List.mem_of_getElem? (i := 454) (by decide +kernel), List.mem_of_getElem? (i := 455) (by decide +kernel)⟩
theorem lw_p19 : lw_okq (⟨"SupplyGrid", "deskOf", "(II)LSupplyGrid$Desk;"⟩, 4) := ⟨⟨by decide +kernel, by decide +kernel⟩, List.mem_of_getElem? (i := 17) (by decide +kernel), List.mem_of_getElem? (i := 465) (by decide +kernel), List.mem_of_getElem? (i := 466) (by decide +kernel)⟩
theorem lw_p20 : lw_okq (⟨"SupplyGrid$Asking", "runs", "()Z"⟩, 8) := ⟨⟨by decide +kernel, by decide +kernel⟩, List.mem_of_getElem? (i := 51) (by decide +kernel), List.mem_of_getElem? (i := 469) (by decide +kernel), List.mem_of_getElem? (i := 470) (by decide +kernel)⟩
theorem lw_p21 : lw_okq (⟨"SupplyGrid", "needLetter", "(I)V"⟩, 4) := ⟨⟨by decide +kernel, by decide +kernel⟩, List.mem_of_getElem? (i := 17) (by decide +kernel), List.mem_of_getElem? (i := 481) (by decide +kernel), List.mem_of_getElem? (i := 482) (by decide +kernel)⟩
theorem lw_p22 : lw_okq (⟨"SupplyGrid$LetterRow", "take", "(I)LSupplyGrid$Letter;"⟩, 8) := ⟨⟨by decide +kernel, by decide +kernel⟩, List.mem_of_getElem? (i := 132) (by decide +kernel), List.mem_of_getElem? (i := 486) (by decide +kernel), List.mem_of_getElem? (i := 487) (by decide +kernel)⟩
theorem lw_p23 : lw_okq (⟨"SupplyGrid$LetterRow", "at", "(I)LSupplyGrid$Letter;"⟩, 8) := ⟨⟨by decide +kernel, by decide +kernel⟩, List.mem_of_getElem? (i := 132) (by decide +kernel), List.mem_of_getElem? (i := 490) (by decide +kernel), List.mem_of_getElem? (i := 491) (by decide +kernel)⟩
theorem lw_p24 : lw_okq (⟨"SupplyGrid", "handOver", "(LSupplyGrid$Letter;)I"⟩, 4) := ⟨⟨by decide +kernel, by decide +kernel⟩, List.mem_of_getElem? (i := 17) (by decide +kernel), List.mem_of_getElem? (i := 494) (by decide +kernel), List.mem_of_getElem? (i := 495) (by decide +kernel)⟩
theorem lw_p25 : lw_okq (⟨"SupplyGrid$Desk", "learnAll", "(LSupplyGrid$Pairs;)V"⟩, 8) := ⟨⟨by decide +kernel, by decide +kernel⟩, List.mem_of_getElem? (i := 27) (by decide +kernel), List.mem_of_getElem? (i := 498) (by decide +kernel), List.mem_of_getElem? (i := 499) (by decide +kernel)⟩
theorem lw_p26 : lw_okq (⟨"SupplyGrid$Pairs", "addMissing", "(LSupplyGrid$Pairs;)V"⟩, 2) := ⟨⟨by decide +kernel, by decide +kernel⟩, List.mem_of_getElem? (i := 33) (by decide +kernel), List.mem_of_getElem? (i := 502) (by decide +kernel), List.mem_of_getElem? (i := 503) (by decide +kernel)⟩
theorem lw_p27 : lw_okq (⟨"SupplyGrid$Pairs", "add", "(I)V"⟩, 2) := ⟨⟨by decide +kernel, by decide +kernel⟩, List.mem_of_getElem? (i := 33) (by decide +kernel), List.mem_of_getElem? (i := 506) (by decide +kernel), List.mem_of_getElem? (i := 507) (by decide +kernel)⟩
theorem lw_p28 : lw_okq (⟨"SupplyGrid$Desk", "openNext", "()V"⟩, 8) := ⟨⟨by decide +kernel, by decide +kernel⟩, List.mem_of_getElem? (i := 27) (by decide +kernel), List.mem_of_getElem? (i := 510) (by decide +kernel), List.mem_of_getElem? (i := 511) (by decide +kernel)⟩
theorem lw_p29 : lw_okq (⟨"SupplyGrid", "answerAsker", "(LSupplyGrid$Desk;LSupplyGrid$Letter;)I"⟩, 4) := ⟨⟨by decide +kernel, by decide +kernel⟩, List.mem_of_getElem? (i := 17) (by decide +kernel), List.mem_of_getElem? (i := 515) (by decide +kernel), List.mem_of_getElem? (i := 516) (by decide +kernel)⟩
theorem lw_p30 : lw_okq (⟨"SupplyGrid", "answer", "(LSupplyGrid$Desk;LSupplyGrid$Letter;III)I"⟩, 4) := ⟨⟨by decide +kernel, by decide +kernel⟩, List.mem_of_getElem? (i := 17) (by decide +kernel), List.mem_of_getElem? (i := 519) (by decide +kernel), List.mem_of_getElem? (i := 520) (by decide +kernel)⟩
theorem lw_p31 : lw_okq (⟨"SupplyGrid", "countPromise", "(LSupplyGrid$Desk;LSupplyGrid$Letter;)I"⟩, 4) := ⟨⟨by decide +kernel, by decide +kernel⟩, List.mem_of_getElem? (i := 17) (by decide +kernel), List.mem_of_getElem? (i := 523) (by decide +kernel), List.mem_of_getElem? (i := 524) (by decide +kernel)⟩
def lw_privs_2 : List (MethodName × Nat) := [(⟨"SupplyGrid$LetterRow", "send", "(I)Z"⟩, 8), (⟨"SupplyGrid$LetterRow", "place", "(I)I"⟩, 8), (⟨"SupplyGrid$Letter", "become", "(LSupplyGrid$Letter;)V"⟩, 9), (⟨"SupplyGrid", "deskOf", "(II)LSupplyGrid$Desk;"⟩, 4), (⟨"SupplyGrid$Asking", "runs", "()Z"⟩, 8), (⟨"SupplyGrid", "needLetter", "(I)V"⟩, 4), (⟨"SupplyGrid$LetterRow", "take", "(I)LSupplyGrid$Letter;"⟩, 8), (⟨"SupplyGrid$LetterRow", "at", "(I)LSupplyGrid$Letter;"⟩, 8), (⟨"SupplyGrid", "handOver", "(LSupplyGrid$Letter;)I"⟩, 4), (⟨"SupplyGrid$Desk", "learnAll", "(LSupplyGrid$Pairs;)V"⟩, 8), (⟨"SupplyGrid$Pairs", "addMissing", "(LSupplyGrid$Pairs;)V"⟩, 2), (⟨"SupplyGrid$Pairs", "add", "(I)V"⟩, 2), (⟨"SupplyGrid$Desk", "openNext", "()V"⟩, 8), (⟨"SupplyGrid", "answerAsker", "(LSupplyGrid$Desk;LSupplyGrid$Letter;)I"⟩, 4), (⟨"SupplyGrid", "answer", "(LSupplyGrid$Desk;LSupplyGrid$Letter;III)I"⟩, 4), (⟨"SupplyGrid", "countPromise", "(LSupplyGrid$Desk;LSupplyGrid$Letter;)I"⟩, 4)]
theorem lw_r2 : ∀ q ∈ lw_privs_2, lw_okq q := List.forall_mem_cons.mpr ⟨lw_p16, List.forall_mem_cons.mpr ⟨lw_p17, List.forall_mem_cons.mpr ⟨lw_p18, List.forall_mem_cons.mpr ⟨lw_p19, List.forall_mem_cons.mpr ⟨lw_p20, List.forall_mem_cons.mpr ⟨lw_p21, List.forall_mem_cons.mpr ⟨lw_p22, List.forall_mem_cons.mpr ⟨lw_p23, List.forall_mem_cons.mpr ⟨lw_p24, List.forall_mem_cons.mpr ⟨lw_p25, List.forall_mem_cons.mpr ⟨lw_p26, List.forall_mem_cons.mpr ⟨lw_p27, List.forall_mem_cons.mpr ⟨lw_p28, List.forall_mem_cons.mpr ⟨lw_p29, List.forall_mem_cons.mpr ⟨lw_p30, List.forall_mem_cons.mpr ⟨lw_p31, fun _ h => absurd h List.not_mem_nil⟩⟩⟩⟩⟩⟩⟩⟩⟩⟩⟩⟩⟩⟩⟩⟩
theorem lw_p32 : lw_okq (⟨"SupplyGrid$Asking", "waitsFor", "(LSupplyGrid$Letter;I)Z"⟩, 8) := ⟨⟨by decide +kernel, by decide +kernel⟩, List.mem_of_getElem? (i := 51) (by decide +kernel), List.mem_of_getElem? (i := 527) (by decide +kernel), List.mem_of_getElem? (i := 528) (by decide +kernel)⟩
theorem lw_p33 : lw_okq (⟨"SupplyGrid$Asking", "countAnswer", "(LSupplyGrid$Letter;)V"⟩, 8) := ⟨⟨by decide +kernel, by decide +kernel⟩, List.mem_of_getElem? (i := 51) (by decide +kernel), List.mem_of_getElem? (i := 531) (by decide +kernel), List.mem_of_getElem? (i := 532) (by decide +kernel)⟩
theorem lw_p34 : lw_okq (⟨"SupplyGrid$Asking", "beginPhaseTwo", "()V"⟩, 8) := ⟨⟨by decide +kernel, by decide +kernel⟩, List.mem_of_getElem? (i := 51) (by decide +kernel), List.mem_of_getElem? (i := 535) (by decide +kernel), List.mem_of_getElem? (i := 536) (by decide +kernel)⟩
theorem lw_p35 : lw_okq (⟨"SupplyGrid$Desk", "learn", "(I)V"⟩, 8) := ⟨⟨by decide +kernel, by decide +kernel⟩, List.mem_of_getElem? (i := 27) (by decide +kernel), List.mem_of_getElem? (i := 542) (by decide +kernel), List.mem_of_getElem? (i := 543) (by decide +kernel)⟩
theorem lw_p36 : lw_okq (⟨"SupplyGrid$Asking", "hearRefusal", "(LSupplyGrid$Letter;)V"⟩, 8) := ⟨⟨by decide +kernel, by decide +kernel⟩, List.mem_of_getElem? (i := 51) (by decide +kernel), List.mem_of_getElem? (i := 547) (by decide +kernel), List.mem_of_getElem? (i := 548) (by decide +kernel)⟩
theorem lw_p37 : lw_okq (⟨"SupplyGrid$LetterRow", "repeat", "(I)Z"⟩, 8) := ⟨⟨by decide +kernel, by decide +kernel⟩, List.mem_of_getElem? (i := 132) (by decide +kernel), List.mem_of_getElem? (i := 567) (by decide +kernel), List.mem_of_getElem? (i := 568) (by decide +kernel)⟩
theorem lw_p38 : lw_okq (⟨"SupplyGrid", "endAskings", "(I)V"⟩, 4) := ⟨⟨by decide +kernel, by decide +kernel⟩, List.mem_of_getElem? (i := 17) (by decide +kernel), List.mem_of_getElem? (i := 585) (by decide +kernel), List.mem_of_getElem? (i := 586) (by decide +kernel)⟩
theorem lw_p39 : lw_okq (⟨"SupplyGrid$Letter", "part", "(I)I"⟩, 9) := ⟨⟨by decide +kernel, by decide +kernel⟩, List.mem_of_getElem? (i := 139) (by decide +kernel), List.mem_of_getElem? (i := 604) (by decide +kernel), List.mem_of_getElem? (i := 605) (by decide +kernel)⟩
theorem lw_p40 : lw_okq (⟨"SupplyGrid$Desk", "part", "(I)I"⟩, 8) := ⟨⟨by decide +kernel, by decide +kernel⟩, List.mem_of_getElem? (i := 27) (by decide +kernel), List.mem_of_getElem? (i := 637) (by decide +kernel), List.mem_of_getElem? (i := 638) (by decide +kernel)⟩
theorem lw_p41 : lw_okq (⟨"SupplyGridModel", "fails", "(ZI)Z"⟩, 28) := ⟨⟨by decide +kernel, by decide +kernel⟩, List.mem_of_getElem? (i := 656) (by decide +kernel), List.mem_of_getElem? (i := 762) (by decide +kernel), List.mem_of_getElem? (i := 763) (by decide +kernel)⟩
theorem lw_p42 : lw_okq (⟨"SupplyGridModel", "endAsking", "(I)V"⟩, 28) := ⟨⟨by decide +kernel, by decide +kernel⟩, List.mem_of_getElem? (i := 656) (by decide +kernel), List.mem_of_getElem? (i := 777) (by decide +kernel), List.mem_of_getElem? (i := 778) (by decide +kernel)⟩
theorem lw_p43 : lw_okq (⟨"SupplyGridModel", "round", "(II)I"⟩, 28) := ⟨⟨by decide +kernel, by decide +kernel⟩, List.mem_of_getElem? (i := 656) (by decide +kernel), List.mem_of_getElem? (i := 781) (by decide +kernel), List.mem_of_getElem? (i := 782) (by decide +kernel)⟩
theorem lw_p44 : lw_okq (⟨"SupplyGridModel", "send", "(IIIIIIIII)V"⟩, 28) := ⟨⟨by decide +kernel, by decide +kernel⟩, List.mem_of_getElem? (i := 656) (by decide +kernel), List.mem_of_getElem? (i := 785) (by decide +kernel), List.mem_of_getElem? (i := 786) (by decide +kernel)⟩
theorem lw_p45 : lw_okq (⟨"SupplyGridModel", "handOver", "(I)I"⟩, 28) := ⟨⟨by decide +kernel, by decide +kernel⟩, List.mem_of_getElem? (i := 656) (by decide +kernel), List.mem_of_getElem? (i := 797) (by decide +kernel), List.mem_of_getElem? (i := 798) (by decide +kernel)⟩
theorem lw_p46 : lw_okq (⟨"SupplyGridModel", "take", "(I)V"⟩, 28) := ⟨⟨by decide +kernel, by decide +kernel⟩, List.mem_of_getElem? (i := 656) (by decide +kernel), List.mem_of_getElem? (i := 801) (by decide +kernel), List.mem_of_getElem? (i := 802) (by decide +kernel)⟩
theorem lw_p47 : lw_okq (⟨"SupplyGridModel", "comes", "()V"⟩, 28) := ⟨⟨by decide +kernel, by decide +kernel⟩, List.mem_of_getElem? (i := 656) (by decide +kernel), List.mem_of_getElem? (i := 805) (by decide +kernel), List.mem_of_getElem? (i := 806) (by decide +kernel)⟩
def lw_privs_3 : List (MethodName × Nat) := [(⟨"SupplyGrid$Asking", "waitsFor", "(LSupplyGrid$Letter;I)Z"⟩, 8), (⟨"SupplyGrid$Asking", "countAnswer", "(LSupplyGrid$Letter;)V"⟩, 8), (⟨"SupplyGrid$Asking", "beginPhaseTwo", "()V"⟩, 8), (⟨"SupplyGrid$Desk", "learn", "(I)V"⟩, 8), (⟨"SupplyGrid$Asking", "hearRefusal", "(LSupplyGrid$Letter;)V"⟩, 8), (⟨"SupplyGrid$LetterRow", "repeat", "(I)Z"⟩, 8), (⟨"SupplyGrid", "endAskings", "(I)V"⟩, 4), (⟨"SupplyGrid$Letter", "part", "(I)I"⟩, 9), (⟨"SupplyGrid$Desk", "part", "(I)I"⟩, 8), (⟨"SupplyGridModel", "fails", "(ZI)Z"⟩, 28), (⟨"SupplyGridModel", "endAsking", "(I)V"⟩, 28), (⟨"SupplyGridModel", "round", "(II)I"⟩, 28), (⟨"SupplyGridModel", "send", "(IIIIIIIII)V"⟩, 28), (⟨"SupplyGridModel", "handOver", "(I)I"⟩, 28), (⟨"SupplyGridModel", "take", "(I)V"⟩, 28), (⟨"SupplyGridModel", "comes", "()V"⟩, 28)]
theorem lw_r3 : ∀ q ∈ lw_privs_3, lw_okq q := List.forall_mem_cons.mpr ⟨lw_p32, List.forall_mem_cons.mpr ⟨lw_p33, List.forall_mem_cons.mpr ⟨lw_p34, List.forall_mem_cons.mpr ⟨lw_p35, List.forall_mem_cons.mpr ⟨lw_p36, List.forall_mem_cons.mpr ⟨lw_p37, List.forall_mem_cons.mpr ⟨lw_p38, List.forall_mem_cons.mpr ⟨lw_p39, List.forall_mem_cons.mpr ⟨lw_p40, List.forall_mem_cons.mpr ⟨lw_p41, List.forall_mem_cons.mpr ⟨lw_p42, List.forall_mem_cons.mpr ⟨lw_p43, List.forall_mem_cons.mpr ⟨lw_p44, List.forall_mem_cons.mpr ⟨lw_p45, List.forall_mem_cons.mpr ⟨lw_p46, List.forall_mem_cons.mpr ⟨lw_p47, fun _ h => absurd h List.not_mem_nil⟩⟩⟩⟩⟩⟩⟩⟩⟩⟩⟩⟩⟩⟩⟩⟩
theorem lw_p48 : lw_okq (⟨"SupplyGridModel", "learn", "(III)V"⟩, 28) := ⟨⟨by decide +kernel, by decide +kernel⟩, List.mem_of_getElem? (i := 656) (by decide +kernel), List.mem_of_getElem? (i := 809) (by decide +kernel), List.mem_of_getElem? (i := 810) (by decide +kernel)⟩
theorem lw_p49 : lw_okq (⟨"SupplyGridModel", "answers", "(IZIIIII)V"⟩, 28) := ⟨⟨by decide +kernel, by decide +kernel⟩, List.mem_of_getElem? (i := 656) (by decide +kernel), List.mem_of_getElem? (i := 813) (by decide +kernel), List.mem_of_getElem? (i := 814) (by decide +kernel)⟩
theorem lw_p50 : lw_okq (⟨"SupplyGridModel", "promisedBy", "(IIIII)V"⟩, 28) := ⟨⟨by decide +kernel, by decide +kernel⟩, List.mem_of_getElem? (i := 656) (by decide +kernel), List.mem_of_getElem? (i := 817) (by decide +kernel), List.mem_of_getElem? (i := 818) (by decide +kernel)⟩
theorem lw_p51 : lw_okq (⟨"SupplyGridModel", "hasEachColumn", "(I)Z"⟩, 28) := ⟨⟨by decide +kernel, by decide +kernel⟩, List.mem_of_getElem? (i := 656) (by decide +kernel), List.mem_of_getElem? (i := 821) (by decide +kernel), List.mem_of_getElem? (i := 822) (by decide +kernel)⟩
theorem lw_p52 : lw_okq (⟨"SupplyGridModel", "hasWholeColumn", "(I)Z"⟩, 28) := ⟨⟨by decide +kernel, by decide +kernel⟩, List.mem_of_getElem? (i := 656) (by decide +kernel), List.mem_of_getElem? (i := 825) (by decide +kernel), List.mem_of_getElem? (i := 826) (by decide +kernel)⟩
def lw_privs_4 : List (MethodName × Nat) := [(⟨"SupplyGridModel", "learn", "(III)V"⟩, 28), (⟨"SupplyGridModel", "answers", "(IZIIIII)V"⟩, 28), (⟨"SupplyGridModel", "promisedBy", "(IIIII)V"⟩, 28), (⟨"SupplyGridModel", "hasEachColumn", "(I)Z"⟩, 28), (⟨"SupplyGridModel", "hasWholeColumn", "(I)Z"⟩, 28)]
theorem lw_r4 : ∀ q ∈ lw_privs_4, lw_okq q := List.forall_mem_cons.mpr ⟨lw_p48, List.forall_mem_cons.mpr ⟨lw_p49, List.forall_mem_cons.mpr ⟨lw_p50, List.forall_mem_cons.mpr ⟨lw_p51, List.forall_mem_cons.mpr ⟨lw_p52, fun _ h => absurd h List.not_mem_nil⟩⟩⟩⟩⟩
def lw_privs : List (MethodName × Nat) := lw_privs_1 ++ (lw_privs_2 ++ (lw_privs_3 ++ (lw_privs_4)))
def lw_tbl : List Cond := k2_sels lw_privs ++ tables_1
theorem lw_privs_ok : ∀ q ∈ lw_privs, lw_okq q := by
  show ∀ q ∈ lw_privs_1 ++ (lw_privs_2 ++ (lw_privs_3 ++ (lw_privs_4))), lw_okq q
  exact List.forall_mem_append.mpr ⟨lw_r1, List.forall_mem_append.mpr ⟨lw_r2, List.forall_mem_append.mpr ⟨lw_r3, lw_r4⟩⟩⟩
end
section
/-! THE STORE: a world is a map from addresses to cells: no two names for one cell, so no distinctness to carry. -/
abbrev mp_M : Type := Nat → Option va_E
def mp_up (σ : mp_M) (a : Nat) (e : va_E) : mp_M := fun q => if q = a then some e else σ q
theorem mp_us (σ : mp_M) (a : Nat) (e : va_E) : mp_up σ a e a = some e := if_pos rfl
theorem mp_un (σ : mp_M) {a q : Nat} (e : va_E) (h : q ≠ a) : mp_up σ a e q = σ q := if_neg h
theorem mp_uu (σ : mp_M) (a : Nat) (e e' : va_E) : mp_up (mp_up σ a e) a e' = mp_up σ a e' := by
  funext q
  by_cases h : q = a
  · subst h; rw [mp_us, mp_us]
  · rw [mp_un _ _ h, mp_un _ _ h, mp_un _ _ h]
theorem mp_uc (σ : mp_M) {a b : Nat} (e e' : va_E) (h : a ≠ b) : mp_up (mp_up σ a e) b e' = mp_up (mp_up σ b e') a e := by
  funext q
  by_cases h1 : q = a
  · subst h1; rw [mp_un _ _ h, mp_us, mp_us]
  · by_cases h2 : q = b
    · subst h2; rw [mp_us, mp_un _ _ h1, mp_us]
    · rw [mp_un _ _ h2, mp_un _ _ h1, mp_un _ _ h1, mp_un _ _ h2]
theorem mp_id (σ : mp_M) {a : Nat} {e : va_E} (h : σ a = some e) : mp_up σ a e = σ := by
  funext q
  by_cases h1 : q = a
  · subst h1; rw [mp_us, h]
  · rw [mp_un _ _ h1]
/-- two cells of different contents lie apart -/
theorem mp_ne {σ : mp_M} {a b : Nat} {x y : va_E} (ha : σ a = some x) (hb : σ b = some y) (h : x ≠ y) : a ≠ b := by
  intro e
  subst e
  rw [ha] at hb
  exact h (Option.some.inj hb)
theorem mp_neC {σ : mp_M} {a b i j : Nat} {x y : List Value} (ha : σ a = some (.inr (i, x))) (hb : σ b = some (.inr (j, y))) (h : i ≠ j) : a ≠ b :=
  mp_ne ha hb (fun e => h (congrArg Prod.fst (Sum.inr.inj e)))
theorem mp_neA {σ : mp_M} {a b j : Nat} {x : ClassId × vp_A} {y : List Value} (ha : σ a = some (.inl x)) (hb : σ b = some (.inr (j, y))) : a ≠ b :=
  mp_ne ha hb (fun e => by cases e)
theorem mp_neO {σ : mp_M} {a b j : Nat} {x : ClassId × vp_A} {y : List Value} (hb : σ b = some (.inr (j, y))) (ha : σ a = some (.inl x)) : b ≠ a := Ne.symm (mp_neA ha hb)
/-- the heap holds the store; all of it lies from 'base' on -/
def mp_H (D : va_G) (cl : List vw_C) (base : Nat) (σ : mp_M) (H : Heap) : Prop := ∀ (a : Nat) (e : va_E), σ a = some e → base ≤ a ∧ va_at D cl (a, e) H
theorem mp_H.one {D : va_G} {cl : List vw_C} {base : Nat} {σ : mp_M} {H : Heap} (h : mp_H D cl base σ H) {a : Nat} {e : va_E} (hs : σ a = some e) : va_P D cl [(a, e)] H := by
  intro k q hk
  cases k with
  | zero =>
    have hq : q = (a, e) := by simpa using hk.symm
    subst hq
    exact (h a e hs).2
  | succ k => simp at hk
theorem mp_H.lt {D : va_G} {cl : List vw_C} {base : Nat} {σ : mp_M} {H : Heap} (h : mp_H D cl base σ H) {a : Nat} {e : va_E} (hs : σ a = some e) : a < H.size := (h a e hs).2.lt
theorem mp_H.ge {D : va_G} {cl : List vw_C} {base : Nat} {σ : mp_M} {H : Heap} (h : mp_H D cl base σ H) {a : Nat} {e : va_E} (hs : σ a = some e) : base ≤ a := (h a e hs).1
theorem mp_H.none {D : va_G} {cl : List vw_C} {base : Nat} {σ : mp_M} {H : Heap} (h : mp_H D cl base σ H) {a : Nat} (ha : H.size ≤ a) : σ a = none := by
  cases hs : σ a with
  | none => rfl
  | some e => exact absurd (h.lt hs) (by omega)
theorem mp_H.set {D : va_G} {cl : List vw_C} {base : Nat} {σ : mp_M} {H H1 : Heap} (h : mp_H D cl base σ H) {a : Nat} {e0 e : va_E} (hs : σ a = some e0) (he : va_at D cl (a, e) H1) (oq : ∀ q : Nat, q ≠ a → H1[q]? = H[q]?) : mp_H D cl base (mp_up σ a e) H1 := by
  intro q x hq
  by_cases hqa : q = a
  · subst hqa
    rw [mp_us] at hq
    cases hq
    exact ⟨(h q e0 hs).1, he⟩
  · rw [mp_un _ _ hqa] at hq
    exact ⟨(h q x hq).1, (h q x hq).2.kept (oq q hqa)⟩
theorem mp_H.push {D : va_G} {cl : List vw_C} {base : Nat} {σ : mp_M} {H H1 : Heap} (h : mp_H D cl base σ H) {e : va_E} (hb : base ≤ H.size) (he : va_at D cl (H.size, e) H1) (o1 : ∀ q : Nat, q < H.size → H1[q]? = H[q]?) : mp_H D cl base (mp_up σ H.size e) H1 := by
  intro q x hq
  by_cases hqa : q = H.size
  · subst hqa
    rw [mp_us] at hq
    cases hq
    exact ⟨hb, he⟩
  · rw [mp_un _ _ hqa] at hq
    exact ⟨(h q x hq).1, (h q x hq).2.kept (o1 q (h.lt hq))⟩
theorem mp_H.grow {D : va_G} {cl : List vw_C} {base : Nat} {σ : mp_M} {H H1 : Heap} (h : mp_H D cl base σ H) (o1 : ∀ q : Nat, q < H.size → H1[q]? = H[q]?) : mp_H D cl base σ H1 :=
  fun q x hq => ⟨(h q x hq).1, (h q x hq).2.kept (o1 q (h.lt hq))⟩
/-- what may change: what lies from base on -/
abbrev mp_A (base : Nat) : Nat → Prop := fun q => base ≤ q
theorem mp_A0 {base : Nat} {H0 : Heap} (h : base ≤ H0.size) : ∀ q, H0.size ≤ q → mp_A base q := fun _ hq => Nat.le_trans h hq
end
section
/-! ROWS over a store: reads and writes of fields and arrays, new cells. -/
/-- what a walk rests on: the machine, the method's bytes, its class, the tables' words, the classes as the tables have them -/
def mp_X (WT : List Cond) (D : va_G) (cl : List vw_C) (tys : List (ClassId × FieldType)) (p : Program) (s : State) (m : MethodId) (args : Array Value) (c : Code) (cc : ByteArray) (nL : Nat) (own : String) : Prop :=
  p.tables.exec = Jvm.exec ∧ c.code = cc ∧ c.maxLocals = nL ∧ s.vm.findClass own = some m.cls ∧ (∀ w ∈ WT, w.before args s = true) ∧ va_K D cl tys s
/-- a field as an instruction of class 'own' names it: field k of class ci -/
def mp_FL (cl : List vw_C) (WT : List Cond) (own : String) (index ci k : Nat) : Prop :=
  ∃ (C : String) (T : u_T) (N : Nat), cl[ci]? = some (C, T, N) ∧ k < N ∧ (∀ w ∈ u_ws C T N, w ∈ WT) ∧ (Cond.fieldLink own index (T k).1 (T k).2.1 (T k).2.2.1 ∈ WT ∨ ∃ host, Cond.fieldLinkNest own index (T k).1 (T k).2.1 (T k).2.2.1 host ∈ WT)
/-- the same, to be written: its type, the other fields have other names -/
def mp_FP (cl : List vw_C) (WT : List Cond) (own : String) (index ci k : Nat) (ty : FieldType) (fin : Bool) : Prop :=
  ∃ (C : String) (T : u_T) (N : Nat) (ty0 : Nat → FieldType), cl[ci]? = some (C, T, N) ∧ k < N ∧ (∀ w ∈ u_ws C T N, w ∈ WT) ∧ (Cond.fieldLink own index (T k).1 (T k).2.1 (T k).2.2.1 ∈ WT ∨ ∃ host, Cond.fieldLinkNest own index (T k).1 (T k).2.1 (T k).2.2.1 host ∈ WT) ∧
    (∀ j, j < N → parseFieldDescriptor (T j).2.2.1 = some (ty0 j)) ∧ (∀ a, a < N → ∀ b, b < N → a ≠ b → (T a).2.1 ≠ (T b).2.1) ∧ ty0 k = ty ∧ (T k).2.2.2 = fin
section MPR
variable {p : Program} {l : Launch} {e : Env} {R : Room} {s : State} {m : MethodId} {args : Array Value} {below : List Frame} {meth : Method} {c : Code} {H : Heap} {locs : List Loc} {cells slots : Nat} {Q : State → Prop}
variable {cc : ByteArray} {nL pc : Nat} {ls : Array Slot} {rest : List Value} {WT : List Cond} {D : va_G} {cl : List vw_C} {base : Nat} {σ : mp_M} {a : Nat} {tys : List (ClassId × FieldType)} {H0 : Heap} {own : String}
theorem mp_get (x : mp_X WT D cl tys p s m args c cc nL own) (hH : mp_H D cl base σ H) {index ci k : Nat} {fs : List Value} (hs : σ a = some (.inr (ci, fs))) (fl : mp_FL cl WT own index ci k) {v : Value} (hv : fs[k]? = some v) (hdg : decode cc pc = .ok (.getfield index, 3))
    (kk : W p l e R s m args below meth c H locs cells slots Q (F0 m (pc + 3) ls (v :: rest))) : W p l e R s m args below meth c H locs cells slots Q (F0 m pc ls (.ref a :: rest)) := by
  obtain ⟨hx, hb, -, hown, hts, hK⟩ := x
  obtain ⟨C, T, N, hc, hk, hin, hl⟩ := fl
  rcases hl with hl | ⟨host, hl⟩
  · exact va_get hx hb hts hin hown hK (hH.one hs) 0 rfl hc k hk (hts _ hl) (fun _ h => h) hv hdg kk
  · exact va_getN hx hb hts hin hown hK (hH.one hs) 0 rfl hc k hk (hts _ hl) (fun _ h => h) hv hdg kk
theorem mp_put (x : mp_X WT D cl tys p s m args c cc nL own) (hH : mp_H D cl base σ H) (hS0 : va_S (mp_A base) H0 H locs) {index ci k : Nat} {fs : List Value} (hs : σ a = some (.inr (ci, fs))) {ty : FieldType} (fl : mp_FP cl WT own index ci k ty false) {v : Value} (hn : narrow ty v = v) (hfit : fits ty v = true) (hlen : k < fs.length) (hdg : decode cc pc = .ok (.putfield index, 3))
    (kk : ∀ (H1 : Heap) (locs1 : List Loc), mp_H D cl base (mp_up σ a (.inr (ci, fs.set k v))) H1 → va_S (mp_A base) H0 H1 locs1 → W p l e R s m args below meth c H1 locs1 cells slots Q (F0 m (pc + 3) ls rest)) : W p l e R s m args below meth c H locs cells slots Q (F0 m pc ls (v :: .ref a :: rest)) := by
  obtain ⟨hx, hb, -, hown, hts, hK⟩ := x
  obtain ⟨C, T, N, ty0, hc, hk, hin, hl, hty, hnm, hd, hfin⟩ := fl
  have hap := va_apart (own := own) hts hin ty0 hty hnm hK hc
  obtain ⟨r, h1, cell, q1, q2, q3, q4⟩ := (hH a _ hs).2
  have hr : r = (C, T, N) := Option.some.inj (h1.symm.trans hc)
  subst hr
  obtain ⟨hS, hfc, kC, hkC, hkind⟩ := hK.1 ci _ hc
  obtain ⟨cf, kf, fi, f, hi, hsl⟩ := hS k hk
  have hlay := hts _ (hin _ (u_in_lay hk))
  unfold u_lay at hlay
  rw [if_neg (by rw [hfin]; decide)] at hlay
  have hst := (u_facts hfc hkC (u_lays hts hin hk) hi).1
  have h6 := u_store hfc hkC hkind hlay hi (hty k hk) (by rw [hd]; exact hn) (by rw [hd]; exact hfit)
  have fin : ∀ H' : Heap, H'[a]? = some (cell.setSlot f.slot v) → H'.size = H.size → (∀ q, q ≠ a → H'[q]? = H[q]?) → W p l e R s m args below meth c H' (locs ++ [⟨a, f.slot⟩]) cells slots Q (F0 m (pc + 3) ls rest) := by
    intro H' e1 e2 e3
    rw [hsl] at e1 ⊢
    exact kk H' _ (hH.set hs ⟨_, hc, t_OB.to (V := updV (vp_V fs) k v) ⟨_, e1, q2, q3, t_set q4 hap hk v⟩ (fun j _ => vp_updV_set hlen v j)⟩ e3) (hS0.put e2 e3 (hH.ge hs))
  rcases hl with hl | ⟨host, hl⟩
  · exact W.putK hx hb (f := f) ⟨hown, hts _ hl, ⟨_, _, _, hi⟩, hst⟩ (by rw [q2]; exact h6) q1 q3 (by rw [hsl]; exact k2_hasslot (q4 k hk)) rfl rfl hdg fin
  · exact va_WputK hx hb (f := f) hown (hts _ hl) hi hst (by rw [q2]; exact h6) q1 q3 (by rw [hsl]; exact k2_hasslot (q4 k hk)) rfl rfl hdg fin
/-- a final field, in a constructor of its class -/
theorem mp_putF (x : mp_X WT D cl tys p s m args c cc nL own) (hin2 : meth.name = "<init>") (hH : mp_H D cl base σ H) (hS0 : va_S (mp_A base) H0 H locs) {index ci k : Nat} {fs : List Value} (hs : σ a = some (.inr (ci, fs))) {C : String} {T : u_T} {N : Nat} {ty0 : Nat → FieldType} (hc : cl[ci]? = some (C, T, N)) (hk : k < N) (hin : ∀ w ∈ u_ws C T N, w ∈ WT) (hl : Cond.fieldLink own index (T k).1 (T k).2.1 (T k).2.2.1 ∈ WT) (hty : ∀ j, j < N → parseFieldDescriptor (T j).2.2.1 = some (ty0 j)) (hnm : ∀ a, a < N → ∀ b, b < N → a ≠ b → (T a).2.1 ≠ (T b).2.1) (hfin : (T k).2.2.2 = true) (hdecl : (T k).1 = own)
    {v : Value} (hn : narrow (ty0 k) v = v) (hfit : fits (ty0 k) v = true) (hlen : k < fs.length) (hdg : decode cc pc = .ok (.putfield index, 3))
    (kk : ∀ (H1 : Heap) (locs1 : List Loc), mp_H D cl base (mp_up σ a (.inr (ci, fs.set k v))) H1 → va_S (mp_A base) H0 H1 locs1 → W p l e R s m args below meth c H1 locs1 cells slots Q (F0 m (pc + 3) ls rest)) : W p l e R s m args below meth c H locs cells slots Q (F0 m pc ls (v :: .ref a :: rest)) := by
  obtain ⟨hx, hb, -, hown, hts, hK⟩ := x
  have hap := va_apart (own := own) hts hin ty0 hty hnm hK hc
  obtain ⟨r, h1, cell, q1, q2, q3, q4⟩ := (hH a _ hs).2
  have hr : r = (C, T, N) := Option.some.inj (h1.symm.trans hc)
  subst hr
  obtain ⟨hS, hfc, kC, hkC, hkind⟩ := hK.1 ci _ hc
  obtain ⟨cf, kf, fi, f, hi, hsl⟩ := hS k hk
  have hlay := hts _ (hin _ (u_in_lay hk))
  unfold u_lay at hlay
  rw [if_pos hfin] at hlay
  have hst := (u_facts hfc hkC (u_lays hts hin hk) hi).1
  have hcf : m.cls = cf := by
    obtain ⟨_, _, c', _, _, _, -, -, hf', -, -, -, hown2, -⟩ := Cond.laysFinal_spec hlay
    have e1 : c' = cf := by have := hi.symm.trans hf'; simp at this; exact this.1.symm
    rw [hdecl] at hown2
    rw [← e1]; exact Option.some.inj (hown.symm.trans hown2)
  have h6 := u_fits hfc hkC hkind (Or.inr hlay) hi (hty k hk) hn hfit
  refine W.putFinK hx hb hown (hts _ hl) hi hst hcf hin2 (by rw [q2]; exact h6) q1 q3 (by rw [hsl]; exact k2_hasslot (q4 k hk)) rfl rfl hdg fun H' e1 e2 e3 => ?_
  rw [hsl] at e1 ⊢
  exact kk H' _ (hH.set hs ⟨_, hc, t_OB.to (V := updV (vp_V fs) k v) ⟨_, e1, q2, q3, t_set q4 hap hk v⟩ (fun j _ => vp_updV_set hlen v j)⟩ e3) (hS0.put e2 e3 (hH.ge hs))
theorem mp_iald (x : mp_X WT D cl tys p s m args c cc nL own) (hH : mp_H D cl base σ H) (t0 : Nat) {cA : ClassId} {n : Nat} {f : Nat → Int32} (hs : σ a = some (.inl (cA, n, .inl f))) (ht : tys[t0]? = some (cA, .int)) {i : Int32} (hin : vp_in i n) (hdg : decode cc pc = .ok (.iaload, 1))
    (kk : W p l e R s m args below meth c H locs cells slots Q (F0 m (pc + 1) ls (.int (f i.toNatClampNeg) :: rest))) : W p l e R s m args below meth c H locs cells slots Q (F0 m pc ls (.int i :: .ref a :: rest)) :=
  va_iald x.1 x.2.1 x.2.2.2.2.2 (hH.one hs) 0 t0 rfl ht hin hdg kk
theorem mp_iast (x : mp_X WT D cl tys p s m args c cc nL own) (hH : mp_H D cl base σ H) (hS0 : va_S (mp_A base) H0 H locs) (t0 : Nat) {cA : ClassId} {n : Nat} {f : Nat → Int32} (hs : σ a = some (.inl (cA, n, .inl f))) (ht : tys[t0]? = some (cA, .int)) {i v : Int32} (hin : vp_in i n) (hdg : decode cc pc = .ok (.iastore, 1))
    (kk : ∀ (H1 : Heap) (locs1 : List Loc), mp_H D cl base (mp_up σ a (.inl (cA, n, .inl (upd f i.toNatClampNeg v)))) H1 → va_S (mp_A base) H0 H1 locs1 → W p l e R s m args below meth c H1 locs1 cells slots Q (F0 m (pc + 1) ls rest)) : W p l e R s m args below meth c H locs cells slots Q (F0 m pc ls (.int v :: .int i :: .ref a :: rest)) := by
  refine W.iast x.1 x.2.1 (hH a _ hs).2 ((x.2.2.2.2.2.2 t0 _ ht).1 n (fun j => .int (f j))) (fun q => by cases q) (by show ¬ (i < 0 ∨ (arrV _ _ _).slots.size ≤ _); rw [arrV_size]; exact hin) rfl rfl hdg fun H1 e z oq => ?_
  refine kk H1 _ (hH.set hs ?_ oq) (hS0.put z oq (hH.ge hs))
  show H1[a]? = some (vp_cell _ _)
  rw [e, vp_cell_i, vp_cell_i, arrV_store]
  congr 2
  funext q
  by_cases hq : q = i.toNatClampNeg
  · subst hq
    simp [updV, upd]
  · simp [updV, upd, hq]
theorem mp_lald (x : mp_X WT D cl tys p s m args c cc nL own) (hH : mp_H D cl base σ H) (t0 : Nat) {cA : ClassId} {n : Nat} {f : Nat → Int64} (hs : σ a = some (.inl (cA, n, .inr (.inl f)))) (ht : tys[t0]? = some (cA, .long)) {i : Int32} (hin : vp_in i n) (hdg : decode cc pc = .ok (.laload, 1))
    (kk : W p l e R s m args below meth c H locs cells slots Q (F0 m (pc + 1) ls (.long (f i.toNatClampNeg) :: rest))) : W p l e R s m args below meth c H locs cells slots Q (F0 m pc ls (.int i :: .ref a :: rest)) :=
  va_lald x.1 x.2.1 x.2.2.2.2.2 (hH.one hs) 0 t0 rfl ht hin hdg kk
theorem mp_last (x : mp_X WT D cl tys p s m args c cc nL own) (hH : mp_H D cl base σ H) (hS0 : va_S (mp_A base) H0 H locs) (t0 : Nat) {cA : ClassId} {n : Nat} {f : Nat → Int64} (hs : σ a = some (.inl (cA, n, .inr (.inl f)))) (ht : tys[t0]? = some (cA, .long)) {i : Int32} {v : Int64} (hin : vp_in i n) (hdg : decode cc pc = .ok (.lastore, 1))
    (kk : ∀ (H1 : Heap) (locs1 : List Loc), mp_H D cl base (mp_up σ a (.inl (cA, n, .inr (.inl (vp_updL f i.toNatClampNeg v))))) H1 → va_S (mp_A base) H0 H1 locs1 → W p l e R s m args below meth c H1 locs1 cells slots Q (F0 m (pc + 1) ls rest)) : W p l e R s m args below meth c H locs cells slots Q (F0 m pc ls (.long v :: .int i :: .ref a :: rest)) := by
  refine W.last x.1 x.2.1 (hH a _ hs).2 ((x.2.2.2.2.2.2 t0 _ ht).1 n (fun j => .long (f j))) (fun q => by cases q) (by show ¬ (i < 0 ∨ (arrV _ _ _).slots.size ≤ _); rw [arrV_size]; exact hin) rfl rfl hdg fun H1 e z oq => ?_
  refine kk H1 _ (hH.set hs ?_ oq) (hS0.put z oq (hH.ge hs))
  show H1[a]? = some (vp_cell _ _)
  rw [e, vp_cell_l, vp_cell_l, arrV_store]
  congr 2
  funext q
  by_cases hq : q = i.toNatClampNeg
  · subst hq
    simp [updV, vp_updL]
  · simp [updV, vp_updL, hq]
theorem mp_aald (x : mp_X WT D cl tys p s m args c cc nL own) (hH : mp_H D cl base σ H) (t0 : Nat) {cA : ClassId} {C : String} {n : Nat} {f : Nat → Option Nat} (hs : σ a = some (.inl (cA, n, .inr (.inr (.inr (.inr f)))))) (ht : tys[t0]? = some (cA, .object C)) {i : Int32} (hin : vp_in i n) (hdg : decode cc pc = .ok (.aaload, 1))
    (kk : W p l e R s m args below meth c H locs cells slots Q (F0 m (pc + 1) ls (va_rf (f i.toNatClampNeg) :: rest))) : W p l e R s m args below meth c H locs cells slots Q (F0 m pc ls (.int i :: .ref a :: rest)) :=
  va_aldq x.1 x.2.1 x.2.2.2.2.2 (hH.one hs) 0 t0 rfl ht hin hdg kk
theorem mp_aast (x : mp_X WT D cl tys p s m args c cc nL own) (hH : mp_H D cl base σ H) (hS0 : va_S (mp_A base) H0 H locs) (t0 : Nat) {cA : ClassId} {r : vw_C} {n v ci : Nat} {vs : List Value} {f : Nat → Option Nat} (hs : σ a = some (.inl (cA, n, .inr (.inr (.inr (.inr f)))))) (ht : tys[t0]? = some (cA, .object r.1)) (hv : σ v = some (.inr (ci, vs))) (hc : cl[ci]? = some r) {i : Int32} (hin : vp_in i n) (hdg : decode cc pc = .ok (.aastore, 1))
    (kk : ∀ (H1 : Heap) (locs1 : List Loc), mp_H D cl base (mp_up σ a (.inl (cA, n, .inr (.inr (.inr (.inr (va_up f i.toNatClampNeg (some v)))))))) H1 → va_S (mp_A base) H0 H1 locs1 → W p l e R s m args below meth c H1 locs1 cells slots Q (F0 m (pc + 1) ls rest)) : W p l e R s m args below meth c H locs cells slots Q (F0 m pc ls (.ref v :: .int i :: .ref a :: rest)) := by
  have hlt : i.toNatClampNeg < n := Nat.not_le.mp fun q => hin (Or.inr q)
  have h0 : ¬ i < 0 := fun q => hin (Or.inl q)
  obtain ⟨r', hr', cellV, g1, g2, g3, -⟩ := (hH v _ hv).2
  have hcls := (x.2.2.2.2.2.1 ci r hc).2
  obtain ⟨kA, comp, k1, k2, k3, -⟩ := (x.2.2.2.2.2.2 t0 _ ht).2
  have hcomp : comp = D.1 ci := Option.some.inj (k3.symm.trans hcls.1)
  subst hcomp
  obtain ⟨kC, hkC, -⟩ := id hcls.2
  refine W.aast x.1 x.2.1 (hH a _ hs).2 (fun q h => by cases h) (fun h => by cases h) k1 k2 rfl hkC ⟨h0, by show _ < (arrV _ _ _).slots.size; rw [arrV_size]; exact hlt⟩ g1 (fun q h => by rw [g3] at h; cases h) (by rw [g2]; exact hkC) (by rw [g2]; exact va_assign hcls) rfl rfl hdg fun H1 e z oq => ?_
  refine kk H1 _ (hH.set hs ?_ oq) (hS0.put z oq (hH.ge hs))
  show H1[a]? = some (vp_cell _ _)
  rw [e, vp_cell_q, vp_cell_q, arrV_store]
  congr 2
  funext q
  by_cases hq : q = i.toNatClampNeg
  · subst hq
    simp [updV, va_up, va_rf]
  · simp [updV, va_up, hq]
/-- a new object: the next cell -/
theorem mp_new (x : mp_X WT D cl tys p s m args c cc nL own) (hH : mp_H D cl base σ H) (hS : va_S (mp_A base) H0 H locs) (hB : base ≤ H0.size) {C : String} {T : u_T} {N ci index : Nat} (ty : Nat → FieldType) (hty : ∀ k, k < N → parseFieldDescriptor (T k).2.2.1 = some (ty k)) (hin : ∀ w ∈ u_ws C T N, w ∈ WT) (hcl : Cond.classLink own index C ∈ WT) (hinst : Cond.instantiable C N ∈ WT) (hini : Cond.initialized C ∈ WT)
    (hc : cl[ci]? = some (C, T, N)) {fs : List Value} (hfs : ∀ j, j < N → defaultValue (ty j) = vp_V fs j) (hcells : cells + 1 ≤ R.cells) (hslots : slots + N ≤ R.slots) (hdg : decode cc pc = .ok (.new index, 3))
    (kk : ∀ (q : Nat) (H1 : Heap), q = H.size → σ q = none → H1.size = H.size + 1 → mp_H D cl base (mp_up σ q (.inr (ci, fs))) H1 → va_S (mp_A base) H0 H1 locs →
      W p l e R s m args below meth c H1 locs (cells + 1) (slots + N) Q (F0 m (pc + 3) ls (.ref q :: rest))) : W p l e R s m args below meth c H locs cells slots Q (F0 m pc ls rest) := by
  obtain ⟨hx, hb, -, hown, hts, hK⟩ := x
  have hKn := hK.1 ci _ hc
  refine W.newcK hx hb hown (hts _ hcl) (hts _ hinst) (hts _ hini) rfl hdg hcells hslots hKn.2.1 rfl fun H1 kC hkC e1 z1 o1 => ?_
  exact kk H.size H1 rfl (hH.none (Nat.le_refl _)) z1 (hH.push (Nat.le_trans hB hS.1) ⟨_, hc, (u_born ty hts hin hKn hkC e1 hty).to hfs⟩ o1) ⟨Nat.le_trans hS.1 (by omega), fun x h1 h2 => (o1 x (Nat.lt_of_lt_of_le h1 hS.1)).trans (hS.2.1 x h1 h2), hS.2.2⟩
/-- a new array of numbers, of a class that is known -/
theorem mp_newa (x : mp_X WT D cl tys p s m args c cc nL own) (hH : mp_H D cl base σ H) (hS : va_S (mp_A base) H0 H locs) (hB : base ≤ H0.size) {atype : ArrayType} (harr : Cond.arrayClass (newarray.typeOf atype) ∈ WT) {ty : FieldType} (hty : newarray.typeOf atype = ty) (t0 : Nat) {cA : ClassId} (ht : tys[t0]? = some (cA, ty)) (hty2 : ∀ C, ty ≠ .object C)
    {n : Int32} {N' : Nat} {a0 : vp_A} (ha : ∀ cA : ClassId, vp_cell cA a0 = arrV cA N' (fun _ => defaultValue ty)) (hn : ¬ n < 0) (hN : n.toNatClampNeg = N') (hbytes : N' * componentBytes ty ≤ 536870912) (hcells : cells + 1 ≤ R.cells) (hslots : slots + N' ≤ R.slots) (hdg : decode cc pc = .ok (.newarray atype, 2))
    (kk : ∀ (q : Nat) (H1 : Heap), q = H.size → σ q = none → H1.size = H.size + 1 → mp_H D cl base (mp_up σ q (.inl (cA, a0))) H1 → va_S (mp_A base) H0 H1 locs →
      W p l e R s m args below meth c H1 locs (cells + 1) (slots + N') Q (F0 m (pc + 2) ls (.ref q :: rest))) : W p l e R s m args below meth c H locs cells slots Q (F0 m pc ls (.int n :: rest)) := by
  subst hty
  refine va_newaK x.1 x.2.1 (x.2.2.2.2.1 _ harr) rfl hdg rfl hn hN hbytes hcells hslots rfl fun H1 cA' e1 z1 o1 hAr hNm => ?_
  have hcA : cA' = cA := by
    have h := (x.2.2.2.2.2.2 t0 _ ht).2
    cases atype <;> exact Option.some.inj (hNm.symm.trans h)
  subst hcA
  refine kk H.size H1 rfl (hH.none (Nat.le_refl _)) z1 (hH.push (Nat.le_trans hB hS.1) ?_ o1) ⟨Nat.le_trans hS.1 (by omega), fun x h1 h2 => (o1 x (Nat.lt_of_lt_of_le h1 hS.1)).trans (hS.2.1 x h1 h2), hS.2.2⟩
  show H1[H.size]? = some (vp_cell _ _)
  rw [ha]
  exact e1
/-- a new array of references, of a class that is known -/
theorem mp_newq (x : mp_X WT D cl tys p s m args c cc nL own) (hH : mp_H D cl base σ H) (hS : va_S (mp_A base) H0 H locs) (hB : base ≤ H0.size) {C : String} {index : Nat} (hcl : Cond.classLink own index C ∈ WT) (hover : Cond.arrayOver (.object C) ∈ WT) (t0 : Nat) {cA : ClassId} (ht : tys[t0]? = some (cA, .object C))
    {n : Int32} {N' : Nat} (hn : ¬ n < 0) (hN : n.toNatClampNeg = N') (hbytes : N' * 4 ≤ 536870912) (hcells : cells + 1 ≤ R.cells) (hslots : slots + N' ≤ R.slots) (hdg : decode cc pc = .ok (.anewarray index, 3))
    (kk : ∀ (q : Nat) (H1 : Heap), q = H.size → σ q = none → H1.size = H.size + 1 → mp_H D cl base (mp_up σ q (.inl (cA, N', .inr (.inr (.inr (.inr (fun _ => none))))))) H1 → va_S (mp_A base) H0 H1 locs →
      W p l e R s m args below meth c H1 locs (cells + 1) (slots + N') Q (F0 m (pc + 3) ls (.ref q :: rest))) : W p l e R s m args below meth c H locs cells slots Q (F0 m pc ls (.int n :: rest)) := by
  subst hN
  refine W.anew x.1 x.2.1 x.2.2.2.1 (x.2.2.2.2.1 _ hcl) (x.2.2.2.2.1 _ hover) rfl hdg rfl hn hbytes hcells hslots fun cA' kA comp f1 f2 f3 f4 => ?_
  obtain ⟨kA2, comp2, k1, k2, k3, k4⟩ := (x.2.2.2.2.2.2 t0 _ ht).2
  have hcA : cA' = cA := Option.some.inj (f1.symm.trans k4)
  subst hcA
  generalize hH1 : H.push ({ cls := cA', slots := Array.replicate n.toNatClampNeg .null, vm := .none } : Cell) = H1
  have z1 : H1.size = H.size + 1 := by rw [← hH1, Array.size_push]
  have e1 : H1[H.size]? = some (arrV cA' n.toNatClampNeg (fun _ => .null)) := by rw [← hH1, Array.getElem?_push_size, ← arrV_new]
  have o1 : ∀ q : Nat, q < H.size → H1[q]? = H[q]? := fun q hq => by rw [← hH1, Array.getElem?_push, if_neg (Nat.ne_of_lt hq)]
  refine kk H.size H1 rfl (hH.none (Nat.le_refl _)) z1 (hH.push (Nat.le_trans hB hS.1) ?_ o1) ⟨Nat.le_trans hS.1 (by omega), fun x h1 h2 => (o1 x (Nat.lt_of_lt_of_le h1 hS.1)).trans (hS.2.1 x h1 h2), hS.2.2⟩
  show H1[H.size]? = some (vp_cell _ _)
  rw [e1]
  rfl
end MPR
end
section
/-! CONTRACTS and CALLS over a store: a method returns or throws. -/
/-- the method's end: returned or threw; what it wrote lies from base on; what it made -/
def mp_Q (below : List Frame) (s : State) (mc ms base : Nat) (post : Outcome → State → Prop) : State → Prop := fun t =>
  ∃ o, t.status = .running ∧ Ended t below o ∧ post o t ∧ s.WarmedH t.vm ∧ ∃ L, s.sameButNew ({ t with vm := s.vm } : State) L mc ms ∧ ∀ q ∈ L, base ≤ q.base
/-- behind a method: a store again, nothing below base has changed -/
def mp_P (D : va_G) (cl : List vw_C) (base : Nat) (s : State) (PO : Outcome → mp_M → State → Prop) : Outcome → State → Prop := fun o t =>
  (∃ σ' : mp_M, PO o σ' t ∧ mp_H D cl base σ' t.heap) ∧ va_F (mp_A base) s t
/-- what the tables say, and what is kept from a method to its callees -/
def mp_G (WT : List Cond) (D : va_G) (cl : List vw_C) (tys : List (ClassId × FieldType)) (ZS : State → Prop) (s : State) : Prop :=
  (∀ w ∈ WT, va_Nw w s) ∧ va_K D cl tys s ∧ ZS s
/-- a method's contract at one list of arguments and one store -/
def mp_Met (l : Launch) (WT : List Cond) (D : va_G) (cl : List vw_C) (tys : List (ClassId × FieldType)) (ZS : State → Prop) (base : Nat) (y : MethodName) (bytes : ByteArray) (maxL : Nat) (ret : Option FieldType) (hs : List (Nat × Nat × Nat × Nat)) (d w mc ms : Nat) (av : List Value) (σ : mp_M) (PO : Outcome → mp_M → State → Prop) : Prop :=
  ∀ (p : Program) (e : Env) (R : Room) (s : State) (m : MethodId) (below : List Frame) (meth : Method) (c : Code), p.tables.exec = Jvm.exec → d ≤ R.frames → w ≤ R.locals → mc ≤ R.cells → ms ≤ R.slots →
    s.methodNamed? y = some m → s.vm.method? m = some meth → meth.code = some c → c.code = bytes → c.maxLocals = maxL → meth.sig.returnType = ret → meth.locks = false → c.exceptionTable.toList.map (fun h => (h.startPc, h.endPc, h.handlerPc, h.catchType)) = hs →
    mp_G WT D cl tys ZS s → base ≤ s.heap.size → mp_H D cl base σ s.heap →
    W p l e R s m av.toArray below meth c s.heap [] 0 0 (mp_Q below s mc ms base (mp_P D cl base s PO)) (entryFrame m av.toArray maxL)
theorem mp_weak {tb : Tables} {e : Env} {f : Frame} {below : List Frame} {a b : State} (h : Steps tb e (f :: below) a b) : Steps tb e below a b := by
  obtain ⟨n, hn, hw⟩ := h
  refine ⟨n, hn, fun k hk => ?_⟩
  obtain ⟨above, h1, h2, h3⟩ := hw k hk
  refine ⟨above ++ [f], by rw [h1, List.append_assoc]; rfl, fun h => h2 (List.append_eq_nil_iff.mp h).1, fun x hx => ?_⟩
  cases above with
  | nil => exact h2 rfl
  | cons y r =>
    have h4 : (r ++ [f]).length = 0 := by
      have := congrArg List.length hx
      simp at this
    simp at h4
section MPE
variable {p : Program} {l : Launch} {e : Env} {R : Room} {s : State} {m : MethodId} {args : Array Value} {below : List Frame} {meth : Method} {c : Code} {H : Heap} {locs : List Loc} {cells slots : Nat} {Q : State → Prop}
variable {cc : ByteArray} {nL pc : Nat} {ls : Array Slot} {rest : List Value} {base mc ms : Nat} {post : Outcome → State → Prop}
theorem mp_zret {v : Int32} {ty : FieldType} (hexec : p.tables.exec = Jvm.exec) (hb : c.code = cc) (hr : meth.sig.returnType = some ty) (hn : narrow ty (.int v) = .int v) (hlocks : meth.locks = false) (hc : cells ≤ mc) (hs : slots ≤ ms)
    (hq : ∀ t : State, t.heap = H → s.WarmedH t.vm → post (.returned (some (.int v))) t) (hf : ∀ q ∈ locs, base ≤ q.base) (hdg : decode cc pc = .ok (.ireturn, 1)) : W p l e R s m args below meth c H locs cells slots (mp_Q below s mc ms base post) (F0 m pc ls [.int v]) := by
  intro T hT X
  obtain ⟨fs, hret, hrun, hended, hW, hframe⟩ := X.leave (v := some (.int v)) (fun h => by rw [hr] at h; cases h)
  have hmeth' : T.vm.method? m = some meth := X.method'
  refine ⟨T.setFrames fs, ?_, .returned (some (.int v)), hrun, hended, hq _ hT hW, hW, locs, hframe.mono hc hs, hf⟩
  jvm_step X.here [X.here.top, hexec, hb, hdg, hmeth', hr, hn]
  (try refine ⟨rfl, ?_⟩); (try refine ⟨rfl, ?_⟩)
  first | (intro acts; rw [hret _ acts rfl rfl rfl]) | rw [hret _ _ rfl rfl rfl]
  exact Steps.refl _
theorem mp_iret {v : Int32} (hexec : p.tables.exec = Jvm.exec) (hb : c.code = cc) (hr : meth.sig.returnType = some .int) (hlocks : meth.locks = false) (hc : cells ≤ mc) (hs : slots ≤ ms)
    (hq : ∀ t : State, t.heap = H → s.WarmedH t.vm → post (.returned (some (.int v))) t) (hf : ∀ q ∈ locs, base ≤ q.base) (hdg : decode cc pc = .ok (.ireturn, 1)) : W p l e R s m args below meth c H locs cells slots (mp_Q below s mc ms base post) (F0 m pc ls [.int v]) :=
  mp_zret hexec hb hr rfl hlocks hc hs hq hf hdg
theorem mp_vret (hexec : p.tables.exec = Jvm.exec) (hb : c.code = cc) (hr : meth.sig.returnType = none) (hlocks : meth.locks = false) (hc : cells ≤ mc) (hs : slots ≤ ms)
    (hq : ∀ t : State, t.heap = H → s.WarmedH t.vm → post (.returned none) t) (hf : ∀ q ∈ locs, base ≤ q.base) (hdg : decode cc pc = .ok (.return_, 1)) : W p l e R s m args below meth c H locs cells slots (mp_Q below s mc ms base post) (F0 m pc ls []) := by
  intro T hT X
  obtain ⟨fs, hret, hrun, hended, hW, hframe⟩ := X.leave (v := none) (fun _ => rfl)
  have hmeth' : T.vm.method? m = some meth := X.method'
  refine ⟨T.setFrames fs, ?_, .returned none, hrun, hended, hq _ hT hW, hW, locs, hframe.mono hc hs, hf⟩
  jvm_step X.here [X.here.top, hexec, hb, hdg, hmeth', hr]
  (try refine ⟨rfl, ?_⟩); (try refine ⟨rfl, ?_⟩)
  first | (intro acts; rw [hret _ acts rfl rfl rfl]) | rw [hret _ _ rfl rfl rfl]
  exact Steps.refl _
theorem mp_aret {v : Value} {rt : FieldType} (hexec : p.tables.exec = Jvm.exec) (hb : c.code = cc) (hr : meth.sig.returnType = some rt) (hrt : (∃ n, rt = .object n) ∨ ∃ t, rt = .array t) (hv : v = .null ∨ ∃ a, v = .ref a) (hlocks : meth.locks = false) (hc : cells ≤ mc) (hs : slots ≤ ms)
    (hq : ∀ t : State, t.heap = H → s.WarmedH t.vm → post (.returned (some v)) t) (hf : ∀ q ∈ locs, base ≤ q.base) (hdg : decode cc pc = .ok (.areturn, 1)) : W p l e R s m args below meth c H locs cells slots (mp_Q below s mc ms base post) (F0 m pc ls [v]) := by
  intro T hT X
  obtain ⟨fs, hret, hrun, hended, hW, hframe⟩ := X.leave (v := some v) (fun h => by rw [hr] at h; cases h)
  have hmeth' : T.vm.method? m = some meth := X.method'
  refine ⟨T.setFrames fs, ?_, .returned (some v), hrun, hended, hq _ hT hW, hW, locs, hframe.mono hc hs, hf⟩
  rcases hrt with ⟨n, rfl⟩ | ⟨t, rfl⟩ <;> rcases hv with rfl | ⟨a, rfl⟩ <;>
    (jvm_step X.here [X.here.top, hexec, hb, hdg, hmeth', hr]
     (try refine ⟨rfl, ?_⟩); (try refine ⟨rfl, ?_⟩)
     first | (intro acts; rw [hret _ acts rfl rfl rfl]) | rw [hret _ _ rfl rfl rfl]
     exact Steps.refl _)
/-- an exception under way, over the frame g -/
def mp_WT (p : Program) (l : Launch) (e : Env) (R : Room) (s : State) (m : MethodId) (args : Array Value) (below : List Frame) (meth : Method) (c : Code) (H : Heap) (locs : List Loc) (cells slots : Nat) (Q : State → Prop) (x : Addr) (g : JFrame) : Prop :=
  ∀ T : State, T.heap = H → Stand p l e R s m args below meth c T locs cells slots → ∃ t, Steps p.tables e below ((T.setTop g).pushFrame (.throwing x)) t ∧ Q t
/-- it leaves a method without handlers -/
theorem mp_out {x : Addr} (hlocks : meth.locks = false) (hh : c.exceptionTable.toList.map (fun h => (h.startPc, h.endPc, h.handlerPc, h.catchType)) = []) (hc : cells ≤ mc) (hs : slots ≤ ms)
    (hq : ∀ t : State, t.heap = H → s.WarmedH t.vm → post (.threw x) t) (hf : ∀ q ∈ locs, base ≤ q.base) {st : List Value} : mp_WT p l e R s m args below meth c H locs cells slots (mp_Q below s mc ms base post) x (F0 m pc ls st) := by
  intro T hT X
  have hnil : c.exceptionTable.toList = [] := List.map_eq_nil_iff.mp hh
  obtain ⟨h1, h2, h3, h4, h5⟩ := X.leaveThrown x (g := F0 m pc ls st) rfl rfl rfl (fun y hy => by rw [hnil] at hy; cases hy)
  exact ⟨_, h1, .threw x, h2, h3, hq _ hT h4, h4, locs, h5.mono hc hs, hf⟩
end MPE
section MPC
variable {p : Program} {l : Launch} {e : Env} {R : Room} {s : State} {m : MethodId} {args : Array Value} {below : List Frame} {meth : Method} {c : Code} {T : State} {locs : List Loc} {cells slots : Nat}
variable {WT : List Cond} {D : va_G} {cl : List vw_C} {tys : List (ClassId × FieldType)} {ZS : State → Prop} {base : Nat} {y : MethodName} {bytes : ByteArray} {maxL : Nat} {ret : Option FieldType} {hs : List (Nat × Nat × Nat × Nat)} {d w mc ms : Nat} {av : List Value} {σ : mp_M} {PO : Outcome → mp_M → State → Prop}
/-- how words and tables come to a callee -/
def mp_Mv (WT : List Cond) (ZS : State → Prop) (base : Nat) : Prop :=
  (∀ w ∈ WT, ∀ s U : State, s.WarmedH U.vm → va_Nw w s → va_Nw w U) ∧ (∀ s U : State, s.WarmedH U.vm → (∀ q, q < base → U.heap[q]? = s.heap[q]?) → ZS s → ZS U)
theorem mp_G.mv (hv : mp_Mv WT ZS base) {U : State} (hW : s.WarmedH U.vm) (hh : ∀ q, q < base → U.heap[q]? = s.heap[q]?) (h : mp_G WT D cl tys ZS s) : mp_G WT D cl tys ZS U :=
  ⟨fun w hw => hv.1 w hw s U hW (h.1 w hw), va_K.moved hW.alike h.2.1, hv.2 s U hW hh h.2.2⟩
/-- nothing is run in the place of the method's bytes -/
def mp_pl (y : MethodName) : Prop := plainName y.cls = true ∨ (NativeRow.find? Jvm.natives y.cls y.name y.desc).isNone = true
/-- the callee's own facts at the caller's start -/
def mp_Mk (s : State) (y : MethodName) (bytes : ByteArray) (maxL : Nat) (ret : Option FieldType) (hs : List (Nat × Nat × Nat × Nat)) (mk : MethodId) : Prop :=
  s.methodNamed? y = some mk ∧ mp_pl y ∧ ∃ methk ck, s.vm.method? mk = some methk ∧ methk.code = some ck ∧ ck.code = bytes ∧ ck.maxLocals = maxL ∧ methk.sig.returnType = ret ∧ methk.locks = false ∧ ck.exceptionTable.toList.map (fun h => (h.startPc, h.endPc, h.handlerPc, h.catchType)) = hs
theorem mp_enter (X : Stand p l e R s m args below meth c T locs cells slots) (hx : p.tables.exec = Jvm.exec) (hv : mp_Mv WT ZS base) {g : JFrame} (hg : g.method = m) (hsize : g.locals.size = c.maxLocals) {ig : Instr} {len : Nat} (hdg : decode c.code g.pc = .ok (ig, len)) {mk : MethodId}
    (hM : mp_Met l WT D cl tys ZS base y bytes maxL ret hs d w mc ms av σ PO) (hk : mp_Mk s y bytes maxL ret hs mk) (hfr : d + 1 ≤ R.frames) (hlo : 2 * g.monitorRoom + (g.stack.map fun v => v.category).sum + (maxL + 11) + w ≤ R.locals) (hce : cells + mc ≤ R.cells) (hsl : slots + ms ≤ R.slots)
    (hG : mp_G WT D cl tys ZS s) (hB : base ≤ s.heap.size) (hH : mp_H D cl base σ T.heap) (hS : va_S (mp_A base) s.heap T.heap locs) :
    ∃ (o : Outcome) (σ' : mp_M) (t T' : State) (L : List Loc), PO o σ' t ∧ T'.heap = t.heap ∧ T'.vm = t.vm ∧ mp_H D cl base σ' T'.heap ∧ va_S (mp_A base) s.heap T'.heap (locs ++ L) ∧ T.heap.size ≤ T'.heap.size ∧ Stand p l e R s m args below meth c T' (locs ++ L) (cells + mc) (slots + ms) ∧
      (∀ v, o = .returned v → ∀ acts, Steps p.tables e below (doInvoke e (T.setTop g) acts mk av.toArray).1 (T'.setTop { g with pc := g.pc + len, stack := v.toList ++ g.stack })) ∧
      (∀ x, o = .threw x → ∀ acts, Steps p.tables e below (doInvoke e (T.setTop g) acts mk av.toArray).1 ((T'.setTop g).pushFrame (.throwing x))) := by
  obtain ⟨hn, hpl, methk, ck, hmk, hck, hby, hml, hrt, hlk, hex⟩ := hk
  have hW : s.WarmedH T.vm := X.warmed
  have hmT : T.vm.method? mk = some methk := by rw [hW.alike.method?]; exact hmk
  have hpk : T.plainMethod mk := by
    rcases hpl with hpl | hpl
    · exact hW.plainAt (fun k hk => by
        obtain ⟨k', hk', hnm⟩ := className_of_methodNamed hn
        cases hk.symm.trans hk'
        rw [hnm]; exact hpl)
    · intro k hk
      obtain ⟨k0, hk0, hnm⟩ := className_of_methodNamed hn
      obtain ⟨k', hk', he⟩ := hW.alike.2.2 _ _ hk0
      cases hk.symm.trans hk'
      have hmm : k.methods[mk.idx]? = some methk := by
        have h9 := hmT
        simp only [Vm.method?, hk, Option.bind_some] at h9
        exact h9
      have hkn : k.name = y.cls := by rw [he]; exact hnm
      obtain ⟨n1, n2⟩ := name_of_methodNamed hn hmk
      rw [Bool.or_eq_true]
      right
      unfold rowless
      rw [hmm]
      show (NativeRow.find? Jvm.natives k.name methk.name methk.desc).isNone = true
      rw [hkn, n1, n2]
      exact hpl
  obtain ⟨Y, hinv⟩ := X.into hg hsize hdg av.toArray (R' := { frames := d, cells := mc, slots := ms, locals := w }) hmT hck hlk hpk hfr (by rw [hml]; exact hlo) hce hsl
  have hlow : ∀ q, q < base → T.heap[q]? = s.heap[q]? := fun q hq => hS.2.1 q (Nat.lt_of_lt_of_le hq hB) (Nat.not_le.mpr hq)
  obtain ⟨t, st, o, hrun, hend, ⟨⟨σ', hPO, hH'⟩, hF⟩, hW', L, hsame, hL⟩ := hM p e { frames := d, cells := mc, slots := ms, locals := w } (T.calling g mk av.toArray) mk (.java g :: below) methk ck hx (Nat.le_refl _) (Nat.le_refl _) (Nat.le_refl _) (Nat.le_refl _)
    (by have h := X.named hn; exact h) hmT hck hby hml hrt hlk hex (hG.mv hv (U := T.calling g mk av.toArray) hW hlow) (Nat.le_trans hB hS.1) hH ((T.setTop g).pushFrame (.java (entryFrame mk av.toArray ck.maxLocals))) rfl Y
  rw [← hml] at st
  have hfr' : va_S (mp_A base) s.heap t.heap (locs ++ L) := ⟨Nat.le_trans hS.1 hF.1, fun q h1 h2 => (hF.2 q (Nat.lt_of_lt_of_le h1 hS.1) h2).trans (hS.2.1 q h1 h2), fun q hq => by
    rcases List.mem_append.mp hq with h | h
    · exact hS.2.2 q h
    · exact hL q h⟩
  cases o with
  | returned v =>
    obtain ⟨T', X', -, -, ht⟩ := X.outOf hg hdg hend hW' hsame
    have e1 : T'.heap = t.heap := by rw [ht]; rfl
    have e2 : T'.vm = t.vm := by rw [ht]; rfl
    refine ⟨.returned v, σ', t, T', L, hPO, e1, e2, by rw [e1]; exact hH', by rw [e1]; exact hfr', by rw [e1]; exact hF.1, X', fun v' hv' acts => ?_, fun x hx' => by cases hx'⟩
    cases hv'
    rw [hinv acts, ← ht]
    exact mp_weak st
  | threw x =>
    obtain ⟨T', X', -, -, ht⟩ := X.outOfThrown hg hend hW' hsame
    have e1 : T'.heap = t.heap := by rw [ht]; rfl
    have e2 : T'.vm = t.vm := by rw [ht]; rfl
    refine ⟨.threw x, σ', t, T', L, hPO, e1, e2, by rw [e1]; exact hH', by rw [e1]; exact hfr', by rw [e1]; exact hF.1, X', (fun v' hv' => by cases hv'), fun x' hx' acts => ?_⟩
    cases hx'
    rw [hinv acts, ← ht]
    exact mp_weak st
end MPC
end
section
/-! CALLS as rows: the instruction, the callee by its contract, both ways out. -/
theorem mp_mkC {s : State} {args : Array Value} {y : MethodName} {bytes : ByteArray} {maxL : Nat} {ret : Option FieldType} (h : (Cond.code y bytes maxL ret).before args s = true) (hp : mp_pl y) : ∃ mk, mp_Mk s y bytes maxL ret [] mk := by
  obtain ⟨mk, hn⟩ := Cond.code_named h
  obtain ⟨meth, c, h1, h2, h3, h4, h5, h6, h7, -⟩ := Cond.code_spec hn h
  refine ⟨mk, hn, hp, meth, c, h1, h2, h3, h4, h5, h6, ?_⟩
  have h8 : c.exceptionTable = #[] := by simpa using h7
  rw [h8]
  rfl
theorem mp_mkW {s : State} {args : Array Value} {y : MethodName} {bytes : ByteArray} {maxL : Nat} {ret : Option FieldType} {hs : List (Nat × Nat × Nat × Nat)} (h : (Cond.codeWith y bytes maxL ret hs).before args s = true) (hp : mp_pl y) : ∃ mk, mp_Mk s y bytes maxL ret hs mk := by
  obtain ⟨mk, meth, c, hn, h1, h2, h3, h4, h5, h6, h7, -⟩ := Cond.codeWith_spec h
  exact ⟨mk, hn, hp, meth, c, h1, h2, h3, h4, h6, h7, h5⟩
/-- an invoking instruction at pc: it comes to the callee's entry -/
def mp_Inv (p : Program) (l : Launch) (e : Env) (R : Room) (s : State) (m : MethodId) (args : Array Value) (below : List Frame) (meth : Method) (c : Code) (H : Heap) (pc : Nat) (ls : Array Slot) (st rest : List Value) (y : MethodName) (bytes : ByteArray) (maxL : Nat) (ret : Option FieldType) (hs : List (Nat × Nat × Nat × Nat)) (av : List Value) : Prop :=
  ∀ (T : State) (locs : List Loc) (cells slots : Nat), T.heap = H → Stand p l e R s m args below meth c T locs cells slots → ∃ (mk : MethodId) (vm' : Vm) (ig : Instr), mp_Mk s y bytes maxL ret hs mk ∧ Stand p l e R s m args below meth c (T.setVm vm') locs cells slots ∧ decode c.code pc = .ok (ig, 3) ∧
    ∀ target, (∀ acts, Steps p.tables e below (doInvoke e ((T.setVm vm').setTop (F0 m pc ls rest)) acts mk av.toArray).1 target) → Steps p.tables e below (T.setTop (F0 m pc ls st)) target
section MPI
variable {p : Program} {l : Launch} {e : Env} {R : Room} {s : State} {m : MethodId} {args : Array Value} {below : List Frame} {meth : Method} {c : Code} {H : Heap} {locs : List Loc} {cells slots : Nat} {Q : State → Prop}
variable {cc : ByteArray} {nL pc : Nat} {ls : Array Slot} {st rest : List Value} {WT : List Cond} {D : va_G} {cl : List vw_C} {tys : List (ClassId × FieldType)} {ZS : State → Prop} {base : Nat} {σ : mp_M} {own : String}
variable {y : MethodName} {bytes : ByteArray} {maxL : Nat} {ret : Option FieldType} {hs : List (Nat × Nat × Nat × Nat)} {d w mc ms : Nat} {av : List Value} {PO : Outcome → mp_M → State → Prop}
theorem mp_call (x : mp_X WT D cl tys p s m args c cc nL own) (hv : mp_Mv WT ZS base) (hG : mp_G WT D cl tys ZS s) (hB : base ≤ s.heap.size) (hlen : ls.size = nL) (hi : mp_Inv p l e R s m args below meth c H pc ls st rest y bytes maxL ret hs av)
    (hM : mp_Met l WT D cl tys ZS base y bytes maxL ret hs d w mc ms av σ PO) (hfr : d + 1 ≤ R.frames) (hlo : (rest.map fun v => v.category).sum + (maxL + 11) + w ≤ R.locals) (hce : cells + mc ≤ R.cells) (hsl : slots + ms ≤ R.slots) (hH : mp_H D cl base σ H) (hS : va_S (mp_A base) s.heap H locs)
    (kr : ∀ (v : Option Value) (σ' : mp_M) (t : State) (H1 : Heap) (locs1 : List Loc), PO (.returned v) σ' t → t.heap = H1 → s.vm.Alike t.vm → H.size ≤ H1.size → mp_H D cl base σ' H1 → va_S (mp_A base) s.heap H1 locs1 → W p l e R s m args below meth c H1 locs1 (cells + mc) (slots + ms) Q (F0 m (pc + 3) ls (v.toList ++ rest)))
    (kt : ∀ (a : Addr) (σ' : mp_M) (t : State) (H1 : Heap) (locs1 : List Loc), PO (.threw a) σ' t → t.heap = H1 → s.vm.Alike t.vm → H.size ≤ H1.size → mp_H D cl base σ' H1 → va_S (mp_A base) s.heap H1 locs1 → mp_WT p l e R s m args below meth c H1 locs1 (cells + mc) (slots + ms) Q a (F0 m pc ls rest)) :
    W p l e R s m args below meth c H locs cells slots Q (F0 m pc ls st) := by
  intro T hT X
  obtain ⟨mk, vm', ig, hk, X', hdg, hgo⟩ := hi T locs cells slots hT X
  have hT' : (T.setVm vm').heap = H := hT
  obtain ⟨o, σ', t, T', L, hPO, e1, e2, hH', hS', hz, X'', hr, ht⟩ := mp_enter (g := F0 m pc ls rest) X' x.1 hv rfl (hlen.trans x.2.2.1.symm) hdg hM hk hfr (by show 2 * 0 + (rest.map fun v => v.category).sum + (maxL + 11) + w ≤ R.locals; omega) hce hsl hG hB (by rw [hT']; exact hH) (by rw [hT']; exact hS)
  rw [hT'] at hz
  have hal : s.vm.Alike t.vm := by rw [← e2]; exact X''.warmed.alike
  cases o with
  | returned v =>
    obtain ⟨t2, a1, b1⟩ := kr v σ' t T'.heap (locs ++ L) hPO e1.symm hal hz hH' hS' T' rfl X''
    exact ⟨t2, hgo t2 (fun acts => (hr v rfl acts).trans a1), b1⟩
  | threw a =>
    obtain ⟨t2, a1, b1⟩ := kt a σ' t T'.heap (locs ++ L) hPO e1.symm hal hz hH' hS' T' rfl X''
    exact ⟨t2, hgo t2 (fun acts => (ht a rfl acts).trans a1), b1⟩
/-- the code word of a callee, with handlers or without -/
def mp_Cw (WT : List Cond) (y : MethodName) (bytes : ByteArray) (maxL : Nat) (ret : Option FieldType) (hs : List (Nat × Nat × Nat × Nat)) : Prop := (Cond.code y bytes maxL ret ∈ WT ∧ hs = []) ∨ Cond.codeWith y bytes maxL ret hs ∈ WT
theorem mp_Cw.mk (hw : mp_Cw WT y bytes maxL ret hs) (hts : ∀ w ∈ WT, w.before args s = true) (hp : mp_pl y) : ∃ mk, mp_Mk s y bytes maxL ret hs mk := by
  rcases hw with ⟨h, rfl⟩ | h
  · exact mp_mkC (hts _ h) hp
  · exact mp_mkW (hts _ h) hp
/-- a name's plain facts, by reading it -/
def mp_Nm (y : MethodName) (n : Nat) : Prop := mp_pl y ∧ (y.cls ≠ "java/lang/invoke/MethodHandle" ∧ y.cls ≠ "java/lang/invoke/VarHandle") ∧ (parseMethodDescriptor y.desc).map (fun d => d.parameters.length) = some n
theorem mp_Mk.sig {mk : MethodId} (hk : mp_Mk s y bytes maxL ret hs mk) (hts : ∀ w ∈ WT, w.before args s = true) (hw : mp_Cw WT y bytes maxL ret hs) {n : Nat} (hn : mp_Nm y n) : ∃ methk, s.vm.method? mk = some methk ∧ methk.sig.parameters.length = n := by
  obtain ⟨hnm, -⟩ := hk
  rcases hw with ⟨h, -⟩ | h
  · obtain ⟨meth, c, h1, -, -, -, -, -, -, h8⟩ := Cond.code_spec hnm (hts _ h)
    have h9 := hn.2.2
    rw [h8] at h9
    exact ⟨meth, h1, Option.some.inj h9⟩
  · obtain ⟨mk', meth, c, hn', h1, -, -, -, -, -, -, h8⟩ := Cond.codeWith_spec (hts _ h)
    cases hnm.symm.trans hn'
    have h9 := hn.2.2
    rw [h8] at h9
    exact ⟨meth, h1, Option.some.inj h9⟩
theorem mp_invS (x : mp_X WT D cl tys p s m args c cc nL own) {index n : Nat} (hn : mp_Nm y n) (hw : mp_Cw WT y bytes maxL ret hs) (hl : Cond.methodLink own index y ∈ WT ∨ ∃ host, Cond.methodLinkNest own index y host ∈ WT) (hst : Cond.static y ∈ WT) (hini : Cond.initialized y.cls ∈ WT) (hav : av.length = n) (hdg : decode cc pc = .ok (.invokestatic index, 3)) :
    mp_Inv p l e R s m args below meth c H pc ls (av.reverse ++ rest) rest y bytes maxL ret hs av := by
  obtain ⟨hx, hb, -, hown, hts, -⟩ := x
  intro T locs cells slots hT X
  obtain ⟨mk, hk⟩ := hw.mk hts hn.1
  obtain ⟨methk, hm, hpl⟩ := hk.sig hts hw hn
  have hstatic : methk.isStatic = true := Cond.static_spec hk.1 hm (hts _ hst)
  obtain ⟨kP, hkP, -⟩ := className_of_methodNamed hk.1
  have hinitP : kP.init = .initialized := Cond.initialized_spec (findClass_of_methodNamed hk.1) hkP (hts _ hini)
  rcases hl with hl | ⟨host, hl⟩
  · obtain ⟨vm₁, X₁, hstep₁⟩ := X.invokestatic hx hown (hts _ hl) hk.1 hm hstatic hkP hinitP hn.2.1 (g := F0 m pc ls (av.reverse ++ rest)) rfl (argsL := av) (rest := rest) (hav.trans hpl.symm) rfl (by rw [hb]; exact hdg)
    exact ⟨mk, vm₁, _, hk, X₁, by rw [hb]; exact hdg, hstep₁⟩
  · obtain ⟨vm₁, X₁, hstep₁⟩ := X.invokestaticNest hx hown (hts _ hl) hk.1 hm hstatic hkP hinitP hn.2.1 (g := F0 m pc ls (av.reverse ++ rest)) rfl (argsL := av) (rest := rest) (hav.trans hpl.symm) rfl (by rw [hb]; exact hdg)
    exact ⟨mk, vm₁, _, hk, X₁, by rw [hb]; exact hdg, hstep₁⟩
theorem mp_invV (x : mp_X WT D cl tys p s m args c cc nL own) {index n a ci : Nat} {fs : List Value} (hH : mp_H D cl base σ H) (hs0 : σ a = some (.inr (ci, fs))) {r : vw_C} (hc : cl[ci]? = some r) (hcn : r.1 = y.cls) (hn : mp_Nm y n) (hw : mp_Cw WT y bytes maxL ret hs) (hl : Cond.methodLink own index y ∈ WT ∨ ∃ host, Cond.methodLinkNest own index y host ∈ WT) (hin : Cond.instanceMethod y ∈ WT) (hse : Cond.selects y.cls y y ∈ WT) (hav : av.length = n) (hdg : decode cc pc = .ok (.invokevirtual index, 3)) :
    mp_Inv p l e R s m args below meth c H pc ls (av.reverse ++ .ref a :: rest) rest y bytes maxL ret hs (.ref a :: av) := by
  obtain ⟨hx, hb, -, hown, hts, hK⟩ := x
  intro T locs cells slots hT X
  obtain ⟨mk, hk⟩ := hw.mk hts hn.1
  obtain ⟨methk, hm, hpl⟩ := hk.sig hts hw hn
  obtain ⟨cellB, hcB, hoB, hclB⟩ := va_recv hK (hH.one hs0) hc (q0 := 0) rfl
  rw [hcn] at hclB
  obtain ⟨mk', methM, hnamed, hmethM, hstM, habM⟩ := Cond.instanceMethod_spec (hts _ hin)
  cases hk.1.symm.trans hnamed
  cases hm.symm.trans hmethM
  obtain ⟨c2, r2, m2, q1, q2, q3, q4, kP, hkP, hkPi⟩ := Cond.selects_spec (hts _ hse)
  cases hclB.symm.trans q1
  cases (State.methodFound?_of_named hnamed hn.2.1).symm.trans q2
  cases hnamed.symm.trans q3
  have hselP : selectMethod e.platform s.vm cellB.cls mk = .method mk := by rw [Launch.admits_selectMethod X.admits]; exact q4
  rcases hl with hl | ⟨host, hl⟩
  · obtain ⟨vm₁, X₁, hstep₁⟩ := X.invokevirtual hx hown (hts _ hl) hnamed hmethM hstM hkP hkPi hn.2.1 (a := a) (cell := cellB) (by rw [hT]; exact hcB)
      (fun z h => by rw [h] at hoB; cases hoB) hselP hmethM habM hkP hkPi (g := F0 m pc ls (av.reverse ++ .ref a :: rest)) rfl (argsL := av) (rest := rest) (hav.trans hpl.symm) rfl (by rw [hb]; exact hdg)
    exact ⟨mk, vm₁, _, hk, X₁, by rw [hb]; exact hdg, hstep₁⟩
  · obtain ⟨vm₁, X₁, hstep₁⟩ := X.invokevirtualNest hx hown (hts _ hl) hnamed hmethM hstM hkP hkPi hn.2.1 (a := a) (cell := cellB) (by rw [hT]; exact hcB)
      (fun z h => by rw [h] at hoB; cases hoB) hselP hmethM habM hkP hkPi (g := F0 m pc ls (av.reverse ++ .ref a :: rest)) rfl (argsL := av) (rest := rest) (hav.trans hpl.symm) rfl (by rw [hb]; exact hdg)
    exact ⟨mk, vm₁, _, hk, X₁, by rw [hb]; exact hdg, hstep₁⟩
theorem mp_invI (x : mp_X WT D cl tys p s m args c cc nL own) {index n a : Nat} (hn : mp_Nm y n) (hy1 : y.name = "<init>") (hw : Cond.code y bytes maxL none ∈ WT) (hl : Cond.methodLink own index y ∈ WT ∨ ∃ host, Cond.methodLinkNest own index y host ∈ WT) (hin : Cond.instanceMethod y ∈ WT) (hav : av.length = n) (hdg : decode cc pc = .ok (.invokespecial index, 3)) :
    mp_Inv p l e R s m args below meth c H pc ls (av.reverse ++ .ref a :: rest) rest y bytes maxL none [] (.ref a :: av) := by
  obtain ⟨hx, hb, -, hown, hts, hK⟩ := x
  intro T locs cells slots hT X
  obtain ⟨mk, hk⟩ := mp_mkC (hts _ hw) hn.1
  have hpl : e.platform.magicAccessors = ({} : Platform).magicAccessors := by rw [X.admits.platform]
  have hlen : ∀ sig, parseMethodDescriptor y.desc = some sig → av.length = sig.parameters.length := fun sig h => by
    have h9 := hn.2.2
    rw [h] at h9
    exact hav.trans (Option.some.inj h9).symm
  rcases hl with hl | ⟨host, hl⟩
  · obtain ⟨mk', methM, cM, kP, vm₁, hnamed, hmethM, hcodeM, -, hlocalsM, -, hkP, -, hW₁, hstep₁⟩ := Steps.initColdArgs (e := e) X.here hx X.warmed hpl hown hy1 hn.2.1 (hts _ hl) (hts _ hin) (hts _ hw) (f := F0 m pc ls (av.reverse ++ .ref a :: rest)) rfl hlen rfl (by rw [hb]; exact hdg)
    cases hk.1.symm.trans hnamed
    exact ⟨mk, vm₁, _, hk, X.noted hW₁, by rw [hb]; exact hdg, hstep₁⟩
  · obtain ⟨mk', methM, cM, kP, vm₁, hnamed, hmethM, hcodeM, -, hlocalsM, -, hkP, -, hW₁, hstep₁⟩ := Steps.initColdArgsNest (e := e) X.here hx X.warmed hpl hown hy1 hn.2.1 (hts _ hl) (hts _ hin) (hts _ hw) (f := F0 m pc ls (av.reverse ++ .ref a :: rest)) rfl hlen rfl (by rw [hb]; exact hdg)
    cases hk.1.symm.trans hnamed
    exact ⟨mk, vm₁, _, hk, X.noted hW₁, by rw [hb]; exact hdg, hstep₁⟩
end MPI
end
section
/-! THROWS: a walk may be begun anew where it stands; an exception is made and thrown; it is caught. -/
section MPB
variable {p : Program} {l : Launch} {e : Env} {R : Room} {s : State} {m : MethodId} {args : Array Value} {below : List Frame} {meth : Method} {c : Code} {T : State} {locs : List Loc} {cells slots : Nat}
theorem mp_rebase (X : Stand p l e R s m args below meth c T locs cells slots) {R' : Room} (hfr : R'.frames ≤ R.frames) (hlo : R'.locals ≤ R.locals) (hce : cells + R'.cells ≤ R.cells) (hsl : slots + R'.slots ≤ R.slots) : Stand p l e R' (T.setFrames (.invoking m args :: below)) m args below meth c T [] 0 0 := by
  obtain ⟨g₀, hfrm⟩ := X.frames_eq
  have hcur : T.cur < T.threads.size := State.cur_lt_of_frames hfrm
  have hF : (T.setFrames (.invoking m args :: below)).frames = .invoking m args :: below := State.frames_setFrames _ hcur
  have hm' : (T.setFrames (.invoking m args :: below)).vm.method? m = some meth := X.method'
  have hlim : e.platform.stackLimits (T.setFrames (.invoking m args :: below)).me = e.platform.stackLimits s.me := by rw [State.stackLimits_setFrames]; exact X.limits
  have hby : (T.setFrames (.invoking m args :: below)).me.stackBytes = s.me.stackBytes := by rw [State.stackBytes_setFrames]; exact X.bytes
  refine ⟨X.admits, X.cas, X.clock, hF, ?_, ?_, hm', X.code, X.here, X.tail, State.WarmedH.refl (T.setFrames (.invoking m args :: below)), by rw [hlim]; exact X.limits, by rw [hby]; exact X.bytes, ?_⟩
  · have hr := X.room
    have h1 := State.localsInUse_invoking X.frames X.method X.code
    have h2 := State.localsInUse_invoking hF hm' X.code
    have h3 := X.heapSize
    have h4 := X.used
    have h5 : (T.setFrames (.invoking m args :: below)).heap.size = T.heap.size := rfl
    have h6 : (T.setFrames (.invoking m args :: below)).slotsUsed = T.slotsUsed := rfl
    have h7 : (T.setFrames (.invoking m args :: below)).slotsTrue = true := X.book
    simp only [State.hasRoom, Bool.and_eq_true, decide_eq_true_eq] at hr ⊢
    rw [X.frames, List.length_cons] at hr
    rw [hF, List.length_cons, hlim, hby, h5, h6, h2]
    rw [h1] at hr
    refine ⟨⟨⟨⟨by omega, by omega, by omega, by omega, by omega, by omega⟩, by omega⟩, by omega⟩, h7⟩
  · have hh := X.hears
    have hal := X.warmed.alike
    have hcd : ∀ q, (T.setFrames (.invoking m args :: below)).code? q = s.code? q := fun q => by
      rw [State.code?_eq, State.code?_eq]
      show (T.vm.method? q).bind _ = _
      rw [hal.method?]
    unfold State.hears at hh ⊢
    cases below with
    | nil => rw [hm']; rw [X.method] at hh; exact hh
    | cons f r =>
      cases f with
      | java g => simp only at hh ⊢; rw [hcd]; exact hh
      | native g => rfl
      | proc g => rfl
      | _ => simp only at hh ⊢; rw [hm']; rw [X.method] at hh; exact hh
  · obtain ⟨th, hth, -⟩ := State.frames_cons hF
    obtain ⟨th2, hth2, -⟩ := State.frames_cons hfrm
    have h := (State.sameButNew.refl (T.setFrames (.invoking m args :: below)) hth).setFrames T.frames (State.cur_lt_of_frames hF)
    rw [State.setFrames_setFrames, State.setFrames_self hth2] at h
    exact h
/-- what is as it was since the walk was begun anew -/
theorem mp_same {fs : List Frame} {U : State} {k n : Nat} (h : (T.setFrames fs).sameButNew ({ U with vm := (T.setFrames fs).vm } : State) [] k n) : T.heap.size ≤ U.heap.size ∧ ∀ q, q < T.heap.size → U.heap[q]? = T.heap[q]? := by
  refine ⟨h.2.1, fun q hq => ?_⟩
  have hc : (T.setFrames fs).heap[q]? = some T.heap[q] := Array.getElem?_eq_getElem hq
  obtain ⟨c', h1, h2, h3, h4⟩ := h.2.2.2.2.2 q _ hc
  have h5 : U.heap[q]? = some c' := h1
  rw [h5, Array.getElem?_eq_getElem hq]
  have h6 : c'.slots = (T.heap[q]).slots := by
    apply Array.ext_getElem?
    intro i
    exact h4 i (by simp)
  rw [h2, h6]
theorem mp_sameT (X : Stand p l e R s m args below meth c T locs cells slots) {fs : List Frame} {U : State} {k n : Nat} (h : (T.setFrames fs).sameButNew ({ U with vm := (T.setFrames fs).vm } : State) [] k n) : s.sameButNew ({ U with vm := s.vm } : State) locs (cells + k) (slots + n) := by
  have h2 : T.sameButNew ({ U with vm := T.vm } : State) [] k n := by
    obtain ⟨a1, a2⟩ := h
    refine ⟨?_, a2⟩
    rw [State.setFrames_setFrames] at a1
    exact a1
  have h3 := X.same.trans (h2.setVm s.vm)
  rw [List.append_nil] at h3
  exact h3
end MPB
/-- an exception's cell -/
def mp_T (cls : String) (a : Addr) (t : State) : Prop := ∃ cell : Cell, t.heap[a]? = some cell ∧ cell.vm = .none ∧ t.vm.findClass cls = some cell.cls
end
section
/-! What is kept beside the tables' words: two statics of Throwable hold a reference or null, the texts of the messages are there, one exception is no other. -/
abbrev mp_iae : String := "java/lang/IllegalArgumentException"
abbrev mp_ise : String := "java/lang/IllegalStateException"
abbrev mp_thr : String := "java/lang/Throwable"
abbrev mp_ste : String := "[Ljava/lang/StackTraceElement;"
abbrev mp_lst : String := "Ljava/util/List;"
def mp_strs : List (Nat × String) := [(46, "the prescription is registered already"), (57, "the prescription is not registered"), (70, "all supplies are decided, or the day is too near the last one"), (101, "the shop does not ask"), (189, "a number is not as it may be"), (192, "there is no such shop"), (194, "there is no such prescription"), (196, "there is no such letter"), (198, "the shop is down")]
def mp_ZS (base : Nat) (s : State) : Prop := va_Zq mp_thr "UNASSIGNED_STACK" mp_ste (mp_A base) s s.heap ∧ va_Zq mp_thr "SUPPRESSED_SENTINEL" mp_lst (mp_A base) s s.heap ∧ (∀ q ∈ mp_strs, ∃ a, vk_R "SupplyGrid" q.1 q.2 a s) ∧ va_Nw (.not (.castable mp_ise mp_iae)) s ∧ va_Nw (.laysStatic mp_thr "UNASSIGNED_STACK" mp_ste) s ∧ va_Nw (.laysStatic mp_thr "SUPPRESSED_SENTINEL" mp_lst) s
theorem mp_Zq_isRef {C n d : String} {A : Nat → Prop} {U : State} (h : va_Zq C n d A U U.heap) (args : Array Value) : (Cond.isRef (.static C n d)).before args U = true := by
  rcases h with h | ⟨t, h⟩
  · obtain ⟨cf, kf, fi, f, a, cell, h1, h2, h3, h4, h5, h6, h7, h8⟩ := h
    simp [Cond.before, Cond.holds, Cond.value, Term.eval, State.fieldNamed?, h1, h2, h4, h5, h6, h7]
  · obtain ⟨cf, kf, fi, f, a, cell, h1, h2, h3, h4, h5, h6, h7, h8⟩ := h
    simp [Cond.before, Cond.holds, Cond.value, Term.eval, State.fieldNamed?, h1, h2, h4, h5, h6, h7]
theorem mp_lays_mv {C n d : String} {base : Nat} {s U : State} (hW : s.WarmedH U.vm) (hh : ∀ q, q < base → U.heap[q]? = s.heap[q]?) (hz : va_Zq C n d (mp_A base) s s.heap) (h : va_Nw (.laysStatic C n d) s) : va_Nw (.laysStatic C n d) U := by
  obtain ⟨c, k, i, f, a, cell, hc, hi, hst, ha, hcell, hs, hcls, hlt, hty⟩ := Cond.laysStatic_spec h
  have hlow : a < base := by
    rcases hz with hz | ⟨t, hz⟩
    · obtain ⟨cf, kf, fi, f', a', cell', h1, h2, h3, h4, h5, h6, h7, h8⟩ := hz
      cases hi.symm.trans h1
      cases ha.symm.trans h4
      exact Nat.not_le.mp h8
    · obtain ⟨cf, kf, fi, f', a', cell', h1, h2, h3, h4, h5, h6, h7, h8⟩ := hz
      cases hi.symm.trans h1
      cases ha.symm.trans h4
      exact Nat.not_le.mp h8
  obtain ⟨k', hi', he⟩ := State.fieldFound?_setVm hW.alike hi
  have hi2 : U.fieldFound? C n d = some (c, k', i, f) := hi'
  have hc2 : U.vm.findClass C = some c := by rw [hW.alike.findClass]; exact hc
  have ha2 : k'.statics = some a := by rw [he]; exact ha
  have hty2 : k'.staticTypes[f.slot]? = some f.type := by rw [he]; exact hty
  have hcell2 : U.heap[a]? = some cell := by rw [hh a hlow]; exact hcell
  subst hcls
  simp [va_Nw, Cond.before, Cond.holds, Cond.value, hc2, hi2, hst, ha2, hcell2, hs, hlt, hty2]
theorem mp_notcast {s : State} {A B : String} (h : va_Nw (.not (.castable A B)) s) {a b : ClassId} (ha : s.vm.findClass A = some a) (hb : s.vm.findClass B = some b) : s.vm.assignable a b = false := by
  have hv := Cond.holds_not_iff.mp h
  simp only [Cond.value, ha, hb] at hv
  exact Option.some.inj hv
theorem mp_notcast_moved {s U : State} (hvm : s.vm.Alike U.vm) {A B : String} (h : va_Nw (.not (.castable A B)) s) : va_Nw (.not (.castable A B)) U := by
  have hv := Cond.holds_not_iff.mp h
  refine Cond.holds_not_iff.mpr ?_
  simp only [Cond.value] at hv ⊢
  rw [hvm.findClass, hvm.findClass]
  cases h1 : s.vm.findClass A with
  | none => rw [h1] at hv; simpa using hv
  | some a =>
    cases h2 : s.vm.findClass B with
    | none => rw [h1, h2] at hv; simpa using hv
    | some b =>
      rw [h1, h2] at hv
      simp only at hv ⊢
      rw [hvm.assignable]
      exact hv
theorem mp_ZS_mv (base : Nat) : ∀ s U : State, s.WarmedH U.vm → (∀ q, q < base → U.heap[q]? = s.heap[q]?) → mp_ZS base s → mp_ZS base U := by
  intro s U hW hh h
  have hq : ∀ a : Nat, a < s.heap.size → ¬ mp_A base a → U.heap[a]? = s.heap[a]? := fun a _ ha => hh a (Nat.not_le.mp ha)
  exact ⟨va_Zq.moved hW.alike (h.1.kept hq), va_Zq.moved hW.alike (h.2.1.kept hq), fun q hq2 => by
    obtain ⟨a, ha⟩ := h.2.2.1 q hq2
    exact ⟨a, vk_R.warm hW ha⟩, mp_notcast_moved hW.alike h.2.2.2.1, mp_lays_mv hW hh h.1 h.2.2.2.2.1, mp_lays_mv hW hh h.2.1 h.2.2.2.2.2⟩
/-- a word of the tables, or one of the two statics' -/
def mp_At (WT : List Cond) (w : Cond) : Prop := w ∈ WT ∨ w = .isRef (.static mp_thr "UNASSIGNED_STACK" mp_ste) ∨ w = .isRef (.static mp_thr "SUPPRESSED_SENTINEL" mp_lst) ∨ w = .laysStatic mp_thr "UNASSIGNED_STACK" mp_ste ∨ w = .laysStatic mp_thr "SUPPRESSED_SENTINEL" mp_lst
/-- words that read the tables alone -/
def mp_Us (WT : List Cond) : Prop := ∀ w ∈ WT, ∀ (A : Array Value) (U : State), va_Nw w U → w.before A U = true
section MPT
variable {p : Program} {l : Launch} {e : Env} {R : Room} {s : State} {m : MethodId} {args : Array Value} {below : List Frame} {meth : Method} {c : Code} {H : Heap} {locs : List Loc} {cells slots : Nat} {Q : State → Prop}
variable {cc : ByteArray} {nL pc : Nat} {ls : Array Slot} {rest : List Value} {WT : List Cond} {D : va_G} {cl : List vw_C} {tys : List (ClassId × FieldType)} {base mc ms : Nat} {own : String} {post : Outcome → State → Prop}
theorem mp_throwS (x : mp_X WT D cl tys p s m args c cc nL own) (hv : mp_Mv WT (mp_ZS base) base) (hot : mp_Us WT) (hG : mp_G WT D cl tys (mp_ZS base) s) (hB : base ≤ s.heap.size) (hlen : ls.size = nL) (hfl : l.flags = flags0) (hlocks : meth.locks = false) (hh : c.exceptionTable.toList.map (fun h => (h.startPc, h.endPc, h.handlerPc, h.catchType)) = [])
    {cls tx : String} {ia ib ic : Nat} (hcls : Bundle.fit cls = true) (hcl : Cond.classLink own ia cls ∈ WT) (hinst : Cond.instantiable cls 6 ∈ WT) (hini : Cond.initialized cls ∈ WT) (hat : ∀ w ∈ Bundle.ownAtoms own ic cls ["java/lang/RuntimeException", "java/lang/Exception"], mp_At WT w) (hown2 : own = "SupplyGrid") (hstr : (ib, tx) ∈ mp_strs)
    (hd0 : decode cc pc = .ok (.new ia, 3)) (hd3 : decode cc (pc + 3) = .ok (.dup, 1)) (hd4 : decode cc (pc + 4) = .ok (.ldc ib, 2)) (hd6 : decode cc (pc + 6) = .ok (.invokespecial ic, 3)) (hd9 : decode cc (pc + 9) = .ok (.athrow, 1))
    (hfr : 6 ≤ R.frames) (hlo : (rest.map fun v => v.category).sum + 82 ≤ R.locals) (hce : cells + 1 ≤ R.cells) (hsl : slots + 6 ≤ R.slots) (hce2 : cells + 1 ≤ mc) (hsl2 : slots + 6 ≤ ms) (hS : va_S (mp_A base) s.heap H locs)
    (hq : ∀ t : State, mp_T cls H.size t → H.size ≤ t.heap.size → (∀ q, q < H.size → t.heap[q]? = H[q]?) → s.WarmedH t.vm → post (.threw H.size) t) :
    W p l e R s m args below meth c H locs cells slots (mp_Q below s mc ms base post) (F0 m pc ls rest) := by
  intro T hT X
  obtain ⟨hx, hb, hml, hown, -, -⟩ := x
  have htr : e.platform.stackTraces = false := Launch.traces_off hfl X.admits
  have hnil : c.exceptionTable.toList = [] := List.map_eq_nil_iff.mp hh
  have Y := mp_rebase X (R' := { frames := R.frames, locals := R.locals, cells := 1, slots := 6 }) (Nat.le_refl _) (Nat.le_refl _) hce hsl
  have hlow : ∀ q, q < base → T.heap[q]? = s.heap[q]? := fun q hq => by rw [hT]; exact hS.2.1 q (Nat.lt_of_lt_of_le hq hB) (Nat.not_le.mpr hq)
  have hG' : mp_G WT D cl tys (mp_ZS base) (T.setFrames (.invoking m args :: below)) := hG.mv hv (U := T.setFrames (.invoking m args :: below)) X.warmed hlow
  have hts' : ∀ w ∈ WT, w.before args (T.setFrames (.invoking m args :: below)) = true := fun w hw => hot w hw _ _ (hG'.1 w hw)
  have hown' : (T.setFrames (.invoking m args :: below)).vm.findClass own = some m.cls := by
    show T.vm.findClass own = _
    rw [X.warmed.alike.findClass]; exact hown
  obtain ⟨qs, hqs⟩ := hG'.2.2.2.2.1 (ib, tx) hstr
  have hat' : ∀ w ∈ Bundle.ownAtoms own ic cls ["java/lang/RuntimeException", "java/lang/Exception"], w.before args (T.setFrames (.invoking m args :: below)) = true := fun w hw => by
    rcases hat w hw with h | rfl | rfl | rfl | rfl
    · exact hts' w h
    · exact mp_Zq_isRef hG'.2.2.1 args
    · exact mp_Zq_isRef hG'.2.2.2.1 args
    · exact hG'.2.2.2.2.2.2.1
    · exact hG'.2.2.2.2.2.2.2
  have K : W p l e { frames := R.frames, locals := R.locals, cells := 1, slots := 6 } (T.setFrames (.invoking m args :: below)) m args below meth c H [] 0 0 (mp_Q below s mc ms base post) (F0 m pc ls rest) := by
    refine W.newc hx hb hown' (hts' _ hcl) (hts' _ hinst) (hts' _ hini) rfl hd0 (Nat.le_refl _) (Nat.le_refl _) fun cC kC f1 f2 f3 f4 => ?_
    refine lv_dup hx hb hd3 rfl ?_
    refine va_ldcS hx hb hown' (tx := tx) (q := qs) (by rw [hown2]; exact hqs) hd4 ?_
    intro T2 hT2 Y2
    have hz2 : T2.heap[H.size]? = some (freshCell cC kC) := by rw [hT2]; simp
    obtain ⟨U, st, hrun, hend, hW, hsame, ce, hce', hoc⟩ := Y2.ctorThrowS hx htr (own := own) (cls := cls) (names := ["java/lang/RuntimeException", "java/lang/Exception"]) (ic := ic) hown' hcls (by decide +kernel) hat' (fun _ h => by cases h) f1 f2 hz2 (by show T.heap.size ≤ H.size; rw [hT]; exact Nat.le_refl _) (msg := .ref qs) rfl
      (g := F0 m (pc + 6) ls (.ref qs :: .ref H.size :: .ref H.size :: rest)) rfl (hlen.trans hml.symm) rfl rfl rfl (by rw [hb]; exact hd6) (by rw [hb]; exact hd9) (fun y hy => by rw [hnil] at hy; cases hy) (by show 2 + 3 < R.frames; omega)
      (by show 2 * 0 + (1 + (rest.map fun v => v.category).sum) + (13 * (2 + 1) + 42) ≤ R.locals; omega)
    have hU := mp_same hsame
    have hWs : s.WarmedH U.vm := State.WarmedH.trans X.warmed hW
    refine ⟨U, st, .threw H.size, hrun, hend, hq U ⟨ce, hce', hoc.vm, ?_⟩ ?_ ?_ hWs, hWs, locs, (mp_sameT X hsame).mono hce2 hsl2, hS.2.2⟩
    · rw [hW.alike.findClass]; exact hoc.cls
    · have := hU.1; rw [hT] at this; exact this
    · intro q hq2
      have := hU.2 q (by rw [hT]; exact hq2)
      rw [this, hT]
  exact K T hT Y
end MPT
end
section
/-! CATCHES: the search asks the catch types in turn (each is linked as it is asked for the first time). -/
theorem ct_step {Q : Handler → Pre} {E : CtlPost} {e : Env} {d : Bool} {acts : List Action} {s : State} {f : JFrame} {a : Addr} {x : ExceptionTableEntry} {t : List ExceptionTableEntry} {c : ClassId} {cell : Cell} (hx : covers x f.pc = true) (h0 : x.catchType ≠ 0)
    (hl : s.vm.ClassLinks e.platform f.method.cls x.catchType c) (hcell : s.heap[a]? = some cell) (hobj : ∀ k, cell.vm ≠ .statics k) (hk : ∃ k, s.vm.classes[cell.cls]? = some k) (hc : ∃ k, s.vm.classes[c]? = some k) :
    wp (findHandler.go f a (x :: t)) Q E e d acts s ↔ if s.vm.assignable cell.cls c = true then Q (.found x.handlerPc) d acts (s.setVm (s.vm.noted f.method.cls x.catchType (.cls c))) else wp (findHandler.go f a t) Q E e d acts (s.setVm (s.vm.noted f.method.cls x.catchType (.cls c))) := by
  simp only [covers] at hx
  obtain ⟨ha, ht⟩ := (resolveClass_links e.toSetting hl).op (op := VmOp.resolveClass f.method.cls x.catchType) rfl
  have hal : s.vm.Alike (s.vm.noted f.method.cls x.catchType (.cls c)) := (Vm.Alike.refl s.vm).noted _ _ _
  obtain ⟨k1, hk1⟩ := hk
  obtain ⟨k2, hk2⟩ := hc
  obtain ⟨k1', hk1', -⟩ := hal.2.2 _ _ hk1
  obtain ⟨k2', hk2', -⟩ := hal.2.2 _ _ hk2
  have hasg := hal.assignable (s := cell.cls) (t := c)
  cases hfit : s.vm.assignable cell.cls c with
  | true =>
    rw [hfit] at hasg
    simp [findHandler.go, hx, h0, ha, ht, hcell, hobj, hk1', hk2', hasg, VmOp.dirties, VmOp.acts]
  | false =>
    rw [hfit] at hasg
    simp [findHandler.go, hx, h0, ha, ht, hcell, hobj, hk1', hk2', hasg, VmOp.dirties, VmOp.acts]
/-- into the handler that was found; the tables may be warmer -/
theorem ct_caught {tb : Tables} {e : Env} {s target : State} {g : JFrame} {c : Code} {below : List Frame} {a : Addr} (h : At s g.method c below) {pc : Nat} {vm' : Vm}
    (hfind : ∀ (Q : Handler → Pre) (E : CtlPost) (d : Bool) (acts : List Action), wp (findHandler g a) Q E e d acts ((s.setTop g).pushFrame (.throwing a)) ↔ Q (.found pc) d acts (((s.setTop g).pushFrame (.throwing a)).setVm vm'))
    (hrest : Steps tb e below ((s.setVm vm').setTop { g with pc := pc, stack := [.ref a] }) target) : Steps tb e below ((s.setTop g).pushFrame (.throwing a)) target := by
  obtain ⟨hgo, hw⟩ := h.throwing a
  refine Steps.head hgo hw ?_
  have hst : ∀ r : List Frame, (stepThrowing e ((s.setTop g).pushFrame (.throwing a)) a (.java g :: r)).1 = (((s.setTop g).pushFrame (.throwing a)).setVm vm').setFrames (.java { g with pc := pc, stack := [.ref a] } :: r) := by
    intro r
    simp only [stepThrowing, searchFrame, vmDo]
    generalize hr : Sem.go _ e false [] ((s.setTop g).pushFrame (.throwing a)) = res
    obtain ⟨as, rfl, ha⟩ := Sem.eq_ok_of hr (a := Handler.found pc) (s' := ((s.setTop g).pushFrame (.throwing a)).setVm vm') (acts' := []) (by simp [hfind _ _ _ _])
    rfl
  rw [stepThread_throwing (frames_entered h.top _), hst]
  obtain ⟨g₀, hg⟩ := Option.isSome_iff_exists.mp h.top
  obtain ⟨r, hr⟩ := State.topJava?_eq_some.mp hg
  have hr' : (s.setVm vm').frames = .java g₀ :: r := hr
  rw [State.setTop_of_frames _ hr'] at hrest
  have hset : ∀ (u : State) (F G : List Frame), ((u.setFrames F).setVm vm').setFrames G = (u.setVm vm').setFrames G := fun u F G => by
    have h1 : (u.setFrames F).setVm vm' = (u.setVm vm').setFrames F := rfl
    rw [h1, State.setFrames_setFrames]
  rw [hr, List.tail_cons, State.pushFrame, hset, State.setTop_of_frames _ hr, hset]
  exact hrest
section CTC
variable {p : Program} {l : Launch} {e : Env} {R : Room} {s : State} {m : MethodId} {args : Array Value} {below : List Frame} {meth : Method} {c : Code} {H : Heap} {locs : List Loc} {cells slots : Nat} {Q : State → Prop}
variable {cc : ByteArray} {nL pc : Nat} {ls : Array Slot} {rest : List Value} {WT : List Cond} {D : va_G} {cl : List vw_C} {tys : List (ClassId × FieldType)} {own : String}
theorem ct_split {hs : List (Nat × Nat × Nat × Nat)} (hh : c.exceptionTable.toList.map (fun h => (h.startPc, h.endPc, h.handlerPc, h.catchType)) = hs) : ∃ L : List ExceptionTableEntry, c.exceptionTable.toList = L ∧ L.map (fun h => (h.startPc, h.endPc, h.handlerPc, h.catchType)) = hs := ⟨_, rfl, hh⟩
/-- the first entry takes it -/
theorem ct_first (x : mp_X WT D cl tys p s m args c cc nL own) {h1 h2 h3 h4 : Nat} {more : List (Nat × Nat × Nat × Nat)} (hh : c.exceptionTable.toList.map (fun h => (h.startPc, h.endPc, h.handlerPc, h.catchType)) = (h1, h2, h3, h4) :: more) (hlo : h1 ≤ pc) (hhi : pc < h2) (h0 : h4 ≠ 0) {cls : String} (hl : Cond.classLink own h4 cls ∈ WT) (hcs : Cond.castable cls cls ∈ WT)
    {a : Addr} {cell : Cell} (hcell : H[a]? = some cell) (hvm : cell.vm = .none) (hfc : s.vm.findClass cls = some cell.cls) (kk : W p l e R s m args below meth c H locs cells slots Q (F0 m h3 ls [.ref a])) : mp_WT p l e R s m args below meth c H locs cells slots Q a (F0 m pc ls rest) := by
  obtain ⟨hx, hb, hml, hown, hts, -⟩ := x
  intro T hT X
  have hpl : e.platform.magicAccessors = ({} : Platform).magicAccessors := by rw [X.admits.platform]
  obtain ⟨cT, hcT, hlk⟩ := Cond.classLink_spec hown (hts _ hl) e.platform hpl
  cases hfc.symm.trans hcT
  obtain ⟨c3, c4, hc3, hc4, hasg⟩ := Cond.castable_spec (hts _ hcs)
  cases hfc.symm.trans hc3
  cases hfc.symm.trans hc4
  have hW := X.warmed
  have hlT := hW.classLinks hlk
  obtain ⟨dk, _, _, kt, hd, _, _, _, _, hkt, _, hopen⟩ := hlk.here
  obtain ⟨kt', hkt', -⟩ := hW.alike.2.2 _ _ hkt
  have hW' := hW.noted hd hopen (State.rightAt_cls hlk)
  obtain ⟨t, a1, b1⟩ := kk (T.setVm (T.vm.noted m.cls h4 (.cls cell.cls))) hT (X.noted hW')
  refine ⟨t, ct_caught (pc := h3) (vm' := T.vm.noted m.cls h4 (.cls cell.cls)) X.here (fun Q' E' d' acts' => ?_) a1, b1⟩
  obtain ⟨L, hL, hm⟩ := ct_split hh
  cases L with
  | nil => cases hm
  | cons y r =>
    simp only [List.map_cons, List.cons.injEq, Prod.mk.injEq] at hm
    obtain ⟨⟨e1, e2, e3, e4⟩, -⟩ := hm
    subst e1; subst e2; subst e3; subst e4
    rw [W.findHandler_eq (s := (T.setTop (F0 m pc ls rest)).pushFrame (.throwing a)) (meth := meth) (code := c) (by rw [Stand.throwing_vm]; exact X.method') X.code, hL]
    rw [ct_step (x := y) (c := cell.cls) (cell := cell) (by simp [covers, hlo, hhi]) h0 (by rw [Stand.throwing_vm]; exact hlT) (by rw [Stand.throwing_heap, hT]; exact hcell) (fun k h => by rw [hvm] at h; cases h) (by rw [Stand.throwing_vm]; exact ⟨kt', hkt'⟩) (by rw [Stand.throwing_vm]; exact ⟨kt', hkt'⟩)]
    rw [if_pos (by rw [Stand.throwing_vm, hW.alike.assignable]; exact hasg), Stand.throwing_vm]
/-- the first doesn't, the second does -/
theorem ct_second (x : mp_X WT D cl tys p s m args c cc nL own) {h1 h2 h3 h4 g1 g2 g3 g4 : Nat} {more : List (Nat × Nat × Nat × Nat)} (hh : c.exceptionTable.toList.map (fun h => (h.startPc, h.endPc, h.handlerPc, h.catchType)) = (h1, h2, h3, h4) :: (g1, g2, g3, g4) :: more) (hlo : h1 ≤ pc) (hhi : pc < h2) (h0 : h4 ≠ 0) (glo : g1 ≤ pc) (ghi : pc < g2) (g0 : g4 ≠ 0) {cls oth : String} (hl : Cond.classLink own h4 oth ∈ WT) (hno : va_Nw (.not (.castable cls oth)) s) (gl : Cond.classLink own g4 cls ∈ WT) (hcs : Cond.castable cls cls ∈ WT)
    {a : Addr} {cell : Cell} (hcell : H[a]? = some cell) (hvm : cell.vm = .none) (hfc : s.vm.findClass cls = some cell.cls) (kk : W p l e R s m args below meth c H locs cells slots Q (F0 m g3 ls [.ref a])) : mp_WT p l e R s m args below meth c H locs cells slots Q a (F0 m pc ls rest) := by
  obtain ⟨hx, hb, hml, hown, hts, -⟩ := x
  intro T hT X
  have hpl : e.platform.magicAccessors = ({} : Platform).magicAccessors := by rw [X.admits.platform]
  obtain ⟨cO, hcO, hlkO⟩ := Cond.classLink_spec hown (hts _ hl) e.platform hpl
  obtain ⟨cT, hcT, hlk⟩ := Cond.classLink_spec hown (hts _ gl) e.platform hpl
  cases hfc.symm.trans hcT
  obtain ⟨c3, c4, hc3, hc4, hasg⟩ := Cond.castable_spec (hts _ hcs)
  cases hfc.symm.trans hc3
  cases hfc.symm.trans hc4
  have hnoasg := mp_notcast hno hfc hcO
  have hW := X.warmed
  have hlT := hW.classLinks hlkO
  obtain ⟨dk, _, _, kO, hd, _, _, _, _, hkO, _, hopen⟩ := hlkO.here
  obtain ⟨kO', hkO', -⟩ := hW.alike.2.2 _ _ hkO
  obtain ⟨dk2, _, _, kt, hd2, _, _, _, _, hkt, _, hopen2⟩ := hlk.here
  obtain ⟨kt', hkt', -⟩ := hW.alike.2.2 _ _ hkt
  have hW1 := hW.noted hd hopen (State.rightAt_cls hlkO)
  have hlT2 := hW1.classLinks hlk
  obtain ⟨kt2, hkt2, -⟩ := hW1.alike.2.2 _ _ hkt
  have hW2 := hW1.noted hd2 hopen2 (State.rightAt_cls hlk)
  obtain ⟨t, a1, b1⟩ := kk (T.setVm ((T.vm.noted m.cls h4 (.cls cO)).noted m.cls g4 (.cls cell.cls))) hT (X.noted hW2)
  refine ⟨t, ct_caught (pc := g3) (vm' := (T.vm.noted m.cls h4 (.cls cO)).noted m.cls g4 (.cls cell.cls)) X.here (fun Q' E' d' acts' => ?_) a1, b1⟩
  obtain ⟨L, hL, hm⟩ := ct_split hh
  cases L with
  | nil => cases hm
  | cons y r0 =>
    cases r0 with
    | nil => simp at hm
    | cons z r =>
      simp only [List.map_cons, List.cons.injEq, Prod.mk.injEq] at hm
      obtain ⟨⟨e1, e2, e3, e4⟩, ⟨f1, f2, f3, f4⟩, -⟩ := hm
      subst e1; subst e2; subst e3; subst e4; subst f1; subst f2; subst f3; subst f4
      rw [W.findHandler_eq (s := (T.setTop (F0 m pc ls rest)).pushFrame (.throwing a)) (meth := meth) (code := c) (by rw [Stand.throwing_vm]; exact X.method') X.code, hL]
      rw [ct_step (x := y) (c := cO) (cell := cell) (by simp [covers, hlo, hhi]) h0 (by rw [Stand.throwing_vm]; exact hlT) (by rw [Stand.throwing_heap, hT]; exact hcell) (fun k h => by rw [hvm] at h; cases h) (by rw [Stand.throwing_vm]; exact ⟨kt', hkt'⟩) (by rw [Stand.throwing_vm]; exact ⟨kO', hkO'⟩)]
      rw [if_neg (by rw [Stand.throwing_vm, hW.alike.assignable, hnoasg]; decide), Stand.throwing_vm]
      rw [ct_step (x := z) (c := cell.cls) (cell := cell) (by simp [covers, glo, ghi]) g0 (by exact hlT2) (by show ((T.setTop (F0 m pc ls rest)).pushFrame (.throwing a)).heap[a]? = _; rw [Stand.throwing_heap, hT]; exact hcell) (fun k h => by rw [hvm] at h; cases h) ⟨kt2, hkt2⟩ ⟨kt2, hkt2⟩]
      rw [if_pos (by show (T.vm.noted m.cls y.catchType (.cls cO)).assignable _ _ = true; rw [hW1.alike.assignable]; exact hasg)]
      rfl
end CTC
end
section
/-! WORDS of the tables that a method hands on to its callees, each by its place (printed by gen/parts.py). -/
def wt_ok : Cond → Bool
  | .arrayClass _ => true
  | .arrayOver (.object _) => true
  | .fieldLinkNest .. => true
  | .methodLinkNest .. => true
  | .declares _ => true
  | .castable _ _ => true
  | w => w.onTables && w.keeps
def wt_L : List Cond := lw_tbl.filter wt_ok
theorem wt_at {w : Cond} (i : Nat) (h : lw_tbl[i]? = some w) (hk : wt_ok w = true) : w ∈ wt_L := List.mem_filter.mpr ⟨List.mem_of_getElem? h, hk⟩
theorem wt_mv (base : Nat) : mp_Mv wt_L (mp_ZS base) base := by
  refine ⟨fun w hw s U hW h => ?_, mp_ZS_mv base⟩
  have hk := (List.mem_filter.mp hw).2
  cases w with
  | arrayClass ty => exact word_at hW (Or.inr ⟨ty, rfl⟩) h
  | arrayOver ty =>
    cases ty with
    | object C => exact va_AO.moved hW.alike h
    | _ => cases hk
  | fieldLinkNest a i b n d hh => exact va_Nw.warmF hW h
  | methodLinkNest a i x hh => exact va_Nw.warmM hW h
  | declares x => exact va_Nw.warmD hW h
  | castable a b => exact va_tabs rfl (rfl : (s.setVm U.vm).vm = U.vm) (by rw [Cond.castable_setVm hW.alike]; exact h)
  | _ => first | exact word_at hW (Or.inl hk) h | (cases hk)
theorem wt_us : mp_Us wt_L := by
  intro w hw A U h
  have hk := (List.mem_filter.mp hw).2
  cases w with
  | arrayClass ty => exact h
  | arrayOver ty => exact h
  | fieldLinkNest a i b n d hh => exact va_Nw.use rfl h
  | methodLinkNest a i x hh => exact va_Nw.use rfl h
  | declares x => exact va_Nw.use rfl h
  | castable a b => exact va_Nw.use rfl h
  | _ => first | exact va_Nw.use (by simp only [wt_ok, Bool.and_eq_true] at hk; exact hk.1) h | (cases hk)
theorem ww_0 : (Jvm.Cond.selects "SupplyGrid$Asking" ⟨"SupplyGrid$Asking", "end", "()V"⟩ ⟨"SupplyGrid$Asking", "end", "()V"⟩) ∈ wt_L := wt_at 0 (by decide +kernel) (by decide +kernel)
theorem ww_1 : (Jvm.Cond.selects "SupplyGrid$Asking" ⟨"SupplyGrid$Asking", "forgetAnswers", "()V"⟩ ⟨"SupplyGrid$Asking", "forgetAnswers", "()V"⟩) ∈ wt_L := wt_at 1 (by decide +kernel) (by decide +kernel)
theorem ww_2 : (Jvm.Cond.selects "java/lang/Throwable" ⟨"java/lang/Throwable", "fillInStackTrace", "(I)Ljava/lang/Throwable;"⟩ ⟨"java/lang/Throwable", "fillInStackTrace", "(I)Ljava/lang/Throwable;"⟩) ∈ wt_L := wt_at 2 (by decide +kernel) (by decide +kernel)
theorem ww_3 : (Jvm.Cond.selects "SupplyGrid" ⟨"SupplyGrid", "needUp", "(I)V"⟩ ⟨"SupplyGrid", "needUp", "(I)V"⟩) ∈ wt_L := wt_at 3 (by decide +kernel) (by decide +kernel)
theorem ww_4 : (Jvm.Cond.selects "SupplyGrid" ⟨"SupplyGrid", "isUp", "(I)Z"⟩ ⟨"SupplyGrid", "isUp", "(I)Z"⟩) ∈ wt_L := wt_at 4 (by decide +kernel) (by decide +kernel)
theorem ww_5 : (Jvm.Cond.selects "SupplyGrid$Prescription" ⟨"SupplyGrid$Prescription", "letsAsk", "(LSupplyGrid$Desk;I)Z"⟩ ⟨"SupplyGrid$Prescription", "letsAsk", "(LSupplyGrid$Desk;I)Z"⟩) ∈ wt_L := wt_at 5 (by decide +kernel) (by decide +kernel)
theorem ww_6 : (Jvm.Cond.selects "SupplyGrid$Pairs" ⟨"SupplyGrid$Pairs", "last", "()I"⟩ ⟨"SupplyGrid$Pairs", "last", "()I"⟩) ∈ wt_L := wt_at 6 (by decide +kernel) (by decide +kernel)
theorem ww_7 : (Jvm.Cond.selects "SupplyGrid$Pairs" ⟨"SupplyGrid$Pairs", "of", "(I)I"⟩ ⟨"SupplyGrid$Pairs", "of", "(I)I"⟩) ∈ wt_L := wt_at 7 (by decide +kernel) (by decide +kernel)
theorem ww_8 : (Jvm.Cond.selects "SupplyGrid$Desk" ⟨"SupplyGrid$Desk", "openSupply", "()I"⟩ ⟨"SupplyGrid$Desk", "openSupply", "()I"⟩) ∈ wt_L := wt_at 8 (by decide +kernel) (by decide +kernel)
theorem ww_9 : (Jvm.Cond.selects "SupplyGrid$Asking" ⟨"SupplyGrid$Asking", "begin", "(II)V"⟩ ⟨"SupplyGrid$Asking", "begin", "(II)V"⟩) ∈ wt_L := wt_at 9 (by decide +kernel) (by decide +kernel)
theorem ww_10 : (Jvm.Cond.selects "SupplyGrid" ⟨"SupplyGrid", "startRound", "(LSupplyGrid$Desk;)I"⟩ ⟨"SupplyGrid", "startRound", "(LSupplyGrid$Desk;)I"⟩) ∈ wt_L := wt_at 10 (by decide +kernel) (by decide +kernel)
theorem ww_11 : (Jvm.Cond.selects "SupplyGrid$Desk" ⟨"SupplyGrid$Desk", "nextNumber", "()I"⟩ ⟨"SupplyGrid$Desk", "nextNumber", "()I"⟩) ∈ wt_L := wt_at 11 (by decide +kernel) (by decide +kernel)
theorem ww_12 : (Jvm.Cond.selects "SupplyGrid$Asking" ⟨"SupplyGrid$Asking", "beginRound", "(I)V"⟩ ⟨"SupplyGrid$Asking", "beginRound", "(I)V"⟩) ∈ wt_L := wt_at 12 (by decide +kernel) (by decide +kernel)
theorem ww_13 : (Jvm.Cond.selects "SupplyGrid" ⟨"SupplyGrid", "sendToAll", "(LSupplyGrid$Desk;II)I"⟩ ⟨"SupplyGrid", "sendToAll", "(LSupplyGrid$Desk;II)I"⟩) ∈ wt_L := wt_at 13 (by decide +kernel) (by decide +kernel)
theorem ww_14 : (Jvm.Cond.selects "SupplyGrid$Letter" ⟨"SupplyGrid$Letter", "write", "(IIIIILSupplyGrid$Pairs;)V"⟩ ⟨"SupplyGrid$Letter", "write", "(IIIIILSupplyGrid$Pairs;)V"⟩) ∈ wt_L := wt_at 14 (by decide +kernel) (by decide +kernel)
theorem ww_15 : (Jvm.Cond.selects "SupplyGrid$Pairs" ⟨"SupplyGrid$Pairs", "become", "(LSupplyGrid$Pairs;)V"⟩ ⟨"SupplyGrid$Pairs", "become", "(LSupplyGrid$Pairs;)V"⟩) ∈ wt_L := wt_at 15 (by decide +kernel) (by decide +kernel)
theorem ww_16 : (Jvm.Cond.selects "SupplyGrid$LetterRow" ⟨"SupplyGrid$LetterRow", "send", "(I)Z"⟩ ⟨"SupplyGrid$LetterRow", "send", "(I)Z"⟩) ∈ wt_L := wt_at 16 (by decide +kernel) (by decide +kernel)
theorem ww_17 : (Jvm.Cond.selects "SupplyGrid$LetterRow" ⟨"SupplyGrid$LetterRow", "place", "(I)I"⟩ ⟨"SupplyGrid$LetterRow", "place", "(I)I"⟩) ∈ wt_L := wt_at 17 (by decide +kernel) (by decide +kernel)
theorem ww_18 : (Jvm.Cond.selects "SupplyGrid$Letter" ⟨"SupplyGrid$Letter", "become", "(LSupplyGrid$Letter;)V"⟩ ⟨"SupplyGrid$Letter", "become", "(LSupplyGrid$Letter;)V"⟩) ∈ wt_L := wt_at 18 (by decide +kernel) (by decide +kernel)
theorem ww_19 : (Jvm.Cond.selects "SupplyGrid" ⟨"SupplyGrid", "deskOf", "(II)LSupplyGrid$Desk;"⟩ ⟨"SupplyGrid", "deskOf", "(II)LSupplyGrid$Desk;"⟩) ∈ wt_L := wt_at 19 (by decide +kernel) (by decide +kernel)
theorem ww_20 : (Jvm.Cond.selects "SupplyGrid$Asking" ⟨"SupplyGrid$Asking", "runs", "()Z"⟩ ⟨"SupplyGrid$Asking", "runs", "()Z"⟩) ∈ wt_L := wt_at 20 (by decide +kernel) (by decide +kernel)
theorem ww_21 : (Jvm.Cond.selects "SupplyGrid" ⟨"SupplyGrid", "needLetter", "(I)V"⟩ ⟨"SupplyGrid", "needLetter", "(I)V"⟩) ∈ wt_L := wt_at 21 (by decide +kernel) (by decide +kernel)
theorem ww_22 : (Jvm.Cond.selects "SupplyGrid$LetterRow" ⟨"SupplyGrid$LetterRow", "take", "(I)LSupplyGrid$Letter;"⟩ ⟨"SupplyGrid$LetterRow", "take", "(I)LSupplyGrid$Letter;"⟩) ∈ wt_L := wt_at 22 (by decide +kernel) (by decide +kernel)
theorem ww_23 : (Jvm.Cond.selects "SupplyGrid$LetterRow" ⟨"SupplyGrid$LetterRow", "at", "(I)LSupplyGrid$Letter;"⟩ ⟨"SupplyGrid$LetterRow", "at", "(I)LSupplyGrid$Letter;"⟩) ∈ wt_L := wt_at 23 (by decide +kernel) (by decide +kernel)
theorem ww_24 : (Jvm.Cond.selects "SupplyGrid" ⟨"SupplyGrid", "handOver", "(LSupplyGrid$Letter;)I"⟩ ⟨"SupplyGrid", "handOver", "(LSupplyGrid$Letter;)I"⟩) ∈ wt_L := wt_at 24 (by decide +kernel) (by decide +kernel)
theorem ww_25 : (Jvm.Cond.selects "SupplyGrid$Desk" ⟨"SupplyGrid$Desk", "learnAll", "(LSupplyGrid$Pairs;)V"⟩ ⟨"SupplyGrid$Desk", "learnAll", "(LSupplyGrid$Pairs;)V"⟩) ∈ wt_L := wt_at 25 (by decide +kernel) (by decide +kernel)
theorem ww_26 : (Jvm.Cond.selects "SupplyGrid$Pairs" ⟨"SupplyGrid$Pairs", "addMissing", "(LSupplyGrid$Pairs;)V"⟩ ⟨"SupplyGrid$Pairs", "addMissing", "(LSupplyGrid$Pairs;)V"⟩) ∈ wt_L := wt_at 26 (by decide +kernel) (by decide +kernel)
theorem ww_27 : (Jvm.Cond.selects "SupplyGrid$Pairs" ⟨"SupplyGrid$Pairs", "add", "(I)V"⟩ ⟨"SupplyGrid$Pairs", "add", "(I)V"⟩) ∈ wt_L := wt_at 27 (by decide +kernel) (by decide +kernel)
theorem ww_28 : (Jvm.Cond.selects "SupplyGrid$Desk" ⟨"SupplyGrid$Desk", "openNext", "()V"⟩ ⟨"SupplyGrid$Desk", "openNext", "()V"⟩) ∈ wt_L := wt_at 28 (by decide +kernel) (by decide +kernel)
theorem ww_29 : (Jvm.Cond.selects "SupplyGrid" ⟨"SupplyGrid", "answerAsker", "(LSupplyGrid$Desk;LSupplyGrid$Letter;)I"⟩ ⟨"SupplyGrid", "answerAsker", "(LSupplyGrid$Desk;LSupplyGrid$Letter;)I"⟩) ∈ wt_L := wt_at 29 (by decide +kernel) (by decide +kernel)
theorem ww_30 : (Jvm.Cond.selects "SupplyGrid" ⟨"SupplyGrid", "answer", "(LSupplyGrid$Desk;LSupplyGrid$Letter;III)I"⟩ ⟨"SupplyGrid", "answer", "(LSupplyGrid$Desk;LSupplyGrid$Letter;III)I"⟩) ∈ wt_L := wt_at 30 (by decide +kernel) (by decide +kernel)
theorem ww_31 : (Jvm.Cond.selects "SupplyGrid" ⟨"SupplyGrid", "countPromise", "(LSupplyGrid$Desk;LSupplyGrid$Letter;)I"⟩ ⟨"SupplyGrid", "countPromise", "(LSupplyGrid$Desk;LSupplyGrid$Letter;)I"⟩) ∈ wt_L := wt_at 31 (by decide +kernel) (by decide +kernel)
theorem ww_32 : (Jvm.Cond.selects "SupplyGrid$Asking" ⟨"SupplyGrid$Asking", "waitsFor", "(LSupplyGrid$Letter;I)Z"⟩ ⟨"SupplyGrid$Asking", "waitsFor", "(LSupplyGrid$Letter;I)Z"⟩) ∈ wt_L := wt_at 32 (by decide +kernel) (by decide +kernel)
theorem ww_33 : (Jvm.Cond.selects "SupplyGrid$Asking" ⟨"SupplyGrid$Asking", "countAnswer", "(LSupplyGrid$Letter;)V"⟩ ⟨"SupplyGrid$Asking", "countAnswer", "(LSupplyGrid$Letter;)V"⟩) ∈ wt_L := wt_at 33 (by decide +kernel) (by decide +kernel)
theorem ww_34 : (Jvm.Cond.selects "SupplyGrid$Asking" ⟨"SupplyGrid$Asking", "beginPhaseTwo", "()V"⟩ ⟨"SupplyGrid$Asking", "beginPhaseTwo", "()V"⟩) ∈ wt_L := wt_at 34 (by decide +kernel) (by decide +kernel)
theorem ww_35 : (Jvm.Cond.selects "SupplyGrid$Desk" ⟨"SupplyGrid$Desk", "learn", "(I)V"⟩ ⟨"SupplyGrid$Desk", "learn", "(I)V"⟩) ∈ wt_L := wt_at 35 (by decide +kernel) (by decide +kernel)
theorem ww_36 : (Jvm.Cond.selects "SupplyGrid$Asking" ⟨"SupplyGrid$Asking", "hearRefusal", "(LSupplyGrid$Letter;)V"⟩ ⟨"SupplyGrid$Asking", "hearRefusal", "(LSupplyGrid$Letter;)V"⟩) ∈ wt_L := wt_at 36 (by decide +kernel) (by decide +kernel)
theorem ww_37 : (Jvm.Cond.selects "SupplyGrid$LetterRow" ⟨"SupplyGrid$LetterRow", "repeat", "(I)Z"⟩ ⟨"SupplyGrid$LetterRow", "repeat", "(I)Z"⟩) ∈ wt_L := wt_at 37 (by decide +kernel) (by decide +kernel)
theorem ww_38 : (Jvm.Cond.selects "SupplyGrid" ⟨"SupplyGrid", "endAskings", "(I)V"⟩ ⟨"SupplyGrid", "endAskings", "(I)V"⟩) ∈ wt_L := wt_at 38 (by decide +kernel) (by decide +kernel)
theorem ww_39 : (Jvm.Cond.selects "SupplyGrid$Letter" ⟨"SupplyGrid$Letter", "part", "(I)I"⟩ ⟨"SupplyGrid$Letter", "part", "(I)I"⟩) ∈ wt_L := wt_at 39 (by decide +kernel) (by decide +kernel)
theorem ww_40 : (Jvm.Cond.selects "SupplyGrid$Desk" ⟨"SupplyGrid$Desk", "part", "(I)I"⟩ ⟨"SupplyGrid$Desk", "part", "(I)I"⟩) ∈ wt_L := wt_at 40 (by decide +kernel) (by decide +kernel)
theorem ww_41 : (Jvm.Cond.selects "SupplyGridModel" ⟨"SupplyGridModel", "fails", "(ZI)Z"⟩ ⟨"SupplyGridModel", "fails", "(ZI)Z"⟩) ∈ wt_L := wt_at 41 (by decide +kernel) (by decide +kernel)
theorem ww_42 : (Jvm.Cond.selects "SupplyGridModel" ⟨"SupplyGridModel", "endAsking", "(I)V"⟩ ⟨"SupplyGridModel", "endAsking", "(I)V"⟩) ∈ wt_L := wt_at 42 (by decide +kernel) (by decide +kernel)
theorem ww_43 : (Jvm.Cond.selects "SupplyGridModel" ⟨"SupplyGridModel", "round", "(II)I"⟩ ⟨"SupplyGridModel", "round", "(II)I"⟩) ∈ wt_L := wt_at 43 (by decide +kernel) (by decide +kernel)
theorem ww_44 : (Jvm.Cond.selects "SupplyGridModel" ⟨"SupplyGridModel", "send", "(IIIIIIIII)V"⟩ ⟨"SupplyGridModel", "send", "(IIIIIIIII)V"⟩) ∈ wt_L := wt_at 44 (by decide +kernel) (by decide +kernel)
theorem ww_45 : (Jvm.Cond.selects "SupplyGridModel" ⟨"SupplyGridModel", "handOver", "(I)I"⟩ ⟨"SupplyGridModel", "handOver", "(I)I"⟩) ∈ wt_L := wt_at 45 (by decide +kernel) (by decide +kernel)
theorem ww_46 : (Jvm.Cond.selects "SupplyGridModel" ⟨"SupplyGridModel", "take", "(I)V"⟩ ⟨"SupplyGridModel", "take", "(I)V"⟩) ∈ wt_L := wt_at 46 (by decide +kernel) (by decide +kernel)
theorem ww_47 : (Jvm.Cond.selects "SupplyGridModel" ⟨"SupplyGridModel", "comes", "()V"⟩ ⟨"SupplyGridModel", "comes", "()V"⟩) ∈ wt_L := wt_at 47 (by decide +kernel) (by decide +kernel)
theorem ww_48 : (Jvm.Cond.selects "SupplyGridModel" ⟨"SupplyGridModel", "learn", "(III)V"⟩ ⟨"SupplyGridModel", "learn", "(III)V"⟩) ∈ wt_L := wt_at 48 (by decide +kernel) (by decide +kernel)
theorem ww_49 : (Jvm.Cond.selects "SupplyGridModel" ⟨"SupplyGridModel", "answers", "(IZIIIII)V"⟩ ⟨"SupplyGridModel", "answers", "(IZIIIII)V"⟩) ∈ wt_L := wt_at 49 (by decide +kernel) (by decide +kernel)
theorem ww_50 : (Jvm.Cond.selects "SupplyGridModel" ⟨"SupplyGridModel", "promisedBy", "(IIIII)V"⟩ ⟨"SupplyGridModel", "promisedBy", "(IIIII)V"⟩) ∈ wt_L := wt_at 50 (by decide +kernel) (by decide +kernel)
theorem ww_51 : (Jvm.Cond.selects "SupplyGridModel" ⟨"SupplyGridModel", "hasEachColumn", "(I)Z"⟩ ⟨"SupplyGridModel", "hasEachColumn", "(I)Z"⟩) ∈ wt_L := wt_at 51 (by decide +kernel) (by decide +kernel)
theorem ww_52 : (Jvm.Cond.selects "SupplyGridModel" ⟨"SupplyGridModel", "hasWholeColumn", "(I)Z"⟩ ⟨"SupplyGridModel", "hasWholeColumn", "(I)Z"⟩) ∈ wt_L := wt_at 52 (by decide +kernel) (by decide +kernel)
theorem ww_53 : (Jvm.Cond.initialized "SupplyGridLaw") ∈ wt_L := wt_at 53 (by decide +kernel) (by decide +kernel)
theorem ww_54 : (Jvm.Cond.initialized "SupplyGrid") ∈ wt_L := wt_at 54 (by decide +kernel) (by decide +kernel)
theorem ww_55 : (Jvm.Cond.initialized "SupplyGrid$Desk") ∈ wt_L := wt_at 55 (by decide +kernel) (by decide +kernel)
theorem ww_56 : (Jvm.Cond.initialized "SupplyGrid$Pairs") ∈ wt_L := wt_at 56 (by decide +kernel) (by decide +kernel)
theorem ww_57 : (Jvm.Cond.initialized "SupplyGrid$Asking") ∈ wt_L := wt_at 57 (by decide +kernel) (by decide +kernel)
theorem ww_58 : (Jvm.Cond.initialized "SupplyGrid$LetterRow") ∈ wt_L := wt_at 58 (by decide +kernel) (by decide +kernel)
theorem ww_59 : (Jvm.Cond.initialized "SupplyGrid$Letter") ∈ wt_L := wt_at 59 (by decide +kernel) (by decide +kernel)
theorem ww_60 : (Jvm.Cond.initialized "SupplyGridModel") ∈ wt_L := wt_at 60 (by decide +kernel) (by decide +kernel)
theorem ww_61 : (Jvm.Cond.initialized "java/lang/Throwable") ∈ wt_L := wt_at 61 (by decide +kernel) (by decide +kernel)
theorem ww_62 : (Jvm.Cond.initialized "java/lang/Exception") ∈ wt_L := wt_at 62 (by decide +kernel) (by decide +kernel)
theorem ww_63 : (Jvm.Cond.initialized "java/lang/RuntimeException") ∈ wt_L := wt_at 63 (by decide +kernel) (by decide +kernel)
theorem ww_64 : (Jvm.Cond.initialized "java/lang/IllegalArgumentException") ∈ wt_L := wt_at 64 (by decide +kernel) (by decide +kernel)
theorem ww_65 : (Jvm.Cond.initialized "java/lang/IllegalStateException") ∈ wt_L := wt_at 65 (by decide +kernel) (by decide +kernel)
theorem ww_66 : (Jvm.Cond.initialized "SupplyGrid$Prescription") ∈ wt_L := wt_at 66 (by decide +kernel) (by decide +kernel)
theorem ww_67 : (Jvm.Cond.initialized "java/lang/Math") ∈ wt_L := wt_at 67 (by decide +kernel) (by decide +kernel)
theorem ww_68 : (Jvm.Cond.initialized "java/lang/Integer") ∈ wt_L := wt_at 68 (by decide +kernel) (by decide +kernel)
theorem ww_69 : (Jvm.Cond.classLink "SupplyGridLaw" (8 : Nat) "SupplyGrid") ∈ wt_L := wt_at 69 (by decide +kernel) (by decide +kernel)
theorem ww_70 : (Jvm.Cond.instantiable "SupplyGrid" (4 : Nat)) ∈ wt_L := wt_at 70 (by decide +kernel) (by decide +kernel)
theorem ww_71 : (Jvm.Cond.methodLink "SupplyGridLaw" (63 : Nat) ({ cls := "SupplyGrid", name := "<init>", desc := "()V" } : Jvm.MethodName)) ∈ wt_L := wt_at 71 (by decide +kernel) (by decide +kernel)
theorem ww_72 : (Jvm.Cond.instanceMethod ({ cls := "SupplyGrid", name := "<init>", desc := "()V" } : Jvm.MethodName)) ∈ wt_L := wt_at 72 (by decide +kernel) (by decide +kernel)
theorem ww_73 : (Jvm.Cond.code ({ cls := "SupplyGrid", name := "<init>", desc := "()V" } : Jvm.MethodName) prog_1_method_1_code (1 : Nat) (Option.none : Option Jvm.ClassFile.FieldType)) ∈ wt_L := wt_at 73 (by decide +kernel) (by decide +kernel)
theorem ww_74 : (Jvm.Cond.methodLink "SupplyGrid" (1 : Nat) ({ cls := "java/lang/Object", name := "<init>", desc := "()V" } : Jvm.MethodName)) ∈ wt_L := wt_at 74 (by decide +kernel) (by decide +kernel)
theorem ww_75 : (Jvm.Cond.instanceMethod ({ cls := "java/lang/Object", name := "<init>", desc := "()V" } : Jvm.MethodName)) ∈ wt_L := wt_at 75 (by decide +kernel) (by decide +kernel)
theorem ww_76 : (Jvm.Cond.code ({ cls := "java/lang/Object", name := "<init>", desc := "()V" } : Jvm.MethodName) object_method_1_code (1 : Nat) (Option.none : Option Jvm.ClassFile.FieldType)) ∈ wt_L := wt_at 76 (by decide +kernel) (by decide +kernel)
theorem ww_77 : (Jvm.Cond.classLink "SupplyGrid" (9 : Nat) "SupplyGrid$Prescription") ∈ wt_L := wt_at 77 (by decide +kernel) (by decide +kernel)
theorem ww_78 : (Jvm.Cond.arrayOver (Jvm.ClassFile.FieldType.object "SupplyGrid$Prescription")) ∈ wt_L := wt_at 78 (by decide +kernel) (by decide +kernel)
theorem ww_79 : (Jvm.Cond.classLink "SupplyGrid" (15 : Nat) "SupplyGrid$Desk") ∈ wt_L := wt_at 79 (by decide +kernel) (by decide +kernel)
theorem ww_80 : (Jvm.Cond.instantiable "SupplyGrid$Desk" (8 : Nat)) ∈ wt_L := wt_at 80 (by decide +kernel) (by decide +kernel)
theorem ww_81 : (Jvm.Cond.methodLinkNest "SupplyGrid" (17 : Nat) ({ cls := "SupplyGrid$Desk", name := "<init>", desc := "(II)V" } : Jvm.MethodName) "SupplyGrid") ∈ wt_L := wt_at 81 (by decide +kernel) (by decide +kernel)
theorem ww_82 : (Jvm.Cond.instanceMethod ({ cls := "SupplyGrid$Desk", name := "<init>", desc := "(II)V" } : Jvm.MethodName)) ∈ wt_L := wt_at 82 (by decide +kernel) (by decide +kernel)
theorem ww_83 : (Jvm.Cond.code ({ cls := "SupplyGrid$Desk", name := "<init>", desc := "(II)V" } : Jvm.MethodName) prog_3_method_1_code (3 : Nat) (Option.none : Option Jvm.ClassFile.FieldType)) ∈ wt_L := wt_at 83 (by decide +kernel) (by decide +kernel)
theorem ww_84 : (Jvm.Cond.methodLink "SupplyGrid$Desk" (3 : Nat) ({ cls := "java/lang/Object", name := "<init>", desc := "()V" } : Jvm.MethodName)) ∈ wt_L := wt_at 84 (by decide +kernel) (by decide +kernel)
theorem ww_85 : (Jvm.Cond.classLink "SupplyGrid$Desk" (18 : Nat) "SupplyGrid$Pairs") ∈ wt_L := wt_at 85 (by decide +kernel) (by decide +kernel)
theorem ww_86 : (Jvm.Cond.instantiable "SupplyGrid$Pairs" (2 : Nat)) ∈ wt_L := wt_at 86 (by decide +kernel) (by decide +kernel)
theorem ww_87 : (Jvm.Cond.methodLinkNest "SupplyGrid$Desk" (20 : Nat) ({ cls := "SupplyGrid$Pairs", name := "<init>", desc := "()V" } : Jvm.MethodName) "SupplyGrid") ∈ wt_L := wt_at 87 (by decide +kernel) (by decide +kernel)
theorem ww_88 : (Jvm.Cond.instanceMethod ({ cls := "SupplyGrid$Pairs", name := "<init>", desc := "()V" } : Jvm.MethodName)) ∈ wt_L := wt_at 88 (by decide +kernel) (by decide +kernel)
theorem ww_89 : (Jvm.Cond.code ({ cls := "SupplyGrid$Pairs", name := "<init>", desc := "()V" } : Jvm.MethodName) prog_6_method_1_code (1 : Nat) (Option.none : Option Jvm.ClassFile.FieldType)) ∈ wt_L := wt_at 89 (by decide +kernel) (by decide +kernel)
theorem ww_90 : (Jvm.Cond.methodLink "SupplyGrid$Pairs" (3 : Nat) ({ cls := "java/lang/Object", name := "<init>", desc := "()V" } : Jvm.MethodName)) ∈ wt_L := wt_at 90 (by decide +kernel) (by decide +kernel)
theorem ww_91 : (Jvm.Cond.fieldLink "SupplyGrid$Pairs" (9 : Nat) "SupplyGrid$Pairs" "pairs" "[I") ∈ wt_L := wt_at 91 (by decide +kernel) (by decide +kernel)
theorem ww_92 : (Jvm.Cond.fieldLink "SupplyGrid$Pairs" (15 : Nat) "SupplyGrid$Pairs" "count" "I") ∈ wt_L := wt_at 92 (by decide +kernel) (by decide +kernel)
theorem ww_93 : (Jvm.Cond.fieldLinkNest "SupplyGrid$Desk" (44 : Nat) "SupplyGrid$Pairs" "count" "I" "SupplyGrid") ∈ wt_L := wt_at 93 (by decide +kernel) (by decide +kernel)
theorem ww_94 : (Jvm.Cond.fieldLinkNest "SupplyGrid$Prescription" (31 : Nat) "SupplyGrid$Pairs" "count" "I" "SupplyGrid") ∈ wt_L := wt_at 94 (by decide +kernel) (by decide +kernel)
theorem ww_95 : (Jvm.Cond.fieldLinkNest "SupplyGrid$Letter" (54 : Nat) "SupplyGrid$Pairs" "count" "I" "SupplyGrid") ∈ wt_L := wt_at 95 (by decide +kernel) (by decide +kernel)
theorem ww_96 : (Jvm.Cond.fieldLinkNest "SupplyGrid" (154 : Nat) "SupplyGrid$Pairs" "count" "I" "SupplyGrid") ∈ wt_L := wt_at 96 (by decide +kernel) (by decide +kernel)
theorem ww_97 : (Jvm.Cond.laysFinal "SupplyGrid$Pairs" "SupplyGrid$Pairs" "pairs" "[I") ∈ wt_L := wt_at 97 (by decide +kernel) (by decide +kernel)
theorem ww_98 : (Jvm.Cond.soleField "SupplyGrid$Pairs" "pairs") ∈ wt_L := wt_at 98 (by decide +kernel) (by decide +kernel)
theorem ww_99 : (Jvm.Cond.lays "SupplyGrid$Pairs" "SupplyGrid$Pairs" "count" "I") ∈ wt_L := wt_at 99 (by decide +kernel) (by decide +kernel)
theorem ww_100 : (Jvm.Cond.soleField "SupplyGrid$Pairs" "count") ∈ wt_L := wt_at 100 (by decide +kernel) (by decide +kernel)
theorem ww_101 : (Jvm.Cond.superclass "SupplyGrid$Pairs" "java/lang/Object") ∈ wt_L := wt_at 101 (by decide +kernel) (by decide +kernel)
theorem ww_102 : (Jvm.Cond.arrayClass Jvm.ClassFile.FieldType.int) ∈ wt_L := wt_at 102 (by decide +kernel) (by decide +kernel)
theorem ww_103 : (Jvm.Cond.classLink "SupplyGrid$Desk" (25 : Nat) "SupplyGrid$Asking") ∈ wt_L := wt_at 103 (by decide +kernel) (by decide +kernel)
theorem ww_104 : (Jvm.Cond.instantiable "SupplyGrid$Asking" (8 : Nat)) ∈ wt_L := wt_at 104 (by decide +kernel) (by decide +kernel)
theorem ww_105 : (Jvm.Cond.methodLinkNest "SupplyGrid$Desk" (27 : Nat) ({ cls := "SupplyGrid$Asking", name := "<init>", desc := "()V" } : Jvm.MethodName) "SupplyGrid") ∈ wt_L := wt_at 105 (by decide +kernel) (by decide +kernel)
theorem ww_106 : (Jvm.Cond.instanceMethod ({ cls := "SupplyGrid$Asking", name := "<init>", desc := "()V" } : Jvm.MethodName)) ∈ wt_L := wt_at 106 (by decide +kernel) (by decide +kernel)
theorem ww_107 : (Jvm.Cond.code ({ cls := "SupplyGrid$Asking", name := "<init>", desc := "()V" } : Jvm.MethodName) prog_2_method_1_code (1 : Nat) (Option.none : Option Jvm.ClassFile.FieldType)) ∈ wt_L := wt_at 107 (by decide +kernel) (by decide +kernel)
theorem ww_108 : (Jvm.Cond.methodLink "SupplyGrid$Asking" (3 : Nat) ({ cls := "java/lang/Object", name := "<init>", desc := "()V" } : Jvm.MethodName)) ∈ wt_L := wt_at 108 (by decide +kernel) (by decide +kernel)
theorem ww_109 : (Jvm.Cond.methodLink "SupplyGrid$Asking" (9 : Nat) ({ cls := "SupplyGrid$Asking", name := "end", desc := "()V" } : Jvm.MethodName)) ∈ wt_L := wt_at 109 (by decide +kernel) (by decide +kernel)
theorem ww_111 : (Jvm.Cond.instanceMethod ({ cls := "SupplyGrid$Asking", name := "end", desc := "()V" } : Jvm.MethodName)) ∈ wt_L := wt_at 111 (by decide +kernel) (by decide +kernel)
theorem ww_112 : (Jvm.Cond.code ({ cls := "SupplyGrid$Asking", name := "end", desc := "()V" } : Jvm.MethodName) prog_2_method_3_code (1 : Nat) (Option.none : Option Jvm.ClassFile.FieldType)) ∈ wt_L := wt_at 112 (by decide +kernel) (by decide +kernel)
theorem ww_113 : (Jvm.Cond.methodLink "SupplyGrid$Asking" (30 : Nat) ({ cls := "SupplyGrid$Asking", name := "forgetAnswers", desc := "()V" } : Jvm.MethodName)) ∈ wt_L := wt_at 113 (by decide +kernel) (by decide +kernel)
theorem ww_115 : (Jvm.Cond.instanceMethod ({ cls := "SupplyGrid$Asking", name := "forgetAnswers", desc := "()V" } : Jvm.MethodName)) ∈ wt_L := wt_at 115 (by decide +kernel) (by decide +kernel)
theorem ww_116 : (Jvm.Cond.code ({ cls := "SupplyGrid$Asking", name := "forgetAnswers", desc := "()V" } : Jvm.MethodName) prog_2_method_7_code (1 : Nat) (Option.none : Option Jvm.ClassFile.FieldType)) ∈ wt_L := wt_at 116 (by decide +kernel) (by decide +kernel)
theorem ww_117 : (Jvm.Cond.fieldLink "SupplyGrid$Asking" (18 : Nat) "SupplyGrid$Asking" "supply" "I") ∈ wt_L := wt_at 117 (by decide +kernel) (by decide +kernel)
theorem ww_118 : (Jvm.Cond.fieldLinkNest "SupplyGrid" (222 : Nat) "SupplyGrid$Asking" "supply" "I" "SupplyGrid") ∈ wt_L := wt_at 118 (by decide +kernel) (by decide +kernel)
theorem ww_119 : (Jvm.Cond.fieldLink "SupplyGrid$Asking" (21 : Nat) "SupplyGrid$Asking" "pair" "I") ∈ wt_L := wt_at 119 (by decide +kernel) (by decide +kernel)
theorem ww_120 : (Jvm.Cond.fieldLinkNest "SupplyGrid" (289 : Nat) "SupplyGrid$Asking" "pair" "I" "SupplyGrid") ∈ wt_L := wt_at 120 (by decide +kernel) (by decide +kernel)
theorem ww_121 : (Jvm.Cond.fieldLink "SupplyGrid$Asking" (24 : Nat) "SupplyGrid$Asking" "number" "I") ∈ wt_L := wt_at 121 (by decide +kernel) (by decide +kernel)
theorem ww_122 : (Jvm.Cond.fieldLinkNest "SupplyGrid$Desk" (80 : Nat) "SupplyGrid$Asking" "number" "I" "SupplyGrid") ∈ wt_L := wt_at 122 (by decide +kernel) (by decide +kernel)
theorem ww_123 : (Jvm.Cond.fieldLinkNest "SupplyGrid" (225 : Nat) "SupplyGrid$Asking" "number" "I" "SupplyGrid") ∈ wt_L := wt_at 123 (by decide +kernel) (by decide +kernel)
theorem ww_124 : (Jvm.Cond.fieldLink "SupplyGrid$Asking" (14 : Nat) "SupplyGrid$Asking" "phase" "I") ∈ wt_L := wt_at 124 (by decide +kernel) (by decide +kernel)
theorem ww_125 : (Jvm.Cond.fieldLinkNest "SupplyGrid$Desk" (83 : Nat) "SupplyGrid$Asking" "phase" "I" "SupplyGrid") ∈ wt_L := wt_at 125 (by decide +kernel) (by decide +kernel)
theorem ww_126 : (Jvm.Cond.fieldLink "SupplyGrid$Asking" (39 : Nat) "SupplyGrid$Asking" "answers" "I") ∈ wt_L := wt_at 126 (by decide +kernel) (by decide +kernel)
theorem ww_127 : (Jvm.Cond.fieldLinkNest "SupplyGrid$Desk" (86 : Nat) "SupplyGrid$Asking" "answers" "I" "SupplyGrid") ∈ wt_L := wt_at 127 (by decide +kernel) (by decide +kernel)
theorem ww_128 : (Jvm.Cond.fieldLinkNest "SupplyGrid" (283 : Nat) "SupplyGrid$Asking" "answers" "I" "SupplyGrid") ∈ wt_L := wt_at 128 (by decide +kernel) (by decide +kernel)
theorem ww_129 : (Jvm.Cond.fieldLink "SupplyGrid$Asking" (27 : Nat) "SupplyGrid$Asking" "refusedFor" "I") ∈ wt_L := wt_at 129 (by decide +kernel) (by decide +kernel)
theorem ww_130 : (Jvm.Cond.fieldLinkNest "SupplyGrid$Desk" (61 : Nat) "SupplyGrid$Asking" "refusedFor" "I" "SupplyGrid") ∈ wt_L := wt_at 130 (by decide +kernel) (by decide +kernel)
theorem ww_131 : (Jvm.Cond.fieldLink "SupplyGrid$Asking" (33 : Nat) "SupplyGrid$Asking" "greatestAccepted" "I") ∈ wt_L := wt_at 131 (by decide +kernel) (by decide +kernel)
theorem ww_132 : (Jvm.Cond.fieldLink "SupplyGrid$Asking" (36 : Nat) "SupplyGrid$Asking" "greatestPair" "I") ∈ wt_L := wt_at 132 (by decide +kernel) (by decide +kernel)
theorem ww_133 : (Jvm.Cond.lays "SupplyGrid$Asking" "SupplyGrid$Asking" "supply" "I") ∈ wt_L := wt_at 133 (by decide +kernel) (by decide +kernel)
theorem ww_134 : (Jvm.Cond.soleField "SupplyGrid$Asking" "supply") ∈ wt_L := wt_at 134 (by decide +kernel) (by decide +kernel)
theorem ww_135 : (Jvm.Cond.lays "SupplyGrid$Asking" "SupplyGrid$Asking" "pair" "I") ∈ wt_L := wt_at 135 (by decide +kernel) (by decide +kernel)
theorem ww_136 : (Jvm.Cond.soleField "SupplyGrid$Asking" "pair") ∈ wt_L := wt_at 136 (by decide +kernel) (by decide +kernel)
theorem ww_137 : (Jvm.Cond.lays "SupplyGrid$Asking" "SupplyGrid$Asking" "number" "I") ∈ wt_L := wt_at 137 (by decide +kernel) (by decide +kernel)
theorem ww_138 : (Jvm.Cond.soleField "SupplyGrid$Asking" "number") ∈ wt_L := wt_at 138 (by decide +kernel) (by decide +kernel)
theorem ww_139 : (Jvm.Cond.lays "SupplyGrid$Asking" "SupplyGrid$Asking" "phase" "I") ∈ wt_L := wt_at 139 (by decide +kernel) (by decide +kernel)
theorem ww_140 : (Jvm.Cond.soleField "SupplyGrid$Asking" "phase") ∈ wt_L := wt_at 140 (by decide +kernel) (by decide +kernel)
theorem ww_141 : (Jvm.Cond.lays "SupplyGrid$Asking" "SupplyGrid$Asking" "answers" "I") ∈ wt_L := wt_at 141 (by decide +kernel) (by decide +kernel)
theorem ww_142 : (Jvm.Cond.soleField "SupplyGrid$Asking" "answers") ∈ wt_L := wt_at 142 (by decide +kernel) (by decide +kernel)
theorem ww_143 : (Jvm.Cond.lays "SupplyGrid$Asking" "SupplyGrid$Asking" "refusedFor" "I") ∈ wt_L := wt_at 143 (by decide +kernel) (by decide +kernel)
theorem ww_144 : (Jvm.Cond.soleField "SupplyGrid$Asking" "refusedFor") ∈ wt_L := wt_at 144 (by decide +kernel) (by decide +kernel)
theorem ww_145 : (Jvm.Cond.lays "SupplyGrid$Asking" "SupplyGrid$Asking" "greatestAccepted" "I") ∈ wt_L := wt_at 145 (by decide +kernel) (by decide +kernel)
theorem ww_146 : (Jvm.Cond.soleField "SupplyGrid$Asking" "greatestAccepted") ∈ wt_L := wt_at 146 (by decide +kernel) (by decide +kernel)
theorem ww_147 : (Jvm.Cond.lays "SupplyGrid$Asking" "SupplyGrid$Asking" "greatestPair" "I") ∈ wt_L := wt_at 147 (by decide +kernel) (by decide +kernel)
theorem ww_148 : (Jvm.Cond.soleField "SupplyGrid$Asking" "greatestPair") ∈ wt_L := wt_at 148 (by decide +kernel) (by decide +kernel)
theorem ww_149 : (Jvm.Cond.superclass "SupplyGrid$Asking" "java/lang/Object") ∈ wt_L := wt_at 149 (by decide +kernel) (by decide +kernel)
theorem ww_150 : (Jvm.Cond.fieldLink "SupplyGrid$Desk" (9 : Nat) "SupplyGrid$Desk" "shop" "I") ∈ wt_L := wt_at 150 (by decide +kernel) (by decide +kernel)
theorem ww_151 : (Jvm.Cond.fieldLinkNest "SupplyGrid" (216 : Nat) "SupplyGrid$Desk" "shop" "I" "SupplyGrid") ∈ wt_L := wt_at 151 (by decide +kernel) (by decide +kernel)
theorem ww_152 : (Jvm.Cond.fieldLink "SupplyGrid$Desk" (15 : Nat) "SupplyGrid$Desk" "prescription" "I") ∈ wt_L := wt_at 152 (by decide +kernel) (by decide +kernel)
theorem ww_153 : (Jvm.Cond.fieldLinkNest "SupplyGrid" (219 : Nat) "SupplyGrid$Desk" "prescription" "I" "SupplyGrid") ∈ wt_L := wt_at 153 (by decide +kernel) (by decide +kernel)
theorem ww_154 : (Jvm.Cond.fieldLink "SupplyGrid$Desk" (21 : Nat) "SupplyGrid$Desk" "known" "LSupplyGrid$Pairs;") ∈ wt_L := wt_at 154 (by decide +kernel) (by decide +kernel)
theorem ww_155 : (Jvm.Cond.fieldLinkNest "SupplyGrid$Prescription" (27 : Nat) "SupplyGrid$Desk" "known" "LSupplyGrid$Pairs;" "SupplyGrid") ∈ wt_L := wt_at 155 (by decide +kernel) (by decide +kernel)
theorem ww_156 : (Jvm.Cond.fieldLinkNest "SupplyGrid" (136 : Nat) "SupplyGrid$Desk" "known" "LSupplyGrid$Pairs;" "SupplyGrid") ∈ wt_L := wt_at 156 (by decide +kernel) (by decide +kernel)
theorem ww_157 : (Jvm.Cond.fieldLink "SupplyGrid$Desk" (28 : Nat) "SupplyGrid$Desk" "asking" "LSupplyGrid$Asking;") ∈ wt_L := wt_at 157 (by decide +kernel) (by decide +kernel)
theorem ww_158 : (Jvm.Cond.fieldLinkNest "SupplyGrid" (72 : Nat) "SupplyGrid$Desk" "asking" "LSupplyGrid$Asking;" "SupplyGrid") ∈ wt_L := wt_at 158 (by decide +kernel) (by decide +kernel)
theorem ww_159 : (Jvm.Cond.fieldLink "SupplyGrid$Desk" (32 : Nat) "SupplyGrid$Desk" "promised" "I") ∈ wt_L := wt_at 159 (by decide +kernel) (by decide +kernel)
theorem ww_160 : (Jvm.Cond.fieldLinkNest "SupplyGrid" (261 : Nat) "SupplyGrid$Desk" "promised" "I" "SupplyGrid") ∈ wt_L := wt_at 160 (by decide +kernel) (by decide +kernel)
theorem ww_161 : (Jvm.Cond.fieldLink "SupplyGrid$Desk" (35 : Nat) "SupplyGrid$Desk" "accepted" "I") ∈ wt_L := wt_at 161 (by decide +kernel) (by decide +kernel)
theorem ww_162 : (Jvm.Cond.fieldLinkNest "SupplyGrid" (264 : Nat) "SupplyGrid$Desk" "accepted" "I" "SupplyGrid") ∈ wt_L := wt_at 162 (by decide +kernel) (by decide +kernel)
theorem ww_163 : (Jvm.Cond.fieldLink "SupplyGrid$Desk" (38 : Nat) "SupplyGrid$Desk" "acceptedPair" "I") ∈ wt_L := wt_at 163 (by decide +kernel) (by decide +kernel)
theorem ww_164 : (Jvm.Cond.fieldLinkNest "SupplyGrid" (267 : Nat) "SupplyGrid$Desk" "acceptedPair" "I" "SupplyGrid") ∈ wt_L := wt_at 164 (by decide +kernel) (by decide +kernel)
theorem ww_165 : (Jvm.Cond.fieldLink "SupplyGrid$Desk" (41 : Nat) "SupplyGrid$Desk" "greatestAsked" "I") ∈ wt_L := wt_at 165 (by decide +kernel) (by decide +kernel)
theorem ww_166 : (Jvm.Cond.fieldLinkNest "SupplyGrid" (206 : Nat) "SupplyGrid$Desk" "greatestAsked" "I" "SupplyGrid") ∈ wt_L := wt_at 166 (by decide +kernel) (by decide +kernel)
theorem ww_167 : (Jvm.Cond.laysFinal "SupplyGrid$Desk" "SupplyGrid$Desk" "shop" "I") ∈ wt_L := wt_at 167 (by decide +kernel) (by decide +kernel)
theorem ww_168 : (Jvm.Cond.soleField "SupplyGrid$Desk" "shop") ∈ wt_L := wt_at 168 (by decide +kernel) (by decide +kernel)
theorem ww_169 : (Jvm.Cond.laysFinal "SupplyGrid$Desk" "SupplyGrid$Desk" "prescription" "I") ∈ wt_L := wt_at 169 (by decide +kernel) (by decide +kernel)
theorem ww_170 : (Jvm.Cond.soleField "SupplyGrid$Desk" "prescription") ∈ wt_L := wt_at 170 (by decide +kernel) (by decide +kernel)
theorem ww_171 : (Jvm.Cond.laysFinal "SupplyGrid$Desk" "SupplyGrid$Desk" "known" "LSupplyGrid$Pairs;") ∈ wt_L := wt_at 171 (by decide +kernel) (by decide +kernel)
theorem ww_172 : (Jvm.Cond.soleField "SupplyGrid$Desk" "known") ∈ wt_L := wt_at 172 (by decide +kernel) (by decide +kernel)
theorem ww_173 : (Jvm.Cond.laysFinal "SupplyGrid$Desk" "SupplyGrid$Desk" "asking" "LSupplyGrid$Asking;") ∈ wt_L := wt_at 173 (by decide +kernel) (by decide +kernel)
theorem ww_174 : (Jvm.Cond.soleField "SupplyGrid$Desk" "asking") ∈ wt_L := wt_at 174 (by decide +kernel) (by decide +kernel)
theorem ww_175 : (Jvm.Cond.lays "SupplyGrid$Desk" "SupplyGrid$Desk" "promised" "I") ∈ wt_L := wt_at 175 (by decide +kernel) (by decide +kernel)
theorem ww_176 : (Jvm.Cond.soleField "SupplyGrid$Desk" "promised") ∈ wt_L := wt_at 176 (by decide +kernel) (by decide +kernel)
theorem ww_177 : (Jvm.Cond.lays "SupplyGrid$Desk" "SupplyGrid$Desk" "accepted" "I") ∈ wt_L := wt_at 177 (by decide +kernel) (by decide +kernel)
theorem ww_178 : (Jvm.Cond.soleField "SupplyGrid$Desk" "accepted") ∈ wt_L := wt_at 178 (by decide +kernel) (by decide +kernel)
theorem ww_179 : (Jvm.Cond.lays "SupplyGrid$Desk" "SupplyGrid$Desk" "acceptedPair" "I") ∈ wt_L := wt_at 179 (by decide +kernel) (by decide +kernel)
theorem ww_180 : (Jvm.Cond.soleField "SupplyGrid$Desk" "acceptedPair") ∈ wt_L := wt_at 180 (by decide +kernel) (by decide +kernel)
theorem ww_181 : (Jvm.Cond.lays "SupplyGrid$Desk" "SupplyGrid$Desk" "greatestAsked" "I") ∈ wt_L := wt_at 181 (by decide +kernel) (by decide +kernel)
theorem ww_182 : (Jvm.Cond.soleField "SupplyGrid$Desk" "greatestAsked") ∈ wt_L := wt_at 182 (by decide +kernel) (by decide +kernel)
theorem ww_183 : (Jvm.Cond.superclass "SupplyGrid$Desk" "java/lang/Object") ∈ wt_L := wt_at 183 (by decide +kernel) (by decide +kernel)
theorem ww_184 : (Jvm.Cond.classLink "SupplyGrid" (24 : Nat) "SupplyGrid$LetterRow") ∈ wt_L := wt_at 184 (by decide +kernel) (by decide +kernel)
theorem ww_185 : (Jvm.Cond.instantiable "SupplyGrid$LetterRow" (8 : Nat)) ∈ wt_L := wt_at 185 (by decide +kernel) (by decide +kernel)
theorem ww_186 : (Jvm.Cond.methodLinkNest "SupplyGrid" (26 : Nat) ({ cls := "SupplyGrid$LetterRow", name := "<init>", desc := "()V" } : Jvm.MethodName) "SupplyGrid") ∈ wt_L := wt_at 186 (by decide +kernel) (by decide +kernel)
theorem ww_187 : (Jvm.Cond.instanceMethod ({ cls := "SupplyGrid$LetterRow", name := "<init>", desc := "()V" } : Jvm.MethodName)) ∈ wt_L := wt_at 187 (by decide +kernel) (by decide +kernel)
theorem ww_188 : (Jvm.Cond.code ({ cls := "SupplyGrid$LetterRow", name := "<init>", desc := "()V" } : Jvm.MethodName) prog_5_method_1_code (2 : Nat) (Option.none : Option Jvm.ClassFile.FieldType)) ∈ wt_L := wt_at 188 (by decide +kernel) (by decide +kernel)
theorem ww_189 : (Jvm.Cond.methodLink "SupplyGrid$LetterRow" (3 : Nat) ({ cls := "java/lang/Object", name := "<init>", desc := "()V" } : Jvm.MethodName)) ∈ wt_L := wt_at 189 (by decide +kernel) (by decide +kernel)
theorem ww_190 : (Jvm.Cond.classLink "SupplyGrid$LetterRow" (9 : Nat) "SupplyGrid$Letter") ∈ wt_L := wt_at 190 (by decide +kernel) (by decide +kernel)
theorem ww_191 : (Jvm.Cond.arrayOver (Jvm.ClassFile.FieldType.object "SupplyGrid$Letter")) ∈ wt_L := wt_at 191 (by decide +kernel) (by decide +kernel)
theorem ww_192 : (Jvm.Cond.instantiable "SupplyGrid$Letter" (9 : Nat)) ∈ wt_L := wt_at 192 (by decide +kernel) (by decide +kernel)
theorem ww_193 : (Jvm.Cond.methodLinkNest "SupplyGrid$LetterRow" (17 : Nat) ({ cls := "SupplyGrid$Letter", name := "<init>", desc := "()V" } : Jvm.MethodName) "SupplyGrid") ∈ wt_L := wt_at 193 (by decide +kernel) (by decide +kernel)
theorem ww_194 : (Jvm.Cond.instanceMethod ({ cls := "SupplyGrid$Letter", name := "<init>", desc := "()V" } : Jvm.MethodName)) ∈ wt_L := wt_at 194 (by decide +kernel) (by decide +kernel)
theorem ww_195 : (Jvm.Cond.code ({ cls := "SupplyGrid$Letter", name := "<init>", desc := "()V" } : Jvm.MethodName) prog_4_method_1_code (1 : Nat) (Option.none : Option Jvm.ClassFile.FieldType)) ∈ wt_L := wt_at 195 (by decide +kernel) (by decide +kernel)
theorem ww_196 : (Jvm.Cond.methodLink "SupplyGrid$Letter" (3 : Nat) ({ cls := "java/lang/Object", name := "<init>", desc := "()V" } : Jvm.MethodName)) ∈ wt_L := wt_at 196 (by decide +kernel) (by decide +kernel)
theorem ww_197 : (Jvm.Cond.classLink "SupplyGrid$Letter" (9 : Nat) "SupplyGrid$Pairs") ∈ wt_L := wt_at 197 (by decide +kernel) (by decide +kernel)
theorem ww_198 : (Jvm.Cond.methodLinkNest "SupplyGrid$Letter" (11 : Nat) ({ cls := "SupplyGrid$Pairs", name := "<init>", desc := "()V" } : Jvm.MethodName) "SupplyGrid") ∈ wt_L := wt_at 198 (by decide +kernel) (by decide +kernel)
theorem ww_199 : (Jvm.Cond.fieldLink "SupplyGrid$Letter" (12 : Nat) "SupplyGrid$Letter" "known" "LSupplyGrid$Pairs;") ∈ wt_L := wt_at 199 (by decide +kernel) (by decide +kernel)
theorem ww_200 : (Jvm.Cond.fieldLinkNest "SupplyGrid" (235 : Nat) "SupplyGrid$Letter" "known" "LSupplyGrid$Pairs;" "SupplyGrid") ∈ wt_L := wt_at 200 (by decide +kernel) (by decide +kernel)
theorem ww_201 : (Jvm.Cond.fieldLink "SupplyGrid$Letter" (22 : Nat) "SupplyGrid$Letter" "kind" "I") ∈ wt_L := wt_at 201 (by decide +kernel) (by decide +kernel)
theorem ww_202 : (Jvm.Cond.fieldLinkNest "SupplyGrid" (114 : Nat) "SupplyGrid$Letter" "kind" "I" "SupplyGrid") ∈ wt_L := wt_at 202 (by decide +kernel) (by decide +kernel)
theorem ww_203 : (Jvm.Cond.fieldLink "SupplyGrid$Letter" (25 : Nat) "SupplyGrid$Letter" "from" "I") ∈ wt_L := wt_at 203 (by decide +kernel) (by decide +kernel)
theorem ww_204 : (Jvm.Cond.fieldLinkNest "SupplyGrid$Asking" (46 : Nat) "SupplyGrid$Letter" "from" "I" "SupplyGrid") ∈ wt_L := wt_at 204 (by decide +kernel) (by decide +kernel)
theorem ww_205 : (Jvm.Cond.fieldLinkNest "SupplyGrid" (273 : Nat) "SupplyGrid$Letter" "from" "I" "SupplyGrid") ∈ wt_L := wt_at 205 (by decide +kernel) (by decide +kernel)
theorem ww_206 : (Jvm.Cond.fieldLink "SupplyGrid$Letter" (44 : Nat) "SupplyGrid$Letter" "to" "I") ∈ wt_L := wt_at 206 (by decide +kernel) (by decide +kernel)
theorem ww_207 : (Jvm.Cond.fieldLinkNest "SupplyGrid$LetterRow" (50 : Nat) "SupplyGrid$Letter" "to" "I" "SupplyGrid") ∈ wt_L := wt_at 207 (by decide +kernel) (by decide +kernel)
theorem ww_208 : (Jvm.Cond.fieldLinkNest "SupplyGrid" (231 : Nat) "SupplyGrid$Letter" "to" "I" "SupplyGrid") ∈ wt_L := wt_at 208 (by decide +kernel) (by decide +kernel)
theorem ww_209 : (Jvm.Cond.fieldLink "SupplyGrid$Letter" (28 : Nat) "SupplyGrid$Letter" "prescription" "I") ∈ wt_L := wt_at 209 (by decide +kernel) (by decide +kernel)
theorem ww_210 : (Jvm.Cond.fieldLinkNest "SupplyGrid" (234 : Nat) "SupplyGrid$Letter" "prescription" "I" "SupplyGrid") ∈ wt_L := wt_at 210 (by decide +kernel) (by decide +kernel)
theorem ww_211 : (Jvm.Cond.fieldLink "SupplyGrid$Letter" (31 : Nat) "SupplyGrid$Letter" "supply" "I") ∈ wt_L := wt_at 211 (by decide +kernel) (by decide +kernel)
theorem ww_212 : (Jvm.Cond.fieldLinkNest "SupplyGrid$Asking" (42 : Nat) "SupplyGrid$Letter" "supply" "I" "SupplyGrid") ∈ wt_L := wt_at 212 (by decide +kernel) (by decide +kernel)
theorem ww_213 : (Jvm.Cond.fieldLinkNest "SupplyGrid" (255 : Nat) "SupplyGrid$Letter" "supply" "I" "SupplyGrid") ∈ wt_L := wt_at 213 (by decide +kernel) (by decide +kernel)
theorem ww_214 : (Jvm.Cond.fieldLink "SupplyGrid$Letter" (34 : Nat) "SupplyGrid$Letter" "number" "I") ∈ wt_L := wt_at 214 (by decide +kernel) (by decide +kernel)
theorem ww_215 : (Jvm.Cond.fieldLinkNest "SupplyGrid$Asking" (45 : Nat) "SupplyGrid$Letter" "number" "I" "SupplyGrid") ∈ wt_L := wt_at 215 (by decide +kernel) (by decide +kernel)
theorem ww_216 : (Jvm.Cond.fieldLinkNest "SupplyGrid" (260 : Nat) "SupplyGrid$Letter" "number" "I" "SupplyGrid") ∈ wt_L := wt_at 216 (by decide +kernel) (by decide +kernel)
theorem ww_217 : (Jvm.Cond.fieldLink "SupplyGrid$Letter" (37 : Nat) "SupplyGrid$Letter" "told" "I") ∈ wt_L := wt_at 217 (by decide +kernel) (by decide +kernel)
theorem ww_218 : (Jvm.Cond.fieldLinkNest "SupplyGrid$Asking" (49 : Nat) "SupplyGrid$Letter" "told" "I" "SupplyGrid") ∈ wt_L := wt_at 218 (by decide +kernel) (by decide +kernel)
theorem ww_219 : (Jvm.Cond.fieldLinkNest "SupplyGrid" (270 : Nat) "SupplyGrid$Letter" "told" "I" "SupplyGrid") ∈ wt_L := wt_at 219 (by decide +kernel) (by decide +kernel)
theorem ww_220 : (Jvm.Cond.fieldLink "SupplyGrid$Letter" (18 : Nat) "SupplyGrid$Letter" "pair" "I") ∈ wt_L := wt_at 220 (by decide +kernel) (by decide +kernel)
theorem ww_221 : (Jvm.Cond.fieldLinkNest "SupplyGrid$Asking" (52 : Nat) "SupplyGrid$Letter" "pair" "I" "SupplyGrid") ∈ wt_L := wt_at 221 (by decide +kernel) (by decide +kernel)
theorem ww_222 : (Jvm.Cond.fieldLinkNest "SupplyGrid" (228 : Nat) "SupplyGrid$Letter" "pair" "I" "SupplyGrid") ∈ wt_L := wt_at 222 (by decide +kernel) (by decide +kernel)
theorem ww_223 : (Jvm.Cond.laysFinal "SupplyGrid$Letter" "SupplyGrid$Letter" "known" "LSupplyGrid$Pairs;") ∈ wt_L := wt_at 223 (by decide +kernel) (by decide +kernel)
theorem ww_224 : (Jvm.Cond.soleField "SupplyGrid$Letter" "known") ∈ wt_L := wt_at 224 (by decide +kernel) (by decide +kernel)
theorem ww_225 : (Jvm.Cond.lays "SupplyGrid$Letter" "SupplyGrid$Letter" "kind" "I") ∈ wt_L := wt_at 225 (by decide +kernel) (by decide +kernel)
theorem ww_226 : (Jvm.Cond.soleField "SupplyGrid$Letter" "kind") ∈ wt_L := wt_at 226 (by decide +kernel) (by decide +kernel)
theorem ww_227 : (Jvm.Cond.lays "SupplyGrid$Letter" "SupplyGrid$Letter" "from" "I") ∈ wt_L := wt_at 227 (by decide +kernel) (by decide +kernel)
theorem ww_228 : (Jvm.Cond.soleField "SupplyGrid$Letter" "from") ∈ wt_L := wt_at 228 (by decide +kernel) (by decide +kernel)
theorem ww_229 : (Jvm.Cond.lays "SupplyGrid$Letter" "SupplyGrid$Letter" "to" "I") ∈ wt_L := wt_at 229 (by decide +kernel) (by decide +kernel)
theorem ww_230 : (Jvm.Cond.soleField "SupplyGrid$Letter" "to") ∈ wt_L := wt_at 230 (by decide +kernel) (by decide +kernel)
theorem ww_231 : (Jvm.Cond.lays "SupplyGrid$Letter" "SupplyGrid$Letter" "prescription" "I") ∈ wt_L := wt_at 231 (by decide +kernel) (by decide +kernel)
theorem ww_232 : (Jvm.Cond.soleField "SupplyGrid$Letter" "prescription") ∈ wt_L := wt_at 232 (by decide +kernel) (by decide +kernel)
theorem ww_233 : (Jvm.Cond.lays "SupplyGrid$Letter" "SupplyGrid$Letter" "supply" "I") ∈ wt_L := wt_at 233 (by decide +kernel) (by decide +kernel)
theorem ww_234 : (Jvm.Cond.soleField "SupplyGrid$Letter" "supply") ∈ wt_L := wt_at 234 (by decide +kernel) (by decide +kernel)
theorem ww_235 : (Jvm.Cond.lays "SupplyGrid$Letter" "SupplyGrid$Letter" "number" "I") ∈ wt_L := wt_at 235 (by decide +kernel) (by decide +kernel)
theorem ww_236 : (Jvm.Cond.soleField "SupplyGrid$Letter" "number") ∈ wt_L := wt_at 236 (by decide +kernel) (by decide +kernel)
theorem ww_237 : (Jvm.Cond.lays "SupplyGrid$Letter" "SupplyGrid$Letter" "told" "I") ∈ wt_L := wt_at 237 (by decide +kernel) (by decide +kernel)
theorem ww_238 : (Jvm.Cond.soleField "SupplyGrid$Letter" "told") ∈ wt_L := wt_at 238 (by decide +kernel) (by decide +kernel)
theorem ww_239 : (Jvm.Cond.lays "SupplyGrid$Letter" "SupplyGrid$Letter" "pair" "I") ∈ wt_L := wt_at 239 (by decide +kernel) (by decide +kernel)
theorem ww_240 : (Jvm.Cond.soleField "SupplyGrid$Letter" "pair") ∈ wt_L := wt_at 240 (by decide +kernel) (by decide +kernel)
theorem ww_241 : (Jvm.Cond.superclass "SupplyGrid$Letter" "java/lang/Object") ∈ wt_L := wt_at 241 (by decide +kernel) (by decide +kernel)
theorem ww_242 : (Jvm.Cond.fieldLink "SupplyGrid$LetterRow" (11 : Nat) "SupplyGrid$LetterRow" "places" "[LSupplyGrid$Letter;") ∈ wt_L := wt_at 242 (by decide +kernel) (by decide +kernel)
theorem ww_243 : (Jvm.Cond.fieldLink "SupplyGrid$LetterRow" (18 : Nat) "SupplyGrid$LetterRow" "draft" "LSupplyGrid$Letter;") ∈ wt_L := wt_at 243 (by decide +kernel) (by decide +kernel)
theorem ww_244 : (Jvm.Cond.fieldLinkNest "SupplyGrid" (132 : Nat) "SupplyGrid$LetterRow" "draft" "LSupplyGrid$Letter;" "SupplyGrid") ∈ wt_L := wt_at 244 (by decide +kernel) (by decide +kernel)
theorem ww_245 : (Jvm.Cond.fieldLink "SupplyGrid$LetterRow" (22 : Nat) "SupplyGrid$LetterRow" "taken" "LSupplyGrid$Letter;") ∈ wt_L := wt_at 245 (by decide +kernel) (by decide +kernel)
theorem ww_246 : (Jvm.Cond.fieldLink "SupplyGrid$LetterRow" (25 : Nat) "SupplyGrid$LetterRow" "first" "I") ∈ wt_L := wt_at 246 (by decide +kernel) (by decide +kernel)
theorem ww_247 : (Jvm.Cond.fieldLink "SupplyGrid$LetterRow" (37 : Nat) "SupplyGrid$LetterRow" "size" "I") ∈ wt_L := wt_at 247 (by decide +kernel) (by decide +kernel)
theorem ww_248 : (Jvm.Cond.fieldLinkNest "SupplyGrid" (123 : Nat) "SupplyGrid$LetterRow" "size" "I" "SupplyGrid") ∈ wt_L := wt_at 248 (by decide +kernel) (by decide +kernel)
theorem ww_249 : (Jvm.Cond.fieldLink "SupplyGrid$LetterRow" (47 : Nat) "SupplyGrid$LetterRow" "lostWithoutRoom" "I") ∈ wt_L := wt_at 249 (by decide +kernel) (by decide +kernel)
theorem ww_250 : (Jvm.Cond.fieldLinkNest "SupplyGrid" (178 : Nat) "SupplyGrid$LetterRow" "lostWithoutRoom" "I" "SupplyGrid") ∈ wt_L := wt_at 250 (by decide +kernel) (by decide +kernel)
theorem ww_251 : (Jvm.Cond.fieldLinkNest "SupplyGrid" (181 : Nat) "SupplyGrid$LetterRow" "lostAtDownShops" "I" "SupplyGrid") ∈ wt_L := wt_at 251 (by decide +kernel) (by decide +kernel)
theorem ww_252 : (Jvm.Cond.fieldLink "SupplyGrid$LetterRow" (44 : Nat) "SupplyGrid$LetterRow" "sent" "I") ∈ wt_L := wt_at 252 (by decide +kernel) (by decide +kernel)
theorem ww_253 : (Jvm.Cond.fieldLinkNest "SupplyGrid" (184 : Nat) "SupplyGrid$LetterRow" "sent" "I" "SupplyGrid") ∈ wt_L := wt_at 253 (by decide +kernel) (by decide +kernel)
theorem ww_254 : (Jvm.Cond.laysFinal "SupplyGrid$LetterRow" "SupplyGrid$LetterRow" "places" "[LSupplyGrid$Letter;") ∈ wt_L := wt_at 254 (by decide +kernel) (by decide +kernel)
theorem ww_255 : (Jvm.Cond.soleField "SupplyGrid$LetterRow" "places") ∈ wt_L := wt_at 255 (by decide +kernel) (by decide +kernel)
theorem ww_256 : (Jvm.Cond.laysFinal "SupplyGrid$LetterRow" "SupplyGrid$LetterRow" "draft" "LSupplyGrid$Letter;") ∈ wt_L := wt_at 256 (by decide +kernel) (by decide +kernel)
theorem ww_257 : (Jvm.Cond.soleField "SupplyGrid$LetterRow" "draft") ∈ wt_L := wt_at 257 (by decide +kernel) (by decide +kernel)
theorem ww_258 : (Jvm.Cond.lays "SupplyGrid$LetterRow" "SupplyGrid$LetterRow" "taken" "LSupplyGrid$Letter;") ∈ wt_L := wt_at 258 (by decide +kernel) (by decide +kernel)
theorem ww_259 : (Jvm.Cond.soleField "SupplyGrid$LetterRow" "taken") ∈ wt_L := wt_at 259 (by decide +kernel) (by decide +kernel)
theorem ww_260 : (Jvm.Cond.lays "SupplyGrid$LetterRow" "SupplyGrid$LetterRow" "first" "I") ∈ wt_L := wt_at 260 (by decide +kernel) (by decide +kernel)
theorem ww_261 : (Jvm.Cond.soleField "SupplyGrid$LetterRow" "first") ∈ wt_L := wt_at 261 (by decide +kernel) (by decide +kernel)
theorem ww_262 : (Jvm.Cond.lays "SupplyGrid$LetterRow" "SupplyGrid$LetterRow" "size" "I") ∈ wt_L := wt_at 262 (by decide +kernel) (by decide +kernel)
theorem ww_263 : (Jvm.Cond.soleField "SupplyGrid$LetterRow" "size") ∈ wt_L := wt_at 263 (by decide +kernel) (by decide +kernel)
theorem ww_264 : (Jvm.Cond.lays "SupplyGrid$LetterRow" "SupplyGrid$LetterRow" "lostWithoutRoom" "I") ∈ wt_L := wt_at 264 (by decide +kernel) (by decide +kernel)
theorem ww_265 : (Jvm.Cond.soleField "SupplyGrid$LetterRow" "lostWithoutRoom") ∈ wt_L := wt_at 265 (by decide +kernel) (by decide +kernel)
theorem ww_266 : (Jvm.Cond.lays "SupplyGrid$LetterRow" "SupplyGrid$LetterRow" "lostAtDownShops" "I") ∈ wt_L := wt_at 266 (by decide +kernel) (by decide +kernel)
theorem ww_267 : (Jvm.Cond.soleField "SupplyGrid$LetterRow" "lostAtDownShops") ∈ wt_L := wt_at 267 (by decide +kernel) (by decide +kernel)
theorem ww_268 : (Jvm.Cond.lays "SupplyGrid$LetterRow" "SupplyGrid$LetterRow" "sent" "I") ∈ wt_L := wt_at 268 (by decide +kernel) (by decide +kernel)
theorem ww_269 : (Jvm.Cond.soleField "SupplyGrid$LetterRow" "sent") ∈ wt_L := wt_at 269 (by decide +kernel) (by decide +kernel)
theorem ww_270 : (Jvm.Cond.superclass "SupplyGrid$LetterRow" "java/lang/Object") ∈ wt_L := wt_at 270 (by decide +kernel) (by decide +kernel)
theorem ww_271 : (Jvm.Cond.constant "SupplyGrid" (31 : Nat) (33554431 : Int32)) ∈ wt_L := wt_at 271 (by decide +kernel) (by decide +kernel)
theorem ww_272 : (Jvm.Cond.fieldLink "SupplyGrid" (11 : Nat) "SupplyGrid" "prescriptions" "[LSupplyGrid$Prescription;") ∈ wt_L := wt_at 272 (by decide +kernel) (by decide +kernel)
theorem ww_273 : (Jvm.Cond.fieldLink "SupplyGrid" (20 : Nat) "SupplyGrid" "unregistered" "LSupplyGrid$Desk;") ∈ wt_L := wt_at 273 (by decide +kernel) (by decide +kernel)
theorem ww_274 : (Jvm.Cond.fieldLink "SupplyGrid" (27 : Nat) "SupplyGrid" "row" "LSupplyGrid$LetterRow;") ∈ wt_L := wt_at 274 (by decide +kernel) (by decide +kernel)
theorem ww_275 : (Jvm.Cond.fieldLink "SupplyGrid" (32 : Nat) "SupplyGrid" "shopsUp" "I") ∈ wt_L := wt_at 275 (by decide +kernel) (by decide +kernel)
theorem ww_276 : (Jvm.Cond.laysFinal "SupplyGrid" "SupplyGrid" "prescriptions" "[LSupplyGrid$Prescription;") ∈ wt_L := wt_at 276 (by decide +kernel) (by decide +kernel)
theorem ww_277 : (Jvm.Cond.soleField "SupplyGrid" "prescriptions") ∈ wt_L := wt_at 277 (by decide +kernel) (by decide +kernel)
theorem ww_278 : (Jvm.Cond.laysFinal "SupplyGrid" "SupplyGrid" "unregistered" "LSupplyGrid$Desk;") ∈ wt_L := wt_at 278 (by decide +kernel) (by decide +kernel)
theorem ww_279 : (Jvm.Cond.soleField "SupplyGrid" "unregistered") ∈ wt_L := wt_at 279 (by decide +kernel) (by decide +kernel)
theorem ww_280 : (Jvm.Cond.laysFinal "SupplyGrid" "SupplyGrid" "row" "LSupplyGrid$LetterRow;") ∈ wt_L := wt_at 280 (by decide +kernel) (by decide +kernel)
theorem ww_281 : (Jvm.Cond.soleField "SupplyGrid" "row") ∈ wt_L := wt_at 281 (by decide +kernel) (by decide +kernel)
theorem ww_282 : (Jvm.Cond.lays "SupplyGrid" "SupplyGrid" "shopsUp" "I") ∈ wt_L := wt_at 282 (by decide +kernel) (by decide +kernel)
theorem ww_283 : (Jvm.Cond.soleField "SupplyGrid" "shopsUp") ∈ wt_L := wt_at 283 (by decide +kernel) (by decide +kernel)
theorem ww_284 : (Jvm.Cond.superclass "SupplyGrid" "java/lang/Object") ∈ wt_L := wt_at 284 (by decide +kernel) (by decide +kernel)
theorem ww_285 : (Jvm.Cond.methodLink "SupplyGridLaw" (105 : Nat) ({ cls := "SupplyGrid", name := "pool", desc := "()I" } : Jvm.MethodName)) ∈ wt_L := wt_at 285 (by decide +kernel) (by decide +kernel)
theorem ww_286 : (Jvm.Cond.instanceMethod ({ cls := "SupplyGrid", name := "pool", desc := "()I" } : Jvm.MethodName)) ∈ wt_L := wt_at 286 (by decide +kernel) (by decide +kernel)
theorem ww_287 : (Jvm.Cond.selects "SupplyGrid" ({ cls := "SupplyGrid", name := "pool", desc := "()I" } : Jvm.MethodName) ({ cls := "SupplyGrid", name := "pool", desc := "()I" } : Jvm.MethodName)) ∈ wt_L := wt_at 287 (by decide +kernel) (by decide +kernel)
theorem ww_288 : (Jvm.Cond.code ({ cls := "SupplyGrid", name := "pool", desc := "()I" } : Jvm.MethodName) prog_1_method_11_code (1 : Nat) (Option.some Jvm.ClassFile.FieldType.int)) ∈ wt_L := wt_at 288 (by decide +kernel) (by decide +kernel)
theorem ww_289 : (Jvm.Cond.methodLink "SupplyGridLaw" (122 : Nat) ({ cls := "SupplyGrid", name := "live", desc := "()I" } : Jvm.MethodName)) ∈ wt_L := wt_at 289 (by decide +kernel) (by decide +kernel)
theorem ww_290 : (Jvm.Cond.instanceMethod ({ cls := "SupplyGrid", name := "live", desc := "()I" } : Jvm.MethodName)) ∈ wt_L := wt_at 290 (by decide +kernel) (by decide +kernel)
theorem ww_291 : (Jvm.Cond.selects "SupplyGrid" ({ cls := "SupplyGrid", name := "live", desc := "()I" } : Jvm.MethodName) ({ cls := "SupplyGrid", name := "live", desc := "()I" } : Jvm.MethodName)) ∈ wt_L := wt_at 291 (by decide +kernel) (by decide +kernel)
theorem ww_292 : (Jvm.Cond.code ({ cls := "SupplyGrid", name := "live", desc := "()I" } : Jvm.MethodName) prog_1_method_16_code (1 : Nat) (Option.some Jvm.ClassFile.FieldType.int)) ∈ wt_L := wt_at 292 (by decide +kernel) (by decide +kernel)
theorem ww_293 : (Jvm.Cond.methodLink "SupplyGrid" (172 : Nat) ({ cls := "SupplyGrid", name := "touchesEachColumn", desc := "(I)Z" } : Jvm.MethodName)) ∈ wt_L := wt_at 293 (by decide +kernel) (by decide +kernel)
theorem ww_294 : (Jvm.Cond.static ({ cls := "SupplyGrid", name := "touchesEachColumn", desc := "(I)Z" } : Jvm.MethodName)) ∈ wt_L := wt_at 294 (by decide +kernel) (by decide +kernel)
theorem ww_295 : (Jvm.Cond.code ({ cls := "SupplyGrid", name := "touchesEachColumn", desc := "(I)Z" } : Jvm.MethodName) prog_1_method_33_code (2 : Nat) (Option.some Jvm.ClassFile.FieldType.boolean)) ∈ wt_L := wt_at 295 (by decide +kernel) (by decide +kernel)
theorem ww_296 : (Jvm.Cond.constant "SupplyGrid" (293 : Nat) (1082401 : Int32)) ∈ wt_L := wt_at 296 (by decide +kernel) (by decide +kernel)
theorem ww_297 : (Jvm.Cond.methodLink "SupplyGrid" (175 : Nat) ({ cls := "SupplyGrid", name := "holdsWholeColumn", desc := "(I)Z" } : Jvm.MethodName)) ∈ wt_L := wt_at 297 (by decide +kernel) (by decide +kernel)
theorem ww_298 : (Jvm.Cond.static ({ cls := "SupplyGrid", name := "holdsWholeColumn", desc := "(I)Z" } : Jvm.MethodName)) ∈ wt_L := wt_at 298 (by decide +kernel) (by decide +kernel)
theorem ww_299 : (Jvm.Cond.code ({ cls := "SupplyGrid", name := "holdsWholeColumn", desc := "(I)Z" } : Jvm.MethodName) prog_1_method_34_code (2 : Nat) (Option.some Jvm.ClassFile.FieldType.boolean)) ∈ wt_L := wt_at 299 (by decide +kernel) (by decide +kernel)
theorem ww_300 : (Jvm.Cond.methodLink "SupplyGridLaw" (67 : Nat) ({ cls := "SupplyGridLaw", name := "register", desc := "(LSupplyGrid;III)I" } : Jvm.MethodName)) ∈ wt_L := wt_at 300 (by decide +kernel) (by decide +kernel)
theorem ww_301 : (Jvm.Cond.static ({ cls := "SupplyGridLaw", name := "register", desc := "(LSupplyGrid;III)I" } : Jvm.MethodName)) ∈ wt_L := wt_at 301 (by decide +kernel) (by decide +kernel)
theorem ww_302 : (Jvm.Cond.codeWith ({ cls := "SupplyGridLaw", name := "register", desc := "(LSupplyGrid;III)I" } : Jvm.MethodName) method_3_code (5 : Nat) (Option.some Jvm.ClassFile.FieldType.int) [((0 : Nat), (7 : Nat), (10 : Nat), (13 : Nat)), ((0 : Nat), (7 : Nat), (14 : Nat), (15 : Nat))]) ∈ wt_L := wt_at 302 (by decide +kernel) (by decide +kernel)
theorem ww_303 : (Jvm.Cond.classLink "SupplyGridLaw" (13 : Nat) "java/lang/IllegalArgumentException") ∈ wt_L := wt_at 303 (by decide +kernel) (by decide +kernel)
theorem ww_304 : (Jvm.Cond.classLink "SupplyGridLaw" (15 : Nat) "java/lang/IllegalStateException") ∈ wt_L := wt_at 304 (by decide +kernel) (by decide +kernel)
theorem ww_305 : (Jvm.Cond.methodLink "SupplyGridLaw" (7 : Nat) ({ cls := "SupplyGrid", name := "register", desc := "(III)V" } : Jvm.MethodName)) ∈ wt_L := wt_at 305 (by decide +kernel) (by decide +kernel)
theorem ww_306 : (Jvm.Cond.instanceMethod ({ cls := "SupplyGrid", name := "register", desc := "(III)V" } : Jvm.MethodName)) ∈ wt_L := wt_at 306 (by decide +kernel) (by decide +kernel)
theorem ww_307 : (Jvm.Cond.selects "SupplyGrid" ({ cls := "SupplyGrid", name := "register", desc := "(III)V" } : Jvm.MethodName) ({ cls := "SupplyGrid", name := "register", desc := "(III)V" } : Jvm.MethodName)) ∈ wt_L := wt_at 307 (by decide +kernel) (by decide +kernel)
theorem ww_308 : (Jvm.Cond.code ({ cls := "SupplyGrid", name := "register", desc := "(III)V" } : Jvm.MethodName) prog_1_method_2_code (4 : Nat) (Option.none : Option Jvm.ClassFile.FieldType)) ∈ wt_L := wt_at 308 (by decide +kernel) (by decide +kernel)
theorem ww_309 : (Jvm.Cond.methodLink "SupplyGrid" (36 : Nat) ({ cls := "SupplyGrid", name := "needPrescription", desc := "(I)V" } : Jvm.MethodName)) ∈ wt_L := wt_at 309 (by decide +kernel) (by decide +kernel)
theorem ww_310 : (Jvm.Cond.static ({ cls := "SupplyGrid", name := "needPrescription", desc := "(I)V" } : Jvm.MethodName)) ∈ wt_L := wt_at 310 (by decide +kernel) (by decide +kernel)
theorem ww_311 : (Jvm.Cond.code ({ cls := "SupplyGrid", name := "needPrescription", desc := "(I)V" } : Jvm.MethodName) prog_1_method_20_code (1 : Nat) (Option.none : Option Jvm.ClassFile.FieldType)) ∈ wt_L := wt_at 311 (by decide +kernel) (by decide +kernel)
theorem ww_312 : (Jvm.Cond.classLink "SupplyGrid" (187 : Nat) "java/lang/IllegalArgumentException") ∈ wt_L := wt_at 312 (by decide +kernel) (by decide +kernel)
theorem ww_313 : (Jvm.Cond.instantiable "java/lang/IllegalArgumentException" (6 : Nat)) ∈ wt_L := wt_at 313 (by decide +kernel) (by decide +kernel)
theorem ww_314 : (Jvm.Cond.castable "java/lang/IllegalArgumentException" "java/lang/IllegalArgumentException") ∈ wt_L := wt_at 314 (by decide +kernel) (by decide +kernel)
theorem ww_315 : (Jvm.Cond.declares ({ cls := "java/lang/RuntimeException", name := "<init>", desc := "()V" } : Jvm.MethodName)) ∈ wt_L := wt_at 315 (by decide +kernel) (by decide +kernel)
theorem ww_316 : (Jvm.Cond.declares ({ cls := "java/lang/RuntimeException", name := "<init>", desc := "(Ljava/lang/String;)V" } : Jvm.MethodName)) ∈ wt_L := wt_at 316 (by decide +kernel) (by decide +kernel)
theorem ww_317 : (Jvm.Cond.declares ({ cls := "java/lang/Exception", name := "<init>", desc := "()V" } : Jvm.MethodName)) ∈ wt_L := wt_at 317 (by decide +kernel) (by decide +kernel)
theorem ww_318 : (Jvm.Cond.declares ({ cls := "java/lang/Exception", name := "<init>", desc := "(Ljava/lang/String;)V" } : Jvm.MethodName)) ∈ wt_L := wt_at 318 (by decide +kernel) (by decide +kernel)
theorem ww_319 : (Jvm.Cond.declares ({ cls := "java/lang/Throwable", name := "<init>", desc := "()V" } : Jvm.MethodName)) ∈ wt_L := wt_at 319 (by decide +kernel) (by decide +kernel)
theorem ww_320 : (Jvm.Cond.declares ({ cls := "java/lang/Throwable", name := "<init>", desc := "(Ljava/lang/String;)V" } : Jvm.MethodName)) ∈ wt_L := wt_at 320 (by decide +kernel) (by decide +kernel)
theorem ww_321 : (Jvm.Cond.selects "java/lang/IllegalArgumentException" ({ cls := "java/lang/Throwable", name := "fillInStackTrace", desc := "(I)Ljava/lang/Throwable;" } : Jvm.MethodName) ({ cls := "java/lang/Throwable", name := "fillInStackTrace", desc := "(I)Ljava/lang/Throwable;" } : Jvm.MethodName)) ∈ wt_L := wt_at 321 (by decide +kernel) (by decide +kernel)
theorem ww_322 : (Jvm.Cond.selects "java/lang/IllegalArgumentException" ({ cls := "java/lang/Throwable", name := "fillInStackTrace", desc := "()Ljava/lang/Throwable;" } : Jvm.MethodName) ({ cls := "java/lang/Throwable", name := "fillInStackTrace", desc := "()Ljava/lang/Throwable;" } : Jvm.MethodName)) ∈ wt_L := wt_at 322 (by decide +kernel) (by decide +kernel)
theorem ww_323 : (Jvm.Cond.lays "java/lang/IllegalArgumentException" "java/lang/Throwable" "cause" "Ljava/lang/Throwable;") ∈ wt_L := wt_at 323 (by decide +kernel) (by decide +kernel)
theorem ww_324 : (Jvm.Cond.lays "java/lang/Throwable" "java/lang/Throwable" "cause" "Ljava/lang/Throwable;") ∈ wt_L := wt_at 324 (by decide +kernel) (by decide +kernel)
theorem ww_325 : (Jvm.Cond.lays "java/lang/IllegalArgumentException" "java/lang/Throwable" "stackTrace" "[Ljava/lang/StackTraceElement;") ∈ wt_L := wt_at 325 (by decide +kernel) (by decide +kernel)
theorem ww_326 : (Jvm.Cond.lays "java/lang/Throwable" "java/lang/Throwable" "stackTrace" "[Ljava/lang/StackTraceElement;") ∈ wt_L := wt_at 326 (by decide +kernel) (by decide +kernel)
theorem ww_327 : (Jvm.Cond.lays "java/lang/IllegalArgumentException" "java/lang/Throwable" "suppressedExceptions" "Ljava/util/List;") ∈ wt_L := wt_at 327 (by decide +kernel) (by decide +kernel)
theorem ww_328 : (Jvm.Cond.lays "java/lang/Throwable" "java/lang/Throwable" "suppressedExceptions" "Ljava/util/List;") ∈ wt_L := wt_at 328 (by decide +kernel) (by decide +kernel)
theorem ww_329 : (Jvm.Cond.lays "java/lang/IllegalArgumentException" "java/lang/Throwable" "detailMessage" "Ljava/lang/String;") ∈ wt_L := wt_at 329 (by decide +kernel) (by decide +kernel)
theorem ww_330 : (Jvm.Cond.lays "java/lang/Throwable" "java/lang/Throwable" "detailMessage" "Ljava/lang/String;") ∈ wt_L := wt_at 330 (by decide +kernel) (by decide +kernel)
theorem ww_331 : (Jvm.Cond.lays "java/lang/IllegalArgumentException" "java/lang/Throwable" "backtrace" "Ljava/lang/Object;") ∈ wt_L := wt_at 331 (by decide +kernel) (by decide +kernel)
theorem ww_332 : (Jvm.Cond.lays "java/lang/Throwable" "java/lang/Throwable" "backtrace" "Ljava/lang/Object;") ∈ wt_L := wt_at 332 (by decide +kernel) (by decide +kernel)
theorem ww_333 : (Jvm.Cond.fieldLink "java/lang/Throwable" (198 : Nat) "java/lang/Throwable" "backtrace" "Ljava/lang/Object;") ∈ wt_L := wt_at 333 (by decide +kernel) (by decide +kernel)
theorem ww_334 : (Jvm.Cond.superclass "java/lang/Throwable" "java/lang/Object") ∈ wt_L := wt_at 334 (by decide +kernel) (by decide +kernel)
theorem ww_335 : (Jvm.Cond.instanceMethod ({ cls := "java/lang/Throwable", name := "<init>", desc := "()V" } : Jvm.MethodName)) ∈ wt_L := wt_at 335 (by decide +kernel) (by decide +kernel)
theorem ww_336 : (Jvm.Cond.code ({ cls := "java/lang/Throwable", name := "<init>", desc := "()V" } : Jvm.MethodName) prog_17_method_1_code (1 : Nat) (Option.none : Option Jvm.ClassFile.FieldType)) ∈ wt_L := wt_at 336 (by decide +kernel) (by decide +kernel)
theorem ww_337 : (Jvm.Cond.methodLink "java/lang/Throwable" (1 : Nat) ({ cls := "java/lang/Object", name := "<init>", desc := "()V" } : Jvm.MethodName)) ∈ wt_L := wt_at 337 (by decide +kernel) (by decide +kernel)
theorem ww_338 : (Jvm.Cond.fieldLink "java/lang/Throwable" (13 : Nat) "java/lang/Throwable" "UNASSIGNED_STACK" "[Ljava/lang/StackTraceElement;") ∈ wt_L := wt_at 338 (by decide +kernel) (by decide +kernel)
theorem ww_340 : (Jvm.Cond.fieldLink "java/lang/Throwable" (20 : Nat) "java/lang/Throwable" "SUPPRESSED_SENTINEL" "Ljava/util/List;") ∈ wt_L := wt_at 340 (by decide +kernel) (by decide +kernel)
theorem ww_342 : (Jvm.Cond.methodLink "java/lang/Throwable" (27 : Nat) ({ cls := "java/lang/Throwable", name := "fillInStackTrace", desc := "()Ljava/lang/Throwable;" } : Jvm.MethodName)) ∈ wt_L := wt_at 342 (by decide +kernel) (by decide +kernel)
theorem ww_343 : (Jvm.Cond.instanceMethod ({ cls := "java/lang/Throwable", name := "fillInStackTrace", desc := "()Ljava/lang/Throwable;" } : Jvm.MethodName)) ∈ wt_L := wt_at 343 (by decide +kernel) (by decide +kernel)
theorem ww_344 : (Jvm.Cond.sameMethod "java/lang/Throwable" "java/lang/Throwable" "fillInStackTrace" "()Ljava/lang/Throwable;") ∈ wt_L := wt_at 344 (by decide +kernel) (by decide +kernel)
theorem ww_345 : (Jvm.Cond.selects "java/lang/IllegalStateException" ({ cls := "java/lang/Throwable", name := "fillInStackTrace", desc := "()Ljava/lang/Throwable;" } : Jvm.MethodName) ({ cls := "java/lang/Throwable", name := "fillInStackTrace", desc := "()Ljava/lang/Throwable;" } : Jvm.MethodName)) ∈ wt_L := wt_at 345 (by decide +kernel) (by decide +kernel)
theorem ww_346 : (Jvm.Cond.codeSync ({ cls := "java/lang/Throwable", name := "fillInStackTrace", desc := "()Ljava/lang/Throwable;" } : Jvm.MethodName) prog_17_method_18_code (1 : Nat) (Option.some (Jvm.ClassFile.FieldType.object "java/lang/Throwable"))) ∈ wt_L := wt_at 346 (by decide +kernel) (by decide +kernel)
theorem ww_347 : (Jvm.Cond.methodLink "java/lang/Throwable" (202 : Nat) ({ cls := "java/lang/Throwable", name := "fillInStackTrace", desc := "(I)Ljava/lang/Throwable;" } : Jvm.MethodName)) ∈ wt_L := wt_at 347 (by decide +kernel) (by decide +kernel)
theorem ww_349 : (Jvm.Cond.instanceMethod ({ cls := "java/lang/Throwable", name := "fillInStackTrace", desc := "(I)Ljava/lang/Throwable;" } : Jvm.MethodName)) ∈ wt_L := wt_at 349 (by decide +kernel) (by decide +kernel)
theorem ww_350 : (Jvm.Cond.instantiable "java/lang/Throwable" (6 : Nat)) ∈ wt_L := wt_at 350 (by decide +kernel) (by decide +kernel)
theorem ww_351 : (Jvm.Cond.native ({ cls := "java/lang/Throwable", name := "fillInStackTrace", desc := "(I)Ljava/lang/Throwable;" } : Jvm.MethodName)) ∈ wt_L := wt_at 351 (by decide +kernel) (by decide +kernel)
theorem ww_353 : (Jvm.Cond.methodLink "SupplyGrid" (191 : Nat) ({ cls := "java/lang/IllegalArgumentException", name := "<init>", desc := "(Ljava/lang/String;)V" } : Jvm.MethodName)) ∈ wt_L := wt_at 353 (by decide +kernel) (by decide +kernel)
theorem ww_354 : (Jvm.Cond.instanceMethod ({ cls := "java/lang/IllegalArgumentException", name := "<init>", desc := "(Ljava/lang/String;)V" } : Jvm.MethodName)) ∈ wt_L := wt_at 354 (by decide +kernel) (by decide +kernel)
theorem ww_355 : (Jvm.Cond.code ({ cls := "java/lang/IllegalArgumentException", name := "<init>", desc := "(Ljava/lang/String;)V" } : Jvm.MethodName) prog_11_method_2_code (2 : Nat) (Option.none : Option Jvm.ClassFile.FieldType)) ∈ wt_L := wt_at 355 (by decide +kernel) (by decide +kernel)
theorem ww_356 : (Jvm.Cond.methodLink "java/lang/IllegalArgumentException" (7 : Nat) ({ cls := "java/lang/RuntimeException", name := "<init>", desc := "(Ljava/lang/String;)V" } : Jvm.MethodName)) ∈ wt_L := wt_at 356 (by decide +kernel) (by decide +kernel)
theorem ww_357 : (Jvm.Cond.instanceMethod ({ cls := "java/lang/RuntimeException", name := "<init>", desc := "(Ljava/lang/String;)V" } : Jvm.MethodName)) ∈ wt_L := wt_at 357 (by decide +kernel) (by decide +kernel)
theorem ww_358 : (Jvm.Cond.code ({ cls := "java/lang/RuntimeException", name := "<init>", desc := "(Ljava/lang/String;)V" } : Jvm.MethodName) prog_15_method_2_code (2 : Nat) (Option.none : Option Jvm.ClassFile.FieldType)) ∈ wt_L := wt_at 358 (by decide +kernel) (by decide +kernel)
theorem ww_359 : (Jvm.Cond.methodLink "java/lang/RuntimeException" (7 : Nat) ({ cls := "java/lang/Exception", name := "<init>", desc := "(Ljava/lang/String;)V" } : Jvm.MethodName)) ∈ wt_L := wt_at 359 (by decide +kernel) (by decide +kernel)
theorem ww_360 : (Jvm.Cond.instanceMethod ({ cls := "java/lang/Exception", name := "<init>", desc := "(Ljava/lang/String;)V" } : Jvm.MethodName)) ∈ wt_L := wt_at 360 (by decide +kernel) (by decide +kernel)
theorem ww_361 : (Jvm.Cond.code ({ cls := "java/lang/Exception", name := "<init>", desc := "(Ljava/lang/String;)V" } : Jvm.MethodName) prog_10_method_2_code (2 : Nat) (Option.none : Option Jvm.ClassFile.FieldType)) ∈ wt_L := wt_at 361 (by decide +kernel) (by decide +kernel)
theorem ww_362 : (Jvm.Cond.methodLink "java/lang/Exception" (7 : Nat) ({ cls := "java/lang/Throwable", name := "<init>", desc := "(Ljava/lang/String;)V" } : Jvm.MethodName)) ∈ wt_L := wt_at 362 (by decide +kernel) (by decide +kernel)
theorem ww_363 : (Jvm.Cond.instanceMethod ({ cls := "java/lang/Throwable", name := "<init>", desc := "(Ljava/lang/String;)V" } : Jvm.MethodName)) ∈ wt_L := wt_at 363 (by decide +kernel) (by decide +kernel)
theorem ww_364 : (Jvm.Cond.code ({ cls := "java/lang/Throwable", name := "<init>", desc := "(Ljava/lang/String;)V" } : Jvm.MethodName) prog_17_method_2_code (2 : Nat) (Option.none : Option Jvm.ClassFile.FieldType)) ∈ wt_L := wt_at 364 (by decide +kernel) (by decide +kernel)
theorem ww_365 : (Jvm.Cond.fieldLink "java/lang/Throwable" (198 : Nat) "java/lang/Throwable" "backtrace" "Ljava/lang/Object;") ∈ wt_L := wt_at 365 (by decide +kernel) (by decide +kernel)
theorem ww_366 : (Jvm.Cond.fieldLink "java/lang/Throwable" (31 : Nat) "java/lang/Throwable" "detailMessage" "Ljava/lang/String;") ∈ wt_L := wt_at 366 (by decide +kernel) (by decide +kernel)
theorem ww_367 : (Jvm.Cond.fieldLink "java/lang/Throwable" (7 : Nat) "java/lang/Throwable" "cause" "Ljava/lang/Throwable;") ∈ wt_L := wt_at 367 (by decide +kernel) (by decide +kernel)
theorem ww_368 : (Jvm.Cond.fieldLink "java/lang/Throwable" (17 : Nat) "java/lang/Throwable" "stackTrace" "[Ljava/lang/StackTraceElement;") ∈ wt_L := wt_at 368 (by decide +kernel) (by decide +kernel)
theorem ww_369 : (Jvm.Cond.fieldLink "java/lang/Throwable" (24 : Nat) "java/lang/Throwable" "suppressedExceptions" "Ljava/util/List;") ∈ wt_L := wt_at 369 (by decide +kernel) (by decide +kernel)
theorem ww_370 : (Jvm.Cond.soleField "java/lang/Throwable" "backtrace") ∈ wt_L := wt_at 370 (by decide +kernel) (by decide +kernel)
theorem ww_371 : (Jvm.Cond.soleField "java/lang/Throwable" "detailMessage") ∈ wt_L := wt_at 371 (by decide +kernel) (by decide +kernel)
theorem ww_372 : (Jvm.Cond.soleField "java/lang/Throwable" "cause") ∈ wt_L := wt_at 372 (by decide +kernel) (by decide +kernel)
theorem ww_373 : (Jvm.Cond.soleField "java/lang/Throwable" "stackTrace") ∈ wt_L := wt_at 373 (by decide +kernel) (by decide +kernel)
theorem ww_374 : (Jvm.Cond.lays "java/lang/IllegalArgumentException" "java/lang/Throwable" "depth" "I") ∈ wt_L := wt_at 374 (by decide +kernel) (by decide +kernel)
theorem ww_375 : (Jvm.Cond.soleField "java/lang/Throwable" "depth") ∈ wt_L := wt_at 375 (by decide +kernel) (by decide +kernel)
theorem ww_376 : (Jvm.Cond.soleField "java/lang/Throwable" "suppressedExceptions") ∈ wt_L := wt_at 376 (by decide +kernel) (by decide +kernel)
theorem ww_377 : (Jvm.Cond.superclass "java/lang/IllegalArgumentException" "java/lang/RuntimeException") ∈ wt_L := wt_at 377 (by decide +kernel) (by decide +kernel)
theorem ww_378 : (Jvm.Cond.arrayClass Jvm.ClassFile.FieldType.byte) ∈ wt_L := wt_at 378 (by decide +kernel) (by decide +kernel)
theorem ww_379 : (Jvm.Cond.methodLink "SupplyGrid" (40 : Nat) ({ cls := "SupplyGrid", name := "needWithin", desc := "(III)V" } : Jvm.MethodName)) ∈ wt_L := wt_at 379 (by decide +kernel) (by decide +kernel)
theorem ww_380 : (Jvm.Cond.static ({ cls := "SupplyGrid", name := "needWithin", desc := "(III)V" } : Jvm.MethodName)) ∈ wt_L := wt_at 380 (by decide +kernel) (by decide +kernel)
theorem ww_381 : (Jvm.Cond.code ({ cls := "SupplyGrid", name := "needWithin", desc := "(III)V" } : Jvm.MethodName) prog_1_method_18_code (3 : Nat) (Option.none : Option Jvm.ClassFile.FieldType)) ∈ wt_L := wt_at 381 (by decide +kernel) (by decide +kernel)
theorem ww_383 : (Jvm.Cond.classLink "SupplyGrid" (44 : Nat) "java/lang/IllegalStateException") ∈ wt_L := wt_at 383 (by decide +kernel) (by decide +kernel)
theorem ww_384 : (Jvm.Cond.instantiable "java/lang/IllegalStateException" (6 : Nat)) ∈ wt_L := wt_at 384 (by decide +kernel) (by decide +kernel)
theorem ww_385 : (Jvm.Cond.castable "java/lang/IllegalStateException" "java/lang/IllegalStateException") ∈ wt_L := wt_at 385 (by decide +kernel) (by decide +kernel)
theorem ww_386 : (Jvm.Cond.selects "java/lang/IllegalStateException" ({ cls := "java/lang/Throwable", name := "fillInStackTrace", desc := "(I)Ljava/lang/Throwable;" } : Jvm.MethodName) ({ cls := "java/lang/Throwable", name := "fillInStackTrace", desc := "(I)Ljava/lang/Throwable;" } : Jvm.MethodName)) ∈ wt_L := wt_at 386 (by decide +kernel) (by decide +kernel)
theorem ww_387 : (Jvm.Cond.lays "java/lang/IllegalStateException" "java/lang/Throwable" "cause" "Ljava/lang/Throwable;") ∈ wt_L := wt_at 387 (by decide +kernel) (by decide +kernel)
theorem ww_388 : (Jvm.Cond.lays "java/lang/IllegalStateException" "java/lang/Throwable" "stackTrace" "[Ljava/lang/StackTraceElement;") ∈ wt_L := wt_at 388 (by decide +kernel) (by decide +kernel)
theorem ww_389 : (Jvm.Cond.lays "java/lang/IllegalStateException" "java/lang/Throwable" "suppressedExceptions" "Ljava/util/List;") ∈ wt_L := wt_at 389 (by decide +kernel) (by decide +kernel)
theorem ww_390 : (Jvm.Cond.lays "java/lang/IllegalStateException" "java/lang/Throwable" "detailMessage" "Ljava/lang/String;") ∈ wt_L := wt_at 390 (by decide +kernel) (by decide +kernel)
theorem ww_391 : (Jvm.Cond.lays "java/lang/IllegalStateException" "java/lang/Throwable" "backtrace" "Ljava/lang/Object;") ∈ wt_L := wt_at 391 (by decide +kernel) (by decide +kernel)
theorem ww_393 : (Jvm.Cond.methodLink "SupplyGrid" (48 : Nat) ({ cls := "java/lang/IllegalStateException", name := "<init>", desc := "(Ljava/lang/String;)V" } : Jvm.MethodName)) ∈ wt_L := wt_at 393 (by decide +kernel) (by decide +kernel)
theorem ww_394 : (Jvm.Cond.instanceMethod ({ cls := "java/lang/IllegalStateException", name := "<init>", desc := "(Ljava/lang/String;)V" } : Jvm.MethodName)) ∈ wt_L := wt_at 394 (by decide +kernel) (by decide +kernel)
theorem ww_395 : (Jvm.Cond.code ({ cls := "java/lang/IllegalStateException", name := "<init>", desc := "(Ljava/lang/String;)V" } : Jvm.MethodName) prog_12_method_2_code (2 : Nat) (Option.none : Option Jvm.ClassFile.FieldType)) ∈ wt_L := wt_at 395 (by decide +kernel) (by decide +kernel)
theorem ww_396 : (Jvm.Cond.methodLink "java/lang/IllegalStateException" (7 : Nat) ({ cls := "java/lang/RuntimeException", name := "<init>", desc := "(Ljava/lang/String;)V" } : Jvm.MethodName)) ∈ wt_L := wt_at 396 (by decide +kernel) (by decide +kernel)
theorem ww_397 : (Jvm.Cond.lays "java/lang/IllegalStateException" "java/lang/Throwable" "depth" "I") ∈ wt_L := wt_at 397 (by decide +kernel) (by decide +kernel)
theorem ww_398 : (Jvm.Cond.superclass "java/lang/IllegalStateException" "java/lang/RuntimeException") ∈ wt_L := wt_at 398 (by decide +kernel) (by decide +kernel)
theorem ww_399 : (Jvm.Cond.instantiable "SupplyGrid$Prescription" (3 : Nat)) ∈ wt_L := wt_at 399 (by decide +kernel) (by decide +kernel)
theorem ww_400 : (Jvm.Cond.methodLinkNest "SupplyGrid" (51 : Nat) ({ cls := "SupplyGrid$Prescription", name := "<init>", desc := "(III)V" } : Jvm.MethodName) "SupplyGrid") ∈ wt_L := wt_at 400 (by decide +kernel) (by decide +kernel)
theorem ww_401 : (Jvm.Cond.instanceMethod ({ cls := "SupplyGrid$Prescription", name := "<init>", desc := "(III)V" } : Jvm.MethodName)) ∈ wt_L := wt_at 401 (by decide +kernel) (by decide +kernel)
theorem ww_402 : (Jvm.Cond.code ({ cls := "SupplyGrid$Prescription", name := "<init>", desc := "(III)V" } : Jvm.MethodName) prog_7_method_1_code (5 : Nat) (Option.none : Option Jvm.ClassFile.FieldType)) ∈ wt_L := wt_at 402 (by decide +kernel) (by decide +kernel)
theorem ww_403 : (Jvm.Cond.methodLink "SupplyGrid$Prescription" (3 : Nat) ({ cls := "java/lang/Object", name := "<init>", desc := "()V" } : Jvm.MethodName)) ∈ wt_L := wt_at 403 (by decide +kernel) (by decide +kernel)
theorem ww_404 : (Jvm.Cond.classLink "SupplyGrid$Prescription" (18 : Nat) "SupplyGrid$Desk") ∈ wt_L := wt_at 404 (by decide +kernel) (by decide +kernel)
theorem ww_405 : (Jvm.Cond.arrayOver (Jvm.ClassFile.FieldType.object "SupplyGrid$Desk")) ∈ wt_L := wt_at 405 (by decide +kernel) (by decide +kernel)
theorem ww_406 : (Jvm.Cond.methodLinkNest "SupplyGrid$Prescription" (24 : Nat) ({ cls := "SupplyGrid$Desk", name := "<init>", desc := "(II)V" } : Jvm.MethodName) "SupplyGrid") ∈ wt_L := wt_at 406 (by decide +kernel) (by decide +kernel)
theorem ww_407 : (Jvm.Cond.fieldLink "SupplyGrid$Prescription" (9 : Nat) "SupplyGrid$Prescription" "supplies" "I") ∈ wt_L := wt_at 407 (by decide +kernel) (by decide +kernel)
theorem ww_408 : (Jvm.Cond.fieldLink "SupplyGrid$Prescription" (15 : Nat) "SupplyGrid$Prescription" "apart" "I") ∈ wt_L := wt_at 408 (by decide +kernel) (by decide +kernel)
theorem ww_409 : (Jvm.Cond.fieldLink "SupplyGrid$Prescription" (20 : Nat) "SupplyGrid$Prescription" "desks" "[LSupplyGrid$Desk;") ∈ wt_L := wt_at 409 (by decide +kernel) (by decide +kernel)
theorem ww_410 : (Jvm.Cond.fieldLinkNest "SupplyGrid" (62 : Nat) "SupplyGrid$Prescription" "desks" "[LSupplyGrid$Desk;" "SupplyGrid") ∈ wt_L := wt_at 410 (by decide +kernel) (by decide +kernel)
theorem ww_411 : (Jvm.Cond.laysFinal "SupplyGrid$Prescription" "SupplyGrid$Prescription" "supplies" "I") ∈ wt_L := wt_at 411 (by decide +kernel) (by decide +kernel)
theorem ww_412 : (Jvm.Cond.soleField "SupplyGrid$Prescription" "supplies") ∈ wt_L := wt_at 412 (by decide +kernel) (by decide +kernel)
theorem ww_413 : (Jvm.Cond.laysFinal "SupplyGrid$Prescription" "SupplyGrid$Prescription" "apart" "I") ∈ wt_L := wt_at 413 (by decide +kernel) (by decide +kernel)
theorem ww_414 : (Jvm.Cond.soleField "SupplyGrid$Prescription" "apart") ∈ wt_L := wt_at 414 (by decide +kernel) (by decide +kernel)
theorem ww_415 : (Jvm.Cond.laysFinal "SupplyGrid$Prescription" "SupplyGrid$Prescription" "desks" "[LSupplyGrid$Desk;") ∈ wt_L := wt_at 415 (by decide +kernel) (by decide +kernel)
theorem ww_416 : (Jvm.Cond.soleField "SupplyGrid$Prescription" "desks") ∈ wt_L := wt_at 416 (by decide +kernel) (by decide +kernel)
theorem ww_417 : (Jvm.Cond.superclass "SupplyGrid$Prescription" "java/lang/Object") ∈ wt_L := wt_at 417 (by decide +kernel) (by decide +kernel)
theorem ww_418 : (Jvm.Cond.methodLink "SupplyGridLaw" (77 : Nat) ({ cls := "SupplyGridLaw", name := "ask", desc := "(LSupplyGrid;III[J)I" } : Jvm.MethodName)) ∈ wt_L := wt_at 418 (by decide +kernel) (by decide +kernel)
theorem ww_419 : (Jvm.Cond.static ({ cls := "SupplyGridLaw", name := "ask", desc := "(LSupplyGrid;III[J)I" } : Jvm.MethodName)) ∈ wt_L := wt_at 419 (by decide +kernel) (by decide +kernel)
theorem ww_420 : (Jvm.Cond.codeWith ({ cls := "SupplyGridLaw", name := "ask", desc := "(LSupplyGrid;III[J)I" } : Jvm.MethodName) method_4_code (6 : Nat) (Option.some Jvm.ClassFile.FieldType.int) [((0 : Nat), (12 : Nat), (15 : Nat), (13 : Nat)), ((0 : Nat), (12 : Nat), (19 : Nat), (15 : Nat))]) ∈ wt_L := wt_at 420 (by decide +kernel) (by decide +kernel)
theorem ww_421 : (Jvm.Cond.methodLink "SupplyGridLaw" (17 : Nat) ({ cls := "SupplyGrid", name := "ask", desc := "(III)I" } : Jvm.MethodName)) ∈ wt_L := wt_at 421 (by decide +kernel) (by decide +kernel)
theorem ww_422 : (Jvm.Cond.instanceMethod ({ cls := "SupplyGrid", name := "ask", desc := "(III)I" } : Jvm.MethodName)) ∈ wt_L := wt_at 422 (by decide +kernel) (by decide +kernel)
theorem ww_423 : (Jvm.Cond.selects "SupplyGrid" ({ cls := "SupplyGrid", name := "ask", desc := "(III)I" } : Jvm.MethodName) ({ cls := "SupplyGrid", name := "ask", desc := "(III)I" } : Jvm.MethodName)) ∈ wt_L := wt_at 423 (by decide +kernel) (by decide +kernel)
theorem ww_424 : (Jvm.Cond.code ({ cls := "SupplyGrid", name := "ask", desc := "(III)I" } : Jvm.MethodName) prog_1_method_3_code (6 : Nat) (Option.some Jvm.ClassFile.FieldType.int)) ∈ wt_L := wt_at 424 (by decide +kernel) (by decide +kernel)
theorem ww_425 : (Jvm.Cond.methodLink "SupplyGrid" (53 : Nat) ({ cls := "SupplyGrid", name := "needShop", desc := "(I)V" } : Jvm.MethodName)) ∈ wt_L := wt_at 425 (by decide +kernel) (by decide +kernel)
theorem ww_426 : (Jvm.Cond.static ({ cls := "SupplyGrid", name := "needShop", desc := "(I)V" } : Jvm.MethodName)) ∈ wt_L := wt_at 426 (by decide +kernel) (by decide +kernel)
theorem ww_427 : (Jvm.Cond.code ({ cls := "SupplyGrid", name := "needShop", desc := "(I)V" } : Jvm.MethodName) prog_1_method_19_code (1 : Nat) (Option.none : Option Jvm.ClassFile.FieldType)) ∈ wt_L := wt_at 427 (by decide +kernel) (by decide +kernel)
theorem ww_429 : (Jvm.Cond.constant "SupplyGrid" (56 : Nat) (100000 : Int32)) ∈ wt_L := wt_at 429 (by decide +kernel) (by decide +kernel)
theorem ww_431 : (Jvm.Cond.methodLink "SupplyGrid" (59 : Nat) ({ cls := "SupplyGrid", name := "needUp", desc := "(I)V" } : Jvm.MethodName)) ∈ wt_L := wt_at 431 (by decide +kernel) (by decide +kernel)
theorem ww_433 : (Jvm.Cond.instanceMethod ({ cls := "SupplyGrid", name := "needUp", desc := "(I)V" } : Jvm.MethodName)) ∈ wt_L := wt_at 433 (by decide +kernel) (by decide +kernel)
theorem ww_434 : (Jvm.Cond.code ({ cls := "SupplyGrid", name := "needUp", desc := "(I)V" } : Jvm.MethodName) prog_1_method_22_code (2 : Nat) (Option.none : Option Jvm.ClassFile.FieldType)) ∈ wt_L := wt_at 434 (by decide +kernel) (by decide +kernel)
theorem ww_435 : (Jvm.Cond.methodLink "SupplyGrid" (126 : Nat) ({ cls := "SupplyGrid", name := "isUp", desc := "(I)Z" } : Jvm.MethodName)) ∈ wt_L := wt_at 435 (by decide +kernel) (by decide +kernel)
theorem ww_437 : (Jvm.Cond.instanceMethod ({ cls := "SupplyGrid", name := "isUp", desc := "(I)Z" } : Jvm.MethodName)) ∈ wt_L := wt_at 437 (by decide +kernel) (by decide +kernel)
theorem ww_438 : (Jvm.Cond.code ({ cls := "SupplyGrid", name := "isUp", desc := "(I)Z" } : Jvm.MethodName) prog_1_method_23_code (2 : Nat) (Option.some Jvm.ClassFile.FieldType.boolean)) ∈ wt_L := wt_at 438 (by decide +kernel) (by decide +kernel)
theorem ww_440 : (Jvm.Cond.methodLinkNest "SupplyGrid" (66 : Nat) ({ cls := "SupplyGrid$Prescription", name := "letsAsk", desc := "(LSupplyGrid$Desk;I)Z" } : Jvm.MethodName) "SupplyGrid") ∈ wt_L := wt_at 440 (by decide +kernel) (by decide +kernel)
theorem ww_442 : (Jvm.Cond.instanceMethod ({ cls := "SupplyGrid$Prescription", name := "letsAsk", desc := "(LSupplyGrid$Desk;I)Z" } : Jvm.MethodName)) ∈ wt_L := wt_at 442 (by decide +kernel) (by decide +kernel)
theorem ww_443 : (Jvm.Cond.code ({ cls := "SupplyGrid$Prescription", name := "letsAsk", desc := "(LSupplyGrid$Desk;I)Z" } : Jvm.MethodName) prog_7_method_2_code (4 : Nat) (Option.some Jvm.ClassFile.FieldType.boolean)) ∈ wt_L := wt_at 443 (by decide +kernel) (by decide +kernel)
theorem ww_444 : (Jvm.Cond.methodLinkNest "SupplyGrid$Prescription" (36 : Nat) ({ cls := "SupplyGrid$Pairs", name := "last", desc := "()I" } : Jvm.MethodName) "SupplyGrid") ∈ wt_L := wt_at 444 (by decide +kernel) (by decide +kernel)
theorem ww_446 : (Jvm.Cond.instanceMethod ({ cls := "SupplyGrid$Pairs", name := "last", desc := "()I" } : Jvm.MethodName)) ∈ wt_L := wt_at 446 (by decide +kernel) (by decide +kernel)
theorem ww_447 : (Jvm.Cond.code ({ cls := "SupplyGrid$Pairs", name := "last", desc := "()I" } : Jvm.MethodName) prog_6_method_3_code (1 : Nat) (Option.some Jvm.ClassFile.FieldType.int)) ∈ wt_L := wt_at 447 (by decide +kernel) (by decide +kernel)
theorem ww_448 : (Jvm.Cond.methodLink "SupplyGrid$Pairs" (19 : Nat) ({ cls := "SupplyGrid$Pairs", name := "of", desc := "(I)I" } : Jvm.MethodName)) ∈ wt_L := wt_at 448 (by decide +kernel) (by decide +kernel)
theorem ww_450 : (Jvm.Cond.instanceMethod ({ cls := "SupplyGrid$Pairs", name := "of", desc := "(I)I" } : Jvm.MethodName)) ∈ wt_L := wt_at 450 (by decide +kernel) (by decide +kernel)
theorem ww_451 : (Jvm.Cond.code ({ cls := "SupplyGrid$Pairs", name := "of", desc := "(I)I" } : Jvm.MethodName) prog_6_method_2_code (2 : Nat) (Option.some Jvm.ClassFile.FieldType.int)) ∈ wt_L := wt_at 451 (by decide +kernel) (by decide +kernel)
theorem ww_452 : (Jvm.Cond.methodLinkNest "SupplyGrid$Prescription" (40 : Nat) ({ cls := "SupplyGrid", name := "dayOf", desc := "(I)I" } : Jvm.MethodName) "SupplyGrid") ∈ wt_L := wt_at 452 (by decide +kernel) (by decide +kernel)
theorem ww_453 : (Jvm.Cond.static ({ cls := "SupplyGrid", name := "dayOf", desc := "(I)I" } : Jvm.MethodName)) ∈ wt_L := wt_at 453 (by decide +kernel) (by decide +kernel)
theorem ww_454 : (Jvm.Cond.code ({ cls := "SupplyGrid", name := "dayOf", desc := "(I)I" } : Jvm.MethodName) prog_1_method_37_code (1 : Nat) (Option.some Jvm.ClassFile.FieldType.int)) ∈ wt_L := wt_at 454 (by decide +kernel) (by decide +kernel)
theorem ww_456 : (Jvm.Cond.methodLinkNest "SupplyGrid" (76 : Nat) ({ cls := "SupplyGrid$Desk", name := "openSupply", desc := "()I" } : Jvm.MethodName) "SupplyGrid") ∈ wt_L := wt_at 456 (by decide +kernel) (by decide +kernel)
theorem ww_458 : (Jvm.Cond.instanceMethod ({ cls := "SupplyGrid$Desk", name := "openSupply", desc := "()I" } : Jvm.MethodName)) ∈ wt_L := wt_at 458 (by decide +kernel) (by decide +kernel)
theorem ww_459 : (Jvm.Cond.code ({ cls := "SupplyGrid$Desk", name := "openSupply", desc := "()I" } : Jvm.MethodName) prog_3_method_2_code (1 : Nat) (Option.some Jvm.ClassFile.FieldType.int)) ∈ wt_L := wt_at 459 (by decide +kernel) (by decide +kernel)
theorem ww_460 : (Jvm.Cond.methodLink "SupplyGrid" (80 : Nat) ({ cls := "SupplyGrid", name := "pairOf", desc := "(II)I" } : Jvm.MethodName)) ∈ wt_L := wt_at 460 (by decide +kernel) (by decide +kernel)
theorem ww_461 : (Jvm.Cond.static ({ cls := "SupplyGrid", name := "pairOf", desc := "(II)I" } : Jvm.MethodName)) ∈ wt_L := wt_at 461 (by decide +kernel) (by decide +kernel)
theorem ww_462 : (Jvm.Cond.code ({ cls := "SupplyGrid", name := "pairOf", desc := "(II)I" } : Jvm.MethodName) prog_1_method_35_code (2 : Nat) (Option.some Jvm.ClassFile.FieldType.int)) ∈ wt_L := wt_at 462 (by decide +kernel) (by decide +kernel)
theorem ww_463 : (Jvm.Cond.methodLinkNest "SupplyGrid" (84 : Nat) ({ cls := "SupplyGrid$Asking", name := "begin", desc := "(II)V" } : Jvm.MethodName) "SupplyGrid") ∈ wt_L := wt_at 463 (by decide +kernel) (by decide +kernel)
theorem ww_465 : (Jvm.Cond.instanceMethod ({ cls := "SupplyGrid$Asking", name := "begin", desc := "(II)V" } : Jvm.MethodName)) ∈ wt_L := wt_at 465 (by decide +kernel) (by decide +kernel)
theorem ww_466 : (Jvm.Cond.code ({ cls := "SupplyGrid$Asking", name := "begin", desc := "(II)V" } : Jvm.MethodName) prog_2_method_4_code (3 : Nat) (Option.none : Option Jvm.ClassFile.FieldType)) ∈ wt_L := wt_at 466 (by decide +kernel) (by decide +kernel)
theorem ww_467 : (Jvm.Cond.methodLink "SupplyGrid" (89 : Nat) ({ cls := "SupplyGrid", name := "startRound", desc := "(LSupplyGrid$Desk;)I" } : Jvm.MethodName)) ∈ wt_L := wt_at 467 (by decide +kernel) (by decide +kernel)
theorem ww_469 : (Jvm.Cond.instanceMethod ({ cls := "SupplyGrid", name := "startRound", desc := "(LSupplyGrid$Desk;)I" } : Jvm.MethodName)) ∈ wt_L := wt_at 469 (by decide +kernel) (by decide +kernel)
theorem ww_470 : (Jvm.Cond.code ({ cls := "SupplyGrid", name := "startRound", desc := "(LSupplyGrid$Desk;)I" } : Jvm.MethodName) prog_1_method_26_code (3 : Nat) (Option.some Jvm.ClassFile.FieldType.int)) ∈ wt_L := wt_at 470 (by decide +kernel) (by decide +kernel)
theorem ww_471 : (Jvm.Cond.methodLinkNest "SupplyGrid" (203 : Nat) ({ cls := "SupplyGrid$Desk", name := "nextNumber", desc := "()I" } : Jvm.MethodName) "SupplyGrid") ∈ wt_L := wt_at 471 (by decide +kernel) (by decide +kernel)
theorem ww_473 : (Jvm.Cond.instanceMethod ({ cls := "SupplyGrid$Desk", name := "nextNumber", desc := "()I" } : Jvm.MethodName)) ∈ wt_L := wt_at 473 (by decide +kernel) (by decide +kernel)
theorem ww_474 : (Jvm.Cond.code ({ cls := "SupplyGrid$Desk", name := "nextNumber", desc := "()I" } : Jvm.MethodName) prog_3_method_6_code (3 : Nat) (Option.some Jvm.ClassFile.FieldType.int)) ∈ wt_L := wt_at 474 (by decide +kernel) (by decide +kernel)
theorem ww_475 : (Jvm.Cond.methodLink "SupplyGrid$Desk" (64 : Nat) ({ cls := "java/lang/Math", name := "max", desc := "(II)I" } : Jvm.MethodName)) ∈ wt_L := wt_at 475 (by decide +kernel) (by decide +kernel)
theorem ww_476 : (Jvm.Cond.static ({ cls := "java/lang/Math", name := "max", desc := "(II)I" } : Jvm.MethodName)) ∈ wt_L := wt_at 476 (by decide +kernel) (by decide +kernel)
theorem ww_477 : (Jvm.Cond.code ({ cls := "java/lang/Math", name := "max", desc := "(II)I" } : Jvm.MethodName) prog_14_method_65_code (2 : Nat) (Option.some Jvm.ClassFile.FieldType.int)) ∈ wt_L := wt_at 477 (by decide +kernel) (by decide +kernel)
theorem ww_478 : (Jvm.Cond.methodLink "SupplyGrid$Desk" (70 : Nat) ({ cls := "java/lang/Math", name := "floorDiv", desc := "(II)I" } : Jvm.MethodName)) ∈ wt_L := wt_at 478 (by decide +kernel) (by decide +kernel)
theorem ww_479 : (Jvm.Cond.static ({ cls := "java/lang/Math", name := "floorDiv", desc := "(II)I" } : Jvm.MethodName)) ∈ wt_L := wt_at 479 (by decide +kernel) (by decide +kernel)
theorem ww_480 : (Jvm.Cond.code ({ cls := "java/lang/Math", name := "floorDiv", desc := "(II)I" } : Jvm.MethodName) prog_14_method_47_code (3 : Nat) (Option.some Jvm.ClassFile.FieldType.int)) ∈ wt_L := wt_at 480 (by decide +kernel) (by decide +kernel)
theorem ww_481 : (Jvm.Cond.methodLinkNest "SupplyGrid" (200 : Nat) ({ cls := "SupplyGrid$Asking", name := "end", desc := "()V" } : Jvm.MethodName) "SupplyGrid") ∈ wt_L := wt_at 481 (by decide +kernel) (by decide +kernel)
theorem ww_482 : (Jvm.Cond.methodLinkNest "SupplyGrid" (209 : Nat) ({ cls := "SupplyGrid$Asking", name := "beginRound", desc := "(I)V" } : Jvm.MethodName) "SupplyGrid") ∈ wt_L := wt_at 482 (by decide +kernel) (by decide +kernel)
theorem ww_484 : (Jvm.Cond.instanceMethod ({ cls := "SupplyGrid$Asking", name := "beginRound", desc := "(I)V" } : Jvm.MethodName)) ∈ wt_L := wt_at 484 (by decide +kernel) (by decide +kernel)
theorem ww_485 : (Jvm.Cond.code ({ cls := "SupplyGrid$Asking", name := "beginRound", desc := "(I)V" } : Jvm.MethodName) prog_2_method_5_code (2 : Nat) (Option.none : Option Jvm.ClassFile.FieldType)) ∈ wt_L := wt_at 485 (by decide +kernel) (by decide +kernel)
theorem ww_486 : (Jvm.Cond.methodLink "SupplyGrid" (212 : Nat) ({ cls := "SupplyGrid", name := "sendToAll", desc := "(LSupplyGrid$Desk;II)I" } : Jvm.MethodName)) ∈ wt_L := wt_at 486 (by decide +kernel) (by decide +kernel)
theorem ww_488 : (Jvm.Cond.instanceMethod ({ cls := "SupplyGrid", name := "sendToAll", desc := "(LSupplyGrid$Desk;II)I" } : Jvm.MethodName)) ∈ wt_L := wt_at 488 (by decide +kernel) (by decide +kernel)
theorem ww_489 : (Jvm.Cond.code ({ cls := "SupplyGrid", name := "sendToAll", desc := "(LSupplyGrid$Desk;II)I" } : Jvm.MethodName) prog_1_method_27_code (6 : Nat) (Option.some Jvm.ClassFile.FieldType.int)) ∈ wt_L := wt_at 489 (by decide +kernel) (by decide +kernel)
theorem ww_490 : (Jvm.Cond.methodLinkNest "SupplyGrid" (140 : Nat) ({ cls := "SupplyGrid$Letter", name := "write", desc := "(IIIIILSupplyGrid$Pairs;)V" } : Jvm.MethodName) "SupplyGrid") ∈ wt_L := wt_at 490 (by decide +kernel) (by decide +kernel)
theorem ww_492 : (Jvm.Cond.instanceMethod ({ cls := "SupplyGrid$Letter", name := "write", desc := "(IIIIILSupplyGrid$Pairs;)V" } : Jvm.MethodName)) ∈ wt_L := wt_at 492 (by decide +kernel) (by decide +kernel)
theorem ww_493 : (Jvm.Cond.code ({ cls := "SupplyGrid$Letter", name := "write", desc := "(IIIIILSupplyGrid$Pairs;)V" } : Jvm.MethodName) prog_4_method_2_code (7 : Nat) (Option.none : Option Jvm.ClassFile.FieldType)) ∈ wt_L := wt_at 493 (by decide +kernel) (by decide +kernel)
theorem ww_494 : (Jvm.Cond.methodLinkNest "SupplyGrid$Letter" (40 : Nat) ({ cls := "SupplyGrid$Pairs", name := "become", desc := "(LSupplyGrid$Pairs;)V" } : Jvm.MethodName) "SupplyGrid") ∈ wt_L := wt_at 494 (by decide +kernel) (by decide +kernel)
theorem ww_496 : (Jvm.Cond.instanceMethod ({ cls := "SupplyGrid$Pairs", name := "become", desc := "(LSupplyGrid$Pairs;)V" } : Jvm.MethodName)) ∈ wt_L := wt_at 496 (by decide +kernel) (by decide +kernel)
theorem ww_497 : (Jvm.Cond.code ({ cls := "SupplyGrid$Pairs", name := "become", desc := "(LSupplyGrid$Pairs;)V" } : Jvm.MethodName) prog_6_method_6_code (3 : Nat) (Option.none : Option Jvm.ClassFile.FieldType)) ∈ wt_L := wt_at 497 (by decide +kernel) (by decide +kernel)
theorem ww_498 : (Jvm.Cond.methodLinkNest "SupplyGrid" (144 : Nat) ({ cls := "SupplyGrid$LetterRow", name := "send", desc := "(I)Z" } : Jvm.MethodName) "SupplyGrid") ∈ wt_L := wt_at 498 (by decide +kernel) (by decide +kernel)
theorem ww_500 : (Jvm.Cond.instanceMethod ({ cls := "SupplyGrid$LetterRow", name := "send", desc := "(I)Z" } : Jvm.MethodName)) ∈ wt_L := wt_at 500 (by decide +kernel) (by decide +kernel)
theorem ww_501 : (Jvm.Cond.code ({ cls := "SupplyGrid$LetterRow", name := "send", desc := "(I)Z" } : Jvm.MethodName) prog_5_method_6_code (2 : Nat) (Option.some Jvm.ClassFile.FieldType.boolean)) ∈ wt_L := wt_at 501 (by decide +kernel) (by decide +kernel)
theorem ww_502 : (Jvm.Cond.methodLink "SupplyGrid$LetterRow" (29 : Nat) ({ cls := "SupplyGrid$LetterRow", name := "place", desc := "(I)I" } : Jvm.MethodName)) ∈ wt_L := wt_at 502 (by decide +kernel) (by decide +kernel)
theorem ww_504 : (Jvm.Cond.instanceMethod ({ cls := "SupplyGrid$LetterRow", name := "place", desc := "(I)I" } : Jvm.MethodName)) ∈ wt_L := wt_at 504 (by decide +kernel) (by decide +kernel)
theorem ww_505 : (Jvm.Cond.code ({ cls := "SupplyGrid$LetterRow", name := "place", desc := "(I)I" } : Jvm.MethodName) prog_5_method_2_code (2 : Nat) (Option.some Jvm.ClassFile.FieldType.int)) ∈ wt_L := wt_at 505 (by decide +kernel) (by decide +kernel)
theorem ww_506 : (Jvm.Cond.methodLinkNest "SupplyGrid$LetterRow" (40 : Nat) ({ cls := "SupplyGrid$Letter", name := "become", desc := "(LSupplyGrid$Letter;)V" } : Jvm.MethodName) "SupplyGrid") ∈ wt_L := wt_at 506 (by decide +kernel) (by decide +kernel)
theorem ww_508 : (Jvm.Cond.instanceMethod ({ cls := "SupplyGrid$Letter", name := "become", desc := "(LSupplyGrid$Letter;)V" } : Jvm.MethodName)) ∈ wt_L := wt_at 508 (by decide +kernel) (by decide +kernel)
theorem ww_509 : (Jvm.Cond.code ({ cls := "SupplyGrid$Letter", name := "become", desc := "(LSupplyGrid$Letter;)V" } : Jvm.MethodName) prog_4_method_3_code (2 : Nat) (Option.none : Option Jvm.ClassFile.FieldType)) ∈ wt_L := wt_at 509 (by decide +kernel) (by decide +kernel)
theorem ww_510 : (Jvm.Cond.methodLink "SupplyGridLaw" (81 : Nat) ({ cls := "SupplyGridLaw", name := "retry", desc := "(LSupplyGrid;II[J)I" } : Jvm.MethodName)) ∈ wt_L := wt_at 510 (by decide +kernel) (by decide +kernel)
theorem ww_511 : (Jvm.Cond.static ({ cls := "SupplyGridLaw", name := "retry", desc := "(LSupplyGrid;II[J)I" } : Jvm.MethodName)) ∈ wt_L := wt_at 511 (by decide +kernel) (by decide +kernel)
theorem ww_512 : (Jvm.Cond.codeWith ({ cls := "SupplyGridLaw", name := "retry", desc := "(LSupplyGrid;II[J)I" } : Jvm.MethodName) method_5_code (5 : Nat) (Option.some Jvm.ClassFile.FieldType.int) [((0 : Nat), (10 : Nat), (13 : Nat), (13 : Nat)), ((0 : Nat), (10 : Nat), (17 : Nat), (15 : Nat))]) ∈ wt_L := wt_at 512 (by decide +kernel) (by decide +kernel)
theorem ww_513 : (Jvm.Cond.methodLink "SupplyGridLaw" (21 : Nat) ({ cls := "SupplyGrid", name := "retry", desc := "(II)I" } : Jvm.MethodName)) ∈ wt_L := wt_at 513 (by decide +kernel) (by decide +kernel)
theorem ww_514 : (Jvm.Cond.instanceMethod ({ cls := "SupplyGrid", name := "retry", desc := "(II)I" } : Jvm.MethodName)) ∈ wt_L := wt_at 514 (by decide +kernel) (by decide +kernel)
theorem ww_515 : (Jvm.Cond.selects "SupplyGrid" ({ cls := "SupplyGrid", name := "retry", desc := "(II)I" } : Jvm.MethodName) ({ cls := "SupplyGrid", name := "retry", desc := "(II)I" } : Jvm.MethodName)) ∈ wt_L := wt_at 515 (by decide +kernel) (by decide +kernel)
theorem ww_516 : (Jvm.Cond.code ({ cls := "SupplyGrid", name := "retry", desc := "(II)I" } : Jvm.MethodName) prog_1_method_4_code (4 : Nat) (Option.some Jvm.ClassFile.FieldType.int)) ∈ wt_L := wt_at 516 (by decide +kernel) (by decide +kernel)
theorem ww_517 : (Jvm.Cond.methodLink "SupplyGrid" (93 : Nat) ({ cls := "SupplyGrid", name := "deskOf", desc := "(II)LSupplyGrid$Desk;" } : Jvm.MethodName)) ∈ wt_L := wt_at 517 (by decide +kernel) (by decide +kernel)
theorem ww_519 : (Jvm.Cond.instanceMethod ({ cls := "SupplyGrid", name := "deskOf", desc := "(II)LSupplyGrid$Desk;" } : Jvm.MethodName)) ∈ wt_L := wt_at 519 (by decide +kernel) (by decide +kernel)
theorem ww_520 : (Jvm.Cond.code ({ cls := "SupplyGrid", name := "deskOf", desc := "(II)LSupplyGrid$Desk;" } : Jvm.MethodName) prog_1_method_24_code (4 : Nat) (Option.some (Jvm.ClassFile.FieldType.object "SupplyGrid$Desk"))) ∈ wt_L := wt_at 520 (by decide +kernel) (by decide +kernel)
theorem ww_521 : (Jvm.Cond.methodLinkNest "SupplyGrid" (97 : Nat) ({ cls := "SupplyGrid$Asking", name := "runs", desc := "()Z" } : Jvm.MethodName) "SupplyGrid") ∈ wt_L := wt_at 521 (by decide +kernel) (by decide +kernel)
theorem ww_523 : (Jvm.Cond.instanceMethod ({ cls := "SupplyGrid$Asking", name := "runs", desc := "()Z" } : Jvm.MethodName)) ∈ wt_L := wt_at 523 (by decide +kernel) (by decide +kernel)
theorem ww_524 : (Jvm.Cond.code ({ cls := "SupplyGrid$Asking", name := "runs", desc := "()Z" } : Jvm.MethodName) prog_2_method_2_code (1 : Nat) (Option.some Jvm.ClassFile.FieldType.boolean)) ∈ wt_L := wt_at 524 (by decide +kernel) (by decide +kernel)
theorem ww_526 : (Jvm.Cond.methodLink "SupplyGridLaw" (85 : Nat) ({ cls := "SupplyGridLaw", name := "deliver", desc := "(LSupplyGrid;I[J)I" } : Jvm.MethodName)) ∈ wt_L := wt_at 526 (by decide +kernel) (by decide +kernel)
theorem ww_527 : (Jvm.Cond.static ({ cls := "SupplyGridLaw", name := "deliver", desc := "(LSupplyGrid;I[J)I" } : Jvm.MethodName)) ∈ wt_L := wt_at 527 (by decide +kernel) (by decide +kernel)
theorem ww_528 : (Jvm.Cond.codeWith ({ cls := "SupplyGridLaw", name := "deliver", desc := "(LSupplyGrid;I[J)I" } : Jvm.MethodName) method_6_code (4 : Nat) (Option.some Jvm.ClassFile.FieldType.int) [((0 : Nat), (9 : Nat), (12 : Nat), (13 : Nat))]) ∈ wt_L := wt_at 528 (by decide +kernel) (by decide +kernel)
theorem ww_529 : (Jvm.Cond.methodLink "SupplyGridLaw" (25 : Nat) ({ cls := "SupplyGrid", name := "deliver", desc := "(I)I" } : Jvm.MethodName)) ∈ wt_L := wt_at 529 (by decide +kernel) (by decide +kernel)
theorem ww_530 : (Jvm.Cond.instanceMethod ({ cls := "SupplyGrid", name := "deliver", desc := "(I)I" } : Jvm.MethodName)) ∈ wt_L := wt_at 530 (by decide +kernel) (by decide +kernel)
theorem ww_531 : (Jvm.Cond.selects "SupplyGrid" ({ cls := "SupplyGrid", name := "deliver", desc := "(I)I" } : Jvm.MethodName) ({ cls := "SupplyGrid", name := "deliver", desc := "(I)I" } : Jvm.MethodName)) ∈ wt_L := wt_at 531 (by decide +kernel) (by decide +kernel)
theorem ww_532 : (Jvm.Cond.code ({ cls := "SupplyGrid", name := "deliver", desc := "(I)I" } : Jvm.MethodName) prog_1_method_5_code (2 : Nat) (Option.some Jvm.ClassFile.FieldType.int)) ∈ wt_L := wt_at 532 (by decide +kernel) (by decide +kernel)
theorem ww_533 : (Jvm.Cond.methodLink "SupplyGrid" (103 : Nat) ({ cls := "SupplyGrid", name := "needLetter", desc := "(I)V" } : Jvm.MethodName)) ∈ wt_L := wt_at 533 (by decide +kernel) (by decide +kernel)
theorem ww_535 : (Jvm.Cond.instanceMethod ({ cls := "SupplyGrid", name := "needLetter", desc := "(I)V" } : Jvm.MethodName)) ∈ wt_L := wt_at 535 (by decide +kernel) (by decide +kernel)
theorem ww_536 : (Jvm.Cond.code ({ cls := "SupplyGrid", name := "needLetter", desc := "(I)V" } : Jvm.MethodName) prog_1_method_21_code (2 : Nat) (Option.none : Option Jvm.ClassFile.FieldType)) ∈ wt_L := wt_at 536 (by decide +kernel) (by decide +kernel)
theorem ww_538 : (Jvm.Cond.methodLinkNest "SupplyGrid" (106 : Nat) ({ cls := "SupplyGrid$LetterRow", name := "take", desc := "(I)LSupplyGrid$Letter;" } : Jvm.MethodName) "SupplyGrid") ∈ wt_L := wt_at 538 (by decide +kernel) (by decide +kernel)
theorem ww_540 : (Jvm.Cond.instanceMethod ({ cls := "SupplyGrid$LetterRow", name := "take", desc := "(I)LSupplyGrid$Letter;" } : Jvm.MethodName)) ∈ wt_L := wt_at 540 (by decide +kernel) (by decide +kernel)
theorem ww_541 : (Jvm.Cond.code ({ cls := "SupplyGrid$LetterRow", name := "take", desc := "(I)LSupplyGrid$Letter;" } : Jvm.MethodName) prog_5_method_4_code (4 : Nat) (Option.some (Jvm.ClassFile.FieldType.object "SupplyGrid$Letter"))) ∈ wt_L := wt_at 541 (by decide +kernel) (by decide +kernel)
theorem ww_542 : (Jvm.Cond.methodLink "SupplyGrid$LetterRow" (33 : Nat) ({ cls := "SupplyGrid$LetterRow", name := "at", desc := "(I)LSupplyGrid$Letter;" } : Jvm.MethodName)) ∈ wt_L := wt_at 542 (by decide +kernel) (by decide +kernel)
theorem ww_544 : (Jvm.Cond.instanceMethod ({ cls := "SupplyGrid$LetterRow", name := "at", desc := "(I)LSupplyGrid$Letter;" } : Jvm.MethodName)) ∈ wt_L := wt_at 544 (by decide +kernel) (by decide +kernel)
theorem ww_545 : (Jvm.Cond.code ({ cls := "SupplyGrid$LetterRow", name := "at", desc := "(I)LSupplyGrid$Letter;" } : Jvm.MethodName) prog_5_method_3_code (2 : Nat) (Option.some (Jvm.ClassFile.FieldType.object "SupplyGrid$Letter"))) ∈ wt_L := wt_at 545 (by decide +kernel) (by decide +kernel)
theorem ww_546 : (Jvm.Cond.methodLink "SupplyGrid" (110 : Nat) ({ cls := "SupplyGrid", name := "handOver", desc := "(LSupplyGrid$Letter;)I" } : Jvm.MethodName)) ∈ wt_L := wt_at 546 (by decide +kernel) (by decide +kernel)
theorem ww_548 : (Jvm.Cond.instanceMethod ({ cls := "SupplyGrid", name := "handOver", desc := "(LSupplyGrid$Letter;)I" } : Jvm.MethodName)) ∈ wt_L := wt_at 548 (by decide +kernel) (by decide +kernel)
theorem ww_549 : (Jvm.Cond.code ({ cls := "SupplyGrid", name := "handOver", desc := "(LSupplyGrid$Letter;)I" } : Jvm.MethodName) prog_1_method_28_code (3 : Nat) (Option.some Jvm.ClassFile.FieldType.int)) ∈ wt_L := wt_at 549 (by decide +kernel) (by decide +kernel)
theorem ww_550 : (Jvm.Cond.methodLinkNest "SupplyGrid" (236 : Nat) ({ cls := "SupplyGrid$Desk", name := "learnAll", desc := "(LSupplyGrid$Pairs;)V" } : Jvm.MethodName) "SupplyGrid") ∈ wt_L := wt_at 550 (by decide +kernel) (by decide +kernel)
theorem ww_552 : (Jvm.Cond.instanceMethod ({ cls := "SupplyGrid$Desk", name := "learnAll", desc := "(LSupplyGrid$Pairs;)V" } : Jvm.MethodName)) ∈ wt_L := wt_at 552 (by decide +kernel) (by decide +kernel)
theorem ww_553 : (Jvm.Cond.code ({ cls := "SupplyGrid$Desk", name := "learnAll", desc := "(LSupplyGrid$Pairs;)V" } : Jvm.MethodName) prog_3_method_3_code (2 : Nat) (Option.none : Option Jvm.ClassFile.FieldType)) ∈ wt_L := wt_at 553 (by decide +kernel) (by decide +kernel)
theorem ww_554 : (Jvm.Cond.methodLinkNest "SupplyGrid$Desk" (47 : Nat) ({ cls := "SupplyGrid$Pairs", name := "addMissing", desc := "(LSupplyGrid$Pairs;)V" } : Jvm.MethodName) "SupplyGrid") ∈ wt_L := wt_at 554 (by decide +kernel) (by decide +kernel)
theorem ww_556 : (Jvm.Cond.instanceMethod ({ cls := "SupplyGrid$Pairs", name := "addMissing", desc := "(LSupplyGrid$Pairs;)V" } : Jvm.MethodName)) ∈ wt_L := wt_at 556 (by decide +kernel) (by decide +kernel)
theorem ww_557 : (Jvm.Cond.code ({ cls := "SupplyGrid$Pairs", name := "addMissing", desc := "(LSupplyGrid$Pairs;)V" } : Jvm.MethodName) prog_6_method_5_code (3 : Nat) (Option.none : Option Jvm.ClassFile.FieldType)) ∈ wt_L := wt_at 557 (by decide +kernel) (by decide +kernel)
theorem ww_558 : (Jvm.Cond.methodLink "SupplyGrid$Pairs" (23 : Nat) ({ cls := "SupplyGrid$Pairs", name := "add", desc := "(I)V" } : Jvm.MethodName)) ∈ wt_L := wt_at 558 (by decide +kernel) (by decide +kernel)
theorem ww_560 : (Jvm.Cond.instanceMethod ({ cls := "SupplyGrid$Pairs", name := "add", desc := "(I)V" } : Jvm.MethodName)) ∈ wt_L := wt_at 560 (by decide +kernel) (by decide +kernel)
theorem ww_561 : (Jvm.Cond.code ({ cls := "SupplyGrid$Pairs", name := "add", desc := "(I)V" } : Jvm.MethodName) prog_6_method_4_code (2 : Nat) (Option.none : Option Jvm.ClassFile.FieldType)) ∈ wt_L := wt_at 561 (by decide +kernel) (by decide +kernel)
theorem ww_562 : (Jvm.Cond.methodLink "SupplyGrid$Desk" (51 : Nat) ({ cls := "SupplyGrid$Desk", name := "openNext", desc := "()V" } : Jvm.MethodName)) ∈ wt_L := wt_at 562 (by decide +kernel) (by decide +kernel)
theorem ww_564 : (Jvm.Cond.instanceMethod ({ cls := "SupplyGrid$Desk", name := "openNext", desc := "()V" } : Jvm.MethodName)) ∈ wt_L := wt_at 564 (by decide +kernel) (by decide +kernel)
theorem ww_565 : (Jvm.Cond.code ({ cls := "SupplyGrid$Desk", name := "openNext", desc := "()V" } : Jvm.MethodName) prog_3_method_5_code (1 : Nat) (Option.none : Option Jvm.ClassFile.FieldType)) ∈ wt_L := wt_at 565 (by decide +kernel) (by decide +kernel)
theorem ww_566 : (Jvm.Cond.methodLinkNest "SupplyGrid$Desk" (58 : Nat) ({ cls := "SupplyGrid$Asking", name := "end", desc := "()V" } : Jvm.MethodName) "SupplyGrid") ∈ wt_L := wt_at 566 (by decide +kernel) (by decide +kernel)
theorem ww_567 : (Jvm.Cond.methodLink "SupplyGrid" (240 : Nat) ({ cls := "SupplyGrid", name := "answerAsker", desc := "(LSupplyGrid$Desk;LSupplyGrid$Letter;)I" } : Jvm.MethodName)) ∈ wt_L := wt_at 567 (by decide +kernel) (by decide +kernel)
theorem ww_569 : (Jvm.Cond.instanceMethod ({ cls := "SupplyGrid", name := "answerAsker", desc := "(LSupplyGrid$Desk;LSupplyGrid$Letter;)I" } : Jvm.MethodName)) ∈ wt_L := wt_at 569 (by decide +kernel) (by decide +kernel)
theorem ww_570 : (Jvm.Cond.code ({ cls := "SupplyGrid", name := "answerAsker", desc := "(LSupplyGrid$Desk;LSupplyGrid$Letter;)I" } : Jvm.MethodName) prog_1_method_29_code (3 : Nat) (Option.some Jvm.ClassFile.FieldType.int)) ∈ wt_L := wt_at 570 (by decide +kernel) (by decide +kernel)
theorem ww_571 : (Jvm.Cond.methodLink "SupplyGrid" (256 : Nat) ({ cls := "SupplyGrid", name := "answer", desc := "(LSupplyGrid$Desk;LSupplyGrid$Letter;III)I" } : Jvm.MethodName)) ∈ wt_L := wt_at 571 (by decide +kernel) (by decide +kernel)
theorem ww_573 : (Jvm.Cond.instanceMethod ({ cls := "SupplyGrid", name := "answer", desc := "(LSupplyGrid$Desk;LSupplyGrid$Letter;III)I" } : Jvm.MethodName)) ∈ wt_L := wt_at 573 (by decide +kernel) (by decide +kernel)
theorem ww_574 : (Jvm.Cond.code ({ cls := "SupplyGrid", name := "answer", desc := "(LSupplyGrid$Desk;LSupplyGrid$Letter;III)I" } : Jvm.MethodName) prog_1_method_30_code (7 : Nat) (Option.some Jvm.ClassFile.FieldType.int)) ∈ wt_L := wt_at 574 (by decide +kernel) (by decide +kernel)
theorem ww_575 : (Jvm.Cond.methodLink "SupplyGrid" (244 : Nat) ({ cls := "SupplyGrid", name := "countPromise", desc := "(LSupplyGrid$Desk;LSupplyGrid$Letter;)I" } : Jvm.MethodName)) ∈ wt_L := wt_at 575 (by decide +kernel) (by decide +kernel)
theorem ww_577 : (Jvm.Cond.instanceMethod ({ cls := "SupplyGrid", name := "countPromise", desc := "(LSupplyGrid$Desk;LSupplyGrid$Letter;)I" } : Jvm.MethodName)) ∈ wt_L := wt_at 577 (by decide +kernel) (by decide +kernel)
theorem ww_578 : (Jvm.Cond.code ({ cls := "SupplyGrid", name := "countPromise", desc := "(LSupplyGrid$Desk;LSupplyGrid$Letter;)I" } : Jvm.MethodName) prog_1_method_31_code (4 : Nat) (Option.some Jvm.ClassFile.FieldType.int)) ∈ wt_L := wt_at 578 (by decide +kernel) (by decide +kernel)
theorem ww_579 : (Jvm.Cond.methodLinkNest "SupplyGrid" (276 : Nat) ({ cls := "SupplyGrid$Asking", name := "waitsFor", desc := "(LSupplyGrid$Letter;I)Z" } : Jvm.MethodName) "SupplyGrid") ∈ wt_L := wt_at 579 (by decide +kernel) (by decide +kernel)
theorem ww_581 : (Jvm.Cond.instanceMethod ({ cls := "SupplyGrid$Asking", name := "waitsFor", desc := "(LSupplyGrid$Letter;I)Z" } : Jvm.MethodName)) ∈ wt_L := wt_at 581 (by decide +kernel) (by decide +kernel)
theorem ww_582 : (Jvm.Cond.code ({ cls := "SupplyGrid$Asking", name := "waitsFor", desc := "(LSupplyGrid$Letter;I)Z" } : Jvm.MethodName) prog_2_method_8_code (3 : Nat) (Option.some Jvm.ClassFile.FieldType.boolean)) ∈ wt_L := wt_at 582 (by decide +kernel) (by decide +kernel)
theorem ww_583 : (Jvm.Cond.methodLinkNest "SupplyGrid" (280 : Nat) ({ cls := "SupplyGrid$Asking", name := "countAnswer", desc := "(LSupplyGrid$Letter;)V" } : Jvm.MethodName) "SupplyGrid") ∈ wt_L := wt_at 583 (by decide +kernel) (by decide +kernel)
theorem ww_585 : (Jvm.Cond.instanceMethod ({ cls := "SupplyGrid$Asking", name := "countAnswer", desc := "(LSupplyGrid$Letter;)V" } : Jvm.MethodName)) ∈ wt_L := wt_at 585 (by decide +kernel) (by decide +kernel)
theorem ww_586 : (Jvm.Cond.code ({ cls := "SupplyGrid$Asking", name := "countAnswer", desc := "(LSupplyGrid$Letter;)V" } : Jvm.MethodName) prog_2_method_9_code (2 : Nat) (Option.none : Option Jvm.ClassFile.FieldType)) ∈ wt_L := wt_at 586 (by decide +kernel) (by decide +kernel)
theorem ww_587 : (Jvm.Cond.methodLinkNest "SupplyGrid" (286 : Nat) ({ cls := "SupplyGrid$Asking", name := "beginPhaseTwo", desc := "()V" } : Jvm.MethodName) "SupplyGrid") ∈ wt_L := wt_at 587 (by decide +kernel) (by decide +kernel)
theorem ww_589 : (Jvm.Cond.instanceMethod ({ cls := "SupplyGrid$Asking", name := "beginPhaseTwo", desc := "()V" } : Jvm.MethodName)) ∈ wt_L := wt_at 589 (by decide +kernel) (by decide +kernel)
theorem ww_590 : (Jvm.Cond.code ({ cls := "SupplyGrid$Asking", name := "beginPhaseTwo", desc := "()V" } : Jvm.MethodName) prog_2_method_6_code (1 : Nat) (Option.none : Option Jvm.ClassFile.FieldType)) ∈ wt_L := wt_at 590 (by decide +kernel) (by decide +kernel)
theorem ww_591 : (Jvm.Cond.methodLink "SupplyGrid" (247 : Nat) ({ cls := "SupplyGrid", name := "countAcceptance", desc := "(LSupplyGrid$Desk;LSupplyGrid$Letter;)V" } : Jvm.MethodName)) ∈ wt_L := wt_at 591 (by decide +kernel) (by decide +kernel)
theorem ww_592 : (Jvm.Cond.static ({ cls := "SupplyGrid", name := "countAcceptance", desc := "(LSupplyGrid$Desk;LSupplyGrid$Letter;)V" } : Jvm.MethodName)) ∈ wt_L := wt_at 592 (by decide +kernel) (by decide +kernel)
theorem ww_593 : (Jvm.Cond.code ({ cls := "SupplyGrid", name := "countAcceptance", desc := "(LSupplyGrid$Desk;LSupplyGrid$Letter;)V" } : Jvm.MethodName) prog_1_method_32_code (3 : Nat) (Option.none : Option Jvm.ClassFile.FieldType)) ∈ wt_L := wt_at 593 (by decide +kernel) (by decide +kernel)
theorem ww_594 : (Jvm.Cond.methodLinkNest "SupplyGrid" (290 : Nat) ({ cls := "SupplyGrid$Desk", name := "learn", desc := "(I)V" } : Jvm.MethodName) "SupplyGrid") ∈ wt_L := wt_at 594 (by decide +kernel) (by decide +kernel)
theorem ww_596 : (Jvm.Cond.instanceMethod ({ cls := "SupplyGrid$Desk", name := "learn", desc := "(I)V" } : Jvm.MethodName)) ∈ wt_L := wt_at 596 (by decide +kernel) (by decide +kernel)
theorem ww_597 : (Jvm.Cond.code ({ cls := "SupplyGrid$Desk", name := "learn", desc := "(I)V" } : Jvm.MethodName) prog_3_method_4_code (2 : Nat) (Option.none : Option Jvm.ClassFile.FieldType)) ∈ wt_L := wt_at 597 (by decide +kernel) (by decide +kernel)
theorem ww_598 : (Jvm.Cond.methodLinkNest "SupplyGrid$Desk" (54 : Nat) ({ cls := "SupplyGrid$Pairs", name := "add", desc := "(I)V" } : Jvm.MethodName) "SupplyGrid") ∈ wt_L := wt_at 598 (by decide +kernel) (by decide +kernel)
theorem ww_599 : (Jvm.Cond.methodLinkNest "SupplyGrid" (251 : Nat) ({ cls := "SupplyGrid$Asking", name := "hearRefusal", desc := "(LSupplyGrid$Letter;)V" } : Jvm.MethodName) "SupplyGrid") ∈ wt_L := wt_at 599 (by decide +kernel) (by decide +kernel)
theorem ww_601 : (Jvm.Cond.instanceMethod ({ cls := "SupplyGrid$Asking", name := "hearRefusal", desc := "(LSupplyGrid$Letter;)V" } : Jvm.MethodName)) ∈ wt_L := wt_at 601 (by decide +kernel) (by decide +kernel)
theorem ww_602 : (Jvm.Cond.code ({ cls := "SupplyGrid$Asking", name := "hearRefusal", desc := "(LSupplyGrid$Letter;)V" } : Jvm.MethodName) prog_2_method_10_code (2 : Nat) (Option.none : Option Jvm.ClassFile.FieldType)) ∈ wt_L := wt_at 602 (by decide +kernel) (by decide +kernel)
theorem ww_603 : (Jvm.Cond.methodLink "SupplyGrid$Asking" (53 : Nat) ({ cls := "SupplyGrid$Asking", name := "runs", desc := "()Z" } : Jvm.MethodName)) ∈ wt_L := wt_at 603 (by decide +kernel) (by decide +kernel)
theorem ww_604 : (Jvm.Cond.methodLink "SupplyGrid$Asking" (57 : Nat) ({ cls := "java/lang/Math", name := "max", desc := "(II)I" } : Jvm.MethodName)) ∈ wt_L := wt_at 604 (by decide +kernel) (by decide +kernel)
theorem ww_605 : (Jvm.Cond.methodLink "SupplyGridLaw" (89 : Nat) ({ cls := "SupplyGridLaw", name := "drop", desc := "(LSupplyGrid;I[J)I" } : Jvm.MethodName)) ∈ wt_L := wt_at 605 (by decide +kernel) (by decide +kernel)
theorem ww_606 : (Jvm.Cond.static ({ cls := "SupplyGridLaw", name := "drop", desc := "(LSupplyGrid;I[J)I" } : Jvm.MethodName)) ∈ wt_L := wt_at 606 (by decide +kernel) (by decide +kernel)
theorem ww_607 : (Jvm.Cond.codeWith ({ cls := "SupplyGridLaw", name := "drop", desc := "(LSupplyGrid;I[J)I" } : Jvm.MethodName) method_7_code (4 : Nat) (Option.some Jvm.ClassFile.FieldType.int) [((0 : Nat), (9 : Nat), (12 : Nat), (13 : Nat))]) ∈ wt_L := wt_at 607 (by decide +kernel) (by decide +kernel)
theorem ww_608 : (Jvm.Cond.methodLink "SupplyGridLaw" (29 : Nat) ({ cls := "SupplyGrid", name := "drop", desc := "(I)I" } : Jvm.MethodName)) ∈ wt_L := wt_at 608 (by decide +kernel) (by decide +kernel)
theorem ww_609 : (Jvm.Cond.instanceMethod ({ cls := "SupplyGrid", name := "drop", desc := "(I)I" } : Jvm.MethodName)) ∈ wt_L := wt_at 609 (by decide +kernel) (by decide +kernel)
theorem ww_610 : (Jvm.Cond.selects "SupplyGrid" ({ cls := "SupplyGrid", name := "drop", desc := "(I)I" } : Jvm.MethodName) ({ cls := "SupplyGrid", name := "drop", desc := "(I)I" } : Jvm.MethodName)) ∈ wt_L := wt_at 610 (by decide +kernel) (by decide +kernel)
theorem ww_611 : (Jvm.Cond.code ({ cls := "SupplyGrid", name := "drop", desc := "(I)I" } : Jvm.MethodName) prog_1_method_6_code (2 : Nat) (Option.some Jvm.ClassFile.FieldType.int)) ∈ wt_L := wt_at 611 (by decide +kernel) (by decide +kernel)
theorem ww_612 : (Jvm.Cond.methodLink "SupplyGridLaw" (92 : Nat) ({ cls := "SupplyGridLaw", name := "copy", desc := "(LSupplyGrid;I[J)I" } : Jvm.MethodName)) ∈ wt_L := wt_at 612 (by decide +kernel) (by decide +kernel)
theorem ww_613 : (Jvm.Cond.static ({ cls := "SupplyGridLaw", name := "copy", desc := "(LSupplyGrid;I[J)I" } : Jvm.MethodName)) ∈ wt_L := wt_at 613 (by decide +kernel) (by decide +kernel)
theorem ww_614 : (Jvm.Cond.codeWith ({ cls := "SupplyGridLaw", name := "copy", desc := "(LSupplyGrid;I[J)I" } : Jvm.MethodName) method_8_code (4 : Nat) (Option.some Jvm.ClassFile.FieldType.int) [((0 : Nat), (16 : Nat), (19 : Nat), (13 : Nat))]) ∈ wt_L := wt_at 614 (by decide +kernel) (by decide +kernel)
theorem ww_615 : (Jvm.Cond.methodLink "SupplyGridLaw" (32 : Nat) ({ cls := "SupplyGrid", name := "copy", desc := "(I)Z" } : Jvm.MethodName)) ∈ wt_L := wt_at 615 (by decide +kernel) (by decide +kernel)
theorem ww_616 : (Jvm.Cond.instanceMethod ({ cls := "SupplyGrid", name := "copy", desc := "(I)Z" } : Jvm.MethodName)) ∈ wt_L := wt_at 616 (by decide +kernel) (by decide +kernel)
theorem ww_617 : (Jvm.Cond.selects "SupplyGrid" ({ cls := "SupplyGrid", name := "copy", desc := "(I)Z" } : Jvm.MethodName) ({ cls := "SupplyGrid", name := "copy", desc := "(I)Z" } : Jvm.MethodName)) ∈ wt_L := wt_at 617 (by decide +kernel) (by decide +kernel)
theorem ww_618 : (Jvm.Cond.code ({ cls := "SupplyGrid", name := "copy", desc := "(I)Z" } : Jvm.MethodName) prog_1_method_7_code (2 : Nat) (Option.some Jvm.ClassFile.FieldType.boolean)) ∈ wt_L := wt_at 618 (by decide +kernel) (by decide +kernel)
theorem ww_619 : (Jvm.Cond.methodLinkNest "SupplyGrid" (119 : Nat) ({ cls := "SupplyGrid$LetterRow", name := "repeat", desc := "(I)Z" } : Jvm.MethodName) "SupplyGrid") ∈ wt_L := wt_at 619 (by decide +kernel) (by decide +kernel)
theorem ww_621 : (Jvm.Cond.instanceMethod ({ cls := "SupplyGrid$LetterRow", name := "repeat", desc := "(I)Z" } : Jvm.MethodName)) ∈ wt_L := wt_at 621 (by decide +kernel) (by decide +kernel)
theorem ww_622 : (Jvm.Cond.code ({ cls := "SupplyGrid$LetterRow", name := "repeat", desc := "(I)Z" } : Jvm.MethodName) prog_5_method_5_code (2 : Nat) (Option.some Jvm.ClassFile.FieldType.boolean)) ∈ wt_L := wt_at 622 (by decide +kernel) (by decide +kernel)
theorem ww_623 : (Jvm.Cond.methodLink "SupplyGridLaw" (95 : Nat) ({ cls := "SupplyGridLaw", name := "deliverAll", desc := "(LSupplyGrid;I[J)I" } : Jvm.MethodName)) ∈ wt_L := wt_at 623 (by decide +kernel) (by decide +kernel)
theorem ww_624 : (Jvm.Cond.static ({ cls := "SupplyGridLaw", name := "deliverAll", desc := "(LSupplyGrid;I[J)I" } : Jvm.MethodName)) ∈ wt_L := wt_at 624 (by decide +kernel) (by decide +kernel)
theorem ww_625 : (Jvm.Cond.codeWith ({ cls := "SupplyGridLaw", name := "deliverAll", desc := "(LSupplyGrid;I[J)I" } : Jvm.MethodName) method_9_code (4 : Nat) (Option.some Jvm.ClassFile.FieldType.int) [((0 : Nat), (9 : Nat), (12 : Nat), (13 : Nat))]) ∈ wt_L := wt_at 625 (by decide +kernel) (by decide +kernel)
theorem ww_626 : (Jvm.Cond.methodLink "SupplyGridLaw" (36 : Nat) ({ cls := "SupplyGrid", name := "deliverAll", desc := "(I)I" } : Jvm.MethodName)) ∈ wt_L := wt_at 626 (by decide +kernel) (by decide +kernel)
theorem ww_627 : (Jvm.Cond.instanceMethod ({ cls := "SupplyGrid", name := "deliverAll", desc := "(I)I" } : Jvm.MethodName)) ∈ wt_L := wt_at 627 (by decide +kernel) (by decide +kernel)
theorem ww_628 : (Jvm.Cond.selects "SupplyGrid" ({ cls := "SupplyGrid", name := "deliverAll", desc := "(I)I" } : Jvm.MethodName) ({ cls := "SupplyGrid", name := "deliverAll", desc := "(I)I" } : Jvm.MethodName)) ∈ wt_L := wt_at 628 (by decide +kernel) (by decide +kernel)
theorem ww_629 : (Jvm.Cond.code ({ cls := "SupplyGrid", name := "deliverAll", desc := "(I)I" } : Jvm.MethodName) prog_1_method_8_code (3 : Nat) (Option.some Jvm.ClassFile.FieldType.int)) ∈ wt_L := wt_at 629 (by decide +kernel) (by decide +kernel)
theorem ww_630 : (Jvm.Cond.methodLink "SupplyGridLaw" (98 : Nat) ({ cls := "SupplyGridLaw", name := "up", desc := "(LSupplyGrid;IZ[J)I" } : Jvm.MethodName)) ∈ wt_L := wt_at 630 (by decide +kernel) (by decide +kernel)
theorem ww_631 : (Jvm.Cond.static ({ cls := "SupplyGridLaw", name := "up", desc := "(LSupplyGrid;IZ[J)I" } : Jvm.MethodName)) ∈ wt_L := wt_at 631 (by decide +kernel) (by decide +kernel)
theorem ww_632 : (Jvm.Cond.codeWith ({ cls := "SupplyGridLaw", name := "up", desc := "(LSupplyGrid;IZ[J)I" } : Jvm.MethodName) method_10_code (5 : Nat) (Option.some Jvm.ClassFile.FieldType.int) [((0 : Nat), (17 : Nat), (20 : Nat), (13 : Nat))]) ∈ wt_L := wt_at 632 (by decide +kernel) (by decide +kernel)
theorem ww_633 : (Jvm.Cond.methodLink "SupplyGridLaw" (39 : Nat) ({ cls := "SupplyGrid", name := "up", desc := "(IZ)Z" } : Jvm.MethodName)) ∈ wt_L := wt_at 633 (by decide +kernel) (by decide +kernel)
theorem ww_634 : (Jvm.Cond.instanceMethod ({ cls := "SupplyGrid", name := "up", desc := "(IZ)Z" } : Jvm.MethodName)) ∈ wt_L := wt_at 634 (by decide +kernel) (by decide +kernel)
theorem ww_635 : (Jvm.Cond.selects "SupplyGrid" ({ cls := "SupplyGrid", name := "up", desc := "(IZ)Z" } : Jvm.MethodName) ({ cls := "SupplyGrid", name := "up", desc := "(IZ)Z" } : Jvm.MethodName)) ∈ wt_L := wt_at 635 (by decide +kernel) (by decide +kernel)
theorem ww_636 : (Jvm.Cond.code ({ cls := "SupplyGrid", name := "up", desc := "(IZ)Z" } : Jvm.MethodName) prog_1_method_9_code (3 : Nat) (Option.some Jvm.ClassFile.FieldType.boolean)) ∈ wt_L := wt_at 636 (by decide +kernel) (by decide +kernel)
theorem ww_637 : (Jvm.Cond.methodLink "SupplyGrid" (129 : Nat) ({ cls := "SupplyGrid", name := "endAskings", desc := "(I)V" } : Jvm.MethodName)) ∈ wt_L := wt_at 637 (by decide +kernel) (by decide +kernel)
theorem ww_639 : (Jvm.Cond.instanceMethod ({ cls := "SupplyGrid", name := "endAskings", desc := "(I)V" } : Jvm.MethodName)) ∈ wt_L := wt_at 639 (by decide +kernel) (by decide +kernel)
theorem ww_640 : (Jvm.Cond.code ({ cls := "SupplyGrid", name := "endAskings", desc := "(I)V" } : Jvm.MethodName) prog_1_method_25_code (4 : Nat) (Option.none : Option Jvm.ClassFile.FieldType)) ∈ wt_L := wt_at 640 (by decide +kernel) (by decide +kernel)
theorem ww_641 : (Jvm.Cond.methodLink "SupplyGridLaw" (102 : Nat) ({ cls := "SupplyGridLaw", name := "teach", desc := "(LSupplyGrid;III[J)I" } : Jvm.MethodName)) ∈ wt_L := wt_at 641 (by decide +kernel) (by decide +kernel)
theorem ww_642 : (Jvm.Cond.static ({ cls := "SupplyGridLaw", name := "teach", desc := "(LSupplyGrid;III[J)I" } : Jvm.MethodName)) ∈ wt_L := wt_at 642 (by decide +kernel) (by decide +kernel)
theorem ww_643 : (Jvm.Cond.codeWith ({ cls := "SupplyGridLaw", name := "teach", desc := "(LSupplyGrid;III[J)I" } : Jvm.MethodName) method_11_code (6 : Nat) (Option.some Jvm.ClassFile.FieldType.int) [((0 : Nat), (19 : Nat), (22 : Nat), (13 : Nat)), ((0 : Nat), (19 : Nat), (26 : Nat), (15 : Nat))]) ∈ wt_L := wt_at 643 (by decide +kernel) (by decide +kernel)
theorem ww_644 : (Jvm.Cond.methodLink "SupplyGridLaw" (43 : Nat) ({ cls := "SupplyGrid", name := "teach", desc := "(III)Z" } : Jvm.MethodName)) ∈ wt_L := wt_at 644 (by decide +kernel) (by decide +kernel)
theorem ww_645 : (Jvm.Cond.instanceMethod ({ cls := "SupplyGrid", name := "teach", desc := "(III)Z" } : Jvm.MethodName)) ∈ wt_L := wt_at 645 (by decide +kernel) (by decide +kernel)
theorem ww_646 : (Jvm.Cond.selects "SupplyGrid" ({ cls := "SupplyGrid", name := "teach", desc := "(III)Z" } : Jvm.MethodName) ({ cls := "SupplyGrid", name := "teach", desc := "(III)Z" } : Jvm.MethodName)) ∈ wt_L := wt_at 646 (by decide +kernel) (by decide +kernel)
theorem ww_647 : (Jvm.Cond.code ({ cls := "SupplyGrid", name := "teach", desc := "(III)Z" } : Jvm.MethodName) prog_1_method_10_code (4 : Nat) (Option.some Jvm.ClassFile.FieldType.boolean)) ∈ wt_L := wt_at 647 (by decide +kernel) (by decide +kernel)
theorem ww_648 : (Jvm.Cond.methodLink "SupplyGridLaw" (109 : Nat) ({ cls := "SupplyGridLaw", name := "letter", desc := "(LSupplyGrid;II[J)I" } : Jvm.MethodName)) ∈ wt_L := wt_at 648 (by decide +kernel) (by decide +kernel)
theorem ww_649 : (Jvm.Cond.static ({ cls := "SupplyGridLaw", name := "letter", desc := "(LSupplyGrid;II[J)I" } : Jvm.MethodName)) ∈ wt_L := wt_at 649 (by decide +kernel) (by decide +kernel)
theorem ww_650 : (Jvm.Cond.codeWith ({ cls := "SupplyGridLaw", name := "letter", desc := "(LSupplyGrid;II[J)I" } : Jvm.MethodName) method_12_code (5 : Nat) (Option.some Jvm.ClassFile.FieldType.int) [((0 : Nat), (10 : Nat), (13 : Nat), (13 : Nat))]) ∈ wt_L := wt_at 650 (by decide +kernel) (by decide +kernel)
theorem ww_651 : (Jvm.Cond.methodLink "SupplyGridLaw" (47 : Nat) ({ cls := "SupplyGrid", name := "letter", desc := "(II)I" } : Jvm.MethodName)) ∈ wt_L := wt_at 651 (by decide +kernel) (by decide +kernel)
theorem ww_652 : (Jvm.Cond.instanceMethod ({ cls := "SupplyGrid", name := "letter", desc := "(II)I" } : Jvm.MethodName)) ∈ wt_L := wt_at 652 (by decide +kernel) (by decide +kernel)
theorem ww_653 : (Jvm.Cond.selects "SupplyGrid" ({ cls := "SupplyGrid", name := "letter", desc := "(II)I" } : Jvm.MethodName) ({ cls := "SupplyGrid", name := "letter", desc := "(II)I" } : Jvm.MethodName)) ∈ wt_L := wt_at 653 (by decide +kernel) (by decide +kernel)
theorem ww_654 : (Jvm.Cond.code ({ cls := "SupplyGrid", name := "letter", desc := "(II)I" } : Jvm.MethodName) prog_1_method_12_code (3 : Nat) (Option.some Jvm.ClassFile.FieldType.int)) ∈ wt_L := wt_at 654 (by decide +kernel) (by decide +kernel)
theorem ww_655 : (Jvm.Cond.methodLinkNest "SupplyGrid" (147 : Nat) ({ cls := "SupplyGrid$LetterRow", name := "at", desc := "(I)LSupplyGrid$Letter;" } : Jvm.MethodName) "SupplyGrid") ∈ wt_L := wt_at 655 (by decide +kernel) (by decide +kernel)
theorem ww_656 : (Jvm.Cond.methodLinkNest "SupplyGrid" (150 : Nat) ({ cls := "SupplyGrid$Letter", name := "part", desc := "(I)I" } : Jvm.MethodName) "SupplyGrid") ∈ wt_L := wt_at 656 (by decide +kernel) (by decide +kernel)
theorem ww_658 : (Jvm.Cond.instanceMethod ({ cls := "SupplyGrid$Letter", name := "part", desc := "(I)I" } : Jvm.MethodName)) ∈ wt_L := wt_at 658 (by decide +kernel) (by decide +kernel)
theorem ww_659 : (Jvm.Cond.code ({ cls := "SupplyGrid$Letter", name := "part", desc := "(I)I" } : Jvm.MethodName) prog_4_method_4_code (2 : Nat) (Option.some Jvm.ClassFile.FieldType.int)) ∈ wt_L := wt_at 659 (by decide +kernel) (by decide +kernel)
theorem ww_660 : (Jvm.Cond.methodLinkNest "SupplyGrid$Letter" (47 : Nat) ({ cls := "SupplyGrid", name := "shopOf", desc := "(I)I" } : Jvm.MethodName) "SupplyGrid") ∈ wt_L := wt_at 660 (by decide +kernel) (by decide +kernel)
theorem ww_661 : (Jvm.Cond.static ({ cls := "SupplyGrid", name := "shopOf", desc := "(I)I" } : Jvm.MethodName)) ∈ wt_L := wt_at 661 (by decide +kernel) (by decide +kernel)
theorem ww_662 : (Jvm.Cond.code ({ cls := "SupplyGrid", name := "shopOf", desc := "(I)I" } : Jvm.MethodName) prog_1_method_36_code (1 : Nat) (Option.some Jvm.ClassFile.FieldType.int)) ∈ wt_L := wt_at 662 (by decide +kernel) (by decide +kernel)
theorem ww_663 : (Jvm.Cond.methodLinkNest "SupplyGrid$Letter" (51 : Nat) ({ cls := "SupplyGrid", name := "dayOf", desc := "(I)I" } : Jvm.MethodName) "SupplyGrid") ∈ wt_L := wt_at 663 (by decide +kernel) (by decide +kernel)
theorem ww_664 : (Jvm.Cond.methodLink "SupplyGridLaw" (112 : Nat) ({ cls := "SupplyGridLaw", name := "state", desc := "(LSupplyGrid;II[J)I" } : Jvm.MethodName)) ∈ wt_L := wt_at 664 (by decide +kernel) (by decide +kernel)
theorem ww_665 : (Jvm.Cond.static ({ cls := "SupplyGridLaw", name := "state", desc := "(LSupplyGrid;II[J)I" } : Jvm.MethodName)) ∈ wt_L := wt_at 665 (by decide +kernel) (by decide +kernel)
theorem ww_666 : (Jvm.Cond.codeWith ({ cls := "SupplyGridLaw", name := "state", desc := "(LSupplyGrid;II[J)I" } : Jvm.MethodName) method_13_code (5 : Nat) (Option.some Jvm.ClassFile.FieldType.int) [((0 : Nat), (10 : Nat), (13 : Nat), (13 : Nat))]) ∈ wt_L := wt_at 666 (by decide +kernel) (by decide +kernel)
theorem ww_667 : (Jvm.Cond.methodLink "SupplyGridLaw" (50 : Nat) ({ cls := "SupplyGrid", name := "state", desc := "(II)I" } : Jvm.MethodName)) ∈ wt_L := wt_at 667 (by decide +kernel) (by decide +kernel)
theorem ww_668 : (Jvm.Cond.instanceMethod ({ cls := "SupplyGrid", name := "state", desc := "(II)I" } : Jvm.MethodName)) ∈ wt_L := wt_at 668 (by decide +kernel) (by decide +kernel)
theorem ww_669 : (Jvm.Cond.selects "SupplyGrid" ({ cls := "SupplyGrid", name := "state", desc := "(II)I" } : Jvm.MethodName) ({ cls := "SupplyGrid", name := "state", desc := "(II)I" } : Jvm.MethodName)) ∈ wt_L := wt_at 669 (by decide +kernel) (by decide +kernel)
theorem ww_670 : (Jvm.Cond.code ({ cls := "SupplyGrid", name := "state", desc := "(II)I" } : Jvm.MethodName) prog_1_method_13_code (4 : Nat) (Option.some Jvm.ClassFile.FieldType.int)) ∈ wt_L := wt_at 670 (by decide +kernel) (by decide +kernel)
theorem ww_671 : (Jvm.Cond.methodLinkNest "SupplyGrid" (159 : Nat) ({ cls := "SupplyGrid$Pairs", name := "last", desc := "()I" } : Jvm.MethodName) "SupplyGrid") ∈ wt_L := wt_at 671 (by decide +kernel) (by decide +kernel)
theorem ww_672 : (Jvm.Cond.methodLink "SupplyGrid" (162 : Nat) ({ cls := "SupplyGrid", name := "shopOf", desc := "(I)I" } : Jvm.MethodName)) ∈ wt_L := wt_at 672 (by decide +kernel) (by decide +kernel)
theorem ww_673 : (Jvm.Cond.methodLink "SupplyGridLaw" (115 : Nat) ({ cls := "SupplyGridLaw", name := "granted", desc := "(LSupplyGrid;IIIZ[J)I" } : Jvm.MethodName)) ∈ wt_L := wt_at 673 (by decide +kernel) (by decide +kernel)
theorem ww_674 : (Jvm.Cond.static ({ cls := "SupplyGridLaw", name := "granted", desc := "(LSupplyGrid;IIIZ[J)I" } : Jvm.MethodName)) ∈ wt_L := wt_at 674 (by decide +kernel) (by decide +kernel)
theorem ww_675 : (Jvm.Cond.codeWith ({ cls := "SupplyGridLaw", name := "granted", desc := "(LSupplyGrid;IIIZ[J)I" } : Jvm.MethodName) method_14_code (7 : Nat) (Option.some Jvm.ClassFile.FieldType.int) [((0 : Nat), (14 : Nat), (17 : Nat), (13 : Nat))]) ∈ wt_L := wt_at 675 (by decide +kernel) (by decide +kernel)
theorem ww_676 : (Jvm.Cond.methodLink "SupplyGridLaw" (53 : Nat) ({ cls := "SupplyGrid", name := "granted", desc := "(IIIZ)I" } : Jvm.MethodName)) ∈ wt_L := wt_at 676 (by decide +kernel) (by decide +kernel)
theorem ww_677 : (Jvm.Cond.instanceMethod ({ cls := "SupplyGrid", name := "granted", desc := "(IIIZ)I" } : Jvm.MethodName)) ∈ wt_L := wt_at 677 (by decide +kernel) (by decide +kernel)
theorem ww_678 : (Jvm.Cond.selects "SupplyGrid" ({ cls := "SupplyGrid", name := "granted", desc := "(IIIZ)I" } : Jvm.MethodName) ({ cls := "SupplyGrid", name := "granted", desc := "(IIIZ)I" } : Jvm.MethodName)) ∈ wt_L := wt_at 678 (by decide +kernel) (by decide +kernel)
theorem ww_679 : (Jvm.Cond.code ({ cls := "SupplyGrid", name := "granted", desc := "(IIIZ)I" } : Jvm.MethodName) prog_1_method_14_code (6 : Nat) (Option.some Jvm.ClassFile.FieldType.int)) ∈ wt_L := wt_at 679 (by decide +kernel) (by decide +kernel)
theorem ww_680 : (Jvm.Cond.methodLinkNest "SupplyGrid" (165 : Nat) ({ cls := "SupplyGrid$Pairs", name := "of", desc := "(I)I" } : Jvm.MethodName) "SupplyGrid") ∈ wt_L := wt_at 680 (by decide +kernel) (by decide +kernel)
theorem ww_681 : (Jvm.Cond.methodLink "SupplyGrid" (168 : Nat) ({ cls := "SupplyGrid", name := "dayOf", desc := "(I)I" } : Jvm.MethodName)) ∈ wt_L := wt_at 681 (by decide +kernel) (by decide +kernel)
theorem ww_682 : (Jvm.Cond.methodLink "SupplyGridLaw" (119 : Nat) ({ cls := "SupplyGridLaw", name := "kept", desc := "(LSupplyGrid;III[J)I" } : Jvm.MethodName)) ∈ wt_L := wt_at 682 (by decide +kernel) (by decide +kernel)
theorem ww_683 : (Jvm.Cond.static ({ cls := "SupplyGridLaw", name := "kept", desc := "(LSupplyGrid;III[J)I" } : Jvm.MethodName)) ∈ wt_L := wt_at 683 (by decide +kernel) (by decide +kernel)
theorem ww_684 : (Jvm.Cond.codeWith ({ cls := "SupplyGridLaw", name := "kept", desc := "(LSupplyGrid;III[J)I" } : Jvm.MethodName) method_15_code (6 : Nat) (Option.some Jvm.ClassFile.FieldType.int) [((0 : Nat), (12 : Nat), (15 : Nat), (13 : Nat))]) ∈ wt_L := wt_at 684 (by decide +kernel) (by decide +kernel)
theorem ww_685 : (Jvm.Cond.methodLink "SupplyGridLaw" (57 : Nat) ({ cls := "SupplyGrid", name := "kept", desc := "(III)I" } : Jvm.MethodName)) ∈ wt_L := wt_at 685 (by decide +kernel) (by decide +kernel)
theorem ww_686 : (Jvm.Cond.instanceMethod ({ cls := "SupplyGrid", name := "kept", desc := "(III)I" } : Jvm.MethodName)) ∈ wt_L := wt_at 686 (by decide +kernel) (by decide +kernel)
theorem ww_687 : (Jvm.Cond.selects "SupplyGrid" ({ cls := "SupplyGrid", name := "kept", desc := "(III)I" } : Jvm.MethodName) ({ cls := "SupplyGrid", name := "kept", desc := "(III)I" } : Jvm.MethodName)) ∈ wt_L := wt_at 687 (by decide +kernel) (by decide +kernel)
theorem ww_688 : (Jvm.Cond.code ({ cls := "SupplyGrid", name := "kept", desc := "(III)I" } : Jvm.MethodName) prog_1_method_15_code (4 : Nat) (Option.some Jvm.ClassFile.FieldType.int)) ∈ wt_L := wt_at 688 (by decide +kernel) (by decide +kernel)
theorem ww_689 : (Jvm.Cond.methodLinkNest "SupplyGrid" (171 : Nat) ({ cls := "SupplyGrid$Desk", name := "part", desc := "(I)I" } : Jvm.MethodName) "SupplyGrid") ∈ wt_L := wt_at 689 (by decide +kernel) (by decide +kernel)
theorem ww_691 : (Jvm.Cond.instanceMethod ({ cls := "SupplyGrid$Desk", name := "part", desc := "(I)I" } : Jvm.MethodName)) ∈ wt_L := wt_at 691 (by decide +kernel) (by decide +kernel)
theorem ww_692 : (Jvm.Cond.code ({ cls := "SupplyGrid$Desk", name := "part", desc := "(I)I" } : Jvm.MethodName) prog_3_method_7_code (2 : Nat) (Option.some Jvm.ClassFile.FieldType.int)) ∈ wt_L := wt_at 692 (by decide +kernel) (by decide +kernel)
theorem ww_693 : (Jvm.Cond.methodLinkNest "SupplyGrid$Desk" (73 : Nat) ({ cls := "SupplyGrid", name := "shopOf", desc := "(I)I" } : Jvm.MethodName) "SupplyGrid") ∈ wt_L := wt_at 693 (by decide +kernel) (by decide +kernel)
theorem ww_694 : (Jvm.Cond.methodLinkNest "SupplyGrid$Desk" (77 : Nat) ({ cls := "SupplyGrid", name := "dayOf", desc := "(I)I" } : Jvm.MethodName) "SupplyGrid") ∈ wt_L := wt_at 694 (by decide +kernel) (by decide +kernel)
theorem ww_695 : (Jvm.Cond.methodLink "SupplyGrid$Desk" (89 : Nat) ({ cls := "java/lang/Integer", name := "bitCount", desc := "(I)I" } : Jvm.MethodName)) ∈ wt_L := wt_at 695 (by decide +kernel) (by decide +kernel)
theorem ww_696 : (Jvm.Cond.static ({ cls := "java/lang/Integer", name := "bitCount", desc := "(I)I" } : Jvm.MethodName)) ∈ wt_L := wt_at 696 (by decide +kernel) (by decide +kernel)
theorem ww_697 : (Jvm.Cond.code ({ cls := "java/lang/Integer", name := "bitCount", desc := "(I)I" } : Jvm.MethodName) prog_13_method_49_code (1 : Nat) (Option.some Jvm.ClassFile.FieldType.int)) ∈ wt_L := wt_at 697 (by decide +kernel) (by decide +kernel)
theorem ww_698 : (Jvm.Cond.constant "java/lang/Integer" (265 : Nat) (1431655765 : Int32)) ∈ wt_L := wt_at 698 (by decide +kernel) (by decide +kernel)
theorem ww_699 : (Jvm.Cond.constant "java/lang/Integer" (266 : Nat) (858993459 : Int32)) ∈ wt_L := wt_at 699 (by decide +kernel) (by decide +kernel)
theorem ww_700 : (Jvm.Cond.constant "java/lang/Integer" (267 : Nat) (252645135 : Int32)) ∈ wt_L := wt_at 700 (by decide +kernel) (by decide +kernel)
theorem ww_701 : (Jvm.Cond.methodLink "SupplyGridLaw" (126 : Nat) ({ cls := "SupplyGridLaw", name := "total", desc := "(LSupplyGrid;I[J)I" } : Jvm.MethodName)) ∈ wt_L := wt_at 701 (by decide +kernel) (by decide +kernel)
theorem ww_702 : (Jvm.Cond.static ({ cls := "SupplyGridLaw", name := "total", desc := "(LSupplyGrid;I[J)I" } : Jvm.MethodName)) ∈ wt_L := wt_at 702 (by decide +kernel) (by decide +kernel)
theorem ww_703 : (Jvm.Cond.codeWith ({ cls := "SupplyGridLaw", name := "total", desc := "(LSupplyGrid;I[J)I" } : Jvm.MethodName) method_16_code (4 : Nat) (Option.some Jvm.ClassFile.FieldType.int) [((0 : Nat), (9 : Nat), (12 : Nat), (13 : Nat))]) ∈ wt_L := wt_at 703 (by decide +kernel) (by decide +kernel)
theorem ww_704 : (Jvm.Cond.methodLink "SupplyGridLaw" (60 : Nat) ({ cls := "SupplyGrid", name := "total", desc := "(I)I" } : Jvm.MethodName)) ∈ wt_L := wt_at 704 (by decide +kernel) (by decide +kernel)
theorem ww_705 : (Jvm.Cond.instanceMethod ({ cls := "SupplyGrid", name := "total", desc := "(I)I" } : Jvm.MethodName)) ∈ wt_L := wt_at 705 (by decide +kernel) (by decide +kernel)
theorem ww_706 : (Jvm.Cond.selects "SupplyGrid" ({ cls := "SupplyGrid", name := "total", desc := "(I)I" } : Jvm.MethodName) ({ cls := "SupplyGrid", name := "total", desc := "(I)I" } : Jvm.MethodName)) ∈ wt_L := wt_at 706 (by decide +kernel) (by decide +kernel)
theorem ww_707 : (Jvm.Cond.code ({ cls := "SupplyGrid", name := "total", desc := "(I)I" } : Jvm.MethodName) prog_1_method_17_code (2 : Nat) (Option.some Jvm.ClassFile.FieldType.int)) ∈ wt_L := wt_at 707 (by decide +kernel) (by decide +kernel)
theorem ww_708 : (Jvm.Cond.classLink "SupplyGridLaw" (64 : Nat) "SupplyGridModel") ∈ wt_L := wt_at 708 (by decide +kernel) (by decide +kernel)
theorem ww_709 : (Jvm.Cond.instantiable "SupplyGridModel" (28 : Nat)) ∈ wt_L := wt_at 709 (by decide +kernel) (by decide +kernel)
theorem ww_710 : (Jvm.Cond.methodLink "SupplyGridLaw" (66 : Nat) ({ cls := "SupplyGridModel", name := "<init>", desc := "()V" } : Jvm.MethodName)) ∈ wt_L := wt_at 710 (by decide +kernel) (by decide +kernel)
theorem ww_711 : (Jvm.Cond.instanceMethod ({ cls := "SupplyGridModel", name := "<init>", desc := "()V" } : Jvm.MethodName)) ∈ wt_L := wt_at 711 (by decide +kernel) (by decide +kernel)
theorem ww_712 : (Jvm.Cond.code ({ cls := "SupplyGridModel", name := "<init>", desc := "()V" } : Jvm.MethodName) prog_9_method_1_code (1 : Nat) (Option.none : Option Jvm.ClassFile.FieldType)) ∈ wt_L := wt_at 712 (by decide +kernel) (by decide +kernel)
theorem ww_713 : (Jvm.Cond.methodLink "SupplyGridModel" (1 : Nat) ({ cls := "java/lang/Object", name := "<init>", desc := "()V" } : Jvm.MethodName)) ∈ wt_L := wt_at 713 (by decide +kernel) (by decide +kernel)
theorem ww_714 : (Jvm.Cond.fieldLink "SupplyGridModel" (7 : Nat) "SupplyGridModel" "supplies" "[I") ∈ wt_L := wt_at 714 (by decide +kernel) (by decide +kernel)
theorem ww_715 : (Jvm.Cond.fieldLink "SupplyGridModel" (13 : Nat) "SupplyGridModel" "aparts" "[I") ∈ wt_L := wt_at 715 (by decide +kernel) (by decide +kernel)
theorem ww_716 : (Jvm.Cond.fieldLink "SupplyGridModel" (16 : Nat) "SupplyGridModel" "down" "[Z") ∈ wt_L := wt_at 716 (by decide +kernel) (by decide +kernel)
theorem ww_717 : (Jvm.Cond.fieldLink "SupplyGridModel" (20 : Nat) "SupplyGridModel" "decided" "[I") ∈ wt_L := wt_at 717 (by decide +kernel) (by decide +kernel)
theorem ww_718 : (Jvm.Cond.fieldLink "SupplyGridModel" (23 : Nat) "SupplyGridModel" "promised" "[I") ∈ wt_L := wt_at 718 (by decide +kernel) (by decide +kernel)
theorem ww_719 : (Jvm.Cond.fieldLink "SupplyGridModel" (26 : Nat) "SupplyGridModel" "accepted" "[I") ∈ wt_L := wt_at 719 (by decide +kernel) (by decide +kernel)
theorem ww_720 : (Jvm.Cond.fieldLink "SupplyGridModel" (29 : Nat) "SupplyGridModel" "acceptedShop" "[I") ∈ wt_L := wt_at 720 (by decide +kernel) (by decide +kernel)
theorem ww_721 : (Jvm.Cond.fieldLink "SupplyGridModel" (32 : Nat) "SupplyGridModel" "acceptedDay" "[I") ∈ wt_L := wt_at 721 (by decide +kernel) (by decide +kernel)
theorem ww_722 : (Jvm.Cond.fieldLink "SupplyGridModel" (35 : Nat) "SupplyGridModel" "greatest" "[I") ∈ wt_L := wt_at 722 (by decide +kernel) (by decide +kernel)
theorem ww_723 : (Jvm.Cond.fieldLink "SupplyGridModel" (38 : Nat) "SupplyGridModel" "pairShop" "[I") ∈ wt_L := wt_at 723 (by decide +kernel) (by decide +kernel)
theorem ww_724 : (Jvm.Cond.fieldLink "SupplyGridModel" (41 : Nat) "SupplyGridModel" "pairDay" "[I") ∈ wt_L := wt_at 724 (by decide +kernel) (by decide +kernel)
theorem ww_725 : (Jvm.Cond.fieldLink "SupplyGridModel" (44 : Nat) "SupplyGridModel" "askSupply" "[I") ∈ wt_L := wt_at 725 (by decide +kernel) (by decide +kernel)
theorem ww_726 : (Jvm.Cond.fieldLink "SupplyGridModel" (47 : Nat) "SupplyGridModel" "askShop" "[I") ∈ wt_L := wt_at 726 (by decide +kernel) (by decide +kernel)
theorem ww_727 : (Jvm.Cond.fieldLink "SupplyGridModel" (50 : Nat) "SupplyGridModel" "askDay" "[I") ∈ wt_L := wt_at 727 (by decide +kernel) (by decide +kernel)
theorem ww_728 : (Jvm.Cond.fieldLink "SupplyGridModel" (53 : Nat) "SupplyGridModel" "askNumber" "[I") ∈ wt_L := wt_at 728 (by decide +kernel) (by decide +kernel)
theorem ww_729 : (Jvm.Cond.fieldLink "SupplyGridModel" (56 : Nat) "SupplyGridModel" "askPhase" "[I") ∈ wt_L := wt_at 729 (by decide +kernel) (by decide +kernel)
theorem ww_730 : (Jvm.Cond.fieldLink "SupplyGridModel" (59 : Nat) "SupplyGridModel" "answers" "[I") ∈ wt_L := wt_at 730 (by decide +kernel) (by decide +kernel)
theorem ww_731 : (Jvm.Cond.fieldLink "SupplyGridModel" (62 : Nat) "SupplyGridModel" "bestNumber" "[I") ∈ wt_L := wt_at 731 (by decide +kernel) (by decide +kernel)
theorem ww_732 : (Jvm.Cond.fieldLink "SupplyGridModel" (65 : Nat) "SupplyGridModel" "bestShop" "[I") ∈ wt_L := wt_at 732 (by decide +kernel) (by decide +kernel)
theorem ww_733 : (Jvm.Cond.fieldLink "SupplyGridModel" (68 : Nat) "SupplyGridModel" "bestDay" "[I") ∈ wt_L := wt_at 733 (by decide +kernel) (by decide +kernel)
theorem ww_734 : (Jvm.Cond.fieldLink "SupplyGridModel" (71 : Nat) "SupplyGridModel" "refusedBy" "[I") ∈ wt_L := wt_at 734 (by decide +kernel) (by decide +kernel)
theorem ww_735 : (Jvm.Cond.fieldLink "SupplyGridModel" (74 : Nat) "SupplyGridModel" "letters" "[I") ∈ wt_L := wt_at 735 (by decide +kernel) (by decide +kernel)
theorem ww_736 : (Jvm.Cond.fieldLink "SupplyGridModel" (99 : Nat) "SupplyGridModel" "size" "I") ∈ wt_L := wt_at 736 (by decide +kernel) (by decide +kernel)
theorem ww_737 : (Jvm.Cond.fieldLink "SupplyGridModel" (77 : Nat) "SupplyGridModel" "hand" "[I") ∈ wt_L := wt_at 737 (by decide +kernel) (by decide +kernel)
theorem ww_738 : (Jvm.Cond.fieldLink "SupplyGridModel" (102 : Nat) "SupplyGridModel" "lostRoom" "I") ∈ wt_L := wt_at 738 (by decide +kernel) (by decide +kernel)
theorem ww_739 : (Jvm.Cond.fieldLink "SupplyGridModel" (144 : Nat) "SupplyGridModel" "lostDown" "I") ∈ wt_L := wt_at 739 (by decide +kernel) (by decide +kernel)
theorem ww_740 : (Jvm.Cond.fieldLink "SupplyGridModel" (96 : Nat) "SupplyGridModel" "sent" "I") ∈ wt_L := wt_at 740 (by decide +kernel) (by decide +kernel)
theorem ww_741 : (Jvm.Cond.fieldLink "SupplyGridModel" (80 : Nat) "SupplyGridModel" "thrown" "I") ∈ wt_L := wt_at 741 (by decide +kernel) (by decide +kernel)
theorem ww_742 : (Jvm.Cond.laysFinal "SupplyGridModel" "SupplyGridModel" "supplies" "[I") ∈ wt_L := wt_at 742 (by decide +kernel) (by decide +kernel)
theorem ww_743 : (Jvm.Cond.soleField "SupplyGridModel" "supplies") ∈ wt_L := wt_at 743 (by decide +kernel) (by decide +kernel)
theorem ww_744 : (Jvm.Cond.laysFinal "SupplyGridModel" "SupplyGridModel" "aparts" "[I") ∈ wt_L := wt_at 744 (by decide +kernel) (by decide +kernel)
theorem ww_745 : (Jvm.Cond.soleField "SupplyGridModel" "aparts") ∈ wt_L := wt_at 745 (by decide +kernel) (by decide +kernel)
theorem ww_746 : (Jvm.Cond.laysFinal "SupplyGridModel" "SupplyGridModel" "down" "[Z") ∈ wt_L := wt_at 746 (by decide +kernel) (by decide +kernel)
theorem ww_747 : (Jvm.Cond.soleField "SupplyGridModel" "down") ∈ wt_L := wt_at 747 (by decide +kernel) (by decide +kernel)
theorem ww_748 : (Jvm.Cond.laysFinal "SupplyGridModel" "SupplyGridModel" "decided" "[I") ∈ wt_L := wt_at 748 (by decide +kernel) (by decide +kernel)
theorem ww_749 : (Jvm.Cond.soleField "SupplyGridModel" "decided") ∈ wt_L := wt_at 749 (by decide +kernel) (by decide +kernel)
theorem ww_750 : (Jvm.Cond.laysFinal "SupplyGridModel" "SupplyGridModel" "promised" "[I") ∈ wt_L := wt_at 750 (by decide +kernel) (by decide +kernel)
theorem ww_751 : (Jvm.Cond.soleField "SupplyGridModel" "promised") ∈ wt_L := wt_at 751 (by decide +kernel) (by decide +kernel)
theorem ww_752 : (Jvm.Cond.laysFinal "SupplyGridModel" "SupplyGridModel" "accepted" "[I") ∈ wt_L := wt_at 752 (by decide +kernel) (by decide +kernel)
theorem ww_753 : (Jvm.Cond.soleField "SupplyGridModel" "accepted") ∈ wt_L := wt_at 753 (by decide +kernel) (by decide +kernel)
theorem ww_754 : (Jvm.Cond.laysFinal "SupplyGridModel" "SupplyGridModel" "acceptedShop" "[I") ∈ wt_L := wt_at 754 (by decide +kernel) (by decide +kernel)
theorem ww_755 : (Jvm.Cond.soleField "SupplyGridModel" "acceptedShop") ∈ wt_L := wt_at 755 (by decide +kernel) (by decide +kernel)
theorem ww_756 : (Jvm.Cond.laysFinal "SupplyGridModel" "SupplyGridModel" "acceptedDay" "[I") ∈ wt_L := wt_at 756 (by decide +kernel) (by decide +kernel)
theorem ww_757 : (Jvm.Cond.soleField "SupplyGridModel" "acceptedDay") ∈ wt_L := wt_at 757 (by decide +kernel) (by decide +kernel)
theorem ww_758 : (Jvm.Cond.laysFinal "SupplyGridModel" "SupplyGridModel" "greatest" "[I") ∈ wt_L := wt_at 758 (by decide +kernel) (by decide +kernel)
theorem ww_759 : (Jvm.Cond.soleField "SupplyGridModel" "greatest") ∈ wt_L := wt_at 759 (by decide +kernel) (by decide +kernel)
theorem ww_760 : (Jvm.Cond.laysFinal "SupplyGridModel" "SupplyGridModel" "pairShop" "[I") ∈ wt_L := wt_at 760 (by decide +kernel) (by decide +kernel)
theorem ww_761 : (Jvm.Cond.soleField "SupplyGridModel" "pairShop") ∈ wt_L := wt_at 761 (by decide +kernel) (by decide +kernel)
theorem ww_762 : (Jvm.Cond.laysFinal "SupplyGridModel" "SupplyGridModel" "pairDay" "[I") ∈ wt_L := wt_at 762 (by decide +kernel) (by decide +kernel)
theorem ww_763 : (Jvm.Cond.soleField "SupplyGridModel" "pairDay") ∈ wt_L := wt_at 763 (by decide +kernel) (by decide +kernel)
theorem ww_764 : (Jvm.Cond.laysFinal "SupplyGridModel" "SupplyGridModel" "askSupply" "[I") ∈ wt_L := wt_at 764 (by decide +kernel) (by decide +kernel)
theorem ww_765 : (Jvm.Cond.soleField "SupplyGridModel" "askSupply") ∈ wt_L := wt_at 765 (by decide +kernel) (by decide +kernel)
theorem ww_766 : (Jvm.Cond.laysFinal "SupplyGridModel" "SupplyGridModel" "askShop" "[I") ∈ wt_L := wt_at 766 (by decide +kernel) (by decide +kernel)
theorem ww_767 : (Jvm.Cond.soleField "SupplyGridModel" "askShop") ∈ wt_L := wt_at 767 (by decide +kernel) (by decide +kernel)
theorem ww_768 : (Jvm.Cond.laysFinal "SupplyGridModel" "SupplyGridModel" "askDay" "[I") ∈ wt_L := wt_at 768 (by decide +kernel) (by decide +kernel)
theorem ww_769 : (Jvm.Cond.soleField "SupplyGridModel" "askDay") ∈ wt_L := wt_at 769 (by decide +kernel) (by decide +kernel)
theorem ww_770 : (Jvm.Cond.laysFinal "SupplyGridModel" "SupplyGridModel" "askNumber" "[I") ∈ wt_L := wt_at 770 (by decide +kernel) (by decide +kernel)
theorem ww_771 : (Jvm.Cond.soleField "SupplyGridModel" "askNumber") ∈ wt_L := wt_at 771 (by decide +kernel) (by decide +kernel)
theorem ww_772 : (Jvm.Cond.laysFinal "SupplyGridModel" "SupplyGridModel" "askPhase" "[I") ∈ wt_L := wt_at 772 (by decide +kernel) (by decide +kernel)
theorem ww_773 : (Jvm.Cond.soleField "SupplyGridModel" "askPhase") ∈ wt_L := wt_at 773 (by decide +kernel) (by decide +kernel)
theorem ww_774 : (Jvm.Cond.laysFinal "SupplyGridModel" "SupplyGridModel" "answers" "[I") ∈ wt_L := wt_at 774 (by decide +kernel) (by decide +kernel)
theorem ww_775 : (Jvm.Cond.soleField "SupplyGridModel" "answers") ∈ wt_L := wt_at 775 (by decide +kernel) (by decide +kernel)
theorem ww_776 : (Jvm.Cond.laysFinal "SupplyGridModel" "SupplyGridModel" "bestNumber" "[I") ∈ wt_L := wt_at 776 (by decide +kernel) (by decide +kernel)
theorem ww_777 : (Jvm.Cond.soleField "SupplyGridModel" "bestNumber") ∈ wt_L := wt_at 777 (by decide +kernel) (by decide +kernel)
theorem ww_778 : (Jvm.Cond.laysFinal "SupplyGridModel" "SupplyGridModel" "bestShop" "[I") ∈ wt_L := wt_at 778 (by decide +kernel) (by decide +kernel)
theorem ww_779 : (Jvm.Cond.soleField "SupplyGridModel" "bestShop") ∈ wt_L := wt_at 779 (by decide +kernel) (by decide +kernel)
theorem ww_780 : (Jvm.Cond.laysFinal "SupplyGridModel" "SupplyGridModel" "bestDay" "[I") ∈ wt_L := wt_at 780 (by decide +kernel) (by decide +kernel)
theorem ww_781 : (Jvm.Cond.soleField "SupplyGridModel" "bestDay") ∈ wt_L := wt_at 781 (by decide +kernel) (by decide +kernel)
theorem ww_782 : (Jvm.Cond.laysFinal "SupplyGridModel" "SupplyGridModel" "refusedBy" "[I") ∈ wt_L := wt_at 782 (by decide +kernel) (by decide +kernel)
theorem ww_783 : (Jvm.Cond.soleField "SupplyGridModel" "refusedBy") ∈ wt_L := wt_at 783 (by decide +kernel) (by decide +kernel)
theorem ww_784 : (Jvm.Cond.laysFinal "SupplyGridModel" "SupplyGridModel" "letters" "[I") ∈ wt_L := wt_at 784 (by decide +kernel) (by decide +kernel)
theorem ww_785 : (Jvm.Cond.soleField "SupplyGridModel" "letters") ∈ wt_L := wt_at 785 (by decide +kernel) (by decide +kernel)
theorem ww_786 : (Jvm.Cond.lays "SupplyGridModel" "SupplyGridModel" "size" "I") ∈ wt_L := wt_at 786 (by decide +kernel) (by decide +kernel)
theorem ww_787 : (Jvm.Cond.soleField "SupplyGridModel" "size") ∈ wt_L := wt_at 787 (by decide +kernel) (by decide +kernel)
theorem ww_788 : (Jvm.Cond.laysFinal "SupplyGridModel" "SupplyGridModel" "hand" "[I") ∈ wt_L := wt_at 788 (by decide +kernel) (by decide +kernel)
theorem ww_789 : (Jvm.Cond.soleField "SupplyGridModel" "hand") ∈ wt_L := wt_at 789 (by decide +kernel) (by decide +kernel)
theorem ww_790 : (Jvm.Cond.lays "SupplyGridModel" "SupplyGridModel" "lostRoom" "I") ∈ wt_L := wt_at 790 (by decide +kernel) (by decide +kernel)
theorem ww_791 : (Jvm.Cond.soleField "SupplyGridModel" "lostRoom") ∈ wt_L := wt_at 791 (by decide +kernel) (by decide +kernel)
theorem ww_792 : (Jvm.Cond.lays "SupplyGridModel" "SupplyGridModel" "lostDown" "I") ∈ wt_L := wt_at 792 (by decide +kernel) (by decide +kernel)
theorem ww_793 : (Jvm.Cond.soleField "SupplyGridModel" "lostDown") ∈ wt_L := wt_at 793 (by decide +kernel) (by decide +kernel)
theorem ww_794 : (Jvm.Cond.lays "SupplyGridModel" "SupplyGridModel" "sent" "I") ∈ wt_L := wt_at 794 (by decide +kernel) (by decide +kernel)
theorem ww_795 : (Jvm.Cond.soleField "SupplyGridModel" "sent") ∈ wt_L := wt_at 795 (by decide +kernel) (by decide +kernel)
theorem ww_796 : (Jvm.Cond.lays "SupplyGridModel" "SupplyGridModel" "thrown" "I") ∈ wt_L := wt_at 796 (by decide +kernel) (by decide +kernel)
theorem ww_797 : (Jvm.Cond.soleField "SupplyGridModel" "thrown") ∈ wt_L := wt_at 797 (by decide +kernel) (by decide +kernel)
theorem ww_798 : (Jvm.Cond.superclass "SupplyGridModel" "java/lang/Object") ∈ wt_L := wt_at 798 (by decide +kernel) (by decide +kernel)
theorem ww_799 : (Jvm.Cond.arrayClass Jvm.ClassFile.FieldType.boolean) ∈ wt_L := wt_at 799 (by decide +kernel) (by decide +kernel)
theorem ww_800 : (Jvm.Cond.methodLink "SupplyGridLaw" (73 : Nat) ({ cls := "SupplyGridModel", name := "thrown", desc := "()I" } : Jvm.MethodName)) ∈ wt_L := wt_at 800 (by decide +kernel) (by decide +kernel)
theorem ww_801 : (Jvm.Cond.instanceMethod ({ cls := "SupplyGridModel", name := "thrown", desc := "()I" } : Jvm.MethodName)) ∈ wt_L := wt_at 801 (by decide +kernel) (by decide +kernel)
theorem ww_802 : (Jvm.Cond.selects "SupplyGridModel" ({ cls := "SupplyGridModel", name := "thrown", desc := "()I" } : Jvm.MethodName) ({ cls := "SupplyGridModel", name := "thrown", desc := "()I" } : Jvm.MethodName)) ∈ wt_L := wt_at 802 (by decide +kernel) (by decide +kernel)
theorem ww_803 : (Jvm.Cond.code ({ cls := "SupplyGridModel", name := "thrown", desc := "()I" } : Jvm.MethodName) prog_9_method_2_code (1 : Nat) (Option.some Jvm.ClassFile.FieldType.int)) ∈ wt_L := wt_at 803 (by decide +kernel) (by decide +kernel)
theorem ww_804 : (Jvm.Cond.methodLink "SupplyGridLaw" (72 : Nat) ({ cls := "SupplyGridModel", name := "register", desc := "(III)V" } : Jvm.MethodName)) ∈ wt_L := wt_at 804 (by decide +kernel) (by decide +kernel)
theorem ww_805 : (Jvm.Cond.instanceMethod ({ cls := "SupplyGridModel", name := "register", desc := "(III)V" } : Jvm.MethodName)) ∈ wt_L := wt_at 805 (by decide +kernel) (by decide +kernel)
theorem ww_806 : (Jvm.Cond.selects "SupplyGridModel" ({ cls := "SupplyGridModel", name := "register", desc := "(III)V" } : Jvm.MethodName) ({ cls := "SupplyGridModel", name := "register", desc := "(III)V" } : Jvm.MethodName)) ∈ wt_L := wt_at 806 (by decide +kernel) (by decide +kernel)
theorem ww_807 : (Jvm.Cond.code ({ cls := "SupplyGridModel", name := "register", desc := "(III)V" } : Jvm.MethodName) prog_9_method_8_code (4 : Nat) (Option.none : Option Jvm.ClassFile.FieldType)) ∈ wt_L := wt_at 807 (by decide +kernel) (by decide +kernel)
theorem ww_808 : (Jvm.Cond.methodLink "SupplyGridModel" (88 : Nat) ({ cls := "SupplyGridModel", name := "isPrescription", desc := "(I)Z" } : Jvm.MethodName)) ∈ wt_L := wt_at 808 (by decide +kernel) (by decide +kernel)
theorem ww_809 : (Jvm.Cond.static ({ cls := "SupplyGridModel", name := "isPrescription", desc := "(I)Z" } : Jvm.MethodName)) ∈ wt_L := wt_at 809 (by decide +kernel) (by decide +kernel)
theorem ww_810 : (Jvm.Cond.code ({ cls := "SupplyGridModel", name := "isPrescription", desc := "(I)Z" } : Jvm.MethodName) prog_9_method_6_code (1 : Nat) (Option.some Jvm.ClassFile.FieldType.boolean)) ∈ wt_L := wt_at 810 (by decide +kernel) (by decide +kernel)
theorem ww_811 : (Jvm.Cond.methodLink "SupplyGridModel" (84 : Nat) ({ cls := "SupplyGridModel", name := "within", desc := "(II)Z" } : Jvm.MethodName)) ∈ wt_L := wt_at 811 (by decide +kernel) (by decide +kernel)
theorem ww_812 : (Jvm.Cond.static ({ cls := "SupplyGridModel", name := "within", desc := "(II)Z" } : Jvm.MethodName)) ∈ wt_L := wt_at 812 (by decide +kernel) (by decide +kernel)
theorem ww_813 : (Jvm.Cond.code ({ cls := "SupplyGridModel", name := "within", desc := "(II)Z" } : Jvm.MethodName) prog_9_method_4_code (2 : Nat) (Option.some Jvm.ClassFile.FieldType.boolean)) ∈ wt_L := wt_at 813 (by decide +kernel) (by decide +kernel)
theorem ww_814 : (Jvm.Cond.methodLink "SupplyGridModel" (92 : Nat) ({ cls := "SupplyGridModel", name := "fails", desc := "(ZI)Z" } : Jvm.MethodName)) ∈ wt_L := wt_at 814 (by decide +kernel) (by decide +kernel)
theorem ww_816 : (Jvm.Cond.instanceMethod ({ cls := "SupplyGridModel", name := "fails", desc := "(ZI)Z" } : Jvm.MethodName)) ∈ wt_L := wt_at 816 (by decide +kernel) (by decide +kernel)
theorem ww_817 : (Jvm.Cond.code ({ cls := "SupplyGridModel", name := "fails", desc := "(ZI)Z" } : Jvm.MethodName) prog_9_method_3_code (3 : Nat) (Option.some Jvm.ClassFile.FieldType.boolean)) ∈ wt_L := wt_at 817 (by decide +kernel) (by decide +kernel)
theorem ww_818 : (Jvm.Cond.methodLink "SupplyGridLaw" (80 : Nat) ({ cls := "SupplyGridModel", name := "ask", desc := "(III)I" } : Jvm.MethodName)) ∈ wt_L := wt_at 818 (by decide +kernel) (by decide +kernel)
theorem ww_819 : (Jvm.Cond.instanceMethod ({ cls := "SupplyGridModel", name := "ask", desc := "(III)I" } : Jvm.MethodName)) ∈ wt_L := wt_at 819 (by decide +kernel) (by decide +kernel)
theorem ww_820 : (Jvm.Cond.selects "SupplyGridModel" ({ cls := "SupplyGridModel", name := "ask", desc := "(III)I" } : Jvm.MethodName) ({ cls := "SupplyGridModel", name := "ask", desc := "(III)I" } : Jvm.MethodName)) ∈ wt_L := wt_at 820 (by decide +kernel) (by decide +kernel)
theorem ww_821 : (Jvm.Cond.code ({ cls := "SupplyGridModel", name := "ask", desc := "(III)I" } : Jvm.MethodName) prog_9_method_14_code (6 : Nat) (Option.some Jvm.ClassFile.FieldType.int)) ∈ wt_L := wt_at 821 (by decide +kernel) (by decide +kernel)
theorem ww_822 : (Jvm.Cond.methodLink "SupplyGridModel" (117 : Nat) ({ cls := "SupplyGridModel", name := "isShop", desc := "(I)Z" } : Jvm.MethodName)) ∈ wt_L := wt_at 822 (by decide +kernel) (by decide +kernel)
theorem ww_823 : (Jvm.Cond.static ({ cls := "SupplyGridModel", name := "isShop", desc := "(I)Z" } : Jvm.MethodName)) ∈ wt_L := wt_at 823 (by decide +kernel) (by decide +kernel)
theorem ww_824 : (Jvm.Cond.code ({ cls := "SupplyGridModel", name := "isShop", desc := "(I)Z" } : Jvm.MethodName) prog_9_method_5_code (1 : Nat) (Option.some Jvm.ClassFile.FieldType.boolean)) ∈ wt_L := wt_at 824 (by decide +kernel) (by decide +kernel)
theorem ww_825 : (Jvm.Cond.constant "SupplyGridModel" (120 : Nat) (100001 : Int32)) ∈ wt_L := wt_at 825 (by decide +kernel) (by decide +kernel)
theorem ww_826 : (Jvm.Cond.methodLink "SupplyGridModel" (105 : Nat) ({ cls := "SupplyGridModel", name := "at", desc := "(II)I" } : Jvm.MethodName)) ∈ wt_L := wt_at 826 (by decide +kernel) (by decide +kernel)
theorem ww_827 : (Jvm.Cond.static ({ cls := "SupplyGridModel", name := "at", desc := "(II)I" } : Jvm.MethodName)) ∈ wt_L := wt_at 827 (by decide +kernel) (by decide +kernel)
theorem ww_828 : (Jvm.Cond.code ({ cls := "SupplyGridModel", name := "at", desc := "(II)I" } : Jvm.MethodName) prog_9_method_7_code (2 : Nat) (Option.some Jvm.ClassFile.FieldType.int)) ∈ wt_L := wt_at 828 (by decide +kernel) (by decide +kernel)
theorem ww_829 : (Jvm.Cond.methodLink "SupplyGridModel" (109 : Nat) ({ cls := "SupplyGridModel", name := "endAsking", desc := "(I)V" } : Jvm.MethodName)) ∈ wt_L := wt_at 829 (by decide +kernel) (by decide +kernel)
theorem ww_831 : (Jvm.Cond.instanceMethod ({ cls := "SupplyGridModel", name := "endAsking", desc := "(I)V" } : Jvm.MethodName)) ∈ wt_L := wt_at 831 (by decide +kernel) (by decide +kernel)
theorem ww_832 : (Jvm.Cond.code ({ cls := "SupplyGridModel", name := "endAsking", desc := "(I)V" } : Jvm.MethodName) prog_9_method_11_code (2 : Nat) (Option.none : Option Jvm.ClassFile.FieldType)) ∈ wt_L := wt_at 832 (by decide +kernel) (by decide +kernel)
theorem ww_833 : (Jvm.Cond.methodLink "SupplyGridModel" (121 : Nat) ({ cls := "SupplyGridModel", name := "round", desc := "(II)I" } : Jvm.MethodName)) ∈ wt_L := wt_at 833 (by decide +kernel) (by decide +kernel)
theorem ww_835 : (Jvm.Cond.instanceMethod ({ cls := "SupplyGridModel", name := "round", desc := "(II)I" } : Jvm.MethodName)) ∈ wt_L := wt_at 835 (by decide +kernel) (by decide +kernel)
theorem ww_836 : (Jvm.Cond.code ({ cls := "SupplyGridModel", name := "round", desc := "(II)I" } : Jvm.MethodName) prog_9_method_13_code (7 : Nat) (Option.some Jvm.ClassFile.FieldType.int)) ∈ wt_L := wt_at 836 (by decide +kernel) (by decide +kernel)
theorem ww_837 : (Jvm.Cond.methodLink "SupplyGridModel" (113 : Nat) ({ cls := "SupplyGridModel", name := "send", desc := "(IIIIIIIII)V" } : Jvm.MethodName)) ∈ wt_L := wt_at 837 (by decide +kernel) (by decide +kernel)
theorem ww_839 : (Jvm.Cond.instanceMethod ({ cls := "SupplyGridModel", name := "send", desc := "(IIIIIIIII)V" } : Jvm.MethodName)) ∈ wt_L := wt_at 839 (by decide +kernel) (by decide +kernel)
theorem ww_840 : (Jvm.Cond.code ({ cls := "SupplyGridModel", name := "send", desc := "(IIIIIIIII)V" } : Jvm.MethodName) prog_9_method_9_code (13 : Nat) (Option.none : Option Jvm.ClassFile.FieldType)) ∈ wt_L := wt_at 840 (by decide +kernel) (by decide +kernel)
theorem ww_841 : (Jvm.Cond.methodLink "SupplyGridLaw" (84 : Nat) ({ cls := "SupplyGridModel", name := "retry", desc := "(II)I" } : Jvm.MethodName)) ∈ wt_L := wt_at 841 (by decide +kernel) (by decide +kernel)
theorem ww_842 : (Jvm.Cond.instanceMethod ({ cls := "SupplyGridModel", name := "retry", desc := "(II)I" } : Jvm.MethodName)) ∈ wt_L := wt_at 842 (by decide +kernel) (by decide +kernel)
theorem ww_843 : (Jvm.Cond.selects "SupplyGridModel" ({ cls := "SupplyGridModel", name := "retry", desc := "(II)I" } : Jvm.MethodName) ({ cls := "SupplyGridModel", name := "retry", desc := "(II)I" } : Jvm.MethodName)) ∈ wt_L := wt_at 843 (by decide +kernel) (by decide +kernel)
theorem ww_844 : (Jvm.Cond.code ({ cls := "SupplyGridModel", name := "retry", desc := "(II)I" } : Jvm.MethodName) prog_9_method_15_code (3 : Nat) (Option.some Jvm.ClassFile.FieldType.int)) ∈ wt_L := wt_at 844 (by decide +kernel) (by decide +kernel)
theorem ww_845 : (Jvm.Cond.methodLink "SupplyGridLaw" (88 : Nat) ({ cls := "SupplyGridModel", name := "deliver", desc := "(I)I" } : Jvm.MethodName)) ∈ wt_L := wt_at 845 (by decide +kernel) (by decide +kernel)
theorem ww_846 : (Jvm.Cond.instanceMethod ({ cls := "SupplyGridModel", name := "deliver", desc := "(I)I" } : Jvm.MethodName)) ∈ wt_L := wt_at 846 (by decide +kernel) (by decide +kernel)
theorem ww_847 : (Jvm.Cond.selects "SupplyGridModel" ({ cls := "SupplyGridModel", name := "deliver", desc := "(I)I" } : Jvm.MethodName) ({ cls := "SupplyGridModel", name := "deliver", desc := "(I)I" } : Jvm.MethodName)) ∈ wt_L := wt_at 847 (by decide +kernel) (by decide +kernel)
theorem ww_848 : (Jvm.Cond.code ({ cls := "SupplyGridModel", name := "deliver", desc := "(I)I" } : Jvm.MethodName) prog_9_method_22_code (2 : Nat) (Option.some Jvm.ClassFile.FieldType.int)) ∈ wt_L := wt_at 848 (by decide +kernel) (by decide +kernel)
theorem ww_849 : (Jvm.Cond.methodLink "SupplyGridModel" (150 : Nat) ({ cls := "SupplyGridModel", name := "handOver", desc := "(I)I" } : Jvm.MethodName)) ∈ wt_L := wt_at 849 (by decide +kernel) (by decide +kernel)
theorem ww_851 : (Jvm.Cond.instanceMethod ({ cls := "SupplyGridModel", name := "handOver", desc := "(I)I" } : Jvm.MethodName)) ∈ wt_L := wt_at 851 (by decide +kernel) (by decide +kernel)
theorem ww_852 : (Jvm.Cond.code ({ cls := "SupplyGridModel", name := "handOver", desc := "(I)I" } : Jvm.MethodName) prog_9_method_21_code (3 : Nat) (Option.some Jvm.ClassFile.FieldType.int)) ∈ wt_L := wt_at 852 (by decide +kernel) (by decide +kernel)
theorem ww_853 : (Jvm.Cond.methodLink "SupplyGridModel" (141 : Nat) ({ cls := "SupplyGridModel", name := "take", desc := "(I)V" } : Jvm.MethodName)) ∈ wt_L := wt_at 853 (by decide +kernel) (by decide +kernel)
theorem ww_855 : (Jvm.Cond.instanceMethod ({ cls := "SupplyGridModel", name := "take", desc := "(I)V" } : Jvm.MethodName)) ∈ wt_L := wt_at 855 (by decide +kernel) (by decide +kernel)
theorem ww_856 : (Jvm.Cond.code ({ cls := "SupplyGridModel", name := "take", desc := "(I)V" } : Jvm.MethodName) prog_9_method_10_code (3 : Nat) (Option.none : Option Jvm.ClassFile.FieldType)) ∈ wt_L := wt_at 856 (by decide +kernel) (by decide +kernel)
theorem ww_857 : (Jvm.Cond.methodLink "SupplyGridModel" (147 : Nat) ({ cls := "SupplyGridModel", name := "comes", desc := "()V" } : Jvm.MethodName)) ∈ wt_L := wt_at 857 (by decide +kernel) (by decide +kernel)
theorem ww_859 : (Jvm.Cond.instanceMethod ({ cls := "SupplyGridModel", name := "comes", desc := "()V" } : Jvm.MethodName)) ∈ wt_L := wt_at 859 (by decide +kernel) (by decide +kernel)
theorem ww_860 : (Jvm.Cond.code ({ cls := "SupplyGridModel", name := "comes", desc := "()V" } : Jvm.MethodName) prog_9_method_18_code (8 : Nat) (Option.none : Option Jvm.ClassFile.FieldType)) ∈ wt_L := wt_at 860 (by decide +kernel) (by decide +kernel)
theorem ww_861 : (Jvm.Cond.methodLink "SupplyGridModel" (124 : Nat) ({ cls := "SupplyGridModel", name := "learn", desc := "(III)V" } : Jvm.MethodName)) ∈ wt_L := wt_at 861 (by decide +kernel) (by decide +kernel)
theorem ww_863 : (Jvm.Cond.instanceMethod ({ cls := "SupplyGridModel", name := "learn", desc := "(III)V" } : Jvm.MethodName)) ∈ wt_L := wt_at 863 (by decide +kernel) (by decide +kernel)
theorem ww_864 : (Jvm.Cond.code ({ cls := "SupplyGridModel", name := "learn", desc := "(III)V" } : Jvm.MethodName) prog_9_method_12_code (4 : Nat) (Option.none : Option Jvm.ClassFile.FieldType)) ∈ wt_L := wt_at 864 (by decide +kernel) (by decide +kernel)
theorem ww_865 : (Jvm.Cond.methodLink "SupplyGridModel" (128 : Nat) ({ cls := "SupplyGridModel", name := "answers", desc := "(IZIIIII)V" } : Jvm.MethodName)) ∈ wt_L := wt_at 865 (by decide +kernel) (by decide +kernel)
theorem ww_867 : (Jvm.Cond.instanceMethod ({ cls := "SupplyGridModel", name := "answers", desc := "(IZIIIII)V" } : Jvm.MethodName)) ∈ wt_L := wt_at 867 (by decide +kernel) (by decide +kernel)
theorem ww_868 : (Jvm.Cond.code ({ cls := "SupplyGridModel", name := "answers", desc := "(IZIIIII)V" } : Jvm.MethodName) prog_9_method_19_code (9 : Nat) (Option.none : Option Jvm.ClassFile.FieldType)) ∈ wt_L := wt_at 868 (by decide +kernel) (by decide +kernel)
theorem ww_869 : (Jvm.Cond.methodLink "SupplyGridModel" (131 : Nat) ({ cls := "SupplyGridModel", name := "promisedBy", desc := "(IIIII)V" } : Jvm.MethodName)) ∈ wt_L := wt_at 869 (by decide +kernel) (by decide +kernel)
theorem ww_871 : (Jvm.Cond.instanceMethod ({ cls := "SupplyGridModel", name := "promisedBy", desc := "(IIIII)V" } : Jvm.MethodName)) ∈ wt_L := wt_at 871 (by decide +kernel) (by decide +kernel)
theorem ww_872 : (Jvm.Cond.code ({ cls := "SupplyGridModel", name := "promisedBy", desc := "(IIIII)V" } : Jvm.MethodName) prog_9_method_20_code (7 : Nat) (Option.none : Option Jvm.ClassFile.FieldType)) ∈ wt_L := wt_at 872 (by decide +kernel) (by decide +kernel)
theorem ww_873 : (Jvm.Cond.methodLink "SupplyGridModel" (138 : Nat) ({ cls := "SupplyGridModel", name := "hasEachColumn", desc := "(I)Z" } : Jvm.MethodName)) ∈ wt_L := wt_at 873 (by decide +kernel) (by decide +kernel)
theorem ww_875 : (Jvm.Cond.instanceMethod ({ cls := "SupplyGridModel", name := "hasEachColumn", desc := "(I)Z" } : Jvm.MethodName)) ∈ wt_L := wt_at 875 (by decide +kernel) (by decide +kernel)
theorem ww_876 : (Jvm.Cond.code ({ cls := "SupplyGridModel", name := "hasEachColumn", desc := "(I)Z" } : Jvm.MethodName) prog_9_method_16_code (5 : Nat) (Option.some Jvm.ClassFile.FieldType.boolean)) ∈ wt_L := wt_at 876 (by decide +kernel) (by decide +kernel)
theorem ww_877 : (Jvm.Cond.methodLink "SupplyGridModel" (135 : Nat) ({ cls := "SupplyGridModel", name := "hasWholeColumn", desc := "(I)Z" } : Jvm.MethodName)) ∈ wt_L := wt_at 877 (by decide +kernel) (by decide +kernel)
theorem ww_879 : (Jvm.Cond.instanceMethod ({ cls := "SupplyGridModel", name := "hasWholeColumn", desc := "(I)Z" } : Jvm.MethodName)) ∈ wt_L := wt_at 879 (by decide +kernel) (by decide +kernel)
theorem ww_880 : (Jvm.Cond.code ({ cls := "SupplyGridModel", name := "hasWholeColumn", desc := "(I)Z" } : Jvm.MethodName) prog_9_method_17_code (5 : Nat) (Option.some Jvm.ClassFile.FieldType.boolean)) ∈ wt_L := wt_at 880 (by decide +kernel) (by decide +kernel)
theorem ww_881 : (Jvm.Cond.methodLink "SupplyGridLaw" (91 : Nat) ({ cls := "SupplyGridModel", name := "drop", desc := "(I)I" } : Jvm.MethodName)) ∈ wt_L := wt_at 881 (by decide +kernel) (by decide +kernel)
theorem ww_882 : (Jvm.Cond.instanceMethod ({ cls := "SupplyGridModel", name := "drop", desc := "(I)I" } : Jvm.MethodName)) ∈ wt_L := wt_at 882 (by decide +kernel) (by decide +kernel)
theorem ww_883 : (Jvm.Cond.selects "SupplyGridModel" ({ cls := "SupplyGridModel", name := "drop", desc := "(I)I" } : Jvm.MethodName) ({ cls := "SupplyGridModel", name := "drop", desc := "(I)I" } : Jvm.MethodName)) ∈ wt_L := wt_at 883 (by decide +kernel) (by decide +kernel)
theorem ww_884 : (Jvm.Cond.code ({ cls := "SupplyGridModel", name := "drop", desc := "(I)I" } : Jvm.MethodName) prog_9_method_23_code (2 : Nat) (Option.some Jvm.ClassFile.FieldType.int)) ∈ wt_L := wt_at 884 (by decide +kernel) (by decide +kernel)
theorem ww_885 : (Jvm.Cond.methodLink "SupplyGridLaw" (94 : Nat) ({ cls := "SupplyGridModel", name := "copy", desc := "(I)Z" } : Jvm.MethodName)) ∈ wt_L := wt_at 885 (by decide +kernel) (by decide +kernel)
theorem ww_886 : (Jvm.Cond.instanceMethod ({ cls := "SupplyGridModel", name := "copy", desc := "(I)Z" } : Jvm.MethodName)) ∈ wt_L := wt_at 886 (by decide +kernel) (by decide +kernel)
theorem ww_887 : (Jvm.Cond.selects "SupplyGridModel" ({ cls := "SupplyGridModel", name := "copy", desc := "(I)Z" } : Jvm.MethodName) ({ cls := "SupplyGridModel", name := "copy", desc := "(I)Z" } : Jvm.MethodName)) ∈ wt_L := wt_at 887 (by decide +kernel) (by decide +kernel)
theorem ww_888 : (Jvm.Cond.code ({ cls := "SupplyGridModel", name := "copy", desc := "(I)Z" } : Jvm.MethodName) prog_9_method_24_code (3 : Nat) (Option.some Jvm.ClassFile.FieldType.boolean)) ∈ wt_L := wt_at 888 (by decide +kernel) (by decide +kernel)
theorem ww_889 : (Jvm.Cond.methodLink "SupplyGridLaw" (97 : Nat) ({ cls := "SupplyGridModel", name := "deliverAll", desc := "(I)I" } : Jvm.MethodName)) ∈ wt_L := wt_at 889 (by decide +kernel) (by decide +kernel)
theorem ww_890 : (Jvm.Cond.instanceMethod ({ cls := "SupplyGridModel", name := "deliverAll", desc := "(I)I" } : Jvm.MethodName)) ∈ wt_L := wt_at 890 (by decide +kernel) (by decide +kernel)
theorem ww_891 : (Jvm.Cond.selects "SupplyGridModel" ({ cls := "SupplyGridModel", name := "deliverAll", desc := "(I)I" } : Jvm.MethodName) ({ cls := "SupplyGridModel", name := "deliverAll", desc := "(I)I" } : Jvm.MethodName)) ∈ wt_L := wt_at 891 (by decide +kernel) (by decide +kernel)
theorem ww_892 : (Jvm.Cond.code ({ cls := "SupplyGridModel", name := "deliverAll", desc := "(I)I" } : Jvm.MethodName) prog_9_method_25_code (3 : Nat) (Option.some Jvm.ClassFile.FieldType.int)) ∈ wt_L := wt_at 892 (by decide +kernel) (by decide +kernel)
theorem ww_893 : (Jvm.Cond.methodLink "SupplyGridLaw" (101 : Nat) ({ cls := "SupplyGridModel", name := "up", desc := "(IZ)Z" } : Jvm.MethodName)) ∈ wt_L := wt_at 893 (by decide +kernel) (by decide +kernel)
theorem ww_894 : (Jvm.Cond.instanceMethod ({ cls := "SupplyGridModel", name := "up", desc := "(IZ)Z" } : Jvm.MethodName)) ∈ wt_L := wt_at 894 (by decide +kernel) (by decide +kernel)
theorem ww_895 : (Jvm.Cond.selects "SupplyGridModel" ({ cls := "SupplyGridModel", name := "up", desc := "(IZ)Z" } : Jvm.MethodName) ({ cls := "SupplyGridModel", name := "up", desc := "(IZ)Z" } : Jvm.MethodName)) ∈ wt_L := wt_at 895 (by decide +kernel) (by decide +kernel)
theorem ww_896 : (Jvm.Cond.code ({ cls := "SupplyGridModel", name := "up", desc := "(IZ)Z" } : Jvm.MethodName) prog_9_method_26_code (5 : Nat) (Option.some Jvm.ClassFile.FieldType.boolean)) ∈ wt_L := wt_at 896 (by decide +kernel) (by decide +kernel)
theorem ww_897 : (Jvm.Cond.methodLink "SupplyGridLaw" (104 : Nat) ({ cls := "SupplyGridModel", name := "teach", desc := "(III)Z" } : Jvm.MethodName)) ∈ wt_L := wt_at 897 (by decide +kernel) (by decide +kernel)
theorem ww_898 : (Jvm.Cond.instanceMethod ({ cls := "SupplyGridModel", name := "teach", desc := "(III)Z" } : Jvm.MethodName)) ∈ wt_L := wt_at 898 (by decide +kernel) (by decide +kernel)
theorem ww_899 : (Jvm.Cond.selects "SupplyGridModel" ({ cls := "SupplyGridModel", name := "teach", desc := "(III)Z" } : Jvm.MethodName) ({ cls := "SupplyGridModel", name := "teach", desc := "(III)Z" } : Jvm.MethodName)) ∈ wt_L := wt_at 899 (by decide +kernel) (by decide +kernel)
theorem ww_900 : (Jvm.Cond.code ({ cls := "SupplyGridModel", name := "teach", desc := "(III)Z" } : Jvm.MethodName) prog_9_method_27_code (5 : Nat) (Option.some Jvm.ClassFile.FieldType.boolean)) ∈ wt_L := wt_at 900 (by decide +kernel) (by decide +kernel)
theorem ww_901 : (Jvm.Cond.methodLink "SupplyGridLaw" (108 : Nat) ({ cls := "SupplyGridModel", name := "pool", desc := "()I" } : Jvm.MethodName)) ∈ wt_L := wt_at 901 (by decide +kernel) (by decide +kernel)
theorem ww_902 : (Jvm.Cond.instanceMethod ({ cls := "SupplyGridModel", name := "pool", desc := "()I" } : Jvm.MethodName)) ∈ wt_L := wt_at 902 (by decide +kernel) (by decide +kernel)
theorem ww_903 : (Jvm.Cond.selects "SupplyGridModel" ({ cls := "SupplyGridModel", name := "pool", desc := "()I" } : Jvm.MethodName) ({ cls := "SupplyGridModel", name := "pool", desc := "()I" } : Jvm.MethodName)) ∈ wt_L := wt_at 903 (by decide +kernel) (by decide +kernel)
theorem ww_904 : (Jvm.Cond.code ({ cls := "SupplyGridModel", name := "pool", desc := "()I" } : Jvm.MethodName) prog_9_method_28_code (1 : Nat) (Option.some Jvm.ClassFile.FieldType.int)) ∈ wt_L := wt_at 904 (by decide +kernel) (by decide +kernel)
theorem ww_905 : (Jvm.Cond.methodLink "SupplyGridLaw" (111 : Nat) ({ cls := "SupplyGridModel", name := "letter", desc := "(II)I" } : Jvm.MethodName)) ∈ wt_L := wt_at 905 (by decide +kernel) (by decide +kernel)
theorem ww_906 : (Jvm.Cond.instanceMethod ({ cls := "SupplyGridModel", name := "letter", desc := "(II)I" } : Jvm.MethodName)) ∈ wt_L := wt_at 906 (by decide +kernel) (by decide +kernel)
theorem ww_907 : (Jvm.Cond.selects "SupplyGridModel" ({ cls := "SupplyGridModel", name := "letter", desc := "(II)I" } : Jvm.MethodName) ({ cls := "SupplyGridModel", name := "letter", desc := "(II)I" } : Jvm.MethodName)) ∈ wt_L := wt_at 907 (by decide +kernel) (by decide +kernel)
theorem ww_908 : (Jvm.Cond.code ({ cls := "SupplyGridModel", name := "letter", desc := "(II)I" } : Jvm.MethodName) prog_9_method_29_code (3 : Nat) (Option.some Jvm.ClassFile.FieldType.int)) ∈ wt_L := wt_at 908 (by decide +kernel) (by decide +kernel)
theorem ww_909 : (Jvm.Cond.methodLink "SupplyGridLaw" (114 : Nat) ({ cls := "SupplyGridModel", name := "state", desc := "(II)I" } : Jvm.MethodName)) ∈ wt_L := wt_at 909 (by decide +kernel) (by decide +kernel)
theorem ww_910 : (Jvm.Cond.instanceMethod ({ cls := "SupplyGridModel", name := "state", desc := "(II)I" } : Jvm.MethodName)) ∈ wt_L := wt_at 910 (by decide +kernel) (by decide +kernel)
theorem ww_911 : (Jvm.Cond.selects "SupplyGridModel" ({ cls := "SupplyGridModel", name := "state", desc := "(II)I" } : Jvm.MethodName) ({ cls := "SupplyGridModel", name := "state", desc := "(II)I" } : Jvm.MethodName)) ∈ wt_L := wt_at 911 (by decide +kernel) (by decide +kernel)
theorem ww_912 : (Jvm.Cond.code ({ cls := "SupplyGridModel", name := "state", desc := "(II)I" } : Jvm.MethodName) prog_9_method_30_code (4 : Nat) (Option.some Jvm.ClassFile.FieldType.int)) ∈ wt_L := wt_at 912 (by decide +kernel) (by decide +kernel)
theorem ww_913 : (Jvm.Cond.methodLink "SupplyGridLaw" (118 : Nat) ({ cls := "SupplyGridModel", name := "granted", desc := "(IIIZ)I" } : Jvm.MethodName)) ∈ wt_L := wt_at 913 (by decide +kernel) (by decide +kernel)
theorem ww_914 : (Jvm.Cond.instanceMethod ({ cls := "SupplyGridModel", name := "granted", desc := "(IIIZ)I" } : Jvm.MethodName)) ∈ wt_L := wt_at 914 (by decide +kernel) (by decide +kernel)
theorem ww_915 : (Jvm.Cond.selects "SupplyGridModel" ({ cls := "SupplyGridModel", name := "granted", desc := "(IIIZ)I" } : Jvm.MethodName) ({ cls := "SupplyGridModel", name := "granted", desc := "(IIIZ)I" } : Jvm.MethodName)) ∈ wt_L := wt_at 915 (by decide +kernel) (by decide +kernel)
theorem ww_916 : (Jvm.Cond.code ({ cls := "SupplyGridModel", name := "granted", desc := "(IIIZ)I" } : Jvm.MethodName) prog_9_method_31_code (6 : Nat) (Option.some Jvm.ClassFile.FieldType.int)) ∈ wt_L := wt_at 916 (by decide +kernel) (by decide +kernel)
theorem ww_917 : (Jvm.Cond.methodLink "SupplyGridLaw" (121 : Nat) ({ cls := "SupplyGridModel", name := "kept", desc := "(III)I" } : Jvm.MethodName)) ∈ wt_L := wt_at 917 (by decide +kernel) (by decide +kernel)
theorem ww_918 : (Jvm.Cond.instanceMethod ({ cls := "SupplyGridModel", name := "kept", desc := "(III)I" } : Jvm.MethodName)) ∈ wt_L := wt_at 918 (by decide +kernel) (by decide +kernel)
theorem ww_919 : (Jvm.Cond.selects "SupplyGridModel" ({ cls := "SupplyGridModel", name := "kept", desc := "(III)I" } : Jvm.MethodName) ({ cls := "SupplyGridModel", name := "kept", desc := "(III)I" } : Jvm.MethodName)) ∈ wt_L := wt_at 919 (by decide +kernel) (by decide +kernel)
theorem ww_920 : (Jvm.Cond.code ({ cls := "SupplyGridModel", name := "kept", desc := "(III)I" } : Jvm.MethodName) prog_9_method_32_code (7 : Nat) (Option.some Jvm.ClassFile.FieldType.int)) ∈ wt_L := wt_at 920 (by decide +kernel) (by decide +kernel)
theorem ww_921 : (Jvm.Cond.methodLink "SupplyGridLaw" (125 : Nat) ({ cls := "SupplyGridModel", name := "live", desc := "()I" } : Jvm.MethodName)) ∈ wt_L := wt_at 921 (by decide +kernel) (by decide +kernel)
theorem ww_922 : (Jvm.Cond.instanceMethod ({ cls := "SupplyGridModel", name := "live", desc := "()I" } : Jvm.MethodName)) ∈ wt_L := wt_at 922 (by decide +kernel) (by decide +kernel)
theorem ww_923 : (Jvm.Cond.selects "SupplyGridModel" ({ cls := "SupplyGridModel", name := "live", desc := "()I" } : Jvm.MethodName) ({ cls := "SupplyGridModel", name := "live", desc := "()I" } : Jvm.MethodName)) ∈ wt_L := wt_at 923 (by decide +kernel) (by decide +kernel)
theorem ww_924 : (Jvm.Cond.code ({ cls := "SupplyGridModel", name := "live", desc := "()I" } : Jvm.MethodName) prog_9_method_33_code (3 : Nat) (Option.some Jvm.ClassFile.FieldType.int)) ∈ wt_L := wt_at 924 (by decide +kernel) (by decide +kernel)
theorem ww_925 : (Jvm.Cond.methodLink "SupplyGridLaw" (128 : Nat) ({ cls := "SupplyGridModel", name := "total", desc := "(I)I" } : Jvm.MethodName)) ∈ wt_L := wt_at 925 (by decide +kernel) (by decide +kernel)
theorem ww_926 : (Jvm.Cond.instanceMethod ({ cls := "SupplyGridModel", name := "total", desc := "(I)I" } : Jvm.MethodName)) ∈ wt_L := wt_at 926 (by decide +kernel) (by decide +kernel)
theorem ww_927 : (Jvm.Cond.selects "SupplyGridModel" ({ cls := "SupplyGridModel", name := "total", desc := "(I)I" } : Jvm.MethodName) ({ cls := "SupplyGridModel", name := "total", desc := "(I)I" } : Jvm.MethodName)) ∈ wt_L := wt_at 927 (by decide +kernel) (by decide +kernel)
theorem ww_928 : (Jvm.Cond.code ({ cls := "SupplyGridModel", name := "total", desc := "(I)I" } : Jvm.MethodName) prog_9_method_34_code (2 : Nat) (Option.some Jvm.ClassFile.FieldType.int)) ∈ wt_L := wt_at 928 (by decide +kernel) (by decide +kernel)
theorem ww_929 : (Jvm.Cond.arrayClass Jvm.ClassFile.FieldType.long) ∈ wt_L := wt_at 929 (by decide +kernel) (by decide +kernel)
theorem ww_930 : (Jvm.Cond.sameMethod "java/lang/Throwable" "java/lang/Throwable" "fillInStackTrace" "(I)Ljava/lang/Throwable;") ∈ wt_L := wt_at 930 (by decide +kernel) (by decide +kernel)
end
section
/-- a final field, written in a constructor of its class -/
def mp_FF (cl : List vw_C) (WT : List Cond) (own : String) (index ci k : Nat) (ty : FieldType) : Prop :=
  ∃ (C : String) (T : u_T) (N : Nat) (ty0 : Nat → FieldType), cl[ci]? = some (C, T, N) ∧ k < N ∧ (∀ w ∈ u_ws C T N, w ∈ WT) ∧ Cond.fieldLink own index (T k).1 (T k).2.1 (T k).2.2.1 ∈ WT ∧
    (∀ j, j < N → parseFieldDescriptor (T j).2.2.1 = some (ty0 j)) ∧ (∀ a, a < N → ∀ b, b < N → a ≠ b → (T a).2.1 ≠ (T b).2.1) ∧ ty0 k = ty ∧ (T k).2.2.2 = true ∧ (T k).1 = own
theorem mp_putFF {p : Program} {l : Launch} {e : Env} {R : Room} {s : State} {m : MethodId} {args : Array Value} {below : List Frame} {meth : Method} {c : Code} {H : Heap} {locs : List Loc} {cells slots : Nat} {Q : State → Prop} {cc : ByteArray} {nL pc : Nat} {ls : Array Slot} {rest : List Value} {WT : List Cond} {D : va_G} {cl : List vw_C} {base : Nat} {σ : mp_M} {a : Nat} {tys : List (ClassId × FieldType)} {H0 : Heap} {own : String}
    (x : mp_X WT D cl tys p s m args c cc nL own) (hin2 : meth.name = "<init>") (hH : mp_H D cl base σ H) (hS0 : va_S (mp_A base) H0 H locs) {index ci k : Nat} {fs : List Value} (hs : σ a = some (.inr (ci, fs))) {ty : FieldType} (fl : mp_FF cl WT own index ci k ty) {v : Value} (hn : narrow ty v = v) (hfit : fits ty v = true) (hlen : k < fs.length) (hdg : decode cc pc = .ok (.putfield index, 3))
    (kk : ∀ (H1 : Heap) (locs1 : List Loc), mp_H D cl base (mp_up σ a (.inr (ci, fs.set k v))) H1 → va_S (mp_A base) H0 H1 locs1 → W p l e R s m args below meth c H1 locs1 cells slots Q (F0 m (pc + 3) ls rest)) : W p l e R s m args below meth c H locs cells slots Q (F0 m pc ls (v :: .ref a :: rest)) := by
  obtain ⟨C, T, N, ty0, hc, hk, hin, hl, hty, hnm, hd, hfin, hdecl⟩ := fl
  exact mp_putF x hin2 hH hS0 hs hc hk hin hl hty hnm hfin hdecl (by rw [hd]; exact hn) (by rw [hd]; exact hfit) hlen hdg kk
/-! NAMES: classes, fields, methods, what an instruction names (printed by gen/parts.py). -/
def cn_ak : String := "SupplyGrid$Asking"
def ct_ak : u_T := fun k => match k with
  | 0 => ("SupplyGrid$Asking", "supply", "I", false)
  | 1 => ("SupplyGrid$Asking", "pair", "I", false)
  | 2 => ("SupplyGrid$Asking", "number", "I", false)
  | 3 => ("SupplyGrid$Asking", "phase", "I", false)
  | 4 => ("SupplyGrid$Asking", "answers", "I", false)
  | 5 => ("SupplyGrid$Asking", "refusedFor", "I", false)
  | 6 => ("SupplyGrid$Asking", "greatestAccepted", "I", false)
  | _ => ("SupplyGrid$Asking", "greatestPair", "I", false)
def cf_ak : Nat → FieldType := fun k => match k with
  | 0 => .int
  | 1 => .int
  | 2 => .int
  | 3 => .int
  | 4 => .int
  | 5 => .int
  | 6 => .int
  | _ => .int
theorem cm_ak : ∀ a, a < 8 → ∀ b, b < 8 → a ≠ b → (ct_ak a).2.1 ≠ (ct_ak b).2.1 := by decide +kernel
theorem co_ak : ∀ k, k < 8 → parseFieldDescriptor (ct_ak k).2.2.1 = some (cf_ak k) := by decide +kernel
theorem ci_ak : ∀ w ∈ u_ws cn_ak ct_ak 8, w ∈ wt_L := List.forall_mem_cons.mpr ⟨ww_133, List.forall_mem_cons.mpr ⟨ww_135, List.forall_mem_cons.mpr ⟨ww_137, List.forall_mem_cons.mpr ⟨ww_139, List.forall_mem_cons.mpr ⟨ww_141, List.forall_mem_cons.mpr ⟨ww_143, List.forall_mem_cons.mpr ⟨ww_145, List.forall_mem_cons.mpr ⟨ww_147, fun _ h => absurd h List.not_mem_nil⟩⟩⟩⟩⟩⟩⟩⟩
def cn_dk : String := "SupplyGrid$Desk"
def ct_dk : u_T := fun k => match k with
  | 0 => ("SupplyGrid$Desk", "shop", "I", true)
  | 1 => ("SupplyGrid$Desk", "prescription", "I", true)
  | 2 => ("SupplyGrid$Desk", "known", "LSupplyGrid$Pairs;", true)
  | 3 => ("SupplyGrid$Desk", "asking", "LSupplyGrid$Asking;", true)
  | 4 => ("SupplyGrid$Desk", "promised", "I", false)
  | 5 => ("SupplyGrid$Desk", "accepted", "I", false)
  | 6 => ("SupplyGrid$Desk", "acceptedPair", "I", false)
  | _ => ("SupplyGrid$Desk", "greatestAsked", "I", false)
def cf_dk : Nat → FieldType := fun k => match k with
  | 0 => .int
  | 1 => .int
  | 2 => .object "SupplyGrid$Pairs"
  | 3 => .object "SupplyGrid$Asking"
  | 4 => .int
  | 5 => .int
  | 6 => .int
  | _ => .int
theorem cm_dk : ∀ a, a < 8 → ∀ b, b < 8 → a ≠ b → (ct_dk a).2.1 ≠ (ct_dk b).2.1 := by decide +kernel
theorem co_dk : ∀ k, k < 8 → parseFieldDescriptor (ct_dk k).2.2.1 = some (cf_dk k) := by decide +kernel
theorem ci_dk : ∀ w ∈ u_ws cn_dk ct_dk 8, w ∈ wt_L := List.forall_mem_cons.mpr ⟨ww_167, List.forall_mem_cons.mpr ⟨ww_169, List.forall_mem_cons.mpr ⟨ww_171, List.forall_mem_cons.mpr ⟨ww_173, List.forall_mem_cons.mpr ⟨ww_175, List.forall_mem_cons.mpr ⟨ww_177, List.forall_mem_cons.mpr ⟨ww_179, List.forall_mem_cons.mpr ⟨ww_181, fun _ h => absurd h List.not_mem_nil⟩⟩⟩⟩⟩⟩⟩⟩
def cn_lt : String := "SupplyGrid$Letter"
def ct_lt : u_T := fun k => match k with
  | 0 => ("SupplyGrid$Letter", "known", "LSupplyGrid$Pairs;", true)
  | 1 => ("SupplyGrid$Letter", "kind", "I", false)
  | 2 => ("SupplyGrid$Letter", "from", "I", false)
  | 3 => ("SupplyGrid$Letter", "to", "I", false)
  | 4 => ("SupplyGrid$Letter", "prescription", "I", false)
  | 5 => ("SupplyGrid$Letter", "supply", "I", false)
  | 6 => ("SupplyGrid$Letter", "number", "I", false)
  | 7 => ("SupplyGrid$Letter", "told", "I", false)
  | _ => ("SupplyGrid$Letter", "pair", "I", false)
def cf_lt : Nat → FieldType := fun k => match k with
  | 0 => .object "SupplyGrid$Pairs"
  | 1 => .int
  | 2 => .int
  | 3 => .int
  | 4 => .int
  | 5 => .int
  | 6 => .int
  | 7 => .int
  | _ => .int
theorem cm_lt : ∀ a, a < 9 → ∀ b, b < 9 → a ≠ b → (ct_lt a).2.1 ≠ (ct_lt b).2.1 := by decide +kernel
theorem co_lt : ∀ k, k < 9 → parseFieldDescriptor (ct_lt k).2.2.1 = some (cf_lt k) := by decide +kernel
theorem ci_lt : ∀ w ∈ u_ws cn_lt ct_lt 9, w ∈ wt_L := List.forall_mem_cons.mpr ⟨ww_223, List.forall_mem_cons.mpr ⟨ww_225, List.forall_mem_cons.mpr ⟨ww_227, List.forall_mem_cons.mpr ⟨ww_229, List.forall_mem_cons.mpr ⟨ww_231, List.forall_mem_cons.mpr ⟨ww_233, List.forall_mem_cons.mpr ⟨ww_235, List.forall_mem_cons.mpr ⟨ww_237, List.forall_mem_cons.mpr ⟨ww_239, fun _ h => absurd h List.not_mem_nil⟩⟩⟩⟩⟩⟩⟩⟩⟩
def cn_lr : String := "SupplyGrid$LetterRow"
def ct_lr : u_T := fun k => match k with
  | 0 => ("SupplyGrid$LetterRow", "places", "[LSupplyGrid$Letter;", true)
  | 1 => ("SupplyGrid$LetterRow", "draft", "LSupplyGrid$Letter;", true)
  | 2 => ("SupplyGrid$LetterRow", "taken", "LSupplyGrid$Letter;", false)
  | 3 => ("SupplyGrid$LetterRow", "first", "I", false)
  | 4 => ("SupplyGrid$LetterRow", "size", "I", false)
  | 5 => ("SupplyGrid$LetterRow", "lostWithoutRoom", "I", false)
  | 6 => ("SupplyGrid$LetterRow", "lostAtDownShops", "I", false)
  | _ => ("SupplyGrid$LetterRow", "sent", "I", false)
def cf_lr : Nat → FieldType := fun k => match k with
  | 0 => .array (.object "SupplyGrid$Letter")
  | 1 => .object "SupplyGrid$Letter"
  | 2 => .object "SupplyGrid$Letter"
  | 3 => .int
  | 4 => .int
  | 5 => .int
  | 6 => .int
  | _ => .int
theorem cm_lr : ∀ a, a < 8 → ∀ b, b < 8 → a ≠ b → (ct_lr a).2.1 ≠ (ct_lr b).2.1 := by decide +kernel
theorem co_lr : ∀ k, k < 8 → parseFieldDescriptor (ct_lr k).2.2.1 = some (cf_lr k) := by decide +kernel
theorem ci_lr : ∀ w ∈ u_ws cn_lr ct_lr 8, w ∈ wt_L := List.forall_mem_cons.mpr ⟨ww_254, List.forall_mem_cons.mpr ⟨ww_256, List.forall_mem_cons.mpr ⟨ww_258, List.forall_mem_cons.mpr ⟨ww_260, List.forall_mem_cons.mpr ⟨ww_262, List.forall_mem_cons.mpr ⟨ww_264, List.forall_mem_cons.mpr ⟨ww_266, List.forall_mem_cons.mpr ⟨ww_268, fun _ h => absurd h List.not_mem_nil⟩⟩⟩⟩⟩⟩⟩⟩
def cn_pr : String := "SupplyGrid$Pairs"
def ct_pr : u_T := fun k => match k with
  | 0 => ("SupplyGrid$Pairs", "pairs", "[I", true)
  | _ => ("SupplyGrid$Pairs", "count", "I", false)
def cf_pr : Nat → FieldType := fun k => match k with
  | 0 => .array (.int)
  | _ => .int
theorem cm_pr : ∀ a, a < 2 → ∀ b, b < 2 → a ≠ b → (ct_pr a).2.1 ≠ (ct_pr b).2.1 := by decide +kernel
theorem co_pr : ∀ k, k < 2 → parseFieldDescriptor (ct_pr k).2.2.1 = some (cf_pr k) := by decide +kernel
theorem ci_pr : ∀ w ∈ u_ws cn_pr ct_pr 2, w ∈ wt_L := List.forall_mem_cons.mpr ⟨ww_97, List.forall_mem_cons.mpr ⟨ww_99, fun _ h => absurd h List.not_mem_nil⟩⟩
def cn_ps : String := "SupplyGrid$Prescription"
def ct_ps : u_T := fun k => match k with
  | 0 => ("SupplyGrid$Prescription", "supplies", "I", true)
  | 1 => ("SupplyGrid$Prescription", "apart", "I", true)
  | _ => ("SupplyGrid$Prescription", "desks", "[LSupplyGrid$Desk;", true)
def cf_ps : Nat → FieldType := fun k => match k with
  | 0 => .int
  | 1 => .int
  | _ => .array (.object "SupplyGrid$Desk")
theorem cm_ps : ∀ a, a < 3 → ∀ b, b < 3 → a ≠ b → (ct_ps a).2.1 ≠ (ct_ps b).2.1 := by decide +kernel
theorem co_ps : ∀ k, k < 3 → parseFieldDescriptor (ct_ps k).2.2.1 = some (cf_ps k) := by decide +kernel
theorem ci_ps : ∀ w ∈ u_ws cn_ps ct_ps 3, w ∈ wt_L := List.forall_mem_cons.mpr ⟨ww_411, List.forall_mem_cons.mpr ⟨ww_413, List.forall_mem_cons.mpr ⟨ww_415, fun _ h => absurd h List.not_mem_nil⟩⟩⟩
def cn_sg : String := "SupplyGrid"
def ct_sg : u_T := fun k => match k with
  | 0 => ("SupplyGrid", "prescriptions", "[LSupplyGrid$Prescription;", true)
  | 1 => ("SupplyGrid", "unregistered", "LSupplyGrid$Desk;", true)
  | 2 => ("SupplyGrid", "row", "LSupplyGrid$LetterRow;", true)
  | _ => ("SupplyGrid", "shopsUp", "I", false)
def cf_sg : Nat → FieldType := fun k => match k with
  | 0 => .array (.object "SupplyGrid$Prescription")
  | 1 => .object "SupplyGrid$Desk"
  | 2 => .object "SupplyGrid$LetterRow"
  | _ => .int
theorem cm_sg : ∀ a, a < 4 → ∀ b, b < 4 → a ≠ b → (ct_sg a).2.1 ≠ (ct_sg b).2.1 := by decide +kernel
theorem co_sg : ∀ k, k < 4 → parseFieldDescriptor (ct_sg k).2.2.1 = some (cf_sg k) := by decide +kernel
theorem ci_sg : ∀ w ∈ u_ws cn_sg ct_sg 4, w ∈ wt_L := List.forall_mem_cons.mpr ⟨ww_276, List.forall_mem_cons.mpr ⟨ww_278, List.forall_mem_cons.mpr ⟨ww_280, List.forall_mem_cons.mpr ⟨ww_282, fun _ h => absurd h List.not_mem_nil⟩⟩⟩⟩
def cn_md : String := "SupplyGridModel"
def ct_md : u_T := fun k => match k with
  | 0 => ("SupplyGridModel", "supplies", "[I", true)
  | 1 => ("SupplyGridModel", "aparts", "[I", true)
  | 2 => ("SupplyGridModel", "down", "[Z", true)
  | 3 => ("SupplyGridModel", "decided", "[I", true)
  | 4 => ("SupplyGridModel", "promised", "[I", true)
  | 5 => ("SupplyGridModel", "accepted", "[I", true)
  | 6 => ("SupplyGridModel", "acceptedShop", "[I", true)
  | 7 => ("SupplyGridModel", "acceptedDay", "[I", true)
  | 8 => ("SupplyGridModel", "greatest", "[I", true)
  | 9 => ("SupplyGridModel", "pairShop", "[I", true)
  | 10 => ("SupplyGridModel", "pairDay", "[I", true)
  | 11 => ("SupplyGridModel", "askSupply", "[I", true)
  | 12 => ("SupplyGridModel", "askShop", "[I", true)
  | 13 => ("SupplyGridModel", "askDay", "[I", true)
  | 14 => ("SupplyGridModel", "askNumber", "[I", true)
  | 15 => ("SupplyGridModel", "askPhase", "[I", true)
  | 16 => ("SupplyGridModel", "answers", "[I", true)
  | 17 => ("SupplyGridModel", "bestNumber", "[I", true)
  | 18 => ("SupplyGridModel", "bestShop", "[I", true)
  | 19 => ("SupplyGridModel", "bestDay", "[I", true)
  | 20 => ("SupplyGridModel", "refusedBy", "[I", true)
  | 21 => ("SupplyGridModel", "letters", "[I", true)
  | 22 => ("SupplyGridModel", "size", "I", false)
  | 23 => ("SupplyGridModel", "hand", "[I", true)
  | 24 => ("SupplyGridModel", "lostRoom", "I", false)
  | 25 => ("SupplyGridModel", "lostDown", "I", false)
  | 26 => ("SupplyGridModel", "sent", "I", false)
  | _ => ("SupplyGridModel", "thrown", "I", false)
def cf_md : Nat → FieldType := fun k => match k with
  | 0 => .array (.int)
  | 1 => .array (.int)
  | 2 => .array (.boolean)
  | 3 => .array (.int)
  | 4 => .array (.int)
  | 5 => .array (.int)
  | 6 => .array (.int)
  | 7 => .array (.int)
  | 8 => .array (.int)
  | 9 => .array (.int)
  | 10 => .array (.int)
  | 11 => .array (.int)
  | 12 => .array (.int)
  | 13 => .array (.int)
  | 14 => .array (.int)
  | 15 => .array (.int)
  | 16 => .array (.int)
  | 17 => .array (.int)
  | 18 => .array (.int)
  | 19 => .array (.int)
  | 20 => .array (.int)
  | 21 => .array (.int)
  | 22 => .int
  | 23 => .array (.int)
  | 24 => .int
  | 25 => .int
  | 26 => .int
  | _ => .int
theorem cm_md : ∀ a, a < 28 → ∀ b, b < 28 → a ≠ b → (ct_md a).2.1 ≠ (ct_md b).2.1 := by decide +kernel
theorem co_md : ∀ k, k < 28 → parseFieldDescriptor (ct_md k).2.2.1 = some (cf_md k) := by decide +kernel
theorem ci_md : ∀ w ∈ u_ws cn_md ct_md 28, w ∈ wt_L := List.forall_mem_cons.mpr ⟨ww_742, List.forall_mem_cons.mpr ⟨ww_744, List.forall_mem_cons.mpr ⟨ww_746, List.forall_mem_cons.mpr ⟨ww_748, List.forall_mem_cons.mpr ⟨ww_750, List.forall_mem_cons.mpr ⟨ww_752, List.forall_mem_cons.mpr ⟨ww_754, List.forall_mem_cons.mpr ⟨ww_756, List.forall_mem_cons.mpr ⟨ww_758, List.forall_mem_cons.mpr ⟨ww_760, List.forall_mem_cons.mpr ⟨ww_762, List.forall_mem_cons.mpr ⟨ww_764, List.forall_mem_cons.mpr ⟨ww_766, List.forall_mem_cons.mpr ⟨ww_768, List.forall_mem_cons.mpr ⟨ww_770, List.forall_mem_cons.mpr ⟨ww_772, List.forall_mem_cons.mpr ⟨ww_774, List.forall_mem_cons.mpr ⟨ww_776, List.forall_mem_cons.mpr ⟨ww_778, List.forall_mem_cons.mpr ⟨ww_780, List.forall_mem_cons.mpr ⟨ww_782, List.forall_mem_cons.mpr ⟨ww_784, List.forall_mem_cons.mpr ⟨ww_786, List.forall_mem_cons.mpr ⟨ww_788, List.forall_mem_cons.mpr ⟨ww_790, List.forall_mem_cons.mpr ⟨ww_792, List.forall_mem_cons.mpr ⟨ww_794, List.forall_mem_cons.mpr ⟨ww_796, fun _ h => absurd h List.not_mem_nil⟩⟩⟩⟩⟩⟩⟩⟩⟩⟩⟩⟩⟩⟩⟩⟩⟩⟩⟩⟩⟩⟩⟩⟩⟩⟩⟩⟩
def cl_L : List vw_C := [(cn_ak, ct_ak, 8), (cn_dk, ct_dk, 8), (cn_lt, ct_lt, 9), (cn_lr, ct_lr, 8), (cn_pr, ct_pr, 2), (cn_ps, ct_ps, 3), (cn_sg, ct_sg, 4), (cn_md, ct_md, 28)]
def ty_L (ar : Nat → ClassId) : List (ClassId × FieldType) := [(ar 0, .int), (ar 1, .long), (ar 2, .boolean), (ar 3, .object "SupplyGrid$Prescription"), (ar 4, .object "SupplyGrid$Desk"), (ar 5, .object "SupplyGrid$Letter")]
abbrev XX (D : va_G) (ar : Nat → ClassId) (p : Program) (s : State) (m : MethodId) (args : Array Value) (c : Code) (cc : ByteArray) (nL : Nat) (own : String) : Prop := mp_X wt_L D cl_L (ty_L ar) p s m args c cc nL own
abbrev GG (D : va_G) (ar : Nat → ClassId) (base : Nat) (s : State) : Prop := mp_G wt_L D cl_L (ty_L ar) (mp_ZS base) s
abbrev HH (D : va_G) (base : Nat) (σ : mp_M) (H : Heap) : Prop := mp_H D cl_L base σ H
abbrev CN (l : Launch) (D : va_G) (ar : Nat → ClassId) (base : Nat) (y : MethodName) (bytes : ByteArray) (maxL : Nat) (ret : Option FieldType) (hs : List (Nat × Nat × Nat × Nat)) (d w mc ms : Nat) (av : List Value) (σ : mp_M) (PO : Outcome → mp_M → State → Prop) : Prop := mp_Met l wt_L D cl_L (ty_L ar) (mp_ZS base) base y bytes maxL ret hs d w mc ms av σ PO
theorem fg_pr_9 : mp_FL cl_L wt_L "SupplyGrid$Pairs" 9 4 0 := ⟨cn_pr, ct_pr, 2, rfl, by decide, ci_pr, Or.inl ww_91⟩
theorem fq_pr_9 : mp_FF cl_L wt_L "SupplyGrid$Pairs" 9 4 0 (.array (.int)) := ⟨cn_pr, ct_pr, 2, cf_pr, rfl, by decide, ci_pr, ww_91, co_pr, cm_pr, rfl, rfl, rfl⟩
theorem fg_pr_15 : mp_FL cl_L wt_L "SupplyGrid$Pairs" 15 4 1 := ⟨cn_pr, ct_pr, 2, rfl, by decide, ci_pr, Or.inl ww_92⟩
theorem fp_pr_15 : mp_FP cl_L wt_L "SupplyGrid$Pairs" 15 4 1 (.int) false := ⟨cn_pr, ct_pr, 2, cf_pr, rfl, by decide, ci_pr, Or.inl ww_92, co_pr, cm_pr, rfl, rfl⟩
theorem fg_dk_44 : mp_FL cl_L wt_L "SupplyGrid$Desk" 44 4 1 := ⟨cn_pr, ct_pr, 2, rfl, by decide, ci_pr, Or.inr ⟨_, ww_93⟩⟩
theorem fp_dk_44 : mp_FP cl_L wt_L "SupplyGrid$Desk" 44 4 1 (.int) false := ⟨cn_pr, ct_pr, 2, cf_pr, rfl, by decide, ci_pr, Or.inr ⟨_, ww_93⟩, co_pr, cm_pr, rfl, rfl⟩
theorem fg_ps_31 : mp_FL cl_L wt_L "SupplyGrid$Prescription" 31 4 1 := ⟨cn_pr, ct_pr, 2, rfl, by decide, ci_pr, Or.inr ⟨_, ww_94⟩⟩
theorem fp_ps_31 : mp_FP cl_L wt_L "SupplyGrid$Prescription" 31 4 1 (.int) false := ⟨cn_pr, ct_pr, 2, cf_pr, rfl, by decide, ci_pr, Or.inr ⟨_, ww_94⟩, co_pr, cm_pr, rfl, rfl⟩
theorem fg_lt_54 : mp_FL cl_L wt_L "SupplyGrid$Letter" 54 4 1 := ⟨cn_pr, ct_pr, 2, rfl, by decide, ci_pr, Or.inr ⟨_, ww_95⟩⟩
theorem fp_lt_54 : mp_FP cl_L wt_L "SupplyGrid$Letter" 54 4 1 (.int) false := ⟨cn_pr, ct_pr, 2, cf_pr, rfl, by decide, ci_pr, Or.inr ⟨_, ww_95⟩, co_pr, cm_pr, rfl, rfl⟩
theorem fg_sg_154 : mp_FL cl_L wt_L "SupplyGrid" 154 4 1 := ⟨cn_pr, ct_pr, 2, rfl, by decide, ci_pr, Or.inr ⟨_, ww_96⟩⟩
theorem fp_sg_154 : mp_FP cl_L wt_L "SupplyGrid" 154 4 1 (.int) false := ⟨cn_pr, ct_pr, 2, cf_pr, rfl, by decide, ci_pr, Or.inr ⟨_, ww_96⟩, co_pr, cm_pr, rfl, rfl⟩
theorem fg_ak_18 : mp_FL cl_L wt_L "SupplyGrid$Asking" 18 0 0 := ⟨cn_ak, ct_ak, 8, rfl, by decide, ci_ak, Or.inl ww_117⟩
theorem fp_ak_18 : mp_FP cl_L wt_L "SupplyGrid$Asking" 18 0 0 (.int) false := ⟨cn_ak, ct_ak, 8, cf_ak, rfl, by decide, ci_ak, Or.inl ww_117, co_ak, cm_ak, rfl, rfl⟩
theorem fg_sg_222 : mp_FL cl_L wt_L "SupplyGrid" 222 0 0 := ⟨cn_ak, ct_ak, 8, rfl, by decide, ci_ak, Or.inr ⟨_, ww_118⟩⟩
theorem fp_sg_222 : mp_FP cl_L wt_L "SupplyGrid" 222 0 0 (.int) false := ⟨cn_ak, ct_ak, 8, cf_ak, rfl, by decide, ci_ak, Or.inr ⟨_, ww_118⟩, co_ak, cm_ak, rfl, rfl⟩
theorem fg_ak_21 : mp_FL cl_L wt_L "SupplyGrid$Asking" 21 0 1 := ⟨cn_ak, ct_ak, 8, rfl, by decide, ci_ak, Or.inl ww_119⟩
theorem fp_ak_21 : mp_FP cl_L wt_L "SupplyGrid$Asking" 21 0 1 (.int) false := ⟨cn_ak, ct_ak, 8, cf_ak, rfl, by decide, ci_ak, Or.inl ww_119, co_ak, cm_ak, rfl, rfl⟩
theorem fg_sg_289 : mp_FL cl_L wt_L "SupplyGrid" 289 0 1 := ⟨cn_ak, ct_ak, 8, rfl, by decide, ci_ak, Or.inr ⟨_, ww_120⟩⟩
theorem fp_sg_289 : mp_FP cl_L wt_L "SupplyGrid" 289 0 1 (.int) false := ⟨cn_ak, ct_ak, 8, cf_ak, rfl, by decide, ci_ak, Or.inr ⟨_, ww_120⟩, co_ak, cm_ak, rfl, rfl⟩
theorem fg_ak_24 : mp_FL cl_L wt_L "SupplyGrid$Asking" 24 0 2 := ⟨cn_ak, ct_ak, 8, rfl, by decide, ci_ak, Or.inl ww_121⟩
theorem fp_ak_24 : mp_FP cl_L wt_L "SupplyGrid$Asking" 24 0 2 (.int) false := ⟨cn_ak, ct_ak, 8, cf_ak, rfl, by decide, ci_ak, Or.inl ww_121, co_ak, cm_ak, rfl, rfl⟩
theorem fg_dk_80 : mp_FL cl_L wt_L "SupplyGrid$Desk" 80 0 2 := ⟨cn_ak, ct_ak, 8, rfl, by decide, ci_ak, Or.inr ⟨_, ww_122⟩⟩
theorem fp_dk_80 : mp_FP cl_L wt_L "SupplyGrid$Desk" 80 0 2 (.int) false := ⟨cn_ak, ct_ak, 8, cf_ak, rfl, by decide, ci_ak, Or.inr ⟨_, ww_122⟩, co_ak, cm_ak, rfl, rfl⟩
theorem fg_sg_225 : mp_FL cl_L wt_L "SupplyGrid" 225 0 2 := ⟨cn_ak, ct_ak, 8, rfl, by decide, ci_ak, Or.inr ⟨_, ww_123⟩⟩
theorem fp_sg_225 : mp_FP cl_L wt_L "SupplyGrid" 225 0 2 (.int) false := ⟨cn_ak, ct_ak, 8, cf_ak, rfl, by decide, ci_ak, Or.inr ⟨_, ww_123⟩, co_ak, cm_ak, rfl, rfl⟩
theorem fg_ak_14 : mp_FL cl_L wt_L "SupplyGrid$Asking" 14 0 3 := ⟨cn_ak, ct_ak, 8, rfl, by decide, ci_ak, Or.inl ww_124⟩
theorem fp_ak_14 : mp_FP cl_L wt_L "SupplyGrid$Asking" 14 0 3 (.int) false := ⟨cn_ak, ct_ak, 8, cf_ak, rfl, by decide, ci_ak, Or.inl ww_124, co_ak, cm_ak, rfl, rfl⟩
theorem fg_dk_83 : mp_FL cl_L wt_L "SupplyGrid$Desk" 83 0 3 := ⟨cn_ak, ct_ak, 8, rfl, by decide, ci_ak, Or.inr ⟨_, ww_125⟩⟩
theorem fp_dk_83 : mp_FP cl_L wt_L "SupplyGrid$Desk" 83 0 3 (.int) false := ⟨cn_ak, ct_ak, 8, cf_ak, rfl, by decide, ci_ak, Or.inr ⟨_, ww_125⟩, co_ak, cm_ak, rfl, rfl⟩
theorem fg_ak_39 : mp_FL cl_L wt_L "SupplyGrid$Asking" 39 0 4 := ⟨cn_ak, ct_ak, 8, rfl, by decide, ci_ak, Or.inl ww_126⟩
theorem fp_ak_39 : mp_FP cl_L wt_L "SupplyGrid$Asking" 39 0 4 (.int) false := ⟨cn_ak, ct_ak, 8, cf_ak, rfl, by decide, ci_ak, Or.inl ww_126, co_ak, cm_ak, rfl, rfl⟩
theorem fg_dk_86 : mp_FL cl_L wt_L "SupplyGrid$Desk" 86 0 4 := ⟨cn_ak, ct_ak, 8, rfl, by decide, ci_ak, Or.inr ⟨_, ww_127⟩⟩
theorem fp_dk_86 : mp_FP cl_L wt_L "SupplyGrid$Desk" 86 0 4 (.int) false := ⟨cn_ak, ct_ak, 8, cf_ak, rfl, by decide, ci_ak, Or.inr ⟨_, ww_127⟩, co_ak, cm_ak, rfl, rfl⟩
theorem fg_sg_283 : mp_FL cl_L wt_L "SupplyGrid" 283 0 4 := ⟨cn_ak, ct_ak, 8, rfl, by decide, ci_ak, Or.inr ⟨_, ww_128⟩⟩
theorem fp_sg_283 : mp_FP cl_L wt_L "SupplyGrid" 283 0 4 (.int) false := ⟨cn_ak, ct_ak, 8, cf_ak, rfl, by decide, ci_ak, Or.inr ⟨_, ww_128⟩, co_ak, cm_ak, rfl, rfl⟩
theorem fg_ak_27 : mp_FL cl_L wt_L "SupplyGrid$Asking" 27 0 5 := ⟨cn_ak, ct_ak, 8, rfl, by decide, ci_ak, Or.inl ww_129⟩
theorem fp_ak_27 : mp_FP cl_L wt_L "SupplyGrid$Asking" 27 0 5 (.int) false := ⟨cn_ak, ct_ak, 8, cf_ak, rfl, by decide, ci_ak, Or.inl ww_129, co_ak, cm_ak, rfl, rfl⟩
theorem fg_dk_61 : mp_FL cl_L wt_L "SupplyGrid$Desk" 61 0 5 := ⟨cn_ak, ct_ak, 8, rfl, by decide, ci_ak, Or.inr ⟨_, ww_130⟩⟩
theorem fp_dk_61 : mp_FP cl_L wt_L "SupplyGrid$Desk" 61 0 5 (.int) false := ⟨cn_ak, ct_ak, 8, cf_ak, rfl, by decide, ci_ak, Or.inr ⟨_, ww_130⟩, co_ak, cm_ak, rfl, rfl⟩
theorem fg_ak_33 : mp_FL cl_L wt_L "SupplyGrid$Asking" 33 0 6 := ⟨cn_ak, ct_ak, 8, rfl, by decide, ci_ak, Or.inl ww_131⟩
theorem fp_ak_33 : mp_FP cl_L wt_L "SupplyGrid$Asking" 33 0 6 (.int) false := ⟨cn_ak, ct_ak, 8, cf_ak, rfl, by decide, ci_ak, Or.inl ww_131, co_ak, cm_ak, rfl, rfl⟩
theorem fg_ak_36 : mp_FL cl_L wt_L "SupplyGrid$Asking" 36 0 7 := ⟨cn_ak, ct_ak, 8, rfl, by decide, ci_ak, Or.inl ww_132⟩
theorem fp_ak_36 : mp_FP cl_L wt_L "SupplyGrid$Asking" 36 0 7 (.int) false := ⟨cn_ak, ct_ak, 8, cf_ak, rfl, by decide, ci_ak, Or.inl ww_132, co_ak, cm_ak, rfl, rfl⟩
theorem fg_dk_9 : mp_FL cl_L wt_L "SupplyGrid$Desk" 9 1 0 := ⟨cn_dk, ct_dk, 8, rfl, by decide, ci_dk, Or.inl ww_150⟩
theorem fq_dk_9 : mp_FF cl_L wt_L "SupplyGrid$Desk" 9 1 0 (.int) := ⟨cn_dk, ct_dk, 8, cf_dk, rfl, by decide, ci_dk, ww_150, co_dk, cm_dk, rfl, rfl, rfl⟩
theorem fg_sg_216 : mp_FL cl_L wt_L "SupplyGrid" 216 1 0 := ⟨cn_dk, ct_dk, 8, rfl, by decide, ci_dk, Or.inr ⟨_, ww_151⟩⟩
theorem fg_dk_15 : mp_FL cl_L wt_L "SupplyGrid$Desk" 15 1 1 := ⟨cn_dk, ct_dk, 8, rfl, by decide, ci_dk, Or.inl ww_152⟩
theorem fq_dk_15 : mp_FF cl_L wt_L "SupplyGrid$Desk" 15 1 1 (.int) := ⟨cn_dk, ct_dk, 8, cf_dk, rfl, by decide, ci_dk, ww_152, co_dk, cm_dk, rfl, rfl, rfl⟩
theorem fg_sg_219 : mp_FL cl_L wt_L "SupplyGrid" 219 1 1 := ⟨cn_dk, ct_dk, 8, rfl, by decide, ci_dk, Or.inr ⟨_, ww_153⟩⟩
theorem fg_dk_21 : mp_FL cl_L wt_L "SupplyGrid$Desk" 21 1 2 := ⟨cn_dk, ct_dk, 8, rfl, by decide, ci_dk, Or.inl ww_154⟩
theorem fq_dk_21 : mp_FF cl_L wt_L "SupplyGrid$Desk" 21 1 2 (.object "SupplyGrid$Pairs") := ⟨cn_dk, ct_dk, 8, cf_dk, rfl, by decide, ci_dk, ww_154, co_dk, cm_dk, rfl, rfl, rfl⟩
theorem fg_ps_27 : mp_FL cl_L wt_L "SupplyGrid$Prescription" 27 1 2 := ⟨cn_dk, ct_dk, 8, rfl, by decide, ci_dk, Or.inr ⟨_, ww_155⟩⟩
theorem fg_sg_136 : mp_FL cl_L wt_L "SupplyGrid" 136 1 2 := ⟨cn_dk, ct_dk, 8, rfl, by decide, ci_dk, Or.inr ⟨_, ww_156⟩⟩
theorem fg_dk_28 : mp_FL cl_L wt_L "SupplyGrid$Desk" 28 1 3 := ⟨cn_dk, ct_dk, 8, rfl, by decide, ci_dk, Or.inl ww_157⟩
theorem fq_dk_28 : mp_FF cl_L wt_L "SupplyGrid$Desk" 28 1 3 (.object "SupplyGrid$Asking") := ⟨cn_dk, ct_dk, 8, cf_dk, rfl, by decide, ci_dk, ww_157, co_dk, cm_dk, rfl, rfl, rfl⟩
theorem fg_sg_72 : mp_FL cl_L wt_L "SupplyGrid" 72 1 3 := ⟨cn_dk, ct_dk, 8, rfl, by decide, ci_dk, Or.inr ⟨_, ww_158⟩⟩
theorem fg_dk_32 : mp_FL cl_L wt_L "SupplyGrid$Desk" 32 1 4 := ⟨cn_dk, ct_dk, 8, rfl, by decide, ci_dk, Or.inl ww_159⟩
theorem fp_dk_32 : mp_FP cl_L wt_L "SupplyGrid$Desk" 32 1 4 (.int) false := ⟨cn_dk, ct_dk, 8, cf_dk, rfl, by decide, ci_dk, Or.inl ww_159, co_dk, cm_dk, rfl, rfl⟩
theorem fg_sg_261 : mp_FL cl_L wt_L "SupplyGrid" 261 1 4 := ⟨cn_dk, ct_dk, 8, rfl, by decide, ci_dk, Or.inr ⟨_, ww_160⟩⟩
theorem fp_sg_261 : mp_FP cl_L wt_L "SupplyGrid" 261 1 4 (.int) false := ⟨cn_dk, ct_dk, 8, cf_dk, rfl, by decide, ci_dk, Or.inr ⟨_, ww_160⟩, co_dk, cm_dk, rfl, rfl⟩
theorem fg_dk_35 : mp_FL cl_L wt_L "SupplyGrid$Desk" 35 1 5 := ⟨cn_dk, ct_dk, 8, rfl, by decide, ci_dk, Or.inl ww_161⟩
theorem fp_dk_35 : mp_FP cl_L wt_L "SupplyGrid$Desk" 35 1 5 (.int) false := ⟨cn_dk, ct_dk, 8, cf_dk, rfl, by decide, ci_dk, Or.inl ww_161, co_dk, cm_dk, rfl, rfl⟩
theorem fg_sg_264 : mp_FL cl_L wt_L "SupplyGrid" 264 1 5 := ⟨cn_dk, ct_dk, 8, rfl, by decide, ci_dk, Or.inr ⟨_, ww_162⟩⟩
theorem fp_sg_264 : mp_FP cl_L wt_L "SupplyGrid" 264 1 5 (.int) false := ⟨cn_dk, ct_dk, 8, cf_dk, rfl, by decide, ci_dk, Or.inr ⟨_, ww_162⟩, co_dk, cm_dk, rfl, rfl⟩
theorem fg_dk_38 : mp_FL cl_L wt_L "SupplyGrid$Desk" 38 1 6 := ⟨cn_dk, ct_dk, 8, rfl, by decide, ci_dk, Or.inl ww_163⟩
theorem fp_dk_38 : mp_FP cl_L wt_L "SupplyGrid$Desk" 38 1 6 (.int) false := ⟨cn_dk, ct_dk, 8, cf_dk, rfl, by decide, ci_dk, Or.inl ww_163, co_dk, cm_dk, rfl, rfl⟩
theorem fg_sg_267 : mp_FL cl_L wt_L "SupplyGrid" 267 1 6 := ⟨cn_dk, ct_dk, 8, rfl, by decide, ci_dk, Or.inr ⟨_, ww_164⟩⟩
theorem fp_sg_267 : mp_FP cl_L wt_L "SupplyGrid" 267 1 6 (.int) false := ⟨cn_dk, ct_dk, 8, cf_dk, rfl, by decide, ci_dk, Or.inr ⟨_, ww_164⟩, co_dk, cm_dk, rfl, rfl⟩
theorem fg_dk_41 : mp_FL cl_L wt_L "SupplyGrid$Desk" 41 1 7 := ⟨cn_dk, ct_dk, 8, rfl, by decide, ci_dk, Or.inl ww_165⟩
theorem fp_dk_41 : mp_FP cl_L wt_L "SupplyGrid$Desk" 41 1 7 (.int) false := ⟨cn_dk, ct_dk, 8, cf_dk, rfl, by decide, ci_dk, Or.inl ww_165, co_dk, cm_dk, rfl, rfl⟩
theorem fg_sg_206 : mp_FL cl_L wt_L "SupplyGrid" 206 1 7 := ⟨cn_dk, ct_dk, 8, rfl, by decide, ci_dk, Or.inr ⟨_, ww_166⟩⟩
theorem fp_sg_206 : mp_FP cl_L wt_L "SupplyGrid" 206 1 7 (.int) false := ⟨cn_dk, ct_dk, 8, cf_dk, rfl, by decide, ci_dk, Or.inr ⟨_, ww_166⟩, co_dk, cm_dk, rfl, rfl⟩
theorem fg_lt_12 : mp_FL cl_L wt_L "SupplyGrid$Letter" 12 2 0 := ⟨cn_lt, ct_lt, 9, rfl, by decide, ci_lt, Or.inl ww_199⟩
theorem fq_lt_12 : mp_FF cl_L wt_L "SupplyGrid$Letter" 12 2 0 (.object "SupplyGrid$Pairs") := ⟨cn_lt, ct_lt, 9, cf_lt, rfl, by decide, ci_lt, ww_199, co_lt, cm_lt, rfl, rfl, rfl⟩
theorem fg_sg_235 : mp_FL cl_L wt_L "SupplyGrid" 235 2 0 := ⟨cn_lt, ct_lt, 9, rfl, by decide, ci_lt, Or.inr ⟨_, ww_200⟩⟩
theorem fg_lt_22 : mp_FL cl_L wt_L "SupplyGrid$Letter" 22 2 1 := ⟨cn_lt, ct_lt, 9, rfl, by decide, ci_lt, Or.inl ww_201⟩
theorem fp_lt_22 : mp_FP cl_L wt_L "SupplyGrid$Letter" 22 2 1 (.int) false := ⟨cn_lt, ct_lt, 9, cf_lt, rfl, by decide, ci_lt, Or.inl ww_201, co_lt, cm_lt, rfl, rfl⟩
theorem fg_sg_114 : mp_FL cl_L wt_L "SupplyGrid" 114 2 1 := ⟨cn_lt, ct_lt, 9, rfl, by decide, ci_lt, Or.inr ⟨_, ww_202⟩⟩
theorem fp_sg_114 : mp_FP cl_L wt_L "SupplyGrid" 114 2 1 (.int) false := ⟨cn_lt, ct_lt, 9, cf_lt, rfl, by decide, ci_lt, Or.inr ⟨_, ww_202⟩, co_lt, cm_lt, rfl, rfl⟩
theorem fg_lt_25 : mp_FL cl_L wt_L "SupplyGrid$Letter" 25 2 2 := ⟨cn_lt, ct_lt, 9, rfl, by decide, ci_lt, Or.inl ww_203⟩
theorem fp_lt_25 : mp_FP cl_L wt_L "SupplyGrid$Letter" 25 2 2 (.int) false := ⟨cn_lt, ct_lt, 9, cf_lt, rfl, by decide, ci_lt, Or.inl ww_203, co_lt, cm_lt, rfl, rfl⟩
theorem fg_ak_46 : mp_FL cl_L wt_L "SupplyGrid$Asking" 46 2 2 := ⟨cn_lt, ct_lt, 9, rfl, by decide, ci_lt, Or.inr ⟨_, ww_204⟩⟩
theorem fp_ak_46 : mp_FP cl_L wt_L "SupplyGrid$Asking" 46 2 2 (.int) false := ⟨cn_lt, ct_lt, 9, cf_lt, rfl, by decide, ci_lt, Or.inr ⟨_, ww_204⟩, co_lt, cm_lt, rfl, rfl⟩
theorem fg_sg_273 : mp_FL cl_L wt_L "SupplyGrid" 273 2 2 := ⟨cn_lt, ct_lt, 9, rfl, by decide, ci_lt, Or.inr ⟨_, ww_205⟩⟩
theorem fp_sg_273 : mp_FP cl_L wt_L "SupplyGrid" 273 2 2 (.int) false := ⟨cn_lt, ct_lt, 9, cf_lt, rfl, by decide, ci_lt, Or.inr ⟨_, ww_205⟩, co_lt, cm_lt, rfl, rfl⟩
theorem fg_lt_44 : mp_FL cl_L wt_L "SupplyGrid$Letter" 44 2 3 := ⟨cn_lt, ct_lt, 9, rfl, by decide, ci_lt, Or.inl ww_206⟩
theorem fp_lt_44 : mp_FP cl_L wt_L "SupplyGrid$Letter" 44 2 3 (.int) false := ⟨cn_lt, ct_lt, 9, cf_lt, rfl, by decide, ci_lt, Or.inl ww_206, co_lt, cm_lt, rfl, rfl⟩
theorem fg_lr_50 : mp_FL cl_L wt_L "SupplyGrid$LetterRow" 50 2 3 := ⟨cn_lt, ct_lt, 9, rfl, by decide, ci_lt, Or.inr ⟨_, ww_207⟩⟩
theorem fp_lr_50 : mp_FP cl_L wt_L "SupplyGrid$LetterRow" 50 2 3 (.int) false := ⟨cn_lt, ct_lt, 9, cf_lt, rfl, by decide, ci_lt, Or.inr ⟨_, ww_207⟩, co_lt, cm_lt, rfl, rfl⟩
theorem fg_sg_231 : mp_FL cl_L wt_L "SupplyGrid" 231 2 3 := ⟨cn_lt, ct_lt, 9, rfl, by decide, ci_lt, Or.inr ⟨_, ww_208⟩⟩
theorem fp_sg_231 : mp_FP cl_L wt_L "SupplyGrid" 231 2 3 (.int) false := ⟨cn_lt, ct_lt, 9, cf_lt, rfl, by decide, ci_lt, Or.inr ⟨_, ww_208⟩, co_lt, cm_lt, rfl, rfl⟩
theorem fg_lt_28 : mp_FL cl_L wt_L "SupplyGrid$Letter" 28 2 4 := ⟨cn_lt, ct_lt, 9, rfl, by decide, ci_lt, Or.inl ww_209⟩
theorem fp_lt_28 : mp_FP cl_L wt_L "SupplyGrid$Letter" 28 2 4 (.int) false := ⟨cn_lt, ct_lt, 9, cf_lt, rfl, by decide, ci_lt, Or.inl ww_209, co_lt, cm_lt, rfl, rfl⟩
theorem fg_sg_234 : mp_FL cl_L wt_L "SupplyGrid" 234 2 4 := ⟨cn_lt, ct_lt, 9, rfl, by decide, ci_lt, Or.inr ⟨_, ww_210⟩⟩
theorem fp_sg_234 : mp_FP cl_L wt_L "SupplyGrid" 234 2 4 (.int) false := ⟨cn_lt, ct_lt, 9, cf_lt, rfl, by decide, ci_lt, Or.inr ⟨_, ww_210⟩, co_lt, cm_lt, rfl, rfl⟩
theorem fg_lt_31 : mp_FL cl_L wt_L "SupplyGrid$Letter" 31 2 5 := ⟨cn_lt, ct_lt, 9, rfl, by decide, ci_lt, Or.inl ww_211⟩
theorem fp_lt_31 : mp_FP cl_L wt_L "SupplyGrid$Letter" 31 2 5 (.int) false := ⟨cn_lt, ct_lt, 9, cf_lt, rfl, by decide, ci_lt, Or.inl ww_211, co_lt, cm_lt, rfl, rfl⟩
theorem fg_ak_42 : mp_FL cl_L wt_L "SupplyGrid$Asking" 42 2 5 := ⟨cn_lt, ct_lt, 9, rfl, by decide, ci_lt, Or.inr ⟨_, ww_212⟩⟩
theorem fp_ak_42 : mp_FP cl_L wt_L "SupplyGrid$Asking" 42 2 5 (.int) false := ⟨cn_lt, ct_lt, 9, cf_lt, rfl, by decide, ci_lt, Or.inr ⟨_, ww_212⟩, co_lt, cm_lt, rfl, rfl⟩
theorem fg_sg_255 : mp_FL cl_L wt_L "SupplyGrid" 255 2 5 := ⟨cn_lt, ct_lt, 9, rfl, by decide, ci_lt, Or.inr ⟨_, ww_213⟩⟩
theorem fp_sg_255 : mp_FP cl_L wt_L "SupplyGrid" 255 2 5 (.int) false := ⟨cn_lt, ct_lt, 9, cf_lt, rfl, by decide, ci_lt, Or.inr ⟨_, ww_213⟩, co_lt, cm_lt, rfl, rfl⟩
theorem fg_lt_34 : mp_FL cl_L wt_L "SupplyGrid$Letter" 34 2 6 := ⟨cn_lt, ct_lt, 9, rfl, by decide, ci_lt, Or.inl ww_214⟩
theorem fp_lt_34 : mp_FP cl_L wt_L "SupplyGrid$Letter" 34 2 6 (.int) false := ⟨cn_lt, ct_lt, 9, cf_lt, rfl, by decide, ci_lt, Or.inl ww_214, co_lt, cm_lt, rfl, rfl⟩
theorem fg_ak_45 : mp_FL cl_L wt_L "SupplyGrid$Asking" 45 2 6 := ⟨cn_lt, ct_lt, 9, rfl, by decide, ci_lt, Or.inr ⟨_, ww_215⟩⟩
theorem fp_ak_45 : mp_FP cl_L wt_L "SupplyGrid$Asking" 45 2 6 (.int) false := ⟨cn_lt, ct_lt, 9, cf_lt, rfl, by decide, ci_lt, Or.inr ⟨_, ww_215⟩, co_lt, cm_lt, rfl, rfl⟩
theorem fg_sg_260 : mp_FL cl_L wt_L "SupplyGrid" 260 2 6 := ⟨cn_lt, ct_lt, 9, rfl, by decide, ci_lt, Or.inr ⟨_, ww_216⟩⟩
theorem fp_sg_260 : mp_FP cl_L wt_L "SupplyGrid" 260 2 6 (.int) false := ⟨cn_lt, ct_lt, 9, cf_lt, rfl, by decide, ci_lt, Or.inr ⟨_, ww_216⟩, co_lt, cm_lt, rfl, rfl⟩
theorem fg_lt_37 : mp_FL cl_L wt_L "SupplyGrid$Letter" 37 2 7 := ⟨cn_lt, ct_lt, 9, rfl, by decide, ci_lt, Or.inl ww_217⟩
theorem fp_lt_37 : mp_FP cl_L wt_L "SupplyGrid$Letter" 37 2 7 (.int) false := ⟨cn_lt, ct_lt, 9, cf_lt, rfl, by decide, ci_lt, Or.inl ww_217, co_lt, cm_lt, rfl, rfl⟩
theorem fg_ak_49 : mp_FL cl_L wt_L "SupplyGrid$Asking" 49 2 7 := ⟨cn_lt, ct_lt, 9, rfl, by decide, ci_lt, Or.inr ⟨_, ww_218⟩⟩
theorem fp_ak_49 : mp_FP cl_L wt_L "SupplyGrid$Asking" 49 2 7 (.int) false := ⟨cn_lt, ct_lt, 9, cf_lt, rfl, by decide, ci_lt, Or.inr ⟨_, ww_218⟩, co_lt, cm_lt, rfl, rfl⟩
theorem fg_sg_270 : mp_FL cl_L wt_L "SupplyGrid" 270 2 7 := ⟨cn_lt, ct_lt, 9, rfl, by decide, ci_lt, Or.inr ⟨_, ww_219⟩⟩
theorem fp_sg_270 : mp_FP cl_L wt_L "SupplyGrid" 270 2 7 (.int) false := ⟨cn_lt, ct_lt, 9, cf_lt, rfl, by decide, ci_lt, Or.inr ⟨_, ww_219⟩, co_lt, cm_lt, rfl, rfl⟩
theorem fg_lt_18 : mp_FL cl_L wt_L "SupplyGrid$Letter" 18 2 8 := ⟨cn_lt, ct_lt, 9, rfl, by decide, ci_lt, Or.inl ww_220⟩
theorem fp_lt_18 : mp_FP cl_L wt_L "SupplyGrid$Letter" 18 2 8 (.int) false := ⟨cn_lt, ct_lt, 9, cf_lt, rfl, by decide, ci_lt, Or.inl ww_220, co_lt, cm_lt, rfl, rfl⟩
theorem fg_ak_52 : mp_FL cl_L wt_L "SupplyGrid$Asking" 52 2 8 := ⟨cn_lt, ct_lt, 9, rfl, by decide, ci_lt, Or.inr ⟨_, ww_221⟩⟩
theorem fp_ak_52 : mp_FP cl_L wt_L "SupplyGrid$Asking" 52 2 8 (.int) false := ⟨cn_lt, ct_lt, 9, cf_lt, rfl, by decide, ci_lt, Or.inr ⟨_, ww_221⟩, co_lt, cm_lt, rfl, rfl⟩
theorem fg_sg_228 : mp_FL cl_L wt_L "SupplyGrid" 228 2 8 := ⟨cn_lt, ct_lt, 9, rfl, by decide, ci_lt, Or.inr ⟨_, ww_222⟩⟩
theorem fp_sg_228 : mp_FP cl_L wt_L "SupplyGrid" 228 2 8 (.int) false := ⟨cn_lt, ct_lt, 9, cf_lt, rfl, by decide, ci_lt, Or.inr ⟨_, ww_222⟩, co_lt, cm_lt, rfl, rfl⟩
theorem fg_lr_11 : mp_FL cl_L wt_L "SupplyGrid$LetterRow" 11 3 0 := ⟨cn_lr, ct_lr, 8, rfl, by decide, ci_lr, Or.inl ww_242⟩
theorem fq_lr_11 : mp_FF cl_L wt_L "SupplyGrid$LetterRow" 11 3 0 (.array (.object "SupplyGrid$Letter")) := ⟨cn_lr, ct_lr, 8, cf_lr, rfl, by decide, ci_lr, ww_242, co_lr, cm_lr, rfl, rfl, rfl⟩
theorem fg_lr_18 : mp_FL cl_L wt_L "SupplyGrid$LetterRow" 18 3 1 := ⟨cn_lr, ct_lr, 8, rfl, by decide, ci_lr, Or.inl ww_243⟩
theorem fq_lr_18 : mp_FF cl_L wt_L "SupplyGrid$LetterRow" 18 3 1 (.object "SupplyGrid$Letter") := ⟨cn_lr, ct_lr, 8, cf_lr, rfl, by decide, ci_lr, ww_243, co_lr, cm_lr, rfl, rfl, rfl⟩
theorem fg_sg_132 : mp_FL cl_L wt_L "SupplyGrid" 132 3 1 := ⟨cn_lr, ct_lr, 8, rfl, by decide, ci_lr, Or.inr ⟨_, ww_244⟩⟩
theorem fg_lr_22 : mp_FL cl_L wt_L "SupplyGrid$LetterRow" 22 3 2 := ⟨cn_lr, ct_lr, 8, rfl, by decide, ci_lr, Or.inl ww_245⟩
theorem fp_lr_22 : mp_FP cl_L wt_L "SupplyGrid$LetterRow" 22 3 2 (.object "SupplyGrid$Letter") false := ⟨cn_lr, ct_lr, 8, cf_lr, rfl, by decide, ci_lr, Or.inl ww_245, co_lr, cm_lr, rfl, rfl⟩
theorem fg_lr_25 : mp_FL cl_L wt_L "SupplyGrid$LetterRow" 25 3 3 := ⟨cn_lr, ct_lr, 8, rfl, by decide, ci_lr, Or.inl ww_246⟩
theorem fp_lr_25 : mp_FP cl_L wt_L "SupplyGrid$LetterRow" 25 3 3 (.int) false := ⟨cn_lr, ct_lr, 8, cf_lr, rfl, by decide, ci_lr, Or.inl ww_246, co_lr, cm_lr, rfl, rfl⟩
theorem fg_lr_37 : mp_FL cl_L wt_L "SupplyGrid$LetterRow" 37 3 4 := ⟨cn_lr, ct_lr, 8, rfl, by decide, ci_lr, Or.inl ww_247⟩
theorem fp_lr_37 : mp_FP cl_L wt_L "SupplyGrid$LetterRow" 37 3 4 (.int) false := ⟨cn_lr, ct_lr, 8, cf_lr, rfl, by decide, ci_lr, Or.inl ww_247, co_lr, cm_lr, rfl, rfl⟩
theorem fg_sg_123 : mp_FL cl_L wt_L "SupplyGrid" 123 3 4 := ⟨cn_lr, ct_lr, 8, rfl, by decide, ci_lr, Or.inr ⟨_, ww_248⟩⟩
theorem fp_sg_123 : mp_FP cl_L wt_L "SupplyGrid" 123 3 4 (.int) false := ⟨cn_lr, ct_lr, 8, cf_lr, rfl, by decide, ci_lr, Or.inr ⟨_, ww_248⟩, co_lr, cm_lr, rfl, rfl⟩
theorem fg_lr_47 : mp_FL cl_L wt_L "SupplyGrid$LetterRow" 47 3 5 := ⟨cn_lr, ct_lr, 8, rfl, by decide, ci_lr, Or.inl ww_249⟩
theorem fp_lr_47 : mp_FP cl_L wt_L "SupplyGrid$LetterRow" 47 3 5 (.int) false := ⟨cn_lr, ct_lr, 8, cf_lr, rfl, by decide, ci_lr, Or.inl ww_249, co_lr, cm_lr, rfl, rfl⟩
theorem fg_sg_178 : mp_FL cl_L wt_L "SupplyGrid" 178 3 5 := ⟨cn_lr, ct_lr, 8, rfl, by decide, ci_lr, Or.inr ⟨_, ww_250⟩⟩
theorem fp_sg_178 : mp_FP cl_L wt_L "SupplyGrid" 178 3 5 (.int) false := ⟨cn_lr, ct_lr, 8, cf_lr, rfl, by decide, ci_lr, Or.inr ⟨_, ww_250⟩, co_lr, cm_lr, rfl, rfl⟩
theorem fg_sg_181 : mp_FL cl_L wt_L "SupplyGrid" 181 3 6 := ⟨cn_lr, ct_lr, 8, rfl, by decide, ci_lr, Or.inr ⟨_, ww_251⟩⟩
theorem fp_sg_181 : mp_FP cl_L wt_L "SupplyGrid" 181 3 6 (.int) false := ⟨cn_lr, ct_lr, 8, cf_lr, rfl, by decide, ci_lr, Or.inr ⟨_, ww_251⟩, co_lr, cm_lr, rfl, rfl⟩
theorem fg_lr_44 : mp_FL cl_L wt_L "SupplyGrid$LetterRow" 44 3 7 := ⟨cn_lr, ct_lr, 8, rfl, by decide, ci_lr, Or.inl ww_252⟩
theorem fp_lr_44 : mp_FP cl_L wt_L "SupplyGrid$LetterRow" 44 3 7 (.int) false := ⟨cn_lr, ct_lr, 8, cf_lr, rfl, by decide, ci_lr, Or.inl ww_252, co_lr, cm_lr, rfl, rfl⟩
theorem fg_sg_184 : mp_FL cl_L wt_L "SupplyGrid" 184 3 7 := ⟨cn_lr, ct_lr, 8, rfl, by decide, ci_lr, Or.inr ⟨_, ww_253⟩⟩
theorem fp_sg_184 : mp_FP cl_L wt_L "SupplyGrid" 184 3 7 (.int) false := ⟨cn_lr, ct_lr, 8, cf_lr, rfl, by decide, ci_lr, Or.inr ⟨_, ww_253⟩, co_lr, cm_lr, rfl, rfl⟩
theorem fg_sg_11 : mp_FL cl_L wt_L "SupplyGrid" 11 6 0 := ⟨cn_sg, ct_sg, 4, rfl, by decide, ci_sg, Or.inl ww_272⟩
theorem fq_sg_11 : mp_FF cl_L wt_L "SupplyGrid" 11 6 0 (.array (.object "SupplyGrid$Prescription")) := ⟨cn_sg, ct_sg, 4, cf_sg, rfl, by decide, ci_sg, ww_272, co_sg, cm_sg, rfl, rfl, rfl⟩
theorem fg_sg_20 : mp_FL cl_L wt_L "SupplyGrid" 20 6 1 := ⟨cn_sg, ct_sg, 4, rfl, by decide, ci_sg, Or.inl ww_273⟩
theorem fq_sg_20 : mp_FF cl_L wt_L "SupplyGrid" 20 6 1 (.object "SupplyGrid$Desk") := ⟨cn_sg, ct_sg, 4, cf_sg, rfl, by decide, ci_sg, ww_273, co_sg, cm_sg, rfl, rfl, rfl⟩
theorem fg_sg_27 : mp_FL cl_L wt_L "SupplyGrid" 27 6 2 := ⟨cn_sg, ct_sg, 4, rfl, by decide, ci_sg, Or.inl ww_274⟩
theorem fq_sg_27 : mp_FF cl_L wt_L "SupplyGrid" 27 6 2 (.object "SupplyGrid$LetterRow") := ⟨cn_sg, ct_sg, 4, cf_sg, rfl, by decide, ci_sg, ww_274, co_sg, cm_sg, rfl, rfl, rfl⟩
theorem fg_sg_32 : mp_FL cl_L wt_L "SupplyGrid" 32 6 3 := ⟨cn_sg, ct_sg, 4, rfl, by decide, ci_sg, Or.inl ww_275⟩
theorem fp_sg_32 : mp_FP cl_L wt_L "SupplyGrid" 32 6 3 (.int) false := ⟨cn_sg, ct_sg, 4, cf_sg, rfl, by decide, ci_sg, Or.inl ww_275, co_sg, cm_sg, rfl, rfl⟩
theorem fg_ps_9 : mp_FL cl_L wt_L "SupplyGrid$Prescription" 9 5 0 := ⟨cn_ps, ct_ps, 3, rfl, by decide, ci_ps, Or.inl ww_407⟩
theorem fq_ps_9 : mp_FF cl_L wt_L "SupplyGrid$Prescription" 9 5 0 (.int) := ⟨cn_ps, ct_ps, 3, cf_ps, rfl, by decide, ci_ps, ww_407, co_ps, cm_ps, rfl, rfl, rfl⟩
theorem fg_ps_15 : mp_FL cl_L wt_L "SupplyGrid$Prescription" 15 5 1 := ⟨cn_ps, ct_ps, 3, rfl, by decide, ci_ps, Or.inl ww_408⟩
theorem fq_ps_15 : mp_FF cl_L wt_L "SupplyGrid$Prescription" 15 5 1 (.int) := ⟨cn_ps, ct_ps, 3, cf_ps, rfl, by decide, ci_ps, ww_408, co_ps, cm_ps, rfl, rfl, rfl⟩
theorem fg_ps_20 : mp_FL cl_L wt_L "SupplyGrid$Prescription" 20 5 2 := ⟨cn_ps, ct_ps, 3, rfl, by decide, ci_ps, Or.inl ww_409⟩
theorem fq_ps_20 : mp_FF cl_L wt_L "SupplyGrid$Prescription" 20 5 2 (.array (.object "SupplyGrid$Desk")) := ⟨cn_ps, ct_ps, 3, cf_ps, rfl, by decide, ci_ps, ww_409, co_ps, cm_ps, rfl, rfl, rfl⟩
theorem fg_sg_62 : mp_FL cl_L wt_L "SupplyGrid" 62 5 2 := ⟨cn_ps, ct_ps, 3, rfl, by decide, ci_ps, Or.inr ⟨_, ww_410⟩⟩
theorem fg_md_7 : mp_FL cl_L wt_L "SupplyGridModel" 7 7 0 := ⟨cn_md, ct_md, 28, rfl, by decide, ci_md, Or.inl ww_714⟩
theorem fq_md_7 : mp_FF cl_L wt_L "SupplyGridModel" 7 7 0 (.array (.int)) := ⟨cn_md, ct_md, 28, cf_md, rfl, by decide, ci_md, ww_714, co_md, cm_md, rfl, rfl, rfl⟩
theorem fg_md_13 : mp_FL cl_L wt_L "SupplyGridModel" 13 7 1 := ⟨cn_md, ct_md, 28, rfl, by decide, ci_md, Or.inl ww_715⟩
theorem fq_md_13 : mp_FF cl_L wt_L "SupplyGridModel" 13 7 1 (.array (.int)) := ⟨cn_md, ct_md, 28, cf_md, rfl, by decide, ci_md, ww_715, co_md, cm_md, rfl, rfl, rfl⟩
theorem fg_md_16 : mp_FL cl_L wt_L "SupplyGridModel" 16 7 2 := ⟨cn_md, ct_md, 28, rfl, by decide, ci_md, Or.inl ww_716⟩
theorem fq_md_16 : mp_FF cl_L wt_L "SupplyGridModel" 16 7 2 (.array (.boolean)) := ⟨cn_md, ct_md, 28, cf_md, rfl, by decide, ci_md, ww_716, co_md, cm_md, rfl, rfl, rfl⟩
theorem fg_md_20 : mp_FL cl_L wt_L "SupplyGridModel" 20 7 3 := ⟨cn_md, ct_md, 28, rfl, by decide, ci_md, Or.inl ww_717⟩
theorem fq_md_20 : mp_FF cl_L wt_L "SupplyGridModel" 20 7 3 (.array (.int)) := ⟨cn_md, ct_md, 28, cf_md, rfl, by decide, ci_md, ww_717, co_md, cm_md, rfl, rfl, rfl⟩
theorem fg_md_23 : mp_FL cl_L wt_L "SupplyGridModel" 23 7 4 := ⟨cn_md, ct_md, 28, rfl, by decide, ci_md, Or.inl ww_718⟩
theorem fq_md_23 : mp_FF cl_L wt_L "SupplyGridModel" 23 7 4 (.array (.int)) := ⟨cn_md, ct_md, 28, cf_md, rfl, by decide, ci_md, ww_718, co_md, cm_md, rfl, rfl, rfl⟩
theorem fg_md_26 : mp_FL cl_L wt_L "SupplyGridModel" 26 7 5 := ⟨cn_md, ct_md, 28, rfl, by decide, ci_md, Or.inl ww_719⟩
theorem fq_md_26 : mp_FF cl_L wt_L "SupplyGridModel" 26 7 5 (.array (.int)) := ⟨cn_md, ct_md, 28, cf_md, rfl, by decide, ci_md, ww_719, co_md, cm_md, rfl, rfl, rfl⟩
theorem fg_md_29 : mp_FL cl_L wt_L "SupplyGridModel" 29 7 6 := ⟨cn_md, ct_md, 28, rfl, by decide, ci_md, Or.inl ww_720⟩
theorem fq_md_29 : mp_FF cl_L wt_L "SupplyGridModel" 29 7 6 (.array (.int)) := ⟨cn_md, ct_md, 28, cf_md, rfl, by decide, ci_md, ww_720, co_md, cm_md, rfl, rfl, rfl⟩
theorem fg_md_32 : mp_FL cl_L wt_L "SupplyGridModel" 32 7 7 := ⟨cn_md, ct_md, 28, rfl, by decide, ci_md, Or.inl ww_721⟩
theorem fq_md_32 : mp_FF cl_L wt_L "SupplyGridModel" 32 7 7 (.array (.int)) := ⟨cn_md, ct_md, 28, cf_md, rfl, by decide, ci_md, ww_721, co_md, cm_md, rfl, rfl, rfl⟩
theorem fg_md_35 : mp_FL cl_L wt_L "SupplyGridModel" 35 7 8 := ⟨cn_md, ct_md, 28, rfl, by decide, ci_md, Or.inl ww_722⟩
theorem fq_md_35 : mp_FF cl_L wt_L "SupplyGridModel" 35 7 8 (.array (.int)) := ⟨cn_md, ct_md, 28, cf_md, rfl, by decide, ci_md, ww_722, co_md, cm_md, rfl, rfl, rfl⟩
theorem fg_md_38 : mp_FL cl_L wt_L "SupplyGridModel" 38 7 9 := ⟨cn_md, ct_md, 28, rfl, by decide, ci_md, Or.inl ww_723⟩
theorem fq_md_38 : mp_FF cl_L wt_L "SupplyGridModel" 38 7 9 (.array (.int)) := ⟨cn_md, ct_md, 28, cf_md, rfl, by decide, ci_md, ww_723, co_md, cm_md, rfl, rfl, rfl⟩
theorem fg_md_41 : mp_FL cl_L wt_L "SupplyGridModel" 41 7 10 := ⟨cn_md, ct_md, 28, rfl, by decide, ci_md, Or.inl ww_724⟩
theorem fq_md_41 : mp_FF cl_L wt_L "SupplyGridModel" 41 7 10 (.array (.int)) := ⟨cn_md, ct_md, 28, cf_md, rfl, by decide, ci_md, ww_724, co_md, cm_md, rfl, rfl, rfl⟩
theorem fg_md_44 : mp_FL cl_L wt_L "SupplyGridModel" 44 7 11 := ⟨cn_md, ct_md, 28, rfl, by decide, ci_md, Or.inl ww_725⟩
theorem fq_md_44 : mp_FF cl_L wt_L "SupplyGridModel" 44 7 11 (.array (.int)) := ⟨cn_md, ct_md, 28, cf_md, rfl, by decide, ci_md, ww_725, co_md, cm_md, rfl, rfl, rfl⟩
theorem fg_md_47 : mp_FL cl_L wt_L "SupplyGridModel" 47 7 12 := ⟨cn_md, ct_md, 28, rfl, by decide, ci_md, Or.inl ww_726⟩
theorem fq_md_47 : mp_FF cl_L wt_L "SupplyGridModel" 47 7 12 (.array (.int)) := ⟨cn_md, ct_md, 28, cf_md, rfl, by decide, ci_md, ww_726, co_md, cm_md, rfl, rfl, rfl⟩
theorem fg_md_50 : mp_FL cl_L wt_L "SupplyGridModel" 50 7 13 := ⟨cn_md, ct_md, 28, rfl, by decide, ci_md, Or.inl ww_727⟩
theorem fq_md_50 : mp_FF cl_L wt_L "SupplyGridModel" 50 7 13 (.array (.int)) := ⟨cn_md, ct_md, 28, cf_md, rfl, by decide, ci_md, ww_727, co_md, cm_md, rfl, rfl, rfl⟩
theorem fg_md_53 : mp_FL cl_L wt_L "SupplyGridModel" 53 7 14 := ⟨cn_md, ct_md, 28, rfl, by decide, ci_md, Or.inl ww_728⟩
theorem fq_md_53 : mp_FF cl_L wt_L "SupplyGridModel" 53 7 14 (.array (.int)) := ⟨cn_md, ct_md, 28, cf_md, rfl, by decide, ci_md, ww_728, co_md, cm_md, rfl, rfl, rfl⟩
theorem fg_md_56 : mp_FL cl_L wt_L "SupplyGridModel" 56 7 15 := ⟨cn_md, ct_md, 28, rfl, by decide, ci_md, Or.inl ww_729⟩
theorem fq_md_56 : mp_FF cl_L wt_L "SupplyGridModel" 56 7 15 (.array (.int)) := ⟨cn_md, ct_md, 28, cf_md, rfl, by decide, ci_md, ww_729, co_md, cm_md, rfl, rfl, rfl⟩
theorem fg_md_59 : mp_FL cl_L wt_L "SupplyGridModel" 59 7 16 := ⟨cn_md, ct_md, 28, rfl, by decide, ci_md, Or.inl ww_730⟩
theorem fq_md_59 : mp_FF cl_L wt_L "SupplyGridModel" 59 7 16 (.array (.int)) := ⟨cn_md, ct_md, 28, cf_md, rfl, by decide, ci_md, ww_730, co_md, cm_md, rfl, rfl, rfl⟩
theorem fg_md_62 : mp_FL cl_L wt_L "SupplyGridModel" 62 7 17 := ⟨cn_md, ct_md, 28, rfl, by decide, ci_md, Or.inl ww_731⟩
theorem fq_md_62 : mp_FF cl_L wt_L "SupplyGridModel" 62 7 17 (.array (.int)) := ⟨cn_md, ct_md, 28, cf_md, rfl, by decide, ci_md, ww_731, co_md, cm_md, rfl, rfl, rfl⟩
theorem fg_md_65 : mp_FL cl_L wt_L "SupplyGridModel" 65 7 18 := ⟨cn_md, ct_md, 28, rfl, by decide, ci_md, Or.inl ww_732⟩
theorem fq_md_65 : mp_FF cl_L wt_L "SupplyGridModel" 65 7 18 (.array (.int)) := ⟨cn_md, ct_md, 28, cf_md, rfl, by decide, ci_md, ww_732, co_md, cm_md, rfl, rfl, rfl⟩
theorem fg_md_68 : mp_FL cl_L wt_L "SupplyGridModel" 68 7 19 := ⟨cn_md, ct_md, 28, rfl, by decide, ci_md, Or.inl ww_733⟩
theorem fq_md_68 : mp_FF cl_L wt_L "SupplyGridModel" 68 7 19 (.array (.int)) := ⟨cn_md, ct_md, 28, cf_md, rfl, by decide, ci_md, ww_733, co_md, cm_md, rfl, rfl, rfl⟩
theorem fg_md_71 : mp_FL cl_L wt_L "SupplyGridModel" 71 7 20 := ⟨cn_md, ct_md, 28, rfl, by decide, ci_md, Or.inl ww_734⟩
theorem fq_md_71 : mp_FF cl_L wt_L "SupplyGridModel" 71 7 20 (.array (.int)) := ⟨cn_md, ct_md, 28, cf_md, rfl, by decide, ci_md, ww_734, co_md, cm_md, rfl, rfl, rfl⟩
theorem fg_md_74 : mp_FL cl_L wt_L "SupplyGridModel" 74 7 21 := ⟨cn_md, ct_md, 28, rfl, by decide, ci_md, Or.inl ww_735⟩
theorem fq_md_74 : mp_FF cl_L wt_L "SupplyGridModel" 74 7 21 (.array (.int)) := ⟨cn_md, ct_md, 28, cf_md, rfl, by decide, ci_md, ww_735, co_md, cm_md, rfl, rfl, rfl⟩
theorem fg_md_99 : mp_FL cl_L wt_L "SupplyGridModel" 99 7 22 := ⟨cn_md, ct_md, 28, rfl, by decide, ci_md, Or.inl ww_736⟩
theorem fp_md_99 : mp_FP cl_L wt_L "SupplyGridModel" 99 7 22 (.int) false := ⟨cn_md, ct_md, 28, cf_md, rfl, by decide, ci_md, Or.inl ww_736, co_md, cm_md, rfl, rfl⟩
theorem fg_md_77 : mp_FL cl_L wt_L "SupplyGridModel" 77 7 23 := ⟨cn_md, ct_md, 28, rfl, by decide, ci_md, Or.inl ww_737⟩
theorem fq_md_77 : mp_FF cl_L wt_L "SupplyGridModel" 77 7 23 (.array (.int)) := ⟨cn_md, ct_md, 28, cf_md, rfl, by decide, ci_md, ww_737, co_md, cm_md, rfl, rfl, rfl⟩
theorem fg_md_102 : mp_FL cl_L wt_L "SupplyGridModel" 102 7 24 := ⟨cn_md, ct_md, 28, rfl, by decide, ci_md, Or.inl ww_738⟩
theorem fp_md_102 : mp_FP cl_L wt_L "SupplyGridModel" 102 7 24 (.int) false := ⟨cn_md, ct_md, 28, cf_md, rfl, by decide, ci_md, Or.inl ww_738, co_md, cm_md, rfl, rfl⟩
theorem fg_md_144 : mp_FL cl_L wt_L "SupplyGridModel" 144 7 25 := ⟨cn_md, ct_md, 28, rfl, by decide, ci_md, Or.inl ww_739⟩
theorem fp_md_144 : mp_FP cl_L wt_L "SupplyGridModel" 144 7 25 (.int) false := ⟨cn_md, ct_md, 28, cf_md, rfl, by decide, ci_md, Or.inl ww_739, co_md, cm_md, rfl, rfl⟩
theorem fg_md_96 : mp_FL cl_L wt_L "SupplyGridModel" 96 7 26 := ⟨cn_md, ct_md, 28, rfl, by decide, ci_md, Or.inl ww_740⟩
theorem fp_md_96 : mp_FP cl_L wt_L "SupplyGridModel" 96 7 26 (.int) false := ⟨cn_md, ct_md, 28, cf_md, rfl, by decide, ci_md, Or.inl ww_740, co_md, cm_md, rfl, rfl⟩
theorem fg_md_80 : mp_FL cl_L wt_L "SupplyGridModel" 80 7 27 := ⟨cn_md, ct_md, 28, rfl, by decide, ci_md, Or.inl ww_741⟩
theorem fp_md_80 : mp_FP cl_L wt_L "SupplyGridModel" 80 7 27 (.int) false := ⟨cn_md, ct_md, 28, cf_md, rfl, by decide, ci_md, Or.inl ww_741, co_md, cm_md, rfl, rfl⟩
abbrev yy_sg_init : MethodName := ⟨"SupplyGrid", "<init>", "()V"⟩
theorem mn_sg_init : mp_Nm yy_sg_init 0 := ⟨Or.inl (by decide +kernel), ⟨by decide +kernel, by decide +kernel⟩, by decide +kernel⟩
theorem mc_sg_init : mp_Cw wt_L yy_sg_init prog_1_method_1_code 1 (Option.none : Option Jvm.ClassFile.FieldType) [] := Or.inl ⟨ww_73, rfl⟩
abbrev yy_dk_init : MethodName := ⟨"SupplyGrid$Desk", "<init>", "(II)V"⟩
theorem mn_dk_init : mp_Nm yy_dk_init 2 := ⟨Or.inl (by decide +kernel), ⟨by decide +kernel, by decide +kernel⟩, by decide +kernel⟩
theorem mc_dk_init : mp_Cw wt_L yy_dk_init prog_3_method_1_code 3 (Option.none : Option Jvm.ClassFile.FieldType) [] := Or.inl ⟨ww_83, rfl⟩
abbrev yy_pr_init : MethodName := ⟨"SupplyGrid$Pairs", "<init>", "()V"⟩
theorem mn_pr_init : mp_Nm yy_pr_init 0 := ⟨Or.inl (by decide +kernel), ⟨by decide +kernel, by decide +kernel⟩, by decide +kernel⟩
theorem mc_pr_init : mp_Cw wt_L yy_pr_init prog_6_method_1_code 1 (Option.none : Option Jvm.ClassFile.FieldType) [] := Or.inl ⟨ww_89, rfl⟩
abbrev yy_ak_init : MethodName := ⟨"SupplyGrid$Asking", "<init>", "()V"⟩
theorem mn_ak_init : mp_Nm yy_ak_init 0 := ⟨Or.inl (by decide +kernel), ⟨by decide +kernel, by decide +kernel⟩, by decide +kernel⟩
theorem mc_ak_init : mp_Cw wt_L yy_ak_init prog_2_method_1_code 1 (Option.none : Option Jvm.ClassFile.FieldType) [] := Or.inl ⟨ww_107, rfl⟩
abbrev yy_ak_end : MethodName := ⟨"SupplyGrid$Asking", "end", "()V"⟩
theorem mn_ak_end : mp_Nm yy_ak_end 0 := ⟨Or.inl (by decide +kernel), ⟨by decide +kernel, by decide +kernel⟩, by decide +kernel⟩
theorem mc_ak_end : mp_Cw wt_L yy_ak_end prog_2_method_3_code 1 (Option.none : Option Jvm.ClassFile.FieldType) [] := Or.inl ⟨ww_112, rfl⟩
abbrev yy_ak_forgetAnswers : MethodName := ⟨"SupplyGrid$Asking", "forgetAnswers", "()V"⟩
theorem mn_ak_forgetAnswers : mp_Nm yy_ak_forgetAnswers 0 := ⟨Or.inl (by decide +kernel), ⟨by decide +kernel, by decide +kernel⟩, by decide +kernel⟩
theorem mc_ak_forgetAnswers : mp_Cw wt_L yy_ak_forgetAnswers prog_2_method_7_code 1 (Option.none : Option Jvm.ClassFile.FieldType) [] := Or.inl ⟨ww_116, rfl⟩
abbrev yy_lr_init : MethodName := ⟨"SupplyGrid$LetterRow", "<init>", "()V"⟩
theorem mn_lr_init : mp_Nm yy_lr_init 0 := ⟨Or.inl (by decide +kernel), ⟨by decide +kernel, by decide +kernel⟩, by decide +kernel⟩
theorem mc_lr_init : mp_Cw wt_L yy_lr_init prog_5_method_1_code 2 (Option.none : Option Jvm.ClassFile.FieldType) [] := Or.inl ⟨ww_188, rfl⟩
abbrev yy_lt_init : MethodName := ⟨"SupplyGrid$Letter", "<init>", "()V"⟩
theorem mn_lt_init : mp_Nm yy_lt_init 0 := ⟨Or.inl (by decide +kernel), ⟨by decide +kernel, by decide +kernel⟩, by decide +kernel⟩
theorem mc_lt_init : mp_Cw wt_L yy_lt_init prog_4_method_1_code 1 (Option.none : Option Jvm.ClassFile.FieldType) [] := Or.inl ⟨ww_195, rfl⟩
abbrev yy_sg_pool : MethodName := ⟨"SupplyGrid", "pool", "()I"⟩
theorem mn_sg_pool : mp_Nm yy_sg_pool 0 := ⟨Or.inl (by decide +kernel), ⟨by decide +kernel, by decide +kernel⟩, by decide +kernel⟩
theorem mc_sg_pool : mp_Cw wt_L yy_sg_pool prog_1_method_11_code 1 (Option.some Jvm.ClassFile.FieldType.int) [] := Or.inl ⟨ww_288, rfl⟩
abbrev yy_sg_live : MethodName := ⟨"SupplyGrid", "live", "()I"⟩
theorem mn_sg_live : mp_Nm yy_sg_live 0 := ⟨Or.inl (by decide +kernel), ⟨by decide +kernel, by decide +kernel⟩, by decide +kernel⟩
theorem mc_sg_live : mp_Cw wt_L yy_sg_live prog_1_method_16_code 1 (Option.some Jvm.ClassFile.FieldType.int) [] := Or.inl ⟨ww_292, rfl⟩
abbrev yy_sg_touchesEachColumn : MethodName := ⟨"SupplyGrid", "touchesEachColumn", "(I)Z"⟩
theorem mn_sg_touchesEachColumn : mp_Nm yy_sg_touchesEachColumn 1 := ⟨Or.inl (by decide +kernel), ⟨by decide +kernel, by decide +kernel⟩, by decide +kernel⟩
theorem mc_sg_touchesEachColumn : mp_Cw wt_L yy_sg_touchesEachColumn prog_1_method_33_code 2 (Option.some Jvm.ClassFile.FieldType.boolean) [] := Or.inl ⟨ww_295, rfl⟩
abbrev yy_sg_holdsWholeColumn : MethodName := ⟨"SupplyGrid", "holdsWholeColumn", "(I)Z"⟩
theorem mn_sg_holdsWholeColumn : mp_Nm yy_sg_holdsWholeColumn 1 := ⟨Or.inl (by decide +kernel), ⟨by decide +kernel, by decide +kernel⟩, by decide +kernel⟩
theorem mc_sg_holdsWholeColumn : mp_Cw wt_L yy_sg_holdsWholeColumn prog_1_method_34_code 2 (Option.some Jvm.ClassFile.FieldType.boolean) [] := Or.inl ⟨ww_299, rfl⟩
abbrev yy_la_register : MethodName := ⟨"SupplyGridLaw", "register", "(LSupplyGrid;III)I"⟩
theorem mn_la_register : mp_Nm yy_la_register 4 := ⟨Or.inl (by decide +kernel), ⟨by decide +kernel, by decide +kernel⟩, by decide +kernel⟩
theorem mc_la_register : mp_Cw wt_L yy_la_register method_3_code 5 (Option.some Jvm.ClassFile.FieldType.int) [(0, 7, 10, 13), (0, 7, 14, 15)] := Or.inr ww_302
abbrev yy_sg_register : MethodName := ⟨"SupplyGrid", "register", "(III)V"⟩
theorem mn_sg_register : mp_Nm yy_sg_register 3 := ⟨Or.inl (by decide +kernel), ⟨by decide +kernel, by decide +kernel⟩, by decide +kernel⟩
theorem mc_sg_register : mp_Cw wt_L yy_sg_register prog_1_method_2_code 4 (Option.none : Option Jvm.ClassFile.FieldType) [] := Or.inl ⟨ww_308, rfl⟩
abbrev yy_sg_needPrescription : MethodName := ⟨"SupplyGrid", "needPrescription", "(I)V"⟩
theorem mn_sg_needPrescription : mp_Nm yy_sg_needPrescription 1 := ⟨Or.inl (by decide +kernel), ⟨by decide +kernel, by decide +kernel⟩, by decide +kernel⟩
theorem mc_sg_needPrescription : mp_Cw wt_L yy_sg_needPrescription prog_1_method_20_code 1 (Option.none : Option Jvm.ClassFile.FieldType) [] := Or.inl ⟨ww_311, rfl⟩
abbrev yy_sg_needWithin : MethodName := ⟨"SupplyGrid", "needWithin", "(III)V"⟩
theorem mn_sg_needWithin : mp_Nm yy_sg_needWithin 3 := ⟨Or.inl (by decide +kernel), ⟨by decide +kernel, by decide +kernel⟩, by decide +kernel⟩
theorem mc_sg_needWithin : mp_Cw wt_L yy_sg_needWithin prog_1_method_18_code 3 (Option.none : Option Jvm.ClassFile.FieldType) [] := Or.inl ⟨ww_381, rfl⟩
abbrev yy_ps_init : MethodName := ⟨"SupplyGrid$Prescription", "<init>", "(III)V"⟩
theorem mn_ps_init : mp_Nm yy_ps_init 3 := ⟨Or.inl (by decide +kernel), ⟨by decide +kernel, by decide +kernel⟩, by decide +kernel⟩
theorem mc_ps_init : mp_Cw wt_L yy_ps_init prog_7_method_1_code 5 (Option.none : Option Jvm.ClassFile.FieldType) [] := Or.inl ⟨ww_402, rfl⟩
abbrev yy_la_ask : MethodName := ⟨"SupplyGridLaw", "ask", "(LSupplyGrid;III[J)I"⟩
theorem mn_la_ask : mp_Nm yy_la_ask 5 := ⟨Or.inl (by decide +kernel), ⟨by decide +kernel, by decide +kernel⟩, by decide +kernel⟩
theorem mc_la_ask : mp_Cw wt_L yy_la_ask method_4_code 6 (Option.some Jvm.ClassFile.FieldType.int) [(0, 12, 15, 13), (0, 12, 19, 15)] := Or.inr ww_420
abbrev yy_sg_ask : MethodName := ⟨"SupplyGrid", "ask", "(III)I"⟩
theorem mn_sg_ask : mp_Nm yy_sg_ask 3 := ⟨Or.inl (by decide +kernel), ⟨by decide +kernel, by decide +kernel⟩, by decide +kernel⟩
theorem mc_sg_ask : mp_Cw wt_L yy_sg_ask prog_1_method_3_code 6 (Option.some Jvm.ClassFile.FieldType.int) [] := Or.inl ⟨ww_424, rfl⟩
abbrev yy_sg_needShop : MethodName := ⟨"SupplyGrid", "needShop", "(I)V"⟩
theorem mn_sg_needShop : mp_Nm yy_sg_needShop 1 := ⟨Or.inl (by decide +kernel), ⟨by decide +kernel, by decide +kernel⟩, by decide +kernel⟩
theorem mc_sg_needShop : mp_Cw wt_L yy_sg_needShop prog_1_method_19_code 1 (Option.none : Option Jvm.ClassFile.FieldType) [] := Or.inl ⟨ww_427, rfl⟩
abbrev yy_sg_needUp : MethodName := ⟨"SupplyGrid", "needUp", "(I)V"⟩
theorem mn_sg_needUp : mp_Nm yy_sg_needUp 1 := ⟨Or.inl (by decide +kernel), ⟨by decide +kernel, by decide +kernel⟩, by decide +kernel⟩
theorem mc_sg_needUp : mp_Cw wt_L yy_sg_needUp prog_1_method_22_code 2 (Option.none : Option Jvm.ClassFile.FieldType) [] := Or.inl ⟨ww_434, rfl⟩
abbrev yy_sg_isUp : MethodName := ⟨"SupplyGrid", "isUp", "(I)Z"⟩
theorem mn_sg_isUp : mp_Nm yy_sg_isUp 1 := ⟨Or.inl (by decide +kernel), ⟨by decide +kernel, by decide +kernel⟩, by decide +kernel⟩
theorem mc_sg_isUp : mp_Cw wt_L yy_sg_isUp prog_1_method_23_code 2 (Option.some Jvm.ClassFile.FieldType.boolean) [] := Or.inl ⟨ww_438, rfl⟩
abbrev yy_ps_letsAsk : MethodName := ⟨"SupplyGrid$Prescription", "letsAsk", "(LSupplyGrid$Desk;I)Z"⟩
theorem mn_ps_letsAsk : mp_Nm yy_ps_letsAsk 2 := ⟨Or.inl (by decide +kernel), ⟨by decide +kernel, by decide +kernel⟩, by decide +kernel⟩
theorem mc_ps_letsAsk : mp_Cw wt_L yy_ps_letsAsk prog_7_method_2_code 4 (Option.some Jvm.ClassFile.FieldType.boolean) [] := Or.inl ⟨ww_443, rfl⟩
abbrev yy_pr_last : MethodName := ⟨"SupplyGrid$Pairs", "last", "()I"⟩
theorem mn_pr_last : mp_Nm yy_pr_last 0 := ⟨Or.inl (by decide +kernel), ⟨by decide +kernel, by decide +kernel⟩, by decide +kernel⟩
theorem mc_pr_last : mp_Cw wt_L yy_pr_last prog_6_method_3_code 1 (Option.some Jvm.ClassFile.FieldType.int) [] := Or.inl ⟨ww_447, rfl⟩
abbrev yy_pr_of : MethodName := ⟨"SupplyGrid$Pairs", "of", "(I)I"⟩
theorem mn_pr_of : mp_Nm yy_pr_of 1 := ⟨Or.inl (by decide +kernel), ⟨by decide +kernel, by decide +kernel⟩, by decide +kernel⟩
theorem mc_pr_of : mp_Cw wt_L yy_pr_of prog_6_method_2_code 2 (Option.some Jvm.ClassFile.FieldType.int) [] := Or.inl ⟨ww_451, rfl⟩
abbrev yy_sg_dayOf : MethodName := ⟨"SupplyGrid", "dayOf", "(I)I"⟩
theorem mn_sg_dayOf : mp_Nm yy_sg_dayOf 1 := ⟨Or.inl (by decide +kernel), ⟨by decide +kernel, by decide +kernel⟩, by decide +kernel⟩
theorem mc_sg_dayOf : mp_Cw wt_L yy_sg_dayOf prog_1_method_37_code 1 (Option.some Jvm.ClassFile.FieldType.int) [] := Or.inl ⟨ww_454, rfl⟩
abbrev yy_dk_openSupply : MethodName := ⟨"SupplyGrid$Desk", "openSupply", "()I"⟩
theorem mn_dk_openSupply : mp_Nm yy_dk_openSupply 0 := ⟨Or.inl (by decide +kernel), ⟨by decide +kernel, by decide +kernel⟩, by decide +kernel⟩
theorem mc_dk_openSupply : mp_Cw wt_L yy_dk_openSupply prog_3_method_2_code 1 (Option.some Jvm.ClassFile.FieldType.int) [] := Or.inl ⟨ww_459, rfl⟩
abbrev yy_sg_pairOf : MethodName := ⟨"SupplyGrid", "pairOf", "(II)I"⟩
theorem mn_sg_pairOf : mp_Nm yy_sg_pairOf 2 := ⟨Or.inl (by decide +kernel), ⟨by decide +kernel, by decide +kernel⟩, by decide +kernel⟩
theorem mc_sg_pairOf : mp_Cw wt_L yy_sg_pairOf prog_1_method_35_code 2 (Option.some Jvm.ClassFile.FieldType.int) [] := Or.inl ⟨ww_462, rfl⟩
abbrev yy_ak_begin : MethodName := ⟨"SupplyGrid$Asking", "begin", "(II)V"⟩
theorem mn_ak_begin : mp_Nm yy_ak_begin 2 := ⟨Or.inl (by decide +kernel), ⟨by decide +kernel, by decide +kernel⟩, by decide +kernel⟩
theorem mc_ak_begin : mp_Cw wt_L yy_ak_begin prog_2_method_4_code 3 (Option.none : Option Jvm.ClassFile.FieldType) [] := Or.inl ⟨ww_466, rfl⟩
abbrev yy_sg_startRound : MethodName := ⟨"SupplyGrid", "startRound", "(LSupplyGrid$Desk;)I"⟩
theorem mn_sg_startRound : mp_Nm yy_sg_startRound 1 := ⟨Or.inl (by decide +kernel), ⟨by decide +kernel, by decide +kernel⟩, by decide +kernel⟩
theorem mc_sg_startRound : mp_Cw wt_L yy_sg_startRound prog_1_method_26_code 3 (Option.some Jvm.ClassFile.FieldType.int) [] := Or.inl ⟨ww_470, rfl⟩
abbrev yy_dk_nextNumber : MethodName := ⟨"SupplyGrid$Desk", "nextNumber", "()I"⟩
theorem mn_dk_nextNumber : mp_Nm yy_dk_nextNumber 0 := ⟨Or.inl (by decide +kernel), ⟨by decide +kernel, by decide +kernel⟩, by decide +kernel⟩
theorem mc_dk_nextNumber : mp_Cw wt_L yy_dk_nextNumber prog_3_method_6_code 3 (Option.some Jvm.ClassFile.FieldType.int) [] := Or.inl ⟨ww_474, rfl⟩
abbrev yy_jm_max : MethodName := ⟨"java/lang/Math", "max", "(II)I"⟩
theorem mn_jm_max : mp_Nm yy_jm_max 2 := ⟨Or.inr (by decide +kernel), ⟨by decide +kernel, by decide +kernel⟩, by decide +kernel⟩
theorem mc_jm_max : mp_Cw wt_L yy_jm_max prog_14_method_65_code 2 (Option.some Jvm.ClassFile.FieldType.int) [] := Or.inl ⟨ww_477, rfl⟩
abbrev yy_jm_floorDiv : MethodName := ⟨"java/lang/Math", "floorDiv", "(II)I"⟩
theorem mn_jm_floorDiv : mp_Nm yy_jm_floorDiv 2 := ⟨Or.inr (by decide +kernel), ⟨by decide +kernel, by decide +kernel⟩, by decide +kernel⟩
theorem mc_jm_floorDiv : mp_Cw wt_L yy_jm_floorDiv prog_14_method_47_code 3 (Option.some Jvm.ClassFile.FieldType.int) [] := Or.inl ⟨ww_480, rfl⟩
abbrev yy_ak_beginRound : MethodName := ⟨"SupplyGrid$Asking", "beginRound", "(I)V"⟩
theorem mn_ak_beginRound : mp_Nm yy_ak_beginRound 1 := ⟨Or.inl (by decide +kernel), ⟨by decide +kernel, by decide +kernel⟩, by decide +kernel⟩
theorem mc_ak_beginRound : mp_Cw wt_L yy_ak_beginRound prog_2_method_5_code 2 (Option.none : Option Jvm.ClassFile.FieldType) [] := Or.inl ⟨ww_485, rfl⟩
abbrev yy_sg_sendToAll : MethodName := ⟨"SupplyGrid", "sendToAll", "(LSupplyGrid$Desk;II)I"⟩
theorem mn_sg_sendToAll : mp_Nm yy_sg_sendToAll 3 := ⟨Or.inl (by decide +kernel), ⟨by decide +kernel, by decide +kernel⟩, by decide +kernel⟩
theorem mc_sg_sendToAll : mp_Cw wt_L yy_sg_sendToAll prog_1_method_27_code 6 (Option.some Jvm.ClassFile.FieldType.int) [] := Or.inl ⟨ww_489, rfl⟩
abbrev yy_lt_write : MethodName := ⟨"SupplyGrid$Letter", "write", "(IIIIILSupplyGrid$Pairs;)V"⟩
theorem mn_lt_write : mp_Nm yy_lt_write 6 := ⟨Or.inl (by decide +kernel), ⟨by decide +kernel, by decide +kernel⟩, by decide +kernel⟩
theorem mc_lt_write : mp_Cw wt_L yy_lt_write prog_4_method_2_code 7 (Option.none : Option Jvm.ClassFile.FieldType) [] := Or.inl ⟨ww_493, rfl⟩
abbrev yy_pr_become : MethodName := ⟨"SupplyGrid$Pairs", "become", "(LSupplyGrid$Pairs;)V"⟩
theorem mn_pr_become : mp_Nm yy_pr_become 1 := ⟨Or.inl (by decide +kernel), ⟨by decide +kernel, by decide +kernel⟩, by decide +kernel⟩
theorem mc_pr_become : mp_Cw wt_L yy_pr_become prog_6_method_6_code 3 (Option.none : Option Jvm.ClassFile.FieldType) [] := Or.inl ⟨ww_497, rfl⟩
abbrev yy_lr_send : MethodName := ⟨"SupplyGrid$LetterRow", "send", "(I)Z"⟩
theorem mn_lr_send : mp_Nm yy_lr_send 1 := ⟨Or.inl (by decide +kernel), ⟨by decide +kernel, by decide +kernel⟩, by decide +kernel⟩
theorem mc_lr_send : mp_Cw wt_L yy_lr_send prog_5_method_6_code 2 (Option.some Jvm.ClassFile.FieldType.boolean) [] := Or.inl ⟨ww_501, rfl⟩
abbrev yy_lr_place : MethodName := ⟨"SupplyGrid$LetterRow", "place", "(I)I"⟩
theorem mn_lr_place : mp_Nm yy_lr_place 1 := ⟨Or.inl (by decide +kernel), ⟨by decide +kernel, by decide +kernel⟩, by decide +kernel⟩
theorem mc_lr_place : mp_Cw wt_L yy_lr_place prog_5_method_2_code 2 (Option.some Jvm.ClassFile.FieldType.int) [] := Or.inl ⟨ww_505, rfl⟩
abbrev yy_lt_become : MethodName := ⟨"SupplyGrid$Letter", "become", "(LSupplyGrid$Letter;)V"⟩
theorem mn_lt_become : mp_Nm yy_lt_become 1 := ⟨Or.inl (by decide +kernel), ⟨by decide +kernel, by decide +kernel⟩, by decide +kernel⟩
theorem mc_lt_become : mp_Cw wt_L yy_lt_become prog_4_method_3_code 2 (Option.none : Option Jvm.ClassFile.FieldType) [] := Or.inl ⟨ww_509, rfl⟩
abbrev yy_la_retry : MethodName := ⟨"SupplyGridLaw", "retry", "(LSupplyGrid;II[J)I"⟩
theorem mn_la_retry : mp_Nm yy_la_retry 4 := ⟨Or.inl (by decide +kernel), ⟨by decide +kernel, by decide +kernel⟩, by decide +kernel⟩
theorem mc_la_retry : mp_Cw wt_L yy_la_retry method_5_code 5 (Option.some Jvm.ClassFile.FieldType.int) [(0, 10, 13, 13), (0, 10, 17, 15)] := Or.inr ww_512
abbrev yy_sg_retry : MethodName := ⟨"SupplyGrid", "retry", "(II)I"⟩
theorem mn_sg_retry : mp_Nm yy_sg_retry 2 := ⟨Or.inl (by decide +kernel), ⟨by decide +kernel, by decide +kernel⟩, by decide +kernel⟩
theorem mc_sg_retry : mp_Cw wt_L yy_sg_retry prog_1_method_4_code 4 (Option.some Jvm.ClassFile.FieldType.int) [] := Or.inl ⟨ww_516, rfl⟩
abbrev yy_sg_deskOf : MethodName := ⟨"SupplyGrid", "deskOf", "(II)LSupplyGrid$Desk;"⟩
theorem mn_sg_deskOf : mp_Nm yy_sg_deskOf 2 := ⟨Or.inl (by decide +kernel), ⟨by decide +kernel, by decide +kernel⟩, by decide +kernel⟩
theorem mc_sg_deskOf : mp_Cw wt_L yy_sg_deskOf prog_1_method_24_code 4 (Option.some (Jvm.ClassFile.FieldType.object "SupplyGrid$Desk")) [] := Or.inl ⟨ww_520, rfl⟩
abbrev yy_ak_runs : MethodName := ⟨"SupplyGrid$Asking", "runs", "()Z"⟩
theorem mn_ak_runs : mp_Nm yy_ak_runs 0 := ⟨Or.inl (by decide +kernel), ⟨by decide +kernel, by decide +kernel⟩, by decide +kernel⟩
theorem mc_ak_runs : mp_Cw wt_L yy_ak_runs prog_2_method_2_code 1 (Option.some Jvm.ClassFile.FieldType.boolean) [] := Or.inl ⟨ww_524, rfl⟩
abbrev yy_la_deliver : MethodName := ⟨"SupplyGridLaw", "deliver", "(LSupplyGrid;I[J)I"⟩
theorem mn_la_deliver : mp_Nm yy_la_deliver 3 := ⟨Or.inl (by decide +kernel), ⟨by decide +kernel, by decide +kernel⟩, by decide +kernel⟩
theorem mc_la_deliver : mp_Cw wt_L yy_la_deliver method_6_code 4 (Option.some Jvm.ClassFile.FieldType.int) [(0, 9, 12, 13)] := Or.inr ww_528
abbrev yy_sg_deliver : MethodName := ⟨"SupplyGrid", "deliver", "(I)I"⟩
theorem mn_sg_deliver : mp_Nm yy_sg_deliver 1 := ⟨Or.inl (by decide +kernel), ⟨by decide +kernel, by decide +kernel⟩, by decide +kernel⟩
theorem mc_sg_deliver : mp_Cw wt_L yy_sg_deliver prog_1_method_5_code 2 (Option.some Jvm.ClassFile.FieldType.int) [] := Or.inl ⟨ww_532, rfl⟩
abbrev yy_sg_needLetter : MethodName := ⟨"SupplyGrid", "needLetter", "(I)V"⟩
theorem mn_sg_needLetter : mp_Nm yy_sg_needLetter 1 := ⟨Or.inl (by decide +kernel), ⟨by decide +kernel, by decide +kernel⟩, by decide +kernel⟩
theorem mc_sg_needLetter : mp_Cw wt_L yy_sg_needLetter prog_1_method_21_code 2 (Option.none : Option Jvm.ClassFile.FieldType) [] := Or.inl ⟨ww_536, rfl⟩
abbrev yy_lr_take : MethodName := ⟨"SupplyGrid$LetterRow", "take", "(I)LSupplyGrid$Letter;"⟩
theorem mn_lr_take : mp_Nm yy_lr_take 1 := ⟨Or.inl (by decide +kernel), ⟨by decide +kernel, by decide +kernel⟩, by decide +kernel⟩
theorem mc_lr_take : mp_Cw wt_L yy_lr_take prog_5_method_4_code 4 (Option.some (Jvm.ClassFile.FieldType.object "SupplyGrid$Letter")) [] := Or.inl ⟨ww_541, rfl⟩
abbrev yy_lr_at : MethodName := ⟨"SupplyGrid$LetterRow", "at", "(I)LSupplyGrid$Letter;"⟩
theorem mn_lr_at : mp_Nm yy_lr_at 1 := ⟨Or.inl (by decide +kernel), ⟨by decide +kernel, by decide +kernel⟩, by decide +kernel⟩
theorem mc_lr_at : mp_Cw wt_L yy_lr_at prog_5_method_3_code 2 (Option.some (Jvm.ClassFile.FieldType.object "SupplyGrid$Letter")) [] := Or.inl ⟨ww_545, rfl⟩
abbrev yy_sg_handOver : MethodName := ⟨"SupplyGrid", "handOver", "(LSupplyGrid$Letter;)I"⟩
theorem mn_sg_handOver : mp_Nm yy_sg_handOver 1 := ⟨Or.inl (by decide +kernel), ⟨by decide +kernel, by decide +kernel⟩, by decide +kernel⟩
theorem mc_sg_handOver : mp_Cw wt_L yy_sg_handOver prog_1_method_28_code 3 (Option.some Jvm.ClassFile.FieldType.int) [] := Or.inl ⟨ww_549, rfl⟩
abbrev yy_dk_learnAll : MethodName := ⟨"SupplyGrid$Desk", "learnAll", "(LSupplyGrid$Pairs;)V"⟩
theorem mn_dk_learnAll : mp_Nm yy_dk_learnAll 1 := ⟨Or.inl (by decide +kernel), ⟨by decide +kernel, by decide +kernel⟩, by decide +kernel⟩
theorem mc_dk_learnAll : mp_Cw wt_L yy_dk_learnAll prog_3_method_3_code 2 (Option.none : Option Jvm.ClassFile.FieldType) [] := Or.inl ⟨ww_553, rfl⟩
abbrev yy_pr_addMissing : MethodName := ⟨"SupplyGrid$Pairs", "addMissing", "(LSupplyGrid$Pairs;)V"⟩
theorem mn_pr_addMissing : mp_Nm yy_pr_addMissing 1 := ⟨Or.inl (by decide +kernel), ⟨by decide +kernel, by decide +kernel⟩, by decide +kernel⟩
theorem mc_pr_addMissing : mp_Cw wt_L yy_pr_addMissing prog_6_method_5_code 3 (Option.none : Option Jvm.ClassFile.FieldType) [] := Or.inl ⟨ww_557, rfl⟩
abbrev yy_pr_add : MethodName := ⟨"SupplyGrid$Pairs", "add", "(I)V"⟩
theorem mn_pr_add : mp_Nm yy_pr_add 1 := ⟨Or.inl (by decide +kernel), ⟨by decide +kernel, by decide +kernel⟩, by decide +kernel⟩
theorem mc_pr_add : mp_Cw wt_L yy_pr_add prog_6_method_4_code 2 (Option.none : Option Jvm.ClassFile.FieldType) [] := Or.inl ⟨ww_561, rfl⟩
abbrev yy_dk_openNext : MethodName := ⟨"SupplyGrid$Desk", "openNext", "()V"⟩
theorem mn_dk_openNext : mp_Nm yy_dk_openNext 0 := ⟨Or.inl (by decide +kernel), ⟨by decide +kernel, by decide +kernel⟩, by decide +kernel⟩
theorem mc_dk_openNext : mp_Cw wt_L yy_dk_openNext prog_3_method_5_code 1 (Option.none : Option Jvm.ClassFile.FieldType) [] := Or.inl ⟨ww_565, rfl⟩
abbrev yy_sg_answerAsker : MethodName := ⟨"SupplyGrid", "answerAsker", "(LSupplyGrid$Desk;LSupplyGrid$Letter;)I"⟩
theorem mn_sg_answerAsker : mp_Nm yy_sg_answerAsker 2 := ⟨Or.inl (by decide +kernel), ⟨by decide +kernel, by decide +kernel⟩, by decide +kernel⟩
theorem mc_sg_answerAsker : mp_Cw wt_L yy_sg_answerAsker prog_1_method_29_code 3 (Option.some Jvm.ClassFile.FieldType.int) [] := Or.inl ⟨ww_570, rfl⟩
abbrev yy_sg_answer : MethodName := ⟨"SupplyGrid", "answer", "(LSupplyGrid$Desk;LSupplyGrid$Letter;III)I"⟩
theorem mn_sg_answer : mp_Nm yy_sg_answer 5 := ⟨Or.inl (by decide +kernel), ⟨by decide +kernel, by decide +kernel⟩, by decide +kernel⟩
theorem mc_sg_answer : mp_Cw wt_L yy_sg_answer prog_1_method_30_code 7 (Option.some Jvm.ClassFile.FieldType.int) [] := Or.inl ⟨ww_574, rfl⟩
abbrev yy_sg_countPromise : MethodName := ⟨"SupplyGrid", "countPromise", "(LSupplyGrid$Desk;LSupplyGrid$Letter;)I"⟩
theorem mn_sg_countPromise : mp_Nm yy_sg_countPromise 2 := ⟨Or.inl (by decide +kernel), ⟨by decide +kernel, by decide +kernel⟩, by decide +kernel⟩
theorem mc_sg_countPromise : mp_Cw wt_L yy_sg_countPromise prog_1_method_31_code 4 (Option.some Jvm.ClassFile.FieldType.int) [] := Or.inl ⟨ww_578, rfl⟩
abbrev yy_ak_waitsFor : MethodName := ⟨"SupplyGrid$Asking", "waitsFor", "(LSupplyGrid$Letter;I)Z"⟩
theorem mn_ak_waitsFor : mp_Nm yy_ak_waitsFor 2 := ⟨Or.inl (by decide +kernel), ⟨by decide +kernel, by decide +kernel⟩, by decide +kernel⟩
theorem mc_ak_waitsFor : mp_Cw wt_L yy_ak_waitsFor prog_2_method_8_code 3 (Option.some Jvm.ClassFile.FieldType.boolean) [] := Or.inl ⟨ww_582, rfl⟩
abbrev yy_ak_countAnswer : MethodName := ⟨"SupplyGrid$Asking", "countAnswer", "(LSupplyGrid$Letter;)V"⟩
theorem mn_ak_countAnswer : mp_Nm yy_ak_countAnswer 1 := ⟨Or.inl (by decide +kernel), ⟨by decide +kernel, by decide +kernel⟩, by decide +kernel⟩
theorem mc_ak_countAnswer : mp_Cw wt_L yy_ak_countAnswer prog_2_method_9_code 2 (Option.none : Option Jvm.ClassFile.FieldType) [] := Or.inl ⟨ww_586, rfl⟩
abbrev yy_ak_beginPhaseTwo : MethodName := ⟨"SupplyGrid$Asking", "beginPhaseTwo", "()V"⟩
theorem mn_ak_beginPhaseTwo : mp_Nm yy_ak_beginPhaseTwo 0 := ⟨Or.inl (by decide +kernel), ⟨by decide +kernel, by decide +kernel⟩, by decide +kernel⟩
theorem mc_ak_beginPhaseTwo : mp_Cw wt_L yy_ak_beginPhaseTwo prog_2_method_6_code 1 (Option.none : Option Jvm.ClassFile.FieldType) [] := Or.inl ⟨ww_590, rfl⟩
abbrev yy_sg_countAcceptance : MethodName := ⟨"SupplyGrid", "countAcceptance", "(LSupplyGrid$Desk;LSupplyGrid$Letter;)V"⟩
theorem mn_sg_countAcceptance : mp_Nm yy_sg_countAcceptance 2 := ⟨Or.inl (by decide +kernel), ⟨by decide +kernel, by decide +kernel⟩, by decide +kernel⟩
theorem mc_sg_countAcceptance : mp_Cw wt_L yy_sg_countAcceptance prog_1_method_32_code 3 (Option.none : Option Jvm.ClassFile.FieldType) [] := Or.inl ⟨ww_593, rfl⟩
abbrev yy_dk_learn : MethodName := ⟨"SupplyGrid$Desk", "learn", "(I)V"⟩
theorem mn_dk_learn : mp_Nm yy_dk_learn 1 := ⟨Or.inl (by decide +kernel), ⟨by decide +kernel, by decide +kernel⟩, by decide +kernel⟩
theorem mc_dk_learn : mp_Cw wt_L yy_dk_learn prog_3_method_4_code 2 (Option.none : Option Jvm.ClassFile.FieldType) [] := Or.inl ⟨ww_597, rfl⟩
abbrev yy_ak_hearRefusal : MethodName := ⟨"SupplyGrid$Asking", "hearRefusal", "(LSupplyGrid$Letter;)V"⟩
theorem mn_ak_hearRefusal : mp_Nm yy_ak_hearRefusal 1 := ⟨Or.inl (by decide +kernel), ⟨by decide +kernel, by decide +kernel⟩, by decide +kernel⟩
theorem mc_ak_hearRefusal : mp_Cw wt_L yy_ak_hearRefusal prog_2_method_10_code 2 (Option.none : Option Jvm.ClassFile.FieldType) [] := Or.inl ⟨ww_602, rfl⟩
abbrev yy_la_drop : MethodName := ⟨"SupplyGridLaw", "drop", "(LSupplyGrid;I[J)I"⟩
theorem mn_la_drop : mp_Nm yy_la_drop 3 := ⟨Or.inl (by decide +kernel), ⟨by decide +kernel, by decide +kernel⟩, by decide +kernel⟩
theorem mc_la_drop : mp_Cw wt_L yy_la_drop method_7_code 4 (Option.some Jvm.ClassFile.FieldType.int) [(0, 9, 12, 13)] := Or.inr ww_607
abbrev yy_sg_drop : MethodName := ⟨"SupplyGrid", "drop", "(I)I"⟩
theorem mn_sg_drop : mp_Nm yy_sg_drop 1 := ⟨Or.inl (by decide +kernel), ⟨by decide +kernel, by decide +kernel⟩, by decide +kernel⟩
theorem mc_sg_drop : mp_Cw wt_L yy_sg_drop prog_1_method_6_code 2 (Option.some Jvm.ClassFile.FieldType.int) [] := Or.inl ⟨ww_611, rfl⟩
abbrev yy_la_copy : MethodName := ⟨"SupplyGridLaw", "copy", "(LSupplyGrid;I[J)I"⟩
theorem mn_la_copy : mp_Nm yy_la_copy 3 := ⟨Or.inl (by decide +kernel), ⟨by decide +kernel, by decide +kernel⟩, by decide +kernel⟩
theorem mc_la_copy : mp_Cw wt_L yy_la_copy method_8_code 4 (Option.some Jvm.ClassFile.FieldType.int) [(0, 16, 19, 13)] := Or.inr ww_614
abbrev yy_sg_copy : MethodName := ⟨"SupplyGrid", "copy", "(I)Z"⟩
theorem mn_sg_copy : mp_Nm yy_sg_copy 1 := ⟨Or.inl (by decide +kernel), ⟨by decide +kernel, by decide +kernel⟩, by decide +kernel⟩
theorem mc_sg_copy : mp_Cw wt_L yy_sg_copy prog_1_method_7_code 2 (Option.some Jvm.ClassFile.FieldType.boolean) [] := Or.inl ⟨ww_618, rfl⟩
abbrev yy_lr_repeat : MethodName := ⟨"SupplyGrid$LetterRow", "repeat", "(I)Z"⟩
theorem mn_lr_repeat : mp_Nm yy_lr_repeat 1 := ⟨Or.inl (by decide +kernel), ⟨by decide +kernel, by decide +kernel⟩, by decide +kernel⟩
theorem mc_lr_repeat : mp_Cw wt_L yy_lr_repeat prog_5_method_5_code 2 (Option.some Jvm.ClassFile.FieldType.boolean) [] := Or.inl ⟨ww_622, rfl⟩
abbrev yy_la_deliverAll : MethodName := ⟨"SupplyGridLaw", "deliverAll", "(LSupplyGrid;I[J)I"⟩
theorem mn_la_deliverAll : mp_Nm yy_la_deliverAll 3 := ⟨Or.inl (by decide +kernel), ⟨by decide +kernel, by decide +kernel⟩, by decide +kernel⟩
theorem mc_la_deliverAll : mp_Cw wt_L yy_la_deliverAll method_9_code 4 (Option.some Jvm.ClassFile.FieldType.int) [(0, 9, 12, 13)] := Or.inr ww_625
abbrev yy_sg_deliverAll : MethodName := ⟨"SupplyGrid", "deliverAll", "(I)I"⟩
theorem mn_sg_deliverAll : mp_Nm yy_sg_deliverAll 1 := ⟨Or.inl (by decide +kernel), ⟨by decide +kernel, by decide +kernel⟩, by decide +kernel⟩
theorem mc_sg_deliverAll : mp_Cw wt_L yy_sg_deliverAll prog_1_method_8_code 3 (Option.some Jvm.ClassFile.FieldType.int) [] := Or.inl ⟨ww_629, rfl⟩
abbrev yy_la_up : MethodName := ⟨"SupplyGridLaw", "up", "(LSupplyGrid;IZ[J)I"⟩
theorem mn_la_up : mp_Nm yy_la_up 4 := ⟨Or.inl (by decide +kernel), ⟨by decide +kernel, by decide +kernel⟩, by decide +kernel⟩
theorem mc_la_up : mp_Cw wt_L yy_la_up method_10_code 5 (Option.some Jvm.ClassFile.FieldType.int) [(0, 17, 20, 13)] := Or.inr ww_632
abbrev yy_sg_up : MethodName := ⟨"SupplyGrid", "up", "(IZ)Z"⟩
theorem mn_sg_up : mp_Nm yy_sg_up 2 := ⟨Or.inl (by decide +kernel), ⟨by decide +kernel, by decide +kernel⟩, by decide +kernel⟩
theorem mc_sg_up : mp_Cw wt_L yy_sg_up prog_1_method_9_code 3 (Option.some Jvm.ClassFile.FieldType.boolean) [] := Or.inl ⟨ww_636, rfl⟩
abbrev yy_sg_endAskings : MethodName := ⟨"SupplyGrid", "endAskings", "(I)V"⟩
theorem mn_sg_endAskings : mp_Nm yy_sg_endAskings 1 := ⟨Or.inl (by decide +kernel), ⟨by decide +kernel, by decide +kernel⟩, by decide +kernel⟩
theorem mc_sg_endAskings : mp_Cw wt_L yy_sg_endAskings prog_1_method_25_code 4 (Option.none : Option Jvm.ClassFile.FieldType) [] := Or.inl ⟨ww_640, rfl⟩
abbrev yy_la_teach : MethodName := ⟨"SupplyGridLaw", "teach", "(LSupplyGrid;III[J)I"⟩
theorem mn_la_teach : mp_Nm yy_la_teach 5 := ⟨Or.inl (by decide +kernel), ⟨by decide +kernel, by decide +kernel⟩, by decide +kernel⟩
theorem mc_la_teach : mp_Cw wt_L yy_la_teach method_11_code 6 (Option.some Jvm.ClassFile.FieldType.int) [(0, 19, 22, 13), (0, 19, 26, 15)] := Or.inr ww_643
abbrev yy_sg_teach : MethodName := ⟨"SupplyGrid", "teach", "(III)Z"⟩
theorem mn_sg_teach : mp_Nm yy_sg_teach 3 := ⟨Or.inl (by decide +kernel), ⟨by decide +kernel, by decide +kernel⟩, by decide +kernel⟩
theorem mc_sg_teach : mp_Cw wt_L yy_sg_teach prog_1_method_10_code 4 (Option.some Jvm.ClassFile.FieldType.boolean) [] := Or.inl ⟨ww_647, rfl⟩
abbrev yy_la_letter : MethodName := ⟨"SupplyGridLaw", "letter", "(LSupplyGrid;II[J)I"⟩
theorem mn_la_letter : mp_Nm yy_la_letter 4 := ⟨Or.inl (by decide +kernel), ⟨by decide +kernel, by decide +kernel⟩, by decide +kernel⟩
theorem mc_la_letter : mp_Cw wt_L yy_la_letter method_12_code 5 (Option.some Jvm.ClassFile.FieldType.int) [(0, 10, 13, 13)] := Or.inr ww_650
abbrev yy_sg_letter : MethodName := ⟨"SupplyGrid", "letter", "(II)I"⟩
theorem mn_sg_letter : mp_Nm yy_sg_letter 2 := ⟨Or.inl (by decide +kernel), ⟨by decide +kernel, by decide +kernel⟩, by decide +kernel⟩
theorem mc_sg_letter : mp_Cw wt_L yy_sg_letter prog_1_method_12_code 3 (Option.some Jvm.ClassFile.FieldType.int) [] := Or.inl ⟨ww_654, rfl⟩
abbrev yy_lt_part : MethodName := ⟨"SupplyGrid$Letter", "part", "(I)I"⟩
theorem mn_lt_part : mp_Nm yy_lt_part 1 := ⟨Or.inl (by decide +kernel), ⟨by decide +kernel, by decide +kernel⟩, by decide +kernel⟩
theorem mc_lt_part : mp_Cw wt_L yy_lt_part prog_4_method_4_code 2 (Option.some Jvm.ClassFile.FieldType.int) [] := Or.inl ⟨ww_659, rfl⟩
abbrev yy_sg_shopOf : MethodName := ⟨"SupplyGrid", "shopOf", "(I)I"⟩
theorem mn_sg_shopOf : mp_Nm yy_sg_shopOf 1 := ⟨Or.inl (by decide +kernel), ⟨by decide +kernel, by decide +kernel⟩, by decide +kernel⟩
theorem mc_sg_shopOf : mp_Cw wt_L yy_sg_shopOf prog_1_method_36_code 1 (Option.some Jvm.ClassFile.FieldType.int) [] := Or.inl ⟨ww_662, rfl⟩
abbrev yy_la_state : MethodName := ⟨"SupplyGridLaw", "state", "(LSupplyGrid;II[J)I"⟩
theorem mn_la_state : mp_Nm yy_la_state 4 := ⟨Or.inl (by decide +kernel), ⟨by decide +kernel, by decide +kernel⟩, by decide +kernel⟩
theorem mc_la_state : mp_Cw wt_L yy_la_state method_13_code 5 (Option.some Jvm.ClassFile.FieldType.int) [(0, 10, 13, 13)] := Or.inr ww_666
abbrev yy_sg_state : MethodName := ⟨"SupplyGrid", "state", "(II)I"⟩
theorem mn_sg_state : mp_Nm yy_sg_state 2 := ⟨Or.inl (by decide +kernel), ⟨by decide +kernel, by decide +kernel⟩, by decide +kernel⟩
theorem mc_sg_state : mp_Cw wt_L yy_sg_state prog_1_method_13_code 4 (Option.some Jvm.ClassFile.FieldType.int) [] := Or.inl ⟨ww_670, rfl⟩
abbrev yy_la_granted : MethodName := ⟨"SupplyGridLaw", "granted", "(LSupplyGrid;IIIZ[J)I"⟩
theorem mn_la_granted : mp_Nm yy_la_granted 6 := ⟨Or.inl (by decide +kernel), ⟨by decide +kernel, by decide +kernel⟩, by decide +kernel⟩
theorem mc_la_granted : mp_Cw wt_L yy_la_granted method_14_code 7 (Option.some Jvm.ClassFile.FieldType.int) [(0, 14, 17, 13)] := Or.inr ww_675
abbrev yy_sg_granted : MethodName := ⟨"SupplyGrid", "granted", "(IIIZ)I"⟩
theorem mn_sg_granted : mp_Nm yy_sg_granted 4 := ⟨Or.inl (by decide +kernel), ⟨by decide +kernel, by decide +kernel⟩, by decide +kernel⟩
theorem mc_sg_granted : mp_Cw wt_L yy_sg_granted prog_1_method_14_code 6 (Option.some Jvm.ClassFile.FieldType.int) [] := Or.inl ⟨ww_679, rfl⟩
abbrev yy_la_kept : MethodName := ⟨"SupplyGridLaw", "kept", "(LSupplyGrid;III[J)I"⟩
theorem mn_la_kept : mp_Nm yy_la_kept 5 := ⟨Or.inl (by decide +kernel), ⟨by decide +kernel, by decide +kernel⟩, by decide +kernel⟩
theorem mc_la_kept : mp_Cw wt_L yy_la_kept method_15_code 6 (Option.some Jvm.ClassFile.FieldType.int) [(0, 12, 15, 13)] := Or.inr ww_684
abbrev yy_sg_kept : MethodName := ⟨"SupplyGrid", "kept", "(III)I"⟩
theorem mn_sg_kept : mp_Nm yy_sg_kept 3 := ⟨Or.inl (by decide +kernel), ⟨by decide +kernel, by decide +kernel⟩, by decide +kernel⟩
theorem mc_sg_kept : mp_Cw wt_L yy_sg_kept prog_1_method_15_code 4 (Option.some Jvm.ClassFile.FieldType.int) [] := Or.inl ⟨ww_688, rfl⟩
abbrev yy_dk_part : MethodName := ⟨"SupplyGrid$Desk", "part", "(I)I"⟩
theorem mn_dk_part : mp_Nm yy_dk_part 1 := ⟨Or.inl (by decide +kernel), ⟨by decide +kernel, by decide +kernel⟩, by decide +kernel⟩
theorem mc_dk_part : mp_Cw wt_L yy_dk_part prog_3_method_7_code 2 (Option.some Jvm.ClassFile.FieldType.int) [] := Or.inl ⟨ww_692, rfl⟩
abbrev yy_ji_bitCount : MethodName := ⟨"java/lang/Integer", "bitCount", "(I)I"⟩
theorem mn_ji_bitCount : mp_Nm yy_ji_bitCount 1 := ⟨Or.inl (by decide +kernel), ⟨by decide +kernel, by decide +kernel⟩, by decide +kernel⟩
theorem mc_ji_bitCount : mp_Cw wt_L yy_ji_bitCount prog_13_method_49_code 1 (Option.some Jvm.ClassFile.FieldType.int) [] := Or.inl ⟨ww_697, rfl⟩
abbrev yy_la_total : MethodName := ⟨"SupplyGridLaw", "total", "(LSupplyGrid;I[J)I"⟩
theorem mn_la_total : mp_Nm yy_la_total 3 := ⟨Or.inl (by decide +kernel), ⟨by decide +kernel, by decide +kernel⟩, by decide +kernel⟩
theorem mc_la_total : mp_Cw wt_L yy_la_total method_16_code 4 (Option.some Jvm.ClassFile.FieldType.int) [(0, 9, 12, 13)] := Or.inr ww_703
abbrev yy_sg_total : MethodName := ⟨"SupplyGrid", "total", "(I)I"⟩
theorem mn_sg_total : mp_Nm yy_sg_total 1 := ⟨Or.inl (by decide +kernel), ⟨by decide +kernel, by decide +kernel⟩, by decide +kernel⟩
theorem mc_sg_total : mp_Cw wt_L yy_sg_total prog_1_method_17_code 2 (Option.some Jvm.ClassFile.FieldType.int) [] := Or.inl ⟨ww_707, rfl⟩
abbrev yy_md_init : MethodName := ⟨"SupplyGridModel", "<init>", "()V"⟩
theorem mn_md_init : mp_Nm yy_md_init 0 := ⟨Or.inl (by decide +kernel), ⟨by decide +kernel, by decide +kernel⟩, by decide +kernel⟩
theorem mc_md_init : mp_Cw wt_L yy_md_init prog_9_method_1_code 1 (Option.none : Option Jvm.ClassFile.FieldType) [] := Or.inl ⟨ww_712, rfl⟩
abbrev yy_md_thrown : MethodName := ⟨"SupplyGridModel", "thrown", "()I"⟩
theorem mn_md_thrown : mp_Nm yy_md_thrown 0 := ⟨Or.inl (by decide +kernel), ⟨by decide +kernel, by decide +kernel⟩, by decide +kernel⟩
theorem mc_md_thrown : mp_Cw wt_L yy_md_thrown prog_9_method_2_code 1 (Option.some Jvm.ClassFile.FieldType.int) [] := Or.inl ⟨ww_803, rfl⟩
abbrev yy_md_register : MethodName := ⟨"SupplyGridModel", "register", "(III)V"⟩
theorem mn_md_register : mp_Nm yy_md_register 3 := ⟨Or.inl (by decide +kernel), ⟨by decide +kernel, by decide +kernel⟩, by decide +kernel⟩
theorem mc_md_register : mp_Cw wt_L yy_md_register prog_9_method_8_code 4 (Option.none : Option Jvm.ClassFile.FieldType) [] := Or.inl ⟨ww_807, rfl⟩
abbrev yy_md_isPrescription : MethodName := ⟨"SupplyGridModel", "isPrescription", "(I)Z"⟩
theorem mn_md_isPrescription : mp_Nm yy_md_isPrescription 1 := ⟨Or.inl (by decide +kernel), ⟨by decide +kernel, by decide +kernel⟩, by decide +kernel⟩
theorem mc_md_isPrescription : mp_Cw wt_L yy_md_isPrescription prog_9_method_6_code 1 (Option.some Jvm.ClassFile.FieldType.boolean) [] := Or.inl ⟨ww_810, rfl⟩
abbrev yy_md_within : MethodName := ⟨"SupplyGridModel", "within", "(II)Z"⟩
theorem mn_md_within : mp_Nm yy_md_within 2 := ⟨Or.inl (by decide +kernel), ⟨by decide +kernel, by decide +kernel⟩, by decide +kernel⟩
theorem mc_md_within : mp_Cw wt_L yy_md_within prog_9_method_4_code 2 (Option.some Jvm.ClassFile.FieldType.boolean) [] := Or.inl ⟨ww_813, rfl⟩
abbrev yy_md_fails : MethodName := ⟨"SupplyGridModel", "fails", "(ZI)Z"⟩
theorem mn_md_fails : mp_Nm yy_md_fails 2 := ⟨Or.inl (by decide +kernel), ⟨by decide +kernel, by decide +kernel⟩, by decide +kernel⟩
theorem mc_md_fails : mp_Cw wt_L yy_md_fails prog_9_method_3_code 3 (Option.some Jvm.ClassFile.FieldType.boolean) [] := Or.inl ⟨ww_817, rfl⟩
abbrev yy_md_ask : MethodName := ⟨"SupplyGridModel", "ask", "(III)I"⟩
theorem mn_md_ask : mp_Nm yy_md_ask 3 := ⟨Or.inl (by decide +kernel), ⟨by decide +kernel, by decide +kernel⟩, by decide +kernel⟩
theorem mc_md_ask : mp_Cw wt_L yy_md_ask prog_9_method_14_code 6 (Option.some Jvm.ClassFile.FieldType.int) [] := Or.inl ⟨ww_821, rfl⟩
abbrev yy_md_isShop : MethodName := ⟨"SupplyGridModel", "isShop", "(I)Z"⟩
theorem mn_md_isShop : mp_Nm yy_md_isShop 1 := ⟨Or.inl (by decide +kernel), ⟨by decide +kernel, by decide +kernel⟩, by decide +kernel⟩
theorem mc_md_isShop : mp_Cw wt_L yy_md_isShop prog_9_method_5_code 1 (Option.some Jvm.ClassFile.FieldType.boolean) [] := Or.inl ⟨ww_824, rfl⟩
abbrev yy_md_at : MethodName := ⟨"SupplyGridModel", "at", "(II)I"⟩
theorem mn_md_at : mp_Nm yy_md_at 2 := ⟨Or.inl (by decide +kernel), ⟨by decide +kernel, by decide +kernel⟩, by decide +kernel⟩
theorem mc_md_at : mp_Cw wt_L yy_md_at prog_9_method_7_code 2 (Option.some Jvm.ClassFile.FieldType.int) [] := Or.inl ⟨ww_828, rfl⟩
abbrev yy_md_endAsking : MethodName := ⟨"SupplyGridModel", "endAsking", "(I)V"⟩
theorem mn_md_endAsking : mp_Nm yy_md_endAsking 1 := ⟨Or.inl (by decide +kernel), ⟨by decide +kernel, by decide +kernel⟩, by decide +kernel⟩
theorem mc_md_endAsking : mp_Cw wt_L yy_md_endAsking prog_9_method_11_code 2 (Option.none : Option Jvm.ClassFile.FieldType) [] := Or.inl ⟨ww_832, rfl⟩
abbrev yy_md_round : MethodName := ⟨"SupplyGridModel", "round", "(II)I"⟩
theorem mn_md_round : mp_Nm yy_md_round 2 := ⟨Or.inl (by decide +kernel), ⟨by decide +kernel, by decide +kernel⟩, by decide +kernel⟩
theorem mc_md_round : mp_Cw wt_L yy_md_round prog_9_method_13_code 7 (Option.some Jvm.ClassFile.FieldType.int) [] := Or.inl ⟨ww_836, rfl⟩
abbrev yy_md_send : MethodName := ⟨"SupplyGridModel", "send", "(IIIIIIIII)V"⟩
theorem mn_md_send : mp_Nm yy_md_send 9 := ⟨Or.inl (by decide +kernel), ⟨by decide +kernel, by decide +kernel⟩, by decide +kernel⟩
theorem mc_md_send : mp_Cw wt_L yy_md_send prog_9_method_9_code 13 (Option.none : Option Jvm.ClassFile.FieldType) [] := Or.inl ⟨ww_840, rfl⟩
abbrev yy_md_retry : MethodName := ⟨"SupplyGridModel", "retry", "(II)I"⟩
theorem mn_md_retry : mp_Nm yy_md_retry 2 := ⟨Or.inl (by decide +kernel), ⟨by decide +kernel, by decide +kernel⟩, by decide +kernel⟩
theorem mc_md_retry : mp_Cw wt_L yy_md_retry prog_9_method_15_code 3 (Option.some Jvm.ClassFile.FieldType.int) [] := Or.inl ⟨ww_844, rfl⟩
abbrev yy_md_deliver : MethodName := ⟨"SupplyGridModel", "deliver", "(I)I"⟩
theorem mn_md_deliver : mp_Nm yy_md_deliver 1 := ⟨Or.inl (by decide +kernel), ⟨by decide +kernel, by decide +kernel⟩, by decide +kernel⟩
theorem mc_md_deliver : mp_Cw wt_L yy_md_deliver prog_9_method_22_code 2 (Option.some Jvm.ClassFile.FieldType.int) [] := Or.inl ⟨ww_848, rfl⟩
abbrev yy_md_handOver : MethodName := ⟨"SupplyGridModel", "handOver", "(I)I"⟩
theorem mn_md_handOver : mp_Nm yy_md_handOver 1 := ⟨Or.inl (by decide +kernel), ⟨by decide +kernel, by decide +kernel⟩, by decide +kernel⟩
theorem mc_md_handOver : mp_Cw wt_L yy_md_handOver prog_9_method_21_code 3 (Option.some Jvm.ClassFile.FieldType.int) [] := Or.inl ⟨ww_852, rfl⟩
abbrev yy_md_take : MethodName := ⟨"SupplyGridModel", "take", "(I)V"⟩
theorem mn_md_take : mp_Nm yy_md_take 1 := ⟨Or.inl (by decide +kernel), ⟨by decide +kernel, by decide +kernel⟩, by decide +kernel⟩
theorem mc_md_take : mp_Cw wt_L yy_md_take prog_9_method_10_code 3 (Option.none : Option Jvm.ClassFile.FieldType) [] := Or.inl ⟨ww_856, rfl⟩
abbrev yy_md_comes : MethodName := ⟨"SupplyGridModel", "comes", "()V"⟩
theorem mn_md_comes : mp_Nm yy_md_comes 0 := ⟨Or.inl (by decide +kernel), ⟨by decide +kernel, by decide +kernel⟩, by decide +kernel⟩
theorem mc_md_comes : mp_Cw wt_L yy_md_comes prog_9_method_18_code 8 (Option.none : Option Jvm.ClassFile.FieldType) [] := Or.inl ⟨ww_860, rfl⟩
abbrev yy_md_learn : MethodName := ⟨"SupplyGridModel", "learn", "(III)V"⟩
theorem mn_md_learn : mp_Nm yy_md_learn 3 := ⟨Or.inl (by decide +kernel), ⟨by decide +kernel, by decide +kernel⟩, by decide +kernel⟩
theorem mc_md_learn : mp_Cw wt_L yy_md_learn prog_9_method_12_code 4 (Option.none : Option Jvm.ClassFile.FieldType) [] := Or.inl ⟨ww_864, rfl⟩
abbrev yy_md_answers : MethodName := ⟨"SupplyGridModel", "answers", "(IZIIIII)V"⟩
theorem mn_md_answers : mp_Nm yy_md_answers 7 := ⟨Or.inl (by decide +kernel), ⟨by decide +kernel, by decide +kernel⟩, by decide +kernel⟩
theorem mc_md_answers : mp_Cw wt_L yy_md_answers prog_9_method_19_code 9 (Option.none : Option Jvm.ClassFile.FieldType) [] := Or.inl ⟨ww_868, rfl⟩
abbrev yy_md_promisedBy : MethodName := ⟨"SupplyGridModel", "promisedBy", "(IIIII)V"⟩
theorem mn_md_promisedBy : mp_Nm yy_md_promisedBy 5 := ⟨Or.inl (by decide +kernel), ⟨by decide +kernel, by decide +kernel⟩, by decide +kernel⟩
theorem mc_md_promisedBy : mp_Cw wt_L yy_md_promisedBy prog_9_method_20_code 7 (Option.none : Option Jvm.ClassFile.FieldType) [] := Or.inl ⟨ww_872, rfl⟩
abbrev yy_md_hasEachColumn : MethodName := ⟨"SupplyGridModel", "hasEachColumn", "(I)Z"⟩
theorem mn_md_hasEachColumn : mp_Nm yy_md_hasEachColumn 1 := ⟨Or.inl (by decide +kernel), ⟨by decide +kernel, by decide +kernel⟩, by decide +kernel⟩
theorem mc_md_hasEachColumn : mp_Cw wt_L yy_md_hasEachColumn prog_9_method_16_code 5 (Option.some Jvm.ClassFile.FieldType.boolean) [] := Or.inl ⟨ww_876, rfl⟩
abbrev yy_md_hasWholeColumn : MethodName := ⟨"SupplyGridModel", "hasWholeColumn", "(I)Z"⟩
theorem mn_md_hasWholeColumn : mp_Nm yy_md_hasWholeColumn 1 := ⟨Or.inl (by decide +kernel), ⟨by decide +kernel, by decide +kernel⟩, by decide +kernel⟩
theorem mc_md_hasWholeColumn : mp_Cw wt_L yy_md_hasWholeColumn prog_9_method_17_code 5 (Option.some Jvm.ClassFile.FieldType.boolean) [] := Or.inl ⟨ww_880, rfl⟩
abbrev yy_md_drop : MethodName := ⟨"SupplyGridModel", "drop", "(I)I"⟩
theorem mn_md_drop : mp_Nm yy_md_drop 1 := ⟨Or.inl (by decide +kernel), ⟨by decide +kernel, by decide +kernel⟩, by decide +kernel⟩
theorem mc_md_drop : mp_Cw wt_L yy_md_drop prog_9_method_23_code 2 (Option.some Jvm.ClassFile.FieldType.int) [] := Or.inl ⟨ww_884, rfl⟩
abbrev yy_md_copy : MethodName := ⟨"SupplyGridModel", "copy", "(I)Z"⟩
theorem mn_md_copy : mp_Nm yy_md_copy 1 := ⟨Or.inl (by decide +kernel), ⟨by decide +kernel, by decide +kernel⟩, by decide +kernel⟩
theorem mc_md_copy : mp_Cw wt_L yy_md_copy prog_9_method_24_code 3 (Option.some Jvm.ClassFile.FieldType.boolean) [] := Or.inl ⟨ww_888, rfl⟩
abbrev yy_md_deliverAll : MethodName := ⟨"SupplyGridModel", "deliverAll", "(I)I"⟩
theorem mn_md_deliverAll : mp_Nm yy_md_deliverAll 1 := ⟨Or.inl (by decide +kernel), ⟨by decide +kernel, by decide +kernel⟩, by decide +kernel⟩
theorem mc_md_deliverAll : mp_Cw wt_L yy_md_deliverAll prog_9_method_25_code 3 (Option.some Jvm.ClassFile.FieldType.int) [] := Or.inl ⟨ww_892, rfl⟩
abbrev yy_md_up : MethodName := ⟨"SupplyGridModel", "up", "(IZ)Z"⟩
theorem mn_md_up : mp_Nm yy_md_up 2 := ⟨Or.inl (by decide +kernel), ⟨by decide +kernel, by decide +kernel⟩, by decide +kernel⟩
theorem mc_md_up : mp_Cw wt_L yy_md_up prog_9_method_26_code 5 (Option.some Jvm.ClassFile.FieldType.boolean) [] := Or.inl ⟨ww_896, rfl⟩
abbrev yy_md_teach : MethodName := ⟨"SupplyGridModel", "teach", "(III)Z"⟩
theorem mn_md_teach : mp_Nm yy_md_teach 3 := ⟨Or.inl (by decide +kernel), ⟨by decide +kernel, by decide +kernel⟩, by decide +kernel⟩
theorem mc_md_teach : mp_Cw wt_L yy_md_teach prog_9_method_27_code 5 (Option.some Jvm.ClassFile.FieldType.boolean) [] := Or.inl ⟨ww_900, rfl⟩
abbrev yy_md_pool : MethodName := ⟨"SupplyGridModel", "pool", "()I"⟩
theorem mn_md_pool : mp_Nm yy_md_pool 0 := ⟨Or.inl (by decide +kernel), ⟨by decide +kernel, by decide +kernel⟩, by decide +kernel⟩
theorem mc_md_pool : mp_Cw wt_L yy_md_pool prog_9_method_28_code 1 (Option.some Jvm.ClassFile.FieldType.int) [] := Or.inl ⟨ww_904, rfl⟩
abbrev yy_md_letter : MethodName := ⟨"SupplyGridModel", "letter", "(II)I"⟩
theorem mn_md_letter : mp_Nm yy_md_letter 2 := ⟨Or.inl (by decide +kernel), ⟨by decide +kernel, by decide +kernel⟩, by decide +kernel⟩
theorem mc_md_letter : mp_Cw wt_L yy_md_letter prog_9_method_29_code 3 (Option.some Jvm.ClassFile.FieldType.int) [] := Or.inl ⟨ww_908, rfl⟩
abbrev yy_md_state : MethodName := ⟨"SupplyGridModel", "state", "(II)I"⟩
theorem mn_md_state : mp_Nm yy_md_state 2 := ⟨Or.inl (by decide +kernel), ⟨by decide +kernel, by decide +kernel⟩, by decide +kernel⟩
theorem mc_md_state : mp_Cw wt_L yy_md_state prog_9_method_30_code 4 (Option.some Jvm.ClassFile.FieldType.int) [] := Or.inl ⟨ww_912, rfl⟩
abbrev yy_md_granted : MethodName := ⟨"SupplyGridModel", "granted", "(IIIZ)I"⟩
theorem mn_md_granted : mp_Nm yy_md_granted 4 := ⟨Or.inl (by decide +kernel), ⟨by decide +kernel, by decide +kernel⟩, by decide +kernel⟩
theorem mc_md_granted : mp_Cw wt_L yy_md_granted prog_9_method_31_code 6 (Option.some Jvm.ClassFile.FieldType.int) [] := Or.inl ⟨ww_916, rfl⟩
abbrev yy_md_kept : MethodName := ⟨"SupplyGridModel", "kept", "(III)I"⟩
theorem mn_md_kept : mp_Nm yy_md_kept 3 := ⟨Or.inl (by decide +kernel), ⟨by decide +kernel, by decide +kernel⟩, by decide +kernel⟩
theorem mc_md_kept : mp_Cw wt_L yy_md_kept prog_9_method_32_code 7 (Option.some Jvm.ClassFile.FieldType.int) [] := Or.inl ⟨ww_920, rfl⟩
abbrev yy_md_live : MethodName := ⟨"SupplyGridModel", "live", "()I"⟩
theorem mn_md_live : mp_Nm yy_md_live 0 := ⟨Or.inl (by decide +kernel), ⟨by decide +kernel, by decide +kernel⟩, by decide +kernel⟩
theorem mc_md_live : mp_Cw wt_L yy_md_live prog_9_method_33_code 3 (Option.some Jvm.ClassFile.FieldType.int) [] := Or.inl ⟨ww_924, rfl⟩
abbrev yy_md_total : MethodName := ⟨"SupplyGridModel", "total", "(I)I"⟩
theorem mn_md_total : mp_Nm yy_md_total 1 := ⟨Or.inl (by decide +kernel), ⟨by decide +kernel, by decide +kernel⟩, by decide +kernel⟩
theorem mc_md_total : mp_Cw wt_L yy_md_total prog_9_method_34_code 2 (Option.some Jvm.ClassFile.FieldType.int) [] := Or.inl ⟨ww_928, rfl⟩
abbrev yy_la_law : MethodName := ⟨"SupplyGridLaw", "law", "([I)Z"⟩
end
section
/-! DECODE rows (printed by gen/parts.py). -/
theorem dd_dk_init_0 : decode prog_3_method_1_code 0 = .ok (.aload_n 0, 1) := by decide +kernel
theorem dd_dk_init_1 : decode prog_3_method_1_code 1 = .ok (.invokespecial 3, 3) := by decide +kernel
theorem dd_dk_init_4 : decode prog_3_method_1_code 4 = .ok (.aload_n 0, 1) := by decide +kernel
theorem dd_dk_init_5 : decode prog_3_method_1_code 5 = .ok (.iload_n 1, 1) := by decide +kernel
theorem dd_dk_init_6 : decode prog_3_method_1_code 6 = .ok (.putfield 9, 3) := by decide +kernel
theorem dd_dk_init_9 : decode prog_3_method_1_code 9 = .ok (.aload_n 0, 1) := by decide +kernel
theorem dd_dk_init_10 : decode prog_3_method_1_code 10 = .ok (.iload_n 2, 1) := by decide +kernel
theorem dd_dk_init_11 : decode prog_3_method_1_code 11 = .ok (.putfield 15, 3) := by decide +kernel
theorem dd_dk_init_14 : decode prog_3_method_1_code 14 = .ok (.aload_n 0, 1) := by decide +kernel
theorem dd_dk_init_15 : decode prog_3_method_1_code 15 = .ok (.new 18, 3) := by decide +kernel
theorem dd_dk_init_18 : decode prog_3_method_1_code 18 = .ok (.dup, 1) := by decide +kernel
theorem dd_dk_init_19 : decode prog_3_method_1_code 19 = .ok (.invokespecial 20, 3) := by decide +kernel
theorem dd_dk_init_22 : decode prog_3_method_1_code 22 = .ok (.putfield 21, 3) := by decide +kernel
theorem dd_dk_init_25 : decode prog_3_method_1_code 25 = .ok (.aload_n 0, 1) := by decide +kernel
theorem dd_dk_init_26 : decode prog_3_method_1_code 26 = .ok (.new 25, 3) := by decide +kernel
theorem dd_dk_init_29 : decode prog_3_method_1_code 29 = .ok (.dup, 1) := by decide +kernel
theorem dd_dk_init_30 : decode prog_3_method_1_code 30 = .ok (.invokespecial 27, 3) := by decide +kernel
theorem dd_dk_init_33 : decode prog_3_method_1_code 33 = .ok (.putfield 28, 3) := by decide +kernel
theorem dd_dk_init_36 : decode prog_3_method_1_code 36 = .ok (.aload_n 0, 1) := by decide +kernel
theorem dd_dk_init_37 : decode prog_3_method_1_code 37 = .ok (.iconst 0, 1) := by decide +kernel
theorem dd_dk_init_38 : decode prog_3_method_1_code 38 = .ok (.putfield 32, 3) := by decide +kernel
theorem dd_dk_init_41 : decode prog_3_method_1_code 41 = .ok (.aload_n 0, 1) := by decide +kernel
theorem dd_dk_init_42 : decode prog_3_method_1_code 42 = .ok (.iconst 0, 1) := by decide +kernel
theorem dd_dk_init_43 : decode prog_3_method_1_code 43 = .ok (.putfield 35, 3) := by decide +kernel
theorem dd_dk_init_46 : decode prog_3_method_1_code 46 = .ok (.aload_n 0, 1) := by decide +kernel
theorem dd_dk_init_47 : decode prog_3_method_1_code 47 = .ok (.iconst (-1), 1) := by decide +kernel
theorem dd_dk_init_48 : decode prog_3_method_1_code 48 = .ok (.putfield 38, 3) := by decide +kernel
theorem dd_dk_init_51 : decode prog_3_method_1_code 51 = .ok (.aload_n 0, 1) := by decide +kernel
theorem dd_dk_init_52 : decode prog_3_method_1_code 52 = .ok (.iconst 0, 1) := by decide +kernel
theorem dd_dk_init_53 : decode prog_3_method_1_code 53 = .ok (.putfield 41, 3) := by decide +kernel
theorem dd_dk_init_56 : decode prog_3_method_1_code 56 = .ok (.return_, 1) := by decide +kernel
theorem dd_pr_init_0 : decode prog_6_method_1_code 0 = .ok (.aload_n 0, 1) := by decide +kernel
theorem dd_pr_init_1 : decode prog_6_method_1_code 1 = .ok (.invokespecial 3, 3) := by decide +kernel
theorem dd_pr_init_4 : decode prog_6_method_1_code 4 = .ok (.aload_n 0, 1) := by decide +kernel
theorem dd_pr_init_5 : decode prog_6_method_1_code 5 = .ok (.bipush 12, 2) := by decide +kernel
theorem dd_pr_init_7 : decode prog_6_method_1_code 7 = .ok (.newarray .int, 2) := by decide +kernel
theorem dd_pr_init_9 : decode prog_6_method_1_code 9 = .ok (.putfield 9, 3) := by decide +kernel
theorem dd_pr_init_12 : decode prog_6_method_1_code 12 = .ok (.aload_n 0, 1) := by decide +kernel
theorem dd_pr_init_13 : decode prog_6_method_1_code 13 = .ok (.iconst 0, 1) := by decide +kernel
theorem dd_pr_init_14 : decode prog_6_method_1_code 14 = .ok (.putfield 15, 3) := by decide +kernel
theorem dd_pr_init_17 : decode prog_6_method_1_code 17 = .ok (.return_, 1) := by decide +kernel
theorem dd_ak_init_0 : decode prog_2_method_1_code 0 = .ok (.aload_n 0, 1) := by decide +kernel
theorem dd_ak_init_1 : decode prog_2_method_1_code 1 = .ok (.invokespecial 3, 3) := by decide +kernel
theorem dd_ak_init_4 : decode prog_2_method_1_code 4 = .ok (.aload_n 0, 1) := by decide +kernel
theorem dd_ak_init_5 : decode prog_2_method_1_code 5 = .ok (.invokevirtual 9, 3) := by decide +kernel
theorem dd_ak_init_8 : decode prog_2_method_1_code 8 = .ok (.return_, 1) := by decide +kernel
theorem dd_ak_end_0 : decode prog_2_method_3_code 0 = .ok (.aload_n 0, 1) := by decide +kernel
theorem dd_ak_end_1 : decode prog_2_method_3_code 1 = .ok (.iconst 0, 1) := by decide +kernel
theorem dd_ak_end_2 : decode prog_2_method_3_code 2 = .ok (.putfield 18, 3) := by decide +kernel
theorem dd_ak_end_5 : decode prog_2_method_3_code 5 = .ok (.aload_n 0, 1) := by decide +kernel
theorem dd_ak_end_6 : decode prog_2_method_3_code 6 = .ok (.iconst (-1), 1) := by decide +kernel
theorem dd_ak_end_7 : decode prog_2_method_3_code 7 = .ok (.putfield 21, 3) := by decide +kernel
theorem dd_ak_end_10 : decode prog_2_method_3_code 10 = .ok (.aload_n 0, 1) := by decide +kernel
theorem dd_ak_end_11 : decode prog_2_method_3_code 11 = .ok (.iconst 0, 1) := by decide +kernel
theorem dd_ak_end_12 : decode prog_2_method_3_code 12 = .ok (.putfield 24, 3) := by decide +kernel
theorem dd_ak_end_15 : decode prog_2_method_3_code 15 = .ok (.aload_n 0, 1) := by decide +kernel
theorem dd_ak_end_16 : decode prog_2_method_3_code 16 = .ok (.iconst 0, 1) := by decide +kernel
theorem dd_ak_end_17 : decode prog_2_method_3_code 17 = .ok (.putfield 14, 3) := by decide +kernel
theorem dd_ak_end_20 : decode prog_2_method_3_code 20 = .ok (.aload_n 0, 1) := by decide +kernel
theorem dd_ak_end_21 : decode prog_2_method_3_code 21 = .ok (.iconst 0, 1) := by decide +kernel
theorem dd_ak_end_22 : decode prog_2_method_3_code 22 = .ok (.putfield 27, 3) := by decide +kernel
theorem dd_ak_end_25 : decode prog_2_method_3_code 25 = .ok (.aload_n 0, 1) := by decide +kernel
theorem dd_ak_end_26 : decode prog_2_method_3_code 26 = .ok (.invokevirtual 30, 3) := by decide +kernel
theorem dd_ak_end_29 : decode prog_2_method_3_code 29 = .ok (.return_, 1) := by decide +kernel
theorem dd_ak_forgetAnswers_0 : decode prog_2_method_7_code 0 = .ok (.aload_n 0, 1) := by decide +kernel
theorem dd_ak_forgetAnswers_1 : decode prog_2_method_7_code 1 = .ok (.iconst 0, 1) := by decide +kernel
theorem dd_ak_forgetAnswers_2 : decode prog_2_method_7_code 2 = .ok (.putfield 39, 3) := by decide +kernel
theorem dd_ak_forgetAnswers_5 : decode prog_2_method_7_code 5 = .ok (.aload_n 0, 1) := by decide +kernel
theorem dd_ak_forgetAnswers_6 : decode prog_2_method_7_code 6 = .ok (.iconst 0, 1) := by decide +kernel
theorem dd_ak_forgetAnswers_7 : decode prog_2_method_7_code 7 = .ok (.putfield 33, 3) := by decide +kernel
theorem dd_ak_forgetAnswers_10 : decode prog_2_method_7_code 10 = .ok (.aload_n 0, 1) := by decide +kernel
theorem dd_ak_forgetAnswers_11 : decode prog_2_method_7_code 11 = .ok (.iconst (-1), 1) := by decide +kernel
theorem dd_ak_forgetAnswers_12 : decode prog_2_method_7_code 12 = .ok (.putfield 36, 3) := by decide +kernel
theorem dd_ak_forgetAnswers_15 : decode prog_2_method_7_code 15 = .ok (.return_, 1) := by decide +kernel
theorem dd_lr_init_0 : decode prog_5_method_1_code 0 = .ok (.aload_n 0, 1) := by decide +kernel
theorem dd_lr_init_1 : decode prog_5_method_1_code 1 = .ok (.invokespecial 3, 3) := by decide +kernel
theorem dd_lr_init_4 : decode prog_5_method_1_code 4 = .ok (.aload_n 0, 1) := by decide +kernel
theorem dd_lr_init_5 : decode prog_5_method_1_code 5 = .ok (.bipush 100, 2) := by decide +kernel
theorem dd_lr_init_7 : decode prog_5_method_1_code 7 = .ok (.anewarray 9, 3) := by decide +kernel
theorem dd_lr_init_10 : decode prog_5_method_1_code 10 = .ok (.putfield 11, 3) := by decide +kernel
theorem dd_lr_init_13 : decode prog_5_method_1_code 13 = .ok (.iconst 0, 1) := by decide +kernel
theorem dd_lr_init_14 : decode prog_5_method_1_code 14 = .ok (.istore_n 1, 1) := by decide +kernel
theorem dd_lr_init_15 : decode prog_5_method_1_code 15 = .ok (.iload_n 1, 1) := by decide +kernel
theorem dd_lr_init_16 : decode prog_5_method_1_code 16 = .ok (.bipush 100, 2) := by decide +kernel
theorem dd_lr_init_18 : decode prog_5_method_1_code 18 = .ok (.if_icmp .ge 22, 3) := by decide +kernel
theorem dd_lr_init_21 : decode prog_5_method_1_code 21 = .ok (.aload_n 0, 1) := by decide +kernel
theorem dd_lr_init_22 : decode prog_5_method_1_code 22 = .ok (.getfield 11, 3) := by decide +kernel
theorem dd_lr_init_25 : decode prog_5_method_1_code 25 = .ok (.iload_n 1, 1) := by decide +kernel
theorem dd_lr_init_26 : decode prog_5_method_1_code 26 = .ok (.new 9, 3) := by decide +kernel
theorem dd_lr_init_29 : decode prog_5_method_1_code 29 = .ok (.dup, 1) := by decide +kernel
theorem dd_lr_init_30 : decode prog_5_method_1_code 30 = .ok (.invokespecial 17, 3) := by decide +kernel
theorem dd_lr_init_33 : decode prog_5_method_1_code 33 = .ok (.aastore, 1) := by decide +kernel
theorem dd_lr_init_34 : decode prog_5_method_1_code 34 = .ok (.iinc 1 1, 3) := by decide +kernel
theorem dd_lr_init_37 : decode prog_5_method_1_code 37 = .ok (.goto (-22), 3) := by decide +kernel
theorem dd_lr_init_40 : decode prog_5_method_1_code 40 = .ok (.aload_n 0, 1) := by decide +kernel
theorem dd_lr_init_41 : decode prog_5_method_1_code 41 = .ok (.new 9, 3) := by decide +kernel
theorem dd_lr_init_44 : decode prog_5_method_1_code 44 = .ok (.dup, 1) := by decide +kernel
theorem dd_lr_init_45 : decode prog_5_method_1_code 45 = .ok (.invokespecial 17, 3) := by decide +kernel
theorem dd_lr_init_48 : decode prog_5_method_1_code 48 = .ok (.putfield 18, 3) := by decide +kernel
theorem dd_lr_init_51 : decode prog_5_method_1_code 51 = .ok (.aload_n 0, 1) := by decide +kernel
theorem dd_lr_init_52 : decode prog_5_method_1_code 52 = .ok (.new 9, 3) := by decide +kernel
theorem dd_lr_init_55 : decode prog_5_method_1_code 55 = .ok (.dup, 1) := by decide +kernel
theorem dd_lr_init_56 : decode prog_5_method_1_code 56 = .ok (.invokespecial 17, 3) := by decide +kernel
theorem dd_lr_init_59 : decode prog_5_method_1_code 59 = .ok (.putfield 22, 3) := by decide +kernel
theorem dd_lr_init_62 : decode prog_5_method_1_code 62 = .ok (.return_, 1) := by decide +kernel
theorem dd_lt_init_0 : decode prog_4_method_1_code 0 = .ok (.aload_n 0, 1) := by decide +kernel
theorem dd_lt_init_1 : decode prog_4_method_1_code 1 = .ok (.invokespecial 3, 3) := by decide +kernel
theorem dd_lt_init_4 : decode prog_4_method_1_code 4 = .ok (.aload_n 0, 1) := by decide +kernel
theorem dd_lt_init_5 : decode prog_4_method_1_code 5 = .ok (.new 9, 3) := by decide +kernel
theorem dd_lt_init_8 : decode prog_4_method_1_code 8 = .ok (.dup, 1) := by decide +kernel
theorem dd_lt_init_9 : decode prog_4_method_1_code 9 = .ok (.invokespecial 11, 3) := by decide +kernel
theorem dd_lt_init_12 : decode prog_4_method_1_code 12 = .ok (.putfield 12, 3) := by decide +kernel
theorem dd_lt_init_15 : decode prog_4_method_1_code 15 = .ok (.aload_n 0, 1) := by decide +kernel
theorem dd_lt_init_16 : decode prog_4_method_1_code 16 = .ok (.iconst (-1), 1) := by decide +kernel
theorem dd_lt_init_17 : decode prog_4_method_1_code 17 = .ok (.putfield 18, 3) := by decide +kernel
theorem dd_lt_init_20 : decode prog_4_method_1_code 20 = .ok (.return_, 1) := by decide +kernel
theorem dd_ps_init_0 : decode prog_7_method_1_code 0 = .ok (.aload_n 0, 1) := by decide +kernel
theorem dd_ps_init_1 : decode prog_7_method_1_code 1 = .ok (.invokespecial 3, 3) := by decide +kernel
theorem dd_ps_init_4 : decode prog_7_method_1_code 4 = .ok (.aload_n 0, 1) := by decide +kernel
theorem dd_ps_init_5 : decode prog_7_method_1_code 5 = .ok (.iload_n 2, 1) := by decide +kernel
theorem dd_ps_init_6 : decode prog_7_method_1_code 6 = .ok (.putfield 9, 3) := by decide +kernel
theorem dd_ps_init_9 : decode prog_7_method_1_code 9 = .ok (.aload_n 0, 1) := by decide +kernel
theorem dd_ps_init_10 : decode prog_7_method_1_code 10 = .ok (.iload_n 3, 1) := by decide +kernel
theorem dd_ps_init_11 : decode prog_7_method_1_code 11 = .ok (.putfield 15, 3) := by decide +kernel
theorem dd_ps_init_14 : decode prog_7_method_1_code 14 = .ok (.aload_n 0, 1) := by decide +kernel
theorem dd_ps_init_15 : decode prog_7_method_1_code 15 = .ok (.bipush 25, 2) := by decide +kernel
theorem dd_ps_init_17 : decode prog_7_method_1_code 17 = .ok (.anewarray 18, 3) := by decide +kernel
theorem dd_ps_init_20 : decode prog_7_method_1_code 20 = .ok (.putfield 20, 3) := by decide +kernel
theorem dd_ps_init_23 : decode prog_7_method_1_code 23 = .ok (.iconst 0, 1) := by decide +kernel
theorem dd_ps_init_24 : decode prog_7_method_1_code 24 = .ok (.istore 4, 2) := by decide +kernel
theorem dd_ps_init_26 : decode prog_7_method_1_code 26 = .ok (.iload 4, 2) := by decide +kernel
theorem dd_ps_init_28 : decode prog_7_method_1_code 28 = .ok (.bipush 25, 2) := by decide +kernel
theorem dd_ps_init_30 : decode prog_7_method_1_code 30 = .ok (.if_icmp .ge 26, 3) := by decide +kernel
theorem dd_ps_init_33 : decode prog_7_method_1_code 33 = .ok (.aload_n 0, 1) := by decide +kernel
theorem dd_ps_init_34 : decode prog_7_method_1_code 34 = .ok (.getfield 20, 3) := by decide +kernel
theorem dd_ps_init_37 : decode prog_7_method_1_code 37 = .ok (.iload 4, 2) := by decide +kernel
theorem dd_ps_init_39 : decode prog_7_method_1_code 39 = .ok (.new 18, 3) := by decide +kernel
theorem dd_ps_init_42 : decode prog_7_method_1_code 42 = .ok (.dup, 1) := by decide +kernel
theorem dd_ps_init_43 : decode prog_7_method_1_code 43 = .ok (.iload 4, 2) := by decide +kernel
theorem dd_ps_init_45 : decode prog_7_method_1_code 45 = .ok (.iload_n 1, 1) := by decide +kernel
theorem dd_ps_init_46 : decode prog_7_method_1_code 46 = .ok (.invokespecial 24, 3) := by decide +kernel
theorem dd_ps_init_49 : decode prog_7_method_1_code 49 = .ok (.aastore, 1) := by decide +kernel
theorem dd_ps_init_50 : decode prog_7_method_1_code 50 = .ok (.iinc 4 1, 3) := by decide +kernel
theorem dd_ps_init_53 : decode prog_7_method_1_code 53 = .ok (.goto (-27), 3) := by decide +kernel
theorem dd_ps_init_56 : decode prog_7_method_1_code 56 = .ok (.return_, 1) := by decide +kernel
theorem dd_ps_letsAsk_0 : decode prog_7_method_2_code 0 = .ok (.aload_n 1, 1) := by decide +kernel
theorem dd_ps_letsAsk_1 : decode prog_7_method_2_code 1 = .ok (.getfield 27, 3) := by decide +kernel
theorem dd_ps_letsAsk_4 : decode prog_7_method_2_code 4 = .ok (.astore_n 3, 1) := by decide +kernel
theorem dd_ps_letsAsk_5 : decode prog_7_method_2_code 5 = .ok (.aload_n 3, 1) := by decide +kernel
theorem dd_ps_letsAsk_6 : decode prog_7_method_2_code 6 = .ok (.getfield 31, 3) := by decide +kernel
theorem dd_ps_letsAsk_9 : decode prog_7_method_2_code 9 = .ok (.aload_n 0, 1) := by decide +kernel
theorem dd_ps_letsAsk_10 : decode prog_7_method_2_code 10 = .ok (.getfield 9, 3) := by decide +kernel
theorem dd_ps_letsAsk_13 : decode prog_7_method_2_code 13 = .ok (.if_icmp .lt 5, 3) := by decide +kernel
theorem dd_ps_letsAsk_16 : decode prog_7_method_2_code 16 = .ok (.iconst 0, 1) := by decide +kernel
theorem dd_ps_letsAsk_17 : decode prog_7_method_2_code 17 = .ok (.ireturn, 1) := by decide +kernel
theorem dd_ps_letsAsk_18 : decode prog_7_method_2_code 18 = .ok (.aload_n 3, 1) := by decide +kernel
theorem dd_ps_letsAsk_19 : decode prog_7_method_2_code 19 = .ok (.getfield 31, 3) := by decide +kernel
theorem dd_ps_letsAsk_22 : decode prog_7_method_2_code 22 = .ok (.ifCond .eq 19, 3) := by decide +kernel
theorem dd_ps_letsAsk_25 : decode prog_7_method_2_code 25 = .ok (.iload_n 2, 1) := by decide +kernel
theorem dd_ps_letsAsk_26 : decode prog_7_method_2_code 26 = .ok (.aload_n 3, 1) := by decide +kernel
theorem dd_ps_letsAsk_27 : decode prog_7_method_2_code 27 = .ok (.invokevirtual 36, 3) := by decide +kernel
theorem dd_ps_letsAsk_30 : decode prog_7_method_2_code 30 = .ok (.invokestatic 40, 3) := by decide +kernel
theorem dd_ps_letsAsk_33 : decode prog_7_method_2_code 33 = .ok (.isub, 1) := by decide +kernel
theorem dd_ps_letsAsk_34 : decode prog_7_method_2_code 34 = .ok (.aload_n 0, 1) := by decide +kernel
theorem dd_ps_letsAsk_35 : decode prog_7_method_2_code 35 = .ok (.getfield 15, 3) := by decide +kernel
theorem dd_ps_letsAsk_38 : decode prog_7_method_2_code 38 = .ok (.if_icmp .lt 7, 3) := by decide +kernel
theorem dd_ps_letsAsk_41 : decode prog_7_method_2_code 41 = .ok (.iconst 1, 1) := by decide +kernel
theorem dd_ps_letsAsk_42 : decode prog_7_method_2_code 42 = .ok (.goto 4, 3) := by decide +kernel
theorem dd_ps_letsAsk_45 : decode prog_7_method_2_code 45 = .ok (.iconst 0, 1) := by decide +kernel
theorem dd_ps_letsAsk_46 : decode prog_7_method_2_code 46 = .ok (.ireturn, 1) := by decide +kernel
theorem dd_pr_last_0 : decode prog_6_method_3_code 0 = .ok (.aload_n 0, 1) := by decide +kernel
theorem dd_pr_last_1 : decode prog_6_method_3_code 1 = .ok (.aload_n 0, 1) := by decide +kernel
theorem dd_pr_last_2 : decode prog_6_method_3_code 2 = .ok (.getfield 15, 3) := by decide +kernel
theorem dd_pr_last_5 : decode prog_6_method_3_code 5 = .ok (.invokevirtual 19, 3) := by decide +kernel
theorem dd_pr_last_8 : decode prog_6_method_3_code 8 = .ok (.ireturn, 1) := by decide +kernel
theorem dd_pr_of_0 : decode prog_6_method_2_code 0 = .ok (.iload_n 1, 1) := by decide +kernel
theorem dd_pr_of_1 : decode prog_6_method_2_code 1 = .ok (.iconst 1, 1) := by decide +kernel
theorem dd_pr_of_2 : decode prog_6_method_2_code 2 = .ok (.if_icmp .lt 11, 3) := by decide +kernel
theorem dd_pr_of_5 : decode prog_6_method_2_code 5 = .ok (.iload_n 1, 1) := by decide +kernel
theorem dd_pr_of_6 : decode prog_6_method_2_code 6 = .ok (.aload_n 0, 1) := by decide +kernel
theorem dd_pr_of_7 : decode prog_6_method_2_code 7 = .ok (.getfield 15, 3) := by decide +kernel
theorem dd_pr_of_10 : decode prog_6_method_2_code 10 = .ok (.if_icmp .le 7, 3) := by decide +kernel
theorem dd_pr_of_13 : decode prog_6_method_2_code 13 = .ok (.iconst (-1), 1) := by decide +kernel
theorem dd_pr_of_14 : decode prog_6_method_2_code 14 = .ok (.goto 11, 3) := by decide +kernel
theorem dd_pr_of_17 : decode prog_6_method_2_code 17 = .ok (.aload_n 0, 1) := by decide +kernel
theorem dd_pr_of_18 : decode prog_6_method_2_code 18 = .ok (.getfield 9, 3) := by decide +kernel
theorem dd_pr_of_21 : decode prog_6_method_2_code 21 = .ok (.iload_n 1, 1) := by decide +kernel
theorem dd_pr_of_22 : decode prog_6_method_2_code 22 = .ok (.iconst 1, 1) := by decide +kernel
theorem dd_pr_of_23 : decode prog_6_method_2_code 23 = .ok (.isub, 1) := by decide +kernel
theorem dd_pr_of_24 : decode prog_6_method_2_code 24 = .ok (.iaload, 1) := by decide +kernel
theorem dd_pr_of_25 : decode prog_6_method_2_code 25 = .ok (.ireturn, 1) := by decide +kernel
theorem dd_dk_openSupply_0 : decode prog_3_method_2_code 0 = .ok (.aload_n 0, 1) := by decide +kernel
theorem dd_dk_openSupply_1 : decode prog_3_method_2_code 1 = .ok (.getfield 21, 3) := by decide +kernel
theorem dd_dk_openSupply_4 : decode prog_3_method_2_code 4 = .ok (.getfield 44, 3) := by decide +kernel
theorem dd_dk_openSupply_7 : decode prog_3_method_2_code 7 = .ok (.iconst 1, 1) := by decide +kernel
theorem dd_dk_openSupply_8 : decode prog_3_method_2_code 8 = .ok (.iadd, 1) := by decide +kernel
theorem dd_dk_openSupply_9 : decode prog_3_method_2_code 9 = .ok (.ireturn, 1) := by decide +kernel
theorem dd_ak_begin_0 : decode prog_2_method_4_code 0 = .ok (.aload_n 0, 1) := by decide +kernel
theorem dd_ak_begin_1 : decode prog_2_method_4_code 1 = .ok (.invokevirtual 9, 3) := by decide +kernel
theorem dd_ak_begin_4 : decode prog_2_method_4_code 4 = .ok (.aload_n 0, 1) := by decide +kernel
theorem dd_ak_begin_5 : decode prog_2_method_4_code 5 = .ok (.iload_n 1, 1) := by decide +kernel
theorem dd_ak_begin_6 : decode prog_2_method_4_code 6 = .ok (.putfield 18, 3) := by decide +kernel
theorem dd_ak_begin_9 : decode prog_2_method_4_code 9 = .ok (.aload_n 0, 1) := by decide +kernel
theorem dd_ak_begin_10 : decode prog_2_method_4_code 10 = .ok (.iload_n 2, 1) := by decide +kernel
theorem dd_ak_begin_11 : decode prog_2_method_4_code 11 = .ok (.putfield 21, 3) := by decide +kernel
theorem dd_ak_begin_14 : decode prog_2_method_4_code 14 = .ok (.return_, 1) := by decide +kernel
theorem dd_dk_nextNumber_0 : decode prog_3_method_6_code 0 = .ok (.aload_n 0, 1) := by decide +kernel
theorem dd_dk_nextNumber_1 : decode prog_3_method_6_code 1 = .ok (.getfield 41, 3) := by decide +kernel
theorem dd_dk_nextNumber_4 : decode prog_3_method_6_code 4 = .ok (.aload_n 0, 1) := by decide +kernel
theorem dd_dk_nextNumber_5 : decode prog_3_method_6_code 5 = .ok (.getfield 32, 3) := by decide +kernel
theorem dd_dk_nextNumber_8 : decode prog_3_method_6_code 8 = .ok (.aload_n 0, 1) := by decide +kernel
theorem dd_dk_nextNumber_9 : decode prog_3_method_6_code 9 = .ok (.getfield 28, 3) := by decide +kernel
theorem dd_dk_nextNumber_12 : decode prog_3_method_6_code 12 = .ok (.getfield 61, 3) := by decide +kernel
theorem dd_dk_nextNumber_15 : decode prog_3_method_6_code 15 = .ok (.invokestatic 64, 3) := by decide +kernel
theorem dd_dk_nextNumber_18 : decode prog_3_method_6_code 18 = .ok (.invokestatic 64, 3) := by decide +kernel
theorem dd_dk_nextNumber_21 : decode prog_3_method_6_code 21 = .ok (.istore_n 1, 1) := by decide +kernel
theorem dd_dk_nextNumber_22 : decode prog_3_method_6_code 22 = .ok (.iconst 1, 1) := by decide +kernel
theorem dd_dk_nextNumber_23 : decode prog_3_method_6_code 23 = .ok (.iload_n 1, 1) := by decide +kernel
theorem dd_dk_nextNumber_24 : decode prog_3_method_6_code 24 = .ok (.aload_n 0, 1) := by decide +kernel
theorem dd_dk_nextNumber_25 : decode prog_3_method_6_code 25 = .ok (.getfield 9, 3) := by decide +kernel
theorem dd_dk_nextNumber_28 : decode prog_3_method_6_code 28 = .ok (.isub, 1) := by decide +kernel
theorem dd_dk_nextNumber_29 : decode prog_3_method_6_code 29 = .ok (.bipush 25, 2) := by decide +kernel
theorem dd_dk_nextNumber_31 : decode prog_3_method_6_code 31 = .ok (.invokestatic 70, 3) := by decide +kernel
theorem dd_dk_nextNumber_34 : decode prog_3_method_6_code 34 = .ok (.iconst 1, 1) := by decide +kernel
theorem dd_dk_nextNumber_35 : decode prog_3_method_6_code 35 = .ok (.iadd, 1) := by decide +kernel
theorem dd_dk_nextNumber_36 : decode prog_3_method_6_code 36 = .ok (.invokestatic 64, 3) := by decide +kernel
theorem dd_dk_nextNumber_39 : decode prog_3_method_6_code 39 = .ok (.istore_n 2, 1) := by decide +kernel
theorem dd_dk_nextNumber_40 : decode prog_3_method_6_code 40 = .ok (.iload_n 2, 1) := by decide +kernel
theorem dd_dk_nextNumber_41 : decode prog_3_method_6_code 41 = .ok (.sipush 1000, 3) := by decide +kernel
theorem dd_dk_nextNumber_44 : decode prog_3_method_6_code 44 = .ok (.if_icmp .le 7, 3) := by decide +kernel
theorem dd_dk_nextNumber_47 : decode prog_3_method_6_code 47 = .ok (.iconst 0, 1) := by decide +kernel
theorem dd_dk_nextNumber_48 : decode prog_3_method_6_code 48 = .ok (.goto 12, 3) := by decide +kernel
theorem dd_dk_nextNumber_51 : decode prog_3_method_6_code 51 = .ok (.iload_n 2, 1) := by decide +kernel
theorem dd_dk_nextNumber_52 : decode prog_3_method_6_code 52 = .ok (.bipush 25, 2) := by decide +kernel
theorem dd_dk_nextNumber_54 : decode prog_3_method_6_code 54 = .ok (.imul, 1) := by decide +kernel
theorem dd_dk_nextNumber_55 : decode prog_3_method_6_code 55 = .ok (.aload_n 0, 1) := by decide +kernel
theorem dd_dk_nextNumber_56 : decode prog_3_method_6_code 56 = .ok (.getfield 9, 3) := by decide +kernel
theorem dd_dk_nextNumber_59 : decode prog_3_method_6_code 59 = .ok (.iadd, 1) := by decide +kernel
theorem dd_dk_nextNumber_60 : decode prog_3_method_6_code 60 = .ok (.ireturn, 1) := by decide +kernel
theorem dd_jm_max_0 : decode prog_14_method_65_code 0 = .ok (.iload_n 0, 1) := by decide +kernel
theorem dd_jm_max_1 : decode prog_14_method_65_code 1 = .ok (.iload_n 1, 1) := by decide +kernel
theorem dd_jm_max_2 : decode prog_14_method_65_code 2 = .ok (.if_icmp .lt 7, 3) := by decide +kernel
theorem dd_jm_max_5 : decode prog_14_method_65_code 5 = .ok (.iload_n 0, 1) := by decide +kernel
theorem dd_jm_max_6 : decode prog_14_method_65_code 6 = .ok (.goto 4, 3) := by decide +kernel
theorem dd_jm_max_9 : decode prog_14_method_65_code 9 = .ok (.iload_n 1, 1) := by decide +kernel
theorem dd_jm_max_10 : decode prog_14_method_65_code 10 = .ok (.ireturn, 1) := by decide +kernel
theorem dd_jm_floorDiv_0 : decode prog_14_method_47_code 0 = .ok (.iload_n 0, 1) := by decide +kernel
theorem dd_jm_floorDiv_1 : decode prog_14_method_47_code 1 = .ok (.iload_n 1, 1) := by decide +kernel
theorem dd_jm_floorDiv_2 : decode prog_14_method_47_code 2 = .ok (.idiv, 1) := by decide +kernel
theorem dd_jm_floorDiv_3 : decode prog_14_method_47_code 3 = .ok (.istore_n 2, 1) := by decide +kernel
theorem dd_jm_floorDiv_4 : decode prog_14_method_47_code 4 = .ok (.iload_n 0, 1) := by decide +kernel
theorem dd_jm_floorDiv_5 : decode prog_14_method_47_code 5 = .ok (.iload_n 1, 1) := by decide +kernel
theorem dd_jm_floorDiv_6 : decode prog_14_method_47_code 6 = .ok (.ixor, 1) := by decide +kernel
theorem dd_jm_floorDiv_7 : decode prog_14_method_47_code 7 = .ok (.ifCond .ge 14, 3) := by decide +kernel
theorem dd_jm_floorDiv_10 : decode prog_14_method_47_code 10 = .ok (.iload_n 2, 1) := by decide +kernel
theorem dd_jm_floorDiv_11 : decode prog_14_method_47_code 11 = .ok (.iload_n 1, 1) := by decide +kernel
theorem dd_jm_floorDiv_12 : decode prog_14_method_47_code 12 = .ok (.imul, 1) := by decide +kernel
theorem dd_jm_floorDiv_13 : decode prog_14_method_47_code 13 = .ok (.iload_n 0, 1) := by decide +kernel
theorem dd_jm_floorDiv_14 : decode prog_14_method_47_code 14 = .ok (.if_icmp .eq 7, 3) := by decide +kernel
theorem dd_jm_floorDiv_17 : decode prog_14_method_47_code 17 = .ok (.iload_n 2, 1) := by decide +kernel
theorem dd_jm_floorDiv_18 : decode prog_14_method_47_code 18 = .ok (.iconst 1, 1) := by decide +kernel
theorem dd_jm_floorDiv_19 : decode prog_14_method_47_code 19 = .ok (.isub, 1) := by decide +kernel
theorem dd_jm_floorDiv_20 : decode prog_14_method_47_code 20 = .ok (.ireturn, 1) := by decide +kernel
theorem dd_jm_floorDiv_21 : decode prog_14_method_47_code 21 = .ok (.iload_n 2, 1) := by decide +kernel
theorem dd_jm_floorDiv_22 : decode prog_14_method_47_code 22 = .ok (.ireturn, 1) := by decide +kernel
theorem dd_ak_beginRound_0 : decode prog_2_method_5_code 0 = .ok (.aload_n 0, 1) := by decide +kernel
theorem dd_ak_beginRound_1 : decode prog_2_method_5_code 1 = .ok (.iload_n 1, 1) := by decide +kernel
theorem dd_ak_beginRound_2 : decode prog_2_method_5_code 2 = .ok (.putfield 24, 3) := by decide +kernel
theorem dd_ak_beginRound_5 : decode prog_2_method_5_code 5 = .ok (.aload_n 0, 1) := by decide +kernel
theorem dd_ak_beginRound_6 : decode prog_2_method_5_code 6 = .ok (.iconst 1, 1) := by decide +kernel
theorem dd_ak_beginRound_7 : decode prog_2_method_5_code 7 = .ok (.putfield 14, 3) := by decide +kernel
theorem dd_ak_beginRound_10 : decode prog_2_method_5_code 10 = .ok (.aload_n 0, 1) := by decide +kernel
theorem dd_ak_beginRound_11 : decode prog_2_method_5_code 11 = .ok (.invokevirtual 30, 3) := by decide +kernel
theorem dd_ak_beginRound_14 : decode prog_2_method_5_code 14 = .ok (.return_, 1) := by decide +kernel
theorem dd_lt_write_0 : decode prog_4_method_2_code 0 = .ok (.aload_n 0, 1) := by decide +kernel
theorem dd_lt_write_1 : decode prog_4_method_2_code 1 = .ok (.iload_n 1, 1) := by decide +kernel
theorem dd_lt_write_2 : decode prog_4_method_2_code 2 = .ok (.putfield 22, 3) := by decide +kernel
theorem dd_lt_write_5 : decode prog_4_method_2_code 5 = .ok (.aload_n 0, 1) := by decide +kernel
theorem dd_lt_write_6 : decode prog_4_method_2_code 6 = .ok (.iload_n 2, 1) := by decide +kernel
theorem dd_lt_write_7 : decode prog_4_method_2_code 7 = .ok (.putfield 25, 3) := by decide +kernel
theorem dd_lt_write_10 : decode prog_4_method_2_code 10 = .ok (.aload_n 0, 1) := by decide +kernel
theorem dd_lt_write_11 : decode prog_4_method_2_code 11 = .ok (.iload_n 3, 1) := by decide +kernel
theorem dd_lt_write_12 : decode prog_4_method_2_code 12 = .ok (.putfield 28, 3) := by decide +kernel
theorem dd_lt_write_15 : decode prog_4_method_2_code 15 = .ok (.aload_n 0, 1) := by decide +kernel
theorem dd_lt_write_16 : decode prog_4_method_2_code 16 = .ok (.iload 4, 2) := by decide +kernel
theorem dd_lt_write_18 : decode prog_4_method_2_code 18 = .ok (.putfield 31, 3) := by decide +kernel
theorem dd_lt_write_21 : decode prog_4_method_2_code 21 = .ok (.aload_n 0, 1) := by decide +kernel
theorem dd_lt_write_22 : decode prog_4_method_2_code 22 = .ok (.iload 5, 2) := by decide +kernel
theorem dd_lt_write_24 : decode prog_4_method_2_code 24 = .ok (.putfield 34, 3) := by decide +kernel
theorem dd_lt_write_27 : decode prog_4_method_2_code 27 = .ok (.aload_n 0, 1) := by decide +kernel
theorem dd_lt_write_28 : decode prog_4_method_2_code 28 = .ok (.iconst 0, 1) := by decide +kernel
theorem dd_lt_write_29 : decode prog_4_method_2_code 29 = .ok (.putfield 37, 3) := by decide +kernel
theorem dd_lt_write_32 : decode prog_4_method_2_code 32 = .ok (.aload_n 0, 1) := by decide +kernel
theorem dd_lt_write_33 : decode prog_4_method_2_code 33 = .ok (.iconst (-1), 1) := by decide +kernel
theorem dd_lt_write_34 : decode prog_4_method_2_code 34 = .ok (.putfield 18, 3) := by decide +kernel
theorem dd_lt_write_37 : decode prog_4_method_2_code 37 = .ok (.aload_n 0, 1) := by decide +kernel
theorem dd_lt_write_38 : decode prog_4_method_2_code 38 = .ok (.getfield 12, 3) := by decide +kernel
theorem dd_lt_write_41 : decode prog_4_method_2_code 41 = .ok (.aload 6, 2) := by decide +kernel
theorem dd_lt_write_43 : decode prog_4_method_2_code 43 = .ok (.invokevirtual 40, 3) := by decide +kernel
theorem dd_lt_write_46 : decode prog_4_method_2_code 46 = .ok (.return_, 1) := by decide +kernel
theorem dd_pr_become_0 : decode prog_6_method_6_code 0 = .ok (.aload_n 0, 1) := by decide +kernel
theorem dd_pr_become_1 : decode prog_6_method_6_code 1 = .ok (.aload_n 1, 1) := by decide +kernel
theorem dd_pr_become_2 : decode prog_6_method_6_code 2 = .ok (.getfield 15, 3) := by decide +kernel
theorem dd_pr_become_5 : decode prog_6_method_6_code 5 = .ok (.putfield 15, 3) := by decide +kernel
theorem dd_pr_become_8 : decode prog_6_method_6_code 8 = .ok (.iconst 0, 1) := by decide +kernel
theorem dd_pr_become_9 : decode prog_6_method_6_code 9 = .ok (.istore_n 2, 1) := by decide +kernel
theorem dd_pr_become_10 : decode prog_6_method_6_code 10 = .ok (.iload_n 2, 1) := by decide +kernel
theorem dd_pr_become_11 : decode prog_6_method_6_code 11 = .ok (.aload_n 0, 1) := by decide +kernel
theorem dd_pr_become_12 : decode prog_6_method_6_code 12 = .ok (.getfield 15, 3) := by decide +kernel
theorem dd_pr_become_15 : decode prog_6_method_6_code 15 = .ok (.if_icmp .ge 27, 3) := by decide +kernel
theorem dd_pr_become_18 : decode prog_6_method_6_code 18 = .ok (.iload_n 2, 1) := by decide +kernel
theorem dd_pr_become_19 : decode prog_6_method_6_code 19 = .ok (.bipush 12, 2) := by decide +kernel
theorem dd_pr_become_21 : decode prog_6_method_6_code 21 = .ok (.if_icmp .ge 21, 3) := by decide +kernel
theorem dd_pr_become_24 : decode prog_6_method_6_code 24 = .ok (.aload_n 0, 1) := by decide +kernel
theorem dd_pr_become_25 : decode prog_6_method_6_code 25 = .ok (.getfield 9, 3) := by decide +kernel
theorem dd_pr_become_28 : decode prog_6_method_6_code 28 = .ok (.iload_n 2, 1) := by decide +kernel
theorem dd_pr_become_29 : decode prog_6_method_6_code 29 = .ok (.aload_n 1, 1) := by decide +kernel
theorem dd_pr_become_30 : decode prog_6_method_6_code 30 = .ok (.getfield 9, 3) := by decide +kernel
theorem dd_pr_become_33 : decode prog_6_method_6_code 33 = .ok (.iload_n 2, 1) := by decide +kernel
theorem dd_pr_become_34 : decode prog_6_method_6_code 34 = .ok (.iaload, 1) := by decide +kernel
theorem dd_pr_become_35 : decode prog_6_method_6_code 35 = .ok (.iastore, 1) := by decide +kernel
theorem dd_pr_become_36 : decode prog_6_method_6_code 36 = .ok (.iinc 2 1, 3) := by decide +kernel
theorem dd_pr_become_39 : decode prog_6_method_6_code 39 = .ok (.goto (-29), 3) := by decide +kernel
theorem dd_pr_become_42 : decode prog_6_method_6_code 42 = .ok (.return_, 1) := by decide +kernel
theorem dd_lr_send_0 : decode prog_5_method_6_code 0 = .ok (.aload_n 0, 1) := by decide +kernel
theorem dd_lr_send_1 : decode prog_5_method_6_code 1 = .ok (.dup, 1) := by decide +kernel
theorem dd_lr_send_2 : decode prog_5_method_6_code 2 = .ok (.getfield 44, 3) := by decide +kernel
theorem dd_lr_send_5 : decode prog_5_method_6_code 5 = .ok (.iconst 1, 1) := by decide +kernel
theorem dd_lr_send_6 : decode prog_5_method_6_code 6 = .ok (.iadd, 1) := by decide +kernel
theorem dd_lr_send_7 : decode prog_5_method_6_code 7 = .ok (.putfield 44, 3) := by decide +kernel
theorem dd_lr_send_10 : decode prog_5_method_6_code 10 = .ok (.aload_n 0, 1) := by decide +kernel
theorem dd_lr_send_11 : decode prog_5_method_6_code 11 = .ok (.getfield 37, 3) := by decide +kernel
theorem dd_lr_send_14 : decode prog_5_method_6_code 14 = .ok (.bipush 100, 2) := by decide +kernel
theorem dd_lr_send_16 : decode prog_5_method_6_code 16 = .ok (.if_icmp .lt 15, 3) := by decide +kernel
theorem dd_lr_send_19 : decode prog_5_method_6_code 19 = .ok (.aload_n 0, 1) := by decide +kernel
theorem dd_lr_send_20 : decode prog_5_method_6_code 20 = .ok (.dup, 1) := by decide +kernel
theorem dd_lr_send_21 : decode prog_5_method_6_code 21 = .ok (.getfield 47, 3) := by decide +kernel
theorem dd_lr_send_24 : decode prog_5_method_6_code 24 = .ok (.iconst 1, 1) := by decide +kernel
theorem dd_lr_send_25 : decode prog_5_method_6_code 25 = .ok (.iadd, 1) := by decide +kernel
theorem dd_lr_send_26 : decode prog_5_method_6_code 26 = .ok (.putfield 47, 3) := by decide +kernel
theorem dd_lr_send_29 : decode prog_5_method_6_code 29 = .ok (.iconst 0, 1) := by decide +kernel
theorem dd_lr_send_30 : decode prog_5_method_6_code 30 = .ok (.ireturn, 1) := by decide +kernel
theorem dd_lr_send_31 : decode prog_5_method_6_code 31 = .ok (.aload_n 0, 1) := by decide +kernel
theorem dd_lr_send_32 : decode prog_5_method_6_code 32 = .ok (.getfield 18, 3) := by decide +kernel
theorem dd_lr_send_35 : decode prog_5_method_6_code 35 = .ok (.iload_n 1, 1) := by decide +kernel
theorem dd_lr_send_36 : decode prog_5_method_6_code 36 = .ok (.putfield 50, 3) := by decide +kernel
theorem dd_lr_send_39 : decode prog_5_method_6_code 39 = .ok (.aload_n 0, 1) := by decide +kernel
theorem dd_lr_send_40 : decode prog_5_method_6_code 40 = .ok (.getfield 11, 3) := by decide +kernel
theorem dd_lr_send_43 : decode prog_5_method_6_code 43 = .ok (.aload_n 0, 1) := by decide +kernel
theorem dd_lr_send_44 : decode prog_5_method_6_code 44 = .ok (.aload_n 0, 1) := by decide +kernel
theorem dd_lr_send_45 : decode prog_5_method_6_code 45 = .ok (.getfield 37, 3) := by decide +kernel
theorem dd_lr_send_48 : decode prog_5_method_6_code 48 = .ok (.invokevirtual 29, 3) := by decide +kernel
theorem dd_lr_send_51 : decode prog_5_method_6_code 51 = .ok (.aaload, 1) := by decide +kernel
theorem dd_lr_send_52 : decode prog_5_method_6_code 52 = .ok (.aload_n 0, 1) := by decide +kernel
theorem dd_lr_send_53 : decode prog_5_method_6_code 53 = .ok (.getfield 18, 3) := by decide +kernel
theorem dd_lr_send_56 : decode prog_5_method_6_code 56 = .ok (.invokevirtual 40, 3) := by decide +kernel
theorem dd_lr_send_59 : decode prog_5_method_6_code 59 = .ok (.aload_n 0, 1) := by decide +kernel
theorem dd_lr_send_60 : decode prog_5_method_6_code 60 = .ok (.dup, 1) := by decide +kernel
theorem dd_lr_send_61 : decode prog_5_method_6_code 61 = .ok (.getfield 37, 3) := by decide +kernel
theorem dd_lr_send_64 : decode prog_5_method_6_code 64 = .ok (.iconst 1, 1) := by decide +kernel
theorem dd_lr_send_65 : decode prog_5_method_6_code 65 = .ok (.iadd, 1) := by decide +kernel
theorem dd_lr_send_66 : decode prog_5_method_6_code 66 = .ok (.putfield 37, 3) := by decide +kernel
theorem dd_lr_send_69 : decode prog_5_method_6_code 69 = .ok (.iconst 1, 1) := by decide +kernel
theorem dd_lr_send_70 : decode prog_5_method_6_code 70 = .ok (.ireturn, 1) := by decide +kernel
theorem dd_lr_place_0 : decode prog_5_method_2_code 0 = .ok (.aload_n 0, 1) := by decide +kernel
theorem dd_lr_place_1 : decode prog_5_method_2_code 1 = .ok (.getfield 25, 3) := by decide +kernel
theorem dd_lr_place_4 : decode prog_5_method_2_code 4 = .ok (.iload_n 1, 1) := by decide +kernel
theorem dd_lr_place_5 : decode prog_5_method_2_code 5 = .ok (.iadd, 1) := by decide +kernel
theorem dd_lr_place_6 : decode prog_5_method_2_code 6 = .ok (.bipush 100, 2) := by decide +kernel
theorem dd_lr_place_8 : decode prog_5_method_2_code 8 = .ok (.irem, 1) := by decide +kernel
theorem dd_lr_place_9 : decode prog_5_method_2_code 9 = .ok (.ireturn, 1) := by decide +kernel
theorem dd_lt_become_0 : decode prog_4_method_3_code 0 = .ok (.aload_n 0, 1) := by decide +kernel
theorem dd_lt_become_1 : decode prog_4_method_3_code 1 = .ok (.aload_n 1, 1) := by decide +kernel
theorem dd_lt_become_2 : decode prog_4_method_3_code 2 = .ok (.getfield 22, 3) := by decide +kernel
theorem dd_lt_become_5 : decode prog_4_method_3_code 5 = .ok (.putfield 22, 3) := by decide +kernel
theorem dd_lt_become_8 : decode prog_4_method_3_code 8 = .ok (.aload_n 0, 1) := by decide +kernel
theorem dd_lt_become_9 : decode prog_4_method_3_code 9 = .ok (.aload_n 1, 1) := by decide +kernel
theorem dd_lt_become_10 : decode prog_4_method_3_code 10 = .ok (.getfield 25, 3) := by decide +kernel
theorem dd_lt_become_13 : decode prog_4_method_3_code 13 = .ok (.putfield 25, 3) := by decide +kernel
theorem dd_lt_become_16 : decode prog_4_method_3_code 16 = .ok (.aload_n 0, 1) := by decide +kernel
theorem dd_lt_become_17 : decode prog_4_method_3_code 17 = .ok (.aload_n 1, 1) := by decide +kernel
theorem dd_lt_become_18 : decode prog_4_method_3_code 18 = .ok (.getfield 44, 3) := by decide +kernel
theorem dd_lt_become_21 : decode prog_4_method_3_code 21 = .ok (.putfield 44, 3) := by decide +kernel
theorem dd_lt_become_24 : decode prog_4_method_3_code 24 = .ok (.aload_n 0, 1) := by decide +kernel
theorem dd_lt_become_25 : decode prog_4_method_3_code 25 = .ok (.aload_n 1, 1) := by decide +kernel
theorem dd_lt_become_26 : decode prog_4_method_3_code 26 = .ok (.getfield 28, 3) := by decide +kernel
theorem dd_lt_become_29 : decode prog_4_method_3_code 29 = .ok (.putfield 28, 3) := by decide +kernel
theorem dd_lt_become_32 : decode prog_4_method_3_code 32 = .ok (.aload_n 0, 1) := by decide +kernel
theorem dd_lt_become_33 : decode prog_4_method_3_code 33 = .ok (.aload_n 1, 1) := by decide +kernel
theorem dd_lt_become_34 : decode prog_4_method_3_code 34 = .ok (.getfield 31, 3) := by decide +kernel
theorem dd_lt_become_37 : decode prog_4_method_3_code 37 = .ok (.putfield 31, 3) := by decide +kernel
theorem dd_lt_become_40 : decode prog_4_method_3_code 40 = .ok (.aload_n 0, 1) := by decide +kernel
theorem dd_lt_become_41 : decode prog_4_method_3_code 41 = .ok (.aload_n 1, 1) := by decide +kernel
theorem dd_lt_become_42 : decode prog_4_method_3_code 42 = .ok (.getfield 34, 3) := by decide +kernel
theorem dd_lt_become_45 : decode prog_4_method_3_code 45 = .ok (.putfield 34, 3) := by decide +kernel
theorem dd_lt_become_48 : decode prog_4_method_3_code 48 = .ok (.aload_n 0, 1) := by decide +kernel
theorem dd_lt_become_49 : decode prog_4_method_3_code 49 = .ok (.aload_n 1, 1) := by decide +kernel
theorem dd_lt_become_50 : decode prog_4_method_3_code 50 = .ok (.getfield 37, 3) := by decide +kernel
theorem dd_lt_become_53 : decode prog_4_method_3_code 53 = .ok (.putfield 37, 3) := by decide +kernel
theorem dd_lt_become_56 : decode prog_4_method_3_code 56 = .ok (.aload_n 0, 1) := by decide +kernel
theorem dd_lt_become_57 : decode prog_4_method_3_code 57 = .ok (.aload_n 1, 1) := by decide +kernel
theorem dd_lt_become_58 : decode prog_4_method_3_code 58 = .ok (.getfield 18, 3) := by decide +kernel
theorem dd_lt_become_61 : decode prog_4_method_3_code 61 = .ok (.putfield 18, 3) := by decide +kernel
theorem dd_lt_become_64 : decode prog_4_method_3_code 64 = .ok (.aload_n 0, 1) := by decide +kernel
theorem dd_lt_become_65 : decode prog_4_method_3_code 65 = .ok (.getfield 12, 3) := by decide +kernel
theorem dd_lt_become_68 : decode prog_4_method_3_code 68 = .ok (.aload_n 1, 1) := by decide +kernel
theorem dd_lt_become_69 : decode prog_4_method_3_code 69 = .ok (.getfield 12, 3) := by decide +kernel
theorem dd_lt_become_72 : decode prog_4_method_3_code 72 = .ok (.invokevirtual 40, 3) := by decide +kernel
theorem dd_lt_become_75 : decode prog_4_method_3_code 75 = .ok (.return_, 1) := by decide +kernel
theorem dd_ak_runs_0 : decode prog_2_method_2_code 0 = .ok (.aload_n 0, 1) := by decide +kernel
theorem dd_ak_runs_1 : decode prog_2_method_2_code 1 = .ok (.getfield 14, 3) := by decide +kernel
theorem dd_ak_runs_4 : decode prog_2_method_2_code 4 = .ok (.ifCond .eq 7, 3) := by decide +kernel
theorem dd_ak_runs_7 : decode prog_2_method_2_code 7 = .ok (.iconst 1, 1) := by decide +kernel
theorem dd_ak_runs_8 : decode prog_2_method_2_code 8 = .ok (.goto 4, 3) := by decide +kernel
theorem dd_ak_runs_11 : decode prog_2_method_2_code 11 = .ok (.iconst 0, 1) := by decide +kernel
theorem dd_ak_runs_12 : decode prog_2_method_2_code 12 = .ok (.ireturn, 1) := by decide +kernel
theorem dd_lr_take_0 : decode prog_5_method_4_code 0 = .ok (.aload_n 0, 1) := by decide +kernel
theorem dd_lr_take_1 : decode prog_5_method_4_code 1 = .ok (.iload_n 1, 1) := by decide +kernel
theorem dd_lr_take_2 : decode prog_5_method_4_code 2 = .ok (.invokevirtual 33, 3) := by decide +kernel
theorem dd_lr_take_5 : decode prog_5_method_4_code 5 = .ok (.astore_n 2, 1) := by decide +kernel
theorem dd_lr_take_6 : decode prog_5_method_4_code 6 = .ok (.iload_n 1, 1) := by decide +kernel
theorem dd_lr_take_7 : decode prog_5_method_4_code 7 = .ok (.istore_n 3, 1) := by decide +kernel
theorem dd_lr_take_8 : decode prog_5_method_4_code 8 = .ok (.iload_n 3, 1) := by decide +kernel
theorem dd_lr_take_9 : decode prog_5_method_4_code 9 = .ok (.ifCond .le 31, 3) := by decide +kernel
theorem dd_lr_take_12 : decode prog_5_method_4_code 12 = .ok (.aload_n 0, 1) := by decide +kernel
theorem dd_lr_take_13 : decode prog_5_method_4_code 13 = .ok (.getfield 11, 3) := by decide +kernel
theorem dd_lr_take_16 : decode prog_5_method_4_code 16 = .ok (.aload_n 0, 1) := by decide +kernel
theorem dd_lr_take_17 : decode prog_5_method_4_code 17 = .ok (.iload_n 3, 1) := by decide +kernel
theorem dd_lr_take_18 : decode prog_5_method_4_code 18 = .ok (.invokevirtual 29, 3) := by decide +kernel
theorem dd_lr_take_21 : decode prog_5_method_4_code 21 = .ok (.aload_n 0, 1) := by decide +kernel
theorem dd_lr_take_22 : decode prog_5_method_4_code 22 = .ok (.getfield 11, 3) := by decide +kernel
theorem dd_lr_take_25 : decode prog_5_method_4_code 25 = .ok (.aload_n 0, 1) := by decide +kernel
theorem dd_lr_take_26 : decode prog_5_method_4_code 26 = .ok (.iload_n 3, 1) := by decide +kernel
theorem dd_lr_take_27 : decode prog_5_method_4_code 27 = .ok (.iconst 1, 1) := by decide +kernel
theorem dd_lr_take_28 : decode prog_5_method_4_code 28 = .ok (.isub, 1) := by decide +kernel
theorem dd_lr_take_29 : decode prog_5_method_4_code 29 = .ok (.invokevirtual 29, 3) := by decide +kernel
theorem dd_lr_take_32 : decode prog_5_method_4_code 32 = .ok (.aaload, 1) := by decide +kernel
theorem dd_lr_take_33 : decode prog_5_method_4_code 33 = .ok (.aastore, 1) := by decide +kernel
theorem dd_lr_take_34 : decode prog_5_method_4_code 34 = .ok (.iinc 3 (-1), 3) := by decide +kernel
theorem dd_lr_take_37 : decode prog_5_method_4_code 37 = .ok (.goto (-29), 3) := by decide +kernel
theorem dd_lr_take_40 : decode prog_5_method_4_code 40 = .ok (.aload_n 0, 1) := by decide +kernel
theorem dd_lr_take_41 : decode prog_5_method_4_code 41 = .ok (.getfield 11, 3) := by decide +kernel
theorem dd_lr_take_44 : decode prog_5_method_4_code 44 = .ok (.aload_n 0, 1) := by decide +kernel
theorem dd_lr_take_45 : decode prog_5_method_4_code 45 = .ok (.getfield 25, 3) := by decide +kernel
theorem dd_lr_take_48 : decode prog_5_method_4_code 48 = .ok (.aload_n 0, 1) := by decide +kernel
theorem dd_lr_take_49 : decode prog_5_method_4_code 49 = .ok (.getfield 22, 3) := by decide +kernel
theorem dd_lr_take_52 : decode prog_5_method_4_code 52 = .ok (.aastore, 1) := by decide +kernel
theorem dd_lr_take_53 : decode prog_5_method_4_code 53 = .ok (.aload_n 0, 1) := by decide +kernel
theorem dd_lr_take_54 : decode prog_5_method_4_code 54 = .ok (.aload_n 2, 1) := by decide +kernel
theorem dd_lr_take_55 : decode prog_5_method_4_code 55 = .ok (.putfield 22, 3) := by decide +kernel
theorem dd_lr_take_58 : decode prog_5_method_4_code 58 = .ok (.aload_n 0, 1) := by decide +kernel
theorem dd_lr_take_59 : decode prog_5_method_4_code 59 = .ok (.aload_n 0, 1) := by decide +kernel
theorem dd_lr_take_60 : decode prog_5_method_4_code 60 = .ok (.iconst 1, 1) := by decide +kernel
theorem dd_lr_take_61 : decode prog_5_method_4_code 61 = .ok (.invokevirtual 29, 3) := by decide +kernel
theorem dd_lr_take_64 : decode prog_5_method_4_code 64 = .ok (.putfield 25, 3) := by decide +kernel
theorem dd_lr_take_67 : decode prog_5_method_4_code 67 = .ok (.aload_n 0, 1) := by decide +kernel
theorem dd_lr_take_68 : decode prog_5_method_4_code 68 = .ok (.dup, 1) := by decide +kernel
theorem dd_lr_take_69 : decode prog_5_method_4_code 69 = .ok (.getfield 37, 3) := by decide +kernel
theorem dd_lr_take_72 : decode prog_5_method_4_code 72 = .ok (.iconst 1, 1) := by decide +kernel
theorem dd_lr_take_73 : decode prog_5_method_4_code 73 = .ok (.isub, 1) := by decide +kernel
theorem dd_lr_take_74 : decode prog_5_method_4_code 74 = .ok (.putfield 37, 3) := by decide +kernel
theorem dd_lr_take_77 : decode prog_5_method_4_code 77 = .ok (.aload_n 2, 1) := by decide +kernel
theorem dd_lr_take_78 : decode prog_5_method_4_code 78 = .ok (.areturn, 1) := by decide +kernel
theorem dd_lr_at_0 : decode prog_5_method_3_code 0 = .ok (.aload_n 0, 1) := by decide +kernel
theorem dd_lr_at_1 : decode prog_5_method_3_code 1 = .ok (.getfield 11, 3) := by decide +kernel
theorem dd_lr_at_4 : decode prog_5_method_3_code 4 = .ok (.aload_n 0, 1) := by decide +kernel
theorem dd_lr_at_5 : decode prog_5_method_3_code 5 = .ok (.iload_n 1, 1) := by decide +kernel
theorem dd_lr_at_6 : decode prog_5_method_3_code 6 = .ok (.invokevirtual 29, 3) := by decide +kernel
theorem dd_lr_at_9 : decode prog_5_method_3_code 9 = .ok (.aaload, 1) := by decide +kernel
theorem dd_lr_at_10 : decode prog_5_method_3_code 10 = .ok (.areturn, 1) := by decide +kernel
theorem dd_dk_learnAll_0 : decode prog_3_method_3_code 0 = .ok (.aload_n 1, 1) := by decide +kernel
theorem dd_dk_learnAll_1 : decode prog_3_method_3_code 1 = .ok (.getfield 44, 3) := by decide +kernel
theorem dd_dk_learnAll_4 : decode prog_3_method_3_code 4 = .ok (.aload_n 0, 1) := by decide +kernel
theorem dd_dk_learnAll_5 : decode prog_3_method_3_code 5 = .ok (.getfield 21, 3) := by decide +kernel
theorem dd_dk_learnAll_8 : decode prog_3_method_3_code 8 = .ok (.getfield 44, 3) := by decide +kernel
theorem dd_dk_learnAll_11 : decode prog_3_method_3_code 11 = .ok (.if_icmp .le 15, 3) := by decide +kernel
theorem dd_dk_learnAll_14 : decode prog_3_method_3_code 14 = .ok (.aload_n 0, 1) := by decide +kernel
theorem dd_dk_learnAll_15 : decode prog_3_method_3_code 15 = .ok (.getfield 21, 3) := by decide +kernel
theorem dd_dk_learnAll_18 : decode prog_3_method_3_code 18 = .ok (.aload_n 1, 1) := by decide +kernel
theorem dd_dk_learnAll_19 : decode prog_3_method_3_code 19 = .ok (.invokevirtual 47, 3) := by decide +kernel
theorem dd_dk_learnAll_22 : decode prog_3_method_3_code 22 = .ok (.aload_n 0, 1) := by decide +kernel
theorem dd_dk_learnAll_23 : decode prog_3_method_3_code 23 = .ok (.invokevirtual 51, 3) := by decide +kernel
theorem dd_dk_learnAll_26 : decode prog_3_method_3_code 26 = .ok (.return_, 1) := by decide +kernel
theorem dd_pr_addMissing_0 : decode prog_6_method_5_code 0 = .ok (.aload_n 0, 1) := by decide +kernel
theorem dd_pr_addMissing_1 : decode prog_6_method_5_code 1 = .ok (.getfield 15, 3) := by decide +kernel
theorem dd_pr_addMissing_4 : decode prog_6_method_5_code 4 = .ok (.iconst 1, 1) := by decide +kernel
theorem dd_pr_addMissing_5 : decode prog_6_method_5_code 5 = .ok (.iadd, 1) := by decide +kernel
theorem dd_pr_addMissing_6 : decode prog_6_method_5_code 6 = .ok (.istore_n 2, 1) := by decide +kernel
theorem dd_pr_addMissing_7 : decode prog_6_method_5_code 7 = .ok (.iload_n 2, 1) := by decide +kernel
theorem dd_pr_addMissing_8 : decode prog_6_method_5_code 8 = .ok (.aload_n 1, 1) := by decide +kernel
theorem dd_pr_addMissing_9 : decode prog_6_method_5_code 9 = .ok (.getfield 15, 3) := by decide +kernel
theorem dd_pr_addMissing_12 : decode prog_6_method_5_code 12 = .ok (.if_icmp .gt 18, 3) := by decide +kernel
theorem dd_pr_addMissing_15 : decode prog_6_method_5_code 15 = .ok (.aload_n 0, 1) := by decide +kernel
theorem dd_pr_addMissing_16 : decode prog_6_method_5_code 16 = .ok (.aload_n 1, 1) := by decide +kernel
theorem dd_pr_addMissing_17 : decode prog_6_method_5_code 17 = .ok (.iload_n 2, 1) := by decide +kernel
theorem dd_pr_addMissing_18 : decode prog_6_method_5_code 18 = .ok (.invokevirtual 19, 3) := by decide +kernel
theorem dd_pr_addMissing_21 : decode prog_6_method_5_code 21 = .ok (.invokevirtual 23, 3) := by decide +kernel
theorem dd_pr_addMissing_24 : decode prog_6_method_5_code 24 = .ok (.iinc 2 1, 3) := by decide +kernel
theorem dd_pr_addMissing_27 : decode prog_6_method_5_code 27 = .ok (.goto (-20), 3) := by decide +kernel
theorem dd_pr_addMissing_30 : decode prog_6_method_5_code 30 = .ok (.return_, 1) := by decide +kernel
theorem dd_pr_add_0 : decode prog_6_method_4_code 0 = .ok (.aload_n 0, 1) := by decide +kernel
theorem dd_pr_add_1 : decode prog_6_method_4_code 1 = .ok (.getfield 15, 3) := by decide +kernel
theorem dd_pr_add_4 : decode prog_6_method_4_code 4 = .ok (.bipush 12, 2) := by decide +kernel
theorem dd_pr_add_6 : decode prog_6_method_4_code 6 = .ok (.if_icmp .ge 23, 3) := by decide +kernel
theorem dd_pr_add_9 : decode prog_6_method_4_code 9 = .ok (.aload_n 0, 1) := by decide +kernel
theorem dd_pr_add_10 : decode prog_6_method_4_code 10 = .ok (.getfield 9, 3) := by decide +kernel
theorem dd_pr_add_13 : decode prog_6_method_4_code 13 = .ok (.aload_n 0, 1) := by decide +kernel
theorem dd_pr_add_14 : decode prog_6_method_4_code 14 = .ok (.getfield 15, 3) := by decide +kernel
theorem dd_pr_add_17 : decode prog_6_method_4_code 17 = .ok (.iload_n 1, 1) := by decide +kernel
theorem dd_pr_add_18 : decode prog_6_method_4_code 18 = .ok (.iastore, 1) := by decide +kernel
theorem dd_pr_add_19 : decode prog_6_method_4_code 19 = .ok (.aload_n 0, 1) := by decide +kernel
theorem dd_pr_add_20 : decode prog_6_method_4_code 20 = .ok (.dup, 1) := by decide +kernel
theorem dd_pr_add_21 : decode prog_6_method_4_code 21 = .ok (.getfield 15, 3) := by decide +kernel
theorem dd_pr_add_24 : decode prog_6_method_4_code 24 = .ok (.iconst 1, 1) := by decide +kernel
theorem dd_pr_add_25 : decode prog_6_method_4_code 25 = .ok (.iadd, 1) := by decide +kernel
theorem dd_pr_add_26 : decode prog_6_method_4_code 26 = .ok (.putfield 15, 3) := by decide +kernel
theorem dd_pr_add_29 : decode prog_6_method_4_code 29 = .ok (.return_, 1) := by decide +kernel
theorem dd_dk_openNext_0 : decode prog_3_method_5_code 0 = .ok (.aload_n 0, 1) := by decide +kernel
theorem dd_dk_openNext_1 : decode prog_3_method_5_code 1 = .ok (.iconst 0, 1) := by decide +kernel
theorem dd_dk_openNext_2 : decode prog_3_method_5_code 2 = .ok (.putfield 32, 3) := by decide +kernel
theorem dd_dk_openNext_5 : decode prog_3_method_5_code 5 = .ok (.aload_n 0, 1) := by decide +kernel
theorem dd_dk_openNext_6 : decode prog_3_method_5_code 6 = .ok (.iconst 0, 1) := by decide +kernel
theorem dd_dk_openNext_7 : decode prog_3_method_5_code 7 = .ok (.putfield 35, 3) := by decide +kernel
theorem dd_dk_openNext_10 : decode prog_3_method_5_code 10 = .ok (.aload_n 0, 1) := by decide +kernel
theorem dd_dk_openNext_11 : decode prog_3_method_5_code 11 = .ok (.iconst (-1), 1) := by decide +kernel
theorem dd_dk_openNext_12 : decode prog_3_method_5_code 12 = .ok (.putfield 38, 3) := by decide +kernel
theorem dd_dk_openNext_15 : decode prog_3_method_5_code 15 = .ok (.aload_n 0, 1) := by decide +kernel
theorem dd_dk_openNext_16 : decode prog_3_method_5_code 16 = .ok (.getfield 28, 3) := by decide +kernel
theorem dd_dk_openNext_19 : decode prog_3_method_5_code 19 = .ok (.invokevirtual 58, 3) := by decide +kernel
theorem dd_dk_openNext_22 : decode prog_3_method_5_code 22 = .ok (.return_, 1) := by decide +kernel
theorem dd_ak_waitsFor_0 : decode prog_2_method_8_code 0 = .ok (.aload_n 0, 1) := by decide +kernel
theorem dd_ak_waitsFor_1 : decode prog_2_method_8_code 1 = .ok (.getfield 14, 3) := by decide +kernel
theorem dd_ak_waitsFor_4 : decode prog_2_method_8_code 4 = .ok (.iload_n 2, 1) := by decide +kernel
theorem dd_ak_waitsFor_5 : decode prog_2_method_8_code 5 = .ok (.if_icmp .ne 29, 3) := by decide +kernel
theorem dd_ak_waitsFor_8 : decode prog_2_method_8_code 8 = .ok (.aload_n 1, 1) := by decide +kernel
theorem dd_ak_waitsFor_9 : decode prog_2_method_8_code 9 = .ok (.getfield 42, 3) := by decide +kernel
theorem dd_ak_waitsFor_12 : decode prog_2_method_8_code 12 = .ok (.aload_n 0, 1) := by decide +kernel
theorem dd_ak_waitsFor_13 : decode prog_2_method_8_code 13 = .ok (.getfield 18, 3) := by decide +kernel
theorem dd_ak_waitsFor_16 : decode prog_2_method_8_code 16 = .ok (.if_icmp .ne 18, 3) := by decide +kernel
theorem dd_ak_waitsFor_19 : decode prog_2_method_8_code 19 = .ok (.aload_n 1, 1) := by decide +kernel
theorem dd_ak_waitsFor_20 : decode prog_2_method_8_code 20 = .ok (.getfield 45, 3) := by decide +kernel
theorem dd_ak_waitsFor_23 : decode prog_2_method_8_code 23 = .ok (.aload_n 0, 1) := by decide +kernel
theorem dd_ak_waitsFor_24 : decode prog_2_method_8_code 24 = .ok (.getfield 24, 3) := by decide +kernel
theorem dd_ak_waitsFor_27 : decode prog_2_method_8_code 27 = .ok (.if_icmp .ne 7, 3) := by decide +kernel
theorem dd_ak_waitsFor_30 : decode prog_2_method_8_code 30 = .ok (.iconst 1, 1) := by decide +kernel
theorem dd_ak_waitsFor_31 : decode prog_2_method_8_code 31 = .ok (.goto 4, 3) := by decide +kernel
theorem dd_ak_waitsFor_34 : decode prog_2_method_8_code 34 = .ok (.iconst 0, 1) := by decide +kernel
theorem dd_ak_waitsFor_35 : decode prog_2_method_8_code 35 = .ok (.ireturn, 1) := by decide +kernel
theorem dd_ak_countAnswer_0 : decode prog_2_method_9_code 0 = .ok (.aload_n 0, 1) := by decide +kernel
theorem dd_ak_countAnswer_1 : decode prog_2_method_9_code 1 = .ok (.dup, 1) := by decide +kernel
theorem dd_ak_countAnswer_2 : decode prog_2_method_9_code 2 = .ok (.getfield 39, 3) := by decide +kernel
theorem dd_ak_countAnswer_5 : decode prog_2_method_9_code 5 = .ok (.iconst 1, 1) := by decide +kernel
theorem dd_ak_countAnswer_6 : decode prog_2_method_9_code 6 = .ok (.aload_n 1, 1) := by decide +kernel
theorem dd_ak_countAnswer_7 : decode prog_2_method_9_code 7 = .ok (.getfield 46, 3) := by decide +kernel
theorem dd_ak_countAnswer_10 : decode prog_2_method_9_code 10 = .ok (.ishl, 1) := by decide +kernel
theorem dd_ak_countAnswer_11 : decode prog_2_method_9_code 11 = .ok (.ior, 1) := by decide +kernel
theorem dd_ak_countAnswer_12 : decode prog_2_method_9_code 12 = .ok (.putfield 39, 3) := by decide +kernel
theorem dd_ak_countAnswer_15 : decode prog_2_method_9_code 15 = .ok (.aload_n 1, 1) := by decide +kernel
theorem dd_ak_countAnswer_16 : decode prog_2_method_9_code 16 = .ok (.getfield 49, 3) := by decide +kernel
theorem dd_ak_countAnswer_19 : decode prog_2_method_9_code 19 = .ok (.aload_n 0, 1) := by decide +kernel
theorem dd_ak_countAnswer_20 : decode prog_2_method_9_code 20 = .ok (.getfield 33, 3) := by decide +kernel
theorem dd_ak_countAnswer_23 : decode prog_2_method_9_code 23 = .ok (.if_icmp .le 19, 3) := by decide +kernel
theorem dd_ak_countAnswer_26 : decode prog_2_method_9_code 26 = .ok (.aload_n 0, 1) := by decide +kernel
theorem dd_ak_countAnswer_27 : decode prog_2_method_9_code 27 = .ok (.aload_n 1, 1) := by decide +kernel
theorem dd_ak_countAnswer_28 : decode prog_2_method_9_code 28 = .ok (.getfield 49, 3) := by decide +kernel
theorem dd_ak_countAnswer_31 : decode prog_2_method_9_code 31 = .ok (.putfield 33, 3) := by decide +kernel
theorem dd_ak_countAnswer_34 : decode prog_2_method_9_code 34 = .ok (.aload_n 0, 1) := by decide +kernel
theorem dd_ak_countAnswer_35 : decode prog_2_method_9_code 35 = .ok (.aload_n 1, 1) := by decide +kernel
theorem dd_ak_countAnswer_36 : decode prog_2_method_9_code 36 = .ok (.getfield 52, 3) := by decide +kernel
theorem dd_ak_countAnswer_39 : decode prog_2_method_9_code 39 = .ok (.putfield 36, 3) := by decide +kernel
theorem dd_ak_countAnswer_42 : decode prog_2_method_9_code 42 = .ok (.return_, 1) := by decide +kernel
theorem dd_ak_beginPhaseTwo_0 : decode prog_2_method_6_code 0 = .ok (.aload_n 0, 1) := by decide +kernel
theorem dd_ak_beginPhaseTwo_1 : decode prog_2_method_6_code 1 = .ok (.getfield 33, 3) := by decide +kernel
theorem dd_ak_beginPhaseTwo_4 : decode prog_2_method_6_code 4 = .ok (.ifCond .le 11, 3) := by decide +kernel
theorem dd_ak_beginPhaseTwo_7 : decode prog_2_method_6_code 7 = .ok (.aload_n 0, 1) := by decide +kernel
theorem dd_ak_beginPhaseTwo_8 : decode prog_2_method_6_code 8 = .ok (.aload_n 0, 1) := by decide +kernel
theorem dd_ak_beginPhaseTwo_9 : decode prog_2_method_6_code 9 = .ok (.getfield 36, 3) := by decide +kernel
theorem dd_ak_beginPhaseTwo_12 : decode prog_2_method_6_code 12 = .ok (.putfield 21, 3) := by decide +kernel
theorem dd_ak_beginPhaseTwo_15 : decode prog_2_method_6_code 15 = .ok (.aload_n 0, 1) := by decide +kernel
theorem dd_ak_beginPhaseTwo_16 : decode prog_2_method_6_code 16 = .ok (.iconst 2, 1) := by decide +kernel
theorem dd_ak_beginPhaseTwo_17 : decode prog_2_method_6_code 17 = .ok (.putfield 14, 3) := by decide +kernel
theorem dd_ak_beginPhaseTwo_20 : decode prog_2_method_6_code 20 = .ok (.aload_n 0, 1) := by decide +kernel
theorem dd_ak_beginPhaseTwo_21 : decode prog_2_method_6_code 21 = .ok (.invokevirtual 30, 3) := by decide +kernel
theorem dd_ak_beginPhaseTwo_24 : decode prog_2_method_6_code 24 = .ok (.return_, 1) := by decide +kernel
theorem dd_dk_learn_0 : decode prog_3_method_4_code 0 = .ok (.aload_n 0, 1) := by decide +kernel
theorem dd_dk_learn_1 : decode prog_3_method_4_code 1 = .ok (.getfield 21, 3) := by decide +kernel
theorem dd_dk_learn_4 : decode prog_3_method_4_code 4 = .ok (.iload_n 1, 1) := by decide +kernel
theorem dd_dk_learn_5 : decode prog_3_method_4_code 5 = .ok (.invokevirtual 54, 3) := by decide +kernel
theorem dd_dk_learn_8 : decode prog_3_method_4_code 8 = .ok (.aload_n 0, 1) := by decide +kernel
theorem dd_dk_learn_9 : decode prog_3_method_4_code 9 = .ok (.invokevirtual 51, 3) := by decide +kernel
theorem dd_dk_learn_12 : decode prog_3_method_4_code 12 = .ok (.return_, 1) := by decide +kernel
theorem dd_ak_hearRefusal_0 : decode prog_2_method_10_code 0 = .ok (.aload_n 0, 1) := by decide +kernel
theorem dd_ak_hearRefusal_1 : decode prog_2_method_10_code 1 = .ok (.invokevirtual 53, 3) := by decide +kernel
theorem dd_ak_hearRefusal_4 : decode prog_2_method_10_code 4 = .ok (.ifCond .eq 29, 3) := by decide +kernel
theorem dd_ak_hearRefusal_7 : decode prog_2_method_10_code 7 = .ok (.aload_n 1, 1) := by decide +kernel
theorem dd_ak_hearRefusal_8 : decode prog_2_method_10_code 8 = .ok (.getfield 42, 3) := by decide +kernel
theorem dd_ak_hearRefusal_11 : decode prog_2_method_10_code 11 = .ok (.aload_n 0, 1) := by decide +kernel
theorem dd_ak_hearRefusal_12 : decode prog_2_method_10_code 12 = .ok (.getfield 18, 3) := by decide +kernel
theorem dd_ak_hearRefusal_15 : decode prog_2_method_10_code 15 = .ok (.if_icmp .ne 18, 3) := by decide +kernel
theorem dd_ak_hearRefusal_18 : decode prog_2_method_10_code 18 = .ok (.aload_n 0, 1) := by decide +kernel
theorem dd_ak_hearRefusal_19 : decode prog_2_method_10_code 19 = .ok (.aload_n 0, 1) := by decide +kernel
theorem dd_ak_hearRefusal_20 : decode prog_2_method_10_code 20 = .ok (.getfield 27, 3) := by decide +kernel
theorem dd_ak_hearRefusal_23 : decode prog_2_method_10_code 23 = .ok (.aload_n 1, 1) := by decide +kernel
theorem dd_ak_hearRefusal_24 : decode prog_2_method_10_code 24 = .ok (.getfield 49, 3) := by decide +kernel
theorem dd_ak_hearRefusal_27 : decode prog_2_method_10_code 27 = .ok (.invokestatic 57, 3) := by decide +kernel
theorem dd_ak_hearRefusal_30 : decode prog_2_method_10_code 30 = .ok (.putfield 27, 3) := by decide +kernel
theorem dd_ak_hearRefusal_33 : decode prog_2_method_10_code 33 = .ok (.return_, 1) := by decide +kernel
theorem dd_lr_repeat_0 : decode prog_5_method_5_code 0 = .ok (.aload_n 0, 1) := by decide +kernel
theorem dd_lr_repeat_1 : decode prog_5_method_5_code 1 = .ok (.getfield 37, 3) := by decide +kernel
theorem dd_lr_repeat_4 : decode prog_5_method_5_code 4 = .ok (.bipush 100, 2) := by decide +kernel
theorem dd_lr_repeat_6 : decode prog_5_method_5_code 6 = .ok (.if_icmp .lt 5, 3) := by decide +kernel
theorem dd_lr_repeat_9 : decode prog_5_method_5_code 9 = .ok (.iconst 0, 1) := by decide +kernel
theorem dd_lr_repeat_10 : decode prog_5_method_5_code 10 = .ok (.ireturn, 1) := by decide +kernel
theorem dd_lr_repeat_11 : decode prog_5_method_5_code 11 = .ok (.aload_n 0, 1) := by decide +kernel
theorem dd_lr_repeat_12 : decode prog_5_method_5_code 12 = .ok (.getfield 11, 3) := by decide +kernel
theorem dd_lr_repeat_15 : decode prog_5_method_5_code 15 = .ok (.aload_n 0, 1) := by decide +kernel
theorem dd_lr_repeat_16 : decode prog_5_method_5_code 16 = .ok (.aload_n 0, 1) := by decide +kernel
theorem dd_lr_repeat_17 : decode prog_5_method_5_code 17 = .ok (.getfield 37, 3) := by decide +kernel
theorem dd_lr_repeat_20 : decode prog_5_method_5_code 20 = .ok (.invokevirtual 29, 3) := by decide +kernel
theorem dd_lr_repeat_23 : decode prog_5_method_5_code 23 = .ok (.aaload, 1) := by decide +kernel
theorem dd_lr_repeat_24 : decode prog_5_method_5_code 24 = .ok (.aload_n 0, 1) := by decide +kernel
theorem dd_lr_repeat_25 : decode prog_5_method_5_code 25 = .ok (.iload_n 1, 1) := by decide +kernel
theorem dd_lr_repeat_26 : decode prog_5_method_5_code 26 = .ok (.invokevirtual 33, 3) := by decide +kernel
theorem dd_lr_repeat_29 : decode prog_5_method_5_code 29 = .ok (.invokevirtual 40, 3) := by decide +kernel
theorem dd_lr_repeat_32 : decode prog_5_method_5_code 32 = .ok (.aload_n 0, 1) := by decide +kernel
theorem dd_lr_repeat_33 : decode prog_5_method_5_code 33 = .ok (.dup, 1) := by decide +kernel
theorem dd_lr_repeat_34 : decode prog_5_method_5_code 34 = .ok (.getfield 37, 3) := by decide +kernel
theorem dd_lr_repeat_37 : decode prog_5_method_5_code 37 = .ok (.iconst 1, 1) := by decide +kernel
theorem dd_lr_repeat_38 : decode prog_5_method_5_code 38 = .ok (.iadd, 1) := by decide +kernel
theorem dd_lr_repeat_39 : decode prog_5_method_5_code 39 = .ok (.putfield 37, 3) := by decide +kernel
theorem dd_lr_repeat_42 : decode prog_5_method_5_code 42 = .ok (.iconst 1, 1) := by decide +kernel
theorem dd_lr_repeat_43 : decode prog_5_method_5_code 43 = .ok (.ireturn, 1) := by decide +kernel
theorem dd_lt_part_0 : decode prog_4_method_4_code 0 = .ok (.iload_n 1, 1) := by decide +kernel
theorem dd_lt_part_1 : decode prog_4_method_4_code 1 = .ok (.tableswitch 102 0 8 #[51, 56, 61, 66, 71, 76, 81, 86, 94], 51) := by decide +kernel
theorem dd_lt_part_52 : decode prog_4_method_4_code 52 = .ok (.aload_n 0, 1) := by decide +kernel
theorem dd_lt_part_53 : decode prog_4_method_4_code 53 = .ok (.getfield 22, 3) := by decide +kernel
theorem dd_lt_part_56 : decode prog_4_method_4_code 56 = .ok (.ireturn, 1) := by decide +kernel
theorem dd_lt_part_57 : decode prog_4_method_4_code 57 = .ok (.aload_n 0, 1) := by decide +kernel
theorem dd_lt_part_58 : decode prog_4_method_4_code 58 = .ok (.getfield 25, 3) := by decide +kernel
theorem dd_lt_part_61 : decode prog_4_method_4_code 61 = .ok (.ireturn, 1) := by decide +kernel
theorem dd_lt_part_62 : decode prog_4_method_4_code 62 = .ok (.aload_n 0, 1) := by decide +kernel
theorem dd_lt_part_63 : decode prog_4_method_4_code 63 = .ok (.getfield 44, 3) := by decide +kernel
theorem dd_lt_part_66 : decode prog_4_method_4_code 66 = .ok (.ireturn, 1) := by decide +kernel
theorem dd_lt_part_67 : decode prog_4_method_4_code 67 = .ok (.aload_n 0, 1) := by decide +kernel
theorem dd_lt_part_68 : decode prog_4_method_4_code 68 = .ok (.getfield 28, 3) := by decide +kernel
theorem dd_lt_part_71 : decode prog_4_method_4_code 71 = .ok (.ireturn, 1) := by decide +kernel
theorem dd_lt_part_72 : decode prog_4_method_4_code 72 = .ok (.aload_n 0, 1) := by decide +kernel
theorem dd_lt_part_73 : decode prog_4_method_4_code 73 = .ok (.getfield 31, 3) := by decide +kernel
theorem dd_lt_part_76 : decode prog_4_method_4_code 76 = .ok (.ireturn, 1) := by decide +kernel
theorem dd_lt_part_77 : decode prog_4_method_4_code 77 = .ok (.aload_n 0, 1) := by decide +kernel
theorem dd_lt_part_78 : decode prog_4_method_4_code 78 = .ok (.getfield 34, 3) := by decide +kernel
theorem dd_lt_part_81 : decode prog_4_method_4_code 81 = .ok (.ireturn, 1) := by decide +kernel
theorem dd_lt_part_82 : decode prog_4_method_4_code 82 = .ok (.aload_n 0, 1) := by decide +kernel
theorem dd_lt_part_83 : decode prog_4_method_4_code 83 = .ok (.getfield 37, 3) := by decide +kernel
theorem dd_lt_part_86 : decode prog_4_method_4_code 86 = .ok (.ireturn, 1) := by decide +kernel
theorem dd_lt_part_87 : decode prog_4_method_4_code 87 = .ok (.aload_n 0, 1) := by decide +kernel
theorem dd_lt_part_88 : decode prog_4_method_4_code 88 = .ok (.getfield 18, 3) := by decide +kernel
theorem dd_lt_part_91 : decode prog_4_method_4_code 91 = .ok (.invokestatic 47, 3) := by decide +kernel
theorem dd_lt_part_94 : decode prog_4_method_4_code 94 = .ok (.ireturn, 1) := by decide +kernel
theorem dd_lt_part_95 : decode prog_4_method_4_code 95 = .ok (.aload_n 0, 1) := by decide +kernel
theorem dd_lt_part_96 : decode prog_4_method_4_code 96 = .ok (.getfield 18, 3) := by decide +kernel
theorem dd_lt_part_99 : decode prog_4_method_4_code 99 = .ok (.invokestatic 51, 3) := by decide +kernel
theorem dd_lt_part_102 : decode prog_4_method_4_code 102 = .ok (.ireturn, 1) := by decide +kernel
theorem dd_lt_part_103 : decode prog_4_method_4_code 103 = .ok (.aload_n 0, 1) := by decide +kernel
theorem dd_lt_part_104 : decode prog_4_method_4_code 104 = .ok (.getfield 12, 3) := by decide +kernel
theorem dd_lt_part_107 : decode prog_4_method_4_code 107 = .ok (.getfield 54, 3) := by decide +kernel
theorem dd_lt_part_110 : decode prog_4_method_4_code 110 = .ok (.ireturn, 1) := by decide +kernel
theorem dd_dk_part_0 : decode prog_3_method_7_code 0 = .ok (.iload_n 1, 1) := by decide +kernel
theorem dd_dk_part_1 : decode prog_3_method_7_code 1 = .ok (.tableswitch 102 0 7 #[47, 52, 57, 65, 73, 78, 86, 94], 47) := by decide +kernel
theorem dd_dk_part_48 : decode prog_3_method_7_code 48 = .ok (.aload_n 0, 1) := by decide +kernel
theorem dd_dk_part_49 : decode prog_3_method_7_code 49 = .ok (.getfield 32, 3) := by decide +kernel
theorem dd_dk_part_52 : decode prog_3_method_7_code 52 = .ok (.ireturn, 1) := by decide +kernel
theorem dd_dk_part_53 : decode prog_3_method_7_code 53 = .ok (.aload_n 0, 1) := by decide +kernel
theorem dd_dk_part_54 : decode prog_3_method_7_code 54 = .ok (.getfield 35, 3) := by decide +kernel
theorem dd_dk_part_57 : decode prog_3_method_7_code 57 = .ok (.ireturn, 1) := by decide +kernel
theorem dd_dk_part_58 : decode prog_3_method_7_code 58 = .ok (.aload_n 0, 1) := by decide +kernel
theorem dd_dk_part_59 : decode prog_3_method_7_code 59 = .ok (.getfield 38, 3) := by decide +kernel
theorem dd_dk_part_62 : decode prog_3_method_7_code 62 = .ok (.invokestatic 73, 3) := by decide +kernel
theorem dd_dk_part_65 : decode prog_3_method_7_code 65 = .ok (.ireturn, 1) := by decide +kernel
theorem dd_dk_part_66 : decode prog_3_method_7_code 66 = .ok (.aload_n 0, 1) := by decide +kernel
theorem dd_dk_part_67 : decode prog_3_method_7_code 67 = .ok (.getfield 38, 3) := by decide +kernel
theorem dd_dk_part_70 : decode prog_3_method_7_code 70 = .ok (.invokestatic 77, 3) := by decide +kernel
theorem dd_dk_part_73 : decode prog_3_method_7_code 73 = .ok (.ireturn, 1) := by decide +kernel
theorem dd_dk_part_74 : decode prog_3_method_7_code 74 = .ok (.aload_n 0, 1) := by decide +kernel
theorem dd_dk_part_75 : decode prog_3_method_7_code 75 = .ok (.getfield 41, 3) := by decide +kernel
theorem dd_dk_part_78 : decode prog_3_method_7_code 78 = .ok (.ireturn, 1) := by decide +kernel
theorem dd_dk_part_79 : decode prog_3_method_7_code 79 = .ok (.aload_n 0, 1) := by decide +kernel
theorem dd_dk_part_80 : decode prog_3_method_7_code 80 = .ok (.getfield 21, 3) := by decide +kernel
theorem dd_dk_part_83 : decode prog_3_method_7_code 83 = .ok (.getfield 44, 3) := by decide +kernel
theorem dd_dk_part_86 : decode prog_3_method_7_code 86 = .ok (.ireturn, 1) := by decide +kernel
theorem dd_dk_part_87 : decode prog_3_method_7_code 87 = .ok (.aload_n 0, 1) := by decide +kernel
theorem dd_dk_part_88 : decode prog_3_method_7_code 88 = .ok (.getfield 28, 3) := by decide +kernel
theorem dd_dk_part_91 : decode prog_3_method_7_code 91 = .ok (.getfield 80, 3) := by decide +kernel
theorem dd_dk_part_94 : decode prog_3_method_7_code 94 = .ok (.ireturn, 1) := by decide +kernel
theorem dd_dk_part_95 : decode prog_3_method_7_code 95 = .ok (.aload_n 0, 1) := by decide +kernel
theorem dd_dk_part_96 : decode prog_3_method_7_code 96 = .ok (.getfield 28, 3) := by decide +kernel
theorem dd_dk_part_99 : decode prog_3_method_7_code 99 = .ok (.getfield 83, 3) := by decide +kernel
theorem dd_dk_part_102 : decode prog_3_method_7_code 102 = .ok (.ireturn, 1) := by decide +kernel
theorem dd_dk_part_103 : decode prog_3_method_7_code 103 = .ok (.aload_n 0, 1) := by decide +kernel
theorem dd_dk_part_104 : decode prog_3_method_7_code 104 = .ok (.getfield 28, 3) := by decide +kernel
theorem dd_dk_part_107 : decode prog_3_method_7_code 107 = .ok (.getfield 86, 3) := by decide +kernel
theorem dd_dk_part_110 : decode prog_3_method_7_code 110 = .ok (.invokestatic 89, 3) := by decide +kernel
theorem dd_dk_part_113 : decode prog_3_method_7_code 113 = .ok (.ireturn, 1) := by decide +kernel
theorem dd_ji_bitCount_0 : decode prog_13_method_49_code 0 = .ok (.iload_n 0, 1) := by decide +kernel
theorem dd_ji_bitCount_1 : decode prog_13_method_49_code 1 = .ok (.iload_n 0, 1) := by decide +kernel
theorem dd_ji_bitCount_2 : decode prog_13_method_49_code 2 = .ok (.iconst 1, 1) := by decide +kernel
theorem dd_ji_bitCount_3 : decode prog_13_method_49_code 3 = .ok (.iushr, 1) := by decide +kernel
theorem dd_ji_bitCount_4 : decode prog_13_method_49_code 4 = .ok (.ldc_w 265, 3) := by decide +kernel
theorem dd_ji_bitCount_7 : decode prog_13_method_49_code 7 = .ok (.iand, 1) := by decide +kernel
theorem dd_ji_bitCount_8 : decode prog_13_method_49_code 8 = .ok (.isub, 1) := by decide +kernel
theorem dd_ji_bitCount_9 : decode prog_13_method_49_code 9 = .ok (.istore_n 0, 1) := by decide +kernel
theorem dd_ji_bitCount_10 : decode prog_13_method_49_code 10 = .ok (.iload_n 0, 1) := by decide +kernel
theorem dd_ji_bitCount_11 : decode prog_13_method_49_code 11 = .ok (.ldc_w 266, 3) := by decide +kernel
theorem dd_ji_bitCount_14 : decode prog_13_method_49_code 14 = .ok (.iand, 1) := by decide +kernel
theorem dd_ji_bitCount_15 : decode prog_13_method_49_code 15 = .ok (.iload_n 0, 1) := by decide +kernel
theorem dd_ji_bitCount_16 : decode prog_13_method_49_code 16 = .ok (.iconst 2, 1) := by decide +kernel
theorem dd_ji_bitCount_17 : decode prog_13_method_49_code 17 = .ok (.iushr, 1) := by decide +kernel
theorem dd_ji_bitCount_18 : decode prog_13_method_49_code 18 = .ok (.ldc_w 266, 3) := by decide +kernel
theorem dd_ji_bitCount_21 : decode prog_13_method_49_code 21 = .ok (.iand, 1) := by decide +kernel
theorem dd_ji_bitCount_22 : decode prog_13_method_49_code 22 = .ok (.iadd, 1) := by decide +kernel
theorem dd_ji_bitCount_23 : decode prog_13_method_49_code 23 = .ok (.istore_n 0, 1) := by decide +kernel
theorem dd_ji_bitCount_24 : decode prog_13_method_49_code 24 = .ok (.iload_n 0, 1) := by decide +kernel
theorem dd_ji_bitCount_25 : decode prog_13_method_49_code 25 = .ok (.iload_n 0, 1) := by decide +kernel
theorem dd_ji_bitCount_26 : decode prog_13_method_49_code 26 = .ok (.iconst 4, 1) := by decide +kernel
theorem dd_ji_bitCount_27 : decode prog_13_method_49_code 27 = .ok (.iushr, 1) := by decide +kernel
theorem dd_ji_bitCount_28 : decode prog_13_method_49_code 28 = .ok (.iadd, 1) := by decide +kernel
theorem dd_ji_bitCount_29 : decode prog_13_method_49_code 29 = .ok (.ldc_w 267, 3) := by decide +kernel
theorem dd_ji_bitCount_32 : decode prog_13_method_49_code 32 = .ok (.iand, 1) := by decide +kernel
theorem dd_ji_bitCount_33 : decode prog_13_method_49_code 33 = .ok (.istore_n 0, 1) := by decide +kernel
theorem dd_ji_bitCount_34 : decode prog_13_method_49_code 34 = .ok (.iload_n 0, 1) := by decide +kernel
theorem dd_ji_bitCount_35 : decode prog_13_method_49_code 35 = .ok (.iload_n 0, 1) := by decide +kernel
theorem dd_ji_bitCount_36 : decode prog_13_method_49_code 36 = .ok (.bipush 8, 2) := by decide +kernel
theorem dd_ji_bitCount_38 : decode prog_13_method_49_code 38 = .ok (.iushr, 1) := by decide +kernel
theorem dd_ji_bitCount_39 : decode prog_13_method_49_code 39 = .ok (.iadd, 1) := by decide +kernel
theorem dd_ji_bitCount_40 : decode prog_13_method_49_code 40 = .ok (.istore_n 0, 1) := by decide +kernel
theorem dd_ji_bitCount_41 : decode prog_13_method_49_code 41 = .ok (.iload_n 0, 1) := by decide +kernel
theorem dd_ji_bitCount_42 : decode prog_13_method_49_code 42 = .ok (.iload_n 0, 1) := by decide +kernel
theorem dd_ji_bitCount_43 : decode prog_13_method_49_code 43 = .ok (.bipush 16, 2) := by decide +kernel
theorem dd_ji_bitCount_45 : decode prog_13_method_49_code 45 = .ok (.iushr, 1) := by decide +kernel
theorem dd_ji_bitCount_46 : decode prog_13_method_49_code 46 = .ok (.iadd, 1) := by decide +kernel
theorem dd_ji_bitCount_47 : decode prog_13_method_49_code 47 = .ok (.istore_n 0, 1) := by decide +kernel
theorem dd_ji_bitCount_48 : decode prog_13_method_49_code 48 = .ok (.iload_n 0, 1) := by decide +kernel
theorem dd_ji_bitCount_49 : decode prog_13_method_49_code 49 = .ok (.bipush 63, 2) := by decide +kernel
theorem dd_ji_bitCount_51 : decode prog_13_method_49_code 51 = .ok (.iand, 1) := by decide +kernel
theorem dd_ji_bitCount_52 : decode prog_13_method_49_code 52 = .ok (.ireturn, 1) := by decide +kernel
end
section
/-! DECODE rows (printed by gen/parts.py). -/
theorem dd_sg_init_0 : decode prog_1_method_1_code 0 = .ok (.aload_n 0, 1) := by decide +kernel
theorem dd_sg_init_1 : decode prog_1_method_1_code 1 = .ok (.invokespecial 1, 3) := by decide +kernel
theorem dd_sg_init_4 : decode prog_1_method_1_code 4 = .ok (.aload_n 0, 1) := by decide +kernel
theorem dd_sg_init_5 : decode prog_1_method_1_code 5 = .ok (.bipush 20, 2) := by decide +kernel
theorem dd_sg_init_7 : decode prog_1_method_1_code 7 = .ok (.anewarray 9, 3) := by decide +kernel
theorem dd_sg_init_10 : decode prog_1_method_1_code 10 = .ok (.putfield 11, 3) := by decide +kernel
theorem dd_sg_init_13 : decode prog_1_method_1_code 13 = .ok (.aload_n 0, 1) := by decide +kernel
theorem dd_sg_init_14 : decode prog_1_method_1_code 14 = .ok (.new 15, 3) := by decide +kernel
theorem dd_sg_init_17 : decode prog_1_method_1_code 17 = .ok (.dup, 1) := by decide +kernel
theorem dd_sg_init_18 : decode prog_1_method_1_code 18 = .ok (.iconst (-1), 1) := by decide +kernel
theorem dd_sg_init_19 : decode prog_1_method_1_code 19 = .ok (.iconst (-1), 1) := by decide +kernel
theorem dd_sg_init_20 : decode prog_1_method_1_code 20 = .ok (.invokespecial 17, 3) := by decide +kernel
theorem dd_sg_init_23 : decode prog_1_method_1_code 23 = .ok (.putfield 20, 3) := by decide +kernel
theorem dd_sg_init_26 : decode prog_1_method_1_code 26 = .ok (.aload_n 0, 1) := by decide +kernel
theorem dd_sg_init_27 : decode prog_1_method_1_code 27 = .ok (.new 24, 3) := by decide +kernel
theorem dd_sg_init_30 : decode prog_1_method_1_code 30 = .ok (.dup, 1) := by decide +kernel
theorem dd_sg_init_31 : decode prog_1_method_1_code 31 = .ok (.invokespecial 26, 3) := by decide +kernel
theorem dd_sg_init_34 : decode prog_1_method_1_code 34 = .ok (.putfield 27, 3) := by decide +kernel
theorem dd_sg_init_37 : decode prog_1_method_1_code 37 = .ok (.aload_n 0, 1) := by decide +kernel
theorem dd_sg_init_38 : decode prog_1_method_1_code 38 = .ok (.ldc 31, 2) := by decide +kernel
theorem dd_sg_init_40 : decode prog_1_method_1_code 40 = .ok (.putfield 32, 3) := by decide +kernel
theorem dd_sg_init_43 : decode prog_1_method_1_code 43 = .ok (.return_, 1) := by decide +kernel
theorem dd_sg_pool_0 : decode prog_1_method_11_code 0 = .ok (.aload_n 0, 1) := by decide +kernel
theorem dd_sg_pool_1 : decode prog_1_method_11_code 1 = .ok (.getfield 27, 3) := by decide +kernel
theorem dd_sg_pool_4 : decode prog_1_method_11_code 4 = .ok (.getfield 123, 3) := by decide +kernel
theorem dd_sg_pool_7 : decode prog_1_method_11_code 7 = .ok (.ireturn, 1) := by decide +kernel
theorem dd_sg_live_0 : decode prog_1_method_16_code 0 = .ok (.aload_n 0, 1) := by decide +kernel
theorem dd_sg_live_1 : decode prog_1_method_16_code 1 = .ok (.getfield 32, 3) := by decide +kernel
theorem dd_sg_live_4 : decode prog_1_method_16_code 4 = .ok (.invokestatic 172, 3) := by decide +kernel
theorem dd_sg_live_7 : decode prog_1_method_16_code 7 = .ok (.ifCond .eq 7, 3) := by decide +kernel
theorem dd_sg_live_10 : decode prog_1_method_16_code 10 = .ok (.iconst 1, 1) := by decide +kernel
theorem dd_sg_live_11 : decode prog_1_method_16_code 11 = .ok (.goto 4, 3) := by decide +kernel
theorem dd_sg_live_14 : decode prog_1_method_16_code 14 = .ok (.iconst 0, 1) := by decide +kernel
theorem dd_sg_live_15 : decode prog_1_method_16_code 15 = .ok (.aload_n 0, 1) := by decide +kernel
theorem dd_sg_live_16 : decode prog_1_method_16_code 16 = .ok (.getfield 32, 3) := by decide +kernel
theorem dd_sg_live_19 : decode prog_1_method_16_code 19 = .ok (.invokestatic 175, 3) := by decide +kernel
theorem dd_sg_live_22 : decode prog_1_method_16_code 22 = .ok (.ifCond .eq 7, 3) := by decide +kernel
theorem dd_sg_live_25 : decode prog_1_method_16_code 25 = .ok (.iconst 2, 1) := by decide +kernel
theorem dd_sg_live_26 : decode prog_1_method_16_code 26 = .ok (.goto 4, 3) := by decide +kernel
theorem dd_sg_live_29 : decode prog_1_method_16_code 29 = .ok (.iconst 0, 1) := by decide +kernel
theorem dd_sg_live_30 : decode prog_1_method_16_code 30 = .ok (.iadd, 1) := by decide +kernel
theorem dd_sg_live_31 : decode prog_1_method_16_code 31 = .ok (.ireturn, 1) := by decide +kernel
theorem dd_sg_touchesEachColumn_0 : decode prog_1_method_33_code 0 = .ok (.iconst 0, 1) := by decide +kernel
theorem dd_sg_touchesEachColumn_1 : decode prog_1_method_33_code 1 = .ok (.istore_n 1, 1) := by decide +kernel
theorem dd_sg_touchesEachColumn_2 : decode prog_1_method_33_code 2 = .ok (.iload_n 1, 1) := by decide +kernel
theorem dd_sg_touchesEachColumn_3 : decode prog_1_method_33_code 3 = .ok (.iconst 5, 1) := by decide +kernel
theorem dd_sg_touchesEachColumn_4 : decode prog_1_method_33_code 4 = .ok (.if_icmp .ge 21, 3) := by decide +kernel
theorem dd_sg_touchesEachColumn_7 : decode prog_1_method_33_code 7 = .ok (.iload_n 0, 1) := by decide +kernel
theorem dd_sg_touchesEachColumn_8 : decode prog_1_method_33_code 8 = .ok (.iload_n 1, 1) := by decide +kernel
theorem dd_sg_touchesEachColumn_9 : decode prog_1_method_33_code 9 = .ok (.ishr, 1) := by decide +kernel
theorem dd_sg_touchesEachColumn_10 : decode prog_1_method_33_code 10 = .ok (.ldc_w 293, 3) := by decide +kernel
theorem dd_sg_touchesEachColumn_13 : decode prog_1_method_33_code 13 = .ok (.iand, 1) := by decide +kernel
theorem dd_sg_touchesEachColumn_14 : decode prog_1_method_33_code 14 = .ok (.ifCond .ne 5, 3) := by decide +kernel
theorem dd_sg_touchesEachColumn_17 : decode prog_1_method_33_code 17 = .ok (.iconst 0, 1) := by decide +kernel
theorem dd_sg_touchesEachColumn_18 : decode prog_1_method_33_code 18 = .ok (.ireturn, 1) := by decide +kernel
theorem dd_sg_touchesEachColumn_19 : decode prog_1_method_33_code 19 = .ok (.iinc 1 1, 3) := by decide +kernel
theorem dd_sg_touchesEachColumn_22 : decode prog_1_method_33_code 22 = .ok (.goto (-20), 3) := by decide +kernel
theorem dd_sg_touchesEachColumn_25 : decode prog_1_method_33_code 25 = .ok (.iconst 1, 1) := by decide +kernel
theorem dd_sg_touchesEachColumn_26 : decode prog_1_method_33_code 26 = .ok (.ireturn, 1) := by decide +kernel
theorem dd_sg_holdsWholeColumn_0 : decode prog_1_method_34_code 0 = .ok (.iconst 0, 1) := by decide +kernel
theorem dd_sg_holdsWholeColumn_1 : decode prog_1_method_34_code 1 = .ok (.istore_n 1, 1) := by decide +kernel
theorem dd_sg_holdsWholeColumn_2 : decode prog_1_method_34_code 2 = .ok (.iload_n 1, 1) := by decide +kernel
theorem dd_sg_holdsWholeColumn_3 : decode prog_1_method_34_code 3 = .ok (.iconst 5, 1) := by decide +kernel
theorem dd_sg_holdsWholeColumn_4 : decode prog_1_method_34_code 4 = .ok (.if_icmp .ge 24, 3) := by decide +kernel
theorem dd_sg_holdsWholeColumn_7 : decode prog_1_method_34_code 7 = .ok (.iload_n 0, 1) := by decide +kernel
theorem dd_sg_holdsWholeColumn_8 : decode prog_1_method_34_code 8 = .ok (.iload_n 1, 1) := by decide +kernel
theorem dd_sg_holdsWholeColumn_9 : decode prog_1_method_34_code 9 = .ok (.ishr, 1) := by decide +kernel
theorem dd_sg_holdsWholeColumn_10 : decode prog_1_method_34_code 10 = .ok (.ldc_w 293, 3) := by decide +kernel
theorem dd_sg_holdsWholeColumn_13 : decode prog_1_method_34_code 13 = .ok (.iand, 1) := by decide +kernel
theorem dd_sg_holdsWholeColumn_14 : decode prog_1_method_34_code 14 = .ok (.ldc_w 293, 3) := by decide +kernel
theorem dd_sg_holdsWholeColumn_17 : decode prog_1_method_34_code 17 = .ok (.if_icmp .ne 5, 3) := by decide +kernel
theorem dd_sg_holdsWholeColumn_20 : decode prog_1_method_34_code 20 = .ok (.iconst 1, 1) := by decide +kernel
theorem dd_sg_holdsWholeColumn_21 : decode prog_1_method_34_code 21 = .ok (.ireturn, 1) := by decide +kernel
theorem dd_sg_holdsWholeColumn_22 : decode prog_1_method_34_code 22 = .ok (.iinc 1 1, 3) := by decide +kernel
theorem dd_sg_holdsWholeColumn_25 : decode prog_1_method_34_code 25 = .ok (.goto (-23), 3) := by decide +kernel
theorem dd_sg_holdsWholeColumn_28 : decode prog_1_method_34_code 28 = .ok (.iconst 0, 1) := by decide +kernel
theorem dd_sg_holdsWholeColumn_29 : decode prog_1_method_34_code 29 = .ok (.ireturn, 1) := by decide +kernel
theorem dd_sg_register_0 : decode prog_1_method_2_code 0 = .ok (.iload_n 1, 1) := by decide +kernel
theorem dd_sg_register_1 : decode prog_1_method_2_code 1 = .ok (.invokestatic 36, 3) := by decide +kernel
theorem dd_sg_register_4 : decode prog_1_method_2_code 4 = .ok (.iload_n 2, 1) := by decide +kernel
theorem dd_sg_register_5 : decode prog_1_method_2_code 5 = .ok (.iconst 1, 1) := by decide +kernel
theorem dd_sg_register_6 : decode prog_1_method_2_code 6 = .ok (.bipush 12, 2) := by decide +kernel
theorem dd_sg_register_8 : decode prog_1_method_2_code 8 = .ok (.invokestatic 40, 3) := by decide +kernel
theorem dd_sg_register_11 : decode prog_1_method_2_code 11 = .ok (.iload_n 3, 1) := by decide +kernel
theorem dd_sg_register_12 : decode prog_1_method_2_code 12 = .ok (.iconst 0, 1) := by decide +kernel
theorem dd_sg_register_13 : decode prog_1_method_2_code 13 = .ok (.bipush 90, 2) := by decide +kernel
theorem dd_sg_register_15 : decode prog_1_method_2_code 15 = .ok (.invokestatic 40, 3) := by decide +kernel
theorem dd_sg_register_18 : decode prog_1_method_2_code 18 = .ok (.aload_n 0, 1) := by decide +kernel
theorem dd_sg_register_19 : decode prog_1_method_2_code 19 = .ok (.getfield 11, 3) := by decide +kernel
theorem dd_sg_register_22 : decode prog_1_method_2_code 22 = .ok (.iload_n 1, 1) := by decide +kernel
theorem dd_sg_register_23 : decode prog_1_method_2_code 23 = .ok (.aaload, 1) := by decide +kernel
theorem dd_sg_register_24 : decode prog_1_method_2_code 24 = .ok (.ifnull 13, 3) := by decide +kernel
theorem dd_sg_register_27 : decode prog_1_method_2_code 27 = .ok (.new 44, 3) := by decide +kernel
theorem dd_sg_register_30 : decode prog_1_method_2_code 30 = .ok (.dup, 1) := by decide +kernel
theorem dd_sg_register_31 : decode prog_1_method_2_code 31 = .ok (.ldc 46, 2) := by decide +kernel
theorem dd_sg_register_33 : decode prog_1_method_2_code 33 = .ok (.invokespecial 48, 3) := by decide +kernel
theorem dd_sg_register_36 : decode prog_1_method_2_code 36 = .ok (.athrow, 1) := by decide +kernel
theorem dd_sg_register_37 : decode prog_1_method_2_code 37 = .ok (.aload_n 0, 1) := by decide +kernel
theorem dd_sg_register_38 : decode prog_1_method_2_code 38 = .ok (.getfield 11, 3) := by decide +kernel
theorem dd_sg_register_41 : decode prog_1_method_2_code 41 = .ok (.iload_n 1, 1) := by decide +kernel
theorem dd_sg_register_42 : decode prog_1_method_2_code 42 = .ok (.new 9, 3) := by decide +kernel
theorem dd_sg_register_45 : decode prog_1_method_2_code 45 = .ok (.dup, 1) := by decide +kernel
theorem dd_sg_register_46 : decode prog_1_method_2_code 46 = .ok (.iload_n 1, 1) := by decide +kernel
theorem dd_sg_register_47 : decode prog_1_method_2_code 47 = .ok (.iload_n 2, 1) := by decide +kernel
theorem dd_sg_register_48 : decode prog_1_method_2_code 48 = .ok (.iload_n 3, 1) := by decide +kernel
theorem dd_sg_register_49 : decode prog_1_method_2_code 49 = .ok (.invokespecial 51, 3) := by decide +kernel
theorem dd_sg_register_52 : decode prog_1_method_2_code 52 = .ok (.aastore, 1) := by decide +kernel
theorem dd_sg_register_53 : decode prog_1_method_2_code 53 = .ok (.return_, 1) := by decide +kernel
theorem dd_sg_needPrescription_0 : decode prog_1_method_20_code 0 = .ok (.iload_n 0, 1) := by decide +kernel
theorem dd_sg_needPrescription_1 : decode prog_1_method_20_code 1 = .ok (.ifCond .lt 9, 3) := by decide +kernel
theorem dd_sg_needPrescription_4 : decode prog_1_method_20_code 4 = .ok (.iload_n 0, 1) := by decide +kernel
theorem dd_sg_needPrescription_5 : decode prog_1_method_20_code 5 = .ok (.bipush 20, 2) := by decide +kernel
theorem dd_sg_needPrescription_7 : decode prog_1_method_20_code 7 = .ok (.if_icmp .lt 13, 3) := by decide +kernel
theorem dd_sg_needPrescription_10 : decode prog_1_method_20_code 10 = .ok (.new 187, 3) := by decide +kernel
theorem dd_sg_needPrescription_13 : decode prog_1_method_20_code 13 = .ok (.dup, 1) := by decide +kernel
theorem dd_sg_needPrescription_14 : decode prog_1_method_20_code 14 = .ok (.ldc 194, 2) := by decide +kernel
theorem dd_sg_needPrescription_16 : decode prog_1_method_20_code 16 = .ok (.invokespecial 191, 3) := by decide +kernel
theorem dd_sg_needPrescription_19 : decode prog_1_method_20_code 19 = .ok (.athrow, 1) := by decide +kernel
theorem dd_sg_needPrescription_20 : decode prog_1_method_20_code 20 = .ok (.return_, 1) := by decide +kernel
theorem dd_sg_needWithin_0 : decode prog_1_method_18_code 0 = .ok (.iload_n 0, 1) := by decide +kernel
theorem dd_sg_needWithin_1 : decode prog_1_method_18_code 1 = .ok (.iload_n 1, 1) := by decide +kernel
theorem dd_sg_needWithin_2 : decode prog_1_method_18_code 2 = .ok (.if_icmp .lt 8, 3) := by decide +kernel
theorem dd_sg_needWithin_5 : decode prog_1_method_18_code 5 = .ok (.iload_n 0, 1) := by decide +kernel
theorem dd_sg_needWithin_6 : decode prog_1_method_18_code 6 = .ok (.iload_n 2, 1) := by decide +kernel
theorem dd_sg_needWithin_7 : decode prog_1_method_18_code 7 = .ok (.if_icmp .le 13, 3) := by decide +kernel
theorem dd_sg_needWithin_10 : decode prog_1_method_18_code 10 = .ok (.new 187, 3) := by decide +kernel
theorem dd_sg_needWithin_13 : decode prog_1_method_18_code 13 = .ok (.dup, 1) := by decide +kernel
theorem dd_sg_needWithin_14 : decode prog_1_method_18_code 14 = .ok (.ldc 189, 2) := by decide +kernel
theorem dd_sg_needWithin_16 : decode prog_1_method_18_code 16 = .ok (.invokespecial 191, 3) := by decide +kernel
theorem dd_sg_needWithin_19 : decode prog_1_method_18_code 19 = .ok (.athrow, 1) := by decide +kernel
theorem dd_sg_needWithin_20 : decode prog_1_method_18_code 20 = .ok (.return_, 1) := by decide +kernel
theorem dd_sg_ask_0 : decode prog_1_method_3_code 0 = .ok (.iload_n 1, 1) := by decide +kernel
theorem dd_sg_ask_1 : decode prog_1_method_3_code 1 = .ok (.invokestatic 53, 3) := by decide +kernel
theorem dd_sg_ask_4 : decode prog_1_method_3_code 4 = .ok (.iload_n 2, 1) := by decide +kernel
theorem dd_sg_ask_5 : decode prog_1_method_3_code 5 = .ok (.invokestatic 36, 3) := by decide +kernel
theorem dd_sg_ask_8 : decode prog_1_method_3_code 8 = .ok (.iload_n 3, 1) := by decide +kernel
theorem dd_sg_ask_9 : decode prog_1_method_3_code 9 = .ok (.iconst 0, 1) := by decide +kernel
theorem dd_sg_ask_10 : decode prog_1_method_3_code 10 = .ok (.ldc 56, 2) := by decide +kernel
theorem dd_sg_ask_12 : decode prog_1_method_3_code 12 = .ok (.invokestatic 40, 3) := by decide +kernel
theorem dd_sg_ask_15 : decode prog_1_method_3_code 15 = .ok (.aload_n 0, 1) := by decide +kernel
theorem dd_sg_ask_16 : decode prog_1_method_3_code 16 = .ok (.getfield 11, 3) := by decide +kernel
theorem dd_sg_ask_19 : decode prog_1_method_3_code 19 = .ok (.iload_n 2, 1) := by decide +kernel
theorem dd_sg_ask_20 : decode prog_1_method_3_code 20 = .ok (.aaload, 1) := by decide +kernel
theorem dd_sg_ask_21 : decode prog_1_method_3_code 21 = .ok (.astore 4, 2) := by decide +kernel
theorem dd_sg_ask_23 : decode prog_1_method_3_code 23 = .ok (.aload 4, 2) := by decide +kernel
theorem dd_sg_ask_25 : decode prog_1_method_3_code 25 = .ok (.ifnonnull 13, 3) := by decide +kernel
theorem dd_sg_ask_28 : decode prog_1_method_3_code 28 = .ok (.new 44, 3) := by decide +kernel
theorem dd_sg_ask_31 : decode prog_1_method_3_code 31 = .ok (.dup, 1) := by decide +kernel
theorem dd_sg_ask_32 : decode prog_1_method_3_code 32 = .ok (.ldc 57, 2) := by decide +kernel
theorem dd_sg_ask_34 : decode prog_1_method_3_code 34 = .ok (.invokespecial 48, 3) := by decide +kernel
theorem dd_sg_ask_37 : decode prog_1_method_3_code 37 = .ok (.athrow, 1) := by decide +kernel
theorem dd_sg_ask_38 : decode prog_1_method_3_code 38 = .ok (.aload_n 0, 1) := by decide +kernel
theorem dd_sg_ask_39 : decode prog_1_method_3_code 39 = .ok (.iload_n 1, 1) := by decide +kernel
theorem dd_sg_ask_40 : decode prog_1_method_3_code 40 = .ok (.invokevirtual 59, 3) := by decide +kernel
theorem dd_sg_ask_43 : decode prog_1_method_3_code 43 = .ok (.aload 4, 2) := by decide +kernel
theorem dd_sg_ask_45 : decode prog_1_method_3_code 45 = .ok (.getfield 62, 3) := by decide +kernel
theorem dd_sg_ask_48 : decode prog_1_method_3_code 48 = .ok (.iload_n 1, 1) := by decide +kernel
theorem dd_sg_ask_49 : decode prog_1_method_3_code 49 = .ok (.aaload, 1) := by decide +kernel
theorem dd_sg_ask_50 : decode prog_1_method_3_code 50 = .ok (.astore 5, 2) := by decide +kernel
theorem dd_sg_ask_52 : decode prog_1_method_3_code 52 = .ok (.aload 4, 2) := by decide +kernel
theorem dd_sg_ask_54 : decode prog_1_method_3_code 54 = .ok (.aload 5, 2) := by decide +kernel
theorem dd_sg_ask_56 : decode prog_1_method_3_code 56 = .ok (.iload_n 3, 1) := by decide +kernel
theorem dd_sg_ask_57 : decode prog_1_method_3_code 57 = .ok (.invokevirtual 66, 3) := by decide +kernel
theorem dd_sg_ask_60 : decode prog_1_method_3_code 60 = .ok (.ifCond .ne 13, 3) := by decide +kernel
theorem dd_sg_ask_63 : decode prog_1_method_3_code 63 = .ok (.new 44, 3) := by decide +kernel
theorem dd_sg_ask_66 : decode prog_1_method_3_code 66 = .ok (.dup, 1) := by decide +kernel
theorem dd_sg_ask_67 : decode prog_1_method_3_code 67 = .ok (.ldc 70, 2) := by decide +kernel
theorem dd_sg_ask_69 : decode prog_1_method_3_code 69 = .ok (.invokespecial 48, 3) := by decide +kernel
theorem dd_sg_ask_72 : decode prog_1_method_3_code 72 = .ok (.athrow, 1) := by decide +kernel
theorem dd_sg_ask_73 : decode prog_1_method_3_code 73 = .ok (.aload 5, 2) := by decide +kernel
theorem dd_sg_ask_75 : decode prog_1_method_3_code 75 = .ok (.getfield 72, 3) := by decide +kernel
theorem dd_sg_ask_78 : decode prog_1_method_3_code 78 = .ok (.aload 5, 2) := by decide +kernel
theorem dd_sg_ask_80 : decode prog_1_method_3_code 80 = .ok (.invokevirtual 76, 3) := by decide +kernel
theorem dd_sg_ask_83 : decode prog_1_method_3_code 83 = .ok (.iload_n 1, 1) := by decide +kernel
theorem dd_sg_ask_84 : decode prog_1_method_3_code 84 = .ok (.iload_n 3, 1) := by decide +kernel
theorem dd_sg_ask_85 : decode prog_1_method_3_code 85 = .ok (.invokestatic 80, 3) := by decide +kernel
theorem dd_sg_ask_88 : decode prog_1_method_3_code 88 = .ok (.invokevirtual 84, 3) := by decide +kernel
theorem dd_sg_ask_91 : decode prog_1_method_3_code 91 = .ok (.aload_n 0, 1) := by decide +kernel
theorem dd_sg_ask_92 : decode prog_1_method_3_code 92 = .ok (.aload 5, 2) := by decide +kernel
theorem dd_sg_ask_94 : decode prog_1_method_3_code 94 = .ok (.invokevirtual 89, 3) := by decide +kernel
theorem dd_sg_ask_97 : decode prog_1_method_3_code 97 = .ok (.ireturn, 1) := by decide +kernel
theorem dd_sg_needShop_0 : decode prog_1_method_19_code 0 = .ok (.iload_n 0, 1) := by decide +kernel
theorem dd_sg_needShop_1 : decode prog_1_method_19_code 1 = .ok (.ifCond .lt 9, 3) := by decide +kernel
theorem dd_sg_needShop_4 : decode prog_1_method_19_code 4 = .ok (.iload_n 0, 1) := by decide +kernel
theorem dd_sg_needShop_5 : decode prog_1_method_19_code 5 = .ok (.bipush 25, 2) := by decide +kernel
theorem dd_sg_needShop_7 : decode prog_1_method_19_code 7 = .ok (.if_icmp .lt 13, 3) := by decide +kernel
theorem dd_sg_needShop_10 : decode prog_1_method_19_code 10 = .ok (.new 187, 3) := by decide +kernel
theorem dd_sg_needShop_13 : decode prog_1_method_19_code 13 = .ok (.dup, 1) := by decide +kernel
theorem dd_sg_needShop_14 : decode prog_1_method_19_code 14 = .ok (.ldc 192, 2) := by decide +kernel
theorem dd_sg_needShop_16 : decode prog_1_method_19_code 16 = .ok (.invokespecial 191, 3) := by decide +kernel
theorem dd_sg_needShop_19 : decode prog_1_method_19_code 19 = .ok (.athrow, 1) := by decide +kernel
theorem dd_sg_needShop_20 : decode prog_1_method_19_code 20 = .ok (.return_, 1) := by decide +kernel
theorem dd_sg_needUp_0 : decode prog_1_method_22_code 0 = .ok (.aload_n 0, 1) := by decide +kernel
theorem dd_sg_needUp_1 : decode prog_1_method_22_code 1 = .ok (.iload_n 1, 1) := by decide +kernel
theorem dd_sg_needUp_2 : decode prog_1_method_22_code 2 = .ok (.invokevirtual 126, 3) := by decide +kernel
theorem dd_sg_needUp_5 : decode prog_1_method_22_code 5 = .ok (.ifCond .ne 13, 3) := by decide +kernel
theorem dd_sg_needUp_8 : decode prog_1_method_22_code 8 = .ok (.new 44, 3) := by decide +kernel
theorem dd_sg_needUp_11 : decode prog_1_method_22_code 11 = .ok (.dup, 1) := by decide +kernel
theorem dd_sg_needUp_12 : decode prog_1_method_22_code 12 = .ok (.ldc 198, 2) := by decide +kernel
theorem dd_sg_needUp_14 : decode prog_1_method_22_code 14 = .ok (.invokespecial 48, 3) := by decide +kernel
theorem dd_sg_needUp_17 : decode prog_1_method_22_code 17 = .ok (.athrow, 1) := by decide +kernel
theorem dd_sg_needUp_18 : decode prog_1_method_22_code 18 = .ok (.return_, 1) := by decide +kernel
theorem dd_sg_isUp_0 : decode prog_1_method_23_code 0 = .ok (.aload_n 0, 1) := by decide +kernel
theorem dd_sg_isUp_1 : decode prog_1_method_23_code 1 = .ok (.getfield 32, 3) := by decide +kernel
theorem dd_sg_isUp_4 : decode prog_1_method_23_code 4 = .ok (.iload_n 1, 1) := by decide +kernel
theorem dd_sg_isUp_5 : decode prog_1_method_23_code 5 = .ok (.ishr, 1) := by decide +kernel
theorem dd_sg_isUp_6 : decode prog_1_method_23_code 6 = .ok (.iconst 1, 1) := by decide +kernel
theorem dd_sg_isUp_7 : decode prog_1_method_23_code 7 = .ok (.iand, 1) := by decide +kernel
theorem dd_sg_isUp_8 : decode prog_1_method_23_code 8 = .ok (.iconst 1, 1) := by decide +kernel
theorem dd_sg_isUp_9 : decode prog_1_method_23_code 9 = .ok (.if_icmp .ne 7, 3) := by decide +kernel
theorem dd_sg_isUp_12 : decode prog_1_method_23_code 12 = .ok (.iconst 1, 1) := by decide +kernel
theorem dd_sg_isUp_13 : decode prog_1_method_23_code 13 = .ok (.goto 4, 3) := by decide +kernel
theorem dd_sg_isUp_16 : decode prog_1_method_23_code 16 = .ok (.iconst 0, 1) := by decide +kernel
theorem dd_sg_isUp_17 : decode prog_1_method_23_code 17 = .ok (.ireturn, 1) := by decide +kernel
theorem dd_sg_dayOf_0 : decode prog_1_method_37_code 0 = .ok (.iload_n 0, 1) := by decide +kernel
theorem dd_sg_dayOf_1 : decode prog_1_method_37_code 1 = .ok (.ifCond .ge 7, 3) := by decide +kernel
theorem dd_sg_dayOf_4 : decode prog_1_method_37_code 4 = .ok (.iconst (-1), 1) := by decide +kernel
theorem dd_sg_dayOf_5 : decode prog_1_method_37_code 5 = .ok (.goto 7, 3) := by decide +kernel
theorem dd_sg_dayOf_8 : decode prog_1_method_37_code 8 = .ok (.iload_n 0, 1) := by decide +kernel
theorem dd_sg_dayOf_9 : decode prog_1_method_37_code 9 = .ok (.bipush 25, 2) := by decide +kernel
theorem dd_sg_dayOf_11 : decode prog_1_method_37_code 11 = .ok (.idiv, 1) := by decide +kernel
theorem dd_sg_dayOf_12 : decode prog_1_method_37_code 12 = .ok (.ireturn, 1) := by decide +kernel
theorem dd_sg_pairOf_0 : decode prog_1_method_35_code 0 = .ok (.iload_n 1, 1) := by decide +kernel
theorem dd_sg_pairOf_1 : decode prog_1_method_35_code 1 = .ok (.bipush 25, 2) := by decide +kernel
theorem dd_sg_pairOf_3 : decode prog_1_method_35_code 3 = .ok (.imul, 1) := by decide +kernel
theorem dd_sg_pairOf_4 : decode prog_1_method_35_code 4 = .ok (.iload_n 0, 1) := by decide +kernel
theorem dd_sg_pairOf_5 : decode prog_1_method_35_code 5 = .ok (.iadd, 1) := by decide +kernel
theorem dd_sg_pairOf_6 : decode prog_1_method_35_code 6 = .ok (.ireturn, 1) := by decide +kernel
theorem dd_sg_startRound_0 : decode prog_1_method_26_code 0 = .ok (.aload_n 1, 1) := by decide +kernel
theorem dd_sg_startRound_1 : decode prog_1_method_26_code 1 = .ok (.invokevirtual 203, 3) := by decide +kernel
theorem dd_sg_startRound_4 : decode prog_1_method_26_code 4 = .ok (.istore_n 2, 1) := by decide +kernel
theorem dd_sg_startRound_5 : decode prog_1_method_26_code 5 = .ok (.iload_n 2, 1) := by decide +kernel
theorem dd_sg_startRound_6 : decode prog_1_method_26_code 6 = .ok (.ifCond .ne 12, 3) := by decide +kernel
theorem dd_sg_startRound_9 : decode prog_1_method_26_code 9 = .ok (.aload_n 1, 1) := by decide +kernel
theorem dd_sg_startRound_10 : decode prog_1_method_26_code 10 = .ok (.getfield 72, 3) := by decide +kernel
theorem dd_sg_startRound_13 : decode prog_1_method_26_code 13 = .ok (.invokevirtual 200, 3) := by decide +kernel
theorem dd_sg_startRound_16 : decode prog_1_method_26_code 16 = .ok (.iconst 0, 1) := by decide +kernel
theorem dd_sg_startRound_17 : decode prog_1_method_26_code 17 = .ok (.ireturn, 1) := by decide +kernel
theorem dd_sg_startRound_18 : decode prog_1_method_26_code 18 = .ok (.aload_n 1, 1) := by decide +kernel
theorem dd_sg_startRound_19 : decode prog_1_method_26_code 19 = .ok (.iload_n 2, 1) := by decide +kernel
theorem dd_sg_startRound_20 : decode prog_1_method_26_code 20 = .ok (.putfield 206, 3) := by decide +kernel
theorem dd_sg_startRound_23 : decode prog_1_method_26_code 23 = .ok (.aload_n 1, 1) := by decide +kernel
theorem dd_sg_startRound_24 : decode prog_1_method_26_code 24 = .ok (.getfield 72, 3) := by decide +kernel
theorem dd_sg_startRound_27 : decode prog_1_method_26_code 27 = .ok (.iload_n 2, 1) := by decide +kernel
theorem dd_sg_startRound_28 : decode prog_1_method_26_code 28 = .ok (.invokevirtual 209, 3) := by decide +kernel
theorem dd_sg_startRound_31 : decode prog_1_method_26_code 31 = .ok (.aload_n 0, 1) := by decide +kernel
theorem dd_sg_startRound_32 : decode prog_1_method_26_code 32 = .ok (.aload_n 1, 1) := by decide +kernel
theorem dd_sg_startRound_33 : decode prog_1_method_26_code 33 = .ok (.iconst 1, 1) := by decide +kernel
theorem dd_sg_startRound_34 : decode prog_1_method_26_code 34 = .ok (.iconst (-1), 1) := by decide +kernel
theorem dd_sg_startRound_35 : decode prog_1_method_26_code 35 = .ok (.invokevirtual 212, 3) := by decide +kernel
theorem dd_sg_startRound_38 : decode prog_1_method_26_code 38 = .ok (.ireturn, 1) := by decide +kernel
theorem dd_sg_sendToAll_0 : decode prog_1_method_27_code 0 = .ok (.aload_n 1, 1) := by decide +kernel
theorem dd_sg_sendToAll_1 : decode prog_1_method_27_code 1 = .ok (.getfield 72, 3) := by decide +kernel
theorem dd_sg_sendToAll_4 : decode prog_1_method_27_code 4 = .ok (.astore 4, 2) := by decide +kernel
theorem dd_sg_sendToAll_6 : decode prog_1_method_27_code 6 = .ok (.aload_n 0, 1) := by decide +kernel
theorem dd_sg_sendToAll_7 : decode prog_1_method_27_code 7 = .ok (.getfield 27, 3) := by decide +kernel
theorem dd_sg_sendToAll_10 : decode prog_1_method_27_code 10 = .ok (.getfield 132, 3) := by decide +kernel
theorem dd_sg_sendToAll_13 : decode prog_1_method_27_code 13 = .ok (.iload_n 2, 1) := by decide +kernel
theorem dd_sg_sendToAll_14 : decode prog_1_method_27_code 14 = .ok (.aload_n 1, 1) := by decide +kernel
theorem dd_sg_sendToAll_15 : decode prog_1_method_27_code 15 = .ok (.getfield 216, 3) := by decide +kernel
theorem dd_sg_sendToAll_18 : decode prog_1_method_27_code 18 = .ok (.aload_n 1, 1) := by decide +kernel
theorem dd_sg_sendToAll_19 : decode prog_1_method_27_code 19 = .ok (.getfield 219, 3) := by decide +kernel
theorem dd_sg_sendToAll_22 : decode prog_1_method_27_code 22 = .ok (.aload 4, 2) := by decide +kernel
theorem dd_sg_sendToAll_24 : decode prog_1_method_27_code 24 = .ok (.getfield 222, 3) := by decide +kernel
theorem dd_sg_sendToAll_27 : decode prog_1_method_27_code 27 = .ok (.aload 4, 2) := by decide +kernel
theorem dd_sg_sendToAll_29 : decode prog_1_method_27_code 29 = .ok (.getfield 225, 3) := by decide +kernel
theorem dd_sg_sendToAll_32 : decode prog_1_method_27_code 32 = .ok (.aload_n 1, 1) := by decide +kernel
theorem dd_sg_sendToAll_33 : decode prog_1_method_27_code 33 = .ok (.getfield 136, 3) := by decide +kernel
theorem dd_sg_sendToAll_36 : decode prog_1_method_27_code 36 = .ok (.invokevirtual 140, 3) := by decide +kernel
theorem dd_sg_sendToAll_39 : decode prog_1_method_27_code 39 = .ok (.aload_n 0, 1) := by decide +kernel
theorem dd_sg_sendToAll_40 : decode prog_1_method_27_code 40 = .ok (.getfield 27, 3) := by decide +kernel
theorem dd_sg_sendToAll_43 : decode prog_1_method_27_code 43 = .ok (.getfield 132, 3) := by decide +kernel
theorem dd_sg_sendToAll_46 : decode prog_1_method_27_code 46 = .ok (.iload_n 3, 1) := by decide +kernel
theorem dd_sg_sendToAll_47 : decode prog_1_method_27_code 47 = .ok (.putfield 228, 3) := by decide +kernel
theorem dd_sg_sendToAll_50 : decode prog_1_method_27_code 50 = .ok (.iconst 0, 1) := by decide +kernel
theorem dd_sg_sendToAll_51 : decode prog_1_method_27_code 51 = .ok (.istore 5, 2) := by decide +kernel
theorem dd_sg_sendToAll_53 : decode prog_1_method_27_code 53 = .ok (.iload 5, 2) := by decide +kernel
theorem dd_sg_sendToAll_55 : decode prog_1_method_27_code 55 = .ok (.bipush 25, 2) := by decide +kernel
theorem dd_sg_sendToAll_57 : decode prog_1_method_27_code 57 = .ok (.if_icmp .ge 19, 3) := by decide +kernel
theorem dd_sg_sendToAll_60 : decode prog_1_method_27_code 60 = .ok (.aload_n 0, 1) := by decide +kernel
theorem dd_sg_sendToAll_61 : decode prog_1_method_27_code 61 = .ok (.getfield 27, 3) := by decide +kernel
theorem dd_sg_sendToAll_64 : decode prog_1_method_27_code 64 = .ok (.iload 5, 2) := by decide +kernel
theorem dd_sg_sendToAll_66 : decode prog_1_method_27_code 66 = .ok (.invokevirtual 144, 3) := by decide +kernel
theorem dd_sg_sendToAll_69 : decode prog_1_method_27_code 69 = .ok (.pop, 1) := by decide +kernel
theorem dd_sg_sendToAll_70 : decode prog_1_method_27_code 70 = .ok (.iinc 5 1, 3) := by decide +kernel
theorem dd_sg_sendToAll_73 : decode prog_1_method_27_code 73 = .ok (.goto (-20), 3) := by decide +kernel
theorem dd_sg_sendToAll_76 : decode prog_1_method_27_code 76 = .ok (.bipush 25, 2) := by decide +kernel
theorem dd_sg_sendToAll_78 : decode prog_1_method_27_code 78 = .ok (.ireturn, 1) := by decide +kernel
theorem dd_sg_retry_0 : decode prog_1_method_4_code 0 = .ok (.iload_n 1, 1) := by decide +kernel
theorem dd_sg_retry_1 : decode prog_1_method_4_code 1 = .ok (.invokestatic 53, 3) := by decide +kernel
theorem dd_sg_retry_4 : decode prog_1_method_4_code 4 = .ok (.iload_n 2, 1) := by decide +kernel
theorem dd_sg_retry_5 : decode prog_1_method_4_code 5 = .ok (.invokestatic 36, 3) := by decide +kernel
theorem dd_sg_retry_8 : decode prog_1_method_4_code 8 = .ok (.aload_n 0, 1) := by decide +kernel
theorem dd_sg_retry_9 : decode prog_1_method_4_code 9 = .ok (.iload_n 1, 1) := by decide +kernel
theorem dd_sg_retry_10 : decode prog_1_method_4_code 10 = .ok (.invokevirtual 59, 3) := by decide +kernel
theorem dd_sg_retry_13 : decode prog_1_method_4_code 13 = .ok (.aload_n 0, 1) := by decide +kernel
theorem dd_sg_retry_14 : decode prog_1_method_4_code 14 = .ok (.iload_n 1, 1) := by decide +kernel
theorem dd_sg_retry_15 : decode prog_1_method_4_code 15 = .ok (.iload_n 2, 1) := by decide +kernel
theorem dd_sg_retry_16 : decode prog_1_method_4_code 16 = .ok (.invokevirtual 93, 3) := by decide +kernel
theorem dd_sg_retry_19 : decode prog_1_method_4_code 19 = .ok (.astore_n 3, 1) := by decide +kernel
theorem dd_sg_retry_20 : decode prog_1_method_4_code 20 = .ok (.aload_n 3, 1) := by decide +kernel
theorem dd_sg_retry_21 : decode prog_1_method_4_code 21 = .ok (.getfield 72, 3) := by decide +kernel
theorem dd_sg_retry_24 : decode prog_1_method_4_code 24 = .ok (.invokevirtual 97, 3) := by decide +kernel
theorem dd_sg_retry_27 : decode prog_1_method_4_code 27 = .ok (.ifCond .ne 13, 3) := by decide +kernel
theorem dd_sg_retry_30 : decode prog_1_method_4_code 30 = .ok (.new 44, 3) := by decide +kernel
theorem dd_sg_retry_33 : decode prog_1_method_4_code 33 = .ok (.dup, 1) := by decide +kernel
theorem dd_sg_retry_34 : decode prog_1_method_4_code 34 = .ok (.ldc 101, 2) := by decide +kernel
theorem dd_sg_retry_36 : decode prog_1_method_4_code 36 = .ok (.invokespecial 48, 3) := by decide +kernel
theorem dd_sg_retry_39 : decode prog_1_method_4_code 39 = .ok (.athrow, 1) := by decide +kernel
theorem dd_sg_retry_40 : decode prog_1_method_4_code 40 = .ok (.aload_n 0, 1) := by decide +kernel
theorem dd_sg_retry_41 : decode prog_1_method_4_code 41 = .ok (.aload_n 3, 1) := by decide +kernel
theorem dd_sg_retry_42 : decode prog_1_method_4_code 42 = .ok (.invokevirtual 89, 3) := by decide +kernel
theorem dd_sg_retry_45 : decode prog_1_method_4_code 45 = .ok (.ireturn, 1) := by decide +kernel
theorem dd_sg_deskOf_0 : decode prog_1_method_24_code 0 = .ok (.aload_n 0, 1) := by decide +kernel
theorem dd_sg_deskOf_1 : decode prog_1_method_24_code 1 = .ok (.getfield 11, 3) := by decide +kernel
theorem dd_sg_deskOf_4 : decode prog_1_method_24_code 4 = .ok (.iload_n 2, 1) := by decide +kernel
theorem dd_sg_deskOf_5 : decode prog_1_method_24_code 5 = .ok (.aaload, 1) := by decide +kernel
theorem dd_sg_deskOf_6 : decode prog_1_method_24_code 6 = .ok (.astore_n 3, 1) := by decide +kernel
theorem dd_sg_deskOf_7 : decode prog_1_method_24_code 7 = .ok (.aload_n 3, 1) := by decide +kernel
theorem dd_sg_deskOf_8 : decode prog_1_method_24_code 8 = .ok (.ifnonnull 10, 3) := by decide +kernel
theorem dd_sg_deskOf_11 : decode prog_1_method_24_code 11 = .ok (.aload_n 0, 1) := by decide +kernel
theorem dd_sg_deskOf_12 : decode prog_1_method_24_code 12 = .ok (.getfield 20, 3) := by decide +kernel
theorem dd_sg_deskOf_15 : decode prog_1_method_24_code 15 = .ok (.goto 9, 3) := by decide +kernel
theorem dd_sg_deskOf_18 : decode prog_1_method_24_code 18 = .ok (.aload_n 3, 1) := by decide +kernel
theorem dd_sg_deskOf_19 : decode prog_1_method_24_code 19 = .ok (.getfield 62, 3) := by decide +kernel
theorem dd_sg_deskOf_22 : decode prog_1_method_24_code 22 = .ok (.iload_n 1, 1) := by decide +kernel
theorem dd_sg_deskOf_23 : decode prog_1_method_24_code 23 = .ok (.aaload, 1) := by decide +kernel
theorem dd_sg_deskOf_24 : decode prog_1_method_24_code 24 = .ok (.areturn, 1) := by decide +kernel
theorem dd_sg_deliver_0 : decode prog_1_method_5_code 0 = .ok (.aload_n 0, 1) := by decide +kernel
theorem dd_sg_deliver_1 : decode prog_1_method_5_code 1 = .ok (.iload_n 1, 1) := by decide +kernel
theorem dd_sg_deliver_2 : decode prog_1_method_5_code 2 = .ok (.invokevirtual 103, 3) := by decide +kernel
theorem dd_sg_deliver_5 : decode prog_1_method_5_code 5 = .ok (.aload_n 0, 1) := by decide +kernel
theorem dd_sg_deliver_6 : decode prog_1_method_5_code 6 = .ok (.aload_n 0, 1) := by decide +kernel
theorem dd_sg_deliver_7 : decode prog_1_method_5_code 7 = .ok (.getfield 27, 3) := by decide +kernel
theorem dd_sg_deliver_10 : decode prog_1_method_5_code 10 = .ok (.iload_n 1, 1) := by decide +kernel
theorem dd_sg_deliver_11 : decode prog_1_method_5_code 11 = .ok (.invokevirtual 106, 3) := by decide +kernel
theorem dd_sg_deliver_14 : decode prog_1_method_5_code 14 = .ok (.invokevirtual 110, 3) := by decide +kernel
theorem dd_sg_deliver_17 : decode prog_1_method_5_code 17 = .ok (.ireturn, 1) := by decide +kernel
theorem dd_sg_needLetter_0 : decode prog_1_method_21_code 0 = .ok (.iload_n 1, 1) := by decide +kernel
theorem dd_sg_needLetter_1 : decode prog_1_method_21_code 1 = .ok (.ifCond .lt 14, 3) := by decide +kernel
theorem dd_sg_needLetter_4 : decode prog_1_method_21_code 4 = .ok (.iload_n 1, 1) := by decide +kernel
theorem dd_sg_needLetter_5 : decode prog_1_method_21_code 5 = .ok (.aload_n 0, 1) := by decide +kernel
theorem dd_sg_needLetter_6 : decode prog_1_method_21_code 6 = .ok (.getfield 27, 3) := by decide +kernel
theorem dd_sg_needLetter_9 : decode prog_1_method_21_code 9 = .ok (.getfield 123, 3) := by decide +kernel
theorem dd_sg_needLetter_12 : decode prog_1_method_21_code 12 = .ok (.if_icmp .lt 13, 3) := by decide +kernel
theorem dd_sg_needLetter_15 : decode prog_1_method_21_code 15 = .ok (.new 187, 3) := by decide +kernel
theorem dd_sg_needLetter_18 : decode prog_1_method_21_code 18 = .ok (.dup, 1) := by decide +kernel
theorem dd_sg_needLetter_19 : decode prog_1_method_21_code 19 = .ok (.ldc 196, 2) := by decide +kernel
theorem dd_sg_needLetter_21 : decode prog_1_method_21_code 21 = .ok (.invokespecial 191, 3) := by decide +kernel
theorem dd_sg_needLetter_24 : decode prog_1_method_21_code 24 = .ok (.athrow, 1) := by decide +kernel
theorem dd_sg_needLetter_25 : decode prog_1_method_21_code 25 = .ok (.return_, 1) := by decide +kernel
theorem dd_sg_handOver_0 : decode prog_1_method_28_code 0 = .ok (.aload_n 0, 1) := by decide +kernel
theorem dd_sg_handOver_1 : decode prog_1_method_28_code 1 = .ok (.aload_n 1, 1) := by decide +kernel
theorem dd_sg_handOver_2 : decode prog_1_method_28_code 2 = .ok (.getfield 231, 3) := by decide +kernel
theorem dd_sg_handOver_5 : decode prog_1_method_28_code 5 = .ok (.invokevirtual 126, 3) := by decide +kernel
theorem dd_sg_handOver_8 : decode prog_1_method_28_code 8 = .ok (.ifCond .ne 18, 3) := by decide +kernel
theorem dd_sg_handOver_11 : decode prog_1_method_28_code 11 = .ok (.aload_n 0, 1) := by decide +kernel
theorem dd_sg_handOver_12 : decode prog_1_method_28_code 12 = .ok (.getfield 27, 3) := by decide +kernel
theorem dd_sg_handOver_15 : decode prog_1_method_28_code 15 = .ok (.dup, 1) := by decide +kernel
theorem dd_sg_handOver_16 : decode prog_1_method_28_code 16 = .ok (.getfield 181, 3) := by decide +kernel
theorem dd_sg_handOver_19 : decode prog_1_method_28_code 19 = .ok (.iconst 1, 1) := by decide +kernel
theorem dd_sg_handOver_20 : decode prog_1_method_28_code 20 = .ok (.iadd, 1) := by decide +kernel
theorem dd_sg_handOver_21 : decode prog_1_method_28_code 21 = .ok (.putfield 181, 3) := by decide +kernel
theorem dd_sg_handOver_24 : decode prog_1_method_28_code 24 = .ok (.iconst 0, 1) := by decide +kernel
theorem dd_sg_handOver_25 : decode prog_1_method_28_code 25 = .ok (.ireturn, 1) := by decide +kernel
theorem dd_sg_handOver_26 : decode prog_1_method_28_code 26 = .ok (.aload_n 0, 1) := by decide +kernel
theorem dd_sg_handOver_27 : decode prog_1_method_28_code 27 = .ok (.aload_n 1, 1) := by decide +kernel
theorem dd_sg_handOver_28 : decode prog_1_method_28_code 28 = .ok (.getfield 231, 3) := by decide +kernel
theorem dd_sg_handOver_31 : decode prog_1_method_28_code 31 = .ok (.aload_n 1, 1) := by decide +kernel
theorem dd_sg_handOver_32 : decode prog_1_method_28_code 32 = .ok (.getfield 234, 3) := by decide +kernel
theorem dd_sg_handOver_35 : decode prog_1_method_28_code 35 = .ok (.invokevirtual 93, 3) := by decide +kernel
theorem dd_sg_handOver_38 : decode prog_1_method_28_code 38 = .ok (.astore_n 2, 1) := by decide +kernel
theorem dd_sg_handOver_39 : decode prog_1_method_28_code 39 = .ok (.aload_n 2, 1) := by decide +kernel
theorem dd_sg_handOver_40 : decode prog_1_method_28_code 40 = .ok (.aload_n 1, 1) := by decide +kernel
theorem dd_sg_handOver_41 : decode prog_1_method_28_code 41 = .ok (.getfield 235, 3) := by decide +kernel
theorem dd_sg_handOver_44 : decode prog_1_method_28_code 44 = .ok (.invokevirtual 236, 3) := by decide +kernel
theorem dd_sg_handOver_47 : decode prog_1_method_28_code 47 = .ok (.aload_n 1, 1) := by decide +kernel
theorem dd_sg_handOver_48 : decode prog_1_method_28_code 48 = .ok (.getfield 114, 3) := by decide +kernel
theorem dd_sg_handOver_51 : decode prog_1_method_28_code 51 = .ok (.tableswitch 64 1 5 #[33, 40, 33, 47, 54], 33) := by decide +kernel
theorem dd_sg_handOver_84 : decode prog_1_method_28_code 84 = .ok (.aload_n 0, 1) := by decide +kernel
theorem dd_sg_handOver_85 : decode prog_1_method_28_code 85 = .ok (.aload_n 2, 1) := by decide +kernel
theorem dd_sg_handOver_86 : decode prog_1_method_28_code 86 = .ok (.aload_n 1, 1) := by decide +kernel
theorem dd_sg_handOver_87 : decode prog_1_method_28_code 87 = .ok (.invokevirtual 240, 3) := by decide +kernel
theorem dd_sg_handOver_90 : decode prog_1_method_28_code 90 = .ok (.ireturn, 1) := by decide +kernel
theorem dd_sg_handOver_91 : decode prog_1_method_28_code 91 = .ok (.aload_n 0, 1) := by decide +kernel
theorem dd_sg_handOver_92 : decode prog_1_method_28_code 92 = .ok (.aload_n 2, 1) := by decide +kernel
theorem dd_sg_handOver_93 : decode prog_1_method_28_code 93 = .ok (.aload_n 1, 1) := by decide +kernel
theorem dd_sg_handOver_94 : decode prog_1_method_28_code 94 = .ok (.invokevirtual 244, 3) := by decide +kernel
theorem dd_sg_handOver_97 : decode prog_1_method_28_code 97 = .ok (.ireturn, 1) := by decide +kernel
theorem dd_sg_handOver_98 : decode prog_1_method_28_code 98 = .ok (.aload_n 2, 1) := by decide +kernel
theorem dd_sg_handOver_99 : decode prog_1_method_28_code 99 = .ok (.aload_n 1, 1) := by decide +kernel
theorem dd_sg_handOver_100 : decode prog_1_method_28_code 100 = .ok (.invokestatic 247, 3) := by decide +kernel
theorem dd_sg_handOver_103 : decode prog_1_method_28_code 103 = .ok (.iconst 0, 1) := by decide +kernel
theorem dd_sg_handOver_104 : decode prog_1_method_28_code 104 = .ok (.ireturn, 1) := by decide +kernel
theorem dd_sg_handOver_105 : decode prog_1_method_28_code 105 = .ok (.aload_n 2, 1) := by decide +kernel
theorem dd_sg_handOver_106 : decode prog_1_method_28_code 106 = .ok (.getfield 72, 3) := by decide +kernel
theorem dd_sg_handOver_109 : decode prog_1_method_28_code 109 = .ok (.aload_n 1, 1) := by decide +kernel
theorem dd_sg_handOver_110 : decode prog_1_method_28_code 110 = .ok (.invokevirtual 251, 3) := by decide +kernel
theorem dd_sg_handOver_113 : decode prog_1_method_28_code 113 = .ok (.iconst 0, 1) := by decide +kernel
theorem dd_sg_handOver_114 : decode prog_1_method_28_code 114 = .ok (.ireturn, 1) := by decide +kernel
theorem dd_sg_handOver_115 : decode prog_1_method_28_code 115 = .ok (.iconst 0, 1) := by decide +kernel
theorem dd_sg_handOver_116 : decode prog_1_method_28_code 116 = .ok (.ireturn, 1) := by decide +kernel
theorem dd_sg_answerAsker_0 : decode prog_1_method_29_code 0 = .ok (.aload_n 2, 1) := by decide +kernel
theorem dd_sg_answerAsker_1 : decode prog_1_method_29_code 1 = .ok (.getfield 255, 3) := by decide +kernel
theorem dd_sg_answerAsker_4 : decode prog_1_method_29_code 4 = .ok (.aload_n 1, 1) := by decide +kernel
theorem dd_sg_answerAsker_5 : decode prog_1_method_29_code 5 = .ok (.invokevirtual 76, 3) := by decide +kernel
theorem dd_sg_answerAsker_8 : decode prog_1_method_29_code 8 = .ok (.if_icmp .ge 14, 3) := by decide +kernel
theorem dd_sg_answerAsker_11 : decode prog_1_method_29_code 11 = .ok (.aload_n 0, 1) := by decide +kernel
theorem dd_sg_answerAsker_12 : decode prog_1_method_29_code 12 = .ok (.aload_n 1, 1) := by decide +kernel
theorem dd_sg_answerAsker_13 : decode prog_1_method_29_code 13 = .ok (.aload_n 2, 1) := by decide +kernel
theorem dd_sg_answerAsker_14 : decode prog_1_method_29_code 14 = .ok (.bipush 6, 2) := by decide +kernel
theorem dd_sg_answerAsker_16 : decode prog_1_method_29_code 16 = .ok (.iconst 0, 1) := by decide +kernel
theorem dd_sg_answerAsker_17 : decode prog_1_method_29_code 17 = .ok (.iconst (-1), 1) := by decide +kernel
theorem dd_sg_answerAsker_18 : decode prog_1_method_29_code 18 = .ok (.invokevirtual 256, 3) := by decide +kernel
theorem dd_sg_answerAsker_21 : decode prog_1_method_29_code 21 = .ok (.ireturn, 1) := by decide +kernel
theorem dd_sg_answerAsker_22 : decode prog_1_method_29_code 22 = .ok (.aload_n 2, 1) := by decide +kernel
theorem dd_sg_answerAsker_23 : decode prog_1_method_29_code 23 = .ok (.getfield 260, 3) := by decide +kernel
theorem dd_sg_answerAsker_26 : decode prog_1_method_29_code 26 = .ok (.aload_n 1, 1) := by decide +kernel
theorem dd_sg_answerAsker_27 : decode prog_1_method_29_code 27 = .ok (.getfield 261, 3) := by decide +kernel
theorem dd_sg_answerAsker_30 : decode prog_1_method_29_code 30 = .ok (.if_icmp .ge 16, 3) := by decide +kernel
theorem dd_sg_answerAsker_33 : decode prog_1_method_29_code 33 = .ok (.aload_n 0, 1) := by decide +kernel
theorem dd_sg_answerAsker_34 : decode prog_1_method_29_code 34 = .ok (.aload_n 1, 1) := by decide +kernel
theorem dd_sg_answerAsker_35 : decode prog_1_method_29_code 35 = .ok (.aload_n 2, 1) := by decide +kernel
theorem dd_sg_answerAsker_36 : decode prog_1_method_29_code 36 = .ok (.iconst 5, 1) := by decide +kernel
theorem dd_sg_answerAsker_37 : decode prog_1_method_29_code 37 = .ok (.aload_n 1, 1) := by decide +kernel
theorem dd_sg_answerAsker_38 : decode prog_1_method_29_code 38 = .ok (.getfield 261, 3) := by decide +kernel
theorem dd_sg_answerAsker_41 : decode prog_1_method_29_code 41 = .ok (.iconst (-1), 1) := by decide +kernel
theorem dd_sg_answerAsker_42 : decode prog_1_method_29_code 42 = .ok (.invokevirtual 256, 3) := by decide +kernel
theorem dd_sg_answerAsker_45 : decode prog_1_method_29_code 45 = .ok (.ireturn, 1) := by decide +kernel
theorem dd_sg_answerAsker_46 : decode prog_1_method_29_code 46 = .ok (.aload_n 1, 1) := by decide +kernel
theorem dd_sg_answerAsker_47 : decode prog_1_method_29_code 47 = .ok (.aload_n 2, 1) := by decide +kernel
theorem dd_sg_answerAsker_48 : decode prog_1_method_29_code 48 = .ok (.getfield 260, 3) := by decide +kernel
theorem dd_sg_answerAsker_51 : decode prog_1_method_29_code 51 = .ok (.putfield 261, 3) := by decide +kernel
theorem dd_sg_answerAsker_54 : decode prog_1_method_29_code 54 = .ok (.aload_n 2, 1) := by decide +kernel
theorem dd_sg_answerAsker_55 : decode prog_1_method_29_code 55 = .ok (.getfield 114, 3) := by decide +kernel
theorem dd_sg_answerAsker_58 : decode prog_1_method_29_code 58 = .ok (.iconst 1, 1) := by decide +kernel
theorem dd_sg_answerAsker_59 : decode prog_1_method_29_code 59 = .ok (.if_icmp .ne 19, 3) := by decide +kernel
theorem dd_sg_answerAsker_62 : decode prog_1_method_29_code 62 = .ok (.aload_n 0, 1) := by decide +kernel
theorem dd_sg_answerAsker_63 : decode prog_1_method_29_code 63 = .ok (.aload_n 1, 1) := by decide +kernel
theorem dd_sg_answerAsker_64 : decode prog_1_method_29_code 64 = .ok (.aload_n 2, 1) := by decide +kernel
theorem dd_sg_answerAsker_65 : decode prog_1_method_29_code 65 = .ok (.iconst 2, 1) := by decide +kernel
theorem dd_sg_answerAsker_66 : decode prog_1_method_29_code 66 = .ok (.aload_n 1, 1) := by decide +kernel
theorem dd_sg_answerAsker_67 : decode prog_1_method_29_code 67 = .ok (.getfield 264, 3) := by decide +kernel
theorem dd_sg_answerAsker_70 : decode prog_1_method_29_code 70 = .ok (.aload_n 1, 1) := by decide +kernel
theorem dd_sg_answerAsker_71 : decode prog_1_method_29_code 71 = .ok (.getfield 267, 3) := by decide +kernel
theorem dd_sg_answerAsker_74 : decode prog_1_method_29_code 74 = .ok (.invokevirtual 256, 3) := by decide +kernel
theorem dd_sg_answerAsker_77 : decode prog_1_method_29_code 77 = .ok (.ireturn, 1) := by decide +kernel
theorem dd_sg_answerAsker_78 : decode prog_1_method_29_code 78 = .ok (.aload_n 1, 1) := by decide +kernel
theorem dd_sg_answerAsker_79 : decode prog_1_method_29_code 79 = .ok (.aload_n 2, 1) := by decide +kernel
theorem dd_sg_answerAsker_80 : decode prog_1_method_29_code 80 = .ok (.getfield 260, 3) := by decide +kernel
theorem dd_sg_answerAsker_83 : decode prog_1_method_29_code 83 = .ok (.putfield 264, 3) := by decide +kernel
theorem dd_sg_answerAsker_86 : decode prog_1_method_29_code 86 = .ok (.aload_n 1, 1) := by decide +kernel
theorem dd_sg_answerAsker_87 : decode prog_1_method_29_code 87 = .ok (.aload_n 2, 1) := by decide +kernel
theorem dd_sg_answerAsker_88 : decode prog_1_method_29_code 88 = .ok (.getfield 228, 3) := by decide +kernel
theorem dd_sg_answerAsker_91 : decode prog_1_method_29_code 91 = .ok (.putfield 267, 3) := by decide +kernel
theorem dd_sg_answerAsker_94 : decode prog_1_method_29_code 94 = .ok (.aload_n 0, 1) := by decide +kernel
theorem dd_sg_answerAsker_95 : decode prog_1_method_29_code 95 = .ok (.aload_n 1, 1) := by decide +kernel
theorem dd_sg_answerAsker_96 : decode prog_1_method_29_code 96 = .ok (.aload_n 2, 1) := by decide +kernel
theorem dd_sg_answerAsker_97 : decode prog_1_method_29_code 97 = .ok (.iconst 4, 1) := by decide +kernel
theorem dd_sg_answerAsker_98 : decode prog_1_method_29_code 98 = .ok (.iconst 0, 1) := by decide +kernel
theorem dd_sg_answerAsker_99 : decode prog_1_method_29_code 99 = .ok (.iconst (-1), 1) := by decide +kernel
theorem dd_sg_answerAsker_100 : decode prog_1_method_29_code 100 = .ok (.invokevirtual 256, 3) := by decide +kernel
theorem dd_sg_answerAsker_103 : decode prog_1_method_29_code 103 = .ok (.ireturn, 1) := by decide +kernel
theorem dd_sg_answer_0 : decode prog_1_method_30_code 0 = .ok (.aload_n 0, 1) := by decide +kernel
theorem dd_sg_answer_1 : decode prog_1_method_30_code 1 = .ok (.getfield 27, 3) := by decide +kernel
theorem dd_sg_answer_4 : decode prog_1_method_30_code 4 = .ok (.getfield 132, 3) := by decide +kernel
theorem dd_sg_answer_7 : decode prog_1_method_30_code 7 = .ok (.astore 6, 2) := by decide +kernel
theorem dd_sg_answer_9 : decode prog_1_method_30_code 9 = .ok (.aload 6, 2) := by decide +kernel
theorem dd_sg_answer_11 : decode prog_1_method_30_code 11 = .ok (.iload_n 3, 1) := by decide +kernel
theorem dd_sg_answer_12 : decode prog_1_method_30_code 12 = .ok (.aload_n 2, 1) := by decide +kernel
theorem dd_sg_answer_13 : decode prog_1_method_30_code 13 = .ok (.getfield 231, 3) := by decide +kernel
theorem dd_sg_answer_16 : decode prog_1_method_30_code 16 = .ok (.aload_n 2, 1) := by decide +kernel
theorem dd_sg_answer_17 : decode prog_1_method_30_code 17 = .ok (.getfield 234, 3) := by decide +kernel
theorem dd_sg_answer_20 : decode prog_1_method_30_code 20 = .ok (.aload_n 2, 1) := by decide +kernel
theorem dd_sg_answer_21 : decode prog_1_method_30_code 21 = .ok (.getfield 255, 3) := by decide +kernel
theorem dd_sg_answer_24 : decode prog_1_method_30_code 24 = .ok (.aload_n 2, 1) := by decide +kernel
theorem dd_sg_answer_25 : decode prog_1_method_30_code 25 = .ok (.getfield 260, 3) := by decide +kernel
theorem dd_sg_answer_28 : decode prog_1_method_30_code 28 = .ok (.aload_n 1, 1) := by decide +kernel
theorem dd_sg_answer_29 : decode prog_1_method_30_code 29 = .ok (.getfield 136, 3) := by decide +kernel
theorem dd_sg_answer_32 : decode prog_1_method_30_code 32 = .ok (.invokevirtual 140, 3) := by decide +kernel
theorem dd_sg_answer_35 : decode prog_1_method_30_code 35 = .ok (.aload 6, 2) := by decide +kernel
theorem dd_sg_answer_37 : decode prog_1_method_30_code 37 = .ok (.iload 4, 2) := by decide +kernel
theorem dd_sg_answer_39 : decode prog_1_method_30_code 39 = .ok (.putfield 270, 3) := by decide +kernel
theorem dd_sg_answer_42 : decode prog_1_method_30_code 42 = .ok (.aload 6, 2) := by decide +kernel
theorem dd_sg_answer_44 : decode prog_1_method_30_code 44 = .ok (.iload 5, 2) := by decide +kernel
theorem dd_sg_answer_46 : decode prog_1_method_30_code 46 = .ok (.putfield 228, 3) := by decide +kernel
theorem dd_sg_answer_49 : decode prog_1_method_30_code 49 = .ok (.aload_n 0, 1) := by decide +kernel
theorem dd_sg_answer_50 : decode prog_1_method_30_code 50 = .ok (.getfield 27, 3) := by decide +kernel
theorem dd_sg_answer_53 : decode prog_1_method_30_code 53 = .ok (.aload_n 2, 1) := by decide +kernel
theorem dd_sg_answer_54 : decode prog_1_method_30_code 54 = .ok (.getfield 273, 3) := by decide +kernel
theorem dd_sg_answer_57 : decode prog_1_method_30_code 57 = .ok (.invokevirtual 144, 3) := by decide +kernel
theorem dd_sg_answer_60 : decode prog_1_method_30_code 60 = .ok (.pop, 1) := by decide +kernel
theorem dd_sg_answer_61 : decode prog_1_method_30_code 61 = .ok (.iconst 1, 1) := by decide +kernel
theorem dd_sg_answer_62 : decode prog_1_method_30_code 62 = .ok (.ireturn, 1) := by decide +kernel
theorem dd_sg_countPromise_0 : decode prog_1_method_31_code 0 = .ok (.aload_n 1, 1) := by decide +kernel
theorem dd_sg_countPromise_1 : decode prog_1_method_31_code 1 = .ok (.getfield 72, 3) := by decide +kernel
theorem dd_sg_countPromise_4 : decode prog_1_method_31_code 4 = .ok (.astore_n 3, 1) := by decide +kernel
theorem dd_sg_countPromise_5 : decode prog_1_method_31_code 5 = .ok (.aload_n 3, 1) := by decide +kernel
theorem dd_sg_countPromise_6 : decode prog_1_method_31_code 6 = .ok (.aload_n 2, 1) := by decide +kernel
theorem dd_sg_countPromise_7 : decode prog_1_method_31_code 7 = .ok (.iconst 1, 1) := by decide +kernel
theorem dd_sg_countPromise_8 : decode prog_1_method_31_code 8 = .ok (.invokevirtual 276, 3) := by decide +kernel
theorem dd_sg_countPromise_11 : decode prog_1_method_31_code 11 = .ok (.ifCond .ne 5, 3) := by decide +kernel
theorem dd_sg_countPromise_14 : decode prog_1_method_31_code 14 = .ok (.iconst 0, 1) := by decide +kernel
theorem dd_sg_countPromise_15 : decode prog_1_method_31_code 15 = .ok (.ireturn, 1) := by decide +kernel
theorem dd_sg_countPromise_16 : decode prog_1_method_31_code 16 = .ok (.aload_n 3, 1) := by decide +kernel
theorem dd_sg_countPromise_17 : decode prog_1_method_31_code 17 = .ok (.aload_n 2, 1) := by decide +kernel
theorem dd_sg_countPromise_18 : decode prog_1_method_31_code 18 = .ok (.invokevirtual 280, 3) := by decide +kernel
theorem dd_sg_countPromise_21 : decode prog_1_method_31_code 21 = .ok (.aload_n 3, 1) := by decide +kernel
theorem dd_sg_countPromise_22 : decode prog_1_method_31_code 22 = .ok (.getfield 283, 3) := by decide +kernel
theorem dd_sg_countPromise_25 : decode prog_1_method_31_code 25 = .ok (.invokestatic 172, 3) := by decide +kernel
theorem dd_sg_countPromise_28 : decode prog_1_method_31_code 28 = .ok (.ifCond .ne 5, 3) := by decide +kernel
theorem dd_sg_countPromise_31 : decode prog_1_method_31_code 31 = .ok (.iconst 0, 1) := by decide +kernel
theorem dd_sg_countPromise_32 : decode prog_1_method_31_code 32 = .ok (.ireturn, 1) := by decide +kernel
theorem dd_sg_countPromise_33 : decode prog_1_method_31_code 33 = .ok (.aload_n 3, 1) := by decide +kernel
theorem dd_sg_countPromise_34 : decode prog_1_method_31_code 34 = .ok (.invokevirtual 286, 3) := by decide +kernel
theorem dd_sg_countPromise_37 : decode prog_1_method_31_code 37 = .ok (.aload_n 0, 1) := by decide +kernel
theorem dd_sg_countPromise_38 : decode prog_1_method_31_code 38 = .ok (.aload_n 1, 1) := by decide +kernel
theorem dd_sg_countPromise_39 : decode prog_1_method_31_code 39 = .ok (.iconst 3, 1) := by decide +kernel
theorem dd_sg_countPromise_40 : decode prog_1_method_31_code 40 = .ok (.aload_n 3, 1) := by decide +kernel
theorem dd_sg_countPromise_41 : decode prog_1_method_31_code 41 = .ok (.getfield 289, 3) := by decide +kernel
theorem dd_sg_countPromise_44 : decode prog_1_method_31_code 44 = .ok (.invokevirtual 212, 3) := by decide +kernel
theorem dd_sg_countPromise_47 : decode prog_1_method_31_code 47 = .ok (.ireturn, 1) := by decide +kernel
theorem dd_sg_countAcceptance_0 : decode prog_1_method_32_code 0 = .ok (.aload_n 0, 1) := by decide +kernel
theorem dd_sg_countAcceptance_1 : decode prog_1_method_32_code 1 = .ok (.getfield 72, 3) := by decide +kernel
theorem dd_sg_countAcceptance_4 : decode prog_1_method_32_code 4 = .ok (.astore_n 2, 1) := by decide +kernel
theorem dd_sg_countAcceptance_5 : decode prog_1_method_32_code 5 = .ok (.aload_n 2, 1) := by decide +kernel
theorem dd_sg_countAcceptance_6 : decode prog_1_method_32_code 6 = .ok (.aload_n 1, 1) := by decide +kernel
theorem dd_sg_countAcceptance_7 : decode prog_1_method_32_code 7 = .ok (.iconst 2, 1) := by decide +kernel
theorem dd_sg_countAcceptance_8 : decode prog_1_method_32_code 8 = .ok (.invokevirtual 276, 3) := by decide +kernel
theorem dd_sg_countAcceptance_11 : decode prog_1_method_32_code 11 = .ok (.ifCond .ne 4, 3) := by decide +kernel
theorem dd_sg_countAcceptance_14 : decode prog_1_method_32_code 14 = .ok (.return_, 1) := by decide +kernel
theorem dd_sg_countAcceptance_15 : decode prog_1_method_32_code 15 = .ok (.aload_n 2, 1) := by decide +kernel
theorem dd_sg_countAcceptance_16 : decode prog_1_method_32_code 16 = .ok (.aload_n 1, 1) := by decide +kernel
theorem dd_sg_countAcceptance_17 : decode prog_1_method_32_code 17 = .ok (.invokevirtual 280, 3) := by decide +kernel
theorem dd_sg_countAcceptance_20 : decode prog_1_method_32_code 20 = .ok (.aload_n 2, 1) := by decide +kernel
theorem dd_sg_countAcceptance_21 : decode prog_1_method_32_code 21 = .ok (.getfield 283, 3) := by decide +kernel
theorem dd_sg_countAcceptance_24 : decode prog_1_method_32_code 24 = .ok (.invokestatic 175, 3) := by decide +kernel
theorem dd_sg_countAcceptance_27 : decode prog_1_method_32_code 27 = .ok (.ifCond .eq 11, 3) := by decide +kernel
theorem dd_sg_countAcceptance_30 : decode prog_1_method_32_code 30 = .ok (.aload_n 0, 1) := by decide +kernel
theorem dd_sg_countAcceptance_31 : decode prog_1_method_32_code 31 = .ok (.aload_n 2, 1) := by decide +kernel
theorem dd_sg_countAcceptance_32 : decode prog_1_method_32_code 32 = .ok (.getfield 289, 3) := by decide +kernel
theorem dd_sg_countAcceptance_35 : decode prog_1_method_32_code 35 = .ok (.invokevirtual 290, 3) := by decide +kernel
theorem dd_sg_countAcceptance_38 : decode prog_1_method_32_code 38 = .ok (.return_, 1) := by decide +kernel
theorem dd_sg_drop_0 : decode prog_1_method_6_code 0 = .ok (.aload_n 0, 1) := by decide +kernel
theorem dd_sg_drop_1 : decode prog_1_method_6_code 1 = .ok (.iload_n 1, 1) := by decide +kernel
theorem dd_sg_drop_2 : decode prog_1_method_6_code 2 = .ok (.invokevirtual 103, 3) := by decide +kernel
theorem dd_sg_drop_5 : decode prog_1_method_6_code 5 = .ok (.aload_n 0, 1) := by decide +kernel
theorem dd_sg_drop_6 : decode prog_1_method_6_code 6 = .ok (.getfield 27, 3) := by decide +kernel
theorem dd_sg_drop_9 : decode prog_1_method_6_code 9 = .ok (.iload_n 1, 1) := by decide +kernel
theorem dd_sg_drop_10 : decode prog_1_method_6_code 10 = .ok (.invokevirtual 106, 3) := by decide +kernel
theorem dd_sg_drop_13 : decode prog_1_method_6_code 13 = .ok (.getfield 114, 3) := by decide +kernel
theorem dd_sg_drop_16 : decode prog_1_method_6_code 16 = .ok (.ireturn, 1) := by decide +kernel
theorem dd_sg_copy_0 : decode prog_1_method_7_code 0 = .ok (.aload_n 0, 1) := by decide +kernel
theorem dd_sg_copy_1 : decode prog_1_method_7_code 1 = .ok (.iload_n 1, 1) := by decide +kernel
theorem dd_sg_copy_2 : decode prog_1_method_7_code 2 = .ok (.invokevirtual 103, 3) := by decide +kernel
theorem dd_sg_copy_5 : decode prog_1_method_7_code 5 = .ok (.aload_n 0, 1) := by decide +kernel
theorem dd_sg_copy_6 : decode prog_1_method_7_code 6 = .ok (.getfield 27, 3) := by decide +kernel
theorem dd_sg_copy_9 : decode prog_1_method_7_code 9 = .ok (.iload_n 1, 1) := by decide +kernel
theorem dd_sg_copy_10 : decode prog_1_method_7_code 10 = .ok (.invokevirtual 119, 3) := by decide +kernel
theorem dd_sg_copy_13 : decode prog_1_method_7_code 13 = .ok (.ireturn, 1) := by decide +kernel
theorem dd_sg_deliverAll_0 : decode prog_1_method_8_code 0 = .ok (.iload_n 1, 1) := by decide +kernel
theorem dd_sg_deliverAll_1 : decode prog_1_method_8_code 1 = .ok (.iconst 0, 1) := by decide +kernel
theorem dd_sg_deliverAll_2 : decode prog_1_method_8_code 2 = .ok (.sipush 2000, 3) := by decide +kernel
theorem dd_sg_deliverAll_5 : decode prog_1_method_8_code 5 = .ok (.invokestatic 40, 3) := by decide +kernel
theorem dd_sg_deliverAll_8 : decode prog_1_method_8_code 8 = .ok (.iconst 0, 1) := by decide +kernel
theorem dd_sg_deliverAll_9 : decode prog_1_method_8_code 9 = .ok (.istore_n 2, 1) := by decide +kernel
theorem dd_sg_deliverAll_10 : decode prog_1_method_8_code 10 = .ok (.iload_n 2, 1) := by decide +kernel
theorem dd_sg_deliverAll_11 : decode prog_1_method_8_code 11 = .ok (.iload_n 1, 1) := by decide +kernel
theorem dd_sg_deliverAll_12 : decode prog_1_method_8_code 12 = .ok (.if_icmp .ge 32, 3) := by decide +kernel
theorem dd_sg_deliverAll_15 : decode prog_1_method_8_code 15 = .ok (.aload_n 0, 1) := by decide +kernel
theorem dd_sg_deliverAll_16 : decode prog_1_method_8_code 16 = .ok (.getfield 27, 3) := by decide +kernel
theorem dd_sg_deliverAll_19 : decode prog_1_method_8_code 19 = .ok (.getfield 123, 3) := by decide +kernel
theorem dd_sg_deliverAll_22 : decode prog_1_method_8_code 22 = .ok (.ifCond .le 22, 3) := by decide +kernel
theorem dd_sg_deliverAll_25 : decode prog_1_method_8_code 25 = .ok (.aload_n 0, 1) := by decide +kernel
theorem dd_sg_deliverAll_26 : decode prog_1_method_8_code 26 = .ok (.aload_n 0, 1) := by decide +kernel
theorem dd_sg_deliverAll_27 : decode prog_1_method_8_code 27 = .ok (.getfield 27, 3) := by decide +kernel
theorem dd_sg_deliverAll_30 : decode prog_1_method_8_code 30 = .ok (.iconst 0, 1) := by decide +kernel
theorem dd_sg_deliverAll_31 : decode prog_1_method_8_code 31 = .ok (.invokevirtual 106, 3) := by decide +kernel
theorem dd_sg_deliverAll_34 : decode prog_1_method_8_code 34 = .ok (.invokevirtual 110, 3) := by decide +kernel
theorem dd_sg_deliverAll_37 : decode prog_1_method_8_code 37 = .ok (.pop, 1) := by decide +kernel
theorem dd_sg_deliverAll_38 : decode prog_1_method_8_code 38 = .ok (.iinc 2 1, 3) := by decide +kernel
theorem dd_sg_deliverAll_41 : decode prog_1_method_8_code 41 = .ok (.goto (-31), 3) := by decide +kernel
theorem dd_sg_deliverAll_44 : decode prog_1_method_8_code 44 = .ok (.iload_n 2, 1) := by decide +kernel
theorem dd_sg_deliverAll_45 : decode prog_1_method_8_code 45 = .ok (.ireturn, 1) := by decide +kernel
theorem dd_sg_up_0 : decode prog_1_method_9_code 0 = .ok (.iload_n 1, 1) := by decide +kernel
theorem dd_sg_up_1 : decode prog_1_method_9_code 1 = .ok (.invokestatic 53, 3) := by decide +kernel
theorem dd_sg_up_4 : decode prog_1_method_9_code 4 = .ok (.aload_n 0, 1) := by decide +kernel
theorem dd_sg_up_5 : decode prog_1_method_9_code 5 = .ok (.iload_n 1, 1) := by decide +kernel
theorem dd_sg_up_6 : decode prog_1_method_9_code 6 = .ok (.invokevirtual 126, 3) := by decide +kernel
theorem dd_sg_up_9 : decode prog_1_method_9_code 9 = .ok (.iload_n 2, 1) := by decide +kernel
theorem dd_sg_up_10 : decode prog_1_method_9_code 10 = .ok (.if_icmp .ne 5, 3) := by decide +kernel
theorem dd_sg_up_13 : decode prog_1_method_9_code 13 = .ok (.iconst 0, 1) := by decide +kernel
theorem dd_sg_up_14 : decode prog_1_method_9_code 14 = .ok (.ireturn, 1) := by decide +kernel
theorem dd_sg_up_15 : decode prog_1_method_9_code 15 = .ok (.aload_n 0, 1) := by decide +kernel
theorem dd_sg_up_16 : decode prog_1_method_9_code 16 = .ok (.dup, 1) := by decide +kernel
theorem dd_sg_up_17 : decode prog_1_method_9_code 17 = .ok (.getfield 32, 3) := by decide +kernel
theorem dd_sg_up_20 : decode prog_1_method_9_code 20 = .ok (.iconst 1, 1) := by decide +kernel
theorem dd_sg_up_21 : decode prog_1_method_9_code 21 = .ok (.iload_n 1, 1) := by decide +kernel
theorem dd_sg_up_22 : decode prog_1_method_9_code 22 = .ok (.ishl, 1) := by decide +kernel
theorem dd_sg_up_23 : decode prog_1_method_9_code 23 = .ok (.ixor, 1) := by decide +kernel
theorem dd_sg_up_24 : decode prog_1_method_9_code 24 = .ok (.putfield 32, 3) := by decide +kernel
theorem dd_sg_up_27 : decode prog_1_method_9_code 27 = .ok (.iload_n 2, 1) := by decide +kernel
theorem dd_sg_up_28 : decode prog_1_method_9_code 28 = .ok (.ifCond .ne 8, 3) := by decide +kernel
theorem dd_sg_up_31 : decode prog_1_method_9_code 31 = .ok (.aload_n 0, 1) := by decide +kernel
theorem dd_sg_up_32 : decode prog_1_method_9_code 32 = .ok (.iload_n 1, 1) := by decide +kernel
theorem dd_sg_up_33 : decode prog_1_method_9_code 33 = .ok (.invokevirtual 129, 3) := by decide +kernel
theorem dd_sg_up_36 : decode prog_1_method_9_code 36 = .ok (.iconst 1, 1) := by decide +kernel
theorem dd_sg_up_37 : decode prog_1_method_9_code 37 = .ok (.ireturn, 1) := by decide +kernel
theorem dd_sg_endAskings_0 : decode prog_1_method_25_code 0 = .ok (.iconst 0, 1) := by decide +kernel
theorem dd_sg_endAskings_1 : decode prog_1_method_25_code 1 = .ok (.istore_n 2, 1) := by decide +kernel
theorem dd_sg_endAskings_2 : decode prog_1_method_25_code 2 = .ok (.iload_n 2, 1) := by decide +kernel
theorem dd_sg_endAskings_3 : decode prog_1_method_25_code 3 = .ok (.bipush 20, 2) := by decide +kernel
theorem dd_sg_endAskings_5 : decode prog_1_method_25_code 5 = .ok (.if_icmp .ge 32, 3) := by decide +kernel
theorem dd_sg_endAskings_8 : decode prog_1_method_25_code 8 = .ok (.aload_n 0, 1) := by decide +kernel
theorem dd_sg_endAskings_9 : decode prog_1_method_25_code 9 = .ok (.getfield 11, 3) := by decide +kernel
theorem dd_sg_endAskings_12 : decode prog_1_method_25_code 12 = .ok (.iload_n 2, 1) := by decide +kernel
theorem dd_sg_endAskings_13 : decode prog_1_method_25_code 13 = .ok (.aaload, 1) := by decide +kernel
theorem dd_sg_endAskings_14 : decode prog_1_method_25_code 14 = .ok (.astore_n 3, 1) := by decide +kernel
theorem dd_sg_endAskings_15 : decode prog_1_method_25_code 15 = .ok (.aload_n 3, 1) := by decide +kernel
theorem dd_sg_endAskings_16 : decode prog_1_method_25_code 16 = .ok (.ifnull 15, 3) := by decide +kernel
theorem dd_sg_endAskings_19 : decode prog_1_method_25_code 19 = .ok (.aload_n 3, 1) := by decide +kernel
theorem dd_sg_endAskings_20 : decode prog_1_method_25_code 20 = .ok (.getfield 62, 3) := by decide +kernel
theorem dd_sg_endAskings_23 : decode prog_1_method_25_code 23 = .ok (.iload_n 1, 1) := by decide +kernel
theorem dd_sg_endAskings_24 : decode prog_1_method_25_code 24 = .ok (.aaload, 1) := by decide +kernel
theorem dd_sg_endAskings_25 : decode prog_1_method_25_code 25 = .ok (.getfield 72, 3) := by decide +kernel
theorem dd_sg_endAskings_28 : decode prog_1_method_25_code 28 = .ok (.invokevirtual 200, 3) := by decide +kernel
theorem dd_sg_endAskings_31 : decode prog_1_method_25_code 31 = .ok (.iinc 2 1, 3) := by decide +kernel
theorem dd_sg_endAskings_34 : decode prog_1_method_25_code 34 = .ok (.goto (-32), 3) := by decide +kernel
theorem dd_sg_endAskings_37 : decode prog_1_method_25_code 37 = .ok (.return_, 1) := by decide +kernel
theorem dd_sg_teach_0 : decode prog_1_method_10_code 0 = .ok (.iload_n 1, 1) := by decide +kernel
theorem dd_sg_teach_1 : decode prog_1_method_10_code 1 = .ok (.invokestatic 53, 3) := by decide +kernel
theorem dd_sg_teach_4 : decode prog_1_method_10_code 4 = .ok (.iload_n 2, 1) := by decide +kernel
theorem dd_sg_teach_5 : decode prog_1_method_10_code 5 = .ok (.invokestatic 53, 3) := by decide +kernel
theorem dd_sg_teach_8 : decode prog_1_method_10_code 8 = .ok (.iload_n 3, 1) := by decide +kernel
theorem dd_sg_teach_9 : decode prog_1_method_10_code 9 = .ok (.invokestatic 36, 3) := by decide +kernel
theorem dd_sg_teach_12 : decode prog_1_method_10_code 12 = .ok (.aload_n 0, 1) := by decide +kernel
theorem dd_sg_teach_13 : decode prog_1_method_10_code 13 = .ok (.iload_n 1, 1) := by decide +kernel
theorem dd_sg_teach_14 : decode prog_1_method_10_code 14 = .ok (.invokevirtual 59, 3) := by decide +kernel
theorem dd_sg_teach_17 : decode prog_1_method_10_code 17 = .ok (.aload_n 0, 1) := by decide +kernel
theorem dd_sg_teach_18 : decode prog_1_method_10_code 18 = .ok (.getfield 27, 3) := by decide +kernel
theorem dd_sg_teach_21 : decode prog_1_method_10_code 21 = .ok (.getfield 132, 3) := by decide +kernel
theorem dd_sg_teach_24 : decode prog_1_method_10_code 24 = .ok (.bipush 6, 2) := by decide +kernel
theorem dd_sg_teach_26 : decode prog_1_method_10_code 26 = .ok (.iload_n 1, 1) := by decide +kernel
theorem dd_sg_teach_27 : decode prog_1_method_10_code 27 = .ok (.iload_n 3, 1) := by decide +kernel
theorem dd_sg_teach_28 : decode prog_1_method_10_code 28 = .ok (.iconst 0, 1) := by decide +kernel
theorem dd_sg_teach_29 : decode prog_1_method_10_code 29 = .ok (.iconst 0, 1) := by decide +kernel
theorem dd_sg_teach_30 : decode prog_1_method_10_code 30 = .ok (.aload_n 0, 1) := by decide +kernel
theorem dd_sg_teach_31 : decode prog_1_method_10_code 31 = .ok (.iload_n 1, 1) := by decide +kernel
theorem dd_sg_teach_32 : decode prog_1_method_10_code 32 = .ok (.iload_n 3, 1) := by decide +kernel
theorem dd_sg_teach_33 : decode prog_1_method_10_code 33 = .ok (.invokevirtual 93, 3) := by decide +kernel
theorem dd_sg_teach_36 : decode prog_1_method_10_code 36 = .ok (.getfield 136, 3) := by decide +kernel
theorem dd_sg_teach_39 : decode prog_1_method_10_code 39 = .ok (.invokevirtual 140, 3) := by decide +kernel
theorem dd_sg_teach_42 : decode prog_1_method_10_code 42 = .ok (.aload_n 0, 1) := by decide +kernel
theorem dd_sg_teach_43 : decode prog_1_method_10_code 43 = .ok (.getfield 27, 3) := by decide +kernel
theorem dd_sg_teach_46 : decode prog_1_method_10_code 46 = .ok (.iload_n 2, 1) := by decide +kernel
theorem dd_sg_teach_47 : decode prog_1_method_10_code 47 = .ok (.invokevirtual 144, 3) := by decide +kernel
theorem dd_sg_teach_50 : decode prog_1_method_10_code 50 = .ok (.ireturn, 1) := by decide +kernel
theorem dd_sg_letter_0 : decode prog_1_method_12_code 0 = .ok (.aload_n 0, 1) := by decide +kernel
theorem dd_sg_letter_1 : decode prog_1_method_12_code 1 = .ok (.iload_n 1, 1) := by decide +kernel
theorem dd_sg_letter_2 : decode prog_1_method_12_code 2 = .ok (.invokevirtual 103, 3) := by decide +kernel
theorem dd_sg_letter_5 : decode prog_1_method_12_code 5 = .ok (.iload_n 2, 1) := by decide +kernel
theorem dd_sg_letter_6 : decode prog_1_method_12_code 6 = .ok (.iconst 0, 1) := by decide +kernel
theorem dd_sg_letter_7 : decode prog_1_method_12_code 7 = .ok (.bipush 9, 2) := by decide +kernel
theorem dd_sg_letter_9 : decode prog_1_method_12_code 9 = .ok (.invokestatic 40, 3) := by decide +kernel
theorem dd_sg_letter_12 : decode prog_1_method_12_code 12 = .ok (.aload_n 0, 1) := by decide +kernel
theorem dd_sg_letter_13 : decode prog_1_method_12_code 13 = .ok (.getfield 27, 3) := by decide +kernel
theorem dd_sg_letter_16 : decode prog_1_method_12_code 16 = .ok (.iload_n 1, 1) := by decide +kernel
theorem dd_sg_letter_17 : decode prog_1_method_12_code 17 = .ok (.invokevirtual 147, 3) := by decide +kernel
theorem dd_sg_letter_20 : decode prog_1_method_12_code 20 = .ok (.iload_n 2, 1) := by decide +kernel
theorem dd_sg_letter_21 : decode prog_1_method_12_code 21 = .ok (.invokevirtual 150, 3) := by decide +kernel
theorem dd_sg_letter_24 : decode prog_1_method_12_code 24 = .ok (.ireturn, 1) := by decide +kernel
theorem dd_sg_shopOf_0 : decode prog_1_method_36_code 0 = .ok (.iload_n 0, 1) := by decide +kernel
theorem dd_sg_shopOf_1 : decode prog_1_method_36_code 1 = .ok (.ifCond .ge 7, 3) := by decide +kernel
theorem dd_sg_shopOf_4 : decode prog_1_method_36_code 4 = .ok (.iconst (-1), 1) := by decide +kernel
theorem dd_sg_shopOf_5 : decode prog_1_method_36_code 5 = .ok (.goto 7, 3) := by decide +kernel
theorem dd_sg_shopOf_8 : decode prog_1_method_36_code 8 = .ok (.iload_n 0, 1) := by decide +kernel
theorem dd_sg_shopOf_9 : decode prog_1_method_36_code 9 = .ok (.bipush 25, 2) := by decide +kernel
theorem dd_sg_shopOf_11 : decode prog_1_method_36_code 11 = .ok (.irem, 1) := by decide +kernel
theorem dd_sg_shopOf_12 : decode prog_1_method_36_code 12 = .ok (.ireturn, 1) := by decide +kernel
theorem dd_sg_state_0 : decode prog_1_method_13_code 0 = .ok (.iload_n 1, 1) := by decide +kernel
theorem dd_sg_state_1 : decode prog_1_method_13_code 1 = .ok (.invokestatic 53, 3) := by decide +kernel
theorem dd_sg_state_4 : decode prog_1_method_13_code 4 = .ok (.iload_n 2, 1) := by decide +kernel
theorem dd_sg_state_5 : decode prog_1_method_13_code 5 = .ok (.invokestatic 36, 3) := by decide +kernel
theorem dd_sg_state_8 : decode prog_1_method_13_code 8 = .ok (.aload_n 0, 1) := by decide +kernel
theorem dd_sg_state_9 : decode prog_1_method_13_code 9 = .ok (.iload_n 1, 1) := by decide +kernel
theorem dd_sg_state_10 : decode prog_1_method_13_code 10 = .ok (.iload_n 2, 1) := by decide +kernel
theorem dd_sg_state_11 : decode prog_1_method_13_code 11 = .ok (.invokevirtual 93, 3) := by decide +kernel
theorem dd_sg_state_14 : decode prog_1_method_13_code 14 = .ok (.astore_n 3, 1) := by decide +kernel
theorem dd_sg_state_15 : decode prog_1_method_13_code 15 = .ok (.aload_n 3, 1) := by decide +kernel
theorem dd_sg_state_16 : decode prog_1_method_13_code 16 = .ok (.getfield 72, 3) := by decide +kernel
theorem dd_sg_state_19 : decode prog_1_method_13_code 19 = .ok (.invokevirtual 97, 3) := by decide +kernel
theorem dd_sg_state_22 : decode prog_1_method_13_code 22 = .ok (.ifCond .eq 5, 3) := by decide +kernel
theorem dd_sg_state_25 : decode prog_1_method_13_code 25 = .ok (.iconst 1, 1) := by decide +kernel
theorem dd_sg_state_26 : decode prog_1_method_13_code 26 = .ok (.ireturn, 1) := by decide +kernel
theorem dd_sg_state_27 : decode prog_1_method_13_code 27 = .ok (.aload_n 3, 1) := by decide +kernel
theorem dd_sg_state_28 : decode prog_1_method_13_code 28 = .ok (.getfield 136, 3) := by decide +kernel
theorem dd_sg_state_31 : decode prog_1_method_13_code 31 = .ok (.getfield 154, 3) := by decide +kernel
theorem dd_sg_state_34 : decode prog_1_method_13_code 34 = .ok (.ifCond .ne 5, 3) := by decide +kernel
theorem dd_sg_state_37 : decode prog_1_method_13_code 37 = .ok (.iconst 0, 1) := by decide +kernel
theorem dd_sg_state_38 : decode prog_1_method_13_code 38 = .ok (.ireturn, 1) := by decide +kernel
theorem dd_sg_state_39 : decode prog_1_method_13_code 39 = .ok (.aload_n 3, 1) := by decide +kernel
theorem dd_sg_state_40 : decode prog_1_method_13_code 40 = .ok (.getfield 136, 3) := by decide +kernel
theorem dd_sg_state_43 : decode prog_1_method_13_code 43 = .ok (.invokevirtual 159, 3) := by decide +kernel
theorem dd_sg_state_46 : decode prog_1_method_13_code 46 = .ok (.invokestatic 162, 3) := by decide +kernel
theorem dd_sg_state_49 : decode prog_1_method_13_code 49 = .ok (.iload_n 1, 1) := by decide +kernel
theorem dd_sg_state_50 : decode prog_1_method_13_code 50 = .ok (.if_icmp .ne 7, 3) := by decide +kernel
theorem dd_sg_state_53 : decode prog_1_method_13_code 53 = .ok (.iconst 2, 1) := by decide +kernel
theorem dd_sg_state_54 : decode prog_1_method_13_code 54 = .ok (.goto 4, 3) := by decide +kernel
theorem dd_sg_state_57 : decode prog_1_method_13_code 57 = .ok (.iconst 3, 1) := by decide +kernel
theorem dd_sg_state_58 : decode prog_1_method_13_code 58 = .ok (.ireturn, 1) := by decide +kernel
theorem dd_sg_granted_0 : decode prog_1_method_14_code 0 = .ok (.iload_n 1, 1) := by decide +kernel
theorem dd_sg_granted_1 : decode prog_1_method_14_code 1 = .ok (.invokestatic 53, 3) := by decide +kernel
theorem dd_sg_granted_4 : decode prog_1_method_14_code 4 = .ok (.iload_n 2, 1) := by decide +kernel
theorem dd_sg_granted_5 : decode prog_1_method_14_code 5 = .ok (.invokestatic 36, 3) := by decide +kernel
theorem dd_sg_granted_8 : decode prog_1_method_14_code 8 = .ok (.iload_n 3, 1) := by decide +kernel
theorem dd_sg_granted_9 : decode prog_1_method_14_code 9 = .ok (.iconst 1, 1) := by decide +kernel
theorem dd_sg_granted_10 : decode prog_1_method_14_code 10 = .ok (.bipush 12, 2) := by decide +kernel
theorem dd_sg_granted_12 : decode prog_1_method_14_code 12 = .ok (.invokestatic 40, 3) := by decide +kernel
theorem dd_sg_granted_15 : decode prog_1_method_14_code 15 = .ok (.aload_n 0, 1) := by decide +kernel
theorem dd_sg_granted_16 : decode prog_1_method_14_code 16 = .ok (.iload_n 1, 1) := by decide +kernel
theorem dd_sg_granted_17 : decode prog_1_method_14_code 17 = .ok (.iload_n 2, 1) := by decide +kernel
theorem dd_sg_granted_18 : decode prog_1_method_14_code 18 = .ok (.invokevirtual 93, 3) := by decide +kernel
theorem dd_sg_granted_21 : decode prog_1_method_14_code 21 = .ok (.getfield 136, 3) := by decide +kernel
theorem dd_sg_granted_24 : decode prog_1_method_14_code 24 = .ok (.iload_n 3, 1) := by decide +kernel
theorem dd_sg_granted_25 : decode prog_1_method_14_code 25 = .ok (.invokevirtual 165, 3) := by decide +kernel
theorem dd_sg_granted_28 : decode prog_1_method_14_code 28 = .ok (.istore 5, 2) := by decide +kernel
theorem dd_sg_granted_30 : decode prog_1_method_14_code 30 = .ok (.iload 4, 2) := by decide +kernel
theorem dd_sg_granted_32 : decode prog_1_method_14_code 32 = .ok (.ifCond .eq 11, 3) := by decide +kernel
theorem dd_sg_granted_35 : decode prog_1_method_14_code 35 = .ok (.iload 5, 2) := by decide +kernel
theorem dd_sg_granted_37 : decode prog_1_method_14_code 37 = .ok (.invokestatic 168, 3) := by decide +kernel
theorem dd_sg_granted_40 : decode prog_1_method_14_code 40 = .ok (.goto 8, 3) := by decide +kernel
theorem dd_sg_granted_43 : decode prog_1_method_14_code 43 = .ok (.iload 5, 2) := by decide +kernel
theorem dd_sg_granted_45 : decode prog_1_method_14_code 45 = .ok (.invokestatic 162, 3) := by decide +kernel
theorem dd_sg_granted_48 : decode prog_1_method_14_code 48 = .ok (.ireturn, 1) := by decide +kernel
theorem dd_sg_kept_0 : decode prog_1_method_15_code 0 = .ok (.iload_n 1, 1) := by decide +kernel
theorem dd_sg_kept_1 : decode prog_1_method_15_code 1 = .ok (.invokestatic 53, 3) := by decide +kernel
theorem dd_sg_kept_4 : decode prog_1_method_15_code 4 = .ok (.iload_n 2, 1) := by decide +kernel
theorem dd_sg_kept_5 : decode prog_1_method_15_code 5 = .ok (.invokestatic 36, 3) := by decide +kernel
theorem dd_sg_kept_8 : decode prog_1_method_15_code 8 = .ok (.iload_n 3, 1) := by decide +kernel
theorem dd_sg_kept_9 : decode prog_1_method_15_code 9 = .ok (.iconst 0, 1) := by decide +kernel
theorem dd_sg_kept_10 : decode prog_1_method_15_code 10 = .ok (.bipush 8, 2) := by decide +kernel
theorem dd_sg_kept_12 : decode prog_1_method_15_code 12 = .ok (.invokestatic 40, 3) := by decide +kernel
theorem dd_sg_kept_15 : decode prog_1_method_15_code 15 = .ok (.aload_n 0, 1) := by decide +kernel
theorem dd_sg_kept_16 : decode prog_1_method_15_code 16 = .ok (.iload_n 1, 1) := by decide +kernel
theorem dd_sg_kept_17 : decode prog_1_method_15_code 17 = .ok (.iload_n 2, 1) := by decide +kernel
theorem dd_sg_kept_18 : decode prog_1_method_15_code 18 = .ok (.invokevirtual 93, 3) := by decide +kernel
theorem dd_sg_kept_21 : decode prog_1_method_15_code 21 = .ok (.iload_n 3, 1) := by decide +kernel
theorem dd_sg_kept_22 : decode prog_1_method_15_code 22 = .ok (.invokevirtual 171, 3) := by decide +kernel
theorem dd_sg_kept_25 : decode prog_1_method_15_code 25 = .ok (.ireturn, 1) := by decide +kernel
theorem dd_sg_total_0 : decode prog_1_method_17_code 0 = .ok (.iload_n 1, 1) := by decide +kernel
theorem dd_sg_total_1 : decode prog_1_method_17_code 1 = .ok (.iconst 0, 1) := by decide +kernel
theorem dd_sg_total_2 : decode prog_1_method_17_code 2 = .ok (.iconst 2, 1) := by decide +kernel
theorem dd_sg_total_3 : decode prog_1_method_17_code 3 = .ok (.invokestatic 40, 3) := by decide +kernel
theorem dd_sg_total_6 : decode prog_1_method_17_code 6 = .ok (.iload_n 1, 1) := by decide +kernel
theorem dd_sg_total_7 : decode prog_1_method_17_code 7 = .ok (.ifCond .ne 11, 3) := by decide +kernel
theorem dd_sg_total_10 : decode prog_1_method_17_code 10 = .ok (.aload_n 0, 1) := by decide +kernel
theorem dd_sg_total_11 : decode prog_1_method_17_code 11 = .ok (.getfield 27, 3) := by decide +kernel
theorem dd_sg_total_14 : decode prog_1_method_17_code 14 = .ok (.getfield 178, 3) := by decide +kernel
theorem dd_sg_total_17 : decode prog_1_method_17_code 17 = .ok (.ireturn, 1) := by decide +kernel
theorem dd_sg_total_18 : decode prog_1_method_17_code 18 = .ok (.iload_n 1, 1) := by decide +kernel
theorem dd_sg_total_19 : decode prog_1_method_17_code 19 = .ok (.iconst 1, 1) := by decide +kernel
theorem dd_sg_total_20 : decode prog_1_method_17_code 20 = .ok (.if_icmp .ne 13, 3) := by decide +kernel
theorem dd_sg_total_23 : decode prog_1_method_17_code 23 = .ok (.aload_n 0, 1) := by decide +kernel
theorem dd_sg_total_24 : decode prog_1_method_17_code 24 = .ok (.getfield 27, 3) := by decide +kernel
theorem dd_sg_total_27 : decode prog_1_method_17_code 27 = .ok (.getfield 181, 3) := by decide +kernel
theorem dd_sg_total_30 : decode prog_1_method_17_code 30 = .ok (.goto 10, 3) := by decide +kernel
theorem dd_sg_total_33 : decode prog_1_method_17_code 33 = .ok (.aload_n 0, 1) := by decide +kernel
theorem dd_sg_total_34 : decode prog_1_method_17_code 34 = .ok (.getfield 27, 3) := by decide +kernel
theorem dd_sg_total_37 : decode prog_1_method_17_code 37 = .ok (.getfield 184, 3) := by decide +kernel
theorem dd_sg_total_40 : decode prog_1_method_17_code 40 = .ok (.ireturn, 1) := by decide +kernel
end
section
/-! DECODE rows (printed by gen/parts.py). -/
theorem dd_md_init_0 : decode prog_9_method_1_code 0 = .ok (.aload_n 0, 1) := by decide +kernel
theorem dd_md_init_1 : decode prog_9_method_1_code 1 = .ok (.invokespecial 1, 3) := by decide +kernel
theorem dd_md_init_4 : decode prog_9_method_1_code 4 = .ok (.aload_n 0, 1) := by decide +kernel
theorem dd_md_init_5 : decode prog_9_method_1_code 5 = .ok (.bipush 20, 2) := by decide +kernel
theorem dd_md_init_7 : decode prog_9_method_1_code 7 = .ok (.newarray .int, 2) := by decide +kernel
theorem dd_md_init_9 : decode prog_9_method_1_code 9 = .ok (.putfield 7, 3) := by decide +kernel
theorem dd_md_init_12 : decode prog_9_method_1_code 12 = .ok (.aload_n 0, 1) := by decide +kernel
theorem dd_md_init_13 : decode prog_9_method_1_code 13 = .ok (.bipush 20, 2) := by decide +kernel
theorem dd_md_init_15 : decode prog_9_method_1_code 15 = .ok (.newarray .int, 2) := by decide +kernel
theorem dd_md_init_17 : decode prog_9_method_1_code 17 = .ok (.putfield 13, 3) := by decide +kernel
theorem dd_md_init_20 : decode prog_9_method_1_code 20 = .ok (.aload_n 0, 1) := by decide +kernel
theorem dd_md_init_21 : decode prog_9_method_1_code 21 = .ok (.bipush 25, 2) := by decide +kernel
theorem dd_md_init_23 : decode prog_9_method_1_code 23 = .ok (.newarray .boolean, 2) := by decide +kernel
theorem dd_md_init_25 : decode prog_9_method_1_code 25 = .ok (.putfield 16, 3) := by decide +kernel
theorem dd_md_init_28 : decode prog_9_method_1_code 28 = .ok (.aload_n 0, 1) := by decide +kernel
theorem dd_md_init_29 : decode prog_9_method_1_code 29 = .ok (.sipush 500, 3) := by decide +kernel
theorem dd_md_init_32 : decode prog_9_method_1_code 32 = .ok (.newarray .int, 2) := by decide +kernel
theorem dd_md_init_34 : decode prog_9_method_1_code 34 = .ok (.putfield 20, 3) := by decide +kernel
theorem dd_md_init_37 : decode prog_9_method_1_code 37 = .ok (.aload_n 0, 1) := by decide +kernel
theorem dd_md_init_38 : decode prog_9_method_1_code 38 = .ok (.sipush 500, 3) := by decide +kernel
theorem dd_md_init_41 : decode prog_9_method_1_code 41 = .ok (.newarray .int, 2) := by decide +kernel
theorem dd_md_init_43 : decode prog_9_method_1_code 43 = .ok (.putfield 23, 3) := by decide +kernel
theorem dd_md_init_46 : decode prog_9_method_1_code 46 = .ok (.aload_n 0, 1) := by decide +kernel
theorem dd_md_init_47 : decode prog_9_method_1_code 47 = .ok (.sipush 500, 3) := by decide +kernel
theorem dd_md_init_50 : decode prog_9_method_1_code 50 = .ok (.newarray .int, 2) := by decide +kernel
theorem dd_md_init_52 : decode prog_9_method_1_code 52 = .ok (.putfield 26, 3) := by decide +kernel
theorem dd_md_init_55 : decode prog_9_method_1_code 55 = .ok (.aload_n 0, 1) := by decide +kernel
theorem dd_md_init_56 : decode prog_9_method_1_code 56 = .ok (.sipush 500, 3) := by decide +kernel
theorem dd_md_init_59 : decode prog_9_method_1_code 59 = .ok (.newarray .int, 2) := by decide +kernel
theorem dd_md_init_61 : decode prog_9_method_1_code 61 = .ok (.putfield 29, 3) := by decide +kernel
theorem dd_md_init_64 : decode prog_9_method_1_code 64 = .ok (.aload_n 0, 1) := by decide +kernel
theorem dd_md_init_65 : decode prog_9_method_1_code 65 = .ok (.sipush 500, 3) := by decide +kernel
theorem dd_md_init_68 : decode prog_9_method_1_code 68 = .ok (.newarray .int, 2) := by decide +kernel
theorem dd_md_init_70 : decode prog_9_method_1_code 70 = .ok (.putfield 32, 3) := by decide +kernel
theorem dd_md_init_73 : decode prog_9_method_1_code 73 = .ok (.aload_n 0, 1) := by decide +kernel
theorem dd_md_init_74 : decode prog_9_method_1_code 74 = .ok (.sipush 500, 3) := by decide +kernel
theorem dd_md_init_77 : decode prog_9_method_1_code 77 = .ok (.newarray .int, 2) := by decide +kernel
theorem dd_md_init_79 : decode prog_9_method_1_code 79 = .ok (.putfield 35, 3) := by decide +kernel
theorem dd_md_init_82 : decode prog_9_method_1_code 82 = .ok (.aload_n 0, 1) := by decide +kernel
theorem dd_md_init_83 : decode prog_9_method_1_code 83 = .ok (.sipush 6000, 3) := by decide +kernel
theorem dd_md_init_86 : decode prog_9_method_1_code 86 = .ok (.newarray .int, 2) := by decide +kernel
theorem dd_md_init_88 : decode prog_9_method_1_code 88 = .ok (.putfield 38, 3) := by decide +kernel
theorem dd_md_init_91 : decode prog_9_method_1_code 91 = .ok (.aload_n 0, 1) := by decide +kernel
theorem dd_md_init_92 : decode prog_9_method_1_code 92 = .ok (.sipush 6000, 3) := by decide +kernel
theorem dd_md_init_95 : decode prog_9_method_1_code 95 = .ok (.newarray .int, 2) := by decide +kernel
theorem dd_md_init_97 : decode prog_9_method_1_code 97 = .ok (.putfield 41, 3) := by decide +kernel
theorem dd_md_init_100 : decode prog_9_method_1_code 100 = .ok (.aload_n 0, 1) := by decide +kernel
theorem dd_md_init_101 : decode prog_9_method_1_code 101 = .ok (.sipush 500, 3) := by decide +kernel
theorem dd_md_init_104 : decode prog_9_method_1_code 104 = .ok (.newarray .int, 2) := by decide +kernel
theorem dd_md_init_106 : decode prog_9_method_1_code 106 = .ok (.putfield 44, 3) := by decide +kernel
theorem dd_md_init_109 : decode prog_9_method_1_code 109 = .ok (.aload_n 0, 1) := by decide +kernel
theorem dd_md_init_110 : decode prog_9_method_1_code 110 = .ok (.sipush 500, 3) := by decide +kernel
theorem dd_md_init_113 : decode prog_9_method_1_code 113 = .ok (.newarray .int, 2) := by decide +kernel
theorem dd_md_init_115 : decode prog_9_method_1_code 115 = .ok (.putfield 47, 3) := by decide +kernel
theorem dd_md_init_118 : decode prog_9_method_1_code 118 = .ok (.aload_n 0, 1) := by decide +kernel
theorem dd_md_init_119 : decode prog_9_method_1_code 119 = .ok (.sipush 500, 3) := by decide +kernel
theorem dd_md_init_122 : decode prog_9_method_1_code 122 = .ok (.newarray .int, 2) := by decide +kernel
theorem dd_md_init_124 : decode prog_9_method_1_code 124 = .ok (.putfield 50, 3) := by decide +kernel
theorem dd_md_init_127 : decode prog_9_method_1_code 127 = .ok (.aload_n 0, 1) := by decide +kernel
theorem dd_md_init_128 : decode prog_9_method_1_code 128 = .ok (.sipush 500, 3) := by decide +kernel
theorem dd_md_init_131 : decode prog_9_method_1_code 131 = .ok (.newarray .int, 2) := by decide +kernel
theorem dd_md_init_133 : decode prog_9_method_1_code 133 = .ok (.putfield 53, 3) := by decide +kernel
theorem dd_md_init_136 : decode prog_9_method_1_code 136 = .ok (.aload_n 0, 1) := by decide +kernel
theorem dd_md_init_137 : decode prog_9_method_1_code 137 = .ok (.sipush 500, 3) := by decide +kernel
theorem dd_md_init_140 : decode prog_9_method_1_code 140 = .ok (.newarray .int, 2) := by decide +kernel
theorem dd_md_init_142 : decode prog_9_method_1_code 142 = .ok (.putfield 56, 3) := by decide +kernel
theorem dd_md_init_145 : decode prog_9_method_1_code 145 = .ok (.aload_n 0, 1) := by decide +kernel
theorem dd_md_init_146 : decode prog_9_method_1_code 146 = .ok (.sipush 500, 3) := by decide +kernel
theorem dd_md_init_149 : decode prog_9_method_1_code 149 = .ok (.newarray .int, 2) := by decide +kernel
theorem dd_md_init_151 : decode prog_9_method_1_code 151 = .ok (.putfield 59, 3) := by decide +kernel
theorem dd_md_init_154 : decode prog_9_method_1_code 154 = .ok (.aload_n 0, 1) := by decide +kernel
theorem dd_md_init_155 : decode prog_9_method_1_code 155 = .ok (.sipush 500, 3) := by decide +kernel
theorem dd_md_init_158 : decode prog_9_method_1_code 158 = .ok (.newarray .int, 2) := by decide +kernel
theorem dd_md_init_160 : decode prog_9_method_1_code 160 = .ok (.putfield 62, 3) := by decide +kernel
theorem dd_md_init_163 : decode prog_9_method_1_code 163 = .ok (.aload_n 0, 1) := by decide +kernel
theorem dd_md_init_164 : decode prog_9_method_1_code 164 = .ok (.sipush 500, 3) := by decide +kernel
theorem dd_md_init_167 : decode prog_9_method_1_code 167 = .ok (.newarray .int, 2) := by decide +kernel
theorem dd_md_init_169 : decode prog_9_method_1_code 169 = .ok (.putfield 65, 3) := by decide +kernel
theorem dd_md_init_172 : decode prog_9_method_1_code 172 = .ok (.aload_n 0, 1) := by decide +kernel
theorem dd_md_init_173 : decode prog_9_method_1_code 173 = .ok (.sipush 500, 3) := by decide +kernel
theorem dd_md_init_176 : decode prog_9_method_1_code 176 = .ok (.newarray .int, 2) := by decide +kernel
theorem dd_md_init_178 : decode prog_9_method_1_code 178 = .ok (.putfield 68, 3) := by decide +kernel
theorem dd_md_init_181 : decode prog_9_method_1_code 181 = .ok (.aload_n 0, 1) := by decide +kernel
theorem dd_md_init_182 : decode prog_9_method_1_code 182 = .ok (.sipush 500, 3) := by decide +kernel
theorem dd_md_init_185 : decode prog_9_method_1_code 185 = .ok (.newarray .int, 2) := by decide +kernel
theorem dd_md_init_187 : decode prog_9_method_1_code 187 = .ok (.putfield 71, 3) := by decide +kernel
theorem dd_md_init_190 : decode prog_9_method_1_code 190 = .ok (.aload_n 0, 1) := by decide +kernel
theorem dd_md_init_191 : decode prog_9_method_1_code 191 = .ok (.sipush 3400, 3) := by decide +kernel
theorem dd_md_init_194 : decode prog_9_method_1_code 194 = .ok (.newarray .int, 2) := by decide +kernel
theorem dd_md_init_196 : decode prog_9_method_1_code 196 = .ok (.putfield 74, 3) := by decide +kernel
theorem dd_md_init_199 : decode prog_9_method_1_code 199 = .ok (.aload_n 0, 1) := by decide +kernel
theorem dd_md_init_200 : decode prog_9_method_1_code 200 = .ok (.bipush 34, 2) := by decide +kernel
theorem dd_md_init_202 : decode prog_9_method_1_code 202 = .ok (.newarray .int, 2) := by decide +kernel
theorem dd_md_init_204 : decode prog_9_method_1_code 204 = .ok (.putfield 77, 3) := by decide +kernel
theorem dd_md_init_207 : decode prog_9_method_1_code 207 = .ok (.return_, 1) := by decide +kernel
theorem dd_md_thrown_0 : decode prog_9_method_2_code 0 = .ok (.aload_n 0, 1) := by decide +kernel
theorem dd_md_thrown_1 : decode prog_9_method_2_code 1 = .ok (.getfield 80, 3) := by decide +kernel
theorem dd_md_thrown_4 : decode prog_9_method_2_code 4 = .ok (.ireturn, 1) := by decide +kernel
theorem dd_md_register_0 : decode prog_9_method_8_code 0 = .ok (.aload_n 0, 1) := by decide +kernel
theorem dd_md_register_1 : decode prog_9_method_8_code 1 = .ok (.iload_n 1, 1) := by decide +kernel
theorem dd_md_register_2 : decode prog_9_method_8_code 2 = .ok (.invokestatic 88, 3) := by decide +kernel
theorem dd_md_register_5 : decode prog_9_method_8_code 5 = .ok (.ifCond .eq 23, 3) := by decide +kernel
theorem dd_md_register_8 : decode prog_9_method_8_code 8 = .ok (.iload_n 2, 1) := by decide +kernel
theorem dd_md_register_9 : decode prog_9_method_8_code 9 = .ok (.iconst 1, 1) := by decide +kernel
theorem dd_md_register_10 : decode prog_9_method_8_code 10 = .ok (.isub, 1) := by decide +kernel
theorem dd_md_register_11 : decode prog_9_method_8_code 11 = .ok (.bipush 12, 2) := by decide +kernel
theorem dd_md_register_13 : decode prog_9_method_8_code 13 = .ok (.invokestatic 84, 3) := by decide +kernel
theorem dd_md_register_16 : decode prog_9_method_8_code 16 = .ok (.ifCond .eq 12, 3) := by decide +kernel
theorem dd_md_register_19 : decode prog_9_method_8_code 19 = .ok (.iload_n 3, 1) := by decide +kernel
theorem dd_md_register_20 : decode prog_9_method_8_code 20 = .ok (.bipush 91, 2) := by decide +kernel
theorem dd_md_register_22 : decode prog_9_method_8_code 22 = .ok (.invokestatic 84, 3) := by decide +kernel
theorem dd_md_register_25 : decode prog_9_method_8_code 25 = .ok (.ifCond .ne 7, 3) := by decide +kernel
theorem dd_md_register_28 : decode prog_9_method_8_code 28 = .ok (.iconst 1, 1) := by decide +kernel
theorem dd_md_register_29 : decode prog_9_method_8_code 29 = .ok (.goto 4, 3) := by decide +kernel
theorem dd_md_register_32 : decode prog_9_method_8_code 32 = .ok (.iconst 0, 1) := by decide +kernel
theorem dd_md_register_33 : decode prog_9_method_8_code 33 = .ok (.iconst 1, 1) := by decide +kernel
theorem dd_md_register_34 : decode prog_9_method_8_code 34 = .ok (.invokevirtual 92, 3) := by decide +kernel
theorem dd_md_register_37 : decode prog_9_method_8_code 37 = .ok (.ifCond .ne 25, 3) := by decide +kernel
theorem dd_md_register_40 : decode prog_9_method_8_code 40 = .ok (.aload_n 0, 1) := by decide +kernel
theorem dd_md_register_41 : decode prog_9_method_8_code 41 = .ok (.aload_n 0, 1) := by decide +kernel
theorem dd_md_register_42 : decode prog_9_method_8_code 42 = .ok (.getfield 7, 3) := by decide +kernel
theorem dd_md_register_45 : decode prog_9_method_8_code 45 = .ok (.iload_n 1, 1) := by decide +kernel
theorem dd_md_register_46 : decode prog_9_method_8_code 46 = .ok (.iaload, 1) := by decide +kernel
theorem dd_md_register_47 : decode prog_9_method_8_code 47 = .ok (.ifCond .le 7, 3) := by decide +kernel
theorem dd_md_register_50 : decode prog_9_method_8_code 50 = .ok (.iconst 1, 1) := by decide +kernel
theorem dd_md_register_51 : decode prog_9_method_8_code 51 = .ok (.goto 4, 3) := by decide +kernel
theorem dd_md_register_54 : decode prog_9_method_8_code 54 = .ok (.iconst 0, 1) := by decide +kernel
theorem dd_md_register_55 : decode prog_9_method_8_code 55 = .ok (.iconst 2, 1) := by decide +kernel
theorem dd_md_register_56 : decode prog_9_method_8_code 56 = .ok (.invokevirtual 92, 3) := by decide +kernel
theorem dd_md_register_59 : decode prog_9_method_8_code 59 = .ok (.ifCond .eq 4, 3) := by decide +kernel
theorem dd_md_register_62 : decode prog_9_method_8_code 62 = .ok (.return_, 1) := by decide +kernel
theorem dd_md_register_63 : decode prog_9_method_8_code 63 = .ok (.aload_n 0, 1) := by decide +kernel
theorem dd_md_register_64 : decode prog_9_method_8_code 64 = .ok (.getfield 7, 3) := by decide +kernel
theorem dd_md_register_67 : decode prog_9_method_8_code 67 = .ok (.iload_n 1, 1) := by decide +kernel
theorem dd_md_register_68 : decode prog_9_method_8_code 68 = .ok (.iload_n 2, 1) := by decide +kernel
theorem dd_md_register_69 : decode prog_9_method_8_code 69 = .ok (.iastore, 1) := by decide +kernel
theorem dd_md_register_70 : decode prog_9_method_8_code 70 = .ok (.aload_n 0, 1) := by decide +kernel
theorem dd_md_register_71 : decode prog_9_method_8_code 71 = .ok (.getfield 13, 3) := by decide +kernel
theorem dd_md_register_74 : decode prog_9_method_8_code 74 = .ok (.iload_n 1, 1) := by decide +kernel
theorem dd_md_register_75 : decode prog_9_method_8_code 75 = .ok (.iload_n 3, 1) := by decide +kernel
theorem dd_md_register_76 : decode prog_9_method_8_code 76 = .ok (.iastore, 1) := by decide +kernel
theorem dd_md_register_77 : decode prog_9_method_8_code 77 = .ok (.return_, 1) := by decide +kernel
theorem dd_md_isPrescription_0 : decode prog_9_method_6_code 0 = .ok (.iload_n 0, 1) := by decide +kernel
theorem dd_md_isPrescription_1 : decode prog_9_method_6_code 1 = .ok (.bipush 20, 2) := by decide +kernel
theorem dd_md_isPrescription_3 : decode prog_9_method_6_code 3 = .ok (.invokestatic 84, 3) := by decide +kernel
theorem dd_md_isPrescription_6 : decode prog_9_method_6_code 6 = .ok (.ireturn, 1) := by decide +kernel
theorem dd_md_within_0 : decode prog_9_method_4_code 0 = .ok (.iload_n 0, 1) := by decide +kernel
theorem dd_md_within_1 : decode prog_9_method_4_code 1 = .ok (.ifCond .lt 12, 3) := by decide +kernel
theorem dd_md_within_4 : decode prog_9_method_4_code 4 = .ok (.iload_n 0, 1) := by decide +kernel
theorem dd_md_within_5 : decode prog_9_method_4_code 5 = .ok (.iload_n 1, 1) := by decide +kernel
theorem dd_md_within_6 : decode prog_9_method_4_code 6 = .ok (.if_icmp .ge 7, 3) := by decide +kernel
theorem dd_md_within_9 : decode prog_9_method_4_code 9 = .ok (.iconst 1, 1) := by decide +kernel
theorem dd_md_within_10 : decode prog_9_method_4_code 10 = .ok (.goto 4, 3) := by decide +kernel
theorem dd_md_within_13 : decode prog_9_method_4_code 13 = .ok (.iconst 0, 1) := by decide +kernel
theorem dd_md_within_14 : decode prog_9_method_4_code 14 = .ok (.ireturn, 1) := by decide +kernel
theorem dd_md_fails_0 : decode prog_9_method_3_code 0 = .ok (.aload_n 0, 1) := by decide +kernel
theorem dd_md_fails_1 : decode prog_9_method_3_code 1 = .ok (.iload_n 1, 1) := by decide +kernel
theorem dd_md_fails_2 : decode prog_9_method_3_code 2 = .ok (.ifCond .eq 7, 3) := by decide +kernel
theorem dd_md_fails_5 : decode prog_9_method_3_code 5 = .ok (.iload_n 2, 1) := by decide +kernel
theorem dd_md_fails_6 : decode prog_9_method_3_code 6 = .ok (.goto 4, 3) := by decide +kernel
theorem dd_md_fails_9 : decode prog_9_method_3_code 9 = .ok (.iconst 0, 1) := by decide +kernel
theorem dd_md_fails_10 : decode prog_9_method_3_code 10 = .ok (.putfield 80, 3) := by decide +kernel
theorem dd_md_fails_13 : decode prog_9_method_3_code 13 = .ok (.iload_n 1, 1) := by decide +kernel
theorem dd_md_fails_14 : decode prog_9_method_3_code 14 = .ok (.ireturn, 1) := by decide +kernel
theorem dd_md_ask_0 : decode prog_9_method_14_code 0 = .ok (.aload_n 0, 1) := by decide +kernel
theorem dd_md_ask_1 : decode prog_9_method_14_code 1 = .ok (.iload_n 1, 1) := by decide +kernel
theorem dd_md_ask_2 : decode prog_9_method_14_code 2 = .ok (.invokestatic 117, 3) := by decide +kernel
theorem dd_md_ask_5 : decode prog_9_method_14_code 5 = .ok (.ifCond .eq 19, 3) := by decide +kernel
theorem dd_md_ask_8 : decode prog_9_method_14_code 8 = .ok (.iload_n 2, 1) := by decide +kernel
theorem dd_md_ask_9 : decode prog_9_method_14_code 9 = .ok (.invokestatic 88, 3) := by decide +kernel
theorem dd_md_ask_12 : decode prog_9_method_14_code 12 = .ok (.ifCond .eq 12, 3) := by decide +kernel
theorem dd_md_ask_15 : decode prog_9_method_14_code 15 = .ok (.iload_n 3, 1) := by decide +kernel
theorem dd_md_ask_16 : decode prog_9_method_14_code 16 = .ok (.ldc 120, 2) := by decide +kernel
theorem dd_md_ask_18 : decode prog_9_method_14_code 18 = .ok (.invokestatic 84, 3) := by decide +kernel
theorem dd_md_ask_21 : decode prog_9_method_14_code 21 = .ok (.ifCond .ne 7, 3) := by decide +kernel
theorem dd_md_ask_24 : decode prog_9_method_14_code 24 = .ok (.iconst 1, 1) := by decide +kernel
theorem dd_md_ask_25 : decode prog_9_method_14_code 25 = .ok (.goto 4, 3) := by decide +kernel
theorem dd_md_ask_28 : decode prog_9_method_14_code 28 = .ok (.iconst 0, 1) := by decide +kernel
theorem dd_md_ask_29 : decode prog_9_method_14_code 29 = .ok (.iconst 1, 1) := by decide +kernel
theorem dd_md_ask_30 : decode prog_9_method_14_code 30 = .ok (.invokevirtual 92, 3) := by decide +kernel
theorem dd_md_ask_33 : decode prog_9_method_14_code 33 = .ok (.ifCond .eq 5, 3) := by decide +kernel
theorem dd_md_ask_36 : decode prog_9_method_14_code 36 = .ok (.iconst 0, 1) := by decide +kernel
theorem dd_md_ask_37 : decode prog_9_method_14_code 37 = .ok (.ireturn, 1) := by decide +kernel
theorem dd_md_ask_38 : decode prog_9_method_14_code 38 = .ok (.iload_n 1, 1) := by decide +kernel
theorem dd_md_ask_39 : decode prog_9_method_14_code 39 = .ok (.iload_n 2, 1) := by decide +kernel
theorem dd_md_ask_40 : decode prog_9_method_14_code 40 = .ok (.invokestatic 105, 3) := by decide +kernel
theorem dd_md_ask_43 : decode prog_9_method_14_code 43 = .ok (.istore 4, 2) := by decide +kernel
theorem dd_md_ask_45 : decode prog_9_method_14_code 45 = .ok (.aload_n 0, 1) := by decide +kernel
theorem dd_md_ask_46 : decode prog_9_method_14_code 46 = .ok (.getfield 7, 3) := by decide +kernel
theorem dd_md_ask_49 : decode prog_9_method_14_code 49 = .ok (.iload_n 2, 1) := by decide +kernel
theorem dd_md_ask_50 : decode prog_9_method_14_code 50 = .ok (.iaload, 1) := by decide +kernel
theorem dd_md_ask_51 : decode prog_9_method_14_code 51 = .ok (.ifCond .le 32, 3) := by decide +kernel
theorem dd_md_ask_54 : decode prog_9_method_14_code 54 = .ok (.aload_n 0, 1) := by decide +kernel
theorem dd_md_ask_55 : decode prog_9_method_14_code 55 = .ok (.getfield 16, 3) := by decide +kernel
theorem dd_md_ask_58 : decode prog_9_method_14_code 58 = .ok (.iload_n 1, 1) := by decide +kernel
theorem dd_md_ask_59 : decode prog_9_method_14_code 59 = .ok (.baload, 1) := by decide +kernel
theorem dd_md_ask_60 : decode prog_9_method_14_code 60 = .ok (.ifCond .ne 23, 3) := by decide +kernel
theorem dd_md_ask_63 : decode prog_9_method_14_code 63 = .ok (.aload_n 0, 1) := by decide +kernel
theorem dd_md_ask_64 : decode prog_9_method_14_code 64 = .ok (.getfield 20, 3) := by decide +kernel
theorem dd_md_ask_67 : decode prog_9_method_14_code 67 = .ok (.iload 4, 2) := by decide +kernel
theorem dd_md_ask_69 : decode prog_9_method_14_code 69 = .ok (.iaload, 1) := by decide +kernel
theorem dd_md_ask_70 : decode prog_9_method_14_code 70 = .ok (.aload_n 0, 1) := by decide +kernel
theorem dd_md_ask_71 : decode prog_9_method_14_code 71 = .ok (.getfield 7, 3) := by decide +kernel
theorem dd_md_ask_74 : decode prog_9_method_14_code 74 = .ok (.iload_n 2, 1) := by decide +kernel
theorem dd_md_ask_75 : decode prog_9_method_14_code 75 = .ok (.iaload, 1) := by decide +kernel
theorem dd_md_ask_76 : decode prog_9_method_14_code 76 = .ok (.if_icmp .ge 7, 3) := by decide +kernel
theorem dd_md_ask_79 : decode prog_9_method_14_code 79 = .ok (.iconst 1, 1) := by decide +kernel
theorem dd_md_ask_80 : decode prog_9_method_14_code 80 = .ok (.goto 4, 3) := by decide +kernel
theorem dd_md_ask_83 : decode prog_9_method_14_code 83 = .ok (.iconst 0, 1) := by decide +kernel
theorem dd_md_ask_84 : decode prog_9_method_14_code 84 = .ok (.istore 5, 2) := by decide +kernel
theorem dd_md_ask_86 : decode prog_9_method_14_code 86 = .ok (.aload_n 0, 1) := by decide +kernel
theorem dd_md_ask_87 : decode prog_9_method_14_code 87 = .ok (.iload 5, 2) := by decide +kernel
theorem dd_md_ask_89 : decode prog_9_method_14_code 89 = .ok (.ifCond .eq 44, 3) := by decide +kernel
theorem dd_md_ask_92 : decode prog_9_method_14_code 92 = .ok (.aload_n 0, 1) := by decide +kernel
theorem dd_md_ask_93 : decode prog_9_method_14_code 93 = .ok (.getfield 20, 3) := by decide +kernel
theorem dd_md_ask_96 : decode prog_9_method_14_code 96 = .ok (.iload 4, 2) := by decide +kernel
theorem dd_md_ask_98 : decode prog_9_method_14_code 98 = .ok (.iaload, 1) := by decide +kernel
theorem dd_md_ask_99 : decode prog_9_method_14_code 99 = .ok (.ifCond .le 38, 3) := by decide +kernel
theorem dd_md_ask_102 : decode prog_9_method_14_code 102 = .ok (.iload_n 3, 1) := by decide +kernel
theorem dd_md_ask_103 : decode prog_9_method_14_code 103 = .ok (.aload_n 0, 1) := by decide +kernel
theorem dd_md_ask_104 : decode prog_9_method_14_code 104 = .ok (.getfield 41, 3) := by decide +kernel
theorem dd_md_ask_107 : decode prog_9_method_14_code 107 = .ok (.bipush 12, 2) := by decide +kernel
theorem dd_md_ask_109 : decode prog_9_method_14_code 109 = .ok (.iload 4, 2) := by decide +kernel
theorem dd_md_ask_111 : decode prog_9_method_14_code 111 = .ok (.imul, 1) := by decide +kernel
theorem dd_md_ask_112 : decode prog_9_method_14_code 112 = .ok (.aload_n 0, 1) := by decide +kernel
theorem dd_md_ask_113 : decode prog_9_method_14_code 113 = .ok (.getfield 20, 3) := by decide +kernel
theorem dd_md_ask_116 : decode prog_9_method_14_code 116 = .ok (.iload 4, 2) := by decide +kernel
theorem dd_md_ask_118 : decode prog_9_method_14_code 118 = .ok (.iaload, 1) := by decide +kernel
theorem dd_md_ask_119 : decode prog_9_method_14_code 119 = .ok (.iadd, 1) := by decide +kernel
theorem dd_md_ask_120 : decode prog_9_method_14_code 120 = .ok (.iconst 1, 1) := by decide +kernel
theorem dd_md_ask_121 : decode prog_9_method_14_code 121 = .ok (.isub, 1) := by decide +kernel
theorem dd_md_ask_122 : decode prog_9_method_14_code 122 = .ok (.iaload, 1) := by decide +kernel
theorem dd_md_ask_123 : decode prog_9_method_14_code 123 = .ok (.aload_n 0, 1) := by decide +kernel
theorem dd_md_ask_124 : decode prog_9_method_14_code 124 = .ok (.getfield 13, 3) := by decide +kernel
theorem dd_md_ask_127 : decode prog_9_method_14_code 127 = .ok (.iload_n 2, 1) := by decide +kernel
theorem dd_md_ask_128 : decode prog_9_method_14_code 128 = .ok (.iaload, 1) := by decide +kernel
theorem dd_md_ask_129 : decode prog_9_method_14_code 129 = .ok (.iadd, 1) := by decide +kernel
theorem dd_md_ask_130 : decode prog_9_method_14_code 130 = .ok (.if_icmp .ge 7, 3) := by decide +kernel
theorem dd_md_ask_133 : decode prog_9_method_14_code 133 = .ok (.iconst 1, 1) := by decide +kernel
theorem dd_md_ask_134 : decode prog_9_method_14_code 134 = .ok (.goto 4, 3) := by decide +kernel
theorem dd_md_ask_137 : decode prog_9_method_14_code 137 = .ok (.iconst 0, 1) := by decide +kernel
theorem dd_md_ask_138 : decode prog_9_method_14_code 138 = .ok (.iconst 2, 1) := by decide +kernel
theorem dd_md_ask_139 : decode prog_9_method_14_code 139 = .ok (.invokevirtual 92, 3) := by decide +kernel
theorem dd_md_ask_142 : decode prog_9_method_14_code 142 = .ok (.ifCond .eq 5, 3) := by decide +kernel
theorem dd_md_ask_145 : decode prog_9_method_14_code 145 = .ok (.iconst 0, 1) := by decide +kernel
theorem dd_md_ask_146 : decode prog_9_method_14_code 146 = .ok (.ireturn, 1) := by decide +kernel
theorem dd_md_ask_147 : decode prog_9_method_14_code 147 = .ok (.aload_n 0, 1) := by decide +kernel
theorem dd_md_ask_148 : decode prog_9_method_14_code 148 = .ok (.iload 4, 2) := by decide +kernel
theorem dd_md_ask_150 : decode prog_9_method_14_code 150 = .ok (.invokevirtual 109, 3) := by decide +kernel
theorem dd_md_ask_153 : decode prog_9_method_14_code 153 = .ok (.aload_n 0, 1) := by decide +kernel
theorem dd_md_ask_154 : decode prog_9_method_14_code 154 = .ok (.getfield 44, 3) := by decide +kernel
theorem dd_md_ask_157 : decode prog_9_method_14_code 157 = .ok (.iload 4, 2) := by decide +kernel
theorem dd_md_ask_159 : decode prog_9_method_14_code 159 = .ok (.aload_n 0, 1) := by decide +kernel
theorem dd_md_ask_160 : decode prog_9_method_14_code 160 = .ok (.getfield 20, 3) := by decide +kernel
theorem dd_md_ask_163 : decode prog_9_method_14_code 163 = .ok (.iload 4, 2) := by decide +kernel
theorem dd_md_ask_165 : decode prog_9_method_14_code 165 = .ok (.iaload, 1) := by decide +kernel
theorem dd_md_ask_166 : decode prog_9_method_14_code 166 = .ok (.iconst 1, 1) := by decide +kernel
theorem dd_md_ask_167 : decode prog_9_method_14_code 167 = .ok (.iadd, 1) := by decide +kernel
theorem dd_md_ask_168 : decode prog_9_method_14_code 168 = .ok (.iastore, 1) := by decide +kernel
theorem dd_md_ask_169 : decode prog_9_method_14_code 169 = .ok (.aload_n 0, 1) := by decide +kernel
theorem dd_md_ask_170 : decode prog_9_method_14_code 170 = .ok (.getfield 47, 3) := by decide +kernel
theorem dd_md_ask_173 : decode prog_9_method_14_code 173 = .ok (.iload 4, 2) := by decide +kernel
theorem dd_md_ask_175 : decode prog_9_method_14_code 175 = .ok (.iload_n 1, 1) := by decide +kernel
theorem dd_md_ask_176 : decode prog_9_method_14_code 176 = .ok (.iastore, 1) := by decide +kernel
theorem dd_md_ask_177 : decode prog_9_method_14_code 177 = .ok (.aload_n 0, 1) := by decide +kernel
theorem dd_md_ask_178 : decode prog_9_method_14_code 178 = .ok (.getfield 50, 3) := by decide +kernel
theorem dd_md_ask_181 : decode prog_9_method_14_code 181 = .ok (.iload 4, 2) := by decide +kernel
theorem dd_md_ask_183 : decode prog_9_method_14_code 183 = .ok (.iload_n 3, 1) := by decide +kernel
theorem dd_md_ask_184 : decode prog_9_method_14_code 184 = .ok (.iastore, 1) := by decide +kernel
theorem dd_md_ask_185 : decode prog_9_method_14_code 185 = .ok (.aload_n 0, 1) := by decide +kernel
theorem dd_md_ask_186 : decode prog_9_method_14_code 186 = .ok (.getfield 71, 3) := by decide +kernel
theorem dd_md_ask_189 : decode prog_9_method_14_code 189 = .ok (.iload 4, 2) := by decide +kernel
theorem dd_md_ask_191 : decode prog_9_method_14_code 191 = .ok (.iconst 0, 1) := by decide +kernel
theorem dd_md_ask_192 : decode prog_9_method_14_code 192 = .ok (.iastore, 1) := by decide +kernel
theorem dd_md_ask_193 : decode prog_9_method_14_code 193 = .ok (.aload_n 0, 1) := by decide +kernel
theorem dd_md_ask_194 : decode prog_9_method_14_code 194 = .ok (.iload_n 1, 1) := by decide +kernel
theorem dd_md_ask_195 : decode prog_9_method_14_code 195 = .ok (.iload_n 2, 1) := by decide +kernel
theorem dd_md_ask_196 : decode prog_9_method_14_code 196 = .ok (.invokevirtual 121, 3) := by decide +kernel
theorem dd_md_ask_199 : decode prog_9_method_14_code 199 = .ok (.ireturn, 1) := by decide +kernel
theorem dd_md_isShop_0 : decode prog_9_method_5_code 0 = .ok (.iload_n 0, 1) := by decide +kernel
theorem dd_md_isShop_1 : decode prog_9_method_5_code 1 = .ok (.bipush 25, 2) := by decide +kernel
theorem dd_md_isShop_3 : decode prog_9_method_5_code 3 = .ok (.invokestatic 84, 3) := by decide +kernel
theorem dd_md_isShop_6 : decode prog_9_method_5_code 6 = .ok (.ireturn, 1) := by decide +kernel
theorem dd_md_at_0 : decode prog_9_method_7_code 0 = .ok (.bipush 20, 2) := by decide +kernel
theorem dd_md_at_2 : decode prog_9_method_7_code 2 = .ok (.iload_n 0, 1) := by decide +kernel
theorem dd_md_at_3 : decode prog_9_method_7_code 3 = .ok (.imul, 1) := by decide +kernel
theorem dd_md_at_4 : decode prog_9_method_7_code 4 = .ok (.iload_n 1, 1) := by decide +kernel
theorem dd_md_at_5 : decode prog_9_method_7_code 5 = .ok (.iadd, 1) := by decide +kernel
theorem dd_md_at_6 : decode prog_9_method_7_code 6 = .ok (.ireturn, 1) := by decide +kernel
theorem dd_md_endAsking_0 : decode prog_9_method_11_code 0 = .ok (.aload_n 0, 1) := by decide +kernel
theorem dd_md_endAsking_1 : decode prog_9_method_11_code 1 = .ok (.getfield 44, 3) := by decide +kernel
theorem dd_md_endAsking_4 : decode prog_9_method_11_code 4 = .ok (.iload_n 1, 1) := by decide +kernel
theorem dd_md_endAsking_5 : decode prog_9_method_11_code 5 = .ok (.iconst 0, 1) := by decide +kernel
theorem dd_md_endAsking_6 : decode prog_9_method_11_code 6 = .ok (.iastore, 1) := by decide +kernel
theorem dd_md_endAsking_7 : decode prog_9_method_11_code 7 = .ok (.aload_n 0, 1) := by decide +kernel
theorem dd_md_endAsking_8 : decode prog_9_method_11_code 8 = .ok (.getfield 53, 3) := by decide +kernel
theorem dd_md_endAsking_11 : decode prog_9_method_11_code 11 = .ok (.iload_n 1, 1) := by decide +kernel
theorem dd_md_endAsking_12 : decode prog_9_method_11_code 12 = .ok (.iconst 0, 1) := by decide +kernel
theorem dd_md_endAsking_13 : decode prog_9_method_11_code 13 = .ok (.iastore, 1) := by decide +kernel
theorem dd_md_endAsking_14 : decode prog_9_method_11_code 14 = .ok (.aload_n 0, 1) := by decide +kernel
theorem dd_md_endAsking_15 : decode prog_9_method_11_code 15 = .ok (.getfield 56, 3) := by decide +kernel
theorem dd_md_endAsking_18 : decode prog_9_method_11_code 18 = .ok (.iload_n 1, 1) := by decide +kernel
theorem dd_md_endAsking_19 : decode prog_9_method_11_code 19 = .ok (.iconst 0, 1) := by decide +kernel
theorem dd_md_endAsking_20 : decode prog_9_method_11_code 20 = .ok (.iastore, 1) := by decide +kernel
theorem dd_md_endAsking_21 : decode prog_9_method_11_code 21 = .ok (.aload_n 0, 1) := by decide +kernel
theorem dd_md_endAsking_22 : decode prog_9_method_11_code 22 = .ok (.getfield 59, 3) := by decide +kernel
theorem dd_md_endAsking_25 : decode prog_9_method_11_code 25 = .ok (.iload_n 1, 1) := by decide +kernel
theorem dd_md_endAsking_26 : decode prog_9_method_11_code 26 = .ok (.iconst 0, 1) := by decide +kernel
theorem dd_md_endAsking_27 : decode prog_9_method_11_code 27 = .ok (.iastore, 1) := by decide +kernel
theorem dd_md_endAsking_28 : decode prog_9_method_11_code 28 = .ok (.return_, 1) := by decide +kernel
theorem dd_md_round_0 : decode prog_9_method_13_code 0 = .ok (.iload_n 1, 1) := by decide +kernel
theorem dd_md_round_1 : decode prog_9_method_13_code 1 = .ok (.iload_n 2, 1) := by decide +kernel
theorem dd_md_round_2 : decode prog_9_method_13_code 2 = .ok (.invokestatic 105, 3) := by decide +kernel
theorem dd_md_round_5 : decode prog_9_method_13_code 5 = .ok (.istore_n 3, 1) := by decide +kernel
theorem dd_md_round_6 : decode prog_9_method_13_code 6 = .ok (.aload_n 0, 1) := by decide +kernel
theorem dd_md_round_7 : decode prog_9_method_13_code 7 = .ok (.getfield 35, 3) := by decide +kernel
theorem dd_md_round_10 : decode prog_9_method_13_code 10 = .ok (.iload_n 3, 1) := by decide +kernel
theorem dd_md_round_11 : decode prog_9_method_13_code 11 = .ok (.iaload, 1) := by decide +kernel
theorem dd_md_round_12 : decode prog_9_method_13_code 12 = .ok (.istore 4, 2) := by decide +kernel
theorem dd_md_round_14 : decode prog_9_method_13_code 14 = .ok (.aload_n 0, 1) := by decide +kernel
theorem dd_md_round_15 : decode prog_9_method_13_code 15 = .ok (.getfield 23, 3) := by decide +kernel
theorem dd_md_round_18 : decode prog_9_method_13_code 18 = .ok (.iload_n 3, 1) := by decide +kernel
theorem dd_md_round_19 : decode prog_9_method_13_code 19 = .ok (.iaload, 1) := by decide +kernel
theorem dd_md_round_20 : decode prog_9_method_13_code 20 = .ok (.iload 4, 2) := by decide +kernel
theorem dd_md_round_22 : decode prog_9_method_13_code 22 = .ok (.if_icmp .le 11, 3) := by decide +kernel
theorem dd_md_round_25 : decode prog_9_method_13_code 25 = .ok (.aload_n 0, 1) := by decide +kernel
theorem dd_md_round_26 : decode prog_9_method_13_code 26 = .ok (.getfield 23, 3) := by decide +kernel
theorem dd_md_round_29 : decode prog_9_method_13_code 29 = .ok (.iload_n 3, 1) := by decide +kernel
theorem dd_md_round_30 : decode prog_9_method_13_code 30 = .ok (.iaload, 1) := by decide +kernel
theorem dd_md_round_31 : decode prog_9_method_13_code 31 = .ok (.istore 4, 2) := by decide +kernel
theorem dd_md_round_33 : decode prog_9_method_13_code 33 = .ok (.aload_n 0, 1) := by decide +kernel
theorem dd_md_round_34 : decode prog_9_method_13_code 34 = .ok (.getfield 71, 3) := by decide +kernel
theorem dd_md_round_37 : decode prog_9_method_13_code 37 = .ok (.iload_n 3, 1) := by decide +kernel
theorem dd_md_round_38 : decode prog_9_method_13_code 38 = .ok (.iaload, 1) := by decide +kernel
theorem dd_md_round_39 : decode prog_9_method_13_code 39 = .ok (.iload 4, 2) := by decide +kernel
theorem dd_md_round_41 : decode prog_9_method_13_code 41 = .ok (.if_icmp .le 11, 3) := by decide +kernel
theorem dd_md_round_44 : decode prog_9_method_13_code 44 = .ok (.aload_n 0, 1) := by decide +kernel
theorem dd_md_round_45 : decode prog_9_method_13_code 45 = .ok (.getfield 71, 3) := by decide +kernel
theorem dd_md_round_48 : decode prog_9_method_13_code 48 = .ok (.iload_n 3, 1) := by decide +kernel
theorem dd_md_round_49 : decode prog_9_method_13_code 49 = .ok (.iaload, 1) := by decide +kernel
theorem dd_md_round_50 : decode prog_9_method_13_code 50 = .ok (.istore 4, 2) := by decide +kernel
theorem dd_md_round_52 : decode prog_9_method_13_code 52 = .ok (.bipush 25, 2) := by decide +kernel
theorem dd_md_round_54 : decode prog_9_method_13_code 54 = .ok (.iload_n 1, 1) := by decide +kernel
theorem dd_md_round_55 : decode prog_9_method_13_code 55 = .ok (.iadd, 1) := by decide +kernel
theorem dd_md_round_56 : decode prog_9_method_13_code 56 = .ok (.istore 5, 2) := by decide +kernel
theorem dd_md_round_58 : decode prog_9_method_13_code 58 = .ok (.iload 5, 2) := by decide +kernel
theorem dd_md_round_60 : decode prog_9_method_13_code 60 = .ok (.iload 4, 2) := by decide +kernel
theorem dd_md_round_62 : decode prog_9_method_13_code 62 = .ok (.if_icmp .gt 9, 3) := by decide +kernel
theorem dd_md_round_65 : decode prog_9_method_13_code 65 = .ok (.iinc 5 25, 3) := by decide +kernel
theorem dd_md_round_68 : decode prog_9_method_13_code 68 = .ok (.goto (-10), 3) := by decide +kernel
theorem dd_md_round_71 : decode prog_9_method_13_code 71 = .ok (.iload 5, 2) := by decide +kernel
theorem dd_md_round_73 : decode prog_9_method_13_code 73 = .ok (.bipush 25, 2) := by decide +kernel
theorem dd_md_round_75 : decode prog_9_method_13_code 75 = .ok (.idiv, 1) := by decide +kernel
theorem dd_md_round_76 : decode prog_9_method_13_code 76 = .ok (.sipush 1000, 3) := by decide +kernel
theorem dd_md_round_79 : decode prog_9_method_13_code 79 = .ok (.if_icmp .le 10, 3) := by decide +kernel
theorem dd_md_round_82 : decode prog_9_method_13_code 82 = .ok (.aload_n 0, 1) := by decide +kernel
theorem dd_md_round_83 : decode prog_9_method_13_code 83 = .ok (.iload_n 3, 1) := by decide +kernel
theorem dd_md_round_84 : decode prog_9_method_13_code 84 = .ok (.invokevirtual 109, 3) := by decide +kernel
theorem dd_md_round_87 : decode prog_9_method_13_code 87 = .ok (.iconst 0, 1) := by decide +kernel
theorem dd_md_round_88 : decode prog_9_method_13_code 88 = .ok (.ireturn, 1) := by decide +kernel
theorem dd_md_round_89 : decode prog_9_method_13_code 89 = .ok (.aload_n 0, 1) := by decide +kernel
theorem dd_md_round_90 : decode prog_9_method_13_code 90 = .ok (.getfield 35, 3) := by decide +kernel
theorem dd_md_round_93 : decode prog_9_method_13_code 93 = .ok (.iload_n 3, 1) := by decide +kernel
theorem dd_md_round_94 : decode prog_9_method_13_code 94 = .ok (.iload 5, 2) := by decide +kernel
theorem dd_md_round_96 : decode prog_9_method_13_code 96 = .ok (.iastore, 1) := by decide +kernel
theorem dd_md_round_97 : decode prog_9_method_13_code 97 = .ok (.aload_n 0, 1) := by decide +kernel
theorem dd_md_round_98 : decode prog_9_method_13_code 98 = .ok (.getfield 53, 3) := by decide +kernel
theorem dd_md_round_101 : decode prog_9_method_13_code 101 = .ok (.iload_n 3, 1) := by decide +kernel
theorem dd_md_round_102 : decode prog_9_method_13_code 102 = .ok (.iload 5, 2) := by decide +kernel
theorem dd_md_round_104 : decode prog_9_method_13_code 104 = .ok (.iastore, 1) := by decide +kernel
theorem dd_md_round_105 : decode prog_9_method_13_code 105 = .ok (.aload_n 0, 1) := by decide +kernel
theorem dd_md_round_106 : decode prog_9_method_13_code 106 = .ok (.getfield 56, 3) := by decide +kernel
theorem dd_md_round_109 : decode prog_9_method_13_code 109 = .ok (.iload_n 3, 1) := by decide +kernel
theorem dd_md_round_110 : decode prog_9_method_13_code 110 = .ok (.iconst 1, 1) := by decide +kernel
theorem dd_md_round_111 : decode prog_9_method_13_code 111 = .ok (.iastore, 1) := by decide +kernel
theorem dd_md_round_112 : decode prog_9_method_13_code 112 = .ok (.aload_n 0, 1) := by decide +kernel
theorem dd_md_round_113 : decode prog_9_method_13_code 113 = .ok (.getfield 59, 3) := by decide +kernel
theorem dd_md_round_116 : decode prog_9_method_13_code 116 = .ok (.iload_n 3, 1) := by decide +kernel
theorem dd_md_round_117 : decode prog_9_method_13_code 117 = .ok (.iconst 0, 1) := by decide +kernel
theorem dd_md_round_118 : decode prog_9_method_13_code 118 = .ok (.iastore, 1) := by decide +kernel
theorem dd_md_round_119 : decode prog_9_method_13_code 119 = .ok (.aload_n 0, 1) := by decide +kernel
theorem dd_md_round_120 : decode prog_9_method_13_code 120 = .ok (.getfield 62, 3) := by decide +kernel
theorem dd_md_round_123 : decode prog_9_method_13_code 123 = .ok (.iload_n 3, 1) := by decide +kernel
theorem dd_md_round_124 : decode prog_9_method_13_code 124 = .ok (.iconst 0, 1) := by decide +kernel
theorem dd_md_round_125 : decode prog_9_method_13_code 125 = .ok (.iastore, 1) := by decide +kernel
theorem dd_md_round_126 : decode prog_9_method_13_code 126 = .ok (.iconst 0, 1) := by decide +kernel
theorem dd_md_round_127 : decode prog_9_method_13_code 127 = .ok (.istore 6, 2) := by decide +kernel
theorem dd_md_round_129 : decode prog_9_method_13_code 129 = .ok (.iload 6, 2) := by decide +kernel
theorem dd_md_round_131 : decode prog_9_method_13_code 131 = .ok (.bipush 25, 2) := by decide +kernel
theorem dd_md_round_133 : decode prog_9_method_13_code 133 = .ok (.if_icmp .ge 29, 3) := by decide +kernel
theorem dd_md_round_136 : decode prog_9_method_13_code 136 = .ok (.aload_n 0, 1) := by decide +kernel
theorem dd_md_round_137 : decode prog_9_method_13_code 137 = .ok (.iconst 1, 1) := by decide +kernel
theorem dd_md_round_138 : decode prog_9_method_13_code 138 = .ok (.iload_n 1, 1) := by decide +kernel
theorem dd_md_round_139 : decode prog_9_method_13_code 139 = .ok (.iload 6, 2) := by decide +kernel
theorem dd_md_round_141 : decode prog_9_method_13_code 141 = .ok (.iload_n 2, 1) := by decide +kernel
theorem dd_md_round_142 : decode prog_9_method_13_code 142 = .ok (.aload_n 0, 1) := by decide +kernel
theorem dd_md_round_143 : decode prog_9_method_13_code 143 = .ok (.getfield 44, 3) := by decide +kernel
theorem dd_md_round_146 : decode prog_9_method_13_code 146 = .ok (.iload_n 3, 1) := by decide +kernel
theorem dd_md_round_147 : decode prog_9_method_13_code 147 = .ok (.iaload, 1) := by decide +kernel
theorem dd_md_round_148 : decode prog_9_method_13_code 148 = .ok (.iload 5, 2) := by decide +kernel
theorem dd_md_round_150 : decode prog_9_method_13_code 150 = .ok (.iconst 0, 1) := by decide +kernel
theorem dd_md_round_151 : decode prog_9_method_13_code 151 = .ok (.iconst (-1), 1) := by decide +kernel
theorem dd_md_round_152 : decode prog_9_method_13_code 152 = .ok (.iconst (-1), 1) := by decide +kernel
theorem dd_md_round_153 : decode prog_9_method_13_code 153 = .ok (.invokevirtual 113, 3) := by decide +kernel
theorem dd_md_round_156 : decode prog_9_method_13_code 156 = .ok (.iinc 6 1, 3) := by decide +kernel
theorem dd_md_round_159 : decode prog_9_method_13_code 159 = .ok (.goto (-30), 3) := by decide +kernel
theorem dd_md_round_162 : decode prog_9_method_13_code 162 = .ok (.bipush 25, 2) := by decide +kernel
theorem dd_md_round_164 : decode prog_9_method_13_code 164 = .ok (.ireturn, 1) := by decide +kernel
theorem dd_md_send_0 : decode prog_9_method_9_code 0 = .ok (.aload_n 0, 1) := by decide +kernel
theorem dd_md_send_1 : decode prog_9_method_9_code 1 = .ok (.dup, 1) := by decide +kernel
theorem dd_md_send_2 : decode prog_9_method_9_code 2 = .ok (.getfield 96, 3) := by decide +kernel
theorem dd_md_send_5 : decode prog_9_method_9_code 5 = .ok (.iconst 1, 1) := by decide +kernel
theorem dd_md_send_6 : decode prog_9_method_9_code 6 = .ok (.iadd, 1) := by decide +kernel
theorem dd_md_send_7 : decode prog_9_method_9_code 7 = .ok (.putfield 96, 3) := by decide +kernel
theorem dd_md_send_10 : decode prog_9_method_9_code 10 = .ok (.aload_n 0, 1) := by decide +kernel
theorem dd_md_send_11 : decode prog_9_method_9_code 11 = .ok (.getfield 99, 3) := by decide +kernel
theorem dd_md_send_14 : decode prog_9_method_9_code 14 = .ok (.bipush 100, 2) := by decide +kernel
theorem dd_md_send_16 : decode prog_9_method_9_code 16 = .ok (.if_icmp .ne 14, 3) := by decide +kernel
theorem dd_md_send_19 : decode prog_9_method_9_code 19 = .ok (.aload_n 0, 1) := by decide +kernel
theorem dd_md_send_20 : decode prog_9_method_9_code 20 = .ok (.dup, 1) := by decide +kernel
theorem dd_md_send_21 : decode prog_9_method_9_code 21 = .ok (.getfield 102, 3) := by decide +kernel
theorem dd_md_send_24 : decode prog_9_method_9_code 24 = .ok (.iconst 1, 1) := by decide +kernel
theorem dd_md_send_25 : decode prog_9_method_9_code 25 = .ok (.iadd, 1) := by decide +kernel
theorem dd_md_send_26 : decode prog_9_method_9_code 26 = .ok (.putfield 102, 3) := by decide +kernel
theorem dd_md_send_29 : decode prog_9_method_9_code 29 = .ok (.return_, 1) := by decide +kernel
theorem dd_md_send_30 : decode prog_9_method_9_code 30 = .ok (.bipush 34, 2) := by decide +kernel
theorem dd_md_send_32 : decode prog_9_method_9_code 32 = .ok (.aload_n 0, 1) := by decide +kernel
theorem dd_md_send_33 : decode prog_9_method_9_code 33 = .ok (.getfield 99, 3) := by decide +kernel
theorem dd_md_send_36 : decode prog_9_method_9_code 36 = .ok (.imul, 1) := by decide +kernel
theorem dd_md_send_37 : decode prog_9_method_9_code 37 = .ok (.istore 10, 2) := by decide +kernel
theorem dd_md_send_39 : decode prog_9_method_9_code 39 = .ok (.aload_n 0, 1) := by decide +kernel
theorem dd_md_send_40 : decode prog_9_method_9_code 40 = .ok (.getfield 74, 3) := by decide +kernel
theorem dd_md_send_43 : decode prog_9_method_9_code 43 = .ok (.iload 10, 2) := by decide +kernel
theorem dd_md_send_45 : decode prog_9_method_9_code 45 = .ok (.iload_n 1, 1) := by decide +kernel
theorem dd_md_send_46 : decode prog_9_method_9_code 46 = .ok (.iastore, 1) := by decide +kernel
theorem dd_md_send_47 : decode prog_9_method_9_code 47 = .ok (.aload_n 0, 1) := by decide +kernel
theorem dd_md_send_48 : decode prog_9_method_9_code 48 = .ok (.getfield 74, 3) := by decide +kernel
theorem dd_md_send_51 : decode prog_9_method_9_code 51 = .ok (.iload 10, 2) := by decide +kernel
theorem dd_md_send_53 : decode prog_9_method_9_code 53 = .ok (.iconst 1, 1) := by decide +kernel
theorem dd_md_send_54 : decode prog_9_method_9_code 54 = .ok (.iadd, 1) := by decide +kernel
theorem dd_md_send_55 : decode prog_9_method_9_code 55 = .ok (.iload_n 2, 1) := by decide +kernel
theorem dd_md_send_56 : decode prog_9_method_9_code 56 = .ok (.iastore, 1) := by decide +kernel
theorem dd_md_send_57 : decode prog_9_method_9_code 57 = .ok (.aload_n 0, 1) := by decide +kernel
theorem dd_md_send_58 : decode prog_9_method_9_code 58 = .ok (.getfield 74, 3) := by decide +kernel
theorem dd_md_send_61 : decode prog_9_method_9_code 61 = .ok (.iload 10, 2) := by decide +kernel
theorem dd_md_send_63 : decode prog_9_method_9_code 63 = .ok (.iconst 2, 1) := by decide +kernel
theorem dd_md_send_64 : decode prog_9_method_9_code 64 = .ok (.iadd, 1) := by decide +kernel
theorem dd_md_send_65 : decode prog_9_method_9_code 65 = .ok (.iload_n 3, 1) := by decide +kernel
theorem dd_md_send_66 : decode prog_9_method_9_code 66 = .ok (.iastore, 1) := by decide +kernel
theorem dd_md_send_67 : decode prog_9_method_9_code 67 = .ok (.aload_n 0, 1) := by decide +kernel
theorem dd_md_send_68 : decode prog_9_method_9_code 68 = .ok (.getfield 74, 3) := by decide +kernel
theorem dd_md_send_71 : decode prog_9_method_9_code 71 = .ok (.iload 10, 2) := by decide +kernel
theorem dd_md_send_73 : decode prog_9_method_9_code 73 = .ok (.iconst 3, 1) := by decide +kernel
theorem dd_md_send_74 : decode prog_9_method_9_code 74 = .ok (.iadd, 1) := by decide +kernel
theorem dd_md_send_75 : decode prog_9_method_9_code 75 = .ok (.iload 4, 2) := by decide +kernel
theorem dd_md_send_77 : decode prog_9_method_9_code 77 = .ok (.iastore, 1) := by decide +kernel
theorem dd_md_send_78 : decode prog_9_method_9_code 78 = .ok (.aload_n 0, 1) := by decide +kernel
theorem dd_md_send_79 : decode prog_9_method_9_code 79 = .ok (.getfield 74, 3) := by decide +kernel
theorem dd_md_send_82 : decode prog_9_method_9_code 82 = .ok (.iload 10, 2) := by decide +kernel
theorem dd_md_send_84 : decode prog_9_method_9_code 84 = .ok (.iconst 4, 1) := by decide +kernel
theorem dd_md_send_85 : decode prog_9_method_9_code 85 = .ok (.iadd, 1) := by decide +kernel
theorem dd_md_send_86 : decode prog_9_method_9_code 86 = .ok (.iload 5, 2) := by decide +kernel
theorem dd_md_send_88 : decode prog_9_method_9_code 88 = .ok (.iastore, 1) := by decide +kernel
theorem dd_md_send_89 : decode prog_9_method_9_code 89 = .ok (.aload_n 0, 1) := by decide +kernel
theorem dd_md_send_90 : decode prog_9_method_9_code 90 = .ok (.getfield 74, 3) := by decide +kernel
theorem dd_md_send_93 : decode prog_9_method_9_code 93 = .ok (.iload 10, 2) := by decide +kernel
theorem dd_md_send_95 : decode prog_9_method_9_code 95 = .ok (.iconst 5, 1) := by decide +kernel
theorem dd_md_send_96 : decode prog_9_method_9_code 96 = .ok (.iadd, 1) := by decide +kernel
theorem dd_md_send_97 : decode prog_9_method_9_code 97 = .ok (.iload 6, 2) := by decide +kernel
theorem dd_md_send_99 : decode prog_9_method_9_code 99 = .ok (.iastore, 1) := by decide +kernel
theorem dd_md_send_100 : decode prog_9_method_9_code 100 = .ok (.aload_n 0, 1) := by decide +kernel
theorem dd_md_send_101 : decode prog_9_method_9_code 101 = .ok (.getfield 74, 3) := by decide +kernel
theorem dd_md_send_104 : decode prog_9_method_9_code 104 = .ok (.iload 10, 2) := by decide +kernel
theorem dd_md_send_106 : decode prog_9_method_9_code 106 = .ok (.bipush 6, 2) := by decide +kernel
theorem dd_md_send_108 : decode prog_9_method_9_code 108 = .ok (.iadd, 1) := by decide +kernel
theorem dd_md_send_109 : decode prog_9_method_9_code 109 = .ok (.iload 7, 2) := by decide +kernel
theorem dd_md_send_111 : decode prog_9_method_9_code 111 = .ok (.iastore, 1) := by decide +kernel
theorem dd_md_send_112 : decode prog_9_method_9_code 112 = .ok (.aload_n 0, 1) := by decide +kernel
theorem dd_md_send_113 : decode prog_9_method_9_code 113 = .ok (.getfield 74, 3) := by decide +kernel
theorem dd_md_send_116 : decode prog_9_method_9_code 116 = .ok (.iload 10, 2) := by decide +kernel
theorem dd_md_send_118 : decode prog_9_method_9_code 118 = .ok (.bipush 7, 2) := by decide +kernel
theorem dd_md_send_120 : decode prog_9_method_9_code 120 = .ok (.iadd, 1) := by decide +kernel
theorem dd_md_send_121 : decode prog_9_method_9_code 121 = .ok (.iload 8, 2) := by decide +kernel
theorem dd_md_send_123 : decode prog_9_method_9_code 123 = .ok (.iastore, 1) := by decide +kernel
theorem dd_md_send_124 : decode prog_9_method_9_code 124 = .ok (.aload_n 0, 1) := by decide +kernel
theorem dd_md_send_125 : decode prog_9_method_9_code 125 = .ok (.getfield 74, 3) := by decide +kernel
theorem dd_md_send_128 : decode prog_9_method_9_code 128 = .ok (.iload 10, 2) := by decide +kernel
theorem dd_md_send_130 : decode prog_9_method_9_code 130 = .ok (.bipush 8, 2) := by decide +kernel
theorem dd_md_send_132 : decode prog_9_method_9_code 132 = .ok (.iadd, 1) := by decide +kernel
theorem dd_md_send_133 : decode prog_9_method_9_code 133 = .ok (.iload 9, 2) := by decide +kernel
theorem dd_md_send_135 : decode prog_9_method_9_code 135 = .ok (.iastore, 1) := by decide +kernel
theorem dd_md_send_136 : decode prog_9_method_9_code 136 = .ok (.iload_n 2, 1) := by decide +kernel
theorem dd_md_send_137 : decode prog_9_method_9_code 137 = .ok (.iload 4, 2) := by decide +kernel
theorem dd_md_send_139 : decode prog_9_method_9_code 139 = .ok (.invokestatic 105, 3) := by decide +kernel
theorem dd_md_send_142 : decode prog_9_method_9_code 142 = .ok (.istore 11, 2) := by decide +kernel
theorem dd_md_send_144 : decode prog_9_method_9_code 144 = .ok (.aload_n 0, 1) := by decide +kernel
theorem dd_md_send_145 : decode prog_9_method_9_code 145 = .ok (.getfield 74, 3) := by decide +kernel
theorem dd_md_send_148 : decode prog_9_method_9_code 148 = .ok (.iload 10, 2) := by decide +kernel
theorem dd_md_send_150 : decode prog_9_method_9_code 150 = .ok (.bipush 9, 2) := by decide +kernel
theorem dd_md_send_152 : decode prog_9_method_9_code 152 = .ok (.iadd, 1) := by decide +kernel
theorem dd_md_send_153 : decode prog_9_method_9_code 153 = .ok (.aload_n 0, 1) := by decide +kernel
theorem dd_md_send_154 : decode prog_9_method_9_code 154 = .ok (.getfield 20, 3) := by decide +kernel
theorem dd_md_send_157 : decode prog_9_method_9_code 157 = .ok (.iload 11, 2) := by decide +kernel
theorem dd_md_send_159 : decode prog_9_method_9_code 159 = .ok (.iaload, 1) := by decide +kernel
theorem dd_md_send_160 : decode prog_9_method_9_code 160 = .ok (.iastore, 1) := by decide +kernel
theorem dd_md_send_161 : decode prog_9_method_9_code 161 = .ok (.iconst 0, 1) := by decide +kernel
theorem dd_md_send_162 : decode prog_9_method_9_code 162 = .ok (.istore 12, 2) := by decide +kernel
theorem dd_md_send_164 : decode prog_9_method_9_code 164 = .ok (.iload 12, 2) := by decide +kernel
theorem dd_md_send_166 : decode prog_9_method_9_code 166 = .ok (.aload_n 0, 1) := by decide +kernel
theorem dd_md_send_167 : decode prog_9_method_9_code 167 = .ok (.getfield 20, 3) := by decide +kernel
theorem dd_md_send_170 : decode prog_9_method_9_code 170 = .ok (.iload 11, 2) := by decide +kernel
theorem dd_md_send_172 : decode prog_9_method_9_code 172 = .ok (.iaload, 1) := by decide +kernel
theorem dd_md_send_173 : decode prog_9_method_9_code 173 = .ok (.if_icmp .ge 65, 3) := by decide +kernel
theorem dd_md_send_176 : decode prog_9_method_9_code 176 = .ok (.aload_n 0, 1) := by decide +kernel
theorem dd_md_send_177 : decode prog_9_method_9_code 177 = .ok (.getfield 74, 3) := by decide +kernel
theorem dd_md_send_180 : decode prog_9_method_9_code 180 = .ok (.iload 10, 2) := by decide +kernel
theorem dd_md_send_182 : decode prog_9_method_9_code 182 = .ok (.bipush 10, 2) := by decide +kernel
theorem dd_md_send_184 : decode prog_9_method_9_code 184 = .ok (.iadd, 1) := by decide +kernel
theorem dd_md_send_185 : decode prog_9_method_9_code 185 = .ok (.iconst 2, 1) := by decide +kernel
theorem dd_md_send_186 : decode prog_9_method_9_code 186 = .ok (.iload 12, 2) := by decide +kernel
theorem dd_md_send_188 : decode prog_9_method_9_code 188 = .ok (.imul, 1) := by decide +kernel
theorem dd_md_send_189 : decode prog_9_method_9_code 189 = .ok (.iadd, 1) := by decide +kernel
theorem dd_md_send_190 : decode prog_9_method_9_code 190 = .ok (.aload_n 0, 1) := by decide +kernel
theorem dd_md_send_191 : decode prog_9_method_9_code 191 = .ok (.getfield 38, 3) := by decide +kernel
theorem dd_md_send_194 : decode prog_9_method_9_code 194 = .ok (.bipush 12, 2) := by decide +kernel
theorem dd_md_send_196 : decode prog_9_method_9_code 196 = .ok (.iload 11, 2) := by decide +kernel
theorem dd_md_send_198 : decode prog_9_method_9_code 198 = .ok (.imul, 1) := by decide +kernel
theorem dd_md_send_199 : decode prog_9_method_9_code 199 = .ok (.iload 12, 2) := by decide +kernel
theorem dd_md_send_201 : decode prog_9_method_9_code 201 = .ok (.iadd, 1) := by decide +kernel
theorem dd_md_send_202 : decode prog_9_method_9_code 202 = .ok (.iaload, 1) := by decide +kernel
theorem dd_md_send_203 : decode prog_9_method_9_code 203 = .ok (.iastore, 1) := by decide +kernel
theorem dd_md_send_204 : decode prog_9_method_9_code 204 = .ok (.aload_n 0, 1) := by decide +kernel
theorem dd_md_send_205 : decode prog_9_method_9_code 205 = .ok (.getfield 74, 3) := by decide +kernel
theorem dd_md_send_208 : decode prog_9_method_9_code 208 = .ok (.iload 10, 2) := by decide +kernel
theorem dd_md_send_210 : decode prog_9_method_9_code 210 = .ok (.bipush 11, 2) := by decide +kernel
theorem dd_md_send_212 : decode prog_9_method_9_code 212 = .ok (.iadd, 1) := by decide +kernel
theorem dd_md_send_213 : decode prog_9_method_9_code 213 = .ok (.iconst 2, 1) := by decide +kernel
theorem dd_md_send_214 : decode prog_9_method_9_code 214 = .ok (.iload 12, 2) := by decide +kernel
theorem dd_md_send_216 : decode prog_9_method_9_code 216 = .ok (.imul, 1) := by decide +kernel
theorem dd_md_send_217 : decode prog_9_method_9_code 217 = .ok (.iadd, 1) := by decide +kernel
theorem dd_md_send_218 : decode prog_9_method_9_code 218 = .ok (.aload_n 0, 1) := by decide +kernel
theorem dd_md_send_219 : decode prog_9_method_9_code 219 = .ok (.getfield 41, 3) := by decide +kernel
theorem dd_md_send_222 : decode prog_9_method_9_code 222 = .ok (.bipush 12, 2) := by decide +kernel
theorem dd_md_send_224 : decode prog_9_method_9_code 224 = .ok (.iload 11, 2) := by decide +kernel
theorem dd_md_send_226 : decode prog_9_method_9_code 226 = .ok (.imul, 1) := by decide +kernel
theorem dd_md_send_227 : decode prog_9_method_9_code 227 = .ok (.iload 12, 2) := by decide +kernel
theorem dd_md_send_229 : decode prog_9_method_9_code 229 = .ok (.iadd, 1) := by decide +kernel
theorem dd_md_send_230 : decode prog_9_method_9_code 230 = .ok (.iaload, 1) := by decide +kernel
theorem dd_md_send_231 : decode prog_9_method_9_code 231 = .ok (.iastore, 1) := by decide +kernel
theorem dd_md_send_232 : decode prog_9_method_9_code 232 = .ok (.iinc 12 1, 3) := by decide +kernel
theorem dd_md_send_235 : decode prog_9_method_9_code 235 = .ok (.goto (-71), 3) := by decide +kernel
theorem dd_md_send_238 : decode prog_9_method_9_code 238 = .ok (.aload_n 0, 1) := by decide +kernel
theorem dd_md_send_239 : decode prog_9_method_9_code 239 = .ok (.dup, 1) := by decide +kernel
theorem dd_md_send_240 : decode prog_9_method_9_code 240 = .ok (.getfield 99, 3) := by decide +kernel
theorem dd_md_send_243 : decode prog_9_method_9_code 243 = .ok (.iconst 1, 1) := by decide +kernel
theorem dd_md_send_244 : decode prog_9_method_9_code 244 = .ok (.iadd, 1) := by decide +kernel
theorem dd_md_send_245 : decode prog_9_method_9_code 245 = .ok (.putfield 99, 3) := by decide +kernel
theorem dd_md_send_248 : decode prog_9_method_9_code 248 = .ok (.return_, 1) := by decide +kernel
theorem dd_md_retry_0 : decode prog_9_method_15_code 0 = .ok (.aload_n 0, 1) := by decide +kernel
theorem dd_md_retry_1 : decode prog_9_method_15_code 1 = .ok (.iload_n 1, 1) := by decide +kernel
theorem dd_md_retry_2 : decode prog_9_method_15_code 2 = .ok (.invokestatic 117, 3) := by decide +kernel
theorem dd_md_retry_5 : decode prog_9_method_15_code 5 = .ok (.ifCond .eq 10, 3) := by decide +kernel
theorem dd_md_retry_8 : decode prog_9_method_15_code 8 = .ok (.iload_n 2, 1) := by decide +kernel
theorem dd_md_retry_9 : decode prog_9_method_15_code 9 = .ok (.invokestatic 88, 3) := by decide +kernel
theorem dd_md_retry_12 : decode prog_9_method_15_code 12 = .ok (.ifCond .ne 7, 3) := by decide +kernel
theorem dd_md_retry_15 : decode prog_9_method_15_code 15 = .ok (.iconst 1, 1) := by decide +kernel
theorem dd_md_retry_16 : decode prog_9_method_15_code 16 = .ok (.goto 4, 3) := by decide +kernel
theorem dd_md_retry_19 : decode prog_9_method_15_code 19 = .ok (.iconst 0, 1) := by decide +kernel
theorem dd_md_retry_20 : decode prog_9_method_15_code 20 = .ok (.iconst 1, 1) := by decide +kernel
theorem dd_md_retry_21 : decode prog_9_method_15_code 21 = .ok (.invokevirtual 92, 3) := by decide +kernel
theorem dd_md_retry_24 : decode prog_9_method_15_code 24 = .ok (.ifCond .eq 5, 3) := by decide +kernel
theorem dd_md_retry_27 : decode prog_9_method_15_code 27 = .ok (.iconst 0, 1) := by decide +kernel
theorem dd_md_retry_28 : decode prog_9_method_15_code 28 = .ok (.ireturn, 1) := by decide +kernel
theorem dd_md_retry_29 : decode prog_9_method_15_code 29 = .ok (.aload_n 0, 1) := by decide +kernel
theorem dd_md_retry_30 : decode prog_9_method_15_code 30 = .ok (.aload_n 0, 1) := by decide +kernel
theorem dd_md_retry_31 : decode prog_9_method_15_code 31 = .ok (.getfield 16, 3) := by decide +kernel
theorem dd_md_retry_34 : decode prog_9_method_15_code 34 = .ok (.iload_n 1, 1) := by decide +kernel
theorem dd_md_retry_35 : decode prog_9_method_15_code 35 = .ok (.baload, 1) := by decide +kernel
theorem dd_md_retry_36 : decode prog_9_method_15_code 36 = .ok (.ifCond .ne 16, 3) := by decide +kernel
theorem dd_md_retry_39 : decode prog_9_method_15_code 39 = .ok (.aload_n 0, 1) := by decide +kernel
theorem dd_md_retry_40 : decode prog_9_method_15_code 40 = .ok (.getfield 44, 3) := by decide +kernel
theorem dd_md_retry_43 : decode prog_9_method_15_code 43 = .ok (.iload_n 1, 1) := by decide +kernel
theorem dd_md_retry_44 : decode prog_9_method_15_code 44 = .ok (.iload_n 2, 1) := by decide +kernel
theorem dd_md_retry_45 : decode prog_9_method_15_code 45 = .ok (.invokestatic 105, 3) := by decide +kernel
theorem dd_md_retry_48 : decode prog_9_method_15_code 48 = .ok (.iaload, 1) := by decide +kernel
theorem dd_md_retry_49 : decode prog_9_method_15_code 49 = .ok (.ifCond .ne 7, 3) := by decide +kernel
theorem dd_md_retry_52 : decode prog_9_method_15_code 52 = .ok (.iconst 1, 1) := by decide +kernel
theorem dd_md_retry_53 : decode prog_9_method_15_code 53 = .ok (.goto 4, 3) := by decide +kernel
theorem dd_md_retry_56 : decode prog_9_method_15_code 56 = .ok (.iconst 0, 1) := by decide +kernel
theorem dd_md_retry_57 : decode prog_9_method_15_code 57 = .ok (.iconst 2, 1) := by decide +kernel
theorem dd_md_retry_58 : decode prog_9_method_15_code 58 = .ok (.invokevirtual 92, 3) := by decide +kernel
theorem dd_md_retry_61 : decode prog_9_method_15_code 61 = .ok (.ifCond .eq 5, 3) := by decide +kernel
theorem dd_md_retry_64 : decode prog_9_method_15_code 64 = .ok (.iconst 0, 1) := by decide +kernel
theorem dd_md_retry_65 : decode prog_9_method_15_code 65 = .ok (.ireturn, 1) := by decide +kernel
theorem dd_md_retry_66 : decode prog_9_method_15_code 66 = .ok (.aload_n 0, 1) := by decide +kernel
theorem dd_md_retry_67 : decode prog_9_method_15_code 67 = .ok (.iload_n 1, 1) := by decide +kernel
theorem dd_md_retry_68 : decode prog_9_method_15_code 68 = .ok (.iload_n 2, 1) := by decide +kernel
theorem dd_md_retry_69 : decode prog_9_method_15_code 69 = .ok (.invokevirtual 121, 3) := by decide +kernel
theorem dd_md_retry_72 : decode prog_9_method_15_code 72 = .ok (.ireturn, 1) := by decide +kernel
theorem dd_md_deliver_0 : decode prog_9_method_22_code 0 = .ok (.aload_n 0, 1) := by decide +kernel
theorem dd_md_deliver_1 : decode prog_9_method_22_code 1 = .ok (.iload_n 1, 1) := by decide +kernel
theorem dd_md_deliver_2 : decode prog_9_method_22_code 2 = .ok (.aload_n 0, 1) := by decide +kernel
theorem dd_md_deliver_3 : decode prog_9_method_22_code 3 = .ok (.getfield 99, 3) := by decide +kernel
theorem dd_md_deliver_6 : decode prog_9_method_22_code 6 = .ok (.invokestatic 84, 3) := by decide +kernel
theorem dd_md_deliver_9 : decode prog_9_method_22_code 9 = .ok (.ifCond .ne 7, 3) := by decide +kernel
theorem dd_md_deliver_12 : decode prog_9_method_22_code 12 = .ok (.iconst 1, 1) := by decide +kernel
theorem dd_md_deliver_13 : decode prog_9_method_22_code 13 = .ok (.goto 4, 3) := by decide +kernel
theorem dd_md_deliver_16 : decode prog_9_method_22_code 16 = .ok (.iconst 0, 1) := by decide +kernel
theorem dd_md_deliver_17 : decode prog_9_method_22_code 17 = .ok (.iconst 1, 1) := by decide +kernel
theorem dd_md_deliver_18 : decode prog_9_method_22_code 18 = .ok (.invokevirtual 92, 3) := by decide +kernel
theorem dd_md_deliver_21 : decode prog_9_method_22_code 21 = .ok (.ifCond .eq 5, 3) := by decide +kernel
theorem dd_md_deliver_24 : decode prog_9_method_22_code 24 = .ok (.iconst 0, 1) := by decide +kernel
theorem dd_md_deliver_25 : decode prog_9_method_22_code 25 = .ok (.ireturn, 1) := by decide +kernel
theorem dd_md_deliver_26 : decode prog_9_method_22_code 26 = .ok (.aload_n 0, 1) := by decide +kernel
theorem dd_md_deliver_27 : decode prog_9_method_22_code 27 = .ok (.iload_n 1, 1) := by decide +kernel
theorem dd_md_deliver_28 : decode prog_9_method_22_code 28 = .ok (.invokevirtual 150, 3) := by decide +kernel
theorem dd_md_deliver_31 : decode prog_9_method_22_code 31 = .ok (.ireturn, 1) := by decide +kernel
theorem dd_md_handOver_0 : decode prog_9_method_21_code 0 = .ok (.aload_n 0, 1) := by decide +kernel
theorem dd_md_handOver_1 : decode prog_9_method_21_code 1 = .ok (.getfield 96, 3) := by decide +kernel
theorem dd_md_handOver_4 : decode prog_9_method_21_code 4 = .ok (.istore_n 2, 1) := by decide +kernel
theorem dd_md_handOver_5 : decode prog_9_method_21_code 5 = .ok (.aload_n 0, 1) := by decide +kernel
theorem dd_md_handOver_6 : decode prog_9_method_21_code 6 = .ok (.iload_n 1, 1) := by decide +kernel
theorem dd_md_handOver_7 : decode prog_9_method_21_code 7 = .ok (.invokevirtual 141, 3) := by decide +kernel
theorem dd_md_handOver_10 : decode prog_9_method_21_code 10 = .ok (.aload_n 0, 1) := by decide +kernel
theorem dd_md_handOver_11 : decode prog_9_method_21_code 11 = .ok (.getfield 16, 3) := by decide +kernel
theorem dd_md_handOver_14 : decode prog_9_method_21_code 14 = .ok (.aload_n 0, 1) := by decide +kernel
theorem dd_md_handOver_15 : decode prog_9_method_21_code 15 = .ok (.getfield 77, 3) := by decide +kernel
theorem dd_md_handOver_18 : decode prog_9_method_21_code 18 = .ok (.iconst 2, 1) := by decide +kernel
theorem dd_md_handOver_19 : decode prog_9_method_21_code 19 = .ok (.iaload, 1) := by decide +kernel
theorem dd_md_handOver_20 : decode prog_9_method_21_code 20 = .ok (.baload, 1) := by decide +kernel
theorem dd_md_handOver_21 : decode prog_9_method_21_code 21 = .ok (.ifCond .eq 16, 3) := by decide +kernel
theorem dd_md_handOver_24 : decode prog_9_method_21_code 24 = .ok (.aload_n 0, 1) := by decide +kernel
theorem dd_md_handOver_25 : decode prog_9_method_21_code 25 = .ok (.dup, 1) := by decide +kernel
theorem dd_md_handOver_26 : decode prog_9_method_21_code 26 = .ok (.getfield 144, 3) := by decide +kernel
theorem dd_md_handOver_29 : decode prog_9_method_21_code 29 = .ok (.iconst 1, 1) := by decide +kernel
theorem dd_md_handOver_30 : decode prog_9_method_21_code 30 = .ok (.iadd, 1) := by decide +kernel
theorem dd_md_handOver_31 : decode prog_9_method_21_code 31 = .ok (.putfield 144, 3) := by decide +kernel
theorem dd_md_handOver_34 : decode prog_9_method_21_code 34 = .ok (.goto 7, 3) := by decide +kernel
theorem dd_md_handOver_37 : decode prog_9_method_21_code 37 = .ok (.aload_n 0, 1) := by decide +kernel
theorem dd_md_handOver_38 : decode prog_9_method_21_code 38 = .ok (.invokevirtual 147, 3) := by decide +kernel
theorem dd_md_handOver_41 : decode prog_9_method_21_code 41 = .ok (.aload_n 0, 1) := by decide +kernel
theorem dd_md_handOver_42 : decode prog_9_method_21_code 42 = .ok (.getfield 96, 3) := by decide +kernel
theorem dd_md_handOver_45 : decode prog_9_method_21_code 45 = .ok (.iload_n 2, 1) := by decide +kernel
theorem dd_md_handOver_46 : decode prog_9_method_21_code 46 = .ok (.isub, 1) := by decide +kernel
theorem dd_md_handOver_47 : decode prog_9_method_21_code 47 = .ok (.ireturn, 1) := by decide +kernel
theorem dd_md_take_0 : decode prog_9_method_10_code 0 = .ok (.iconst 0, 1) := by decide +kernel
theorem dd_md_take_1 : decode prog_9_method_10_code 1 = .ok (.istore_n 2, 1) := by decide +kernel
theorem dd_md_take_2 : decode prog_9_method_10_code 2 = .ok (.iload_n 2, 1) := by decide +kernel
theorem dd_md_take_3 : decode prog_9_method_10_code 3 = .ok (.bipush 34, 2) := by decide +kernel
theorem dd_md_take_5 : decode prog_9_method_10_code 5 = .ok (.if_icmp .ge 26, 3) := by decide +kernel
theorem dd_md_take_8 : decode prog_9_method_10_code 8 = .ok (.aload_n 0, 1) := by decide +kernel
theorem dd_md_take_9 : decode prog_9_method_10_code 9 = .ok (.getfield 77, 3) := by decide +kernel
theorem dd_md_take_12 : decode prog_9_method_10_code 12 = .ok (.iload_n 2, 1) := by decide +kernel
theorem dd_md_take_13 : decode prog_9_method_10_code 13 = .ok (.aload_n 0, 1) := by decide +kernel
theorem dd_md_take_14 : decode prog_9_method_10_code 14 = .ok (.getfield 74, 3) := by decide +kernel
theorem dd_md_take_17 : decode prog_9_method_10_code 17 = .ok (.bipush 34, 2) := by decide +kernel
theorem dd_md_take_19 : decode prog_9_method_10_code 19 = .ok (.iload_n 1, 1) := by decide +kernel
theorem dd_md_take_20 : decode prog_9_method_10_code 20 = .ok (.imul, 1) := by decide +kernel
theorem dd_md_take_21 : decode prog_9_method_10_code 21 = .ok (.iload_n 2, 1) := by decide +kernel
theorem dd_md_take_22 : decode prog_9_method_10_code 22 = .ok (.iadd, 1) := by decide +kernel
theorem dd_md_take_23 : decode prog_9_method_10_code 23 = .ok (.iaload, 1) := by decide +kernel
theorem dd_md_take_24 : decode prog_9_method_10_code 24 = .ok (.iastore, 1) := by decide +kernel
theorem dd_md_take_25 : decode prog_9_method_10_code 25 = .ok (.iinc 2 1, 3) := by decide +kernel
theorem dd_md_take_28 : decode prog_9_method_10_code 28 = .ok (.goto (-26), 3) := by decide +kernel
theorem dd_md_take_31 : decode prog_9_method_10_code 31 = .ok (.aload_n 0, 1) := by decide +kernel
theorem dd_md_take_32 : decode prog_9_method_10_code 32 = .ok (.dup, 1) := by decide +kernel
theorem dd_md_take_33 : decode prog_9_method_10_code 33 = .ok (.getfield 99, 3) := by decide +kernel
theorem dd_md_take_36 : decode prog_9_method_10_code 36 = .ok (.iconst 1, 1) := by decide +kernel
theorem dd_md_take_37 : decode prog_9_method_10_code 37 = .ok (.isub, 1) := by decide +kernel
theorem dd_md_take_38 : decode prog_9_method_10_code 38 = .ok (.putfield 99, 3) := by decide +kernel
theorem dd_md_take_41 : decode prog_9_method_10_code 41 = .ok (.bipush 34, 2) := by decide +kernel
theorem dd_md_take_43 : decode prog_9_method_10_code 43 = .ok (.iload_n 1, 1) := by decide +kernel
theorem dd_md_take_44 : decode prog_9_method_10_code 44 = .ok (.imul, 1) := by decide +kernel
theorem dd_md_take_45 : decode prog_9_method_10_code 45 = .ok (.istore_n 2, 1) := by decide +kernel
theorem dd_md_take_46 : decode prog_9_method_10_code 46 = .ok (.iload_n 2, 1) := by decide +kernel
theorem dd_md_take_47 : decode prog_9_method_10_code 47 = .ok (.bipush 34, 2) := by decide +kernel
theorem dd_md_take_49 : decode prog_9_method_10_code 49 = .ok (.aload_n 0, 1) := by decide +kernel
theorem dd_md_take_50 : decode prog_9_method_10_code 50 = .ok (.getfield 99, 3) := by decide +kernel
theorem dd_md_take_53 : decode prog_9_method_10_code 53 = .ok (.imul, 1) := by decide +kernel
theorem dd_md_take_54 : decode prog_9_method_10_code 54 = .ok (.if_icmp .ge 24, 3) := by decide +kernel
theorem dd_md_take_57 : decode prog_9_method_10_code 57 = .ok (.aload_n 0, 1) := by decide +kernel
theorem dd_md_take_58 : decode prog_9_method_10_code 58 = .ok (.getfield 74, 3) := by decide +kernel
theorem dd_md_take_61 : decode prog_9_method_10_code 61 = .ok (.iload_n 2, 1) := by decide +kernel
theorem dd_md_take_62 : decode prog_9_method_10_code 62 = .ok (.aload_n 0, 1) := by decide +kernel
theorem dd_md_take_63 : decode prog_9_method_10_code 63 = .ok (.getfield 74, 3) := by decide +kernel
theorem dd_md_take_66 : decode prog_9_method_10_code 66 = .ok (.iload_n 2, 1) := by decide +kernel
theorem dd_md_take_67 : decode prog_9_method_10_code 67 = .ok (.bipush 34, 2) := by decide +kernel
theorem dd_md_take_69 : decode prog_9_method_10_code 69 = .ok (.iadd, 1) := by decide +kernel
theorem dd_md_take_70 : decode prog_9_method_10_code 70 = .ok (.iaload, 1) := by decide +kernel
theorem dd_md_take_71 : decode prog_9_method_10_code 71 = .ok (.iastore, 1) := by decide +kernel
theorem dd_md_take_72 : decode prog_9_method_10_code 72 = .ok (.iinc 2 1, 3) := by decide +kernel
theorem dd_md_take_75 : decode prog_9_method_10_code 75 = .ok (.goto (-29), 3) := by decide +kernel
theorem dd_md_take_78 : decode prog_9_method_10_code 78 = .ok (.return_, 1) := by decide +kernel
theorem dd_md_comes_0 : decode prog_9_method_18_code 0 = .ok (.aload_n 0, 1) := by decide +kernel
theorem dd_md_comes_1 : decode prog_9_method_18_code 1 = .ok (.getfield 77, 3) := by decide +kernel
theorem dd_md_comes_4 : decode prog_9_method_18_code 4 = .ok (.iconst 0, 1) := by decide +kernel
theorem dd_md_comes_5 : decode prog_9_method_18_code 5 = .ok (.iaload, 1) := by decide +kernel
theorem dd_md_comes_6 : decode prog_9_method_18_code 6 = .ok (.istore_n 1, 1) := by decide +kernel
theorem dd_md_comes_7 : decode prog_9_method_18_code 7 = .ok (.aload_n 0, 1) := by decide +kernel
theorem dd_md_comes_8 : decode prog_9_method_18_code 8 = .ok (.getfield 77, 3) := by decide +kernel
theorem dd_md_comes_11 : decode prog_9_method_18_code 11 = .ok (.iconst 1, 1) := by decide +kernel
theorem dd_md_comes_12 : decode prog_9_method_18_code 12 = .ok (.iaload, 1) := by decide +kernel
theorem dd_md_comes_13 : decode prog_9_method_18_code 13 = .ok (.istore_n 2, 1) := by decide +kernel
theorem dd_md_comes_14 : decode prog_9_method_18_code 14 = .ok (.aload_n 0, 1) := by decide +kernel
theorem dd_md_comes_15 : decode prog_9_method_18_code 15 = .ok (.getfield 77, 3) := by decide +kernel
theorem dd_md_comes_18 : decode prog_9_method_18_code 18 = .ok (.iconst 2, 1) := by decide +kernel
theorem dd_md_comes_19 : decode prog_9_method_18_code 19 = .ok (.iaload, 1) := by decide +kernel
theorem dd_md_comes_20 : decode prog_9_method_18_code 20 = .ok (.istore_n 3, 1) := by decide +kernel
theorem dd_md_comes_21 : decode prog_9_method_18_code 21 = .ok (.aload_n 0, 1) := by decide +kernel
theorem dd_md_comes_22 : decode prog_9_method_18_code 22 = .ok (.getfield 77, 3) := by decide +kernel
theorem dd_md_comes_25 : decode prog_9_method_18_code 25 = .ok (.iconst 3, 1) := by decide +kernel
theorem dd_md_comes_26 : decode prog_9_method_18_code 26 = .ok (.iaload, 1) := by decide +kernel
theorem dd_md_comes_27 : decode prog_9_method_18_code 27 = .ok (.istore 4, 2) := by decide +kernel
theorem dd_md_comes_29 : decode prog_9_method_18_code 29 = .ok (.aload_n 0, 1) := by decide +kernel
theorem dd_md_comes_30 : decode prog_9_method_18_code 30 = .ok (.getfield 77, 3) := by decide +kernel
theorem dd_md_comes_33 : decode prog_9_method_18_code 33 = .ok (.iconst 4, 1) := by decide +kernel
theorem dd_md_comes_34 : decode prog_9_method_18_code 34 = .ok (.iaload, 1) := by decide +kernel
theorem dd_md_comes_35 : decode prog_9_method_18_code 35 = .ok (.istore 5, 2) := by decide +kernel
theorem dd_md_comes_37 : decode prog_9_method_18_code 37 = .ok (.aload_n 0, 1) := by decide +kernel
theorem dd_md_comes_38 : decode prog_9_method_18_code 38 = .ok (.getfield 77, 3) := by decide +kernel
theorem dd_md_comes_41 : decode prog_9_method_18_code 41 = .ok (.iconst 5, 1) := by decide +kernel
theorem dd_md_comes_42 : decode prog_9_method_18_code 42 = .ok (.iaload, 1) := by decide +kernel
theorem dd_md_comes_43 : decode prog_9_method_18_code 43 = .ok (.istore 6, 2) := by decide +kernel
theorem dd_md_comes_45 : decode prog_9_method_18_code 45 = .ok (.iload_n 3, 1) := by decide +kernel
theorem dd_md_comes_46 : decode prog_9_method_18_code 46 = .ok (.iload 4, 2) := by decide +kernel
theorem dd_md_comes_48 : decode prog_9_method_18_code 48 = .ok (.invokestatic 105, 3) := by decide +kernel
theorem dd_md_comes_51 : decode prog_9_method_18_code 51 = .ok (.istore 7, 2) := by decide +kernel
theorem dd_md_comes_53 : decode prog_9_method_18_code 53 = .ok (.aload_n 0, 1) := by decide +kernel
theorem dd_md_comes_54 : decode prog_9_method_18_code 54 = .ok (.getfield 20, 3) := by decide +kernel
theorem dd_md_comes_57 : decode prog_9_method_18_code 57 = .ok (.iload 7, 2) := by decide +kernel
theorem dd_md_comes_59 : decode prog_9_method_18_code 59 = .ok (.iaload, 1) := by decide +kernel
theorem dd_md_comes_60 : decode prog_9_method_18_code 60 = .ok (.aload_n 0, 1) := by decide +kernel
theorem dd_md_comes_61 : decode prog_9_method_18_code 61 = .ok (.getfield 77, 3) := by decide +kernel
theorem dd_md_comes_64 : decode prog_9_method_18_code 64 = .ok (.bipush 9, 2) := by decide +kernel
theorem dd_md_comes_66 : decode prog_9_method_18_code 66 = .ok (.iaload, 1) := by decide +kernel
theorem dd_md_comes_67 : decode prog_9_method_18_code 67 = .ok (.if_icmp .ge 46, 3) := by decide +kernel
theorem dd_md_comes_70 : decode prog_9_method_18_code 70 = .ok (.aload_n 0, 1) := by decide +kernel
theorem dd_md_comes_71 : decode prog_9_method_18_code 71 = .ok (.iload 7, 2) := by decide +kernel
theorem dd_md_comes_73 : decode prog_9_method_18_code 73 = .ok (.aload_n 0, 1) := by decide +kernel
theorem dd_md_comes_74 : decode prog_9_method_18_code 74 = .ok (.getfield 77, 3) := by decide +kernel
theorem dd_md_comes_77 : decode prog_9_method_18_code 77 = .ok (.bipush 10, 2) := by decide +kernel
theorem dd_md_comes_79 : decode prog_9_method_18_code 79 = .ok (.iconst 2, 1) := by decide +kernel
theorem dd_md_comes_80 : decode prog_9_method_18_code 80 = .ok (.aload_n 0, 1) := by decide +kernel
theorem dd_md_comes_81 : decode prog_9_method_18_code 81 = .ok (.getfield 20, 3) := by decide +kernel
theorem dd_md_comes_84 : decode prog_9_method_18_code 84 = .ok (.iload 7, 2) := by decide +kernel
theorem dd_md_comes_86 : decode prog_9_method_18_code 86 = .ok (.iaload, 1) := by decide +kernel
theorem dd_md_comes_87 : decode prog_9_method_18_code 87 = .ok (.imul, 1) := by decide +kernel
theorem dd_md_comes_88 : decode prog_9_method_18_code 88 = .ok (.iadd, 1) := by decide +kernel
theorem dd_md_comes_89 : decode prog_9_method_18_code 89 = .ok (.iaload, 1) := by decide +kernel
theorem dd_md_comes_90 : decode prog_9_method_18_code 90 = .ok (.aload_n 0, 1) := by decide +kernel
theorem dd_md_comes_91 : decode prog_9_method_18_code 91 = .ok (.getfield 77, 3) := by decide +kernel
theorem dd_md_comes_94 : decode prog_9_method_18_code 94 = .ok (.bipush 11, 2) := by decide +kernel
theorem dd_md_comes_96 : decode prog_9_method_18_code 96 = .ok (.iconst 2, 1) := by decide +kernel
theorem dd_md_comes_97 : decode prog_9_method_18_code 97 = .ok (.aload_n 0, 1) := by decide +kernel
theorem dd_md_comes_98 : decode prog_9_method_18_code 98 = .ok (.getfield 20, 3) := by decide +kernel
theorem dd_md_comes_101 : decode prog_9_method_18_code 101 = .ok (.iload 7, 2) := by decide +kernel
theorem dd_md_comes_103 : decode prog_9_method_18_code 103 = .ok (.iaload, 1) := by decide +kernel
theorem dd_md_comes_104 : decode prog_9_method_18_code 104 = .ok (.imul, 1) := by decide +kernel
theorem dd_md_comes_105 : decode prog_9_method_18_code 105 = .ok (.iadd, 1) := by decide +kernel
theorem dd_md_comes_106 : decode prog_9_method_18_code 106 = .ok (.iaload, 1) := by decide +kernel
theorem dd_md_comes_107 : decode prog_9_method_18_code 107 = .ok (.invokevirtual 124, 3) := by decide +kernel
theorem dd_md_comes_110 : decode prog_9_method_18_code 110 = .ok (.goto (-57), 3) := by decide +kernel
theorem dd_md_comes_113 : decode prog_9_method_18_code 113 = .ok (.iload_n 1, 1) := by decide +kernel
theorem dd_md_comes_114 : decode prog_9_method_18_code 114 = .ok (.iconst 1, 1) := by decide +kernel
theorem dd_md_comes_115 : decode prog_9_method_18_code 115 = .ok (.if_icmp .eq 8, 3) := by decide +kernel
theorem dd_md_comes_118 : decode prog_9_method_18_code 118 = .ok (.iload_n 1, 1) := by decide +kernel
theorem dd_md_comes_119 : decode prog_9_method_18_code 119 = .ok (.iconst 3, 1) := by decide +kernel
theorem dd_md_comes_120 : decode prog_9_method_18_code 120 = .ok (.if_icmp .ne 74, 3) := by decide +kernel
theorem dd_md_comes_123 : decode prog_9_method_18_code 123 = .ok (.iload 5, 2) := by decide +kernel
theorem dd_md_comes_125 : decode prog_9_method_18_code 125 = .ok (.aload_n 0, 1) := by decide +kernel
theorem dd_md_comes_126 : decode prog_9_method_18_code 126 = .ok (.getfield 20, 3) := by decide +kernel
theorem dd_md_comes_129 : decode prog_9_method_18_code 129 = .ok (.iload 7, 2) := by decide +kernel
theorem dd_md_comes_131 : decode prog_9_method_18_code 131 = .ok (.iaload, 1) := by decide +kernel
theorem dd_md_comes_132 : decode prog_9_method_18_code 132 = .ok (.if_icmp .gt 23, 3) := by decide +kernel
theorem dd_md_comes_135 : decode prog_9_method_18_code 135 = .ok (.aload_n 0, 1) := by decide +kernel
theorem dd_md_comes_136 : decode prog_9_method_18_code 136 = .ok (.bipush 6, 2) := by decide +kernel
theorem dd_md_comes_138 : decode prog_9_method_18_code 138 = .ok (.iload_n 3, 1) := by decide +kernel
theorem dd_md_comes_139 : decode prog_9_method_18_code 139 = .ok (.iload_n 2, 1) := by decide +kernel
theorem dd_md_comes_140 : decode prog_9_method_18_code 140 = .ok (.iload 4, 2) := by decide +kernel
theorem dd_md_comes_142 : decode prog_9_method_18_code 142 = .ok (.iload 5, 2) := by decide +kernel
theorem dd_md_comes_144 : decode prog_9_method_18_code 144 = .ok (.iload 6, 2) := by decide +kernel
theorem dd_md_comes_146 : decode prog_9_method_18_code 146 = .ok (.iconst 0, 1) := by decide +kernel
theorem dd_md_comes_147 : decode prog_9_method_18_code 147 = .ok (.iconst (-1), 1) := by decide +kernel
theorem dd_md_comes_148 : decode prog_9_method_18_code 148 = .ok (.iconst (-1), 1) := by decide +kernel
theorem dd_md_comes_149 : decode prog_9_method_18_code 149 = .ok (.invokevirtual 113, 3) := by decide +kernel
theorem dd_md_comes_152 : decode prog_9_method_18_code 152 = .ok (.goto 41, 3) := by decide +kernel
theorem dd_md_comes_155 : decode prog_9_method_18_code 155 = .ok (.iload 5, 2) := by decide +kernel
theorem dd_md_comes_157 : decode prog_9_method_18_code 157 = .ok (.aload_n 0, 1) := by decide +kernel
theorem dd_md_comes_158 : decode prog_9_method_18_code 158 = .ok (.getfield 20, 3) := by decide +kernel
theorem dd_md_comes_161 : decode prog_9_method_18_code 161 = .ok (.iload 7, 2) := by decide +kernel
theorem dd_md_comes_163 : decode prog_9_method_18_code 163 = .ok (.iaload, 1) := by decide +kernel
theorem dd_md_comes_164 : decode prog_9_method_18_code 164 = .ok (.iconst 1, 1) := by decide +kernel
theorem dd_md_comes_165 : decode prog_9_method_18_code 165 = .ok (.iadd, 1) := by decide +kernel
theorem dd_md_comes_166 : decode prog_9_method_18_code 166 = .ok (.if_icmp .ne 27, 3) := by decide +kernel
theorem dd_md_comes_169 : decode prog_9_method_18_code 169 = .ok (.aload_n 0, 1) := by decide +kernel
theorem dd_md_comes_170 : decode prog_9_method_18_code 170 = .ok (.iload 7, 2) := by decide +kernel
theorem dd_md_comes_172 : decode prog_9_method_18_code 172 = .ok (.iload_n 1, 1) := by decide +kernel
theorem dd_md_comes_173 : decode prog_9_method_18_code 173 = .ok (.iconst 3, 1) := by decide +kernel
theorem dd_md_comes_174 : decode prog_9_method_18_code 174 = .ok (.if_icmp .ne 7, 3) := by decide +kernel
theorem dd_md_comes_177 : decode prog_9_method_18_code 177 = .ok (.iconst 1, 1) := by decide +kernel
theorem dd_md_comes_178 : decode prog_9_method_18_code 178 = .ok (.goto 4, 3) := by decide +kernel
theorem dd_md_comes_181 : decode prog_9_method_18_code 181 = .ok (.iconst 0, 1) := by decide +kernel
theorem dd_md_comes_182 : decode prog_9_method_18_code 182 = .ok (.iload_n 3, 1) := by decide +kernel
theorem dd_md_comes_183 : decode prog_9_method_18_code 183 = .ok (.iload_n 2, 1) := by decide +kernel
theorem dd_md_comes_184 : decode prog_9_method_18_code 184 = .ok (.iload 4, 2) := by decide +kernel
theorem dd_md_comes_186 : decode prog_9_method_18_code 186 = .ok (.iload 5, 2) := by decide +kernel
theorem dd_md_comes_188 : decode prog_9_method_18_code 188 = .ok (.iload 6, 2) := by decide +kernel
theorem dd_md_comes_190 : decode prog_9_method_18_code 190 = .ok (.invokevirtual 128, 3) := by decide +kernel
theorem dd_md_comes_193 : decode prog_9_method_18_code 193 = .ok (.return_, 1) := by decide +kernel
theorem dd_md_comes_194 : decode prog_9_method_18_code 194 = .ok (.iload_n 1, 1) := by decide +kernel
theorem dd_md_comes_195 : decode prog_9_method_18_code 195 = .ok (.bipush 6, 2) := by decide +kernel
theorem dd_md_comes_197 : decode prog_9_method_18_code 197 = .ok (.if_icmp .eq 25, 3) := by decide +kernel
theorem dd_md_comes_200 : decode prog_9_method_18_code 200 = .ok (.aload_n 0, 1) := by decide +kernel
theorem dd_md_comes_201 : decode prog_9_method_18_code 201 = .ok (.getfield 44, 3) := by decide +kernel
theorem dd_md_comes_204 : decode prog_9_method_18_code 204 = .ok (.iload 7, 2) := by decide +kernel
theorem dd_md_comes_206 : decode prog_9_method_18_code 206 = .ok (.iaload, 1) := by decide +kernel
theorem dd_md_comes_207 : decode prog_9_method_18_code 207 = .ok (.ifCond .eq 15, 3) := by decide +kernel
theorem dd_md_comes_210 : decode prog_9_method_18_code 210 = .ok (.aload_n 0, 1) := by decide +kernel
theorem dd_md_comes_211 : decode prog_9_method_18_code 211 = .ok (.getfield 44, 3) := by decide +kernel
theorem dd_md_comes_214 : decode prog_9_method_18_code 214 = .ok (.iload 7, 2) := by decide +kernel
theorem dd_md_comes_216 : decode prog_9_method_18_code 216 = .ok (.iaload, 1) := by decide +kernel
theorem dd_md_comes_217 : decode prog_9_method_18_code 217 = .ok (.iload 5, 2) := by decide +kernel
theorem dd_md_comes_219 : decode prog_9_method_18_code 219 = .ok (.if_icmp .eq 4, 3) := by decide +kernel
theorem dd_md_comes_222 : decode prog_9_method_18_code 222 = .ok (.return_, 1) := by decide +kernel
theorem dd_md_comes_223 : decode prog_9_method_18_code 223 = .ok (.iload_n 1, 1) := by decide +kernel
theorem dd_md_comes_224 : decode prog_9_method_18_code 224 = .ok (.iconst 5, 1) := by decide +kernel
theorem dd_md_comes_225 : decode prog_9_method_18_code 225 = .ok (.if_icmp .ne 35, 3) := by decide +kernel
theorem dd_md_comes_228 : decode prog_9_method_18_code 228 = .ok (.aload_n 0, 1) := by decide +kernel
theorem dd_md_comes_229 : decode prog_9_method_18_code 229 = .ok (.getfield 77, 3) := by decide +kernel
theorem dd_md_comes_232 : decode prog_9_method_18_code 232 = .ok (.bipush 6, 2) := by decide +kernel
theorem dd_md_comes_234 : decode prog_9_method_18_code 234 = .ok (.iaload, 1) := by decide +kernel
theorem dd_md_comes_235 : decode prog_9_method_18_code 235 = .ok (.aload_n 0, 1) := by decide +kernel
theorem dd_md_comes_236 : decode prog_9_method_18_code 236 = .ok (.getfield 71, 3) := by decide +kernel
theorem dd_md_comes_239 : decode prog_9_method_18_code 239 = .ok (.iload 7, 2) := by decide +kernel
theorem dd_md_comes_241 : decode prog_9_method_18_code 241 = .ok (.iaload, 1) := by decide +kernel
theorem dd_md_comes_242 : decode prog_9_method_18_code 242 = .ok (.if_icmp .le 17, 3) := by decide +kernel
theorem dd_md_comes_245 : decode prog_9_method_18_code 245 = .ok (.aload_n 0, 1) := by decide +kernel
theorem dd_md_comes_246 : decode prog_9_method_18_code 246 = .ok (.getfield 71, 3) := by decide +kernel
theorem dd_md_comes_249 : decode prog_9_method_18_code 249 = .ok (.iload 7, 2) := by decide +kernel
theorem dd_md_comes_251 : decode prog_9_method_18_code 251 = .ok (.aload_n 0, 1) := by decide +kernel
theorem dd_md_comes_252 : decode prog_9_method_18_code 252 = .ok (.getfield 77, 3) := by decide +kernel
theorem dd_md_comes_255 : decode prog_9_method_18_code 255 = .ok (.bipush 6, 2) := by decide +kernel
theorem dd_md_comes_257 : decode prog_9_method_18_code 257 = .ok (.iaload, 1) := by decide +kernel
theorem dd_md_comes_258 : decode prog_9_method_18_code 258 = .ok (.iastore, 1) := by decide +kernel
theorem dd_md_comes_259 : decode prog_9_method_18_code 259 = .ok (.return_, 1) := by decide +kernel
theorem dd_md_comes_260 : decode prog_9_method_18_code 260 = .ok (.iload 6, 2) := by decide +kernel
theorem dd_md_comes_262 : decode prog_9_method_18_code 262 = .ok (.aload_n 0, 1) := by decide +kernel
theorem dd_md_comes_263 : decode prog_9_method_18_code 263 = .ok (.getfield 53, 3) := by decide +kernel
theorem dd_md_comes_266 : decode prog_9_method_18_code 266 = .ok (.iload 7, 2) := by decide +kernel
theorem dd_md_comes_268 : decode prog_9_method_18_code 268 = .ok (.iaload, 1) := by decide +kernel
theorem dd_md_comes_269 : decode prog_9_method_18_code 269 = .ok (.if_icmp .ne 23, 3) := by decide +kernel
theorem dd_md_comes_272 : decode prog_9_method_18_code 272 = .ok (.aload_n 0, 1) := by decide +kernel
theorem dd_md_comes_273 : decode prog_9_method_18_code 273 = .ok (.getfield 56, 3) := by decide +kernel
theorem dd_md_comes_276 : decode prog_9_method_18_code 276 = .ok (.iload 7, 2) := by decide +kernel
theorem dd_md_comes_278 : decode prog_9_method_18_code 278 = .ok (.iaload, 1) := by decide +kernel
theorem dd_md_comes_279 : decode prog_9_method_18_code 279 = .ok (.iload_n 1, 1) := by decide +kernel
theorem dd_md_comes_280 : decode prog_9_method_18_code 280 = .ok (.iconst 2, 1) := by decide +kernel
theorem dd_md_comes_281 : decode prog_9_method_18_code 281 = .ok (.if_icmp .ne 7, 3) := by decide +kernel
theorem dd_md_comes_284 : decode prog_9_method_18_code 284 = .ok (.iconst 1, 1) := by decide +kernel
theorem dd_md_comes_285 : decode prog_9_method_18_code 285 = .ok (.goto 4, 3) := by decide +kernel
theorem dd_md_comes_288 : decode prog_9_method_18_code 288 = .ok (.iconst 2, 1) := by decide +kernel
theorem dd_md_comes_289 : decode prog_9_method_18_code 289 = .ok (.if_icmp .eq 4, 3) := by decide +kernel
theorem dd_md_comes_292 : decode prog_9_method_18_code 292 = .ok (.return_, 1) := by decide +kernel
theorem dd_md_comes_293 : decode prog_9_method_18_code 293 = .ok (.aload_n 0, 1) := by decide +kernel
theorem dd_md_comes_294 : decode prog_9_method_18_code 294 = .ok (.getfield 59, 3) := by decide +kernel
theorem dd_md_comes_297 : decode prog_9_method_18_code 297 = .ok (.iload 7, 2) := by decide +kernel
theorem dd_md_comes_299 : decode prog_9_method_18_code 299 = .ok (.dup2, 1) := by decide +kernel
theorem dd_md_comes_300 : decode prog_9_method_18_code 300 = .ok (.iaload, 1) := by decide +kernel
theorem dd_md_comes_301 : decode prog_9_method_18_code 301 = .ok (.iconst 1, 1) := by decide +kernel
theorem dd_md_comes_302 : decode prog_9_method_18_code 302 = .ok (.iload_n 2, 1) := by decide +kernel
theorem dd_md_comes_303 : decode prog_9_method_18_code 303 = .ok (.ishl, 1) := by decide +kernel
theorem dd_md_comes_304 : decode prog_9_method_18_code 304 = .ok (.ior, 1) := by decide +kernel
theorem dd_md_comes_305 : decode prog_9_method_18_code 305 = .ok (.iastore, 1) := by decide +kernel
theorem dd_md_comes_306 : decode prog_9_method_18_code 306 = .ok (.iload_n 1, 1) := by decide +kernel
theorem dd_md_comes_307 : decode prog_9_method_18_code 307 = .ok (.iconst 2, 1) := by decide +kernel
theorem dd_md_comes_308 : decode prog_9_method_18_code 308 = .ok (.if_icmp .ne 19, 3) := by decide +kernel
theorem dd_md_comes_311 : decode prog_9_method_18_code 311 = .ok (.aload_n 0, 1) := by decide +kernel
theorem dd_md_comes_312 : decode prog_9_method_18_code 312 = .ok (.iload 7, 2) := by decide +kernel
theorem dd_md_comes_314 : decode prog_9_method_18_code 314 = .ok (.iload_n 3, 1) := by decide +kernel
theorem dd_md_comes_315 : decode prog_9_method_18_code 315 = .ok (.iload 4, 2) := by decide +kernel
theorem dd_md_comes_317 : decode prog_9_method_18_code 317 = .ok (.iload 5, 2) := by decide +kernel
theorem dd_md_comes_319 : decode prog_9_method_18_code 319 = .ok (.iload 6, 2) := by decide +kernel
theorem dd_md_comes_321 : decode prog_9_method_18_code 321 = .ok (.invokevirtual 131, 3) := by decide +kernel
theorem dd_md_comes_324 : decode prog_9_method_18_code 324 = .ok (.goto 37, 3) := by decide +kernel
theorem dd_md_comes_327 : decode prog_9_method_18_code 327 = .ok (.aload_n 0, 1) := by decide +kernel
theorem dd_md_comes_328 : decode prog_9_method_18_code 328 = .ok (.aload_n 0, 1) := by decide +kernel
theorem dd_md_comes_329 : decode prog_9_method_18_code 329 = .ok (.getfield 59, 3) := by decide +kernel
theorem dd_md_comes_332 : decode prog_9_method_18_code 332 = .ok (.iload 7, 2) := by decide +kernel
theorem dd_md_comes_334 : decode prog_9_method_18_code 334 = .ok (.iaload, 1) := by decide +kernel
theorem dd_md_comes_335 : decode prog_9_method_18_code 335 = .ok (.invokevirtual 135, 3) := by decide +kernel
theorem dd_md_comes_338 : decode prog_9_method_18_code 338 = .ok (.ifCond .eq 23, 3) := by decide +kernel
theorem dd_md_comes_341 : decode prog_9_method_18_code 341 = .ok (.aload_n 0, 1) := by decide +kernel
theorem dd_md_comes_342 : decode prog_9_method_18_code 342 = .ok (.iload 7, 2) := by decide +kernel
theorem dd_md_comes_344 : decode prog_9_method_18_code 344 = .ok (.aload_n 0, 1) := by decide +kernel
theorem dd_md_comes_345 : decode prog_9_method_18_code 345 = .ok (.getfield 47, 3) := by decide +kernel
theorem dd_md_comes_348 : decode prog_9_method_18_code 348 = .ok (.iload 7, 2) := by decide +kernel
theorem dd_md_comes_350 : decode prog_9_method_18_code 350 = .ok (.iaload, 1) := by decide +kernel
theorem dd_md_comes_351 : decode prog_9_method_18_code 351 = .ok (.aload_n 0, 1) := by decide +kernel
theorem dd_md_comes_352 : decode prog_9_method_18_code 352 = .ok (.getfield 50, 3) := by decide +kernel
theorem dd_md_comes_355 : decode prog_9_method_18_code 355 = .ok (.iload 7, 2) := by decide +kernel
theorem dd_md_comes_357 : decode prog_9_method_18_code 357 = .ok (.iaload, 1) := by decide +kernel
theorem dd_md_comes_358 : decode prog_9_method_18_code 358 = .ok (.invokevirtual 124, 3) := by decide +kernel
theorem dd_md_comes_361 : decode prog_9_method_18_code 361 = .ok (.return_, 1) := by decide +kernel
theorem dd_md_learn_0 : decode prog_9_method_12_code 0 = .ok (.aload_n 0, 1) := by decide +kernel
theorem dd_md_learn_1 : decode prog_9_method_12_code 1 = .ok (.getfield 38, 3) := by decide +kernel
theorem dd_md_learn_4 : decode prog_9_method_12_code 4 = .ok (.bipush 12, 2) := by decide +kernel
theorem dd_md_learn_6 : decode prog_9_method_12_code 6 = .ok (.iload_n 1, 1) := by decide +kernel
theorem dd_md_learn_7 : decode prog_9_method_12_code 7 = .ok (.imul, 1) := by decide +kernel
theorem dd_md_learn_8 : decode prog_9_method_12_code 8 = .ok (.aload_n 0, 1) := by decide +kernel
theorem dd_md_learn_9 : decode prog_9_method_12_code 9 = .ok (.getfield 20, 3) := by decide +kernel
theorem dd_md_learn_12 : decode prog_9_method_12_code 12 = .ok (.iload_n 1, 1) := by decide +kernel
theorem dd_md_learn_13 : decode prog_9_method_12_code 13 = .ok (.iaload, 1) := by decide +kernel
theorem dd_md_learn_14 : decode prog_9_method_12_code 14 = .ok (.iadd, 1) := by decide +kernel
theorem dd_md_learn_15 : decode prog_9_method_12_code 15 = .ok (.iload_n 2, 1) := by decide +kernel
theorem dd_md_learn_16 : decode prog_9_method_12_code 16 = .ok (.iastore, 1) := by decide +kernel
theorem dd_md_learn_17 : decode prog_9_method_12_code 17 = .ok (.aload_n 0, 1) := by decide +kernel
theorem dd_md_learn_18 : decode prog_9_method_12_code 18 = .ok (.getfield 41, 3) := by decide +kernel
theorem dd_md_learn_21 : decode prog_9_method_12_code 21 = .ok (.bipush 12, 2) := by decide +kernel
theorem dd_md_learn_23 : decode prog_9_method_12_code 23 = .ok (.iload_n 1, 1) := by decide +kernel
theorem dd_md_learn_24 : decode prog_9_method_12_code 24 = .ok (.imul, 1) := by decide +kernel
theorem dd_md_learn_25 : decode prog_9_method_12_code 25 = .ok (.aload_n 0, 1) := by decide +kernel
theorem dd_md_learn_26 : decode prog_9_method_12_code 26 = .ok (.getfield 20, 3) := by decide +kernel
theorem dd_md_learn_29 : decode prog_9_method_12_code 29 = .ok (.iload_n 1, 1) := by decide +kernel
theorem dd_md_learn_30 : decode prog_9_method_12_code 30 = .ok (.iaload, 1) := by decide +kernel
theorem dd_md_learn_31 : decode prog_9_method_12_code 31 = .ok (.iadd, 1) := by decide +kernel
theorem dd_md_learn_32 : decode prog_9_method_12_code 32 = .ok (.iload_n 3, 1) := by decide +kernel
theorem dd_md_learn_33 : decode prog_9_method_12_code 33 = .ok (.iastore, 1) := by decide +kernel
theorem dd_md_learn_34 : decode prog_9_method_12_code 34 = .ok (.aload_n 0, 1) := by decide +kernel
theorem dd_md_learn_35 : decode prog_9_method_12_code 35 = .ok (.getfield 20, 3) := by decide +kernel
theorem dd_md_learn_38 : decode prog_9_method_12_code 38 = .ok (.iload_n 1, 1) := by decide +kernel
theorem dd_md_learn_39 : decode prog_9_method_12_code 39 = .ok (.dup2, 1) := by decide +kernel
theorem dd_md_learn_40 : decode prog_9_method_12_code 40 = .ok (.iaload, 1) := by decide +kernel
theorem dd_md_learn_41 : decode prog_9_method_12_code 41 = .ok (.iconst 1, 1) := by decide +kernel
theorem dd_md_learn_42 : decode prog_9_method_12_code 42 = .ok (.iadd, 1) := by decide +kernel
theorem dd_md_learn_43 : decode prog_9_method_12_code 43 = .ok (.iastore, 1) := by decide +kernel
theorem dd_md_learn_44 : decode prog_9_method_12_code 44 = .ok (.aload_n 0, 1) := by decide +kernel
theorem dd_md_learn_45 : decode prog_9_method_12_code 45 = .ok (.getfield 23, 3) := by decide +kernel
theorem dd_md_learn_48 : decode prog_9_method_12_code 48 = .ok (.iload_n 1, 1) := by decide +kernel
theorem dd_md_learn_49 : decode prog_9_method_12_code 49 = .ok (.iconst 0, 1) := by decide +kernel
theorem dd_md_learn_50 : decode prog_9_method_12_code 50 = .ok (.iastore, 1) := by decide +kernel
theorem dd_md_learn_51 : decode prog_9_method_12_code 51 = .ok (.aload_n 0, 1) := by decide +kernel
theorem dd_md_learn_52 : decode prog_9_method_12_code 52 = .ok (.getfield 26, 3) := by decide +kernel
theorem dd_md_learn_55 : decode prog_9_method_12_code 55 = .ok (.iload_n 1, 1) := by decide +kernel
theorem dd_md_learn_56 : decode prog_9_method_12_code 56 = .ok (.iconst 0, 1) := by decide +kernel
theorem dd_md_learn_57 : decode prog_9_method_12_code 57 = .ok (.iastore, 1) := by decide +kernel
theorem dd_md_learn_58 : decode prog_9_method_12_code 58 = .ok (.aload_n 0, 1) := by decide +kernel
theorem dd_md_learn_59 : decode prog_9_method_12_code 59 = .ok (.getfield 44, 3) := by decide +kernel
theorem dd_md_learn_62 : decode prog_9_method_12_code 62 = .ok (.iload_n 1, 1) := by decide +kernel
theorem dd_md_learn_63 : decode prog_9_method_12_code 63 = .ok (.iaload, 1) := by decide +kernel
theorem dd_md_learn_64 : decode prog_9_method_12_code 64 = .ok (.aload_n 0, 1) := by decide +kernel
theorem dd_md_learn_65 : decode prog_9_method_12_code 65 = .ok (.getfield 20, 3) := by decide +kernel
theorem dd_md_learn_68 : decode prog_9_method_12_code 68 = .ok (.iload_n 1, 1) := by decide +kernel
theorem dd_md_learn_69 : decode prog_9_method_12_code 69 = .ok (.iaload, 1) := by decide +kernel
theorem dd_md_learn_70 : decode prog_9_method_12_code 70 = .ok (.if_icmp .ne 8, 3) := by decide +kernel
theorem dd_md_learn_73 : decode prog_9_method_12_code 73 = .ok (.aload_n 0, 1) := by decide +kernel
theorem dd_md_learn_74 : decode prog_9_method_12_code 74 = .ok (.iload_n 1, 1) := by decide +kernel
theorem dd_md_learn_75 : decode prog_9_method_12_code 75 = .ok (.invokevirtual 109, 3) := by decide +kernel
theorem dd_md_learn_78 : decode prog_9_method_12_code 78 = .ok (.return_, 1) := by decide +kernel
theorem dd_md_answers_0 : decode prog_9_method_19_code 0 = .ok (.iload 7, 2) := by decide +kernel
theorem dd_md_answers_2 : decode prog_9_method_19_code 2 = .ok (.aload_n 0, 1) := by decide +kernel
theorem dd_md_answers_3 : decode prog_9_method_19_code 3 = .ok (.getfield 23, 3) := by decide +kernel
theorem dd_md_answers_6 : decode prog_9_method_19_code 6 = .ok (.iload_n 1, 1) := by decide +kernel
theorem dd_md_answers_7 : decode prog_9_method_19_code 7 = .ok (.iaload, 1) := by decide +kernel
theorem dd_md_answers_8 : decode prog_9_method_19_code 8 = .ok (.if_icmp .ge 26, 3) := by decide +kernel
theorem dd_md_answers_11 : decode prog_9_method_19_code 11 = .ok (.aload_n 0, 1) := by decide +kernel
theorem dd_md_answers_12 : decode prog_9_method_19_code 12 = .ok (.iconst 5, 1) := by decide +kernel
theorem dd_md_answers_13 : decode prog_9_method_19_code 13 = .ok (.iload_n 3, 1) := by decide +kernel
theorem dd_md_answers_14 : decode prog_9_method_19_code 14 = .ok (.iload 4, 2) := by decide +kernel
theorem dd_md_answers_16 : decode prog_9_method_19_code 16 = .ok (.iload 5, 2) := by decide +kernel
theorem dd_md_answers_18 : decode prog_9_method_19_code 18 = .ok (.iload 6, 2) := by decide +kernel
theorem dd_md_answers_20 : decode prog_9_method_19_code 20 = .ok (.iload 7, 2) := by decide +kernel
theorem dd_md_answers_22 : decode prog_9_method_19_code 22 = .ok (.aload_n 0, 1) := by decide +kernel
theorem dd_md_answers_23 : decode prog_9_method_19_code 23 = .ok (.getfield 23, 3) := by decide +kernel
theorem dd_md_answers_26 : decode prog_9_method_19_code 26 = .ok (.iload_n 1, 1) := by decide +kernel
theorem dd_md_answers_27 : decode prog_9_method_19_code 27 = .ok (.iaload, 1) := by decide +kernel
theorem dd_md_answers_28 : decode prog_9_method_19_code 28 = .ok (.iconst (-1), 1) := by decide +kernel
theorem dd_md_answers_29 : decode prog_9_method_19_code 29 = .ok (.iconst (-1), 1) := by decide +kernel
theorem dd_md_answers_30 : decode prog_9_method_19_code 30 = .ok (.invokevirtual 113, 3) := by decide +kernel
theorem dd_md_answers_33 : decode prog_9_method_19_code 33 = .ok (.return_, 1) := by decide +kernel
theorem dd_md_answers_34 : decode prog_9_method_19_code 34 = .ok (.aload_n 0, 1) := by decide +kernel
theorem dd_md_answers_35 : decode prog_9_method_19_code 35 = .ok (.getfield 23, 3) := by decide +kernel
theorem dd_md_answers_38 : decode prog_9_method_19_code 38 = .ok (.iload_n 1, 1) := by decide +kernel
theorem dd_md_answers_39 : decode prog_9_method_19_code 39 = .ok (.iload 7, 2) := by decide +kernel
theorem dd_md_answers_41 : decode prog_9_method_19_code 41 = .ok (.iastore, 1) := by decide +kernel
theorem dd_md_answers_42 : decode prog_9_method_19_code 42 = .ok (.iload_n 2, 1) := by decide +kernel
theorem dd_md_answers_43 : decode prog_9_method_19_code 43 = .ok (.ifCond .ne 70, 3) := by decide +kernel
theorem dd_md_answers_46 : decode prog_9_method_19_code 46 = .ok (.aload_n 0, 1) := by decide +kernel
theorem dd_md_answers_47 : decode prog_9_method_19_code 47 = .ok (.getfield 26, 3) := by decide +kernel
theorem dd_md_answers_50 : decode prog_9_method_19_code 50 = .ok (.iload_n 1, 1) := by decide +kernel
theorem dd_md_answers_51 : decode prog_9_method_19_code 51 = .ok (.iaload, 1) := by decide +kernel
theorem dd_md_answers_52 : decode prog_9_method_19_code 52 = .ok (.ifCond .le 7, 3) := by decide +kernel
theorem dd_md_answers_55 : decode prog_9_method_19_code 55 = .ok (.iconst 1, 1) := by decide +kernel
theorem dd_md_answers_56 : decode prog_9_method_19_code 56 = .ok (.goto 4, 3) := by decide +kernel
theorem dd_md_answers_59 : decode prog_9_method_19_code 59 = .ok (.iconst 0, 1) := by decide +kernel
theorem dd_md_answers_60 : decode prog_9_method_19_code 60 = .ok (.istore 8, 2) := by decide +kernel
theorem dd_md_answers_62 : decode prog_9_method_19_code 62 = .ok (.aload_n 0, 1) := by decide +kernel
theorem dd_md_answers_63 : decode prog_9_method_19_code 63 = .ok (.iconst 2, 1) := by decide +kernel
theorem dd_md_answers_64 : decode prog_9_method_19_code 64 = .ok (.iload_n 3, 1) := by decide +kernel
theorem dd_md_answers_65 : decode prog_9_method_19_code 65 = .ok (.iload 4, 2) := by decide +kernel
theorem dd_md_answers_67 : decode prog_9_method_19_code 67 = .ok (.iload 5, 2) := by decide +kernel
theorem dd_md_answers_69 : decode prog_9_method_19_code 69 = .ok (.iload 6, 2) := by decide +kernel
theorem dd_md_answers_71 : decode prog_9_method_19_code 71 = .ok (.iload 7, 2) := by decide +kernel
theorem dd_md_answers_73 : decode prog_9_method_19_code 73 = .ok (.aload_n 0, 1) := by decide +kernel
theorem dd_md_answers_74 : decode prog_9_method_19_code 74 = .ok (.getfield 26, 3) := by decide +kernel
theorem dd_md_answers_77 : decode prog_9_method_19_code 77 = .ok (.iload_n 1, 1) := by decide +kernel
theorem dd_md_answers_78 : decode prog_9_method_19_code 78 = .ok (.iaload, 1) := by decide +kernel
theorem dd_md_answers_79 : decode prog_9_method_19_code 79 = .ok (.iload 8, 2) := by decide +kernel
theorem dd_md_answers_81 : decode prog_9_method_19_code 81 = .ok (.ifCond .eq 12, 3) := by decide +kernel
theorem dd_md_answers_84 : decode prog_9_method_19_code 84 = .ok (.aload_n 0, 1) := by decide +kernel
theorem dd_md_answers_85 : decode prog_9_method_19_code 85 = .ok (.getfield 29, 3) := by decide +kernel
theorem dd_md_answers_88 : decode prog_9_method_19_code 88 = .ok (.iload_n 1, 1) := by decide +kernel
theorem dd_md_answers_89 : decode prog_9_method_19_code 89 = .ok (.iaload, 1) := by decide +kernel
theorem dd_md_answers_90 : decode prog_9_method_19_code 90 = .ok (.goto 4, 3) := by decide +kernel
theorem dd_md_answers_93 : decode prog_9_method_19_code 93 = .ok (.iconst (-1), 1) := by decide +kernel
theorem dd_md_answers_94 : decode prog_9_method_19_code 94 = .ok (.iload 8, 2) := by decide +kernel
theorem dd_md_answers_96 : decode prog_9_method_19_code 96 = .ok (.ifCond .eq 12, 3) := by decide +kernel
theorem dd_md_answers_99 : decode prog_9_method_19_code 99 = .ok (.aload_n 0, 1) := by decide +kernel
theorem dd_md_answers_100 : decode prog_9_method_19_code 100 = .ok (.getfield 32, 3) := by decide +kernel
theorem dd_md_answers_103 : decode prog_9_method_19_code 103 = .ok (.iload_n 1, 1) := by decide +kernel
theorem dd_md_answers_104 : decode prog_9_method_19_code 104 = .ok (.iaload, 1) := by decide +kernel
theorem dd_md_answers_105 : decode prog_9_method_19_code 105 = .ok (.goto 4, 3) := by decide +kernel
theorem dd_md_answers_108 : decode prog_9_method_19_code 108 = .ok (.iconst (-1), 1) := by decide +kernel
theorem dd_md_answers_109 : decode prog_9_method_19_code 109 = .ok (.invokevirtual 113, 3) := by decide +kernel
theorem dd_md_answers_112 : decode prog_9_method_19_code 112 = .ok (.return_, 1) := by decide +kernel
theorem dd_md_answers_113 : decode prog_9_method_19_code 113 = .ok (.aload_n 0, 1) := by decide +kernel
theorem dd_md_answers_114 : decode prog_9_method_19_code 114 = .ok (.getfield 26, 3) := by decide +kernel
theorem dd_md_answers_117 : decode prog_9_method_19_code 117 = .ok (.iload_n 1, 1) := by decide +kernel
theorem dd_md_answers_118 : decode prog_9_method_19_code 118 = .ok (.iload 7, 2) := by decide +kernel
theorem dd_md_answers_120 : decode prog_9_method_19_code 120 = .ok (.iastore, 1) := by decide +kernel
theorem dd_md_answers_121 : decode prog_9_method_19_code 121 = .ok (.aload_n 0, 1) := by decide +kernel
theorem dd_md_answers_122 : decode prog_9_method_19_code 122 = .ok (.getfield 29, 3) := by decide +kernel
theorem dd_md_answers_125 : decode prog_9_method_19_code 125 = .ok (.iload_n 1, 1) := by decide +kernel
theorem dd_md_answers_126 : decode prog_9_method_19_code 126 = .ok (.aload_n 0, 1) := by decide +kernel
theorem dd_md_answers_127 : decode prog_9_method_19_code 127 = .ok (.getfield 77, 3) := by decide +kernel
theorem dd_md_answers_130 : decode prog_9_method_19_code 130 = .ok (.bipush 7, 2) := by decide +kernel
theorem dd_md_answers_132 : decode prog_9_method_19_code 132 = .ok (.iaload, 1) := by decide +kernel
theorem dd_md_answers_133 : decode prog_9_method_19_code 133 = .ok (.iastore, 1) := by decide +kernel
theorem dd_md_answers_134 : decode prog_9_method_19_code 134 = .ok (.aload_n 0, 1) := by decide +kernel
theorem dd_md_answers_135 : decode prog_9_method_19_code 135 = .ok (.getfield 32, 3) := by decide +kernel
theorem dd_md_answers_138 : decode prog_9_method_19_code 138 = .ok (.iload_n 1, 1) := by decide +kernel
theorem dd_md_answers_139 : decode prog_9_method_19_code 139 = .ok (.aload_n 0, 1) := by decide +kernel
theorem dd_md_answers_140 : decode prog_9_method_19_code 140 = .ok (.getfield 77, 3) := by decide +kernel
theorem dd_md_answers_143 : decode prog_9_method_19_code 143 = .ok (.bipush 8, 2) := by decide +kernel
theorem dd_md_answers_145 : decode prog_9_method_19_code 145 = .ok (.iaload, 1) := by decide +kernel
theorem dd_md_answers_146 : decode prog_9_method_19_code 146 = .ok (.iastore, 1) := by decide +kernel
theorem dd_md_answers_147 : decode prog_9_method_19_code 147 = .ok (.aload_n 0, 1) := by decide +kernel
theorem dd_md_answers_148 : decode prog_9_method_19_code 148 = .ok (.iconst 4, 1) := by decide +kernel
theorem dd_md_answers_149 : decode prog_9_method_19_code 149 = .ok (.iload_n 3, 1) := by decide +kernel
theorem dd_md_answers_150 : decode prog_9_method_19_code 150 = .ok (.iload 4, 2) := by decide +kernel
theorem dd_md_answers_152 : decode prog_9_method_19_code 152 = .ok (.iload 5, 2) := by decide +kernel
theorem dd_md_answers_154 : decode prog_9_method_19_code 154 = .ok (.iload 6, 2) := by decide +kernel
theorem dd_md_answers_156 : decode prog_9_method_19_code 156 = .ok (.iload 7, 2) := by decide +kernel
theorem dd_md_answers_158 : decode prog_9_method_19_code 158 = .ok (.iconst 0, 1) := by decide +kernel
theorem dd_md_answers_159 : decode prog_9_method_19_code 159 = .ok (.iconst (-1), 1) := by decide +kernel
theorem dd_md_answers_160 : decode prog_9_method_19_code 160 = .ok (.iconst (-1), 1) := by decide +kernel
theorem dd_md_answers_161 : decode prog_9_method_19_code 161 = .ok (.invokevirtual 113, 3) := by decide +kernel
theorem dd_md_answers_164 : decode prog_9_method_19_code 164 = .ok (.return_, 1) := by decide +kernel
theorem dd_md_promisedBy_0 : decode prog_9_method_20_code 0 = .ok (.aload_n 0, 1) := by decide +kernel
theorem dd_md_promisedBy_1 : decode prog_9_method_20_code 1 = .ok (.getfield 77, 3) := by decide +kernel
theorem dd_md_promisedBy_4 : decode prog_9_method_20_code 4 = .ok (.bipush 6, 2) := by decide +kernel
theorem dd_md_promisedBy_6 : decode prog_9_method_20_code 6 = .ok (.iaload, 1) := by decide +kernel
theorem dd_md_promisedBy_7 : decode prog_9_method_20_code 7 = .ok (.aload_n 0, 1) := by decide +kernel
theorem dd_md_promisedBy_8 : decode prog_9_method_20_code 8 = .ok (.getfield 62, 3) := by decide +kernel
theorem dd_md_promisedBy_11 : decode prog_9_method_20_code 11 = .ok (.iload_n 1, 1) := by decide +kernel
theorem dd_md_promisedBy_12 : decode prog_9_method_20_code 12 = .ok (.iaload, 1) := by decide +kernel
theorem dd_md_promisedBy_13 : decode prog_9_method_20_code 13 = .ok (.if_icmp .le 42, 3) := by decide +kernel
theorem dd_md_promisedBy_16 : decode prog_9_method_20_code 16 = .ok (.aload_n 0, 1) := by decide +kernel
theorem dd_md_promisedBy_17 : decode prog_9_method_20_code 17 = .ok (.getfield 62, 3) := by decide +kernel
theorem dd_md_promisedBy_20 : decode prog_9_method_20_code 20 = .ok (.iload_n 1, 1) := by decide +kernel
theorem dd_md_promisedBy_21 : decode prog_9_method_20_code 21 = .ok (.aload_n 0, 1) := by decide +kernel
theorem dd_md_promisedBy_22 : decode prog_9_method_20_code 22 = .ok (.getfield 77, 3) := by decide +kernel
theorem dd_md_promisedBy_25 : decode prog_9_method_20_code 25 = .ok (.bipush 6, 2) := by decide +kernel
theorem dd_md_promisedBy_27 : decode prog_9_method_20_code 27 = .ok (.iaload, 1) := by decide +kernel
theorem dd_md_promisedBy_28 : decode prog_9_method_20_code 28 = .ok (.iastore, 1) := by decide +kernel
theorem dd_md_promisedBy_29 : decode prog_9_method_20_code 29 = .ok (.aload_n 0, 1) := by decide +kernel
theorem dd_md_promisedBy_30 : decode prog_9_method_20_code 30 = .ok (.getfield 65, 3) := by decide +kernel
theorem dd_md_promisedBy_33 : decode prog_9_method_20_code 33 = .ok (.iload_n 1, 1) := by decide +kernel
theorem dd_md_promisedBy_34 : decode prog_9_method_20_code 34 = .ok (.aload_n 0, 1) := by decide +kernel
theorem dd_md_promisedBy_35 : decode prog_9_method_20_code 35 = .ok (.getfield 77, 3) := by decide +kernel
theorem dd_md_promisedBy_38 : decode prog_9_method_20_code 38 = .ok (.bipush 7, 2) := by decide +kernel
theorem dd_md_promisedBy_40 : decode prog_9_method_20_code 40 = .ok (.iaload, 1) := by decide +kernel
theorem dd_md_promisedBy_41 : decode prog_9_method_20_code 41 = .ok (.iastore, 1) := by decide +kernel
theorem dd_md_promisedBy_42 : decode prog_9_method_20_code 42 = .ok (.aload_n 0, 1) := by decide +kernel
theorem dd_md_promisedBy_43 : decode prog_9_method_20_code 43 = .ok (.getfield 68, 3) := by decide +kernel
theorem dd_md_promisedBy_46 : decode prog_9_method_20_code 46 = .ok (.iload_n 1, 1) := by decide +kernel
theorem dd_md_promisedBy_47 : decode prog_9_method_20_code 47 = .ok (.aload_n 0, 1) := by decide +kernel
theorem dd_md_promisedBy_48 : decode prog_9_method_20_code 48 = .ok (.getfield 77, 3) := by decide +kernel
theorem dd_md_promisedBy_51 : decode prog_9_method_20_code 51 = .ok (.bipush 8, 2) := by decide +kernel
theorem dd_md_promisedBy_53 : decode prog_9_method_20_code 53 = .ok (.iaload, 1) := by decide +kernel
theorem dd_md_promisedBy_54 : decode prog_9_method_20_code 54 = .ok (.iastore, 1) := by decide +kernel
theorem dd_md_promisedBy_55 : decode prog_9_method_20_code 55 = .ok (.aload_n 0, 1) := by decide +kernel
theorem dd_md_promisedBy_56 : decode prog_9_method_20_code 56 = .ok (.aload_n 0, 1) := by decide +kernel
theorem dd_md_promisedBy_57 : decode prog_9_method_20_code 57 = .ok (.getfield 59, 3) := by decide +kernel
theorem dd_md_promisedBy_60 : decode prog_9_method_20_code 60 = .ok (.iload_n 1, 1) := by decide +kernel
theorem dd_md_promisedBy_61 : decode prog_9_method_20_code 61 = .ok (.iaload, 1) := by decide +kernel
theorem dd_md_promisedBy_62 : decode prog_9_method_20_code 62 = .ok (.invokevirtual 138, 3) := by decide +kernel
theorem dd_md_promisedBy_65 : decode prog_9_method_20_code 65 = .ok (.ifCond .ne 4, 3) := by decide +kernel
theorem dd_md_promisedBy_68 : decode prog_9_method_20_code 68 = .ok (.return_, 1) := by decide +kernel
theorem dd_md_promisedBy_69 : decode prog_9_method_20_code 69 = .ok (.aload_n 0, 1) := by decide +kernel
theorem dd_md_promisedBy_70 : decode prog_9_method_20_code 70 = .ok (.getfield 56, 3) := by decide +kernel
theorem dd_md_promisedBy_73 : decode prog_9_method_20_code 73 = .ok (.iload_n 1, 1) := by decide +kernel
theorem dd_md_promisedBy_74 : decode prog_9_method_20_code 74 = .ok (.iconst 2, 1) := by decide +kernel
theorem dd_md_promisedBy_75 : decode prog_9_method_20_code 75 = .ok (.iastore, 1) := by decide +kernel
theorem dd_md_promisedBy_76 : decode prog_9_method_20_code 76 = .ok (.aload_n 0, 1) := by decide +kernel
theorem dd_md_promisedBy_77 : decode prog_9_method_20_code 77 = .ok (.getfield 59, 3) := by decide +kernel
theorem dd_md_promisedBy_80 : decode prog_9_method_20_code 80 = .ok (.iload_n 1, 1) := by decide +kernel
theorem dd_md_promisedBy_81 : decode prog_9_method_20_code 81 = .ok (.iconst 0, 1) := by decide +kernel
theorem dd_md_promisedBy_82 : decode prog_9_method_20_code 82 = .ok (.iastore, 1) := by decide +kernel
theorem dd_md_promisedBy_83 : decode prog_9_method_20_code 83 = .ok (.aload_n 0, 1) := by decide +kernel
theorem dd_md_promisedBy_84 : decode prog_9_method_20_code 84 = .ok (.getfield 62, 3) := by decide +kernel
theorem dd_md_promisedBy_87 : decode prog_9_method_20_code 87 = .ok (.iload_n 1, 1) := by decide +kernel
theorem dd_md_promisedBy_88 : decode prog_9_method_20_code 88 = .ok (.iaload, 1) := by decide +kernel
theorem dd_md_promisedBy_89 : decode prog_9_method_20_code 89 = .ok (.ifCond .le 27, 3) := by decide +kernel
theorem dd_md_promisedBy_92 : decode prog_9_method_20_code 92 = .ok (.aload_n 0, 1) := by decide +kernel
theorem dd_md_promisedBy_93 : decode prog_9_method_20_code 93 = .ok (.getfield 47, 3) := by decide +kernel
theorem dd_md_promisedBy_96 : decode prog_9_method_20_code 96 = .ok (.iload_n 1, 1) := by decide +kernel
theorem dd_md_promisedBy_97 : decode prog_9_method_20_code 97 = .ok (.aload_n 0, 1) := by decide +kernel
theorem dd_md_promisedBy_98 : decode prog_9_method_20_code 98 = .ok (.getfield 65, 3) := by decide +kernel
theorem dd_md_promisedBy_101 : decode prog_9_method_20_code 101 = .ok (.iload_n 1, 1) := by decide +kernel
theorem dd_md_promisedBy_102 : decode prog_9_method_20_code 102 = .ok (.iaload, 1) := by decide +kernel
theorem dd_md_promisedBy_103 : decode prog_9_method_20_code 103 = .ok (.iastore, 1) := by decide +kernel
theorem dd_md_promisedBy_104 : decode prog_9_method_20_code 104 = .ok (.aload_n 0, 1) := by decide +kernel
theorem dd_md_promisedBy_105 : decode prog_9_method_20_code 105 = .ok (.getfield 50, 3) := by decide +kernel
theorem dd_md_promisedBy_108 : decode prog_9_method_20_code 108 = .ok (.iload_n 1, 1) := by decide +kernel
theorem dd_md_promisedBy_109 : decode prog_9_method_20_code 109 = .ok (.aload_n 0, 1) := by decide +kernel
theorem dd_md_promisedBy_110 : decode prog_9_method_20_code 110 = .ok (.getfield 68, 3) := by decide +kernel
theorem dd_md_promisedBy_113 : decode prog_9_method_20_code 113 = .ok (.iload_n 1, 1) := by decide +kernel
theorem dd_md_promisedBy_114 : decode prog_9_method_20_code 114 = .ok (.iaload, 1) := by decide +kernel
theorem dd_md_promisedBy_115 : decode prog_9_method_20_code 115 = .ok (.iastore, 1) := by decide +kernel
theorem dd_md_promisedBy_116 : decode prog_9_method_20_code 116 = .ok (.iconst 0, 1) := by decide +kernel
theorem dd_md_promisedBy_117 : decode prog_9_method_20_code 117 = .ok (.istore 6, 2) := by decide +kernel
theorem dd_md_promisedBy_119 : decode prog_9_method_20_code 119 = .ok (.iload 6, 2) := by decide +kernel
theorem dd_md_promisedBy_121 : decode prog_9_method_20_code 121 = .ok (.bipush 25, 2) := by decide +kernel
theorem dd_md_promisedBy_123 : decode prog_9_method_20_code 123 = .ok (.if_icmp .ge 35, 3) := by decide +kernel
theorem dd_md_promisedBy_126 : decode prog_9_method_20_code 126 = .ok (.aload_n 0, 1) := by decide +kernel
theorem dd_md_promisedBy_127 : decode prog_9_method_20_code 127 = .ok (.iconst 3, 1) := by decide +kernel
theorem dd_md_promisedBy_128 : decode prog_9_method_20_code 128 = .ok (.iload_n 2, 1) := by decide +kernel
theorem dd_md_promisedBy_129 : decode prog_9_method_20_code 129 = .ok (.iload 6, 2) := by decide +kernel
theorem dd_md_promisedBy_131 : decode prog_9_method_20_code 131 = .ok (.iload_n 3, 1) := by decide +kernel
theorem dd_md_promisedBy_132 : decode prog_9_method_20_code 132 = .ok (.iload 4, 2) := by decide +kernel
theorem dd_md_promisedBy_134 : decode prog_9_method_20_code 134 = .ok (.iload 5, 2) := by decide +kernel
theorem dd_md_promisedBy_136 : decode prog_9_method_20_code 136 = .ok (.iconst 0, 1) := by decide +kernel
theorem dd_md_promisedBy_137 : decode prog_9_method_20_code 137 = .ok (.aload_n 0, 1) := by decide +kernel
theorem dd_md_promisedBy_138 : decode prog_9_method_20_code 138 = .ok (.getfield 47, 3) := by decide +kernel
theorem dd_md_promisedBy_141 : decode prog_9_method_20_code 141 = .ok (.iload_n 1, 1) := by decide +kernel
theorem dd_md_promisedBy_142 : decode prog_9_method_20_code 142 = .ok (.iaload, 1) := by decide +kernel
theorem dd_md_promisedBy_143 : decode prog_9_method_20_code 143 = .ok (.aload_n 0, 1) := by decide +kernel
theorem dd_md_promisedBy_144 : decode prog_9_method_20_code 144 = .ok (.getfield 50, 3) := by decide +kernel
theorem dd_md_promisedBy_147 : decode prog_9_method_20_code 147 = .ok (.iload_n 1, 1) := by decide +kernel
theorem dd_md_promisedBy_148 : decode prog_9_method_20_code 148 = .ok (.iaload, 1) := by decide +kernel
theorem dd_md_promisedBy_149 : decode prog_9_method_20_code 149 = .ok (.invokevirtual 113, 3) := by decide +kernel
theorem dd_md_promisedBy_152 : decode prog_9_method_20_code 152 = .ok (.iinc 6 1, 3) := by decide +kernel
theorem dd_md_promisedBy_155 : decode prog_9_method_20_code 155 = .ok (.goto (-36), 3) := by decide +kernel
theorem dd_md_promisedBy_158 : decode prog_9_method_20_code 158 = .ok (.return_, 1) := by decide +kernel
theorem dd_md_hasEachColumn_0 : decode prog_9_method_16_code 0 = .ok (.iconst 0, 1) := by decide +kernel
theorem dd_md_hasEachColumn_1 : decode prog_9_method_16_code 1 = .ok (.istore_n 2, 1) := by decide +kernel
theorem dd_md_hasEachColumn_2 : decode prog_9_method_16_code 2 = .ok (.iload_n 2, 1) := by decide +kernel
theorem dd_md_hasEachColumn_3 : decode prog_9_method_16_code 3 = .ok (.iconst 5, 1) := by decide +kernel
theorem dd_md_hasEachColumn_4 : decode prog_9_method_16_code 4 = .ok (.if_icmp .ge 56, 3) := by decide +kernel
theorem dd_md_hasEachColumn_7 : decode prog_9_method_16_code 7 = .ok (.iconst 0, 1) := by decide +kernel
theorem dd_md_hasEachColumn_8 : decode prog_9_method_16_code 8 = .ok (.istore_n 3, 1) := by decide +kernel
theorem dd_md_hasEachColumn_9 : decode prog_9_method_16_code 9 = .ok (.iconst 0, 1) := by decide +kernel
theorem dd_md_hasEachColumn_10 : decode prog_9_method_16_code 10 = .ok (.istore 4, 2) := by decide +kernel
theorem dd_md_hasEachColumn_12 : decode prog_9_method_16_code 12 = .ok (.iload 4, 2) := by decide +kernel
theorem dd_md_hasEachColumn_14 : decode prog_9_method_16_code 14 = .ok (.iconst 5, 1) := by decide +kernel
theorem dd_md_hasEachColumn_15 : decode prog_9_method_16_code 15 = .ok (.if_icmp .ge 33, 3) := by decide +kernel
theorem dd_md_hasEachColumn_18 : decode prog_9_method_16_code 18 = .ok (.iload_n 3, 1) := by decide +kernel
theorem dd_md_hasEachColumn_19 : decode prog_9_method_16_code 19 = .ok (.ifCond .ne 17, 3) := by decide +kernel
theorem dd_md_hasEachColumn_22 : decode prog_9_method_16_code 22 = .ok (.iload_n 1, 1) := by decide +kernel
theorem dd_md_hasEachColumn_23 : decode prog_9_method_16_code 23 = .ok (.iconst 5, 1) := by decide +kernel
theorem dd_md_hasEachColumn_24 : decode prog_9_method_16_code 24 = .ok (.iload 4, 2) := by decide +kernel
theorem dd_md_hasEachColumn_26 : decode prog_9_method_16_code 26 = .ok (.imul, 1) := by decide +kernel
theorem dd_md_hasEachColumn_27 : decode prog_9_method_16_code 27 = .ok (.iload_n 2, 1) := by decide +kernel
theorem dd_md_hasEachColumn_28 : decode prog_9_method_16_code 28 = .ok (.iadd, 1) := by decide +kernel
theorem dd_md_hasEachColumn_29 : decode prog_9_method_16_code 29 = .ok (.ishr, 1) := by decide +kernel
theorem dd_md_hasEachColumn_30 : decode prog_9_method_16_code 30 = .ok (.iconst 1, 1) := by decide +kernel
theorem dd_md_hasEachColumn_31 : decode prog_9_method_16_code 31 = .ok (.iand, 1) := by decide +kernel
theorem dd_md_hasEachColumn_32 : decode prog_9_method_16_code 32 = .ok (.iconst 1, 1) := by decide +kernel
theorem dd_md_hasEachColumn_33 : decode prog_9_method_16_code 33 = .ok (.if_icmp .ne 7, 3) := by decide +kernel
theorem dd_md_hasEachColumn_36 : decode prog_9_method_16_code 36 = .ok (.iconst 1, 1) := by decide +kernel
theorem dd_md_hasEachColumn_37 : decode prog_9_method_16_code 37 = .ok (.goto 4, 3) := by decide +kernel
theorem dd_md_hasEachColumn_40 : decode prog_9_method_16_code 40 = .ok (.iconst 0, 1) := by decide +kernel
theorem dd_md_hasEachColumn_41 : decode prog_9_method_16_code 41 = .ok (.istore_n 3, 1) := by decide +kernel
theorem dd_md_hasEachColumn_42 : decode prog_9_method_16_code 42 = .ok (.iinc 4 1, 3) := by decide +kernel
theorem dd_md_hasEachColumn_45 : decode prog_9_method_16_code 45 = .ok (.goto (-33), 3) := by decide +kernel
theorem dd_md_hasEachColumn_48 : decode prog_9_method_16_code 48 = .ok (.iload_n 3, 1) := by decide +kernel
theorem dd_md_hasEachColumn_49 : decode prog_9_method_16_code 49 = .ok (.ifCond .ne 5, 3) := by decide +kernel
theorem dd_md_hasEachColumn_52 : decode prog_9_method_16_code 52 = .ok (.iconst 0, 1) := by decide +kernel
theorem dd_md_hasEachColumn_53 : decode prog_9_method_16_code 53 = .ok (.ireturn, 1) := by decide +kernel
theorem dd_md_hasEachColumn_54 : decode prog_9_method_16_code 54 = .ok (.iinc 2 1, 3) := by decide +kernel
theorem dd_md_hasEachColumn_57 : decode prog_9_method_16_code 57 = .ok (.goto (-55), 3) := by decide +kernel
theorem dd_md_hasEachColumn_60 : decode prog_9_method_16_code 60 = .ok (.iconst 1, 1) := by decide +kernel
theorem dd_md_hasEachColumn_61 : decode prog_9_method_16_code 61 = .ok (.ireturn, 1) := by decide +kernel
theorem dd_md_hasWholeColumn_0 : decode prog_9_method_17_code 0 = .ok (.iconst 0, 1) := by decide +kernel
theorem dd_md_hasWholeColumn_1 : decode prog_9_method_17_code 1 = .ok (.istore_n 2, 1) := by decide +kernel
theorem dd_md_hasWholeColumn_2 : decode prog_9_method_17_code 2 = .ok (.iload_n 2, 1) := by decide +kernel
theorem dd_md_hasWholeColumn_3 : decode prog_9_method_17_code 3 = .ok (.iconst 5, 1) := by decide +kernel
theorem dd_md_hasWholeColumn_4 : decode prog_9_method_17_code 4 = .ok (.if_icmp .ge 56, 3) := by decide +kernel
theorem dd_md_hasWholeColumn_7 : decode prog_9_method_17_code 7 = .ok (.iconst 1, 1) := by decide +kernel
theorem dd_md_hasWholeColumn_8 : decode prog_9_method_17_code 8 = .ok (.istore_n 3, 1) := by decide +kernel
theorem dd_md_hasWholeColumn_9 : decode prog_9_method_17_code 9 = .ok (.iconst 0, 1) := by decide +kernel
theorem dd_md_hasWholeColumn_10 : decode prog_9_method_17_code 10 = .ok (.istore 4, 2) := by decide +kernel
theorem dd_md_hasWholeColumn_12 : decode prog_9_method_17_code 12 = .ok (.iload 4, 2) := by decide +kernel
theorem dd_md_hasWholeColumn_14 : decode prog_9_method_17_code 14 = .ok (.iconst 5, 1) := by decide +kernel
theorem dd_md_hasWholeColumn_15 : decode prog_9_method_17_code 15 = .ok (.if_icmp .ge 33, 3) := by decide +kernel
theorem dd_md_hasWholeColumn_18 : decode prog_9_method_17_code 18 = .ok (.iload_n 3, 1) := by decide +kernel
theorem dd_md_hasWholeColumn_19 : decode prog_9_method_17_code 19 = .ok (.ifCond .eq 21, 3) := by decide +kernel
theorem dd_md_hasWholeColumn_22 : decode prog_9_method_17_code 22 = .ok (.iload_n 1, 1) := by decide +kernel
theorem dd_md_hasWholeColumn_23 : decode prog_9_method_17_code 23 = .ok (.iconst 5, 1) := by decide +kernel
theorem dd_md_hasWholeColumn_24 : decode prog_9_method_17_code 24 = .ok (.iload 4, 2) := by decide +kernel
theorem dd_md_hasWholeColumn_26 : decode prog_9_method_17_code 26 = .ok (.imul, 1) := by decide +kernel
theorem dd_md_hasWholeColumn_27 : decode prog_9_method_17_code 27 = .ok (.iload_n 2, 1) := by decide +kernel
theorem dd_md_hasWholeColumn_28 : decode prog_9_method_17_code 28 = .ok (.iadd, 1) := by decide +kernel
theorem dd_md_hasWholeColumn_29 : decode prog_9_method_17_code 29 = .ok (.ishr, 1) := by decide +kernel
theorem dd_md_hasWholeColumn_30 : decode prog_9_method_17_code 30 = .ok (.iconst 1, 1) := by decide +kernel
theorem dd_md_hasWholeColumn_31 : decode prog_9_method_17_code 31 = .ok (.iand, 1) := by decide +kernel
theorem dd_md_hasWholeColumn_32 : decode prog_9_method_17_code 32 = .ok (.iconst 1, 1) := by decide +kernel
theorem dd_md_hasWholeColumn_33 : decode prog_9_method_17_code 33 = .ok (.if_icmp .ne 7, 3) := by decide +kernel
theorem dd_md_hasWholeColumn_36 : decode prog_9_method_17_code 36 = .ok (.iconst 1, 1) := by decide +kernel
theorem dd_md_hasWholeColumn_37 : decode prog_9_method_17_code 37 = .ok (.goto 4, 3) := by decide +kernel
theorem dd_md_hasWholeColumn_40 : decode prog_9_method_17_code 40 = .ok (.iconst 0, 1) := by decide +kernel
theorem dd_md_hasWholeColumn_41 : decode prog_9_method_17_code 41 = .ok (.istore_n 3, 1) := by decide +kernel
theorem dd_md_hasWholeColumn_42 : decode prog_9_method_17_code 42 = .ok (.iinc 4 1, 3) := by decide +kernel
theorem dd_md_hasWholeColumn_45 : decode prog_9_method_17_code 45 = .ok (.goto (-33), 3) := by decide +kernel
theorem dd_md_hasWholeColumn_48 : decode prog_9_method_17_code 48 = .ok (.iload_n 3, 1) := by decide +kernel
theorem dd_md_hasWholeColumn_49 : decode prog_9_method_17_code 49 = .ok (.ifCond .eq 5, 3) := by decide +kernel
theorem dd_md_hasWholeColumn_52 : decode prog_9_method_17_code 52 = .ok (.iconst 1, 1) := by decide +kernel
theorem dd_md_hasWholeColumn_53 : decode prog_9_method_17_code 53 = .ok (.ireturn, 1) := by decide +kernel
theorem dd_md_hasWholeColumn_54 : decode prog_9_method_17_code 54 = .ok (.iinc 2 1, 3) := by decide +kernel
theorem dd_md_hasWholeColumn_57 : decode prog_9_method_17_code 57 = .ok (.goto (-55), 3) := by decide +kernel
theorem dd_md_hasWholeColumn_60 : decode prog_9_method_17_code 60 = .ok (.iconst 0, 1) := by decide +kernel
theorem dd_md_hasWholeColumn_61 : decode prog_9_method_17_code 61 = .ok (.ireturn, 1) := by decide +kernel
theorem dd_md_drop_0 : decode prog_9_method_23_code 0 = .ok (.aload_n 0, 1) := by decide +kernel
theorem dd_md_drop_1 : decode prog_9_method_23_code 1 = .ok (.iload_n 1, 1) := by decide +kernel
theorem dd_md_drop_2 : decode prog_9_method_23_code 2 = .ok (.aload_n 0, 1) := by decide +kernel
theorem dd_md_drop_3 : decode prog_9_method_23_code 3 = .ok (.getfield 99, 3) := by decide +kernel
theorem dd_md_drop_6 : decode prog_9_method_23_code 6 = .ok (.invokestatic 84, 3) := by decide +kernel
theorem dd_md_drop_9 : decode prog_9_method_23_code 9 = .ok (.ifCond .ne 7, 3) := by decide +kernel
theorem dd_md_drop_12 : decode prog_9_method_23_code 12 = .ok (.iconst 1, 1) := by decide +kernel
theorem dd_md_drop_13 : decode prog_9_method_23_code 13 = .ok (.goto 4, 3) := by decide +kernel
theorem dd_md_drop_16 : decode prog_9_method_23_code 16 = .ok (.iconst 0, 1) := by decide +kernel
theorem dd_md_drop_17 : decode prog_9_method_23_code 17 = .ok (.iconst 1, 1) := by decide +kernel
theorem dd_md_drop_18 : decode prog_9_method_23_code 18 = .ok (.invokevirtual 92, 3) := by decide +kernel
theorem dd_md_drop_21 : decode prog_9_method_23_code 21 = .ok (.ifCond .eq 5, 3) := by decide +kernel
theorem dd_md_drop_24 : decode prog_9_method_23_code 24 = .ok (.iconst 0, 1) := by decide +kernel
theorem dd_md_drop_25 : decode prog_9_method_23_code 25 = .ok (.ireturn, 1) := by decide +kernel
theorem dd_md_drop_26 : decode prog_9_method_23_code 26 = .ok (.aload_n 0, 1) := by decide +kernel
theorem dd_md_drop_27 : decode prog_9_method_23_code 27 = .ok (.iload_n 1, 1) := by decide +kernel
theorem dd_md_drop_28 : decode prog_9_method_23_code 28 = .ok (.invokevirtual 141, 3) := by decide +kernel
theorem dd_md_drop_31 : decode prog_9_method_23_code 31 = .ok (.aload_n 0, 1) := by decide +kernel
theorem dd_md_drop_32 : decode prog_9_method_23_code 32 = .ok (.getfield 77, 3) := by decide +kernel
theorem dd_md_drop_35 : decode prog_9_method_23_code 35 = .ok (.iconst 0, 1) := by decide +kernel
theorem dd_md_drop_36 : decode prog_9_method_23_code 36 = .ok (.iaload, 1) := by decide +kernel
theorem dd_md_drop_37 : decode prog_9_method_23_code 37 = .ok (.ireturn, 1) := by decide +kernel
theorem dd_md_copy_0 : decode prog_9_method_24_code 0 = .ok (.aload_n 0, 1) := by decide +kernel
theorem dd_md_copy_1 : decode prog_9_method_24_code 1 = .ok (.iload_n 1, 1) := by decide +kernel
theorem dd_md_copy_2 : decode prog_9_method_24_code 2 = .ok (.aload_n 0, 1) := by decide +kernel
theorem dd_md_copy_3 : decode prog_9_method_24_code 3 = .ok (.getfield 99, 3) := by decide +kernel
theorem dd_md_copy_6 : decode prog_9_method_24_code 6 = .ok (.invokestatic 84, 3) := by decide +kernel
theorem dd_md_copy_9 : decode prog_9_method_24_code 9 = .ok (.ifCond .ne 7, 3) := by decide +kernel
theorem dd_md_copy_12 : decode prog_9_method_24_code 12 = .ok (.iconst 1, 1) := by decide +kernel
theorem dd_md_copy_13 : decode prog_9_method_24_code 13 = .ok (.goto 4, 3) := by decide +kernel
theorem dd_md_copy_16 : decode prog_9_method_24_code 16 = .ok (.iconst 0, 1) := by decide +kernel
theorem dd_md_copy_17 : decode prog_9_method_24_code 17 = .ok (.iconst 1, 1) := by decide +kernel
theorem dd_md_copy_18 : decode prog_9_method_24_code 18 = .ok (.invokevirtual 92, 3) := by decide +kernel
theorem dd_md_copy_21 : decode prog_9_method_24_code 21 = .ok (.ifCond .ne 12, 3) := by decide +kernel
theorem dd_md_copy_24 : decode prog_9_method_24_code 24 = .ok (.aload_n 0, 1) := by decide +kernel
theorem dd_md_copy_25 : decode prog_9_method_24_code 25 = .ok (.getfield 99, 3) := by decide +kernel
theorem dd_md_copy_28 : decode prog_9_method_24_code 28 = .ok (.bipush 100, 2) := by decide +kernel
theorem dd_md_copy_30 : decode prog_9_method_24_code 30 = .ok (.if_icmp .ne 5, 3) := by decide +kernel
theorem dd_md_copy_33 : decode prog_9_method_24_code 33 = .ok (.iconst 0, 1) := by decide +kernel
theorem dd_md_copy_34 : decode prog_9_method_24_code 34 = .ok (.ireturn, 1) := by decide +kernel
theorem dd_md_copy_35 : decode prog_9_method_24_code 35 = .ok (.iconst 0, 1) := by decide +kernel
theorem dd_md_copy_36 : decode prog_9_method_24_code 36 = .ok (.istore_n 2, 1) := by decide +kernel
theorem dd_md_copy_37 : decode prog_9_method_24_code 37 = .ok (.iload_n 2, 1) := by decide +kernel
theorem dd_md_copy_38 : decode prog_9_method_24_code 38 = .ok (.bipush 34, 2) := by decide +kernel
theorem dd_md_copy_40 : decode prog_9_method_24_code 40 = .ok (.if_icmp .ge 34, 3) := by decide +kernel
theorem dd_md_copy_43 : decode prog_9_method_24_code 43 = .ok (.aload_n 0, 1) := by decide +kernel
theorem dd_md_copy_44 : decode prog_9_method_24_code 44 = .ok (.getfield 74, 3) := by decide +kernel
theorem dd_md_copy_47 : decode prog_9_method_24_code 47 = .ok (.bipush 34, 2) := by decide +kernel
theorem dd_md_copy_49 : decode prog_9_method_24_code 49 = .ok (.aload_n 0, 1) := by decide +kernel
theorem dd_md_copy_50 : decode prog_9_method_24_code 50 = .ok (.getfield 99, 3) := by decide +kernel
theorem dd_md_copy_53 : decode prog_9_method_24_code 53 = .ok (.imul, 1) := by decide +kernel
theorem dd_md_copy_54 : decode prog_9_method_24_code 54 = .ok (.iload_n 2, 1) := by decide +kernel
theorem dd_md_copy_55 : decode prog_9_method_24_code 55 = .ok (.iadd, 1) := by decide +kernel
theorem dd_md_copy_56 : decode prog_9_method_24_code 56 = .ok (.aload_n 0, 1) := by decide +kernel
theorem dd_md_copy_57 : decode prog_9_method_24_code 57 = .ok (.getfield 74, 3) := by decide +kernel
theorem dd_md_copy_60 : decode prog_9_method_24_code 60 = .ok (.bipush 34, 2) := by decide +kernel
theorem dd_md_copy_62 : decode prog_9_method_24_code 62 = .ok (.iload_n 1, 1) := by decide +kernel
theorem dd_md_copy_63 : decode prog_9_method_24_code 63 = .ok (.imul, 1) := by decide +kernel
theorem dd_md_copy_64 : decode prog_9_method_24_code 64 = .ok (.iload_n 2, 1) := by decide +kernel
theorem dd_md_copy_65 : decode prog_9_method_24_code 65 = .ok (.iadd, 1) := by decide +kernel
theorem dd_md_copy_66 : decode prog_9_method_24_code 66 = .ok (.iaload, 1) := by decide +kernel
theorem dd_md_copy_67 : decode prog_9_method_24_code 67 = .ok (.iastore, 1) := by decide +kernel
theorem dd_md_copy_68 : decode prog_9_method_24_code 68 = .ok (.iinc 2 1, 3) := by decide +kernel
theorem dd_md_copy_71 : decode prog_9_method_24_code 71 = .ok (.goto (-34), 3) := by decide +kernel
theorem dd_md_copy_74 : decode prog_9_method_24_code 74 = .ok (.aload_n 0, 1) := by decide +kernel
theorem dd_md_copy_75 : decode prog_9_method_24_code 75 = .ok (.dup, 1) := by decide +kernel
theorem dd_md_copy_76 : decode prog_9_method_24_code 76 = .ok (.getfield 99, 3) := by decide +kernel
theorem dd_md_copy_79 : decode prog_9_method_24_code 79 = .ok (.iconst 1, 1) := by decide +kernel
theorem dd_md_copy_80 : decode prog_9_method_24_code 80 = .ok (.iadd, 1) := by decide +kernel
theorem dd_md_copy_81 : decode prog_9_method_24_code 81 = .ok (.putfield 99, 3) := by decide +kernel
theorem dd_md_copy_84 : decode prog_9_method_24_code 84 = .ok (.iconst 1, 1) := by decide +kernel
theorem dd_md_copy_85 : decode prog_9_method_24_code 85 = .ok (.ireturn, 1) := by decide +kernel
theorem dd_md_deliverAll_0 : decode prog_9_method_25_code 0 = .ok (.aload_n 0, 1) := by decide +kernel
theorem dd_md_deliverAll_1 : decode prog_9_method_25_code 1 = .ok (.iload_n 1, 1) := by decide +kernel
theorem dd_md_deliverAll_2 : decode prog_9_method_25_code 2 = .ok (.sipush 2001, 3) := by decide +kernel
theorem dd_md_deliverAll_5 : decode prog_9_method_25_code 5 = .ok (.invokestatic 84, 3) := by decide +kernel
theorem dd_md_deliverAll_8 : decode prog_9_method_25_code 8 = .ok (.ifCond .ne 7, 3) := by decide +kernel
theorem dd_md_deliverAll_11 : decode prog_9_method_25_code 11 = .ok (.iconst 1, 1) := by decide +kernel
theorem dd_md_deliverAll_12 : decode prog_9_method_25_code 12 = .ok (.goto 4, 3) := by decide +kernel
theorem dd_md_deliverAll_15 : decode prog_9_method_25_code 15 = .ok (.iconst 0, 1) := by decide +kernel
theorem dd_md_deliverAll_16 : decode prog_9_method_25_code 16 = .ok (.iconst 1, 1) := by decide +kernel
theorem dd_md_deliverAll_17 : decode prog_9_method_25_code 17 = .ok (.invokevirtual 92, 3) := by decide +kernel
theorem dd_md_deliverAll_20 : decode prog_9_method_25_code 20 = .ok (.ifCond .eq 5, 3) := by decide +kernel
theorem dd_md_deliverAll_23 : decode prog_9_method_25_code 23 = .ok (.iconst 0, 1) := by decide +kernel
theorem dd_md_deliverAll_24 : decode prog_9_method_25_code 24 = .ok (.ireturn, 1) := by decide +kernel
theorem dd_md_deliverAll_25 : decode prog_9_method_25_code 25 = .ok (.iconst 0, 1) := by decide +kernel
theorem dd_md_deliverAll_26 : decode prog_9_method_25_code 26 = .ok (.istore_n 2, 1) := by decide +kernel
theorem dd_md_deliverAll_27 : decode prog_9_method_25_code 27 = .ok (.iload_n 2, 1) := by decide +kernel
theorem dd_md_deliverAll_28 : decode prog_9_method_25_code 28 = .ok (.iload_n 1, 1) := by decide +kernel
theorem dd_md_deliverAll_29 : decode prog_9_method_25_code 29 = .ok (.if_icmp .ge 22, 3) := by decide +kernel
theorem dd_md_deliverAll_32 : decode prog_9_method_25_code 32 = .ok (.aload_n 0, 1) := by decide +kernel
theorem dd_md_deliverAll_33 : decode prog_9_method_25_code 33 = .ok (.getfield 99, 3) := by decide +kernel
theorem dd_md_deliverAll_36 : decode prog_9_method_25_code 36 = .ok (.ifCond .le 15, 3) := by decide +kernel
theorem dd_md_deliverAll_39 : decode prog_9_method_25_code 39 = .ok (.aload_n 0, 1) := by decide +kernel
theorem dd_md_deliverAll_40 : decode prog_9_method_25_code 40 = .ok (.iconst 0, 1) := by decide +kernel
theorem dd_md_deliverAll_41 : decode prog_9_method_25_code 41 = .ok (.invokevirtual 150, 3) := by decide +kernel
theorem dd_md_deliverAll_44 : decode prog_9_method_25_code 44 = .ok (.pop, 1) := by decide +kernel
theorem dd_md_deliverAll_45 : decode prog_9_method_25_code 45 = .ok (.iinc 2 1, 3) := by decide +kernel
theorem dd_md_deliverAll_48 : decode prog_9_method_25_code 48 = .ok (.goto (-21), 3) := by decide +kernel
theorem dd_md_deliverAll_51 : decode prog_9_method_25_code 51 = .ok (.iload_n 2, 1) := by decide +kernel
theorem dd_md_deliverAll_52 : decode prog_9_method_25_code 52 = .ok (.ireturn, 1) := by decide +kernel
theorem dd_md_up_0 : decode prog_9_method_26_code 0 = .ok (.aload_n 0, 1) := by decide +kernel
theorem dd_md_up_1 : decode prog_9_method_26_code 1 = .ok (.iload_n 1, 1) := by decide +kernel
theorem dd_md_up_2 : decode prog_9_method_26_code 2 = .ok (.invokestatic 117, 3) := by decide +kernel
theorem dd_md_up_5 : decode prog_9_method_26_code 5 = .ok (.ifCond .ne 7, 3) := by decide +kernel
theorem dd_md_up_8 : decode prog_9_method_26_code 8 = .ok (.iconst 1, 1) := by decide +kernel
theorem dd_md_up_9 : decode prog_9_method_26_code 9 = .ok (.goto 4, 3) := by decide +kernel
theorem dd_md_up_12 : decode prog_9_method_26_code 12 = .ok (.iconst 0, 1) := by decide +kernel
theorem dd_md_up_13 : decode prog_9_method_26_code 13 = .ok (.iconst 1, 1) := by decide +kernel
theorem dd_md_up_14 : decode prog_9_method_26_code 14 = .ok (.invokevirtual 92, 3) := by decide +kernel
theorem dd_md_up_17 : decode prog_9_method_26_code 17 = .ok (.ifCond .eq 5, 3) := by decide +kernel
theorem dd_md_up_20 : decode prog_9_method_26_code 20 = .ok (.iconst 0, 1) := by decide +kernel
theorem dd_md_up_21 : decode prog_9_method_26_code 21 = .ok (.ireturn, 1) := by decide +kernel
theorem dd_md_up_22 : decode prog_9_method_26_code 22 = .ok (.aload_n 0, 1) := by decide +kernel
theorem dd_md_up_23 : decode prog_9_method_26_code 23 = .ok (.getfield 16, 3) := by decide +kernel
theorem dd_md_up_26 : decode prog_9_method_26_code 26 = .ok (.iload_n 1, 1) := by decide +kernel
theorem dd_md_up_27 : decode prog_9_method_26_code 27 = .ok (.baload, 1) := by decide +kernel
theorem dd_md_up_28 : decode prog_9_method_26_code 28 = .ok (.iload_n 2, 1) := by decide +kernel
theorem dd_md_up_29 : decode prog_9_method_26_code 29 = .ok (.if_icmp .ne 7, 3) := by decide +kernel
theorem dd_md_up_32 : decode prog_9_method_26_code 32 = .ok (.iconst 1, 1) := by decide +kernel
theorem dd_md_up_33 : decode prog_9_method_26_code 33 = .ok (.goto 4, 3) := by decide +kernel
theorem dd_md_up_36 : decode prog_9_method_26_code 36 = .ok (.iconst 0, 1) := by decide +kernel
theorem dd_md_up_37 : decode prog_9_method_26_code 37 = .ok (.istore_n 3, 1) := by decide +kernel
theorem dd_md_up_38 : decode prog_9_method_26_code 38 = .ok (.aload_n 0, 1) := by decide +kernel
theorem dd_md_up_39 : decode prog_9_method_26_code 39 = .ok (.getfield 16, 3) := by decide +kernel
theorem dd_md_up_42 : decode prog_9_method_26_code 42 = .ok (.iload_n 1, 1) := by decide +kernel
theorem dd_md_up_43 : decode prog_9_method_26_code 43 = .ok (.iload_n 2, 1) := by decide +kernel
theorem dd_md_up_44 : decode prog_9_method_26_code 44 = .ok (.ifCond .ne 7, 3) := by decide +kernel
theorem dd_md_up_47 : decode prog_9_method_26_code 47 = .ok (.iconst 1, 1) := by decide +kernel
theorem dd_md_up_48 : decode prog_9_method_26_code 48 = .ok (.goto 4, 3) := by decide +kernel
theorem dd_md_up_51 : decode prog_9_method_26_code 51 = .ok (.iconst 0, 1) := by decide +kernel
theorem dd_md_up_52 : decode prog_9_method_26_code 52 = .ok (.bastore, 1) := by decide +kernel
theorem dd_md_up_53 : decode prog_9_method_26_code 53 = .ok (.iconst 0, 1) := by decide +kernel
theorem dd_md_up_54 : decode prog_9_method_26_code 54 = .ok (.istore 4, 2) := by decide +kernel
theorem dd_md_up_56 : decode prog_9_method_26_code 56 = .ok (.iload 4, 2) := by decide +kernel
theorem dd_md_up_58 : decode prog_9_method_26_code 58 = .ok (.bipush 20, 2) := by decide +kernel
theorem dd_md_up_60 : decode prog_9_method_26_code 60 = .ok (.if_icmp .ge 23, 3) := by decide +kernel
theorem dd_md_up_63 : decode prog_9_method_26_code 63 = .ok (.iload_n 2, 1) := by decide +kernel
theorem dd_md_up_64 : decode prog_9_method_26_code 64 = .ok (.ifCond .ne 19, 3) := by decide +kernel
theorem dd_md_up_67 : decode prog_9_method_26_code 67 = .ok (.aload_n 0, 1) := by decide +kernel
theorem dd_md_up_68 : decode prog_9_method_26_code 68 = .ok (.iload_n 1, 1) := by decide +kernel
theorem dd_md_up_69 : decode prog_9_method_26_code 69 = .ok (.iload 4, 2) := by decide +kernel
theorem dd_md_up_71 : decode prog_9_method_26_code 71 = .ok (.invokestatic 105, 3) := by decide +kernel
theorem dd_md_up_74 : decode prog_9_method_26_code 74 = .ok (.invokevirtual 109, 3) := by decide +kernel
theorem dd_md_up_77 : decode prog_9_method_26_code 77 = .ok (.iinc 4 1, 3) := by decide +kernel
theorem dd_md_up_80 : decode prog_9_method_26_code 80 = .ok (.goto (-24), 3) := by decide +kernel
theorem dd_md_up_83 : decode prog_9_method_26_code 83 = .ok (.iload_n 3, 1) := by decide +kernel
theorem dd_md_up_84 : decode prog_9_method_26_code 84 = .ok (.ireturn, 1) := by decide +kernel
theorem dd_md_teach_0 : decode prog_9_method_27_code 0 = .ok (.aload_n 0, 1) := by decide +kernel
theorem dd_md_teach_1 : decode prog_9_method_27_code 1 = .ok (.iload_n 1, 1) := by decide +kernel
theorem dd_md_teach_2 : decode prog_9_method_27_code 2 = .ok (.invokestatic 117, 3) := by decide +kernel
theorem dd_md_teach_5 : decode prog_9_method_27_code 5 = .ok (.ifCond .eq 17, 3) := by decide +kernel
theorem dd_md_teach_8 : decode prog_9_method_27_code 8 = .ok (.iload_n 2, 1) := by decide +kernel
theorem dd_md_teach_9 : decode prog_9_method_27_code 9 = .ok (.invokestatic 117, 3) := by decide +kernel
theorem dd_md_teach_12 : decode prog_9_method_27_code 12 = .ok (.ifCond .eq 10, 3) := by decide +kernel
theorem dd_md_teach_15 : decode prog_9_method_27_code 15 = .ok (.iload_n 3, 1) := by decide +kernel
theorem dd_md_teach_16 : decode prog_9_method_27_code 16 = .ok (.invokestatic 88, 3) := by decide +kernel
theorem dd_md_teach_19 : decode prog_9_method_27_code 19 = .ok (.ifCond .ne 7, 3) := by decide +kernel
theorem dd_md_teach_22 : decode prog_9_method_27_code 22 = .ok (.iconst 1, 1) := by decide +kernel
theorem dd_md_teach_23 : decode prog_9_method_27_code 23 = .ok (.goto 4, 3) := by decide +kernel
theorem dd_md_teach_26 : decode prog_9_method_27_code 26 = .ok (.iconst 0, 1) := by decide +kernel
theorem dd_md_teach_27 : decode prog_9_method_27_code 27 = .ok (.iconst 1, 1) := by decide +kernel
theorem dd_md_teach_28 : decode prog_9_method_27_code 28 = .ok (.invokevirtual 92, 3) := by decide +kernel
theorem dd_md_teach_31 : decode prog_9_method_27_code 31 = .ok (.ifCond .ne 17, 3) := by decide +kernel
theorem dd_md_teach_34 : decode prog_9_method_27_code 34 = .ok (.aload_n 0, 1) := by decide +kernel
theorem dd_md_teach_35 : decode prog_9_method_27_code 35 = .ok (.aload_n 0, 1) := by decide +kernel
theorem dd_md_teach_36 : decode prog_9_method_27_code 36 = .ok (.getfield 16, 3) := by decide +kernel
theorem dd_md_teach_39 : decode prog_9_method_27_code 39 = .ok (.iload_n 1, 1) := by decide +kernel
theorem dd_md_teach_40 : decode prog_9_method_27_code 40 = .ok (.baload, 1) := by decide +kernel
theorem dd_md_teach_41 : decode prog_9_method_27_code 41 = .ok (.iconst 2, 1) := by decide +kernel
theorem dd_md_teach_42 : decode prog_9_method_27_code 42 = .ok (.invokevirtual 92, 3) := by decide +kernel
theorem dd_md_teach_45 : decode prog_9_method_27_code 45 = .ok (.ifCond .eq 5, 3) := by decide +kernel
theorem dd_md_teach_48 : decode prog_9_method_27_code 48 = .ok (.iconst 0, 1) := by decide +kernel
theorem dd_md_teach_49 : decode prog_9_method_27_code 49 = .ok (.ireturn, 1) := by decide +kernel
theorem dd_md_teach_50 : decode prog_9_method_27_code 50 = .ok (.aload_n 0, 1) := by decide +kernel
theorem dd_md_teach_51 : decode prog_9_method_27_code 51 = .ok (.getfield 99, 3) := by decide +kernel
theorem dd_md_teach_54 : decode prog_9_method_27_code 54 = .ok (.bipush 100, 2) := by decide +kernel
theorem dd_md_teach_56 : decode prog_9_method_27_code 56 = .ok (.if_icmp .ge 7, 3) := by decide +kernel
theorem dd_md_teach_59 : decode prog_9_method_27_code 59 = .ok (.iconst 1, 1) := by decide +kernel
theorem dd_md_teach_60 : decode prog_9_method_27_code 60 = .ok (.goto 4, 3) := by decide +kernel
theorem dd_md_teach_63 : decode prog_9_method_27_code 63 = .ok (.iconst 0, 1) := by decide +kernel
theorem dd_md_teach_64 : decode prog_9_method_27_code 64 = .ok (.istore 4, 2) := by decide +kernel
theorem dd_md_teach_66 : decode prog_9_method_27_code 66 = .ok (.aload_n 0, 1) := by decide +kernel
theorem dd_md_teach_67 : decode prog_9_method_27_code 67 = .ok (.bipush 6, 2) := by decide +kernel
theorem dd_md_teach_69 : decode prog_9_method_27_code 69 = .ok (.iload_n 1, 1) := by decide +kernel
theorem dd_md_teach_70 : decode prog_9_method_27_code 70 = .ok (.iload_n 2, 1) := by decide +kernel
theorem dd_md_teach_71 : decode prog_9_method_27_code 71 = .ok (.iload_n 3, 1) := by decide +kernel
theorem dd_md_teach_72 : decode prog_9_method_27_code 72 = .ok (.iconst 0, 1) := by decide +kernel
theorem dd_md_teach_73 : decode prog_9_method_27_code 73 = .ok (.iconst 0, 1) := by decide +kernel
theorem dd_md_teach_74 : decode prog_9_method_27_code 74 = .ok (.iconst 0, 1) := by decide +kernel
theorem dd_md_teach_75 : decode prog_9_method_27_code 75 = .ok (.iconst (-1), 1) := by decide +kernel
theorem dd_md_teach_76 : decode prog_9_method_27_code 76 = .ok (.iconst (-1), 1) := by decide +kernel
theorem dd_md_teach_77 : decode prog_9_method_27_code 77 = .ok (.invokevirtual 113, 3) := by decide +kernel
theorem dd_md_teach_80 : decode prog_9_method_27_code 80 = .ok (.iload 4, 2) := by decide +kernel
theorem dd_md_teach_82 : decode prog_9_method_27_code 82 = .ok (.ireturn, 1) := by decide +kernel
theorem dd_md_pool_0 : decode prog_9_method_28_code 0 = .ok (.aload_n 0, 1) := by decide +kernel
theorem dd_md_pool_1 : decode prog_9_method_28_code 1 = .ok (.iconst 0, 1) := by decide +kernel
theorem dd_md_pool_2 : decode prog_9_method_28_code 2 = .ok (.putfield 80, 3) := by decide +kernel
theorem dd_md_pool_5 : decode prog_9_method_28_code 5 = .ok (.aload_n 0, 1) := by decide +kernel
theorem dd_md_pool_6 : decode prog_9_method_28_code 6 = .ok (.getfield 99, 3) := by decide +kernel
theorem dd_md_pool_9 : decode prog_9_method_28_code 9 = .ok (.ireturn, 1) := by decide +kernel
theorem dd_md_letter_0 : decode prog_9_method_29_code 0 = .ok (.aload_n 0, 1) := by decide +kernel
theorem dd_md_letter_1 : decode prog_9_method_29_code 1 = .ok (.iload_n 1, 1) := by decide +kernel
theorem dd_md_letter_2 : decode prog_9_method_29_code 2 = .ok (.aload_n 0, 1) := by decide +kernel
theorem dd_md_letter_3 : decode prog_9_method_29_code 3 = .ok (.getfield 99, 3) := by decide +kernel
theorem dd_md_letter_6 : decode prog_9_method_29_code 6 = .ok (.invokestatic 84, 3) := by decide +kernel
theorem dd_md_letter_9 : decode prog_9_method_29_code 9 = .ok (.ifCond .eq 12, 3) := by decide +kernel
theorem dd_md_letter_12 : decode prog_9_method_29_code 12 = .ok (.iload_n 2, 1) := by decide +kernel
theorem dd_md_letter_13 : decode prog_9_method_29_code 13 = .ok (.bipush 10, 2) := by decide +kernel
theorem dd_md_letter_15 : decode prog_9_method_29_code 15 = .ok (.invokestatic 84, 3) := by decide +kernel
theorem dd_md_letter_18 : decode prog_9_method_29_code 18 = .ok (.ifCond .ne 7, 3) := by decide +kernel
theorem dd_md_letter_21 : decode prog_9_method_29_code 21 = .ok (.iconst 1, 1) := by decide +kernel
theorem dd_md_letter_22 : decode prog_9_method_29_code 22 = .ok (.goto 4, 3) := by decide +kernel
theorem dd_md_letter_25 : decode prog_9_method_29_code 25 = .ok (.iconst 0, 1) := by decide +kernel
theorem dd_md_letter_26 : decode prog_9_method_29_code 26 = .ok (.iconst 1, 1) := by decide +kernel
theorem dd_md_letter_27 : decode prog_9_method_29_code 27 = .ok (.invokevirtual 92, 3) := by decide +kernel
theorem dd_md_letter_30 : decode prog_9_method_29_code 30 = .ok (.ifCond .eq 5, 3) := by decide +kernel
theorem dd_md_letter_33 : decode prog_9_method_29_code 33 = .ok (.iconst 0, 1) := by decide +kernel
theorem dd_md_letter_34 : decode prog_9_method_29_code 34 = .ok (.ireturn, 1) := by decide +kernel
theorem dd_md_letter_35 : decode prog_9_method_29_code 35 = .ok (.aload_n 0, 1) := by decide +kernel
theorem dd_md_letter_36 : decode prog_9_method_29_code 36 = .ok (.getfield 74, 3) := by decide +kernel
theorem dd_md_letter_39 : decode prog_9_method_29_code 39 = .ok (.bipush 34, 2) := by decide +kernel
theorem dd_md_letter_41 : decode prog_9_method_29_code 41 = .ok (.iload_n 1, 1) := by decide +kernel
theorem dd_md_letter_42 : decode prog_9_method_29_code 42 = .ok (.imul, 1) := by decide +kernel
theorem dd_md_letter_43 : decode prog_9_method_29_code 43 = .ok (.iload_n 2, 1) := by decide +kernel
theorem dd_md_letter_44 : decode prog_9_method_29_code 44 = .ok (.iadd, 1) := by decide +kernel
theorem dd_md_letter_45 : decode prog_9_method_29_code 45 = .ok (.iaload, 1) := by decide +kernel
theorem dd_md_letter_46 : decode prog_9_method_29_code 46 = .ok (.ireturn, 1) := by decide +kernel
theorem dd_md_state_0 : decode prog_9_method_30_code 0 = .ok (.aload_n 0, 1) := by decide +kernel
theorem dd_md_state_1 : decode prog_9_method_30_code 1 = .ok (.iload_n 1, 1) := by decide +kernel
theorem dd_md_state_2 : decode prog_9_method_30_code 2 = .ok (.invokestatic 117, 3) := by decide +kernel
theorem dd_md_state_5 : decode prog_9_method_30_code 5 = .ok (.ifCond .eq 10, 3) := by decide +kernel
theorem dd_md_state_8 : decode prog_9_method_30_code 8 = .ok (.iload_n 2, 1) := by decide +kernel
theorem dd_md_state_9 : decode prog_9_method_30_code 9 = .ok (.invokestatic 88, 3) := by decide +kernel
theorem dd_md_state_12 : decode prog_9_method_30_code 12 = .ok (.ifCond .ne 7, 3) := by decide +kernel
theorem dd_md_state_15 : decode prog_9_method_30_code 15 = .ok (.iconst 1, 1) := by decide +kernel
theorem dd_md_state_16 : decode prog_9_method_30_code 16 = .ok (.goto 4, 3) := by decide +kernel
theorem dd_md_state_19 : decode prog_9_method_30_code 19 = .ok (.iconst 0, 1) := by decide +kernel
theorem dd_md_state_20 : decode prog_9_method_30_code 20 = .ok (.iconst 1, 1) := by decide +kernel
theorem dd_md_state_21 : decode prog_9_method_30_code 21 = .ok (.invokevirtual 92, 3) := by decide +kernel
theorem dd_md_state_24 : decode prog_9_method_30_code 24 = .ok (.ifCond .eq 5, 3) := by decide +kernel
theorem dd_md_state_27 : decode prog_9_method_30_code 27 = .ok (.iconst 0, 1) := by decide +kernel
theorem dd_md_state_28 : decode prog_9_method_30_code 28 = .ok (.ireturn, 1) := by decide +kernel
theorem dd_md_state_29 : decode prog_9_method_30_code 29 = .ok (.iload_n 1, 1) := by decide +kernel
theorem dd_md_state_30 : decode prog_9_method_30_code 30 = .ok (.iload_n 2, 1) := by decide +kernel
theorem dd_md_state_31 : decode prog_9_method_30_code 31 = .ok (.invokestatic 105, 3) := by decide +kernel
theorem dd_md_state_34 : decode prog_9_method_30_code 34 = .ok (.istore_n 3, 1) := by decide +kernel
theorem dd_md_state_35 : decode prog_9_method_30_code 35 = .ok (.aload_n 0, 1) := by decide +kernel
theorem dd_md_state_36 : decode prog_9_method_30_code 36 = .ok (.getfield 44, 3) := by decide +kernel
theorem dd_md_state_39 : decode prog_9_method_30_code 39 = .ok (.iload_n 3, 1) := by decide +kernel
theorem dd_md_state_40 : decode prog_9_method_30_code 40 = .ok (.iaload, 1) := by decide +kernel
theorem dd_md_state_41 : decode prog_9_method_30_code 41 = .ok (.ifCond .le 5, 3) := by decide +kernel
theorem dd_md_state_44 : decode prog_9_method_30_code 44 = .ok (.iconst 1, 1) := by decide +kernel
theorem dd_md_state_45 : decode prog_9_method_30_code 45 = .ok (.ireturn, 1) := by decide +kernel
theorem dd_md_state_46 : decode prog_9_method_30_code 46 = .ok (.aload_n 0, 1) := by decide +kernel
theorem dd_md_state_47 : decode prog_9_method_30_code 47 = .ok (.getfield 20, 3) := by decide +kernel
theorem dd_md_state_50 : decode prog_9_method_30_code 50 = .ok (.iload_n 3, 1) := by decide +kernel
theorem dd_md_state_51 : decode prog_9_method_30_code 51 = .ok (.iaload, 1) := by decide +kernel
theorem dd_md_state_52 : decode prog_9_method_30_code 52 = .ok (.ifCond .ne 7, 3) := by decide +kernel
theorem dd_md_state_55 : decode prog_9_method_30_code 55 = .ok (.iconst 0, 1) := by decide +kernel
theorem dd_md_state_56 : decode prog_9_method_30_code 56 = .ok (.goto 30, 3) := by decide +kernel
theorem dd_md_state_59 : decode prog_9_method_30_code 59 = .ok (.aload_n 0, 1) := by decide +kernel
theorem dd_md_state_60 : decode prog_9_method_30_code 60 = .ok (.getfield 38, 3) := by decide +kernel
theorem dd_md_state_63 : decode prog_9_method_30_code 63 = .ok (.bipush 12, 2) := by decide +kernel
theorem dd_md_state_65 : decode prog_9_method_30_code 65 = .ok (.iload_n 3, 1) := by decide +kernel
theorem dd_md_state_66 : decode prog_9_method_30_code 66 = .ok (.imul, 1) := by decide +kernel
theorem dd_md_state_67 : decode prog_9_method_30_code 67 = .ok (.aload_n 0, 1) := by decide +kernel
theorem dd_md_state_68 : decode prog_9_method_30_code 68 = .ok (.getfield 20, 3) := by decide +kernel
theorem dd_md_state_71 : decode prog_9_method_30_code 71 = .ok (.iload_n 3, 1) := by decide +kernel
theorem dd_md_state_72 : decode prog_9_method_30_code 72 = .ok (.iaload, 1) := by decide +kernel
theorem dd_md_state_73 : decode prog_9_method_30_code 73 = .ok (.iadd, 1) := by decide +kernel
theorem dd_md_state_74 : decode prog_9_method_30_code 74 = .ok (.iconst 1, 1) := by decide +kernel
theorem dd_md_state_75 : decode prog_9_method_30_code 75 = .ok (.isub, 1) := by decide +kernel
theorem dd_md_state_76 : decode prog_9_method_30_code 76 = .ok (.iaload, 1) := by decide +kernel
theorem dd_md_state_77 : decode prog_9_method_30_code 77 = .ok (.iload_n 1, 1) := by decide +kernel
theorem dd_md_state_78 : decode prog_9_method_30_code 78 = .ok (.if_icmp .ne 7, 3) := by decide +kernel
theorem dd_md_state_81 : decode prog_9_method_30_code 81 = .ok (.iconst 2, 1) := by decide +kernel
theorem dd_md_state_82 : decode prog_9_method_30_code 82 = .ok (.goto 4, 3) := by decide +kernel
theorem dd_md_state_85 : decode prog_9_method_30_code 85 = .ok (.iconst 3, 1) := by decide +kernel
theorem dd_md_state_86 : decode prog_9_method_30_code 86 = .ok (.ireturn, 1) := by decide +kernel
theorem dd_md_granted_0 : decode prog_9_method_31_code 0 = .ok (.aload_n 0, 1) := by decide +kernel
theorem dd_md_granted_1 : decode prog_9_method_31_code 1 = .ok (.iload_n 1, 1) := by decide +kernel
theorem dd_md_granted_2 : decode prog_9_method_31_code 2 = .ok (.invokestatic 117, 3) := by decide +kernel
theorem dd_md_granted_5 : decode prog_9_method_31_code 5 = .ok (.ifCond .eq 21, 3) := by decide +kernel
theorem dd_md_granted_8 : decode prog_9_method_31_code 8 = .ok (.iload_n 2, 1) := by decide +kernel
theorem dd_md_granted_9 : decode prog_9_method_31_code 9 = .ok (.invokestatic 88, 3) := by decide +kernel
theorem dd_md_granted_12 : decode prog_9_method_31_code 12 = .ok (.ifCond .eq 14, 3) := by decide +kernel
theorem dd_md_granted_15 : decode prog_9_method_31_code 15 = .ok (.iload_n 3, 1) := by decide +kernel
theorem dd_md_granted_16 : decode prog_9_method_31_code 16 = .ok (.iconst 1, 1) := by decide +kernel
theorem dd_md_granted_17 : decode prog_9_method_31_code 17 = .ok (.isub, 1) := by decide +kernel
theorem dd_md_granted_18 : decode prog_9_method_31_code 18 = .ok (.bipush 12, 2) := by decide +kernel
theorem dd_md_granted_20 : decode prog_9_method_31_code 20 = .ok (.invokestatic 84, 3) := by decide +kernel
theorem dd_md_granted_23 : decode prog_9_method_31_code 23 = .ok (.ifCond .ne 7, 3) := by decide +kernel
theorem dd_md_granted_26 : decode prog_9_method_31_code 26 = .ok (.iconst 1, 1) := by decide +kernel
theorem dd_md_granted_27 : decode prog_9_method_31_code 27 = .ok (.goto 4, 3) := by decide +kernel
theorem dd_md_granted_30 : decode prog_9_method_31_code 30 = .ok (.iconst 0, 1) := by decide +kernel
theorem dd_md_granted_31 : decode prog_9_method_31_code 31 = .ok (.iconst 1, 1) := by decide +kernel
theorem dd_md_granted_32 : decode prog_9_method_31_code 32 = .ok (.invokevirtual 92, 3) := by decide +kernel
theorem dd_md_granted_35 : decode prog_9_method_31_code 35 = .ok (.ifCond .eq 5, 3) := by decide +kernel
theorem dd_md_granted_38 : decode prog_9_method_31_code 38 = .ok (.iconst 0, 1) := by decide +kernel
theorem dd_md_granted_39 : decode prog_9_method_31_code 39 = .ok (.ireturn, 1) := by decide +kernel
theorem dd_md_granted_40 : decode prog_9_method_31_code 40 = .ok (.iload_n 1, 1) := by decide +kernel
theorem dd_md_granted_41 : decode prog_9_method_31_code 41 = .ok (.iload_n 2, 1) := by decide +kernel
theorem dd_md_granted_42 : decode prog_9_method_31_code 42 = .ok (.invokestatic 105, 3) := by decide +kernel
theorem dd_md_granted_45 : decode prog_9_method_31_code 45 = .ok (.istore 5, 2) := by decide +kernel
theorem dd_md_granted_47 : decode prog_9_method_31_code 47 = .ok (.iload_n 3, 1) := by decide +kernel
theorem dd_md_granted_48 : decode prog_9_method_31_code 48 = .ok (.aload_n 0, 1) := by decide +kernel
theorem dd_md_granted_49 : decode prog_9_method_31_code 49 = .ok (.getfield 20, 3) := by decide +kernel
theorem dd_md_granted_52 : decode prog_9_method_31_code 52 = .ok (.iload 5, 2) := by decide +kernel
theorem dd_md_granted_54 : decode prog_9_method_31_code 54 = .ok (.iaload, 1) := by decide +kernel
theorem dd_md_granted_55 : decode prog_9_method_31_code 55 = .ok (.if_icmp .le 7, 3) := by decide +kernel
theorem dd_md_granted_58 : decode prog_9_method_31_code 58 = .ok (.iconst (-1), 1) := by decide +kernel
theorem dd_md_granted_59 : decode prog_9_method_31_code 59 = .ok (.goto 39, 3) := by decide +kernel
theorem dd_md_granted_62 : decode prog_9_method_31_code 62 = .ok (.iload 4, 2) := by decide +kernel
theorem dd_md_granted_64 : decode prog_9_method_31_code 64 = .ok (.ifCond .eq 20, 3) := by decide +kernel
theorem dd_md_granted_67 : decode prog_9_method_31_code 67 = .ok (.aload_n 0, 1) := by decide +kernel
theorem dd_md_granted_68 : decode prog_9_method_31_code 68 = .ok (.getfield 41, 3) := by decide +kernel
theorem dd_md_granted_71 : decode prog_9_method_31_code 71 = .ok (.bipush 12, 2) := by decide +kernel
theorem dd_md_granted_73 : decode prog_9_method_31_code 73 = .ok (.iload 5, 2) := by decide +kernel
theorem dd_md_granted_75 : decode prog_9_method_31_code 75 = .ok (.imul, 1) := by decide +kernel
theorem dd_md_granted_76 : decode prog_9_method_31_code 76 = .ok (.iload_n 3, 1) := by decide +kernel
theorem dd_md_granted_77 : decode prog_9_method_31_code 77 = .ok (.iadd, 1) := by decide +kernel
theorem dd_md_granted_78 : decode prog_9_method_31_code 78 = .ok (.iconst 1, 1) := by decide +kernel
theorem dd_md_granted_79 : decode prog_9_method_31_code 79 = .ok (.isub, 1) := by decide +kernel
theorem dd_md_granted_80 : decode prog_9_method_31_code 80 = .ok (.iaload, 1) := by decide +kernel
theorem dd_md_granted_81 : decode prog_9_method_31_code 81 = .ok (.goto 17, 3) := by decide +kernel
theorem dd_md_granted_84 : decode prog_9_method_31_code 84 = .ok (.aload_n 0, 1) := by decide +kernel
theorem dd_md_granted_85 : decode prog_9_method_31_code 85 = .ok (.getfield 38, 3) := by decide +kernel
theorem dd_md_granted_88 : decode prog_9_method_31_code 88 = .ok (.bipush 12, 2) := by decide +kernel
theorem dd_md_granted_90 : decode prog_9_method_31_code 90 = .ok (.iload 5, 2) := by decide +kernel
theorem dd_md_granted_92 : decode prog_9_method_31_code 92 = .ok (.imul, 1) := by decide +kernel
theorem dd_md_granted_93 : decode prog_9_method_31_code 93 = .ok (.iload_n 3, 1) := by decide +kernel
theorem dd_md_granted_94 : decode prog_9_method_31_code 94 = .ok (.iadd, 1) := by decide +kernel
theorem dd_md_granted_95 : decode prog_9_method_31_code 95 = .ok (.iconst 1, 1) := by decide +kernel
theorem dd_md_granted_96 : decode prog_9_method_31_code 96 = .ok (.isub, 1) := by decide +kernel
theorem dd_md_granted_97 : decode prog_9_method_31_code 97 = .ok (.iaload, 1) := by decide +kernel
theorem dd_md_granted_98 : decode prog_9_method_31_code 98 = .ok (.ireturn, 1) := by decide +kernel
theorem dd_md_kept_0 : decode prog_9_method_32_code 0 = .ok (.aload_n 0, 1) := by decide +kernel
theorem dd_md_kept_1 : decode prog_9_method_32_code 1 = .ok (.iload_n 1, 1) := by decide +kernel
theorem dd_md_kept_2 : decode prog_9_method_32_code 2 = .ok (.invokestatic 117, 3) := by decide +kernel
theorem dd_md_kept_5 : decode prog_9_method_32_code 5 = .ok (.ifCond .eq 19, 3) := by decide +kernel
theorem dd_md_kept_8 : decode prog_9_method_32_code 8 = .ok (.iload_n 2, 1) := by decide +kernel
theorem dd_md_kept_9 : decode prog_9_method_32_code 9 = .ok (.invokestatic 88, 3) := by decide +kernel
theorem dd_md_kept_12 : decode prog_9_method_32_code 12 = .ok (.ifCond .eq 12, 3) := by decide +kernel
theorem dd_md_kept_15 : decode prog_9_method_32_code 15 = .ok (.iload_n 3, 1) := by decide +kernel
theorem dd_md_kept_16 : decode prog_9_method_32_code 16 = .ok (.bipush 9, 2) := by decide +kernel
theorem dd_md_kept_18 : decode prog_9_method_32_code 18 = .ok (.invokestatic 84, 3) := by decide +kernel
theorem dd_md_kept_21 : decode prog_9_method_32_code 21 = .ok (.ifCond .ne 7, 3) := by decide +kernel
theorem dd_md_kept_24 : decode prog_9_method_32_code 24 = .ok (.iconst 1, 1) := by decide +kernel
theorem dd_md_kept_25 : decode prog_9_method_32_code 25 = .ok (.goto 4, 3) := by decide +kernel
theorem dd_md_kept_28 : decode prog_9_method_32_code 28 = .ok (.iconst 0, 1) := by decide +kernel
theorem dd_md_kept_29 : decode prog_9_method_32_code 29 = .ok (.iconst 1, 1) := by decide +kernel
theorem dd_md_kept_30 : decode prog_9_method_32_code 30 = .ok (.invokevirtual 92, 3) := by decide +kernel
theorem dd_md_kept_33 : decode prog_9_method_32_code 33 = .ok (.ifCond .eq 5, 3) := by decide +kernel
theorem dd_md_kept_36 : decode prog_9_method_32_code 36 = .ok (.iconst 0, 1) := by decide +kernel
theorem dd_md_kept_37 : decode prog_9_method_32_code 37 = .ok (.ireturn, 1) := by decide +kernel
theorem dd_md_kept_38 : decode prog_9_method_32_code 38 = .ok (.iload_n 1, 1) := by decide +kernel
theorem dd_md_kept_39 : decode prog_9_method_32_code 39 = .ok (.iload_n 2, 1) := by decide +kernel
theorem dd_md_kept_40 : decode prog_9_method_32_code 40 = .ok (.invokestatic 105, 3) := by decide +kernel
theorem dd_md_kept_43 : decode prog_9_method_32_code 43 = .ok (.istore 4, 2) := by decide +kernel
theorem dd_md_kept_45 : decode prog_9_method_32_code 45 = .ok (.iconst 0, 1) := by decide +kernel
theorem dd_md_kept_46 : decode prog_9_method_32_code 46 = .ok (.istore 5, 2) := by decide +kernel
theorem dd_md_kept_48 : decode prog_9_method_32_code 48 = .ok (.iconst 0, 1) := by decide +kernel
theorem dd_md_kept_49 : decode prog_9_method_32_code 49 = .ok (.istore 6, 2) := by decide +kernel
theorem dd_md_kept_51 : decode prog_9_method_32_code 51 = .ok (.iload 6, 2) := by decide +kernel
theorem dd_md_kept_53 : decode prog_9_method_32_code 53 = .ok (.bipush 25, 2) := by decide +kernel
theorem dd_md_kept_55 : decode prog_9_method_32_code 55 = .ok (.if_icmp .ge 26, 3) := by decide +kernel
theorem dd_md_kept_58 : decode prog_9_method_32_code 58 = .ok (.iload 5, 2) := by decide +kernel
theorem dd_md_kept_60 : decode prog_9_method_32_code 60 = .ok (.aload_n 0, 1) := by decide +kernel
theorem dd_md_kept_61 : decode prog_9_method_32_code 61 = .ok (.getfield 59, 3) := by decide +kernel
theorem dd_md_kept_64 : decode prog_9_method_32_code 64 = .ok (.iload 4, 2) := by decide +kernel
theorem dd_md_kept_66 : decode prog_9_method_32_code 66 = .ok (.iaload, 1) := by decide +kernel
theorem dd_md_kept_67 : decode prog_9_method_32_code 67 = .ok (.iload 6, 2) := by decide +kernel
theorem dd_md_kept_69 : decode prog_9_method_32_code 69 = .ok (.ishr, 1) := by decide +kernel
theorem dd_md_kept_70 : decode prog_9_method_32_code 70 = .ok (.iconst 1, 1) := by decide +kernel
theorem dd_md_kept_71 : decode prog_9_method_32_code 71 = .ok (.iand, 1) := by decide +kernel
theorem dd_md_kept_72 : decode prog_9_method_32_code 72 = .ok (.iadd, 1) := by decide +kernel
theorem dd_md_kept_73 : decode prog_9_method_32_code 73 = .ok (.istore 5, 2) := by decide +kernel
theorem dd_md_kept_75 : decode prog_9_method_32_code 75 = .ok (.iinc 6 1, 3) := by decide +kernel
theorem dd_md_kept_78 : decode prog_9_method_32_code 78 = .ok (.goto (-27), 3) := by decide +kernel
theorem dd_md_kept_81 : decode prog_9_method_32_code 81 = .ok (.iload_n 3, 1) := by decide +kernel
theorem dd_md_kept_82 : decode prog_9_method_32_code 82 = .ok (.tableswitch 138 0 7 #[46, 54, 62, 84, 106, 114, 122, 130], 46) := by decide +kernel
theorem dd_md_kept_128 : decode prog_9_method_32_code 128 = .ok (.aload_n 0, 1) := by decide +kernel
theorem dd_md_kept_129 : decode prog_9_method_32_code 129 = .ok (.getfield 23, 3) := by decide +kernel
theorem dd_md_kept_132 : decode prog_9_method_32_code 132 = .ok (.iload 4, 2) := by decide +kernel
theorem dd_md_kept_134 : decode prog_9_method_32_code 134 = .ok (.iaload, 1) := by decide +kernel
theorem dd_md_kept_135 : decode prog_9_method_32_code 135 = .ok (.ireturn, 1) := by decide +kernel
theorem dd_md_kept_136 : decode prog_9_method_32_code 136 = .ok (.aload_n 0, 1) := by decide +kernel
theorem dd_md_kept_137 : decode prog_9_method_32_code 137 = .ok (.getfield 26, 3) := by decide +kernel
theorem dd_md_kept_140 : decode prog_9_method_32_code 140 = .ok (.iload 4, 2) := by decide +kernel
theorem dd_md_kept_142 : decode prog_9_method_32_code 142 = .ok (.iaload, 1) := by decide +kernel
theorem dd_md_kept_143 : decode prog_9_method_32_code 143 = .ok (.ireturn, 1) := by decide +kernel
theorem dd_md_kept_144 : decode prog_9_method_32_code 144 = .ok (.aload_n 0, 1) := by decide +kernel
theorem dd_md_kept_145 : decode prog_9_method_32_code 145 = .ok (.getfield 26, 3) := by decide +kernel
theorem dd_md_kept_148 : decode prog_9_method_32_code 148 = .ok (.iload 4, 2) := by decide +kernel
theorem dd_md_kept_150 : decode prog_9_method_32_code 150 = .ok (.iaload, 1) := by decide +kernel
theorem dd_md_kept_151 : decode prog_9_method_32_code 151 = .ok (.ifCond .le 13, 3) := by decide +kernel
theorem dd_md_kept_154 : decode prog_9_method_32_code 154 = .ok (.aload_n 0, 1) := by decide +kernel
theorem dd_md_kept_155 : decode prog_9_method_32_code 155 = .ok (.getfield 29, 3) := by decide +kernel
theorem dd_md_kept_158 : decode prog_9_method_32_code 158 = .ok (.iload 4, 2) := by decide +kernel
theorem dd_md_kept_160 : decode prog_9_method_32_code 160 = .ok (.iaload, 1) := by decide +kernel
theorem dd_md_kept_161 : decode prog_9_method_32_code 161 = .ok (.goto 4, 3) := by decide +kernel
theorem dd_md_kept_164 : decode prog_9_method_32_code 164 = .ok (.iconst (-1), 1) := by decide +kernel
theorem dd_md_kept_165 : decode prog_9_method_32_code 165 = .ok (.ireturn, 1) := by decide +kernel
theorem dd_md_kept_166 : decode prog_9_method_32_code 166 = .ok (.aload_n 0, 1) := by decide +kernel
theorem dd_md_kept_167 : decode prog_9_method_32_code 167 = .ok (.getfield 26, 3) := by decide +kernel
theorem dd_md_kept_170 : decode prog_9_method_32_code 170 = .ok (.iload 4, 2) := by decide +kernel
theorem dd_md_kept_172 : decode prog_9_method_32_code 172 = .ok (.iaload, 1) := by decide +kernel
theorem dd_md_kept_173 : decode prog_9_method_32_code 173 = .ok (.ifCond .le 13, 3) := by decide +kernel
theorem dd_md_kept_176 : decode prog_9_method_32_code 176 = .ok (.aload_n 0, 1) := by decide +kernel
theorem dd_md_kept_177 : decode prog_9_method_32_code 177 = .ok (.getfield 32, 3) := by decide +kernel
theorem dd_md_kept_180 : decode prog_9_method_32_code 180 = .ok (.iload 4, 2) := by decide +kernel
theorem dd_md_kept_182 : decode prog_9_method_32_code 182 = .ok (.iaload, 1) := by decide +kernel
theorem dd_md_kept_183 : decode prog_9_method_32_code 183 = .ok (.goto 4, 3) := by decide +kernel
theorem dd_md_kept_186 : decode prog_9_method_32_code 186 = .ok (.iconst (-1), 1) := by decide +kernel
theorem dd_md_kept_187 : decode prog_9_method_32_code 187 = .ok (.ireturn, 1) := by decide +kernel
theorem dd_md_kept_188 : decode prog_9_method_32_code 188 = .ok (.aload_n 0, 1) := by decide +kernel
theorem dd_md_kept_189 : decode prog_9_method_32_code 189 = .ok (.getfield 35, 3) := by decide +kernel
theorem dd_md_kept_192 : decode prog_9_method_32_code 192 = .ok (.iload 4, 2) := by decide +kernel
theorem dd_md_kept_194 : decode prog_9_method_32_code 194 = .ok (.iaload, 1) := by decide +kernel
theorem dd_md_kept_195 : decode prog_9_method_32_code 195 = .ok (.ireturn, 1) := by decide +kernel
theorem dd_md_kept_196 : decode prog_9_method_32_code 196 = .ok (.aload_n 0, 1) := by decide +kernel
theorem dd_md_kept_197 : decode prog_9_method_32_code 197 = .ok (.getfield 20, 3) := by decide +kernel
theorem dd_md_kept_200 : decode prog_9_method_32_code 200 = .ok (.iload 4, 2) := by decide +kernel
theorem dd_md_kept_202 : decode prog_9_method_32_code 202 = .ok (.iaload, 1) := by decide +kernel
theorem dd_md_kept_203 : decode prog_9_method_32_code 203 = .ok (.ireturn, 1) := by decide +kernel
theorem dd_md_kept_204 : decode prog_9_method_32_code 204 = .ok (.aload_n 0, 1) := by decide +kernel
theorem dd_md_kept_205 : decode prog_9_method_32_code 205 = .ok (.getfield 53, 3) := by decide +kernel
theorem dd_md_kept_208 : decode prog_9_method_32_code 208 = .ok (.iload 4, 2) := by decide +kernel
theorem dd_md_kept_210 : decode prog_9_method_32_code 210 = .ok (.iaload, 1) := by decide +kernel
theorem dd_md_kept_211 : decode prog_9_method_32_code 211 = .ok (.ireturn, 1) := by decide +kernel
theorem dd_md_kept_212 : decode prog_9_method_32_code 212 = .ok (.aload_n 0, 1) := by decide +kernel
theorem dd_md_kept_213 : decode prog_9_method_32_code 213 = .ok (.getfield 56, 3) := by decide +kernel
theorem dd_md_kept_216 : decode prog_9_method_32_code 216 = .ok (.iload 4, 2) := by decide +kernel
theorem dd_md_kept_218 : decode prog_9_method_32_code 218 = .ok (.iaload, 1) := by decide +kernel
theorem dd_md_kept_219 : decode prog_9_method_32_code 219 = .ok (.ireturn, 1) := by decide +kernel
theorem dd_md_kept_220 : decode prog_9_method_32_code 220 = .ok (.iload 5, 2) := by decide +kernel
theorem dd_md_kept_222 : decode prog_9_method_32_code 222 = .ok (.ireturn, 1) := by decide +kernel
theorem dd_md_live_0 : decode prog_9_method_33_code 0 = .ok (.aload_n 0, 1) := by decide +kernel
theorem dd_md_live_1 : decode prog_9_method_33_code 1 = .ok (.iconst 0, 1) := by decide +kernel
theorem dd_md_live_2 : decode prog_9_method_33_code 2 = .ok (.putfield 80, 3) := by decide +kernel
theorem dd_md_live_5 : decode prog_9_method_33_code 5 = .ok (.iconst 0, 1) := by decide +kernel
theorem dd_md_live_6 : decode prog_9_method_33_code 6 = .ok (.istore_n 1, 1) := by decide +kernel
theorem dd_md_live_7 : decode prog_9_method_33_code 7 = .ok (.iconst 0, 1) := by decide +kernel
theorem dd_md_live_8 : decode prog_9_method_33_code 8 = .ok (.istore_n 2, 1) := by decide +kernel
theorem dd_md_live_9 : decode prog_9_method_33_code 9 = .ok (.iload_n 2, 1) := by decide +kernel
theorem dd_md_live_10 : decode prog_9_method_33_code 10 = .ok (.bipush 25, 2) := by decide +kernel
theorem dd_md_live_12 : decode prog_9_method_33_code 12 = .ok (.if_icmp .ge 28, 3) := by decide +kernel
theorem dd_md_live_15 : decode prog_9_method_33_code 15 = .ok (.iload_n 1, 1) := by decide +kernel
theorem dd_md_live_16 : decode prog_9_method_33_code 16 = .ok (.aload_n 0, 1) := by decide +kernel
theorem dd_md_live_17 : decode prog_9_method_33_code 17 = .ok (.getfield 16, 3) := by decide +kernel
theorem dd_md_live_20 : decode prog_9_method_33_code 20 = .ok (.iload_n 2, 1) := by decide +kernel
theorem dd_md_live_21 : decode prog_9_method_33_code 21 = .ok (.baload, 1) := by decide +kernel
theorem dd_md_live_22 : decode prog_9_method_33_code 22 = .ok (.ifCond .eq 7, 3) := by decide +kernel
theorem dd_md_live_25 : decode prog_9_method_33_code 25 = .ok (.iconst 0, 1) := by decide +kernel
theorem dd_md_live_26 : decode prog_9_method_33_code 26 = .ok (.goto 6, 3) := by decide +kernel
theorem dd_md_live_29 : decode prog_9_method_33_code 29 = .ok (.iconst 1, 1) := by decide +kernel
theorem dd_md_live_30 : decode prog_9_method_33_code 30 = .ok (.iload_n 2, 1) := by decide +kernel
theorem dd_md_live_31 : decode prog_9_method_33_code 31 = .ok (.ishl, 1) := by decide +kernel
theorem dd_md_live_32 : decode prog_9_method_33_code 32 = .ok (.ior, 1) := by decide +kernel
theorem dd_md_live_33 : decode prog_9_method_33_code 33 = .ok (.istore_n 1, 1) := by decide +kernel
theorem dd_md_live_34 : decode prog_9_method_33_code 34 = .ok (.iinc 2 1, 3) := by decide +kernel
theorem dd_md_live_37 : decode prog_9_method_33_code 37 = .ok (.goto (-28), 3) := by decide +kernel
theorem dd_md_live_40 : decode prog_9_method_33_code 40 = .ok (.aload_n 0, 1) := by decide +kernel
theorem dd_md_live_41 : decode prog_9_method_33_code 41 = .ok (.iload_n 1, 1) := by decide +kernel
theorem dd_md_live_42 : decode prog_9_method_33_code 42 = .ok (.invokevirtual 138, 3) := by decide +kernel
theorem dd_md_live_45 : decode prog_9_method_33_code 45 = .ok (.ifCond .eq 7, 3) := by decide +kernel
theorem dd_md_live_48 : decode prog_9_method_33_code 48 = .ok (.iconst 1, 1) := by decide +kernel
theorem dd_md_live_49 : decode prog_9_method_33_code 49 = .ok (.goto 4, 3) := by decide +kernel
theorem dd_md_live_52 : decode prog_9_method_33_code 52 = .ok (.iconst 0, 1) := by decide +kernel
theorem dd_md_live_53 : decode prog_9_method_33_code 53 = .ok (.aload_n 0, 1) := by decide +kernel
theorem dd_md_live_54 : decode prog_9_method_33_code 54 = .ok (.iload_n 1, 1) := by decide +kernel
theorem dd_md_live_55 : decode prog_9_method_33_code 55 = .ok (.invokevirtual 135, 3) := by decide +kernel
theorem dd_md_live_58 : decode prog_9_method_33_code 58 = .ok (.ifCond .eq 7, 3) := by decide +kernel
theorem dd_md_live_61 : decode prog_9_method_33_code 61 = .ok (.iconst 2, 1) := by decide +kernel
theorem dd_md_live_62 : decode prog_9_method_33_code 62 = .ok (.goto 4, 3) := by decide +kernel
theorem dd_md_live_65 : decode prog_9_method_33_code 65 = .ok (.iconst 0, 1) := by decide +kernel
theorem dd_md_live_66 : decode prog_9_method_33_code 66 = .ok (.iadd, 1) := by decide +kernel
theorem dd_md_live_67 : decode prog_9_method_33_code 67 = .ok (.ireturn, 1) := by decide +kernel
theorem dd_md_total_0 : decode prog_9_method_34_code 0 = .ok (.aload_n 0, 1) := by decide +kernel
theorem dd_md_total_1 : decode prog_9_method_34_code 1 = .ok (.iload_n 1, 1) := by decide +kernel
theorem dd_md_total_2 : decode prog_9_method_34_code 2 = .ok (.iconst 3, 1) := by decide +kernel
theorem dd_md_total_3 : decode prog_9_method_34_code 3 = .ok (.invokestatic 84, 3) := by decide +kernel
theorem dd_md_total_6 : decode prog_9_method_34_code 6 = .ok (.ifCond .ne 7, 3) := by decide +kernel
theorem dd_md_total_9 : decode prog_9_method_34_code 9 = .ok (.iconst 1, 1) := by decide +kernel
theorem dd_md_total_10 : decode prog_9_method_34_code 10 = .ok (.goto 4, 3) := by decide +kernel
theorem dd_md_total_13 : decode prog_9_method_34_code 13 = .ok (.iconst 0, 1) := by decide +kernel
theorem dd_md_total_14 : decode prog_9_method_34_code 14 = .ok (.iconst 1, 1) := by decide +kernel
theorem dd_md_total_15 : decode prog_9_method_34_code 15 = .ok (.invokevirtual 92, 3) := by decide +kernel
theorem dd_md_total_18 : decode prog_9_method_34_code 18 = .ok (.ifCond .eq 5, 3) := by decide +kernel
theorem dd_md_total_21 : decode prog_9_method_34_code 21 = .ok (.iconst 0, 1) := by decide +kernel
theorem dd_md_total_22 : decode prog_9_method_34_code 22 = .ok (.ireturn, 1) := by decide +kernel
theorem dd_md_total_23 : decode prog_9_method_34_code 23 = .ok (.iload_n 1, 1) := by decide +kernel
theorem dd_md_total_24 : decode prog_9_method_34_code 24 = .ok (.ifCond .ne 10, 3) := by decide +kernel
theorem dd_md_total_27 : decode prog_9_method_34_code 27 = .ok (.aload_n 0, 1) := by decide +kernel
theorem dd_md_total_28 : decode prog_9_method_34_code 28 = .ok (.getfield 102, 3) := by decide +kernel
theorem dd_md_total_31 : decode prog_9_method_34_code 31 = .ok (.goto 19, 3) := by decide +kernel
theorem dd_md_total_34 : decode prog_9_method_34_code 34 = .ok (.iload_n 1, 1) := by decide +kernel
theorem dd_md_total_35 : decode prog_9_method_34_code 35 = .ok (.iconst 1, 1) := by decide +kernel
theorem dd_md_total_36 : decode prog_9_method_34_code 36 = .ok (.if_icmp .ne 10, 3) := by decide +kernel
theorem dd_md_total_39 : decode prog_9_method_34_code 39 = .ok (.aload_n 0, 1) := by decide +kernel
theorem dd_md_total_40 : decode prog_9_method_34_code 40 = .ok (.getfield 144, 3) := by decide +kernel
theorem dd_md_total_43 : decode prog_9_method_34_code 43 = .ok (.goto 7, 3) := by decide +kernel
theorem dd_md_total_46 : decode prog_9_method_34_code 46 = .ok (.aload_n 0, 1) := by decide +kernel
theorem dd_md_total_47 : decode prog_9_method_34_code 47 = .ok (.getfield 96, 3) := by decide +kernel
theorem dd_md_total_50 : decode prog_9_method_34_code 50 = .ok (.ireturn, 1) := by decide +kernel
end
section
/-! DECODE rows (printed by gen/parts.py). -/
theorem dd_la_register_0 : decode method_3_code 0 = .ok (.aload_n 0, 1) := by decide +kernel
theorem dd_la_register_1 : decode method_3_code 1 = .ok (.iload_n 1, 1) := by decide +kernel
theorem dd_la_register_2 : decode method_3_code 2 = .ok (.iload_n 2, 1) := by decide +kernel
theorem dd_la_register_3 : decode method_3_code 3 = .ok (.iload_n 3, 1) := by decide +kernel
theorem dd_la_register_4 : decode method_3_code 4 = .ok (.invokevirtual 7, 3) := by decide +kernel
theorem dd_la_register_7 : decode method_3_code 7 = .ok (.goto 11, 3) := by decide +kernel
theorem dd_la_register_10 : decode method_3_code 10 = .ok (.astore 4, 2) := by decide +kernel
theorem dd_la_register_12 : decode method_3_code 12 = .ok (.iconst 1, 1) := by decide +kernel
theorem dd_la_register_13 : decode method_3_code 13 = .ok (.ireturn, 1) := by decide +kernel
theorem dd_la_register_14 : decode method_3_code 14 = .ok (.astore 4, 2) := by decide +kernel
theorem dd_la_register_16 : decode method_3_code 16 = .ok (.iconst 2, 1) := by decide +kernel
theorem dd_la_register_17 : decode method_3_code 17 = .ok (.ireturn, 1) := by decide +kernel
theorem dd_la_register_18 : decode method_3_code 18 = .ok (.iconst 0, 1) := by decide +kernel
theorem dd_la_register_19 : decode method_3_code 19 = .ok (.ireturn, 1) := by decide +kernel
theorem dd_la_ask_0 : decode method_4_code 0 = .ok (.aload 4, 2) := by decide +kernel
theorem dd_la_ask_2 : decode method_4_code 2 = .ok (.iconst 0, 1) := by decide +kernel
theorem dd_la_ask_3 : decode method_4_code 3 = .ok (.aload_n 0, 1) := by decide +kernel
theorem dd_la_ask_4 : decode method_4_code 4 = .ok (.iload_n 1, 1) := by decide +kernel
theorem dd_la_ask_5 : decode method_4_code 5 = .ok (.iload_n 2, 1) := by decide +kernel
theorem dd_la_ask_6 : decode method_4_code 6 = .ok (.iload_n 3, 1) := by decide +kernel
theorem dd_la_ask_7 : decode method_4_code 7 = .ok (.invokevirtual 17, 3) := by decide +kernel
theorem dd_la_ask_10 : decode method_4_code 10 = .ok (.i2l, 1) := by decide +kernel
theorem dd_la_ask_11 : decode method_4_code 11 = .ok (.lastore, 1) := by decide +kernel
theorem dd_la_ask_12 : decode method_4_code 12 = .ok (.goto 11, 3) := by decide +kernel
theorem dd_la_ask_15 : decode method_4_code 15 = .ok (.astore 5, 2) := by decide +kernel
theorem dd_la_ask_17 : decode method_4_code 17 = .ok (.iconst 1, 1) := by decide +kernel
theorem dd_la_ask_18 : decode method_4_code 18 = .ok (.ireturn, 1) := by decide +kernel
theorem dd_la_ask_19 : decode method_4_code 19 = .ok (.astore 5, 2) := by decide +kernel
theorem dd_la_ask_21 : decode method_4_code 21 = .ok (.iconst 2, 1) := by decide +kernel
theorem dd_la_ask_22 : decode method_4_code 22 = .ok (.ireturn, 1) := by decide +kernel
theorem dd_la_ask_23 : decode method_4_code 23 = .ok (.iconst 0, 1) := by decide +kernel
theorem dd_la_ask_24 : decode method_4_code 24 = .ok (.ireturn, 1) := by decide +kernel
theorem dd_la_retry_0 : decode method_5_code 0 = .ok (.aload_n 3, 1) := by decide +kernel
theorem dd_la_retry_1 : decode method_5_code 1 = .ok (.iconst 0, 1) := by decide +kernel
theorem dd_la_retry_2 : decode method_5_code 2 = .ok (.aload_n 0, 1) := by decide +kernel
theorem dd_la_retry_3 : decode method_5_code 3 = .ok (.iload_n 1, 1) := by decide +kernel
theorem dd_la_retry_4 : decode method_5_code 4 = .ok (.iload_n 2, 1) := by decide +kernel
theorem dd_la_retry_5 : decode method_5_code 5 = .ok (.invokevirtual 21, 3) := by decide +kernel
theorem dd_la_retry_8 : decode method_5_code 8 = .ok (.i2l, 1) := by decide +kernel
theorem dd_la_retry_9 : decode method_5_code 9 = .ok (.lastore, 1) := by decide +kernel
theorem dd_la_retry_10 : decode method_5_code 10 = .ok (.goto 11, 3) := by decide +kernel
theorem dd_la_retry_13 : decode method_5_code 13 = .ok (.astore 4, 2) := by decide +kernel
theorem dd_la_retry_15 : decode method_5_code 15 = .ok (.iconst 1, 1) := by decide +kernel
theorem dd_la_retry_16 : decode method_5_code 16 = .ok (.ireturn, 1) := by decide +kernel
theorem dd_la_retry_17 : decode method_5_code 17 = .ok (.astore 4, 2) := by decide +kernel
theorem dd_la_retry_19 : decode method_5_code 19 = .ok (.iconst 2, 1) := by decide +kernel
theorem dd_la_retry_20 : decode method_5_code 20 = .ok (.ireturn, 1) := by decide +kernel
theorem dd_la_retry_21 : decode method_5_code 21 = .ok (.iconst 0, 1) := by decide +kernel
theorem dd_la_retry_22 : decode method_5_code 22 = .ok (.ireturn, 1) := by decide +kernel
theorem dd_la_deliver_0 : decode method_6_code 0 = .ok (.aload_n 2, 1) := by decide +kernel
theorem dd_la_deliver_1 : decode method_6_code 1 = .ok (.iconst 0, 1) := by decide +kernel
theorem dd_la_deliver_2 : decode method_6_code 2 = .ok (.aload_n 0, 1) := by decide +kernel
theorem dd_la_deliver_3 : decode method_6_code 3 = .ok (.iload_n 1, 1) := by decide +kernel
theorem dd_la_deliver_4 : decode method_6_code 4 = .ok (.invokevirtual 25, 3) := by decide +kernel
theorem dd_la_deliver_7 : decode method_6_code 7 = .ok (.i2l, 1) := by decide +kernel
theorem dd_la_deliver_8 : decode method_6_code 8 = .ok (.lastore, 1) := by decide +kernel
theorem dd_la_deliver_9 : decode method_6_code 9 = .ok (.goto 6, 3) := by decide +kernel
theorem dd_la_deliver_12 : decode method_6_code 12 = .ok (.astore_n 3, 1) := by decide +kernel
theorem dd_la_deliver_13 : decode method_6_code 13 = .ok (.iconst 1, 1) := by decide +kernel
theorem dd_la_deliver_14 : decode method_6_code 14 = .ok (.ireturn, 1) := by decide +kernel
theorem dd_la_deliver_15 : decode method_6_code 15 = .ok (.iconst 0, 1) := by decide +kernel
theorem dd_la_deliver_16 : decode method_6_code 16 = .ok (.ireturn, 1) := by decide +kernel
theorem dd_la_drop_0 : decode method_7_code 0 = .ok (.aload_n 2, 1) := by decide +kernel
theorem dd_la_drop_1 : decode method_7_code 1 = .ok (.iconst 0, 1) := by decide +kernel
theorem dd_la_drop_2 : decode method_7_code 2 = .ok (.aload_n 0, 1) := by decide +kernel
theorem dd_la_drop_3 : decode method_7_code 3 = .ok (.iload_n 1, 1) := by decide +kernel
theorem dd_la_drop_4 : decode method_7_code 4 = .ok (.invokevirtual 29, 3) := by decide +kernel
theorem dd_la_drop_7 : decode method_7_code 7 = .ok (.i2l, 1) := by decide +kernel
theorem dd_la_drop_8 : decode method_7_code 8 = .ok (.lastore, 1) := by decide +kernel
theorem dd_la_drop_9 : decode method_7_code 9 = .ok (.goto 6, 3) := by decide +kernel
theorem dd_la_drop_12 : decode method_7_code 12 = .ok (.astore_n 3, 1) := by decide +kernel
theorem dd_la_drop_13 : decode method_7_code 13 = .ok (.iconst 1, 1) := by decide +kernel
theorem dd_la_drop_14 : decode method_7_code 14 = .ok (.ireturn, 1) := by decide +kernel
theorem dd_la_drop_15 : decode method_7_code 15 = .ok (.iconst 0, 1) := by decide +kernel
theorem dd_la_drop_16 : decode method_7_code 16 = .ok (.ireturn, 1) := by decide +kernel
theorem dd_la_copy_0 : decode method_8_code 0 = .ok (.aload_n 2, 1) := by decide +kernel
theorem dd_la_copy_1 : decode method_8_code 1 = .ok (.iconst 0, 1) := by decide +kernel
theorem dd_la_copy_2 : decode method_8_code 2 = .ok (.aload_n 0, 1) := by decide +kernel
theorem dd_la_copy_3 : decode method_8_code 3 = .ok (.iload_n 1, 1) := by decide +kernel
theorem dd_la_copy_4 : decode method_8_code 4 = .ok (.invokevirtual 32, 3) := by decide +kernel
theorem dd_la_copy_7 : decode method_8_code 7 = .ok (.ifCond .eq 7, 3) := by decide +kernel
theorem dd_la_copy_10 : decode method_8_code 10 = .ok (.lconst 1, 1) := by decide +kernel
theorem dd_la_copy_11 : decode method_8_code 11 = .ok (.goto 4, 3) := by decide +kernel
theorem dd_la_copy_14 : decode method_8_code 14 = .ok (.lconst 0, 1) := by decide +kernel
theorem dd_la_copy_15 : decode method_8_code 15 = .ok (.lastore, 1) := by decide +kernel
theorem dd_la_copy_16 : decode method_8_code 16 = .ok (.goto 6, 3) := by decide +kernel
theorem dd_la_copy_19 : decode method_8_code 19 = .ok (.astore_n 3, 1) := by decide +kernel
theorem dd_la_copy_20 : decode method_8_code 20 = .ok (.iconst 1, 1) := by decide +kernel
theorem dd_la_copy_21 : decode method_8_code 21 = .ok (.ireturn, 1) := by decide +kernel
theorem dd_la_copy_22 : decode method_8_code 22 = .ok (.iconst 0, 1) := by decide +kernel
theorem dd_la_copy_23 : decode method_8_code 23 = .ok (.ireturn, 1) := by decide +kernel
theorem dd_la_deliverAll_0 : decode method_9_code 0 = .ok (.aload_n 2, 1) := by decide +kernel
theorem dd_la_deliverAll_1 : decode method_9_code 1 = .ok (.iconst 0, 1) := by decide +kernel
theorem dd_la_deliverAll_2 : decode method_9_code 2 = .ok (.aload_n 0, 1) := by decide +kernel
theorem dd_la_deliverAll_3 : decode method_9_code 3 = .ok (.iload_n 1, 1) := by decide +kernel
theorem dd_la_deliverAll_4 : decode method_9_code 4 = .ok (.invokevirtual 36, 3) := by decide +kernel
theorem dd_la_deliverAll_7 : decode method_9_code 7 = .ok (.i2l, 1) := by decide +kernel
theorem dd_la_deliverAll_8 : decode method_9_code 8 = .ok (.lastore, 1) := by decide +kernel
theorem dd_la_deliverAll_9 : decode method_9_code 9 = .ok (.goto 6, 3) := by decide +kernel
theorem dd_la_deliverAll_12 : decode method_9_code 12 = .ok (.astore_n 3, 1) := by decide +kernel
theorem dd_la_deliverAll_13 : decode method_9_code 13 = .ok (.iconst 1, 1) := by decide +kernel
theorem dd_la_deliverAll_14 : decode method_9_code 14 = .ok (.ireturn, 1) := by decide +kernel
theorem dd_la_deliverAll_15 : decode method_9_code 15 = .ok (.iconst 0, 1) := by decide +kernel
theorem dd_la_deliverAll_16 : decode method_9_code 16 = .ok (.ireturn, 1) := by decide +kernel
theorem dd_la_up_0 : decode method_10_code 0 = .ok (.aload_n 3, 1) := by decide +kernel
theorem dd_la_up_1 : decode method_10_code 1 = .ok (.iconst 0, 1) := by decide +kernel
theorem dd_la_up_2 : decode method_10_code 2 = .ok (.aload_n 0, 1) := by decide +kernel
theorem dd_la_up_3 : decode method_10_code 3 = .ok (.iload_n 1, 1) := by decide +kernel
theorem dd_la_up_4 : decode method_10_code 4 = .ok (.iload_n 2, 1) := by decide +kernel
theorem dd_la_up_5 : decode method_10_code 5 = .ok (.invokevirtual 39, 3) := by decide +kernel
theorem dd_la_up_8 : decode method_10_code 8 = .ok (.ifCond .eq 7, 3) := by decide +kernel
theorem dd_la_up_11 : decode method_10_code 11 = .ok (.lconst 1, 1) := by decide +kernel
theorem dd_la_up_12 : decode method_10_code 12 = .ok (.goto 4, 3) := by decide +kernel
theorem dd_la_up_15 : decode method_10_code 15 = .ok (.lconst 0, 1) := by decide +kernel
theorem dd_la_up_16 : decode method_10_code 16 = .ok (.lastore, 1) := by decide +kernel
theorem dd_la_up_17 : decode method_10_code 17 = .ok (.goto 7, 3) := by decide +kernel
theorem dd_la_up_20 : decode method_10_code 20 = .ok (.astore 4, 2) := by decide +kernel
theorem dd_la_up_22 : decode method_10_code 22 = .ok (.iconst 1, 1) := by decide +kernel
theorem dd_la_up_23 : decode method_10_code 23 = .ok (.ireturn, 1) := by decide +kernel
theorem dd_la_up_24 : decode method_10_code 24 = .ok (.iconst 0, 1) := by decide +kernel
theorem dd_la_up_25 : decode method_10_code 25 = .ok (.ireturn, 1) := by decide +kernel
theorem dd_la_teach_0 : decode method_11_code 0 = .ok (.aload 4, 2) := by decide +kernel
theorem dd_la_teach_2 : decode method_11_code 2 = .ok (.iconst 0, 1) := by decide +kernel
theorem dd_la_teach_3 : decode method_11_code 3 = .ok (.aload_n 0, 1) := by decide +kernel
theorem dd_la_teach_4 : decode method_11_code 4 = .ok (.iload_n 1, 1) := by decide +kernel
theorem dd_la_teach_5 : decode method_11_code 5 = .ok (.iload_n 2, 1) := by decide +kernel
theorem dd_la_teach_6 : decode method_11_code 6 = .ok (.iload_n 3, 1) := by decide +kernel
theorem dd_la_teach_7 : decode method_11_code 7 = .ok (.invokevirtual 43, 3) := by decide +kernel
theorem dd_la_teach_10 : decode method_11_code 10 = .ok (.ifCond .eq 7, 3) := by decide +kernel
theorem dd_la_teach_13 : decode method_11_code 13 = .ok (.lconst 1, 1) := by decide +kernel
theorem dd_la_teach_14 : decode method_11_code 14 = .ok (.goto 4, 3) := by decide +kernel
theorem dd_la_teach_17 : decode method_11_code 17 = .ok (.lconst 0, 1) := by decide +kernel
theorem dd_la_teach_18 : decode method_11_code 18 = .ok (.lastore, 1) := by decide +kernel
theorem dd_la_teach_19 : decode method_11_code 19 = .ok (.goto 11, 3) := by decide +kernel
theorem dd_la_teach_22 : decode method_11_code 22 = .ok (.astore 5, 2) := by decide +kernel
theorem dd_la_teach_24 : decode method_11_code 24 = .ok (.iconst 1, 1) := by decide +kernel
theorem dd_la_teach_25 : decode method_11_code 25 = .ok (.ireturn, 1) := by decide +kernel
theorem dd_la_teach_26 : decode method_11_code 26 = .ok (.astore 5, 2) := by decide +kernel
theorem dd_la_teach_28 : decode method_11_code 28 = .ok (.iconst 2, 1) := by decide +kernel
theorem dd_la_teach_29 : decode method_11_code 29 = .ok (.ireturn, 1) := by decide +kernel
theorem dd_la_teach_30 : decode method_11_code 30 = .ok (.iconst 0, 1) := by decide +kernel
theorem dd_la_teach_31 : decode method_11_code 31 = .ok (.ireturn, 1) := by decide +kernel
theorem dd_la_letter_0 : decode method_12_code 0 = .ok (.aload_n 3, 1) := by decide +kernel
theorem dd_la_letter_1 : decode method_12_code 1 = .ok (.iconst 0, 1) := by decide +kernel
theorem dd_la_letter_2 : decode method_12_code 2 = .ok (.aload_n 0, 1) := by decide +kernel
theorem dd_la_letter_3 : decode method_12_code 3 = .ok (.iload_n 1, 1) := by decide +kernel
theorem dd_la_letter_4 : decode method_12_code 4 = .ok (.iload_n 2, 1) := by decide +kernel
theorem dd_la_letter_5 : decode method_12_code 5 = .ok (.invokevirtual 47, 3) := by decide +kernel
theorem dd_la_letter_8 : decode method_12_code 8 = .ok (.i2l, 1) := by decide +kernel
theorem dd_la_letter_9 : decode method_12_code 9 = .ok (.lastore, 1) := by decide +kernel
theorem dd_la_letter_10 : decode method_12_code 10 = .ok (.goto 7, 3) := by decide +kernel
theorem dd_la_letter_13 : decode method_12_code 13 = .ok (.astore 4, 2) := by decide +kernel
theorem dd_la_letter_15 : decode method_12_code 15 = .ok (.iconst 1, 1) := by decide +kernel
theorem dd_la_letter_16 : decode method_12_code 16 = .ok (.ireturn, 1) := by decide +kernel
theorem dd_la_letter_17 : decode method_12_code 17 = .ok (.iconst 0, 1) := by decide +kernel
theorem dd_la_letter_18 : decode method_12_code 18 = .ok (.ireturn, 1) := by decide +kernel
theorem dd_la_state_0 : decode method_13_code 0 = .ok (.aload_n 3, 1) := by decide +kernel
theorem dd_la_state_1 : decode method_13_code 1 = .ok (.iconst 0, 1) := by decide +kernel
theorem dd_la_state_2 : decode method_13_code 2 = .ok (.aload_n 0, 1) := by decide +kernel
theorem dd_la_state_3 : decode method_13_code 3 = .ok (.iload_n 1, 1) := by decide +kernel
theorem dd_la_state_4 : decode method_13_code 4 = .ok (.iload_n 2, 1) := by decide +kernel
theorem dd_la_state_5 : decode method_13_code 5 = .ok (.invokevirtual 50, 3) := by decide +kernel
theorem dd_la_state_8 : decode method_13_code 8 = .ok (.i2l, 1) := by decide +kernel
theorem dd_la_state_9 : decode method_13_code 9 = .ok (.lastore, 1) := by decide +kernel
theorem dd_la_state_10 : decode method_13_code 10 = .ok (.goto 7, 3) := by decide +kernel
theorem dd_la_state_13 : decode method_13_code 13 = .ok (.astore 4, 2) := by decide +kernel
theorem dd_la_state_15 : decode method_13_code 15 = .ok (.iconst 1, 1) := by decide +kernel
theorem dd_la_state_16 : decode method_13_code 16 = .ok (.ireturn, 1) := by decide +kernel
theorem dd_la_state_17 : decode method_13_code 17 = .ok (.iconst 0, 1) := by decide +kernel
theorem dd_la_state_18 : decode method_13_code 18 = .ok (.ireturn, 1) := by decide +kernel
theorem dd_la_granted_0 : decode method_14_code 0 = .ok (.aload 5, 2) := by decide +kernel
theorem dd_la_granted_2 : decode method_14_code 2 = .ok (.iconst 0, 1) := by decide +kernel
theorem dd_la_granted_3 : decode method_14_code 3 = .ok (.aload_n 0, 1) := by decide +kernel
theorem dd_la_granted_4 : decode method_14_code 4 = .ok (.iload_n 1, 1) := by decide +kernel
theorem dd_la_granted_5 : decode method_14_code 5 = .ok (.iload_n 2, 1) := by decide +kernel
theorem dd_la_granted_6 : decode method_14_code 6 = .ok (.iload_n 3, 1) := by decide +kernel
theorem dd_la_granted_7 : decode method_14_code 7 = .ok (.iload 4, 2) := by decide +kernel
theorem dd_la_granted_9 : decode method_14_code 9 = .ok (.invokevirtual 53, 3) := by decide +kernel
theorem dd_la_granted_12 : decode method_14_code 12 = .ok (.i2l, 1) := by decide +kernel
theorem dd_la_granted_13 : decode method_14_code 13 = .ok (.lastore, 1) := by decide +kernel
theorem dd_la_granted_14 : decode method_14_code 14 = .ok (.goto 7, 3) := by decide +kernel
theorem dd_la_granted_17 : decode method_14_code 17 = .ok (.astore 6, 2) := by decide +kernel
theorem dd_la_granted_19 : decode method_14_code 19 = .ok (.iconst 1, 1) := by decide +kernel
theorem dd_la_granted_20 : decode method_14_code 20 = .ok (.ireturn, 1) := by decide +kernel
theorem dd_la_granted_21 : decode method_14_code 21 = .ok (.iconst 0, 1) := by decide +kernel
theorem dd_la_granted_22 : decode method_14_code 22 = .ok (.ireturn, 1) := by decide +kernel
theorem dd_la_kept_0 : decode method_15_code 0 = .ok (.aload 4, 2) := by decide +kernel
theorem dd_la_kept_2 : decode method_15_code 2 = .ok (.iconst 0, 1) := by decide +kernel
theorem dd_la_kept_3 : decode method_15_code 3 = .ok (.aload_n 0, 1) := by decide +kernel
theorem dd_la_kept_4 : decode method_15_code 4 = .ok (.iload_n 1, 1) := by decide +kernel
theorem dd_la_kept_5 : decode method_15_code 5 = .ok (.iload_n 2, 1) := by decide +kernel
theorem dd_la_kept_6 : decode method_15_code 6 = .ok (.iload_n 3, 1) := by decide +kernel
theorem dd_la_kept_7 : decode method_15_code 7 = .ok (.invokevirtual 57, 3) := by decide +kernel
theorem dd_la_kept_10 : decode method_15_code 10 = .ok (.i2l, 1) := by decide +kernel
theorem dd_la_kept_11 : decode method_15_code 11 = .ok (.lastore, 1) := by decide +kernel
theorem dd_la_kept_12 : decode method_15_code 12 = .ok (.goto 7, 3) := by decide +kernel
theorem dd_la_kept_15 : decode method_15_code 15 = .ok (.astore 5, 2) := by decide +kernel
theorem dd_la_kept_17 : decode method_15_code 17 = .ok (.iconst 1, 1) := by decide +kernel
theorem dd_la_kept_18 : decode method_15_code 18 = .ok (.ireturn, 1) := by decide +kernel
theorem dd_la_kept_19 : decode method_15_code 19 = .ok (.iconst 0, 1) := by decide +kernel
theorem dd_la_kept_20 : decode method_15_code 20 = .ok (.ireturn, 1) := by decide +kernel
theorem dd_la_total_0 : decode method_16_code 0 = .ok (.aload_n 2, 1) := by decide +kernel
theorem dd_la_total_1 : decode method_16_code 1 = .ok (.iconst 0, 1) := by decide +kernel
theorem dd_la_total_2 : decode method_16_code 2 = .ok (.aload_n 0, 1) := by decide +kernel
theorem dd_la_total_3 : decode method_16_code 3 = .ok (.iload_n 1, 1) := by decide +kernel
theorem dd_la_total_4 : decode method_16_code 4 = .ok (.invokevirtual 60, 3) := by decide +kernel
theorem dd_la_total_7 : decode method_16_code 7 = .ok (.i2l, 1) := by decide +kernel
theorem dd_la_total_8 : decode method_16_code 8 = .ok (.lastore, 1) := by decide +kernel
theorem dd_la_total_9 : decode method_16_code 9 = .ok (.goto 6, 3) := by decide +kernel
theorem dd_la_total_12 : decode method_16_code 12 = .ok (.astore_n 3, 1) := by decide +kernel
theorem dd_la_total_13 : decode method_16_code 13 = .ok (.iconst 1, 1) := by decide +kernel
theorem dd_la_total_14 : decode method_16_code 14 = .ok (.ireturn, 1) := by decide +kernel
theorem dd_la_total_15 : decode method_16_code 15 = .ok (.iconst 0, 1) := by decide +kernel
theorem dd_la_total_16 : decode method_16_code 16 = .ok (.ireturn, 1) := by decide +kernel
theorem dd_la_law_0 : decode code 0 = .ok (.new 8, 3) := by decide +kernel
theorem dd_la_law_3 : decode code 3 = .ok (.dup, 1) := by decide +kernel
theorem dd_la_law_4 : decode code 4 = .ok (.invokespecial 63, 3) := by decide +kernel
theorem dd_la_law_7 : decode code 7 = .ok (.astore_n 1, 1) := by decide +kernel
theorem dd_la_law_8 : decode code 8 = .ok (.new 64, 3) := by decide +kernel
theorem dd_la_law_11 : decode code 11 = .ok (.dup, 1) := by decide +kernel
theorem dd_la_law_12 : decode code 12 = .ok (.invokespecial 66, 3) := by decide +kernel
theorem dd_la_law_15 : decode code 15 = .ok (.astore_n 2, 1) := by decide +kernel
theorem dd_la_law_16 : decode code 16 = .ok (.iconst 1, 1) := by decide +kernel
theorem dd_la_law_17 : decode code 17 = .ok (.newarray .long, 2) := by decide +kernel
theorem dd_la_law_19 : decode code 19 = .ok (.astore_n 3, 1) := by decide +kernel
theorem dd_la_law_20 : decode code 20 = .ok (.iconst 0, 1) := by decide +kernel
theorem dd_la_law_21 : decode code 21 = .ok (.istore 4, 2) := by decide +kernel
theorem dd_la_law_23 : decode code 23 = .ok (.iload 4, 2) := by decide +kernel
theorem dd_la_law_25 : decode code 25 = .ok (.aload_n 0, 1) := by decide +kernel
theorem dd_la_law_26 : decode code 26 = .ok (.arraylength, 1) := by decide +kernel
theorem dd_la_law_27 : decode code 27 = .ok (.iconst 5, 1) := by decide +kernel
theorem dd_la_law_28 : decode code 28 = .ok (.isub, 1) := by decide +kernel
theorem dd_la_law_29 : decode code 29 = .ok (.if_icmp .gt 1116, 3) := by decide +kernel
theorem dd_la_law_32 : decode code 32 = .ok (.aload_n 0, 1) := by decide +kernel
theorem dd_la_law_33 : decode code 33 = .ok (.iload 4, 2) := by decide +kernel
theorem dd_la_law_35 : decode code 35 = .ok (.iaload, 1) := by decide +kernel
theorem dd_la_law_36 : decode code 36 = .ok (.bipush 15, 2) := by decide +kernel
theorem dd_la_law_38 : decode code 38 = .ok (.iand, 1) := by decide +kernel
theorem dd_la_law_39 : decode code 39 = .ok (.tableswitch 1100 0 15 #[77, 137, 217, 285, 341, 397, 460, 516, 607, 694, 707, 775, 843, 951, 1031, 1044], 77) := by decide +kernel
theorem dd_la_law_116 : decode code 116 = .ok (.aload_n 1, 1) := by decide +kernel
theorem dd_la_law_117 : decode code 117 = .ok (.aload_n 0, 1) := by decide +kernel
theorem dd_la_law_118 : decode code 118 = .ok (.iload 4, 2) := by decide +kernel
theorem dd_la_law_120 : decode code 120 = .ok (.iconst 1, 1) := by decide +kernel
theorem dd_la_law_121 : decode code 121 = .ok (.iadd, 1) := by decide +kernel
theorem dd_la_law_122 : decode code 122 = .ok (.iaload, 1) := by decide +kernel
theorem dd_la_law_123 : decode code 123 = .ok (.aload_n 0, 1) := by decide +kernel
theorem dd_la_law_124 : decode code 124 = .ok (.iload 4, 2) := by decide +kernel
theorem dd_la_law_126 : decode code 126 = .ok (.iconst 2, 1) := by decide +kernel
theorem dd_la_law_127 : decode code 127 = .ok (.iadd, 1) := by decide +kernel
theorem dd_la_law_128 : decode code 128 = .ok (.iaload, 1) := by decide +kernel
theorem dd_la_law_129 : decode code 129 = .ok (.aload_n 0, 1) := by decide +kernel
theorem dd_la_law_130 : decode code 130 = .ok (.iload 4, 2) := by decide +kernel
theorem dd_la_law_132 : decode code 132 = .ok (.iconst 3, 1) := by decide +kernel
theorem dd_la_law_133 : decode code 133 = .ok (.iadd, 1) := by decide +kernel
theorem dd_la_law_134 : decode code 134 = .ok (.iaload, 1) := by decide +kernel
theorem dd_la_law_135 : decode code 135 = .ok (.invokestatic 67, 3) := by decide +kernel
theorem dd_la_law_138 : decode code 138 = .ok (.istore 5, 2) := by decide +kernel
theorem dd_la_law_140 : decode code 140 = .ok (.aload_n 2, 1) := by decide +kernel
theorem dd_la_law_141 : decode code 141 = .ok (.aload_n 0, 1) := by decide +kernel
theorem dd_la_law_142 : decode code 142 = .ok (.iload 4, 2) := by decide +kernel
theorem dd_la_law_144 : decode code 144 = .ok (.iconst 1, 1) := by decide +kernel
theorem dd_la_law_145 : decode code 145 = .ok (.iadd, 1) := by decide +kernel
theorem dd_la_law_146 : decode code 146 = .ok (.iaload, 1) := by decide +kernel
theorem dd_la_law_147 : decode code 147 = .ok (.aload_n 0, 1) := by decide +kernel
theorem dd_la_law_148 : decode code 148 = .ok (.iload 4, 2) := by decide +kernel
theorem dd_la_law_150 : decode code 150 = .ok (.iconst 2, 1) := by decide +kernel
theorem dd_la_law_151 : decode code 151 = .ok (.iadd, 1) := by decide +kernel
theorem dd_la_law_152 : decode code 152 = .ok (.iaload, 1) := by decide +kernel
theorem dd_la_law_153 : decode code 153 = .ok (.aload_n 0, 1) := by decide +kernel
theorem dd_la_law_154 : decode code 154 = .ok (.iload 4, 2) := by decide +kernel
theorem dd_la_law_156 : decode code 156 = .ok (.iconst 3, 1) := by decide +kernel
theorem dd_la_law_157 : decode code 157 = .ok (.iadd, 1) := by decide +kernel
theorem dd_la_law_158 : decode code 158 = .ok (.iaload, 1) := by decide +kernel
theorem dd_la_law_159 : decode code 159 = .ok (.invokevirtual 72, 3) := by decide +kernel
theorem dd_la_law_162 : decode code 162 = .ok (.aload_n 2, 1) := by decide +kernel
theorem dd_la_law_163 : decode code 163 = .ok (.invokevirtual 73, 3) := by decide +kernel
theorem dd_la_law_166 : decode code 166 = .ok (.iload 5, 2) := by decide +kernel
theorem dd_la_law_168 : decode code 168 = .ok (.if_icmp .eq 5, 3) := by decide +kernel
theorem dd_la_law_171 : decode code 171 = .ok (.iconst 0, 1) := by decide +kernel
theorem dd_la_law_172 : decode code 172 = .ok (.ireturn, 1) := by decide +kernel
theorem dd_la_law_173 : decode code 173 = .ok (.goto 966, 3) := by decide +kernel
theorem dd_la_law_176 : decode code 176 = .ok (.aload_n 1, 1) := by decide +kernel
theorem dd_la_law_177 : decode code 177 = .ok (.aload_n 0, 1) := by decide +kernel
theorem dd_la_law_178 : decode code 178 = .ok (.iload 4, 2) := by decide +kernel
theorem dd_la_law_180 : decode code 180 = .ok (.iconst 1, 1) := by decide +kernel
theorem dd_la_law_181 : decode code 181 = .ok (.iadd, 1) := by decide +kernel
theorem dd_la_law_182 : decode code 182 = .ok (.iaload, 1) := by decide +kernel
theorem dd_la_law_183 : decode code 183 = .ok (.aload_n 0, 1) := by decide +kernel
theorem dd_la_law_184 : decode code 184 = .ok (.iload 4, 2) := by decide +kernel
theorem dd_la_law_186 : decode code 186 = .ok (.iconst 2, 1) := by decide +kernel
theorem dd_la_law_187 : decode code 187 = .ok (.iadd, 1) := by decide +kernel
theorem dd_la_law_188 : decode code 188 = .ok (.iaload, 1) := by decide +kernel
theorem dd_la_law_189 : decode code 189 = .ok (.aload_n 0, 1) := by decide +kernel
theorem dd_la_law_190 : decode code 190 = .ok (.iload 4, 2) := by decide +kernel
theorem dd_la_law_192 : decode code 192 = .ok (.iconst 3, 1) := by decide +kernel
theorem dd_la_law_193 : decode code 193 = .ok (.iadd, 1) := by decide +kernel
theorem dd_la_law_194 : decode code 194 = .ok (.iaload, 1) := by decide +kernel
theorem dd_la_law_195 : decode code 195 = .ok (.aload_n 3, 1) := by decide +kernel
theorem dd_la_law_196 : decode code 196 = .ok (.invokestatic 77, 3) := by decide +kernel
theorem dd_la_law_199 : decode code 199 = .ok (.istore 5, 2) := by decide +kernel
theorem dd_la_law_201 : decode code 201 = .ok (.aload_n 2, 1) := by decide +kernel
theorem dd_la_law_202 : decode code 202 = .ok (.aload_n 0, 1) := by decide +kernel
theorem dd_la_law_203 : decode code 203 = .ok (.iload 4, 2) := by decide +kernel
theorem dd_la_law_205 : decode code 205 = .ok (.iconst 1, 1) := by decide +kernel
theorem dd_la_law_206 : decode code 206 = .ok (.iadd, 1) := by decide +kernel
theorem dd_la_law_207 : decode code 207 = .ok (.iaload, 1) := by decide +kernel
theorem dd_la_law_208 : decode code 208 = .ok (.aload_n 0, 1) := by decide +kernel
theorem dd_la_law_209 : decode code 209 = .ok (.iload 4, 2) := by decide +kernel
theorem dd_la_law_211 : decode code 211 = .ok (.iconst 2, 1) := by decide +kernel
theorem dd_la_law_212 : decode code 212 = .ok (.iadd, 1) := by decide +kernel
theorem dd_la_law_213 : decode code 213 = .ok (.iaload, 1) := by decide +kernel
theorem dd_la_law_214 : decode code 214 = .ok (.aload_n 0, 1) := by decide +kernel
theorem dd_la_law_215 : decode code 215 = .ok (.iload 4, 2) := by decide +kernel
theorem dd_la_law_217 : decode code 217 = .ok (.iconst 3, 1) := by decide +kernel
theorem dd_la_law_218 : decode code 218 = .ok (.iadd, 1) := by decide +kernel
theorem dd_la_law_219 : decode code 219 = .ok (.iaload, 1) := by decide +kernel
theorem dd_la_law_220 : decode code 220 = .ok (.invokevirtual 80, 3) := by decide +kernel
theorem dd_la_law_223 : decode code 223 = .ok (.istore 6, 2) := by decide +kernel
theorem dd_la_law_225 : decode code 225 = .ok (.aload_n 2, 1) := by decide +kernel
theorem dd_la_law_226 : decode code 226 = .ok (.invokevirtual 73, 3) := by decide +kernel
theorem dd_la_law_229 : decode code 229 = .ok (.iload 5, 2) := by decide +kernel
theorem dd_la_law_231 : decode code 231 = .ok (.if_icmp .eq 5, 3) := by decide +kernel
theorem dd_la_law_234 : decode code 234 = .ok (.iconst 0, 1) := by decide +kernel
theorem dd_la_law_235 : decode code 235 = .ok (.ireturn, 1) := by decide +kernel
theorem dd_la_law_236 : decode code 236 = .ok (.iload 5, 2) := by decide +kernel
theorem dd_la_law_238 : decode code 238 = .ok (.ifCond .ne 15, 3) := by decide +kernel
theorem dd_la_law_241 : decode code 241 = .ok (.aload_n 3, 1) := by decide +kernel
theorem dd_la_law_242 : decode code 242 = .ok (.iconst 0, 1) := by decide +kernel
theorem dd_la_law_243 : decode code 243 = .ok (.laload, 1) := by decide +kernel
theorem dd_la_law_244 : decode code 244 = .ok (.iload 6, 2) := by decide +kernel
theorem dd_la_law_246 : decode code 246 = .ok (.i2l, 1) := by decide +kernel
theorem dd_la_law_247 : decode code 247 = .ok (.lcmp, 1) := by decide +kernel
theorem dd_la_law_248 : decode code 248 = .ok (.ifCond .eq 5, 3) := by decide +kernel
theorem dd_la_law_251 : decode code 251 = .ok (.iconst 0, 1) := by decide +kernel
theorem dd_la_law_252 : decode code 252 = .ok (.ireturn, 1) := by decide +kernel
theorem dd_la_law_253 : decode code 253 = .ok (.goto 886, 3) := by decide +kernel
theorem dd_la_law_256 : decode code 256 = .ok (.aload_n 1, 1) := by decide +kernel
theorem dd_la_law_257 : decode code 257 = .ok (.aload_n 0, 1) := by decide +kernel
theorem dd_la_law_258 : decode code 258 = .ok (.iload 4, 2) := by decide +kernel
theorem dd_la_law_260 : decode code 260 = .ok (.iconst 1, 1) := by decide +kernel
theorem dd_la_law_261 : decode code 261 = .ok (.iadd, 1) := by decide +kernel
theorem dd_la_law_262 : decode code 262 = .ok (.iaload, 1) := by decide +kernel
theorem dd_la_law_263 : decode code 263 = .ok (.aload_n 0, 1) := by decide +kernel
theorem dd_la_law_264 : decode code 264 = .ok (.iload 4, 2) := by decide +kernel
theorem dd_la_law_266 : decode code 266 = .ok (.iconst 2, 1) := by decide +kernel
theorem dd_la_law_267 : decode code 267 = .ok (.iadd, 1) := by decide +kernel
theorem dd_la_law_268 : decode code 268 = .ok (.iaload, 1) := by decide +kernel
theorem dd_la_law_269 : decode code 269 = .ok (.aload_n 3, 1) := by decide +kernel
theorem dd_la_law_270 : decode code 270 = .ok (.invokestatic 81, 3) := by decide +kernel
theorem dd_la_law_273 : decode code 273 = .ok (.istore 5, 2) := by decide +kernel
theorem dd_la_law_275 : decode code 275 = .ok (.aload_n 2, 1) := by decide +kernel
theorem dd_la_law_276 : decode code 276 = .ok (.aload_n 0, 1) := by decide +kernel
theorem dd_la_law_277 : decode code 277 = .ok (.iload 4, 2) := by decide +kernel
theorem dd_la_law_279 : decode code 279 = .ok (.iconst 1, 1) := by decide +kernel
theorem dd_la_law_280 : decode code 280 = .ok (.iadd, 1) := by decide +kernel
theorem dd_la_law_281 : decode code 281 = .ok (.iaload, 1) := by decide +kernel
theorem dd_la_law_282 : decode code 282 = .ok (.aload_n 0, 1) := by decide +kernel
theorem dd_la_law_283 : decode code 283 = .ok (.iload 4, 2) := by decide +kernel
theorem dd_la_law_285 : decode code 285 = .ok (.iconst 2, 1) := by decide +kernel
theorem dd_la_law_286 : decode code 286 = .ok (.iadd, 1) := by decide +kernel
theorem dd_la_law_287 : decode code 287 = .ok (.iaload, 1) := by decide +kernel
theorem dd_la_law_288 : decode code 288 = .ok (.invokevirtual 84, 3) := by decide +kernel
theorem dd_la_law_291 : decode code 291 = .ok (.istore 6, 2) := by decide +kernel
theorem dd_la_law_293 : decode code 293 = .ok (.aload_n 2, 1) := by decide +kernel
theorem dd_la_law_294 : decode code 294 = .ok (.invokevirtual 73, 3) := by decide +kernel
theorem dd_la_law_297 : decode code 297 = .ok (.iload 5, 2) := by decide +kernel
theorem dd_la_law_299 : decode code 299 = .ok (.if_icmp .eq 5, 3) := by decide +kernel
theorem dd_la_law_302 : decode code 302 = .ok (.iconst 0, 1) := by decide +kernel
theorem dd_la_law_303 : decode code 303 = .ok (.ireturn, 1) := by decide +kernel
theorem dd_la_law_304 : decode code 304 = .ok (.iload 5, 2) := by decide +kernel
theorem dd_la_law_306 : decode code 306 = .ok (.ifCond .ne 15, 3) := by decide +kernel
theorem dd_la_law_309 : decode code 309 = .ok (.aload_n 3, 1) := by decide +kernel
theorem dd_la_law_310 : decode code 310 = .ok (.iconst 0, 1) := by decide +kernel
theorem dd_la_law_311 : decode code 311 = .ok (.laload, 1) := by decide +kernel
theorem dd_la_law_312 : decode code 312 = .ok (.iload 6, 2) := by decide +kernel
theorem dd_la_law_314 : decode code 314 = .ok (.i2l, 1) := by decide +kernel
theorem dd_la_law_315 : decode code 315 = .ok (.lcmp, 1) := by decide +kernel
theorem dd_la_law_316 : decode code 316 = .ok (.ifCond .eq 5, 3) := by decide +kernel
theorem dd_la_law_319 : decode code 319 = .ok (.iconst 0, 1) := by decide +kernel
theorem dd_la_law_320 : decode code 320 = .ok (.ireturn, 1) := by decide +kernel
theorem dd_la_law_321 : decode code 321 = .ok (.goto 818, 3) := by decide +kernel
theorem dd_la_law_324 : decode code 324 = .ok (.aload_n 1, 1) := by decide +kernel
theorem dd_la_law_325 : decode code 325 = .ok (.aload_n 0, 1) := by decide +kernel
theorem dd_la_law_326 : decode code 326 = .ok (.iload 4, 2) := by decide +kernel
theorem dd_la_law_328 : decode code 328 = .ok (.iconst 1, 1) := by decide +kernel
theorem dd_la_law_329 : decode code 329 = .ok (.iadd, 1) := by decide +kernel
theorem dd_la_law_330 : decode code 330 = .ok (.iaload, 1) := by decide +kernel
theorem dd_la_law_331 : decode code 331 = .ok (.aload_n 3, 1) := by decide +kernel
theorem dd_la_law_332 : decode code 332 = .ok (.invokestatic 85, 3) := by decide +kernel
theorem dd_la_law_335 : decode code 335 = .ok (.istore 5, 2) := by decide +kernel
theorem dd_la_law_337 : decode code 337 = .ok (.aload_n 2, 1) := by decide +kernel
theorem dd_la_law_338 : decode code 338 = .ok (.aload_n 0, 1) := by decide +kernel
theorem dd_la_law_339 : decode code 339 = .ok (.iload 4, 2) := by decide +kernel
theorem dd_la_law_341 : decode code 341 = .ok (.iconst 1, 1) := by decide +kernel
theorem dd_la_law_342 : decode code 342 = .ok (.iadd, 1) := by decide +kernel
theorem dd_la_law_343 : decode code 343 = .ok (.iaload, 1) := by decide +kernel
theorem dd_la_law_344 : decode code 344 = .ok (.invokevirtual 88, 3) := by decide +kernel
theorem dd_la_law_347 : decode code 347 = .ok (.istore 6, 2) := by decide +kernel
theorem dd_la_law_349 : decode code 349 = .ok (.aload_n 2, 1) := by decide +kernel
theorem dd_la_law_350 : decode code 350 = .ok (.invokevirtual 73, 3) := by decide +kernel
theorem dd_la_law_353 : decode code 353 = .ok (.iload 5, 2) := by decide +kernel
theorem dd_la_law_355 : decode code 355 = .ok (.if_icmp .eq 5, 3) := by decide +kernel
theorem dd_la_law_358 : decode code 358 = .ok (.iconst 0, 1) := by decide +kernel
theorem dd_la_law_359 : decode code 359 = .ok (.ireturn, 1) := by decide +kernel
theorem dd_la_law_360 : decode code 360 = .ok (.iload 5, 2) := by decide +kernel
theorem dd_la_law_362 : decode code 362 = .ok (.ifCond .ne 15, 3) := by decide +kernel
theorem dd_la_law_365 : decode code 365 = .ok (.aload_n 3, 1) := by decide +kernel
theorem dd_la_law_366 : decode code 366 = .ok (.iconst 0, 1) := by decide +kernel
theorem dd_la_law_367 : decode code 367 = .ok (.laload, 1) := by decide +kernel
theorem dd_la_law_368 : decode code 368 = .ok (.iload 6, 2) := by decide +kernel
theorem dd_la_law_370 : decode code 370 = .ok (.i2l, 1) := by decide +kernel
theorem dd_la_law_371 : decode code 371 = .ok (.lcmp, 1) := by decide +kernel
theorem dd_la_law_372 : decode code 372 = .ok (.ifCond .eq 5, 3) := by decide +kernel
theorem dd_la_law_375 : decode code 375 = .ok (.iconst 0, 1) := by decide +kernel
theorem dd_la_law_376 : decode code 376 = .ok (.ireturn, 1) := by decide +kernel
theorem dd_la_law_377 : decode code 377 = .ok (.goto 762, 3) := by decide +kernel
theorem dd_la_law_380 : decode code 380 = .ok (.aload_n 1, 1) := by decide +kernel
theorem dd_la_law_381 : decode code 381 = .ok (.aload_n 0, 1) := by decide +kernel
theorem dd_la_law_382 : decode code 382 = .ok (.iload 4, 2) := by decide +kernel
theorem dd_la_law_384 : decode code 384 = .ok (.iconst 1, 1) := by decide +kernel
theorem dd_la_law_385 : decode code 385 = .ok (.iadd, 1) := by decide +kernel
theorem dd_la_law_386 : decode code 386 = .ok (.iaload, 1) := by decide +kernel
theorem dd_la_law_387 : decode code 387 = .ok (.aload_n 3, 1) := by decide +kernel
theorem dd_la_law_388 : decode code 388 = .ok (.invokestatic 89, 3) := by decide +kernel
theorem dd_la_law_391 : decode code 391 = .ok (.istore 5, 2) := by decide +kernel
theorem dd_la_law_393 : decode code 393 = .ok (.aload_n 2, 1) := by decide +kernel
theorem dd_la_law_394 : decode code 394 = .ok (.aload_n 0, 1) := by decide +kernel
theorem dd_la_law_395 : decode code 395 = .ok (.iload 4, 2) := by decide +kernel
theorem dd_la_law_397 : decode code 397 = .ok (.iconst 1, 1) := by decide +kernel
theorem dd_la_law_398 : decode code 398 = .ok (.iadd, 1) := by decide +kernel
theorem dd_la_law_399 : decode code 399 = .ok (.iaload, 1) := by decide +kernel
theorem dd_la_law_400 : decode code 400 = .ok (.invokevirtual 91, 3) := by decide +kernel
theorem dd_la_law_403 : decode code 403 = .ok (.istore 6, 2) := by decide +kernel
theorem dd_la_law_405 : decode code 405 = .ok (.aload_n 2, 1) := by decide +kernel
theorem dd_la_law_406 : decode code 406 = .ok (.invokevirtual 73, 3) := by decide +kernel
theorem dd_la_law_409 : decode code 409 = .ok (.iload 5, 2) := by decide +kernel
theorem dd_la_law_411 : decode code 411 = .ok (.if_icmp .eq 5, 3) := by decide +kernel
theorem dd_la_law_414 : decode code 414 = .ok (.iconst 0, 1) := by decide +kernel
theorem dd_la_law_415 : decode code 415 = .ok (.ireturn, 1) := by decide +kernel
theorem dd_la_law_416 : decode code 416 = .ok (.iload 5, 2) := by decide +kernel
theorem dd_la_law_418 : decode code 418 = .ok (.ifCond .ne 15, 3) := by decide +kernel
theorem dd_la_law_421 : decode code 421 = .ok (.aload_n 3, 1) := by decide +kernel
theorem dd_la_law_422 : decode code 422 = .ok (.iconst 0, 1) := by decide +kernel
theorem dd_la_law_423 : decode code 423 = .ok (.laload, 1) := by decide +kernel
theorem dd_la_law_424 : decode code 424 = .ok (.iload 6, 2) := by decide +kernel
theorem dd_la_law_426 : decode code 426 = .ok (.i2l, 1) := by decide +kernel
theorem dd_la_law_427 : decode code 427 = .ok (.lcmp, 1) := by decide +kernel
theorem dd_la_law_428 : decode code 428 = .ok (.ifCond .eq 5, 3) := by decide +kernel
theorem dd_la_law_431 : decode code 431 = .ok (.iconst 0, 1) := by decide +kernel
theorem dd_la_law_432 : decode code 432 = .ok (.ireturn, 1) := by decide +kernel
theorem dd_la_law_433 : decode code 433 = .ok (.goto 706, 3) := by decide +kernel
theorem dd_la_law_436 : decode code 436 = .ok (.aload_n 1, 1) := by decide +kernel
theorem dd_la_law_437 : decode code 437 = .ok (.aload_n 0, 1) := by decide +kernel
theorem dd_la_law_438 : decode code 438 = .ok (.iload 4, 2) := by decide +kernel
theorem dd_la_law_440 : decode code 440 = .ok (.iconst 1, 1) := by decide +kernel
theorem dd_la_law_441 : decode code 441 = .ok (.iadd, 1) := by decide +kernel
theorem dd_la_law_442 : decode code 442 = .ok (.iaload, 1) := by decide +kernel
theorem dd_la_law_443 : decode code 443 = .ok (.aload_n 3, 1) := by decide +kernel
theorem dd_la_law_444 : decode code 444 = .ok (.invokestatic 92, 3) := by decide +kernel
theorem dd_la_law_447 : decode code 447 = .ok (.istore 5, 2) := by decide +kernel
theorem dd_la_law_449 : decode code 449 = .ok (.aload_n 2, 1) := by decide +kernel
theorem dd_la_law_450 : decode code 450 = .ok (.aload_n 0, 1) := by decide +kernel
theorem dd_la_law_451 : decode code 451 = .ok (.iload 4, 2) := by decide +kernel
theorem dd_la_law_453 : decode code 453 = .ok (.iconst 1, 1) := by decide +kernel
theorem dd_la_law_454 : decode code 454 = .ok (.iadd, 1) := by decide +kernel
theorem dd_la_law_455 : decode code 455 = .ok (.iaload, 1) := by decide +kernel
theorem dd_la_law_456 : decode code 456 = .ok (.invokevirtual 94, 3) := by decide +kernel
theorem dd_la_law_459 : decode code 459 = .ok (.istore 6, 2) := by decide +kernel
theorem dd_la_law_461 : decode code 461 = .ok (.aload_n 2, 1) := by decide +kernel
theorem dd_la_law_462 : decode code 462 = .ok (.invokevirtual 73, 3) := by decide +kernel
theorem dd_la_law_465 : decode code 465 = .ok (.iload 5, 2) := by decide +kernel
theorem dd_la_law_467 : decode code 467 = .ok (.if_icmp .eq 5, 3) := by decide +kernel
theorem dd_la_law_470 : decode code 470 = .ok (.iconst 0, 1) := by decide +kernel
theorem dd_la_law_471 : decode code 471 = .ok (.ireturn, 1) := by decide +kernel
theorem dd_la_law_472 : decode code 472 = .ok (.iload 5, 2) := by decide +kernel
theorem dd_la_law_474 : decode code 474 = .ok (.ifCond .ne 22, 3) := by decide +kernel
theorem dd_la_law_477 : decode code 477 = .ok (.aload_n 3, 1) := by decide +kernel
theorem dd_la_law_478 : decode code 478 = .ok (.iconst 0, 1) := by decide +kernel
theorem dd_la_law_479 : decode code 479 = .ok (.laload, 1) := by decide +kernel
theorem dd_la_law_480 : decode code 480 = .ok (.iload 6, 2) := by decide +kernel
theorem dd_la_law_482 : decode code 482 = .ok (.ifCond .eq 7, 3) := by decide +kernel
theorem dd_la_law_485 : decode code 485 = .ok (.lconst 1, 1) := by decide +kernel
theorem dd_la_law_486 : decode code 486 = .ok (.goto 4, 3) := by decide +kernel
theorem dd_la_law_489 : decode code 489 = .ok (.lconst 0, 1) := by decide +kernel
theorem dd_la_law_490 : decode code 490 = .ok (.lcmp, 1) := by decide +kernel
theorem dd_la_law_491 : decode code 491 = .ok (.ifCond .eq 5, 3) := by decide +kernel
theorem dd_la_law_494 : decode code 494 = .ok (.iconst 0, 1) := by decide +kernel
theorem dd_la_law_495 : decode code 495 = .ok (.ireturn, 1) := by decide +kernel
theorem dd_la_law_496 : decode code 496 = .ok (.goto 643, 3) := by decide +kernel
theorem dd_la_law_499 : decode code 499 = .ok (.aload_n 1, 1) := by decide +kernel
theorem dd_la_law_500 : decode code 500 = .ok (.aload_n 0, 1) := by decide +kernel
theorem dd_la_law_501 : decode code 501 = .ok (.iload 4, 2) := by decide +kernel
theorem dd_la_law_503 : decode code 503 = .ok (.iconst 1, 1) := by decide +kernel
theorem dd_la_law_504 : decode code 504 = .ok (.iadd, 1) := by decide +kernel
theorem dd_la_law_505 : decode code 505 = .ok (.iaload, 1) := by decide +kernel
theorem dd_la_law_506 : decode code 506 = .ok (.aload_n 3, 1) := by decide +kernel
theorem dd_la_law_507 : decode code 507 = .ok (.invokestatic 95, 3) := by decide +kernel
theorem dd_la_law_510 : decode code 510 = .ok (.istore 5, 2) := by decide +kernel
theorem dd_la_law_512 : decode code 512 = .ok (.aload_n 2, 1) := by decide +kernel
theorem dd_la_law_513 : decode code 513 = .ok (.aload_n 0, 1) := by decide +kernel
theorem dd_la_law_514 : decode code 514 = .ok (.iload 4, 2) := by decide +kernel
theorem dd_la_law_516 : decode code 516 = .ok (.iconst 1, 1) := by decide +kernel
theorem dd_la_law_517 : decode code 517 = .ok (.iadd, 1) := by decide +kernel
theorem dd_la_law_518 : decode code 518 = .ok (.iaload, 1) := by decide +kernel
theorem dd_la_law_519 : decode code 519 = .ok (.invokevirtual 97, 3) := by decide +kernel
theorem dd_la_law_522 : decode code 522 = .ok (.istore 6, 2) := by decide +kernel
theorem dd_la_law_524 : decode code 524 = .ok (.aload_n 2, 1) := by decide +kernel
theorem dd_la_law_525 : decode code 525 = .ok (.invokevirtual 73, 3) := by decide +kernel
theorem dd_la_law_528 : decode code 528 = .ok (.iload 5, 2) := by decide +kernel
theorem dd_la_law_530 : decode code 530 = .ok (.if_icmp .eq 5, 3) := by decide +kernel
theorem dd_la_law_533 : decode code 533 = .ok (.iconst 0, 1) := by decide +kernel
theorem dd_la_law_534 : decode code 534 = .ok (.ireturn, 1) := by decide +kernel
theorem dd_la_law_535 : decode code 535 = .ok (.iload 5, 2) := by decide +kernel
theorem dd_la_law_537 : decode code 537 = .ok (.ifCond .ne 15, 3) := by decide +kernel
theorem dd_la_law_540 : decode code 540 = .ok (.aload_n 3, 1) := by decide +kernel
theorem dd_la_law_541 : decode code 541 = .ok (.iconst 0, 1) := by decide +kernel
theorem dd_la_law_542 : decode code 542 = .ok (.laload, 1) := by decide +kernel
theorem dd_la_law_543 : decode code 543 = .ok (.iload 6, 2) := by decide +kernel
theorem dd_la_law_545 : decode code 545 = .ok (.i2l, 1) := by decide +kernel
theorem dd_la_law_546 : decode code 546 = .ok (.lcmp, 1) := by decide +kernel
theorem dd_la_law_547 : decode code 547 = .ok (.ifCond .eq 5, 3) := by decide +kernel
theorem dd_la_law_550 : decode code 550 = .ok (.iconst 0, 1) := by decide +kernel
theorem dd_la_law_551 : decode code 551 = .ok (.ireturn, 1) := by decide +kernel
theorem dd_la_law_552 : decode code 552 = .ok (.goto 587, 3) := by decide +kernel
theorem dd_la_law_555 : decode code 555 = .ok (.aload_n 1, 1) := by decide +kernel
theorem dd_la_law_556 : decode code 556 = .ok (.aload_n 0, 1) := by decide +kernel
theorem dd_la_law_557 : decode code 557 = .ok (.iload 4, 2) := by decide +kernel
theorem dd_la_law_559 : decode code 559 = .ok (.iconst 1, 1) := by decide +kernel
theorem dd_la_law_560 : decode code 560 = .ok (.iadd, 1) := by decide +kernel
theorem dd_la_law_561 : decode code 561 = .ok (.iaload, 1) := by decide +kernel
theorem dd_la_law_562 : decode code 562 = .ok (.aload_n 0, 1) := by decide +kernel
theorem dd_la_law_563 : decode code 563 = .ok (.iload 4, 2) := by decide +kernel
theorem dd_la_law_565 : decode code 565 = .ok (.iconst 2, 1) := by decide +kernel
theorem dd_la_law_566 : decode code 566 = .ok (.iadd, 1) := by decide +kernel
theorem dd_la_law_567 : decode code 567 = .ok (.iaload, 1) := by decide +kernel
theorem dd_la_law_568 : decode code 568 = .ok (.ifCond .eq 7, 3) := by decide +kernel
theorem dd_la_law_571 : decode code 571 = .ok (.iconst 1, 1) := by decide +kernel
theorem dd_la_law_572 : decode code 572 = .ok (.goto 4, 3) := by decide +kernel
theorem dd_la_law_575 : decode code 575 = .ok (.iconst 0, 1) := by decide +kernel
theorem dd_la_law_576 : decode code 576 = .ok (.aload_n 3, 1) := by decide +kernel
theorem dd_la_law_577 : decode code 577 = .ok (.invokestatic 98, 3) := by decide +kernel
theorem dd_la_law_580 : decode code 580 = .ok (.istore 5, 2) := by decide +kernel
theorem dd_la_law_582 : decode code 582 = .ok (.aload_n 2, 1) := by decide +kernel
theorem dd_la_law_583 : decode code 583 = .ok (.aload_n 0, 1) := by decide +kernel
theorem dd_la_law_584 : decode code 584 = .ok (.iload 4, 2) := by decide +kernel
theorem dd_la_law_586 : decode code 586 = .ok (.iconst 1, 1) := by decide +kernel
theorem dd_la_law_587 : decode code 587 = .ok (.iadd, 1) := by decide +kernel
theorem dd_la_law_588 : decode code 588 = .ok (.iaload, 1) := by decide +kernel
theorem dd_la_law_589 : decode code 589 = .ok (.aload_n 0, 1) := by decide +kernel
theorem dd_la_law_590 : decode code 590 = .ok (.iload 4, 2) := by decide +kernel
theorem dd_la_law_592 : decode code 592 = .ok (.iconst 2, 1) := by decide +kernel
theorem dd_la_law_593 : decode code 593 = .ok (.iadd, 1) := by decide +kernel
theorem dd_la_law_594 : decode code 594 = .ok (.iaload, 1) := by decide +kernel
theorem dd_la_law_595 : decode code 595 = .ok (.ifCond .eq 7, 3) := by decide +kernel
theorem dd_la_law_598 : decode code 598 = .ok (.iconst 1, 1) := by decide +kernel
theorem dd_la_law_599 : decode code 599 = .ok (.goto 4, 3) := by decide +kernel
theorem dd_la_law_602 : decode code 602 = .ok (.iconst 0, 1) := by decide +kernel
theorem dd_la_law_603 : decode code 603 = .ok (.invokevirtual 101, 3) := by decide +kernel
theorem dd_la_law_606 : decode code 606 = .ok (.istore 6, 2) := by decide +kernel
theorem dd_la_law_608 : decode code 608 = .ok (.aload_n 2, 1) := by decide +kernel
theorem dd_la_law_609 : decode code 609 = .ok (.invokevirtual 73, 3) := by decide +kernel
theorem dd_la_law_612 : decode code 612 = .ok (.iload 5, 2) := by decide +kernel
theorem dd_la_law_614 : decode code 614 = .ok (.if_icmp .eq 5, 3) := by decide +kernel
theorem dd_la_law_617 : decode code 617 = .ok (.iconst 0, 1) := by decide +kernel
theorem dd_la_law_618 : decode code 618 = .ok (.ireturn, 1) := by decide +kernel
theorem dd_la_law_619 : decode code 619 = .ok (.iload 5, 2) := by decide +kernel
theorem dd_la_law_621 : decode code 621 = .ok (.ifCond .ne 22, 3) := by decide +kernel
theorem dd_la_law_624 : decode code 624 = .ok (.aload_n 3, 1) := by decide +kernel
theorem dd_la_law_625 : decode code 625 = .ok (.iconst 0, 1) := by decide +kernel
theorem dd_la_law_626 : decode code 626 = .ok (.laload, 1) := by decide +kernel
theorem dd_la_law_627 : decode code 627 = .ok (.iload 6, 2) := by decide +kernel
theorem dd_la_law_629 : decode code 629 = .ok (.ifCond .eq 7, 3) := by decide +kernel
theorem dd_la_law_632 : decode code 632 = .ok (.lconst 1, 1) := by decide +kernel
theorem dd_la_law_633 : decode code 633 = .ok (.goto 4, 3) := by decide +kernel
theorem dd_la_law_636 : decode code 636 = .ok (.lconst 0, 1) := by decide +kernel
theorem dd_la_law_637 : decode code 637 = .ok (.lcmp, 1) := by decide +kernel
theorem dd_la_law_638 : decode code 638 = .ok (.ifCond .eq 5, 3) := by decide +kernel
theorem dd_la_law_641 : decode code 641 = .ok (.iconst 0, 1) := by decide +kernel
theorem dd_la_law_642 : decode code 642 = .ok (.ireturn, 1) := by decide +kernel
theorem dd_la_law_643 : decode code 643 = .ok (.goto 496, 3) := by decide +kernel
theorem dd_la_law_646 : decode code 646 = .ok (.aload_n 1, 1) := by decide +kernel
theorem dd_la_law_647 : decode code 647 = .ok (.aload_n 0, 1) := by decide +kernel
theorem dd_la_law_648 : decode code 648 = .ok (.iload 4, 2) := by decide +kernel
theorem dd_la_law_650 : decode code 650 = .ok (.iconst 1, 1) := by decide +kernel
theorem dd_la_law_651 : decode code 651 = .ok (.iadd, 1) := by decide +kernel
theorem dd_la_law_652 : decode code 652 = .ok (.iaload, 1) := by decide +kernel
theorem dd_la_law_653 : decode code 653 = .ok (.aload_n 0, 1) := by decide +kernel
theorem dd_la_law_654 : decode code 654 = .ok (.iload 4, 2) := by decide +kernel
theorem dd_la_law_656 : decode code 656 = .ok (.iconst 2, 1) := by decide +kernel
theorem dd_la_law_657 : decode code 657 = .ok (.iadd, 1) := by decide +kernel
theorem dd_la_law_658 : decode code 658 = .ok (.iaload, 1) := by decide +kernel
theorem dd_la_law_659 : decode code 659 = .ok (.aload_n 0, 1) := by decide +kernel
theorem dd_la_law_660 : decode code 660 = .ok (.iload 4, 2) := by decide +kernel
theorem dd_la_law_662 : decode code 662 = .ok (.iconst 3, 1) := by decide +kernel
theorem dd_la_law_663 : decode code 663 = .ok (.iadd, 1) := by decide +kernel
theorem dd_la_law_664 : decode code 664 = .ok (.iaload, 1) := by decide +kernel
theorem dd_la_law_665 : decode code 665 = .ok (.aload_n 3, 1) := by decide +kernel
theorem dd_la_law_666 : decode code 666 = .ok (.invokestatic 102, 3) := by decide +kernel
theorem dd_la_law_669 : decode code 669 = .ok (.istore 5, 2) := by decide +kernel
theorem dd_la_law_671 : decode code 671 = .ok (.aload_n 2, 1) := by decide +kernel
theorem dd_la_law_672 : decode code 672 = .ok (.aload_n 0, 1) := by decide +kernel
theorem dd_la_law_673 : decode code 673 = .ok (.iload 4, 2) := by decide +kernel
theorem dd_la_law_675 : decode code 675 = .ok (.iconst 1, 1) := by decide +kernel
theorem dd_la_law_676 : decode code 676 = .ok (.iadd, 1) := by decide +kernel
theorem dd_la_law_677 : decode code 677 = .ok (.iaload, 1) := by decide +kernel
theorem dd_la_law_678 : decode code 678 = .ok (.aload_n 0, 1) := by decide +kernel
theorem dd_la_law_679 : decode code 679 = .ok (.iload 4, 2) := by decide +kernel
theorem dd_la_law_681 : decode code 681 = .ok (.iconst 2, 1) := by decide +kernel
theorem dd_la_law_682 : decode code 682 = .ok (.iadd, 1) := by decide +kernel
theorem dd_la_law_683 : decode code 683 = .ok (.iaload, 1) := by decide +kernel
theorem dd_la_law_684 : decode code 684 = .ok (.aload_n 0, 1) := by decide +kernel
theorem dd_la_law_685 : decode code 685 = .ok (.iload 4, 2) := by decide +kernel
theorem dd_la_law_687 : decode code 687 = .ok (.iconst 3, 1) := by decide +kernel
theorem dd_la_law_688 : decode code 688 = .ok (.iadd, 1) := by decide +kernel
theorem dd_la_law_689 : decode code 689 = .ok (.iaload, 1) := by decide +kernel
theorem dd_la_law_690 : decode code 690 = .ok (.invokevirtual 104, 3) := by decide +kernel
theorem dd_la_law_693 : decode code 693 = .ok (.istore 6, 2) := by decide +kernel
theorem dd_la_law_695 : decode code 695 = .ok (.aload_n 2, 1) := by decide +kernel
theorem dd_la_law_696 : decode code 696 = .ok (.invokevirtual 73, 3) := by decide +kernel
theorem dd_la_law_699 : decode code 699 = .ok (.iload 5, 2) := by decide +kernel
theorem dd_la_law_701 : decode code 701 = .ok (.if_icmp .eq 5, 3) := by decide +kernel
theorem dd_la_law_704 : decode code 704 = .ok (.iconst 0, 1) := by decide +kernel
theorem dd_la_law_705 : decode code 705 = .ok (.ireturn, 1) := by decide +kernel
theorem dd_la_law_706 : decode code 706 = .ok (.iload 5, 2) := by decide +kernel
theorem dd_la_law_708 : decode code 708 = .ok (.ifCond .ne 22, 3) := by decide +kernel
theorem dd_la_law_711 : decode code 711 = .ok (.aload_n 3, 1) := by decide +kernel
theorem dd_la_law_712 : decode code 712 = .ok (.iconst 0, 1) := by decide +kernel
theorem dd_la_law_713 : decode code 713 = .ok (.laload, 1) := by decide +kernel
theorem dd_la_law_714 : decode code 714 = .ok (.iload 6, 2) := by decide +kernel
theorem dd_la_law_716 : decode code 716 = .ok (.ifCond .eq 7, 3) := by decide +kernel
theorem dd_la_law_719 : decode code 719 = .ok (.lconst 1, 1) := by decide +kernel
theorem dd_la_law_720 : decode code 720 = .ok (.goto 4, 3) := by decide +kernel
theorem dd_la_law_723 : decode code 723 = .ok (.lconst 0, 1) := by decide +kernel
theorem dd_la_law_724 : decode code 724 = .ok (.lcmp, 1) := by decide +kernel
theorem dd_la_law_725 : decode code 725 = .ok (.ifCond .eq 5, 3) := by decide +kernel
theorem dd_la_law_728 : decode code 728 = .ok (.iconst 0, 1) := by decide +kernel
theorem dd_la_law_729 : decode code 729 = .ok (.ireturn, 1) := by decide +kernel
theorem dd_la_law_730 : decode code 730 = .ok (.goto 409, 3) := by decide +kernel
theorem dd_la_law_733 : decode code 733 = .ok (.aload_n 1, 1) := by decide +kernel
theorem dd_la_law_734 : decode code 734 = .ok (.invokevirtual 105, 3) := by decide +kernel
theorem dd_la_law_737 : decode code 737 = .ok (.aload_n 2, 1) := by decide +kernel
theorem dd_la_law_738 : decode code 738 = .ok (.invokevirtual 108, 3) := by decide +kernel
theorem dd_la_law_741 : decode code 741 = .ok (.if_icmp .eq 398, 3) := by decide +kernel
theorem dd_la_law_744 : decode code 744 = .ok (.iconst 0, 1) := by decide +kernel
theorem dd_la_law_745 : decode code 745 = .ok (.ireturn, 1) := by decide +kernel
theorem dd_la_law_746 : decode code 746 = .ok (.aload_n 1, 1) := by decide +kernel
theorem dd_la_law_747 : decode code 747 = .ok (.aload_n 0, 1) := by decide +kernel
theorem dd_la_law_748 : decode code 748 = .ok (.iload 4, 2) := by decide +kernel
theorem dd_la_law_750 : decode code 750 = .ok (.iconst 1, 1) := by decide +kernel
theorem dd_la_law_751 : decode code 751 = .ok (.iadd, 1) := by decide +kernel
theorem dd_la_law_752 : decode code 752 = .ok (.iaload, 1) := by decide +kernel
theorem dd_la_law_753 : decode code 753 = .ok (.aload_n 0, 1) := by decide +kernel
theorem dd_la_law_754 : decode code 754 = .ok (.iload 4, 2) := by decide +kernel
theorem dd_la_law_756 : decode code 756 = .ok (.iconst 2, 1) := by decide +kernel
theorem dd_la_law_757 : decode code 757 = .ok (.iadd, 1) := by decide +kernel
theorem dd_la_law_758 : decode code 758 = .ok (.iaload, 1) := by decide +kernel
theorem dd_la_law_759 : decode code 759 = .ok (.aload_n 3, 1) := by decide +kernel
theorem dd_la_law_760 : decode code 760 = .ok (.invokestatic 109, 3) := by decide +kernel
theorem dd_la_law_763 : decode code 763 = .ok (.istore 5, 2) := by decide +kernel
theorem dd_la_law_765 : decode code 765 = .ok (.aload_n 2, 1) := by decide +kernel
theorem dd_la_law_766 : decode code 766 = .ok (.aload_n 0, 1) := by decide +kernel
theorem dd_la_law_767 : decode code 767 = .ok (.iload 4, 2) := by decide +kernel
theorem dd_la_law_769 : decode code 769 = .ok (.iconst 1, 1) := by decide +kernel
theorem dd_la_law_770 : decode code 770 = .ok (.iadd, 1) := by decide +kernel
theorem dd_la_law_771 : decode code 771 = .ok (.iaload, 1) := by decide +kernel
theorem dd_la_law_772 : decode code 772 = .ok (.aload_n 0, 1) := by decide +kernel
theorem dd_la_law_773 : decode code 773 = .ok (.iload 4, 2) := by decide +kernel
theorem dd_la_law_775 : decode code 775 = .ok (.iconst 2, 1) := by decide +kernel
theorem dd_la_law_776 : decode code 776 = .ok (.iadd, 1) := by decide +kernel
theorem dd_la_law_777 : decode code 777 = .ok (.iaload, 1) := by decide +kernel
theorem dd_la_law_778 : decode code 778 = .ok (.invokevirtual 111, 3) := by decide +kernel
theorem dd_la_law_781 : decode code 781 = .ok (.istore 6, 2) := by decide +kernel
theorem dd_la_law_783 : decode code 783 = .ok (.aload_n 2, 1) := by decide +kernel
theorem dd_la_law_784 : decode code 784 = .ok (.invokevirtual 73, 3) := by decide +kernel
theorem dd_la_law_787 : decode code 787 = .ok (.iload 5, 2) := by decide +kernel
theorem dd_la_law_789 : decode code 789 = .ok (.if_icmp .eq 5, 3) := by decide +kernel
theorem dd_la_law_792 : decode code 792 = .ok (.iconst 0, 1) := by decide +kernel
theorem dd_la_law_793 : decode code 793 = .ok (.ireturn, 1) := by decide +kernel
theorem dd_la_law_794 : decode code 794 = .ok (.iload 5, 2) := by decide +kernel
theorem dd_la_law_796 : decode code 796 = .ok (.ifCond .ne 15, 3) := by decide +kernel
theorem dd_la_law_799 : decode code 799 = .ok (.aload_n 3, 1) := by decide +kernel
theorem dd_la_law_800 : decode code 800 = .ok (.iconst 0, 1) := by decide +kernel
theorem dd_la_law_801 : decode code 801 = .ok (.laload, 1) := by decide +kernel
theorem dd_la_law_802 : decode code 802 = .ok (.iload 6, 2) := by decide +kernel
theorem dd_la_law_804 : decode code 804 = .ok (.i2l, 1) := by decide +kernel
theorem dd_la_law_805 : decode code 805 = .ok (.lcmp, 1) := by decide +kernel
theorem dd_la_law_806 : decode code 806 = .ok (.ifCond .eq 5, 3) := by decide +kernel
theorem dd_la_law_809 : decode code 809 = .ok (.iconst 0, 1) := by decide +kernel
theorem dd_la_law_810 : decode code 810 = .ok (.ireturn, 1) := by decide +kernel
theorem dd_la_law_811 : decode code 811 = .ok (.goto 328, 3) := by decide +kernel
theorem dd_la_law_814 : decode code 814 = .ok (.aload_n 1, 1) := by decide +kernel
theorem dd_la_law_815 : decode code 815 = .ok (.aload_n 0, 1) := by decide +kernel
theorem dd_la_law_816 : decode code 816 = .ok (.iload 4, 2) := by decide +kernel
theorem dd_la_law_818 : decode code 818 = .ok (.iconst 1, 1) := by decide +kernel
theorem dd_la_law_819 : decode code 819 = .ok (.iadd, 1) := by decide +kernel
theorem dd_la_law_820 : decode code 820 = .ok (.iaload, 1) := by decide +kernel
theorem dd_la_law_821 : decode code 821 = .ok (.aload_n 0, 1) := by decide +kernel
theorem dd_la_law_822 : decode code 822 = .ok (.iload 4, 2) := by decide +kernel
theorem dd_la_law_824 : decode code 824 = .ok (.iconst 2, 1) := by decide +kernel
theorem dd_la_law_825 : decode code 825 = .ok (.iadd, 1) := by decide +kernel
theorem dd_la_law_826 : decode code 826 = .ok (.iaload, 1) := by decide +kernel
theorem dd_la_law_827 : decode code 827 = .ok (.aload_n 3, 1) := by decide +kernel
theorem dd_la_law_828 : decode code 828 = .ok (.invokestatic 112, 3) := by decide +kernel
theorem dd_la_law_831 : decode code 831 = .ok (.istore 5, 2) := by decide +kernel
theorem dd_la_law_833 : decode code 833 = .ok (.aload_n 2, 1) := by decide +kernel
theorem dd_la_law_834 : decode code 834 = .ok (.aload_n 0, 1) := by decide +kernel
theorem dd_la_law_835 : decode code 835 = .ok (.iload 4, 2) := by decide +kernel
theorem dd_la_law_837 : decode code 837 = .ok (.iconst 1, 1) := by decide +kernel
theorem dd_la_law_838 : decode code 838 = .ok (.iadd, 1) := by decide +kernel
theorem dd_la_law_839 : decode code 839 = .ok (.iaload, 1) := by decide +kernel
theorem dd_la_law_840 : decode code 840 = .ok (.aload_n 0, 1) := by decide +kernel
theorem dd_la_law_841 : decode code 841 = .ok (.iload 4, 2) := by decide +kernel
theorem dd_la_law_843 : decode code 843 = .ok (.iconst 2, 1) := by decide +kernel
theorem dd_la_law_844 : decode code 844 = .ok (.iadd, 1) := by decide +kernel
theorem dd_la_law_845 : decode code 845 = .ok (.iaload, 1) := by decide +kernel
theorem dd_la_law_846 : decode code 846 = .ok (.invokevirtual 114, 3) := by decide +kernel
theorem dd_la_law_849 : decode code 849 = .ok (.istore 6, 2) := by decide +kernel
theorem dd_la_law_851 : decode code 851 = .ok (.aload_n 2, 1) := by decide +kernel
theorem dd_la_law_852 : decode code 852 = .ok (.invokevirtual 73, 3) := by decide +kernel
theorem dd_la_law_855 : decode code 855 = .ok (.iload 5, 2) := by decide +kernel
theorem dd_la_law_857 : decode code 857 = .ok (.if_icmp .eq 5, 3) := by decide +kernel
theorem dd_la_law_860 : decode code 860 = .ok (.iconst 0, 1) := by decide +kernel
theorem dd_la_law_861 : decode code 861 = .ok (.ireturn, 1) := by decide +kernel
theorem dd_la_law_862 : decode code 862 = .ok (.iload 5, 2) := by decide +kernel
theorem dd_la_law_864 : decode code 864 = .ok (.ifCond .ne 15, 3) := by decide +kernel
theorem dd_la_law_867 : decode code 867 = .ok (.aload_n 3, 1) := by decide +kernel
theorem dd_la_law_868 : decode code 868 = .ok (.iconst 0, 1) := by decide +kernel
theorem dd_la_law_869 : decode code 869 = .ok (.laload, 1) := by decide +kernel
theorem dd_la_law_870 : decode code 870 = .ok (.iload 6, 2) := by decide +kernel
theorem dd_la_law_872 : decode code 872 = .ok (.i2l, 1) := by decide +kernel
theorem dd_la_law_873 : decode code 873 = .ok (.lcmp, 1) := by decide +kernel
theorem dd_la_law_874 : decode code 874 = .ok (.ifCond .eq 5, 3) := by decide +kernel
theorem dd_la_law_877 : decode code 877 = .ok (.iconst 0, 1) := by decide +kernel
theorem dd_la_law_878 : decode code 878 = .ok (.ireturn, 1) := by decide +kernel
theorem dd_la_law_879 : decode code 879 = .ok (.goto 260, 3) := by decide +kernel
theorem dd_la_law_882 : decode code 882 = .ok (.aload_n 1, 1) := by decide +kernel
theorem dd_la_law_883 : decode code 883 = .ok (.aload_n 0, 1) := by decide +kernel
theorem dd_la_law_884 : decode code 884 = .ok (.iload 4, 2) := by decide +kernel
theorem dd_la_law_886 : decode code 886 = .ok (.iconst 1, 1) := by decide +kernel
theorem dd_la_law_887 : decode code 887 = .ok (.iadd, 1) := by decide +kernel
theorem dd_la_law_888 : decode code 888 = .ok (.iaload, 1) := by decide +kernel
theorem dd_la_law_889 : decode code 889 = .ok (.aload_n 0, 1) := by decide +kernel
theorem dd_la_law_890 : decode code 890 = .ok (.iload 4, 2) := by decide +kernel
theorem dd_la_law_892 : decode code 892 = .ok (.iconst 2, 1) := by decide +kernel
theorem dd_la_law_893 : decode code 893 = .ok (.iadd, 1) := by decide +kernel
theorem dd_la_law_894 : decode code 894 = .ok (.iaload, 1) := by decide +kernel
theorem dd_la_law_895 : decode code 895 = .ok (.aload_n 0, 1) := by decide +kernel
theorem dd_la_law_896 : decode code 896 = .ok (.iload 4, 2) := by decide +kernel
theorem dd_la_law_898 : decode code 898 = .ok (.iconst 3, 1) := by decide +kernel
theorem dd_la_law_899 : decode code 899 = .ok (.iadd, 1) := by decide +kernel
theorem dd_la_law_900 : decode code 900 = .ok (.iaload, 1) := by decide +kernel
theorem dd_la_law_901 : decode code 901 = .ok (.aload_n 0, 1) := by decide +kernel
theorem dd_la_law_902 : decode code 902 = .ok (.iload 4, 2) := by decide +kernel
theorem dd_la_law_904 : decode code 904 = .ok (.iconst 4, 1) := by decide +kernel
theorem dd_la_law_905 : decode code 905 = .ok (.iadd, 1) := by decide +kernel
theorem dd_la_law_906 : decode code 906 = .ok (.iaload, 1) := by decide +kernel
theorem dd_la_law_907 : decode code 907 = .ok (.ifCond .eq 7, 3) := by decide +kernel
theorem dd_la_law_910 : decode code 910 = .ok (.iconst 1, 1) := by decide +kernel
theorem dd_la_law_911 : decode code 911 = .ok (.goto 4, 3) := by decide +kernel
theorem dd_la_law_914 : decode code 914 = .ok (.iconst 0, 1) := by decide +kernel
theorem dd_la_law_915 : decode code 915 = .ok (.aload_n 3, 1) := by decide +kernel
theorem dd_la_law_916 : decode code 916 = .ok (.invokestatic 115, 3) := by decide +kernel
theorem dd_la_law_919 : decode code 919 = .ok (.istore 5, 2) := by decide +kernel
theorem dd_la_law_921 : decode code 921 = .ok (.aload_n 2, 1) := by decide +kernel
theorem dd_la_law_922 : decode code 922 = .ok (.aload_n 0, 1) := by decide +kernel
theorem dd_la_law_923 : decode code 923 = .ok (.iload 4, 2) := by decide +kernel
theorem dd_la_law_925 : decode code 925 = .ok (.iconst 1, 1) := by decide +kernel
theorem dd_la_law_926 : decode code 926 = .ok (.iadd, 1) := by decide +kernel
theorem dd_la_law_927 : decode code 927 = .ok (.iaload, 1) := by decide +kernel
theorem dd_la_law_928 : decode code 928 = .ok (.aload_n 0, 1) := by decide +kernel
theorem dd_la_law_929 : decode code 929 = .ok (.iload 4, 2) := by decide +kernel
theorem dd_la_law_931 : decode code 931 = .ok (.iconst 2, 1) := by decide +kernel
theorem dd_la_law_932 : decode code 932 = .ok (.iadd, 1) := by decide +kernel
theorem dd_la_law_933 : decode code 933 = .ok (.iaload, 1) := by decide +kernel
theorem dd_la_law_934 : decode code 934 = .ok (.aload_n 0, 1) := by decide +kernel
theorem dd_la_law_935 : decode code 935 = .ok (.iload 4, 2) := by decide +kernel
theorem dd_la_law_937 : decode code 937 = .ok (.iconst 3, 1) := by decide +kernel
theorem dd_la_law_938 : decode code 938 = .ok (.iadd, 1) := by decide +kernel
theorem dd_la_law_939 : decode code 939 = .ok (.iaload, 1) := by decide +kernel
theorem dd_la_law_940 : decode code 940 = .ok (.aload_n 0, 1) := by decide +kernel
theorem dd_la_law_941 : decode code 941 = .ok (.iload 4, 2) := by decide +kernel
theorem dd_la_law_943 : decode code 943 = .ok (.iconst 4, 1) := by decide +kernel
theorem dd_la_law_944 : decode code 944 = .ok (.iadd, 1) := by decide +kernel
theorem dd_la_law_945 : decode code 945 = .ok (.iaload, 1) := by decide +kernel
theorem dd_la_law_946 : decode code 946 = .ok (.ifCond .eq 7, 3) := by decide +kernel
theorem dd_la_law_949 : decode code 949 = .ok (.iconst 1, 1) := by decide +kernel
theorem dd_la_law_950 : decode code 950 = .ok (.goto 4, 3) := by decide +kernel
theorem dd_la_law_953 : decode code 953 = .ok (.iconst 0, 1) := by decide +kernel
theorem dd_la_law_954 : decode code 954 = .ok (.invokevirtual 118, 3) := by decide +kernel
theorem dd_la_law_957 : decode code 957 = .ok (.istore 6, 2) := by decide +kernel
theorem dd_la_law_959 : decode code 959 = .ok (.aload_n 2, 1) := by decide +kernel
theorem dd_la_law_960 : decode code 960 = .ok (.invokevirtual 73, 3) := by decide +kernel
theorem dd_la_law_963 : decode code 963 = .ok (.iload 5, 2) := by decide +kernel
theorem dd_la_law_965 : decode code 965 = .ok (.if_icmp .eq 5, 3) := by decide +kernel
theorem dd_la_law_968 : decode code 968 = .ok (.iconst 0, 1) := by decide +kernel
theorem dd_la_law_969 : decode code 969 = .ok (.ireturn, 1) := by decide +kernel
theorem dd_la_law_970 : decode code 970 = .ok (.iload 5, 2) := by decide +kernel
theorem dd_la_law_972 : decode code 972 = .ok (.ifCond .ne 15, 3) := by decide +kernel
theorem dd_la_law_975 : decode code 975 = .ok (.aload_n 3, 1) := by decide +kernel
theorem dd_la_law_976 : decode code 976 = .ok (.iconst 0, 1) := by decide +kernel
theorem dd_la_law_977 : decode code 977 = .ok (.laload, 1) := by decide +kernel
theorem dd_la_law_978 : decode code 978 = .ok (.iload 6, 2) := by decide +kernel
theorem dd_la_law_980 : decode code 980 = .ok (.i2l, 1) := by decide +kernel
theorem dd_la_law_981 : decode code 981 = .ok (.lcmp, 1) := by decide +kernel
theorem dd_la_law_982 : decode code 982 = .ok (.ifCond .eq 5, 3) := by decide +kernel
theorem dd_la_law_985 : decode code 985 = .ok (.iconst 0, 1) := by decide +kernel
theorem dd_la_law_986 : decode code 986 = .ok (.ireturn, 1) := by decide +kernel
theorem dd_la_law_987 : decode code 987 = .ok (.goto 152, 3) := by decide +kernel
theorem dd_la_law_990 : decode code 990 = .ok (.aload_n 1, 1) := by decide +kernel
theorem dd_la_law_991 : decode code 991 = .ok (.aload_n 0, 1) := by decide +kernel
theorem dd_la_law_992 : decode code 992 = .ok (.iload 4, 2) := by decide +kernel
theorem dd_la_law_994 : decode code 994 = .ok (.iconst 1, 1) := by decide +kernel
theorem dd_la_law_995 : decode code 995 = .ok (.iadd, 1) := by decide +kernel
theorem dd_la_law_996 : decode code 996 = .ok (.iaload, 1) := by decide +kernel
theorem dd_la_law_997 : decode code 997 = .ok (.aload_n 0, 1) := by decide +kernel
theorem dd_la_law_998 : decode code 998 = .ok (.iload 4, 2) := by decide +kernel
theorem dd_la_law_1000 : decode code 1000 = .ok (.iconst 2, 1) := by decide +kernel
theorem dd_la_law_1001 : decode code 1001 = .ok (.iadd, 1) := by decide +kernel
theorem dd_la_law_1002 : decode code 1002 = .ok (.iaload, 1) := by decide +kernel
theorem dd_la_law_1003 : decode code 1003 = .ok (.aload_n 0, 1) := by decide +kernel
theorem dd_la_law_1004 : decode code 1004 = .ok (.iload 4, 2) := by decide +kernel
theorem dd_la_law_1006 : decode code 1006 = .ok (.iconst 3, 1) := by decide +kernel
theorem dd_la_law_1007 : decode code 1007 = .ok (.iadd, 1) := by decide +kernel
theorem dd_la_law_1008 : decode code 1008 = .ok (.iaload, 1) := by decide +kernel
theorem dd_la_law_1009 : decode code 1009 = .ok (.aload_n 3, 1) := by decide +kernel
theorem dd_la_law_1010 : decode code 1010 = .ok (.invokestatic 119, 3) := by decide +kernel
theorem dd_la_law_1013 : decode code 1013 = .ok (.istore 5, 2) := by decide +kernel
theorem dd_la_law_1015 : decode code 1015 = .ok (.aload_n 2, 1) := by decide +kernel
theorem dd_la_law_1016 : decode code 1016 = .ok (.aload_n 0, 1) := by decide +kernel
theorem dd_la_law_1017 : decode code 1017 = .ok (.iload 4, 2) := by decide +kernel
theorem dd_la_law_1019 : decode code 1019 = .ok (.iconst 1, 1) := by decide +kernel
theorem dd_la_law_1020 : decode code 1020 = .ok (.iadd, 1) := by decide +kernel
theorem dd_la_law_1021 : decode code 1021 = .ok (.iaload, 1) := by decide +kernel
theorem dd_la_law_1022 : decode code 1022 = .ok (.aload_n 0, 1) := by decide +kernel
theorem dd_la_law_1023 : decode code 1023 = .ok (.iload 4, 2) := by decide +kernel
theorem dd_la_law_1025 : decode code 1025 = .ok (.iconst 2, 1) := by decide +kernel
theorem dd_la_law_1026 : decode code 1026 = .ok (.iadd, 1) := by decide +kernel
theorem dd_la_law_1027 : decode code 1027 = .ok (.iaload, 1) := by decide +kernel
theorem dd_la_law_1028 : decode code 1028 = .ok (.aload_n 0, 1) := by decide +kernel
theorem dd_la_law_1029 : decode code 1029 = .ok (.iload 4, 2) := by decide +kernel
theorem dd_la_law_1031 : decode code 1031 = .ok (.iconst 3, 1) := by decide +kernel
theorem dd_la_law_1032 : decode code 1032 = .ok (.iadd, 1) := by decide +kernel
theorem dd_la_law_1033 : decode code 1033 = .ok (.iaload, 1) := by decide +kernel
theorem dd_la_law_1034 : decode code 1034 = .ok (.invokevirtual 121, 3) := by decide +kernel
theorem dd_la_law_1037 : decode code 1037 = .ok (.istore 6, 2) := by decide +kernel
theorem dd_la_law_1039 : decode code 1039 = .ok (.aload_n 2, 1) := by decide +kernel
theorem dd_la_law_1040 : decode code 1040 = .ok (.invokevirtual 73, 3) := by decide +kernel
theorem dd_la_law_1043 : decode code 1043 = .ok (.iload 5, 2) := by decide +kernel
theorem dd_la_law_1045 : decode code 1045 = .ok (.if_icmp .eq 5, 3) := by decide +kernel
theorem dd_la_law_1048 : decode code 1048 = .ok (.iconst 0, 1) := by decide +kernel
theorem dd_la_law_1049 : decode code 1049 = .ok (.ireturn, 1) := by decide +kernel
theorem dd_la_law_1050 : decode code 1050 = .ok (.iload 5, 2) := by decide +kernel
theorem dd_la_law_1052 : decode code 1052 = .ok (.ifCond .ne 15, 3) := by decide +kernel
theorem dd_la_law_1055 : decode code 1055 = .ok (.aload_n 3, 1) := by decide +kernel
theorem dd_la_law_1056 : decode code 1056 = .ok (.iconst 0, 1) := by decide +kernel
theorem dd_la_law_1057 : decode code 1057 = .ok (.laload, 1) := by decide +kernel
theorem dd_la_law_1058 : decode code 1058 = .ok (.iload 6, 2) := by decide +kernel
theorem dd_la_law_1060 : decode code 1060 = .ok (.i2l, 1) := by decide +kernel
theorem dd_la_law_1061 : decode code 1061 = .ok (.lcmp, 1) := by decide +kernel
theorem dd_la_law_1062 : decode code 1062 = .ok (.ifCond .eq 5, 3) := by decide +kernel
theorem dd_la_law_1065 : decode code 1065 = .ok (.iconst 0, 1) := by decide +kernel
theorem dd_la_law_1066 : decode code 1066 = .ok (.ireturn, 1) := by decide +kernel
theorem dd_la_law_1067 : decode code 1067 = .ok (.goto 72, 3) := by decide +kernel
theorem dd_la_law_1070 : decode code 1070 = .ok (.aload_n 1, 1) := by decide +kernel
theorem dd_la_law_1071 : decode code 1071 = .ok (.invokevirtual 122, 3) := by decide +kernel
theorem dd_la_law_1074 : decode code 1074 = .ok (.aload_n 2, 1) := by decide +kernel
theorem dd_la_law_1075 : decode code 1075 = .ok (.invokevirtual 125, 3) := by decide +kernel
theorem dd_la_law_1078 : decode code 1078 = .ok (.if_icmp .eq 61, 3) := by decide +kernel
theorem dd_la_law_1081 : decode code 1081 = .ok (.iconst 0, 1) := by decide +kernel
theorem dd_la_law_1082 : decode code 1082 = .ok (.ireturn, 1) := by decide +kernel
theorem dd_la_law_1083 : decode code 1083 = .ok (.aload_n 1, 1) := by decide +kernel
theorem dd_la_law_1084 : decode code 1084 = .ok (.aload_n 0, 1) := by decide +kernel
theorem dd_la_law_1085 : decode code 1085 = .ok (.iload 4, 2) := by decide +kernel
theorem dd_la_law_1087 : decode code 1087 = .ok (.iconst 1, 1) := by decide +kernel
theorem dd_la_law_1088 : decode code 1088 = .ok (.iadd, 1) := by decide +kernel
theorem dd_la_law_1089 : decode code 1089 = .ok (.iaload, 1) := by decide +kernel
theorem dd_la_law_1090 : decode code 1090 = .ok (.aload_n 3, 1) := by decide +kernel
theorem dd_la_law_1091 : decode code 1091 = .ok (.invokestatic 126, 3) := by decide +kernel
theorem dd_la_law_1094 : decode code 1094 = .ok (.istore 5, 2) := by decide +kernel
theorem dd_la_law_1096 : decode code 1096 = .ok (.aload_n 2, 1) := by decide +kernel
theorem dd_la_law_1097 : decode code 1097 = .ok (.aload_n 0, 1) := by decide +kernel
theorem dd_la_law_1098 : decode code 1098 = .ok (.iload 4, 2) := by decide +kernel
theorem dd_la_law_1100 : decode code 1100 = .ok (.iconst 1, 1) := by decide +kernel
theorem dd_la_law_1101 : decode code 1101 = .ok (.iadd, 1) := by decide +kernel
theorem dd_la_law_1102 : decode code 1102 = .ok (.iaload, 1) := by decide +kernel
theorem dd_la_law_1103 : decode code 1103 = .ok (.invokevirtual 128, 3) := by decide +kernel
theorem dd_la_law_1106 : decode code 1106 = .ok (.istore 6, 2) := by decide +kernel
theorem dd_la_law_1108 : decode code 1108 = .ok (.aload_n 2, 1) := by decide +kernel
theorem dd_la_law_1109 : decode code 1109 = .ok (.invokevirtual 73, 3) := by decide +kernel
theorem dd_la_law_1112 : decode code 1112 = .ok (.iload 5, 2) := by decide +kernel
theorem dd_la_law_1114 : decode code 1114 = .ok (.if_icmp .eq 5, 3) := by decide +kernel
theorem dd_la_law_1117 : decode code 1117 = .ok (.iconst 0, 1) := by decide +kernel
theorem dd_la_law_1118 : decode code 1118 = .ok (.ireturn, 1) := by decide +kernel
theorem dd_la_law_1119 : decode code 1119 = .ok (.iload 5, 2) := by decide +kernel
theorem dd_la_law_1121 : decode code 1121 = .ok (.ifCond .ne 15, 3) := by decide +kernel
theorem dd_la_law_1124 : decode code 1124 = .ok (.aload_n 3, 1) := by decide +kernel
theorem dd_la_law_1125 : decode code 1125 = .ok (.iconst 0, 1) := by decide +kernel
theorem dd_la_law_1126 : decode code 1126 = .ok (.laload, 1) := by decide +kernel
theorem dd_la_law_1127 : decode code 1127 = .ok (.iload 6, 2) := by decide +kernel
theorem dd_la_law_1129 : decode code 1129 = .ok (.i2l, 1) := by decide +kernel
theorem dd_la_law_1130 : decode code 1130 = .ok (.lcmp, 1) := by decide +kernel
theorem dd_la_law_1131 : decode code 1131 = .ok (.ifCond .eq 5, 3) := by decide +kernel
theorem dd_la_law_1134 : decode code 1134 = .ok (.iconst 0, 1) := by decide +kernel
theorem dd_la_law_1135 : decode code 1135 = .ok (.ireturn, 1) := by decide +kernel
theorem dd_la_law_1136 : decode code 1136 = .ok (.goto 3, 3) := by decide +kernel
theorem dd_la_law_1139 : decode code 1139 = .ok (.iinc 4 5, 3) := by decide +kernel
theorem dd_la_law_1142 : decode code 1142 = .ok (.goto (-1119), 3) := by decide +kernel
theorem dd_la_law_1145 : decode code 1145 = .ok (.iconst 1, 1) := by decide +kernel
theorem dd_la_law_1146 : decode code 1146 = .ok (.ireturn, 1) := by decide +kernel
end
section
/-! A METHOD's begin and its ends, over a store. -/
theorem mp_T.mv {cls : String} {a : Addr} {t t' : State} (h : mp_T cls a t) (hh : t'.heap = t.heap) (hvm : t.vm.Alike t'.vm) : mp_T cls a t' := by
  obtain ⟨cell, h1, h2, h3⟩ := h
  exact ⟨cell, by rw [hh]; exact h1, h2, by rw [hvm.findClass]; exact h3⟩
section MPF
variable {l : Launch} {D : va_G} {ar : Nat → ClassId} {base : Nat} {y : MethodName} {bytes : ByteArray} {maxL : Nat} {ret : Option FieldType} {hs : List (Nat × Nat × Nat × Nat)} {d w mc ms : Nat} {av : List Value} {σ : mp_M} {PO : Outcome → mp_M → State → Prop}
theorem mp_in (hlen : (lg_sl av).length ≤ maxL)
    (h : ∀ (p : Program) (e : Env) (R : Room) (s : State) (m : MethodId) (below : List Frame) (meth : Method) (c : Code), XX D ar p s m av.toArray c bytes maxL y.cls → d ≤ R.frames → w ≤ R.locals → mc ≤ R.cells → ms ≤ R.slots → meth.sig.returnType = ret → meth.locks = false → meth.name = y.name → c.exceptionTable.toList.map (fun h => (h.startPc, h.endPc, h.handlerPc, h.catchType)) = hs → GG D ar base s → base ≤ s.heap.size →
      ∀ (ls : Array Slot) (H : Heap), H = s.heap → HH D base σ H → va_S (mp_A base) s.heap H [] → lv_has ls maxL (lv_args 0 av) → W p l e R s m av.toArray below meth c H [] 0 0 (mp_Q below s mc ms base (mp_P D cl_L base s PO)) (F0 m 0 ls [])) :
    CN l D ar base y bytes maxL ret hs d w mc ms av σ PO := by
  intro p e R s m below meth c hx hfr hlo hce hsl hnm hmt hcd hb hml hr hlk hex hG hB hH
  have hown : s.vm.findClass y.cls = some m.cls := findClass_of_methodNamed hnm
  have hl := lv_entry av (n := maxL) hlen
  rw [lg_entry_eq]
  exact h p e R s m below meth c ⟨hx, hb, hml, hown, fun w hw => wt_us w hw _ _ (hG.1 w hw), hG.2.1⟩ hfr hlo hce hsl hr hlk (name_of_methodNamed hnm hmt).1 hex hG hB _ s.heap rfl hH va_S.rf hl
end MPF
section MPG
variable {p : Program} {l : Launch} {e : Env} {R : Room} {s : State} {m : MethodId} {args : Array Value} {below : List Frame} {meth : Method} {c : Code} {H : Heap} {locs : List Loc} {cells slots : Nat}
variable {cc : ByteArray} {nL pc : Nat} {ls : Array Slot} {rest : List Value} {D : va_G} {ar : Nat → ClassId} {base mc ms : Nat} {σ : mp_M} {own : String} {PO : Outcome → mp_M → State → Prop}
theorem mp_ri {v : Int32} (x : XX D ar p s m args c cc nL own) (hr : meth.sig.returnType = some .int) (hlk : meth.locks = false) (hc : cells ≤ mc) (hs : slots ≤ ms) (hH : HH D base σ H) (hS : va_S (mp_A base) s.heap H locs) (hq : ∀ t : State, PO (.returned (some (.int v))) σ t) (hdg : decode cc pc = .ok (.ireturn, 1)) :
    W p l e R s m args below meth c H locs cells slots (mp_Q below s mc ms base (mp_P D cl_L base s PO)) (F0 m pc ls [.int v]) :=
  mp_iret x.1 x.2.1 hr hlk hc hs (fun t ht _ => ⟨⟨σ, hq t, by rw [ht]; exact hH⟩, hS.F ht⟩) hS.2.2 hdg
theorem mp_rz {v : Int32} (x : XX D ar p s m args c cc nL own) (hr : meth.sig.returnType = some .boolean) (hv : v = 0 ∨ v = 1) (hlk : meth.locks = false) (hc : cells ≤ mc) (hs : slots ≤ ms) (hH : HH D base σ H) (hS : va_S (mp_A base) s.heap H locs) (hq : ∀ t : State, PO (.returned (some (.int v))) σ t) (hdg : decode cc pc = .ok (.ireturn, 1)) :
    W p l e R s m args below meth c H locs cells slots (mp_Q below s mc ms base (mp_P D cl_L base s PO)) (F0 m pc ls [.int v]) :=
  mp_zret x.1 x.2.1 hr (by rcases hv with rfl | rfl <;> decide +kernel) hlk hc hs (fun t ht _ => ⟨⟨σ, hq t, by rw [ht]; exact hH⟩, hS.F ht⟩) hS.2.2 hdg
theorem mp_rv (x : XX D ar p s m args c cc nL own) (hr : meth.sig.returnType = none) (hlk : meth.locks = false) (hc : cells ≤ mc) (hs : slots ≤ ms) (hH : HH D base σ H) (hS : va_S (mp_A base) s.heap H locs) (hq : ∀ t : State, PO (.returned none) σ t) (hdg : decode cc pc = .ok (.return_, 1)) :
    W p l e R s m args below meth c H locs cells slots (mp_Q below s mc ms base (mp_P D cl_L base s PO)) (F0 m pc ls []) :=
  mp_vret x.1 x.2.1 hr hlk hc hs (fun t ht _ => ⟨⟨σ, hq t, by rw [ht]; exact hH⟩, hS.F ht⟩) hS.2.2 hdg
theorem mp_rr {a : Nat} {C : String} (x : XX D ar p s m args c cc nL own) (hr : meth.sig.returnType = some (.object C)) (hlk : meth.locks = false) (hc : cells ≤ mc) (hs : slots ≤ ms) (hH : HH D base σ H) (hS : va_S (mp_A base) s.heap H locs) (hq : ∀ t : State, PO (.returned (some (.ref a))) σ t) (hdg : decode cc pc = .ok (.areturn, 1)) :
    W p l e R s m args below meth c H locs cells slots (mp_Q below s mc ms base (mp_P D cl_L base s PO)) (F0 m pc ls [.ref a]) :=
  mp_aret x.1 x.2.1 hr (Or.inl ⟨_, rfl⟩) (Or.inr ⟨_, rfl⟩) hlk hc hs (fun t ht _ => ⟨⟨σ, hq t, by rw [ht]; exact hH⟩, hS.F ht⟩) hS.2.2 hdg
/-- an exception of a callee goes through -/
theorem mp_ro {a : Addr} {st : List Value} {t0 : State} {cls : String} (hlk : meth.locks = false) (hh : c.exceptionTable.toList.map (fun h => (h.startPc, h.endPc, h.handlerPc, h.catchType)) = []) (hc : cells ≤ mc) (hs : slots ≤ ms) (hH : HH D base σ H) (hS : va_S (mp_A base) s.heap H locs) (hT : mp_T cls a t0) (ht0 : t0.heap = H) (hvm : s.vm.Alike t0.vm) (hq : ∀ t : State, mp_T cls a t → PO (.threw a) σ t) :
    mp_WT p l e R s m args below meth c H locs cells slots (mp_Q below s mc ms base (mp_P D cl_L base s PO)) a (F0 m pc ls st) :=
  mp_out hlk hh hc hs (fun t ht hW => ⟨⟨σ, hq t (hT.mv (ht.trans ht0.symm) (hvm.symm.trans hW.alike)), by rw [ht]; exact hH⟩, hS.F ht⟩) hS.2.2
end MPG
/-- the words of an exception's making in SupplyGrid -/
theorem mp_at1 {WT : List Cond} {w : Cond} (h : w ∈ WT) : mp_At WT w := Or.inl h
theorem mp_at2 {WT : List Cond} : mp_At WT (.isRef (.static mp_thr "UNASSIGNED_STACK" mp_ste)) := Or.inr (Or.inl rfl)
theorem mp_at3 {WT : List Cond} : mp_At WT (.isRef (.static mp_thr "SUPPRESSED_SENTINEL" mp_lst)) := Or.inr (Or.inr (Or.inl rfl))
theorem mp_at4 {WT : List Cond} : mp_At WT (.laysStatic mp_thr "UNASSIGNED_STACK" mp_ste) := Or.inr (Or.inr (Or.inr (Or.inl rfl)))
theorem mp_at5 {WT : List Cond} : mp_At WT (.laysStatic mp_thr "SUPPRESSED_SENTINEL" mp_lst) := Or.inr (Or.inr (Or.inr (Or.inr rfl)))
theorem mp_own_iae : ∀ w ∈ Bundle.ownAtoms "SupplyGrid" 191 mp_iae ["java/lang/RuntimeException", "java/lang/Exception"], mp_At wt_L w := List.forall_mem_cons.mpr ⟨mp_at1 ww_61, List.forall_mem_cons.mpr ⟨mp_at1 ww_334, List.forall_mem_cons.mpr ⟨mp_at1 ww_343, List.forall_mem_cons.mpr ⟨mp_at1 ww_346, List.forall_mem_cons.mpr ⟨mp_at1 ww_349, List.forall_mem_cons.mpr ⟨mp_at1 ww_351, List.forall_mem_cons.mpr ⟨mp_at1 ww_335, List.forall_mem_cons.mpr ⟨mp_at1 ww_336, List.forall_mem_cons.mpr ⟨mp_at1 ww_75, List.forall_mem_cons.mpr ⟨mp_at1 ww_76, List.forall_mem_cons.mpr ⟨mp_at1 ww_337, List.forall_mem_cons.mpr ⟨mp_at1 ww_342, List.forall_mem_cons.mpr ⟨mp_at1 ww_347, List.forall_mem_cons.mpr ⟨mp_at1 ww_367, List.forall_mem_cons.mpr ⟨mp_at1 ww_324, List.forall_mem_cons.mpr ⟨mp_at1 ww_368, List.forall_mem_cons.mpr ⟨mp_at1 ww_326, List.forall_mem_cons.mpr ⟨mp_at1 ww_369, List.forall_mem_cons.mpr ⟨mp_at1 ww_328, List.forall_mem_cons.mpr ⟨mp_at1 ww_338, List.forall_mem_cons.mpr ⟨mp_at4, List.forall_mem_cons.mpr ⟨mp_at1 ww_340, List.forall_mem_cons.mpr ⟨mp_at5, List.forall_mem_cons.mpr ⟨mp_at1 ww_330, List.forall_mem_cons.mpr ⟨mp_at1 ww_363, List.forall_mem_cons.mpr ⟨mp_at1 ww_364, List.forall_mem_cons.mpr ⟨mp_at1 ww_366, List.forall_mem_cons.mpr ⟨mp_at1 ww_330, List.forall_mem_cons.mpr ⟨mp_at1 ww_354, List.forall_mem_cons.mpr ⟨mp_at1 ww_355, List.forall_mem_cons.mpr ⟨mp_at1 ww_356, List.forall_mem_cons.mpr ⟨mp_at1 ww_357, List.forall_mem_cons.mpr ⟨mp_at1 ww_316, List.forall_mem_cons.mpr ⟨mp_at1 ww_357, List.forall_mem_cons.mpr ⟨mp_at1 ww_358, List.forall_mem_cons.mpr ⟨mp_at1 ww_359, List.forall_mem_cons.mpr ⟨mp_at1 ww_360, List.forall_mem_cons.mpr ⟨mp_at1 ww_318, List.forall_mem_cons.mpr ⟨mp_at1 ww_360, List.forall_mem_cons.mpr ⟨mp_at1 ww_361, List.forall_mem_cons.mpr ⟨mp_at1 ww_362, List.forall_mem_cons.mpr ⟨mp_at1 ww_363, List.forall_mem_cons.mpr ⟨mp_at1 ww_320, List.forall_mem_cons.mpr ⟨mp_at1 ww_353, List.forall_mem_cons.mpr ⟨mp_at1 ww_313, List.forall_mem_cons.mpr ⟨mp_at1 ww_314, List.forall_mem_cons.mpr ⟨mp_at1 ww_321, List.forall_mem_cons.mpr ⟨mp_at1 ww_322, List.forall_mem_cons.mpr ⟨mp_at1 ww_323, List.forall_mem_cons.mpr ⟨mp_at1 ww_325, List.forall_mem_cons.mpr ⟨mp_at1 ww_327, List.forall_mem_cons.mpr ⟨mp_at1 ww_329, List.forall_mem_cons.mpr ⟨mp_at2, List.forall_mem_cons.mpr ⟨mp_at3, List.forall_mem_cons.mpr ⟨mp_at1 ww_333, List.forall_mem_cons.mpr ⟨mp_at1 ww_332, List.forall_mem_cons.mpr ⟨mp_at1 ww_331, fun _ h => absurd h List.not_mem_nil⟩⟩⟩⟩⟩⟩⟩⟩⟩⟩⟩⟩⟩⟩⟩⟩⟩⟩⟩⟩⟩⟩⟩⟩⟩⟩⟩⟩⟩⟩⟩⟩⟩⟩⟩⟩⟩⟩⟩⟩⟩⟩⟩⟩⟩⟩⟩⟩⟩⟩⟩⟩⟩⟩⟩⟩⟩
theorem mp_own_ise : ∀ w ∈ Bundle.ownAtoms "SupplyGrid" 48 mp_ise ["java/lang/RuntimeException", "java/lang/Exception"], mp_At wt_L w := List.forall_mem_cons.mpr ⟨mp_at1 ww_61, List.forall_mem_cons.mpr ⟨mp_at1 ww_334, List.forall_mem_cons.mpr ⟨mp_at1 ww_343, List.forall_mem_cons.mpr ⟨mp_at1 ww_346, List.forall_mem_cons.mpr ⟨mp_at1 ww_349, List.forall_mem_cons.mpr ⟨mp_at1 ww_351, List.forall_mem_cons.mpr ⟨mp_at1 ww_335, List.forall_mem_cons.mpr ⟨mp_at1 ww_336, List.forall_mem_cons.mpr ⟨mp_at1 ww_75, List.forall_mem_cons.mpr ⟨mp_at1 ww_76, List.forall_mem_cons.mpr ⟨mp_at1 ww_337, List.forall_mem_cons.mpr ⟨mp_at1 ww_342, List.forall_mem_cons.mpr ⟨mp_at1 ww_347, List.forall_mem_cons.mpr ⟨mp_at1 ww_367, List.forall_mem_cons.mpr ⟨mp_at1 ww_324, List.forall_mem_cons.mpr ⟨mp_at1 ww_368, List.forall_mem_cons.mpr ⟨mp_at1 ww_326, List.forall_mem_cons.mpr ⟨mp_at1 ww_369, List.forall_mem_cons.mpr ⟨mp_at1 ww_328, List.forall_mem_cons.mpr ⟨mp_at1 ww_338, List.forall_mem_cons.mpr ⟨mp_at4, List.forall_mem_cons.mpr ⟨mp_at1 ww_340, List.forall_mem_cons.mpr ⟨mp_at5, List.forall_mem_cons.mpr ⟨mp_at1 ww_330, List.forall_mem_cons.mpr ⟨mp_at1 ww_363, List.forall_mem_cons.mpr ⟨mp_at1 ww_364, List.forall_mem_cons.mpr ⟨mp_at1 ww_366, List.forall_mem_cons.mpr ⟨mp_at1 ww_330, List.forall_mem_cons.mpr ⟨mp_at1 ww_394, List.forall_mem_cons.mpr ⟨mp_at1 ww_395, List.forall_mem_cons.mpr ⟨mp_at1 ww_396, List.forall_mem_cons.mpr ⟨mp_at1 ww_357, List.forall_mem_cons.mpr ⟨mp_at1 ww_316, List.forall_mem_cons.mpr ⟨mp_at1 ww_357, List.forall_mem_cons.mpr ⟨mp_at1 ww_358, List.forall_mem_cons.mpr ⟨mp_at1 ww_359, List.forall_mem_cons.mpr ⟨mp_at1 ww_360, List.forall_mem_cons.mpr ⟨mp_at1 ww_318, List.forall_mem_cons.mpr ⟨mp_at1 ww_360, List.forall_mem_cons.mpr ⟨mp_at1 ww_361, List.forall_mem_cons.mpr ⟨mp_at1 ww_362, List.forall_mem_cons.mpr ⟨mp_at1 ww_363, List.forall_mem_cons.mpr ⟨mp_at1 ww_320, List.forall_mem_cons.mpr ⟨mp_at1 ww_393, List.forall_mem_cons.mpr ⟨mp_at1 ww_384, List.forall_mem_cons.mpr ⟨mp_at1 ww_385, List.forall_mem_cons.mpr ⟨mp_at1 ww_386, List.forall_mem_cons.mpr ⟨mp_at1 ww_345, List.forall_mem_cons.mpr ⟨mp_at1 ww_387, List.forall_mem_cons.mpr ⟨mp_at1 ww_388, List.forall_mem_cons.mpr ⟨mp_at1 ww_389, List.forall_mem_cons.mpr ⟨mp_at1 ww_390, List.forall_mem_cons.mpr ⟨mp_at2, List.forall_mem_cons.mpr ⟨mp_at3, List.forall_mem_cons.mpr ⟨mp_at1 ww_333, List.forall_mem_cons.mpr ⟨mp_at1 ww_332, List.forall_mem_cons.mpr ⟨mp_at1 ww_391, fun _ h => absurd h List.not_mem_nil⟩⟩⟩⟩⟩⟩⟩⟩⟩⟩⟩⟩⟩⟩⟩⟩⟩⟩⟩⟩⟩⟩⟩⟩⟩⟩⟩⟩⟩⟩⟩⟩⟩⟩⟩⟩⟩⟩⟩⟩⟩⟩⟩⟩⟩⟩⟩⟩⟩⟩⟩⟩⟩⟩⟩⟩⟩
end
section
/-! ROWS that give the new store a name: what was written, and that the rest is as it was. -/
section MPN
variable {p : Program} {l : Launch} {e : Env} {R : Room} {s : State} {m : MethodId} {args : Array Value} {below : List Frame} {meth : Method} {c : Code} {H : Heap} {locs : List Loc} {cells slots : Nat} {Q : State → Prop}
variable {cc : ByteArray} {nL pc : Nat} {ls : Array Slot} {rest : List Value} {D : va_G} {ar : Nat → ClassId} {base : Nat} {σ : mp_M} {a : Nat} {H0 : Heap} {own : String}
theorem mn_put (x : XX D ar p s m args c cc nL own) (hH : HH D base σ H) (hS0 : va_S (mp_A base) H0 H locs) {index ci k : Nat} {fs : List Value} (hs : σ a = some (.inr (ci, fs))) {ty : FieldType} (fl : mp_FP cl_L wt_L own index ci k ty false) {v : Value} (hn : narrow ty v = v) (hfit : fits ty v = true) (hlen : k < fs.length) {fs' : List Value} (hfs : fs.set k v = fs') (hdg : decode cc pc = .ok (.putfield index, 3))
    (kk : ∀ (σ1 : mp_M), σ1 a = some (.inr (ci, fs')) → (∀ q, q ≠ a → σ1 q = σ q) → ∀ (H1 : Heap) (locs1 : List Loc), HH D base σ1 H1 → va_S (mp_A base) H0 H1 locs1 → W p l e R s m args below meth c H1 locs1 cells slots Q (F0 m (pc + 3) ls rest)) : W p l e R s m args below meth c H locs cells slots Q (F0 m pc ls (v :: .ref a :: rest)) := by
  subst hfs
  exact mp_put x hH hS0 hs fl hn hfit hlen hdg (fun H1 locs1 h1 h2 => kk _ (mp_us _ _ _) (fun q hq => mp_un _ _ hq) H1 locs1 h1 h2)
theorem mn_putF (x : XX D ar p s m args c cc nL own) (hin2 : meth.name = "<init>") (hH : HH D base σ H) (hS0 : va_S (mp_A base) H0 H locs) {index ci k : Nat} {fs : List Value} (hs : σ a = some (.inr (ci, fs))) {ty : FieldType} (fl : mp_FF cl_L wt_L own index ci k ty) {v : Value} (hn : narrow ty v = v) (hfit : fits ty v = true) (hlen : k < fs.length) {fs' : List Value} (hfs : fs.set k v = fs') (hdg : decode cc pc = .ok (.putfield index, 3))
    (kk : ∀ (σ1 : mp_M), σ1 a = some (.inr (ci, fs')) → (∀ q, q ≠ a → σ1 q = σ q) → ∀ (H1 : Heap) (locs1 : List Loc), HH D base σ1 H1 → va_S (mp_A base) H0 H1 locs1 → W p l e R s m args below meth c H1 locs1 cells slots Q (F0 m (pc + 3) ls rest)) : W p l e R s m args below meth c H locs cells slots Q (F0 m pc ls (v :: .ref a :: rest)) := by
  subst hfs
  exact mp_putFF x hin2 hH hS0 hs fl hn hfit hlen hdg (fun H1 locs1 h1 h2 => kk _ (mp_us _ _ _) (fun q hq => mp_un _ _ hq) H1 locs1 h1 h2)
theorem mn_iast (x : XX D ar p s m args c cc nL own) (hH : HH D base σ H) (hS0 : va_S (mp_A base) H0 H locs) {n : Nat} {f : Nat → Int32} (hs : σ a = some (.inl (ar 0, n, .inl f))) {i v : Int32} (hin : vp_in i n) (hdg : decode cc pc = .ok (.iastore, 1))
    (kk : ∀ (σ1 : mp_M), σ1 a = some (.inl (ar 0, n, .inl (upd f i.toNatClampNeg v))) → (∀ q, q ≠ a → σ1 q = σ q) → ∀ (H1 : Heap) (locs1 : List Loc), HH D base σ1 H1 → va_S (mp_A base) H0 H1 locs1 → W p l e R s m args below meth c H1 locs1 cells slots Q (F0 m (pc + 1) ls rest)) : W p l e R s m args below meth c H locs cells slots Q (F0 m pc ls (.int v :: .int i :: .ref a :: rest)) :=
  mp_iast x hH hS0 0 hs rfl hin hdg (fun H1 locs1 h1 h2 => kk _ (mp_us _ _ _) (fun q hq => mp_un _ _ hq) H1 locs1 h1 h2)
theorem mn_iald (x : XX D ar p s m args c cc nL own) (hH : HH D base σ H) {n : Nat} {f : Nat → Int32} (hs : σ a = some (.inl (ar 0, n, .inl f))) {i : Int32} (hin : vp_in i n) (hdg : decode cc pc = .ok (.iaload, 1))
    (kk : W p l e R s m args below meth c H locs cells slots Q (F0 m (pc + 1) ls (.int (f i.toNatClampNeg) :: rest))) : W p l e R s m args below meth c H locs cells slots Q (F0 m pc ls (.int i :: .ref a :: rest)) := mp_iald x hH 0 hs rfl hin hdg kk
theorem mn_aald (x : XX D ar p s m args c cc nL own) (hH : HH D base σ H) (t0 : Nat) {C : String} {cA : ClassId} (ht : (ty_L ar)[t0]? = some (cA, .object C)) {n : Nat} {f : Nat → Option Nat} (hs : σ a = some (.inl (cA, n, .inr (.inr (.inr (.inr f)))))) {i : Int32} (hin : vp_in i n) {b : Nat} (hf : f i.toNatClampNeg = some b) (hdg : decode cc pc = .ok (.aaload, 1))
    (kk : W p l e R s m args below meth c H locs cells slots Q (F0 m (pc + 1) ls (.ref b :: rest))) : W p l e R s m args below meth c H locs cells slots Q (F0 m pc ls (.int i :: .ref a :: rest)) := mp_aald x hH t0 hs ht hin hdg (by rw [hf]; exact kk)
theorem mn_aaldN (x : XX D ar p s m args c cc nL own) (hH : HH D base σ H) (t0 : Nat) {C : String} {cA : ClassId} (ht : (ty_L ar)[t0]? = some (cA, .object C)) {n : Nat} {f : Nat → Option Nat} (hs : σ a = some (.inl (cA, n, .inr (.inr (.inr (.inr f)))))) {i : Int32} (hin : vp_in i n) (hf : f i.toNatClampNeg = none) (hdg : decode cc pc = .ok (.aaload, 1))
    (kk : W p l e R s m args below meth c H locs cells slots Q (F0 m (pc + 1) ls (.null :: rest))) : W p l e R s m args below meth c H locs cells slots Q (F0 m pc ls (.int i :: .ref a :: rest)) := mp_aald x hH t0 hs ht hin hdg (by rw [hf]; exact kk)
theorem mn_aast (x : XX D ar p s m args c cc nL own) (hH : HH D base σ H) (hS0 : va_S (mp_A base) H0 H locs) (t0 : Nat) {cA : ClassId} {r : vw_C} {n v ci : Nat} {vs : List Value} {f : Nat → Option Nat} (ht : (ty_L ar)[t0]? = some (cA, .object r.1)) (hc : cl_L[ci]? = some r) (hs : σ a = some (.inl (cA, n, .inr (.inr (.inr (.inr f)))))) (hv : σ v = some (.inr (ci, vs))) {i : Int32} (hin : vp_in i n) (hdg : decode cc pc = .ok (.aastore, 1))
    (kk : ∀ (σ1 : mp_M), σ1 a = some (.inl (cA, n, .inr (.inr (.inr (.inr (va_up f i.toNatClampNeg (some v))))))) → (∀ q, q ≠ a → σ1 q = σ q) → ∀ (H1 : Heap) (locs1 : List Loc), HH D base σ1 H1 → va_S (mp_A base) H0 H1 locs1 → W p l e R s m args below meth c H1 locs1 cells slots Q (F0 m (pc + 1) ls rest)) : W p l e R s m args below meth c H locs cells slots Q (F0 m pc ls (.ref v :: .int i :: .ref a :: rest)) :=
  mp_aast x hH hS0 t0 hs ht hv hc hin hdg (fun H1 locs1 h1 h2 => kk _ (mp_us _ _ _) (fun q hq => mp_un _ _ hq) H1 locs1 h1 h2)
end MPN
end
section
/-! NUMBERS by their naturals: the value on top in another writing; places of arrays; comparisons. -/
section MPV
variable {p : Program} {l : Launch} {e : Env} {R : Room} {s : State} {m : MethodId} {args : Array Value} {below : List Frame} {meth : Method} {c : Code} {H : Heap} {locs : List Loc} {cells slots : Nat} {Q : State → Prop}
variable {cc : ByteArray} {nL pc : Nat} {ls : Array Slot} {rest : List Value} {D : va_G} {ar : Nat → ClassId} {base : Nat} {σ : mp_M} {a : Nat} {H0 : Heap} {own : String}
theorem mn_top {v w : Int32} (h : v = w) (k : W p l e R s m args below meth c H locs cells slots Q (F0 m pc ls (.int w :: rest))) : W p l e R s m args below meth c H locs cells slots Q (F0 m pc ls (.int v :: rest)) := by rw [h]; exact k
theorem mn_ald (x : XX D ar p s m args c cc nL own) (hH : HH D base σ H) {n : Nat} {f : Nat → Int32} (hs : σ a = some (.inl (ar 0, n, .inl f))) {j : Nat} (hj : j < n) (hn : n < 2 ^ 31) (hdg : decode cc pc = .ok (.iaload, 1))
    (kk : W p l e R s m args below meth c H locs cells slots Q (F0 m (pc + 1) ls (.int (f j) :: rest))) : W p l e R s m args below meth c H locs cells slots Q (F0 m pc ls (.int (nI j) :: .ref a :: rest)) :=
  mn_iald x hH hs (vp_in_nI hj hn) hdg (by rw [nI_clamp (Nat.lt_trans hj hn)]; exact kk)
theorem mn_ast (x : XX D ar p s m args c cc nL own) (hH : HH D base σ H) (hS0 : va_S (mp_A base) H0 H locs) {n : Nat} {f : Nat → Int32} (hs : σ a = some (.inl (ar 0, n, .inl f))) {j : Nat} {v : Int32} (hj : j < n) (hn : n < 2 ^ 31) (hdg : decode cc pc = .ok (.iastore, 1))
    (kk : ∀ (σ1 : mp_M), σ1 a = some (.inl (ar 0, n, .inl (upd f j v))) → (∀ q, q ≠ a → σ1 q = σ q) → ∀ (H1 : Heap) (locs1 : List Loc), HH D base σ1 H1 → va_S (mp_A base) H0 H1 locs1 → W p l e R s m args below meth c H1 locs1 cells slots Q (F0 m (pc + 1) ls rest)) : W p l e R s m args below meth c H locs cells slots Q (F0 m pc ls (.int v :: .int (nI j) :: .ref a :: rest)) :=
  mn_iast x hH hS0 hs (vp_in_nI hj hn) hdg (by rw [nI_clamp (Nat.lt_trans hj hn)]; exact kk)
end MPV
theorem mn_inc (A : Nat) : nI A + Int32.ofInt 1 = nI (A + 1) := nI_1 A
theorem cv_lt {a b : Nat} (ha : a < 2 ^ 31) (hb : b < 2 ^ 31) : nI a < nI b ↔ a < b := nI_ltI ha hb
theorem cv_le {a b : Nat} (ha : a < 2 ^ 31) (hb : b < 2 ^ 31) : nI a ≤ nI b ↔ a ≤ b := nI_leI ha hb
theorem cv_eq {a b : Nat} (ha : a < 2 ^ 31) (hb : b < 2 ^ 31) : nI a = nI b ↔ a = b := nI_eq ha hb
/-- a number that is one of 0 .. n-1 -/
def inR (v : Int32) (n : Nat) : Prop := ∃ j, j < n ∧ v = nI j
theorem inR_of {v : Int32} {n : Nat} (hn : n < 2 ^ 31) (h0 : ¬ v < 0) (h1 : v < nI n) : inR v n := by
  rcases pk_ix v hn with h | h | h
  · exact absurd h h0
  · exact absurd h1 (Int32.not_lt.mpr h)
  · exact h
theorem inR_lt {v : Int32} {n : Nat} (hn : n < 2 ^ 31) (h : inR v n) : ¬ v < 0 ∧ v < nI n := by
  obtain ⟨j, hj, rfl⟩ := h
  exact ⟨nI_pos (Nat.lt_trans hj hn), nI_lt hj hn⟩
end
section
-- ak_forgetAnswers
set_option maxRecDepth 100000 in
set_option maxHeartbeats 4000000 in
theorem kk_ak_forgetAnswers {l : Launch} {D : va_G} {ar : Nat → ClassId} {base : Nat} {σ : mp_M} {a : Nat} {x0 x1 x2 x3 x4 x5 x6 x7 : Int32} (h0 : σ a = some (.inr (0, [.int x0, .int x1, .int x2, .int x3, .int x4, .int x5, .int x6, .int x7])))  : CN l D ar base yy_ak_forgetAnswers prog_2_method_7_code 1 (Option.none : Option Jvm.ClassFile.FieldType) [] 0 0 0 0 [.ref a] σ (fun o σ' _ => o = .returned none ∧ σ' a = some (.inr (0, [.int x0, .int x1, .int x2, .int x3, .int (nI 0), .int x5, .int (nI 0), .int (-1)])) ∧ ∀ q, q ≠ a → σ' q = σ q) := by
  refine mp_in (Nat.le_of_ble_eq_true rfl) ?_
  intro p e R s m below meth c x hfr hlo hce hsl hr hlk hin hex hG hB ls H hH0 hH hS hl
  have hl : lv_has ls 1 [(0, .ref a)] := hl
  refine lv_aload_n x.1 x.2.1 dd_ak_forgetAnswers_0 rfl (lv_at hl 0 rfl) ?_
  refine lv_iconst (v := nI 0) x.1 x.2.1 dd_ak_forgetAnswers_1 (by decide +kernel) ?_
  refine mn_put x hH hS h0 fp_ak_39 rfl rfl (Nat.le_of_ble_eq_true rfl) (fs' := [.int x0, .int x1, .int x2, .int x3, .int (nI 0), .int x5, .int x6, .int x7]) rfl dd_ak_forgetAnswers_2 (fun σ3 f1 o2 H locs hH hS => ?_)
  refine lv_aload_n x.1 x.2.1 dd_ak_forgetAnswers_5 rfl (lv_at hl 0 rfl) ?_
  refine lv_iconst (v := nI 0) x.1 x.2.1 dd_ak_forgetAnswers_6 (by decide +kernel) ?_
  refine mn_put x hH hS f1 fp_ak_33 rfl rfl (Nat.le_of_ble_eq_true rfl) (fs' := [.int x0, .int x1, .int x2, .int x3, .int (nI 0), .int x5, .int (nI 0), .int x7]) rfl dd_ak_forgetAnswers_7 (fun σ6 f4 o5 H locs hH hS => ?_)
  refine lv_aload_n x.1 x.2.1 dd_ak_forgetAnswers_10 rfl (lv_at hl 0 rfl) ?_
  refine lv_iconst (v := (-1)) x.1 x.2.1 dd_ak_forgetAnswers_11 (by decide +kernel) ?_
  refine mn_put x hH hS f4 fp_ak_36 rfl rfl (Nat.le_of_ble_eq_true rfl) (fs' := [.int x0, .int x1, .int x2, .int x3, .int (nI 0), .int x5, .int (nI 0), .int (-1)]) rfl dd_ak_forgetAnswers_12 (fun σ9 f7 o8 H locs hH hS => ?_)
  exact mp_rv x hr hlk (by decide) (by decide) hH hS (fun _ => ⟨rfl, f7, fun q z0 => ((o8 q z0).trans ((o5 q z0).trans (o2 q z0)))⟩) dd_ak_forgetAnswers_15
-- ak_end
set_option maxRecDepth 100000 in
set_option maxHeartbeats 4000000 in
theorem kk_ak_end {l : Launch} {D : va_G} {ar : Nat → ClassId} {base : Nat} {σ : mp_M} {a : Nat} {x0 x1 x2 x3 x4 x5 x6 x7 : Int32} (h0 : σ a = some (.inr (0, [.int x0, .int x1, .int x2, .int x3, .int x4, .int x5, .int x6, .int x7])))  : CN l D ar base yy_ak_end prog_2_method_3_code 1 (Option.none : Option Jvm.ClassFile.FieldType) [] 1 12 0 0 [.ref a] σ (fun o σ' _ => o = .returned none ∧ σ' a = some (.inr (0, [.int (nI 0), .int (-1), .int (nI 0), .int (nI 0), .int (nI 0), .int (nI 0), .int (nI 0), .int (-1)])) ∧ ∀ q, q ≠ a → σ' q = σ q) := by
  refine mp_in (Nat.le_of_ble_eq_true rfl) ?_
  intro p e R s m below meth c x hfr hlo hce hsl hr hlk hin hex hG hB ls H hH0 hH hS hl
  have hl : lv_has ls 1 [(0, .ref a)] := hl
  refine lv_aload_n x.1 x.2.1 dd_ak_end_0 rfl (lv_at hl 0 rfl) ?_
  refine lv_iconst (v := nI 0) x.1 x.2.1 dd_ak_end_1 (by decide +kernel) ?_
  refine mn_put x hH hS h0 fp_ak_18 rfl rfl (Nat.le_of_ble_eq_true rfl) (fs' := [.int (nI 0), .int x1, .int x2, .int x3, .int x4, .int x5, .int x6, .int x7]) rfl dd_ak_end_2 (fun σ12 f10 o11 H locs hH hS => ?_)
  refine lv_aload_n x.1 x.2.1 dd_ak_end_5 rfl (lv_at hl 0 rfl) ?_
  refine lv_iconst (v := (-1)) x.1 x.2.1 dd_ak_end_6 (by decide +kernel) ?_
  refine mn_put x hH hS f10 fp_ak_21 rfl rfl (Nat.le_of_ble_eq_true rfl) (fs' := [.int (nI 0), .int (-1), .int x2, .int x3, .int x4, .int x5, .int x6, .int x7]) rfl dd_ak_end_7 (fun σ15 f13 o14 H locs hH hS => ?_)
  refine lv_aload_n x.1 x.2.1 dd_ak_end_10 rfl (lv_at hl 0 rfl) ?_
  refine lv_iconst (v := nI 0) x.1 x.2.1 dd_ak_end_11 (by decide +kernel) ?_
  refine mn_put x hH hS f13 fp_ak_24 rfl rfl (Nat.le_of_ble_eq_true rfl) (fs' := [.int (nI 0), .int (-1), .int (nI 0), .int x3, .int x4, .int x5, .int x6, .int x7]) rfl dd_ak_end_12 (fun σ18 f16 o17 H locs hH hS => ?_)
  refine lv_aload_n x.1 x.2.1 dd_ak_end_15 rfl (lv_at hl 0 rfl) ?_
  refine lv_iconst (v := nI 0) x.1 x.2.1 dd_ak_end_16 (by decide +kernel) ?_
  refine mn_put x hH hS f16 fp_ak_14 rfl rfl (Nat.le_of_ble_eq_true rfl) (fs' := [.int (nI 0), .int (-1), .int (nI 0), .int (nI 0), .int x4, .int x5, .int x6, .int x7]) rfl dd_ak_end_17 (fun σ21 f19 o20 H locs hH hS => ?_)
  refine lv_aload_n x.1 x.2.1 dd_ak_end_20 rfl (lv_at hl 0 rfl) ?_
  refine lv_iconst (v := nI 0) x.1 x.2.1 dd_ak_end_21 (by decide +kernel) ?_
  refine mn_put x hH hS f19 fp_ak_27 rfl rfl (Nat.le_of_ble_eq_true rfl) (fs' := [.int (nI 0), .int (-1), .int (nI 0), .int (nI 0), .int x4, .int (nI 0), .int x6, .int x7]) rfl dd_ak_end_22 (fun σ24 f22 o23 H locs hH hS => ?_)
  refine lv_aload_n x.1 x.2.1 dd_ak_end_25 rfl (lv_at hl 0 rfl) ?_
  refine mp_call x (wt_mv base) hG hB hl.1 (mp_invV (av := []) x hH f22 rfl rfl mn_ak_forgetAnswers mc_ak_forgetAnswers (Or.inl ww_113) ww_115 ww_1 rfl dd_ak_end_26) (kk_ak_forgetAnswers f22) (Nat.le_trans (Nat.le_of_ble_eq_true rfl) hfr) (Nat.le_trans (Nat.le_of_ble_eq_true rfl) hlo) (Nat.le_trans (Nat.le_of_ble_eq_true rfl) hce) (Nat.le_trans (Nat.le_of_ble_eq_true rfl) hsl) hH hS (fun v σa t H locs hp25 ht hvm hz hH hS => ?_) (fun _ _ _ _ _ hz _ _ _ _ _ => by cases hz.1)
  obtain ⟨ho, f26, o27⟩ := hp25
  cases ho
  refine W.eq (g2 := F0 m 29 ls []) rfl ?_
  exact mp_rv x hr hlk (by decide) (by decide) hH hS (fun _ => ⟨rfl, f26, fun q z0 => ((o27 q z0).trans ((o23 q z0).trans ((o20 q z0).trans ((o17 q z0).trans ((o14 q z0).trans (o11 q z0))))))⟩) dd_ak_end_29
-- ak_begin
set_option maxRecDepth 100000 in
set_option maxHeartbeats 4000000 in
theorem kk_ak_begin {l : Launch} {D : va_G} {ar : Nat → ClassId} {base : Nat} {σ : mp_M} {a : Nat} {x0 x1 x2 x3 x4 x5 x6 x7 : Int32} {k j : Int32} (h0 : σ a = some (.inr (0, [.int x0, .int x1, .int x2, .int x3, .int x4, .int x5, .int x6, .int x7])))  : CN l D ar base yy_ak_begin prog_2_method_4_code 3 (Option.none : Option Jvm.ClassFile.FieldType) [] 2 24 0 0 [.ref a, .int k, .int j] σ (fun o σ' _ => o = .returned none ∧ σ' a = some (.inr (0, [.int k, .int j, .int (nI 0), .int (nI 0), .int (nI 0), .int (nI 0), .int (nI 0), .int (-1)])) ∧ ∀ q, q ≠ a → σ' q = σ q) := by
  refine mp_in (Nat.le_of_ble_eq_true rfl) ?_
  intro p e R s m below meth c x hfr hlo hce hsl hr hlk hin hex hG hB ls H hH0 hH hS hl
  have hl : lv_has ls 3 [(0, .ref a), (1, .int k), (2, .int j)] := hl
  refine lv_aload_n x.1 x.2.1 dd_ak_begin_0 rfl (lv_at hl 0 rfl) ?_
  refine mp_call x (wt_mv base) hG hB hl.1 (mp_invV (av := []) x hH h0 rfl rfl mn_ak_end mc_ak_end (Or.inl ww_109) ww_111 ww_0 rfl dd_ak_begin_1) (kk_ak_end h0) (Nat.le_trans (Nat.le_of_ble_eq_true rfl) hfr) (Nat.le_trans (Nat.le_of_ble_eq_true rfl) hlo) (Nat.le_trans (Nat.le_of_ble_eq_true rfl) hce) (Nat.le_trans (Nat.le_of_ble_eq_true rfl) hsl) hH hS (fun v σa t H locs hp28 ht hvm hz hH hS => ?_) (fun _ _ _ _ _ hz _ _ _ _ _ => by cases hz.1)
  obtain ⟨ho, f29, o30⟩ := hp28
  cases ho
  refine W.eq (g2 := F0 m 4 ls []) rfl ?_
  refine lv_aload_n x.1 x.2.1 dd_ak_begin_4 rfl (lv_at hl 0 rfl) ?_
  refine lv_iload_n x.1 x.2.1 dd_ak_begin_5 rfl (lv_at hl 1 rfl) ?_
  refine mn_put x hH hS f29 fp_ak_18 rfl rfl (Nat.le_of_ble_eq_true rfl) (fs' := [.int k, .int (-1), .int (nI 0), .int (nI 0), .int (nI 0), .int (nI 0), .int (nI 0), .int (-1)]) rfl dd_ak_begin_6 (fun σ33 f31 o32 H locs hH hS => ?_)
  refine lv_aload_n x.1 x.2.1 dd_ak_begin_9 rfl (lv_at hl 0 rfl) ?_
  refine lv_iload_n x.1 x.2.1 dd_ak_begin_10 rfl (lv_at hl 2 rfl) ?_
  refine mn_put x hH hS f31 fp_ak_21 rfl rfl (Nat.le_of_ble_eq_true rfl) (fs' := [.int k, .int j, .int (nI 0), .int (nI 0), .int (nI 0), .int (nI 0), .int (nI 0), .int (-1)]) rfl dd_ak_begin_11 (fun σ36 f34 o35 H locs hH hS => ?_)
  exact mp_rv x hr hlk (by decide) (by decide) hH hS (fun _ => ⟨rfl, f34, fun q z0 => ((o35 q z0).trans ((o32 q z0).trans (o30 q z0)))⟩) dd_ak_begin_14
-- ak_beginRound
set_option maxRecDepth 100000 in
set_option maxHeartbeats 4000000 in
theorem kk_ak_beginRound {l : Launch} {D : va_G} {ar : Nat → ClassId} {base : Nat} {σ : mp_M} {a : Nat} {x0 x1 x2 x3 x4 x5 x6 x7 : Int32} {k : Int32} (h0 : σ a = some (.inr (0, [.int x0, .int x1, .int x2, .int x3, .int x4, .int x5, .int x6, .int x7])))  : CN l D ar base yy_ak_beginRound prog_2_method_5_code 2 (Option.none : Option Jvm.ClassFile.FieldType) [] 1 12 0 0 [.ref a, .int k] σ (fun o σ' _ => o = .returned none ∧ σ' a = some (.inr (0, [.int x0, .int x1, .int k, .int (nI 1), .int (nI 0), .int x5, .int (nI 0), .int (-1)])) ∧ ∀ q, q ≠ a → σ' q = σ q) := by
  refine mp_in (Nat.le_of_ble_eq_true rfl) ?_
  intro p e R s m below meth c x hfr hlo hce hsl hr hlk hin hex hG hB ls H hH0 hH hS hl
  have hl : lv_has ls 2 [(0, .ref a), (1, .int k)] := hl
  refine lv_aload_n x.1 x.2.1 dd_ak_beginRound_0 rfl (lv_at hl 0 rfl) ?_
  refine lv_iload_n x.1 x.2.1 dd_ak_beginRound_1 rfl (lv_at hl 1 rfl) ?_
  refine mn_put x hH hS h0 fp_ak_24 rfl rfl (Nat.le_of_ble_eq_true rfl) (fs' := [.int x0, .int x1, .int k, .int x3, .int x4, .int x5, .int x6, .int x7]) rfl dd_ak_beginRound_2 (fun σ39 f37 o38 H locs hH hS => ?_)
  refine lv_aload_n x.1 x.2.1 dd_ak_beginRound_5 rfl (lv_at hl 0 rfl) ?_
  refine lv_iconst (v := nI 1) x.1 x.2.1 dd_ak_beginRound_6 (by decide +kernel) ?_
  refine mn_put x hH hS f37 fp_ak_14 rfl rfl (Nat.le_of_ble_eq_true rfl) (fs' := [.int x0, .int x1, .int k, .int (nI 1), .int x4, .int x5, .int x6, .int x7]) rfl dd_ak_beginRound_7 (fun σ42 f40 o41 H locs hH hS => ?_)
  refine lv_aload_n x.1 x.2.1 dd_ak_beginRound_10 rfl (lv_at hl 0 rfl) ?_
  refine mp_call x (wt_mv base) hG hB hl.1 (mp_invV (av := []) x hH f40 rfl rfl mn_ak_forgetAnswers mc_ak_forgetAnswers (Or.inl ww_113) ww_115 ww_1 rfl dd_ak_beginRound_11) (kk_ak_forgetAnswers f40) (Nat.le_trans (Nat.le_of_ble_eq_true rfl) hfr) (Nat.le_trans (Nat.le_of_ble_eq_true rfl) hlo) (Nat.le_trans (Nat.le_of_ble_eq_true rfl) hce) (Nat.le_trans (Nat.le_of_ble_eq_true rfl) hsl) hH hS (fun v σa t H locs hp43 ht hvm hz hH hS => ?_) (fun _ _ _ _ _ hz _ _ _ _ _ => by cases hz.1)
  obtain ⟨ho, f44, o45⟩ := hp43
  cases ho
  refine W.eq (g2 := F0 m 14 ls []) rfl ?_
  exact mp_rv x hr hlk (by decide) (by decide) hH hS (fun _ => ⟨rfl, f44, fun q z0 => ((o45 q z0).trans ((o41 q z0).trans (o38 q z0)))⟩) dd_ak_beginRound_14
-- ak_init
set_option maxRecDepth 100000 in
set_option maxHeartbeats 4000000 in
theorem kk_ak_init {l : Launch} {D : va_G} {ar : Nat → ClassId} {base : Nat} {σ : mp_M} {a : Nat} {x0 x1 x2 x3 x4 x5 x6 x7 : Int32} (h0 : σ a = some (.inr (0, [.int x0, .int x1, .int x2, .int x3, .int x4, .int x5, .int x6, .int x7])))  : CN l D ar base yy_ak_init prog_2_method_1_code 1 (Option.none : Option Jvm.ClassFile.FieldType) [] 2 24 0 0 [.ref a] σ (fun o σ' _ => o = .returned none ∧ σ' a = some (.inr (0, [.int (nI 0), .int (-1), .int (nI 0), .int (nI 0), .int (nI 0), .int (nI 0), .int (nI 0), .int (-1)])) ∧ ∀ q, q ≠ a → σ' q = σ q) := by
  refine mp_in (Nat.le_of_ble_eq_true rfl) ?_
  intro p e R s m below meth c x hfr hlo hce hsl hr hlk hin hex hG hB ls H hH0 hH hS hl
  have hl : lv_has ls 1 [(0, .ref a)] := hl
  refine lv_aload_n x.1 x.2.1 dd_ak_init_0 rfl (lv_at hl 0 rfl) ?_
  refine W.objInit x.1 x.2.1 x.2.2.2.1 (x.2.2.2.2.1 _ ww_108) (x.2.2.2.2.1 _ ww_75) (x.2.2.2.2.1 _ ww_76) rfl (hl.1.trans x.2.2.1.symm) rfl dd_ak_init_1 (Nat.le_trans (Nat.le_of_ble_eq_true rfl) hfr) (Nat.le_trans (Nat.le_of_ble_eq_true rfl) hlo) ?_
  refine W.eq (g2 := F0 m 4 ls []) rfl ?_
  refine lv_aload_n x.1 x.2.1 dd_ak_init_4 rfl (lv_at hl 0 rfl) ?_
  refine mp_call x (wt_mv base) hG hB hl.1 (mp_invV (av := []) x hH h0 rfl rfl mn_ak_end mc_ak_end (Or.inl ww_109) ww_111 ww_0 rfl dd_ak_init_5) (kk_ak_end h0) (Nat.le_trans (Nat.le_of_ble_eq_true rfl) hfr) (Nat.le_trans (Nat.le_of_ble_eq_true rfl) hlo) (Nat.le_trans (Nat.le_of_ble_eq_true rfl) hce) (Nat.le_trans (Nat.le_of_ble_eq_true rfl) hsl) hH hS (fun v σa t H locs hp46 ht hvm hz hH hS => ?_) (fun _ _ _ _ _ hz _ _ _ _ _ => by cases hz.1)
  obtain ⟨ho, f47, o48⟩ := hp46
  cases ho
  refine W.eq (g2 := F0 m 8 ls []) rfl ?_
  exact mp_rv x hr hlk (by decide) (by decide) hH hS (fun _ => ⟨rfl, f47, fun q z0 => (o48 q z0)⟩) dd_ak_init_8
-- ak_runs
set_option maxRecDepth 100000 in
set_option maxHeartbeats 4000000 in
theorem kk_ak_runs {l : Launch} {D : va_G} {ar : Nat → ClassId} {base : Nat} {σ : mp_M} {a : Nat} {x0 x1 x2 x3 x4 x5 x6 x7 : Int32} (h0 : σ a = some (.inr (0, [.int x0, .int x1, .int x2, .int x3, .int x4, .int x5, .int x6, .int x7])))  : CN l D ar base yy_ak_runs prog_2_method_2_code 1 (Option.some Jvm.ClassFile.FieldType.boolean) [] 0 0 0 0 [.ref a] σ (fun o σ' _ => o = .returned (some (.int (if x3 = 0 then nI 0 else nI 1))) ∧ σ' = σ) := by
  refine mp_in (Nat.le_of_ble_eq_true rfl) ?_
  intro p e R s m below meth c x hfr hlo hce hsl hr hlk hin hex hG hB ls H hH0 hH hS hl
  have hl : lv_has ls 1 [(0, .ref a)] := hl
  refine lv_aload_n x.1 x.2.1 dd_ak_runs_0 rfl (lv_at hl 0 rfl) ?_
  refine mp_get x hH h0 fg_ak_14 rfl dd_ak_runs_1 ?_
  refine lv_if_eq (tgt := 11) x.1 x.2.1 dd_ak_runs_4 (by decide) (fun c49 => ?_) (fun c49 => ?_)
  · refine lv_iconst (v := nI 0) x.1 x.2.1 dd_ak_runs_11 (by decide +kernel) ?_
    exact mp_rz x hr (by decide) hlk (by decide) (by decide) hH hS (fun _ => ⟨(congrArg (fun z => Outcome.returned (some (.int z))) ((if_pos c49).symm)), rfl⟩) dd_ak_runs_12
  · refine lv_iconst (v := nI 1) x.1 x.2.1 dd_ak_runs_7 (by decide +kernel) ?_
    refine lv_goto (tgt := 12) x.1 x.2.1 dd_ak_runs_8 (by decide) ?_
    exact mp_rz x hr (by decide) hlk (by decide) (by decide) hH hS (fun _ => ⟨(congrArg (fun z => Outcome.returned (some (.int z))) ((if_neg c49).symm)), rfl⟩) dd_ak_runs_12
-- ak_beginPhaseTwo
set_option maxRecDepth 100000 in
set_option maxHeartbeats 4000000 in
theorem kk_ak_beginPhaseTwo {l : Launch} {D : va_G} {ar : Nat → ClassId} {base : Nat} {σ : mp_M} {a : Nat} {x0 x1 x2 x3 x4 x5 x6 x7 : Int32} (h0 : σ a = some (.inr (0, [.int x0, .int x1, .int x2, .int x3, .int x4, .int x5, .int x6, .int x7])))  : CN l D ar base yy_ak_beginPhaseTwo prog_2_method_6_code 1 (Option.none : Option Jvm.ClassFile.FieldType) [] 1 12 0 0 [.ref a] σ (fun o σ' _ => o = .returned none ∧ σ' a = some (.inr (0, [.int x0, .int (if 0 < x6 then x7 else x1), .int x2, .int (nI 2), .int (nI 0), .int x5, .int (nI 0), .int (-1)])) ∧ ∀ q, q ≠ a → σ' q = σ q) := by
  refine mp_in (Nat.le_of_ble_eq_true rfl) ?_
  intro p e R s m below meth c x hfr hlo hce hsl hr hlk hin hex hG hB ls H hH0 hH hS hl
  have hl : lv_has ls 1 [(0, .ref a)] := hl
  refine lv_aload_n x.1 x.2.1 dd_ak_beginPhaseTwo_0 rfl (lv_at hl 0 rfl) ?_
  refine mp_get x hH h0 fg_ak_33 rfl dd_ak_beginPhaseTwo_1 ?_
  refine lv_if_le (tgt := 15) x.1 x.2.1 dd_ak_beginPhaseTwo_4 (by decide) (fun c50 => ?_) (fun c50 => ?_)
  · refine lv_aload_n x.1 x.2.1 dd_ak_beginPhaseTwo_15 rfl (lv_at hl 0 rfl) ?_
    refine lv_iconst (v := nI 2) x.1 x.2.1 dd_ak_beginPhaseTwo_16 (by decide +kernel) ?_
    refine mn_put x hH hS h0 fp_ak_14 rfl rfl (Nat.le_of_ble_eq_true rfl) (fs' := [.int x0, .int x1, .int x2, .int (nI 2), .int x4, .int x5, .int x6, .int x7]) rfl dd_ak_beginPhaseTwo_17 (fun σ53 f51 o52 H locs hH hS => ?_)
    refine lv_aload_n x.1 x.2.1 dd_ak_beginPhaseTwo_20 rfl (lv_at hl 0 rfl) ?_
    refine mp_call x (wt_mv base) hG hB hl.1 (mp_invV (av := []) x hH f51 rfl rfl mn_ak_forgetAnswers mc_ak_forgetAnswers (Or.inl ww_113) ww_115 ww_1 rfl dd_ak_beginPhaseTwo_21) (kk_ak_forgetAnswers f51) (Nat.le_trans (Nat.le_of_ble_eq_true rfl) hfr) (Nat.le_trans (Nat.le_of_ble_eq_true rfl) hlo) (Nat.le_trans (Nat.le_of_ble_eq_true rfl) hce) (Nat.le_trans (Nat.le_of_ble_eq_true rfl) hsl) hH hS (fun v σa t H locs hp54 ht hvm hz hH hS => ?_) (fun _ _ _ _ _ hz _ _ _ _ _ => by cases hz.1)
    obtain ⟨ho, f55, o56⟩ := hp54
    cases ho
    refine W.eq (g2 := F0 m 24 ls []) rfl ?_
    exact mp_rv x hr hlk (by decide) (by decide) hH hS (fun _ => ⟨rfl, (f55.trans (congrArg some (by rw [if_neg (Int32.not_lt.mpr c50)]))), fun q z0 => ((o56 q z0).trans (o52 q z0))⟩) dd_ak_beginPhaseTwo_24
  · refine lv_aload_n x.1 x.2.1 dd_ak_beginPhaseTwo_7 rfl (lv_at hl 0 rfl) ?_
    refine lv_aload_n x.1 x.2.1 dd_ak_beginPhaseTwo_8 rfl (lv_at hl 0 rfl) ?_
    refine mp_get x hH h0 fg_ak_36 rfl dd_ak_beginPhaseTwo_9 ?_
    refine mn_put x hH hS h0 fp_ak_21 rfl rfl (Nat.le_of_ble_eq_true rfl) (fs' := [.int x0, .int x7, .int x2, .int x3, .int x4, .int x5, .int x6, .int x7]) rfl dd_ak_beginPhaseTwo_12 (fun σ59 f57 o58 H locs hH hS => ?_)
    refine lv_aload_n x.1 x.2.1 dd_ak_beginPhaseTwo_15 rfl (lv_at hl 0 rfl) ?_
    refine lv_iconst (v := nI 2) x.1 x.2.1 dd_ak_beginPhaseTwo_16 (by decide +kernel) ?_
    refine mn_put x hH hS f57 fp_ak_14 rfl rfl (Nat.le_of_ble_eq_true rfl) (fs' := [.int x0, .int x7, .int x2, .int (nI 2), .int x4, .int x5, .int x6, .int x7]) rfl dd_ak_beginPhaseTwo_17 (fun σ62 f60 o61 H locs hH hS => ?_)
    refine lv_aload_n x.1 x.2.1 dd_ak_beginPhaseTwo_20 rfl (lv_at hl 0 rfl) ?_
    refine mp_call x (wt_mv base) hG hB hl.1 (mp_invV (av := []) x hH f60 rfl rfl mn_ak_forgetAnswers mc_ak_forgetAnswers (Or.inl ww_113) ww_115 ww_1 rfl dd_ak_beginPhaseTwo_21) (kk_ak_forgetAnswers f60) (Nat.le_trans (Nat.le_of_ble_eq_true rfl) hfr) (Nat.le_trans (Nat.le_of_ble_eq_true rfl) hlo) (Nat.le_trans (Nat.le_of_ble_eq_true rfl) hce) (Nat.le_trans (Nat.le_of_ble_eq_true rfl) hsl) hH hS (fun v σa t H locs hp63 ht hvm hz hH hS => ?_) (fun _ _ _ _ _ hz _ _ _ _ _ => by cases hz.1)
    obtain ⟨ho, f64, o65⟩ := hp63
    cases ho
    refine W.eq (g2 := F0 m 24 ls []) rfl ?_
    exact mp_rv x hr hlk (by decide) (by decide) hH hS (fun _ => ⟨rfl, (f64.trans (congrArg some (by rw [if_pos (Int32.not_le.mp c50)]))), fun q z0 => ((o65 q z0).trans ((o61 q z0).trans (o58 q z0)))⟩) dd_ak_beginPhaseTwo_24
-- ak_waitsFor
set_option maxRecDepth 100000 in
set_option maxHeartbeats 4000000 in
theorem kk_ak_waitsFor {l : Launch} {D : va_G} {ar : Nat → ClassId} {base : Nat} {σ : mp_M} {a : Nat} {x0 x1 x2 x3 x4 x5 x6 x7 : Int32} {b kn : Nat} {y1 y2 y3 y4 y5 y6 y7 y8 : Int32} {k : Int32} (h0 : σ a = some (.inr (0, [.int x0, .int x1, .int x2, .int x3, .int x4, .int x5, .int x6, .int x7]))) (h1 : σ b = some (.inr (2, [.ref kn, .int y1, .int y2, .int y3, .int y4, .int y5, .int y6, .int y7, .int y8])))  : CN l D ar base yy_ak_waitsFor prog_2_method_8_code 3 (Option.some Jvm.ClassFile.FieldType.boolean) [] 0 0 0 0 [.ref a, .ref b, .int k] σ (fun o σ' _ => o = .returned (some (.int (if x3 = k ∧ y5 = x0 ∧ y6 = x2 then nI 1 else nI 0))) ∧ σ' = σ) := by
  refine mp_in (Nat.le_of_ble_eq_true rfl) ?_
  intro p e R s m below meth c x hfr hlo hce hsl hr hlk hin hex hG hB ls H hH0 hH hS hl
  have hl : lv_has ls 3 [(0, .ref a), (1, .ref b), (2, .int k)] := hl
  refine lv_aload_n x.1 x.2.1 dd_ak_waitsFor_0 rfl (lv_at hl 0 rfl) ?_
  refine mp_get x hH h0 fg_ak_14 rfl dd_ak_waitsFor_1 ?_
  refine lv_iload_n x.1 x.2.1 dd_ak_waitsFor_4 rfl (lv_at hl 2 rfl) ?_
  refine lv_icmp_ne (tgt := 34) x.1 x.2.1 dd_ak_waitsFor_5 (by decide) (fun c66 => ?_) (fun c66 => ?_)
  · refine lv_iconst (v := nI 0) x.1 x.2.1 dd_ak_waitsFor_34 (by decide +kernel) ?_
    exact mp_rz x hr (by decide) hlk (by decide) (by decide) hH hS (fun _ => ⟨(congrArg (fun z => Outcome.returned (some (.int z))) (by simp [c66])), rfl⟩) dd_ak_waitsFor_35
  · refine lv_aload_n x.1 x.2.1 dd_ak_waitsFor_8 rfl (lv_at hl 1 rfl) ?_
    refine mp_get x hH h1 fg_ak_42 rfl dd_ak_waitsFor_9 ?_
    refine lv_aload_n x.1 x.2.1 dd_ak_waitsFor_12 rfl (lv_at hl 0 rfl) ?_
    refine mp_get x hH h0 fg_ak_18 rfl dd_ak_waitsFor_13 ?_
    refine lv_icmp_ne (tgt := 34) x.1 x.2.1 dd_ak_waitsFor_16 (by decide) (fun c67 => ?_) (fun c67 => ?_)
    · refine lv_iconst (v := nI 0) x.1 x.2.1 dd_ak_waitsFor_34 (by decide +kernel) ?_
      exact mp_rz x hr (by decide) hlk (by decide) (by decide) hH hS (fun _ => ⟨(congrArg (fun z => Outcome.returned (some (.int z))) (by simp [c66, c67])), rfl⟩) dd_ak_waitsFor_35
    · refine lv_aload_n x.1 x.2.1 dd_ak_waitsFor_19 rfl (lv_at hl 1 rfl) ?_
      refine mp_get x hH h1 fg_ak_45 rfl dd_ak_waitsFor_20 ?_
      refine lv_aload_n x.1 x.2.1 dd_ak_waitsFor_23 rfl (lv_at hl 0 rfl) ?_
      refine mp_get x hH h0 fg_ak_24 rfl dd_ak_waitsFor_24 ?_
      refine lv_icmp_ne (tgt := 34) x.1 x.2.1 dd_ak_waitsFor_27 (by decide) (fun c68 => ?_) (fun c68 => ?_)
      · refine lv_iconst (v := nI 0) x.1 x.2.1 dd_ak_waitsFor_34 (by decide +kernel) ?_
        exact mp_rz x hr (by decide) hlk (by decide) (by decide) hH hS (fun _ => ⟨(congrArg (fun z => Outcome.returned (some (.int z))) (by simp [c66, c67, c68])), rfl⟩) dd_ak_waitsFor_35
      · refine lv_iconst (v := nI 1) x.1 x.2.1 dd_ak_waitsFor_30 (by decide +kernel) ?_
        refine lv_goto (tgt := 35) x.1 x.2.1 dd_ak_waitsFor_31 (by decide) ?_
        exact mp_rz x hr (by decide) hlk (by decide) (by decide) hH hS (fun _ => ⟨(congrArg (fun z => Outcome.returned (some (.int z))) (by simp [c66, c67, c68])), rfl⟩) dd_ak_waitsFor_35
-- ak_countAnswer
set_option maxRecDepth 100000 in
set_option maxHeartbeats 4000000 in
theorem kk_ak_countAnswer {l : Launch} {D : va_G} {ar : Nat → ClassId} {base : Nat} {σ : mp_M} {a : Nat} {x0 x1 x2 x3 x4 x5 x6 x7 : Int32} {b kn : Nat} {y1 y2 y3 y4 y5 y6 y7 y8 : Int32} (h0 : σ a = some (.inr (0, [.int x0, .int x1, .int x2, .int x3, .int x4, .int x5, .int x6, .int x7]))) (h1 : σ b = some (.inr (2, [.ref kn, .int y1, .int y2, .int y3, .int y4, .int y5, .int y6, .int y7, .int y8])))  : CN l D ar base yy_ak_countAnswer prog_2_method_9_code 2 (Option.none : Option Jvm.ClassFile.FieldType) [] 0 0 0 0 [.ref a, .ref b] σ (fun o σ' _ => o = .returned none ∧ σ' a = some (.inr (0, [.int x0, .int x1, .int x2, .int x3, .int (x4 ||| nI 1 <<< (y2 &&& 31)), .int x5, .int (if x6 < y7 then y7 else x6), .int (if x6 < y7 then y8 else x7)])) ∧ ∀ q, q ≠ a → σ' q = σ q) := by
  refine mp_in (Nat.le_of_ble_eq_true rfl) ?_
  intro p e R s m below meth c x hfr hlo hce hsl hr hlk hin hex hG hB ls H hH0 hH hS hl
  have hl : lv_has ls 2 [(0, .ref a), (1, .ref b)] := hl
  refine lv_aload_n x.1 x.2.1 dd_ak_countAnswer_0 rfl (lv_at hl 0 rfl) ?_
  refine lv_dup x.1 x.2.1 dd_ak_countAnswer_1 rfl ?_
  refine mp_get x hH h0 fg_ak_39 rfl dd_ak_countAnswer_2 ?_
  refine lv_iconst (v := nI 1) x.1 x.2.1 dd_ak_countAnswer_5 (by decide +kernel) ?_
  refine lv_aload_n x.1 x.2.1 dd_ak_countAnswer_6 rfl (lv_at hl 1 rfl) ?_
  refine mp_get x hH h1 fg_ak_46 rfl dd_ak_countAnswer_7 ?_
  refine lv_ishl x.1 x.2.1 dd_ak_countAnswer_10 ?_
  refine lv_ior x.1 x.2.1 dd_ak_countAnswer_11 ?_
  refine mn_put x hH hS h0 fp_ak_39 rfl rfl (Nat.le_of_ble_eq_true rfl) (fs' := [.int x0, .int x1, .int x2, .int x3, .int (x4 ||| ((nI 1) <<< (y2 &&& 31))), .int x5, .int x6, .int x7]) rfl dd_ak_countAnswer_12 (fun σ71 f69 o70 H locs hH hS => ?_)
  have f72 := (o70 _ (mp_neC h1 h0 (by decide))).trans h1
  refine lv_aload_n x.1 x.2.1 dd_ak_countAnswer_15 rfl (lv_at hl 1 rfl) ?_
  refine mp_get x hH f72 fg_ak_49 rfl dd_ak_countAnswer_16 ?_
  refine lv_aload_n x.1 x.2.1 dd_ak_countAnswer_19 rfl (lv_at hl 0 rfl) ?_
  refine mp_get x hH f69 fg_ak_33 rfl dd_ak_countAnswer_20 ?_
  refine lv_icmp_le (tgt := 42) x.1 x.2.1 dd_ak_countAnswer_23 (by decide) (fun c73 => ?_) (fun c73 => ?_)
  · exact mp_rv x hr hlk (by decide) (by decide) hH hS (fun _ => ⟨rfl, (f69.trans (congrArg some (by rw [if_neg (Int32.not_lt.mpr c73), if_neg (Int32.not_lt.mpr c73)]))), fun q z0 => (o70 q z0)⟩) dd_ak_countAnswer_42
  · refine lv_aload_n x.1 x.2.1 dd_ak_countAnswer_26 rfl (lv_at hl 0 rfl) ?_
    refine lv_aload_n x.1 x.2.1 dd_ak_countAnswer_27 rfl (lv_at hl 1 rfl) ?_
    refine mp_get x hH f72 fg_ak_49 rfl dd_ak_countAnswer_28 ?_
    refine mn_put x hH hS f69 fp_ak_33 rfl rfl (Nat.le_of_ble_eq_true rfl) (fs' := [.int x0, .int x1, .int x2, .int x3, .int (x4 ||| ((nI 1) <<< (y2 &&& 31))), .int x5, .int y7, .int x7]) rfl dd_ak_countAnswer_31 (fun σ76 f74 o75 H locs hH hS => ?_)
    have f77 := (o75 _ (mp_neC f72 f69 (by decide))).trans f72
    refine lv_aload_n x.1 x.2.1 dd_ak_countAnswer_34 rfl (lv_at hl 0 rfl) ?_
    refine lv_aload_n x.1 x.2.1 dd_ak_countAnswer_35 rfl (lv_at hl 1 rfl) ?_
    refine mp_get x hH f77 fg_ak_52 rfl dd_ak_countAnswer_36 ?_
    refine mn_put x hH hS f74 fp_ak_36 rfl rfl (Nat.le_of_ble_eq_true rfl) (fs' := [.int x0, .int x1, .int x2, .int x3, .int (x4 ||| ((nI 1) <<< (y2 &&& 31))), .int x5, .int y7, .int y8]) rfl dd_ak_countAnswer_39 (fun σ80 f78 o79 H locs hH hS => ?_)
    have f81 := (o79 _ (mp_neC f77 f74 (by decide))).trans f77
    exact mp_rv x hr hlk (by decide) (by decide) hH hS (fun _ => ⟨rfl, (f78.trans (congrArg some (by rw [if_pos (Int32.not_le.mp c73), if_pos (Int32.not_le.mp c73)]))), fun q z0 => ((o79 q z0).trans ((o75 q z0).trans (o70 q z0)))⟩) dd_ak_countAnswer_42
end
section
/-! THE FLAT STATE: one table of numbers for class and model; roles (kind, index) and their addresses; the store as the table gives it. -/
abbrev fV : Type := Nat → Nat → Int32
def mu (V : fV) (k i : Nat) (v : Int32) : fV := fun k' i' => if k' = k ∧ i' = i then v else V k' i'
theorem mu_s {V : fV} {k i : Nat} {v : Int32} : mu V k i v k i = v := if_pos ⟨rfl, rfl⟩
theorem mu_o {V : fV} {k i k' i' : Nat} {v : Int32} (h : ¬ (k' = k ∧ i' = i)) : mu V k i v k' i' = V k' i' := if_neg h
theorem mu_k {V : fV} {k i k' i' : Nat} {v : Int32} (h : k' ≠ k) : mu V k i v k' i' = V k' i' := if_neg (fun q => h q.1)
theorem mu_i {V : fV} {k i k' i' : Nat} {v : Int32} (h : i' ≠ i) : mu V k i v k' i' = V k' i' := if_neg (fun q => h q.2)
theorem mu_kr {V : fV} {k i k' : Nat} {v : Int32} (h : k' ≠ k) : mu V k i v k' = V k' := funext fun _ => mu_k h
theorem mu_row {V : fV} {k i : Nat} {v : Int32} : mu V k i v k = upd (V k) i v := by
  funext q
  by_cases h : q = i
  · subst h; rw [mu_s, pk_us]
  · rw [mu_i h, pk_un h]
theorem mu_same {V : fV} {k i : Nat} : mu V k i (V k i) = V := by
  funext k' i'
  by_cases h : k' = k ∧ i' = i
  · obtain ⟨rfl, rfl⟩ := h; rw [mu_s]
  · rw [mu_o h]
/-- the model's arrays: class and length -/
def ak (j : Nat) : Nat := if j = 2 then 2 else 0
def as_ (j : Nat) : Nat := if j ≤ 1 then 20 else if j = 2 then 25 else if j = 9 then 6000 else if j = 10 then 6000 else if j = 21 then 3400 else if j = 23 then 34 else 500
/-- desks that stand: the one of no prescription, and those of registered ones -/
def dk (rg : Nat → Bool) (d : Nat) : Prop := d = 500 ∨ d < 500 ∧ rg (d % 20) = true
def Lv (rg : Nat → Bool) (kd i : Nat) : Prop :=
  (kd ≤ 3 ∧ i = 0) ∨ (4 ≤ kd ∧ kd ≤ 6 ∧ i < 102) ∨ ((kd = 7 ∨ kd = 8) ∧ i < 20 ∧ rg i = true) ∨ (9 ≤ kd ∧ kd ≤ 12 ∧ dk rg i) ∨ (kd = 13 ∧ i = 0) ∨ (kd = 14 ∧ i < 24 ∧ i ≠ 22) ∨ (kd = 15 ∧ i = 0)
theorem LvG {rg : Nat → Bool} {kd : Nat} (h : kd ≤ 3) : Lv rg kd 0 := Or.inl ⟨h, rfl⟩
theorem LvT {rg : Nat → Bool} {kd i : Nat} (h1 : 4 ≤ kd) (h2 : kd ≤ 6) (h : i < 102) : Lv rg kd i := Or.inr (Or.inl ⟨h1, h2, h⟩)
theorem LvP {rg : Nat → Bool} {kd i : Nat} (h1 : kd = 7 ∨ kd = 8) (h : i < 20 ∧ rg i = true) : Lv rg kd i := Or.inr (Or.inr (Or.inl ⟨h1, h⟩))
theorem LvD {rg : Nat → Bool} {kd i : Nat} (h1 : 9 ≤ kd) (h2 : kd ≤ 12) (h : dk rg i) : Lv rg kd i := Or.inr (Or.inr (Or.inr (Or.inl ⟨h1, h2, h⟩)))
theorem LvM {rg : Nat → Bool} : Lv rg 13 0 := Or.inr (Or.inr (Or.inr (Or.inr (Or.inl ⟨rfl, rfl⟩))))
theorem LvA {rg : Nat → Bool} {i : Nat} (h : i < 24 ∧ i ≠ 22) : Lv rg 14 i := Or.inr (Or.inr (Or.inr (Or.inr (Or.inr (Or.inl ⟨rfl, h⟩)))))
theorem LvO {rg : Nat → Bool} : Lv rg 15 0 := Or.inr (Or.inr (Or.inr (Or.inr (Or.inr (Or.inr ⟨rfl, rfl⟩)))))
theorem Lv_le {rg : Nat → Bool} {kd i : Nat} (h : Lv rg kd i) : kd ≤ 15 := by
  unfold Lv at h
  omega
theorem dk_le {rg : Nat → Bool} {d : Nat} (h : dk rg d) : d ≤ 500 := by
  unfold dk at h
  omega
def fc (ar : Nat → ClassId) (ad : Nat → Nat → Nat) (rg : Nat → Bool) (pl : Nat → Nat) (V : fV) (kd i : Nat) : va_E := match kd with
  | 0 => .inr (6, [.ref (ad 1 0), .ref (ad 9 500), .ref (ad 2 0), .int (V 59 0)])
  | 1 => .inl (ar 3, 20, .inr (.inr (.inr (.inr (fun q => if rg q = true then some (ad 7 q) else none)))))
  | 2 => .inr (3, [.ref (ad 3 0), .ref (ad 4 101), .ref (ad 4 (pl 0)), .int (V 54 0), .int (V 55 0), .int (V 56 0), .int (V 57 0), .int (V 58 0)])
  | 3 => .inl (ar 5, 100, .inr (.inr (.inr (.inr (fun q => some (ad 4 (pl (q + 1))))))))
  | 4 => .inr (2, [.ref (ad 5 i), .int (V 44 i), .int (V 45 i), .int (V 46 i), .int (V 47 i), .int (V 48 i), .int (V 49 i), .int (V 50 i), .int (V 51 i)])
  | 5 => .inr (4, [.ref (ad 6 i), .int (V 52 i)])
  | 6 => .inl (ar 0, 12, .inl (V (1000 + i)))
  | 7 => .inr (5, [.int (V 60 i), .int (V 61 i), .ref (ad 8 i)])
  | 8 => .inl (ar 4, 25, .inr (.inr (.inr (.inr (fun q => some (ad 9 (20 * q + i)))))))
  | 9 => .inr (1, [.int (V 63 i), .int (V 64 i), .ref (ad 10 i), .ref (ad 12 i), .int (V 30 i), .int (V 31 i), .int (V 32 i), .int (V 33 i)])
  | 10 => .inr (4, [.ref (ad 11 i), .int (V 34 i)])
  | 11 => .inl (ar 0, 12, .inl (V (100 + i)))
  | 12 => .inr (0, [.int (V 36 i), .int (V 37 i), .int (V 38 i), .int (V 39 i), .int (V 40 i), .int (V 41 i), .int (V 42 i), .int (V 43 i)])
  | 13 => .inr (7, [.ref (ad 14 0), .ref (ad 14 1), .ref (ad 14 2), .ref (ad 14 3), .ref (ad 14 4), .ref (ad 14 5), .ref (ad 14 6), .ref (ad 14 7), .ref (ad 14 8), .ref (ad 14 9), .ref (ad 14 10), .ref (ad 14 11), .ref (ad 14 12), .ref (ad 14 13), .ref (ad 14 14), .ref (ad 14 15), .ref (ad 14 16), .ref (ad 14 17), .ref (ad 14 18), .ref (ad 14 19), .ref (ad 14 20), .ref (ad 14 21), .int (V 22 0), .ref (ad 14 23), .int (V 24 0), .int (V 25 0), .int (V 26 0), .int (V 27 0)])
  | 14 => .inl (ar (ak i), as_ i, .inl (V i))
  | _ => .inl (ar 1, 1, .inr (.inl (fun q => (V 62 q).toInt64)))
/-- whose number it is -/
def ok (n : Nat) : Nat := if n < 30 then (if n = 22 ∨ 24 ≤ n then 13 else 14) else if n ≤ 33 then 9 else if n = 34 then 10 else if n ≤ 43 then 12 else if n ≤ 51 then 4 else if n = 52 then 5 else if n ≤ 58 then 2 else if n = 59 then 0 else if n ≤ 61 then 7 else if n = 62 then 15 else if n ≤ 64 then 9 else if n < 1000 then 11 else 6
def oi (n j : Nat) : Nat := if n < 30 then (if n = 22 ∨ 24 ≤ n then 0 else n) else if n ≤ 52 then j else if n ≤ 59 then 0 else if n ≤ 61 then j else if n = 62 then 0 else if n ≤ 64 then j else if n < 1000 then n - 100 else n - 1000
def Lay (ar : Nat → ClassId) (ad : Nat → Nat → Nat) (rg : Nat → Bool) (pl : Nat → Nat) (V : fV) (σ : mp_M) : Prop :=
  (∀ kd i, Lv rg kd i → σ (ad kd i) = some (fc ar ad rg pl V kd i)) ∧ ∀ kd i kd' i', Lv rg kd i → Lv rg kd' i' → ad kd i = ad kd' i' → kd = kd' ∧ i = i'
theorem ok6 (i : Nat) : ok (1000 + i) = 6 := by
  unfold ok
  (repeat' split) <;> omega
theorem oi6 (i j : Nat) : oi (1000 + i) j = i := by
  unfold oi
  (repeat' split) <;> omega
theorem ok11 {i : Nat} (h : i ≤ 500) : ok (100 + i) = 11 := by
  unfold ok
  (repeat' split) <;> omega
theorem oi11 {i : Nat} (j : Nat) (h : i ≤ 500) : oi (100 + i) j = i := by
  unfold oi
  (repeat' split) <;> omega
theorem ok14 {i : Nat} (h : i < 24 ∧ i ≠ 22) : ok i = 14 := by
  unfold ok
  (repeat' split) <;> omega
theorem oi14 {i : Nat} (j : Nat) (h : i < 24 ∧ i ≠ 22) : oi i j = i := by
  unfold oi
  (repeat' split) <;> omega
theorem fn_0 {ar : Nat → ClassId} {ad : Nat → Nat → Nat} {rg : Nat → Bool} {pl : Nat → Nat} {V : fV} {n j : Nat} {v : Int32} {i : Nat} (hs : i = 0) (h : ¬ (0 = ok n ∧ i = oi n j)) : fc ar ad rg pl (mu V n j v) 0 i = fc ar ad rg pl V 0 i := by
  subst hs
  have e : ∀ k' i', ok k' = 0 → oi k' i' = 0 → mu V n j v k' i' = V k' i' := fun k' i' h1 h2 => mu_o (fun q => by obtain ⟨rfl, rfl⟩ := q; exact h ⟨h1.symm, h2.symm⟩)
  show (.inr (6, [.ref (ad 1 0), .ref (ad 9 500), .ref (ad 2 0), .int (mu V n j v 59 0)]) : va_E) = .inr (6, [.ref (ad 1 0), .ref (ad 9 500), .ref (ad 2 0), .int (V 59 0)])
  rw [e 59 0 (by decide +kernel) (by decide +kernel)]
theorem fn_1 {ar : Nat → ClassId} {ad : Nat → Nat → Nat} {rg : Nat → Bool} {pl : Nat → Nat} {V : fV} {n j : Nat} {v : Int32} {i : Nat} (h : ¬ (1 = ok n ∧ i = oi n j)) : fc ar ad rg pl (mu V n j v) 1 i = fc ar ad rg pl V 1 i := by
  show (.inl (ar 3, 20, .inr (.inr (.inr (.inr (fun q => if rg q = true then some (ad 7 q) else none))))) : va_E) = .inl (ar 3, 20, .inr (.inr (.inr (.inr (fun q => if rg q = true then some (ad 7 q) else none)))))
  rfl
theorem fn_2 {ar : Nat → ClassId} {ad : Nat → Nat → Nat} {rg : Nat → Bool} {pl : Nat → Nat} {V : fV} {n j : Nat} {v : Int32} {i : Nat} (hs : i = 0) (h : ¬ (2 = ok n ∧ i = oi n j)) : fc ar ad rg pl (mu V n j v) 2 i = fc ar ad rg pl V 2 i := by
  subst hs
  have e : ∀ k' i', ok k' = 2 → oi k' i' = 0 → mu V n j v k' i' = V k' i' := fun k' i' h1 h2 => mu_o (fun q => by obtain ⟨rfl, rfl⟩ := q; exact h ⟨h1.symm, h2.symm⟩)
  show (.inr (3, [.ref (ad 3 0), .ref (ad 4 101), .ref (ad 4 (pl 0)), .int (mu V n j v 54 0), .int (mu V n j v 55 0), .int (mu V n j v 56 0), .int (mu V n j v 57 0), .int (mu V n j v 58 0)]) : va_E) = .inr (3, [.ref (ad 3 0), .ref (ad 4 101), .ref (ad 4 (pl 0)), .int (V 54 0), .int (V 55 0), .int (V 56 0), .int (V 57 0), .int (V 58 0)])
  rw [e 54 0 (by decide +kernel) (by decide +kernel), e 55 0 (by decide +kernel) (by decide +kernel), e 56 0 (by decide +kernel) (by decide +kernel), e 57 0 (by decide +kernel) (by decide +kernel), e 58 0 (by decide +kernel) (by decide +kernel)]
theorem fn_3 {ar : Nat → ClassId} {ad : Nat → Nat → Nat} {rg : Nat → Bool} {pl : Nat → Nat} {V : fV} {n j : Nat} {v : Int32} {i : Nat} (h : ¬ (3 = ok n ∧ i = oi n j)) : fc ar ad rg pl (mu V n j v) 3 i = fc ar ad rg pl V 3 i := by
  show (.inl (ar 5, 100, .inr (.inr (.inr (.inr (fun q => some (ad 4 (pl (q + 1)))))))) : va_E) = .inl (ar 5, 100, .inr (.inr (.inr (.inr (fun q => some (ad 4 (pl (q + 1))))))))
  rfl
theorem fn_4 {ar : Nat → ClassId} {ad : Nat → Nat → Nat} {rg : Nat → Bool} {pl : Nat → Nat} {V : fV} {n j : Nat} {v : Int32} {i : Nat} (h : ¬ (4 = ok n ∧ i = oi n j)) : fc ar ad rg pl (mu V n j v) 4 i = fc ar ad rg pl V 4 i := by
  have e : ∀ k' i', ok k' = 4 → oi k' i' = i → mu V n j v k' i' = V k' i' := fun k' i' h1 h2 => mu_o (fun q => by obtain ⟨rfl, rfl⟩ := q; exact h ⟨h1.symm, h2.symm⟩)
  show (.inr (2, [.ref (ad 5 i), .int (mu V n j v 44 i), .int (mu V n j v 45 i), .int (mu V n j v 46 i), .int (mu V n j v 47 i), .int (mu V n j v 48 i), .int (mu V n j v 49 i), .int (mu V n j v 50 i), .int (mu V n j v 51 i)]) : va_E) = .inr (2, [.ref (ad 5 i), .int (V 44 i), .int (V 45 i), .int (V 46 i), .int (V 47 i), .int (V 48 i), .int (V 49 i), .int (V 50 i), .int (V 51 i)])
  rw [e 44 i (by decide +kernel) rfl, e 45 i (by decide +kernel) rfl, e 46 i (by decide +kernel) rfl, e 47 i (by decide +kernel) rfl, e 48 i (by decide +kernel) rfl, e 49 i (by decide +kernel) rfl, e 50 i (by decide +kernel) rfl, e 51 i (by decide +kernel) rfl]
theorem fn_5 {ar : Nat → ClassId} {ad : Nat → Nat → Nat} {rg : Nat → Bool} {pl : Nat → Nat} {V : fV} {n j : Nat} {v : Int32} {i : Nat} (h : ¬ (5 = ok n ∧ i = oi n j)) : fc ar ad rg pl (mu V n j v) 5 i = fc ar ad rg pl V 5 i := by
  have e : ∀ k' i', ok k' = 5 → oi k' i' = i → mu V n j v k' i' = V k' i' := fun k' i' h1 h2 => mu_o (fun q => by obtain ⟨rfl, rfl⟩ := q; exact h ⟨h1.symm, h2.symm⟩)
  show (.inr (4, [.ref (ad 6 i), .int (mu V n j v 52 i)]) : va_E) = .inr (4, [.ref (ad 6 i), .int (V 52 i)])
  rw [e 52 i (by decide +kernel) rfl]
theorem fn_6 {ar : Nat → ClassId} {ad : Nat → Nat → Nat} {rg : Nat → Bool} {pl : Nat → Nat} {V : fV} {n j : Nat} {v : Int32} {i : Nat} (h : ¬ (6 = ok n ∧ i = oi n j)) : fc ar ad rg pl (mu V n j v) 6 i = fc ar ad rg pl V 6 i := by
  show (.inl (ar 0, 12, .inl (mu V n j v (1000 + i))) : va_E) = .inl (ar 0, 12, .inl (V (1000 + i)))
  rw [mu_kr (fun q => h ⟨by rw [← q]; exact (ok6 i).symm, by rw [← q]; exact (oi6 i j).symm⟩)]
theorem fn_7 {ar : Nat → ClassId} {ad : Nat → Nat → Nat} {rg : Nat → Bool} {pl : Nat → Nat} {V : fV} {n j : Nat} {v : Int32} {i : Nat} (h : ¬ (7 = ok n ∧ i = oi n j)) : fc ar ad rg pl (mu V n j v) 7 i = fc ar ad rg pl V 7 i := by
  have e : ∀ k' i', ok k' = 7 → oi k' i' = i → mu V n j v k' i' = V k' i' := fun k' i' h1 h2 => mu_o (fun q => by obtain ⟨rfl, rfl⟩ := q; exact h ⟨h1.symm, h2.symm⟩)
  show (.inr (5, [.int (mu V n j v 60 i), .int (mu V n j v 61 i), .ref (ad 8 i)]) : va_E) = .inr (5, [.int (V 60 i), .int (V 61 i), .ref (ad 8 i)])
  rw [e 60 i (by decide +kernel) rfl, e 61 i (by decide +kernel) rfl]
theorem fn_8 {ar : Nat → ClassId} {ad : Nat → Nat → Nat} {rg : Nat → Bool} {pl : Nat → Nat} {V : fV} {n j : Nat} {v : Int32} {i : Nat} (h : ¬ (8 = ok n ∧ i = oi n j)) : fc ar ad rg pl (mu V n j v) 8 i = fc ar ad rg pl V 8 i := by
  show (.inl (ar 4, 25, .inr (.inr (.inr (.inr (fun q => some (ad 9 (20 * q + i))))))) : va_E) = .inl (ar 4, 25, .inr (.inr (.inr (.inr (fun q => some (ad 9 (20 * q + i)))))))
  rfl
theorem fn_9 {ar : Nat → ClassId} {ad : Nat → Nat → Nat} {rg : Nat → Bool} {pl : Nat → Nat} {V : fV} {n j : Nat} {v : Int32} {i : Nat} (h : ¬ (9 = ok n ∧ i = oi n j)) : fc ar ad rg pl (mu V n j v) 9 i = fc ar ad rg pl V 9 i := by
  have e : ∀ k' i', ok k' = 9 → oi k' i' = i → mu V n j v k' i' = V k' i' := fun k' i' h1 h2 => mu_o (fun q => by obtain ⟨rfl, rfl⟩ := q; exact h ⟨h1.symm, h2.symm⟩)
  show (.inr (1, [.int (mu V n j v 63 i), .int (mu V n j v 64 i), .ref (ad 10 i), .ref (ad 12 i), .int (mu V n j v 30 i), .int (mu V n j v 31 i), .int (mu V n j v 32 i), .int (mu V n j v 33 i)]) : va_E) = .inr (1, [.int (V 63 i), .int (V 64 i), .ref (ad 10 i), .ref (ad 12 i), .int (V 30 i), .int (V 31 i), .int (V 32 i), .int (V 33 i)])
  rw [e 63 i (by decide +kernel) rfl, e 64 i (by decide +kernel) rfl, e 30 i (by decide +kernel) rfl, e 31 i (by decide +kernel) rfl, e 32 i (by decide +kernel) rfl, e 33 i (by decide +kernel) rfl]
theorem fn_10 {ar : Nat → ClassId} {ad : Nat → Nat → Nat} {rg : Nat → Bool} {pl : Nat → Nat} {V : fV} {n j : Nat} {v : Int32} {i : Nat} (h : ¬ (10 = ok n ∧ i = oi n j)) : fc ar ad rg pl (mu V n j v) 10 i = fc ar ad rg pl V 10 i := by
  have e : ∀ k' i', ok k' = 10 → oi k' i' = i → mu V n j v k' i' = V k' i' := fun k' i' h1 h2 => mu_o (fun q => by obtain ⟨rfl, rfl⟩ := q; exact h ⟨h1.symm, h2.symm⟩)
  show (.inr (4, [.ref (ad 11 i), .int (mu V n j v 34 i)]) : va_E) = .inr (4, [.ref (ad 11 i), .int (V 34 i)])
  rw [e 34 i (by decide +kernel) rfl]
theorem fn_11 {ar : Nat → ClassId} {ad : Nat → Nat → Nat} {rg : Nat → Bool} {pl : Nat → Nat} {V : fV} {n j : Nat} {v : Int32} {i : Nat} (hd : i ≤ 500) (h : ¬ (11 = ok n ∧ i = oi n j)) : fc ar ad rg pl (mu V n j v) 11 i = fc ar ad rg pl V 11 i := by
  show (.inl (ar 0, 12, .inl (mu V n j v (100 + i))) : va_E) = .inl (ar 0, 12, .inl (V (100 + i)))
  rw [mu_kr (fun q => h ⟨by rw [← q]; exact (ok11 hd).symm, by rw [← q]; exact (oi11 j hd).symm⟩)]
theorem fn_12 {ar : Nat → ClassId} {ad : Nat → Nat → Nat} {rg : Nat → Bool} {pl : Nat → Nat} {V : fV} {n j : Nat} {v : Int32} {i : Nat} (h : ¬ (12 = ok n ∧ i = oi n j)) : fc ar ad rg pl (mu V n j v) 12 i = fc ar ad rg pl V 12 i := by
  have e : ∀ k' i', ok k' = 12 → oi k' i' = i → mu V n j v k' i' = V k' i' := fun k' i' h1 h2 => mu_o (fun q => by obtain ⟨rfl, rfl⟩ := q; exact h ⟨h1.symm, h2.symm⟩)
  show (.inr (0, [.int (mu V n j v 36 i), .int (mu V n j v 37 i), .int (mu V n j v 38 i), .int (mu V n j v 39 i), .int (mu V n j v 40 i), .int (mu V n j v 41 i), .int (mu V n j v 42 i), .int (mu V n j v 43 i)]) : va_E) = .inr (0, [.int (V 36 i), .int (V 37 i), .int (V 38 i), .int (V 39 i), .int (V 40 i), .int (V 41 i), .int (V 42 i), .int (V 43 i)])
  rw [e 36 i (by decide +kernel) rfl, e 37 i (by decide +kernel) rfl, e 38 i (by decide +kernel) rfl, e 39 i (by decide +kernel) rfl, e 40 i (by decide +kernel) rfl, e 41 i (by decide +kernel) rfl, e 42 i (by decide +kernel) rfl, e 43 i (by decide +kernel) rfl]
theorem fn_13 {ar : Nat → ClassId} {ad : Nat → Nat → Nat} {rg : Nat → Bool} {pl : Nat → Nat} {V : fV} {n j : Nat} {v : Int32} {i : Nat} (hs : i = 0) (h : ¬ (13 = ok n ∧ i = oi n j)) : fc ar ad rg pl (mu V n j v) 13 i = fc ar ad rg pl V 13 i := by
  subst hs
  have e : ∀ k' i', ok k' = 13 → oi k' i' = 0 → mu V n j v k' i' = V k' i' := fun k' i' h1 h2 => mu_o (fun q => by obtain ⟨rfl, rfl⟩ := q; exact h ⟨h1.symm, h2.symm⟩)
  show (.inr (7, [.ref (ad 14 0), .ref (ad 14 1), .ref (ad 14 2), .ref (ad 14 3), .ref (ad 14 4), .ref (ad 14 5), .ref (ad 14 6), .ref (ad 14 7), .ref (ad 14 8), .ref (ad 14 9), .ref (ad 14 10), .ref (ad 14 11), .ref (ad 14 12), .ref (ad 14 13), .ref (ad 14 14), .ref (ad 14 15), .ref (ad 14 16), .ref (ad 14 17), .ref (ad 14 18), .ref (ad 14 19), .ref (ad 14 20), .ref (ad 14 21), .int (mu V n j v 22 0), .ref (ad 14 23), .int (mu V n j v 24 0), .int (mu V n j v 25 0), .int (mu V n j v 26 0), .int (mu V n j v 27 0)]) : va_E) = .inr (7, [.ref (ad 14 0), .ref (ad 14 1), .ref (ad 14 2), .ref (ad 14 3), .ref (ad 14 4), .ref (ad 14 5), .ref (ad 14 6), .ref (ad 14 7), .ref (ad 14 8), .ref (ad 14 9), .ref (ad 14 10), .ref (ad 14 11), .ref (ad 14 12), .ref (ad 14 13), .ref (ad 14 14), .ref (ad 14 15), .ref (ad 14 16), .ref (ad 14 17), .ref (ad 14 18), .ref (ad 14 19), .ref (ad 14 20), .ref (ad 14 21), .int (V 22 0), .ref (ad 14 23), .int (V 24 0), .int (V 25 0), .int (V 26 0), .int (V 27 0)])
  rw [e 22 0 (by decide +kernel) (by decide +kernel), e 24 0 (by decide +kernel) (by decide +kernel), e 25 0 (by decide +kernel) (by decide +kernel), e 26 0 (by decide +kernel) (by decide +kernel), e 27 0 (by decide +kernel) (by decide +kernel)]
theorem fn_14 {ar : Nat → ClassId} {ad : Nat → Nat → Nat} {rg : Nat → Bool} {pl : Nat → Nat} {V : fV} {n j : Nat} {v : Int32} {i : Nat} (ha : i < 24 ∧ i ≠ 22) (h : ¬ (14 = ok n ∧ i = oi n j)) : fc ar ad rg pl (mu V n j v) 14 i = fc ar ad rg pl V 14 i := by
  show (.inl (ar (ak i), as_ i, .inl (mu V n j v i)) : va_E) = .inl (ar (ak i), as_ i, .inl (V i))
  rw [mu_kr (fun q => h ⟨by rw [← q]; exact (ok14 ha).symm, by rw [← q]; exact (oi14 j ha).symm⟩)]
theorem fn_15 {ar : Nat → ClassId} {ad : Nat → Nat → Nat} {rg : Nat → Bool} {pl : Nat → Nat} {V : fV} {n j : Nat} {v : Int32} {i : Nat} (hs : i = 0) (h : ¬ (15 = ok n ∧ i = oi n j)) : fc ar ad rg pl (mu V n j v) 15 i = fc ar ad rg pl V 15 i := by
  show (.inl (ar 1, 1, .inr (.inl (fun q => (mu V n j v 62 q).toInt64))) : va_E) = .inl (ar 1, 1, .inr (.inl (fun q => (V 62 q).toInt64)))
  subst hs
  rw [mu_kr (fun q => h ⟨by rw [← q]; exact (by decide +kernel), by rw [← q]; exact rfl⟩)]
theorem fc_ne {ar : Nat → ClassId} {ad : Nat → Nat → Nat} {rg : Nat → Bool} {pl : Nat → Nat} {V : fV} {n j : Nat} {v : Int32} {kd i : Nat} (hl : Lv rg kd i) (h : ¬ (kd = ok n ∧ i = oi n j)) : fc ar ad rg pl (mu V n j v) kd i = fc ar ad rg pl V kd i := by
  rcases hl with ⟨q, rfl⟩ | ⟨q, q2, q3⟩ | ⟨q, q2⟩ | ⟨q, q2, q3⟩ | ⟨rfl, rfl⟩ | ⟨rfl, q⟩ | ⟨rfl, rfl⟩
  · have hk : kd = 0 ∨ kd = 1 ∨ kd = 2 ∨ kd = 3 := by omega
    rcases hk with rfl | rfl | rfl | rfl
    · exact fn_0 rfl h
    · exact fn_1 h
    · exact fn_2 rfl h
    · exact fn_3 h
  · have hk : kd = 4 ∨ kd = 5 ∨ kd = 6 := by omega
    rcases hk with rfl | rfl | rfl
    · exact fn_4 h
    · exact fn_5 h
    · exact fn_6 h
  · rcases q with rfl | rfl
    · exact fn_7 h
    · exact fn_8 h
  · have hk : kd = 9 ∨ kd = 10 ∨ kd = 11 ∨ kd = 12 := by omega
    rcases hk with rfl | rfl | rfl | rfl
    · exact fn_9 h
    · exact fn_10 h
    · exact fn_11 (dk_le q3) h
    · exact fn_12 h
  · exact fn_13 rfl h
  · exact fn_14 q h
  · exact fn_15 rfl h
theorem la0 {ar : Nat → ClassId} {ad : Nat → Nat → Nat} {rg : Nat → Bool} {pl : Nat → Nat} {V : fV} {σ : mp_M} (hL : Lay ar ad rg pl V σ) : σ (ad 0 0) = some (.inr (6, [.ref (ad 1 0), .ref (ad 9 500), .ref (ad 2 0), .int (V 59 0)])) := hL.1 0 0 (LvG (by decide))
theorem la1 {ar : Nat → ClassId} {ad : Nat → Nat → Nat} {rg : Nat → Bool} {pl : Nat → Nat} {V : fV} {σ : mp_M} (hL : Lay ar ad rg pl V σ) : σ (ad 1 0) = some (.inl (ar 3, 20, .inr (.inr (.inr (.inr (fun q => if rg q = true then some (ad 7 q) else none)))))) := hL.1 1 0 (LvG (by decide))
theorem la2 {ar : Nat → ClassId} {ad : Nat → Nat → Nat} {rg : Nat → Bool} {pl : Nat → Nat} {V : fV} {σ : mp_M} (hL : Lay ar ad rg pl V σ) : σ (ad 2 0) = some (.inr (3, [.ref (ad 3 0), .ref (ad 4 101), .ref (ad 4 (pl 0)), .int (V 54 0), .int (V 55 0), .int (V 56 0), .int (V 57 0), .int (V 58 0)])) := hL.1 2 0 (LvG (by decide))
theorem la3 {ar : Nat → ClassId} {ad : Nat → Nat → Nat} {rg : Nat → Bool} {pl : Nat → Nat} {V : fV} {σ : mp_M} (hL : Lay ar ad rg pl V σ) : σ (ad 3 0) = some (.inl (ar 5, 100, .inr (.inr (.inr (.inr (fun q => some (ad 4 (pl (q + 1))))))))) := hL.1 3 0 (LvG (by decide))
theorem la4 {ar : Nat → ClassId} {ad : Nat → Nat → Nat} {rg : Nat → Bool} {pl : Nat → Nat} {V : fV} {σ : mp_M} {i : Nat} (hL : Lay ar ad rg pl V σ) (h : i < 102) : σ (ad 4 i) = some (.inr (2, [.ref (ad 5 i), .int (V 44 i), .int (V 45 i), .int (V 46 i), .int (V 47 i), .int (V 48 i), .int (V 49 i), .int (V 50 i), .int (V 51 i)])) := hL.1 4 i (LvT (by decide) (by decide) h)
theorem la5 {ar : Nat → ClassId} {ad : Nat → Nat → Nat} {rg : Nat → Bool} {pl : Nat → Nat} {V : fV} {σ : mp_M} {i : Nat} (hL : Lay ar ad rg pl V σ) (h : i < 102) : σ (ad 5 i) = some (.inr (4, [.ref (ad 6 i), .int (V 52 i)])) := hL.1 5 i (LvT (by decide) (by decide) h)
theorem la6 {ar : Nat → ClassId} {ad : Nat → Nat → Nat} {rg : Nat → Bool} {pl : Nat → Nat} {V : fV} {σ : mp_M} {i : Nat} (hL : Lay ar ad rg pl V σ) (h : i < 102) : σ (ad 6 i) = some (.inl (ar 0, 12, .inl (V (1000 + i)))) := hL.1 6 i (LvT (by decide) (by decide) h)
theorem la7 {ar : Nat → ClassId} {ad : Nat → Nat → Nat} {rg : Nat → Bool} {pl : Nat → Nat} {V : fV} {σ : mp_M} {i : Nat} (hL : Lay ar ad rg pl V σ) (h : i < 20 ∧ rg i = true) : σ (ad 7 i) = some (.inr (5, [.int (V 60 i), .int (V 61 i), .ref (ad 8 i)])) := hL.1 7 i (LvP (by decide) h)
theorem la8 {ar : Nat → ClassId} {ad : Nat → Nat → Nat} {rg : Nat → Bool} {pl : Nat → Nat} {V : fV} {σ : mp_M} {i : Nat} (hL : Lay ar ad rg pl V σ) (h : i < 20 ∧ rg i = true) : σ (ad 8 i) = some (.inl (ar 4, 25, .inr (.inr (.inr (.inr (fun q => some (ad 9 (20 * q + i)))))))) := hL.1 8 i (LvP (by decide) h)
theorem la9 {ar : Nat → ClassId} {ad : Nat → Nat → Nat} {rg : Nat → Bool} {pl : Nat → Nat} {V : fV} {σ : mp_M} {i : Nat} (hL : Lay ar ad rg pl V σ) (h : dk rg i) : σ (ad 9 i) = some (.inr (1, [.int (V 63 i), .int (V 64 i), .ref (ad 10 i), .ref (ad 12 i), .int (V 30 i), .int (V 31 i), .int (V 32 i), .int (V 33 i)])) := hL.1 9 i (LvD (by decide) (by decide) h)
theorem la10 {ar : Nat → ClassId} {ad : Nat → Nat → Nat} {rg : Nat → Bool} {pl : Nat → Nat} {V : fV} {σ : mp_M} {i : Nat} (hL : Lay ar ad rg pl V σ) (h : dk rg i) : σ (ad 10 i) = some (.inr (4, [.ref (ad 11 i), .int (V 34 i)])) := hL.1 10 i (LvD (by decide) (by decide) h)
theorem la11 {ar : Nat → ClassId} {ad : Nat → Nat → Nat} {rg : Nat → Bool} {pl : Nat → Nat} {V : fV} {σ : mp_M} {i : Nat} (hL : Lay ar ad rg pl V σ) (h : dk rg i) : σ (ad 11 i) = some (.inl (ar 0, 12, .inl (V (100 + i)))) := hL.1 11 i (LvD (by decide) (by decide) h)
theorem la12 {ar : Nat → ClassId} {ad : Nat → Nat → Nat} {rg : Nat → Bool} {pl : Nat → Nat} {V : fV} {σ : mp_M} {i : Nat} (hL : Lay ar ad rg pl V σ) (h : dk rg i) : σ (ad 12 i) = some (.inr (0, [.int (V 36 i), .int (V 37 i), .int (V 38 i), .int (V 39 i), .int (V 40 i), .int (V 41 i), .int (V 42 i), .int (V 43 i)])) := hL.1 12 i (LvD (by decide) (by decide) h)
theorem la13 {ar : Nat → ClassId} {ad : Nat → Nat → Nat} {rg : Nat → Bool} {pl : Nat → Nat} {V : fV} {σ : mp_M} (hL : Lay ar ad rg pl V σ) : σ (ad 13 0) = some (.inr (7, [.ref (ad 14 0), .ref (ad 14 1), .ref (ad 14 2), .ref (ad 14 3), .ref (ad 14 4), .ref (ad 14 5), .ref (ad 14 6), .ref (ad 14 7), .ref (ad 14 8), .ref (ad 14 9), .ref (ad 14 10), .ref (ad 14 11), .ref (ad 14 12), .ref (ad 14 13), .ref (ad 14 14), .ref (ad 14 15), .ref (ad 14 16), .ref (ad 14 17), .ref (ad 14 18), .ref (ad 14 19), .ref (ad 14 20), .ref (ad 14 21), .int (V 22 0), .ref (ad 14 23), .int (V 24 0), .int (V 25 0), .int (V 26 0), .int (V 27 0)])) := hL.1 13 0 (LvM)
theorem la14 {ar : Nat → ClassId} {ad : Nat → Nat → Nat} {rg : Nat → Bool} {pl : Nat → Nat} {V : fV} {σ : mp_M} {i : Nat} (hL : Lay ar ad rg pl V σ) (h : i < 24 ∧ i ≠ 22) : σ (ad 14 i) = some (.inl (ar (ak i), as_ i, .inl (V i))) := hL.1 14 i (LvA h)
theorem la15 {ar : Nat → ClassId} {ad : Nat → Nat → Nat} {rg : Nat → Bool} {pl : Nat → Nat} {V : fV} {σ : mp_M} (hL : Lay ar ad rg pl V σ) : σ (ad 15 0) = some (.inl (ar 1, 1, .inr (.inl (fun q => (V 62 q).toInt64)))) := hL.1 15 0 (LvO)
theorem lay_mu {ar : Nat → ClassId} {ad : Nat → Nat → Nat} {rg : Nat → Bool} {pl : Nat → Nat} {V : fV} {σ : mp_M} {σ1 : mp_M} {n j : Nat} {v : Int32} (hL : Lay ar ad rg pl V σ) {kd i : Nat} (hl : Lv rg kd i) (h1 : σ1 (ad kd i) = some (fc ar ad rg pl (mu V n j v) kd i)) (o : ∀ q, q ≠ ad kd i → σ1 q = σ q) (hk : kd = ok n) (hi : i = oi n j) : Lay ar ad rg pl (mu V n j v) σ1 := by
  refine ⟨fun kd' i' hl' => ?_, hL.2⟩
  by_cases h : kd' = kd ∧ i' = i
  · obtain ⟨rfl, rfl⟩ := h
    exact h1
  · rw [o _ (fun q => h (hL.2 _ _ _ _ hl' hl q)), hL.1 _ _ hl', fc_ne hl' (fun q => h ⟨q.1.trans hk.symm, q.2.trans hi.symm⟩)]
section KRW
variable {p : Program} {l : Launch} {e : Env} {R : Room} {s : State} {m : MethodId} {args : Array Value} {below : List Frame} {meth : Method} {c : Code} {H : Heap} {locs : List Loc} {cells slots : Nat} {Q : State → Prop}
variable {cc : ByteArray} {nL pc : Nat} {ls : Array Slot} {rest : List Value} {D : va_G} {ar : Nat → ClassId} {base : Nat} {σ : mp_M} {H0 : Heap} {own : String} {ad : Nat → Nat → Nat} {rg : Nat → Bool} {pl : Nat → Nat} {V : fV}
theorem mn_zast {a : Nat} (x : XX D ar p s m args c cc nL own) (hH : HH D base σ H) (hS0 : va_S (mp_A base) H0 H locs) {n : Nat} {f : Nat → Int32} (hs : σ a = some (.inl (ar 2, n, .inl f))) {j : Nat} {v : Int32} (hv : vp_nar .boolean v = v) (hj : j < n) (hn : n < 2 ^ 31) (hdg : decode cc pc = .ok (.bastore, 1))
    (kk : ∀ (σ1 : mp_M), σ1 a = some (.inl (ar 2, n, .inl (upd f j v))) → (∀ q, q ≠ a → σ1 q = σ q) → ∀ (H1 : Heap) (locs1 : List Loc), HH D base σ1 H1 → va_S (mp_A base) H0 H1 locs1 → W p l e R s m args below meth c H1 locs1 cells slots Q (F0 m (pc + 1) ls rest)) : W p l e R s m args below meth c H locs cells slots Q (F0 m pc ls (.int v :: .int (nI j) :: .ref a :: rest)) := by
  refine W.zast x.1 x.2.1 (hH a _ hs).2 ((x.2.2.2.2.2.2 2 _ rfl).1 n (fun j => .int (f j))) (fun q => by cases q) (by show ¬ (nI j < 0 ∨ (arrV _ _ _).slots.size ≤ _); rw [arrV_size]; exact vp_in_nI hj hn) rfl rfl hdg fun H1 e z oq => ?_
  refine kk _ (mp_us σ a _) (fun q hq => mp_un _ _ hq) H1 _ (hH.set hs ?_ oq) (hS0.put z oq (hH.ge hs))
  show H1[a]? = some (vp_cell _ _)
  rw [e, vp_cell_i, vp_cell_i, arrV_store, nI_clamp (Nat.lt_trans hj hn)]
  congr 2
  funext q
  have hv' : narrow .boolean (.int v) = .int v := by
    unfold vp_nar at hv
    exact congrArg Value.int hv
  by_cases hq : q = j
  · subst hq
    simp [updV, upd, hv']
  · simp [updV, upd, hq]
theorem kp_ (x : XX D ar p s m args c cc nL own) (hH : HH D base σ H) (hS0 : va_S (mp_A base) H0 H locs) (hL : Lay ar ad rg pl V σ) {kd i n j : Nat} (hl : Lv rg kd i) {index ci k : Nat} {fs : List Value} (hc : σ (ad kd i) = some (.inr (ci, fs))) (fl : mp_FP cl_L wt_L own index ci k .int false) {v : Int32} (hlen : k < fs.length) (hset : fc ar ad rg pl (mu V n j v) kd i = .inr (ci, fs.set k (.int v))) (hk : kd = ok n) (hi : i = oi n j) (hdg : decode cc pc = .ok (.putfield index, 3))
    (kk : ∀ (σ1 : mp_M), Lay ar ad rg pl (mu V n j v) σ1 → ∀ (H1 : Heap) (locs1 : List Loc), HH D base σ1 H1 → va_S (mp_A base) H0 H1 locs1 → W p l e R s m args below meth c H1 locs1 cells slots Q (F0 m (pc + 3) ls rest)) : W p l e R s m args below meth c H locs cells slots Q (F0 m pc ls (.int v :: .ref (ad kd i) :: rest)) :=
  mn_put x hH hS0 hc fl rfl rfl hlen rfl hdg (fun σ1 f o H1 locs1 h1 h2 => kk σ1 (lay_mu hL hl (f.trans (congrArg some hset.symm)) o hk hi) H1 locs1 h1 h2)
theorem kp_59 (x : XX D ar p s m args c cc nL own) (hH : HH D base σ H) (hS0 : va_S (mp_A base) H0 H locs) (hL : Lay ar ad rg pl V σ) {index : Nat} (fl : mp_FP cl_L wt_L own index 6 3 .int false) {v : Int32} (hdg : decode cc pc = .ok (.putfield index, 3))
    (kk : ∀ (σ1 : mp_M), Lay ar ad rg pl (mu V 59 0 v) σ1 → ∀ (H1 : Heap) (locs1 : List Loc), HH D base σ1 H1 → va_S (mp_A base) H0 H1 locs1 → W p l e R s m args below meth c H1 locs1 cells slots Q (F0 m (pc + 3) ls rest)) : W p l e R s m args below meth c H locs cells slots Q (F0 m pc ls (.int v :: .ref (ad 0 0) :: rest)) :=
  kp_ (n := 59) (j := 0) x hH hS0 hL (LvG (by decide)) (la0 hL) fl (by simp) (by simp [fc, mu]) (by decide +kernel) rfl hdg kk
theorem kp_54 (x : XX D ar p s m args c cc nL own) (hH : HH D base σ H) (hS0 : va_S (mp_A base) H0 H locs) (hL : Lay ar ad rg pl V σ) {index : Nat} (fl : mp_FP cl_L wt_L own index 3 3 .int false) {v : Int32} (hdg : decode cc pc = .ok (.putfield index, 3))
    (kk : ∀ (σ1 : mp_M), Lay ar ad rg pl (mu V 54 0 v) σ1 → ∀ (H1 : Heap) (locs1 : List Loc), HH D base σ1 H1 → va_S (mp_A base) H0 H1 locs1 → W p l e R s m args below meth c H1 locs1 cells slots Q (F0 m (pc + 3) ls rest)) : W p l e R s m args below meth c H locs cells slots Q (F0 m pc ls (.int v :: .ref (ad 2 0) :: rest)) :=
  kp_ (n := 54) (j := 0) x hH hS0 hL (LvG (by decide)) (la2 hL) fl (by simp) (by simp [fc, mu]) (by decide +kernel) rfl hdg kk
theorem kp_55 (x : XX D ar p s m args c cc nL own) (hH : HH D base σ H) (hS0 : va_S (mp_A base) H0 H locs) (hL : Lay ar ad rg pl V σ) {index : Nat} (fl : mp_FP cl_L wt_L own index 3 4 .int false) {v : Int32} (hdg : decode cc pc = .ok (.putfield index, 3))
    (kk : ∀ (σ1 : mp_M), Lay ar ad rg pl (mu V 55 0 v) σ1 → ∀ (H1 : Heap) (locs1 : List Loc), HH D base σ1 H1 → va_S (mp_A base) H0 H1 locs1 → W p l e R s m args below meth c H1 locs1 cells slots Q (F0 m (pc + 3) ls rest)) : W p l e R s m args below meth c H locs cells slots Q (F0 m pc ls (.int v :: .ref (ad 2 0) :: rest)) :=
  kp_ (n := 55) (j := 0) x hH hS0 hL (LvG (by decide)) (la2 hL) fl (by simp) (by simp [fc, mu]) (by decide +kernel) rfl hdg kk
theorem kp_56 (x : XX D ar p s m args c cc nL own) (hH : HH D base σ H) (hS0 : va_S (mp_A base) H0 H locs) (hL : Lay ar ad rg pl V σ) {index : Nat} (fl : mp_FP cl_L wt_L own index 3 5 .int false) {v : Int32} (hdg : decode cc pc = .ok (.putfield index, 3))
    (kk : ∀ (σ1 : mp_M), Lay ar ad rg pl (mu V 56 0 v) σ1 → ∀ (H1 : Heap) (locs1 : List Loc), HH D base σ1 H1 → va_S (mp_A base) H0 H1 locs1 → W p l e R s m args below meth c H1 locs1 cells slots Q (F0 m (pc + 3) ls rest)) : W p l e R s m args below meth c H locs cells slots Q (F0 m pc ls (.int v :: .ref (ad 2 0) :: rest)) :=
  kp_ (n := 56) (j := 0) x hH hS0 hL (LvG (by decide)) (la2 hL) fl (by simp) (by simp [fc, mu]) (by decide +kernel) rfl hdg kk
theorem kp_57 (x : XX D ar p s m args c cc nL own) (hH : HH D base σ H) (hS0 : va_S (mp_A base) H0 H locs) (hL : Lay ar ad rg pl V σ) {index : Nat} (fl : mp_FP cl_L wt_L own index 3 6 .int false) {v : Int32} (hdg : decode cc pc = .ok (.putfield index, 3))
    (kk : ∀ (σ1 : mp_M), Lay ar ad rg pl (mu V 57 0 v) σ1 → ∀ (H1 : Heap) (locs1 : List Loc), HH D base σ1 H1 → va_S (mp_A base) H0 H1 locs1 → W p l e R s m args below meth c H1 locs1 cells slots Q (F0 m (pc + 3) ls rest)) : W p l e R s m args below meth c H locs cells slots Q (F0 m pc ls (.int v :: .ref (ad 2 0) :: rest)) :=
  kp_ (n := 57) (j := 0) x hH hS0 hL (LvG (by decide)) (la2 hL) fl (by simp) (by simp [fc, mu]) (by decide +kernel) rfl hdg kk
theorem kp_58 (x : XX D ar p s m args c cc nL own) (hH : HH D base σ H) (hS0 : va_S (mp_A base) H0 H locs) (hL : Lay ar ad rg pl V σ) {index : Nat} (fl : mp_FP cl_L wt_L own index 3 7 .int false) {v : Int32} (hdg : decode cc pc = .ok (.putfield index, 3))
    (kk : ∀ (σ1 : mp_M), Lay ar ad rg pl (mu V 58 0 v) σ1 → ∀ (H1 : Heap) (locs1 : List Loc), HH D base σ1 H1 → va_S (mp_A base) H0 H1 locs1 → W p l e R s m args below meth c H1 locs1 cells slots Q (F0 m (pc + 3) ls rest)) : W p l e R s m args below meth c H locs cells slots Q (F0 m pc ls (.int v :: .ref (ad 2 0) :: rest)) :=
  kp_ (n := 58) (j := 0) x hH hS0 hL (LvG (by decide)) (la2 hL) fl (by simp) (by simp [fc, mu]) (by decide +kernel) rfl hdg kk
theorem kp_44 (x : XX D ar p s m args c cc nL own) (hH : HH D base σ H) (hS0 : va_S (mp_A base) H0 H locs) (hL : Lay ar ad rg pl V σ) {i : Nat} (h : i < 102) {index : Nat} (fl : mp_FP cl_L wt_L own index 2 1 .int false) {v : Int32} (hdg : decode cc pc = .ok (.putfield index, 3))
    (kk : ∀ (σ1 : mp_M), Lay ar ad rg pl (mu V 44 i v) σ1 → ∀ (H1 : Heap) (locs1 : List Loc), HH D base σ1 H1 → va_S (mp_A base) H0 H1 locs1 → W p l e R s m args below meth c H1 locs1 cells slots Q (F0 m (pc + 3) ls rest)) : W p l e R s m args below meth c H locs cells slots Q (F0 m pc ls (.int v :: .ref (ad 4 i) :: rest)) :=
  kp_ (n := 44) (j := i) x hH hS0 hL (LvT (by decide) (by decide) h) (la4 hL h) fl (by simp) (by simp [fc, mu]) (by decide +kernel) rfl hdg kk
theorem kp_45 (x : XX D ar p s m args c cc nL own) (hH : HH D base σ H) (hS0 : va_S (mp_A base) H0 H locs) (hL : Lay ar ad rg pl V σ) {i : Nat} (h : i < 102) {index : Nat} (fl : mp_FP cl_L wt_L own index 2 2 .int false) {v : Int32} (hdg : decode cc pc = .ok (.putfield index, 3))
    (kk : ∀ (σ1 : mp_M), Lay ar ad rg pl (mu V 45 i v) σ1 → ∀ (H1 : Heap) (locs1 : List Loc), HH D base σ1 H1 → va_S (mp_A base) H0 H1 locs1 → W p l e R s m args below meth c H1 locs1 cells slots Q (F0 m (pc + 3) ls rest)) : W p l e R s m args below meth c H locs cells slots Q (F0 m pc ls (.int v :: .ref (ad 4 i) :: rest)) :=
  kp_ (n := 45) (j := i) x hH hS0 hL (LvT (by decide) (by decide) h) (la4 hL h) fl (by simp) (by simp [fc, mu]) (by decide +kernel) rfl hdg kk
theorem kp_46 (x : XX D ar p s m args c cc nL own) (hH : HH D base σ H) (hS0 : va_S (mp_A base) H0 H locs) (hL : Lay ar ad rg pl V σ) {i : Nat} (h : i < 102) {index : Nat} (fl : mp_FP cl_L wt_L own index 2 3 .int false) {v : Int32} (hdg : decode cc pc = .ok (.putfield index, 3))
    (kk : ∀ (σ1 : mp_M), Lay ar ad rg pl (mu V 46 i v) σ1 → ∀ (H1 : Heap) (locs1 : List Loc), HH D base σ1 H1 → va_S (mp_A base) H0 H1 locs1 → W p l e R s m args below meth c H1 locs1 cells slots Q (F0 m (pc + 3) ls rest)) : W p l e R s m args below meth c H locs cells slots Q (F0 m pc ls (.int v :: .ref (ad 4 i) :: rest)) :=
  kp_ (n := 46) (j := i) x hH hS0 hL (LvT (by decide) (by decide) h) (la4 hL h) fl (by simp) (by simp [fc, mu]) (by decide +kernel) rfl hdg kk
theorem kp_47 (x : XX D ar p s m args c cc nL own) (hH : HH D base σ H) (hS0 : va_S (mp_A base) H0 H locs) (hL : Lay ar ad rg pl V σ) {i : Nat} (h : i < 102) {index : Nat} (fl : mp_FP cl_L wt_L own index 2 4 .int false) {v : Int32} (hdg : decode cc pc = .ok (.putfield index, 3))
    (kk : ∀ (σ1 : mp_M), Lay ar ad rg pl (mu V 47 i v) σ1 → ∀ (H1 : Heap) (locs1 : List Loc), HH D base σ1 H1 → va_S (mp_A base) H0 H1 locs1 → W p l e R s m args below meth c H1 locs1 cells slots Q (F0 m (pc + 3) ls rest)) : W p l e R s m args below meth c H locs cells slots Q (F0 m pc ls (.int v :: .ref (ad 4 i) :: rest)) :=
  kp_ (n := 47) (j := i) x hH hS0 hL (LvT (by decide) (by decide) h) (la4 hL h) fl (by simp) (by simp [fc, mu]) (by decide +kernel) rfl hdg kk
theorem kp_48 (x : XX D ar p s m args c cc nL own) (hH : HH D base σ H) (hS0 : va_S (mp_A base) H0 H locs) (hL : Lay ar ad rg pl V σ) {i : Nat} (h : i < 102) {index : Nat} (fl : mp_FP cl_L wt_L own index 2 5 .int false) {v : Int32} (hdg : decode cc pc = .ok (.putfield index, 3))
    (kk : ∀ (σ1 : mp_M), Lay ar ad rg pl (mu V 48 i v) σ1 → ∀ (H1 : Heap) (locs1 : List Loc), HH D base σ1 H1 → va_S (mp_A base) H0 H1 locs1 → W p l e R s m args below meth c H1 locs1 cells slots Q (F0 m (pc + 3) ls rest)) : W p l e R s m args below meth c H locs cells slots Q (F0 m pc ls (.int v :: .ref (ad 4 i) :: rest)) :=
  kp_ (n := 48) (j := i) x hH hS0 hL (LvT (by decide) (by decide) h) (la4 hL h) fl (by simp) (by simp [fc, mu]) (by decide +kernel) rfl hdg kk
theorem kp_49 (x : XX D ar p s m args c cc nL own) (hH : HH D base σ H) (hS0 : va_S (mp_A base) H0 H locs) (hL : Lay ar ad rg pl V σ) {i : Nat} (h : i < 102) {index : Nat} (fl : mp_FP cl_L wt_L own index 2 6 .int false) {v : Int32} (hdg : decode cc pc = .ok (.putfield index, 3))
    (kk : ∀ (σ1 : mp_M), Lay ar ad rg pl (mu V 49 i v) σ1 → ∀ (H1 : Heap) (locs1 : List Loc), HH D base σ1 H1 → va_S (mp_A base) H0 H1 locs1 → W p l e R s m args below meth c H1 locs1 cells slots Q (F0 m (pc + 3) ls rest)) : W p l e R s m args below meth c H locs cells slots Q (F0 m pc ls (.int v :: .ref (ad 4 i) :: rest)) :=
  kp_ (n := 49) (j := i) x hH hS0 hL (LvT (by decide) (by decide) h) (la4 hL h) fl (by simp) (by simp [fc, mu]) (by decide +kernel) rfl hdg kk
theorem kp_50 (x : XX D ar p s m args c cc nL own) (hH : HH D base σ H) (hS0 : va_S (mp_A base) H0 H locs) (hL : Lay ar ad rg pl V σ) {i : Nat} (h : i < 102) {index : Nat} (fl : mp_FP cl_L wt_L own index 2 7 .int false) {v : Int32} (hdg : decode cc pc = .ok (.putfield index, 3))
    (kk : ∀ (σ1 : mp_M), Lay ar ad rg pl (mu V 50 i v) σ1 → ∀ (H1 : Heap) (locs1 : List Loc), HH D base σ1 H1 → va_S (mp_A base) H0 H1 locs1 → W p l e R s m args below meth c H1 locs1 cells slots Q (F0 m (pc + 3) ls rest)) : W p l e R s m args below meth c H locs cells slots Q (F0 m pc ls (.int v :: .ref (ad 4 i) :: rest)) :=
  kp_ (n := 50) (j := i) x hH hS0 hL (LvT (by decide) (by decide) h) (la4 hL h) fl (by simp) (by simp [fc, mu]) (by decide +kernel) rfl hdg kk
theorem kp_51 (x : XX D ar p s m args c cc nL own) (hH : HH D base σ H) (hS0 : va_S (mp_A base) H0 H locs) (hL : Lay ar ad rg pl V σ) {i : Nat} (h : i < 102) {index : Nat} (fl : mp_FP cl_L wt_L own index 2 8 .int false) {v : Int32} (hdg : decode cc pc = .ok (.putfield index, 3))
    (kk : ∀ (σ1 : mp_M), Lay ar ad rg pl (mu V 51 i v) σ1 → ∀ (H1 : Heap) (locs1 : List Loc), HH D base σ1 H1 → va_S (mp_A base) H0 H1 locs1 → W p l e R s m args below meth c H1 locs1 cells slots Q (F0 m (pc + 3) ls rest)) : W p l e R s m args below meth c H locs cells slots Q (F0 m pc ls (.int v :: .ref (ad 4 i) :: rest)) :=
  kp_ (n := 51) (j := i) x hH hS0 hL (LvT (by decide) (by decide) h) (la4 hL h) fl (by simp) (by simp [fc, mu]) (by decide +kernel) rfl hdg kk
theorem kp_52 (x : XX D ar p s m args c cc nL own) (hH : HH D base σ H) (hS0 : va_S (mp_A base) H0 H locs) (hL : Lay ar ad rg pl V σ) {i : Nat} (h : i < 102) {index : Nat} (fl : mp_FP cl_L wt_L own index 4 1 .int false) {v : Int32} (hdg : decode cc pc = .ok (.putfield index, 3))
    (kk : ∀ (σ1 : mp_M), Lay ar ad rg pl (mu V 52 i v) σ1 → ∀ (H1 : Heap) (locs1 : List Loc), HH D base σ1 H1 → va_S (mp_A base) H0 H1 locs1 → W p l e R s m args below meth c H1 locs1 cells slots Q (F0 m (pc + 3) ls rest)) : W p l e R s m args below meth c H locs cells slots Q (F0 m pc ls (.int v :: .ref (ad 5 i) :: rest)) :=
  kp_ (n := 52) (j := i) x hH hS0 hL (LvT (by decide) (by decide) h) (la5 hL h) fl (by simp) (by simp [fc, mu]) (by decide +kernel) rfl hdg kk
theorem kp_30 (x : XX D ar p s m args c cc nL own) (hH : HH D base σ H) (hS0 : va_S (mp_A base) H0 H locs) (hL : Lay ar ad rg pl V σ) {i : Nat} (h : dk rg i) {index : Nat} (fl : mp_FP cl_L wt_L own index 1 4 .int false) {v : Int32} (hdg : decode cc pc = .ok (.putfield index, 3))
    (kk : ∀ (σ1 : mp_M), Lay ar ad rg pl (mu V 30 i v) σ1 → ∀ (H1 : Heap) (locs1 : List Loc), HH D base σ1 H1 → va_S (mp_A base) H0 H1 locs1 → W p l e R s m args below meth c H1 locs1 cells slots Q (F0 m (pc + 3) ls rest)) : W p l e R s m args below meth c H locs cells slots Q (F0 m pc ls (.int v :: .ref (ad 9 i) :: rest)) :=
  kp_ (n := 30) (j := i) x hH hS0 hL (LvD (by decide) (by decide) h) (la9 hL h) fl (by simp) (by simp [fc, mu]) (by decide +kernel) rfl hdg kk
theorem kp_31 (x : XX D ar p s m args c cc nL own) (hH : HH D base σ H) (hS0 : va_S (mp_A base) H0 H locs) (hL : Lay ar ad rg pl V σ) {i : Nat} (h : dk rg i) {index : Nat} (fl : mp_FP cl_L wt_L own index 1 5 .int false) {v : Int32} (hdg : decode cc pc = .ok (.putfield index, 3))
    (kk : ∀ (σ1 : mp_M), Lay ar ad rg pl (mu V 31 i v) σ1 → ∀ (H1 : Heap) (locs1 : List Loc), HH D base σ1 H1 → va_S (mp_A base) H0 H1 locs1 → W p l e R s m args below meth c H1 locs1 cells slots Q (F0 m (pc + 3) ls rest)) : W p l e R s m args below meth c H locs cells slots Q (F0 m pc ls (.int v :: .ref (ad 9 i) :: rest)) :=
  kp_ (n := 31) (j := i) x hH hS0 hL (LvD (by decide) (by decide) h) (la9 hL h) fl (by simp) (by simp [fc, mu]) (by decide +kernel) rfl hdg kk
theorem kp_32 (x : XX D ar p s m args c cc nL own) (hH : HH D base σ H) (hS0 : va_S (mp_A base) H0 H locs) (hL : Lay ar ad rg pl V σ) {i : Nat} (h : dk rg i) {index : Nat} (fl : mp_FP cl_L wt_L own index 1 6 .int false) {v : Int32} (hdg : decode cc pc = .ok (.putfield index, 3))
    (kk : ∀ (σ1 : mp_M), Lay ar ad rg pl (mu V 32 i v) σ1 → ∀ (H1 : Heap) (locs1 : List Loc), HH D base σ1 H1 → va_S (mp_A base) H0 H1 locs1 → W p l e R s m args below meth c H1 locs1 cells slots Q (F0 m (pc + 3) ls rest)) : W p l e R s m args below meth c H locs cells slots Q (F0 m pc ls (.int v :: .ref (ad 9 i) :: rest)) :=
  kp_ (n := 32) (j := i) x hH hS0 hL (LvD (by decide) (by decide) h) (la9 hL h) fl (by simp) (by simp [fc, mu]) (by decide +kernel) rfl hdg kk
theorem kp_33 (x : XX D ar p s m args c cc nL own) (hH : HH D base σ H) (hS0 : va_S (mp_A base) H0 H locs) (hL : Lay ar ad rg pl V σ) {i : Nat} (h : dk rg i) {index : Nat} (fl : mp_FP cl_L wt_L own index 1 7 .int false) {v : Int32} (hdg : decode cc pc = .ok (.putfield index, 3))
    (kk : ∀ (σ1 : mp_M), Lay ar ad rg pl (mu V 33 i v) σ1 → ∀ (H1 : Heap) (locs1 : List Loc), HH D base σ1 H1 → va_S (mp_A base) H0 H1 locs1 → W p l e R s m args below meth c H1 locs1 cells slots Q (F0 m (pc + 3) ls rest)) : W p l e R s m args below meth c H locs cells slots Q (F0 m pc ls (.int v :: .ref (ad 9 i) :: rest)) :=
  kp_ (n := 33) (j := i) x hH hS0 hL (LvD (by decide) (by decide) h) (la9 hL h) fl (by simp) (by simp [fc, mu]) (by decide +kernel) rfl hdg kk
theorem kp_34 (x : XX D ar p s m args c cc nL own) (hH : HH D base σ H) (hS0 : va_S (mp_A base) H0 H locs) (hL : Lay ar ad rg pl V σ) {i : Nat} (h : dk rg i) {index : Nat} (fl : mp_FP cl_L wt_L own index 4 1 .int false) {v : Int32} (hdg : decode cc pc = .ok (.putfield index, 3))
    (kk : ∀ (σ1 : mp_M), Lay ar ad rg pl (mu V 34 i v) σ1 → ∀ (H1 : Heap) (locs1 : List Loc), HH D base σ1 H1 → va_S (mp_A base) H0 H1 locs1 → W p l e R s m args below meth c H1 locs1 cells slots Q (F0 m (pc + 3) ls rest)) : W p l e R s m args below meth c H locs cells slots Q (F0 m pc ls (.int v :: .ref (ad 10 i) :: rest)) :=
  kp_ (n := 34) (j := i) x hH hS0 hL (LvD (by decide) (by decide) h) (la10 hL h) fl (by simp) (by simp [fc, mu]) (by decide +kernel) rfl hdg kk
theorem kp_36 (x : XX D ar p s m args c cc nL own) (hH : HH D base σ H) (hS0 : va_S (mp_A base) H0 H locs) (hL : Lay ar ad rg pl V σ) {i : Nat} (h : dk rg i) {index : Nat} (fl : mp_FP cl_L wt_L own index 0 0 .int false) {v : Int32} (hdg : decode cc pc = .ok (.putfield index, 3))
    (kk : ∀ (σ1 : mp_M), Lay ar ad rg pl (mu V 36 i v) σ1 → ∀ (H1 : Heap) (locs1 : List Loc), HH D base σ1 H1 → va_S (mp_A base) H0 H1 locs1 → W p l e R s m args below meth c H1 locs1 cells slots Q (F0 m (pc + 3) ls rest)) : W p l e R s m args below meth c H locs cells slots Q (F0 m pc ls (.int v :: .ref (ad 12 i) :: rest)) :=
  kp_ (n := 36) (j := i) x hH hS0 hL (LvD (by decide) (by decide) h) (la12 hL h) fl (by simp) (by simp [fc, mu]) (by decide +kernel) rfl hdg kk
theorem kp_37 (x : XX D ar p s m args c cc nL own) (hH : HH D base σ H) (hS0 : va_S (mp_A base) H0 H locs) (hL : Lay ar ad rg pl V σ) {i : Nat} (h : dk rg i) {index : Nat} (fl : mp_FP cl_L wt_L own index 0 1 .int false) {v : Int32} (hdg : decode cc pc = .ok (.putfield index, 3))
    (kk : ∀ (σ1 : mp_M), Lay ar ad rg pl (mu V 37 i v) σ1 → ∀ (H1 : Heap) (locs1 : List Loc), HH D base σ1 H1 → va_S (mp_A base) H0 H1 locs1 → W p l e R s m args below meth c H1 locs1 cells slots Q (F0 m (pc + 3) ls rest)) : W p l e R s m args below meth c H locs cells slots Q (F0 m pc ls (.int v :: .ref (ad 12 i) :: rest)) :=
  kp_ (n := 37) (j := i) x hH hS0 hL (LvD (by decide) (by decide) h) (la12 hL h) fl (by simp) (by simp [fc, mu]) (by decide +kernel) rfl hdg kk
theorem kp_38 (x : XX D ar p s m args c cc nL own) (hH : HH D base σ H) (hS0 : va_S (mp_A base) H0 H locs) (hL : Lay ar ad rg pl V σ) {i : Nat} (h : dk rg i) {index : Nat} (fl : mp_FP cl_L wt_L own index 0 2 .int false) {v : Int32} (hdg : decode cc pc = .ok (.putfield index, 3))
    (kk : ∀ (σ1 : mp_M), Lay ar ad rg pl (mu V 38 i v) σ1 → ∀ (H1 : Heap) (locs1 : List Loc), HH D base σ1 H1 → va_S (mp_A base) H0 H1 locs1 → W p l e R s m args below meth c H1 locs1 cells slots Q (F0 m (pc + 3) ls rest)) : W p l e R s m args below meth c H locs cells slots Q (F0 m pc ls (.int v :: .ref (ad 12 i) :: rest)) :=
  kp_ (n := 38) (j := i) x hH hS0 hL (LvD (by decide) (by decide) h) (la12 hL h) fl (by simp) (by simp [fc, mu]) (by decide +kernel) rfl hdg kk
theorem kp_39 (x : XX D ar p s m args c cc nL own) (hH : HH D base σ H) (hS0 : va_S (mp_A base) H0 H locs) (hL : Lay ar ad rg pl V σ) {i : Nat} (h : dk rg i) {index : Nat} (fl : mp_FP cl_L wt_L own index 0 3 .int false) {v : Int32} (hdg : decode cc pc = .ok (.putfield index, 3))
    (kk : ∀ (σ1 : mp_M), Lay ar ad rg pl (mu V 39 i v) σ1 → ∀ (H1 : Heap) (locs1 : List Loc), HH D base σ1 H1 → va_S (mp_A base) H0 H1 locs1 → W p l e R s m args below meth c H1 locs1 cells slots Q (F0 m (pc + 3) ls rest)) : W p l e R s m args below meth c H locs cells slots Q (F0 m pc ls (.int v :: .ref (ad 12 i) :: rest)) :=
  kp_ (n := 39) (j := i) x hH hS0 hL (LvD (by decide) (by decide) h) (la12 hL h) fl (by simp) (by simp [fc, mu]) (by decide +kernel) rfl hdg kk
theorem kp_40 (x : XX D ar p s m args c cc nL own) (hH : HH D base σ H) (hS0 : va_S (mp_A base) H0 H locs) (hL : Lay ar ad rg pl V σ) {i : Nat} (h : dk rg i) {index : Nat} (fl : mp_FP cl_L wt_L own index 0 4 .int false) {v : Int32} (hdg : decode cc pc = .ok (.putfield index, 3))
    (kk : ∀ (σ1 : mp_M), Lay ar ad rg pl (mu V 40 i v) σ1 → ∀ (H1 : Heap) (locs1 : List Loc), HH D base σ1 H1 → va_S (mp_A base) H0 H1 locs1 → W p l e R s m args below meth c H1 locs1 cells slots Q (F0 m (pc + 3) ls rest)) : W p l e R s m args below meth c H locs cells slots Q (F0 m pc ls (.int v :: .ref (ad 12 i) :: rest)) :=
  kp_ (n := 40) (j := i) x hH hS0 hL (LvD (by decide) (by decide) h) (la12 hL h) fl (by simp) (by simp [fc, mu]) (by decide +kernel) rfl hdg kk
theorem kp_41 (x : XX D ar p s m args c cc nL own) (hH : HH D base σ H) (hS0 : va_S (mp_A base) H0 H locs) (hL : Lay ar ad rg pl V σ) {i : Nat} (h : dk rg i) {index : Nat} (fl : mp_FP cl_L wt_L own index 0 5 .int false) {v : Int32} (hdg : decode cc pc = .ok (.putfield index, 3))
    (kk : ∀ (σ1 : mp_M), Lay ar ad rg pl (mu V 41 i v) σ1 → ∀ (H1 : Heap) (locs1 : List Loc), HH D base σ1 H1 → va_S (mp_A base) H0 H1 locs1 → W p l e R s m args below meth c H1 locs1 cells slots Q (F0 m (pc + 3) ls rest)) : W p l e R s m args below meth c H locs cells slots Q (F0 m pc ls (.int v :: .ref (ad 12 i) :: rest)) :=
  kp_ (n := 41) (j := i) x hH hS0 hL (LvD (by decide) (by decide) h) (la12 hL h) fl (by simp) (by simp [fc, mu]) (by decide +kernel) rfl hdg kk
theorem kp_42 (x : XX D ar p s m args c cc nL own) (hH : HH D base σ H) (hS0 : va_S (mp_A base) H0 H locs) (hL : Lay ar ad rg pl V σ) {i : Nat} (h : dk rg i) {index : Nat} (fl : mp_FP cl_L wt_L own index 0 6 .int false) {v : Int32} (hdg : decode cc pc = .ok (.putfield index, 3))
    (kk : ∀ (σ1 : mp_M), Lay ar ad rg pl (mu V 42 i v) σ1 → ∀ (H1 : Heap) (locs1 : List Loc), HH D base σ1 H1 → va_S (mp_A base) H0 H1 locs1 → W p l e R s m args below meth c H1 locs1 cells slots Q (F0 m (pc + 3) ls rest)) : W p l e R s m args below meth c H locs cells slots Q (F0 m pc ls (.int v :: .ref (ad 12 i) :: rest)) :=
  kp_ (n := 42) (j := i) x hH hS0 hL (LvD (by decide) (by decide) h) (la12 hL h) fl (by simp) (by simp [fc, mu]) (by decide +kernel) rfl hdg kk
theorem kp_43 (x : XX D ar p s m args c cc nL own) (hH : HH D base σ H) (hS0 : va_S (mp_A base) H0 H locs) (hL : Lay ar ad rg pl V σ) {i : Nat} (h : dk rg i) {index : Nat} (fl : mp_FP cl_L wt_L own index 0 7 .int false) {v : Int32} (hdg : decode cc pc = .ok (.putfield index, 3))
    (kk : ∀ (σ1 : mp_M), Lay ar ad rg pl (mu V 43 i v) σ1 → ∀ (H1 : Heap) (locs1 : List Loc), HH D base σ1 H1 → va_S (mp_A base) H0 H1 locs1 → W p l e R s m args below meth c H1 locs1 cells slots Q (F0 m (pc + 3) ls rest)) : W p l e R s m args below meth c H locs cells slots Q (F0 m pc ls (.int v :: .ref (ad 12 i) :: rest)) :=
  kp_ (n := 43) (j := i) x hH hS0 hL (LvD (by decide) (by decide) h) (la12 hL h) fl (by simp) (by simp [fc, mu]) (by decide +kernel) rfl hdg kk
theorem kp_22 (x : XX D ar p s m args c cc nL own) (hH : HH D base σ H) (hS0 : va_S (mp_A base) H0 H locs) (hL : Lay ar ad rg pl V σ) {index : Nat} (fl : mp_FP cl_L wt_L own index 7 22 .int false) {v : Int32} (hdg : decode cc pc = .ok (.putfield index, 3))
    (kk : ∀ (σ1 : mp_M), Lay ar ad rg pl (mu V 22 0 v) σ1 → ∀ (H1 : Heap) (locs1 : List Loc), HH D base σ1 H1 → va_S (mp_A base) H0 H1 locs1 → W p l e R s m args below meth c H1 locs1 cells slots Q (F0 m (pc + 3) ls rest)) : W p l e R s m args below meth c H locs cells slots Q (F0 m pc ls (.int v :: .ref (ad 13 0) :: rest)) :=
  kp_ (n := 22) (j := 0) x hH hS0 hL (LvM) (la13 hL) fl (by simp) (by simp [fc, mu]) (by decide +kernel) rfl hdg kk
theorem kp_24 (x : XX D ar p s m args c cc nL own) (hH : HH D base σ H) (hS0 : va_S (mp_A base) H0 H locs) (hL : Lay ar ad rg pl V σ) {index : Nat} (fl : mp_FP cl_L wt_L own index 7 24 .int false) {v : Int32} (hdg : decode cc pc = .ok (.putfield index, 3))
    (kk : ∀ (σ1 : mp_M), Lay ar ad rg pl (mu V 24 0 v) σ1 → ∀ (H1 : Heap) (locs1 : List Loc), HH D base σ1 H1 → va_S (mp_A base) H0 H1 locs1 → W p l e R s m args below meth c H1 locs1 cells slots Q (F0 m (pc + 3) ls rest)) : W p l e R s m args below meth c H locs cells slots Q (F0 m pc ls (.int v :: .ref (ad 13 0) :: rest)) :=
  kp_ (n := 24) (j := 0) x hH hS0 hL (LvM) (la13 hL) fl (by simp) (by simp [fc, mu]) (by decide +kernel) rfl hdg kk
theorem kp_25 (x : XX D ar p s m args c cc nL own) (hH : HH D base σ H) (hS0 : va_S (mp_A base) H0 H locs) (hL : Lay ar ad rg pl V σ) {index : Nat} (fl : mp_FP cl_L wt_L own index 7 25 .int false) {v : Int32} (hdg : decode cc pc = .ok (.putfield index, 3))
    (kk : ∀ (σ1 : mp_M), Lay ar ad rg pl (mu V 25 0 v) σ1 → ∀ (H1 : Heap) (locs1 : List Loc), HH D base σ1 H1 → va_S (mp_A base) H0 H1 locs1 → W p l e R s m args below meth c H1 locs1 cells slots Q (F0 m (pc + 3) ls rest)) : W p l e R s m args below meth c H locs cells slots Q (F0 m pc ls (.int v :: .ref (ad 13 0) :: rest)) :=
  kp_ (n := 25) (j := 0) x hH hS0 hL (LvM) (la13 hL) fl (by simp) (by simp [fc, mu]) (by decide +kernel) rfl hdg kk
theorem kp_26 (x : XX D ar p s m args c cc nL own) (hH : HH D base σ H) (hS0 : va_S (mp_A base) H0 H locs) (hL : Lay ar ad rg pl V σ) {index : Nat} (fl : mp_FP cl_L wt_L own index 7 26 .int false) {v : Int32} (hdg : decode cc pc = .ok (.putfield index, 3))
    (kk : ∀ (σ1 : mp_M), Lay ar ad rg pl (mu V 26 0 v) σ1 → ∀ (H1 : Heap) (locs1 : List Loc), HH D base σ1 H1 → va_S (mp_A base) H0 H1 locs1 → W p l e R s m args below meth c H1 locs1 cells slots Q (F0 m (pc + 3) ls rest)) : W p l e R s m args below meth c H locs cells slots Q (F0 m pc ls (.int v :: .ref (ad 13 0) :: rest)) :=
  kp_ (n := 26) (j := 0) x hH hS0 hL (LvM) (la13 hL) fl (by simp) (by simp [fc, mu]) (by decide +kernel) rfl hdg kk
theorem kp_27 (x : XX D ar p s m args c cc nL own) (hH : HH D base σ H) (hS0 : va_S (mp_A base) H0 H locs) (hL : Lay ar ad rg pl V σ) {index : Nat} (fl : mp_FP cl_L wt_L own index 7 27 .int false) {v : Int32} (hdg : decode cc pc = .ok (.putfield index, 3))
    (kk : ∀ (σ1 : mp_M), Lay ar ad rg pl (mu V 27 0 v) σ1 → ∀ (H1 : Heap) (locs1 : List Loc), HH D base σ1 H1 → va_S (mp_A base) H0 H1 locs1 → W p l e R s m args below meth c H1 locs1 cells slots Q (F0 m (pc + 3) ls rest)) : W p l e R s m args below meth c H locs cells slots Q (F0 m pc ls (.int v :: .ref (ad 13 0) :: rest)) :=
  kp_ (n := 27) (j := 0) x hH hS0 hL (LvM) (la13 hL) fl (by simp) (by simp [fc, mu]) (by decide +kernel) rfl hdg kk
theorem kst_ (x : XX D ar p s m args c cc nL own) (hH : HH D base σ H) (hS0 : va_S (mp_A base) H0 H locs) (hL : Lay ar ad rg pl V σ) {kd i n : Nat} (hl : Lv rg kd i) {N : Nat} (hc : fc ar ad rg pl V kd i = .inl (ar 0, N, .inl (V n))) {j : Nat} {v : Int32} (hc2 : fc ar ad rg pl (mu V n j v) kd i = .inl (ar 0, N, .inl (mu V n j v n))) (hj : j < N) (hN : N < 2 ^ 31) (hk : kd = ok n) (hi : i = oi n j) (hdg : decode cc pc = .ok (.iastore, 1))
    (kk : ∀ (σ1 : mp_M), Lay ar ad rg pl (mu V n j v) σ1 → ∀ (H1 : Heap) (locs1 : List Loc), HH D base σ1 H1 → va_S (mp_A base) H0 H1 locs1 → W p l e R s m args below meth c H1 locs1 cells slots Q (F0 m (pc + 1) ls rest)) : W p l e R s m args below meth c H locs cells slots Q (F0 m pc ls (.int v :: .int (nI j) :: .ref (ad kd i) :: rest)) :=
  mn_ast x hH hS0 ((hL.1 kd i hl).trans (congrArg some hc)) hj hN hdg (fun σ1 f o H1 locs1 h1 h2 => kk σ1 (lay_mu hL hl (f.trans (by rw [hc2, mu_row])) o hk hi) H1 locs1 h1 h2)
/-- the model's arrays of numbers -/
theorem ka_ld (x : XX D ar p s m args c cc nL own) (hH : HH D base σ H) (hL : Lay ar ad rg pl V σ) (n : Nat) {j : Nat} (hn : n < 24 ∧ n ≠ 22) (hz : ak n = 0) (hj : j < as_ n) (hb : as_ n < 2 ^ 31) (hdg : decode cc pc = .ok (.iaload, 1))
    (kk : W p l e R s m args below meth c H locs cells slots Q (F0 m (pc + 1) ls (.int (V n j) :: rest))) : W p l e R s m args below meth c H locs cells slots Q (F0 m pc ls (.int (nI j) :: .ref (ad 14 n) :: rest)) :=
  mn_ald x hH (n := as_ n) (f := V n) (by rw [la14 hL hn, hz]) hj hb hdg kk
theorem ka_st (x : XX D ar p s m args c cc nL own) (hH : HH D base σ H) (hS0 : va_S (mp_A base) H0 H locs) (hL : Lay ar ad rg pl V σ) (n : Nat) {j : Nat} {v : Int32} (hn : n < 24 ∧ n ≠ 22) (hz : ak n = 0) (hj : j < as_ n) (hb : as_ n < 2 ^ 31) (hdg : decode cc pc = .ok (.iastore, 1))
    (kk : ∀ (σ1 : mp_M), Lay ar ad rg pl (mu V n j v) σ1 → ∀ (H1 : Heap) (locs1 : List Loc), HH D base σ1 H1 → va_S (mp_A base) H0 H1 locs1 → W p l e R s m args below meth c H1 locs1 cells slots Q (F0 m (pc + 1) ls rest)) : W p l e R s m args below meth c H locs cells slots Q (F0 m pc ls (.int v :: .int (nI j) :: .ref (ad 14 n) :: rest)) :=
  kst_ (n := n) x hH hS0 hL (LvA hn) (N := as_ n) (by show (.inl (ar (ak n), as_ n, .inl (V n)) : va_E) = _; rw [hz]) (by show (.inl (ar (ak n), as_ n, .inl (mu V n j v n)) : va_E) = _; rw [hz]) hj hb (ok14 hn).symm (oi14 j hn).symm hdg kk
/-- the model's array of booleans -/
theorem kz_ld (x : XX D ar p s m args c cc nL own) (hH : HH D base σ H) (hL : Lay ar ad rg pl V σ) {j : Nat} (hj : j < 25) (hdg : decode cc pc = .ok (.baload, 1))
    (kk : W p l e R s m args below meth c H locs cells slots Q (F0 m (pc + 1) ls (.int (V 2 j) :: rest))) : W p l e R s m args below meth c H locs cells slots Q (F0 m pc ls (.int (nI j) :: .ref (ad 14 2) :: rest)) :=
  va_zald x.1 x.2.1 x.2.2.2.2.2 (hH.one (la14 hL (i := 2) (by decide))) 0 2 rfl rfl (vp_in_nI hj (by decide)) hdg (by rw [nI_clamp (by omega)]; exact kk)
theorem kz_st (x : XX D ar p s m args c cc nL own) (hH : HH D base σ H) (hS0 : va_S (mp_A base) H0 H locs) (hL : Lay ar ad rg pl V σ) {j : Nat} {v : Int32} (hv : vp_nar .boolean v = v) (hj : j < 25) (hdg : decode cc pc = .ok (.bastore, 1))
    (kk : ∀ (σ1 : mp_M), Lay ar ad rg pl (mu V 2 j v) σ1 → ∀ (H1 : Heap) (locs1 : List Loc), HH D base σ1 H1 → va_S (mp_A base) H0 H1 locs1 → W p l e R s m args below meth c H1 locs1 cells slots Q (F0 m (pc + 1) ls rest)) : W p l e R s m args below meth c H locs cells slots Q (F0 m pc ls (.int v :: .int (nI j) :: .ref (ad 14 2) :: rest)) := by
  exact mn_zast x hH hS0 (n := 25) (f := V 2) (la14 hL (i := 2) (by decide)) hv hj (by decide) hdg (fun σ1 f o H1 locs1 h1 h2 => kk σ1 (lay_mu (n := 2) (j := j) hL (LvA (i := 2) (by decide)) (f.trans (by rw [← mu_row]; rfl)) o (by decide +kernel) (oi14 j (by decide)).symm) H1 locs1 h1 h2)
theorem krd_ld (x : XX D ar p s m args c cc nL own) (hH : HH D base σ H) (hL : Lay ar ad rg pl V σ) {i j : Nat} (h : dk rg i) (hj : j < 12) (hdg : decode cc pc = .ok (.iaload, 1))
    (kk : W p l e R s m args below meth c H locs cells slots Q (F0 m (pc + 1) ls (.int (V (100 + i) j) :: rest))) : W p l e R s m args below meth c H locs cells slots Q (F0 m pc ls (.int (nI j) :: .ref (ad 11 i) :: rest)) :=
  mn_ald x hH (la11 hL h) hj (by decide) hdg kk
theorem krd_st (x : XX D ar p s m args c cc nL own) (hH : HH D base σ H) (hS0 : va_S (mp_A base) H0 H locs) (hL : Lay ar ad rg pl V σ) {i j : Nat} {v : Int32} (h : dk rg i) (hj : j < 12) (hdg : decode cc pc = .ok (.iastore, 1))
    (kk : ∀ (σ1 : mp_M), Lay ar ad rg pl (mu V (100 + i) j v) σ1 → ∀ (H1 : Heap) (locs1 : List Loc), HH D base σ1 H1 → va_S (mp_A base) H0 H1 locs1 → W p l e R s m args below meth c H1 locs1 cells slots Q (F0 m (pc + 1) ls rest)) : W p l e R s m args below meth c H locs cells slots Q (F0 m pc ls (.int v :: .int (nI j) :: .ref (ad 11 i) :: rest)) := by
  have hd := dk_le h; exact kst_ (n := 100 + i) x hH hS0 hL (LvD (by decide) (by decide) h) (N := 12) rfl rfl hj (by decide) (ok11 hd).symm (oi11 j hd).symm hdg kk
theorem krt_ld (x : XX D ar p s m args c cc nL own) (hH : HH D base σ H) (hL : Lay ar ad rg pl V σ) {i j : Nat} (h : i < 102) (hj : j < 12) (hdg : decode cc pc = .ok (.iaload, 1))
    (kk : W p l e R s m args below meth c H locs cells slots Q (F0 m (pc + 1) ls (.int (V (1000 + i) j) :: rest))) : W p l e R s m args below meth c H locs cells slots Q (F0 m pc ls (.int (nI j) :: .ref (ad 6 i) :: rest)) :=
  mn_ald x hH (la6 hL h) hj (by decide) hdg kk
theorem krt_st (x : XX D ar p s m args c cc nL own) (hH : HH D base σ H) (hS0 : va_S (mp_A base) H0 H locs) (hL : Lay ar ad rg pl V σ) {i j : Nat} {v : Int32} (h : i < 102) (hj : j < 12) (hdg : decode cc pc = .ok (.iastore, 1))
    (kk : ∀ (σ1 : mp_M), Lay ar ad rg pl (mu V (1000 + i) j v) σ1 → ∀ (H1 : Heap) (locs1 : List Loc), HH D base σ1 H1 → va_S (mp_A base) H0 H1 locs1 → W p l e R s m args below meth c H1 locs1 cells slots Q (F0 m (pc + 1) ls rest)) : W p l e R s m args below meth c H locs cells slots Q (F0 m pc ls (.int v :: .int (nI j) :: .ref (ad 6 i) :: rest)) := by
  exact kst_ (n := 1000 + i) x hH hS0 hL (LvT (by decide) (by decide) h) (N := 12) rfl rfl hj (by decide) (ok6 i).symm (oi6 i j).symm hdg kk
end KRW
end
section
/-! ROWS over the flat state for arrays of references, the letter that was taken, and a throw. -/
def va_E_row (ar : Nat → ClassId) (ad : Nat → Nat → Nat) (rg : Nat → Bool) (pl : Nat → Nat) (V : fV) : va_E := .inr (3, [.ref (ad 3 0), .ref (ad 4 101), .ref (ad 4 (pl 0)), .int (V 54 0), .int (V 55 0), .int (V 56 0), .int (V 57 0), .int (V 58 0)])
def va_E_pls (ar : Nat → ClassId) (ad : Nat → Nat → Nat) (rg : Nat → Bool) (pl : Nat → Nat) (V : fV) : va_E := .inl (ar 5, 100, .inr (.inr (.inr (.inr (fun q => some (ad 4 (pl (q + 1))))))))
section KRF
variable {p : Program} {l : Launch} {e : Env} {R : Room} {s : State} {m : MethodId} {args : Array Value} {below : List Frame} {meth : Method} {c : Code} {H : Heap} {locs : List Loc} {cells slots : Nat} {Q : State → Prop}
variable {cc : ByteArray} {nL pc : Nat} {ls : Array Slot} {rest : List Value} {D : va_G} {ar : Nat → ClassId} {base : Nat} {σ : mp_M} {H0 : Heap} {own : String} {ad : Nat → Nat → Nat} {rg : Nat → Bool} {pl : Nat → Nat} {V : fV}
theorem kpl_ld (x : XX D ar p s m args c cc nL own) (hH : HH D base σ H) (hL : Lay ar ad rg pl V σ) {j : Nat} (hj : j < 100) (hdg : decode cc pc = .ok (.aaload, 1))
    (kk : W p l e R s m args below meth c H locs cells slots Q (F0 m (pc + 1) ls (.ref (ad 4 (pl (j + 1))) :: rest))) : W p l e R s m args below meth c H locs cells slots Q (F0 m pc ls (.int (nI j) :: .ref (ad 3 0) :: rest)) :=
  mn_aald x hH 5 rfl (la3 hL) (vp_in_nI hj (by decide)) (by rw [nI_clamp (by omega)]) hdg kk
theorem kds_ld (x : XX D ar p s m args c cc nL own) (hH : HH D base σ H) (hL : Lay ar ad rg pl V σ) {i j : Nat} (h : i < 20 ∧ rg i = true) (hj : j < 25) (hdg : decode cc pc = .ok (.aaload, 1))
    (kk : W p l e R s m args below meth c H locs cells slots Q (F0 m (pc + 1) ls (.ref (ad 9 (20 * j + i)) :: rest))) : W p l e R s m args below meth c H locs cells slots Q (F0 m pc ls (.int (nI j) :: .ref (ad 8 i) :: rest)) :=
  mn_aald x hH 4 rfl (la8 hL h) (vp_in_nI hj (by decide)) (by rw [nI_clamp (by omega)]) hdg kk
theorem kps_ld (x : XX D ar p s m args c cc nL own) (hH : HH D base σ H) (hL : Lay ar ad rg pl V σ) {j : Nat} (hj : j < 20) (hg : rg j = true) (hdg : decode cc pc = .ok (.aaload, 1))
    (kk : W p l e R s m args below meth c H locs cells slots Q (F0 m (pc + 1) ls (.ref (ad 7 j) :: rest))) : W p l e R s m args below meth c H locs cells slots Q (F0 m pc ls (.int (nI j) :: .ref (ad 1 0) :: rest)) :=
  mn_aald x hH 3 rfl (la1 hL) (vp_in_nI hj (by decide)) (by rw [nI_clamp (by omega), if_pos hg]) hdg kk
theorem kps_ldN (x : XX D ar p s m args c cc nL own) (hH : HH D base σ H) (hL : Lay ar ad rg pl V σ) {j : Nat} (hj : j < 20) (hg : rg j = false) (hdg : decode cc pc = .ok (.aaload, 1))
    (kk : W p l e R s m args below meth c H locs cells slots Q (F0 m (pc + 1) ls (.null :: rest))) : W p l e R s m args below meth c H locs cells slots Q (F0 m pc ls (.int (nI j) :: .ref (ad 1 0) :: rest)) :=
  mn_aaldN x hH 3 rfl (la1 hL) (vp_in_nI hj (by decide)) (by rw [nI_clamp (by omega), if_neg (by rw [hg]; decide)]) hdg kk
theorem Lv_sing {kd i : Nat} (h : Lv rg kd i) (hk : kd ≤ 3) : i = 0 := by
  rcases h with q | q | q | q | q | q | q
  · exact q.2
  all_goals omega
theorem fc_pl {pl' : Nat → Nat} {kd i : Nat} (h : kd ≠ 2) (h2 : kd ≠ 3) : fc ar ad rg pl' V kd i = fc ar ad rg pl V kd i := by
  unfold fc
  split <;> first | rfl | exact absurd rfl h | exact absurd rfl h2
theorem lay_pl {σ1 : mp_M} {pl' : Nat → Nat} (hL : Lay ar ad rg pl V σ) {kd : Nat} (hk : kd = 2 ∨ kd = 3) (h1 : σ1 (ad kd 0) = some (fc ar ad rg pl' V kd 0)) (o : ∀ q, q ≠ ad kd 0 → σ1 q = σ q) (h2 : kd = 2 → ∀ j, pl' (j + 1) = pl (j + 1)) (h3 : kd = 3 → pl' 0 = pl 0) : Lay ar ad rg pl' V σ1 := by
  have hl : Lv rg kd 0 := LvG (by omega)
  refine ⟨fun kd' i' hl' => ?_, hL.2⟩
  by_cases h : kd' = kd ∧ i' = 0
  · obtain ⟨rfl, rfl⟩ := h
    exact h1
  · rw [o _ (fun q => h (hL.2 _ _ _ _ hl' hl q)), hL.1 _ _ hl']
    by_cases h4 : kd' = 2
    · subst h4
      rcases hk with rfl | rfl
      · exact absurd ⟨rfl, Lv_sing hl' (by decide)⟩ h
      · show some (va_E_row ar ad rg pl V) = some (va_E_row ar ad rg pl' V)
        unfold va_E_row
        rw [h3 rfl]
    · by_cases h5 : kd' = 3
      · subst h5
        rcases hk with rfl | rfl
        · show some (va_E_pls ar ad rg pl V) = some (va_E_pls ar ad rg pl' V)
          unfold va_E_pls
          have : (fun q => some (ad 4 (pl (q + 1)))) = fun q => some (ad 4 (pl' (q + 1))) := funext fun q => by rw [h2 rfl q]
          rw [this]
        · exact absurd ⟨rfl, Lv_sing hl' (by decide)⟩ h
      · rw [fc_pl h4 h5]
theorem kpl_st (x : XX D ar p s m args c cc nL own) (hH : HH D base σ H) (hS0 : va_S (mp_A base) H0 H locs) (hL : Lay ar ad rg pl V σ) {i j : Nat} (ht : i < 102) (hj : j < 100) (hdg : decode cc pc = .ok (.aastore, 1))
    (kk : ∀ (σ1 : mp_M), Lay ar ad rg (va_up pl (j + 1) i) V σ1 → ∀ (H1 : Heap) (locs1 : List Loc), HH D base σ1 H1 → va_S (mp_A base) H0 H1 locs1 → W p l e R s m args below meth c H1 locs1 cells slots Q (F0 m (pc + 1) ls rest)) : W p l e R s m args below meth c H locs cells slots Q (F0 m pc ls (.ref (ad 4 i) :: .int (nI j) :: .ref (ad 3 0) :: rest)) :=
  mn_aast x hH hS0 5 rfl rfl (la3 hL) (la4 hL ht) (vp_in_nI hj (by decide)) hdg (fun σ1 f o H1 locs1 h1 h2 => kk σ1 (lay_pl hL (Or.inr rfl) (f.trans (by
    rw [nI_clamp (by omega)]
    show _ = some (va_E_pls ar ad rg (va_up pl (j + 1) i) V)
    unfold va_E_pls
    have : va_up (fun q => some (ad 4 (pl (q + 1)))) j (some (ad 4 i)) = fun q => some (ad 4 (va_up pl (j + 1) i (q + 1))) := by
      funext q
      by_cases h : q = j
      · subst h; simp [va_up]
      · simp [va_up, h]
    rw [this])) o (fun h => absurd h (by decide)) (fun _ => by simp [va_up])) H1 locs1 h1 h2)
theorem kt_put (x : XX D ar p s m args c cc nL own) (hH : HH D base σ H) (hS0 : va_S (mp_A base) H0 H locs) (hL : Lay ar ad rg pl V σ) {i : Nat} (ht : i < 102) {index : Nat} {ty : FieldType} (fl : mp_FP cl_L wt_L own index 3 2 ty false) (hn : narrow ty (.ref (ad 4 i)) = .ref (ad 4 i)) (hf : fits ty (.ref (ad 4 i)) = true) (hdg : decode cc pc = .ok (.putfield index, 3))
    (kk : ∀ (σ1 : mp_M), Lay ar ad rg (va_up pl 0 i) V σ1 → ∀ (H1 : Heap) (locs1 : List Loc), HH D base σ1 H1 → va_S (mp_A base) H0 H1 locs1 → W p l e R s m args below meth c H1 locs1 cells slots Q (F0 m (pc + 3) ls rest)) : W p l e R s m args below meth c H locs cells slots Q (F0 m pc ls (.ref (ad 4 i) :: .ref (ad 2 0) :: rest)) :=
  mn_put x hH hS0 (la2 hL) fl hn hf (by simp) rfl hdg (fun σ1 f o H1 locs1 h1 h2 => kk σ1 (lay_pl hL (Or.inl rfl) (f.trans (by
    show _ = some (va_E_row ar ad rg (va_up pl 0 i) V)
    unfold va_E_row
    simp [va_up])) o (fun _ j => by simp [va_up]) (fun h => absurd h (by decide))) H1 locs1 h1 h2)
/-- an exception is made and thrown, in a method of SupplyGrid without handlers -/
theorem kx_throw (x : XX D ar p s m args c cc nL own) {mc ms : Nat} {PO : Outcome → mp_M → State → Prop} (hG : GG D ar base s) (hB : base ≤ s.heap.size) (hlen : ls.size = nL) (hfl : l.flags = flags0) (hlocks : meth.locks = false) (hh : c.exceptionTable.toList.map (fun h => (h.startPc, h.endPc, h.handlerPc, h.catchType)) = [])
    {cls tx : String} {ia ib ic : Nat} (hcls : Bundle.fit cls = true) (hcl : Cond.classLink own ia cls ∈ wt_L) (hinst : Cond.instantiable cls 6 ∈ wt_L) (hini : Cond.initialized cls ∈ wt_L) (hat : ∀ w ∈ Bundle.ownAtoms own ic cls ["java/lang/RuntimeException", "java/lang/Exception"], mp_At wt_L w) (hown2 : own = "SupplyGrid") (hstr : (ib, tx) ∈ mp_strs)
    (hd0 : decode cc pc = .ok (.new ia, 3)) (hd3 : decode cc (pc + 3) = .ok (.dup, 1)) (hd4 : decode cc (pc + 4) = .ok (.ldc ib, 2)) (hd6 : decode cc (pc + 6) = .ok (.invokespecial ic, 3)) (hd9 : decode cc (pc + 9) = .ok (.athrow, 1))
    (hfr : 6 ≤ R.frames) (hlo : (rest.map fun v => v.category).sum + 82 ≤ R.locals) (hce : cells + 1 ≤ R.cells) (hsl : slots + 6 ≤ R.slots) (hce2 : cells + 1 ≤ mc) (hsl2 : slots + 6 ≤ ms) (hH : HH D base σ H) (hS : va_S (mp_A base) s.heap H locs)
    (hq : ∀ (t : State) (a : Addr), mp_T cls a t → PO (.threw a) σ t) :
    W p l e R s m args below meth c H locs cells slots (mp_Q below s mc ms base (mp_P D cl_L base s PO)) (F0 m pc ls rest) :=
  mp_throwS x (wt_mv base) wt_us hG hB hlen hfl hlocks hh hcls hcl hinst hini hat hown2 hstr hd0 hd3 hd4 hd6 hd9 hfr hlo hce hsl hce2 hsl2 hS
    (fun t hT hz ho hW => ⟨⟨σ, hq t _ hT, hH.grow ho⟩, Nat.le_trans hS.1 hz, fun q h1 h2 => (ho q (Nat.lt_of_lt_of_le h1 hS.1)).trans (hS.2.1 q h1 h2)⟩)
end KRF
end
section
set_option maxRecDepth 100000 in
set_option maxHeartbeats 4000000 in
theorem kk_jm_max {l : Launch} {D : va_G} {ar : Nat → ClassId} {base : Nat} {σ : mp_M} {k j : Int32}  : CN l D ar base yy_jm_max prog_14_method_65_code 2 (Option.some Jvm.ClassFile.FieldType.int) [] 0 0 0 0 [.int k, .int j] σ (fun o σ' _ => o = .returned (some (.int (if k < j then j else k))) ∧ σ' = σ) := by
  refine mp_in (Nat.le_of_ble_eq_true rfl) ?_
  intro p e R s m below meth c x hfr hlo hce hsl hr hlk hin hex hG hB ls H hH0 hH hS hl
  have hl : lv_has ls 2 [(0, .int k), (1, .int j)] := hl
  refine lv_iload_n x.1 x.2.1 dd_jm_max_0 rfl (lv_at hl 0 rfl) ?_
  refine lv_iload_n x.1 x.2.1 dd_jm_max_1 rfl (lv_at hl 1 rfl) ?_
  refine lv_icmp_lt (tgt := 9) x.1 x.2.1 dd_jm_max_2 (by decide) (fun c1 => ?_) (fun c1 => ?_)
  · refine lv_iload_n x.1 x.2.1 dd_jm_max_9 rfl (lv_at hl 1 rfl) ?_
    exact mp_ri x hr hlk (by decide) (by decide) hH hS (fun _ => ⟨(congrArg (fun z => Outcome.returned (some (.int z))) (by simp [c1])), rfl⟩) dd_jm_max_10
  · refine lv_iload_n x.1 x.2.1 dd_jm_max_5 rfl (lv_at hl 0 rfl) ?_
    refine lv_goto (tgt := 10) x.1 x.2.1 dd_jm_max_6 (by decide) ?_
    exact mp_ri x hr hlk (by decide) (by decide) hH hS (fun _ => ⟨(congrArg (fun z => Outcome.returned (some (.int z))) (by simp [c1])), rfl⟩) dd_jm_max_10
theorem fd_xor {n : Nat} (h : n < 2 ^ 31) : ¬ nI n ^^^ nI 25 < 0 := by
  rw [Int32.lt_iff_toInt_lt]
  show ¬ (nI n ^^^ nI 25).toBitVec.toInt < (0 : Int32).toInt
  rw [Int32.toBitVec_xor]
  have h1 : (nI n).toBitVec.msb = false := by
    rw [BitVec.msb_eq_false_iff_two_mul_lt, pk_tn (by omega)]
    omega
  have h2 : ((nI n).toBitVec ^^^ (nI 25).toBitVec).msb = false := by
    rw [BitVec.msb_xor, h1]
    decide
  have h3 := BitVec.toInt_nonneg_of_msb_false h2
  have h4 : (0 : Int32).toInt = 0 := by decide
  rw [h4]
  omega
theorem fd_sub {a b : Nat} (h : a < b) (h2 : b ≤ a + 24) : ∃ k, k < 25 ∧ 0 < k ∧ nI a - nI b = - nI k := by
  refine ⟨b - a, by omega, by omega, ?_⟩
  have : nI b = nI a + nI (b - a) := by
    rw [nI_add]
    congr 1
    omega
  rw [this, Int32.sub_eq_add_neg, Int32.neg_add, Int32.sub_eq_add_neg, ← Int32.add_assoc, Int32.add_right_neg, Int32.zero_add]
theorem fd_neg {k : Nat} (h : k < 25) (h0 : 0 < k) : (- nI k) / nI 25 = 0 ∧ - nI k ^^^ nI 25 < 0 ∧ ¬ 0 * nI 25 = - nI k ∧ (0 : Int32) - nI 1 = -1 := by
  have : k = 1 ∨ k = 2 ∨ k = 3 ∨ k = 4 ∨ k = 5 ∨ k = 6 ∨ k = 7 ∨ k = 8 ∨ k = 9 ∨ k = 10 ∨ k = 11 ∨ k = 12 ∨ k = 13 ∨ k = 14 ∨ k = 15 ∨ k = 16 ∨ k = 17 ∨ k = 18 ∨ k = 19 ∨ k = 20 ∨ k = 21 ∨ k = 22 ∨ k = 23 ∨ k = 24 := by omega
  rcases this with rfl | rfl | rfl | rfl | rfl | rfl | rfl | rfl | rfl | rfl | rfl | rfl | rfl | rfl | rfl | rfl | rfl | rfl | rfl | rfl | rfl | rfl | rfl | rfl <;> decide +kernel
set_option maxRecDepth 100000 in
set_option maxHeartbeats 4000000 in
theorem kk_jm_fdP {l : Launch} {D : va_G} {ar : Nat → ClassId} {base : Nat} {σ : mp_M} {n : Nat} (hn : n < 2 ^ 31) : CN l D ar base yy_jm_floorDiv prog_14_method_47_code 3 (Option.some Jvm.ClassFile.FieldType.int) [] 0 0 0 0 [.int (nI n), .int (nI 25)] σ (fun o σ' _ => o = .returned (some (.int (nI (n / 25)))) ∧ σ' = σ) := by
  refine mp_in (Nat.le_of_ble_eq_true rfl) ?_
  intro p e R s m below meth c x hfr hlo hce hsl hr hlk hin hex hG hB ls H hH0 hH hS hl
  have hl : lv_has ls 3 [(0, .int (nI n)), (1, .int (nI 25))] := hl
  refine lv_iload_n x.1 x.2.1 dd_jm_floorDiv_0 rfl (lv_at hl 0 rfl) ?_
  refine lv_iload_n x.1 x.2.1 dd_jm_floorDiv_1 rfl (lv_at hl 1 rfl) ?_
  refine lv_idiv x.1 x.2.1 dd_jm_floorDiv_2 (by decide +kernel) ?_
  refine mn_top (w := nI (n / 25)) (pk_div (by omega) (by decide) (by decide)) ?_
  refine lv_istore_n (lv' := [(2, .int (nI (n / 25))), (0, .int (nI n)), (1, .int (nI 25))]) x.1 x.2.1 dd_jm_floorDiv_3 rfl hl (by decide) rfl (fun ls hl => ?_)
  refine lv_iload_n x.1 x.2.1 dd_jm_floorDiv_4 rfl (lv_at hl 1 rfl) ?_
  refine lv_iload_n x.1 x.2.1 dd_jm_floorDiv_5 rfl (lv_at hl 2 rfl) ?_
  refine lv_ixor x.1 x.2.1 dd_jm_floorDiv_6 ?_
  refine lv_if_ge (tgt := 21) x.1 x.2.1 dd_jm_floorDiv_7 (by decide) (fun c2 => ?_) (fun c2 => absurd (Int32.not_lt.mp (fd_xor hn)) c2)
  refine lv_iload_n x.1 x.2.1 dd_jm_floorDiv_21 rfl (lv_at hl 0 rfl) ?_
  exact mp_ri x hr hlk (by decide) (by decide) hH hS (fun _ => ⟨rfl, rfl⟩) dd_jm_floorDiv_22
set_option maxRecDepth 100000 in
set_option maxHeartbeats 4000000 in
theorem kk_jm_fdN {l : Launch} {D : va_G} {ar : Nat → ClassId} {base : Nat} {σ : mp_M} {k : Nat} (hk : k < 25) (h0 : 0 < k) : CN l D ar base yy_jm_floorDiv prog_14_method_47_code 3 (Option.some Jvm.ClassFile.FieldType.int) [] 0 0 0 0 [.int (- nI k), .int (nI 25)] σ (fun o σ' _ => o = .returned (some (.int (-1))) ∧ σ' = σ) := by
  refine mp_in (Nat.le_of_ble_eq_true rfl) ?_
  intro p e R s m below meth c x hfr hlo hce hsl hr hlk hin hex hG hB ls H hH0 hH hS hl
  have hl : lv_has ls 3 [(0, .int (- nI k)), (1, .int (nI 25))] := hl
  refine lv_iload_n x.1 x.2.1 dd_jm_floorDiv_0 rfl (lv_at hl 0 rfl) ?_
  refine lv_iload_n x.1 x.2.1 dd_jm_floorDiv_1 rfl (lv_at hl 1 rfl) ?_
  refine lv_idiv x.1 x.2.1 dd_jm_floorDiv_2 (by decide +kernel) ?_
  refine lv_istore_n (lv' := [(2, .int ((- nI k) / (nI 25))), (0, .int (- nI k)), (1, .int (nI 25))]) x.1 x.2.1 dd_jm_floorDiv_3 rfl hl (by decide) rfl (fun ls hl => ?_)
  refine lv_iload_n x.1 x.2.1 dd_jm_floorDiv_4 rfl (lv_at hl 1 rfl) ?_
  refine lv_iload_n x.1 x.2.1 dd_jm_floorDiv_5 rfl (lv_at hl 2 rfl) ?_
  refine lv_ixor x.1 x.2.1 dd_jm_floorDiv_6 ?_
  refine lv_if_ge (tgt := 21) x.1 x.2.1 dd_jm_floorDiv_7 (by decide) (fun c3 => absurd c3 (Int32.not_le.mpr (fd_neg hk h0).2.1)) (fun c3 => ?_)
  refine lv_iload_n x.1 x.2.1 dd_jm_floorDiv_10 rfl (lv_at hl 0 rfl) ?_
  refine lv_iload_n x.1 x.2.1 dd_jm_floorDiv_11 rfl (lv_at hl 2 rfl) ?_
  refine lv_imul x.1 x.2.1 dd_jm_floorDiv_12 ?_
  refine lv_iload_n x.1 x.2.1 dd_jm_floorDiv_13 rfl (lv_at hl 1 rfl) ?_
  refine lv_icmp_eq (tgt := 21) x.1 x.2.1 dd_jm_floorDiv_14 (by decide) (fun c4 => absurd c4 (by rw [(fd_neg hk h0).1]; exact (fd_neg hk h0).2.2.1)) (fun c4 => ?_)
  refine lv_iload_n x.1 x.2.1 dd_jm_floorDiv_17 rfl (lv_at hl 0 rfl) ?_
  refine lv_iconst (v := nI 1) x.1 x.2.1 dd_jm_floorDiv_18 (by decide +kernel) ?_
  refine lv_isub x.1 x.2.1 dd_jm_floorDiv_19 ?_
  exact mp_ri x hr hlk (by decide) (by decide) hH hS (fun _ => ⟨(congrArg (fun z => Outcome.returned (some (.int z))) (by rw [(fd_neg hk h0).1]; exact (fd_neg hk h0).2.2.2)), rfl⟩) dd_jm_floorDiv_20
def tcb (v : Int32) (c : Nat) : Int32 := (v >>> (nI c &&& 31)) &&& 1082401
def tec (v : Int32) : Int32 := if tcb v 0 = 0 ∨ tcb v 1 = 0 ∨ tcb v 2 = 0 ∨ tcb v 3 = 0 ∨ tcb v 4 = 0 then nI 0 else nI 1
def hwc (v : Int32) : Int32 := if tcb v 0 = 1082401 ∨ tcb v 1 = 1082401 ∨ tcb v 2 = 1082401 ∨ tcb v 3 = 1082401 ∨ tcb v 4 = 1082401 then nI 1 else nI 0
set_option maxRecDepth 100000 in
set_option maxHeartbeats 4000000 in
theorem kk_sg_touchesEachColumn {l : Launch} {D : va_G} {ar : Nat → ClassId} {base : Nat} {σ : mp_M} {k : Int32}  : CN l D ar base yy_sg_touchesEachColumn prog_1_method_33_code 2 (Option.some Jvm.ClassFile.FieldType.boolean) [] 0 0 0 0 [.int k] σ (fun o σ' _ => o = .returned (some (.int (tec k))) ∧ σ' = σ) := by
  refine mp_in (Nat.le_of_ble_eq_true rfl) ?_
  intro p e R s m below meth c x hfr hlo hce hsl hr hlk hin hex hG hB ls H hH0 hH hS hl
  have hl : lv_has ls 2 [(0, .int k)] := hl
  refine lv_iconst (v := nI 0) x.1 x.2.1 dd_sg_touchesEachColumn_0 (by decide +kernel) ?_
  refine lv_istore_n (lv' := [(1, .int (nI 0)), (0, .int k)]) x.1 x.2.1 dd_sg_touchesEachColumn_1 rfl hl (by decide) rfl (fun ls hl => ?_)
  refine lv_iload_n x.1 x.2.1 dd_sg_touchesEachColumn_2 rfl (lv_at hl 0 rfl) ?_
  refine lv_iconst (v := nI 5) x.1 x.2.1 dd_sg_touchesEachColumn_3 (by decide +kernel) ?_
  refine lv_icmp_ge (tgt := 25) x.1 x.2.1 dd_sg_touchesEachColumn_4 (by decide) (fun c5 => absurd c5 (by decide +kernel)) (fun c5 => ?_)
  refine lv_iload_n x.1 x.2.1 dd_sg_touchesEachColumn_7 rfl (lv_at hl 1 rfl) ?_
  refine lv_iload_n x.1 x.2.1 dd_sg_touchesEachColumn_8 rfl (lv_at hl 0 rfl) ?_
  refine lv_ishr x.1 x.2.1 dd_sg_touchesEachColumn_9 ?_
  refine lv_ldcw (v := 1082401) x.1 x.2.1 x.2.2.2.1 (x.2.2.2.2.1 _ ww_296) dd_sg_touchesEachColumn_10 ?_
  refine lv_iand x.1 x.2.1 dd_sg_touchesEachColumn_13 ?_
  refine lv_if_ne (tgt := 19) x.1 x.2.1 dd_sg_touchesEachColumn_14 (by decide) (fun c6 => ?_) (fun c6 => ?_)
  · refine lv_iinc (v := nI 1) (lv' := [(1, .int (nI 1)), (0, .int k)]) x.1 x.2.1 dd_sg_touchesEachColumn_19 hl (k := 0) rfl (mn_inc _) (by decide) rfl (fun ls hl => ?_)
    refine lv_goto (tgt := 2) x.1 x.2.1 dd_sg_touchesEachColumn_22 (by decide) ?_
    refine lv_iload_n x.1 x.2.1 dd_sg_touchesEachColumn_2 rfl (lv_at hl 0 rfl) ?_
    refine lv_iconst (v := nI 5) x.1 x.2.1 dd_sg_touchesEachColumn_3 (by decide +kernel) ?_
    refine lv_icmp_ge (tgt := 25) x.1 x.2.1 dd_sg_touchesEachColumn_4 (by decide) (fun c7 => absurd c7 (by decide +kernel)) (fun c7 => ?_)
    refine lv_iload_n x.1 x.2.1 dd_sg_touchesEachColumn_7 rfl (lv_at hl 1 rfl) ?_
    refine lv_iload_n x.1 x.2.1 dd_sg_touchesEachColumn_8 rfl (lv_at hl 0 rfl) ?_
    refine lv_ishr x.1 x.2.1 dd_sg_touchesEachColumn_9 ?_
    refine lv_ldcw (v := 1082401) x.1 x.2.1 x.2.2.2.1 (x.2.2.2.2.1 _ ww_296) dd_sg_touchesEachColumn_10 ?_
    refine lv_iand x.1 x.2.1 dd_sg_touchesEachColumn_13 ?_
    refine lv_if_ne (tgt := 19) x.1 x.2.1 dd_sg_touchesEachColumn_14 (by decide) (fun c8 => ?_) (fun c8 => ?_)
    · refine lv_iinc (v := nI 2) (lv' := [(1, .int (nI 2)), (0, .int k)]) x.1 x.2.1 dd_sg_touchesEachColumn_19 hl (k := 0) rfl (mn_inc _) (by decide) rfl (fun ls hl => ?_)
      refine lv_goto (tgt := 2) x.1 x.2.1 dd_sg_touchesEachColumn_22 (by decide) ?_
      refine lv_iload_n x.1 x.2.1 dd_sg_touchesEachColumn_2 rfl (lv_at hl 0 rfl) ?_
      refine lv_iconst (v := nI 5) x.1 x.2.1 dd_sg_touchesEachColumn_3 (by decide +kernel) ?_
      refine lv_icmp_ge (tgt := 25) x.1 x.2.1 dd_sg_touchesEachColumn_4 (by decide) (fun c9 => absurd c9 (by decide +kernel)) (fun c9 => ?_)
      refine lv_iload_n x.1 x.2.1 dd_sg_touchesEachColumn_7 rfl (lv_at hl 1 rfl) ?_
      refine lv_iload_n x.1 x.2.1 dd_sg_touchesEachColumn_8 rfl (lv_at hl 0 rfl) ?_
      refine lv_ishr x.1 x.2.1 dd_sg_touchesEachColumn_9 ?_
      refine lv_ldcw (v := 1082401) x.1 x.2.1 x.2.2.2.1 (x.2.2.2.2.1 _ ww_296) dd_sg_touchesEachColumn_10 ?_
      refine lv_iand x.1 x.2.1 dd_sg_touchesEachColumn_13 ?_
      refine lv_if_ne (tgt := 19) x.1 x.2.1 dd_sg_touchesEachColumn_14 (by decide) (fun c10 => ?_) (fun c10 => ?_)
      · refine lv_iinc (v := nI 3) (lv' := [(1, .int (nI 3)), (0, .int k)]) x.1 x.2.1 dd_sg_touchesEachColumn_19 hl (k := 0) rfl (mn_inc _) (by decide) rfl (fun ls hl => ?_)
        refine lv_goto (tgt := 2) x.1 x.2.1 dd_sg_touchesEachColumn_22 (by decide) ?_
        refine lv_iload_n x.1 x.2.1 dd_sg_touchesEachColumn_2 rfl (lv_at hl 0 rfl) ?_
        refine lv_iconst (v := nI 5) x.1 x.2.1 dd_sg_touchesEachColumn_3 (by decide +kernel) ?_
        refine lv_icmp_ge (tgt := 25) x.1 x.2.1 dd_sg_touchesEachColumn_4 (by decide) (fun c11 => absurd c11 (by decide +kernel)) (fun c11 => ?_)
        refine lv_iload_n x.1 x.2.1 dd_sg_touchesEachColumn_7 rfl (lv_at hl 1 rfl) ?_
        refine lv_iload_n x.1 x.2.1 dd_sg_touchesEachColumn_8 rfl (lv_at hl 0 rfl) ?_
        refine lv_ishr x.1 x.2.1 dd_sg_touchesEachColumn_9 ?_
        refine lv_ldcw (v := 1082401) x.1 x.2.1 x.2.2.2.1 (x.2.2.2.2.1 _ ww_296) dd_sg_touchesEachColumn_10 ?_
        refine lv_iand x.1 x.2.1 dd_sg_touchesEachColumn_13 ?_
        refine lv_if_ne (tgt := 19) x.1 x.2.1 dd_sg_touchesEachColumn_14 (by decide) (fun c12 => ?_) (fun c12 => ?_)
        · refine lv_iinc (v := nI 4) (lv' := [(1, .int (nI 4)), (0, .int k)]) x.1 x.2.1 dd_sg_touchesEachColumn_19 hl (k := 0) rfl (mn_inc _) (by decide) rfl (fun ls hl => ?_)
          refine lv_goto (tgt := 2) x.1 x.2.1 dd_sg_touchesEachColumn_22 (by decide) ?_
          refine lv_iload_n x.1 x.2.1 dd_sg_touchesEachColumn_2 rfl (lv_at hl 0 rfl) ?_
          refine lv_iconst (v := nI 5) x.1 x.2.1 dd_sg_touchesEachColumn_3 (by decide +kernel) ?_
          refine lv_icmp_ge (tgt := 25) x.1 x.2.1 dd_sg_touchesEachColumn_4 (by decide) (fun c13 => absurd c13 (by decide +kernel)) (fun c13 => ?_)
          refine lv_iload_n x.1 x.2.1 dd_sg_touchesEachColumn_7 rfl (lv_at hl 1 rfl) ?_
          refine lv_iload_n x.1 x.2.1 dd_sg_touchesEachColumn_8 rfl (lv_at hl 0 rfl) ?_
          refine lv_ishr x.1 x.2.1 dd_sg_touchesEachColumn_9 ?_
          refine lv_ldcw (v := 1082401) x.1 x.2.1 x.2.2.2.1 (x.2.2.2.2.1 _ ww_296) dd_sg_touchesEachColumn_10 ?_
          refine lv_iand x.1 x.2.1 dd_sg_touchesEachColumn_13 ?_
          refine lv_if_ne (tgt := 19) x.1 x.2.1 dd_sg_touchesEachColumn_14 (by decide) (fun c14 => ?_) (fun c14 => ?_)
          · refine lv_iinc (v := nI 5) (lv' := [(1, .int (nI 5)), (0, .int k)]) x.1 x.2.1 dd_sg_touchesEachColumn_19 hl (k := 0) rfl (mn_inc _) (by decide) rfl (fun ls hl => ?_)
            refine lv_goto (tgt := 2) x.1 x.2.1 dd_sg_touchesEachColumn_22 (by decide) ?_
            refine lv_iload_n x.1 x.2.1 dd_sg_touchesEachColumn_2 rfl (lv_at hl 0 rfl) ?_
            refine lv_iconst (v := nI 5) x.1 x.2.1 dd_sg_touchesEachColumn_3 (by decide +kernel) ?_
            refine lv_icmp_ge (tgt := 25) x.1 x.2.1 dd_sg_touchesEachColumn_4 (by decide) (fun c15 => ?_) (fun c15 => absurd (by decide +kernel) c15)
            refine lv_iconst (v := nI 1) x.1 x.2.1 dd_sg_touchesEachColumn_25 (by decide +kernel) ?_
            exact mp_rz x hr (by decide) hlk (by decide) (by decide) hH hS (fun _ => ⟨(congrArg (fun z => Outcome.returned (some (.int z))) (by simp [tec, tcb, c6, c8, c10, c12, c14])), rfl⟩) dd_sg_touchesEachColumn_26
          · refine lv_iconst (v := nI 0) x.1 x.2.1 dd_sg_touchesEachColumn_17 (by decide +kernel) ?_
            exact mp_rz x hr (by decide) hlk (by decide) (by decide) hH hS (fun _ => ⟨(congrArg (fun z => Outcome.returned (some (.int z))) (by simp [tec, tcb, c6, c8, c10, c12, c14])), rfl⟩) dd_sg_touchesEachColumn_18
        · refine lv_iconst (v := nI 0) x.1 x.2.1 dd_sg_touchesEachColumn_17 (by decide +kernel) ?_
          exact mp_rz x hr (by decide) hlk (by decide) (by decide) hH hS (fun _ => ⟨(congrArg (fun z => Outcome.returned (some (.int z))) (by simp [tec, tcb, c6, c8, c10, c12])), rfl⟩) dd_sg_touchesEachColumn_18
      · refine lv_iconst (v := nI 0) x.1 x.2.1 dd_sg_touchesEachColumn_17 (by decide +kernel) ?_
        exact mp_rz x hr (by decide) hlk (by decide) (by decide) hH hS (fun _ => ⟨(congrArg (fun z => Outcome.returned (some (.int z))) (by simp [tec, tcb, c6, c8, c10])), rfl⟩) dd_sg_touchesEachColumn_18
    · refine lv_iconst (v := nI 0) x.1 x.2.1 dd_sg_touchesEachColumn_17 (by decide +kernel) ?_
      exact mp_rz x hr (by decide) hlk (by decide) (by decide) hH hS (fun _ => ⟨(congrArg (fun z => Outcome.returned (some (.int z))) (by simp [tec, tcb, c6, c8])), rfl⟩) dd_sg_touchesEachColumn_18
  · refine lv_iconst (v := nI 0) x.1 x.2.1 dd_sg_touchesEachColumn_17 (by decide +kernel) ?_
    exact mp_rz x hr (by decide) hlk (by decide) (by decide) hH hS (fun _ => ⟨(congrArg (fun z => Outcome.returned (some (.int z))) (by simp [tec, tcb, c6])), rfl⟩) dd_sg_touchesEachColumn_18
set_option maxRecDepth 100000 in
set_option maxHeartbeats 4000000 in
theorem kk_sg_holdsWholeColumn {l : Launch} {D : va_G} {ar : Nat → ClassId} {base : Nat} {σ : mp_M} {k : Int32}  : CN l D ar base yy_sg_holdsWholeColumn prog_1_method_34_code 2 (Option.some Jvm.ClassFile.FieldType.boolean) [] 0 0 0 0 [.int k] σ (fun o σ' _ => o = .returned (some (.int (hwc k))) ∧ σ' = σ) := by
  refine mp_in (Nat.le_of_ble_eq_true rfl) ?_
  intro p e R s m below meth c x hfr hlo hce hsl hr hlk hin hex hG hB ls H hH0 hH hS hl
  have hl : lv_has ls 2 [(0, .int k)] := hl
  refine lv_iconst (v := nI 0) x.1 x.2.1 dd_sg_holdsWholeColumn_0 (by decide +kernel) ?_
  refine lv_istore_n (lv' := [(1, .int (nI 0)), (0, .int k)]) x.1 x.2.1 dd_sg_holdsWholeColumn_1 rfl hl (by decide) rfl (fun ls hl => ?_)
  refine lv_iload_n x.1 x.2.1 dd_sg_holdsWholeColumn_2 rfl (lv_at hl 0 rfl) ?_
  refine lv_iconst (v := nI 5) x.1 x.2.1 dd_sg_holdsWholeColumn_3 (by decide +kernel) ?_
  refine lv_icmp_ge (tgt := 28) x.1 x.2.1 dd_sg_holdsWholeColumn_4 (by decide) (fun c16 => absurd c16 (by decide +kernel)) (fun c16 => ?_)
  refine lv_iload_n x.1 x.2.1 dd_sg_holdsWholeColumn_7 rfl (lv_at hl 1 rfl) ?_
  refine lv_iload_n x.1 x.2.1 dd_sg_holdsWholeColumn_8 rfl (lv_at hl 0 rfl) ?_
  refine lv_ishr x.1 x.2.1 dd_sg_holdsWholeColumn_9 ?_
  refine lv_ldcw (v := 1082401) x.1 x.2.1 x.2.2.2.1 (x.2.2.2.2.1 _ ww_296) dd_sg_holdsWholeColumn_10 ?_
  refine lv_iand x.1 x.2.1 dd_sg_holdsWholeColumn_13 ?_
  refine lv_ldcw (v := 1082401) x.1 x.2.1 x.2.2.2.1 (x.2.2.2.2.1 _ ww_296) dd_sg_holdsWholeColumn_14 ?_
  refine lv_icmp_ne (tgt := 22) x.1 x.2.1 dd_sg_holdsWholeColumn_17 (by decide) (fun c17 => ?_) (fun c17 => ?_)
  · refine lv_iinc (v := nI 1) (lv' := [(1, .int (nI 1)), (0, .int k)]) x.1 x.2.1 dd_sg_holdsWholeColumn_22 hl (k := 0) rfl (mn_inc _) (by decide) rfl (fun ls hl => ?_)
    refine lv_goto (tgt := 2) x.1 x.2.1 dd_sg_holdsWholeColumn_25 (by decide) ?_
    refine lv_iload_n x.1 x.2.1 dd_sg_holdsWholeColumn_2 rfl (lv_at hl 0 rfl) ?_
    refine lv_iconst (v := nI 5) x.1 x.2.1 dd_sg_holdsWholeColumn_3 (by decide +kernel) ?_
    refine lv_icmp_ge (tgt := 28) x.1 x.2.1 dd_sg_holdsWholeColumn_4 (by decide) (fun c18 => absurd c18 (by decide +kernel)) (fun c18 => ?_)
    refine lv_iload_n x.1 x.2.1 dd_sg_holdsWholeColumn_7 rfl (lv_at hl 1 rfl) ?_
    refine lv_iload_n x.1 x.2.1 dd_sg_holdsWholeColumn_8 rfl (lv_at hl 0 rfl) ?_
    refine lv_ishr x.1 x.2.1 dd_sg_holdsWholeColumn_9 ?_
    refine lv_ldcw (v := 1082401) x.1 x.2.1 x.2.2.2.1 (x.2.2.2.2.1 _ ww_296) dd_sg_holdsWholeColumn_10 ?_
    refine lv_iand x.1 x.2.1 dd_sg_holdsWholeColumn_13 ?_
    refine lv_ldcw (v := 1082401) x.1 x.2.1 x.2.2.2.1 (x.2.2.2.2.1 _ ww_296) dd_sg_holdsWholeColumn_14 ?_
    refine lv_icmp_ne (tgt := 22) x.1 x.2.1 dd_sg_holdsWholeColumn_17 (by decide) (fun c19 => ?_) (fun c19 => ?_)
    · refine lv_iinc (v := nI 2) (lv' := [(1, .int (nI 2)), (0, .int k)]) x.1 x.2.1 dd_sg_holdsWholeColumn_22 hl (k := 0) rfl (mn_inc _) (by decide) rfl (fun ls hl => ?_)
      refine lv_goto (tgt := 2) x.1 x.2.1 dd_sg_holdsWholeColumn_25 (by decide) ?_
      refine lv_iload_n x.1 x.2.1 dd_sg_holdsWholeColumn_2 rfl (lv_at hl 0 rfl) ?_
      refine lv_iconst (v := nI 5) x.1 x.2.1 dd_sg_holdsWholeColumn_3 (by decide +kernel) ?_
      refine lv_icmp_ge (tgt := 28) x.1 x.2.1 dd_sg_holdsWholeColumn_4 (by decide) (fun c20 => absurd c20 (by decide +kernel)) (fun c20 => ?_)
      refine lv_iload_n x.1 x.2.1 dd_sg_holdsWholeColumn_7 rfl (lv_at hl 1 rfl) ?_
      refine lv_iload_n x.1 x.2.1 dd_sg_holdsWholeColumn_8 rfl (lv_at hl 0 rfl) ?_
      refine lv_ishr x.1 x.2.1 dd_sg_holdsWholeColumn_9 ?_
      refine lv_ldcw (v := 1082401) x.1 x.2.1 x.2.2.2.1 (x.2.2.2.2.1 _ ww_296) dd_sg_holdsWholeColumn_10 ?_
      refine lv_iand x.1 x.2.1 dd_sg_holdsWholeColumn_13 ?_
      refine lv_ldcw (v := 1082401) x.1 x.2.1 x.2.2.2.1 (x.2.2.2.2.1 _ ww_296) dd_sg_holdsWholeColumn_14 ?_
      refine lv_icmp_ne (tgt := 22) x.1 x.2.1 dd_sg_holdsWholeColumn_17 (by decide) (fun c21 => ?_) (fun c21 => ?_)
      · refine lv_iinc (v := nI 3) (lv' := [(1, .int (nI 3)), (0, .int k)]) x.1 x.2.1 dd_sg_holdsWholeColumn_22 hl (k := 0) rfl (mn_inc _) (by decide) rfl (fun ls hl => ?_)
        refine lv_goto (tgt := 2) x.1 x.2.1 dd_sg_holdsWholeColumn_25 (by decide) ?_
        refine lv_iload_n x.1 x.2.1 dd_sg_holdsWholeColumn_2 rfl (lv_at hl 0 rfl) ?_
        refine lv_iconst (v := nI 5) x.1 x.2.1 dd_sg_holdsWholeColumn_3 (by decide +kernel) ?_
        refine lv_icmp_ge (tgt := 28) x.1 x.2.1 dd_sg_holdsWholeColumn_4 (by decide) (fun c22 => absurd c22 (by decide +kernel)) (fun c22 => ?_)
        refine lv_iload_n x.1 x.2.1 dd_sg_holdsWholeColumn_7 rfl (lv_at hl 1 rfl) ?_
        refine lv_iload_n x.1 x.2.1 dd_sg_holdsWholeColumn_8 rfl (lv_at hl 0 rfl) ?_
        refine lv_ishr x.1 x.2.1 dd_sg_holdsWholeColumn_9 ?_
        refine lv_ldcw (v := 1082401) x.1 x.2.1 x.2.2.2.1 (x.2.2.2.2.1 _ ww_296) dd_sg_holdsWholeColumn_10 ?_
        refine lv_iand x.1 x.2.1 dd_sg_holdsWholeColumn_13 ?_
        refine lv_ldcw (v := 1082401) x.1 x.2.1 x.2.2.2.1 (x.2.2.2.2.1 _ ww_296) dd_sg_holdsWholeColumn_14 ?_
        refine lv_icmp_ne (tgt := 22) x.1 x.2.1 dd_sg_holdsWholeColumn_17 (by decide) (fun c23 => ?_) (fun c23 => ?_)
        · refine lv_iinc (v := nI 4) (lv' := [(1, .int (nI 4)), (0, .int k)]) x.1 x.2.1 dd_sg_holdsWholeColumn_22 hl (k := 0) rfl (mn_inc _) (by decide) rfl (fun ls hl => ?_)
          refine lv_goto (tgt := 2) x.1 x.2.1 dd_sg_holdsWholeColumn_25 (by decide) ?_
          refine lv_iload_n x.1 x.2.1 dd_sg_holdsWholeColumn_2 rfl (lv_at hl 0 rfl) ?_
          refine lv_iconst (v := nI 5) x.1 x.2.1 dd_sg_holdsWholeColumn_3 (by decide +kernel) ?_
          refine lv_icmp_ge (tgt := 28) x.1 x.2.1 dd_sg_holdsWholeColumn_4 (by decide) (fun c24 => absurd c24 (by decide +kernel)) (fun c24 => ?_)
          refine lv_iload_n x.1 x.2.1 dd_sg_holdsWholeColumn_7 rfl (lv_at hl 1 rfl) ?_
          refine lv_iload_n x.1 x.2.1 dd_sg_holdsWholeColumn_8 rfl (lv_at hl 0 rfl) ?_
          refine lv_ishr x.1 x.2.1 dd_sg_holdsWholeColumn_9 ?_
          refine lv_ldcw (v := 1082401) x.1 x.2.1 x.2.2.2.1 (x.2.2.2.2.1 _ ww_296) dd_sg_holdsWholeColumn_10 ?_
          refine lv_iand x.1 x.2.1 dd_sg_holdsWholeColumn_13 ?_
          refine lv_ldcw (v := 1082401) x.1 x.2.1 x.2.2.2.1 (x.2.2.2.2.1 _ ww_296) dd_sg_holdsWholeColumn_14 ?_
          refine lv_icmp_ne (tgt := 22) x.1 x.2.1 dd_sg_holdsWholeColumn_17 (by decide) (fun c25 => ?_) (fun c25 => ?_)
          · refine lv_iinc (v := nI 5) (lv' := [(1, .int (nI 5)), (0, .int k)]) x.1 x.2.1 dd_sg_holdsWholeColumn_22 hl (k := 0) rfl (mn_inc _) (by decide) rfl (fun ls hl => ?_)
            refine lv_goto (tgt := 2) x.1 x.2.1 dd_sg_holdsWholeColumn_25 (by decide) ?_
            refine lv_iload_n x.1 x.2.1 dd_sg_holdsWholeColumn_2 rfl (lv_at hl 0 rfl) ?_
            refine lv_iconst (v := nI 5) x.1 x.2.1 dd_sg_holdsWholeColumn_3 (by decide +kernel) ?_
            refine lv_icmp_ge (tgt := 28) x.1 x.2.1 dd_sg_holdsWholeColumn_4 (by decide) (fun c26 => ?_) (fun c26 => absurd (by decide +kernel) c26)
            refine lv_iconst (v := nI 0) x.1 x.2.1 dd_sg_holdsWholeColumn_28 (by decide +kernel) ?_
            exact mp_rz x hr (by decide) hlk (by decide) (by decide) hH hS (fun _ => ⟨(congrArg (fun z => Outcome.returned (some (.int z))) (by simp [hwc, tcb, c17, c19, c21, c23, c25])), rfl⟩) dd_sg_holdsWholeColumn_29
          · refine lv_iconst (v := nI 1) x.1 x.2.1 dd_sg_holdsWholeColumn_20 (by decide +kernel) ?_
            exact mp_rz x hr (by decide) hlk (by decide) (by decide) hH hS (fun _ => ⟨(congrArg (fun z => Outcome.returned (some (.int z))) (by simp [hwc, tcb, c17, c19, c21, c23, c25])), rfl⟩) dd_sg_holdsWholeColumn_21
        · refine lv_iconst (v := nI 1) x.1 x.2.1 dd_sg_holdsWholeColumn_20 (by decide +kernel) ?_
          exact mp_rz x hr (by decide) hlk (by decide) (by decide) hH hS (fun _ => ⟨(congrArg (fun z => Outcome.returned (some (.int z))) (by simp [hwc, tcb, c17, c19, c21, c23])), rfl⟩) dd_sg_holdsWholeColumn_21
      · refine lv_iconst (v := nI 1) x.1 x.2.1 dd_sg_holdsWholeColumn_20 (by decide +kernel) ?_
        exact mp_rz x hr (by decide) hlk (by decide) (by decide) hH hS (fun _ => ⟨(congrArg (fun z => Outcome.returned (some (.int z))) (by simp [hwc, tcb, c17, c19, c21])), rfl⟩) dd_sg_holdsWholeColumn_21
    · refine lv_iconst (v := nI 1) x.1 x.2.1 dd_sg_holdsWholeColumn_20 (by decide +kernel) ?_
      exact mp_rz x hr (by decide) hlk (by decide) (by decide) hH hS (fun _ => ⟨(congrArg (fun z => Outcome.returned (some (.int z))) (by simp [hwc, tcb, c17, c19])), rfl⟩) dd_sg_holdsWholeColumn_21
  · refine lv_iconst (v := nI 1) x.1 x.2.1 dd_sg_holdsWholeColumn_20 (by decide +kernel) ?_
    exact mp_rz x hr (by decide) hlk (by decide) (by decide) hH hS (fun _ => ⟨(congrArg (fun z => Outcome.returned (some (.int z))) (by simp [hwc, tcb, c17])), rfl⟩) dd_sg_holdsWholeColumn_21
def sO (v : Int32) : Int32 := if v < 0 then (-1) else v - v / nI 25 * nI 25
def dO (v : Int32) : Int32 := if v < 0 then (-1) else v / nI 25
set_option maxRecDepth 100000 in
set_option maxHeartbeats 4000000 in
theorem kk_sg_shopOf {l : Launch} {D : va_G} {ar : Nat → ClassId} {base : Nat} {σ : mp_M} {k : Int32}  : CN l D ar base yy_sg_shopOf prog_1_method_36_code 1 (Option.some Jvm.ClassFile.FieldType.int) [] 0 0 0 0 [.int k] σ (fun o σ' _ => o = .returned (some (.int (sO k))) ∧ σ' = σ) := by
  refine mp_in (Nat.le_of_ble_eq_true rfl) ?_
  intro p e R s m below meth c x hfr hlo hce hsl hr hlk hin hex hG hB ls H hH0 hH hS hl
  have hl : lv_has ls 1 [(0, .int k)] := hl
  refine lv_iload_n x.1 x.2.1 dd_sg_shopOf_0 rfl (lv_at hl 0 rfl) ?_
  refine lv_if_ge (tgt := 8) x.1 x.2.1 dd_sg_shopOf_1 (by decide) (fun c27 => ?_) (fun c27 => ?_)
  · refine lv_iload_n x.1 x.2.1 dd_sg_shopOf_8 rfl (lv_at hl 0 rfl) ?_
    refine lv_bipush (v := nI 25) x.1 x.2.1 dd_sg_shopOf_9 (by decide +kernel) ?_
    refine lv_irem x.1 x.2.1 dd_sg_shopOf_11 (by decide +kernel) ?_
    exact mp_ri x hr hlk (by decide) (by decide) hH hS (fun _ => ⟨(congrArg (fun z => Outcome.returned (some (.int z))) (by rw [sO, if_neg (Int32.not_lt.mpr c27)])), rfl⟩) dd_sg_shopOf_12
  · refine lv_iconst (v := (-1)) x.1 x.2.1 dd_sg_shopOf_4 (by decide +kernel) ?_
    refine lv_goto (tgt := 12) x.1 x.2.1 dd_sg_shopOf_5 (by decide) ?_
    exact mp_ri x hr hlk (by decide) (by decide) hH hS (fun _ => ⟨(congrArg (fun z => Outcome.returned (some (.int z))) (by simp [sO, c27])), rfl⟩) dd_sg_shopOf_12
set_option maxRecDepth 100000 in
set_option maxHeartbeats 4000000 in
theorem kk_sg_dayOf {l : Launch} {D : va_G} {ar : Nat → ClassId} {base : Nat} {σ : mp_M} {k : Int32}  : CN l D ar base yy_sg_dayOf prog_1_method_37_code 1 (Option.some Jvm.ClassFile.FieldType.int) [] 0 0 0 0 [.int k] σ (fun o σ' _ => o = .returned (some (.int (dO k))) ∧ σ' = σ) := by
  refine mp_in (Nat.le_of_ble_eq_true rfl) ?_
  intro p e R s m below meth c x hfr hlo hce hsl hr hlk hin hex hG hB ls H hH0 hH hS hl
  have hl : lv_has ls 1 [(0, .int k)] := hl
  refine lv_iload_n x.1 x.2.1 dd_sg_dayOf_0 rfl (lv_at hl 0 rfl) ?_
  refine lv_if_ge (tgt := 8) x.1 x.2.1 dd_sg_dayOf_1 (by decide) (fun c28 => ?_) (fun c28 => ?_)
  · refine lv_iload_n x.1 x.2.1 dd_sg_dayOf_8 rfl (lv_at hl 0 rfl) ?_
    refine lv_bipush (v := nI 25) x.1 x.2.1 dd_sg_dayOf_9 (by decide +kernel) ?_
    refine lv_idiv x.1 x.2.1 dd_sg_dayOf_11 (by decide +kernel) ?_
    exact mp_ri x hr hlk (by decide) (by decide) hH hS (fun _ => ⟨(congrArg (fun z => Outcome.returned (some (.int z))) (by rw [dO, if_neg (Int32.not_lt.mpr c28)])), rfl⟩) dd_sg_dayOf_12
  · refine lv_iconst (v := (-1)) x.1 x.2.1 dd_sg_dayOf_4 (by decide +kernel) ?_
    refine lv_goto (tgt := 12) x.1 x.2.1 dd_sg_dayOf_5 (by decide) ?_
    exact mp_ri x hr hlk (by decide) (by decide) hH hS (fun _ => ⟨(congrArg (fun z => Outcome.returned (some (.int z))) (by simp [dO, c28])), rfl⟩) dd_sg_dayOf_12
set_option maxRecDepth 100000 in
set_option maxHeartbeats 4000000 in
theorem kk_sg_pairOf {l : Launch} {D : va_G} {ar : Nat → ClassId} {base : Nat} {σ : mp_M} {k j : Int32}  : CN l D ar base yy_sg_pairOf prog_1_method_35_code 2 (Option.some Jvm.ClassFile.FieldType.int) [] 0 0 0 0 [.int k, .int j] σ (fun o σ' _ => o = .returned (some (.int (j * nI 25 + k))) ∧ σ' = σ) := by
  refine mp_in (Nat.le_of_ble_eq_true rfl) ?_
  intro p e R s m below meth c x hfr hlo hce hsl hr hlk hin hex hG hB ls H hH0 hH hS hl
  have hl : lv_has ls 2 [(0, .int k), (1, .int j)] := hl
  refine lv_iload_n x.1 x.2.1 dd_sg_pairOf_0 rfl (lv_at hl 1 rfl) ?_
  refine lv_bipush (v := nI 25) x.1 x.2.1 dd_sg_pairOf_1 (by decide +kernel) ?_
  refine lv_imul x.1 x.2.1 dd_sg_pairOf_3 ?_
  refine lv_iload_n x.1 x.2.1 dd_sg_pairOf_4 rfl (lv_at hl 0 rfl) ?_
  refine lv_iadd x.1 x.2.1 dd_sg_pairOf_5 ?_
  exact mp_ri x hr hlk (by decide) (by decide) hH hS (fun _ => ⟨rfl, rfl⟩) dd_sg_pairOf_6
def btc (k : Int32) : Int32 := (((((((k - ((((k).toUInt32 >>> ((nI 1 : Int32).toUInt32 &&& Int32.toUInt32 31)).toInt32) &&& 1431655765)) &&& 858993459) + ((((k - ((((k).toUInt32 >>> ((nI 1 : Int32).toUInt32 &&& Int32.toUInt32 31)).toInt32) &&& 1431655765)).toUInt32 >>> ((nI 2 : Int32).toUInt32 &&& Int32.toUInt32 31)).toInt32) &&& 858993459)) + (((((k - ((((k).toUInt32 >>> ((nI 1 : Int32).toUInt32 &&& Int32.toUInt32 31)).toInt32) &&& 1431655765)) &&& 858993459) + ((((k - ((((k).toUInt32 >>> ((nI 1 : Int32).toUInt32 &&& Int32.toUInt32 31)).toInt32) &&& 1431655765)).toUInt32 >>> ((nI 2 : Int32).toUInt32 &&& Int32.toUInt32 31)).toInt32) &&& 858993459)).toUInt32 >>> ((nI 4 : Int32).toUInt32 &&& Int32.toUInt32 31)).toInt32)) &&& 252645135) + (((((((k - ((((k).toUInt32 >>> ((nI 1 : Int32).toUInt32 &&& Int32.toUInt32 31)).toInt32) &&& 1431655765)) &&& 858993459) + ((((k - ((((k).toUInt32 >>> ((nI 1 : Int32).toUInt32 &&& Int32.toUInt32 31)).toInt32) &&& 1431655765)).toUInt32 >>> ((nI 2 : Int32).toUInt32 &&& Int32.toUInt32 31)).toInt32) &&& 858993459)) + (((((k - ((((k).toUInt32 >>> ((nI 1 : Int32).toUInt32 &&& Int32.toUInt32 31)).toInt32) &&& 1431655765)) &&& 858993459) + ((((k - ((((k).toUInt32 >>> ((nI 1 : Int32).toUInt32 &&& Int32.toUInt32 31)).toInt32) &&& 1431655765)).toUInt32 >>> ((nI 2 : Int32).toUInt32 &&& Int32.toUInt32 31)).toInt32) &&& 858993459)).toUInt32 >>> ((nI 4 : Int32).toUInt32 &&& Int32.toUInt32 31)).toInt32)) &&& 252645135).toUInt32 >>> ((nI 8 : Int32).toUInt32 &&& Int32.toUInt32 31)).toInt32)) + ((((((((k - ((((k).toUInt32 >>> ((nI 1 : Int32).toUInt32 &&& Int32.toUInt32 31)).toInt32) &&& 1431655765)) &&& 858993459) + ((((k - ((((k).toUInt32 >>> ((nI 1 : Int32).toUInt32 &&& Int32.toUInt32 31)).toInt32) &&& 1431655765)).toUInt32 >>> ((nI 2 : Int32).toUInt32 &&& Int32.toUInt32 31)).toInt32) &&& 858993459)) + (((((k - ((((k).toUInt32 >>> ((nI 1 : Int32).toUInt32 &&& Int32.toUInt32 31)).toInt32) &&& 1431655765)) &&& 858993459) + ((((k - ((((k).toUInt32 >>> ((nI 1 : Int32).toUInt32 &&& Int32.toUInt32 31)).toInt32) &&& 1431655765)).toUInt32 >>> ((nI 2 : Int32).toUInt32 &&& Int32.toUInt32 31)).toInt32) &&& 858993459)).toUInt32 >>> ((nI 4 : Int32).toUInt32 &&& Int32.toUInt32 31)).toInt32)) &&& 252645135) + (((((((k - ((((k).toUInt32 >>> ((nI 1 : Int32).toUInt32 &&& Int32.toUInt32 31)).toInt32) &&& 1431655765)) &&& 858993459) + ((((k - ((((k).toUInt32 >>> ((nI 1 : Int32).toUInt32 &&& Int32.toUInt32 31)).toInt32) &&& 1431655765)).toUInt32 >>> ((nI 2 : Int32).toUInt32 &&& Int32.toUInt32 31)).toInt32) &&& 858993459)) + (((((k - ((((k).toUInt32 >>> ((nI 1 : Int32).toUInt32 &&& Int32.toUInt32 31)).toInt32) &&& 1431655765)) &&& 858993459) + ((((k - ((((k).toUInt32 >>> ((nI 1 : Int32).toUInt32 &&& Int32.toUInt32 31)).toInt32) &&& 1431655765)).toUInt32 >>> ((nI 2 : Int32).toUInt32 &&& Int32.toUInt32 31)).toInt32) &&& 858993459)).toUInt32 >>> ((nI 4 : Int32).toUInt32 &&& Int32.toUInt32 31)).toInt32)) &&& 252645135).toUInt32 >>> ((nI 8 : Int32).toUInt32 &&& Int32.toUInt32 31)).toInt32)).toUInt32 >>> ((nI 16 : Int32).toUInt32 &&& Int32.toUInt32 31)).toInt32)) &&& (nI 63)
set_option maxRecDepth 100000 in
set_option maxHeartbeats 4000000 in
theorem kk_ji_bitCount {l : Launch} {D : va_G} {ar : Nat → ClassId} {base : Nat} {σ : mp_M} {k : Int32}  : CN l D ar base yy_ji_bitCount prog_13_method_49_code 1 (Option.some Jvm.ClassFile.FieldType.int) [] 0 0 0 0 [.int k] σ (fun o σ' _ => o = .returned (some (.int (btc k))) ∧ σ' = σ) := by
  refine mp_in (Nat.le_of_ble_eq_true rfl) ?_
  intro p e R s m below meth c x hfr hlo hce hsl hr hlk hin hex hG hB ls H hH0 hH hS hl
  have hl : lv_has ls 1 [(0, .int k)] := hl
  refine lv_iload_n x.1 x.2.1 dd_ji_bitCount_0 rfl (lv_at hl 0 rfl) ?_
  refine lv_iload_n x.1 x.2.1 dd_ji_bitCount_1 rfl (lv_at hl 0 rfl) ?_
  refine lv_iconst (v := nI 1) x.1 x.2.1 dd_ji_bitCount_2 (by decide +kernel) ?_
  refine lv_iushr (v := ((k).toUInt32 >>> ((nI 1 : Int32).toUInt32 &&& Int32.toUInt32 31)).toInt32) x.1 x.2.1 dd_ji_bitCount_3 rfl ?_
  refine lv_ldcw (v := 1431655765) x.1 x.2.1 x.2.2.2.1 (x.2.2.2.2.1 _ ww_698) dd_ji_bitCount_4 ?_
  refine lv_iand x.1 x.2.1 dd_ji_bitCount_7 ?_
  refine lv_isub x.1 x.2.1 dd_ji_bitCount_8 ?_
  refine lv_istore_n (lv' := [(0, .int (k - ((((k).toUInt32 >>> ((nI 1 : Int32).toUInt32 &&& Int32.toUInt32 31)).toInt32) &&& 1431655765)))]) x.1 x.2.1 dd_ji_bitCount_9 rfl hl (by decide) rfl (fun ls hl => ?_)
  refine lv_iload_n x.1 x.2.1 dd_ji_bitCount_10 rfl (lv_at hl 0 rfl) ?_
  refine lv_ldcw (v := 858993459) x.1 x.2.1 x.2.2.2.1 (x.2.2.2.2.1 _ ww_699) dd_ji_bitCount_11 ?_
  refine lv_iand x.1 x.2.1 dd_ji_bitCount_14 ?_
  refine lv_iload_n x.1 x.2.1 dd_ji_bitCount_15 rfl (lv_at hl 0 rfl) ?_
  refine lv_iconst (v := nI 2) x.1 x.2.1 dd_ji_bitCount_16 (by decide +kernel) ?_
  refine lv_iushr (v := ((k - ((((k).toUInt32 >>> ((nI 1 : Int32).toUInt32 &&& Int32.toUInt32 31)).toInt32) &&& 1431655765)).toUInt32 >>> ((nI 2 : Int32).toUInt32 &&& Int32.toUInt32 31)).toInt32) x.1 x.2.1 dd_ji_bitCount_17 rfl ?_
  refine lv_ldcw (v := 858993459) x.1 x.2.1 x.2.2.2.1 (x.2.2.2.2.1 _ ww_699) dd_ji_bitCount_18 ?_
  refine lv_iand x.1 x.2.1 dd_ji_bitCount_21 ?_
  refine lv_iadd x.1 x.2.1 dd_ji_bitCount_22 ?_
  refine lv_istore_n (lv' := [(0, .int (((k - ((((k).toUInt32 >>> ((nI 1 : Int32).toUInt32 &&& Int32.toUInt32 31)).toInt32) &&& 1431655765)) &&& 858993459) + ((((k - ((((k).toUInt32 >>> ((nI 1 : Int32).toUInt32 &&& Int32.toUInt32 31)).toInt32) &&& 1431655765)).toUInt32 >>> ((nI 2 : Int32).toUInt32 &&& Int32.toUInt32 31)).toInt32) &&& 858993459)))]) x.1 x.2.1 dd_ji_bitCount_23 rfl hl (by decide) rfl (fun ls hl => ?_)
  refine lv_iload_n x.1 x.2.1 dd_ji_bitCount_24 rfl (lv_at hl 0 rfl) ?_
  refine lv_iload_n x.1 x.2.1 dd_ji_bitCount_25 rfl (lv_at hl 0 rfl) ?_
  refine lv_iconst (v := nI 4) x.1 x.2.1 dd_ji_bitCount_26 (by decide +kernel) ?_
  refine lv_iushr (v := ((((k - ((((k).toUInt32 >>> ((nI 1 : Int32).toUInt32 &&& Int32.toUInt32 31)).toInt32) &&& 1431655765)) &&& 858993459) + ((((k - ((((k).toUInt32 >>> ((nI 1 : Int32).toUInt32 &&& Int32.toUInt32 31)).toInt32) &&& 1431655765)).toUInt32 >>> ((nI 2 : Int32).toUInt32 &&& Int32.toUInt32 31)).toInt32) &&& 858993459)).toUInt32 >>> ((nI 4 : Int32).toUInt32 &&& Int32.toUInt32 31)).toInt32) x.1 x.2.1 dd_ji_bitCount_27 rfl ?_
  refine lv_iadd x.1 x.2.1 dd_ji_bitCount_28 ?_
  refine lv_ldcw (v := 252645135) x.1 x.2.1 x.2.2.2.1 (x.2.2.2.2.1 _ ww_700) dd_ji_bitCount_29 ?_
  refine lv_iand x.1 x.2.1 dd_ji_bitCount_32 ?_
  refine lv_istore_n (lv' := [(0, .int (((((k - ((((k).toUInt32 >>> ((nI 1 : Int32).toUInt32 &&& Int32.toUInt32 31)).toInt32) &&& 1431655765)) &&& 858993459) + ((((k - ((((k).toUInt32 >>> ((nI 1 : Int32).toUInt32 &&& Int32.toUInt32 31)).toInt32) &&& 1431655765)).toUInt32 >>> ((nI 2 : Int32).toUInt32 &&& Int32.toUInt32 31)).toInt32) &&& 858993459)) + (((((k - ((((k).toUInt32 >>> ((nI 1 : Int32).toUInt32 &&& Int32.toUInt32 31)).toInt32) &&& 1431655765)) &&& 858993459) + ((((k - ((((k).toUInt32 >>> ((nI 1 : Int32).toUInt32 &&& Int32.toUInt32 31)).toInt32) &&& 1431655765)).toUInt32 >>> ((nI 2 : Int32).toUInt32 &&& Int32.toUInt32 31)).toInt32) &&& 858993459)).toUInt32 >>> ((nI 4 : Int32).toUInt32 &&& Int32.toUInt32 31)).toInt32)) &&& 252645135))]) x.1 x.2.1 dd_ji_bitCount_33 rfl hl (by decide) rfl (fun ls hl => ?_)
  refine lv_iload_n x.1 x.2.1 dd_ji_bitCount_34 rfl (lv_at hl 0 rfl) ?_
  refine lv_iload_n x.1 x.2.1 dd_ji_bitCount_35 rfl (lv_at hl 0 rfl) ?_
  refine lv_bipush (v := nI 8) x.1 x.2.1 dd_ji_bitCount_36 (by decide +kernel) ?_
  refine lv_iushr (v := ((((((k - ((((k).toUInt32 >>> ((nI 1 : Int32).toUInt32 &&& Int32.toUInt32 31)).toInt32) &&& 1431655765)) &&& 858993459) + ((((k - ((((k).toUInt32 >>> ((nI 1 : Int32).toUInt32 &&& Int32.toUInt32 31)).toInt32) &&& 1431655765)).toUInt32 >>> ((nI 2 : Int32).toUInt32 &&& Int32.toUInt32 31)).toInt32) &&& 858993459)) + (((((k - ((((k).toUInt32 >>> ((nI 1 : Int32).toUInt32 &&& Int32.toUInt32 31)).toInt32) &&& 1431655765)) &&& 858993459) + ((((k - ((((k).toUInt32 >>> ((nI 1 : Int32).toUInt32 &&& Int32.toUInt32 31)).toInt32) &&& 1431655765)).toUInt32 >>> ((nI 2 : Int32).toUInt32 &&& Int32.toUInt32 31)).toInt32) &&& 858993459)).toUInt32 >>> ((nI 4 : Int32).toUInt32 &&& Int32.toUInt32 31)).toInt32)) &&& 252645135).toUInt32 >>> ((nI 8 : Int32).toUInt32 &&& Int32.toUInt32 31)).toInt32) x.1 x.2.1 dd_ji_bitCount_38 rfl ?_
  refine lv_iadd x.1 x.2.1 dd_ji_bitCount_39 ?_
  refine lv_istore_n (lv' := [(0, .int ((((((k - ((((k).toUInt32 >>> ((nI 1 : Int32).toUInt32 &&& Int32.toUInt32 31)).toInt32) &&& 1431655765)) &&& 858993459) + ((((k - ((((k).toUInt32 >>> ((nI 1 : Int32).toUInt32 &&& Int32.toUInt32 31)).toInt32) &&& 1431655765)).toUInt32 >>> ((nI 2 : Int32).toUInt32 &&& Int32.toUInt32 31)).toInt32) &&& 858993459)) + (((((k - ((((k).toUInt32 >>> ((nI 1 : Int32).toUInt32 &&& Int32.toUInt32 31)).toInt32) &&& 1431655765)) &&& 858993459) + ((((k - ((((k).toUInt32 >>> ((nI 1 : Int32).toUInt32 &&& Int32.toUInt32 31)).toInt32) &&& 1431655765)).toUInt32 >>> ((nI 2 : Int32).toUInt32 &&& Int32.toUInt32 31)).toInt32) &&& 858993459)).toUInt32 >>> ((nI 4 : Int32).toUInt32 &&& Int32.toUInt32 31)).toInt32)) &&& 252645135) + (((((((k - ((((k).toUInt32 >>> ((nI 1 : Int32).toUInt32 &&& Int32.toUInt32 31)).toInt32) &&& 1431655765)) &&& 858993459) + ((((k - ((((k).toUInt32 >>> ((nI 1 : Int32).toUInt32 &&& Int32.toUInt32 31)).toInt32) &&& 1431655765)).toUInt32 >>> ((nI 2 : Int32).toUInt32 &&& Int32.toUInt32 31)).toInt32) &&& 858993459)) + (((((k - ((((k).toUInt32 >>> ((nI 1 : Int32).toUInt32 &&& Int32.toUInt32 31)).toInt32) &&& 1431655765)) &&& 858993459) + ((((k - ((((k).toUInt32 >>> ((nI 1 : Int32).toUInt32 &&& Int32.toUInt32 31)).toInt32) &&& 1431655765)).toUInt32 >>> ((nI 2 : Int32).toUInt32 &&& Int32.toUInt32 31)).toInt32) &&& 858993459)).toUInt32 >>> ((nI 4 : Int32).toUInt32 &&& Int32.toUInt32 31)).toInt32)) &&& 252645135).toUInt32 >>> ((nI 8 : Int32).toUInt32 &&& Int32.toUInt32 31)).toInt32)))]) x.1 x.2.1 dd_ji_bitCount_40 rfl hl (by decide) rfl (fun ls hl => ?_)
  refine lv_iload_n x.1 x.2.1 dd_ji_bitCount_41 rfl (lv_at hl 0 rfl) ?_
  refine lv_iload_n x.1 x.2.1 dd_ji_bitCount_42 rfl (lv_at hl 0 rfl) ?_
  refine lv_bipush (v := nI 16) x.1 x.2.1 dd_ji_bitCount_43 (by decide +kernel) ?_
  refine lv_iushr (v := (((((((k - ((((k).toUInt32 >>> ((nI 1 : Int32).toUInt32 &&& Int32.toUInt32 31)).toInt32) &&& 1431655765)) &&& 858993459) + ((((k - ((((k).toUInt32 >>> ((nI 1 : Int32).toUInt32 &&& Int32.toUInt32 31)).toInt32) &&& 1431655765)).toUInt32 >>> ((nI 2 : Int32).toUInt32 &&& Int32.toUInt32 31)).toInt32) &&& 858993459)) + (((((k - ((((k).toUInt32 >>> ((nI 1 : Int32).toUInt32 &&& Int32.toUInt32 31)).toInt32) &&& 1431655765)) &&& 858993459) + ((((k - ((((k).toUInt32 >>> ((nI 1 : Int32).toUInt32 &&& Int32.toUInt32 31)).toInt32) &&& 1431655765)).toUInt32 >>> ((nI 2 : Int32).toUInt32 &&& Int32.toUInt32 31)).toInt32) &&& 858993459)).toUInt32 >>> ((nI 4 : Int32).toUInt32 &&& Int32.toUInt32 31)).toInt32)) &&& 252645135) + (((((((k - ((((k).toUInt32 >>> ((nI 1 : Int32).toUInt32 &&& Int32.toUInt32 31)).toInt32) &&& 1431655765)) &&& 858993459) + ((((k - ((((k).toUInt32 >>> ((nI 1 : Int32).toUInt32 &&& Int32.toUInt32 31)).toInt32) &&& 1431655765)).toUInt32 >>> ((nI 2 : Int32).toUInt32 &&& Int32.toUInt32 31)).toInt32) &&& 858993459)) + (((((k - ((((k).toUInt32 >>> ((nI 1 : Int32).toUInt32 &&& Int32.toUInt32 31)).toInt32) &&& 1431655765)) &&& 858993459) + ((((k - ((((k).toUInt32 >>> ((nI 1 : Int32).toUInt32 &&& Int32.toUInt32 31)).toInt32) &&& 1431655765)).toUInt32 >>> ((nI 2 : Int32).toUInt32 &&& Int32.toUInt32 31)).toInt32) &&& 858993459)).toUInt32 >>> ((nI 4 : Int32).toUInt32 &&& Int32.toUInt32 31)).toInt32)) &&& 252645135).toUInt32 >>> ((nI 8 : Int32).toUInt32 &&& Int32.toUInt32 31)).toInt32)).toUInt32 >>> ((nI 16 : Int32).toUInt32 &&& Int32.toUInt32 31)).toInt32) x.1 x.2.1 dd_ji_bitCount_45 rfl ?_
  refine lv_iadd x.1 x.2.1 dd_ji_bitCount_46 ?_
  refine lv_istore_n (lv' := [(0, .int (((((((k - ((((k).toUInt32 >>> ((nI 1 : Int32).toUInt32 &&& Int32.toUInt32 31)).toInt32) &&& 1431655765)) &&& 858993459) + ((((k - ((((k).toUInt32 >>> ((nI 1 : Int32).toUInt32 &&& Int32.toUInt32 31)).toInt32) &&& 1431655765)).toUInt32 >>> ((nI 2 : Int32).toUInt32 &&& Int32.toUInt32 31)).toInt32) &&& 858993459)) + (((((k - ((((k).toUInt32 >>> ((nI 1 : Int32).toUInt32 &&& Int32.toUInt32 31)).toInt32) &&& 1431655765)) &&& 858993459) + ((((k - ((((k).toUInt32 >>> ((nI 1 : Int32).toUInt32 &&& Int32.toUInt32 31)).toInt32) &&& 1431655765)).toUInt32 >>> ((nI 2 : Int32).toUInt32 &&& Int32.toUInt32 31)).toInt32) &&& 858993459)).toUInt32 >>> ((nI 4 : Int32).toUInt32 &&& Int32.toUInt32 31)).toInt32)) &&& 252645135) + (((((((k - ((((k).toUInt32 >>> ((nI 1 : Int32).toUInt32 &&& Int32.toUInt32 31)).toInt32) &&& 1431655765)) &&& 858993459) + ((((k - ((((k).toUInt32 >>> ((nI 1 : Int32).toUInt32 &&& Int32.toUInt32 31)).toInt32) &&& 1431655765)).toUInt32 >>> ((nI 2 : Int32).toUInt32 &&& Int32.toUInt32 31)).toInt32) &&& 858993459)) + (((((k - ((((k).toUInt32 >>> ((nI 1 : Int32).toUInt32 &&& Int32.toUInt32 31)).toInt32) &&& 1431655765)) &&& 858993459) + ((((k - ((((k).toUInt32 >>> ((nI 1 : Int32).toUInt32 &&& Int32.toUInt32 31)).toInt32) &&& 1431655765)).toUInt32 >>> ((nI 2 : Int32).toUInt32 &&& Int32.toUInt32 31)).toInt32) &&& 858993459)).toUInt32 >>> ((nI 4 : Int32).toUInt32 &&& Int32.toUInt32 31)).toInt32)) &&& 252645135).toUInt32 >>> ((nI 8 : Int32).toUInt32 &&& Int32.toUInt32 31)).toInt32)) + ((((((((k - ((((k).toUInt32 >>> ((nI 1 : Int32).toUInt32 &&& Int32.toUInt32 31)).toInt32) &&& 1431655765)) &&& 858993459) + ((((k - ((((k).toUInt32 >>> ((nI 1 : Int32).toUInt32 &&& Int32.toUInt32 31)).toInt32) &&& 1431655765)).toUInt32 >>> ((nI 2 : Int32).toUInt32 &&& Int32.toUInt32 31)).toInt32) &&& 858993459)) + (((((k - ((((k).toUInt32 >>> ((nI 1 : Int32).toUInt32 &&& Int32.toUInt32 31)).toInt32) &&& 1431655765)) &&& 858993459) + ((((k - ((((k).toUInt32 >>> ((nI 1 : Int32).toUInt32 &&& Int32.toUInt32 31)).toInt32) &&& 1431655765)).toUInt32 >>> ((nI 2 : Int32).toUInt32 &&& Int32.toUInt32 31)).toInt32) &&& 858993459)).toUInt32 >>> ((nI 4 : Int32).toUInt32 &&& Int32.toUInt32 31)).toInt32)) &&& 252645135) + (((((((k - ((((k).toUInt32 >>> ((nI 1 : Int32).toUInt32 &&& Int32.toUInt32 31)).toInt32) &&& 1431655765)) &&& 858993459) + ((((k - ((((k).toUInt32 >>> ((nI 1 : Int32).toUInt32 &&& Int32.toUInt32 31)).toInt32) &&& 1431655765)).toUInt32 >>> ((nI 2 : Int32).toUInt32 &&& Int32.toUInt32 31)).toInt32) &&& 858993459)) + (((((k - ((((k).toUInt32 >>> ((nI 1 : Int32).toUInt32 &&& Int32.toUInt32 31)).toInt32) &&& 1431655765)) &&& 858993459) + ((((k - ((((k).toUInt32 >>> ((nI 1 : Int32).toUInt32 &&& Int32.toUInt32 31)).toInt32) &&& 1431655765)).toUInt32 >>> ((nI 2 : Int32).toUInt32 &&& Int32.toUInt32 31)).toInt32) &&& 858993459)).toUInt32 >>> ((nI 4 : Int32).toUInt32 &&& Int32.toUInt32 31)).toInt32)) &&& 252645135).toUInt32 >>> ((nI 8 : Int32).toUInt32 &&& Int32.toUInt32 31)).toInt32)).toUInt32 >>> ((nI 16 : Int32).toUInt32 &&& Int32.toUInt32 31)).toInt32)))]) x.1 x.2.1 dd_ji_bitCount_47 rfl hl (by decide) rfl (fun ls hl => ?_)
  refine lv_iload_n x.1 x.2.1 dd_ji_bitCount_48 rfl (lv_at hl 0 rfl) ?_
  refine lv_bipush (v := nI 63) x.1 x.2.1 dd_ji_bitCount_49 (by decide +kernel) ?_
  refine lv_iand x.1 x.2.1 dd_ji_bitCount_51 ?_
  exact mp_ri x hr hlk (by decide) (by decide) hH hS (fun _ => ⟨rfl, rfl⟩) dd_ji_bitCount_52
end
section
/-! PAIRS, ASKINGS AND LETTERS over the flat state. -/
def bcm (V : fV) (t q : Nat) : Nat → fV
  | 0 => V
  | n + 1 => mu (bcm V t q n) t n (V q n)
theorem bcm_o {V : fV} {t q n k i : Nat} (h : k ≠ t) : bcm V t q n k i = V k i := by
  induction n with
  | zero => rfl
  | succ n ih => exact (mu_k h).trans ih
def amg (V : fV) (d t c : Nat) : Nat → fV
  | 0 => V
  | n + 1 => mu (mu (amg V d t c n) (100 + d) (c + n) (V (1000 + t) (c + n))) 34 d (nI (c + n + 1))
theorem amg_34 {V : fV} {d t c n : Nat} (h : V 34 d = nI c) : amg V d t c n 34 d = nI (c + n) := by
  cases n with
  | zero => exact h
  | succ n => exact mu_s
theorem amg_o {V : fV} {d t c n k i : Nat} (h : k ≠ 100 + d) (h2 : k ≠ 34) : amg V d t c n k i = V k i := by
  induction n with
  | zero => rfl
  | succ n ih => exact ((mu_k h2).trans (mu_k h)).trans ih
set_option maxRecDepth 100000 in
set_option maxHeartbeats 4000000 in
theorem kk_pr_ofd {l : Launch} {D : va_G} {ar : Nat → ClassId} {base : Nat} {σ : mp_M} {ad : Nat → Nat → Nat} {rg : Nat → Bool} {pl : Nat → Nat} {V : fV} {d nc j : Nat} (hL : Lay ar ad rg pl V σ) (hd : dk rg d) (hc : V 34 d = nI nc) (hc2 : nc ≤ 12) (hj : j ≤ 12) : CN l D ar base yy_pr_of prog_6_method_2_code 2 (Option.some Jvm.ClassFile.FieldType.int) [] 0 0 0 0 [.ref (ad 10 d), .int (nI j)] σ (fun o σ' _ => o = .returned (some (.int (if j = 0 ∨ nc < j then (-1) else V (100 + d) (j - 1)))) ∧ σ' = σ) := by
  refine mp_in (Nat.le_of_ble_eq_true rfl) ?_
  intro p e R s m below meth c x hfr hlo hce hsl hr hlk hin hex hG hB ls H hH0 hH hS hl
  have hl : lv_has ls 2 [(0, .ref (ad 10 d)), (1, .int (nI j))] := hl
  have hc3 := hc
  refine lv_iload_n x.1 x.2.1 dd_pr_of_0 rfl (lv_at hl 1 rfl) ?_
  refine lv_iconst (v := nI 1) x.1 x.2.1 dd_pr_of_1 (by decide +kernel) ?_
  refine lv_icmp_lt (tgt := 13) x.1 x.2.1 dd_pr_of_2 (by decide) (fun c29 => ?_) (fun c29 => ?_)
  · have c29 : j < 1 := (cv_lt (a := j) (b := 1) (by omega) (by omega)).mp c29
    refine lv_iconst (v := (-1)) x.1 x.2.1 dd_pr_of_13 (by decide +kernel) ?_
    refine lv_goto (tgt := 25) x.1 x.2.1 dd_pr_of_14 (by decide) ?_
    exact mp_ri x hr hlk (by decide) (by decide) hH hS (fun _ => ⟨(congrArg (fun z => Outcome.returned (some (.int z))) ((if_pos (by omega)).symm)), rfl⟩) dd_pr_of_25
  · have c29 : ¬ (j < 1) := fun h => c29 ((cv_lt (a := j) (b := 1) (by omega) (by omega)).mpr h)
    refine lv_iload_n x.1 x.2.1 dd_pr_of_5 rfl (lv_at hl 1 rfl) ?_
    refine lv_aload_n x.1 x.2.1 dd_pr_of_6 rfl (lv_at hl 0 rfl) ?_
    refine mp_get x hH (la10 hL hd) fg_pr_15 rfl dd_pr_of_7 ?_
    refine mn_top (w := nI nc) (hc) ?_
    refine lv_icmp_le (tgt := 17) x.1 x.2.1 dd_pr_of_10 (by decide) (fun c30 => ?_) (fun c30 => ?_)
    · have c30 : j ≤ nc := (cv_le (a := j) (b := nc) (by omega) (by omega)).mp c30
      refine lv_aload_n x.1 x.2.1 dd_pr_of_17 rfl (lv_at hl 0 rfl) ?_
      refine mp_get x hH (la10 hL hd) fg_pr_9 rfl dd_pr_of_18 ?_
      refine lv_iload_n x.1 x.2.1 dd_pr_of_21 rfl (lv_at hl 1 rfl) ?_
      refine lv_iconst (v := nI 1) x.1 x.2.1 dd_pr_of_22 (by decide +kernel) ?_
      refine lv_isub x.1 x.2.1 dd_pr_of_23 ?_
      refine mn_top (w := nI (j - 1)) (pk_sub (by omega)) ?_
      refine krd_ld x hH hL (j := (j - 1)) hd (by omega) dd_pr_of_24 ?_
      exact mp_ri x hr hlk (by decide) (by decide) hH hS (fun _ => ⟨(congrArg (fun z => Outcome.returned (some (.int z))) ((if_neg (by omega)).symm)), rfl⟩) dd_pr_of_25
    · have c30 : ¬ (j ≤ nc) := fun h => c30 ((cv_le (a := j) (b := nc) (by omega) (by omega)).mpr h)
      refine lv_iconst (v := (-1)) x.1 x.2.1 dd_pr_of_13 (by decide +kernel) ?_
      refine lv_goto (tgt := 25) x.1 x.2.1 dd_pr_of_14 (by decide) ?_
      exact mp_ri x hr hlk (by decide) (by decide) hH hS (fun _ => ⟨(congrArg (fun z => Outcome.returned (some (.int z))) ((if_pos (by omega)).symm)), rfl⟩) dd_pr_of_25
set_option maxRecDepth 100000 in
set_option maxHeartbeats 4000000 in
theorem kk_pr_oft {l : Launch} {D : va_G} {ar : Nat → ClassId} {base : Nat} {σ : mp_M} {ad : Nat → Nat → Nat} {rg : Nat → Bool} {pl : Nat → Nat} {V : fV} {t nc j : Nat} (hL : Lay ar ad rg pl V σ) (hd : t < 102) (hc : V 52 t = nI nc) (hc2 : nc ≤ 12) (hj : j ≤ 12) : CN l D ar base yy_pr_of prog_6_method_2_code 2 (Option.some Jvm.ClassFile.FieldType.int) [] 0 0 0 0 [.ref (ad 5 t), .int (nI j)] σ (fun o σ' _ => o = .returned (some (.int (if j = 0 ∨ nc < j then (-1) else V (1000 + t) (j - 1)))) ∧ σ' = σ) := by
  refine mp_in (Nat.le_of_ble_eq_true rfl) ?_
  intro p e R s m below meth c x hfr hlo hce hsl hr hlk hin hex hG hB ls H hH0 hH hS hl
  have hl : lv_has ls 2 [(0, .ref (ad 5 t)), (1, .int (nI j))] := hl
  have hc3 := hc
  refine lv_iload_n x.1 x.2.1 dd_pr_of_0 rfl (lv_at hl 1 rfl) ?_
  refine lv_iconst (v := nI 1) x.1 x.2.1 dd_pr_of_1 (by decide +kernel) ?_
  refine lv_icmp_lt (tgt := 13) x.1 x.2.1 dd_pr_of_2 (by decide) (fun c31 => ?_) (fun c31 => ?_)
  · have c31 : j < 1 := (cv_lt (a := j) (b := 1) (by omega) (by omega)).mp c31
    refine lv_iconst (v := (-1)) x.1 x.2.1 dd_pr_of_13 (by decide +kernel) ?_
    refine lv_goto (tgt := 25) x.1 x.2.1 dd_pr_of_14 (by decide) ?_
    exact mp_ri x hr hlk (by decide) (by decide) hH hS (fun _ => ⟨(congrArg (fun z => Outcome.returned (some (.int z))) ((if_pos (by omega)).symm)), rfl⟩) dd_pr_of_25
  · have c31 : ¬ (j < 1) := fun h => c31 ((cv_lt (a := j) (b := 1) (by omega) (by omega)).mpr h)
    refine lv_iload_n x.1 x.2.1 dd_pr_of_5 rfl (lv_at hl 1 rfl) ?_
    refine lv_aload_n x.1 x.2.1 dd_pr_of_6 rfl (lv_at hl 0 rfl) ?_
    refine mp_get x hH (la5 hL hd) fg_pr_15 rfl dd_pr_of_7 ?_
    refine mn_top (w := nI nc) (hc) ?_
    refine lv_icmp_le (tgt := 17) x.1 x.2.1 dd_pr_of_10 (by decide) (fun c32 => ?_) (fun c32 => ?_)
    · have c32 : j ≤ nc := (cv_le (a := j) (b := nc) (by omega) (by omega)).mp c32
      refine lv_aload_n x.1 x.2.1 dd_pr_of_17 rfl (lv_at hl 0 rfl) ?_
      refine mp_get x hH (la5 hL hd) fg_pr_9 rfl dd_pr_of_18 ?_
      refine lv_iload_n x.1 x.2.1 dd_pr_of_21 rfl (lv_at hl 1 rfl) ?_
      refine lv_iconst (v := nI 1) x.1 x.2.1 dd_pr_of_22 (by decide +kernel) ?_
      refine lv_isub x.1 x.2.1 dd_pr_of_23 ?_
      refine mn_top (w := nI (j - 1)) (pk_sub (by omega)) ?_
      refine krt_ld x hH hL (j := (j - 1)) hd (by omega) dd_pr_of_24 ?_
      exact mp_ri x hr hlk (by decide) (by decide) hH hS (fun _ => ⟨(congrArg (fun z => Outcome.returned (some (.int z))) ((if_neg (by omega)).symm)), rfl⟩) dd_pr_of_25
    · have c32 : ¬ (j ≤ nc) := fun h => c32 ((cv_le (a := j) (b := nc) (by omega) (by omega)).mpr h)
      refine lv_iconst (v := (-1)) x.1 x.2.1 dd_pr_of_13 (by decide +kernel) ?_
      refine lv_goto (tgt := 25) x.1 x.2.1 dd_pr_of_14 (by decide) ?_
      exact mp_ri x hr hlk (by decide) (by decide) hH hS (fun _ => ⟨(congrArg (fun z => Outcome.returned (some (.int z))) ((if_pos (by omega)).symm)), rfl⟩) dd_pr_of_25
set_option maxRecDepth 100000 in
set_option maxHeartbeats 4000000 in
theorem kk_pr_last {l : Launch} {D : va_G} {ar : Nat → ClassId} {base : Nat} {σ : mp_M} {ad : Nat → Nat → Nat} {rg : Nat → Bool} {pl : Nat → Nat} {V : fV} {d nc : Nat} (hL : Lay ar ad rg pl V σ) (hd : dk rg d) (hc : V 34 d = nI nc) (hc2 : nc ≤ 12) : CN l D ar base yy_pr_last prog_6_method_3_code 1 (Option.some Jvm.ClassFile.FieldType.int) [] 1 13 0 0 [.ref (ad 10 d)] σ (fun o σ' _ => o = .returned (some (.int (if nc = 0 then (-1) else V (100 + d) (nc - 1)))) ∧ σ' = σ) := by
  refine mp_in (Nat.le_of_ble_eq_true rfl) ?_
  intro p e R s m below meth c x hfr hlo hce hsl hr hlk hin hex hG hB ls H hH0 hH hS hl
  have hl : lv_has ls 1 [(0, .ref (ad 10 d))] := hl
  refine lv_aload_n x.1 x.2.1 dd_pr_last_0 rfl (lv_at hl 0 rfl) ?_
  refine lv_aload_n x.1 x.2.1 dd_pr_last_1 rfl (lv_at hl 0 rfl) ?_
  refine mp_get x hH (la10 hL hd) fg_pr_15 rfl dd_pr_last_2 ?_
  refine mn_top (w := nI nc) (hc) ?_
  refine mp_call x (wt_mv base) hG hB hl.1 (mp_invV (av := [.int (nI nc)]) x hH (la10 hL hd) rfl rfl mn_pr_of mc_pr_of (Or.inl ww_448) ww_450 ww_7 rfl dd_pr_last_5) (kk_pr_ofd (j := nc) (nc := nc) hL hd (hc) (by omega) (by omega)) (Nat.le_trans (Nat.le_of_ble_eq_true rfl) hfr) (Nat.le_trans (Nat.le_of_ble_eq_true rfl) hlo) (Nat.le_trans (Nat.le_of_ble_eq_true rfl) hce) (Nat.le_trans (Nat.le_of_ble_eq_true rfl) hsl) hH hS (fun v σa t0 H locs hp33 ht0 hvm hz hH hS => ?_) (fun _ _ _ _ _ hz _ _ _ _ _ => by cases hz.1)
  obtain ⟨ho, hσ⟩ := hp33
  cases ho
  rw [hσ] at hH
  refine W.eq (g2 := F0 m 8 ls [.int (if nc = 0 ∨ nc < nc then (-1) else V (100 + d) (nc - 1))]) rfl ?_
  exact mp_ri x hr hlk (by decide) (by decide) hH hS (fun _ => ⟨(congrArg (fun z => Outcome.returned (some (.int z))) (by simp)), rfl⟩) dd_pr_last_8
set_option maxRecDepth 100000 in
set_option maxHeartbeats 4000000 in
theorem kk_pr_add {l : Launch} {D : va_G} {ar : Nat → ClassId} {base : Nat} {σ : mp_M} {ad : Nat → Nat → Nat} {rg : Nat → Bool} {pl : Nat → Nat} {V : fV} {d nc : Nat} {k : Int32} (hL : Lay ar ad rg pl V σ) (hd : dk rg d) (hc : V 34 d = nI nc) (hc2 : nc < 12) : CN l D ar base yy_pr_add prog_6_method_4_code 2 (Option.none : Option Jvm.ClassFile.FieldType) [] 0 0 0 0 [.ref (ad 10 d), .int k] σ (fun o σ' _ => o = .returned none ∧ Lay ar ad rg pl (mu (mu V (100 + d) nc k) 34 d (nI (nc + 1))) σ') := by
  refine mp_in (Nat.le_of_ble_eq_true rfl) ?_
  intro p e R s m below meth c x hfr hlo hce hsl hr hlk hin hex hG hB ls H hH0 hH hS hl
  have hl : lv_has ls 2 [(0, .ref (ad 10 d)), (1, .int k)] := hl
  have hd5 := dk_le hd
  refine lv_aload_n x.1 x.2.1 dd_pr_add_0 rfl (lv_at hl 0 rfl) ?_
  refine mp_get x hH (la10 hL hd) fg_pr_15 rfl dd_pr_add_1 ?_
  refine mn_top (w := nI nc) (hc) ?_
  refine lv_bipush (v := nI 12) x.1 x.2.1 dd_pr_add_4 (by decide +kernel) ?_
  refine lv_icmp_ge (tgt := 29) x.1 x.2.1 dd_pr_add_6 (by decide) (fun c34 => absurd c34 (fun h => absurd ((cv_le (a := 12) (b := nc) (by omega) (by omega)).mp h) (by omega))) (fun c34 => ?_)
  refine lv_aload_n x.1 x.2.1 dd_pr_add_9 rfl (lv_at hl 0 rfl) ?_
  refine mp_get x hH (la10 hL hd) fg_pr_9 rfl dd_pr_add_10 ?_
  refine lv_aload_n x.1 x.2.1 dd_pr_add_13 rfl (lv_at hl 0 rfl) ?_
  refine mp_get x hH (la10 hL hd) fg_pr_15 rfl dd_pr_add_14 ?_
  refine mn_top (w := nI nc) (hc) ?_
  refine lv_iload_n x.1 x.2.1 dd_pr_add_17 rfl (lv_at hl 1 rfl) ?_
  refine krd_st x hH hS hL (j := nc) hd (by omega) dd_pr_add_18 (fun σ hL H locs hH hS => ?_)
  refine lv_aload_n x.1 x.2.1 dd_pr_add_19 rfl (lv_at hl 0 rfl) ?_
  refine lv_dup x.1 x.2.1 dd_pr_add_20 rfl ?_
  refine mp_get x hH (la10 hL hd) fg_pr_15 rfl dd_pr_add_21 ?_
  refine mn_top (w := nI nc) ((mu_k (by omega)).trans (hc)) ?_
  refine lv_iconst (v := nI 1) x.1 x.2.1 dd_pr_add_24 (by decide +kernel) ?_
  refine lv_iadd x.1 x.2.1 dd_pr_add_25 ?_
  refine mn_top (w := nI (nc + 1)) (nI_add _ _) ?_
  refine kp_34 x hH hS hL hd fp_pr_15 dd_pr_add_26 (fun σ hL H locs hH hS => ?_)
  exact mp_rv x hr hlk (by decide) (by decide) hH hS (fun _ => ⟨rfl, hL⟩) dd_pr_add_29
set_option maxRecDepth 100000 in
set_option maxHeartbeats 4000000 in
theorem kk_pr_addMissing {l : Launch} {D : va_G} {ar : Nat → ClassId} {base : Nat} {σ : mp_M} {ad : Nat → Nat → Nat} {rg : Nat → Bool} {pl : Nat → Nat} {V : fV} {d t nc n2 : Nat} (hL : Lay ar ad rg pl V σ) (hd : dk rg d) (ht : t < 102) (hc : V 34 d = nI nc) (hc3 : V 52 t = nI n2) (hc4 : n2 ≤ 12) (hc5 : nc ≤ n2) : CN l D ar base yy_pr_addMissing prog_6_method_5_code 3 (Option.none : Option Jvm.ClassFile.FieldType) [] 1 14 0 0 [.ref (ad 10 d), .ref (ad 5 t)] σ (fun o σ' _ => o = .returned none ∧ Lay ar ad rg pl (amg V d t nc (n2 - nc)) σ') := by
  refine mp_in (Nat.le_of_ble_eq_true rfl) ?_
  intro p e R s m below meth c x hfr hlo hce hsl hr hlk hin hex hG hB ls H hH0 hH hS hl
  have hl : lv_has ls 3 [(0, .ref (ad 10 d)), (1, .ref (ad 5 t))] := hl
  have hd5 := dk_le hd
  refine lv_aload_n x.1 x.2.1 dd_pr_addMissing_0 rfl (lv_at hl 0 rfl) ?_
  refine mp_get x hH (la10 hL hd) fg_pr_15 rfl dd_pr_addMissing_1 ?_
  refine mn_top (w := nI nc) (hc) ?_
  refine lv_iconst (v := nI 1) x.1 x.2.1 dd_pr_addMissing_4 (by decide +kernel) ?_
  refine lv_iadd x.1 x.2.1 dd_pr_addMissing_5 ?_
  refine mn_top (w := nI (nc + 1)) (nI_add _ _) ?_
  refine lv_istore_n (lv' := [(2, .int (nI (nc + 1))), (0, .ref (ad 10 d)), (1, .ref (ad 5 t))]) x.1 x.2.1 dd_pr_addMissing_6 rfl hl (by decide) rfl (fun ls hl => ?_)
  have loop35 : ∀ (n36 : Nat) (i : Nat) (σ : mp_M), nc + i ≤ n2 → Lay ar ad rg pl (amg V d t nc i) σ → n2 - (nc + i) < n36 → ∀ (ls : Array Slot) (H : Heap) (locs : List Loc), lv_has ls 3 [(0, .ref (ad 10 d)), (1, .ref (ad 5 t)), (2, .int (nI (nc + i + 1)))] → HH D base σ H → va_S (mp_A base) s.heap H locs → W p l e R s m [.ref (ad 10 d), .ref (ad 5 t)].toArray below meth c H locs 0 0 (mp_Q below s 0 0 base (mp_P D cl_L base s (fun o σ' _ => o = .returned none ∧ Lay ar ad rg pl (amg V d t nc (n2 - nc)) σ'))) (F0 m 7 ls []) := by
    intro n36
    induction n36 with
    | zero => intro i σ hi hL hn; exact absurd hn (Nat.not_lt_zero _)
    | succ n36 ih =>
      intro i σ hi hL hn ls H locs hl hH hS
      refine lv_iload_n x.1 x.2.1 dd_pr_addMissing_7 rfl (lv_at hl 2 rfl) ?_
      refine lv_aload_n x.1 x.2.1 dd_pr_addMissing_8 rfl (lv_at hl 1 rfl) ?_
      refine mp_get x hH (la5 hL ht) fg_pr_15 rfl dd_pr_addMissing_9 ?_
      refine mn_top (w := nI n2) ((amg_o (by omega) (by decide)).trans hc3) ?_
      refine lv_icmp_gt (tgt := 30) x.1 x.2.1 dd_pr_addMissing_12 (by decide) (fun c37 => ?_) (fun c37 => ?_)
      · have c37 : n2 < (nc + i + 1) := (cv_lt (a := n2) (b := (nc + i + 1)) (by omega) (by omega)).mp c37
        obtain rfl : i = n2 - nc := by omega
        exact mp_rv x hr hlk (by decide) (by decide) hH hS (fun _ => ⟨rfl, hL⟩) dd_pr_addMissing_30
      · have c37 : ¬ (n2 < (nc + i + 1)) := fun h => c37 ((cv_lt (a := n2) (b := (nc + i + 1)) (by omega) (by omega)).mpr h)
        refine lv_aload_n x.1 x.2.1 dd_pr_addMissing_15 rfl (lv_at hl 0 rfl) ?_
        refine lv_aload_n x.1 x.2.1 dd_pr_addMissing_16 rfl (lv_at hl 1 rfl) ?_
        refine lv_iload_n x.1 x.2.1 dd_pr_addMissing_17 rfl (lv_at hl 2 rfl) ?_
        refine mp_call x (wt_mv base) hG hB hl.1 (mp_invV (av := [.int (nI (nc + i + 1))]) x hH (la5 hL ht) rfl rfl mn_pr_of mc_pr_of (Or.inl ww_448) ww_450 ww_7 rfl dd_pr_addMissing_18) (kk_pr_oft (j := (nc + i + 1)) (nc := n2) hL ht ((amg_o (by omega) (by decide)).trans hc3) (by omega) (by omega)) (Nat.le_trans (Nat.le_of_ble_eq_true rfl) hfr) (Nat.le_trans (Nat.le_of_ble_eq_true rfl) hlo) (Nat.le_trans (Nat.le_of_ble_eq_true rfl) hce) (Nat.le_trans (Nat.le_of_ble_eq_true rfl) hsl) hH hS (fun v σa t0 H locs hp38 ht0 hvm hz hH hS => ?_) (fun _ _ _ _ _ hz _ _ _ _ _ => by cases hz.1)
        obtain ⟨ho, hσ⟩ := hp38
        cases ho
        rw [hσ] at hH
        refine W.eq (g2 := F0 m 21 ls [.int (if (nc + i + 1) = 0 ∨ n2 < (nc + i + 1) then (-1) else (amg V d t nc i) (1000 + t) ((nc + i + 1) - 1)), .ref (ad 10 d)]) rfl ?_
        refine mn_top (w := V (1000 + t) (nc + i)) ((if_neg (by omega)).trans (amg_o (by omega) (by omega))) ?_
        refine mp_call x (wt_mv base) hG hB hl.1 (mp_invV (av := [.int (V (1000 + t) (nc + i))]) x hH (la10 hL hd) rfl rfl mn_pr_add mc_pr_add (Or.inl ww_558) ww_560 ww_27 rfl dd_pr_addMissing_21) (kk_pr_add (nc := (nc + i)) hL hd (amg_34 hc) (by omega)) (Nat.le_trans (Nat.le_of_ble_eq_true rfl) hfr) (Nat.le_trans (Nat.le_of_ble_eq_true rfl) hlo) (Nat.le_trans (Nat.le_of_ble_eq_true rfl) hce) (Nat.le_trans (Nat.le_of_ble_eq_true rfl) hsl) hH hS (fun v σa t0 H locs hp39 ht0 hvm hz hH hS => ?_) (fun _ _ _ _ _ hz _ _ _ _ _ => by cases hz.1)
        obtain ⟨ho, hL⟩ := hp39
        cases ho
        refine W.eq (g2 := F0 m 24 ls []) rfl ?_
        refine lv_iinc (v := nI ((nc + i + 1) + 1)) (lv' := [(2, .int (nI ((nc + i + 1) + 1))), (0, .ref (ad 10 d)), (1, .ref (ad 5 t))]) x.1 x.2.1 dd_pr_addMissing_24 hl (k := 2) rfl (mn_inc _) (by decide) rfl (fun ls hl => ?_)
        refine lv_goto (tgt := 7) x.1 x.2.1 dd_pr_addMissing_27 (by decide) ?_
        exact ih (i + 1) _ (by omega) hL (by omega) ls H _ (lv_sub hl [1, 2, 0] rfl) hH hS
  exact loop35 _ 0 _ hc5 hL (Nat.lt_succ_self _) ls H _ (lv_sub hl [1, 2, 0] rfl) hH hS
set_option maxRecDepth 100000 in
set_option maxHeartbeats 4000000 in
theorem kk_pr_becomed {l : Launch} {D : va_G} {ar : Nat → ClassId} {base : Nat} {σ : mp_M} {ad : Nat → Nat → Nat} {rg : Nat → Bool} {pl : Nat → Nat} {V : fV} {t d nc : Nat} (hL : Lay ar ad rg pl V σ) (ht : t < 102) (hd : dk rg d) (hc : V 34 d = nI nc) (hc2 : nc ≤ 12) : CN l D ar base yy_pr_become prog_6_method_6_code 3 (Option.none : Option Jvm.ClassFile.FieldType) [] 0 0 0 0 [.ref (ad 5 t), .ref (ad 10 d)] σ (fun o σ' _ => o = .returned none ∧ Lay ar ad rg pl (bcm (mu V 52 t (nI nc)) (1000 + t) (100 + d) nc) σ') := by
  refine mp_in (Nat.le_of_ble_eq_true rfl) ?_
  intro p e R s m below meth c x hfr hlo hce hsl hr hlk hin hex hG hB ls H hH0 hH hS hl
  have hl : lv_has ls 3 [(0, .ref (ad 5 t)), (1, .ref (ad 10 d))] := hl
  have hd5 := dk_le hd
  refine lv_aload_n x.1 x.2.1 dd_pr_become_0 rfl (lv_at hl 0 rfl) ?_
  refine lv_aload_n x.1 x.2.1 dd_pr_become_1 rfl (lv_at hl 1 rfl) ?_
  refine mp_get x hH (la10 hL hd) fg_pr_15 rfl dd_pr_become_2 ?_
  refine mn_top (w := nI nc) (hc) ?_
  refine kp_52 x hH hS hL ht fp_pr_15 dd_pr_become_5 (fun σ hL H locs hH hS => ?_)
  refine lv_iconst (v := nI 0) x.1 x.2.1 dd_pr_become_8 (by decide +kernel) ?_
  refine lv_istore_n (lv' := [(2, .int (nI 0)), (0, .ref (ad 5 t)), (1, .ref (ad 10 d))]) x.1 x.2.1 dd_pr_become_9 rfl hl (by decide) rfl (fun ls hl => ?_)
  have loop40 : ∀ (n41 : Nat) (i : Nat) (σ : mp_M), i ≤ nc → Lay ar ad rg pl (bcm (mu V 52 t (nI nc)) (1000 + t) (100 + d) i) σ → nc - i < n41 → ∀ (ls : Array Slot) (H : Heap) (locs : List Loc), lv_has ls 3 [(0, .ref (ad 5 t)), (1, .ref (ad 10 d)), (2, .int (nI i))] → HH D base σ H → va_S (mp_A base) s.heap H locs → W p l e R s m [.ref (ad 5 t), .ref (ad 10 d)].toArray below meth c H locs 0 0 (mp_Q below s 0 0 base (mp_P D cl_L base s (fun o σ' _ => o = .returned none ∧ Lay ar ad rg pl (bcm (mu V 52 t (nI nc)) (1000 + t) (100 + d) nc) σ'))) (F0 m 10 ls []) := by
    intro n41
    induction n41 with
    | zero => intro i σ hi hL hn; exact absurd hn (Nat.not_lt_zero _)
    | succ n41 ih =>
      intro i σ hi hL hn ls H locs hl hH hS
      refine lv_iload_n x.1 x.2.1 dd_pr_become_10 rfl (lv_at hl 2 rfl) ?_
      refine lv_aload_n x.1 x.2.1 dd_pr_become_11 rfl (lv_at hl 0 rfl) ?_
      refine mp_get x hH (la5 hL ht) fg_pr_15 rfl dd_pr_become_12 ?_
      refine mn_top (w := nI nc) ((bcm_o (by omega)).trans mu_s) ?_
      refine lv_icmp_ge (tgt := 42) x.1 x.2.1 dd_pr_become_15 (by decide) (fun c42 => ?_) (fun c42 => ?_)
      · have c42 : nc ≤ i := (cv_le (a := nc) (b := i) (by omega) (by omega)).mp c42
        obtain rfl : i = nc := by omega
        exact mp_rv x hr hlk (by decide) (by decide) hH hS (fun _ => ⟨rfl, hL⟩) dd_pr_become_42
      · have c42 : ¬ (nc ≤ i) := fun h => c42 ((cv_le (a := nc) (b := i) (by omega) (by omega)).mpr h)
        refine lv_iload_n x.1 x.2.1 dd_pr_become_18 rfl (lv_at hl 2 rfl) ?_
        refine lv_bipush (v := nI 12) x.1 x.2.1 dd_pr_become_19 (by decide +kernel) ?_
        refine lv_icmp_ge (tgt := 42) x.1 x.2.1 dd_pr_become_21 (by decide) (fun c43 => absurd c43 (fun h => absurd ((cv_le (a := 12) (b := i) (by omega) (by omega)).mp h) (by omega))) (fun c43 => ?_)
        refine lv_aload_n x.1 x.2.1 dd_pr_become_24 rfl (lv_at hl 0 rfl) ?_
        refine mp_get x hH (la5 hL ht) fg_pr_9 rfl dd_pr_become_25 ?_
        refine lv_iload_n x.1 x.2.1 dd_pr_become_28 rfl (lv_at hl 2 rfl) ?_
        refine lv_aload_n x.1 x.2.1 dd_pr_become_29 rfl (lv_at hl 1 rfl) ?_
        refine mp_get x hH (la10 hL hd) fg_pr_9 rfl dd_pr_become_30 ?_
        refine lv_iload_n x.1 x.2.1 dd_pr_become_33 rfl (lv_at hl 2 rfl) ?_
        refine krd_ld x hH hL (j := i) hd (by omega) dd_pr_become_34 ?_
        refine mn_top (w := (mu V 52 t (nI nc)) (100 + d) i) (bcm_o (by omega)) ?_
        refine krt_st x hH hS hL (j := i) ht (by omega) dd_pr_become_35 (fun σ hL H locs hH hS => ?_)
        refine lv_iinc (v := nI (i + 1)) (lv' := [(2, .int (nI (i + 1))), (0, .ref (ad 5 t)), (1, .ref (ad 10 d))]) x.1 x.2.1 dd_pr_become_36 hl (k := 2) rfl (mn_inc _) (by decide) rfl (fun ls hl => ?_)
        refine lv_goto (tgt := 10) x.1 x.2.1 dd_pr_become_39 (by decide) ?_
        exact ih (i + 1) _ (by omega) hL (by omega) ls H _ (lv_sub hl [1, 2, 0] rfl) hH hS
  exact loop40 _ 0 _ (Nat.zero_le _) hL (Nat.lt_succ_self _) ls H _ (lv_sub hl [1, 2, 0] rfl) hH hS
set_option maxRecDepth 100000 in
set_option maxHeartbeats 4000000 in
theorem kk_pr_becomet {l : Launch} {D : va_G} {ar : Nat → ClassId} {base : Nat} {σ : mp_M} {ad : Nat → Nat → Nat} {rg : Nat → Bool} {pl : Nat → Nat} {V : fV} {t q nc : Nat} (hL : Lay ar ad rg pl V σ) (ht : t < 102) (hd : q < 102) (hqt : q ≠ t) (hc : V 52 q = nI nc) (hc2 : nc ≤ 12) : CN l D ar base yy_pr_become prog_6_method_6_code 3 (Option.none : Option Jvm.ClassFile.FieldType) [] 0 0 0 0 [.ref (ad 5 t), .ref (ad 5 q)] σ (fun o σ' _ => o = .returned none ∧ Lay ar ad rg pl (bcm (mu V 52 t (nI nc)) (1000 + t) (1000 + q) nc) σ') := by
  refine mp_in (Nat.le_of_ble_eq_true rfl) ?_
  intro p e R s m below meth c x hfr hlo hce hsl hr hlk hin hex hG hB ls H hH0 hH hS hl
  have hl : lv_has ls 3 [(0, .ref (ad 5 t)), (1, .ref (ad 5 q))] := hl
  refine lv_aload_n x.1 x.2.1 dd_pr_become_0 rfl (lv_at hl 0 rfl) ?_
  refine lv_aload_n x.1 x.2.1 dd_pr_become_1 rfl (lv_at hl 1 rfl) ?_
  refine mp_get x hH (la5 hL hd) fg_pr_15 rfl dd_pr_become_2 ?_
  refine mn_top (w := nI nc) (hc) ?_
  refine kp_52 x hH hS hL ht fp_pr_15 dd_pr_become_5 (fun σ hL H locs hH hS => ?_)
  refine lv_iconst (v := nI 0) x.1 x.2.1 dd_pr_become_8 (by decide +kernel) ?_
  refine lv_istore_n (lv' := [(2, .int (nI 0)), (0, .ref (ad 5 t)), (1, .ref (ad 5 q))]) x.1 x.2.1 dd_pr_become_9 rfl hl (by decide) rfl (fun ls hl => ?_)
  have loop44 : ∀ (n45 : Nat) (i : Nat) (σ : mp_M), i ≤ nc → Lay ar ad rg pl (bcm (mu V 52 t (nI nc)) (1000 + t) (1000 + q) i) σ → nc - i < n45 → ∀ (ls : Array Slot) (H : Heap) (locs : List Loc), lv_has ls 3 [(0, .ref (ad 5 t)), (1, .ref (ad 5 q)), (2, .int (nI i))] → HH D base σ H → va_S (mp_A base) s.heap H locs → W p l e R s m [.ref (ad 5 t), .ref (ad 5 q)].toArray below meth c H locs 0 0 (mp_Q below s 0 0 base (mp_P D cl_L base s (fun o σ' _ => o = .returned none ∧ Lay ar ad rg pl (bcm (mu V 52 t (nI nc)) (1000 + t) (1000 + q) nc) σ'))) (F0 m 10 ls []) := by
    intro n45
    induction n45 with
    | zero => intro i σ hi hL hn; exact absurd hn (Nat.not_lt_zero _)
    | succ n45 ih =>
      intro i σ hi hL hn ls H locs hl hH hS
      refine lv_iload_n x.1 x.2.1 dd_pr_become_10 rfl (lv_at hl 2 rfl) ?_
      refine lv_aload_n x.1 x.2.1 dd_pr_become_11 rfl (lv_at hl 0 rfl) ?_
      refine mp_get x hH (la5 hL ht) fg_pr_15 rfl dd_pr_become_12 ?_
      refine mn_top (w := nI nc) ((bcm_o (by omega)).trans mu_s) ?_
      refine lv_icmp_ge (tgt := 42) x.1 x.2.1 dd_pr_become_15 (by decide) (fun c46 => ?_) (fun c46 => ?_)
      · have c46 : nc ≤ i := (cv_le (a := nc) (b := i) (by omega) (by omega)).mp c46
        obtain rfl : i = nc := by omega
        exact mp_rv x hr hlk (by decide) (by decide) hH hS (fun _ => ⟨rfl, hL⟩) dd_pr_become_42
      · have c46 : ¬ (nc ≤ i) := fun h => c46 ((cv_le (a := nc) (b := i) (by omega) (by omega)).mpr h)
        refine lv_iload_n x.1 x.2.1 dd_pr_become_18 rfl (lv_at hl 2 rfl) ?_
        refine lv_bipush (v := nI 12) x.1 x.2.1 dd_pr_become_19 (by decide +kernel) ?_
        refine lv_icmp_ge (tgt := 42) x.1 x.2.1 dd_pr_become_21 (by decide) (fun c47 => absurd c47 (fun h => absurd ((cv_le (a := 12) (b := i) (by omega) (by omega)).mp h) (by omega))) (fun c47 => ?_)
        refine lv_aload_n x.1 x.2.1 dd_pr_become_24 rfl (lv_at hl 0 rfl) ?_
        refine mp_get x hH (la5 hL ht) fg_pr_9 rfl dd_pr_become_25 ?_
        refine lv_iload_n x.1 x.2.1 dd_pr_become_28 rfl (lv_at hl 2 rfl) ?_
        refine lv_aload_n x.1 x.2.1 dd_pr_become_29 rfl (lv_at hl 1 rfl) ?_
        refine mp_get x hH (la5 hL hd) fg_pr_9 rfl dd_pr_become_30 ?_
        refine lv_iload_n x.1 x.2.1 dd_pr_become_33 rfl (lv_at hl 2 rfl) ?_
        refine krt_ld x hH hL (j := i) hd (by omega) dd_pr_become_34 ?_
        refine mn_top (w := (mu V 52 t (nI nc)) (1000 + q) i) (bcm_o (by omega)) ?_
        refine krt_st x hH hS hL (j := i) ht (by omega) dd_pr_become_35 (fun σ hL H locs hH hS => ?_)
        refine lv_iinc (v := nI (i + 1)) (lv' := [(2, .int (nI (i + 1))), (0, .ref (ad 5 t)), (1, .ref (ad 5 q))]) x.1 x.2.1 dd_pr_become_36 hl (k := 2) rfl (mn_inc _) (by decide) rfl (fun ls hl => ?_)
        refine lv_goto (tgt := 10) x.1 x.2.1 dd_pr_become_39 (by decide) ?_
        exact ih (i + 1) _ (by omega) hL (by omega) ls H _ (lv_sub hl [1, 2, 0] rfl) hH hS
  exact loop44 _ 0 _ (Nat.zero_le _) hL (Nat.lt_succ_self _) ls H _ (lv_sub hl [1, 2, 0] rfl) hH hS
end
section
/-! ASKINGS, LETTERS, DESKS, THE ROW over the flat state. -/
def sfg (V : fV) (d : Nat) : fV := mu (mu (mu V 40 d (nI 0)) 42 d (nI 0)) 43 d (-1)
set_option maxRecDepth 100000 in
set_option maxHeartbeats 4000000 in
theorem kk_A_forget {l : Launch} {D : va_G} {ar : Nat → ClassId} {base : Nat} {σ : mp_M} {ad : Nat → Nat → Nat} {rg : Nat → Bool} {pl : Nat → Nat} {V : fV} {d : Nat} (hL : Lay ar ad rg pl V σ) (hd : dk rg d) : CN l D ar base yy_ak_forgetAnswers prog_2_method_7_code 1 (Option.none : Option Jvm.ClassFile.FieldType) [] 0 0 0 0 [.ref (ad 12 d)] σ (fun o σ' _ => o = .returned none ∧ Lay ar ad rg pl (sfg V d) σ') := by
  refine mp_in (Nat.le_of_ble_eq_true rfl) ?_
  intro p e R s m below meth c x hfr hlo hce hsl hr hlk hin hex hG hB ls H hH0 hH hS hl
  have hl : lv_has ls 1 [(0, .ref (ad 12 d))] := hl
  refine lv_aload_n x.1 x.2.1 dd_ak_forgetAnswers_0 rfl (lv_at hl 0 rfl) ?_
  refine lv_iconst (v := nI 0) x.1 x.2.1 dd_ak_forgetAnswers_1 (by decide +kernel) ?_
  refine kp_40 x hH hS hL hd fp_ak_39 dd_ak_forgetAnswers_2 (fun σ hL H locs hH hS => ?_)
  refine lv_aload_n x.1 x.2.1 dd_ak_forgetAnswers_5 rfl (lv_at hl 0 rfl) ?_
  refine lv_iconst (v := nI 0) x.1 x.2.1 dd_ak_forgetAnswers_6 (by decide +kernel) ?_
  refine kp_42 x hH hS hL hd fp_ak_33 dd_ak_forgetAnswers_7 (fun σ hL H locs hH hS => ?_)
  refine lv_aload_n x.1 x.2.1 dd_ak_forgetAnswers_10 rfl (lv_at hl 0 rfl) ?_
  refine lv_iconst (v := (-1)) x.1 x.2.1 dd_ak_forgetAnswers_11 (by decide +kernel) ?_
  refine kp_43 x hH hS hL hd fp_ak_36 dd_ak_forgetAnswers_12 (fun σ hL H locs hH hS => ?_)
  exact mp_rv x hr hlk (by decide) (by decide) hH hS (fun _ => ⟨rfl, hL⟩) dd_ak_forgetAnswers_15
def sen (V : fV) (d : Nat) : fV := sfg (mu (mu (mu (mu (mu V 36 d (nI 0)) 37 d (-1)) 38 d (nI 0)) 39 d (nI 0)) 41 d (nI 0)) d
set_option maxRecDepth 100000 in
set_option maxHeartbeats 4000000 in
theorem kk_A_end {l : Launch} {D : va_G} {ar : Nat → ClassId} {base : Nat} {σ : mp_M} {ad : Nat → Nat → Nat} {rg : Nat → Bool} {pl : Nat → Nat} {V : fV} {d : Nat} (hL : Lay ar ad rg pl V σ) (hd : dk rg d) : CN l D ar base yy_ak_end prog_2_method_3_code 1 (Option.none : Option Jvm.ClassFile.FieldType) [] 1 12 0 0 [.ref (ad 12 d)] σ (fun o σ' _ => o = .returned none ∧ Lay ar ad rg pl (sen V d) σ') := by
  refine mp_in (Nat.le_of_ble_eq_true rfl) ?_
  intro p e R s m below meth c x hfr hlo hce hsl hr hlk hin hex hG hB ls H hH0 hH hS hl
  have hl : lv_has ls 1 [(0, .ref (ad 12 d))] := hl
  refine lv_aload_n x.1 x.2.1 dd_ak_end_0 rfl (lv_at hl 0 rfl) ?_
  refine lv_iconst (v := nI 0) x.1 x.2.1 dd_ak_end_1 (by decide +kernel) ?_
  refine kp_36 x hH hS hL hd fp_ak_18 dd_ak_end_2 (fun σ hL H locs hH hS => ?_)
  refine lv_aload_n x.1 x.2.1 dd_ak_end_5 rfl (lv_at hl 0 rfl) ?_
  refine lv_iconst (v := (-1)) x.1 x.2.1 dd_ak_end_6 (by decide +kernel) ?_
  refine kp_37 x hH hS hL hd fp_ak_21 dd_ak_end_7 (fun σ hL H locs hH hS => ?_)
  refine lv_aload_n x.1 x.2.1 dd_ak_end_10 rfl (lv_at hl 0 rfl) ?_
  refine lv_iconst (v := nI 0) x.1 x.2.1 dd_ak_end_11 (by decide +kernel) ?_
  refine kp_38 x hH hS hL hd fp_ak_24 dd_ak_end_12 (fun σ hL H locs hH hS => ?_)
  refine lv_aload_n x.1 x.2.1 dd_ak_end_15 rfl (lv_at hl 0 rfl) ?_
  refine lv_iconst (v := nI 0) x.1 x.2.1 dd_ak_end_16 (by decide +kernel) ?_
  refine kp_39 x hH hS hL hd fp_ak_14 dd_ak_end_17 (fun σ hL H locs hH hS => ?_)
  refine lv_aload_n x.1 x.2.1 dd_ak_end_20 rfl (lv_at hl 0 rfl) ?_
  refine lv_iconst (v := nI 0) x.1 x.2.1 dd_ak_end_21 (by decide +kernel) ?_
  refine kp_41 x hH hS hL hd fp_ak_27 dd_ak_end_22 (fun σ hL H locs hH hS => ?_)
  refine lv_aload_n x.1 x.2.1 dd_ak_end_25 rfl (lv_at hl 0 rfl) ?_
  refine mp_call x (wt_mv base) hG hB hl.1 (mp_invV (av := []) x hH (la12 hL hd) rfl rfl mn_ak_forgetAnswers mc_ak_forgetAnswers (Or.inl ww_113) ww_115 ww_1 rfl dd_ak_end_26) (kk_A_forget hL hd) (Nat.le_trans (Nat.le_of_ble_eq_true rfl) hfr) (Nat.le_trans (Nat.le_of_ble_eq_true rfl) hlo) (Nat.le_trans (Nat.le_of_ble_eq_true rfl) hce) (Nat.le_trans (Nat.le_of_ble_eq_true rfl) hsl) hH hS (fun v σa t0 H locs hp48 ht0 hvm hz hH hS => ?_) (fun _ _ _ _ _ hz _ _ _ _ _ => by cases hz.1)
  obtain ⟨ho, hL⟩ := hp48
  cases ho
  refine W.eq (g2 := F0 m 29 ls []) rfl ?_
  exact mp_rv x hr hlk (by decide) (by decide) hH hS (fun _ => ⟨rfl, hL⟩) dd_ak_end_29
set_option maxRecDepth 100000 in
set_option maxHeartbeats 4000000 in
theorem kk_A_begin {l : Launch} {D : va_G} {ar : Nat → ClassId} {base : Nat} {σ : mp_M} {ad : Nat → Nat → Nat} {rg : Nat → Bool} {pl : Nat → Nat} {V : fV} {d : Nat} {k j : Int32} (hL : Lay ar ad rg pl V σ) (hd : dk rg d) : CN l D ar base yy_ak_begin prog_2_method_4_code 3 (Option.none : Option Jvm.ClassFile.FieldType) [] 2 24 0 0 [.ref (ad 12 d), .int k, .int j] σ (fun o σ' _ => o = .returned none ∧ Lay ar ad rg pl (mu (mu (sen V d) 36 d k) 37 d j) σ') := by
  refine mp_in (Nat.le_of_ble_eq_true rfl) ?_
  intro p e R s m below meth c x hfr hlo hce hsl hr hlk hin hex hG hB ls H hH0 hH hS hl
  have hl : lv_has ls 3 [(0, .ref (ad 12 d)), (1, .int k), (2, .int j)] := hl
  refine lv_aload_n x.1 x.2.1 dd_ak_begin_0 rfl (lv_at hl 0 rfl) ?_
  refine mp_call x (wt_mv base) hG hB hl.1 (mp_invV (av := []) x hH (la12 hL hd) rfl rfl mn_ak_end mc_ak_end (Or.inl ww_109) ww_111 ww_0 rfl dd_ak_begin_1) (kk_A_end hL hd) (Nat.le_trans (Nat.le_of_ble_eq_true rfl) hfr) (Nat.le_trans (Nat.le_of_ble_eq_true rfl) hlo) (Nat.le_trans (Nat.le_of_ble_eq_true rfl) hce) (Nat.le_trans (Nat.le_of_ble_eq_true rfl) hsl) hH hS (fun v σa t0 H locs hp49 ht0 hvm hz hH hS => ?_) (fun _ _ _ _ _ hz _ _ _ _ _ => by cases hz.1)
  obtain ⟨ho, hL⟩ := hp49
  cases ho
  refine W.eq (g2 := F0 m 4 ls []) rfl ?_
  refine lv_aload_n x.1 x.2.1 dd_ak_begin_4 rfl (lv_at hl 0 rfl) ?_
  refine lv_iload_n x.1 x.2.1 dd_ak_begin_5 rfl (lv_at hl 1 rfl) ?_
  refine kp_36 x hH hS hL hd fp_ak_18 dd_ak_begin_6 (fun σ hL H locs hH hS => ?_)
  refine lv_aload_n x.1 x.2.1 dd_ak_begin_9 rfl (lv_at hl 0 rfl) ?_
  refine lv_iload_n x.1 x.2.1 dd_ak_begin_10 rfl (lv_at hl 2 rfl) ?_
  refine kp_37 x hH hS hL hd fp_ak_21 dd_ak_begin_11 (fun σ hL H locs hH hS => ?_)
  exact mp_rv x hr hlk (by decide) (by decide) hH hS (fun _ => ⟨rfl, hL⟩) dd_ak_begin_14
set_option maxRecDepth 100000 in
set_option maxHeartbeats 4000000 in
theorem kk_A_beginRound {l : Launch} {D : va_G} {ar : Nat → ClassId} {base : Nat} {σ : mp_M} {ad : Nat → Nat → Nat} {rg : Nat → Bool} {pl : Nat → Nat} {V : fV} {d : Nat} {k : Int32} (hL : Lay ar ad rg pl V σ) (hd : dk rg d) : CN l D ar base yy_ak_beginRound prog_2_method_5_code 2 (Option.none : Option Jvm.ClassFile.FieldType) [] 1 12 0 0 [.ref (ad 12 d), .int k] σ (fun o σ' _ => o = .returned none ∧ Lay ar ad rg pl (sfg (mu (mu V 38 d k) 39 d (nI 1)) d) σ') := by
  refine mp_in (Nat.le_of_ble_eq_true rfl) ?_
  intro p e R s m below meth c x hfr hlo hce hsl hr hlk hin hex hG hB ls H hH0 hH hS hl
  have hl : lv_has ls 2 [(0, .ref (ad 12 d)), (1, .int k)] := hl
  refine lv_aload_n x.1 x.2.1 dd_ak_beginRound_0 rfl (lv_at hl 0 rfl) ?_
  refine lv_iload_n x.1 x.2.1 dd_ak_beginRound_1 rfl (lv_at hl 1 rfl) ?_
  refine kp_38 x hH hS hL hd fp_ak_24 dd_ak_beginRound_2 (fun σ hL H locs hH hS => ?_)
  refine lv_aload_n x.1 x.2.1 dd_ak_beginRound_5 rfl (lv_at hl 0 rfl) ?_
  refine lv_iconst (v := nI 1) x.1 x.2.1 dd_ak_beginRound_6 (by decide +kernel) ?_
  refine kp_39 x hH hS hL hd fp_ak_14 dd_ak_beginRound_7 (fun σ hL H locs hH hS => ?_)
  refine lv_aload_n x.1 x.2.1 dd_ak_beginRound_10 rfl (lv_at hl 0 rfl) ?_
  refine mp_call x (wt_mv base) hG hB hl.1 (mp_invV (av := []) x hH (la12 hL hd) rfl rfl mn_ak_forgetAnswers mc_ak_forgetAnswers (Or.inl ww_113) ww_115 ww_1 rfl dd_ak_beginRound_11) (kk_A_forget hL hd) (Nat.le_trans (Nat.le_of_ble_eq_true rfl) hfr) (Nat.le_trans (Nat.le_of_ble_eq_true rfl) hlo) (Nat.le_trans (Nat.le_of_ble_eq_true rfl) hce) (Nat.le_trans (Nat.le_of_ble_eq_true rfl) hsl) hH hS (fun v σa t0 H locs hp50 ht0 hvm hz hH hS => ?_) (fun _ _ _ _ _ hz _ _ _ _ _ => by cases hz.1)
  obtain ⟨ho, hL⟩ := hp50
  cases ho
  refine W.eq (g2 := F0 m 14 ls []) rfl ?_
  exact mp_rv x hr hlk (by decide) (by decide) hH hS (fun _ => ⟨rfl, hL⟩) dd_ak_beginRound_14
set_option maxRecDepth 100000 in
set_option maxHeartbeats 4000000 in
theorem kk_A_runs {l : Launch} {D : va_G} {ar : Nat → ClassId} {base : Nat} {σ : mp_M} {ad : Nat → Nat → Nat} {rg : Nat → Bool} {pl : Nat → Nat} {V : fV} {d : Nat} (hL : Lay ar ad rg pl V σ) (hd : dk rg d) : CN l D ar base yy_ak_runs prog_2_method_2_code 1 (Option.some Jvm.ClassFile.FieldType.boolean) [] 0 0 0 0 [.ref (ad 12 d)] σ (fun o σ' _ => o = .returned (some (.int (if V 39 d = 0 then nI 0 else nI 1))) ∧ σ' = σ) := by
  refine mp_in (Nat.le_of_ble_eq_true rfl) ?_
  intro p e R s m below meth c x hfr hlo hce hsl hr hlk hin hex hG hB ls H hH0 hH hS hl
  have hl : lv_has ls 1 [(0, .ref (ad 12 d))] := hl
  refine lv_aload_n x.1 x.2.1 dd_ak_runs_0 rfl (lv_at hl 0 rfl) ?_
  refine mp_get x hH (la12 hL hd) fg_ak_14 rfl dd_ak_runs_1 ?_
  refine lv_if_eq (tgt := 11) x.1 x.2.1 dd_ak_runs_4 (by decide) (fun c51 => ?_) (fun c51 => ?_)
  · refine lv_iconst (v := nI 0) x.1 x.2.1 dd_ak_runs_11 (by decide +kernel) ?_
    exact mp_rz x hr (by decide) hlk (by decide) (by decide) hH hS (fun _ => ⟨(congrArg (fun z => Outcome.returned (some (.int z))) ((if_pos c51).symm)), rfl⟩) dd_ak_runs_12
  · refine lv_iconst (v := nI 1) x.1 x.2.1 dd_ak_runs_7 (by decide +kernel) ?_
    refine lv_goto (tgt := 12) x.1 x.2.1 dd_ak_runs_8 (by decide) ?_
    exact mp_rz x hr (by decide) hlk (by decide) (by decide) hH hS (fun _ => ⟨(congrArg (fun z => Outcome.returned (some (.int z))) ((if_neg c51).symm)), rfl⟩) dd_ak_runs_12
def sb2 (V : fV) (d : Nat) : fV := sfg (mu (if 0 < V 42 d then mu V 37 d (V 43 d) else V) 39 d (nI 2)) d
set_option maxRecDepth 100000 in
set_option maxHeartbeats 4000000 in
theorem kk_A_beginPhaseTwo {l : Launch} {D : va_G} {ar : Nat → ClassId} {base : Nat} {σ : mp_M} {ad : Nat → Nat → Nat} {rg : Nat → Bool} {pl : Nat → Nat} {V : fV} {d : Nat} (hL : Lay ar ad rg pl V σ) (hd : dk rg d) : CN l D ar base yy_ak_beginPhaseTwo prog_2_method_6_code 1 (Option.none : Option Jvm.ClassFile.FieldType) [] 1 12 0 0 [.ref (ad 12 d)] σ (fun o σ' _ => o = .returned none ∧ Lay ar ad rg pl (sb2 V d) σ') := by
  refine mp_in (Nat.le_of_ble_eq_true rfl) ?_
  intro p e R s m below meth c x hfr hlo hce hsl hr hlk hin hex hG hB ls H hH0 hH hS hl
  have hl : lv_has ls 1 [(0, .ref (ad 12 d))] := hl
  refine lv_aload_n x.1 x.2.1 dd_ak_beginPhaseTwo_0 rfl (lv_at hl 0 rfl) ?_
  refine mp_get x hH (la12 hL hd) fg_ak_33 rfl dd_ak_beginPhaseTwo_1 ?_
  refine lv_if_le (tgt := 15) x.1 x.2.1 dd_ak_beginPhaseTwo_4 (by decide) (fun c52 => ?_) (fun c52 => ?_)
  · refine lv_aload_n x.1 x.2.1 dd_ak_beginPhaseTwo_15 rfl (lv_at hl 0 rfl) ?_
    refine lv_iconst (v := nI 2) x.1 x.2.1 dd_ak_beginPhaseTwo_16 (by decide +kernel) ?_
    refine kp_39 x hH hS hL hd fp_ak_14 dd_ak_beginPhaseTwo_17 (fun σ hL H locs hH hS => ?_)
    refine lv_aload_n x.1 x.2.1 dd_ak_beginPhaseTwo_20 rfl (lv_at hl 0 rfl) ?_
    refine mp_call x (wt_mv base) hG hB hl.1 (mp_invV (av := []) x hH (la12 hL hd) rfl rfl mn_ak_forgetAnswers mc_ak_forgetAnswers (Or.inl ww_113) ww_115 ww_1 rfl dd_ak_beginPhaseTwo_21) (kk_A_forget hL hd) (Nat.le_trans (Nat.le_of_ble_eq_true rfl) hfr) (Nat.le_trans (Nat.le_of_ble_eq_true rfl) hlo) (Nat.le_trans (Nat.le_of_ble_eq_true rfl) hce) (Nat.le_trans (Nat.le_of_ble_eq_true rfl) hsl) hH hS (fun v σa t0 H locs hp53 ht0 hvm hz hH hS => ?_) (fun _ _ _ _ _ hz _ _ _ _ _ => by cases hz.1)
    obtain ⟨ho, hL⟩ := hp53
    cases ho
    refine W.eq (g2 := F0 m 24 ls []) rfl ?_
    exact mp_rv x hr hlk (by decide) (by decide) hH hS (fun _ => ⟨rfl, by unfold sb2; rw [if_neg (Int32.not_lt.mpr c52)]; exact hL⟩) dd_ak_beginPhaseTwo_24
  · refine lv_aload_n x.1 x.2.1 dd_ak_beginPhaseTwo_7 rfl (lv_at hl 0 rfl) ?_
    refine lv_aload_n x.1 x.2.1 dd_ak_beginPhaseTwo_8 rfl (lv_at hl 0 rfl) ?_
    refine mp_get x hH (la12 hL hd) fg_ak_36 rfl dd_ak_beginPhaseTwo_9 ?_
    refine kp_37 x hH hS hL hd fp_ak_21 dd_ak_beginPhaseTwo_12 (fun σ hL H locs hH hS => ?_)
    refine lv_aload_n x.1 x.2.1 dd_ak_beginPhaseTwo_15 rfl (lv_at hl 0 rfl) ?_
    refine lv_iconst (v := nI 2) x.1 x.2.1 dd_ak_beginPhaseTwo_16 (by decide +kernel) ?_
    refine kp_39 x hH hS hL hd fp_ak_14 dd_ak_beginPhaseTwo_17 (fun σ hL H locs hH hS => ?_)
    refine lv_aload_n x.1 x.2.1 dd_ak_beginPhaseTwo_20 rfl (lv_at hl 0 rfl) ?_
    refine mp_call x (wt_mv base) hG hB hl.1 (mp_invV (av := []) x hH (la12 hL hd) rfl rfl mn_ak_forgetAnswers mc_ak_forgetAnswers (Or.inl ww_113) ww_115 ww_1 rfl dd_ak_beginPhaseTwo_21) (kk_A_forget hL hd) (Nat.le_trans (Nat.le_of_ble_eq_true rfl) hfr) (Nat.le_trans (Nat.le_of_ble_eq_true rfl) hlo) (Nat.le_trans (Nat.le_of_ble_eq_true rfl) hce) (Nat.le_trans (Nat.le_of_ble_eq_true rfl) hsl) hH hS (fun v σa t0 H locs hp54 ht0 hvm hz hH hS => ?_) (fun _ _ _ _ _ hz _ _ _ _ _ => by cases hz.1)
    obtain ⟨ho, hL⟩ := hp54
    cases ho
    refine W.eq (g2 := F0 m 24 ls []) rfl ?_
    exact mp_rv x hr hlk (by decide) (by decide) hH hS (fun _ => ⟨rfl, by unfold sb2; rw [if_pos (Int32.not_le.mp c52)]; exact hL⟩) dd_ak_beginPhaseTwo_24
def wts (V : fV) (d t : Nat) (k : Int32) : Int32 := if V 39 d = k ∧ V 48 t = V 36 d ∧ V 49 t = V 38 d then nI 1 else nI 0
set_option maxRecDepth 100000 in
set_option maxHeartbeats 4000000 in
theorem kk_A_waitsFor {l : Launch} {D : va_G} {ar : Nat → ClassId} {base : Nat} {σ : mp_M} {ad : Nat → Nat → Nat} {rg : Nat → Bool} {pl : Nat → Nat} {V : fV} {d t : Nat} {k : Int32} (hL : Lay ar ad rg pl V σ) (hd : dk rg d) (ht : t < 102) : CN l D ar base yy_ak_waitsFor prog_2_method_8_code 3 (Option.some Jvm.ClassFile.FieldType.boolean) [] 0 0 0 0 [.ref (ad 12 d), .ref (ad 4 t), .int k] σ (fun o σ' _ => o = .returned (some (.int (wts V d t k))) ∧ σ' = σ) := by
  refine mp_in (Nat.le_of_ble_eq_true rfl) ?_
  intro p e R s m below meth c x hfr hlo hce hsl hr hlk hin hex hG hB ls H hH0 hH hS hl
  have hl : lv_has ls 3 [(0, .ref (ad 12 d)), (1, .ref (ad 4 t)), (2, .int k)] := hl
  refine lv_aload_n x.1 x.2.1 dd_ak_waitsFor_0 rfl (lv_at hl 0 rfl) ?_
  refine mp_get x hH (la12 hL hd) fg_ak_14 rfl dd_ak_waitsFor_1 ?_
  refine lv_iload_n x.1 x.2.1 dd_ak_waitsFor_4 rfl (lv_at hl 2 rfl) ?_
  refine lv_icmp_ne (tgt := 34) x.1 x.2.1 dd_ak_waitsFor_5 (by decide) (fun c55 => ?_) (fun c55 => ?_)
  · refine lv_iconst (v := nI 0) x.1 x.2.1 dd_ak_waitsFor_34 (by decide +kernel) ?_
    exact mp_rz x hr (by decide) hlk (by decide) (by decide) hH hS (fun _ => ⟨(congrArg (fun z => Outcome.returned (some (.int z))) (by simp [wts, c55])), rfl⟩) dd_ak_waitsFor_35
  · refine lv_aload_n x.1 x.2.1 dd_ak_waitsFor_8 rfl (lv_at hl 1 rfl) ?_
    refine mp_get x hH (la4 hL ht) fg_ak_42 rfl dd_ak_waitsFor_9 ?_
    refine lv_aload_n x.1 x.2.1 dd_ak_waitsFor_12 rfl (lv_at hl 0 rfl) ?_
    refine mp_get x hH (la12 hL hd) fg_ak_18 rfl dd_ak_waitsFor_13 ?_
    refine lv_icmp_ne (tgt := 34) x.1 x.2.1 dd_ak_waitsFor_16 (by decide) (fun c56 => ?_) (fun c56 => ?_)
    · refine lv_iconst (v := nI 0) x.1 x.2.1 dd_ak_waitsFor_34 (by decide +kernel) ?_
      exact mp_rz x hr (by decide) hlk (by decide) (by decide) hH hS (fun _ => ⟨(congrArg (fun z => Outcome.returned (some (.int z))) (by simp [wts, c55, c56])), rfl⟩) dd_ak_waitsFor_35
    · refine lv_aload_n x.1 x.2.1 dd_ak_waitsFor_19 rfl (lv_at hl 1 rfl) ?_
      refine mp_get x hH (la4 hL ht) fg_ak_45 rfl dd_ak_waitsFor_20 ?_
      refine lv_aload_n x.1 x.2.1 dd_ak_waitsFor_23 rfl (lv_at hl 0 rfl) ?_
      refine mp_get x hH (la12 hL hd) fg_ak_24 rfl dd_ak_waitsFor_24 ?_
      refine lv_icmp_ne (tgt := 34) x.1 x.2.1 dd_ak_waitsFor_27 (by decide) (fun c57 => ?_) (fun c57 => ?_)
      · refine lv_iconst (v := nI 0) x.1 x.2.1 dd_ak_waitsFor_34 (by decide +kernel) ?_
        exact mp_rz x hr (by decide) hlk (by decide) (by decide) hH hS (fun _ => ⟨(congrArg (fun z => Outcome.returned (some (.int z))) (by simp [wts, c55, c56, c57])), rfl⟩) dd_ak_waitsFor_35
      · refine lv_iconst (v := nI 1) x.1 x.2.1 dd_ak_waitsFor_30 (by decide +kernel) ?_
        refine lv_goto (tgt := 35) x.1 x.2.1 dd_ak_waitsFor_31 (by decide) ?_
        exact mp_rz x hr (by decide) hlk (by decide) (by decide) hH hS (fun _ => ⟨(congrArg (fun z => Outcome.returned (some (.int z))) (by simp [wts, c55, c56, c57])), rfl⟩) dd_ak_waitsFor_35
def sca (V : fV) (d t : Nat) : fV := if V 42 d < V 50 t then mu (mu (mu V 40 d (V 40 d ||| nI 1 <<< (V 45 t &&& 31))) 42 d (V 50 t)) 43 d (V 51 t) else mu V 40 d (V 40 d ||| nI 1 <<< (V 45 t &&& 31))
def shr (V : fV) (d t : Nat) : fV := if ¬ V 39 d = 0 ∧ V 48 t = V 36 d then mu V 41 d (if V 41 d < V 50 t then V 50 t else V 41 d) else V
set_option maxRecDepth 100000 in
set_option maxHeartbeats 4000000 in
theorem kk_A_countAnswer {l : Launch} {D : va_G} {ar : Nat → ClassId} {base : Nat} {σ : mp_M} {ad : Nat → Nat → Nat} {rg : Nat → Bool} {pl : Nat → Nat} {V : fV} {d t : Nat} (hL : Lay ar ad rg pl V σ) (hd : dk rg d) (ht : t < 102) : CN l D ar base yy_ak_countAnswer prog_2_method_9_code 2 (Option.none : Option Jvm.ClassFile.FieldType) [] 0 0 0 0 [.ref (ad 12 d), .ref (ad 4 t)] σ (fun o σ' _ => o = .returned none ∧ Lay ar ad rg pl (sca V d t) σ') := by
  refine mp_in (Nat.le_of_ble_eq_true rfl) ?_
  intro p e R s m below meth c x hfr hlo hce hsl hr hlk hin hex hG hB ls H hH0 hH hS hl
  have hl : lv_has ls 2 [(0, .ref (ad 12 d)), (1, .ref (ad 4 t))] := hl
  refine lv_aload_n x.1 x.2.1 dd_ak_countAnswer_0 rfl (lv_at hl 0 rfl) ?_
  refine lv_dup x.1 x.2.1 dd_ak_countAnswer_1 rfl ?_
  refine mp_get x hH (la12 hL hd) fg_ak_39 rfl dd_ak_countAnswer_2 ?_
  refine lv_iconst (v := nI 1) x.1 x.2.1 dd_ak_countAnswer_5 (by decide +kernel) ?_
  refine lv_aload_n x.1 x.2.1 dd_ak_countAnswer_6 rfl (lv_at hl 1 rfl) ?_
  refine mp_get x hH (la4 hL ht) fg_ak_46 rfl dd_ak_countAnswer_7 ?_
  refine lv_ishl x.1 x.2.1 dd_ak_countAnswer_10 ?_
  refine lv_ior x.1 x.2.1 dd_ak_countAnswer_11 ?_
  refine kp_40 x hH hS hL hd fp_ak_39 dd_ak_countAnswer_12 (fun σ hL H locs hH hS => ?_)
  refine lv_aload_n x.1 x.2.1 dd_ak_countAnswer_15 rfl (lv_at hl 1 rfl) ?_
  refine mp_get x hH (la4 hL ht) fg_ak_49 rfl dd_ak_countAnswer_16 ?_
  refine mn_top (w := V 50 t) (mu_k (by decide)) ?_
  refine lv_aload_n x.1 x.2.1 dd_ak_countAnswer_19 rfl (lv_at hl 0 rfl) ?_
  refine mp_get x hH (la12 hL hd) fg_ak_33 rfl dd_ak_countAnswer_20 ?_
  refine mn_top (w := V 42 d) (mu_k (by decide)) ?_
  refine lv_icmp_le (tgt := 42) x.1 x.2.1 dd_ak_countAnswer_23 (by decide) (fun c58 => ?_) (fun c58 => ?_)
  · exact mp_rv x hr hlk (by decide) (by decide) hH hS (fun _ => ⟨rfl, by unfold sca; rw [if_neg (Int32.not_lt.mpr c58)]; exact hL⟩) dd_ak_countAnswer_42
  · refine lv_aload_n x.1 x.2.1 dd_ak_countAnswer_26 rfl (lv_at hl 0 rfl) ?_
    refine lv_aload_n x.1 x.2.1 dd_ak_countAnswer_27 rfl (lv_at hl 1 rfl) ?_
    refine mp_get x hH (la4 hL ht) fg_ak_49 rfl dd_ak_countAnswer_28 ?_
    refine mn_top (w := V 50 t) (mu_k (by decide)) ?_
    refine kp_42 x hH hS hL hd fp_ak_33 dd_ak_countAnswer_31 (fun σ hL H locs hH hS => ?_)
    refine lv_aload_n x.1 x.2.1 dd_ak_countAnswer_34 rfl (lv_at hl 0 rfl) ?_
    refine lv_aload_n x.1 x.2.1 dd_ak_countAnswer_35 rfl (lv_at hl 1 rfl) ?_
    refine mp_get x hH (la4 hL ht) fg_ak_52 rfl dd_ak_countAnswer_36 ?_
    refine mn_top (w := V 51 t) ((mu_k (by decide)).trans (mu_k (by decide))) ?_
    refine kp_43 x hH hS hL hd fp_ak_36 dd_ak_countAnswer_39 (fun σ hL H locs hH hS => ?_)
    exact mp_rv x hr hlk (by decide) (by decide) hH hS (fun _ => ⟨rfl, by unfold sca; rw [if_pos (Int32.not_le.mp c58)]; exact hL⟩) dd_ak_countAnswer_42
set_option maxRecDepth 100000 in
set_option maxHeartbeats 4000000 in
theorem kk_A_hearRefusal {l : Launch} {D : va_G} {ar : Nat → ClassId} {base : Nat} {σ : mp_M} {ad : Nat → Nat → Nat} {rg : Nat → Bool} {pl : Nat → Nat} {V : fV} {d t : Nat} (hL : Lay ar ad rg pl V σ) (hd : dk rg d) (ht : t < 102) : CN l D ar base yy_ak_hearRefusal prog_2_method_10_code 2 (Option.none : Option Jvm.ClassFile.FieldType) [] 1 14 0 0 [.ref (ad 12 d), .ref (ad 4 t)] σ (fun o σ' _ => o = .returned none ∧ Lay ar ad rg pl (shr V d t) σ') := by
  refine mp_in (Nat.le_of_ble_eq_true rfl) ?_
  intro p e R s m below meth c x hfr hlo hce hsl hr hlk hin hex hG hB ls H hH0 hH hS hl
  have hl : lv_has ls 2 [(0, .ref (ad 12 d)), (1, .ref (ad 4 t))] := hl
  refine lv_aload_n x.1 x.2.1 dd_ak_hearRefusal_0 rfl (lv_at hl 0 rfl) ?_
  refine mp_call x (wt_mv base) hG hB hl.1 (mp_invV (av := []) x hH (la12 hL hd) rfl rfl mn_ak_runs mc_ak_runs (Or.inl ww_603) ww_523 ww_20 rfl dd_ak_hearRefusal_1) (kk_A_runs hL hd) (Nat.le_trans (Nat.le_of_ble_eq_true rfl) hfr) (Nat.le_trans (Nat.le_of_ble_eq_true rfl) hlo) (Nat.le_trans (Nat.le_of_ble_eq_true rfl) hce) (Nat.le_trans (Nat.le_of_ble_eq_true rfl) hsl) hH hS (fun v σa t0 H locs hp59 ht0 hvm hz hH hS => ?_) (fun _ _ _ _ _ hz _ _ _ _ _ => by cases hz.1)
  obtain ⟨ho, hσ⟩ := hp59
  cases ho
  rw [hσ] at hH
  refine W.eq (g2 := F0 m 4 ls [.int (if V 39 d = 0 then nI 0 else nI 1)]) rfl ?_
  refine lv_if_eq (tgt := 33) x.1 x.2.1 dd_ak_hearRefusal_4 (by decide) (fun c60 => ?_) (fun c60 => ?_)
  · exact mp_rv x hr hlk (by decide) (by decide) hH hS (fun _ => ⟨rfl, by unfold shr; rw [if_neg (fun z => by rw [if_neg z.1] at c60; exact absurd c60 (by decide +kernel))]; exact hL⟩) dd_ak_hearRefusal_33
  · refine lv_aload_n x.1 x.2.1 dd_ak_hearRefusal_7 rfl (lv_at hl 1 rfl) ?_
    refine mp_get x hH (la4 hL ht) fg_ak_42 rfl dd_ak_hearRefusal_8 ?_
    refine lv_aload_n x.1 x.2.1 dd_ak_hearRefusal_11 rfl (lv_at hl 0 rfl) ?_
    refine mp_get x hH (la12 hL hd) fg_ak_18 rfl dd_ak_hearRefusal_12 ?_
    refine lv_icmp_ne (tgt := 33) x.1 x.2.1 dd_ak_hearRefusal_15 (by decide) (fun c61 => ?_) (fun c61 => ?_)
    · exact mp_rv x hr hlk (by decide) (by decide) hH hS (fun _ => ⟨rfl, by unfold shr; rw [if_neg (fun z => c61 z.2)]; exact hL⟩) dd_ak_hearRefusal_33
    · refine lv_aload_n x.1 x.2.1 dd_ak_hearRefusal_18 rfl (lv_at hl 0 rfl) ?_
      refine lv_aload_n x.1 x.2.1 dd_ak_hearRefusal_19 rfl (lv_at hl 0 rfl) ?_
      refine mp_get x hH (la12 hL hd) fg_ak_27 rfl dd_ak_hearRefusal_20 ?_
      refine lv_aload_n x.1 x.2.1 dd_ak_hearRefusal_23 rfl (lv_at hl 1 rfl) ?_
      refine mp_get x hH (la4 hL ht) fg_ak_49 rfl dd_ak_hearRefusal_24 ?_
      refine mp_call x (wt_mv base) hG hB hl.1 (mp_invS (av := [.int (V 41 d), .int (V 50 t)]) x mn_jm_max mc_jm_max (Or.inl ww_604) ww_476 ww_67 rfl dd_ak_hearRefusal_27) (kk_jm_max ) (Nat.le_trans (Nat.le_of_ble_eq_true rfl) hfr) (Nat.le_trans (Nat.le_of_ble_eq_true rfl) hlo) (Nat.le_trans (Nat.le_of_ble_eq_true rfl) hce) (Nat.le_trans (Nat.le_of_ble_eq_true rfl) hsl) hH hS (fun v σa t0 H locs hp62 ht0 hvm hz hH hS => ?_) (fun _ _ _ _ _ hz _ _ _ _ _ => by cases hz.1)
      obtain ⟨ho, hσ⟩ := hp62
      cases ho
      rw [hσ] at hH
      refine W.eq (g2 := F0 m 30 ls [.int (if V 41 d < V 50 t then V 50 t else V 41 d), .ref (ad 12 d)]) rfl ?_
      refine kp_41 x hH hS hL hd fp_ak_27 dd_ak_hearRefusal_30 (fun σ hL H locs hH hS => ?_)
      exact mp_rv x hr hlk (by decide) (by decide) hH hS (fun _ => ⟨rfl, by unfold shr; rw [if_pos (show ¬ V 39 d = 0 ∧ V 48 t = V 36 d from ⟨fun z => c60 (if_pos z), c61⟩)]; exact hL⟩) dd_ak_hearRefusal_33
def swr (V : fV) (t : Nat) (k a b c n : Int32) (d nc : Nat) : fV := bcm (mu (mu (mu (mu (mu (mu (mu (mu V 44 t k) 45 t a) 47 t b) 48 t c) 49 t n) 50 t (nI 0)) 51 t (-1)) 52 t (nI nc)) (1000 + t) (100 + d) nc
set_option maxRecDepth 100000 in
set_option maxHeartbeats 4000000 in
theorem kk_L_write {l : Launch} {D : va_G} {ar : Nat → ClassId} {base : Nat} {σ : mp_M} {ad : Nat → Nat → Nat} {rg : Nat → Bool} {pl : Nat → Nat} {V : fV} {t d nc : Nat} {k a b cc nn : Int32} (hL : Lay ar ad rg pl V σ) (ht : t < 102) (hd : dk rg d) (hc : V 34 d = nI nc) (hc2 : nc ≤ 12) : CN l D ar base yy_lt_write prog_4_method_2_code 7 (Option.none : Option Jvm.ClassFile.FieldType) [] 1 14 0 0 [.ref (ad 4 t), .int k, .int a, .int b, .int cc, .int nn, .ref (ad 10 d)] σ (fun o σ' _ => o = .returned none ∧ Lay ar ad rg pl (swr V t k a b cc nn d nc) σ') := by
  refine mp_in (Nat.le_of_ble_eq_true rfl) ?_
  intro p e R s m below meth c x hfr hlo hce hsl hr hlk hin hex hG hB ls H hH0 hH hS hl
  have hl : lv_has ls 7 [(0, .ref (ad 4 t)), (1, .int k), (2, .int a), (3, .int b), (4, .int cc), (5, .int nn), (6, .ref (ad 10 d))] := hl
  refine lv_aload_n x.1 x.2.1 dd_lt_write_0 rfl (lv_at hl 0 rfl) ?_
  refine lv_iload_n x.1 x.2.1 dd_lt_write_1 rfl (lv_at hl 1 rfl) ?_
  refine kp_44 x hH hS hL ht fp_lt_22 dd_lt_write_2 (fun σ hL H locs hH hS => ?_)
  refine lv_aload_n x.1 x.2.1 dd_lt_write_5 rfl (lv_at hl 0 rfl) ?_
  refine lv_iload_n x.1 x.2.1 dd_lt_write_6 rfl (lv_at hl 2 rfl) ?_
  refine kp_45 x hH hS hL ht fp_lt_25 dd_lt_write_7 (fun σ hL H locs hH hS => ?_)
  refine lv_aload_n x.1 x.2.1 dd_lt_write_10 rfl (lv_at hl 0 rfl) ?_
  refine lv_iload_n x.1 x.2.1 dd_lt_write_11 rfl (lv_at hl 3 rfl) ?_
  refine kp_47 x hH hS hL ht fp_lt_28 dd_lt_write_12 (fun σ hL H locs hH hS => ?_)
  refine lv_aload_n x.1 x.2.1 dd_lt_write_15 rfl (lv_at hl 0 rfl) ?_
  refine lv_iload x.1 x.2.1 dd_lt_write_16 (lv_at hl 4 rfl) ?_
  refine kp_48 x hH hS hL ht fp_lt_31 dd_lt_write_18 (fun σ hL H locs hH hS => ?_)
  refine lv_aload_n x.1 x.2.1 dd_lt_write_21 rfl (lv_at hl 0 rfl) ?_
  refine lv_iload x.1 x.2.1 dd_lt_write_22 (lv_at hl 5 rfl) ?_
  refine kp_49 x hH hS hL ht fp_lt_34 dd_lt_write_24 (fun σ hL H locs hH hS => ?_)
  refine lv_aload_n x.1 x.2.1 dd_lt_write_27 rfl (lv_at hl 0 rfl) ?_
  refine lv_iconst (v := nI 0) x.1 x.2.1 dd_lt_write_28 (by decide +kernel) ?_
  refine kp_50 x hH hS hL ht fp_lt_37 dd_lt_write_29 (fun σ hL H locs hH hS => ?_)
  refine lv_aload_n x.1 x.2.1 dd_lt_write_32 rfl (lv_at hl 0 rfl) ?_
  refine lv_iconst (v := (-1)) x.1 x.2.1 dd_lt_write_33 (by decide +kernel) ?_
  refine kp_51 x hH hS hL ht fp_lt_18 dd_lt_write_34 (fun σ hL H locs hH hS => ?_)
  refine lv_aload_n x.1 x.2.1 dd_lt_write_37 rfl (lv_at hl 0 rfl) ?_
  refine mp_get x hH (la4 hL ht) fg_lt_12 rfl dd_lt_write_38 ?_
  refine lv_aload x.1 x.2.1 dd_lt_write_41 (lv_at hl 6 rfl) ?_
  refine mp_call x (wt_mv base) hG hB hl.1 (mp_invV (av := [.ref (ad 10 d)]) x hH (la5 hL ht) rfl rfl mn_pr_become mc_pr_become (Or.inr ⟨_, ww_494⟩) ww_496 ww_15 rfl dd_lt_write_43) (kk_pr_becomed (nc := nc) hL ht hd ((mu_k (by decide)).trans ((mu_k (by decide)).trans ((mu_k (by decide)).trans ((mu_k (by decide)).trans ((mu_k (by decide)).trans ((mu_k (by decide)).trans ((mu_k (by decide)).trans (hc)))))))) (by omega)) (Nat.le_trans (Nat.le_of_ble_eq_true rfl) hfr) (Nat.le_trans (Nat.le_of_ble_eq_true rfl) hlo) (Nat.le_trans (Nat.le_of_ble_eq_true rfl) hce) (Nat.le_trans (Nat.le_of_ble_eq_true rfl) hsl) hH hS (fun v σa t0 H locs hp63 ht0 hvm hz hH hS => ?_) (fun _ _ _ _ _ hz _ _ _ _ _ => by cases hz.1)
  obtain ⟨ho, hL⟩ := hp63
  cases ho
  refine W.eq (g2 := F0 m 46 ls []) rfl ?_
  exact mp_rv x hr hlk (by decide) (by decide) hH hS (fun _ => ⟨rfl, hL⟩) dd_lt_write_46
def slb (V : fV) (t q nc : Nat) : fV := bcm (mu (mu (mu (mu (mu (mu (mu (mu (mu V 44 t (V 44 q)) 45 t (V 45 q)) 46 t (V 46 q)) 47 t (V 47 q)) 48 t (V 48 q)) 49 t (V 49 q)) 50 t (V 50 q)) 51 t (V 51 q)) 52 t (nI nc)) (1000 + t) (1000 + q) nc
set_option maxRecDepth 100000 in
set_option maxHeartbeats 4000000 in
theorem kk_L_become {l : Launch} {D : va_G} {ar : Nat → ClassId} {base : Nat} {σ : mp_M} {ad : Nat → Nat → Nat} {rg : Nat → Bool} {pl : Nat → Nat} {V : fV} {t q nc : Nat} (hL : Lay ar ad rg pl V σ) (ht : t < 102) (hq : q < 102) (hqt : q ≠ t) (hc : V 52 q = nI nc) (hc2 : nc ≤ 12) : CN l D ar base yy_lt_become prog_4_method_3_code 2 (Option.none : Option Jvm.ClassFile.FieldType) [] 1 14 0 0 [.ref (ad 4 t), .ref (ad 4 q)] σ (fun o σ' _ => o = .returned none ∧ Lay ar ad rg pl (slb V t q nc) σ') := by
  refine mp_in (Nat.le_of_ble_eq_true rfl) ?_
  intro p e R s m below meth c x hfr hlo hce hsl hr hlk hin hex hG hB ls H hH0 hH hS hl
  have hl : lv_has ls 2 [(0, .ref (ad 4 t)), (1, .ref (ad 4 q))] := hl
  refine lv_aload_n x.1 x.2.1 dd_lt_become_0 rfl (lv_at hl 0 rfl) ?_
  refine lv_aload_n x.1 x.2.1 dd_lt_become_1 rfl (lv_at hl 1 rfl) ?_
  refine mp_get x hH (la4 hL hq) fg_lt_22 rfl dd_lt_become_2 ?_
  refine kp_44 x hH hS hL ht fp_lt_22 dd_lt_become_5 (fun σ hL H locs hH hS => ?_)
  refine lv_aload_n x.1 x.2.1 dd_lt_become_8 rfl (lv_at hl 0 rfl) ?_
  refine lv_aload_n x.1 x.2.1 dd_lt_become_9 rfl (lv_at hl 1 rfl) ?_
  refine mp_get x hH (la4 hL hq) fg_lt_25 rfl dd_lt_become_10 ?_
  refine mn_top (w := V 45 q) (mu_k (by decide)) ?_
  refine kp_45 x hH hS hL ht fp_lt_25 dd_lt_become_13 (fun σ hL H locs hH hS => ?_)
  refine lv_aload_n x.1 x.2.1 dd_lt_become_16 rfl (lv_at hl 0 rfl) ?_
  refine lv_aload_n x.1 x.2.1 dd_lt_become_17 rfl (lv_at hl 1 rfl) ?_
  refine mp_get x hH (la4 hL hq) fg_lt_44 rfl dd_lt_become_18 ?_
  refine mn_top (w := V 46 q) ((mu_k (by decide)).trans (mu_k (by decide))) ?_
  refine kp_46 x hH hS hL ht fp_lt_44 dd_lt_become_21 (fun σ hL H locs hH hS => ?_)
  refine lv_aload_n x.1 x.2.1 dd_lt_become_24 rfl (lv_at hl 0 rfl) ?_
  refine lv_aload_n x.1 x.2.1 dd_lt_become_25 rfl (lv_at hl 1 rfl) ?_
  refine mp_get x hH (la4 hL hq) fg_lt_28 rfl dd_lt_become_26 ?_
  refine mn_top (w := V 47 q) ((mu_k (by decide)).trans ((mu_k (by decide)).trans (mu_k (by decide)))) ?_
  refine kp_47 x hH hS hL ht fp_lt_28 dd_lt_become_29 (fun σ hL H locs hH hS => ?_)
  refine lv_aload_n x.1 x.2.1 dd_lt_become_32 rfl (lv_at hl 0 rfl) ?_
  refine lv_aload_n x.1 x.2.1 dd_lt_become_33 rfl (lv_at hl 1 rfl) ?_
  refine mp_get x hH (la4 hL hq) fg_lt_31 rfl dd_lt_become_34 ?_
  refine mn_top (w := V 48 q) ((mu_k (by decide)).trans ((mu_k (by decide)).trans ((mu_k (by decide)).trans (mu_k (by decide))))) ?_
  refine kp_48 x hH hS hL ht fp_lt_31 dd_lt_become_37 (fun σ hL H locs hH hS => ?_)
  refine lv_aload_n x.1 x.2.1 dd_lt_become_40 rfl (lv_at hl 0 rfl) ?_
  refine lv_aload_n x.1 x.2.1 dd_lt_become_41 rfl (lv_at hl 1 rfl) ?_
  refine mp_get x hH (la4 hL hq) fg_lt_34 rfl dd_lt_become_42 ?_
  refine mn_top (w := V 49 q) ((mu_k (by decide)).trans ((mu_k (by decide)).trans ((mu_k (by decide)).trans ((mu_k (by decide)).trans (mu_k (by decide)))))) ?_
  refine kp_49 x hH hS hL ht fp_lt_34 dd_lt_become_45 (fun σ hL H locs hH hS => ?_)
  refine lv_aload_n x.1 x.2.1 dd_lt_become_48 rfl (lv_at hl 0 rfl) ?_
  refine lv_aload_n x.1 x.2.1 dd_lt_become_49 rfl (lv_at hl 1 rfl) ?_
  refine mp_get x hH (la4 hL hq) fg_lt_37 rfl dd_lt_become_50 ?_
  refine mn_top (w := V 50 q) ((mu_k (by decide)).trans ((mu_k (by decide)).trans ((mu_k (by decide)).trans ((mu_k (by decide)).trans ((mu_k (by decide)).trans (mu_k (by decide))))))) ?_
  refine kp_50 x hH hS hL ht fp_lt_37 dd_lt_become_53 (fun σ hL H locs hH hS => ?_)
  refine lv_aload_n x.1 x.2.1 dd_lt_become_56 rfl (lv_at hl 0 rfl) ?_
  refine lv_aload_n x.1 x.2.1 dd_lt_become_57 rfl (lv_at hl 1 rfl) ?_
  refine mp_get x hH (la4 hL hq) fg_lt_18 rfl dd_lt_become_58 ?_
  refine mn_top (w := V 51 q) ((mu_k (by decide)).trans ((mu_k (by decide)).trans ((mu_k (by decide)).trans ((mu_k (by decide)).trans ((mu_k (by decide)).trans ((mu_k (by decide)).trans (mu_k (by decide)))))))) ?_
  refine kp_51 x hH hS hL ht fp_lt_18 dd_lt_become_61 (fun σ hL H locs hH hS => ?_)
  refine lv_aload_n x.1 x.2.1 dd_lt_become_64 rfl (lv_at hl 0 rfl) ?_
  refine mp_get x hH (la4 hL ht) fg_lt_12 rfl dd_lt_become_65 ?_
  refine lv_aload_n x.1 x.2.1 dd_lt_become_68 rfl (lv_at hl 1 rfl) ?_
  refine mp_get x hH (la4 hL hq) fg_lt_12 rfl dd_lt_become_69 ?_
  refine mp_call x (wt_mv base) hG hB hl.1 (mp_invV (av := [.ref (ad 5 q)]) x hH (la5 hL ht) rfl rfl mn_pr_become mc_pr_become (Or.inr ⟨_, ww_494⟩) ww_496 ww_15 rfl dd_lt_become_72) (kk_pr_becomet (nc := nc) hL ht hq hqt ((mu_k (by decide)).trans ((mu_k (by decide)).trans ((mu_k (by decide)).trans ((mu_k (by decide)).trans ((mu_k (by decide)).trans ((mu_k (by decide)).trans ((mu_k (by decide)).trans ((mu_k (by decide)).trans (hc))))))))) (by omega)) (Nat.le_trans (Nat.le_of_ble_eq_true rfl) hfr) (Nat.le_trans (Nat.le_of_ble_eq_true rfl) hlo) (Nat.le_trans (Nat.le_of_ble_eq_true rfl) hce) (Nat.le_trans (Nat.le_of_ble_eq_true rfl) hsl) hH hS (fun v σa t0 H locs hp64 ht0 hvm hz hH hS => ?_) (fun _ _ _ _ _ hz _ _ _ _ _ => by cases hz.1)
  obtain ⟨ho, hL⟩ := hp64
  cases ho
  refine W.eq (g2 := F0 m 75 ls []) rfl ?_
  exact mp_rv x hr hlk (by decide) (by decide) hH hS (fun _ => ⟨rfl, hL⟩) dd_lt_become_75
def lpt (V : fV) (t j : Nat) : Int32 := if j ≤ 6 then V (44 + j) t else if j = 7 then sO (V 51 t) else if j = 8 then dO (V 51 t) else V 52 t
set_option maxRecDepth 100000 in
set_option maxHeartbeats 4000000 in
theorem kk_L_part {l : Launch} {D : va_G} {ar : Nat → ClassId} {base : Nat} {σ : mp_M} {ad : Nat → Nat → Nat} {rg : Nat → Bool} {pl : Nat → Nat} {V : fV} {t j : Nat} (hL : Lay ar ad rg pl V σ) (ht : t < 102) (hj : j < 10) : CN l D ar base yy_lt_part prog_4_method_4_code 2 (Option.some Jvm.ClassFile.FieldType.int) [] 1 12 0 0 [.ref (ad 4 t), .int (nI j)] σ (fun o σ' _ => o = .returned (some (.int (lpt V t j))) ∧ σ' = σ) := by
  refine mp_in (Nat.le_of_ble_eq_true rfl) ?_
  intro p e R s m below meth c x hfr hlo hce hsl hr hlk hin hex hG hB ls H hH0 hH hS hl
  have hl : lv_has ls 2 [(0, .ref (ad 4 t)), (1, .int (nI j))] := hl
  refine lv_iload_n x.1 x.2.1 dd_lt_part_0 rfl (lv_at hl 1 rfl) ?_
  have hsw : j = 0 ∨ j = 1 ∨ j = 2 ∨ j = 3 ∨ j = 4 ∨ j = 5 ∨ j = 6 ∨ j = 7 ∨ j = 8 ∨ j = 9 := by omega
  rcases hsw with rfl | rfl | rfl | rfl | rfl | rfl | rfl | rfl | rfl | rfl
  · refine lv_tableIn (tgt := 52) x.1 x.2.1 dd_lt_part_1 (by decide +kernel) (by decide +kernel) rfl (by decide) ?_
    refine lv_aload_n x.1 x.2.1 dd_lt_part_52 rfl (lv_at hl 0 rfl) ?_
    refine mp_get x hH (la4 hL ht) fg_lt_22 rfl dd_lt_part_53 ?_
    exact mp_ri x hr hlk (by decide) (by decide) hH hS (fun _ => ⟨(congrArg (fun z => Outcome.returned (some (.int z))) (by simp [lpt])), rfl⟩) dd_lt_part_56
  · refine lv_tableIn (tgt := 57) x.1 x.2.1 dd_lt_part_1 (by decide +kernel) (by decide +kernel) rfl (by decide) ?_
    refine lv_aload_n x.1 x.2.1 dd_lt_part_57 rfl (lv_at hl 0 rfl) ?_
    refine mp_get x hH (la4 hL ht) fg_lt_25 rfl dd_lt_part_58 ?_
    exact mp_ri x hr hlk (by decide) (by decide) hH hS (fun _ => ⟨(congrArg (fun z => Outcome.returned (some (.int z))) (by simp [lpt])), rfl⟩) dd_lt_part_61
  · refine lv_tableIn (tgt := 62) x.1 x.2.1 dd_lt_part_1 (by decide +kernel) (by decide +kernel) rfl (by decide) ?_
    refine lv_aload_n x.1 x.2.1 dd_lt_part_62 rfl (lv_at hl 0 rfl) ?_
    refine mp_get x hH (la4 hL ht) fg_lt_44 rfl dd_lt_part_63 ?_
    exact mp_ri x hr hlk (by decide) (by decide) hH hS (fun _ => ⟨(congrArg (fun z => Outcome.returned (some (.int z))) (by simp [lpt])), rfl⟩) dd_lt_part_66
  · refine lv_tableIn (tgt := 67) x.1 x.2.1 dd_lt_part_1 (by decide +kernel) (by decide +kernel) rfl (by decide) ?_
    refine lv_aload_n x.1 x.2.1 dd_lt_part_67 rfl (lv_at hl 0 rfl) ?_
    refine mp_get x hH (la4 hL ht) fg_lt_28 rfl dd_lt_part_68 ?_
    exact mp_ri x hr hlk (by decide) (by decide) hH hS (fun _ => ⟨(congrArg (fun z => Outcome.returned (some (.int z))) (by simp [lpt])), rfl⟩) dd_lt_part_71
  · refine lv_tableIn (tgt := 72) x.1 x.2.1 dd_lt_part_1 (by decide +kernel) (by decide +kernel) rfl (by decide) ?_
    refine lv_aload_n x.1 x.2.1 dd_lt_part_72 rfl (lv_at hl 0 rfl) ?_
    refine mp_get x hH (la4 hL ht) fg_lt_31 rfl dd_lt_part_73 ?_
    exact mp_ri x hr hlk (by decide) (by decide) hH hS (fun _ => ⟨(congrArg (fun z => Outcome.returned (some (.int z))) (by simp [lpt])), rfl⟩) dd_lt_part_76
  · refine lv_tableIn (tgt := 77) x.1 x.2.1 dd_lt_part_1 (by decide +kernel) (by decide +kernel) rfl (by decide) ?_
    refine lv_aload_n x.1 x.2.1 dd_lt_part_77 rfl (lv_at hl 0 rfl) ?_
    refine mp_get x hH (la4 hL ht) fg_lt_34 rfl dd_lt_part_78 ?_
    exact mp_ri x hr hlk (by decide) (by decide) hH hS (fun _ => ⟨(congrArg (fun z => Outcome.returned (some (.int z))) (by simp [lpt])), rfl⟩) dd_lt_part_81
  · refine lv_tableIn (tgt := 82) x.1 x.2.1 dd_lt_part_1 (by decide +kernel) (by decide +kernel) rfl (by decide) ?_
    refine lv_aload_n x.1 x.2.1 dd_lt_part_82 rfl (lv_at hl 0 rfl) ?_
    refine mp_get x hH (la4 hL ht) fg_lt_37 rfl dd_lt_part_83 ?_
    exact mp_ri x hr hlk (by decide) (by decide) hH hS (fun _ => ⟨(congrArg (fun z => Outcome.returned (some (.int z))) (by simp [lpt])), rfl⟩) dd_lt_part_86
  · refine lv_tableIn (tgt := 87) x.1 x.2.1 dd_lt_part_1 (by decide +kernel) (by decide +kernel) rfl (by decide) ?_
    refine lv_aload_n x.1 x.2.1 dd_lt_part_87 rfl (lv_at hl 0 rfl) ?_
    refine mp_get x hH (la4 hL ht) fg_lt_18 rfl dd_lt_part_88 ?_
    refine mp_call x (wt_mv base) hG hB hl.1 (mp_invS (av := [.int (V 51 t)]) x mn_sg_shopOf mc_sg_shopOf (Or.inr ⟨_, ww_660⟩) ww_661 ww_54 rfl dd_lt_part_91) (kk_sg_shopOf ) (Nat.le_trans (Nat.le_of_ble_eq_true rfl) hfr) (Nat.le_trans (Nat.le_of_ble_eq_true rfl) hlo) (Nat.le_trans (Nat.le_of_ble_eq_true rfl) hce) (Nat.le_trans (Nat.le_of_ble_eq_true rfl) hsl) hH hS (fun v σa t0 H locs hp65 ht0 hvm hz hH hS => ?_) (fun _ _ _ _ _ hz _ _ _ _ _ => by cases hz.1)
    obtain ⟨ho, hσ⟩ := hp65
    cases ho
    rw [hσ] at hH
    refine W.eq (g2 := F0 m 94 ls [.int (sO (V 51 t))]) rfl ?_
    exact mp_ri x hr hlk (by decide) (by decide) hH hS (fun _ => ⟨(congrArg (fun z => Outcome.returned (some (.int z))) (by simp [lpt])), rfl⟩) dd_lt_part_94
  · refine lv_tableIn (tgt := 95) x.1 x.2.1 dd_lt_part_1 (by decide +kernel) (by decide +kernel) rfl (by decide) ?_
    refine lv_aload_n x.1 x.2.1 dd_lt_part_95 rfl (lv_at hl 0 rfl) ?_
    refine mp_get x hH (la4 hL ht) fg_lt_18 rfl dd_lt_part_96 ?_
    refine mp_call x (wt_mv base) hG hB hl.1 (mp_invS (av := [.int (V 51 t)]) x mn_sg_dayOf mc_sg_dayOf (Or.inr ⟨_, ww_663⟩) ww_453 ww_54 rfl dd_lt_part_99) (kk_sg_dayOf ) (Nat.le_trans (Nat.le_of_ble_eq_true rfl) hfr) (Nat.le_trans (Nat.le_of_ble_eq_true rfl) hlo) (Nat.le_trans (Nat.le_of_ble_eq_true rfl) hce) (Nat.le_trans (Nat.le_of_ble_eq_true rfl) hsl) hH hS (fun v σa t0 H locs hp66 ht0 hvm hz hH hS => ?_) (fun _ _ _ _ _ hz _ _ _ _ _ => by cases hz.1)
    obtain ⟨ho, hσ⟩ := hp66
    cases ho
    rw [hσ] at hH
    refine W.eq (g2 := F0 m 102 ls [.int (dO (V 51 t))]) rfl ?_
    exact mp_ri x hr hlk (by decide) (by decide) hH hS (fun _ => ⟨(congrArg (fun z => Outcome.returned (some (.int z))) (by simp [lpt])), rfl⟩) dd_lt_part_102
  · refine lv_tableOut (tgt := 103) x.1 x.2.1 dd_lt_part_1 (by decide +kernel) (by decide) ?_
    refine lv_aload_n x.1 x.2.1 dd_lt_part_103 rfl (lv_at hl 0 rfl) ?_
    refine mp_get x hH (la4 hL ht) fg_lt_12 rfl dd_lt_part_104 ?_
    refine mp_get x hH (la5 hL ht) fg_lt_54 rfl dd_lt_part_107 ?_
    exact mp_ri x hr hlk (by decide) (by decide) hH hS (fun _ => ⟨(congrArg (fun z => Outcome.returned (some (.int z))) (by simp [lpt])), rfl⟩) dd_lt_part_110
end
