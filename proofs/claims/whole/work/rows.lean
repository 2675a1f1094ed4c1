section
-- ===== PART A: goes FIRST, ahead of the names: the tables' words, and 'selects' of the private methods out of them =====
/-- a private method of a class that the tables say can be made, by its rows of tables_1 -/
def lw_okq (q : MethodName × Nat) : Prop := (q.1.cls ≠ "java/lang/invoke/MethodHandle" ∧ q.1.cls ≠ "java/lang/invoke/VarHandle") ∧ Cond.instantiable q.1.cls q.2 ∈ tables_1 ∧ Cond.privateMethod q.1 ∈ tables_1 ∧ Cond.instanceMethod q.1 ∈ tables_1
theorem lw_p0 : lw_okq (⟨"SupplyGrid$Asking", "end", "()V"⟩, 8) := ⟨⟨by decide +kernel, by decide +kernel⟩, List.mem_of_getElem? (i := 51) (by decide +kernel), List.mem_of_getElem? (i := 57) (by decide +kernel), List.mem_of_getElem? (i := 58) (by decide +kernel)⟩
theorem lw_p1 : lw_okq (⟨"SupplyGrid$Asking", "forgetAnswers", "()V"⟩, 8) := ⟨⟨by decide +kernel, by decide +kernel⟩, List.mem_of_getElem? (i := 51) (by decide +kernel), List.mem_of_getElem? (i := 61) (by decide +kernel), List.mem_of_getElem? (i := 62) (by decide +kernel)⟩
theorem lw_p2 : lw_okq (⟨"java/lang/Throwable", "fillInStackTrace", "(I)Ljava/lang/Throwable;"⟩, 6) := ⟨⟨by decide +kernel, by decide +kernel⟩, List.mem_of_getElem? (i := 297) (by decide +kernel), List.mem_of_getElem? (i := 295) (by decide +kernel), List.mem_of_getElem? (i := 296) (by decide +kernel)⟩
theorem lw_p3 : lw_okq (⟨"SupplyGrid", "needUp", "(I)V"⟩, 4) := ⟨⟨by decide +kernel, by decide +kernel⟩, List.mem_of_getElem? (i := 17) (by decide +kernel), List.mem_of_getElem? (i := 379) (by decide +kernel), List.mem_of_getElem? (i := 380) (by decide +kernel)⟩
theorem lw_p4 : lw_okq (⟨"SupplyGrid", "isUp", "(I)Z"⟩, 4) := ⟨⟨by decide +kernel, by decide +kernel⟩, List.mem_of_getElem? (i := 17) (by decide +kernel), List.mem_of_getElem? (i := 383) (by decide +kernel), List.mem_of_getElem? (i := 384) (by decide +kernel)⟩
theorem lw_p5 : lw_okq (⟨"SupplyGrid$Prescription", "letsAsk", "(LSupplyGrid$Desk;I)Z"⟩, 3) := ⟨⟨by decide +kernel, by decide +kernel⟩, List.mem_of_getElem? (i := 346) (by decide +kernel), List.mem_of_getElem? (i := 388) (by decide +kernel), List.mem_of_getElem? (i := 389) (by decide +kernel)⟩
theorem lw_p6 : lw_okq (⟨"SupplyGrid$Pairs", "last", "()I"⟩, 2) := ⟨⟨by decide +kernel, by decide +kernel⟩, List.mem_of_getElem? (i := 33) (by decide +kernel), List.mem_of_getElem? (i := 392) (by decide +kernel), List.mem_of_getElem? (i := 393) (by decide +kernel)⟩
theorem lw_p7 : lw_okq (⟨"SupplyGrid$Pairs", "of", "(I)I"⟩, 2) := ⟨⟨by decide +kernel, by decide +kernel⟩, List.mem_of_getElem? (i := 33) (by decide +kernel), List.mem_of_getElem? (i := 396) (by decide +kernel), List.mem_of_getElem? (i := 397) (by decide +kernel)⟩
theorem lw_p8 : lw_okq (⟨"SupplyGrid$Desk", "openSupply", "()I"⟩, 8) := ⟨⟨by decide +kernel, by decide +kernel⟩, List.mem_of_getElem? (i := 27) (by decide +kernel), List.mem_of_getElem? (i := 404) (by decide +kernel), List.mem_of_getElem? (i := 405) (by decide +kernel)⟩
theorem lw_p9 : lw_okq (⟨"SupplyGrid$Asking", "begin", "(II)V"⟩, 8) := ⟨⟨by decide +kernel, by decide +kernel⟩, List.mem_of_getElem? (i := 51) (by decide +kernel), List.mem_of_getElem? (i := 411) (by decide +kernel), List.mem_of_getElem? (i := 412) (by decide +kernel)⟩
theorem lw_p10 : lw_okq (⟨"SupplyGrid", "startRound", "(LSupplyGrid$Desk;)I"⟩, 4) := ⟨⟨by decide +kernel, by decide +kernel⟩, List.mem_of_getElem? (i := 17) (by decide +kernel), List.mem_of_getElem? (i := 415) (by decide +kernel), List.mem_of_getElem? (i := 416) (by decide +kernel)⟩
theorem lw_p11 : lw_okq (⟨"SupplyGrid$Desk", "nextNumber", "()I"⟩, 8) := ⟨⟨by decide +kernel, by decide +kernel⟩, List.mem_of_getElem? (i := 27) (by decide +kernel), List.mem_of_getElem? (i := 419) (by decide +kernel), List.mem_of_getElem? (i := 420) (by decide +kernel)⟩
theorem lw_p12 : lw_okq (⟨"SupplyGrid$Asking", "beginRound", "(I)V"⟩, 8) := ⟨⟨by decide +kernel, by decide +kernel⟩, List.mem_of_getElem? (i := 51) (by decide +kernel), List.mem_of_getElem? (i := 430) (by decide +kernel), List.mem_of_getElem? (i := 431) (by decide +kernel)⟩
theorem lw_p13 : lw_okq (⟨"SupplyGrid", "sendToAll", "(LSupplyGrid$Desk;II)I"⟩, 4) := ⟨⟨by decide +kernel, by decide +kernel⟩, List.mem_of_getElem? (i := 17) (by decide +kernel), List.mem_of_getElem? (i := 434) (by decide +kernel), List.mem_of_getElem? (i := 435) (by decide +kernel)⟩
theorem lw_p14 : lw_okq (⟨"SupplyGrid$Letter", "write", "(IIIIILSupplyGrid$Pairs;)V"⟩, 9) := ⟨⟨by decide +kernel, by decide +kernel⟩, List.mem_of_getElem? (i := 139) (by decide +kernel), List.mem_of_getElem? (i := 438) (by decide +kernel), List.mem_of_getElem? (i := 439) (by decide +kernel)⟩
theorem lw_p15 : lw_okq (⟨"SupplyGrid$Pairs", "become", "(LSupplyGrid$Pairs;)V"⟩, 2) := ⟨⟨by decide +kernel, by decide +kernel⟩, List.mem_of_getElem? (i := 33) (by decide +kernel), List.mem_of_getElem? (i := 442) (by decide +kernel), List.mem_of_getElem? (i := 443) (by decide +kernel)⟩
def lw_privs_1 : List (MethodName × Nat) := [(⟨"SupplyGrid$Asking", "end", "()V"⟩, 8), (⟨"SupplyGrid$Asking", "forgetAnswers", "()V"⟩, 8), (⟨"java/lang/Throwable", "fillInStackTrace", "(I)Ljava/lang/Throwable;"⟩, 6), (⟨"SupplyGrid", "needUp", "(I)V"⟩, 4), (⟨"SupplyGrid", "isUp", "(I)Z"⟩, 4), (⟨"SupplyGrid$Prescription", "letsAsk", "(LSupplyGrid$Desk;I)Z"⟩, 3), (⟨"SupplyGrid$Pairs", "last", "()I"⟩, 2), (⟨"SupplyGrid$Pairs", "of", "(I)I"⟩, 2), (⟨"SupplyGrid$Desk", "openSupply", "()I"⟩, 8), (⟨"SupplyGrid$Asking", "begin", "(II)V"⟩, 8), (⟨"SupplyGrid", "startRound", "(LSupplyGrid$Desk;)I"⟩, 4), (⟨"SupplyGrid$Desk", "nextNumber", "()I"⟩, 8), (⟨"SupplyGrid$Asking", "beginRound", "(I)V"⟩, 8), (⟨"SupplyGrid", "sendToAll", "(LSupplyGrid$Desk;II)I"⟩, 4), (⟨"SupplyGrid$Letter", "write", "(IIIIILSupplyGrid$Pairs;)V"⟩, 9), (⟨"SupplyGrid$Pairs", "become", "(LSupplyGrid$Pairs;)V"⟩, 2)]
theorem lw_r1 : ∀ q ∈ lw_privs_1, lw_okq q := List.forall_mem_cons.mpr ⟨lw_p0, List.forall_mem_cons.mpr ⟨lw_p1, List.forall_mem_cons.mpr ⟨lw_p2, List.forall_mem_cons.mpr ⟨lw_p3, List.forall_mem_cons.mpr ⟨lw_p4, List.forall_mem_cons.mpr ⟨lw_p5, List.forall_mem_cons.mpr ⟨lw_p6, List.forall_mem_cons.mpr ⟨lw_p7, List.forall_mem_cons.mpr ⟨lw_p8, List.forall_mem_cons.mpr ⟨lw_p9, List.forall_mem_cons.mpr ⟨lw_p10, List.forall_mem_cons.mpr ⟨lw_p11, List.forall_mem_cons.mpr ⟨lw_p12, List.forall_mem_cons.mpr ⟨lw_p13, List.forall_mem_cons.mpr ⟨lw_p14, List.forall_mem_cons.mpr ⟨lw_p15, fun _ h => absurd h List.not_mem_nil⟩⟩⟩⟩⟩⟩⟩⟩⟩⟩⟩⟩⟩⟩⟩⟩
theorem lw_p16 : lw_okq (⟨"SupplyGrid$LetterRow", "send", "(I)Z"⟩, 8) := ⟨⟨by decide +kernel, by decide +kernel⟩, List.mem_of_getElem? (i := 132) (by decide +kernel), List.mem_of_getElem? (i := 446) (by decide +kernel), List.mem_of_getElem? (i := 447) (by decide +kernel)⟩
theorem lw_p17 : lw_okq (⟨"SupplyGrid$LetterRow", "place", "(I)I"⟩, 8) := ⟨⟨by decide +kernel, by decide +kernel⟩, List.mem_of_getElem? (i := 132) (by decide +kernel), List.mem_of_getElem? (i := 450) (by decide +kernel), List.mem_of_getElem? (i := 451) (by decide +kernel)⟩
theorem lw_p18 : lw_okq (⟨"SupplyGrid$Letter", "become", "(LSupplyGrid$Letter;)V"⟩, 9) := ⟨⟨by decide +kernel, by decide +kernel⟩, List.mem_of_getElem? (i := 139) (by decide +kernel), List.mem_of_getElem? (i := 454) (by decide +kernel), List.mem_of_getElem? (i := 455) (by decide +kernel)⟩
theorem lw_p19 : lw_okq (⟨"SupplyGrid", "deskOf", "(II)LSupplyGrid$Desk;"⟩, 4) := ⟨⟨by decide +kernel, by decide +kernel⟩, List.mem_of_getElem? (i := 17) (by decide +kernel), List.mem_of_getElem? (i := 465) (by decide +kernel), List.mem_of_getElem? (i := 466) (by decide +kernel)⟩
theorem lw_p20 : lw_okq (⟨"SupplyGrid$Asking", "runs", "()Z"⟩, 8) := ⟨⟨by decide +kernel, by decide +kernel⟩, List.mem_of_getElem? (i := 51) (by decide +kernel), List.mem_of_getElem? (i := 469) (by decide +kernel), List.mem_of_getElem? (i := 470) (by decide +kernel)⟩
theorem lw_p21 : lw_okq (⟨"SupplyGrid", "needLetter", "(I)V"⟩, 4) := ⟨⟨by decide +kernel, by decide +kernel⟩, List.mem_of_getElem? (i := 17) (by decide +kernel), List.mem_of_getElem? (i := 481) (by decide +kernel), List.mem_of_getElem? (i := 482) (by decide +kernel)⟩
theorem lw_p22 : lw_okq (⟨"SupplyGrid$LetterRow", "take", "(I)LSupplyGrid$Letter;"⟩, 8) := ⟨⟨by decide +kernel, by decide +kernel⟩, List.mem_of_getElem? (i := 132) (by decide +kernel), List.mem_of_getElem? (i := 486) (by decide +kernel), List.mem_of_getElem? (i := 487) (by decide +kernel)⟩
theorem lw_p23 : lw_okq (⟨"SupplyGrid$LetterRow", "at", "(I)LSupplyGrid$Letter;"⟩, 8) := ⟨⟨by decide +kernel, by decide +kernel⟩, List.mem_of_getElem? (i := 132) (by decide +kernel), List.mem_of_getElem? (i := 490) (by decide +kernel), List.mem_of_getElem? (i := 491) (by decide +kernel)⟩
theorem lw_p24 : lw_okq (⟨"SupplyGrid", "handOver", "(LSupplyGrid$Letter;)I"⟩, 4) := ⟨⟨by decide +kernel, by decide +kernel⟩, List.mem_of_getElem? (i := 17) (by decide +kernel), List.mem_of_getElem? (i := 494) (by decide +kernel), List.mem_of_getElem? (i := 495) (by decide +kernel)⟩
theorem lw_p25 : lw_okq (⟨"SupplyGrid$Desk", "learnAll", "(LSupplyGrid$Pairs;)V"⟩, 8) := ⟨⟨by decide +kernel, by decide +kernel⟩, List.mem_of_getElem? (i := 27) (by decide +kernel), List.mem_of_getElem? (i := 498) (by decide +kernel), List.mem_of_getElem? (i := 499) (by decide +kernel)⟩
theorem lw_p26 : lw_okq (⟨"SupplyGrid$Pairs", "addMissing", "(LSupplyGrid$Pairs;)V"⟩, 2) := ⟨⟨by decide +kernel, by decide +kernel⟩, List.mem_of_getElem? (i := 33) (by decide +kernel), List.mem_of_getElem? (i := 502) (by decide +kernel), List.mem_of_getElem? (i := 503) (by decide +kernel)⟩
theorem lw_p27 : lw_okq (⟨"SupplyGrid$Pairs", "add", "(I)V"⟩, 2) := ⟨⟨by decide +kernel, by decide +kernel⟩, List.mem_of_getElem? (i := 33) (by decide +kernel), List.mem_of_getElem? (i := 506) (by decide +kernel), List.mem_of_getElem? (i := 507) (by decide +kernel)⟩
theorem lw_p28 : lw_okq (⟨"SupplyGrid$Desk", "openNext", "()V"⟩, 8) := ⟨⟨by decide +kernel, by decide +kernel⟩, List.mem_of_getElem? (i := 27) (by decide +kernel), List.mem_of_getElem? (i := 510) (by decide +kernel), List.mem_of_getElem? (i := 511) (by decide +kernel)⟩
theorem lw_p29 : lw_okq (⟨"SupplyGrid", "answerAsker", "(LSupplyGrid$Desk;LSupplyGrid$Letter;)I"⟩, 4) := ⟨⟨by decide +kernel, by decide +kernel⟩, List.mem_of_getElem? (i := 17) (by decide +kernel), List.mem_of_getElem? (i := 515) (by decide +kernel), List.mem_of_getElem? (i := 516) (by decide +kernel)⟩
theorem lw_p30 : lw_okq (⟨"SupplyGrid", "answer", "(LSupplyGrid$Desk;LSupplyGrid$Letter;III)I"⟩, 4) := ⟨⟨by decide +kernel, by decide +kernel⟩, List.mem_of_getElem? (i := 17) (by decide +kernel), List.mem_of_getElem? (i := 519) (by decide +kernel), List.mem_of_getElem? (i := 520) (by decide +kernel)⟩
theorem lw_p31 : lw_okq (⟨"SupplyGrid", "countPromise", "(LSupplyGrid$Desk;LSupplyGrid$Letter;)I"⟩, 4) := ⟨⟨by decide +kernel, by decide +kernel⟩, List.mem_of_getElem? (i := 17) (by decide +kernel), List.mem_of_getElem? (i := 523) (by decide +kernel), List.mem_of_getElem? (i := 524) (by decide +kernel)⟩
def lw_privs_2 : List (MethodName × Nat) := [(⟨"SupplyGrid$LetterRow", "send", "(I)Z"⟩, 8), (⟨"SupplyGrid$LetterRow", "place", "(I)I"⟩, 8), (⟨"SupplyGrid$Letter", "become", "(LSupplyGrid$Letter;)V"⟩, 9), (⟨"SupplyGrid", "deskOf", "(II)LSupplyGrid$Desk;"⟩, 4), (⟨"SupplyGrid$Asking", "runs", "()Z"⟩, 8), (⟨"SupplyGrid", "needLetter", "(I)V"⟩, 4), (⟨"SupplyGrid$LetterRow", "take", "(I)LSupplyGrid$Letter;"⟩, 8), (⟨"SupplyGrid$LetterRow", "at", "(I)LSupplyGrid$Letter;"⟩, 8), (⟨"SupplyGrid", "handOver", "(LSupplyGrid$Letter;)I"⟩, 4), (⟨"SupplyGrid$Desk", "learnAll", "(LSupplyGrid$Pairs;)V"⟩, 8), (⟨"SupplyGrid$Pairs", "addMissing", "(LSupplyGrid$Pairs;)V"⟩, 2), (⟨"SupplyGrid$Pairs", "add", "(I)V"⟩, 2), (⟨"SupplyGrid$Desk", "openNext", "()V"⟩, 8), (⟨"SupplyGrid", "answerAsker", "(LSupplyGrid$Desk;LSupplyGrid$Letter;)I"⟩, 4), (⟨"SupplyGrid", "answer", "(LSupplyGrid$Desk;LSupplyGrid$Letter;III)I"⟩, 4), (⟨"SupplyGrid", "countPromise", "(LSupplyGrid$Desk;LSupplyGrid$Letter;)I"⟩, 4)]
theorem lw_r2 : ∀ q ∈ lw_privs_2, lw_okq q := List.forall_mem_cons.mpr ⟨lw_p16, List.forall_mem_cons.mpr ⟨lw_p17, List.forall_mem_cons.mpr ⟨lw_p18, List.forall_mem_cons.mpr ⟨lw_p19, List.forall_mem_cons.mpr ⟨lw_p20, List.forall_mem_cons.mpr ⟨lw_p21, List.forall_mem_cons.mpr ⟨lw_p22, List.forall_mem_cons.mpr ⟨lw_p23, List.forall_mem_cons.mpr ⟨lw_p24, List.forall_mem_cons.mpr ⟨lw_p25, List.forall_mem_cons.mpr ⟨lw_p26, List.forall_mem_cons.mpr ⟨lw_p27, List.forall_mem_cons.mpr ⟨lw_p28, List.forall_mem_cons.mpr ⟨lw_p29, List.forall_mem_cons.mpr ⟨lw_p30, List.forall_mem_cons.mpr ⟨lw_p31, fun _ h => absurd h List.not_mem_nil⟩⟩⟩⟩⟩⟩⟩⟩⟩⟩⟩⟩⟩⟩⟩⟩
theorem lw_p32 : lw_okq (⟨"SupplyGrid$Asking", "waitsFor", "(LSupplyGrid$Letter;I)Z"⟩, 8) := ⟨⟨by decide +kernel, by decide +kernel⟩, List.mem_of_getElem? (i := 51) (by decide +kernel), List.mem_of_getElem? (i := 527) (by decide +kernel), List.mem_of_getElem? (i := 528) (by decide +kernel)⟩
theorem lw_p33 : lw_okq (⟨"SupplyGrid$Asking", "countAnswer", "(LSupplyGrid$Letter;)V"⟩, 8) := ⟨⟨by decide +kernel, by decide +kernel⟩, List.mem_of_getElem? (i := 51) (by decide +kernel), List.mem_of_getElem? (i := 531) (by decide +kernel), List.mem_of_getElem? (i := 532) (by decide +kernel)⟩
theorem lw_p34 : lw_okq (⟨"SupplyGrid$Asking", "beginPhaseTwo", "()V"⟩, 8) := ⟨⟨by decide +kernel, by decide +kernel⟩, List.mem_of_getElem? (i := 51) (by decide +kernel), List.mem_of_getElem? (i := 535) (by decide +kernel), List.mem_of_getElem? (i := 536) (by decide +kernel)⟩
theorem lw_p35 : lw_okq (⟨"SupplyGrid$Desk", "learn", "(I)V"⟩, 8) := ⟨⟨by decide +kernel, by decide +kernel⟩, List.mem_of_getElem? (i := 27) (by decide +kernel), List.mem_of_getElem? (i := 542) (by decide +kernel), List.mem_of_getElem? (i := 543) (by decide +kernel)⟩
theorem lw_p36 : lw_okq (⟨"SupplyGrid$Asking", "hearRefusal", "(LSupplyGrid$Letter;)V"⟩, 8) := ⟨⟨by decide +kernel, by decide +kernel⟩, List.mem_of_getElem? (i := 51) (by decide +kernel), List.mem_of_getElem? (i := 547) (by decide +kernel), List.mem_of_getElem? (i := 548) (by decide +kernel)⟩
theorem lw_p37 : lw_okq (⟨"SupplyGrid$LetterRow", "repeat", "(I)Z"⟩, 8) := ⟨⟨by decide +kernel, by decide +kernel⟩, List.mem_of_getElem? (i := 132) (by decide +kernel), List.mem_of_getElem? (i := 567) (by decide +kernel), List.mem_of_getElem? (i := 568) (by decide +kernel)⟩
theorem lw_p38 : lw_okq (⟨"SupplyGrid", "endAskings", "(I)V"⟩, 4) := ⟨⟨by decide +kernel, by decide +kernel⟩, List.mem_of_getElem? (i := 17) (by decide +kernel), List.mem_of_getElem? (i := 585) (by decide +kernel), List.mem_of_getElem? (i := 586) (by decide +kernel)⟩
theorem lw_p39 : lw_okq (⟨"SupplyGrid$Letter", "part", "(I)I"⟩, 9) := ⟨⟨by decide +kernel, by decide +kernel⟩, List.mem_of_getElem? (i := 139) (by decide +kernel), List.mem_of_getElem? (i := 604) (by decide +kernel), List.mem_of_getElem? (i := 605) (by decide +kernel)⟩
theorem lw_p40 : lw_okq (⟨"SupplyGrid$Desk", "part", "(I)I"⟩, 8) := ⟨⟨by decide +kernel, by decide +kernel⟩, List.mem_of_getElem? (i := 27) (by decide +kernel), List.mem_of_getElem? (i := 637) (by decide +kernel), List.mem_of_getElem? (i := 638) (by decide +kernel)⟩
theorem lw_p41 : lw_okq (⟨"SupplyGridModel", "fails", "(ZI)Z"⟩, 28) := ⟨⟨by decide +kernel, by decide +kernel⟩, List.mem_of_getElem? (i := 656) (by decide +kernel), List.mem_of_getElem? (i := 762) (by decide +kernel), List.mem_of_getElem? (i := 763) (by decide +kernel)⟩
theorem lw_p42 : lw_okq (⟨"SupplyGridModel", "endAsking", "(I)V"⟩, 28) := ⟨⟨by decide +kernel, by decide +kernel⟩, List.mem_of_getElem? (i := 656) (by decide +kernel), List.mem_of_getElem? (i := 777) (by decide +kernel), List.mem_of_getElem? (i := 778) (by decide +kernel)⟩
theorem lw_p43 : lw_okq (⟨"SupplyGridModel", "round", "(II)I"⟩, 28) := ⟨⟨by decide +kernel, by decide +kernel⟩, List.mem_of_getElem? (i := 656) (by decide +kernel), List.mem_of_getElem? (i := 781) (by decide +kernel), List.mem_of_getElem? (i := 782) (by decide +kernel)⟩
theorem lw_p44 : lw_okq (⟨"SupplyGridModel", "send", "(IIIIIIIII)V"⟩, 28) := ⟨⟨by decide +kernel, by decide +kernel⟩, List.mem_of_getElem? (i := 656) (by decide +kernel), List.mem_of_getElem? (i := 785) (by decide +kernel), List.mem_of_getElem? (i := 786) (by decide +kernel)⟩
theorem lw_p45 : lw_okq (⟨"SupplyGridModel", "handOver", "(I)I"⟩, 28) := ⟨⟨by decide +kernel, by decide +kernel⟩, List.mem_of_getElem? (i := 656) (by decide +kernel), List.mem_of_getElem? (i := 797) (by decide +kernel), List.mem_of_getElem? (i := 798) (by decide +kernel)⟩
theorem lw_p46 : lw_okq (⟨"SupplyGridModel", "take", "(I)V"⟩, 28) := ⟨⟨by decide +kernel, by decide +kernel⟩, List.mem_of_getElem? (i := 656) (by decide +kernel), List.mem_of_getElem? (i := 801) (by decide +kernel), List.mem_of_getElem? (i := 802) (by decide +kernel)⟩
theorem lw_p47 : lw_okq (⟨"SupplyGridModel", "comes", "()V"⟩, 28) := ⟨⟨by decide +kernel, by decide +kernel⟩, List.mem_of_getElem? (i := 656) (by decide +kernel), List.mem_of_getElem? (i := 805) (by decide +kernel), List.mem_of_getElem? (i := 806) (by decide +kernel)⟩
def lw_privs_3 : List (MethodName × Nat) := [(⟨"SupplyGrid$Asking", "waitsFor", "(LSupplyGrid$Letter;I)Z"⟩, 8), (⟨"SupplyGrid$Asking", "countAnswer", "(LSupplyGrid$Letter;)V"⟩, 8), (⟨"SupplyGrid$Asking", "beginPhaseTwo", "()V"⟩, 8), (⟨"SupplyGrid$Desk", "learn", "(I)V"⟩, 8), (⟨"SupplyGrid$Asking", "hearRefusal", "(LSupplyGrid$Letter;)V"⟩, 8), (⟨"SupplyGrid$LetterRow", "repeat", "(I)Z"⟩, 8), (⟨"SupplyGrid", "endAskings", "(I)V"⟩, 4), (⟨"SupplyGrid$Letter", "part", "(I)I"⟩, 9), (⟨"SupplyGrid$Desk", "part", "(I)I"⟩, 8), (⟨"SupplyGridModel", "fails", "(ZI)Z"⟩, 28), (⟨"SupplyGridModel", "endAsking", "(I)V"⟩, 28), (⟨"SupplyGridModel", "round", "(II)I"⟩, 28), (⟨"SupplyGridModel", "send", "(IIIIIIIII)V"⟩, 28), (⟨"SupplyGridModel", "handOver", "(I)I"⟩, 28), (⟨"SupplyGridModel", "take", "(I)V"⟩, 28), (⟨"SupplyGridModel", "comes", "()V"⟩, 28)]
theorem lw_r3 : ∀ q ∈ lw_privs_3, lw_okq q := List.forall_mem_cons.mpr ⟨lw_p32, List.forall_mem_cons.mpr ⟨lw_p33, List.forall_mem_cons.mpr ⟨lw_p34, List.forall_mem_cons.mpr ⟨lw_p35, List.forall_mem_cons.mpr ⟨lw_p36, List.forall_mem_cons.mpr ⟨lw_p37, List.forall_mem_cons.mpr ⟨lw_p38, List.forall_mem_cons.mpr ⟨lw_p39, List.forall_mem_cons.mpr ⟨lw_p40, List.forall_mem_cons.mpr ⟨lw_p41, List.forall_mem_cons.mpr ⟨lw_p42, List.forall_mem_cons.mpr ⟨lw_p43, List.forall_mem_cons.mpr ⟨lw_p44, List.forall_mem_cons.mpr ⟨lw_p45, List.forall_mem_cons.mpr ⟨lw_p46, List.forall_mem_cons.mpr ⟨lw_p47, fun _ h => absurd h List.not_mem_nil⟩⟩⟩⟩⟩⟩⟩⟩⟩⟩⟩⟩⟩⟩⟩⟩
theorem lw_p48 : lw_okq (⟨"SupplyGridModel", "learn", "(III)V"⟩, 28) := ⟨⟨by decide +kernel, by decide +kernel⟩, List.mem_of_getElem? (i := 656) (by decide +kernel), List.mem_of_getElem? (i := 809) (by decide +kernel), List.mem_of_getElem? (i := 810) (by decide +kernel)⟩
theorem lw_p49 : lw_okq (⟨"SupplyGridModel", "answers", "(IZIIIII)V"⟩, 28) := ⟨⟨by decide +kernel, by decide +kernel⟩, List.mem_of_getElem? (i := 656) (by decide +kernel), List.mem_of_getElem? (i := 813) (by decide +kernel), List.mem_of_getElem? (i := 814) (by decide +kernel)⟩
theorem lw_p50 : lw_okq (⟨"SupplyGridModel", "promisedBy", "(IIIII)V"⟩, 28) := ⟨⟨by decide +kernel, by decide +kernel⟩, List.mem_of_getElem? (i := 656) (by decide +kernel), List.mem_of_getElem? (i := 817) (by decide +kernel), List.mem_of_getElem? (i := 818) (by decide +kernel)⟩
theorem lw_p51 : lw_okq (⟨"SupplyGridModel", "hasEachColumn", "(I)Z"⟩, 28) := ⟨⟨by decide +kernel, by decide +kernel⟩, List.mem_of_getElem? (i := 656) (by decide +kernel), List.mem_of_getElem? (i := 821) (by decide +kernel), List.mem_of_getElem? (i := 822) (by decide +kernel)⟩
theorem lw_p52 : lw_okq (⟨"SupplyGridModel", "hasWholeColumn", "(I)Z"⟩, 28) := ⟨⟨by decide +kernel, by decide +kernel⟩, List.mem_of_getElem? (i := 656) (by decide +kernel), List.mem_of_getElem? (i := 825) (by decide +kernel), List.mem_of_getElem? (i := 826) (by decide +kernel)⟩
def lw_privs_4 : List (MethodName × Nat) := [(⟨"SupplyGridModel", "learn", "(III)V"⟩, 28), (⟨"SupplyGridModel", "answers", "(IZIIIII)V"⟩, 28), (⟨"SupplyGridModel", "promisedBy", "(IIIII)V"⟩, 28), (⟨"SupplyGridModel", "hasEachColumn", "(I)Z"⟩, 28), (⟨"SupplyGridModel", "hasWholeColumn", "(I)Z"⟩, 28)]
theorem lw_r4 : ∀ q ∈ lw_privs_4, lw_okq q := List.forall_mem_cons.mpr ⟨lw_p48, List.forall_mem_cons.mpr ⟨lw_p49, List.forall_mem_cons.mpr ⟨lw_p50, List.forall_mem_cons.mpr ⟨lw_p51, List.forall_mem_cons.mpr ⟨lw_p52, fun _ h => absurd h List.not_mem_nil⟩⟩⟩⟩⟩
def lw_privs : List (MethodName × Nat) := lw_privs_1 ++ (lw_privs_2 ++ (lw_privs_3 ++ (lw_privs_4)))
def lw_tbl : List Cond := k2_sels lw_privs ++ tables_1
theorem lw_privs_ok : ∀ q ∈ lw_privs, lw_okq q := by
  show ∀ q ∈ lw_privs_1 ++ (lw_privs_2 ++ (lw_privs_3 ++ (lw_privs_4))), lw_okq q
  exact List.forall_mem_append.mpr ⟨lw_r1, List.forall_mem_append.mpr ⟨lw_r2, List.forall_mem_append.mpr ⟨lw_r3, lw_r4⟩⟩⟩
end
section
/-! THE STORE: a world is a map from addresses to cells: no two names for one cell, so no distinctness to carry. -/
abbrev mp_M : Type := Nat → Option va_E
def mp_up (σ : mp_M) (a : Nat) (e : va_E) : mp_M := fun q => if q = a then some e else σ q
theorem mp_us (σ : mp_M) (a : Nat) (e : va_E) : mp_up σ a e a = some e := if_pos rfl
theorem mp_un (σ : mp_M) {a q : Nat} (e : va_E) (h : q ≠ a) : mp_up σ a e q = σ q := if_neg h
theorem mp_uu (σ : mp_M) (a : Nat) (e e' : va_E) : mp_up (mp_up σ a e) a e' = mp_up σ a e' := by
  funext q
  by_cases h : q = a
  · subst h; rw [mp_us, mp_us]
  · rw [mp_un _ _ h, mp_un _ _ h, mp_un _ _ h]
theorem mp_uc (σ : mp_M) {a b : Nat} (e e' : va_E) (h : a ≠ b) : mp_up (mp_up σ a e) b e' = mp_up (mp_up σ b e') a e := by
  funext q
  by_cases h1 : q = a
  · subst h1; rw [mp_un _ _ h, mp_us, mp_us]
  · by_cases h2 : q = b
    · subst h2; rw [mp_us, mp_un _ _ h1, mp_us]
    · rw [mp_un _ _ h2, mp_un _ _ h1, mp_un _ _ h1, mp_un _ _ h2]
theorem mp_id (σ : mp_M) {a : Nat} {e : va_E} (h : σ a = some e) : mp_up σ a e = σ := by
  funext q
  by_cases h1 : q = a
  · subst h1; rw [mp_us, h]
  · rw [mp_un _ _ h1]
/-- two cells of different contents lie apart -/
theorem mp_ne {σ : mp_M} {a b : Nat} {x y : va_E} (ha : σ a = some x) (hb : σ b = some y) (h : x ≠ y) : a ≠ b := by
  intro e
  subst e
  rw [ha] at hb
  exact h (Option.some.inj hb)
theorem mp_neC {σ : mp_M} {a b i j : Nat} {x y : List Value} (ha : σ a = some (.inr (i, x))) (hb : σ b = some (.inr (j, y))) (h : i ≠ j) : a ≠ b :=
  mp_ne ha hb (fun e => h (congrArg Prod.fst (Sum.inr.inj e)))
theorem mp_neA {σ : mp_M} {a b j : Nat} {x : ClassId × vp_A} {y : List Value} (ha : σ a = some (.inl x)) (hb : σ b = some (.inr (j, y))) : a ≠ b :=
  mp_ne ha hb (fun e => by cases e)
theorem mp_neO {σ : mp_M} {a b j : Nat} {x : ClassId × vp_A} {y : List Value} (hb : σ b = some (.inr (j, y))) (ha : σ a = some (.inl x)) : b ≠ a := Ne.symm (mp_neA ha hb)
/-- the heap holds the store; all of it lies from 'base' on -/
def mp_H (D : va_G) (cl : List vw_C) (base : Nat) (σ : mp_M) (H : Heap) : Prop := ∀ (a : Nat) (e : va_E), σ a = some e → base ≤ a ∧ va_at D cl (a, e) H
theorem mp_H.one {D : va_G} {cl : List vw_C} {base : Nat} {σ : mp_M} {H : Heap} (h : mp_H D cl base σ H) {a : Nat} {e : va_E} (hs : σ a = some e) : va_P D cl [(a, e)] H := by
  intro k q hk
  cases k with
  | zero =>
    have hq : q = (a, e) := by simpa using hk.symm
    subst hq
    exact (h a e hs).2
  | succ k => simp at hk
theorem mp_H.lt {D : va_G} {cl : List vw_C} {base : Nat} {σ : mp_M} {H : Heap} (h : mp_H D cl base σ H) {a : Nat} {e : va_E} (hs : σ a = some e) : a < H.size := (h a e hs).2.lt
theorem mp_H.ge {D : va_G} {cl : List vw_C} {base : Nat} {σ : mp_M} {H : Heap} (h : mp_H D cl base σ H) {a : Nat} {e : va_E} (hs : σ a = some e) : base ≤ a := (h a e hs).1
theorem mp_H.none {D : va_G} {cl : List vw_C} {base : Nat} {σ : mp_M} {H : Heap} (h : mp_H D cl base σ H) {a : Nat} (ha : H.size ≤ a) : σ a = none := by
  cases hs : σ a with
  | none => rfl
  | some e => exact absurd (h.lt hs) (by omega)
theorem mp_H.set {D : va_G} {cl : List vw_C} {base : Nat} {σ : mp_M} {H H1 : Heap} (h : mp_H D cl base σ H) {a : Nat} {e0 e : va_E} (hs : σ a = some e0) (he : va_at D cl (a, e) H1) (oq : ∀ q : Nat, q ≠ a → H1[q]? = H[q]?) : mp_H D cl base (mp_up σ a e) H1 := by
  intro q x hq
  by_cases hqa : q = a
  · subst hqa
    rw [mp_us] at hq
    cases hq
    exact ⟨(h q e0 hs).1, he⟩
  · rw [mp_un _ _ hqa] at hq
    exact ⟨(h q x hq).1, (h q x hq).2.kept (oq q hqa)⟩
theorem mp_H.push {D : va_G} {cl : List vw_C} {base : Nat} {σ : mp_M} {H H1 : Heap} (h : mp_H D cl base σ H) {e : va_E} (hb : base ≤ H.size) (he : va_at D cl (H.size, e) H1) (o1 : ∀ q : Nat, q < H.size → H1[q]? = H[q]?) : mp_H D cl base (mp_up σ H.size e) H1 := by
  intro q x hq
  by_cases hqa : q = H.size
  · subst hqa
    rw [mp_us] at hq
    cases hq
    exact ⟨hb, he⟩
  · rw [mp_un _ _ hqa] at hq
    exact ⟨(h q x hq).1, (h q x hq).2.kept (o1 q (h.lt hq))⟩
theorem mp_H.grow {D : va_G} {cl : List vw_C} {base : Nat} {σ : mp_M} {H H1 : Heap} (h : mp_H D cl base σ H) (o1 : ∀ q : Nat, q < H.size → H1[q]? = H[q]?) : mp_H D cl base σ H1 :=
  fun q x hq => ⟨(h q x hq).1, (h q x hq).2.kept (o1 q (h.lt hq))⟩
/-- what may change: what lies from base on -/
abbrev mp_A (base : Nat) : Nat → Prop := fun q => base ≤ q
theorem mp_A0 {base : Nat} {H0 : Heap} (h : base ≤ H0.size) : ∀ q, H0.size ≤ q → mp_A base q := fun _ hq => Nat.le_trans h hq
end
section
/-! ROWS over a store: reads and writes of fields and arrays, new cells. -/
/-- what a walk rests on: the machine, the method's bytes, its class, the tables' words, the classes as the tables have them -/
def mp_X (WT : List Cond) (D : va_G) (cl : List vw_C) (tys : List (ClassId × FieldType)) (p : Program) (s : State) (m : MethodId) (args : Array Value) (c : Code) (cc : ByteArray) (nL : Nat) (own : String) : Prop :=
  p.tables.exec = Jvm.exec ∧ c.code = cc ∧ c.maxLocals = nL ∧ s.vm.findClass own = some m.cls ∧ (∀ w ∈ WT, w.before args s = true) ∧ va_K D cl tys s
/-- a field as an instruction of class 'own' names it: field k of class ci -/
def mp_FL (cl : List vw_C) (WT : List Cond) (own : String) (index ci k : Nat) : Prop :=
  ∃ (C : String) (T : u_T) (N : Nat), cl[ci]? = some (C, T, N) ∧ k < N ∧ (∀ w ∈ u_ws C T N, w ∈ WT) ∧ (Cond.fieldLink own index (T k).1 (T k).2.1 (T k).2.2.1 ∈ WT ∨ ∃ host, Cond.fieldLinkNest own index (T k).1 (T k).2.1 (T k).2.2.1 host ∈ WT)
/-- the same, to be written: its type, the other fields have other names -/
def mp_FP (cl : List vw_C) (WT : List Cond) (own : String) (index ci k : Nat) (ty : FieldType) (fin : Bool) : Prop :=
  ∃ (C : String) (T : u_T) (N : Nat) (ty0 : Nat → FieldType), cl[ci]? = some (C, T, N) ∧ k < N ∧ (∀ w ∈ u_ws C T N, w ∈ WT) ∧ (Cond.fieldLink own index (T k).1 (T k).2.1 (T k).2.2.1 ∈ WT ∨ ∃ host, Cond.fieldLinkNest own index (T k).1 (T k).2.1 (T k).2.2.1 host ∈ WT) ∧
    (∀ j, j < N → parseFieldDescriptor (T j).2.2.1 = some (ty0 j)) ∧ (∀ a, a < N → ∀ b, b < N → a ≠ b → (T a).2.1 ≠ (T b).2.1) ∧ ty0 k = ty ∧ (T k).2.2.2 = fin
section MPR
variable {p : Program} {l : Launch} {e : Env} {R : Room} {s : State} {m : MethodId} {args : Array Value} {below : List Frame} {meth : Method} {c : Code} {H : Heap} {locs : List Loc} {cells slots : Nat} {Q : State → Prop}
variable {cc : ByteArray} {nL pc : Nat} {ls : Array Slot} {rest : List Value} {WT : List Cond} {D : va_G} {cl : List vw_C} {base : Nat} {σ : mp_M} {a : Nat} {tys : List (ClassId × FieldType)} {H0 : Heap} {own : String}
theorem mp_get (x : mp_X WT D cl tys p s m args c cc nL own) (hH : mp_H D cl base σ H) {index ci k : Nat} {fs : List Value} (hs : σ a = some (.inr (ci, fs))) (fl : mp_FL cl WT own index ci k) {v : Value} (hv : fs[k]? = some v) (hdg : decode cc pc = .ok (.getfield index, 3))
    (kk : W p l e R s m args below meth c H locs cells slots Q (F0 m (pc + 3) ls (v :: rest))) : W p l e R s m args below meth c H locs cells slots Q (F0 m pc ls (.ref a :: rest)) := by
  obtain ⟨hx, hb, -, hown, hts, hK⟩ := x
  obtain ⟨C, T, N, hc, hk, hin, hl⟩ := fl
  rcases hl with hl | ⟨host, hl⟩
  · exact va_get hx hb hts hin hown hK (hH.one hs) 0 rfl hc k hk (hts _ hl) (fun _ h => h) hv hdg kk
  · exact va_getN hx hb hts hin hown hK (hH.one hs) 0 rfl hc k hk (hts _ hl) (fun _ h => h) hv hdg kk
theorem mp_put (x : mp_X WT D cl tys p s m args c cc nL own) (hH : mp_H D cl base σ H) (hS0 : va_S (mp_A base) H0 H locs) {index ci k : Nat} {fs : List Value} (hs : σ a = some (.inr (ci, fs))) {ty : FieldType} (fl : mp_FP cl WT own index ci k ty false) {v : Value} (hn : narrow ty v = v) (hfit : fits ty v = true) (hlen : k < fs.length) (hdg : decode cc pc = .ok (.putfield index, 3))
    (kk : ∀ (H1 : Heap) (locs1 : List Loc), mp_H D cl base (mp_up σ a (.inr (ci, fs.set k v))) H1 → va_S (mp_A base) H0 H1 locs1 → W p l e R s m args below meth c H1 locs1 cells slots Q (F0 m (pc + 3) ls rest)) : W p l e R s m args below meth c H locs cells slots Q (F0 m pc ls (v :: .ref a :: rest)) := by
  obtain ⟨hx, hb, -, hown, hts, hK⟩ := x
  obtain ⟨C, T, N, ty0, hc, hk, hin, hl, hty, hnm, hd, hfin⟩ := fl
  have hap := va_apart (own := own) hts hin ty0 hty hnm hK hc
  obtain ⟨r, h1, cell, q1, q2, q3, q4⟩ := (hH a _ hs).2
  have hr : r = (C, T, N) := Option.some.inj (h1.symm.trans hc)
  subst hr
  obtain ⟨hS, hfc, kC, hkC, hkind⟩ := hK.1 ci _ hc
  obtain ⟨cf, kf, fi, f, hi, hsl⟩ := hS k hk
  have hlay := hts _ (hin _ (u_in_lay hk))
  unfold u_lay at hlay
  rw [if_neg (by rw [hfin]; decide)] at hlay
  have hst := (u_facts hfc hkC (u_lays hts hin hk) hi).1
  have h6 := u_store hfc hkC hkind hlay hi (hty k hk) (by rw [hd]; exact hn) (by rw [hd]; exact hfit)
  have fin : ∀ H' : Heap, H'[a]? = some (cell.setSlot f.slot v) → H'.size = H.size → (∀ q, q ≠ a → H'[q]? = H[q]?) → W p l e R s m args below meth c H' (locs ++ [⟨a, f.slot⟩]) cells slots Q (F0 m (pc + 3) ls rest) := by
    intro H' e1 e2 e3
    rw [hsl] at e1 ⊢
    exact kk H' _ (hH.set hs ⟨_, hc, t_OB.to (V := updV (vp_V fs) k v) ⟨_, e1, q2, q3, t_set q4 hap hk v⟩ (fun j _ => vp_updV_set hlen v j)⟩ e3) (hS0.put e2 e3 (hH.ge hs))
  rcases hl with hl | ⟨host, hl⟩
  · exact W.putK hx hb (f := f) ⟨hown, hts _ hl, ⟨_, _, _, hi⟩, hst⟩ (by rw [q2]; exact h6) q1 q3 (by rw [hsl]; exact k2_hasslot (q4 k hk)) rfl rfl hdg fin
  · exact va_WputK hx hb (f := f) hown (hts _ hl) hi hst (by rw [q2]; exact h6) q1 q3 (by rw [hsl]; exact k2_hasslot (q4 k hk)) rfl rfl hdg fin
/-- a final field, in a constructor of its class -/
theorem mp_putF (x : mp_X WT D cl tys p s m args c cc nL own) (hin2 : meth.name = "<init>") (hH : mp_H D cl base σ H) (hS0 : va_S (mp_A base) H0 H locs) {index ci k : Nat} {fs : List Value} (hs : σ a = some (.inr (ci, fs))) {C : String} {T : u_T} {N : Nat} {ty0 : Nat → FieldType} (hc : cl[ci]? = some (C, T, N)) (hk : k < N) (hin : ∀ w ∈ u_ws C T N, w ∈ WT) (hl : Cond.fieldLink own index (T k).1 (T k).2.1 (T k).2.2.1 ∈ WT) (hty : ∀ j, j < N → parseFieldDescriptor (T j).2.2.1 = some (ty0 j)) (hnm : ∀ a, a < N → ∀ b, b < N → a ≠ b → (T a).2.1 ≠ (T b).2.1) (hfin : (T k).2.2.2 = true) (hdecl : (T k).1 = own)
    {v : Value} (hn : narrow (ty0 k) v = v) (hfit : fits (ty0 k) v = true) (hlen : k < fs.length) (hdg : decode cc pc = .ok (.putfield index, 3))
    (kk : ∀ (H1 : Heap) (locs1 : List Loc), mp_H D cl base (mp_up σ a (.inr (ci, fs.set k v))) H1 → va_S (mp_A base) H0 H1 locs1 → W p l e R s m args below meth c H1 locs1 cells slots Q (F0 m (pc + 3) ls rest)) : W p l e R s m args below meth c H locs cells slots Q (F0 m pc ls (v :: .ref a :: rest)) := by
  obtain ⟨hx, hb, -, hown, hts, hK⟩ := x
  have hap := va_apart (own := own) hts hin ty0 hty hnm hK hc
  obtain ⟨r, h1, cell, q1, q2, q3, q4⟩ := (hH a _ hs).2
  have hr : r = (C, T, N) := Option.some.inj (h1.symm.trans hc)
  subst hr
  obtain ⟨hS, hfc, kC, hkC, hkind⟩ := hK.1 ci _ hc
  obtain ⟨cf, kf, fi, f, hi, hsl⟩ := hS k hk
  have hlay := hts _ (hin _ (u_in_lay hk))
  unfold u_lay at hlay
  rw [if_pos hfin] at hlay
  have hst := (u_facts hfc hkC (u_lays hts hin hk) hi).1
  have hcf : m.cls = cf := by
    obtain ⟨_, _, c', _, _, _, -, -, hf', -, -, -, hown2, -⟩ := Cond.laysFinal_spec hlay
    have e1 : c' = cf := by have := hi.symm.trans hf'; simp at this; exact this.1.symm
    rw [hdecl] at hown2
    rw [← e1]; exact Option.some.inj (hown.symm.trans hown2)
  have h6 := u_fits hfc hkC hkind (Or.inr hlay) hi (hty k hk) hn hfit
  refine W.putFinK hx hb hown (hts _ hl) hi hst hcf hin2 (by rw [q2]; exact h6) q1 q3 (by rw [hsl]; exact k2_hasslot (q4 k hk)) rfl rfl hdg fun H' e1 e2 e3 => ?_
  rw [hsl] at e1 ⊢
  exact kk H' _ (hH.set hs ⟨_, hc, t_OB.to (V := updV (vp_V fs) k v) ⟨_, e1, q2, q3, t_set q4 hap hk v⟩ (fun j _ => vp_updV_set hlen v j)⟩ e3) (hS0.put e2 e3 (hH.ge hs))
theorem mp_iald (x : mp_X WT D cl tys p s m args c cc nL own) (hH : mp_H D cl base σ H) (t0 : Nat) {cA : ClassId} {n : Nat} {f : Nat → Int32} (hs : σ a = some (.inl (cA, n, .inl f))) (ht : tys[t0]? = some (cA, .int)) {i : Int32} (hin : vp_in i n) (hdg : decode cc pc = .ok (.iaload, 1))
    (kk : W p l e R s m args below meth c H locs cells slots Q (F0 m (pc + 1) ls (.int (f i.toNatClampNeg) :: rest))) : W p l e R s m args below meth c H locs cells slots Q (F0 m pc ls (.int i :: .ref a :: rest)) :=
  va_iald x.1 x.2.1 x.2.2.2.2.2 (hH.one hs) 0 t0 rfl ht hin hdg kk
theorem mp_iast (x : mp_X WT D cl tys p s m args c cc nL own) (hH : mp_H D cl base σ H) (hS0 : va_S (mp_A base) H0 H locs) (t0 : Nat) {cA : ClassId} {n : Nat} {f : Nat → Int32} (hs : σ a = some (.inl (cA, n, .inl f))) (ht : tys[t0]? = some (cA, .int)) {i v : Int32} (hin : vp_in i n) (hdg : decode cc pc = .ok (.iastore, 1))
    (kk : ∀ (H1 : Heap) (locs1 : List Loc), mp_H D cl base (mp_up σ a (.inl (cA, n, .inl (upd f i.toNatClampNeg v)))) H1 → va_S (mp_A base) H0 H1 locs1 → W p l e R s m args below meth c H1 locs1 cells slots Q (F0 m (pc + 1) ls rest)) : W p l e R s m args below meth c H locs cells slots Q (F0 m pc ls (.int v :: .int i :: .ref a :: rest)) := by
  refine W.iast x.1 x.2.1 (hH a _ hs).2 ((x.2.2.2.2.2.2 t0 _ ht).1 n (fun j => .int (f j))) (fun q => by cases q) (by show ¬ (i < 0 ∨ (arrV _ _ _).slots.size ≤ _); rw [arrV_size]; exact hin) rfl rfl hdg fun H1 e z oq => ?_
  refine kk H1 _ (hH.set hs ?_ oq) (hS0.put z oq (hH.ge hs))
  show H1[a]? = some (vp_cell _ _)
  rw [e, vp_cell_i, vp_cell_i, arrV_store]
  congr 2
  funext q
  by_cases hq : q = i.toNatClampNeg
  · subst hq
    simp [updV, upd]
  · simp [updV, upd, hq]
theorem mp_lald (x : mp_X WT D cl tys p s m args c cc nL own) (hH : mp_H D cl base σ H) (t0 : Nat) {cA : ClassId} {n : Nat} {f : Nat → Int64} (hs : σ a = some (.inl (cA, n, .inr (.inl f)))) (ht : tys[t0]? = some (cA, .long)) {i : Int32} (hin : vp_in i n) (hdg : decode cc pc = .ok (.laload, 1))
    (kk : W p l e R s m args below meth c H locs cells slots Q (F0 m (pc + 1) ls (.long (f i.toNatClampNeg) :: rest))) : W p l e R s m args below meth c H locs cells slots Q (F0 m pc ls (.int i :: .ref a :: rest)) :=
  va_lald x.1 x.2.1 x.2.2.2.2.2 (hH.one hs) 0 t0 rfl ht hin hdg kk
theorem mp_last (x : mp_X WT D cl tys p s m args c cc nL own) (hH : mp_H D cl base σ H) (hS0 : va_S (mp_A base) H0 H locs) (t0 : Nat) {cA : ClassId} {n : Nat} {f : Nat → Int64} (hs : σ a = some (.inl (cA, n, .inr (.inl f)))) (ht : tys[t0]? = some (cA, .long)) {i : Int32} {v : Int64} (hin : vp_in i n) (hdg : decode cc pc = .ok (.lastore, 1))
    (kk : ∀ (H1 : Heap) (locs1 : List Loc), mp_H D cl base (mp_up σ a (.inl (cA, n, .inr (.inl (vp_updL f i.toNatClampNeg v))))) H1 → va_S (mp_A base) H0 H1 locs1 → W p l e R s m args below meth c H1 locs1 cells slots Q (F0 m (pc + 1) ls rest)) : W p l e R s m args below meth c H locs cells slots Q (F0 m pc ls (.long v :: .int i :: .ref a :: rest)) := by
  refine W.last x.1 x.2.1 (hH a _ hs).2 ((x.2.2.2.2.2.2 t0 _ ht).1 n (fun j => .long (f j))) (fun q => by cases q) (by show ¬ (i < 0 ∨ (arrV _ _ _).slots.size ≤ _); rw [arrV_size]; exact hin) rfl rfl hdg fun H1 e z oq => ?_
  refine kk H1 _ (hH.set hs ?_ oq) (hS0.put z oq (hH.ge hs))
  show H1[a]? = some (vp_cell _ _)
  rw [e, vp_cell_l, vp_cell_l, arrV_store]
  congr 2
  funext q
  by_cases hq : q = i.toNatClampNeg
  · subst hq
    simp [updV, vp_updL]
  · simp [updV, vp_updL, hq]
theorem mp_aald (x : mp_X WT D cl tys p s m args c cc nL own) (hH : mp_H D cl base σ H) (t0 : Nat) {cA : ClassId} {C : String} {n : Nat} {f : Nat → Option Nat} (hs : σ a = some (.inl (cA, n, .inr (.inr (.inr (.inr f)))))) (ht : tys[t0]? = some (cA, .object C)) {i : Int32} (hin : vp_in i n) (hdg : decode cc pc = .ok (.aaload, 1))
    (kk : W p l e R s m args below meth c H locs cells slots Q (F0 m (pc + 1) ls (va_rf (f i.toNatClampNeg) :: rest))) : W p l e R s m args below meth c H locs cells slots Q (F0 m pc ls (.int i :: .ref a :: rest)) :=
  va_aldq x.1 x.2.1 x.2.2.2.2.2 (hH.one hs) 0 t0 rfl ht hin hdg kk
theorem mp_aast (x : mp_X WT D cl tys p s m args c cc nL own) (hH : mp_H D cl base σ H) (hS0 : va_S (mp_A base) H0 H locs) (t0 : Nat) {cA : ClassId} {r : vw_C} {n v ci : Nat} {vs : List Value} {f : Nat → Option Nat} (hs : σ a = some (.inl (cA, n, .inr (.inr (.inr (.inr f)))))) (ht : tys[t0]? = some (cA, .object r.1)) (hv : σ v = some (.inr (ci, vs))) (hc : cl[ci]? = some r) {i : Int32} (hin : vp_in i n) (hdg : decode cc pc = .ok (.aastore, 1))
    (kk : ∀ (H1 : Heap) (locs1 : List Loc), mp_H D cl base (mp_up σ a (.inl (cA, n, .inr (.inr (.inr (.inr (va_up f i.toNatClampNeg (some v)))))))) H1 → va_S (mp_A base) H0 H1 locs1 → W p l e R s m args below meth c H1 locs1 cells slots Q (F0 m (pc + 1) ls rest)) : W p l e R s m args below meth c H locs cells slots Q (F0 m pc ls (.ref v :: .int i :: .ref a :: rest)) := by
  have hlt : i.toNatClampNeg < n := Nat.not_le.mp fun q => hin (Or.inr q)
  have h0 : ¬ i < 0 := fun q => hin (Or.inl q)
  obtain ⟨r', hr', cellV, g1, g2, g3, -⟩ := (hH v _ hv).2
  have hcls := (x.2.2.2.2.2.1 ci r hc).2
  obtain ⟨kA, comp, k1, k2, k3, -⟩ := (x.2.2.2.2.2.2 t0 _ ht).2
  have hcomp : comp = D.1 ci := Option.some.inj (k3.symm.trans hcls.1)
  subst hcomp
  obtain ⟨kC, hkC, -⟩ := id hcls.2
  refine W.aast x.1 x.2.1 (hH a _ hs).2 (fun q h => by cases h) (fun h => by cases h) k1 k2 rfl hkC ⟨h0, by show _ < (arrV _ _ _).slots.size; rw [arrV_size]; exact hlt⟩ g1 (fun q h => by rw [g3] at h; cases h) (by rw [g2]; exact hkC) (by rw [g2]; exact va_assign hcls) rfl rfl hdg fun H1 e z oq => ?_
  refine kk H1 _ (hH.set hs ?_ oq) (hS0.put z oq (hH.ge hs))
  show H1[a]? = some (vp_cell _ _)
  rw [e, vp_cell_q, vp_cell_q, arrV_store]
  congr 2
  funext q
  by_cases hq : q = i.toNatClampNeg
  · subst hq
    simp [updV, va_up, va_rf]
  · simp [updV, va_up, hq]
/-- a new object: the next cell -/
theorem mp_new (x : mp_X WT D cl tys p s m args c cc nL own) (hH : mp_H D cl base σ H) (hS : va_S (mp_A base) H0 H locs) (hB : base ≤ H0.size) {C : String} {T : u_T} {N ci index : Nat} (ty : Nat → FieldType) (hty : ∀ k, k < N → parseFieldDescriptor (T k).2.2.1 = some (ty k)) (hin : ∀ w ∈ u_ws C T N, w ∈ WT) (hcl : Cond.classLink own index C ∈ WT) (hinst : Cond.instantiable C N ∈ WT) (hini : Cond.initialized C ∈ WT)
    (hc : cl[ci]? = some (C, T, N)) {fs : List Value} (hfs : ∀ j, j < N → defaultValue (ty j) = vp_V fs j) (hcells : cells + 1 ≤ R.cells) (hslots : slots + N ≤ R.slots) (hdg : decode cc pc = .ok (.new index, 3))
    (kk : ∀ (q : Nat) (H1 : Heap), q = H.size → σ q = none → H1.size = H.size + 1 → mp_H D cl base (mp_up σ q (.inr (ci, fs))) H1 → va_S (mp_A base) H0 H1 locs →
      W p l e R s m args below meth c H1 locs (cells + 1) (slots + N) Q (F0 m (pc + 3) ls (.ref q :: rest))) : W p l e R s m args below meth c H locs cells slots Q (F0 m pc ls rest) := by
  obtain ⟨hx, hb, -, hown, hts, hK⟩ := x
  have hKn := hK.1 ci _ hc
  refine W.newcK hx hb hown (hts _ hcl) (hts _ hinst) (hts _ hini) rfl hdg hcells hslots hKn.2.1 rfl fun H1 kC hkC e1 z1 o1 => ?_
  exact kk H.size H1 rfl (hH.none (Nat.le_refl _)) z1 (hH.push (Nat.le_trans hB hS.1) ⟨_, hc, (u_born ty hts hin hKn hkC e1 hty).to hfs⟩ o1) ⟨Nat.le_trans hS.1 (by omega), fun x h1 h2 => (o1 x (Nat.lt_of_lt_of_le h1 hS.1)).trans (hS.2.1 x h1 h2), hS.2.2⟩
/-- a new array of numbers, of a class that is known -/
theorem mp_newa (x : mp_X WT D cl tys p s m args c cc nL own) (hH : mp_H D cl base σ H) (hS : va_S (mp_A base) H0 H locs) (hB : base ≤ H0.size) {atype : ArrayType} (harr : Cond.arrayClass (newarray.typeOf atype) ∈ WT) {ty : FieldType} (hty : newarray.typeOf atype = ty) (t0 : Nat) {cA : ClassId} (ht : tys[t0]? = some (cA, ty)) (hty2 : ∀ C, ty ≠ .object C)
    {n : Int32} {N' : Nat} {a0 : vp_A} (ha : ∀ cA : ClassId, vp_cell cA a0 = arrV cA N' (fun _ => defaultValue ty)) (hn : ¬ n < 0) (hN : n.toNatClampNeg = N') (hbytes : N' * componentBytes ty ≤ 536870912) (hcells : cells + 1 ≤ R.cells) (hslots : slots + N' ≤ R.slots) (hdg : decode cc pc = .ok (.newarray atype, 2))
    (kk : ∀ (q : Nat) (H1 : Heap), q = H.size → σ q = none → H1.size = H.size + 1 → mp_H D cl base (mp_up σ q (.inl (cA, a0))) H1 → va_S (mp_A base) H0 H1 locs →
      W p l e R s m args below meth c H1 locs (cells + 1) (slots + N') Q (F0 m (pc + 2) ls (.ref q :: rest))) : W p l e R s m args below meth c H locs cells slots Q (F0 m pc ls (.int n :: rest)) := by
  subst hty
  refine va_newaK x.1 x.2.1 (x.2.2.2.2.1 _ harr) rfl hdg rfl hn hN hbytes hcells hslots rfl fun H1 cA' e1 z1 o1 hAr hNm => ?_
  have hcA : cA' = cA := by
    have h := (x.2.2.2.2.2.2 t0 _ ht).2
    cases atype <;> exact Option.some.inj (hNm.symm.trans h)
  subst hcA
  refine kk H.size H1 rfl (hH.none (Nat.le_refl _)) z1 (hH.push (Nat.le_trans hB hS.1) ?_ o1) ⟨Nat.le_trans hS.1 (by omega), fun x h1 h2 => (o1 x (Nat.lt_of_lt_of_le h1 hS.1)).trans (hS.2.1 x h1 h2), hS.2.2⟩
  show H1[H.size]? = some (vp_cell _ _)
  rw [ha]
  exact e1
/-- a new array of references, of a class that is known -/
theorem mp_newq (x : mp_X WT D cl tys p s m args c cc nL own) (hH : mp_H D cl base σ H) (hS : va_S (mp_A base) H0 H locs) (hB : base ≤ H0.size) {C : String} {index : Nat} (hcl : Cond.classLink own index C ∈ WT) (hover : Cond.arrayOver (.object C) ∈ WT) (t0 : Nat) {cA : ClassId} (ht : tys[t0]? = some (cA, .object C))
    {n : Int32} {N' : Nat} (hn : ¬ n < 0) (hN : n.toNatClampNeg = N') (hbytes : N' * 4 ≤ 536870912) (hcells : cells + 1 ≤ R.cells) (hslots : slots + N' ≤ R.slots) (hdg : decode cc pc = .ok (.anewarray index, 3))
    (kk : ∀ (q : Nat) (H1 : Heap), q = H.size → σ q = none → H1.size = H.size + 1 → mp_H D cl base (mp_up σ q (.inl (cA, N', .inr (.inr (.inr (.inr (fun _ => none))))))) H1 → va_S (mp_A base) H0 H1 locs →
      W p l e R s m args below meth c H1 locs (cells + 1) (slots + N') Q (F0 m (pc + 3) ls (.ref q :: rest))) : W p l e R s m args below meth c H locs cells slots Q (F0 m pc ls (.int n :: rest)) := by
  subst hN
  refine W.anew x.1 x.2.1 x.2.2.2.1 (x.2.2.2.2.1 _ hcl) (x.2.2.2.2.1 _ hover) rfl hdg rfl hn hbytes hcells hslots fun cA' kA comp f1 f2 f3 f4 => ?_
  obtain ⟨kA2, comp2, k1, k2, k3, k4⟩ := (x.2.2.2.2.2.2 t0 _ ht).2
  have hcA : cA' = cA := Option.some.inj (f1.symm.trans k4)
  subst hcA
  generalize hH1 : H.push ({ cls := cA', slots := Array.replicate n.toNatClampNeg .null, vm := .none } : Cell) = H1
  have z1 : H1.size = H.size + 1 := by rw [← hH1, Array.size_push]
  have e1 : H1[H.size]? = some (arrV cA' n.toNatClampNeg (fun _ => .null)) := by rw [← hH1, Array.getElem?_push_size, ← arrV_new]
  have o1 : ∀ q : Nat, q < H.size → H1[q]? = H[q]? := fun q hq => by rw [← hH1, Array.getElem?_push, if_neg (Nat.ne_of_lt hq)]
  refine kk H.size H1 rfl (hH.none (Nat.le_refl _)) z1 (hH.push (Nat.le_trans hB hS.1) ?_ o1) ⟨Nat.le_trans hS.1 (by omega), fun x h1 h2 => (o1 x (Nat.lt_of_lt_of_le h1 hS.1)).trans (hS.2.1 x h1 h2), hS.2.2⟩
  show H1[H.size]? = some (vp_cell _ _)
  rw [e1]
  rfl
end MPR
end
section
/-! CONTRACTS and CALLS over a store: a method returns or throws. -/
/-- the method's end: returned or threw; what it wrote lies from base on; what it made -/
def mp_Q (below : List Frame) (s : State) (mc ms base : Nat) (post : Outcome → State → Prop) : State → Prop := fun t =>
  ∃ o, t.status = .running ∧ Ended t below o ∧ post o t ∧ s.WarmedH t.vm ∧ ∃ L, s.sameButNew ({ t with vm := s.vm } : State) L mc ms ∧ ∀ q ∈ L, base ≤ q.base
/-- behind a method: a store again, nothing below base has changed -/
def mp_P (D : va_G) (cl : List vw_C) (base : Nat) (s : State) (PO : Outcome → mp_M → State → Prop) : Outcome → State → Prop := fun o t =>
  (∃ σ' : mp_M, PO o σ' t ∧ mp_H D cl base σ' t.heap) ∧ va_F (mp_A base) s t
/-- what the tables say, and what is kept from a method to its callees -/
def mp_G (WT : List Cond) (D : va_G) (cl : List vw_C) (tys : List (ClassId × FieldType)) (ZS : State → Prop) (s : State) : Prop :=
  (∀ w ∈ WT, va_Nw w s) ∧ va_K D cl tys s ∧ ZS s
/-- a method's contract at one list of arguments and one store -/
def mp_Met (l : Launch) (WT : List Cond) (D : va_G) (cl : List vw_C) (tys : List (ClassId × FieldType)) (ZS : State → Prop) (base : Nat) (y : MethodName) (bytes : ByteArray) (maxL : Nat) (ret : Option FieldType) (hs : List (Nat × Nat × Nat × Nat)) (d w mc ms : Nat) (av : List Value) (σ : mp_M) (PO : Outcome → mp_M → State → Prop) : Prop :=
  ∀ (p : Program) (e : Env) (R : Room) (s : State) (m : MethodId) (below : List Frame) (meth : Method) (c : Code), p.tables.exec = Jvm.exec → d ≤ R.frames → w ≤ R.locals → mc ≤ R.cells → ms ≤ R.slots →
    s.methodNamed? y = some m → s.vm.method? m = some meth → meth.code = some c → c.code = bytes → c.maxLocals = maxL → meth.sig.returnType = ret → meth.locks = false → c.exceptionTable.toList.map (fun h => (h.startPc, h.endPc, h.handlerPc, h.catchType)) = hs →
    mp_G WT D cl tys ZS s → base ≤ s.heap.size → mp_H D cl base σ s.heap →
    W p l e R s m av.toArray below meth c s.heap [] 0 0 (mp_Q below s mc ms base (mp_P D cl base s PO)) (entryFrame m av.toArray maxL)
theorem mp_weak {tb : Tables} {e : Env} {f : Frame} {below : List Frame} {a b : State} (h : Steps tb e (f :: below) a b) : Steps tb e below a b := by
  obtain ⟨n, hn, hw⟩ := h
  refine ⟨n, hn, fun k hk => ?_⟩
  obtain ⟨above, h1, h2, h3⟩ := hw k hk
  refine ⟨above ++ [f], by rw [h1, List.append_assoc]; rfl, fun h => h2 (List.append_eq_nil_iff.mp h).1, fun x hx => ?_⟩
  cases above with
  | nil => exact h2 rfl
  | cons y r =>
    have h4 : (r ++ [f]).length = 0 := by
      have := congrArg List.length hx
      simp at this
    simp at h4
section MPE
variable {p : Program} {l : Launch} {e : Env} {R : Room} {s : State} {m : MethodId} {args : Array Value} {below : List Frame} {meth : Method} {c : Code} {H : Heap} {locs : List Loc} {cells slots : Nat} {Q : State → Prop}
variable {cc : ByteArray} {nL pc : Nat} {ls : Array Slot} {rest : List Value} {base mc ms : Nat} {post : Outcome → State → Prop}
theorem mp_zret {v : Int32} {ty : FieldType} (hexec : p.tables.exec = Jvm.exec) (hb : c.code = cc) (hr : meth.sig.returnType = some ty) (hn : narrow ty (.int v) = .int v) (hlocks : meth.locks = false) (hc : cells ≤ mc) (hs : slots ≤ ms)
    (hq : ∀ t : State, t.heap = H → s.WarmedH t.vm → post (.returned (some (.int v))) t) (hf : ∀ q ∈ locs, base ≤ q.base) (hdg : decode cc pc = .ok (.ireturn, 1)) : W p l e R s m args below meth c H locs cells slots (mp_Q below s mc ms base post) (F0 m pc ls [.int v]) := by
  intro T hT X
  obtain ⟨fs, hret, hrun, hended, hW, hframe⟩ := X.leave (v := some (.int v)) (fun h => by rw [hr] at h; cases h)
  have hmeth' : T.vm.method? m = some meth := X.method'
  refine ⟨T.setFrames fs, ?_, .returned (some (.int v)), hrun, hended, hq _ hT hW, hW, locs, hframe.mono hc hs, hf⟩
  jvm_step X.here [X.here.top, hexec, hb, hdg, hmeth', hr, hn]
  (try refine ⟨rfl, ?_⟩); (try refine ⟨rfl, ?_⟩)
  first | (intro acts; rw [hret _ acts rfl rfl rfl]) | rw [hret _ _ rfl rfl rfl]
  exact Steps.refl _
theorem mp_iret {v : Int32} (hexec : p.tables.exec = Jvm.exec) (hb : c.code = cc) (hr : meth.sig.returnType = some .int) (hlocks : meth.locks = false) (hc : cells ≤ mc) (hs : slots ≤ ms)
    (hq : ∀ t : State, t.heap = H → s.WarmedH t.vm → post (.returned (some (.int v))) t) (hf : ∀ q ∈ locs, base ≤ q.base) (hdg : decode cc pc = .ok (.ireturn, 1)) : W p l e R s m args below meth c H locs cells slots (mp_Q below s mc ms base post) (F0 m pc ls [.int v]) :=
  mp_zret hexec hb hr rfl hlocks hc hs hq hf hdg
theorem mp_vret (hexec : p.tables.exec = Jvm.exec) (hb : c.code = cc) (hr : meth.sig.returnType = none) (hlocks : meth.locks = false) (hc : cells ≤ mc) (hs : slots ≤ ms)
    (hq : ∀ t : State, t.heap = H → s.WarmedH t.vm → post (.returned none) t) (hf : ∀ q ∈ locs, base ≤ q.base) (hdg : decode cc pc = .ok (.return_, 1)) : W p l e R s m args below meth c H locs cells slots (mp_Q below s mc ms base post) (F0 m pc ls []) := by
  intro T hT X
  obtain ⟨fs, hret, hrun, hended, hW, hframe⟩ := X.leave (v := none) (fun _ => rfl)
  have hmeth' : T.vm.method? m = some meth := X.method'
  refine ⟨T.setFrames fs, ?_, .returned none, hrun, hended, hq _ hT hW, hW, locs, hframe.mono hc hs, hf⟩
  jvm_step X.here [X.here.top, hexec, hb, hdg, hmeth', hr]
  (try refine ⟨rfl, ?_⟩); (try refine ⟨rfl, ?_⟩)
  first | (intro acts; rw [hret _ acts rfl rfl rfl]) | rw [hret _ _ rfl rfl rfl]
  exact Steps.refl _
theorem mp_aret {v : Value} {rt : FieldType} (hexec : p.tables.exec = Jvm.exec) (hb : c.code = cc) (hr : meth.sig.returnType = some rt) (hrt : (∃ n, rt = .object n) ∨ ∃ t, rt = .array t) (hv : v = .null ∨ ∃ a, v = .ref a) (hlocks : meth.locks = false) (hc : cells ≤ mc) (hs : slots ≤ ms)
    (hq : ∀ t : State, t.heap = H → s.WarmedH t.vm → post (.returned (some v)) t) (hf : ∀ q ∈ locs, base ≤ q.base) (hdg : decode cc pc = .ok (.areturn, 1)) : W p l e R s m args below meth c H locs cells slots (mp_Q below s mc ms base post) (F0 m pc ls [v]) := by
  intro T hT X
  obtain ⟨fs, hret, hrun, hended, hW, hframe⟩ := X.leave (v := some v) (fun h => by rw [hr] at h; cases h)
  have hmeth' : T.vm.method? m = some meth := X.method'
  refine ⟨T.setFrames fs, ?_, .returned (some v), hrun, hended, hq _ hT hW, hW, locs, hframe.mono hc hs, hf⟩
  rcases hrt with ⟨n, rfl⟩ | ⟨t, rfl⟩ <;> rcases hv with rfl | ⟨a, rfl⟩ <;>
    (jvm_step X.here [X.here.top, hexec, hb, hdg, hmeth', hr]
     (try refine ⟨rfl, ?_⟩); (try refine ⟨rfl, ?_⟩)
     first | (intro acts; rw [hret _ acts rfl rfl rfl]) | rw [hret _ _ rfl rfl rfl]
     exact Steps.refl _)
/-- an exception under way, over the frame g -/
def mp_WT (p : Program) (l : Launch) (e : Env) (R : Room) (s : State) (m : MethodId) (args : Array Value) (below : List Frame) (meth : Method) (c : Code) (H : Heap) (locs : List Loc) (cells slots : Nat) (Q : State → Prop) (x : Addr) (g : JFrame) : Prop :=
  ∀ T : State, T.heap = H → Stand p l e R s m args below meth c T locs cells slots → ∃ t, Steps p.tables e below ((T.setTop g).pushFrame (.throwing x)) t ∧ Q t
/-- it leaves a method without handlers -/
theorem mp_out {x : Addr} (hlocks : meth.locks = false) (hh : c.exceptionTable.toList.map (fun h => (h.startPc, h.endPc, h.handlerPc, h.catchType)) = []) (hc : cells ≤ mc) (hs : slots ≤ ms)
    (hq : ∀ t : State, t.heap = H → s.WarmedH t.vm → post (.threw x) t) (hf : ∀ q ∈ locs, base ≤ q.base) {st : List Value} : mp_WT p l e R s m args below meth c H locs cells slots (mp_Q below s mc ms base post) x (F0 m pc ls st) := by
  intro T hT X
  have hnil : c.exceptionTable.toList = [] := List.map_eq_nil_iff.mp hh
  obtain ⟨h1, h2, h3, h4, h5⟩ := X.leaveThrown x (g := F0 m pc ls st) rfl rfl rfl (fun y hy => by rw [hnil] at hy; cases hy)
  exact ⟨_, h1, .threw x, h2, h3, hq _ hT h4, h4, locs, h5.mono hc hs, hf⟩
end MPE
section MPC
variable {p : Program} {l : Launch} {e : Env} {R : Room} {s : State} {m : MethodId} {args : Array Value} {below : List Frame} {meth : Method} {c : Code} {T : State} {locs : List Loc} {cells slots : Nat}
variable {WT : List Cond} {D : va_G} {cl : List vw_C} {tys : List (ClassId × FieldType)} {ZS : State → Prop} {base : Nat} {y : MethodName} {bytes : ByteArray} {maxL : Nat} {ret : Option FieldType} {hs : List (Nat × Nat × Nat × Nat)} {d w mc ms : Nat} {av : List Value} {σ : mp_M} {PO : Outcome → mp_M → State → Prop}
/-- how words and tables come to a callee -/
def mp_Mv (WT : List Cond) (ZS : State → Prop) (base : Nat) : Prop :=
  (∀ w ∈ WT, ∀ s U : State, s.WarmedH U.vm → va_Nw w s → va_Nw w U) ∧ (∀ s U : State, s.WarmedH U.vm → (∀ q, q < base → U.heap[q]? = s.heap[q]?) → ZS s → ZS U)
theorem mp_G.mv (hv : mp_Mv WT ZS base) {U : State} (hW : s.WarmedH U.vm) (hh : ∀ q, q < base → U.heap[q]? = s.heap[q]?) (h : mp_G WT D cl tys ZS s) : mp_G WT D cl tys ZS U :=
  ⟨fun w hw => hv.1 w hw s U hW (h.1 w hw), va_K.moved hW.alike h.2.1, hv.2 s U hW hh h.2.2⟩
/-- the callee's own facts at the caller's start -/
def mp_Mk (s : State) (y : MethodName) (bytes : ByteArray) (maxL : Nat) (ret : Option FieldType) (hs : List (Nat × Nat × Nat × Nat)) (mk : MethodId) : Prop :=
  s.methodNamed? y = some mk ∧ plainName y.cls = true ∧ ∃ methk ck, s.vm.method? mk = some methk ∧ methk.code = some ck ∧ ck.code = bytes ∧ ck.maxLocals = maxL ∧ methk.sig.returnType = ret ∧ methk.locks = false ∧ ck.exceptionTable.toList.map (fun h => (h.startPc, h.endPc, h.handlerPc, h.catchType)) = hs
theorem mp_enter (X : Stand p l e R s m args below meth c T locs cells slots) (hx : p.tables.exec = Jvm.exec) (hv : mp_Mv WT ZS base) {g : JFrame} (hg : g.method = m) (hsize : g.locals.size = c.maxLocals) {ig : Instr} {len : Nat} (hdg : decode c.code g.pc = .ok (ig, len)) {mk : MethodId}
    (hM : mp_Met l WT D cl tys ZS base y bytes maxL ret hs d w mc ms av σ PO) (hk : mp_Mk s y bytes maxL ret hs mk) (hfr : d + 1 ≤ R.frames) (hlo : 2 * g.monitorRoom + (g.stack.map fun v => v.category).sum + (maxL + 11) + w ≤ R.locals) (hce : cells + mc ≤ R.cells) (hsl : slots + ms ≤ R.slots)
    (hG : mp_G WT D cl tys ZS s) (hB : base ≤ s.heap.size) (hH : mp_H D cl base σ T.heap) (hS : va_S (mp_A base) s.heap T.heap locs) :
    ∃ (o : Outcome) (σ' : mp_M) (t T' : State) (L : List Loc), PO o σ' t ∧ T'.heap = t.heap ∧ T'.vm = t.vm ∧ mp_H D cl base σ' T'.heap ∧ va_S (mp_A base) s.heap T'.heap (locs ++ L) ∧ T.heap.size ≤ T'.heap.size ∧ Stand p l e R s m args below meth c T' (locs ++ L) (cells + mc) (slots + ms) ∧
      (∀ v, o = .returned v → ∀ acts, Steps p.tables e below (doInvoke e (T.setTop g) acts mk av.toArray).1 (T'.setTop { g with pc := g.pc + len, stack := v.toList ++ g.stack })) ∧
      (∀ x, o = .threw x → ∀ acts, Steps p.tables e below (doInvoke e (T.setTop g) acts mk av.toArray).1 ((T'.setTop g).pushFrame (.throwing x))) := by
  obtain ⟨hn, hpl, methk, ck, hmk, hck, hby, hml, hrt, hlk, hex⟩ := hk
  have hW : s.WarmedH T.vm := X.warmed
  have hmT : T.vm.method? mk = some methk := by rw [hW.alike.method?]; exact hmk
  have hpk : T.plainMethod mk := hW.plainAt (fun k hk => by
    obtain ⟨k', hk', hnm⟩ := className_of_methodNamed hn
    cases hk.symm.trans hk'
    rw [hnm]; exact hpl)
  obtain ⟨Y, hinv⟩ := X.into hg hsize hdg av.toArray (R' := { frames := d, cells := mc, slots := ms, locals := w }) hmT hck hlk hpk hfr (by rw [hml]; exact hlo) hce hsl
  have hlow : ∀ q, q < base → T.heap[q]? = s.heap[q]? := fun q hq => hS.2.1 q (Nat.lt_of_lt_of_le hq hB) (Nat.not_le.mpr hq)
  obtain ⟨t, st, o, hrun, hend, ⟨⟨σ', hPO, hH'⟩, hF⟩, hW', L, hsame, hL⟩ := hM p e { frames := d, cells := mc, slots := ms, locals := w } (T.calling g mk av.toArray) mk (.java g :: below) methk ck hx (Nat.le_refl _) (Nat.le_refl _) (Nat.le_refl _) (Nat.le_refl _)
    (by have h := X.named hn; exact h) hmT hck hby hml hrt hlk hex (hG.mv hv (U := T.calling g mk av.toArray) hW hlow) (Nat.le_trans hB hS.1) hH ((T.setTop g).pushFrame (.java (entryFrame mk av.toArray ck.maxLocals))) rfl Y
  rw [← hml] at st
  have hfr' : va_S (mp_A base) s.heap t.heap (locs ++ L) := ⟨Nat.le_trans hS.1 hF.1, fun q h1 h2 => (hF.2 q (Nat.lt_of_lt_of_le h1 hS.1) h2).trans (hS.2.1 q h1 h2), fun q hq => by
    rcases List.mem_append.mp hq with h | h
    · exact hS.2.2 q h
    · exact hL q h⟩
  cases o with
  | returned v =>
    obtain ⟨T', X', -, -, ht⟩ := X.outOf hg hdg hend hW' hsame
    have e1 : T'.heap = t.heap := by rw [ht]; rfl
    have e2 : T'.vm = t.vm := by rw [ht]; rfl
    refine ⟨.returned v, σ', t, T', L, hPO, e1, e2, by rw [e1]; exact hH', by rw [e1]; exact hfr', by rw [e1]; exact hF.1, X', fun v' hv' acts => ?_, fun x hx' => by cases hx'⟩
    cases hv'
    rw [hinv acts, ← ht]
    exact mp_weak st
  | threw x =>
    obtain ⟨T', X', -, -, ht⟩ := X.outOfThrown hg hend hW' hsame
    have e1 : T'.heap = t.heap := by rw [ht]; rfl
    have e2 : T'.vm = t.vm := by rw [ht]; rfl
    refine ⟨.threw x, σ', t, T', L, hPO, e1, e2, by rw [e1]; exact hH', by rw [e1]; exact hfr', by rw [e1]; exact hF.1, X', (fun v' hv' => by cases hv'), fun x' hx' acts => ?_⟩
    cases hx'
    rw [hinv acts, ← ht]
    exact mp_weak st
end MPC
end
section
/-! CALLS as rows: the instruction, the callee by its contract, both ways out. -/
theorem mp_mkC {s : State} {args : Array Value} {y : MethodName} {bytes : ByteArray} {maxL : Nat} {ret : Option FieldType} (h : (Cond.code y bytes maxL ret).before args s = true) (hp : plainName y.cls = true) : ∃ mk, mp_Mk s y bytes maxL ret [] mk := by
  obtain ⟨mk, hn⟩ := Cond.code_named h
  obtain ⟨meth, c, h1, h2, h3, h4, h5, h6, h7, -⟩ := Cond.code_spec hn h
  refine ⟨mk, hn, hp, meth, c, h1, h2, h3, h4, h5, h6, ?_⟩
  have h8 : c.exceptionTable = #[] := by simpa using h7
  rw [h8]
  rfl
theorem mp_mkW {s : State} {args : Array Value} {y : MethodName} {bytes : ByteArray} {maxL : Nat} {ret : Option FieldType} {hs : List (Nat × Nat × Nat × Nat)} (h : (Cond.codeWith y bytes maxL ret hs).before args s = true) (hp : plainName y.cls = true) : ∃ mk, mp_Mk s y bytes maxL ret hs mk := by
  obtain ⟨mk, meth, c, hn, h1, h2, h3, h4, h5, h6, h7, -⟩ := Cond.codeWith_spec h
  exact ⟨mk, hn, hp, meth, c, h1, h2, h3, h4, h6, h7, h5⟩
/-- an invoking instruction at pc: it comes to the callee's entry -/
def mp_Inv (p : Program) (l : Launch) (e : Env) (R : Room) (s : State) (m : MethodId) (args : Array Value) (below : List Frame) (meth : Method) (c : Code) (H : Heap) (pc : Nat) (ls : Array Slot) (st rest : List Value) (y : MethodName) (bytes : ByteArray) (maxL : Nat) (ret : Option FieldType) (hs : List (Nat × Nat × Nat × Nat)) (av : List Value) : Prop :=
  ∀ (T : State) (locs : List Loc) (cells slots : Nat), T.heap = H → Stand p l e R s m args below meth c T locs cells slots → ∃ (mk : MethodId) (vm' : Vm) (ig : Instr), mp_Mk s y bytes maxL ret hs mk ∧ Stand p l e R s m args below meth c (T.setVm vm') locs cells slots ∧ decode c.code pc = .ok (ig, 3) ∧
    ∀ target, (∀ acts, Steps p.tables e below (doInvoke e ((T.setVm vm').setTop (F0 m pc ls rest)) acts mk av.toArray).1 target) → Steps p.tables e below (T.setTop (F0 m pc ls st)) target
section MPI
variable {p : Program} {l : Launch} {e : Env} {R : Room} {s : State} {m : MethodId} {args : Array Value} {below : List Frame} {meth : Method} {c : Code} {H : Heap} {locs : List Loc} {cells slots : Nat} {Q : State → Prop}
variable {cc : ByteArray} {nL pc : Nat} {ls : Array Slot} {st rest : List Value} {WT : List Cond} {D : va_G} {cl : List vw_C} {tys : List (ClassId × FieldType)} {ZS : State → Prop} {base : Nat} {σ : mp_M} {own : String}
variable {y : MethodName} {bytes : ByteArray} {maxL : Nat} {ret : Option FieldType} {hs : List (Nat × Nat × Nat × Nat)} {d w mc ms : Nat} {av : List Value} {PO : Outcome → mp_M → State → Prop}
theorem mp_call (x : mp_X WT D cl tys p s m args c cc nL own) (hv : mp_Mv WT ZS base) (hG : mp_G WT D cl tys ZS s) (hB : base ≤ s.heap.size) (hlen : ls.size = nL) (hi : mp_Inv p l e R s m args below meth c H pc ls st rest y bytes maxL ret hs av)
    (hM : mp_Met l WT D cl tys ZS base y bytes maxL ret hs d w mc ms av σ PO) (hfr : d + 1 ≤ R.frames) (hlo : (rest.map fun v => v.category).sum + (maxL + 11) + w ≤ R.locals) (hce : cells + mc ≤ R.cells) (hsl : slots + ms ≤ R.slots) (hH : mp_H D cl base σ H) (hS : va_S (mp_A base) s.heap H locs)
    (kr : ∀ (v : Option Value) (σ' : mp_M) (t : State) (H1 : Heap) (locs1 : List Loc), PO (.returned v) σ' t → t.heap = H1 → s.vm.Alike t.vm → H.size ≤ H1.size → mp_H D cl base σ' H1 → va_S (mp_A base) s.heap H1 locs1 → W p l e R s m args below meth c H1 locs1 (cells + mc) (slots + ms) Q (F0 m (pc + 3) ls (v.toList ++ rest)))
    (kt : ∀ (a : Addr) (σ' : mp_M) (t : State) (H1 : Heap) (locs1 : List Loc), PO (.threw a) σ' t → t.heap = H1 → s.vm.Alike t.vm → H.size ≤ H1.size → mp_H D cl base σ' H1 → va_S (mp_A base) s.heap H1 locs1 → mp_WT p l e R s m args below meth c H1 locs1 (cells + mc) (slots + ms) Q a (F0 m pc ls rest)) :
    W p l e R s m args below meth c H locs cells slots Q (F0 m pc ls st) := by
  intro T hT X
  obtain ⟨mk, vm', ig, hk, X', hdg, hgo⟩ := hi T locs cells slots hT X
  have hT' : (T.setVm vm').heap = H := hT
  obtain ⟨o, σ', t, T', L, hPO, e1, e2, hH', hS', hz, X'', hr, ht⟩ := mp_enter (g := F0 m pc ls rest) X' x.1 hv rfl (hlen.trans x.2.2.1.symm) hdg hM hk hfr (by show 2 * 0 + (rest.map fun v => v.category).sum + (maxL + 11) + w ≤ R.locals; omega) hce hsl hG hB (by rw [hT']; exact hH) (by rw [hT']; exact hS)
  rw [hT'] at hz
  have hal : s.vm.Alike t.vm := by rw [← e2]; exact X''.warmed.alike
  cases o with
  | returned v =>
    obtain ⟨t2, a1, b1⟩ := kr v σ' t T'.heap (locs ++ L) hPO e1.symm hal hz hH' hS' T' rfl X''
    exact ⟨t2, hgo t2 (fun acts => (hr v rfl acts).trans a1), b1⟩
  | threw a =>
    obtain ⟨t2, a1, b1⟩ := kt a σ' t T'.heap (locs ++ L) hPO e1.symm hal hz hH' hS' T' rfl X''
    exact ⟨t2, hgo t2 (fun acts => (ht a rfl acts).trans a1), b1⟩
/-- the code word of a callee, with handlers or without -/
def mp_Cw (WT : List Cond) (y : MethodName) (bytes : ByteArray) (maxL : Nat) (ret : Option FieldType) (hs : List (Nat × Nat × Nat × Nat)) : Prop := (Cond.code y bytes maxL ret ∈ WT ∧ hs = []) ∨ Cond.codeWith y bytes maxL ret hs ∈ WT
theorem mp_Cw.mk (hw : mp_Cw WT y bytes maxL ret hs) (hts : ∀ w ∈ WT, w.before args s = true) (hp : plainName y.cls = true) : ∃ mk, mp_Mk s y bytes maxL ret hs mk := by
  rcases hw with ⟨h, rfl⟩ | h
  · exact mp_mkC (hts _ h) hp
  · exact mp_mkW (hts _ h) hp
/-- a name's plain facts, by reading it -/
def mp_Nm (y : MethodName) (n : Nat) : Prop := plainName y.cls = true ∧ (y.cls ≠ "java/lang/invoke/MethodHandle" ∧ y.cls ≠ "java/lang/invoke/VarHandle") ∧ (parseMethodDescriptor y.desc).map (fun d => d.parameters.length) = some n
theorem mp_Mk.sig {mk : MethodId} (hk : mp_Mk s y bytes maxL ret hs mk) (hts : ∀ w ∈ WT, w.before args s = true) (hw : mp_Cw WT y bytes maxL ret hs) {n : Nat} (hn : mp_Nm y n) : ∃ methk, s.vm.method? mk = some methk ∧ methk.sig.parameters.length = n := by
  obtain ⟨hnm, -⟩ := hk
  rcases hw with ⟨h, -⟩ | h
  · obtain ⟨meth, c, h1, -, -, -, -, -, -, h8⟩ := Cond.code_spec hnm (hts _ h)
    have h9 := hn.2.2
    rw [h8] at h9
    exact ⟨meth, h1, Option.some.inj h9⟩
  · obtain ⟨mk', meth, c, hn', h1, -, -, -, -, -, -, h8⟩ := Cond.codeWith_spec (hts _ h)
    cases hnm.symm.trans hn'
    have h9 := hn.2.2
    rw [h8] at h9
    exact ⟨meth, h1, Option.some.inj h9⟩
theorem mp_invS (x : mp_X WT D cl tys p s m args c cc nL own) {index n : Nat} (hn : mp_Nm y n) (hw : mp_Cw WT y bytes maxL ret hs) (hl : Cond.methodLink own index y ∈ WT ∨ ∃ host, Cond.methodLinkNest own index y host ∈ WT) (hst : Cond.static y ∈ WT) (hini : Cond.initialized y.cls ∈ WT) (hav : av.length = n) (hdg : decode cc pc = .ok (.invokestatic index, 3)) :
    mp_Inv p l e R s m args below meth c H pc ls (av.reverse ++ rest) rest y bytes maxL ret hs av := by
  obtain ⟨hx, hb, -, hown, hts, -⟩ := x
  intro T locs cells slots hT X
  obtain ⟨mk, hk⟩ := hw.mk hts hn.1
  obtain ⟨methk, hm, hpl⟩ := hk.sig hts hw hn
  have hstatic : methk.isStatic = true := Cond.static_spec hk.1 hm (hts _ hst)
  obtain ⟨kP, hkP, -⟩ := className_of_methodNamed hk.1
  have hinitP : kP.init = .initialized := Cond.initialized_spec (findClass_of_methodNamed hk.1) hkP (hts _ hini)
  rcases hl with hl | ⟨host, hl⟩
  · obtain ⟨vm₁, X₁, hstep₁⟩ := X.invokestatic hx hown (hts _ hl) hk.1 hm hstatic hkP hinitP hn.2.1 (g := F0 m pc ls (av.reverse ++ rest)) rfl (argsL := av) (rest := rest) (hav.trans hpl.symm) rfl (by rw [hb]; exact hdg)
    exact ⟨mk, vm₁, _, hk, X₁, by rw [hb]; exact hdg, hstep₁⟩
  · obtain ⟨vm₁, X₁, hstep₁⟩ := X.invokestaticNest hx hown (hts _ hl) hk.1 hm hstatic hkP hinitP hn.2.1 (g := F0 m pc ls (av.reverse ++ rest)) rfl (argsL := av) (rest := rest) (hav.trans hpl.symm) rfl (by rw [hb]; exact hdg)
    exact ⟨mk, vm₁, _, hk, X₁, by rw [hb]; exact hdg, hstep₁⟩
theorem mp_invV (x : mp_X WT D cl tys p s m args c cc nL own) {index n a ci : Nat} {fs : List Value} (hH : mp_H D cl base σ H) (hs0 : σ a = some (.inr (ci, fs))) {r : vw_C} (hc : cl[ci]? = some r) (hcn : r.1 = y.cls) (hn : mp_Nm y n) (hw : mp_Cw WT y bytes maxL ret hs) (hl : Cond.methodLink own index y ∈ WT ∨ ∃ host, Cond.methodLinkNest own index y host ∈ WT) (hin : Cond.instanceMethod y ∈ WT) (hse : Cond.selects y.cls y y ∈ WT) (hav : av.length = n) (hdg : decode cc pc = .ok (.invokevirtual index, 3)) :
    mp_Inv p l e R s m args below meth c H pc ls (av.reverse ++ .ref a :: rest) rest y bytes maxL ret hs (.ref a :: av) := by
  obtain ⟨hx, hb, -, hown, hts, hK⟩ := x
  intro T locs cells slots hT X
  obtain ⟨mk, hk⟩ := hw.mk hts hn.1
  obtain ⟨methk, hm, hpl⟩ := hk.sig hts hw hn
  obtain ⟨cellB, hcB, hoB, hclB⟩ := va_recv hK (hH.one hs0) hc (q0 := 0) rfl
  rw [hcn] at hclB
  obtain ⟨mk', methM, hnamed, hmethM, hstM, habM⟩ := Cond.instanceMethod_spec (hts _ hin)
  cases hk.1.symm.trans hnamed
  cases hm.symm.trans hmethM
  obtain ⟨c2, r2, m2, q1, q2, q3, q4, kP, hkP, hkPi⟩ := Cond.selects_spec (hts _ hse)
  cases hclB.symm.trans q1
  cases (State.methodFound?_of_named hnamed hn.2.1).symm.trans q2
  cases hnamed.symm.trans q3
  have hselP : selectMethod e.platform s.vm cellB.cls mk = .method mk := by rw [Launch.admits_selectMethod X.admits]; exact q4
  rcases hl with hl | ⟨host, hl⟩
  · obtain ⟨vm₁, X₁, hstep₁⟩ := X.invokevirtual hx hown (hts _ hl) hnamed hmethM hstM hkP hkPi hn.2.1 (a := a) (cell := cellB) (by rw [hT]; exact hcB)
      (fun z h => by rw [h] at hoB; cases hoB) hselP hmethM habM hkP hkPi (g := F0 m pc ls (av.reverse ++ .ref a :: rest)) rfl (argsL := av) (rest := rest) (hav.trans hpl.symm) rfl (by rw [hb]; exact hdg)
    exact ⟨mk, vm₁, _, hk, X₁, by rw [hb]; exact hdg, hstep₁⟩
  · obtain ⟨vm₁, X₁, hstep₁⟩ := X.invokevirtualNest hx hown (hts _ hl) hnamed hmethM hstM hkP hkPi hn.2.1 (a := a) (cell := cellB) (by rw [hT]; exact hcB)
      (fun z h => by rw [h] at hoB; cases hoB) hselP hmethM habM hkP hkPi (g := F0 m pc ls (av.reverse ++ .ref a :: rest)) rfl (argsL := av) (rest := rest) (hav.trans hpl.symm) rfl (by rw [hb]; exact hdg)
    exact ⟨mk, vm₁, _, hk, X₁, by rw [hb]; exact hdg, hstep₁⟩
theorem mp_invI (x : mp_X WT D cl tys p s m args c cc nL own) {index n a : Nat} (hn : mp_Nm y n) (hy1 : y.name = "<init>") (hw : Cond.code y bytes maxL none ∈ WT) (hl : Cond.methodLink own index y ∈ WT ∨ ∃ host, Cond.methodLinkNest own index y host ∈ WT) (hin : Cond.instanceMethod y ∈ WT) (hav : av.length = n) (hdg : decode cc pc = .ok (.invokespecial index, 3)) :
    mp_Inv p l e R s m args below meth c H pc ls (av.reverse ++ .ref a :: rest) rest y bytes maxL none [] (.ref a :: av) := by
  obtain ⟨hx, hb, -, hown, hts, hK⟩ := x
  intro T locs cells slots hT X
  obtain ⟨mk, hk⟩ := mp_mkC (hts _ hw) hn.1
  have hpl : e.platform.magicAccessors = ({} : Platform).magicAccessors := by rw [X.admits.platform]
  have hlen : ∀ sig, parseMethodDescriptor y.desc = some sig → av.length = sig.parameters.length := fun sig h => by
    have h9 := hn.2.2
    rw [h] at h9
    exact hav.trans (Option.some.inj h9).symm
  rcases hl with hl | ⟨host, hl⟩
  · obtain ⟨mk', methM, cM, kP, vm₁, hnamed, hmethM, hcodeM, -, hlocalsM, -, hkP, -, hW₁, hstep₁⟩ := Steps.initColdArgs (e := e) X.here hx X.warmed hpl hown hy1 hn.2.1 (hts _ hl) (hts _ hin) (hts _ hw) (f := F0 m pc ls (av.reverse ++ .ref a :: rest)) rfl hlen rfl (by rw [hb]; exact hdg)
    cases hk.1.symm.trans hnamed
    exact ⟨mk, vm₁, _, hk, X.noted hW₁, by rw [hb]; exact hdg, hstep₁⟩
  · obtain ⟨mk', methM, cM, kP, vm₁, hnamed, hmethM, hcodeM, -, hlocalsM, -, hkP, -, hW₁, hstep₁⟩ := Steps.initColdArgsNest (e := e) X.here hx X.warmed hpl hown hy1 hn.2.1 (hts _ hl) (hts _ hin) (hts _ hw) (f := F0 m pc ls (av.reverse ++ .ref a :: rest)) rfl hlen rfl (by rw [hb]; exact hdg)
    cases hk.1.symm.trans hnamed
    exact ⟨mk, vm₁, _, hk, X.noted hW₁, by rw [hb]; exact hdg, hstep₁⟩
end MPI
end
section
/-! THROWS: a walk may be begun anew where it stands; an exception is made and thrown; it is caught. -/
section MPB
variable {p : Program} {l : Launch} {e : Env} {R : Room} {s : State} {m : MethodId} {args : Array Value} {below : List Frame} {meth : Method} {c : Code} {T : State} {locs : List Loc} {cells slots : Nat}
theorem mp_rebase (X : Stand p l e R s m args below meth c T locs cells slots) {R' : Room} (hfr : R'.frames ≤ R.frames) (hlo : R'.locals ≤ R.locals) (hce : cells + R'.cells ≤ R.cells) (hsl : slots + R'.slots ≤ R.slots) : Stand p l e R' (T.setFrames (.invoking m args :: below)) m args below meth c T [] 0 0 := by
  obtain ⟨g₀, hfrm⟩ := X.frames_eq
  have hcur : T.cur < T.threads.size := State.cur_lt_of_frames hfrm
  have hF : (T.setFrames (.invoking m args :: below)).frames = .invoking m args :: below := State.frames_setFrames _ hcur
  have hm' : (T.setFrames (.invoking m args :: below)).vm.method? m = some meth := X.method'
  have hlim : e.platform.stackLimits (T.setFrames (.invoking m args :: below)).me = e.platform.stackLimits s.me := by rw [State.stackLimits_setFrames]; exact X.limits
  have hby : (T.setFrames (.invoking m args :: below)).me.stackBytes = s.me.stackBytes := by rw [State.stackBytes_setFrames]; exact X.bytes
  refine ⟨X.admits, X.cas, X.clock, hF, ?_, ?_, hm', X.code, X.here, X.tail, State.WarmedH.refl (T.setFrames (.invoking m args :: below)), by rw [hlim]; exact X.limits, by rw [hby]; exact X.bytes, ?_⟩
  · have hr := X.room
    have h1 := State.localsInUse_invoking X.frames X.method X.code
    have h2 := State.localsInUse_invoking hF hm' X.code
    have h3 := X.heapSize
    have h4 := X.used
    have h5 : (T.setFrames (.invoking m args :: below)).heap.size = T.heap.size := rfl
    have h6 : (T.setFrames (.invoking m args :: below)).slotsUsed = T.slotsUsed := rfl
    have h7 : (T.setFrames (.invoking m args :: below)).slotsTrue = true := X.book
    simp only [State.hasRoom, Bool.and_eq_true, decide_eq_true_eq] at hr ⊢
    rw [X.frames, List.length_cons] at hr
    rw [hF, List.length_cons, hlim, hby, h5, h6, h2]
    rw [h1] at hr
    refine ⟨⟨⟨⟨by omega, by omega, by omega, by omega, by omega, by omega⟩, by omega⟩, by omega⟩, h7⟩
  · have hh := X.hears
    have hal := X.warmed.alike
    have hcd : ∀ q, (T.setFrames (.invoking m args :: below)).code? q = s.code? q := fun q => by
      rw [State.code?_eq, State.code?_eq]
      show (T.vm.method? q).bind _ = _
      rw [hal.method?]
    unfold State.hears at hh ⊢
    cases below with
    | nil => rw [hm']; rw [X.method] at hh; exact hh
    | cons f r =>
      cases f with
      | java g => simp only at hh ⊢; rw [hcd]; exact hh
      | native g => rfl
      | proc g => rfl
      | _ => simp only at hh ⊢; rw [hm']; rw [X.method] at hh; exact hh
  · obtain ⟨th, hth, -⟩ := State.frames_cons hF
    obtain ⟨th2, hth2, -⟩ := State.frames_cons hfrm
    have h := (State.sameButNew.refl (T.setFrames (.invoking m args :: below)) hth).setFrames T.frames (State.cur_lt_of_frames hF)
    rw [State.setFrames_setFrames, State.setFrames_self hth2] at h
    exact h
/-- what is as it was since the walk was begun anew -/
theorem mp_same {fs : List Frame} {U : State} {k n : Nat} (h : (T.setFrames fs).sameButNew ({ U with vm := (T.setFrames fs).vm } : State) [] k n) : T.heap.size ≤ U.heap.size ∧ ∀ q, q < T.heap.size → U.heap[q]? = T.heap[q]? := by
  refine ⟨h.2.1, fun q hq => ?_⟩
  have hc : (T.setFrames fs).heap[q]? = some T.heap[q] := Array.getElem?_eq_getElem hq
  obtain ⟨c', h1, h2, h3, h4⟩ := h.2.2.2.2.2 q _ hc
  have h5 : U.heap[q]? = some c' := h1
  rw [h5, Array.getElem?_eq_getElem hq]
  have h6 : c'.slots = (T.heap[q]).slots := by
    apply Array.ext_getElem?
    intro i
    exact h4 i (by simp)
  rw [h2, h6]
theorem mp_sameT (X : Stand p l e R s m args below meth c T locs cells slots) {fs : List Frame} {U : State} {k n : Nat} (h : (T.setFrames fs).sameButNew ({ U with vm := (T.setFrames fs).vm } : State) [] k n) : s.sameButNew ({ U with vm := s.vm } : State) locs (cells + k) (slots + n) := by
  have h2 : T.sameButNew ({ U with vm := T.vm } : State) [] k n := by
    obtain ⟨a1, a2⟩ := h
    refine ⟨?_, a2⟩
    rw [State.setFrames_setFrames] at a1
    exact a1
  have h3 := X.same.trans (h2.setVm s.vm)
  rw [List.append_nil] at h3
  exact h3
end MPB
/-- an exception's cell -/
def mp_T (cls : String) (a : Addr) (t : State) : Prop := ∃ cell : Cell, t.heap[a]? = some cell ∧ cell.vm = .none ∧ t.vm.findClass cls = some cell.cls
end
section
/-! What is kept beside the tables' words: two statics of Throwable hold a reference or null, the texts of the messages are there, one exception is no other. -/
abbrev mp_iae : String := "java/lang/IllegalArgumentException"
abbrev mp_ise : String := "java/lang/IllegalStateException"
abbrev mp_thr : String := "java/lang/Throwable"
abbrev mp_ste : String := "[Ljava/lang/StackTraceElement;"
abbrev mp_lst : String := "Ljava/util/List;"
def mp_strs : List (Nat × String) := [(46, "the prescription is registered already"), (57, "the prescription is not registered"), (70, "all supplies are decided, or the day is too near the last one"), (101, "the shop does not ask"), (189, "a number is not as it may be"), (192, "there is no such shop"), (194, "there is no such prescription"), (196, "there is no such letter"), (198, "the shop is down")]
def mp_ZS (base : Nat) (s : State) : Prop := va_Zq mp_thr "UNASSIGNED_STACK" mp_ste (mp_A base) s s.heap ∧ va_Zq mp_thr "SUPPRESSED_SENTINEL" mp_lst (mp_A base) s s.heap ∧ (∀ q ∈ mp_strs, ∃ a, vk_R "SupplyGrid" q.1 q.2 a s) ∧ va_Nw (.not (.castable mp_ise mp_iae)) s
theorem mp_Zq_isRef {C n d : String} {A : Nat → Prop} {U : State} (h : va_Zq C n d A U U.heap) (args : Array Value) : (Cond.isRef (.static C n d)).before args U = true := by
  rcases h with h | ⟨t, h⟩
  · obtain ⟨cf, kf, fi, f, a, cell, h1, h2, h3, h4, h5, h6, h7, h8⟩ := h
    simp [Cond.before, Cond.holds, Cond.value, Term.eval, State.fieldNamed?, h1, h2, h4, h5, h6, h7]
  · obtain ⟨cf, kf, fi, f, a, cell, h1, h2, h3, h4, h5, h6, h7, h8⟩ := h
    simp [Cond.before, Cond.holds, Cond.value, Term.eval, State.fieldNamed?, h1, h2, h4, h5, h6, h7]
theorem mp_notcast {s : State} {A B : String} (h : va_Nw (.not (.castable A B)) s) {a b : ClassId} (ha : s.vm.findClass A = some a) (hb : s.vm.findClass B = some b) : s.vm.assignable a b = false := by
  have hv := Cond.holds_not_iff.mp h
  simp only [Cond.value, ha, hb] at hv
  exact Option.some.inj hv
theorem mp_notcast_moved {s U : State} (hvm : s.vm.Alike U.vm) {A B : String} (h : va_Nw (.not (.castable A B)) s) : va_Nw (.not (.castable A B)) U := by
  have hv := Cond.holds_not_iff.mp h
  refine Cond.holds_not_iff.mpr ?_
  simp only [Cond.value] at hv ⊢
  rw [hvm.findClass, hvm.findClass]
  cases h1 : s.vm.findClass A with
  | none => rw [h1] at hv; simpa using hv
  | some a =>
    cases h2 : s.vm.findClass B with
    | none => rw [h1, h2] at hv; simpa using hv
    | some b =>
      rw [h1, h2] at hv
      simp only at hv ⊢
      rw [hvm.assignable]
      exact hv
theorem mp_ZS_mv (base : Nat) : ∀ s U : State, s.WarmedH U.vm → (∀ q, q < base → U.heap[q]? = s.heap[q]?) → mp_ZS base s → mp_ZS base U := by
  intro s U hW hh h
  have hq : ∀ a : Nat, a < s.heap.size → ¬ mp_A base a → U.heap[a]? = s.heap[a]? := fun a _ ha => hh a (Nat.not_le.mp ha)
  exact ⟨va_Zq.moved hW.alike (h.1.kept hq), va_Zq.moved hW.alike (h.2.1.kept hq), fun q hq2 => by
    obtain ⟨a, ha⟩ := h.2.2.1 q hq2
    exact ⟨a, vk_R.warm hW ha⟩, mp_notcast_moved hW.alike h.2.2.2⟩
/-- a word of the tables, or one of the two statics' -/
def mp_At (WT : List Cond) (w : Cond) : Prop := w ∈ WT ∨ w = .isRef (.static mp_thr "UNASSIGNED_STACK" mp_ste) ∨ w = .isRef (.static mp_thr "SUPPRESSED_SENTINEL" mp_lst)
section MPT
variable {p : Program} {l : Launch} {e : Env} {R : Room} {s : State} {m : MethodId} {args : Array Value} {below : List Frame} {meth : Method} {c : Code} {H : Heap} {locs : List Loc} {cells slots : Nat} {Q : State → Prop}
variable {cc : ByteArray} {nL pc : Nat} {ls : Array Slot} {rest : List Value} {WT : List Cond} {D : va_G} {cl : List vw_C} {tys : List (ClassId × FieldType)} {base mc ms : Nat} {own : String} {post : Outcome → State → Prop}
theorem mp_throwS (x : mp_X WT D cl tys p s m args c cc nL own) (hv : mp_Mv WT (mp_ZS base) base) (hot : ∀ w ∈ WT, w.onTables = true) (hG : mp_G WT D cl tys (mp_ZS base) s) (hB : base ≤ s.heap.size) (hlen : ls.size = nL) (hfl : l.flags = flags0) (hlocks : meth.locks = false) (hh : c.exceptionTable.toList.map (fun h => (h.startPc, h.endPc, h.handlerPc, h.catchType)) = [])
    {cls tx : String} {ia ib ic : Nat} (hcls : Bundle.fit cls = true) (hcl : Cond.classLink own ia cls ∈ WT) (hinst : Cond.instantiable cls 6 ∈ WT) (hini : Cond.initialized cls ∈ WT) (hat : ∀ w ∈ Bundle.ownAtoms own ic cls ["java/lang/RuntimeException", "java/lang/Exception"], mp_At WT w) (hown2 : own = "SupplyGrid") (hstr : (ib, tx) ∈ mp_strs)
    (hd0 : decode cc pc = .ok (.new ia, 3)) (hd3 : decode cc (pc + 3) = .ok (.dup, 1)) (hd4 : decode cc (pc + 4) = .ok (.ldc ib, 2)) (hd6 : decode cc (pc + 6) = .ok (.invokespecial ic, 3)) (hd9 : decode cc (pc + 9) = .ok (.athrow, 1))
    (hfr : 6 ≤ R.frames) (hlo : (rest.map fun v => v.category).sum + 82 ≤ R.locals) (hce : cells + 1 ≤ R.cells) (hsl : slots + 6 ≤ R.slots) (hce2 : cells + 1 ≤ mc) (hsl2 : slots + 6 ≤ ms) (hS : va_S (mp_A base) s.heap H locs)
    (hq : ∀ t : State, mp_T cls H.size t → H.size ≤ t.heap.size → (∀ q, q < H.size → t.heap[q]? = H[q]?) → s.WarmedH t.vm → post (.threw H.size) t) :
    W p l e R s m args below meth c H locs cells slots (mp_Q below s mc ms base post) (F0 m pc ls rest) := by
  intro T hT X
  obtain ⟨hx, hb, hml, hown, -, -⟩ := x
  have htr : e.platform.stackTraces = false := Launch.traces_off hfl X.admits
  have hnil : c.exceptionTable.toList = [] := List.map_eq_nil_iff.mp hh
  have Y := mp_rebase X (R' := { frames := R.frames, locals := R.locals, cells := 1, slots := 6 }) (Nat.le_refl _) (Nat.le_refl _) hce hsl
  have hlow : ∀ q, q < base → T.heap[q]? = s.heap[q]? := fun q hq => by rw [hT]; exact hS.2.1 q (Nat.lt_of_lt_of_le hq hB) (Nat.not_le.mpr hq)
  have hG' : mp_G WT D cl tys (mp_ZS base) (T.setFrames (.invoking m args :: below)) := hG.mv hv (U := T.setFrames (.invoking m args :: below)) X.warmed hlow
  have hts' : ∀ w ∈ WT, w.before args (T.setFrames (.invoking m args :: below)) = true := fun w hw => va_Nw.use (hot w hw) (hG'.1 w hw)
  have hown' : (T.setFrames (.invoking m args :: below)).vm.findClass own = some m.cls := by
    show T.vm.findClass own = _
    rw [X.warmed.alike.findClass]; exact hown
  obtain ⟨qs, hqs⟩ := hG'.2.2.2.2.1 (ib, tx) hstr
  have hat' : ∀ w ∈ Bundle.ownAtoms own ic cls ["java/lang/RuntimeException", "java/lang/Exception"], w.before args (T.setFrames (.invoking m args :: below)) = true := fun w hw => by
    rcases hat w hw with h | rfl | rfl
    · exact hts' w h
    · exact mp_Zq_isRef hG'.2.2.1 args
    · exact mp_Zq_isRef hG'.2.2.2.1 args
  have K : W p l e { frames := R.frames, locals := R.locals, cells := 1, slots := 6 } (T.setFrames (.invoking m args :: below)) m args below meth c H [] 0 0 (mp_Q below s mc ms base post) (F0 m pc ls rest) := by
    refine W.newc hx hb hown' (hts' _ hcl) (hts' _ hinst) (hts' _ hini) rfl hd0 (Nat.le_refl _) (Nat.le_refl _) fun cC kC f1 f2 f3 f4 => ?_
    refine lv_dup hx hb hd3 rfl ?_
    refine va_ldcS hx hb hown' (tx := tx) (q := qs) (by rw [hown2]; exact hqs) hd4 ?_
    intro T2 hT2 Y2
    have hz2 : T2.heap[H.size]? = some (freshCell cC kC) := by rw [hT2]; simp
    obtain ⟨U, st, hrun, hend, hW, hsame, ce, hce', hoc⟩ := Y2.ctorThrowS hx htr (own := own) (cls := cls) (names := ["java/lang/RuntimeException", "java/lang/Exception"]) (ic := ic) hown' hcls (by decide +kernel) hat' (fun _ h => by cases h) f1 f2 hz2 (by show T.heap.size ≤ H.size; rw [hT]; exact Nat.le_refl _) (msg := .ref qs) rfl
      (g := F0 m (pc + 6) ls (.ref qs :: .ref H.size :: .ref H.size :: rest)) rfl (hlen.trans hml.symm) rfl rfl rfl (by rw [hb]; exact hd6) (by rw [hb]; exact hd9) (fun y hy => by rw [hnil] at hy; cases hy) (by show 2 + 3 < R.frames; omega)
      (by show 2 * 0 + (1 + (rest.map fun v => v.category).sum) + (13 * (2 + 1) + 42) ≤ R.locals; omega)
    have hU := mp_same hsame
    have hWs : s.WarmedH U.vm := State.WarmedH.trans X.warmed hW
    refine ⟨U, st, .threw H.size, hrun, hend, hq U ⟨ce, hce', hoc.vm, ?_⟩ ?_ ?_ hWs, hWs, locs, (mp_sameT X hsame).mono hce2 hsl2, hS.2.2⟩
    · rw [hW.alike.findClass]; exact hoc.cls
    · have := hU.1; rw [hT] at this; exact this
    · intro q hq2
      have := hU.2 q (by rw [hT]; exact hq2)
      rw [this, hT]
  exact K T hT Y
end MPT
end
section
/-! CATCHES: the search asks the catch types in turn (each is linked as it is asked for the first time). -/
theorem ct_step {Q : Handler → Pre} {E : CtlPost} {e : Env} {d : Bool} {acts : List Action} {s : State} {f : JFrame} {a : Addr} {x : ExceptionTableEntry} {t : List ExceptionTableEntry} {c : ClassId} {cell : Cell} (hx : covers x f.pc = true) (h0 : x.catchType ≠ 0)
    (hl : s.vm.ClassLinks e.platform f.method.cls x.catchType c) (hcell : s.heap[a]? = some cell) (hobj : ∀ k, cell.vm ≠ .statics k) (hk : ∃ k, s.vm.classes[cell.cls]? = some k) (hc : ∃ k, s.vm.classes[c]? = some k) :
    wp (findHandler.go f a (x :: t)) Q E e d acts s ↔ if s.vm.assignable cell.cls c = true then Q (.found x.handlerPc) d acts (s.setVm (s.vm.noted f.method.cls x.catchType (.cls c))) else wp (findHandler.go f a t) Q E e d acts (s.setVm (s.vm.noted f.method.cls x.catchType (.cls c))) := by
  simp only [covers] at hx
  obtain ⟨ha, ht⟩ := (resolveClass_links e.toSetting hl).op (op := VmOp.resolveClass f.method.cls x.catchType) rfl
  have hal : s.vm.Alike (s.vm.noted f.method.cls x.catchType (.cls c)) := (Vm.Alike.refl s.vm).noted _ _ _
  obtain ⟨k1, hk1⟩ := hk
  obtain ⟨k2, hk2⟩ := hc
  obtain ⟨k1', hk1', -⟩ := hal.2.2 _ _ hk1
  obtain ⟨k2', hk2', -⟩ := hal.2.2 _ _ hk2
  have hasg := hal.assignable (s := cell.cls) (t := c)
  cases hfit : s.vm.assignable cell.cls c with
  | true =>
    rw [hfit] at hasg
    simp [findHandler.go, hx, h0, ha, ht, hcell, hobj, hk1', hk2', hasg, VmOp.dirties, VmOp.acts]
  | false =>
    rw [hfit] at hasg
    simp [findHandler.go, hx, h0, ha, ht, hcell, hobj, hk1', hk2', hasg, VmOp.dirties, VmOp.acts]
/-- into the handler that was found; the tables may be warmer -/
theorem ct_caught {tb : Tables} {e : Env} {s target : State} {g : JFrame} {c : Code} {below : List Frame} {a : Addr} (h : At s g.method c below) {pc : Nat} {vm' : Vm}
    (hfind : ∀ (Q : Handler → Pre) (E : CtlPost) (d : Bool) (acts : List Action), wp (findHandler g a) Q E e d acts ((s.setTop g).pushFrame (.throwing a)) ↔ Q (.found pc) d acts (((s.setTop g).pushFrame (.throwing a)).setVm vm'))
    (hrest : Steps tb e below ((s.setVm vm').setTop { g with pc := pc, stack := [.ref a] }) target) : Steps tb e below ((s.setTop g).pushFrame (.throwing a)) target := by
  obtain ⟨hgo, hw⟩ := h.throwing a
  refine Steps.head hgo hw ?_
  have hst : ∀ r : List Frame, (stepThrowing e ((s.setTop g).pushFrame (.throwing a)) a (.java g :: r)).1 = (((s.setTop g).pushFrame (.throwing a)).setVm vm').setFrames (.java { g with pc := pc, stack := [.ref a] } :: r) := by
    intro r
    simp only [stepThrowing, searchFrame, vmDo]
    generalize hr : Sem.go _ e false [] ((s.setTop g).pushFrame (.throwing a)) = res
    obtain ⟨as, rfl, ha⟩ := Sem.eq_ok_of hr (a := Handler.found pc) (s' := ((s.setTop g).pushFrame (.throwing a)).setVm vm') (acts' := []) (by simp [hfind _ _ _ _])
    rfl
  rw [stepThread_throwing (frames_entered h.top _), hst]
  obtain ⟨g₀, hg⟩ := Option.isSome_iff_exists.mp h.top
  obtain ⟨r, hr⟩ := State.topJava?_eq_some.mp hg
  have hr' : (s.setVm vm').frames = .java g₀ :: r := hr
  rw [State.setTop_of_frames _ hr'] at hrest
  have hset : ∀ (u : State) (F G : List Frame), ((u.setFrames F).setVm vm').setFrames G = (u.setVm vm').setFrames G := fun u F G => by
    have h1 : (u.setFrames F).setVm vm' = (u.setVm vm').setFrames F := rfl
    rw [h1, State.setFrames_setFrames]
  rw [hr, List.tail_cons, State.pushFrame, hset, State.setTop_of_frames _ hr, hset]
  exact hrest
section CTC
variable {p : Program} {l : Launch} {e : Env} {R : Room} {s : State} {m : MethodId} {args : Array Value} {below : List Frame} {meth : Method} {c : Code} {H : Heap} {locs : List Loc} {cells slots : Nat} {Q : State → Prop}
variable {cc : ByteArray} {nL pc : Nat} {ls : Array Slot} {rest : List Value} {WT : List Cond} {D : va_G} {cl : List vw_C} {tys : List (ClassId × FieldType)} {own : String}
theorem ct_split {hs : List (Nat × Nat × Nat × Nat)} (hh : c.exceptionTable.toList.map (fun h => (h.startPc, h.endPc, h.handlerPc, h.catchType)) = hs) : ∃ L : List ExceptionTableEntry, c.exceptionTable.toList = L ∧ L.map (fun h => (h.startPc, h.endPc, h.handlerPc, h.catchType)) = hs := ⟨_, rfl, hh⟩
/-- the first entry takes it -/
theorem ct_first (x : mp_X WT D cl tys p s m args c cc nL own) {h1 h2 h3 h4 : Nat} {more : List (Nat × Nat × Nat × Nat)} (hh : c.exceptionTable.toList.map (fun h => (h.startPc, h.endPc, h.handlerPc, h.catchType)) = (h1, h2, h3, h4) :: more) (hlo : h1 ≤ pc) (hhi : pc < h2) (h0 : h4 ≠ 0) {cls : String} (hl : Cond.classLink own h4 cls ∈ WT) (hcs : Cond.castable cls cls ∈ WT)
    {a : Addr} {cell : Cell} (hcell : H[a]? = some cell) (hvm : cell.vm = .none) (hfc : s.vm.findClass cls = some cell.cls) (kk : W p l e R s m args below meth c H locs cells slots Q (F0 m h3 ls [.ref a])) : mp_WT p l e R s m args below meth c H locs cells slots Q a (F0 m pc ls rest) := by
  obtain ⟨hx, hb, hml, hown, hts, -⟩ := x
  intro T hT X
  have hpl : e.platform.magicAccessors = ({} : Platform).magicAccessors := by rw [X.admits.platform]
  obtain ⟨cT, hcT, hlk⟩ := Cond.classLink_spec hown (hts _ hl) e.platform hpl
  cases hfc.symm.trans hcT
  obtain ⟨c3, c4, hc3, hc4, hasg⟩ := Cond.castable_spec (hts _ hcs)
  cases hfc.symm.trans hc3
  cases hfc.symm.trans hc4
  have hW := X.warmed
  have hlT := hW.classLinks hlk
  obtain ⟨dk, _, _, kt, hd, _, _, _, _, hkt, _, hopen⟩ := hlk.here
  obtain ⟨kt', hkt', -⟩ := hW.alike.2.2 _ _ hkt
  have hW' := hW.noted hd hopen (State.rightAt_cls hlk)
  obtain ⟨t, a1, b1⟩ := kk (T.setVm (T.vm.noted m.cls h4 (.cls cell.cls))) hT (X.noted hW')
  refine ⟨t, ct_caught (pc := h3) (vm' := T.vm.noted m.cls h4 (.cls cell.cls)) X.here (fun Q' E' d' acts' => ?_) a1, b1⟩
  obtain ⟨L, hL, hm⟩ := ct_split hh
  cases L with
  | nil => cases hm
  | cons y r =>
    simp only [List.map_cons, List.cons.injEq, Prod.mk.injEq] at hm
    obtain ⟨⟨e1, e2, e3, e4⟩, -⟩ := hm
    subst e1; subst e2; subst e3; subst e4
    rw [W.findHandler_eq (s := (T.setTop (F0 m pc ls rest)).pushFrame (.throwing a)) (meth := meth) (code := c) (by rw [Stand.throwing_vm]; exact X.method') X.code, hL]
    rw [ct_step (x := y) (c := cell.cls) (cell := cell) (by simp [covers, hlo, hhi]) h0 (by rw [Stand.throwing_vm]; exact hlT) (by rw [Stand.throwing_heap, hT]; exact hcell) (fun k h => by rw [hvm] at h; cases h) (by rw [Stand.throwing_vm]; exact ⟨kt', hkt'⟩) (by rw [Stand.throwing_vm]; exact ⟨kt', hkt'⟩)]
    rw [if_pos (by rw [Stand.throwing_vm, hW.alike.assignable]; exact hasg), Stand.throwing_vm]
/-- the first doesn't, the second does -/
theorem ct_second (x : mp_X WT D cl tys p s m args c cc nL own) {h1 h2 h3 h4 g1 g2 g3 g4 : Nat} {more : List (Nat × Nat × Nat × Nat)} (hh : c.exceptionTable.toList.map (fun h => (h.startPc, h.endPc, h.handlerPc, h.catchType)) = (h1, h2, h3, h4) :: (g1, g2, g3, g4) :: more) (hlo : h1 ≤ pc) (hhi : pc < h2) (h0 : h4 ≠ 0) (glo : g1 ≤ pc) (ghi : pc < g2) (g0 : g4 ≠ 0) {cls oth : String} (hl : Cond.classLink own h4 oth ∈ WT) (hno : va_Nw (.not (.castable cls oth)) s) (gl : Cond.classLink own g4 cls ∈ WT) (hcs : Cond.castable cls cls ∈ WT)
    {a : Addr} {cell : Cell} (hcell : H[a]? = some cell) (hvm : cell.vm = .none) (hfc : s.vm.findClass cls = some cell.cls) (kk : W p l e R s m args below meth c H locs cells slots Q (F0 m g3 ls [.ref a])) : mp_WT p l e R s m args below meth c H locs cells slots Q a (F0 m pc ls rest) := by
  obtain ⟨hx, hb, hml, hown, hts, -⟩ := x
  intro T hT X
  have hpl : e.platform.magicAccessors = ({} : Platform).magicAccessors := by rw [X.admits.platform]
  obtain ⟨cO, hcO, hlkO⟩ := Cond.classLink_spec hown (hts _ hl) e.platform hpl
  obtain ⟨cT, hcT, hlk⟩ := Cond.classLink_spec hown (hts _ gl) e.platform hpl
  cases hfc.symm.trans hcT
  obtain ⟨c3, c4, hc3, hc4, hasg⟩ := Cond.castable_spec (hts _ hcs)
  cases hfc.symm.trans hc3
  cases hfc.symm.trans hc4
  have hnoasg := mp_notcast hno hfc hcO
  have hW := X.warmed
  have hlT := hW.classLinks hlkO
  obtain ⟨dk, _, _, kO, hd, _, _, _, _, hkO, _, hopen⟩ := hlkO.here
  obtain ⟨kO', hkO', -⟩ := hW.alike.2.2 _ _ hkO
  obtain ⟨dk2, _, _, kt, hd2, _, _, _, _, hkt, _, hopen2⟩ := hlk.here
  obtain ⟨kt', hkt', -⟩ := hW.alike.2.2 _ _ hkt
  have hW1 := hW.noted hd hopen (State.rightAt_cls hlkO)
  have hlT2 := hW1.classLinks hlk
  obtain ⟨kt2, hkt2, -⟩ := hW1.alike.2.2 _ _ hkt
  have hW2 := hW1.noted hd2 hopen2 (State.rightAt_cls hlk)
  obtain ⟨t, a1, b1⟩ := kk (T.setVm ((T.vm.noted m.cls h4 (.cls cO)).noted m.cls g4 (.cls cell.cls))) hT (X.noted hW2)
  refine ⟨t, ct_caught (pc := g3) (vm' := (T.vm.noted m.cls h4 (.cls cO)).noted m.cls g4 (.cls cell.cls)) X.here (fun Q' E' d' acts' => ?_) a1, b1⟩
  obtain ⟨L, hL, hm⟩ := ct_split hh
  cases L with
  | nil => cases hm
  | cons y r0 =>
    cases r0 with
    | nil => simp at hm
    | cons z r =>
      simp only [List.map_cons, List.cons.injEq, Prod.mk.injEq] at hm
      obtain ⟨⟨e1, e2, e3, e4⟩, ⟨f1, f2, f3, f4⟩, -⟩ := hm
      subst e1; subst e2; subst e3; subst e4; subst f1; subst f2; subst f3; subst f4
      rw [W.findHandler_eq (s := (T.setTop (F0 m pc ls rest)).pushFrame (.throwing a)) (meth := meth) (code := c) (by rw [Stand.throwing_vm]; exact X.method') X.code, hL]
      rw [ct_step (x := y) (c := cO) (cell := cell) (by simp [covers, hlo, hhi]) h0 (by rw [Stand.throwing_vm]; exact hlT) (by rw [Stand.throwing_heap, hT]; exact hcell) (fun k h => by rw [hvm] at h; cases h) (by rw [Stand.throwing_vm]; exact ⟨kt', hkt'⟩) (by rw [Stand.throwing_vm]; exact ⟨kO', hkO'⟩)]
      rw [if_neg (by rw [Stand.throwing_vm, hW.alike.assignable, hnoasg]; decide), Stand.throwing_vm]
      rw [ct_step (x := z) (c := cell.cls) (cell := cell) (by simp [covers, glo, ghi]) g0 (by exact hlT2) (by show ((T.setTop (F0 m pc ls rest)).pushFrame (.throwing a)).heap[a]? = _; rw [Stand.throwing_heap, hT]; exact hcell) (fun k h => by rw [hvm] at h; cases h) ⟨kt2, hkt2⟩ ⟨kt2, hkt2⟩]
      rw [if_pos (by show (T.vm.noted m.cls y.catchType (.cls cO)).assignable _ _ = true; rw [hW1.alike.assignable]; exact hasg)]
      rfl
end CTC
end
