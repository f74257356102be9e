-- ===== PART A: goes FIRST, ahead of the names: the tables' words, and 'selects' of the private methods out of them =====
/-- a private method of a class that the tables say can be made, by its rows of tables_1 -/
def lw_okq (q : MethodName × Nat) : Prop := (q.1.cls ≠ "java/lang/invoke/MethodHandle" ∧ q.1.cls ≠ "java/lang/invoke/VarHandle") ∧ Cond.instantiable q.1.cls q.2 ∈ tables_1 ∧ Cond.privateMethod q.1 ∈ tables_1 ∧ Cond.instanceMethod q.1 ∈ tables_1
theorem lw_p0 : lw_okq (⟨"WhoeverKnowsSings$Reader", "next", "()V"⟩, 9) := ⟨⟨by decide +kernel, by decide +kernel⟩, List.mem_of_getElem? (i := 167) (by decide +kernel), List.mem_of_getElem? (i := 320) (by decide +kernel), List.mem_of_getElem? (i := 321) (by decide +kernel)⟩
theorem lw_p1 : lw_okq (⟨"WhoeverKnowsSings$Reader", "readWord", "()V"⟩, 9) := ⟨⟨by decide +kernel, by decide +kernel⟩, List.mem_of_getElem? (i := 167) (by decide +kernel), List.mem_of_getElem? (i := 327) (by decide +kernel), List.mem_of_getElem? (i := 328) (by decide +kernel)⟩
theorem lw_p2 : lw_okq (⟨"WhoeverKnowsSings$Reader", "wordToken", "()I"⟩, 9) := ⟨⟨by decide +kernel, by decide +kernel⟩, List.mem_of_getElem? (i := 167) (by decide +kernel), List.mem_of_getElem? (i := 331) (by decide +kernel), List.mem_of_getElem? (i := 332) (by decide +kernel)⟩
theorem lw_p3 : lw_okq (⟨"WhoeverKnowsSings$Reader", "spells", "(Ljava/lang/String;)Z"⟩, 9) := ⟨⟨by decide +kernel, by decide +kernel⟩, List.mem_of_getElem? (i := 167) (by decide +kernel), List.mem_of_getElem? (i := 336) (by decide +kernel), List.mem_of_getElem? (i := 337) (by decide +kernel)⟩
theorem lw_p4 : lw_okq (⟨"WhoeverKnowsSings$Reader", "fail", "()V"⟩, 9) := ⟨⟨by decide +kernel, by decide +kernel⟩, List.mem_of_getElem? (i := 167) (by decide +kernel), List.mem_of_getElem? (i := 353) (by decide +kernel), List.mem_of_getElem? (i := 354) (by decide +kernel)⟩
theorem lw_p5 : lw_okq (⟨"WhoeverKnowsSings$Reader", "readNumber", "()V"⟩, 9) := ⟨⟨by decide +kernel, by decide +kernel⟩, List.mem_of_getElem? (i := 167) (by decide +kernel), List.mem_of_getElem? (i := 360) (by decide +kernel), List.mem_of_getElem? (i := 361) (by decide +kernel)⟩
theorem lw_p6 : lw_okq (⟨"WhoeverKnowsSings$Reader", "readSign", "()V"⟩, 9) := ⟨⟨by decide +kernel, by decide +kernel⟩, List.mem_of_getElem? (i := 167) (by decide +kernel), List.mem_of_getElem? (i := 364) (by decide +kernel), List.mem_of_getElem? (i := 365) (by decide +kernel)⟩
theorem lw_p7 : lw_okq (⟨"WhoeverKnowsSings$Reader", "readPart", "(I)V"⟩, 9) := ⟨⟨by decide +kernel, by decide +kernel⟩, List.mem_of_getElem? (i := 167) (by decide +kernel), List.mem_of_getElem? (i := 368) (by decide +kernel), List.mem_of_getElem? (i := 369) (by decide +kernel)⟩
theorem lw_p8 : lw_okq (⟨"WhoeverKnowsSings$Reader", "expect", "(I)V"⟩, 9) := ⟨⟨by decide +kernel, by decide +kernel⟩, List.mem_of_getElem? (i := 167) (by decide +kernel), List.mem_of_getElem? (i := 372) (by decide +kernel), List.mem_of_getElem? (i := 373) (by decide +kernel)⟩
theorem lw_p9 : lw_okq (⟨"WhoeverKnowsSings$Reader", "readOr", "(I)V"⟩, 9) := ⟨⟨by decide +kernel, by decide +kernel⟩, List.mem_of_getElem? (i := 167) (by decide +kernel), List.mem_of_getElem? (i := 376) (by decide +kernel), List.mem_of_getElem? (i := 377) (by decide +kernel)⟩
theorem lw_p10 : lw_okq (⟨"WhoeverKnowsSings$Reader", "readAnd", "(I)V"⟩, 9) := ⟨⟨by decide +kernel, by decide +kernel⟩, List.mem_of_getElem? (i := 167) (by decide +kernel), List.mem_of_getElem? (i := 380) (by decide +kernel), List.mem_of_getElem? (i := 381) (by decide +kernel)⟩
theorem lw_p11 : lw_okq (⟨"WhoeverKnowsSings$Reader", "readNot", "(I)V"⟩, 9) := ⟨⟨by decide +kernel, by decide +kernel⟩, List.mem_of_getElem? (i := 167) (by decide +kernel), List.mem_of_getElem? (i := 384) (by decide +kernel), List.mem_of_getElem? (i := 385) (by decide +kernel)⟩
theorem lw_p12 : lw_okq (⟨"WhoeverKnowsSings$Reader", "step", "(I)V"⟩, 9) := ⟨⟨by decide +kernel, by decide +kernel⟩, List.mem_of_getElem? (i := 167) (by decide +kernel), List.mem_of_getElem? (i := 388) (by decide +kernel), List.mem_of_getElem? (i := 389) (by decide +kernel)⟩
theorem lw_p13 : lw_okq (⟨"WhoeverKnowsSings$Reader", "readSum", "(I)V"⟩, 9) := ⟨⟨by decide +kernel, by decide +kernel⟩, List.mem_of_getElem? (i := 167) (by decide +kernel), List.mem_of_getElem? (i := 392) (by decide +kernel), List.mem_of_getElem? (i := 393) (by decide +kernel)⟩
theorem lw_p14 : lw_okq (⟨"WhoeverKnowsSings$Reader", "readTerm", "(I)V"⟩, 9) := ⟨⟨by decide +kernel, by decide +kernel⟩, List.mem_of_getElem? (i := 167) (by decide +kernel), List.mem_of_getElem? (i := 396) (by decide +kernel), List.mem_of_getElem? (i := 397) (by decide +kernel)⟩
theorem lw_p15 : lw_okq (⟨"WhoeverKnowsSings$Reader", "readSingle", "(I)V"⟩, 9) := ⟨⟨by decide +kernel, by decide +kernel⟩, List.mem_of_getElem? (i := 167) (by decide +kernel), List.mem_of_getElem? (i := 400) (by decide +kernel), List.mem_of_getElem? (i := 401) (by decide +kernel)⟩
def lw_privs_1 : List (MethodName × Nat) := [(⟨"WhoeverKnowsSings$Reader", "next", "()V"⟩, 9), (⟨"WhoeverKnowsSings$Reader", "readWord", "()V"⟩, 9), (⟨"WhoeverKnowsSings$Reader", "wordToken", "()I"⟩, 9), (⟨"WhoeverKnowsSings$Reader", "spells", "(Ljava/lang/String;)Z"⟩, 9), (⟨"WhoeverKnowsSings$Reader", "fail", "()V"⟩, 9), (⟨"WhoeverKnowsSings$Reader", "readNumber", "()V"⟩, 9), (⟨"WhoeverKnowsSings$Reader", "readSign", "()V"⟩, 9), (⟨"WhoeverKnowsSings$Reader", "readPart", "(I)V"⟩, 9), (⟨"WhoeverKnowsSings$Reader", "expect", "(I)V"⟩, 9), (⟨"WhoeverKnowsSings$Reader", "readOr", "(I)V"⟩, 9), (⟨"WhoeverKnowsSings$Reader", "readAnd", "(I)V"⟩, 9), (⟨"WhoeverKnowsSings$Reader", "readNot", "(I)V"⟩, 9), (⟨"WhoeverKnowsSings$Reader", "step", "(I)V"⟩, 9), (⟨"WhoeverKnowsSings$Reader", "readSum", "(I)V"⟩, 9), (⟨"WhoeverKnowsSings$Reader", "readTerm", "(I)V"⟩, 9), (⟨"WhoeverKnowsSings$Reader", "readSingle", "(I)V"⟩, 9)]
theorem lw_r1 : ∀ q ∈ lw_privs_1, lw_okq q := List.forall_mem_cons.mpr ⟨lw_p0, List.forall_mem_cons.mpr ⟨lw_p1, List.forall_mem_cons.mpr ⟨lw_p2, List.forall_mem_cons.mpr ⟨lw_p3, List.forall_mem_cons.mpr ⟨lw_p4, List.forall_mem_cons.mpr ⟨lw_p5, List.forall_mem_cons.mpr ⟨lw_p6, List.forall_mem_cons.mpr ⟨lw_p7, List.forall_mem_cons.mpr ⟨lw_p8, List.forall_mem_cons.mpr ⟨lw_p9, List.forall_mem_cons.mpr ⟨lw_p10, List.forall_mem_cons.mpr ⟨lw_p11, List.forall_mem_cons.mpr ⟨lw_p12, List.forall_mem_cons.mpr ⟨lw_p13, List.forall_mem_cons.mpr ⟨lw_p14, List.forall_mem_cons.mpr ⟨lw_p15, fun _ h => absurd h List.not_mem_nil⟩⟩⟩⟩⟩⟩⟩⟩⟩⟩⟩⟩⟩⟩⟩⟩
theorem lw_p16 : lw_okq (⟨"WhoeverKnowsSings", "lawText", "()LWhoeverKnowsSings$Text;"⟩, 17) := ⟨⟨by decide +kernel, by decide +kernel⟩, List.mem_of_getElem? (i := 20) (by decide +kernel), List.mem_of_getElem? (i := 525) (by decide +kernel), List.mem_of_getElem? (i := 526) (by decide +kernel)⟩
theorem lw_p17 : lw_okq (⟨"WhoeverKnowsSings$Singing", "valueOf", "(I)I"⟩, 6) := ⟨⟨by decide +kernel, by decide +kernel⟩, List.mem_of_getElem? (i := 86) (by decide +kernel), List.mem_of_getElem? (i := 550) (by decide +kernel), List.mem_of_getElem? (i := 551) (by decide +kernel)⟩
theorem lw_p18 : lw_okq (⟨"WhoeverKnowsSings", "isSong", "(I)Z"⟩, 17) := ⟨⟨by decide +kernel, by decide +kernel⟩, List.mem_of_getElem? (i := 20) (by decide +kernel), List.mem_of_getElem? (i := 564) (by decide +kernel), List.mem_of_getElem? (i := 565) (by decide +kernel)⟩
theorem lw_p19 : lw_okq (⟨"WhoeverKnowsSings$People", "note", "(I)V"⟩, 8) := ⟨⟨by decide +kernel, by decide +kernel⟩, List.mem_of_getElem? (i := 28) (by decide +kernel), List.mem_of_getElem? (i := 580) (by decide +kernel), List.mem_of_getElem? (i := 581) (by decide +kernel)⟩
theorem lw_p20 : lw_okq (⟨"WhoeverKnowsSings", "isOne", "(I)Z"⟩, 17) := ⟨⟨by decide +kernel, by decide +kernel⟩, List.mem_of_getElem? (i := 20) (by decide +kernel), List.mem_of_getElem? (i := 594) (by decide +kernel), List.mem_of_getElem? (i := 595) (by decide +kernel)⟩
theorem lw_p21 : lw_okq (⟨"WhoeverKnowsSings", "rowOf", "(I)LWhoeverKnowsSings$Sheet;"⟩, 17) := ⟨⟨by decide +kernel, by decide +kernel⟩, List.mem_of_getElem? (i := 20) (by decide +kernel), List.mem_of_getElem? (i := 617) (by decide +kernel), List.mem_of_getElem? (i := 618) (by decide +kernel)⟩
theorem lw_p22 : lw_okq (⟨"WhoeverKnowsSings", "isSeated", "(LWhoeverKnowsSings$Sheet;)Z"⟩, 17) := ⟨⟨by decide +kernel, by decide +kernel⟩, List.mem_of_getElem? (i := 20) (by decide +kernel), List.mem_of_getElem? (i := 632) (by decide +kernel), List.mem_of_getElem? (i := 633) (by decide +kernel)⟩
theorem lw_p23 : lw_okq (⟨"WhoeverKnowsSings", "isBehind", "(I)Z"⟩, 17) := ⟨⟨by decide +kernel, by decide +kernel⟩, List.mem_of_getElem? (i := 20) (by decide +kernel), List.mem_of_getElem? (i := 648) (by decide +kernel), List.mem_of_getElem? (i := 649) (by decide +kernel)⟩
theorem lw_p24 : lw_okq (⟨"WhoeverKnowsSings", "live", "(ILWhoeverKnowsSings$Text;)I"⟩, 17) := ⟨⟨by decide +kernel, by decide +kernel⟩, List.mem_of_getElem? (i := 20) (by decide +kernel), List.mem_of_getElem? (i := 652) (by decide +kernel), List.mem_of_getElem? (i := 653) (by decide +kernel)⟩
theorem lw_p25 : lw_okq (⟨"WhoeverKnowsSings$Singing", "able", "(LWhoeverKnowsSings$Known;)I"⟩, 6) := ⟨⟨by decide +kernel, by decide +kernel⟩, List.mem_of_getElem? (i := 86) (by decide +kernel), List.mem_of_getElem? (i := 695) (by decide +kernel), List.mem_of_getElem? (i := 696) (by decide +kernel)⟩
theorem lw_p26 : lw_okq (⟨"WhoeverKnowsSings", "arePeople", "(I)Z"⟩, 17) := ⟨⟨by decide +kernel, by decide +kernel⟩, List.mem_of_getElem? (i := 20) (by decide +kernel), List.mem_of_getElem? (i := 731) (by decide +kernel), List.mem_of_getElem? (i := 732) (by decide +kernel)⟩
theorem lw_p27 : lw_okq (⟨"WhoeverKnowsSings", "mayAtFirst", "(III)Z"⟩, 17) := ⟨⟨by decide +kernel, by decide +kernel⟩, List.mem_of_getElem? (i := 20) (by decide +kernel), List.mem_of_getElem? (i := 739) (by decide +kernel), List.mem_of_getElem? (i := 740) (by decide +kernel)⟩
theorem lw_p28 : lw_okq (⟨"WhoeverKnowsSings", "isOverFor", "(III)Z"⟩, 17) := ⟨⟨by decide +kernel, by decide +kernel⟩, List.mem_of_getElem? (i := 20) (by decide +kernel), List.mem_of_getElem? (i := 756) (by decide +kernel), List.mem_of_getElem? (i := 757) (by decide +kernel)⟩
theorem lw_p29 : lw_okq (⟨"WhoeverKnowsSings$Plans", "reach", "(IIII)V"⟩, 15) := ⟨⟨by decide +kernel, by decide +kernel⟩, List.mem_of_getElem? (i := 111) (by decide +kernel), List.mem_of_getElem? (i := 775) (by decide +kernel), List.mem_of_getElem? (i := 776) (by decide +kernel)⟩
theorem lw_p30 : lw_okq (⟨"WhoeverKnowsSings$Plans", "goOn", "(IIII)V"⟩, 15) := ⟨⟨by decide +kernel, by decide +kernel⟩, List.mem_of_getElem? (i := 111) (by decide +kernel), List.mem_of_getElem? (i := 784) (by decide +kernel), List.mem_of_getElem? (i := 785) (by decide +kernel)⟩
theorem lw_p31 : lw_okq (⟨"WhoeverKnowsSings$Plans", "isMoved", "(III)Z"⟩, 15) := ⟨⟨by decide +kernel, by decide +kernel⟩, List.mem_of_getElem? (i := 111) (by decide +kernel), List.mem_of_getElem? (i := 790) (by decide +kernel), List.mem_of_getElem? (i := 791) (by decide +kernel)⟩
def lw_privs_2 : List (MethodName × Nat) := [(⟨"WhoeverKnowsSings", "lawText", "()LWhoeverKnowsSings$Text;"⟩, 17), (⟨"WhoeverKnowsSings$Singing", "valueOf", "(I)I"⟩, 6), (⟨"WhoeverKnowsSings", "isSong", "(I)Z"⟩, 17), (⟨"WhoeverKnowsSings$People", "note", "(I)V"⟩, 8), (⟨"WhoeverKnowsSings", "isOne", "(I)Z"⟩, 17), (⟨"WhoeverKnowsSings", "rowOf", "(I)LWhoeverKnowsSings$Sheet;"⟩, 17), (⟨"WhoeverKnowsSings", "isSeated", "(LWhoeverKnowsSings$Sheet;)Z"⟩, 17), (⟨"WhoeverKnowsSings", "isBehind", "(I)Z"⟩, 17), (⟨"WhoeverKnowsSings", "live", "(ILWhoeverKnowsSings$Text;)I"⟩, 17), (⟨"WhoeverKnowsSings$Singing", "able", "(LWhoeverKnowsSings$Known;)I"⟩, 6), (⟨"WhoeverKnowsSings", "arePeople", "(I)Z"⟩, 17), (⟨"WhoeverKnowsSings", "mayAtFirst", "(III)Z"⟩, 17), (⟨"WhoeverKnowsSings", "isOverFor", "(III)Z"⟩, 17), (⟨"WhoeverKnowsSings$Plans", "reach", "(IIII)V"⟩, 15), (⟨"WhoeverKnowsSings$Plans", "goOn", "(IIII)V"⟩, 15), (⟨"WhoeverKnowsSings$Plans", "isMoved", "(III)Z"⟩, 15)]
theorem lw_r2 : ∀ q ∈ lw_privs_2, lw_okq q := List.forall_mem_cons.mpr ⟨lw_p16, List.forall_mem_cons.mpr ⟨lw_p17, List.forall_mem_cons.mpr ⟨lw_p18, List.forall_mem_cons.mpr ⟨lw_p19, List.forall_mem_cons.mpr ⟨lw_p20, List.forall_mem_cons.mpr ⟨lw_p21, List.forall_mem_cons.mpr ⟨lw_p22, List.forall_mem_cons.mpr ⟨lw_p23, List.forall_mem_cons.mpr ⟨lw_p24, List.forall_mem_cons.mpr ⟨lw_p25, List.forall_mem_cons.mpr ⟨lw_p26, List.forall_mem_cons.mpr ⟨lw_p27, List.forall_mem_cons.mpr ⟨lw_p28, List.forall_mem_cons.mpr ⟨lw_p29, List.forall_mem_cons.mpr ⟨lw_p30, List.forall_mem_cons.mpr ⟨lw_p31, fun _ h => absurd h List.not_mem_nil⟩⟩⟩⟩⟩⟩⟩⟩⟩⟩⟩⟩⟩⟩⟩⟩
theorem lw_p32 : lw_okq (⟨"WhoeverKnowsSings$Plans", "isLesson", "(III)Z"⟩, 15) := ⟨⟨by decide +kernel, by decide +kernel⟩, List.mem_of_getElem? (i := 111) (by decide +kernel), List.mem_of_getElem? (i := 799) (by decide +kernel), List.mem_of_getElem? (i := 800) (by decide +kernel)⟩
theorem lw_p33 : lw_okq (⟨"WhoeverKnowsSings", "comesOf", "(IIILWhoeverKnowsSings$Sheet;)Z"⟩, 17) := ⟨⟨by decide +kernel, by decide +kernel⟩, List.mem_of_getElem? (i := 20) (by decide +kernel), List.mem_of_getElem? (i := 822) (by decide +kernel), List.mem_of_getElem? (i := 823) (by decide +kernel)⟩
theorem lw_p34 : lw_okq (⟨"WhoeverKnowsSings", "partsLost", "(II)J"⟩, 17) := ⟨⟨by decide +kernel, by decide +kernel⟩, List.mem_of_getElem? (i := 20) (by decide +kernel), List.mem_of_getElem? (i := 832) (by decide +kernel), List.mem_of_getElem? (i := 833) (by decide +kernel)⟩
theorem lw_p35 : lw_okq (⟨"WhoeverKnowsSings", "draw", "(III)V"⟩, 17) := ⟨⟨by decide +kernel, by decide +kernel⟩, List.mem_of_getElem? (i := 20) (by decide +kernel), List.mem_of_getElem? (i := 859) (by decide +kernel), List.mem_of_getElem? (i := 860) (by decide +kernel)⟩
theorem lw_p36 : lw_okq (⟨"WhoeverKnowsSingsModel", "put", "(I)V"⟩, 55) := ⟨⟨by decide +kernel, by decide +kernel⟩, List.mem_of_getElem? (i := 947) (by decide +kernel), List.mem_of_getElem? (i := 945) (by decide +kernel), List.mem_of_getElem? (i := 946) (by decide +kernel)⟩
theorem lw_p37 : lw_okq (⟨"WhoeverKnowsSingsModel", "readAll", "(I)I"⟩, 55) := ⟨⟨by decide +kernel, by decide +kernel⟩, List.mem_of_getElem? (i := 947) (by decide +kernel), List.mem_of_getElem? (i := 954) (by decide +kernel), List.mem_of_getElem? (i := 955) (by decide +kernel)⟩
theorem lw_p38 : lw_okq (⟨"WhoeverKnowsSingsModel", "next", "()V"⟩, 55) := ⟨⟨by decide +kernel, by decide +kernel⟩, List.mem_of_getElem? (i := 947) (by decide +kernel), List.mem_of_getElem? (i := 958) (by decide +kernel), List.mem_of_getElem? (i := 959) (by decide +kernel)⟩
theorem lw_p39 : lw_okq (⟨"WhoeverKnowsSingsModel", "isLetter", "(I)Z"⟩, 55) := ⟨⟨by decide +kernel, by decide +kernel⟩, List.mem_of_getElem? (i := 947) (by decide +kernel), List.mem_of_getElem? (i := 962) (by decide +kernel), List.mem_of_getElem? (i := 963) (by decide +kernel)⟩
theorem lw_p40 : lw_okq (⟨"WhoeverKnowsSingsModel", "readWord", "()V"⟩, 55) := ⟨⟨by decide +kernel, by decide +kernel⟩, List.mem_of_getElem? (i := 947) (by decide +kernel), List.mem_of_getElem? (i := 966) (by decide +kernel), List.mem_of_getElem? (i := 967) (by decide +kernel)⟩
theorem lw_p41 : lw_okq (⟨"WhoeverKnowsSingsModel", "isDigit", "(I)Z"⟩, 55) := ⟨⟨by decide +kernel, by decide +kernel⟩, List.mem_of_getElem? (i := 947) (by decide +kernel), List.mem_of_getElem? (i := 970) (by decide +kernel), List.mem_of_getElem? (i := 971) (by decide +kernel)⟩
theorem lw_p42 : lw_okq (⟨"WhoeverKnowsSingsModel", "readNumber", "()V"⟩, 55) := ⟨⟨by decide +kernel, by decide +kernel⟩, List.mem_of_getElem? (i := 947) (by decide +kernel), List.mem_of_getElem? (i := 974) (by decide +kernel), List.mem_of_getElem? (i := 975) (by decide +kernel)⟩
theorem lw_p43 : lw_okq (⟨"WhoeverKnowsSingsModel", "isKey", "(I)Z"⟩, 55) := ⟨⟨by decide +kernel, by decide +kernel⟩, List.mem_of_getElem? (i := 947) (by decide +kernel), List.mem_of_getElem? (i := 978) (by decide +kernel), List.mem_of_getElem? (i := 979) (by decide +kernel)⟩
theorem lw_p44 : lw_okq (⟨"WhoeverKnowsSingsModel", "readE", "(I)Z"⟩, 55) := ⟨⟨by decide +kernel, by decide +kernel⟩, List.mem_of_getElem? (i := 947) (by decide +kernel), List.mem_of_getElem? (i := 982) (by decide +kernel), List.mem_of_getElem? (i := 983) (by decide +kernel)⟩
theorem lw_p45 : lw_okq (⟨"WhoeverKnowsSingsModel", "emit", "(I)V"⟩, 55) := ⟨⟨by decide +kernel, by decide +kernel⟩, List.mem_of_getElem? (i := 947) (by decide +kernel), List.mem_of_getElem? (i := 986) (by decide +kernel), List.mem_of_getElem? (i := 987) (by decide +kernel)⟩
theorem lw_p46 : lw_okq (⟨"WhoeverKnowsSingsModel", "doAll", "(I)V"⟩, 55) := ⟨⟨by decide +kernel, by decide +kernel⟩, List.mem_of_getElem? (i := 947) (by decide +kernel), List.mem_of_getElem? (i := 990) (by decide +kernel), List.mem_of_getElem? (i := 991) (by decide +kernel)⟩
theorem lw_p47 : lw_okq (⟨"WhoeverKnowsSingsModel", "isSign", "(I)Z"⟩, 55) := ⟨⟨by decide +kernel, by decide +kernel⟩, List.mem_of_getElem? (i := 947) (by decide +kernel), List.mem_of_getElem? (i := 997) (by decide +kernel), List.mem_of_getElem? (i := 998) (by decide +kernel)⟩
def lw_privs_3 : List (MethodName × Nat) := [(⟨"WhoeverKnowsSings$Plans", "isLesson", "(III)Z"⟩, 15), (⟨"WhoeverKnowsSings", "comesOf", "(IIILWhoeverKnowsSings$Sheet;)Z"⟩, 17), (⟨"WhoeverKnowsSings", "partsLost", "(II)J"⟩, 17), (⟨"WhoeverKnowsSings", "draw", "(III)V"⟩, 17), (⟨"WhoeverKnowsSingsModel", "put", "(I)V"⟩, 55), (⟨"WhoeverKnowsSingsModel", "readAll", "(I)I"⟩, 55), (⟨"WhoeverKnowsSingsModel", "next", "()V"⟩, 55), (⟨"WhoeverKnowsSingsModel", "isLetter", "(I)Z"⟩, 55), (⟨"WhoeverKnowsSingsModel", "readWord", "()V"⟩, 55), (⟨"WhoeverKnowsSingsModel", "isDigit", "(I)Z"⟩, 55), (⟨"WhoeverKnowsSingsModel", "readNumber", "()V"⟩, 55), (⟨"WhoeverKnowsSingsModel", "isKey", "(I)Z"⟩, 55), (⟨"WhoeverKnowsSingsModel", "readE", "(I)Z"⟩, 55), (⟨"WhoeverKnowsSingsModel", "emit", "(I)V"⟩, 55), (⟨"WhoeverKnowsSingsModel", "doAll", "(I)V"⟩, 55), (⟨"WhoeverKnowsSingsModel", "isSign", "(I)Z"⟩, 55)]
theorem lw_r3 : ∀ q ∈ lw_privs_3, lw_okq q := List.forall_mem_cons.mpr ⟨lw_p32, List.forall_mem_cons.mpr ⟨lw_p33, List.forall_mem_cons.mpr ⟨lw_p34, List.forall_mem_cons.mpr ⟨lw_p35, List.forall_mem_cons.mpr ⟨lw_p36, List.forall_mem_cons.mpr ⟨lw_p37, List.forall_mem_cons.mpr ⟨lw_p38, List.forall_mem_cons.mpr ⟨lw_p39, List.forall_mem_cons.mpr ⟨lw_p40, List.forall_mem_cons.mpr ⟨lw_p41, List.forall_mem_cons.mpr ⟨lw_p42, List.forall_mem_cons.mpr ⟨lw_p43, List.forall_mem_cons.mpr ⟨lw_p44, List.forall_mem_cons.mpr ⟨lw_p45, List.forall_mem_cons.mpr ⟨lw_p46, List.forall_mem_cons.mpr ⟨lw_p47, fun _ h => absurd h List.not_mem_nil⟩⟩⟩⟩⟩⟩⟩⟩⟩⟩⟩⟩⟩⟩⟩⟩
theorem lw_p48 : lw_okq (⟨"WhoeverKnowsSingsModel", "ahead", "(Z)Z"⟩, 55) := ⟨⟨by decide +kernel, by decide +kernel⟩, List.mem_of_getElem? (i := 947) (by decide +kernel), List.mem_of_getElem? (i := 1001) (by decide +kernel), List.mem_of_getElem? (i := 1002) (by decide +kernel)⟩
theorem lw_p49 : lw_okq (⟨"WhoeverKnowsSingsModel", "await", "(I)V"⟩, 55) := ⟨⟨by decide +kernel, by decide +kernel⟩, List.mem_of_getElem? (i := 947) (by decide +kernel), List.mem_of_getElem? (i := 1005) (by decide +kernel), List.mem_of_getElem? (i := 1006) (by decide +kernel)⟩
theorem lw_p50 : lw_okq (⟨"WhoeverKnowsSingsModel", "between", "()Z"⟩, 55) := ⟨⟨by decide +kernel, by decide +kernel⟩, List.mem_of_getElem? (i := 947) (by decide +kernel), List.mem_of_getElem? (i := 1009) (by decide +kernel), List.mem_of_getElem? (i := 1010) (by decide +kernel)⟩
theorem lw_p51 : lw_okq (⟨"WhoeverKnowsSingsModel", "closes", "()Z"⟩, 55) := ⟨⟨by decide +kernel, by decide +kernel⟩, List.mem_of_getElem? (i := 947) (by decide +kernel), List.mem_of_getElem? (i := 1013) (by decide +kernel), List.mem_of_getElem? (i := 1014) (by decide +kernel)⟩
theorem lw_p52 : lw_okq (⟨"WhoeverKnowsSingsModel", "says", "(II)Z"⟩, 55) := ⟨⟨by decide +kernel, by decide +kernel⟩, List.mem_of_getElem? (i := 947) (by decide +kernel), List.mem_of_getElem? (i := 1198) (by decide +kernel), List.mem_of_getElem? (i := 1199) (by decide +kernel)⟩
theorem lw_p53 : lw_okq (⟨"WhoeverKnowsSingsModel", "isSong", "(I)Z"⟩, 55) := ⟨⟨by decide +kernel, by decide +kernel⟩, List.mem_of_getElem? (i := 947) (by decide +kernel), List.mem_of_getElem? (i := 1213) (by decide +kernel), List.mem_of_getElem? (i := 1214) (by decide +kernel)⟩
theorem lw_p54 : lw_okq (⟨"WhoeverKnowsSingsModel", "isOne", "(I)Z"⟩, 55) := ⟨⟨by decide +kernel, by decide +kernel⟩, List.mem_of_getElem? (i := 947) (by decide +kernel), List.mem_of_getElem? (i := 1225) (by decide +kernel), List.mem_of_getElem? (i := 1226) (by decide +kernel)⟩
theorem lw_p55 : lw_okq (⟨"WhoeverKnowsSingsModel", "replay", "(II)I"⟩, 55) := ⟨⟨by decide +kernel, by decide +kernel⟩, List.mem_of_getElem? (i := 947) (by decide +kernel), List.mem_of_getElem? (i := 1252) (by decide +kernel), List.mem_of_getElem? (i := 1253) (by decide +kernel)⟩
theorem lw_p56 : lw_okq (⟨"WhoeverKnowsSingsModel", "take", "([II)V"⟩, 55) := ⟨⟨by decide +kernel, by decide +kernel⟩, List.mem_of_getElem? (i := 947) (by decide +kernel), List.mem_of_getElem? (i := 1256) (by decide +kernel), List.mem_of_getElem? (i := 1257) (by decide +kernel)⟩
theorem lw_p57 : lw_okq (⟨"WhoeverKnowsSingsModel", "whoHas", "([II)I"⟩, 55) := ⟨⟨by decide +kernel, by decide +kernel⟩, List.mem_of_getElem? (i := 947) (by decide +kernel), List.mem_of_getElem? (i := 1260) (by decide +kernel), List.mem_of_getElem? (i := 1261) (by decide +kernel)⟩
theorem lw_p58 : lw_okq (⟨"WhoeverKnowsSingsModel", "begin", "(IIIIIII)Z"⟩, 55) := ⟨⟨by decide +kernel, by decide +kernel⟩, List.mem_of_getElem? (i := 947) (by decide +kernel), List.mem_of_getElem? (i := 1264) (by decide +kernel), List.mem_of_getElem? (i := 1265) (by decide +kernel)⟩
theorem lw_p59 : lw_okq (⟨"WhoeverKnowsSingsModel", "may", "(IIIII)Z"⟩, 55) := ⟨⟨by decide +kernel, by decide +kernel⟩, List.mem_of_getElem? (i := 947) (by decide +kernel), List.mem_of_getElem? (i := 1268) (by decide +kernel), List.mem_of_getElem? (i := 1269) (by decide +kernel)⟩
theorem lw_p60 : lw_okq (⟨"WhoeverKnowsSingsModel", "areSome", "(I)Z"⟩, 55) := ⟨⟨by decide +kernel, by decide +kernel⟩, List.mem_of_getElem? (i := 947) (by decide +kernel), List.mem_of_getElem? (i := 1298) (by decide +kernel), List.mem_of_getElem? (i := 1299) (by decide +kernel)⟩
theorem lw_p61 : lw_okq (⟨"WhoeverKnowsSingsModel", "mayBefore", "(III)Z"⟩, 55) := ⟨⟨by decide +kernel, by decide +kernel⟩, List.mem_of_getElem? (i := 947) (by decide +kernel), List.mem_of_getElem? (i := 1302) (by decide +kernel), List.mem_of_getElem? (i := 1303) (by decide +kernel)⟩
theorem lw_p62 : lw_okq (⟨"WhoeverKnowsSingsModel", "isAsked", "(IIII)Z"⟩, 55) := ⟨⟨by decide +kernel, by decide +kernel⟩, List.mem_of_getElem? (i := 947) (by decide +kernel), List.mem_of_getElem? (i := 1322) (by decide +kernel), List.mem_of_getElem? (i := 1323) (by decide +kernel)⟩
theorem lw_p63 : lw_okq (⟨"WhoeverKnowsSingsModel", "plan", "(IIIII)V"⟩, 55) := ⟨⟨by decide +kernel, by decide +kernel⟩, List.mem_of_getElem? (i := 947) (by decide +kernel), List.mem_of_getElem? (i := 1326) (by decide +kernel), List.mem_of_getElem? (i := 1327) (by decide +kernel)⟩
def lw_privs_4 : List (MethodName × Nat) := [(⟨"WhoeverKnowsSingsModel", "ahead", "(Z)Z"⟩, 55), (⟨"WhoeverKnowsSingsModel", "await", "(I)V"⟩, 55), (⟨"WhoeverKnowsSingsModel", "between", "()Z"⟩, 55), (⟨"WhoeverKnowsSingsModel", "closes", "()Z"⟩, 55), (⟨"WhoeverKnowsSingsModel", "says", "(II)Z"⟩, 55), (⟨"WhoeverKnowsSingsModel", "isSong", "(I)Z"⟩, 55), (⟨"WhoeverKnowsSingsModel", "isOne", "(I)Z"⟩, 55), (⟨"WhoeverKnowsSingsModel", "replay", "(II)I"⟩, 55), (⟨"WhoeverKnowsSingsModel", "take", "([II)V"⟩, 55), (⟨"WhoeverKnowsSingsModel", "whoHas", "([II)I"⟩, 55), (⟨"WhoeverKnowsSingsModel", "begin", "(IIIIIII)Z"⟩, 55), (⟨"WhoeverKnowsSingsModel", "may", "(IIIII)Z"⟩, 55), (⟨"WhoeverKnowsSingsModel", "areSome", "(I)Z"⟩, 55), (⟨"WhoeverKnowsSingsModel", "mayBefore", "(III)Z"⟩, 55), (⟨"WhoeverKnowsSingsModel", "isAsked", "(IIII)Z"⟩, 55), (⟨"WhoeverKnowsSingsModel", "plan", "(IIIII)V"⟩, 55)]
theorem lw_r4 : ∀ q ∈ lw_privs_4, lw_okq q := List.forall_mem_cons.mpr ⟨lw_p48, List.forall_mem_cons.mpr ⟨lw_p49, List.forall_mem_cons.mpr ⟨lw_p50, List.forall_mem_cons.mpr ⟨lw_p51, List.forall_mem_cons.mpr ⟨lw_p52, List.forall_mem_cons.mpr ⟨lw_p53, List.forall_mem_cons.mpr ⟨lw_p54, List.forall_mem_cons.mpr ⟨lw_p55, List.forall_mem_cons.mpr ⟨lw_p56, List.forall_mem_cons.mpr ⟨lw_p57, List.forall_mem_cons.mpr ⟨lw_p58, List.forall_mem_cons.mpr ⟨lw_p59, List.forall_mem_cons.mpr ⟨lw_p60, List.forall_mem_cons.mpr ⟨lw_p61, List.forall_mem_cons.mpr ⟨lw_p62, List.forall_mem_cons.mpr ⟨lw_p63, fun _ h => absurd h List.not_mem_nil⟩⟩⟩⟩⟩⟩⟩⟩⟩⟩⟩⟩⟩⟩⟩⟩
theorem lw_p64 : lw_okq (⟨"WhoeverKnowsSingsModel", "state", "()I"⟩, 55) := ⟨⟨by decide +kernel, by decide +kernel⟩, List.mem_of_getElem? (i := 947) (by decide +kernel), List.mem_of_getElem? (i := 1330) (by decide +kernel), List.mem_of_getElem? (i := 1331) (by decide +kernel)⟩
theorem lw_p65 : lw_okq (⟨"WhoeverKnowsSingsModel", "isDone", "(IIII)Z"⟩, 55) := ⟨⟨by decide +kernel, by decide +kernel⟩, List.mem_of_getElem? (i := 947) (by decide +kernel), List.mem_of_getElem? (i := 1334) (by decide +kernel), List.mem_of_getElem? (i := 1335) (by decide +kernel)⟩
theorem lw_p66 : lw_okq (⟨"WhoeverKnowsSingsModel", "take", "(I)V"⟩, 55) := ⟨⟨by decide +kernel, by decide +kernel⟩, List.mem_of_getElem? (i := 947) (by decide +kernel), List.mem_of_getElem? (i := 1341) (by decide +kernel), List.mem_of_getElem? (i := 1342) (by decide +kernel)⟩
theorem lw_p67 : lw_okq (⟨"WhoeverKnowsSingsModel", "parts", "(II)J"⟩, 55) := ⟨⟨by decide +kernel, by decide +kernel⟩, List.mem_of_getElem? (i := 947) (by decide +kernel), List.mem_of_getElem? (i := 1365) (by decide +kernel), List.mem_of_getElem? (i := 1366) (by decide +kernel)⟩
theorem lw_p68 : lw_okq (⟨"WhoeverKnowsSingsModel", "draw", "(IIII)V"⟩, 55) := ⟨⟨by decide +kernel, by decide +kernel⟩, List.mem_of_getElem? (i := 947) (by decide +kernel), List.mem_of_getElem? (i := 1390) (by decide +kernel), List.mem_of_getElem? (i := 1391) (by decide +kernel)⟩
def lw_privs_5 : List (MethodName × Nat) := [(⟨"WhoeverKnowsSingsModel", "state", "()I"⟩, 55), (⟨"WhoeverKnowsSingsModel", "isDone", "(IIII)Z"⟩, 55), (⟨"WhoeverKnowsSingsModel", "take", "(I)V"⟩, 55), (⟨"WhoeverKnowsSingsModel", "parts", "(II)J"⟩, 55), (⟨"WhoeverKnowsSingsModel", "draw", "(IIII)V"⟩, 55)]
theorem lw_r5 : ∀ q ∈ lw_privs_5, lw_okq q := List.forall_mem_cons.mpr ⟨lw_p64, List.forall_mem_cons.mpr ⟨lw_p65, List.forall_mem_cons.mpr ⟨lw_p66, List.forall_mem_cons.mpr ⟨lw_p67, List.forall_mem_cons.mpr ⟨lw_p68, fun _ h => absurd h List.not_mem_nil⟩⟩⟩⟩⟩
def lw_privs : List (MethodName × Nat) := lw_privs_1 ++ (lw_privs_2 ++ (lw_privs_3 ++ (lw_privs_4 ++ (lw_privs_5))))
def lw_tbl : List Cond := k2_sels lw_privs ++ tables_1
theorem lw_privs_ok : ∀ q ∈ lw_privs, lw_okq q := by
  show ∀ q ∈ lw_privs_1 ++ (lw_privs_2 ++ (lw_privs_3 ++ (lw_privs_4 ++ (lw_privs_5)))), lw_okq q
  exact List.forall_mem_append.mpr ⟨lw_r1, List.forall_mem_append.mpr ⟨lw_r2, List.forall_mem_append.mpr ⟨lw_r3, List.forall_mem_append.mpr ⟨lw_r4, lw_r5⟩⟩⟩⟩
def RX0 : String := "WhoeverKnowsSings$Image"
def TX0 : u_T := fun k => match k with
  | 0 => ("WhoeverKnowsSings$Image", "known", "LWhoeverKnowsSings$Known;", true)
  | 1 => ("WhoeverKnowsSings$Image", "thin", "[I", true)
  | 2 => ("WhoeverKnowsSings$Image", "seats", "[I", true)
  | 3 => ("WhoeverKnowsSings$Image", "isKept", "Z", false)
  | 4 => ("WhoeverKnowsSings$Image", "people", "I", false)
  | 5 => ("WhoeverKnowsSings$Image", "evenings", "I", false)
  | _ => ("WhoeverKnowsSings$Image", "law", "I", false)
def tyX0 : Nat → FieldType := fun k => match k with
  | 0 => .object "WhoeverKnowsSings$Known"
  | 1 => .array .int
  | 2 => .array .int
  | 3 => .boolean
  | 4 => .int
  | 5 => .int
  | _ => .int
abbrev wsX00 : List Cond := u_ws RX0 TX0 7
theorem nmX0 : ∀ a, a < 7 → ∀ b, b < 7 → a ≠ b → (TX0 a).2.1 ≠ (TX0 b).2.1 := by decide +kernel
theorem tyX0_ok : ∀ k, k < 7 → parseFieldDescriptor (TX0 k).2.2.1 = some (tyX0 k) := by decide +kernel
abbrev cX0_init : ByteArray := prog_2_method_1_code
def yX0_init : MethodName := ⟨RX0, "<init>", "()V"⟩
def RX1 : String := "WhoeverKnowsSings$Known"
def TX1 : u_T := fun k => match k with
  | 0 => ("WhoeverKnowsSings$Known", "whole", "[I", true)
  | 1 => ("WhoeverKnowsSings$Known", "half", "[I", true)
  | _ => ("WhoeverKnowsSings$Known", "wrong", "[I", true)
def tyX1 : Nat → FieldType := fun k => match k with
  | 0 => .array .int
  | 1 => .array .int
  | _ => .array .int
abbrev wsX10 : List Cond := u_ws RX1 TX1 3
theorem nmX1 : ∀ a, a < 3 → ∀ b, b < 3 → a ≠ b → (TX1 a).2.1 ≠ (TX1 b).2.1 := by decide +kernel
theorem tyX1_ok : ∀ k, k < 3 → parseFieldDescriptor (TX1 k).2.2.1 = some (tyX1 k) := by decide +kernel
abbrev cX1_init : ByteArray := prog_3_method_1_code
def yX1_init : MethodName := ⟨RX1, "<init>", "()V"⟩
abbrev cX1_amount : ByteArray := prog_3_method_2_code
def yX1_amount : MethodName := ⟨RX1, "amount", "(II)I"⟩
abbrev cX1_put : ByteArray := prog_3_method_3_code
def yX1_put : MethodName := ⟨RX1, "put", "(III)V"⟩
abbrev cX1_who : ByteArray := prog_3_method_4_code
def yX1_who : MethodName := ⟨RX1, "who", "(II)I"⟩
abbrev cX1_take : ByteArray := prog_3_method_5_code
def yX1_take : MethodName := ⟨RX1, "take", "(LWhoeverKnowsSings$Known;)V"⟩
abbrev cX1_takeOf : ByteArray := prog_3_method_6_code
def yX1_takeOf : MethodName := ⟨RX1, "takeOf", "(ILWhoeverKnowsSings$Known;)V"⟩
def RX2 : String := "WhoeverKnowsSings$People"
def TX2 : u_T := fun k => match k with
  | 0 => ("WhoeverKnowsSings$People", "kind", "[I", true)
  | 1 => ("WhoeverKnowsSings$People", "dies", "[I", true)
  | 2 => ("WhoeverKnowsSings$People", "more", "[I", true)
  | 3 => ("WhoeverKnowsSings$People", "size", "I", false)
  | 4 => ("WhoeverKnowsSings$People", "singing", "[I", true)
  | 5 => ("WhoeverKnowsSings$People", "wholeThen", "[I", true)
  | 6 => ("WhoeverKnowsSings$People", "halfThen", "[I", true)
  | _ => ("WhoeverKnowsSings$People", "spoiling", "I", false)
def tyX2 : Nat → FieldType := fun k => match k with
  | 0 => .array .int
  | 1 => .array .int
  | 2 => .array .int
  | 3 => .int
  | 4 => .array .int
  | 5 => .array .int
  | 6 => .array .int
  | _ => .int
abbrev wsX20 : List Cond := u_ws RX2 TX2 8
theorem nmX2 : ∀ a, a < 8 → ∀ b, b < 8 → a ≠ b → (TX2 a).2.1 ≠ (TX2 b).2.1 := by decide +kernel
theorem tyX2_ok : ∀ k, k < 8 → parseFieldDescriptor (TX2 k).2.2.1 = some (tyX2 k) := by decide +kernel
abbrev cX2_init : ByteArray := prog_4_method_1_code
def yX2_init : MethodName := ⟨RX2, "<init>", "()V"⟩
abbrev cX2_everyone : ByteArray := prog_4_method_2_code
def yX2_everyone : MethodName := ⟨RX2, "everyone", "()I"⟩
abbrev cX2_come : ByteArray := prog_4_method_3_code
def yX2_come : MethodName := ⟨RX2, "come", "(III)I"⟩
abbrev cX2_note : ByteArray := prog_4_method_4_code
def yX2_note : MethodName := ⟨RX2, "note", "(I)V"⟩
abbrev cX2_singsBefore : ByteArray := prog_4_method_5_code
def yX2_singsBefore : MethodName := ⟨RX2, "singsBefore", "(III)Z"⟩
abbrev cX2_knowsThen : ByteArray := prog_4_method_6_code
def yX2_knowsThen : MethodName := ⟨RX2, "knowsThen", "(III)I"⟩
abbrev cX2_isOf : ByteArray := prog_4_method_7_code
def yX2_isOf : MethodName := ⟨RX2, "isOf", "(II)Z"⟩
abbrev cX2_singers : ByteArray := prog_4_method_8_code
def yX2_singers : MethodName := ⟨RX2, "singers", "(II)I"⟩
abbrev cX2_anySpoils : ByteArray := prog_4_method_9_code
def yX2_anySpoils : MethodName := ⟨RX2, "anySpoils", "(I)Z"⟩
abbrev cX2_wholeOf : ByteArray := prog_4_method_10_code
def yX2_wholeOf : MethodName := ⟨RX2, "wholeOf", "(III)I"⟩
abbrev cX2_halfOf : ByteArray := prog_4_method_11_code
def yX2_halfOf : MethodName := ⟨RX2, "halfOf", "(III)I"⟩
def RX3 : String := "WhoeverKnowsSings$Plans"
def TX3 : u_T := fun k => match k with
  | 0 => ("WhoeverKnowsSings$Plans", "fewest", "I", false)
  | 1 => ("WhoeverKnowsSings$Plans", "leastFirst", "I", false)
  | 2 => ("WhoeverKnowsSings$Plans", "people", "LWhoeverKnowsSings$People;", true)
  | 3 => ("WhoeverKnowsSings$Plans", "singing", "LWhoeverKnowsSings$Singing;", true)
  | 4 => ("WhoeverKnowsSings$Plans", "first", "LWhoeverKnowsSings$Known;", true)
  | 5 => ("WhoeverKnowsSings$Plans", "then", "LWhoeverKnowsSings$Known;", true)
  | 6 => ("WhoeverKnowsSings$Plans", "marks", "[I", true)
  | 7 => ("WhoeverKnowsSings$Plans", "wholes", "[I", true)
  | 8 => ("WhoeverKnowsSings$Plans", "halves", "[I", true)
  | 9 => ("WhoeverKnowsSings$Plans", "spent", "[I", true)
  | 10 => ("WhoeverKnowsSings$Plans", "firstOf", "[I", true)
  | 11 => ("WhoeverKnowsSings$Plans", "reached", "I", false)
  | 12 => ("WhoeverKnowsSings$Plans", "lessons", "[I", true)
  | 13 => ("WhoeverKnowsSings$Plans", "song", "I", false)
  | _ => ("WhoeverKnowsSings$Plans", "seats", "I", false)
def tyX3 : Nat → FieldType := fun k => match k with
  | 0 => .int
  | 1 => .int
  | 2 => .object "WhoeverKnowsSings$People"
  | 3 => .object "WhoeverKnowsSings$Singing"
  | 4 => .object "WhoeverKnowsSings$Known"
  | 5 => .object "WhoeverKnowsSings$Known"
  | 6 => .array .int
  | 7 => .array .int
  | 8 => .array .int
  | 9 => .array .int
  | 10 => .array .int
  | 11 => .int
  | 12 => .array .int
  | 13 => .int
  | _ => .int
abbrev wsX30 : List Cond := u_ws RX3 TX3 15
theorem nmX3 : ∀ a, a < 15 → ∀ b, b < 15 → a ≠ b → (TX3 a).2.1 ≠ (TX3 b).2.1 := by decide +kernel
theorem tyX3_ok : ∀ k, k < 15 → parseFieldDescriptor (TX3 k).2.2.1 = some (tyX3 k) := by decide +kernel
abbrev cX3_init : ByteArray := prog_5_method_1_code
def yX3_init : MethodName := ⟨RX3, "<init>", "(LWhoeverKnowsSings$People;LWhoeverKnowsSings$Singing;LWhoeverKnowsSings$Known;)V"⟩
abbrev cX3_prepare : ByteArray := prog_5_method_2_code
def yX3_prepare : MethodName := ⟨RX3, "prepare", "(LWhoeverKnowsSings$Text;III)V"⟩
abbrev cX3_seek : ByteArray := prog_5_method_3_code
def yX3_seek : MethodName := ⟨RX3, "seek", "(III)I"⟩
abbrev cX3_standing : ByteArray := prog_5_method_4_code
def yX3_standing : MethodName := ⟨RX3, "standing", "(II)I"⟩
abbrev cX3_goOn : ByteArray := prog_5_method_5_code
def yX3_goOn : MethodName := ⟨RX3, "goOn", "(IIII)V"⟩
abbrev cX3_isMoved : ByteArray := prog_5_method_6_code
def yX3_isMoved : MethodName := ⟨RX3, "isMoved", "(III)Z"⟩
abbrev cX3_isLesson : ByteArray := prog_5_method_7_code
def yX3_isLesson : MethodName := ⟨RX3, "isLesson", "(III)Z"⟩
abbrev cX3_reach : ByteArray := prog_5_method_8_code
def yX3_reach : MethodName := ⟨RX3, "reach", "(IIII)V"⟩
def RX4 : String := "WhoeverKnowsSings$Reader"
def TX4 : u_T := fun k => match k with
  | 0 => ("WhoeverKnowsSings$Reader", "tape", "[I", true)
  | 1 => ("WhoeverKnowsSings$Reader", "size", "I", false)
  | 2 => ("WhoeverKnowsSings$Reader", "fault", "I", false)
  | 3 => ("WhoeverKnowsSings$Reader", "steps", "[I", true)
  | 4 => ("WhoeverKnowsSings$Reader", "length", "I", false)
  | 5 => ("WhoeverKnowsSings$Reader", "token", "I", false)
  | 6 => ("WhoeverKnowsSings$Reader", "start", "I", false)
  | 7 => ("WhoeverKnowsSings$Reader", "behind", "I", false)
  | _ => ("WhoeverKnowsSings$Reader", "number", "I", false)
def tyX4 : Nat → FieldType := fun k => match k with
  | 0 => .array .int
  | 1 => .int
  | 2 => .int
  | 3 => .array .int
  | 4 => .int
  | 5 => .int
  | 6 => .int
  | 7 => .int
  | _ => .int
abbrev wsX40 : List Cond := u_ws RX4 TX4 9
theorem nmX4 : ∀ a, a < 9 → ∀ b, b < 9 → a ≠ b → (TX4 a).2.1 ≠ (TX4 b).2.1 := by decide +kernel
theorem tyX4_ok : ∀ k, k < 9 → parseFieldDescriptor (TX4 k).2.2.1 = some (tyX4 k) := by decide +kernel
abbrev cX4_init : ByteArray := prog_6_method_1_code
def yX4_init : MethodName := ⟨RX4, "<init>", "()V"⟩
abbrev cX4_add : ByteArray := prog_6_method_2_code
def yX4_add : MethodName := ⟨RX4, "add", "(I)V"⟩
abbrev cX4_clear : ByteArray := prog_6_method_3_code
def yX4_clear : MethodName := ⟨RX4, "clear", "()V"⟩
abbrev cX4_read : ByteArray := prog_6_method_4_code
def yX4_read : MethodName := ⟨RX4, "read", "()LWhoeverKnowsSings$Text;"⟩
abbrev cX4_readPart : ByteArray := prog_6_method_5_code
def yX4_readPart : MethodName := ⟨RX4, "readPart", "(I)V"⟩
abbrev cX4_readOr : ByteArray := prog_6_method_6_code
def yX4_readOr : MethodName := ⟨RX4, "readOr", "(I)V"⟩
abbrev cX4_readAnd : ByteArray := prog_6_method_7_code
def yX4_readAnd : MethodName := ⟨RX4, "readAnd", "(I)V"⟩
abbrev cX4_readNot : ByteArray := prog_6_method_8_code
def yX4_readNot : MethodName := ⟨RX4, "readNot", "(I)V"⟩
abbrev cX4_readSum : ByteArray := prog_6_method_9_code
def yX4_readSum : MethodName := ⟨RX4, "readSum", "(I)V"⟩
abbrev cX4_readTerm : ByteArray := prog_6_method_10_code
def yX4_readTerm : MethodName := ⟨RX4, "readTerm", "(I)V"⟩
abbrev cX4_readSingle : ByteArray := prog_6_method_11_code
def yX4_readSingle : MethodName := ⟨RX4, "readSingle", "(I)V"⟩
abbrev cX4_step : ByteArray := prog_6_method_12_code
def yX4_step : MethodName := ⟨RX4, "step", "(I)V"⟩
abbrev cX4_expect : ByteArray := prog_6_method_13_code
def yX4_expect : MethodName := ⟨RX4, "expect", "(I)V"⟩
abbrev cX4_fail : ByteArray := prog_6_method_14_code
def yX4_fail : MethodName := ⟨RX4, "fail", "()V"⟩
abbrev cX4_next : ByteArray := prog_6_method_15_code
def yX4_next : MethodName := ⟨RX4, "next", "()V"⟩
abbrev cX4_readWord : ByteArray := prog_6_method_16_code
def yX4_readWord : MethodName := ⟨RX4, "readWord", "()V"⟩
abbrev cX4_readNumber : ByteArray := prog_6_method_17_code
def yX4_readNumber : MethodName := ⟨RX4, "readNumber", "()V"⟩
abbrev cX4_readSign : ByteArray := prog_6_method_18_code
def yX4_readSign : MethodName := ⟨RX4, "readSign", "()V"⟩
abbrev cX4_isLetter : ByteArray := prog_6_method_19_code
def yX4_isLetter : MethodName := ⟨RX4, "isLetter", "(I)Z"⟩
abbrev cX4_isDigit : ByteArray := prog_6_method_20_code
def yX4_isDigit : MethodName := ⟨RX4, "isDigit", "(I)Z"⟩
abbrev cX4_wordToken : ByteArray := prog_6_method_21_code
def yX4_wordToken : MethodName := ⟨RX4, "wordToken", "()I"⟩
abbrev cX4_spells : ByteArray := prog_6_method_22_code
def yX4_spells : MethodName := ⟨RX4, "spells", "(Ljava/lang/String;)Z"⟩
def RX5 : String := "WhoeverKnowsSings$Sheet"
def TX5 : u_T := fun k => match k with
  | 0 => ("WhoeverKnowsSings$Sheet", "cells", "[I", true)
  | 1 => ("WhoeverKnowsSings$Sheet", "sort", "I", false)
  | _ => ("WhoeverKnowsSings$Sheet", "size", "I", false)
def tyX5 : Nat → FieldType := fun k => match k with
  | 0 => .array .int
  | 1 => .int
  | _ => .int
abbrev wsX50 : List Cond := u_ws RX5 TX5 3
theorem nmX5 : ∀ a, a < 3 → ∀ b, b < 3 → a ≠ b → (TX5 a).2.1 ≠ (TX5 b).2.1 := by decide +kernel
theorem tyX5_ok : ∀ k, k < 3 → parseFieldDescriptor (TX5 k).2.2.1 = some (tyX5 k) := by decide +kernel
abbrev cX5_init : ByteArray := prog_7_method_1_code
def yX5_init : MethodName := ⟨RX5, "<init>", "()V"⟩
abbrev cX5_become : ByteArray := prog_7_method_2_code
def yX5_become : MethodName := ⟨RX5, "become", "(II)V"⟩
abbrev cX5_has : ByteArray := prog_7_method_3_code
def yX5_has : MethodName := ⟨RX5, "has", "(I)Z"⟩
abbrev cX5_hasRange : ByteArray := prog_7_method_4_code
def yX5_hasRange : MethodName := ⟨RX5, "hasRange", "(II)Z"⟩
abbrev cX5_at : ByteArray := prog_7_method_5_code
def yX5_at : MethodName := ⟨RX5, "at", "(I)I"⟩
abbrev cX5_put : ByteArray := prog_7_method_6_code
def yX5_put : MethodName := ⟨RX5, "put", "(II)V"⟩
def RX6 : String := "WhoeverKnowsSings$Singing"
def TX6 : u_T := fun k => match k with
  | 0 => ("WhoeverKnowsSings$Singing", "people", "LWhoeverKnowsSings$People;", true)
  | 1 => ("WhoeverKnowsSings$Singing", "needed", "[I", true)
  | 2 => ("WhoeverKnowsSings$Singing", "stack", "[I", true)
  | 3 => ("WhoeverKnowsSings$Singing", "names", "[I", true)
  | 4 => ("WhoeverKnowsSings$Singing", "text", "LWhoeverKnowsSings$Text;", false)
  | _ => ("WhoeverKnowsSings$Singing", "song", "I", false)
def tyX6 : Nat → FieldType := fun k => match k with
  | 0 => .object "WhoeverKnowsSings$People"
  | 1 => .array .int
  | 2 => .array .int
  | 3 => .array .int
  | 4 => .object "WhoeverKnowsSings$Text"
  | _ => .int
abbrev wsX60 : List Cond := u_ws RX6 TX6 6
theorem nmX6 : ∀ a, a < 6 → ∀ b, b < 6 → a ≠ b → (TX6 a).2.1 ≠ (TX6 b).2.1 := by decide +kernel
theorem tyX6_ok : ∀ k, k < 6 → parseFieldDescriptor (TX6 k).2.2.1 = some (tyX6 k) := by decide +kernel
abbrev cX6_init : ByteArray := prog_8_method_1_code
def yX6_init : MethodName := ⟨RX6, "<init>", "(LWhoeverKnowsSings$People;[I)V"⟩
abbrev cX6_begin : ByteArray := prog_8_method_2_code
def yX6_begin : MethodName := ⟨RX6, "begin", "(LWhoeverKnowsSings$Text;III)V"⟩
abbrev cX6_before : ByteArray := prog_8_method_3_code
def yX6_before : MethodName := ⟨RX6, "before", "(III)V"⟩
abbrev cX6_may : ByteArray := prog_8_method_4_code
def yX6_may : MethodName := ⟨RX6, "may", "(LWhoeverKnowsSings$Known;I)Z"⟩
abbrev cX6_spread : ByteArray := prog_8_method_5_code
def yX6_spread : MethodName := ⟨RX6, "spread", "(LWhoeverKnowsSings$Known;II)V"⟩
abbrev cX6_singers : ByteArray := prog_8_method_6_code
def yX6_singers : MethodName := ⟨RX6, "singers", "(LWhoeverKnowsSings$Known;I)I"⟩
abbrev cX6_able : ByteArray := prog_8_method_7_code
def yX6_able : MethodName := ⟨RX6, "able", "(LWhoeverKnowsSings$Known;)I"⟩
abbrev cX6_couldTeach : ByteArray := prog_8_method_8_code
def yX6_couldTeach : MethodName := ⟨RX6, "couldTeach", "(LWhoeverKnowsSings$Known;I)Z"⟩
abbrev cX6_hear : ByteArray := prog_8_method_9_code
def yX6_hear : MethodName := ⟨RX6, "hear", "(LWhoeverKnowsSings$Known;III)V"⟩
abbrev cX6_says : ByteArray := prog_8_method_10_code
def yX6_says : MethodName := ⟨RX6, "says", "(I)Z"⟩
abbrev cX6_valueOf : ByteArray := prog_8_method_11_code
def yX6_valueOf : MethodName := ⟨RX6, "valueOf", "(I)I"⟩
abbrev cX6_unary : ByteArray := prog_8_method_12_code
def yX6_unary : MethodName := ⟨RX6, "unary", "(II)I"⟩
abbrev cX6_binary : ByteArray := prog_8_method_13_code
def yX6_binary : MethodName := ⟨RX6, "binary", "(III)I"⟩
def RX7 : String := "WhoeverKnowsSings$Text"
def TX7 : u_T := fun k => match k with
  | 0 => ("WhoeverKnowsSings$Text", "steps", "[I", true)
  | 1 => ("WhoeverKnowsSings$Text", "learnAt", "I", true)
  | _ => ("WhoeverKnowsSings$Text", "wallAt", "I", true)
def tyX7 : Nat → FieldType := fun k => match k with
  | 0 => .array .int
  | 1 => .int
  | _ => .int
abbrev wsX70 : List Cond := u_ws RX7 TX7 3
theorem nmX7 : ∀ a, a < 3 → ∀ b, b < 3 → a ≠ b → (TX7 a).2.1 ≠ (TX7 b).2.1 := by decide +kernel
theorem tyX7_ok : ∀ k, k < 3 → parseFieldDescriptor (TX7 k).2.2.1 = some (tyX7 k) := by decide +kernel
abbrev cX7_init : ByteArray := prog_9_method_1_code
def yX7_init : MethodName := ⟨RX7, "<init>", "([III)V"⟩
abbrev cX7_from : ByteArray := prog_9_method_2_code
def yX7_from : MethodName := ⟨RX7, "from", "(I)I"⟩
abbrev cX7_to : ByteArray := prog_9_method_3_code
def yX7_to : MethodName := ⟨RX7, "to", "(I)I"⟩
def RX8 : String := "WhoeverKnowsSings"
def TX8 : u_T := fun k => match k with
  | 0 => ("WhoeverKnowsSings", "people", "LWhoeverKnowsSings$People;", true)
  | 1 => ("WhoeverKnowsSings", "needed", "[I", true)
  | 2 => ("WhoeverKnowsSings", "first", "LWhoeverKnowsSings$Known;", true)
  | 3 => ("WhoeverKnowsSings", "now", "LWhoeverKnowsSings$Known;", true)
  | 4 => ("WhoeverKnowsSings", "singing", "LWhoeverKnowsSings$Singing;", true)
  | 5 => ("WhoeverKnowsSings", "plans", "LWhoeverKnowsSings$Plans;", true)
  | 6 => ("WhoeverKnowsSings", "reader", "LWhoeverKnowsSings$Reader;", true)
  | 7 => ("WhoeverKnowsSings", "texts", "[LWhoeverKnowsSings$Text;", true)
  | 8 => ("WhoeverKnowsSings", "thin", "[I", true)
  | 9 => ("WhoeverKnowsSings", "seats", "[I", true)
  | 10 => ("WhoeverKnowsSings", "evenings", "[[I", true)
  | 11 => ("WhoeverKnowsSings", "sheets", "[LWhoeverKnowsSings$Sheet;", true)
  | 12 => ("WhoeverKnowsSings", "kept", "LWhoeverKnowsSings$Image;", true)
  | 13 => ("WhoeverKnowsSings", "songCount", "I", false)
  | 14 => ("WhoeverKnowsSings", "eveningCount", "I", false)
  | 15 => ("WhoeverKnowsSings", "textCount", "I", false)
  | _ => ("WhoeverKnowsSings", "law", "I", false)
def tyX8 : Nat → FieldType := fun k => match k with
  | 0 => .object "WhoeverKnowsSings$People"
  | 1 => .array .int
  | 2 => .object "WhoeverKnowsSings$Known"
  | 3 => .object "WhoeverKnowsSings$Known"
  | 4 => .object "WhoeverKnowsSings$Singing"
  | 5 => .object "WhoeverKnowsSings$Plans"
  | 6 => .object "WhoeverKnowsSings$Reader"
  | 7 => .array (.object "WhoeverKnowsSings$Text")
  | 8 => .array .int
  | 9 => .array .int
  | 10 => .array (.array .int)
  | 11 => .array (.object "WhoeverKnowsSings$Sheet")
  | 12 => .object "WhoeverKnowsSings$Image"
  | 13 => .int
  | 14 => .int
  | 15 => .int
  | _ => .int
abbrev wsX80 : List Cond := u_ws RX8 TX8 17
theorem nmX8 : ∀ a, a < 17 → ∀ b, b < 17 → a ≠ b → (TX8 a).2.1 ≠ (TX8 b).2.1 := by decide +kernel
theorem tyX8_ok : ∀ k, k < 17 → parseFieldDescriptor (TX8 k).2.2.1 = some (tyX8 k) := by decide +kernel
abbrev cX8_init : ByteArray := prog_1_method_1_code
def yX8_init : MethodName := ⟨RX8, "<init>", "()V"⟩
abbrev cX8_wall : ByteArray := prog_1_method_2_code
def yX8_wall : MethodName := ⟨RX8, "wall", "(III)I"⟩
abbrev cX8_seat : ByteArray := prog_1_method_3_code
def yX8_seat : MethodName := ⟨RX8, "seat", "(II)I"⟩
abbrev cX8_count : ByteArray := prog_1_method_4_code
def yX8_count : MethodName := ⟨RX8, "count", "(I)I"⟩
abbrev cX8_feed : ByteArray := prog_1_method_5_code
def yX8_feed : MethodName := ⟨RX8, "feed", "(IIIIII)I"⟩
abbrev cX8_text : ByteArray := prog_1_method_6_code
def yX8_text : MethodName := ⟨RX8, "text", "()I"⟩
abbrev cX8_force : ByteArray := prog_1_method_7_code
def yX8_force : MethodName := ⟨RX8, "force", "(I)I"⟩
abbrev cX8_asks : ByteArray := prog_1_method_8_code
def yX8_asks : MethodName := ⟨RX8, "asks", "(IIII)I"⟩
abbrev cX8_song : ByteArray := prog_1_method_9_code
def yX8_song : MethodName := ⟨RX8, "song", "(I)I"⟩
abbrev cX8_needs : ByteArray := prog_1_method_10_code
def yX8_needs : MethodName := ⟨RX8, "needs", "(I)I"⟩
abbrev cX8_person : ByteArray := prog_1_method_11_code
def yX8_person : MethodName := ⟨RX8, "person", "(III)I"⟩
abbrev cX8_teach : ByteArray := prog_1_method_12_code
def yX8_teach : MethodName := ⟨RX8, "teach", "(III)I"⟩
abbrev cX8_told : ByteArray := prog_1_method_13_code
def yX8_told : MethodName := ⟨RX8, "told", "(II)I"⟩
abbrev cX8_evening : ByteArray := prog_1_method_14_code
def yX8_evening : MethodName := ⟨RX8, "evening", "(III)I"⟩
abbrev cX8_forget : ByteArray := prog_1_method_15_code
def yX8_forget : MethodName := ⟨RX8, "forget", "()I"⟩
abbrev cX8_eveningTold : ByteArray := prog_1_method_16_code
def yX8_eveningTold : MethodName := ⟨RX8, "eveningTold", "(II)I"⟩
abbrev cX8_knows : ByteArray := prog_1_method_17_code
def yX8_knows : MethodName := ⟨RX8, "knows", "(III)I"⟩
abbrev cX8_all : ByteArray := prog_1_method_18_code
def yX8_all : MethodName := ⟨RX8, "all", "(III)I"⟩
abbrev cX8_judge : ByteArray := prog_1_method_19_code
def yX8_judge : MethodName := ⟨RX8, "judge", "()I"⟩
abbrev cX8_laws : ByteArray := prog_1_method_20_code
def yX8_laws : MethodName := ⟨RX8, "laws", "()I"⟩
abbrev cX8_feast : ByteArray := prog_1_method_21_code
def yX8_feast : MethodName := ⟨RX8, "feast", "(II)I"⟩
abbrev cX8_leave : ByteArray := prog_1_method_22_code
def yX8_leave : MethodName := ⟨RX8, "leave", "(III)I"⟩
abbrev cX8_bars : ByteArray := prog_1_method_23_code
def yX8_bars : MethodName := ⟨RX8, "bars", "(III)I"⟩
abbrev cX8_ends : ByteArray := prog_1_method_24_code
def yX8_ends : MethodName := ⟨RX8, "ends", "(II)I"⟩
abbrev cX8_least : ByteArray := prog_1_method_25_code
def yX8_least : MethodName := ⟨RX8, "least", "(IIIII)I"⟩
abbrev cX8_why : ByteArray := prog_1_method_26_code
def yX8_why : MethodName := ⟨RX8, "why", "(IIII)I"⟩
abbrev cX8_place : ByteArray := prog_1_method_27_code
def yX8_place : MethodName := ⟨RX8, "place", "(III)I"⟩
abbrev cX8_whole : ByteArray := prog_1_method_28_code
def yX8_whole : MethodName := ⟨RX8, "whole", "(II)I"⟩
abbrev cX8_was : ByteArray := prog_1_method_29_code
def yX8_was : MethodName := ⟨RX8, "was", "(IIII)I"⟩
abbrev cX8_lost : ByteArray := prog_1_method_30_code
def yX8_lost : MethodName := ⟨RX8, "lost", "(II)J"⟩
abbrev cX8_keep : ByteArray := prog_1_method_31_code
def yX8_keep : MethodName := ⟨RX8, "keep", "(II)I"⟩
abbrev cX8_rarest : ByteArray := prog_1_method_32_code
def yX8_rarest : MethodName := ⟨RX8, "rarest", "()I"⟩
abbrev cX8_drawn : ByteArray := prog_1_method_33_code
def yX8_drawn : MethodName := ⟨RX8, "drawn", "(IIII)I"⟩
abbrev cX8_odds : ByteArray := prog_1_method_34_code
def yX8_odds : MethodName := ⟨RX8, "odds", "(IIIII)J"⟩
abbrev cX8_image : ByteArray := prog_1_method_35_code
def yX8_image : MethodName := ⟨RX8, "image", "()I"⟩
abbrev cX8_back : ByteArray := prog_1_method_36_code
def yX8_back : MethodName := ⟨RX8, "back", "()I"⟩
abbrev cX8_sheet : ByteArray := prog_1_method_37_code
def yX8_sheet : MethodName := ⟨RX8, "sheet", "(III)I"⟩
abbrev cX8_cell : ByteArray := prog_1_method_38_code
def yX8_cell : MethodName := ⟨RX8, "cell", "(III)I"⟩
abbrev cX8_copy : ByteArray := prog_1_method_39_code
def yX8_copy : MethodName := ⟨RX8, "copy", "(IIIII)I"⟩
abbrev cX8_peopleBy : ByteArray := prog_1_method_40_code
def yX8_peopleBy : MethodName := ⟨RX8, "peopleBy", "(IIII)I"⟩
abbrev cX8_taken : ByteArray := prog_1_method_41_code
def yX8_taken : MethodName := ⟨RX8, "taken", "(II)I"⟩
abbrev cX8_isRoom : ByteArray := prog_1_method_42_code
def yX8_isRoom : MethodName := ⟨RX8, "isRoom", "(I)Z"⟩
abbrev cX8_isSheet : ByteArray := prog_1_method_43_code
def yX8_isSheet : MethodName := ⟨RX8, "isSheet", "(I)Z"⟩
abbrev cX8_isSeed : ByteArray := prog_1_method_44_code
def yX8_isSeed : MethodName := ⟨RX8, "isSeed", "(I)Z"⟩
abbrev cX8_isHow : ByteArray := prog_1_method_45_code
def yX8_isHow : MethodName := ⟨RX8, "isHow", "(I)Z"⟩
abbrev cX8_isSong : ByteArray := prog_1_method_46_code
def yX8_isSong : MethodName := ⟨RX8, "isSong", "(I)Z"⟩
abbrev cX8_isOne : ByteArray := prog_1_method_47_code
def yX8_isOne : MethodName := ⟨RX8, "isOne", "(I)Z"⟩
abbrev cX8_arePeople : ByteArray := prog_1_method_48_code
def yX8_arePeople : MethodName := ⟨RX8, "arePeople", "(I)Z"⟩
abbrev cX8_isBehind : ByteArray := prog_1_method_49_code
def yX8_isBehind : MethodName := ⟨RX8, "isBehind", "(I)Z"⟩
abbrev cX8_lawText : ByteArray := prog_1_method_50_code
def yX8_lawText : MethodName := ⟨RX8, "lawText", "()LWhoeverKnowsSings$Text;"⟩
abbrev cX8_rowOf : ByteArray := prog_1_method_51_code
def yX8_rowOf : MethodName := ⟨RX8, "rowOf", "(I)LWhoeverKnowsSings$Sheet;"⟩
abbrev cX8_tellsRooms : ByteArray := prog_1_method_52_code
def yX8_tellsRooms : MethodName := ⟨RX8, "tellsRooms", "(LWhoeverKnowsSings$Sheet;)Z"⟩
abbrev cX8_isSeated : ByteArray := prog_1_method_53_code
def yX8_isSeated : MethodName := ⟨RX8, "isSeated", "(LWhoeverKnowsSings$Sheet;)Z"⟩
abbrev cX8_live : ByteArray := prog_1_method_54_code
def yX8_live : MethodName := ⟨RX8, "live", "(ILWhoeverKnowsSings$Text;)I"⟩
abbrev cX8_peopleIn : ByteArray := prog_1_method_55_code
def yX8_peopleIn : MethodName := ⟨RX8, "peopleIn", "([II)I"⟩
abbrev cX8_mayAtFirst : ByteArray := prog_1_method_56_code
def yX8_mayAtFirst : MethodName := ⟨RX8, "mayAtFirst", "(III)Z"⟩
abbrev cX8_isOverFor : ByteArray := prog_1_method_57_code
def yX8_isOverFor : MethodName := ⟨RX8, "isOverFor", "(III)Z"⟩
abbrev cX8_comesOf : ByteArray := prog_1_method_58_code
def yX8_comesOf : MethodName := ⟨RX8, "comesOf", "(IIILWhoeverKnowsSings$Sheet;)Z"⟩
abbrev cX8_partsLost : ByteArray := prog_1_method_59_code
def yX8_partsLost : MethodName := ⟨RX8, "partsLost", "(II)J"⟩
abbrev cX8_draw : ByteArray := prog_1_method_60_code
def yX8_draw : MethodName := ⟨RX8, "draw", "(III)V"⟩
abbrev cX8_commonDivisor : ByteArray := prog_1_method_61_code
def yX8_commonDivisor : MethodName := ⟨RX8, "commonDivisor", "(II)I"⟩
def RX9 : String := "WhoeverKnowsSingsModel"
def TX9 : u_T := fun k => match k with
  | 0 => ("WhoeverKnowsSingsModel", "thin", "[I", true)
  | 1 => ("WhoeverKnowsSingsModel", "seats", "[I", true)
  | 2 => ("WhoeverKnowsSingsModel", "songs", "I", false)
  | 3 => ("WhoeverKnowsSingsModel", "need", "[I", true)
  | 4 => ("WhoeverKnowsSingsModel", "people", "I", false)
  | 5 => ("WhoeverKnowsSingsModel", "kind", "[I", true)
  | 6 => ("WhoeverKnowsSingsModel", "dies", "[I", true)
  | 7 => ("WhoeverKnowsSingsModel", "more", "[I", true)
  | 8 => ("WhoeverKnowsSingsModel", "first", "[I", true)
  | 9 => ("WhoeverKnowsSingsModel", "evenings", "I", false)
  | 10 => ("WhoeverKnowsSingsModel", "songOf", "[I", true)
  | 11 => ("WhoeverKnowsSingsModel", "roomOf", "[I", true)
  | 12 => ("WhoeverKnowsSingsModel", "where", "[I", true)
  | 13 => ("WhoeverKnowsSingsModel", "tape", "[I", true)
  | 14 => ("WhoeverKnowsSingsModel", "taped", "I", false)
  | 15 => ("WhoeverKnowsSingsModel", "texts", "I", false)
  | 16 => ("WhoeverKnowsSingsModel", "law", "I", false)
  | 17 => ("WhoeverKnowsSingsModel", "codes", "[I", true)
  | 18 => ("WhoeverKnowsSingsModel", "codeMany", "[I", true)
  | 19 => ("WhoeverKnowsSingsModel", "at", "I", false)
  | 20 => ("WhoeverKnowsSingsModel", "token", "I", false)
  | 21 => ("WhoeverKnowsSingsModel", "worth", "I", false)
  | 22 => ("WhoeverKnowsSingsModel", "place", "I", false)
  | 23 => ("WhoeverKnowsSingsModel", "letters", "[C", true)
  | 24 => ("WhoeverKnowsSingsModel", "begins", "[I", true)
  | 25 => ("WhoeverKnowsSingsModel", "waits", "[I", true)
  | 26 => ("WhoeverKnowsSingsModel", "waiting", "I", false)
  | 27 => ("WhoeverKnowsSingsModel", "open", "I", false)
  | 28 => ("WhoeverKnowsSingsModel", "depth", "I", false)
  | 29 => ("WhoeverKnowsSingsModel", "compared", "[Z", true)
  | 30 => ("WhoeverKnowsSingsModel", "codeAt", "I", false)
  | 31 => ("WhoeverKnowsSingsModel", "made", "I", false)
  | 32 => ("WhoeverKnowsSingsModel", "stack", "[I", true)
  | 33 => ("WhoeverKnowsSingsModel", "names", "[I", true)
  | 34 => ("WhoeverKnowsSingsModel", "now", "[I", true)
  | 35 => ("WhoeverKnowsSingsModel", "singers", "I", false)
  | 36 => ("WhoeverKnowsSingsModel", "spoilt", "Z", false)
  | 37 => ("WhoeverKnowsSingsModel", "known", "[I", true)
  | 38 => ("WhoeverKnowsSingsModel", "line", "[I", true)
  | 39 => ("WhoeverKnowsSingsModel", "far", "[I", true)
  | 40 => ("WhoeverKnowsSingsModel", "begun", "[I", true)
  | 41 => ("WhoeverKnowsSingsModel", "bestFar", "I", false)
  | 42 => ("WhoeverKnowsSingsModel", "bestBegun", "I", false)
  | 43 => ("WhoeverKnowsSingsModel", "kept", "Z", false)
  | 44 => ("WhoeverKnowsSingsModel", "thinThen", "[I", true)
  | 45 => ("WhoeverKnowsSingsModel", "seatsThen", "[I", true)
  | 46 => ("WhoeverKnowsSingsModel", "firstThen", "[I", true)
  | 47 => ("WhoeverKnowsSingsModel", "peopleThen", "I", false)
  | 48 => ("WhoeverKnowsSingsModel", "songsThen", "I", false)
  | 49 => ("WhoeverKnowsSingsModel", "eveningsThen", "I", false)
  | 50 => ("WhoeverKnowsSingsModel", "lawThen", "I", false)
  | 51 => ("WhoeverKnowsSingsModel", "sorts", "[I", true)
  | 52 => ("WhoeverKnowsSingsModel", "sizes", "[I", true)
  | 53 => ("WhoeverKnowsSingsModel", "items", "[I", true)
  | _ => ("WhoeverKnowsSingsModel", "moved", "[I", true)
def tyX9 : Nat → FieldType := fun k => match k with
  | 0 => .array .int
  | 1 => .array .int
  | 2 => .int
  | 3 => .array .int
  | 4 => .int
  | 5 => .array .int
  | 6 => .array .int
  | 7 => .array .int
  | 8 => .array .int
  | 9 => .int
  | 10 => .array .int
  | 11 => .array .int
  | 12 => .array .int
  | 13 => .array .int
  | 14 => .int
  | 15 => .int
  | 16 => .int
  | 17 => .array .int
  | 18 => .array .int
  | 19 => .int
  | 20 => .int
  | 21 => .int
  | 22 => .int
  | 23 => .array .char
  | 24 => .array .int
  | 25 => .array .int
  | 26 => .int
  | 27 => .int
  | 28 => .int
  | 29 => .array .boolean
  | 30 => .int
  | 31 => .int
  | 32 => .array .int
  | 33 => .array .int
  | 34 => .array .int
  | 35 => .int
  | 36 => .boolean
  | 37 => .array .int
  | 38 => .array .int
  | 39 => .array .int
  | 40 => .array .int
  | 41 => .int
  | 42 => .int
  | 43 => .boolean
  | 44 => .array .int
  | 45 => .array .int
  | 46 => .array .int
  | 47 => .int
  | 48 => .int
  | 49 => .int
  | 50 => .int
  | 51 => .array .int
  | 52 => .array .int
  | 53 => .array .int
  | _ => .array .int
abbrev wsX90 : List Cond := u_ws RX9 TX9 55
theorem nmX9 : ∀ a, a < 55 → ∀ b, b < 55 → a ≠ b → (TX9 a).2.1 ≠ (TX9 b).2.1 := by decide +kernel
theorem tyX9_ok : ∀ k, k < 55 → parseFieldDescriptor (TX9 k).2.2.1 = some (tyX9 k) := by decide +kernel
abbrev cX9_isIn : ByteArray := prog_11_method_1_code
def yX9_isIn : MethodName := ⟨RX9, "isIn", "(III)Z"⟩
abbrev cX9_wall : ByteArray := prog_11_method_2_code
def yX9_wall : MethodName := ⟨RX9, "wall", "(III)I"⟩
abbrev cX9_seat : ByteArray := prog_11_method_3_code
def yX9_seat : MethodName := ⟨RX9, "seat", "(II)I"⟩
abbrev cX9_count : ByteArray := prog_11_method_4_code
def yX9_count : MethodName := ⟨RX9, "count", "(I)I"⟩
abbrev cX9_put : ByteArray := prog_11_method_5_code
def yX9_put : MethodName := ⟨RX9, "put", "(I)V"⟩
abbrev cX9_feed : ByteArray := prog_11_method_6_code
def yX9_feed : MethodName := ⟨RX9, "feed", "(IIIIII)I"⟩
abbrev cX9_isLetter : ByteArray := prog_11_method_7_code
def yX9_isLetter : MethodName := ⟨RX9, "isLetter", "(I)Z"⟩
abbrev cX9_isDigit : ByteArray := prog_11_method_8_code
def yX9_isDigit : MethodName := ⟨RX9, "isDigit", "(I)Z"⟩
abbrev cX9_readWord : ByteArray := prog_11_method_9_code
def yX9_readWord : MethodName := ⟨RX9, "readWord", "()V"⟩
abbrev cX9_readNumber : ByteArray := prog_11_method_10_code
def yX9_readNumber : MethodName := ⟨RX9, "readNumber", "()V"⟩
abbrev cX9_next : ByteArray := prog_11_method_11_code
def yX9_next : MethodName := ⟨RX9, "next", "()V"⟩
abbrev cX9_isSign : ByteArray := prog_11_method_12_code
def yX9_isSign : MethodName := ⟨RX9, "isSign", "(I)Z"⟩
abbrev cX9_isKey : ByteArray := prog_11_method_13_code
def yX9_isKey : MethodName := ⟨RX9, "isKey", "(I)Z"⟩
abbrev cX9_emit : ByteArray := prog_11_method_14_code
def yX9_emit : MethodName := ⟨RX9, "emit", "(I)V"⟩
abbrev cX9_rank : ByteArray := prog_11_method_15_code
def yX9_rank : MethodName := ⟨RX9, "rank", "(I)I"⟩
abbrev cX9_doAll : ByteArray := prog_11_method_16_code
def yX9_doAll : MethodName := ⟨RX9, "doAll", "(I)V"⟩
abbrev cX9_await : ByteArray := prog_11_method_17_code
def yX9_await : MethodName := ⟨RX9, "await", "(I)V"⟩
abbrev cX9_between : ByteArray := prog_11_method_18_code
def yX9_between : MethodName := ⟨RX9, "between", "()Z"⟩
abbrev cX9_closes : ByteArray := prog_11_method_19_code
def yX9_closes : MethodName := ⟨RX9, "closes", "()Z"⟩
abbrev cX9_ahead : ByteArray := prog_11_method_20_code
def yX9_ahead : MethodName := ⟨RX9, "ahead", "(Z)Z"⟩
abbrev cX9_readE : ByteArray := prog_11_method_21_code
def yX9_readE : MethodName := ⟨RX9, "readE", "(I)Z"⟩
abbrev cX9_readAll : ByteArray := prog_11_method_22_code
def yX9_readAll : MethodName := ⟨RX9, "readAll", "(I)I"⟩
abbrev cX9_text : ByteArray := prog_11_method_23_code
def yX9_text : MethodName := ⟨RX9, "text", "()I"⟩
abbrev cX9_force : ByteArray := prog_11_method_24_code
def yX9_force : MethodName := ⟨RX9, "force", "(I)I"⟩
abbrev cX9_init : ByteArray := prog_11_method_25_code
def yX9_init : MethodName := ⟨RX9, "<init>", "()V"⟩
abbrev cX9_done : ByteArray := prog_11_method_26_code
def yX9_done : MethodName := ⟨RX9, "done", "(III)I"⟩
abbrev cX9_says : ByteArray := prog_11_method_27_code
def yX9_says : MethodName := ⟨RX9, "says", "(II)Z"⟩
abbrev cX9_asks : ByteArray := prog_11_method_28_code
def yX9_asks : MethodName := ⟨RX9, "asks", "(IIII)I"⟩
abbrev cX9_isSong : ByteArray := prog_11_method_29_code
def yX9_isSong : MethodName := ⟨RX9, "isSong", "(I)Z"⟩
abbrev cX9_isOne : ByteArray := prog_11_method_30_code
def yX9_isOne : MethodName := ⟨RX9, "isOne", "(I)Z"⟩
abbrev cX9_areSome : ByteArray := prog_11_method_31_code
def yX9_areSome : MethodName := ⟨RX9, "areSome", "(I)Z"⟩
abbrev cX9_song : ByteArray := prog_11_method_32_code
def yX9_song : MethodName := ⟨RX9, "song", "(I)I"⟩
abbrev cX9_needs : ByteArray := prog_11_method_33_code
def yX9_needs : MethodName := ⟨RX9, "needs", "(I)I"⟩
abbrev cX9_person : ByteArray := prog_11_method_34_code
def yX9_person : MethodName := ⟨RX9, "person", "(III)I"⟩
abbrev cX9_teach : ByteArray := prog_11_method_35_code
def yX9_teach : MethodName := ⟨RX9, "teach", "(III)I"⟩
abbrev cX9_told : ByteArray := prog_11_method_36_code
def yX9_told : MethodName := ⟨RX9, "told", "(II)I"⟩
abbrev cX9_size : ByteArray := prog_11_method_37_code
def yX9_size : MethodName := ⟨RX9, "size", "(I)I"⟩
abbrev cX9_may : ByteArray := prog_11_method_38_code
def yX9_may : MethodName := ⟨RX9, "may", "(IIIII)Z"⟩
abbrev cX9_heard : ByteArray := prog_11_method_39_code
def yX9_heard : MethodName := ⟨RX9, "heard", "(IIZ)I"⟩
abbrev cX9_begin : ByteArray := prog_11_method_40_code
def yX9_begin : MethodName := ⟨RX9, "begin", "(IIIIIII)Z"⟩
abbrev cX9_whoHas : ByteArray := prog_11_method_41_code
def yX9_whoHas : MethodName := ⟨RX9, "whoHas", "([II)I"⟩
abbrev cX9_take : ByteArray := prog_11_method_42_code
def yX9_take : MethodName := ⟨RX9, "take", "([II)V"⟩
abbrev cX9_replay : ByteArray := prog_11_method_43_code
def yX9_replay : MethodName := ⟨RX9, "replay", "(II)I"⟩
abbrev cX9_evening : ByteArray := prog_11_method_44_code
def yX9_evening : MethodName := ⟨RX9, "evening", "(III)I"⟩
abbrev cX9_forget : ByteArray := prog_11_method_45_code
def yX9_forget : MethodName := ⟨RX9, "forget", "()I"⟩
abbrev cX9_eveningTold : ByteArray := prog_11_method_46_code
def yX9_eveningTold : MethodName := ⟨RX9, "eveningTold", "(II)I"⟩
abbrev cX9_knows : ByteArray := prog_11_method_47_code
def yX9_knows : MethodName := ⟨RX9, "knows", "(III)I"⟩
abbrev cX9_isSo : ByteArray := prog_11_method_48_code
def yX9_isSo : MethodName := ⟨RX9, "isSo", "(II)Z"⟩
abbrev cX9_all : ByteArray := prog_11_method_49_code
def yX9_all : MethodName := ⟨RX9, "all", "(III)I"⟩
abbrev cX9_judge : ByteArray := prog_11_method_50_code
def yX9_judge : MethodName := ⟨RX9, "judge", "()I"⟩
abbrev cX9_laws : ByteArray := prog_11_method_51_code
def yX9_laws : MethodName := ⟨RX9, "laws", "()I"⟩
abbrev cX9_mayBefore : ByteArray := prog_11_method_52_code
def yX9_mayBefore : MethodName := ⟨RX9, "mayBefore", "(III)Z"⟩
abbrev cX9_feast : ByteArray := prog_11_method_53_code
def yX9_feast : MethodName := ⟨RX9, "feast", "(II)I"⟩
abbrev cX9_leave : ByteArray := prog_11_method_54_code
def yX9_leave : MethodName := ⟨RX9, "leave", "(III)I"⟩
abbrev cX9_bars : ByteArray := prog_11_method_55_code
def yX9_bars : MethodName := ⟨RX9, "bars", "(III)I"⟩
abbrev cX9_ends : ByteArray := prog_11_method_56_code
def yX9_ends : MethodName := ⟨RX9, "ends", "(II)I"⟩
abbrev cX9_state : ByteArray := prog_11_method_57_code
def yX9_state : MethodName := ⟨RX9, "state", "()I"⟩
abbrev cX9_take_ : ByteArray := prog_11_method_58_code
def yX9_take_ : MethodName := ⟨RX9, "take", "(I)V"⟩
abbrev cX9_much : ByteArray := prog_11_method_59_code
def yX9_much : MethodName := ⟨RX9, "much", "(II)I"⟩
abbrev cX9_isDone : ByteArray := prog_11_method_60_code
def yX9_isDone : MethodName := ⟨RX9, "isDone", "(IIII)Z"⟩
abbrev cX9_plan : ByteArray := prog_11_method_61_code
def yX9_plan : MethodName := ⟨RX9, "plan", "(IIIII)V"⟩
abbrev cX9_isAsked : ByteArray := prog_11_method_62_code
def yX9_isAsked : MethodName := ⟨RX9, "isAsked", "(IIII)Z"⟩
abbrev cX9_least : ByteArray := prog_11_method_63_code
def yX9_least : MethodName := ⟨RX9, "least", "(IIIII)I"⟩
abbrev cX9_why : ByteArray := prog_11_method_64_code
def yX9_why : MethodName := ⟨RX9, "why", "(IIII)I"⟩
abbrev cX9_place : ByteArray := prog_11_method_65_code
def yX9_place : MethodName := ⟨RX9, "place", "(III)I"⟩
abbrev cX9_whole : ByteArray := prog_11_method_66_code
def yX9_whole : MethodName := ⟨RX9, "whole", "(II)I"⟩
abbrev cX9_was : ByteArray := prog_11_method_67_code
def yX9_was : MethodName := ⟨RX9, "was", "(IIII)I"⟩
abbrev cX9_parts : ByteArray := prog_11_method_68_code
def yX9_parts : MethodName := ⟨RX9, "parts", "(II)J"⟩
abbrev cX9_lost : ByteArray := prog_11_method_69_code
def yX9_lost : MethodName := ⟨RX9, "lost", "(II)J"⟩
abbrev cX9_keep : ByteArray := prog_11_method_70_code
def yX9_keep : MethodName := ⟨RX9, "keep", "(II)I"⟩
abbrev cX9_rarest : ByteArray := prog_11_method_71_code
def yX9_rarest : MethodName := ⟨RX9, "rarest", "()I"⟩
abbrev cX9_draw : ByteArray := prog_11_method_72_code
def yX9_draw : MethodName := ⟨RX9, "draw", "(IIII)V"⟩
abbrev cX9_isHow : ByteArray := prog_11_method_73_code
def yX9_isHow : MethodName := ⟨RX9, "isHow", "(I)Z"⟩
abbrev cX9_drawn : ByteArray := prog_11_method_74_code
def yX9_drawn : MethodName := ⟨RX9, "drawn", "(IIII)I"⟩
abbrev cX9_divisor : ByteArray := prog_11_method_75_code
def yX9_divisor : MethodName := ⟨RX9, "divisor", "(II)I"⟩
abbrev cX9_odds : ByteArray := prog_11_method_76_code
def yX9_odds : MethodName := ⟨RX9, "odds", "(IIIII)J"⟩
abbrev cX9_copy : ByteArray := prog_11_method_77_code
def yX9_copy : MethodName := ⟨RX9, "copy", "([I[I)V"⟩
abbrev cX9_image : ByteArray := prog_11_method_78_code
def yX9_image : MethodName := ⟨RX9, "image", "()I"⟩
abbrev cX9_back : ByteArray := prog_11_method_79_code
def yX9_back : MethodName := ⟨RX9, "back", "()I"⟩
abbrev cX9_isSheet : ByteArray := prog_11_method_80_code
def yX9_isSheet : MethodName := ⟨RX9, "isSheet", "(I)Z"⟩
abbrev cX9_sheet : ByteArray := prog_11_method_81_code
def yX9_sheet : MethodName := ⟨RX9, "sheet", "(III)I"⟩
abbrev cX9_cell : ByteArray := prog_11_method_82_code
def yX9_cell : MethodName := ⟨RX9, "cell", "(III)I"⟩
abbrev cX9_copy_ : ByteArray := prog_11_method_83_code
def yX9_copy_ : MethodName := ⟨RX9, "copy", "(IIIII)I"⟩
abbrev cX9_peopleBy : ByteArray := prog_11_method_84_code
def yX9_peopleBy : MethodName := ⟨RX9, "peopleBy", "(IIII)I"⟩
abbrev cX9_taken : ByteArray := prog_11_method_85_code
def yX9_taken : MethodName := ⟨RX9, "taken", "(II)I"⟩
def RJx145de : String := "java/io/Serializable"
def TJx145de : u_T := fun k => match k with
  | _ => ("", "", "", false)
def tyJx145de : Nat → FieldType := fun k => match k with
  | _ => .int
abbrev wsJx145de0 : List Cond := u_ws RJx145de TJx145de 0
theorem nmJx145de : ∀ a, a < 0 → ∀ b, b < 0 → a ≠ b → (TJx145de a).2.1 ≠ (TJx145de b).2.1 := by decide +kernel
theorem tyJx145de_ok : ∀ k, k < 0 → parseFieldDescriptor (TJx145de k).2.2.1 = some (tyJx145de k) := by decide +kernel
def RJx9f9b0 : String := "java/lang/CharSequence"
def TJx9f9b0 : u_T := fun k => match k with
  | _ => ("", "", "", false)
def tyJx9f9b0 : Nat → FieldType := fun k => match k with
  | _ => .int
abbrev wsJx9f9b00 : List Cond := u_ws RJx9f9b0 TJx9f9b0 0
theorem nmJx9f9b0 : ∀ a, a < 0 → ∀ b, b < 0 → a ≠ b → (TJx9f9b0 a).2.1 ≠ (TJx9f9b0 b).2.1 := by decide +kernel
theorem tyJx9f9b0_ok : ∀ k, k < 0 → parseFieldDescriptor (TJx9f9b0 k).2.2.1 = some (tyJx9f9b0 k) := by decide +kernel
def RJx8e188 : String := "java/lang/Cloneable"
def TJx8e188 : u_T := fun k => match k with
  | _ => ("", "", "", false)
def tyJx8e188 : Nat → FieldType := fun k => match k with
  | _ => .int
abbrev wsJx8e1880 : List Cond := u_ws RJx8e188 TJx8e188 0
theorem nmJx8e188 : ∀ a, a < 0 → ∀ b, b < 0 → a ≠ b → (TJx8e188 a).2.1 ≠ (TJx8e188 b).2.1 := by decide +kernel
theorem tyJx8e188_ok : ∀ k, k < 0 → parseFieldDescriptor (TJx8e188 k).2.2.1 = some (tyJx8e188 k) := by decide +kernel
def RJxb160c : String := "java/lang/Comparable"
def TJxb160c : u_T := fun k => match k with
  | _ => ("", "", "", false)
def tyJxb160c : Nat → FieldType := fun k => match k with
  | _ => .int
abbrev wsJxb160c0 : List Cond := u_ws RJxb160c TJxb160c 0
theorem nmJxb160c : ∀ a, a < 0 → ∀ b, b < 0 → a ≠ b → (TJxb160c a).2.1 ≠ (TJxb160c b).2.1 := by decide +kernel
theorem tyJxb160c_ok : ∀ k, k < 0 → parseFieldDescriptor (TJxb160c k).2.2.1 = some (tyJxb160c k) := by decide +kernel
def RJ6 : String := "java/lang/Integer"
def TJ6 : u_T := fun k => match k with
  | _ => ("", "", "", false)
def tyJ6 : Nat → FieldType := fun k => match k with
  | _ => .int
abbrev wsJ60 : List Cond := u_ws RJ6 TJ6 0
theorem nmJ6 : ∀ a, a < 0 → ∀ b, b < 0 → a ≠ b → (TJ6 a).2.1 ≠ (TJ6 b).2.1 := by decide +kernel
theorem tyJ6_ok : ∀ k, k < 0 → parseFieldDescriptor (TJ6 k).2.2.1 = some (tyJ6 k) := by decide +kernel
abbrev cJ6_bitCount_0f7a4 : ByteArray := prog_13_method_49_code
def yJ6_bitCount_0f7a4 : MethodName := ⟨RJ6, "bitCount", "(I)I"⟩
def RJ9 : String := "java/lang/Math"
def TJ9 : u_T := fun k => match k with
  | _ => ("", "", "", false)
def tyJ9 : Nat → FieldType := fun k => match k with
  | _ => .int
abbrev wsJ90 : List Cond := u_ws RJ9 TJ9 0
theorem nmJ9 : ∀ a, a < 0 → ∀ b, b < 0 → a ≠ b → (TJ9 a).2.1 ≠ (TJ9 b).2.1 := by decide +kernel
theorem tyJ9_ok : ∀ k, k < 0 → parseFieldDescriptor (TJ9 k).2.2.1 = some (tyJ9 k) := by decide +kernel
abbrev cJ9_max_7cf53 : ByteArray := prog_14_method_65_code
def yJ9_max_7cf53 : MethodName := ⟨RJ9, "max", "(II)I"⟩
abbrev cJ9_min_7cf53 : ByteArray := prog_14_method_69_code
def yJ9_min_7cf53 : MethodName := ⟨RJ9, "min", "(II)I"⟩
def RJ0 : String := "java/lang/String"
def TJ0 : u_T := fun k => match k with
  | _ => ("", "", "", false)
def tyJ0 : Nat → FieldType := fun k => match k with
  | _ => .int
abbrev wsJ00 : List Cond := u_ws RJ0 TJ0 0
theorem nmJ0 : ∀ a, a < 0 → ∀ b, b < 0 → a ≠ b → (TJ0 a).2.1 ≠ (TJ0 b).2.1 := by decide +kernel
theorem tyJ0_ok : ∀ k, k < 0 → parseFieldDescriptor (TJ0 k).2.2.1 = some (tyJ0 k) := by decide +kernel
abbrev cJ0_length_8abf5 : ByteArray := prog_15_method_54_code
def yJ0_length_8abf5 : MethodName := ⟨RJ0, "length", "()I"⟩
abbrev cJ0_charAt_5068e : ByteArray := prog_15_method_56_code
def yJ0_charAt_5068e : MethodName := ⟨RJ0, "charAt", "(I)C"⟩
abbrev cJ0_coder_7d493 : ByteArray := prog_15_method_152_code
def yJ0_coder_7d493 : MethodName := ⟨RJ0, "coder", "()B"⟩
abbrev cJ0_isLatin1_aae02 : ByteArray := prog_15_method_154_code
def yJ0_isLatin1_aae02 : MethodName := ⟨RJ0, "isLatin1", "()Z"⟩
abbrev cJ0_checkIndex_df160 : ByteArray := prog_15_method_155_code
def yJ0_checkIndex_df160 : MethodName := ⟨RJ0, "checkIndex", "(II)V"⟩
def RJ1 : String := "java/lang/StringLatin1"
def TJ1 : u_T := fun k => match k with
  | _ => ("", "", "", false)
def tyJ1 : Nat → FieldType := fun k => match k with
  | _ => .int
abbrev wsJ10 : List Cond := u_ws RJ1 TJ1 0
theorem nmJ1 : ∀ a, a < 0 → ∀ b, b < 0 → a ≠ b → (TJ1 a).2.1 ≠ (TJ1 b).2.1 := by decide +kernel
theorem tyJ1_ok : ∀ k, k < 0 → parseFieldDescriptor (TJ1 k).2.2.1 = some (tyJ1 k) := by decide +kernel
abbrev cJ1_charAt_3b067 : ByteArray := prog_16_method_2_code
def yJ1_charAt_3b067 : MethodName := ⟨RJ1, "charAt", "([BI)C"⟩
def RJ2 : String := "java/lang/StringUTF16"
def TJ2 : u_T := fun k => match k with
  | _ => ("", "", "", false)
def tyJ2 : Nat → FieldType := fun k => match k with
  | _ => .int
abbrev wsJ20 : List Cond := u_ws RJ2 TJ2 0
theorem nmJ2 : ∀ a, a < 0 → ∀ b, b < 0 → a ≠ b → (TJ2 a).2.1 ≠ (TJ2 b).2.1 := by decide +kernel
theorem tyJ2_ok : ∀ k, k < 0 → parseFieldDescriptor (TJ2 k).2.2.1 = some (tyJ2 k) := by decide +kernel
abbrev cJ2_getChar_3b067 : ByteArray := prog_17_method_5_code
def yJ2_getChar_3b067 : MethodName := ⟨RJ2, "getChar", "([BI)C"⟩
abbrev cJ2_length_9d52b : ByteArray := prog_17_method_6_code
def yJ2_length_9d52b : MethodName := ⟨RJ2, "length", "([B)I"⟩
abbrev cJ2_charAt_3b067 : ByteArray := prog_17_method_83_code
def yJ2_charAt_3b067 : MethodName := ⟨RJ2, "charAt", "([BI)C"⟩
abbrev cJ2_checkIndex_2214a : ByteArray := prog_17_method_91_code
def yJ2_checkIndex_2214a : MethodName := ⟨RJ2, "checkIndex", "(I[B)V"⟩
def RJ10 : String := "java/lang/System"
def TJ10 : u_T := fun k => match k with
  | _ => ("", "", "", false)
def tyJ10 : Nat → FieldType := fun k => match k with
  | _ => .int
abbrev wsJ100 : List Cond := u_ws RJ10 TJ10 0
theorem nmJ10 : ∀ a, a < 0 → ∀ b, b < 0 → a ≠ b → (TJ10 a).2.1 ≠ (TJ10 b).2.1 := by decide +kernel
theorem tyJ10_ok : ∀ k, k < 0 → parseFieldDescriptor (TJ10 k).2.2.1 = some (tyJ10 k) := by decide +kernel
def RJxfd54e : String := "java/lang/constant/Constable"
def TJxfd54e : u_T := fun k => match k with
  | _ => ("", "", "", false)
def tyJxfd54e : Nat → FieldType := fun k => match k with
  | _ => .int
abbrev wsJxfd54e0 : List Cond := u_ws RJxfd54e TJxfd54e 0
theorem nmJxfd54e : ∀ a, a < 0 → ∀ b, b < 0 → a ≠ b → (TJxfd54e a).2.1 ≠ (TJxfd54e b).2.1 := by decide +kernel
theorem tyJxfd54e_ok : ∀ k, k < 0 → parseFieldDescriptor (TJxfd54e k).2.2.1 = some (tyJxfd54e k) := by decide +kernel
def RJx3cf43 : String := "java/lang/constant/ConstantDesc"
def TJx3cf43 : u_T := fun k => match k with
  | _ => ("", "", "", false)
def tyJx3cf43 : Nat → FieldType := fun k => match k with
  | _ => .int
abbrev wsJx3cf430 : List Cond := u_ws RJx3cf43 TJx3cf43 0
theorem nmJx3cf43 : ∀ a, a < 0 → ∀ b, b < 0 → a ≠ b → (TJx3cf43 a).2.1 ≠ (TJx3cf43 b).2.1 := by decide +kernel
theorem tyJx3cf43_ok : ∀ k, k < 0 → parseFieldDescriptor (TJx3cf43 k).2.2.1 = some (tyJx3cf43 k) := by decide +kernel
def RJ7 : String := "java/util/Arrays"
def TJ7 : u_T := fun k => match k with
  | _ => ("", "", "", false)
def tyJ7 : Nat → FieldType := fun k => match k with
  | _ => .int
abbrev wsJ70 : List Cond := u_ws RJ7 TJ7 0
theorem nmJ7 : ∀ a, a < 0 → ∀ b, b < 0 → a ≠ b → (TJ7 a).2.1 ≠ (TJ7 b).2.1 := by decide +kernel
theorem tyJ7_ok : ∀ k, k < 0 → parseFieldDescriptor (TJ7 k).2.2.1 = some (tyJ7 k) := by decide +kernel
abbrev cJ7_fill_53178 : ByteArray := prog_19_method_103_code
def yJ7_fill_53178 : MethodName := ⟨RJ7, "fill", "([II)V"⟩
abbrev cJ7_copyOf_59c91 : ByteArray := prog_19_method_123_code
def yJ7_copyOf_59c91 : MethodName := ⟨RJ7, "copyOf", "([II)[I"⟩
def RJ3 : String := "jdk/internal/util/Preconditions"
def TJ3 : u_T := fun k => match k with
  | _ => ("", "", "", false)
def tyJ3 : Nat → FieldType := fun k => match k with
  | _ => .int
abbrev wsJ30 : List Cond := u_ws RJ3 TJ3 0
theorem nmJ3 : ∀ a, a < 0 → ∀ b, b < 0 → a ≠ b → (TJ3 a).2.1 ≠ (TJ3 b).2.1 := by decide +kernel
theorem tyJ3_ok : ∀ k, k < 0 → parseFieldDescriptor (TJ3 k).2.2.1 = some (tyJ3 k) := by decide +kernel
abbrev cJ3_checkIndex_8e157 : ByteArray := prog_20_method_11_code
def yJ3_checkIndex_8e157 : MethodName := ⟨RJ3, "checkIndex", "(IILjava/util/function/BiFunction;)I"⟩
def RL : String := "WhoeverKnowsSingsLaw"
abbrev cL_law : ByteArray := code
def yL_law : MethodName := ⟨RL, "law", "([I)Z"⟩
abbrev vwCl : List vw_C := [(RX0, TX0, 7), (RX1, TX1, 3), (RX2, TX2, 8), (RX3, TX3, 15), (RX4, TX4, 9), (RX5, TX5, 3), (RX6, TX6, 6), (RX7, TX7, 3), (RX8, TX8, 17), (RX9, TX9, 55)]
