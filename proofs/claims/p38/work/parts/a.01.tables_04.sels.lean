section
-- ===== PART A: goes FIRST, ahead of the names: the tables' words, and 'selects' of the private methods out of them =====
/-- a private method of a class that the tables say can be made, by its rows of tables_1 -/
def lw_okq (q : MethodName × Nat) : Prop := (q.1.cls ≠ "java/lang/invoke/MethodHandle" ∧ q.1.cls ≠ "java/lang/invoke/VarHandle") ∧ Cond.instantiable q.1.cls q.2 ∈ tables_1 ∧ Cond.privateMethod q.1 ∈ tables_1 ∧ Cond.instanceMethod q.1 ∈ tables_1
theorem lw_p0 : lw_okq (⟨"CarpetHalls", "answer", "(I)I"⟩, 18) := ⟨⟨by decide +kernel, by decide +kernel⟩, List.mem_of_getElem? (i := 23) (by decide +kernel), List.mem_of_getElem? (i := 445) (by decide +kernel), List.mem_of_getElem? (i := 446) (by decide +kernel)⟩
theorem lw_p1 : lw_okq (⟨"CarpetHalls$Judge", "holds", "(LCarpetHalls$Text;I)Z"⟩, 1) := ⟨⟨by decide +kernel, by decide +kernel⟩, List.mem_of_getElem? (i := 248) (by decide +kernel), List.mem_of_getElem? (i := 478) (by decide +kernel), List.mem_of_getElem? (i := 479) (by decide +kernel)⟩
theorem lw_p2 : lw_okq (⟨"CarpetHalls$Reckoner", "reckon", "(LCarpetHalls$Text;II)J"⟩, 4) := ⟨⟨by decide +kernel, by decide +kernel⟩, List.mem_of_getElem? (i := 225) (by decide +kernel), List.mem_of_getElem? (i := 491) (by decide +kernel), List.mem_of_getElem? (i := 492) (by decide +kernel)⟩
theorem lw_p3 : lw_okq (⟨"CarpetHalls", "canLie", "(LCarpetHalls$Floor;III)Z"⟩, 18) := ⟨⟨by decide +kernel, by decide +kernel⟩, List.mem_of_getElem? (i := 23) (by decide +kernel), List.mem_of_getElem? (i := 540) (by decide +kernel), List.mem_of_getElem? (i := 541) (by decide +kernel)⟩
theorem lw_p4 : lw_okq (⟨"CarpetHalls$Reader", "scan", "()V"⟩, 9) := ⟨⟨by decide +kernel, by decide +kernel⟩, List.mem_of_getElem? (i := 189) (by decide +kernel), List.mem_of_getElem? (i := 591) (by decide +kernel), List.mem_of_getElem? (i := 592) (by decide +kernel)⟩
theorem lw_p5 : lw_okq (⟨"CarpetHalls$Reader", "endOfLetters", "(I)I"⟩, 9) := ⟨⟨by decide +kernel, by decide +kernel⟩, List.mem_of_getElem? (i := 189) (by decide +kernel), List.mem_of_getElem? (i := 598) (by decide +kernel), List.mem_of_getElem? (i := 599) (by decide +kernel)⟩
theorem lw_p6 : lw_okq (⟨"CarpetHalls$Reader", "wordFrom", "(II)I"⟩, 9) := ⟨⟨by decide +kernel, by decide +kernel⟩, List.mem_of_getElem? (i := 189) (by decide +kernel), List.mem_of_getElem? (i := 602) (by decide +kernel), List.mem_of_getElem? (i := 603) (by decide +kernel)⟩
theorem lw_p7 : lw_okq (⟨"CarpetHalls$Reader", "is", "(Ljava/lang/String;II)Z"⟩, 9) := ⟨⟨by decide +kernel, by decide +kernel⟩, List.mem_of_getElem? (i := 189) (by decide +kernel), List.mem_of_getElem? (i := 607) (by decide +kernel), List.mem_of_getElem? (i := 608) (by decide +kernel)⟩
theorem lw_p8 : lw_okq (⟨"CarpetHalls$Reader", "endOfDigits", "(I)I"⟩, 9) := ⟨⟨by decide +kernel, by decide +kernel⟩, List.mem_of_getElem? (i := 189) (by decide +kernel), List.mem_of_getElem? (i := 688) (by decide +kernel), List.mem_of_getElem? (i := 689) (by decide +kernel)⟩
theorem lw_p9 : lw_okq (⟨"CarpetHalls$Reader", "valueFrom", "(II)I"⟩, 9) := ⟨⟨by decide +kernel, by decide +kernel⟩, List.mem_of_getElem? (i := 189) (by decide +kernel), List.mem_of_getElem? (i := 692) (by decide +kernel), List.mem_of_getElem? (i := 693) (by decide +kernel)⟩
theorem lw_p10 : lw_okq (⟨"CarpetHalls$Reader", "readClause", "()V"⟩, 9) := ⟨⟨by decide +kernel, by decide +kernel⟩, List.mem_of_getElem? (i := 189) (by decide +kernel), List.mem_of_getElem? (i := 697) (by decide +kernel), List.mem_of_getElem? (i := 698) (by decide +kernel)⟩
theorem lw_p11 : lw_okq (⟨"CarpetHalls$Reader", "fail", "()V"⟩, 9) := ⟨⟨by decide +kernel, by decide +kernel⟩, List.mem_of_getElem? (i := 189) (by decide +kernel), List.mem_of_getElem? (i := 701) (by decide +kernel), List.mem_of_getElem? (i := 702) (by decide +kernel)⟩
theorem lw_p12 : lw_okq (⟨"CarpetHalls$Reader", "readSums", "(I)V"⟩, 9) := ⟨⟨by decide +kernel, by decide +kernel⟩, List.mem_of_getElem? (i := 189) (by decide +kernel), List.mem_of_getElem? (i := 713) (by decide +kernel), List.mem_of_getElem? (i := 714) (by decide +kernel)⟩
theorem lw_p13 : lw_okq (⟨"CarpetHalls$Reader", "take", "(I)Z"⟩, 9) := ⟨⟨by decide +kernel, by decide +kernel⟩, List.mem_of_getElem? (i := 189) (by decide +kernel), List.mem_of_getElem? (i := 718) (by decide +kernel), List.mem_of_getElem? (i := 719) (by decide +kernel)⟩
theorem lw_p14 : lw_okq (⟨"CarpetHalls$Reader", "readSum", "()V"⟩, 9) := ⟨⟨by decide +kernel, by decide +kernel⟩, List.mem_of_getElem? (i := 189) (by decide +kernel), List.mem_of_getElem? (i := 722) (by decide +kernel), List.mem_of_getElem? (i := 723) (by decide +kernel)⟩
theorem lw_p15 : lw_okq (⟨"CarpetHalls$Reader", "readPart", "()V"⟩, 9) := ⟨⟨by decide +kernel, by decide +kernel⟩, List.mem_of_getElem? (i := 189) (by decide +kernel), List.mem_of_getElem? (i := 726) (by decide +kernel), List.mem_of_getElem? (i := 727) (by decide +kernel)⟩
def lw_privs_1 : List (MethodName × Nat) := [(⟨"CarpetHalls", "answer", "(I)I"⟩, 18), (⟨"CarpetHalls$Judge", "holds", "(LCarpetHalls$Text;I)Z"⟩, 1), (⟨"CarpetHalls$Reckoner", "reckon", "(LCarpetHalls$Text;II)J"⟩, 4), (⟨"CarpetHalls", "canLie", "(LCarpetHalls$Floor;III)Z"⟩, 18), (⟨"CarpetHalls$Reader", "scan", "()V"⟩, 9), (⟨"CarpetHalls$Reader", "endOfLetters", "(I)I"⟩, 9), (⟨"CarpetHalls$Reader", "wordFrom", "(II)I"⟩, 9), (⟨"CarpetHalls$Reader", "is", "(Ljava/lang/String;II)Z"⟩, 9), (⟨"CarpetHalls$Reader", "endOfDigits", "(I)I"⟩, 9), (⟨"CarpetHalls$Reader", "valueFrom", "(II)I"⟩, 9), (⟨"CarpetHalls$Reader", "readClause", "()V"⟩, 9), (⟨"CarpetHalls$Reader", "fail", "()V"⟩, 9), (⟨"CarpetHalls$Reader", "readSums", "(I)V"⟩, 9), (⟨"CarpetHalls$Reader", "take", "(I)Z"⟩, 9), (⟨"CarpetHalls$Reader", "readSum", "()V"⟩, 9), (⟨"CarpetHalls$Reader", "readPart", "()V"⟩, 9)]
theorem lw_r1 : ∀ q ∈ lw_privs_1, lw_okq q := List.forall_mem_cons.mpr ⟨lw_p0, List.forall_mem_cons.mpr ⟨lw_p1, List.forall_mem_cons.mpr ⟨lw_p2, List.forall_mem_cons.mpr ⟨lw_p3, List.forall_mem_cons.mpr ⟨lw_p4, List.forall_mem_cons.mpr ⟨lw_p5, List.forall_mem_cons.mpr ⟨lw_p6, List.forall_mem_cons.mpr ⟨lw_p7, List.forall_mem_cons.mpr ⟨lw_p8, List.forall_mem_cons.mpr ⟨lw_p9, List.forall_mem_cons.mpr ⟨lw_p10, List.forall_mem_cons.mpr ⟨lw_p11, List.forall_mem_cons.mpr ⟨lw_p12, List.forall_mem_cons.mpr ⟨lw_p13, List.forall_mem_cons.mpr ⟨lw_p14, List.forall_mem_cons.mpr ⟨lw_p15, fun _ h => absurd h List.not_mem_nil⟩⟩⟩⟩⟩⟩⟩⟩⟩⟩⟩⟩⟩⟩⟩⟩
theorem lw_p16 : lw_okq (⟨"CarpetHalls$Reader", "seenToken", "()I"⟩, 9) := ⟨⟨by decide +kernel, by decide +kernel⟩, List.mem_of_getElem? (i := 189) (by decide +kernel), List.mem_of_getElem? (i := 730) (by decide +kernel), List.mem_of_getElem? (i := 731) (by decide +kernel)⟩
theorem lw_p17 : lw_okq (⟨"CarpetHalls$Reader", "openBracket", "()Z"⟩, 9) := ⟨⟨by decide +kernel, by decide +kernel⟩, List.mem_of_getElem? (i := 189) (by decide +kernel), List.mem_of_getElem? (i := 734) (by decide +kernel), List.mem_of_getElem? (i := 735) (by decide +kernel)⟩
theorem lw_p18 : lw_okq (⟨"CarpetHalls$Reader", "takeNumber", "(II)I"⟩, 9) := ⟨⟨by decide +kernel, by decide +kernel⟩, List.mem_of_getElem? (i := 189) (by decide +kernel), List.mem_of_getElem? (i := 738) (by decide +kernel), List.mem_of_getElem? (i := 739) (by decide +kernel)⟩
theorem lw_p19 : lw_okq (⟨"CarpetHalls$Reader", "readTest", "()V"⟩, 9) := ⟨⟨by decide +kernel, by decide +kernel⟩, List.mem_of_getElem? (i := 189) (by decide +kernel), List.mem_of_getElem? (i := 755) (by decide +kernel), List.mem_of_getElem? (i := 756) (by decide +kernel)⟩
theorem lw_p20 : lw_okq (⟨"CarpetHalls$Reader", "readPlain", "()V"⟩, 9) := ⟨⟨by decide +kernel, by decide +kernel⟩, List.mem_of_getElem? (i := 189) (by decide +kernel), List.mem_of_getElem? (i := 759) (by decide +kernel), List.mem_of_getElem? (i := 760) (by decide +kernel)⟩
theorem lw_p21 : lw_okq (⟨"CarpetHalls", "runOnce", "(I)Z"⟩, 18) := ⟨⟨by decide +kernel, by decide +kernel⟩, List.mem_of_getElem? (i := 23) (by decide +kernel), List.mem_of_getElem? (i := 790) (by decide +kernel), List.mem_of_getElem? (i := 791) (by decide +kernel)⟩
theorem lw_p22 : lw_okq (⟨"CarpetHalls", "doLay", "(III)I"⟩, 18) := ⟨⟨by decide +kernel, by decide +kernel⟩, List.mem_of_getElem? (i := 23) (by decide +kernel), List.mem_of_getElem? (i := 806) (by decide +kernel), List.mem_of_getElem? (i := 807) (by decide +kernel)⟩
theorem lw_p23 : lw_okq (⟨"CarpetHalls", "doRoll", "(I)I"⟩, 18) := ⟨⟨by decide +kernel, by decide +kernel⟩, List.mem_of_getElem? (i := 23) (by decide +kernel), List.mem_of_getElem? (i := 815) (by decide +kernel), List.mem_of_getElem? (i := 816) (by decide +kernel)⟩
theorem lw_p24 : lw_okq (⟨"CarpetHalls", "doMirror", "()I"⟩, 18) := ⟨⟨by decide +kernel, by decide +kernel⟩, List.mem_of_getElem? (i := 23) (by decide +kernel), List.mem_of_getElem? (i := 824) (by decide +kernel), List.mem_of_getElem? (i := 825) (by decide +kernel)⟩
theorem lw_p25 : lw_okq (⟨"CarpetHalls", "doPass", "()I"⟩, 18) := ⟨⟨by decide +kernel, by decide +kernel⟩, List.mem_of_getElem? (i := 23) (by decide +kernel), List.mem_of_getElem? (i := 832) (by decide +kernel), List.mem_of_getElem? (i := 833) (by decide +kernel)⟩
theorem lw_p26 : lw_okq (⟨"CarpetHalls$Search", "begin", "(ZI)V"⟩, 14) := ⟨⟨by decide +kernel, by decide +kernel⟩, List.mem_of_getElem? (i := 285) (by decide +kernel), List.mem_of_getElem? (i := 913) (by decide +kernel), List.mem_of_getElem? (i := 914) (by decide +kernel)⟩
theorem lw_p27 : lw_okq (⟨"CarpetHalls$Search", "areaReady", "()I"⟩, 14) := ⟨⟨by decide +kernel, by decide +kernel⟩, List.mem_of_getElem? (i := 285) (by decide +kernel), List.mem_of_getElem? (i := 921) (by decide +kernel), List.mem_of_getElem? (i := 922) (by decide +kernel)⟩
theorem lw_p28 : lw_okq (⟨"CarpetHalls$Search", "solve", "(JIII)I"⟩, 14) := ⟨⟨by decide +kernel, by decide +kernel⟩, List.mem_of_getElem? (i := 285) (by decide +kernel), List.mem_of_getElem? (i := 926) (by decide +kernel), List.mem_of_getElem? (i := 927) (by decide +kernel)⟩
theorem lw_p29 : lw_okq (⟨"CarpetHalls$Memo", "slotFor", "(J)I"⟩, 7) := ⟨⟨by decide +kernel, by decide +kernel⟩, List.mem_of_getElem? (i := 291) (by decide +kernel), List.mem_of_getElem? (i := 934) (by decide +kernel), List.mem_of_getElem? (i := 935) (by decide +kernel)⟩
theorem lw_p30 : lw_okq (⟨"CarpetHalls$Search", "firstBare", "(JI)I"⟩, 14) := ⟨⟨by decide +kernel, by decide +kernel⟩, List.mem_of_getElem? (i := 285) (by decide +kernel), List.mem_of_getElem? (i := 943) (by decide +kernel), List.mem_of_getElem? (i := 944) (by decide +kernel)⟩
theorem lw_p31 : lw_okq (⟨"CarpetHalls$Search", "isBare", "(JI)Z"⟩, 14) := ⟨⟨by decide +kernel, by decide +kernel⟩, List.mem_of_getElem? (i := 285) (by decide +kernel), List.mem_of_getElem? (i := 947) (by decide +kernel), List.mem_of_getElem? (i := 948) (by decide +kernel)⟩
def lw_privs_2 : List (MethodName × Nat) := [(⟨"CarpetHalls$Reader", "seenToken", "()I"⟩, 9), (⟨"CarpetHalls$Reader", "openBracket", "()Z"⟩, 9), (⟨"CarpetHalls$Reader", "takeNumber", "(II)I"⟩, 9), (⟨"CarpetHalls$Reader", "readTest", "()V"⟩, 9), (⟨"CarpetHalls$Reader", "readPlain", "()V"⟩, 9), (⟨"CarpetHalls", "runOnce", "(I)Z"⟩, 18), (⟨"CarpetHalls", "doLay", "(III)I"⟩, 18), (⟨"CarpetHalls", "doRoll", "(I)I"⟩, 18), (⟨"CarpetHalls", "doMirror", "()I"⟩, 18), (⟨"CarpetHalls", "doPass", "()I"⟩, 18), (⟨"CarpetHalls$Search", "begin", "(ZI)V"⟩, 14), (⟨"CarpetHalls$Search", "areaReady", "()I"⟩, 14), (⟨"CarpetHalls$Search", "solve", "(JIII)I"⟩, 14), (⟨"CarpetHalls$Memo", "slotFor", "(J)I"⟩, 7), (⟨"CarpetHalls$Search", "firstBare", "(JI)I"⟩, 14), (⟨"CarpetHalls$Search", "isBare", "(JI)Z"⟩, 14)]
theorem lw_r2 : ∀ q ∈ lw_privs_2, lw_okq q := List.forall_mem_cons.mpr ⟨lw_p16, List.forall_mem_cons.mpr ⟨lw_p17, List.forall_mem_cons.mpr ⟨lw_p18, List.forall_mem_cons.mpr ⟨lw_p19, List.forall_mem_cons.mpr ⟨lw_p20, List.forall_mem_cons.mpr ⟨lw_p21, List.forall_mem_cons.mpr ⟨lw_p22, List.forall_mem_cons.mpr ⟨lw_p23, List.forall_mem_cons.mpr ⟨lw_p24, List.forall_mem_cons.mpr ⟨lw_p25, List.forall_mem_cons.mpr ⟨lw_p26, List.forall_mem_cons.mpr ⟨lw_p27, List.forall_mem_cons.mpr ⟨lw_p28, List.forall_mem_cons.mpr ⟨lw_p29, List.forall_mem_cons.mpr ⟨lw_p30, List.forall_mem_cons.mpr ⟨lw_p31, fun _ h => absurd h List.not_mem_nil⟩⟩⟩⟩⟩⟩⟩⟩⟩⟩⟩⟩⟩⟩⟩⟩
theorem lw_p32 : lw_okq (⟨"CarpetHalls$Search", "fits", "(JII)Z"⟩, 14) := ⟨⟨by decide +kernel, by decide +kernel⟩, List.mem_of_getElem? (i := 285) (by decide +kernel), List.mem_of_getElem? (i := 952) (by decide +kernel), List.mem_of_getElem? (i := 953) (by decide +kernel)⟩
theorem lw_p33 : lw_okq (⟨"CarpetHalls$Search", "agreesWithSeen", "(III)Z"⟩, 14) := ⟨⟨by decide +kernel, by decide +kernel⟩, List.mem_of_getElem? (i := 285) (by decide +kernel), List.mem_of_getElem? (i := 956) (by decide +kernel), List.mem_of_getElem? (i := 957) (by decide +kernel)⟩
theorem lw_p34 : lw_okq (⟨"CarpetHalls$Search", "priceAt", "(II)I"⟩, 14) := ⟨⟨by decide +kernel, by decide +kernel⟩, List.mem_of_getElem? (i := 285) (by decide +kernel), List.mem_of_getElem? (i := 960) (by decide +kernel), List.mem_of_getElem? (i := 961) (by decide +kernel)⟩
theorem lw_p35 : lw_okq (⟨"CarpetHalls$Search", "keyWith", "(JII)J"⟩, 14) := ⟨⟨by decide +kernel, by decide +kernel⟩, List.mem_of_getElem? (i := 285) (by decide +kernel), List.mem_of_getElem? (i := 966) (by decide +kernel), List.mem_of_getElem? (i := 967) (by decide +kernel)⟩
theorem lw_p36 : lw_okq (⟨"CarpetHalls$Memo", "grow", "()V"⟩, 7) := ⟨⟨by decide +kernel, by decide +kernel⟩, List.mem_of_getElem? (i := 291) (by decide +kernel), List.mem_of_getElem? (i := 980) (by decide +kernel), List.mem_of_getElem? (i := 981) (by decide +kernel)⟩
theorem lw_p37 : lw_okq (⟨"CarpetHalls$Memo", "put", "(JII)V"⟩, 7) := ⟨⟨by decide +kernel, by decide +kernel⟩, List.mem_of_getElem? (i := 291) (by decide +kernel), List.mem_of_getElem? (i := 984) (by decide +kernel), List.mem_of_getElem? (i := 985) (by decide +kernel)⟩
theorem lw_p38 : lw_okq (⟨"CarpetHalls$Floor", "isInnerHall", "(I)Z"⟩, 11) := ⟨⟨by decide +kernel, by decide +kernel⟩, List.mem_of_getElem? (i := 37) (by decide +kernel), List.mem_of_getElem? (i := 1036) (by decide +kernel), List.mem_of_getElem? (i := 1037) (by decide +kernel)⟩
theorem lw_p39 : lw_okq (⟨"CarpetHalls$Floor", "threeMoreMeetAt", "(II)Z"⟩, 11) := ⟨⟨by decide +kernel, by decide +kernel⟩, List.mem_of_getElem? (i := 37) (by decide +kernel), List.mem_of_getElem? (i := 1049) (by decide +kernel), List.mem_of_getElem? (i := 1050) (by decide +kernel)⟩
theorem lw_p40 : lw_okq (⟨"CarpetHalls$Search", "tallyRow", "(JIII)I"⟩, 14) := ⟨⟨by decide +kernel, by decide +kernel⟩, List.mem_of_getElem? (i := 285) (by decide +kernel), List.mem_of_getElem? (i := 1111) (by decide +kernel), List.mem_of_getElem? (i := 1112) (by decide +kernel)⟩
theorem lw_p41 : lw_okq (⟨"CarpetHalls$Search", "addToTally", "(III)V"⟩, 14) := ⟨⟨by decide +kernel, by decide +kernel⟩, List.mem_of_getElem? (i := 285) (by decide +kernel), List.mem_of_getElem? (i := 1115) (by decide +kernel), List.mem_of_getElem? (i := 1116) (by decide +kernel)⟩
theorem lw_p42 : lw_okq (⟨"CarpetHalls$Search", "tallyKey", "(JI)V"⟩, 14) := ⟨⟨by decide +kernel, by decide +kernel⟩, List.mem_of_getElem? (i := 285) (by decide +kernel), List.mem_of_getElem? (i := 1135) (by decide +kernel), List.mem_of_getElem? (i := 1136) (by decide +kernel)⟩
theorem lw_p43 : lw_okq (⟨"CarpetHalls$Chance", "setStart", "(I)V"⟩, 1) := ⟨⟨by decide +kernel, by decide +kernel⟩, List.mem_of_getElem? (i := 368) (by decide +kernel), List.mem_of_getElem? (i := 1158) (by decide +kernel), List.mem_of_getElem? (i := 1159) (by decide +kernel)⟩
theorem lw_p44 : lw_okq (⟨"CarpetHalls$Chance", "addOneMore", "(II)V"⟩, 1) := ⟨⟨by decide +kernel, by decide +kernel⟩, List.mem_of_getElem? (i := 368) (by decide +kernel), List.mem_of_getElem? (i := 1164) (by decide +kernel), List.mem_of_getElem? (i := 1165) (by decide +kernel)⟩
theorem lw_p45 : lw_okq (⟨"CarpetHalls", "drawYear", "(I)I"⟩, 18) := ⟨⟨by decide +kernel, by decide +kernel⟩, List.mem_of_getElem? (i := 23) (by decide +kernel), List.mem_of_getElem? (i := 1178) (by decide +kernel), List.mem_of_getElem? (i := 1179) (by decide +kernel)⟩
theorem lw_p46 : lw_okq (⟨"CarpetHallsModel", "refuses", "(I)I"⟩, 57) := ⟨⟨by decide +kernel, by decide +kernel⟩, List.mem_of_getElem? (i := 1221) (by decide +kernel), List.mem_of_getElem? (i := 1406) (by decide +kernel), List.mem_of_getElem? (i := 1407) (by decide +kernel)⟩
theorem lw_p47 : lw_okq (⟨"CarpetHallsModel", "good", "(I)I"⟩, 57) := ⟨⟨by decide +kernel, by decide +kernel⟩, List.mem_of_getElem? (i := 1221) (by decide +kernel), List.mem_of_getElem? (i := 1410) (by decide +kernel), List.mem_of_getElem? (i := 1411) (by decide +kernel)⟩
def lw_privs_3 : List (MethodName × Nat) := [(⟨"CarpetHalls$Search", "fits", "(JII)Z"⟩, 14), (⟨"CarpetHalls$Search", "agreesWithSeen", "(III)Z"⟩, 14), (⟨"CarpetHalls$Search", "priceAt", "(II)I"⟩, 14), (⟨"CarpetHalls$Search", "keyWith", "(JII)J"⟩, 14), (⟨"CarpetHalls$Memo", "grow", "()V"⟩, 7), (⟨"CarpetHalls$Memo", "put", "(JII)V"⟩, 7), (⟨"CarpetHalls$Floor", "isInnerHall", "(I)Z"⟩, 11), (⟨"CarpetHalls$Floor", "threeMoreMeetAt", "(II)Z"⟩, 11), (⟨"CarpetHalls$Search", "tallyRow", "(JIII)I"⟩, 14), (⟨"CarpetHalls$Search", "addToTally", "(III)V"⟩, 14), (⟨"CarpetHalls$Search", "tallyKey", "(JI)V"⟩, 14), (⟨"CarpetHalls$Chance", "setStart", "(I)V"⟩, 1), (⟨"CarpetHalls$Chance", "addOneMore", "(II)V"⟩, 1), (⟨"CarpetHalls", "drawYear", "(I)I"⟩, 18), (⟨"CarpetHallsModel", "refuses", "(I)I"⟩, 57), (⟨"CarpetHallsModel", "good", "(I)I"⟩, 57)]
theorem lw_r3 : ∀ q ∈ lw_privs_3, lw_okq q := List.forall_mem_cons.mpr ⟨lw_p32, List.forall_mem_cons.mpr ⟨lw_p33, List.forall_mem_cons.mpr ⟨lw_p34, List.forall_mem_cons.mpr ⟨lw_p35, List.forall_mem_cons.mpr ⟨lw_p36, List.forall_mem_cons.mpr ⟨lw_p37, List.forall_mem_cons.mpr ⟨lw_p38, List.forall_mem_cons.mpr ⟨lw_p39, List.forall_mem_cons.mpr ⟨lw_p40, List.forall_mem_cons.mpr ⟨lw_p41, List.forall_mem_cons.mpr ⟨lw_p42, List.forall_mem_cons.mpr ⟨lw_p43, List.forall_mem_cons.mpr ⟨lw_p44, List.forall_mem_cons.mpr ⟨lw_p45, List.forall_mem_cons.mpr ⟨lw_p46, List.forall_mem_cons.mpr ⟨lw_p47, fun _ h => absurd h List.not_mem_nil⟩⟩⟩⟩⟩⟩⟩⟩⟩⟩⟩⟩⟩⟩⟩⟩
theorem lw_p48 : lw_okq (⟨"CarpetHallsModel", "settled", "(I)I"⟩, 57) := ⟨⟨by decide +kernel, by decide +kernel⟩, List.mem_of_getElem? (i := 1221) (by decide +kernel), List.mem_of_getElem? (i := 1418) (by decide +kernel), List.mem_of_getElem? (i := 1419) (by decide +kernel)⟩
theorem lw_p49 : lw_okq (⟨"CarpetHallsModel", "many", "()I"⟩, 57) := ⟨⟨by decide +kernel, by decide +kernel⟩, List.mem_of_getElem? (i := 1221) (by decide +kernel), List.mem_of_getElem? (i := 1432) (by decide +kernel), List.mem_of_getElem? (i := 1433) (by decide +kernel)⟩
theorem lw_p50 : lw_okq (⟨"CarpetHallsModel", "adds", "(III)V"⟩, 57) := ⟨⟨by decide +kernel, by decide +kernel⟩, List.mem_of_getElem? (i := 1221) (by decide +kernel), List.mem_of_getElem? (i := 1436) (by decide +kernel), List.mem_of_getElem? (i := 1437) (by decide +kernel)⟩
theorem lw_p51 : lw_okq (⟨"CarpetHallsModel", "rolls", "(I)V"⟩, 57) := ⟨⟨by decide +kernel, by decide +kernel⟩, List.mem_of_getElem? (i := 1221) (by decide +kernel), List.mem_of_getElem? (i := 1440) (by decide +kernel), List.mem_of_getElem? (i := 1441) (by decide +kernel)⟩
theorem lw_p52 : lw_okq (⟨"CarpetHallsModel", "isCarpet", "(I)Z"⟩, 57) := ⟨⟨by decide +kernel, by decide +kernel⟩, List.mem_of_getElem? (i := 1221) (by decide +kernel), List.mem_of_getElem? (i := 1448) (by decide +kernel), List.mem_of_getElem? (i := 1449) (by decide +kernel)⟩
theorem lw_p53 : lw_okq (⟨"CarpetHallsModel", "isLaid", "(I)Z"⟩, 57) := ⟨⟨by decide +kernel, by decide +kernel⟩, List.mem_of_getElem? (i := 1221) (by decide +kernel), List.mem_of_getElem? (i := 1452) (by decide +kernel), List.mem_of_getElem? (i := 1453) (by decide +kernel)⟩
theorem lw_p54 : lw_okq (⟨"CarpetHallsModel", "wearsNow", "(I)I"⟩, 57) := ⟨⟨by decide +kernel, by decide +kernel⟩, List.mem_of_getElem? (i := 1221) (by decide +kernel), List.mem_of_getElem? (i := 1456) (by decide +kernel), List.mem_of_getElem? (i := 1457) (by decide +kernel)⟩
theorem lw_p55 : lw_okq (⟨"CarpetHallsModel", "tells", "(IIIIII)I"⟩, 57) := ⟨⟨by decide +kernel, by decide +kernel⟩, List.mem_of_getElem? (i := 1221) (by decide +kernel), List.mem_of_getElem? (i := 1460) (by decide +kernel), List.mem_of_getElem? (i := 1461) (by decide +kernel)⟩
theorem lw_p56 : lw_okq (⟨"CarpetHallsModel", "setsAsked", "(III)V"⟩, 57) := ⟨⟨by decide +kernel, by decide +kernel⟩, List.mem_of_getElem? (i := 1221) (by decide +kernel), List.mem_of_getElem? (i := 1464) (by decide +kernel), List.mem_of_getElem? (i := 1465) (by decide +kernel)⟩
theorem lw_p57 : lw_okq (⟨"CarpetHallsModel", "codeAt", "(I)I"⟩, 57) := ⟨⟨by decide +kernel, by decide +kernel⟩, List.mem_of_getElem? (i := 1221) (by decide +kernel), List.mem_of_getElem? (i := 1468) (by decide +kernel), List.mem_of_getElem? (i := 1469) (by decide +kernel)⟩
theorem lw_p58 : lw_okq (⟨"CarpetHallsModel", "sumOf", "(Z)J"⟩, 57) := ⟨⟨by decide +kernel, by decide +kernel⟩, List.mem_of_getElem? (i := 1221) (by decide +kernel), List.mem_of_getElem? (i := 1472) (by decide +kernel), List.mem_of_getElem? (i := 1473) (by decide +kernel)⟩
theorem lw_p59 : lw_okq (⟨"CarpetHallsModel", "termOf", "(Z)J"⟩, 57) := ⟨⟨by decide +kernel, by decide +kernel⟩, List.mem_of_getElem? (i := 1221) (by decide +kernel), List.mem_of_getElem? (i := 1476) (by decide +kernel), List.mem_of_getElem? (i := 1477) (by decide +kernel)⟩
theorem lw_p60 : lw_okq (⟨"CarpetHallsModel", "partOf", "(Z)J"⟩, 57) := ⟨⟨by decide +kernel, by decide +kernel⟩, List.mem_of_getElem? (i := 1221) (by decide +kernel), List.mem_of_getElem? (i := 1480) (by decide +kernel), List.mem_of_getElem? (i := 1481) (by decide +kernel)⟩
theorem lw_p61 : lw_okq (⟨"CarpetHallsModel", "passes0", "(I)Z"⟩, 57) := ⟨⟨by decide +kernel, by decide +kernel⟩, List.mem_of_getElem? (i := 1221) (by decide +kernel), List.mem_of_getElem? (i := 1487) (by decide +kernel), List.mem_of_getElem? (i := 1488) (by decide +kernel)⟩
theorem lw_p62 : lw_okq (⟨"CarpetHallsModel", "orderValue", "(II)I"⟩, 57) := ⟨⟨by decide +kernel, by decide +kernel⟩, List.mem_of_getElem? (i := 1221) (by decide +kernel), List.mem_of_getElem? (i := 1491) (by decide +kernel), List.mem_of_getElem? (i := 1492) (by decide +kernel)⟩
theorem lw_p63 : lw_okq (⟨"CarpetHallsModel", "bareMany", "()I"⟩, 57) := ⟨⟨by decide +kernel, by decide +kernel⟩, List.mem_of_getElem? (i := 1221) (by decide +kernel), List.mem_of_getElem? (i := 1495) (by decide +kernel), List.mem_of_getElem? (i := 1496) (by decide +kernel)⟩
def lw_privs_4 : List (MethodName × Nat) := [(⟨"CarpetHallsModel", "settled", "(I)I"⟩, 57), (⟨"CarpetHallsModel", "many", "()I"⟩, 57), (⟨"CarpetHallsModel", "adds", "(III)V"⟩, 57), (⟨"CarpetHallsModel", "rolls", "(I)V"⟩, 57), (⟨"CarpetHallsModel", "isCarpet", "(I)Z"⟩, 57), (⟨"CarpetHallsModel", "isLaid", "(I)Z"⟩, 57), (⟨"CarpetHallsModel", "wearsNow", "(I)I"⟩, 57), (⟨"CarpetHallsModel", "tells", "(IIIIII)I"⟩, 57), (⟨"CarpetHallsModel", "setsAsked", "(III)V"⟩, 57), (⟨"CarpetHallsModel", "codeAt", "(I)I"⟩, 57), (⟨"CarpetHallsModel", "sumOf", "(Z)J"⟩, 57), (⟨"CarpetHallsModel", "termOf", "(Z)J"⟩, 57), (⟨"CarpetHallsModel", "partOf", "(Z)J"⟩, 57), (⟨"CarpetHallsModel", "passes0", "(I)Z"⟩, 57), (⟨"CarpetHallsModel", "orderValue", "(II)I"⟩, 57), (⟨"CarpetHallsModel", "bareMany", "()I"⟩, 57)]
theorem lw_r4 : ∀ q ∈ lw_privs_4, lw_okq q := List.forall_mem_cons.mpr ⟨lw_p48, List.forall_mem_cons.mpr ⟨lw_p49, List.forall_mem_cons.mpr ⟨lw_p50, List.forall_mem_cons.mpr ⟨lw_p51, List.forall_mem_cons.mpr ⟨lw_p52, List.forall_mem_cons.mpr ⟨lw_p53, List.forall_mem_cons.mpr ⟨lw_p54, List.forall_mem_cons.mpr ⟨lw_p55, List.forall_mem_cons.mpr ⟨lw_p56, List.forall_mem_cons.mpr ⟨lw_p57, List.forall_mem_cons.mpr ⟨lw_p58, List.forall_mem_cons.mpr ⟨lw_p59, List.forall_mem_cons.mpr ⟨lw_p60, List.forall_mem_cons.mpr ⟨lw_p61, List.forall_mem_cons.mpr ⟨lw_p62, List.forall_mem_cons.mpr ⟨lw_p63, fun _ h => absurd h List.not_mem_nil⟩⟩⟩⟩⟩⟩⟩⟩⟩⟩⟩⟩⟩⟩⟩⟩
theorem lw_p64 : lw_okq (⟨"CarpetHallsModel", "bounded", "(JZ)J"⟩, 57) := ⟨⟨by decide +kernel, by decide +kernel⟩, List.mem_of_getElem? (i := 1221) (by decide +kernel), List.mem_of_getElem? (i := 1499) (by decide +kernel), List.mem_of_getElem? (i := 1500) (by decide +kernel)⟩
theorem lw_p65 : lw_okq (⟨"CarpetHallsModel", "testOf", "(Z)Z"⟩, 57) := ⟨⟨by decide +kernel, by decide +kernel⟩, List.mem_of_getElem? (i := 1221) (by decide +kernel), List.mem_of_getElem? (i := 1505) (by decide +kernel), List.mem_of_getElem? (i := 1506) (by decide +kernel)⟩
theorem lw_p66 : lw_okq (⟨"CarpetHallsModel", "bothOf", "(Z)Z"⟩, 57) := ⟨⟨by decide +kernel, by decide +kernel⟩, List.mem_of_getElem? (i := 1221) (by decide +kernel), List.mem_of_getElem? (i := 1509) (by decide +kernel), List.mem_of_getElem? (i := 1510) (by decide +kernel)⟩
theorem lw_p67 : lw_okq (⟨"CarpetHallsModel", "plainOf", "(Z)Z"⟩, 57) := ⟨⟨by decide +kernel, by decide +kernel⟩, List.mem_of_getElem? (i := 1221) (by decide +kernel), List.mem_of_getElem? (i := 1513) (by decide +kernel), List.mem_of_getElem? (i := 1514) (by decide +kernel)⟩
theorem lw_p68 : lw_okq (⟨"CarpetHallsModel", "positiveOf", "(Z)Z"⟩, 57) := ⟨⟨by decide +kernel, by decide +kernel⟩, List.mem_of_getElem? (i := 1221) (by decide +kernel), List.mem_of_getElem? (i := 1517) (by decide +kernel), List.mem_of_getElem? (i := 1518) (by decide +kernel)⟩
theorem lw_p69 : lw_okq (⟨"CarpetHallsModel", "laidMany", "()I"⟩, 57) := ⟨⟨by decide +kernel, by decide +kernel⟩, List.mem_of_getElem? (i := 1221) (by decide +kernel), List.mem_of_getElem? (i := 1525) (by decide +kernel), List.mem_of_getElem? (i := 1526) (by decide +kernel)⟩
theorem lw_p70 : lw_okq (⟨"CarpetHallsModel", "covers", "(III)Z"⟩, 57) := ⟨⟨by decide +kernel, by decide +kernel⟩, List.mem_of_getElem? (i := 1221) (by decide +kernel), List.mem_of_getElem? (i := 1533) (by decide +kernel), List.mem_of_getElem? (i := 1534) (by decide +kernel)⟩
theorem lw_p71 : lw_okq (⟨"CarpetHallsModel", "costsAt", "(III)I"⟩, 57) := ⟨⟨by decide +kernel, by decide +kernel⟩, List.mem_of_getElem? (i := 1221) (by decide +kernel), List.mem_of_getElem? (i := 1544) (by decide +kernel), List.mem_of_getElem? (i := 1545) (by decide +kernel)⟩
theorem lw_p72 : lw_okq (⟨"CarpetHallsModel", "isBarred", "(III)Z"⟩, 57) := ⟨⟨by decide +kernel, by decide +kernel⟩, List.mem_of_getElem? (i := 1221) (by decide +kernel), List.mem_of_getElem? (i := 1548) (by decide +kernel), List.mem_of_getElem? (i := 1549) (by decide +kernel)⟩
theorem lw_p73 : lw_okq (⟨"CarpetHallsModel", "canLay", "(III)Z"⟩, 57) := ⟨⟨by decide +kernel, by decide +kernel⟩, List.mem_of_getElem? (i := 1221) (by decide +kernel), List.mem_of_getElem? (i := 1552) (by decide +kernel), List.mem_of_getElem? (i := 1553) (by decide +kernel)⟩
theorem lw_p74 : lw_okq (⟨"CarpetHallsModel", "isWhole", "(I)Z"⟩, 57) := ⟨⟨by decide +kernel, by decide +kernel⟩, List.mem_of_getElem? (i := 1221) (by decide +kernel), List.mem_of_getElem? (i := 1556) (by decide +kernel), List.mem_of_getElem? (i := 1557) (by decide +kernel)⟩
theorem lw_p75 : lw_okq (⟨"CarpetHallsModel", "laysCovered", "()V"⟩, 57) := ⟨⟨by decide +kernel, by decide +kernel⟩, List.mem_of_getElem? (i := 1221) (by decide +kernel), List.mem_of_getElem? (i := 1560) (by decide +kernel), List.mem_of_getElem? (i := 1561) (by decide +kernel)⟩
theorem lw_p76 : lw_okq (⟨"CarpetHallsModel", "turnsSquare", "(III)V"⟩, 57) := ⟨⟨by decide +kernel, by decide +kernel⟩, List.mem_of_getElem? (i := 1221) (by decide +kernel), List.mem_of_getElem? (i := 1564) (by decide +kernel), List.mem_of_getElem? (i := 1565) (by decide +kernel)⟩
theorem lw_p77 : lw_okq (⟨"CarpetHallsModel", "isFree", "(IIIII)Z"⟩, 57) := ⟨⟨by decide +kernel, by decide +kernel⟩, List.mem_of_getElem? (i := 1221) (by decide +kernel), List.mem_of_getElem? (i := 1568) (by decide +kernel), List.mem_of_getElem? (i := 1569) (by decide +kernel)⟩
theorem lw_p78 : lw_okq (⟨"CarpetHallsModel", "readsAs", "(Z)Z"⟩, 57) := ⟨⟨by decide +kernel, by decide +kernel⟩, List.mem_of_getElem? (i := 1221) (by decide +kernel), List.mem_of_getElem? (i := 1602) (by decide +kernel), List.mem_of_getElem? (i := 1603) (by decide +kernel)⟩
theorem lw_p79 : lw_okq (⟨"CarpetHallsModel", "reads", "()Z"⟩, 57) := ⟨⟨by decide +kernel, by decide +kernel⟩, List.mem_of_getElem? (i := 1221) (by decide +kernel), List.mem_of_getElem? (i := 1606) (by decide +kernel), List.mem_of_getElem? (i := 1607) (by decide +kernel)⟩
def lw_privs_5 : List (MethodName × Nat) := [(⟨"CarpetHallsModel", "bounded", "(JZ)J"⟩, 57), (⟨"CarpetHallsModel", "testOf", "(Z)Z"⟩, 57), (⟨"CarpetHallsModel", "bothOf", "(Z)Z"⟩, 57), (⟨"CarpetHallsModel", "plainOf", "(Z)Z"⟩, 57), (⟨"CarpetHallsModel", "positiveOf", "(Z)Z"⟩, 57), (⟨"CarpetHallsModel", "laidMany", "()I"⟩, 57), (⟨"CarpetHallsModel", "covers", "(III)Z"⟩, 57), (⟨"CarpetHallsModel", "costsAt", "(III)I"⟩, 57), (⟨"CarpetHallsModel", "isBarred", "(III)Z"⟩, 57), (⟨"CarpetHallsModel", "canLay", "(III)Z"⟩, 57), (⟨"CarpetHallsModel", "isWhole", "(I)Z"⟩, 57), (⟨"CarpetHallsModel", "laysCovered", "()V"⟩, 57), (⟨"CarpetHallsModel", "turnsSquare", "(III)V"⟩, 57), (⟨"CarpetHallsModel", "isFree", "(IIIII)Z"⟩, 57), (⟨"CarpetHallsModel", "readsAs", "(Z)Z"⟩, 57), (⟨"CarpetHallsModel", "reads", "()Z"⟩, 57)]
theorem lw_r5 : ∀ q ∈ lw_privs_5, lw_okq q := List.forall_mem_cons.mpr ⟨lw_p64, List.forall_mem_cons.mpr ⟨lw_p65, List.forall_mem_cons.mpr ⟨lw_p66, List.forall_mem_cons.mpr ⟨lw_p67, List.forall_mem_cons.mpr ⟨lw_p68, List.forall_mem_cons.mpr ⟨lw_p69, List.forall_mem_cons.mpr ⟨lw_p70, List.forall_mem_cons.mpr ⟨lw_p71, List.forall_mem_cons.mpr ⟨lw_p72, List.forall_mem_cons.mpr ⟨lw_p73, List.forall_mem_cons.mpr ⟨lw_p74, List.forall_mem_cons.mpr ⟨lw_p75, List.forall_mem_cons.mpr ⟨lw_p76, List.forall_mem_cons.mpr ⟨lw_p77, List.forall_mem_cons.mpr ⟨lw_p78, List.forall_mem_cons.mpr ⟨lw_p79, fun _ h => absurd h List.not_mem_nil⟩⟩⟩⟩⟩⟩⟩⟩⟩⟩⟩⟩⟩⟩⟩⟩
theorem lw_p80 : lw_okq (⟨"CarpetHallsModel", "splits", "(I)V"⟩, 57) := ⟨⟨by decide +kernel, by decide +kernel⟩, List.mem_of_getElem? (i := 1221) (by decide +kernel), List.mem_of_getElem? (i := 1610) (by decide +kernel), List.mem_of_getElem? (i := 1611) (by decide +kernel)⟩
theorem lw_p81 : lw_okq (⟨"CarpetHallsModel", "wordOf", "(II)I"⟩, 57) := ⟨⟨by decide +kernel, by decide +kernel⟩, List.mem_of_getElem? (i := 1221) (by decide +kernel), List.mem_of_getElem? (i := 1620) (by decide +kernel), List.mem_of_getElem? (i := 1621) (by decide +kernel)⟩
theorem lw_p82 : lw_okq (⟨"CarpetHallsModel", "readOne", "()V"⟩, 57) := ⟨⟨by decide +kernel, by decide +kernel⟩, List.mem_of_getElem? (i := 1221) (by decide +kernel), List.mem_of_getElem? (i := 1625) (by decide +kernel), List.mem_of_getElem? (i := 1626) (by decide +kernel)⟩
theorem lw_p83 : lw_okq (⟨"CarpetHallsModel", "readOrder", "()V"⟩, 57) := ⟨⟨by decide +kernel, by decide +kernel⟩, List.mem_of_getElem? (i := 1221) (by decide +kernel), List.mem_of_getElem? (i := 1629) (by decide +kernel), List.mem_of_getElem? (i := 1630) (by decide +kernel)⟩
theorem lw_p84 : lw_okq (⟨"CarpetHallsModel", "takes0", "(I)Z"⟩, 57) := ⟨⟨by decide +kernel, by decide +kernel⟩, List.mem_of_getElem? (i := 1221) (by decide +kernel), List.mem_of_getElem? (i := 1633) (by decide +kernel), List.mem_of_getElem? (i := 1634) (by decide +kernel)⟩
theorem lw_p85 : lw_okq (⟨"CarpetHallsModel", "fine", "()Z"⟩, 57) := ⟨⟨by decide +kernel, by decide +kernel⟩, List.mem_of_getElem? (i := 1221) (by decide +kernel), List.mem_of_getElem? (i := 1637) (by decide +kernel), List.mem_of_getElem? (i := 1638) (by decide +kernel)⟩
theorem lw_p86 : lw_okq (⟨"CarpetHallsModel", "readSum", "(I)V"⟩, 57) := ⟨⟨by decide +kernel, by decide +kernel⟩, List.mem_of_getElem? (i := 1221) (by decide +kernel), List.mem_of_getElem? (i := 1641) (by decide +kernel), List.mem_of_getElem? (i := 1642) (by decide +kernel)⟩
theorem lw_p87 : lw_okq (⟨"CarpetHallsModel", "readTerm", "(I)V"⟩, 57) := ⟨⟨by decide +kernel, by decide +kernel⟩, List.mem_of_getElem? (i := 1221) (by decide +kernel), List.mem_of_getElem? (i := 1645) (by decide +kernel), List.mem_of_getElem? (i := 1646) (by decide +kernel)⟩
theorem lw_p88 : lw_okq (⟨"CarpetHallsModel", "readPart", "(I)V"⟩, 57) := ⟨⟨by decide +kernel, by decide +kernel⟩, List.mem_of_getElem? (i := 1221) (by decide +kernel), List.mem_of_getElem? (i := 1649) (by decide +kernel), List.mem_of_getElem? (i := 1650) (by decide +kernel)⟩
theorem lw_p89 : lw_okq (⟨"CarpetHallsModel", "faults", "()V"⟩, 57) := ⟨⟨by decide +kernel, by decide +kernel⟩, List.mem_of_getElem? (i := 1221) (by decide +kernel), List.mem_of_getElem? (i := 1653) (by decide +kernel), List.mem_of_getElem? (i := 1654) (by decide +kernel)⟩
theorem lw_p90 : lw_okq (⟨"CarpetHallsModel", "must", "(I)V"⟩, 57) := ⟨⟨by decide +kernel, by decide +kernel⟩, List.mem_of_getElem? (i := 1221) (by decide +kernel), List.mem_of_getElem? (i := 1657) (by decide +kernel), List.mem_of_getElem? (i := 1658) (by decide +kernel)⟩
theorem lw_p91 : lw_okq (⟨"CarpetHallsModel", "leaf", "()V"⟩, 57) := ⟨⟨by decide +kernel, by decide +kernel⟩, List.mem_of_getElem? (i := 1221) (by decide +kernel), List.mem_of_getElem? (i := 1661) (by decide +kernel), List.mem_of_getElem? (i := 1662) (by decide +kernel)⟩
theorem lw_p92 : lw_okq (⟨"CarpetHallsModel", "mustNumber", "(II)V"⟩, 57) := ⟨⟨by decide +kernel, by decide +kernel⟩, List.mem_of_getElem? (i := 1221) (by decide +kernel), List.mem_of_getElem? (i := 1665) (by decide +kernel), List.mem_of_getElem? (i := 1666) (by decide +kernel)⟩
theorem lw_p93 : lw_okq (⟨"CarpetHallsModel", "readMore", "(I)V"⟩, 57) := ⟨⟨by decide +kernel, by decide +kernel⟩, List.mem_of_getElem? (i := 1221) (by decide +kernel), List.mem_of_getElem? (i := 1669) (by decide +kernel), List.mem_of_getElem? (i := 1670) (by decide +kernel)⟩
theorem lw_p94 : lw_okq (⟨"CarpetHallsModel", "readTest", "(I)V"⟩, 57) := ⟨⟨by decide +kernel, by decide +kernel⟩, List.mem_of_getElem? (i := 1221) (by decide +kernel), List.mem_of_getElem? (i := 1673) (by decide +kernel), List.mem_of_getElem? (i := 1674) (by decide +kernel)⟩
theorem lw_p95 : lw_okq (⟨"CarpetHallsModel", "readBoth", "(I)V"⟩, 57) := ⟨⟨by decide +kernel, by decide +kernel⟩, List.mem_of_getElem? (i := 1221) (by decide +kernel), List.mem_of_getElem? (i := 1677) (by decide +kernel), List.mem_of_getElem? (i := 1678) (by decide +kernel)⟩
def lw_privs_6 : List (MethodName × Nat) := [(⟨"CarpetHallsModel", "splits", "(I)V"⟩, 57), (⟨"CarpetHallsModel", "wordOf", "(II)I"⟩, 57), (⟨"CarpetHallsModel", "readOne", "()V"⟩, 57), (⟨"CarpetHallsModel", "readOrder", "()V"⟩, 57), (⟨"CarpetHallsModel", "takes0", "(I)Z"⟩, 57), (⟨"CarpetHallsModel", "fine", "()Z"⟩, 57), (⟨"CarpetHallsModel", "readSum", "(I)V"⟩, 57), (⟨"CarpetHallsModel", "readTerm", "(I)V"⟩, 57), (⟨"CarpetHallsModel", "readPart", "(I)V"⟩, 57), (⟨"CarpetHallsModel", "faults", "()V"⟩, 57), (⟨"CarpetHallsModel", "must", "(I)V"⟩, 57), (⟨"CarpetHallsModel", "leaf", "()V"⟩, 57), (⟨"CarpetHallsModel", "mustNumber", "(II)V"⟩, 57), (⟨"CarpetHallsModel", "readMore", "(I)V"⟩, 57), (⟨"CarpetHallsModel", "readTest", "(I)V"⟩, 57), (⟨"CarpetHallsModel", "readBoth", "(I)V"⟩, 57)]
theorem lw_r6 : ∀ q ∈ lw_privs_6, lw_okq q := List.forall_mem_cons.mpr ⟨lw_p80, List.forall_mem_cons.mpr ⟨lw_p81, List.forall_mem_cons.mpr ⟨lw_p82, List.forall_mem_cons.mpr ⟨lw_p83, List.forall_mem_cons.mpr ⟨lw_p84, List.forall_mem_cons.mpr ⟨lw_p85, List.forall_mem_cons.mpr ⟨lw_p86, List.forall_mem_cons.mpr ⟨lw_p87, List.forall_mem_cons.mpr ⟨lw_p88, List.forall_mem_cons.mpr ⟨lw_p89, List.forall_mem_cons.mpr ⟨lw_p90, List.forall_mem_cons.mpr ⟨lw_p91, List.forall_mem_cons.mpr ⟨lw_p92, List.forall_mem_cons.mpr ⟨lw_p93, List.forall_mem_cons.mpr ⟨lw_p94, List.forall_mem_cons.mpr ⟨lw_p95, fun _ h => absurd h List.not_mem_nil⟩⟩⟩⟩⟩⟩⟩⟩⟩⟩⟩⟩⟩⟩⟩⟩
theorem lw_p96 : lw_okq (⟨"CarpetHallsModel", "readPlain", "(I)V"⟩, 57) := ⟨⟨by decide +kernel, by decide +kernel⟩, List.mem_of_getElem? (i := 1221) (by decide +kernel), List.mem_of_getElem? (i := 1681) (by decide +kernel), List.mem_of_getElem? (i := 1682) (by decide +kernel)⟩
theorem lw_p97 : lw_okq (⟨"CarpetHallsModel", "readClause", "()V"⟩, 57) := ⟨⟨by decide +kernel, by decide +kernel⟩, List.mem_of_getElem? (i := 1221) (by decide +kernel), List.mem_of_getElem? (i := 1685) (by decide +kernel), List.mem_of_getElem? (i := 1686) (by decide +kernel)⟩
theorem lw_p98 : lw_okq (⟨"CarpetHallsModel", "lays", "(I)V"⟩, 57) := ⟨⟨by decide +kernel, by decide +kernel⟩, List.mem_of_getElem? (i := 1221) (by decide +kernel), List.mem_of_getElem? (i := 1689) (by decide +kernel), List.mem_of_getElem? (i := 1690) (by decide +kernel)⟩
theorem lw_p99 : lw_okq (⟨"CarpetHallsModel", "isLaw", "(I)Z"⟩, 57) := ⟨⟨by decide +kernel, by decide +kernel⟩, List.mem_of_getElem? (i := 1221) (by decide +kernel), List.mem_of_getElem? (i := 1701) (by decide +kernel), List.mem_of_getElem? (i := 1702) (by decide +kernel)⟩
theorem lw_p100 : lw_okq (⟨"CarpetHallsModel", "firstBare", "(II)I"⟩, 57) := ⟨⟨by decide +kernel, by decide +kernel⟩, List.mem_of_getElem? (i := 1221) (by decide +kernel), List.mem_of_getElem? (i := 1709) (by decide +kernel), List.mem_of_getElem? (i := 1710) (by decide +kernel)⟩
theorem lw_p101 : lw_okq (⟨"CarpetHallsModel", "laysKept", "(III)I"⟩, 57) := ⟨⟨by decide +kernel, by decide +kernel⟩, List.mem_of_getElem? (i := 1221) (by decide +kernel), List.mem_of_getElem? (i := 1724) (by decide +kernel), List.mem_of_getElem? (i := 1725) (by decide +kernel)⟩
theorem lw_p102 : lw_okq (⟨"CarpetHallsModel", "keeps", "(I)V"⟩, 57) := ⟨⟨by decide +kernel, by decide +kernel⟩, List.mem_of_getElem? (i := 1221) (by decide +kernel), List.mem_of_getElem? (i := 1728) (by decide +kernel), List.mem_of_getElem? (i := 1729) (by decide +kernel)⟩
theorem lw_p103 : lw_okq (⟨"CarpetHallsModel", "laysAt", "(III)I"⟩, 57) := ⟨⟨by decide +kernel, by decide +kernel⟩, List.mem_of_getElem? (i := 1221) (by decide +kernel), List.mem_of_getElem? (i := 1732) (by decide +kernel), List.mem_of_getElem? (i := 1733) (by decide +kernel)⟩
theorem lw_p104 : lw_okq (⟨"CarpetHallsModel", "goodOr", "(I)I"⟩, 57) := ⟨⟨by decide +kernel, by decide +kernel⟩, List.mem_of_getElem? (i := 1221) (by decide +kernel), List.mem_of_getElem? (i := 1739) (by decide +kernel), List.mem_of_getElem? (i := 1740) (by decide +kernel)⟩
theorem lw_p105 : lw_okq (⟨"CarpetHallsModel", "rollsKept", "(I)I"⟩, 57) := ⟨⟨by decide +kernel, by decide +kernel⟩, List.mem_of_getElem? (i := 1221) (by decide +kernel), List.mem_of_getElem? (i := 1747) (by decide +kernel), List.mem_of_getElem? (i := 1748) (by decide +kernel)⟩
theorem lw_p106 : lw_okq (⟨"CarpetHallsModel", "mirrorsKept", "()I"⟩, 57) := ⟨⟨by decide +kernel, by decide +kernel⟩, List.mem_of_getElem? (i := 1221) (by decide +kernel), List.mem_of_getElem? (i := 1755) (by decide +kernel), List.mem_of_getElem? (i := 1756) (by decide +kernel)⟩
theorem lw_p107 : lw_okq (⟨"CarpetHallsModel", "passesKept", "()I"⟩, 57) := ⟨⟨by decide +kernel, by decide +kernel⟩, List.mem_of_getElem? (i := 1221) (by decide +kernel), List.mem_of_getElem? (i := 1763) (by decide +kernel), List.mem_of_getElem? (i := 1764) (by decide +kernel)⟩
theorem lw_p108 : lw_okq (⟨"CarpetHallsModel", "yearPasses", "()I"⟩, 57) := ⟨⟨by decide +kernel, by decide +kernel⟩, List.mem_of_getElem? (i := 1221) (by decide +kernel), List.mem_of_getElem? (i := 1767) (by decide +kernel), List.mem_of_getElem? (i := 1768) (by decide +kernel)⟩
theorem lw_p109 : lw_okq (⟨"CarpetHallsModel", "fillsNow", "(Z)V"⟩, 57) := ⟨⟨by decide +kernel, by decide +kernel⟩, List.mem_of_getElem? (i := 1221) (by decide +kernel), List.mem_of_getElem? (i := 1778) (by decide +kernel), List.mem_of_getElem? (i := 1779) (by decide +kernel)⟩
theorem lw_p110 : lw_okq (⟨"CarpetHallsModel", "rolledWhole", "()I"⟩, 57) := ⟨⟨by decide +kernel, by decide +kernel⟩, List.mem_of_getElem? (i := 1221) (by decide +kernel), List.mem_of_getElem? (i := 1782) (by decide +kernel), List.mem_of_getElem? (i := 1783) (by decide +kernel)⟩
theorem lw_p111 : lw_okq (⟨"CarpetHallsModel", "laysPrices", "(I)V"⟩, 57) := ⟨⟨by decide +kernel, by decide +kernel⟩, List.mem_of_getElem? (i := 1221) (by decide +kernel), List.mem_of_getElem? (i := 1786) (by decide +kernel), List.mem_of_getElem? (i := 1787) (by decide +kernel)⟩
def lw_privs_7 : List (MethodName × Nat) := [(⟨"CarpetHallsModel", "readPlain", "(I)V"⟩, 57), (⟨"CarpetHallsModel", "readClause", "()V"⟩, 57), (⟨"CarpetHallsModel", "lays", "(I)V"⟩, 57), (⟨"CarpetHallsModel", "isLaw", "(I)Z"⟩, 57), (⟨"CarpetHallsModel", "firstBare", "(II)I"⟩, 57), (⟨"CarpetHallsModel", "laysKept", "(III)I"⟩, 57), (⟨"CarpetHallsModel", "keeps", "(I)V"⟩, 57), (⟨"CarpetHallsModel", "laysAt", "(III)I"⟩, 57), (⟨"CarpetHallsModel", "goodOr", "(I)I"⟩, 57), (⟨"CarpetHallsModel", "rollsKept", "(I)I"⟩, 57), (⟨"CarpetHallsModel", "mirrorsKept", "()I"⟩, 57), (⟨"CarpetHallsModel", "passesKept", "()I"⟩, 57), (⟨"CarpetHallsModel", "yearPasses", "()I"⟩, 57), (⟨"CarpetHallsModel", "fillsNow", "(Z)V"⟩, 57), (⟨"CarpetHallsModel", "rolledWhole", "()I"⟩, 57), (⟨"CarpetHallsModel", "laysPrices", "(I)V"⟩, 57)]
theorem lw_r7 : ∀ q ∈ lw_privs_7, lw_okq q := List.forall_mem_cons.mpr ⟨lw_p96, List.forall_mem_cons.mpr ⟨lw_p97, List.forall_mem_cons.mpr ⟨lw_p98, List.forall_mem_cons.mpr ⟨lw_p99, List.forall_mem_cons.mpr ⟨lw_p100, List.forall_mem_cons.mpr ⟨lw_p101, List.forall_mem_cons.mpr ⟨lw_p102, List.forall_mem_cons.mpr ⟨lw_p103, List.forall_mem_cons.mpr ⟨lw_p104, List.forall_mem_cons.mpr ⟨lw_p105, List.forall_mem_cons.mpr ⟨lw_p106, List.forall_mem_cons.mpr ⟨lw_p107, List.forall_mem_cons.mpr ⟨lw_p108, List.forall_mem_cons.mpr ⟨lw_p109, List.forall_mem_cons.mpr ⟨lw_p110, List.forall_mem_cons.mpr ⟨lw_p111, fun _ h => absurd h List.not_mem_nil⟩⟩⟩⟩⟩⟩⟩⟩⟩⟩⟩⟩⟩⟩⟩⟩
theorem lw_p112 : lw_okq (⟨"CarpetHallsModel", "goesThrough", "(III)V"⟩, 57) := ⟨⟨by decide +kernel, by decide +kernel⟩, List.mem_of_getElem? (i := 1221) (by decide +kernel), List.mem_of_getElem? (i := 1790) (by decide +kernel), List.mem_of_getElem? (i := 1791) (by decide +kernel)⟩
theorem lw_p113 : lw_okq (⟨"CarpetHallsModel", "goesOn", "(III)V"⟩, 57) := ⟨⟨by decide +kernel, by decide +kernel⟩, List.mem_of_getElem? (i := 1221) (by decide +kernel), List.mem_of_getElem? (i := 1794) (by decide +kernel), List.mem_of_getElem? (i := 1795) (by decide +kernel)⟩
theorem lw_p114 : lw_okq (⟨"CarpetHallsModel", "fills", "(II)V"⟩, 57) := ⟨⟨by decide +kernel, by decide +kernel⟩, List.mem_of_getElem? (i := 1221) (by decide +kernel), List.mem_of_getElem? (i := 1798) (by decide +kernel), List.mem_of_getElem? (i := 1799) (by decide +kernel)⟩
theorem lw_p115 : lw_okq (⟨"CarpetHallsModel", "isSeenSo", "(I)Z"⟩, 57) := ⟨⟨by decide +kernel, by decide +kernel⟩, List.mem_of_getElem? (i := 1221) (by decide +kernel), List.mem_of_getElem? (i := 1802) (by decide +kernel), List.mem_of_getElem? (i := 1803) (by decide +kernel)⟩
theorem lw_p116 : lw_okq (⟨"CarpetHallsModel", "carpetBehind", "(III)I"⟩, 57) := ⟨⟨by decide +kernel, by decide +kernel⟩, List.mem_of_getElem? (i := 1221) (by decide +kernel), List.mem_of_getElem? (i := 1806) (by decide +kernel), List.mem_of_getElem? (i := 1807) (by decide +kernel)⟩
theorem lw_p117 : lw_okq (⟨"CarpetHallsModel", "countsRow", "(I)V"⟩, 57) := ⟨⟨by decide +kernel, by decide +kernel⟩, List.mem_of_getElem? (i := 1221) (by decide +kernel), List.mem_of_getElem? (i := 1811) (by decide +kernel), List.mem_of_getElem? (i := 1812) (by decide +kernel)⟩
theorem lw_p118 : lw_okq (⟨"CarpetHallsModel", "priceAt", "(II)I"⟩, 57) := ⟨⟨by decide +kernel, by decide +kernel⟩, List.mem_of_getElem? (i := 1221) (by decide +kernel), List.mem_of_getElem? (i := 1815) (by decide +kernel), List.mem_of_getElem? (i := 1816) (by decide +kernel)⟩
theorem lw_p119 : lw_okq (⟨"CarpetHallsModel", "isMovable", "(I)Z"⟩, 57) := ⟨⟨by decide +kernel, by decide +kernel⟩, List.mem_of_getElem? (i := 1221) (by decide +kernel), List.mem_of_getElem? (i := 1836) (by decide +kernel), List.mem_of_getElem? (i := 1837) (by decide +kernel)⟩
theorem lw_p120 : lw_okq (⟨"CarpetHallsModel", "canFill", "(III)Z"⟩, 57) := ⟨⟨by decide +kernel, by decide +kernel⟩, List.mem_of_getElem? (i := 1221) (by decide +kernel), List.mem_of_getElem? (i := 1844) (by decide +kernel), List.mem_of_getElem? (i := 1845) (by decide +kernel)⟩
theorem lw_p121 : lw_okq (⟨"CarpetHallsModel", "within", "(IIII)I"⟩, 57) := ⟨⟨by decide +kernel, by decide +kernel⟩, List.mem_of_getElem? (i := 1221) (by decide +kernel), List.mem_of_getElem? (i := 1852) (by decide +kernel), List.mem_of_getElem? (i := 1853) (by decide +kernel)⟩
theorem lw_p122 : lw_okq (⟨"CarpetHallsModel", "isCross", "(II)Z"⟩, 57) := ⟨⟨by decide +kernel, by decide +kernel⟩, List.mem_of_getElem? (i := 1221) (by decide +kernel), List.mem_of_getElem? (i := 1860) (by decide +kernel), List.mem_of_getElem? (i := 1861) (by decide +kernel)⟩
theorem lw_p123 : lw_okq (⟨"CarpetHallsModel", "laysFloors", "()V"⟩, 57) := ⟨⟨by decide +kernel, by decide +kernel⟩, List.mem_of_getElem? (i := 1221) (by decide +kernel), List.mem_of_getElem? (i := 1888) (by decide +kernel), List.mem_of_getElem? (i := 1889) (by decide +kernel)⟩
theorem lw_p124 : lw_okq (⟨"CarpetHallsModel", "mostAt", "(I)I"⟩, 57) := ⟨⟨by decide +kernel, by decide +kernel⟩, List.mem_of_getElem? (i := 1221) (by decide +kernel), List.mem_of_getElem? (i := 1896) (by decide +kernel), List.mem_of_getElem? (i := 1897) (by decide +kernel)⟩
theorem lw_p125 : lw_okq (⟨"CarpetHallsModel", "laysAside", "(I)V"⟩, 57) := ⟨⟨by decide +kernel, by decide +kernel⟩, List.mem_of_getElem? (i := 1221) (by decide +kernel), List.mem_of_getElem? (i := 1915) (by decide +kernel), List.mem_of_getElem? (i := 1916) (by decide +kernel)⟩
theorem lw_p126 : lw_okq (⟨"CarpetHallsModel", "runs", "(I)Z"⟩, 57) := ⟨⟨by decide +kernel, by decide +kernel⟩, List.mem_of_getElem? (i := 1221) (by decide +kernel), List.mem_of_getElem? (i := 1919) (by decide +kernel), List.mem_of_getElem? (i := 1920) (by decide +kernel)⟩
theorem lw_p127 : lw_okq (⟨"CarpetHallsModel", "goesAlong", "(IZ)V"⟩, 57) := ⟨⟨by decide +kernel, by decide +kernel⟩, List.mem_of_getElem? (i := 1221) (by decide +kernel), List.mem_of_getElem? (i := 1923) (by decide +kernel), List.mem_of_getElem? (i := 1924) (by decide +kernel)⟩
def lw_privs_8 : List (MethodName × Nat) := [(⟨"CarpetHallsModel", "goesThrough", "(III)V"⟩, 57), (⟨"CarpetHallsModel", "goesOn", "(III)V"⟩, 57), (⟨"CarpetHallsModel", "fills", "(II)V"⟩, 57), (⟨"CarpetHallsModel", "isSeenSo", "(I)Z"⟩, 57), (⟨"CarpetHallsModel", "carpetBehind", "(III)I"⟩, 57), (⟨"CarpetHallsModel", "countsRow", "(I)V"⟩, 57), (⟨"CarpetHallsModel", "priceAt", "(II)I"⟩, 57), (⟨"CarpetHallsModel", "isMovable", "(I)Z"⟩, 57), (⟨"CarpetHallsModel", "canFill", "(III)Z"⟩, 57), (⟨"CarpetHallsModel", "within", "(IIII)I"⟩, 57), (⟨"CarpetHallsModel", "isCross", "(II)Z"⟩, 57), (⟨"CarpetHallsModel", "laysFloors", "()V"⟩, 57), (⟨"CarpetHallsModel", "mostAt", "(I)I"⟩, 57), (⟨"CarpetHallsModel", "laysAside", "(I)V"⟩, 57), (⟨"CarpetHallsModel", "runs", "(I)Z"⟩, 57), (⟨"CarpetHallsModel", "goesAlong", "(IZ)V"⟩, 57)]
theorem lw_r8 : ∀ q ∈ lw_privs_8, lw_okq q := List.forall_mem_cons.mpr ⟨lw_p112, List.forall_mem_cons.mpr ⟨lw_p113, List.forall_mem_cons.mpr ⟨lw_p114, List.forall_mem_cons.mpr ⟨lw_p115, List.forall_mem_cons.mpr ⟨lw_p116, List.forall_mem_cons.mpr ⟨lw_p117, List.forall_mem_cons.mpr ⟨lw_p118, List.forall_mem_cons.mpr ⟨lw_p119, List.forall_mem_cons.mpr ⟨lw_p120, List.forall_mem_cons.mpr ⟨lw_p121, List.forall_mem_cons.mpr ⟨lw_p122, List.forall_mem_cons.mpr ⟨lw_p123, List.forall_mem_cons.mpr ⟨lw_p124, List.forall_mem_cons.mpr ⟨lw_p125, List.forall_mem_cons.mpr ⟨lw_p126, List.forall_mem_cons.mpr ⟨lw_p127, fun _ h => absurd h List.not_mem_nil⟩⟩⟩⟩⟩⟩⟩⟩⟩⟩⟩⟩⟩⟩⟩⟩
theorem lw_p128 : lw_okq (⟨"CarpetHallsModel", "obeys", "()I"⟩, 57) := ⟨⟨by decide +kernel, by decide +kernel⟩, List.mem_of_getElem? (i := 1221) (by decide +kernel), List.mem_of_getElem? (i := 1927) (by decide +kernel), List.mem_of_getElem? (i := 1928) (by decide +kernel)⟩
theorem lw_p129 : lw_okq (⟨"CarpetHallsModel", "takesBack", "(I)V"⟩, 57) := ⟨⟨by decide +kernel, by decide +kernel⟩, List.mem_of_getElem? (i := 1221) (by decide +kernel), List.mem_of_getElem? (i := 1935) (by decide +kernel), List.mem_of_getElem? (i := 1936) (by decide +kernel)⟩
theorem lw_p130 : lw_okq (⟨"CarpetHallsModel", "draws", "(I)I"⟩, 57) := ⟨⟨by decide +kernel, by decide +kernel⟩, List.mem_of_getElem? (i := 1221) (by decide +kernel), List.mem_of_getElem? (i := 1943) (by decide +kernel), List.mem_of_getElem? (i := 1944) (by decide +kernel)⟩
theorem lw_p131 : lw_okq (⟨"CarpetHallsModel", "ragMany", "()I"⟩, 57) := ⟨⟨by decide +kernel, by decide +kernel⟩, List.mem_of_getElem? (i := 1221) (by decide +kernel), List.mem_of_getElem? (i := 1958) (by decide +kernel), List.mem_of_getElem? (i := 1959) (by decide +kernel)⟩
def lw_privs_9 : List (MethodName × Nat) := [(⟨"CarpetHallsModel", "obeys", "()I"⟩, 57), (⟨"CarpetHallsModel", "takesBack", "(I)V"⟩, 57), (⟨"CarpetHallsModel", "draws", "(I)I"⟩, 57), (⟨"CarpetHallsModel", "ragMany", "()I"⟩, 57)]
theorem lw_r9 : ∀ q ∈ lw_privs_9, lw_okq q := List.forall_mem_cons.mpr ⟨lw_p128, List.forall_mem_cons.mpr ⟨lw_p129, List.forall_mem_cons.mpr ⟨lw_p130, List.forall_mem_cons.mpr ⟨lw_p131, fun _ h => absurd h List.not_mem_nil⟩⟩⟩⟩
def lw_privs : List (MethodName × Nat) := lw_privs_1 ++ (lw_privs_2 ++ (lw_privs_3 ++ (lw_privs_4 ++ (lw_privs_5 ++ (lw_privs_6 ++ (lw_privs_7 ++ (lw_privs_8 ++ (lw_privs_9))))))))
def lw_tbl : List Cond := k2_sels lw_privs ++ tables_1
theorem lw_privs_ok : ∀ q ∈ lw_privs, lw_okq q := by
  show ∀ q ∈ lw_privs_1 ++ (lw_privs_2 ++ (lw_privs_3 ++ (lw_privs_4 ++ (lw_privs_5 ++ (lw_privs_6 ++ (lw_privs_7 ++ (lw_privs_8 ++ (lw_privs_9)))))))), lw_okq q
  exact List.forall_mem_append.mpr ⟨lw_r1, List.forall_mem_append.mpr ⟨lw_r2, List.forall_mem_append.mpr ⟨lw_r3, List.forall_mem_append.mpr ⟨lw_r4, List.forall_mem_append.mpr ⟨lw_r5, List.forall_mem_append.mpr ⟨lw_r6, List.forall_mem_append.mpr ⟨lw_r7, List.forall_mem_append.mpr ⟨lw_r8, lw_r9⟩⟩⟩⟩⟩⟩⟩⟩
end
section
def RX0 : String := "CarpetHalls$Chance"
def TX0 : u_T := fun k => match k with
  | _ => ("CarpetHalls$Chance", "limbs", "[J", true)
def tyX0 : Nat → FieldType := fun k => match k with
  | _ => .array .long
theorem nmX0 : ∀ a, a < 1 → ∀ b, b < 1 → a ≠ b → (TX0 a).2.1 ≠ (TX0 b).2.1 := by decide +kernel
theorem tyX0_ok : ∀ k, k < 1 → parseFieldDescriptor (TX0 k).2.2.1 = some (tyX0 k) := by decide +kernel
abbrev cX0_init : ByteArray := prog_2_method_1_code
def yX0_init : MethodName := ⟨RX0, "<init>", "()V"⟩
abbrev cX0_fewer : ByteArray := prog_2_method_2_code
def yX0_fewer : MethodName := ⟨RX0, "fewer", "(III)J"⟩
abbrev cX0_setStart : ByteArray := prog_2_method_3_code
def yX0_setStart : MethodName := ⟨RX0, "setStart", "(I)V"⟩
abbrev cX0_addOneMore : ByteArray := prog_2_method_4_code
def yX0_addOneMore : MethodName := ⟨RX0, "addOneMore", "(II)V"⟩
def RX1 : String := "CarpetHalls$Floor"
def TX1 : u_T := fun k => match k with
  | 0 => ("CarpetHalls$Floor", "side", "[I", true)
  | 1 => ("CarpetHalls$Floor", "kind", "[I", true)
  | 2 => ("CarpetHalls$Floor", "pile", "[I", true)
  | 3 => ("CarpetHalls$Floor", "x", "[I", true)
  | 4 => ("CarpetHalls$Floor", "y", "[I", true)
  | 5 => ("CarpetHalls$Floor", "terms", "[I", true)
  | 6 => ("CarpetHalls$Floor", "rows", "[I", true)
  | 7 => ("CarpetHalls$Floor", "carpets", "I", false)
  | 8 => ("CarpetHalls$Floor", "wide", "I", false)
  | 9 => ("CarpetHalls$Floor", "high", "I", false)
  | _ => ("CarpetHalls$Floor", "paid", "I", false)
def tyX1 : Nat → FieldType := fun k => match k with
  | 0 => .array .int
  | 1 => .array .int
  | 2 => .array .int
  | 3 => .array .int
  | 4 => .array .int
  | 5 => .array .int
  | 6 => .array .int
  | 7 => .int
  | 8 => .int
  | 9 => .int
  | _ => .int
theorem nmX1 : ∀ a, a < 11 → ∀ b, b < 11 → a ≠ b → (TX1 a).2.1 ≠ (TX1 b).2.1 := by decide +kernel
theorem tyX1_ok : ∀ k, k < 11 → parseFieldDescriptor (TX1 k).2.2.1 = some (tyX1 k) := by decide +kernel
abbrev cX1_init : ByteArray := prog_3_method_1_code
def yX1_init : MethodName := ⟨RX1, "<init>", "()V"⟩
abbrev cX1_copyFrom : ByteArray := prog_3_method_2_code
def yX1_copyFrom : MethodName := ⟨RX1, "copyFrom", "(LCarpetHalls$Floor;)V"⟩
abbrev cX1_add : ByteArray := prog_3_method_3_code
def yX1_add : MethodName := ⟨RX1, "add", "(III)I"⟩
abbrev cX1_has : ByteArray := prog_3_method_4_code
def yX1_has : MethodName := ⟨RX1, "has", "(I)Z"⟩
abbrev cX1_isLaid : ByteArray := prog_3_method_5_code
def yX1_isLaid : MethodName := ⟨RX1, "isLaid", "(I)Z"⟩
abbrev cX1_isReady : ByteArray := prog_3_method_6_code
def yX1_isReady : MethodName := ⟨RX1, "isReady", "(I)Z"⟩
abbrev cX1_laidCarpets : ByteArray := prog_3_method_7_code
def yX1_laidCarpets : MethodName := ⟨RX1, "laidCarpets", "()I"⟩
abbrev cX1_rags : ByteArray := prog_3_method_8_code
def yX1_rags : MethodName := ⟨RX1, "rags", "()I"⟩
abbrev cX1_areaWithoutRags : ByteArray := prog_3_method_9_code
def yX1_areaWithoutRags : MethodName := ⟨RX1, "areaWithoutRags", "()I"⟩
abbrev cX1_bareCells : ByteArray := prog_3_method_10_code
def yX1_bareCells : MethodName := ⟨RX1, "bareCells", "()I"⟩
abbrev cX1_carpetOn : ByteArray := prog_3_method_11_code
def yX1_carpetOn : MethodName := ⟨RX1, "carpetOn", "(II)I"⟩
abbrev cX1_hasPlaceFor : ByteArray := prog_3_method_12_code
def yX1_hasPlaceFor : MethodName := ⟨RX1, "hasPlaceFor", "(III)Z"⟩
abbrev cX1_rollUp : ByteArray := prog_3_method_13_code
def yX1_rollUp : MethodName := ⟨RX1, "rollUp", "(I)V"⟩
abbrev cX1_emptyInto : ByteArray := prog_3_method_14_code
def yX1_emptyInto : MethodName := ⟨RX1, "emptyInto", "(II)V"⟩
abbrev cX1_turnOver : ByteArray := prog_3_method_15_code
def yX1_turnOver : MethodName := ⟨RX1, "turnOver", "()I"⟩
abbrev cX1_wearAYear : ByteArray := prog_3_method_16_code
def yX1_wearAYear : MethodName := ⟨RX1, "wearAYear", "(LCarpetHalls$Judge;LCarpetHalls$Text;)I"⟩
abbrev cX1_drawRows : ByteArray := prog_3_method_17_code
def yX1_drawRows : MethodName := ⟨RX1, "drawRows", "()V"⟩
abbrev cX1_firstBareCell : ByteArray := prog_3_method_18_code
def yX1_firstBareCell : MethodName := ⟨RX1, "firstBareCell", "()I"⟩
abbrev cX1_placesFor : ByteArray := prog_3_method_19_code
def yX1_placesFor : MethodName := ⟨RX1, "placesFor", "(I)I"⟩
abbrev cX1_innerHalls : ByteArray := prog_3_method_20_code
def yX1_innerHalls : MethodName := ⟨RX1, "innerHalls", "()I"⟩
abbrev cX1_isInnerHall : ByteArray := prog_3_method_21_code
def yX1_isInnerHall : MethodName := ⟨RX1, "isInnerHall", "(I)Z"⟩
abbrev cX1_crossPoints : ByteArray := prog_3_method_22_code
def yX1_crossPoints : MethodName := ⟨RX1, "crossPoints", "()I"⟩
abbrev cX1_threeMoreMeetAt : ByteArray := prog_3_method_23_code
def yX1_threeMoreMeetAt : MethodName := ⟨RX1, "threeMoreMeetAt", "(II)Z"⟩
abbrev cX1_sidesAtLine : ByteArray := prog_3_method_24_code
def yX1_sidesAtLine : MethodName := ⟨RX1, "sidesAtLine", "(IZ)I"⟩
abbrev cX1_twosOfOneSide : ByteArray := prog_3_method_25_code
def yX1_twosOfOneSide : MethodName := ⟨RX1, "twosOfOneSide", "()I"⟩
def RX2 : String := "CarpetHalls$Judge"
def TX2 : u_T := fun k => match k with
  | _ => ("CarpetHalls$Judge", "reckoner", "LCarpetHalls$Reckoner;", true)
def tyX2 : Nat → FieldType := fun k => match k with
  | _ => .object "CarpetHalls$Reckoner"
theorem nmX2 : ∀ a, a < 1 → ∀ b, b < 1 → a ≠ b → (TX2 a).2.1 ≠ (TX2 b).2.1 := by decide +kernel
theorem tyX2_ok : ∀ k, k < 1 → parseFieldDescriptor (TX2 k).2.2.1 = some (tyX2 k) := by decide +kernel
abbrev cX2_init : ByteArray := prog_4_method_1_code
def yX2_init : MethodName := ⟨RX2, "<init>", "()V"⟩
abbrev cX2_costOf : ByteArray := prog_4_method_2_code
def yX2_costOf : MethodName := ⟨RX2, "costOf", "(LCarpetHalls$Text;LCarpetHalls$Floor;III)I"⟩
abbrev cX2_wearOf : ByteArray := prog_4_method_3_code
def yX2_wearOf : MethodName := ⟨RX2, "wearOf", "(LCarpetHalls$Text;LCarpetHalls$Floor;I)I"⟩
abbrev cX2_isBarred : ByteArray := prog_4_method_4_code
def yX2_isBarred : MethodName := ⟨RX2, "isBarred", "(LCarpetHalls$Text;LCarpetHalls$Floor;III)Z"⟩
abbrev cX2_holds : ByteArray := prog_4_method_5_code
def yX2_holds : MethodName := ⟨RX2, "holds", "(LCarpetHalls$Text;I)Z"⟩
def RX3 : String := "CarpetHalls$Memo"
def TX3 : u_T := fun k => match k with
  | 0 => ("CarpetHalls$Memo", "bits", "I", false)
  | 1 => ("CarpetHalls$Memo", "keys", "[J", false)
  | 2 => ("CarpetHalls$Memo", "values", "[I", false)
  | 3 => ("CarpetHalls$Memo", "flows", "[I", false)
  | 4 => ("CarpetHalls$Memo", "order", "[I", false)
  | 5 => ("CarpetHalls$Memo", "used", "I", false)
  | _ => ("CarpetHalls$Memo", "full", "Z", false)
def tyX3 : Nat → FieldType := fun k => match k with
  | 0 => .int
  | 1 => .array .long
  | 2 => .array .int
  | 3 => .array .int
  | 4 => .array .int
  | 5 => .int
  | _ => .boolean
theorem nmX3 : ∀ a, a < 7 → ∀ b, b < 7 → a ≠ b → (TX3 a).2.1 ≠ (TX3 b).2.1 := by decide +kernel
theorem tyX3_ok : ∀ k, k < 7 → parseFieldDescriptor (TX3 k).2.2.1 = some (tyX3 k) := by decide +kernel
abbrev cX3_init : ByteArray := prog_5_method_1_code
def yX3_init : MethodName := ⟨RX3, "<init>", "()V"⟩
abbrev cX3_clear : ByteArray := prog_5_method_2_code
def yX3_clear : MethodName := ⟨RX3, "clear", "()V"⟩
abbrev cX3_slotFor : ByteArray := prog_5_method_3_code
def yX3_slotFor : MethodName := ⟨RX3, "slotFor", "(J)I"⟩
abbrev cX3_find : ByteArray := prog_5_method_4_code
def yX3_find : MethodName := ⟨RX3, "find", "(J)I"⟩
abbrev cX3_keep : ByteArray := prog_5_method_5_code
def yX3_keep : MethodName := ⟨RX3, "keep", "(JI)V"⟩
abbrev cX3_put : ByteArray := prog_5_method_6_code
def yX3_put : MethodName := ⟨RX3, "put", "(JII)V"⟩
abbrev cX3_grow : ByteArray := prog_5_method_7_code
def yX3_grow : MethodName := ⟨RX3, "grow", "()V"⟩
abbrev cX3_slotOfNth : ByteArray := prog_5_method_8_code
def yX3_slotOfNth : MethodName := ⟨RX3, "slotOfNth", "(I)I"⟩
abbrev cX3_keyIn : ByteArray := prog_5_method_9_code
def yX3_keyIn : MethodName := ⟨RX3, "keyIn", "(I)J"⟩
abbrev cX3_valueIn : ByteArray := prog_5_method_10_code
def yX3_valueIn : MethodName := ⟨RX3, "valueIn", "(I)I"⟩
abbrev cX3_flowIn : ByteArray := prog_5_method_11_code
def yX3_flowIn : MethodName := ⟨RX3, "flowIn", "(I)I"⟩
abbrev cX3_addFlow : ByteArray := prog_5_method_12_code
def yX3_addFlow : MethodName := ⟨RX3, "addFlow", "(II)V"⟩
def RX4 : String := "CarpetHalls$Past"
def TX4 : u_T := fun k => match k with
  | 0 => ("CarpetHalls$Past", "steps", "[I", true)
  | 1 => ("CarpetHalls$Past", "savedSteps", "[I", true)
  | 2 => ("CarpetHalls$Past", "savedFloor", "LCarpetHalls$Floor;", true)
  | 3 => ("CarpetHalls$Past", "savedSize", "I", false)
  | _ => ("CarpetHalls$Past", "size", "I", false)
def tyX4 : Nat → FieldType := fun k => match k with
  | 0 => .array .int
  | 1 => .array .int
  | 2 => .object "CarpetHalls$Floor"
  | 3 => .int
  | _ => .int
theorem nmX4 : ∀ a, a < 5 → ∀ b, b < 5 → a ≠ b → (TX4 a).2.1 ≠ (TX4 b).2.1 := by decide +kernel
theorem tyX4_ok : ∀ k, k < 5 → parseFieldDescriptor (TX4 k).2.2.1 = some (tyX4 k) := by decide +kernel
abbrev cX4_init : ByteArray := prog_6_method_1_code
def yX4_init : MethodName := ⟨RX4, "<init>", "()V"⟩
abbrev cX4_clear : ByteArray := prog_6_method_2_code
def yX4_clear : MethodName := ⟨RX4, "clear", "()V"⟩
abbrev cX4_note : ByteArray := prog_6_method_3_code
def yX4_note : MethodName := ⟨RX4, "note", "(ILCarpetHalls$Floor;)V"⟩
abbrev cX4_takeBack : ByteArray := prog_6_method_4_code
def yX4_takeBack : MethodName := ⟨RX4, "takeBack", "(LCarpetHalls$Floor;)I"⟩
abbrev cX4_save : ByteArray := prog_6_method_5_code
def yX4_save : MethodName := ⟨RX4, "save", "(LCarpetHalls$Floor;)V"⟩
abbrev cX4_restore : ByteArray := prog_6_method_6_code
def yX4_restore : MethodName := ⟨RX4, "restore", "(LCarpetHalls$Floor;)V"⟩
def RX5 : String := "CarpetHalls$Reader"
def TX5 : u_T := fun k => match k with
  | 0 => ("CarpetHalls$Reader", "tokens", "[I", true)
  | 1 => ("CarpetHalls$Reader", "places", "[I", true)
  | 2 => ("CarpetHalls$Reader", "tape", "LCarpetHalls$Tape;", false)
  | 3 => ("CarpetHalls$Reader", "text", "LCarpetHalls$Text;", false)
  | 4 => ("CarpetHalls$Reader", "ofOrders", "Z", false)
  | 5 => ("CarpetHalls$Reader", "at", "I", false)
  | 6 => ("CarpetHalls$Reader", "parts", "I", false)
  | 7 => ("CarpetHalls$Reader", "brackets", "I", false)
  | _ => ("CarpetHalls$Reader", "fault", "I", false)
def tyX5 : Nat → FieldType := fun k => match k with
  | 0 => .array .int
  | 1 => .array .int
  | 2 => .object "CarpetHalls$Tape"
  | 3 => .object "CarpetHalls$Text"
  | 4 => .boolean
  | 5 => .int
  | 6 => .int
  | 7 => .int
  | _ => .int
theorem nmX5 : ∀ a, a < 9 → ∀ b, b < 9 → a ≠ b → (TX5 a).2.1 ≠ (TX5 b).2.1 := by decide +kernel
theorem tyX5_ok : ∀ k, k < 9 → parseFieldDescriptor (TX5 k).2.2.1 = some (tyX5 k) := by decide +kernel
abbrev cX5_init : ByteArray := prog_7_method_1_code
def yX5_init : MethodName := ⟨RX5, "<init>", "()V"⟩
abbrev cX5_read : ByteArray := prog_7_method_2_code
def yX5_read : MethodName := ⟨RX5, "read", "(LCarpetHalls$Tape;LCarpetHalls$Text;Z)I"⟩
abbrev cX5_scan : ByteArray := prog_7_method_3_code
def yX5_scan : MethodName := ⟨RX5, "scan", "()V"⟩
abbrev cX5_isLetter : ByteArray := prog_7_method_4_code
def yX5_isLetter : MethodName := ⟨RX5, "isLetter", "(I)Z"⟩
abbrev cX5_isDigit : ByteArray := prog_7_method_5_code
def yX5_isDigit : MethodName := ⟨RX5, "isDigit", "(I)Z"⟩
abbrev cX5_endOfLetters : ByteArray := prog_7_method_6_code
def yX5_endOfLetters : MethodName := ⟨RX5, "endOfLetters", "(I)I"⟩
abbrev cX5_endOfDigits : ByteArray := prog_7_method_7_code
def yX5_endOfDigits : MethodName := ⟨RX5, "endOfDigits", "(I)I"⟩
abbrev cX5_valueFrom : ByteArray := prog_7_method_8_code
def yX5_valueFrom : MethodName := ⟨RX5, "valueFrom", "(II)I"⟩
abbrev cX5_wordFrom : ByteArray := prog_7_method_9_code
def yX5_wordFrom : MethodName := ⟨RX5, "wordFrom", "(II)I"⟩
abbrev cX5_is : ByteArray := prog_7_method_10_code
def yX5_is : MethodName := ⟨RX5, "is", "(Ljava/lang/String;II)Z"⟩
abbrev cX5_fail : ByteArray := prog_7_method_11_code
def yX5_fail : MethodName := ⟨RX5, "fail", "()V"⟩
abbrev cX5_take : ByteArray := prog_7_method_12_code
def yX5_take : MethodName := ⟨RX5, "take", "(I)Z"⟩
abbrev cX5_seenToken : ByteArray := prog_7_method_13_code
def yX5_seenToken : MethodName := ⟨RX5, "seenToken", "()I"⟩
abbrev cX5_takeNumber : ByteArray := prog_7_method_14_code
def yX5_takeNumber : MethodName := ⟨RX5, "takeNumber", "(II)I"⟩
abbrev cX5_readClause : ByteArray := prog_7_method_15_code
def yX5_readClause : MethodName := ⟨RX5, "readClause", "()V"⟩
abbrev cX5_readSums : ByteArray := prog_7_method_16_code
def yX5_readSums : MethodName := ⟨RX5, "readSums", "(I)V"⟩
abbrev cX5_readTest : ByteArray := prog_7_method_17_code
def yX5_readTest : MethodName := ⟨RX5, "readTest", "()V"⟩
abbrev cX5_readPlain : ByteArray := prog_7_method_18_code
def yX5_readPlain : MethodName := ⟨RX5, "readPlain", "()V"⟩
abbrev cX5_openBracket : ByteArray := prog_7_method_19_code
def yX5_openBracket : MethodName := ⟨RX5, "openBracket", "()Z"⟩
abbrev cX5_readSum : ByteArray := prog_7_method_20_code
def yX5_readSum : MethodName := ⟨RX5, "readSum", "()V"⟩
abbrev cX5_codeOf : ByteArray := prog_7_method_21_code
def yX5_codeOf : MethodName := ⟨RX5, "codeOf", "(I)I"⟩
abbrev cX5_readPart : ByteArray := prog_7_method_22_code
def yX5_readPart : MethodName := ⟨RX5, "readPart", "()V"⟩
abbrev cX5_orderCode : ByteArray := prog_7_method_23_code
def yX5_orderCode : MethodName := ⟨RX5, "orderCode", "(I)I"⟩
abbrev cX5_lawCode : ByteArray := prog_7_method_24_code
def yX5_lawCode : MethodName := ⟨RX5, "lawCode", "(I)I"⟩
def RX6 : String := "CarpetHalls$Reckoner"
def TX6 : u_T := fun k => match k with
  | 0 => ("CarpetHalls$Reckoner", "stack", "[J", true)
  | 1 => ("CarpetHalls$Reckoner", "words", "[I", true)
  | 2 => ("CarpetHalls$Reckoner", "sums", "[I", true)
  | _ => ("CarpetHalls$Reckoner", "broken", "Z", false)
def tyX6 : Nat → FieldType := fun k => match k with
  | 0 => .array .long
  | 1 => .array .int
  | 2 => .array .int
  | _ => .boolean
theorem nmX6 : ∀ a, a < 4 → ∀ b, b < 4 → a ≠ b → (TX6 a).2.1 ≠ (TX6 b).2.1 := by decide +kernel
theorem tyX6_ok : ∀ k, k < 4 → parseFieldDescriptor (TX6 k).2.2.1 = some (tyX6 k) := by decide +kernel
abbrev cX6_init : ByteArray := prog_8_method_1_code
def yX6_init : MethodName := ⟨RX6, "<init>", "()V"⟩
abbrev cX6_setLawWords : ByteArray := prog_8_method_2_code
def yX6_setLawWords : MethodName := ⟨RX6, "setLawWords", "(LCarpetHalls$Floor;III)V"⟩
abbrev cX6_setOrderWords : ByteArray := prog_8_method_3_code
def yX6_setOrderWords : MethodName := ⟨RX6, "setOrderWords", "(LCarpetHalls$Floor;)V"⟩
abbrev cX6_isSo : ByteArray := prog_8_method_4_code
def yX6_isSo : MethodName := ⟨RX6, "isSo", "(LCarpetHalls$Text;I)Z"⟩
abbrev cX6_reckonSums : ByteArray := prog_8_method_5_code
def yX6_reckonSums : MethodName := ⟨RX6, "reckonSums", "(LCarpetHalls$Text;I)Z"⟩
abbrev cX6_reckon : ByteArray := prog_8_method_6_code
def yX6_reckon : MethodName := ⟨RX6, "reckon", "(LCarpetHalls$Text;II)J"⟩
def RX7 : String := "CarpetHalls$Search"
def TX7 : u_T := fun k => match k with
  | 0 => ("CarpetHalls$Search", "memo", "LCarpetHalls$Memo;", true)
  | 1 => ("CarpetHalls$Search", "price", "[I", true)
  | 2 => ("CarpetHalls$Search", "asked", "[I", true)
  | 3 => ("CarpetHalls$Search", "tally", "[I", true)
  | 4 => ("CarpetHalls$Search", "path", "[I", true)
  | 5 => ("CarpetHalls$Search", "pathLength", "I", false)
  | 6 => ("CarpetHalls$Search", "round", "I", false)
  | 7 => ("CarpetHalls$Search", "judge", "LCarpetHalls$Judge;", false)
  | 8 => ("CarpetHalls$Search", "floor", "LCarpetHalls$Floor;", false)
  | 9 => ("CarpetHalls$Search", "law", "LCarpetHalls$Text;", false)
  | 10 => ("CarpetHalls$Search", "sight", "LCarpetHalls$Stand;", false)
  | 11 => ("CarpetHalls$Search", "bare", "I", false)
  | 12 => ("CarpetHalls$Search", "cheap", "Z", false)
  | _ => ("CarpetHalls$Search", "enough", "I", false)
def tyX7 : Nat → FieldType := fun k => match k with
  | 0 => .object "CarpetHalls$Memo"
  | 1 => .array .int
  | 2 => .array .int
  | 3 => .array .int
  | 4 => .array .int
  | 5 => .int
  | 6 => .int
  | 7 => .object "CarpetHalls$Judge"
  | 8 => .object "CarpetHalls$Floor"
  | 9 => .object "CarpetHalls$Text"
  | 10 => .object "CarpetHalls$Stand"
  | 11 => .int
  | 12 => .boolean
  | _ => .int
theorem nmX7 : ∀ a, a < 14 → ∀ b, b < 14 → a ≠ b → (TX7 a).2.1 ≠ (TX7 b).2.1 := by decide +kernel
theorem tyX7_ok : ∀ k, k < 14 → parseFieldDescriptor (TX7 k).2.2.1 = some (tyX7 k) := by decide +kernel
abbrev cX7_init : ByteArray := prog_9_method_1_code
def yX7_init : MethodName := ⟨RX7, "<init>", "()V"⟩
abbrev cX7_prepare : ByteArray := prog_9_method_2_code
def yX7_prepare : MethodName := ⟨RX7, "prepare", "(LCarpetHalls$Floor;LCarpetHalls$Text;LCarpetHalls$Judge;)V"⟩
abbrev cX7_heed : ByteArray := prog_9_method_3_code
def yX7_heed : MethodName := ⟨RX7, "heed", "(LCarpetHalls$Stand;)Z"⟩
abbrev cX7_number : ByteArray := prog_9_method_4_code
def yX7_number : MethodName := ⟨RX7, "number", "(I)I"⟩
abbrev cX7_leastCost : ByteArray := prog_9_method_5_code
def yX7_leastCost : MethodName := ⟨RX7, "leastCost", "()I"⟩
abbrev cX7_rowLength : ByteArray := prog_9_method_6_code
def yX7_rowLength : MethodName := ⟨RX7, "rowLength", "()I"⟩
abbrev cX7_rowCarpet : ByteArray := prog_9_method_7_code
def yX7_rowCarpet : MethodName := ⟨RX7, "rowCarpet", "(I)I"⟩
abbrev cX7_fillsAlone : ByteArray := prog_9_method_8_code
def yX7_fillsAlone : MethodName := ⟨RX7, "fillsAlone", "(I)Z"⟩
abbrev cX7_bestLook : ByteArray := prog_9_method_9_code
def yX7_bestLook : MethodName := ⟨RX7, "bestLook", "()I"⟩
abbrev cX7_mostAt : ByteArray := prog_9_method_10_code
def yX7_mostAt : MethodName := ⟨RX7, "mostAt", "(I)I"⟩
abbrev cX7_begin : ByteArray := prog_9_method_11_code
def yX7_begin : MethodName := ⟨RX7, "begin", "(ZI)V"⟩
abbrev cX7_areaReady : ByteArray := prog_9_method_12_code
def yX7_areaReady : MethodName := ⟨RX7, "areaReady", "()I"⟩
abbrev cX7_solve : ByteArray := prog_9_method_13_code
def yX7_solve : MethodName := ⟨RX7, "solve", "(JIII)I"⟩
abbrev cX7_cheaper : ByteArray := prog_9_method_14_code
def yX7_cheaper : MethodName := ⟨RX7, "cheaper", "(III)I"⟩
abbrev cX7_isBare : ByteArray := prog_9_method_15_code
def yX7_isBare : MethodName := ⟨RX7, "isBare", "(JI)Z"⟩
abbrev cX7_firstBare : ByteArray := prog_9_method_16_code
def yX7_firstBare : MethodName := ⟨RX7, "firstBare", "(JI)I"⟩
abbrev cX7_fits : ByteArray := prog_9_method_17_code
def yX7_fits : MethodName := ⟨RX7, "fits", "(JII)Z"⟩
abbrev cX7_agreesWithSeen : ByteArray := prog_9_method_18_code
def yX7_agreesWithSeen : MethodName := ⟨RX7, "agreesWithSeen", "(III)Z"⟩
abbrev cX7_priceAt : ByteArray := prog_9_method_19_code
def yX7_priceAt : MethodName := ⟨RX7, "priceAt", "(II)I"⟩
abbrev cX7_keyWith : ByteArray := prog_9_method_20_code
def yX7_keyWith : MethodName := ⟨RX7, "keyWith", "(JII)J"⟩
abbrev cX7_tallyFills : ByteArray := prog_9_method_21_code
def yX7_tallyFills : MethodName := ⟨RX7, "tallyFills", "()V"⟩
abbrev cX7_tallyKey : ByteArray := prog_9_method_22_code
def yX7_tallyKey : MethodName := ⟨RX7, "tallyKey", "(JI)V"⟩
abbrev cX7_tallyRow : ByteArray := prog_9_method_23_code
def yX7_tallyRow : MethodName := ⟨RX7, "tallyRow", "(JIII)I"⟩
abbrev cX7_addToTally : ByteArray := prog_9_method_24_code
def yX7_addToTally : MethodName := ⟨RX7, "addToTally", "(III)V"⟩
def RX8 : String := "CarpetHalls$Stand"
def TX8 : u_T := fun k => match k with
  | 0 => ("CarpetHalls$Stand", "floor", "LCarpetHalls$Floor;", true)
  | 1 => ("CarpetHalls$Stand", "law", "[LCarpetHalls$Text;", true)
  | 2 => ("CarpetHalls$Stand", "seenX", "[I", true)
  | 3 => ("CarpetHalls$Stand", "seenY", "[I", true)
  | 4 => ("CarpetHalls$Stand", "seenSide", "[I", true)
  | 5 => ("CarpetHalls$Stand", "laws", "I", false)
  | 6 => ("CarpetHalls$Stand", "forced", "I", false)
  | _ => ("CarpetHalls$Stand", "seen", "I", false)
def tyX8 : Nat → FieldType := fun k => match k with
  | 0 => .object "CarpetHalls$Floor"
  | 1 => .array (.object "CarpetHalls$Text")
  | 2 => .array .int
  | 3 => .array .int
  | 4 => .array .int
  | 5 => .int
  | 6 => .int
  | _ => .int
theorem nmX8 : ∀ a, a < 8 → ∀ b, b < 8 → a ≠ b → (TX8 a).2.1 ≠ (TX8 b).2.1 := by decide +kernel
theorem tyX8_ok : ∀ k, k < 8 → parseFieldDescriptor (TX8 k).2.2.1 = some (tyX8 k) := by decide +kernel
abbrev cX8_init : ByteArray := prog_10_method_1_code
def yX8_init : MethodName := ⟨RX8, "<init>", "()V"⟩
abbrev cX8_lawOf : ByteArray := prog_10_method_2_code
def yX8_lawOf : MethodName := ⟨RX8, "lawOf", "(I)LCarpetHalls$Text;"⟩
abbrev cX8_forcedLaw : ByteArray := prog_10_method_3_code
def yX8_forcedLaw : MethodName := ⟨RX8, "forcedLaw", "()LCarpetHalls$Text;"⟩
abbrev cX8_copyFrom : ByteArray := prog_10_method_4_code
def yX8_copyFrom : MethodName := ⟨RX8, "copyFrom", "(LCarpetHalls$Stand;)V"⟩
def RX9 : String := "CarpetHalls$Tape"
def TX9 : u_T := fun k => match k with
  | 0 => ("CarpetHalls$Tape", "bytes", "[I", true)
  | _ => ("CarpetHalls$Tape", "length", "I", false)
def tyX9 : Nat → FieldType := fun k => match k with
  | 0 => .array .int
  | _ => .int
theorem nmX9 : ∀ a, a < 2 → ∀ b, b < 2 → a ≠ b → (TX9 a).2.1 ≠ (TX9 b).2.1 := by decide +kernel
theorem tyX9_ok : ∀ k, k < 2 → parseFieldDescriptor (TX9 k).2.2.1 = some (tyX9 k) := by decide +kernel
abbrev cX9_init : ByteArray := prog_11_method_1_code
def yX9_init : MethodName := ⟨RX9, "<init>", "()V"⟩
abbrev cX9_addFour : ByteArray := prog_11_method_2_code
def yX9_addFour : MethodName := ⟨RX9, "addFour", "(I)V"⟩
def RX10 : String := "CarpetHalls$Text"
def TX10 : u_T := fun k => match k with
  | 0 => ("CarpetHalls$Text", "code", "[I", true)
  | 1 => ("CarpetHalls$Text", "marks", "[I", true)
  | 2 => ("CarpetHalls$Text", "size", "I", false)
  | _ => ("CarpetHalls$Text", "clauses", "I", false)
def tyX10 : Nat → FieldType := fun k => match k with
  | 0 => .array .int
  | 1 => .array .int
  | 2 => .int
  | _ => .int
theorem nmX10 : ∀ a, a < 4 → ∀ b, b < 4 → a ≠ b → (TX10 a).2.1 ≠ (TX10 b).2.1 := by decide +kernel
theorem tyX10_ok : ∀ k, k < 4 → parseFieldDescriptor (TX10 k).2.2.1 = some (tyX10 k) := by decide +kernel
abbrev cX10_init : ByteArray := prog_12_method_1_code
def yX10_init : MethodName := ⟨RX10, "<init>", "()V"⟩
abbrev cX10_clear : ByteArray := prog_12_method_2_code
def yX10_clear : MethodName := ⟨RX10, "clear", "()V"⟩
abbrev cX10_copyFrom : ByteArray := prog_12_method_3_code
def yX10_copyFrom : MethodName := ⟨RX10, "copyFrom", "(LCarpetHalls$Text;)V"⟩
abbrev cX10_add : ByteArray := prog_12_method_4_code
def yX10_add : MethodName := ⟨RX10, "add", "(I)V"⟩
abbrev cX10_addJump : ByteArray := prog_12_method_5_code
def yX10_addJump : MethodName := ⟨RX10, "addJump", "(I)I"⟩
abbrev cX10_setCode : ByteArray := prog_12_method_6_code
def yX10_setCode : MethodName := ⟨RX10, "setCode", "(II)V"⟩
abbrev cX10_openClause : ByteArray := prog_12_method_7_code
def yX10_openClause : MethodName := ⟨RX10, "openClause", "(I)V"⟩
abbrev cX10_setMark : ByteArray := prog_12_method_8_code
def yX10_setMark : MethodName := ⟨RX10, "setMark", "(II)V"⟩
abbrev cX10_mark : ByteArray := prog_12_method_9_code
def yX10_mark : MethodName := ⟨RX10, "mark", "(II)I"⟩
def RX11 : String := "CarpetHalls"
def TX11 : u_T := fun k => match k with
  | 0 => ("CarpetHalls", "now", "LCarpetHalls$Stand;", true)
  | 1 => ("CarpetHalls", "images", "[LCarpetHalls$Stand;", true)
  | 2 => ("CarpetHalls", "kept", "[Z", true)
  | 3 => ("CarpetHalls", "paper", "LCarpetHalls$Floor;", true)
  | 4 => ("CarpetHalls", "sheet", "LCarpetHalls$Floor;", true)
  | 5 => ("CarpetHalls", "tape", "LCarpetHalls$Tape;", true)
  | 6 => ("CarpetHalls", "reader", "LCarpetHalls$Reader;", true)
  | 7 => ("CarpetHalls", "errand", "LCarpetHalls$Text;", true)
  | 8 => ("CarpetHalls", "clerk", "LCarpetHalls$Reckoner;", true)
  | 9 => ("CarpetHalls", "judge", "LCarpetHalls$Judge;", true)
  | 10 => ("CarpetHalls", "past", "LCarpetHalls$Past;", true)
  | 11 => ("CarpetHalls", "search", "LCarpetHalls$Search;", true)
  | 12 => ("CarpetHalls", "chance", "LCarpetHalls$Chance;", true)
  | 13 => ("CarpetHalls", "refused", "[I", true)
  | 14 => ("CarpetHalls", "status", "I", false)
  | 15 => ("CarpetHalls", "fault", "I", false)
  | 16 => ("CarpetHalls", "fluff", "I", false)
  | _ => ("CarpetHalls", "stopped", "I", false)
def tyX11 : Nat → FieldType := fun k => match k with
  | 0 => .object "CarpetHalls$Stand"
  | 1 => .array (.object "CarpetHalls$Stand")
  | 2 => .array .boolean
  | 3 => .object "CarpetHalls$Floor"
  | 4 => .object "CarpetHalls$Floor"
  | 5 => .object "CarpetHalls$Tape"
  | 6 => .object "CarpetHalls$Reader"
  | 7 => .object "CarpetHalls$Text"
  | 8 => .object "CarpetHalls$Reckoner"
  | 9 => .object "CarpetHalls$Judge"
  | 10 => .object "CarpetHalls$Past"
  | 11 => .object "CarpetHalls$Search"
  | 12 => .object "CarpetHalls$Chance"
  | 13 => .array .int
  | 14 => .int
  | 15 => .int
  | 16 => .int
  | _ => .int
theorem nmX11 : ∀ a, a < 18 → ∀ b, b < 18 → a ≠ b → (TX11 a).2.1 ≠ (TX11 b).2.1 := by decide +kernel
theorem tyX11_ok : ∀ k, k < 18 → parseFieldDescriptor (TX11 k).2.2.1 = some (tyX11 k) := by decide +kernel
abbrev cX11_init : ByteArray := prog_1_method_1_code
def yX11_init : MethodName := ⟨RX11, "<init>", "()V"⟩
abbrev cX11_carpet : ByteArray := prog_1_method_2_code
def yX11_carpet : MethodName := ⟨RX11, "carpet", "(III)I"⟩
abbrev cX11_of : ByteArray := prog_1_method_3_code
def yX11_of : MethodName := ⟨RX11, "of", "(II)I"⟩
abbrev cX11_hall : ByteArray := prog_1_method_4_code
def yX11_hall : MethodName := ⟨RX11, "hall", "(II)I"⟩
abbrev cX11_at : ByteArray := prog_1_method_5_code
def yX11_at : MethodName := ⟨RX11, "at", "(II)I"⟩
abbrev cX11_asks : ByteArray := prog_1_method_6_code
def yX11_asks : MethodName := ⟨RX11, "asks", "(IIII)I"⟩
abbrev cX11_terms : ByteArray := prog_1_method_7_code
def yX11_terms : MethodName := ⟨RX11, "terms", "(II)I"⟩
abbrev cX11_feed : ByteArray := prog_1_method_8_code
def yX11_feed : MethodName := ⟨RX11, "feed", "(IIIII)I"⟩
abbrev cX11_end : ByteArray := prog_1_method_9_code
def yX11_end : MethodName := ⟨RX11, "end", "(I)I"⟩
abbrev cX11_row : ByteArray := prog_1_method_10_code
def yX11_row : MethodName := ⟨RX11, "row", "()I"⟩
abbrev cX11_fluff : ByteArray := prog_1_method_11_code
def yX11_fluff : MethodName := ⟨RX11, "fluff", "()I"⟩
abbrev cX11_law : ByteArray := prog_1_method_12_code
def yX11_law : MethodName := ⟨RX11, "law", "()I"⟩
abbrev cX11_orders : ByteArray := prog_1_method_13_code
def yX11_orders : MethodName := ⟨RX11, "orders", "()I"⟩
abbrev cX11_fault : ByteArray := prog_1_method_14_code
def yX11_fault : MethodName := ⟨RX11, "fault", "()I"⟩
abbrev cX11_stopped : ByteArray := prog_1_method_15_code
def yX11_stopped : MethodName := ⟨RX11, "stopped", "()I"⟩
abbrev cX11_force : ByteArray := prog_1_method_16_code
def yX11_force : MethodName := ⟨RX11, "force", "(I)I"⟩
abbrev cX11_lay : ByteArray := prog_1_method_17_code
def yX11_lay : MethodName := ⟨RX11, "lay", "(III)I"⟩
abbrev cX11_roll : ByteArray := prog_1_method_18_code
def yX11_roll : MethodName := ⟨RX11, "roll", "(I)I"⟩
abbrev cX11_mirror : ByteArray := prog_1_method_19_code
def yX11_mirror : MethodName := ⟨RX11, "mirror", "()I"⟩
abbrev cX11_pass : ByteArray := prog_1_method_20_code
def yX11_pass : MethodName := ⟨RX11, "pass", "()I"⟩
abbrev cX11_undo : ByteArray := prog_1_method_21_code
def yX11_undo : MethodName := ⟨RX11, "undo", "()I"⟩
abbrev cX11_bare : ByteArray := prog_1_method_22_code
def yX11_bare : MethodName := ⟨RX11, "bare", "(I)I"⟩
abbrev cX11_fill : ByteArray := prog_1_method_23_code
def yX11_fill : MethodName := ⟨RX11, "fill", "(I)I"⟩
abbrev cX11_ways : ByteArray := prog_1_method_24_code
def yX11_ways : MethodName := ⟨RX11, "ways", "()I"⟩
abbrev cX11_cheapest : ByteArray := prog_1_method_25_code
def yX11_cheapest : MethodName := ⟨RX11, "cheapest", "()I"⟩
abbrev cX11_halls : ByteArray := prog_1_method_26_code
def yX11_halls : MethodName := ⟨RX11, "halls", "(I)I"⟩
abbrev cX11_inner : ByteArray := prog_1_method_27_code
def yX11_inner : MethodName := ⟨RX11, "inner", "()I"⟩
abbrev cX11_crosses : ByteArray := prog_1_method_28_code
def yX11_crosses : MethodName := ⟨RX11, "crosses", "()I"⟩
abbrev cX11_currents : ByteArray := prog_1_method_29_code
def yX11_currents : MethodName := ⟨RX11, "currents", "(II)I"⟩
abbrev cX11_fitting : ByteArray := prog_1_method_30_code
def yX11_fitting : MethodName := ⟨RX11, "fitting", "(I)I"⟩
abbrev cX11_alike : ByteArray := prog_1_method_31_code
def yX11_alike : MethodName := ⟨RX11, "alike", "()I"⟩
abbrev cX11_free : ByteArray := prog_1_method_32_code
def yX11_free : MethodName := ⟨RX11, "free", "()I"⟩
abbrev cX11_seen : ByteArray := prog_1_method_33_code
def yX11_seen : MethodName := ⟨RX11, "seen", "(III)I"⟩
abbrev cX11_forget : ByteArray := prog_1_method_34_code
def yX11_forget : MethodName := ⟨RX11, "forget", "()I"⟩
abbrev cX11_floors : ByteArray := prog_1_method_35_code
def yX11_floors : MethodName := ⟨RX11, "floors", "()I"⟩
abbrev cX11_look : ByteArray := prog_1_method_36_code
def yX11_look : MethodName := ⟨RX11, "look", "(I)I"⟩
abbrev cX11_few : ByteArray := prog_1_method_37_code
def yX11_few : MethodName := ⟨RX11, "few", "(II)J"⟩
abbrev cX11_compare : ByteArray := prog_1_method_38_code
def yX11_compare : MethodName := ⟨RX11, "compare", "(I)I"⟩
abbrev cX11_years : ByteArray := prog_1_method_39_code
def yX11_years : MethodName := ⟨RX11, "years", "(II)I"⟩
abbrev cX11_drawn : ByteArray := prog_1_method_40_code
def yX11_drawn : MethodName := ⟨RX11, "drawn", "(II)I"⟩
abbrev cX11_image : ByteArray := prog_1_method_41_code
def yX11_image : MethodName := ⟨RX11, "image", "(I)I"⟩
abbrev cX11_back : ByteArray := prog_1_method_42_code
def yX11_back : MethodName := ⟨RX11, "back", "(I)I"⟩
abbrev cX11_count : ByteArray := prog_1_method_43_code
def yX11_count : MethodName := ⟨RX11, "count", "(I)I"⟩
abbrev cX11_status : ByteArray := prog_1_method_44_code
def yX11_status : MethodName := ⟨RX11, "status", "()I"⟩
abbrev cX11_onGrid : ByteArray := prog_1_method_45_code
def yX11_onGrid : MethodName := ⟨RX11, "onGrid", "(I)Z"⟩
abbrev cX11_mostOfTerm : ByteArray := prog_1_method_46_code
def yX11_mostOfTerm : MethodName := ⟨RX11, "mostOfTerm", "(I)I"⟩
abbrev cX11_answer : ByteArray := prog_1_method_47_code
def yX11_answer : MethodName := ⟨RX11, "answer", "(I)I"⟩
abbrev cX11_canLie : ByteArray := prog_1_method_48_code
def yX11_canLie : MethodName := ⟨RX11, "canLie", "(LCarpetHalls$Floor;III)Z"⟩
abbrev cX11_doLay : ByteArray := prog_1_method_49_code
def yX11_doLay : MethodName := ⟨RX11, "doLay", "(III)I"⟩
abbrev cX11_doRoll : ByteArray := prog_1_method_50_code
def yX11_doRoll : MethodName := ⟨RX11, "doRoll", "(I)I"⟩
abbrev cX11_doMirror : ByteArray := prog_1_method_51_code
def yX11_doMirror : MethodName := ⟨RX11, "doMirror", "()I"⟩
abbrev cX11_doPass : ByteArray := prog_1_method_52_code
def yX11_doPass : MethodName := ⟨RX11, "doPass", "()I"⟩
abbrev cX11_runOnce : ByteArray := prog_1_method_53_code
def yX11_runOnce : MethodName := ⟨RX11, "runOnce", "(I)Z"⟩
abbrev cX11_nextDraw : ByteArray := prog_1_method_54_code
def yX11_nextDraw : MethodName := ⟨RX11, "nextDraw", "(I)I"⟩
abbrev cX11_drawYear : ByteArray := prog_1_method_55_code
def yX11_drawYear : MethodName := ⟨RX11, "drawYear", "(I)I"⟩
def RX12 : String := "CarpetHallsModel"
def TX12 : u_T := fun k => match k with
  | 0 => ("CarpetHallsModel", "status", "I", false)
  | 1 => ("CarpetHallsModel", "refused", "[I", true)
  | 2 => ("CarpetHallsModel", "kept", "[I", true)
  | 3 => ("CarpetHallsModel", "images", "[I", true)
  | 4 => ("CarpetHallsModel", "hasImage", "[Z", true)
  | 5 => ("CarpetHallsModel", "aside", "[I", true)
  | 6 => ("CarpetHallsModel", "fluff0", "I", false)
  | 7 => ("CarpetHallsModel", "words", "[B", true)
  | 8 => ("CarpetHallsModel", "firstWord", "I", false)
  | 9 => ("CarpetHallsModel", "lastWord", "I", false)
  | 10 => ("CarpetHallsModel", "isOrders", "Z", false)
  | 11 => ("CarpetHallsModel", "tape", "[B", true)
  | 12 => ("CarpetHallsModel", "five", "[I", true)
  | 13 => ("CarpetHallsModel", "taped", "I", false)
  | 14 => ("CarpetHallsModel", "fault", "I", false)
  | 15 => ("CarpetHallsModel", "code", "[I", true)
  | 16 => ("CarpetHallsModel", "value", "[I", true)
  | 17 => ("CarpetHallsModel", "placed", "[I", true)
  | 18 => ("CarpetHallsModel", "tokens", "I", false)
  | 19 => ("CarpetHallsModel", "token", "I", false)
  | 20 => ("CarpetHallsModel", "leaves", "I", false)
  | 21 => ("CarpetHallsModel", "bad", "I", false)
  | 22 => ("CarpetHallsModel", "go", "I", false)
  | 23 => ("CarpetHallsModel", "goEnd", "I", false)
  | 24 => ("CarpetHallsModel", "broken", "Z", false)
  | 25 => ("CarpetHallsModel", "inOrders", "Z", false)
  | 26 => ("CarpetHallsModel", "asked", "[I", true)
  | 27 => ("CarpetHallsModel", "orderDone", "I", false)
  | 28 => ("CarpetHallsModel", "orderLatest", "I", false)
  | 29 => ("CarpetHallsModel", "covered", "[I", true)
  | 30 => ("CarpetHallsModel", "worn", "[I", true)
  | 31 => ("CarpetHallsModel", "left0", "[I", true)
  | 32 => ("CarpetHallsModel", "leftAhead", "[I", true)
  | 33 => ("CarpetHallsModel", "undoMany", "I", false)
  | 34 => ("CarpetHallsModel", "price", "[I", true)
  | 35 => ("CarpetHallsModel", "row0", "[I", true)
  | 36 => ("CarpetHallsModel", "rowCell", "[I", true)
  | 37 => ("CarpetHallsModel", "firstRow", "[I", true)
  | 38 => ("CarpetHallsModel", "times", "[I", true)
  | 39 => ("CarpetHallsModel", "hallWide", "I", false)
  | 40 => ("CarpetHallsModel", "hallHigh", "I", false)
  | 41 => ("CarpetHallsModel", "fillMany", "I", false)
  | 42 => ("CarpetHallsModel", "firstMany", "I", false)
  | 43 => ("CarpetHallsModel", "least", "I", false)
  | 44 => ("CarpetHallsModel", "bySeen", "Z", false)
  | 45 => ("CarpetHallsModel", "oneDoes", "Z", false)
  | 46 => ("CarpetHallsModel", "shares", "[J", true)
  | 47 => ("CarpetHallsModel", "stopped0", "I", false)
  | 48 => ("CarpetHallsModel", "orderAt", "I", false)
  | 49 => ("CarpetHallsModel", "howOften", "I", false)
  | 50 => ("CarpetHallsModel", "head", "I", false)
  | 51 => ("CarpetHallsModel", "sumsAre", "Z", false)
  | 52 => ("CarpetHallsModel", "testIs", "Z", false)
  | 53 => ("CarpetHallsModel", "sums", "[J", true)
  | 54 => ("CarpetHallsModel", "drawnMoved", "[I", true)
  | 55 => ("CarpetHallsModel", "drawnMany", "I", false)
  | _ => ("CarpetHallsModel", "latest", "I", false)
def tyX12 : Nat → FieldType := fun k => match k with
  | 0 => .int
  | 1 => .array .int
  | 2 => .array .int
  | 3 => .array .int
  | 4 => .array .boolean
  | 5 => .array .int
  | 6 => .int
  | 7 => .array .byte
  | 8 => .int
  | 9 => .int
  | 10 => .boolean
  | 11 => .array .byte
  | 12 => .array .int
  | 13 => .int
  | 14 => .int
  | 15 => .array .int
  | 16 => .array .int
  | 17 => .array .int
  | 18 => .int
  | 19 => .int
  | 20 => .int
  | 21 => .int
  | 22 => .int
  | 23 => .int
  | 24 => .boolean
  | 25 => .boolean
  | 26 => .array .int
  | 27 => .int
  | 28 => .int
  | 29 => .array .int
  | 30 => .array .int
  | 31 => .array .int
  | 32 => .array .int
  | 33 => .int
  | 34 => .array .int
  | 35 => .array .int
  | 36 => .array .int
  | 37 => .array .int
  | 38 => .array .int
  | 39 => .int
  | 40 => .int
  | 41 => .int
  | 42 => .int
  | 43 => .int
  | 44 => .boolean
  | 45 => .boolean
  | 46 => .array .long
  | 47 => .int
  | 48 => .int
  | 49 => .int
  | 50 => .int
  | 51 => .boolean
  | 52 => .boolean
  | 53 => .array .long
  | 54 => .array .int
  | 55 => .int
  | _ => .int
theorem nmX12 : ∀ a, a < 57 → ∀ b, b < 57 → a ≠ b → (TX12 a).2.1 ≠ (TX12 b).2.1 := by decide +kernel
theorem tyX12_ok : ∀ k, k < 57 → parseFieldDescriptor (TX12 k).2.2.1 = some (tyX12 k) := by decide +kernel
abbrev cX12_lies : ByteArray := prog_14_method_1_code
def yX12_lies : MethodName := ⟨RX12, "lies", "(III)Z"⟩
abbrev cX12_lesser : ByteArray := prog_14_method_2_code
def yX12_lesser : MethodName := ⟨RX12, "lesser", "(II)I"⟩
abbrev cX12_greater : ByteArray := prog_14_method_3_code
def yX12_greater : MethodName := ⟨RX12, "greater", "(II)I"⟩
abbrev cX12_refuses : ByteArray := prog_14_method_4_code
def yX12_refuses : MethodName := ⟨RX12, "refuses", "(I)I"⟩
abbrev cX12_good : ByteArray := prog_14_method_5_code
def yX12_good : MethodName := ⟨RX12, "good", "(I)I"⟩
abbrev cX12_settled : ByteArray := prog_14_method_6_code
def yX12_settled : MethodName := ⟨RX12, "settled", "(I)I"⟩
abbrev cX12_isIn : ByteArray := prog_14_method_7_code
def yX12_isIn : MethodName := ⟨RX12, "isIn", "(II)Z"⟩
abbrev cX12_isSide : ByteArray := prog_14_method_8_code
def yX12_isSide : MethodName := ⟨RX12, "isSide", "(I)Z"⟩
abbrev cX12_isAlong : ByteArray := prog_14_method_9_code
def yX12_isAlong : MethodName := ⟨RX12, "isAlong", "(I)Z"⟩
abbrev cX12_init : ByteArray := prog_14_method_10_code
def yX12_init : MethodName := ⟨RX12, "<init>", "()V"⟩
abbrev cX12_laysAside : ByteArray := prog_14_method_11_code
def yX12_laysAside : MethodName := ⟨RX12, "laysAside", "(I)V"⟩
abbrev cX12_takesBack : ByteArray := prog_14_method_12_code
def yX12_takesBack : MethodName := ⟨RX12, "takesBack", "(I)V"⟩
abbrev cX12_image : ByteArray := prog_14_method_13_code
def yX12_image : MethodName := ⟨RX12, "image", "(I)I"⟩
abbrev cX12_back : ByteArray := prog_14_method_14_code
def yX12_back : MethodName := ⟨RX12, "back", "(I)I"⟩
abbrev cX12_many : ByteArray := prog_14_method_15_code
def yX12_many : MethodName := ⟨RX12, "many", "()I"⟩
abbrev cX12_isCarpet : ByteArray := prog_14_method_16_code
def yX12_isCarpet : MethodName := ⟨RX12, "isCarpet", "(I)Z"⟩
abbrev cX12_isLaid : ByteArray := prog_14_method_17_code
def yX12_isLaid : MethodName := ⟨RX12, "isLaid", "(I)Z"⟩
abbrev cX12_isWhole : ByteArray := prog_14_method_18_code
def yX12_isWhole : MethodName := ⟨RX12, "isWhole", "(I)Z"⟩
abbrev cX12_canBe : ByteArray := prog_14_method_19_code
def yX12_canBe : MethodName := ⟨RX12, "canBe", "(III)Z"⟩
abbrev cX12_adds : ByteArray := prog_14_method_20_code
def yX12_adds : MethodName := ⟨RX12, "adds", "(III)V"⟩
abbrev cX12_rolls : ByteArray := prog_14_method_21_code
def yX12_rolls : MethodName := ⟨RX12, "rolls", "(I)V"⟩
abbrev cX12_carpet : ByteArray := prog_14_method_22_code
def yX12_carpet : MethodName := ⟨RX12, "carpet", "(III)I"⟩
abbrev cX12_of : ByteArray := prog_14_method_23_code
def yX12_of : MethodName := ⟨RX12, "of", "(II)I"⟩
abbrev cX12_laidMany : ByteArray := prog_14_method_24_code
def yX12_laidMany : MethodName := ⟨RX12, "laidMany", "()I"⟩
abbrev cX12_hall : ByteArray := prog_14_method_25_code
def yX12_hall : MethodName := ⟨RX12, "hall", "(II)I"⟩
abbrev cX12_covers : ByteArray := prog_14_method_26_code
def yX12_covers : MethodName := ⟨RX12, "covers", "(III)Z"⟩
abbrev cX12_at : ByteArray := prog_14_method_27_code
def yX12_at : MethodName := ⟨RX12, "at", "(II)I"⟩
abbrev cX12_asks : ByteArray := prog_14_method_28_code
def yX12_asks : MethodName := ⟨RX12, "asks", "(IIII)I"⟩
abbrev cX12_isTerm : ByteArray := prog_14_method_29_code
def yX12_isTerm : MethodName := ⟨RX12, "isTerm", "(II)Z"⟩
abbrev cX12_termAt : ByteArray := prog_14_method_30_code
def yX12_termAt : MethodName := ⟨RX12, "termAt", "(I)I"⟩
abbrev cX12_terms : ByteArray := prog_14_method_31_code
def yX12_terms : MethodName := ⟨RX12, "terms", "(II)I"⟩
abbrev cX12_row : ByteArray := prog_14_method_32_code
def yX12_row : MethodName := ⟨RX12, "row", "()I"⟩
abbrev cX12_fluff : ByteArray := prog_14_method_33_code
def yX12_fluff : MethodName := ⟨RX12, "fluff", "()I"⟩
abbrev cX12_feed : ByteArray := prog_14_method_34_code
def yX12_feed : MethodName := ⟨RX12, "feed", "(IIIII)I"⟩
abbrev cX12_end : ByteArray := prog_14_method_35_code
def yX12_end : MethodName := ⟨RX12, "end", "(I)I"⟩
abbrev cX12_isSmall : ByteArray := prog_14_method_36_code
def yX12_isSmall : MethodName := ⟨RX12, "isSmall", "(I)Z"⟩
abbrev cX12_isDigit : ByteArray := prog_14_method_37_code
def yX12_isDigit : MethodName := ⟨RX12, "isDigit", "(I)Z"⟩
abbrev cX12_wordOf : ByteArray := prog_14_method_38_code
def yX12_wordOf : MethodName := ⟨RX12, "wordOf", "(II)I"⟩
abbrev cX12_splits : ByteArray := prog_14_method_39_code
def yX12_splits : MethodName := ⟨RX12, "splits", "(I)V"⟩
abbrev cX12_fine : ByteArray := prog_14_method_40_code
def yX12_fine : MethodName := ⟨RX12, "fine", "()Z"⟩
abbrev cX12_faults : ByteArray := prog_14_method_41_code
def yX12_faults : MethodName := ⟨RX12, "faults", "()V"⟩
abbrev cX12_takes0 : ByteArray := prog_14_method_42_code
def yX12_takes0 : MethodName := ⟨RX12, "takes0", "(I)Z"⟩
abbrev cX12_must : ByteArray := prog_14_method_43_code
def yX12_must : MethodName := ⟨RX12, "must", "(I)V"⟩
abbrev cX12_leaf : ByteArray := prog_14_method_44_code
def yX12_leaf : MethodName := ⟨RX12, "leaf", "()V"⟩
abbrev cX12_sign : ByteArray := prog_14_method_45_code
def yX12_sign : MethodName := ⟨RX12, "sign", "(C)I"⟩
abbrev cX12_mustNumber : ByteArray := prog_14_method_46_code
def yX12_mustNumber : MethodName := ⟨RX12, "mustNumber", "(II)V"⟩
abbrev cX12_readClause : ByteArray := prog_14_method_47_code
def yX12_readClause : MethodName := ⟨RX12, "readClause", "()V"⟩
abbrev cX12_readMore : ByteArray := prog_14_method_48_code
def yX12_readMore : MethodName := ⟨RX12, "readMore", "(I)V"⟩
abbrev cX12_readOrder : ByteArray := prog_14_method_49_code
def yX12_readOrder : MethodName := ⟨RX12, "readOrder", "()V"⟩
abbrev cX12_readOne : ByteArray := prog_14_method_50_code
def yX12_readOne : MethodName := ⟨RX12, "readOne", "()V"⟩
abbrev cX12_readTest : ByteArray := prog_14_method_51_code
def yX12_readTest : MethodName := ⟨RX12, "readTest", "(I)V"⟩
abbrev cX12_readBoth : ByteArray := prog_14_method_52_code
def yX12_readBoth : MethodName := ⟨RX12, "readBoth", "(I)V"⟩
abbrev cX12_readPlain : ByteArray := prog_14_method_53_code
def yX12_readPlain : MethodName := ⟨RX12, "readPlain", "(I)V"⟩
abbrev cX12_readSum : ByteArray := prog_14_method_54_code
def yX12_readSum : MethodName := ⟨RX12, "readSum", "(I)V"⟩
abbrev cX12_readTerm : ByteArray := prog_14_method_55_code
def yX12_readTerm : MethodName := ⟨RX12, "readTerm", "(I)V"⟩
abbrev cX12_readPart : ByteArray := prog_14_method_56_code
def yX12_readPart : MethodName := ⟨RX12, "readPart", "(I)V"⟩
abbrev cX12_reads : ByteArray := prog_14_method_57_code
def yX12_reads : MethodName := ⟨RX12, "reads", "()Z"⟩
abbrev cX12_readsAs : ByteArray := prog_14_method_58_code
def yX12_readsAs : MethodName := ⟨RX12, "readsAs", "(Z)Z"⟩
abbrev cX12_lays : ByteArray := prog_14_method_59_code
def yX12_lays : MethodName := ⟨RX12, "lays", "(I)V"⟩
abbrev cX12_law : ByteArray := prog_14_method_60_code
def yX12_law : MethodName := ⟨RX12, "law", "()I"⟩
abbrev cX12_fault : ByteArray := prog_14_method_61_code
def yX12_fault : MethodName := ⟨RX12, "fault", "()I"⟩
abbrev cX12_isLaw : ByteArray := prog_14_method_62_code
def yX12_isLaw : MethodName := ⟨RX12, "isLaw", "(I)Z"⟩
abbrev cX12_force : ByteArray := prog_14_method_63_code
def yX12_force : MethodName := ⟨RX12, "force", "(I)I"⟩
abbrev cX12_codeAt : ByteArray := prog_14_method_64_code
def yX12_codeAt : MethodName := ⟨RX12, "codeAt", "(I)I"⟩
abbrev cX12_passes0 : ByteArray := prog_14_method_65_code
def yX12_passes0 : MethodName := ⟨RX12, "passes0", "(I)Z"⟩
abbrev cX12_bounded : ByteArray := prog_14_method_66_code
def yX12_bounded : MethodName := ⟨RX12, "bounded", "(JZ)J"⟩
abbrev cX12_sumOf : ByteArray := prog_14_method_67_code
def yX12_sumOf : MethodName := ⟨RX12, "sumOf", "(Z)J"⟩
abbrev cX12_termOf : ByteArray := prog_14_method_68_code
def yX12_termOf : MethodName := ⟨RX12, "termOf", "(Z)J"⟩
abbrev cX12_partOf : ByteArray := prog_14_method_69_code
def yX12_partOf : MethodName := ⟨RX12, "partOf", "(Z)J"⟩
abbrev cX12_orderValue : ByteArray := prog_14_method_70_code
def yX12_orderValue : MethodName := ⟨RX12, "orderValue", "(II)I"⟩
abbrev cX12_testOf : ByteArray := prog_14_method_71_code
def yX12_testOf : MethodName := ⟨RX12, "testOf", "(Z)Z"⟩
abbrev cX12_bothOf : ByteArray := prog_14_method_72_code
def yX12_bothOf : MethodName := ⟨RX12, "bothOf", "(Z)Z"⟩
abbrev cX12_plainOf : ByteArray := prog_14_method_73_code
def yX12_plainOf : MethodName := ⟨RX12, "plainOf", "(Z)Z"⟩
abbrev cX12_positiveOf : ByteArray := prog_14_method_74_code
def yX12_positiveOf : MethodName := ⟨RX12, "positiveOf", "(Z)Z"⟩
abbrev cX12_setsAsked : ByteArray := prog_14_method_75_code
def yX12_setsAsked : MethodName := ⟨RX12, "setsAsked", "(III)V"⟩
abbrev cX12_tells : ByteArray := prog_14_method_76_code
def yX12_tells : MethodName := ⟨RX12, "tells", "(IIIIII)I"⟩
abbrev cX12_costsAt : ByteArray := prog_14_method_77_code
def yX12_costsAt : MethodName := ⟨RX12, "costsAt", "(III)I"⟩
abbrev cX12_isBarred : ByteArray := prog_14_method_78_code
def yX12_isBarred : MethodName := ⟨RX12, "isBarred", "(III)Z"⟩
abbrev cX12_wearsNow : ByteArray := prog_14_method_79_code
def yX12_wearsNow : MethodName := ⟨RX12, "wearsNow", "(I)I"⟩
abbrev cX12_turnsSquare : ByteArray := prog_14_method_80_code
def yX12_turnsSquare : MethodName := ⟨RX12, "turnsSquare", "(III)V"⟩
abbrev cX12_laysCovered : ByteArray := prog_14_method_81_code
def yX12_laysCovered : MethodName := ⟨RX12, "laysCovered", "()V"⟩
abbrev cX12_isFree : ByteArray := prog_14_method_82_code
def yX12_isFree : MethodName := ⟨RX12, "isFree", "(IIIII)Z"⟩
abbrev cX12_firstBare : ByteArray := prog_14_method_83_code
def yX12_firstBare : MethodName := ⟨RX12, "firstBare", "(II)I"⟩
abbrev cX12_bareMany : ByteArray := prog_14_method_84_code
def yX12_bareMany : MethodName := ⟨RX12, "bareMany", "()I"⟩
abbrev cX12_bare : ByteArray := prog_14_method_85_code
def yX12_bare : MethodName := ⟨RX12, "bare", "(I)I"⟩
abbrev cX12_canLay : ByteArray := prog_14_method_86_code
def yX12_canLay : MethodName := ⟨RX12, "canLay", "(III)Z"⟩
abbrev cX12_laysAt : ByteArray := prog_14_method_87_code
def yX12_laysAt : MethodName := ⟨RX12, "laysAt", "(III)I"⟩
abbrev cX12_yearPasses : ByteArray := prog_14_method_88_code
def yX12_yearPasses : MethodName := ⟨RX12, "yearPasses", "()I"⟩
abbrev cX12_keeps : ByteArray := prog_14_method_89_code
def yX12_keeps : MethodName := ⟨RX12, "keeps", "(I)V"⟩
abbrev cX12_undo : ByteArray := prog_14_method_90_code
def yX12_undo : MethodName := ⟨RX12, "undo", "()I"⟩
abbrev cX12_goodOr : ByteArray := prog_14_method_91_code
def yX12_goodOr : MethodName := ⟨RX12, "goodOr", "(I)I"⟩
abbrev cX12_laysKept : ByteArray := prog_14_method_92_code
def yX12_laysKept : MethodName := ⟨RX12, "laysKept", "(III)I"⟩
abbrev cX12_rollsKept : ByteArray := prog_14_method_93_code
def yX12_rollsKept : MethodName := ⟨RX12, "rollsKept", "(I)I"⟩
abbrev cX12_mirrorsKept : ByteArray := prog_14_method_94_code
def yX12_mirrorsKept : MethodName := ⟨RX12, "mirrorsKept", "()I"⟩
abbrev cX12_passesKept : ByteArray := prog_14_method_95_code
def yX12_passesKept : MethodName := ⟨RX12, "passesKept", "()I"⟩
abbrev cX12_lay : ByteArray := prog_14_method_96_code
def yX12_lay : MethodName := ⟨RX12, "lay", "(III)I"⟩
abbrev cX12_roll : ByteArray := prog_14_method_97_code
def yX12_roll : MethodName := ⟨RX12, "roll", "(I)I"⟩
abbrev cX12_mirror : ByteArray := prog_14_method_98_code
def yX12_mirror : MethodName := ⟨RX12, "mirror", "()I"⟩
abbrev cX12_pass : ByteArray := prog_14_method_99_code
def yX12_pass : MethodName := ⟨RX12, "pass", "()I"⟩
abbrev cX12_priceAt : ByteArray := prog_14_method_100_code
def yX12_priceAt : MethodName := ⟨RX12, "priceAt", "(II)I"⟩
abbrev cX12_laysPrices : ByteArray := prog_14_method_101_code
def yX12_laysPrices : MethodName := ⟨RX12, "laysPrices", "(I)V"⟩
abbrev cX12_rolledWhole : ByteArray := prog_14_method_102_code
def yX12_rolledWhole : MethodName := ⟨RX12, "rolledWhole", "()I"⟩
abbrev cX12_carpetBehind : ByteArray := prog_14_method_103_code
def yX12_carpetBehind : MethodName := ⟨RX12, "carpetBehind", "(III)I"⟩
abbrev cX12_isSeenSo : ByteArray := prog_14_method_104_code
def yX12_isSeenSo : MethodName := ⟨RX12, "isSeenSo", "(I)Z"⟩
abbrev cX12_countsRow : ByteArray := prog_14_method_105_code
def yX12_countsRow : MethodName := ⟨RX12, "countsRow", "(I)V"⟩
abbrev cX12_fills : ByteArray := prog_14_method_106_code
def yX12_fills : MethodName := ⟨RX12, "fills", "(II)V"⟩
abbrev cX12_goesOn : ByteArray := prog_14_method_107_code
def yX12_goesOn : MethodName := ⟨RX12, "goesOn", "(III)V"⟩
abbrev cX12_goesThrough : ByteArray := prog_14_method_108_code
def yX12_goesThrough : MethodName := ⟨RX12, "goesThrough", "(III)V"⟩
abbrev cX12_fillsNow : ByteArray := prog_14_method_109_code
def yX12_fillsNow : MethodName := ⟨RX12, "fillsNow", "(Z)V"⟩
abbrev cX12_fill : ByteArray := prog_14_method_110_code
def yX12_fill : MethodName := ⟨RX12, "fill", "(I)I"⟩
abbrev cX12_ways : ByteArray := prog_14_method_111_code
def yX12_ways : MethodName := ⟨RX12, "ways", "()I"⟩
abbrev cX12_cheapest : ByteArray := prog_14_method_112_code
def yX12_cheapest : MethodName := ⟨RX12, "cheapest", "()I"⟩
abbrev cX12_compare : ByteArray := prog_14_method_113_code
def yX12_compare : MethodName := ⟨RX12, "compare", "(I)I"⟩
abbrev cX12_isMovable : ByteArray := prog_14_method_114_code
def yX12_isMovable : MethodName := ⟨RX12, "isMovable", "(I)Z"⟩
abbrev cX12_free : ByteArray := prog_14_method_115_code
def yX12_free : MethodName := ⟨RX12, "free", "()I"⟩
abbrev cX12_canFill : ByteArray := prog_14_method_116_code
def yX12_canFill : MethodName := ⟨RX12, "canFill", "(III)Z"⟩
abbrev cX12_halls : ByteArray := prog_14_method_117_code
def yX12_halls : MethodName := ⟨RX12, "halls", "(I)I"⟩
abbrev cX12_within : ByteArray := prog_14_method_118_code
def yX12_within : MethodName := ⟨RX12, "within", "(IIII)I"⟩
abbrev cX12_inner : ByteArray := prog_14_method_119_code
def yX12_inner : MethodName := ⟨RX12, "inner", "()I"⟩
abbrev cX12_isCross : ByteArray := prog_14_method_120_code
def yX12_isCross : MethodName := ⟨RX12, "isCross", "(II)Z"⟩
abbrev cX12_crosses : ByteArray := prog_14_method_121_code
def yX12_crosses : MethodName := ⟨RX12, "crosses", "()I"⟩
abbrev cX12_currents : ByteArray := prog_14_method_122_code
def yX12_currents : MethodName := ⟨RX12, "currents", "(II)I"⟩
abbrev cX12_fitting : ByteArray := prog_14_method_123_code
def yX12_fitting : MethodName := ⟨RX12, "fitting", "(I)I"⟩
abbrev cX12_alike : ByteArray := prog_14_method_124_code
def yX12_alike : MethodName := ⟨RX12, "alike", "()I"⟩
abbrev cX12_seen : ByteArray := prog_14_method_125_code
def yX12_seen : MethodName := ⟨RX12, "seen", "(III)I"⟩
abbrev cX12_forget : ByteArray := prog_14_method_126_code
def yX12_forget : MethodName := ⟨RX12, "forget", "()I"⟩
abbrev cX12_laysFloors : ByteArray := prog_14_method_127_code
def yX12_laysFloors : MethodName := ⟨RX12, "laysFloors", "()V"⟩
abbrev cX12_floors : ByteArray := prog_14_method_128_code
def yX12_floors : MethodName := ⟨RX12, "floors", "()I"⟩
abbrev cX12_mostAt : ByteArray := prog_14_method_129_code
def yX12_mostAt : MethodName := ⟨RX12, "mostAt", "(I)I"⟩
abbrev cX12_look : ByteArray := prog_14_method_130_code
def yX12_look : MethodName := ⟨RX12, "look", "(I)I"⟩
abbrev cX12_few : ByteArray := prog_14_method_131_code
def yX12_few : MethodName := ⟨RX12, "few", "(II)J"⟩
abbrev cX12_stopped : ByteArray := prog_14_method_132_code
def yX12_stopped : MethodName := ⟨RX12, "stopped", "()I"⟩
abbrev cX12_orders : ByteArray := prog_14_method_133_code
def yX12_orders : MethodName := ⟨RX12, "orders", "()I"⟩
abbrev cX12_goesAlong : ByteArray := prog_14_method_134_code
def yX12_goesAlong : MethodName := ⟨RX12, "goesAlong", "(IZ)V"⟩
abbrev cX12_small : ByteArray := prog_14_method_135_code
def yX12_small : MethodName := ⟨RX12, "small", "(J)I"⟩
abbrev cX12_obeys : ByteArray := prog_14_method_136_code
def yX12_obeys : MethodName := ⟨RX12, "obeys", "()I"⟩
abbrev cX12_runs : ByteArray := prog_14_method_137_code
def yX12_runs : MethodName := ⟨RX12, "runs", "(I)Z"⟩
abbrev cX12_draws : ByteArray := prog_14_method_138_code
def yX12_draws : MethodName := ⟨RX12, "draws", "(I)I"⟩
abbrev cX12_years : ByteArray := prog_14_method_139_code
def yX12_years : MethodName := ⟨RX12, "years", "(II)I"⟩
abbrev cX12_drawn : ByteArray := prog_14_method_140_code
def yX12_drawn : MethodName := ⟨RX12, "drawn", "(II)I"⟩
abbrev cX12_ragMany : ByteArray := prog_14_method_141_code
def yX12_ragMany : MethodName := ⟨RX12, "ragMany", "()I"⟩
abbrev cX12_count : ByteArray := prog_14_method_142_code
def yX12_count : MethodName := ⟨RX12, "count", "(I)I"⟩
abbrev cX12_status : ByteArray := prog_14_method_143_code
def yX12_status : MethodName := ⟨RX12, "status", "()I"⟩
def RJx145de : String := "java/io/Serializable"
def TJx145de : u_T := fun k => match k with
  | _ => ("", "", "", false)
def tyJx145de : Nat → FieldType := fun k => match k with
  | _ => .int
theorem nmJx145de : ∀ a, a < 0 → ∀ b, b < 0 → a ≠ b → (TJx145de a).2.1 ≠ (TJx145de b).2.1 := by decide +kernel
theorem tyJx145de_ok : ∀ k, k < 0 → parseFieldDescriptor (TJx145de k).2.2.1 = some (tyJx145de k) := by decide +kernel
def RJx9f9b0 : String := "java/lang/CharSequence"
def TJx9f9b0 : u_T := fun k => match k with
  | _ => ("", "", "", false)
def tyJx9f9b0 : Nat → FieldType := fun k => match k with
  | _ => .int
theorem nmJx9f9b0 : ∀ a, a < 0 → ∀ b, b < 0 → a ≠ b → (TJx9f9b0 a).2.1 ≠ (TJx9f9b0 b).2.1 := by decide +kernel
theorem tyJx9f9b0_ok : ∀ k, k < 0 → parseFieldDescriptor (TJx9f9b0 k).2.2.1 = some (tyJx9f9b0 k) := by decide +kernel
def RJxb160c : String := "java/lang/Comparable"
def TJxb160c : u_T := fun k => match k with
  | _ => ("", "", "", false)
def tyJxb160c : Nat → FieldType := fun k => match k with
  | _ => .int
theorem nmJxb160c : ∀ a, a < 0 → ∀ b, b < 0 → a ≠ b → (TJxb160c a).2.1 ≠ (TJxb160c b).2.1 := by decide +kernel
theorem tyJxb160c_ok : ∀ k, k < 0 → parseFieldDescriptor (TJxb160c k).2.2.1 = some (tyJxb160c k) := by decide +kernel
def RJ6 : String := "java/lang/Integer"
def TJ6 : u_T := fun k => match k with
  | _ => ("", "", "", false)
def tyJ6 : Nat → FieldType := fun k => match k with
  | _ => .int
theorem nmJ6 : ∀ a, a < 0 → ∀ b, b < 0 → a ≠ b → (TJ6 a).2.1 ≠ (TJ6 b).2.1 := by decide +kernel
theorem tyJ6_ok : ∀ k, k < 0 → parseFieldDescriptor (TJ6 k).2.2.1 = some (tyJ6 k) := by decide +kernel
abbrev cJ6_bitCount_0f7a4 : ByteArray := prog_15_method_49_code
def yJ6_bitCount_0f7a4 : MethodName := ⟨RJ6, "bitCount", "(I)I"⟩
def RJ9 : String := "java/lang/Math"
def TJ9 : u_T := fun k => match k with
  | _ => ("", "", "", false)
def tyJ9 : Nat → FieldType := fun k => match k with
  | _ => .int
theorem nmJ9 : ∀ a, a < 0 → ∀ b, b < 0 → a ≠ b → (TJ9 a).2.1 ≠ (TJ9 b).2.1 := by decide +kernel
theorem tyJ9_ok : ∀ k, k < 0 → parseFieldDescriptor (TJ9 k).2.2.1 = some (tyJ9 k) := by decide +kernel
abbrev cJ9_max_7cf53 : ByteArray := prog_16_method_65_code
def yJ9_max_7cf53 : MethodName := ⟨RJ9, "max", "(II)I"⟩
abbrev cJ9_min_7cf53 : ByteArray := prog_16_method_69_code
def yJ9_min_7cf53 : MethodName := ⟨RJ9, "min", "(II)I"⟩
def RJ0 : String := "java/lang/String"
def TJ0 : u_T := fun k => match k with
  | _ => ("", "", "", false)
def tyJ0 : Nat → FieldType := fun k => match k with
  | _ => .int
theorem nmJ0 : ∀ a, a < 0 → ∀ b, b < 0 → a ≠ b → (TJ0 a).2.1 ≠ (TJ0 b).2.1 := by decide +kernel
theorem tyJ0_ok : ∀ k, k < 0 → parseFieldDescriptor (TJ0 k).2.2.1 = some (tyJ0 k) := by decide +kernel
abbrev cJ0_length_8abf5 : ByteArray := prog_17_method_54_code
def yJ0_length_8abf5 : MethodName := ⟨RJ0, "length", "()I"⟩
abbrev cJ0_charAt_5068e : ByteArray := prog_17_method_56_code
def yJ0_charAt_5068e : MethodName := ⟨RJ0, "charAt", "(I)C"⟩
abbrev cJ0_coder_7d493 : ByteArray := prog_17_method_152_code
def yJ0_coder_7d493 : MethodName := ⟨RJ0, "coder", "()B"⟩
abbrev cJ0_isLatin1_aae02 : ByteArray := prog_17_method_154_code
def yJ0_isLatin1_aae02 : MethodName := ⟨RJ0, "isLatin1", "()Z"⟩
abbrev cJ0_checkIndex_df160 : ByteArray := prog_17_method_155_code
def yJ0_checkIndex_df160 : MethodName := ⟨RJ0, "checkIndex", "(II)V"⟩
def RJ1 : String := "java/lang/StringLatin1"
def TJ1 : u_T := fun k => match k with
  | _ => ("", "", "", false)
def tyJ1 : Nat → FieldType := fun k => match k with
  | _ => .int
theorem nmJ1 : ∀ a, a < 0 → ∀ b, b < 0 → a ≠ b → (TJ1 a).2.1 ≠ (TJ1 b).2.1 := by decide +kernel
theorem tyJ1_ok : ∀ k, k < 0 → parseFieldDescriptor (TJ1 k).2.2.1 = some (tyJ1 k) := by decide +kernel
abbrev cJ1_charAt_3b067 : ByteArray := prog_18_method_2_code
def yJ1_charAt_3b067 : MethodName := ⟨RJ1, "charAt", "([BI)C"⟩
def RJ2 : String := "java/lang/StringUTF16"
def TJ2 : u_T := fun k => match k with
  | _ => ("", "", "", false)
def tyJ2 : Nat → FieldType := fun k => match k with
  | _ => .int
theorem nmJ2 : ∀ a, a < 0 → ∀ b, b < 0 → a ≠ b → (TJ2 a).2.1 ≠ (TJ2 b).2.1 := by decide +kernel
theorem tyJ2_ok : ∀ k, k < 0 → parseFieldDescriptor (TJ2 k).2.2.1 = some (tyJ2 k) := by decide +kernel
abbrev cJ2_getChar_3b067 : ByteArray := prog_19_method_5_code
def yJ2_getChar_3b067 : MethodName := ⟨RJ2, "getChar", "([BI)C"⟩
abbrev cJ2_length_9d52b : ByteArray := prog_19_method_6_code
def yJ2_length_9d52b : MethodName := ⟨RJ2, "length", "([B)I"⟩
abbrev cJ2_charAt_3b067 : ByteArray := prog_19_method_83_code
def yJ2_charAt_3b067 : MethodName := ⟨RJ2, "charAt", "([BI)C"⟩
abbrev cJ2_checkIndex_2214a : ByteArray := prog_19_method_91_code
def yJ2_checkIndex_2214a : MethodName := ⟨RJ2, "checkIndex", "(I[B)V"⟩
def RJ10 : String := "java/lang/System"
def TJ10 : u_T := fun k => match k with
  | _ => ("", "", "", false)
def tyJ10 : Nat → FieldType := fun k => match k with
  | _ => .int
theorem nmJ10 : ∀ a, a < 0 → ∀ b, b < 0 → a ≠ b → (TJ10 a).2.1 ≠ (TJ10 b).2.1 := by decide +kernel
theorem tyJ10_ok : ∀ k, k < 0 → parseFieldDescriptor (TJ10 k).2.2.1 = some (tyJ10 k) := by decide +kernel
def RJxfd54e : String := "java/lang/constant/Constable"
def TJxfd54e : u_T := fun k => match k with
  | _ => ("", "", "", false)
def tyJxfd54e : Nat → FieldType := fun k => match k with
  | _ => .int
theorem nmJxfd54e : ∀ a, a < 0 → ∀ b, b < 0 → a ≠ b → (TJxfd54e a).2.1 ≠ (TJxfd54e b).2.1 := by decide +kernel
theorem tyJxfd54e_ok : ∀ k, k < 0 → parseFieldDescriptor (TJxfd54e k).2.2.1 = some (tyJxfd54e k) := by decide +kernel
def RJx3cf43 : String := "java/lang/constant/ConstantDesc"
def TJx3cf43 : u_T := fun k => match k with
  | _ => ("", "", "", false)
def tyJx3cf43 : Nat → FieldType := fun k => match k with
  | _ => .int
theorem nmJx3cf43 : ∀ a, a < 0 → ∀ b, b < 0 → a ≠ b → (TJx3cf43 a).2.1 ≠ (TJx3cf43 b).2.1 := by decide +kernel
theorem tyJx3cf43_ok : ∀ k, k < 0 → parseFieldDescriptor (TJx3cf43 k).2.2.1 = some (tyJx3cf43 k) := by decide +kernel
def RJ7 : String := "java/util/Arrays"
def TJ7 : u_T := fun k => match k with
  | _ => ("", "", "", false)
def tyJ7 : Nat → FieldType := fun k => match k with
  | _ => .int
theorem nmJ7 : ∀ a, a < 0 → ∀ b, b < 0 → a ≠ b → (TJ7 a).2.1 ≠ (TJ7 b).2.1 := by decide +kernel
theorem tyJ7_ok : ∀ k, k < 0 → parseFieldDescriptor (TJ7 k).2.2.1 = some (tyJ7 k) := by decide +kernel
abbrev cJ7_fill_d0a16 : ByteArray := prog_21_method_101_code
def yJ7_fill_d0a16 : MethodName := ⟨RJ7, "fill", "([JJ)V"⟩
abbrev cJ7_fill_53178 : ByteArray := prog_21_method_103_code
def yJ7_fill_53178 : MethodName := ⟨RJ7, "fill", "([II)V"⟩
def RJ3 : String := "jdk/internal/util/Preconditions"
def TJ3 : u_T := fun k => match k with
  | _ => ("", "", "", false)
def tyJ3 : Nat → FieldType := fun k => match k with
  | _ => .int
theorem nmJ3 : ∀ a, a < 0 → ∀ b, b < 0 → a ≠ b → (TJ3 a).2.1 ≠ (TJ3 b).2.1 := by decide +kernel
theorem tyJ3_ok : ∀ k, k < 0 → parseFieldDescriptor (TJ3 k).2.2.1 = some (tyJ3 k) := by decide +kernel
abbrev cJ3_checkIndex_8e157 : ByteArray := prog_22_method_11_code
def yJ3_checkIndex_8e157 : MethodName := ⟨RJ3, "checkIndex", "(IILjava/util/function/BiFunction;)I"⟩
def RL : String := "CarpetHallsLaw"
abbrev cL_law : ByteArray := code
def yL_law : MethodName := ⟨RL, "law", "([I)Z"⟩
abbrev vwCl : List vw_C := [(RX0, TX0, 1), (RX1, TX1, 11), (RX2, TX2, 1), (RX3, TX3, 7), (RX4, TX4, 5), (RX5, TX5, 9), (RX6, TX6, 4), (RX7, TX7, 14), (RX8, TX8, 8), (RX9, TX9, 2), (RX10, TX10, 4), (RX11, TX11, 18), (RX12, TX12, 57)]
end
section
theorem kt_1 {w : Cond} (h : w ∈ tables_1_1) : w ∈ lw_tbl := List.mem_append_right _ (List.mem_append_left _ h)
theorem kt_2 {w : Cond} (h : w ∈ tables_1_2) : w ∈ lw_tbl := List.mem_append_right _ (List.mem_append_right _ (List.mem_append_left _ h))
theorem kt_3 {w : Cond} (h : w ∈ tables_1_3) : w ∈ lw_tbl := List.mem_append_right _ (List.mem_append_right _ (List.mem_append_right _ (List.mem_append_left _ h)))
theorem kt_4 {w : Cond} (h : w ∈ tables_1_4) : w ∈ lw_tbl := List.mem_append_right _ (List.mem_append_right _ (List.mem_append_right _ (List.mem_append_right _ (List.mem_append_left _ h))))
theorem kt_5 {w : Cond} (h : w ∈ tables_1_5) : w ∈ lw_tbl := List.mem_append_right _ (List.mem_append_right _ (List.mem_append_right _ (List.mem_append_right _ (List.mem_append_right _ (List.mem_append_left _ h)))))
theorem kt_6 {w : Cond} (h : w ∈ tables_1_6) : w ∈ lw_tbl := List.mem_append_right _ (List.mem_append_right _ (List.mem_append_right _ (List.mem_append_right _ (List.mem_append_right _ (List.mem_append_right _ (List.mem_append_left _ h))))))
theorem kt_7 {w : Cond} (h : w ∈ tables_1_7) : w ∈ lw_tbl := List.mem_append_right _ (List.mem_append_right _ (List.mem_append_right _ (List.mem_append_right _ (List.mem_append_right _ (List.mem_append_right _ (List.mem_append_right _ (List.mem_append_left _ h)))))))
theorem kt_8 {w : Cond} (h : w ∈ tables_1_8) : w ∈ lw_tbl := List.mem_append_right _ (List.mem_append_right _ (List.mem_append_right _ (List.mem_append_right _ (List.mem_append_right _ (List.mem_append_right _ (List.mem_append_right _ (List.mem_append_right _ (List.mem_append_left _ h))))))))
theorem kt_9 {w : Cond} (h : w ∈ tables_1_9) : w ∈ lw_tbl := List.mem_append_right _ (List.mem_append_right _ (List.mem_append_right _ (List.mem_append_right _ (List.mem_append_right _ (List.mem_append_right _ (List.mem_append_right _ (List.mem_append_right _ (List.mem_append_right _ (h)))))))))
def th_tb : List Cond := lw_tbl.filter goodWord
theorem kg {w : Cond} (h : w ∈ lw_tbl) (hg : goodWord w = true) : w ∈ th_tb := List.mem_filter.mpr ⟨h, hg⟩
end
section
theorem kw_0 : (Jvm.Cond.initialized "CarpetHallsLaw") ∈ th_tb := kg (kt_1 (List.mem_of_getElem? (i := 0) rfl)) rfl
theorem kw_1 : (Jvm.Cond.initialized "CarpetHalls") ∈ th_tb := kg (kt_1 (List.mem_of_getElem? (i := 1) rfl)) rfl
theorem kw_2 : (Jvm.Cond.initialized "CarpetHalls$Stand") ∈ th_tb := kg (kt_1 (List.mem_of_getElem? (i := 2) rfl)) rfl
theorem kw_3 : (Jvm.Cond.initialized "CarpetHalls$Floor") ∈ th_tb := kg (kt_1 (List.mem_of_getElem? (i := 3) rfl)) rfl
theorem kw_4 : (Jvm.Cond.initialized "CarpetHalls$Text") ∈ th_tb := kg (kt_1 (List.mem_of_getElem? (i := 4) rfl)) rfl
theorem kw_5 : (Jvm.Cond.initialized "CarpetHalls$Tape") ∈ th_tb := kg (kt_1 (List.mem_of_getElem? (i := 5) rfl)) rfl
theorem kw_6 : (Jvm.Cond.initialized "CarpetHalls$Reader") ∈ th_tb := kg (kt_1 (List.mem_of_getElem? (i := 6) rfl)) rfl
theorem kw_7 : (Jvm.Cond.initialized "CarpetHalls$Reckoner") ∈ th_tb := kg (kt_1 (List.mem_of_getElem? (i := 7) rfl)) rfl
theorem kw_8 : (Jvm.Cond.initialized "CarpetHalls$Judge") ∈ th_tb := kg (kt_1 (List.mem_of_getElem? (i := 8) rfl)) rfl
theorem kw_9 : (Jvm.Cond.initialized "CarpetHalls$Past") ∈ th_tb := kg (kt_1 (List.mem_of_getElem? (i := 9) rfl)) rfl
theorem kw_10 : (Jvm.Cond.initialized "CarpetHalls$Search") ∈ th_tb := kg (kt_1 (List.mem_of_getElem? (i := 10) rfl)) rfl
theorem kw_11 : (Jvm.Cond.initialized "CarpetHalls$Memo") ∈ th_tb := kg (kt_1 (List.mem_of_getElem? (i := 11) rfl)) rfl
theorem kw_12 : (Jvm.Cond.initialized "java/util/Arrays") ∈ th_tb := kg (kt_1 (List.mem_of_getElem? (i := 12) rfl)) rfl
theorem kw_13 : (Jvm.Cond.initialized "CarpetHalls$Chance") ∈ th_tb := kg (kt_1 (List.mem_of_getElem? (i := 13) rfl)) rfl
theorem kw_14 : (Jvm.Cond.initialized "CarpetHallsModel") ∈ th_tb := kg (kt_1 (List.mem_of_getElem? (i := 14) rfl)) rfl
theorem kw_15 : (Jvm.Cond.initialized "java/lang/Math") ∈ th_tb := kg (kt_1 (List.mem_of_getElem? (i := 15) rfl)) rfl
theorem kw_16 : (Jvm.Cond.initialized "java/lang/String") ∈ th_tb := kg (kt_1 (List.mem_of_getElem? (i := 16) rfl)) rfl
theorem kw_17 : (Jvm.Cond.initialized "java/lang/StringLatin1") ∈ th_tb := kg (kt_1 (List.mem_of_getElem? (i := 17) rfl)) rfl
theorem kw_18 : (Jvm.Cond.initialized "jdk/internal/util/Preconditions") ∈ th_tb := kg (kt_1 (List.mem_of_getElem? (i := 18) rfl)) rfl
theorem kw_19 : (Jvm.Cond.initialized "java/lang/StringUTF16") ∈ th_tb := kg (kt_1 (List.mem_of_getElem? (i := 19) rfl)) rfl
theorem kw_20 : (Jvm.Cond.initialized "java/lang/System") ∈ th_tb := kg (kt_1 (List.mem_of_getElem? (i := 20) rfl)) rfl
theorem kw_21 : (Jvm.Cond.initialized "java/lang/Integer") ∈ th_tb := kg (kt_1 (List.mem_of_getElem? (i := 21) rfl)) rfl
theorem kw_22 : (Jvm.Cond.classLink "CarpetHallsLaw" (7 : Nat) "CarpetHalls") ∈ th_tb := kg (kt_1 (List.mem_of_getElem? (i := 22) rfl)) rfl
theorem kw_23 : (Jvm.Cond.instantiable "CarpetHalls" (18 : Nat)) ∈ th_tb := kg (kt_1 (List.mem_of_getElem? (i := 23) rfl)) rfl
theorem kw_24 : (Jvm.Cond.methodLink "CarpetHallsLaw" (9 : Nat) ({ cls := "CarpetHalls", name := "<init>", desc := "()V" } : Jvm.MethodName)) ∈ th_tb := kg (kt_1 (List.mem_of_getElem? (i := 24) rfl)) rfl
theorem kw_25 : (Jvm.Cond.instanceMethod ({ cls := "CarpetHalls", name := "<init>", desc := "()V" } : Jvm.MethodName)) ∈ th_tb := kg (kt_1 (List.mem_of_getElem? (i := 25) rfl)) rfl
theorem kw_26 : (Jvm.Cond.code ({ cls := "CarpetHalls", name := "<init>", desc := "()V" } : Jvm.MethodName) prog_1_method_1_code (2 : Nat) (Option.none : Option Jvm.ClassFile.FieldType)) ∈ th_tb := kg (kt_1 (List.mem_of_getElem? (i := 26) rfl)) rfl
theorem kw_27 : (Jvm.Cond.methodLink "CarpetHalls" (3 : Nat) ({ cls := "java/lang/Object", name := "<init>", desc := "()V" } : Jvm.MethodName)) ∈ th_tb := kg (kt_1 (List.mem_of_getElem? (i := 27) rfl)) rfl
theorem kw_28 : (Jvm.Cond.instanceMethod ({ cls := "java/lang/Object", name := "<init>", desc := "()V" } : Jvm.MethodName)) ∈ th_tb := kg (kt_1 (List.mem_of_getElem? (i := 28) rfl)) rfl
theorem kw_29 : (Jvm.Cond.code ({ cls := "java/lang/Object", name := "<init>", desc := "()V" } : Jvm.MethodName) object_method_1_code (1 : Nat) (Option.none : Option Jvm.ClassFile.FieldType)) ∈ th_tb := kg (kt_1 (List.mem_of_getElem? (i := 29) rfl)) rfl
theorem kw_30 : (Jvm.Cond.classLink "CarpetHalls" (9 : Nat) "CarpetHalls$Stand") ∈ th_tb := kg (kt_1 (List.mem_of_getElem? (i := 30) rfl)) rfl
theorem kw_31 : (Jvm.Cond.instantiable "CarpetHalls$Stand" (8 : Nat)) ∈ th_tb := kg (kt_1 (List.mem_of_getElem? (i := 31) rfl)) rfl
theorem kw_32 : (Jvm.Cond.methodLink "CarpetHalls" (11 : Nat) ({ cls := "CarpetHalls$Stand", name := "<init>", desc := "()V" } : Jvm.MethodName)) ∈ th_tb := kg (kt_1 (List.mem_of_getElem? (i := 32) rfl)) rfl
theorem kw_33 : (Jvm.Cond.instanceMethod ({ cls := "CarpetHalls$Stand", name := "<init>", desc := "()V" } : Jvm.MethodName)) ∈ th_tb := kg (kt_1 (List.mem_of_getElem? (i := 33) rfl)) rfl
theorem kw_34 : (Jvm.Cond.code ({ cls := "CarpetHalls$Stand", name := "<init>", desc := "()V" } : Jvm.MethodName) prog_10_method_1_code (2 : Nat) (Option.none : Option Jvm.ClassFile.FieldType)) ∈ th_tb := kg (kt_1 (List.mem_of_getElem? (i := 34) rfl)) rfl
theorem kw_35 : (Jvm.Cond.methodLink "CarpetHalls$Stand" (3 : Nat) ({ cls := "java/lang/Object", name := "<init>", desc := "()V" } : Jvm.MethodName)) ∈ th_tb := kg (kt_1 (List.mem_of_getElem? (i := 35) rfl)) rfl
theorem kw_36 : (Jvm.Cond.classLink "CarpetHalls$Stand" (9 : Nat) "CarpetHalls$Floor") ∈ th_tb := kg (kt_1 (List.mem_of_getElem? (i := 36) rfl)) rfl
theorem kw_37 : (Jvm.Cond.instantiable "CarpetHalls$Floor" (11 : Nat)) ∈ th_tb := kg (kt_1 (List.mem_of_getElem? (i := 37) rfl)) rfl
theorem kw_38 : (Jvm.Cond.methodLink "CarpetHalls$Stand" (11 : Nat) ({ cls := "CarpetHalls$Floor", name := "<init>", desc := "()V" } : Jvm.MethodName)) ∈ th_tb := kg (kt_1 (List.mem_of_getElem? (i := 38) rfl)) rfl
theorem kw_39 : (Jvm.Cond.instanceMethod ({ cls := "CarpetHalls$Floor", name := "<init>", desc := "()V" } : Jvm.MethodName)) ∈ th_tb := kg (kt_1 (List.mem_of_getElem? (i := 39) rfl)) rfl
theorem kw_40 : (Jvm.Cond.code ({ cls := "CarpetHalls$Floor", name := "<init>", desc := "()V" } : Jvm.MethodName) prog_3_method_1_code (1 : Nat) (Option.none : Option Jvm.ClassFile.FieldType)) ∈ th_tb := kg (kt_1 (List.mem_of_getElem? (i := 40) rfl)) rfl
theorem kw_41 : (Jvm.Cond.methodLink "CarpetHalls$Floor" (3 : Nat) ({ cls := "java/lang/Object", name := "<init>", desc := "()V" } : Jvm.MethodName)) ∈ th_tb := kg (kt_1 (List.mem_of_getElem? (i := 41) rfl)) rfl
theorem kw_42 : (Jvm.Cond.fieldLink "CarpetHalls$Floor" (9 : Nat) "CarpetHalls$Floor" "side" "[I") ∈ th_tb := kg (kt_1 (List.mem_of_getElem? (i := 42) rfl)) rfl
theorem kw_43 : (Jvm.Cond.fieldLink "CarpetHalls$Reckoner" (30 : Nat) "CarpetHalls$Floor" "side" "[I") ∈ th_tb := kg (kt_1 (List.mem_of_getElem? (i := 43) rfl)) rfl
theorem kw_44 : (Jvm.Cond.fieldLink "CarpetHalls$Judge" (41 : Nat) "CarpetHalls$Floor" "side" "[I") ∈ th_tb := kg (kt_1 (List.mem_of_getElem? (i := 44) rfl)) rfl
theorem kw_45 : (Jvm.Cond.fieldLink "CarpetHalls" (125 : Nat) "CarpetHalls$Floor" "side" "[I") ∈ th_tb := kg (kt_1 (List.mem_of_getElem? (i := 45) rfl)) rfl
theorem kw_46 : (Jvm.Cond.fieldLink "CarpetHalls$Search" (87 : Nat) "CarpetHalls$Floor" "side" "[I") ∈ th_tb := kg (kt_1 (List.mem_of_getElem? (i := 46) rfl)) rfl
theorem kw_47 : (Jvm.Cond.fieldLink "CarpetHalls$Floor" (15 : Nat) "CarpetHalls$Floor" "kind" "[I") ∈ th_tb := kg (kt_1 (List.mem_of_getElem? (i := 47) rfl)) rfl
theorem kw_48 : (Jvm.Cond.fieldLink "CarpetHalls$Reckoner" (35 : Nat) "CarpetHalls$Floor" "kind" "[I") ∈ th_tb := kg (kt_1 (List.mem_of_getElem? (i := 48) rfl)) rfl
theorem kw_49 : (Jvm.Cond.fieldLink "CarpetHalls" (128 : Nat) "CarpetHalls$Floor" "kind" "[I") ∈ th_tb := kg (kt_1 (List.mem_of_getElem? (i := 49) rfl)) rfl
theorem kw_50 : (Jvm.Cond.fieldLink "CarpetHalls$Floor" (18 : Nat) "CarpetHalls$Floor" "pile" "[I") ∈ th_tb := kg (kt_1 (List.mem_of_getElem? (i := 50) rfl)) rfl
theorem kw_51 : (Jvm.Cond.fieldLink "CarpetHalls$Reckoner" (38 : Nat) "CarpetHalls$Floor" "pile" "[I") ∈ th_tb := kg (kt_1 (List.mem_of_getElem? (i := 51) rfl)) rfl
theorem kw_52 : (Jvm.Cond.fieldLink "CarpetHalls" (131 : Nat) "CarpetHalls$Floor" "pile" "[I") ∈ th_tb := kg (kt_1 (List.mem_of_getElem? (i := 52) rfl)) rfl
theorem kw_53 : (Jvm.Cond.fieldLink "CarpetHalls$Past" (50 : Nat) "CarpetHalls$Floor" "pile" "[I") ∈ th_tb := kg (kt_1 (List.mem_of_getElem? (i := 53) rfl)) rfl
theorem kw_54 : (Jvm.Cond.fieldLink "CarpetHalls$Floor" (21 : Nat) "CarpetHalls$Floor" "x" "[I") ∈ th_tb := kg (kt_1 (List.mem_of_getElem? (i := 54) rfl)) rfl
theorem kw_55 : (Jvm.Cond.fieldLink "CarpetHalls$Judge" (46 : Nat) "CarpetHalls$Floor" "x" "[I") ∈ th_tb := kg (kt_1 (List.mem_of_getElem? (i := 55) rfl)) rfl
theorem kw_56 : (Jvm.Cond.fieldLink "CarpetHalls$Past" (44 : Nat) "CarpetHalls$Floor" "x" "[I") ∈ th_tb := kg (kt_1 (List.mem_of_getElem? (i := 56) rfl)) rfl
theorem kw_57 : (Jvm.Cond.fieldLink "CarpetHalls" (134 : Nat) "CarpetHalls$Floor" "x" "[I") ∈ th_tb := kg (kt_1 (List.mem_of_getElem? (i := 57) rfl)) rfl
theorem kw_58 : (Jvm.Cond.fieldLink "CarpetHalls$Floor" (24 : Nat) "CarpetHalls$Floor" "y" "[I") ∈ th_tb := kg (kt_1 (List.mem_of_getElem? (i := 58) rfl)) rfl
theorem kw_59 : (Jvm.Cond.fieldLink "CarpetHalls$Judge" (49 : Nat) "CarpetHalls$Floor" "y" "[I") ∈ th_tb := kg (kt_1 (List.mem_of_getElem? (i := 59) rfl)) rfl
theorem kw_60 : (Jvm.Cond.fieldLink "CarpetHalls" (137 : Nat) "CarpetHalls$Floor" "y" "[I") ∈ th_tb := kg (kt_1 (List.mem_of_getElem? (i := 60) rfl)) rfl
theorem kw_61 : (Jvm.Cond.fieldLink "CarpetHalls$Past" (47 : Nat) "CarpetHalls$Floor" "y" "[I") ∈ th_tb := kg (kt_1 (List.mem_of_getElem? (i := 61) rfl)) rfl
theorem kw_62 : (Jvm.Cond.fieldLink "CarpetHalls$Floor" (27 : Nat) "CarpetHalls$Floor" "terms" "[I") ∈ th_tb := kg (kt_1 (List.mem_of_getElem? (i := 62) rfl)) rfl
theorem kw_63 : (Jvm.Cond.fieldLink "CarpetHalls$Reckoner" (41 : Nat) "CarpetHalls$Floor" "terms" "[I") ∈ th_tb := kg (kt_1 (List.mem_of_getElem? (i := 63) rfl)) rfl
theorem kw_64 : (Jvm.Cond.fieldLink "CarpetHalls$Past" (41 : Nat) "CarpetHalls$Floor" "terms" "[I") ∈ th_tb := kg (kt_1 (List.mem_of_getElem? (i := 64) rfl)) rfl
theorem kw_65 : (Jvm.Cond.fieldLink "CarpetHalls" (183 : Nat) "CarpetHalls$Floor" "terms" "[I") ∈ th_tb := kg (kt_1 (List.mem_of_getElem? (i := 65) rfl)) rfl
theorem kw_66 : (Jvm.Cond.fieldLink "CarpetHalls$Floor" (30 : Nat) "CarpetHalls$Floor" "rows" "[I") ∈ th_tb := kg (kt_1 (List.mem_of_getElem? (i := 66) rfl)) rfl
theorem kw_67 : (Jvm.Cond.fieldLink "CarpetHalls$Search" (167 : Nat) "CarpetHalls$Floor" "rows" "[I") ∈ th_tb := kg (kt_1 (List.mem_of_getElem? (i := 67) rfl)) rfl
theorem kw_68 : (Jvm.Cond.fieldLink "CarpetHalls$Floor" (33 : Nat) "CarpetHalls$Floor" "carpets" "I") ∈ th_tb := kg (kt_1 (List.mem_of_getElem? (i := 68) rfl)) rfl
theorem kw_69 : (Jvm.Cond.fieldLink "CarpetHalls$Search" (123 : Nat) "CarpetHalls$Floor" "carpets" "I") ∈ th_tb := kg (kt_1 (List.mem_of_getElem? (i := 69) rfl)) rfl
theorem kw_70 : (Jvm.Cond.fieldLink "CarpetHalls" (298 : Nat) "CarpetHalls$Floor" "carpets" "I") ∈ th_tb := kg (kt_1 (List.mem_of_getElem? (i := 70) rfl)) rfl
theorem kw_71 : (Jvm.Cond.fieldLink "CarpetHalls$Floor" (37 : Nat) "CarpetHalls$Floor" "wide" "I") ∈ th_tb := kg (kt_1 (List.mem_of_getElem? (i := 71) rfl)) rfl
theorem kw_72 : (Jvm.Cond.fieldLink "CarpetHalls$Search" (74 : Nat) "CarpetHalls$Floor" "wide" "I") ∈ th_tb := kg (kt_1 (List.mem_of_getElem? (i := 72) rfl)) rfl
theorem kw_73 : (Jvm.Cond.fieldLink "CarpetHalls" (155 : Nat) "CarpetHalls$Floor" "wide" "I") ∈ th_tb := kg (kt_1 (List.mem_of_getElem? (i := 73) rfl)) rfl
theorem kw_74 : (Jvm.Cond.fieldLink "CarpetHalls$Floor" (40 : Nat) "CarpetHalls$Floor" "high" "I") ∈ th_tb := kg (kt_1 (List.mem_of_getElem? (i := 74) rfl)) rfl
theorem kw_75 : (Jvm.Cond.fieldLink "CarpetHalls$Search" (80 : Nat) "CarpetHalls$Floor" "high" "I") ∈ th_tb := kg (kt_1 (List.mem_of_getElem? (i := 75) rfl)) rfl
theorem kw_76 : (Jvm.Cond.fieldLink "CarpetHalls" (158 : Nat) "CarpetHalls$Floor" "high" "I") ∈ th_tb := kg (kt_1 (List.mem_of_getElem? (i := 76) rfl)) rfl
theorem kw_77 : (Jvm.Cond.fieldLink "CarpetHalls$Floor" (43 : Nat) "CarpetHalls$Floor" "paid" "I") ∈ th_tb := kg (kt_1 (List.mem_of_getElem? (i := 77) rfl)) rfl
theorem kw_78 : (Jvm.Cond.fieldLink "CarpetHalls$Reckoner" (48 : Nat) "CarpetHalls$Floor" "paid" "I") ∈ th_tb := kg (kt_1 (List.mem_of_getElem? (i := 78) rfl)) rfl
theorem kw_79 : (Jvm.Cond.fieldLink "CarpetHalls$Past" (38 : Nat) "CarpetHalls$Floor" "paid" "I") ∈ th_tb := kg (kt_1 (List.mem_of_getElem? (i := 79) rfl)) rfl
theorem kw_80 : (Jvm.Cond.fieldLink "CarpetHalls" (348 : Nat) "CarpetHalls$Floor" "paid" "I") ∈ th_tb := kg (kt_1 (List.mem_of_getElem? (i := 80) rfl)) rfl
theorem kw_81 : (Jvm.Cond.laysFinal "CarpetHalls$Floor" "CarpetHalls$Floor" "side" "[I") ∈ th_tb := kg (kt_1 (List.mem_of_getElem? (i := 81) rfl)) rfl
theorem kw_83 : (Jvm.Cond.laysFinal "CarpetHalls$Floor" "CarpetHalls$Floor" "kind" "[I") ∈ th_tb := kg (kt_1 (List.mem_of_getElem? (i := 83) rfl)) rfl
theorem kw_85 : (Jvm.Cond.laysFinal "CarpetHalls$Floor" "CarpetHalls$Floor" "pile" "[I") ∈ th_tb := kg (kt_1 (List.mem_of_getElem? (i := 85) rfl)) rfl
theorem kw_87 : (Jvm.Cond.laysFinal "CarpetHalls$Floor" "CarpetHalls$Floor" "x" "[I") ∈ th_tb := kg (kt_1 (List.mem_of_getElem? (i := 87) rfl)) rfl
theorem kw_89 : (Jvm.Cond.laysFinal "CarpetHalls$Floor" "CarpetHalls$Floor" "y" "[I") ∈ th_tb := kg (kt_1 (List.mem_of_getElem? (i := 89) rfl)) rfl
theorem kw_91 : (Jvm.Cond.laysFinal "CarpetHalls$Floor" "CarpetHalls$Floor" "terms" "[I") ∈ th_tb := kg (kt_1 (List.mem_of_getElem? (i := 91) rfl)) rfl
theorem kw_93 : (Jvm.Cond.laysFinal "CarpetHalls$Floor" "CarpetHalls$Floor" "rows" "[I") ∈ th_tb := kg (kt_1 (List.mem_of_getElem? (i := 93) rfl)) rfl
theorem kw_95 : (Jvm.Cond.lays "CarpetHalls$Floor" "CarpetHalls$Floor" "carpets" "I") ∈ th_tb := kg (kt_1 (List.mem_of_getElem? (i := 95) rfl)) rfl
theorem kw_97 : (Jvm.Cond.lays "CarpetHalls$Floor" "CarpetHalls$Floor" "wide" "I") ∈ th_tb := kg (kt_1 (List.mem_of_getElem? (i := 97) rfl)) rfl
theorem kw_99 : (Jvm.Cond.lays "CarpetHalls$Floor" "CarpetHalls$Floor" "high" "I") ∈ th_tb := kg (kt_1 (List.mem_of_getElem? (i := 99) rfl)) rfl
theorem kw_101 : (Jvm.Cond.lays "CarpetHalls$Floor" "CarpetHalls$Floor" "paid" "I") ∈ th_tb := kg (kt_1 (List.mem_of_getElem? (i := 101) rfl)) rfl
theorem kw_104 : (Jvm.Cond.arrayClass Jvm.ClassFile.FieldType.int) ∈ th_tb := kg (kt_1 (List.mem_of_getElem? (i := 104) rfl)) rfl
theorem kw_105 : (Jvm.Cond.classLink "CarpetHalls$Stand" (18 : Nat) "CarpetHalls$Text") ∈ th_tb := kg (kt_1 (List.mem_of_getElem? (i := 105) rfl)) rfl
theorem kw_106 : (Jvm.Cond.arrayOver (Jvm.ClassFile.FieldType.object "CarpetHalls$Text")) ∈ lw_tbl := kt_1 (List.mem_of_getElem? (i := 106) rfl)
theorem kw_107 : (Jvm.Cond.instantiable "CarpetHalls$Text" (4 : Nat)) ∈ th_tb := kg (kt_1 (List.mem_of_getElem? (i := 107) rfl)) rfl
theorem kw_108 : (Jvm.Cond.methodLink "CarpetHalls$Stand" (44 : Nat) ({ cls := "CarpetHalls$Text", name := "<init>", desc := "()V" } : Jvm.MethodName)) ∈ th_tb := kg (kt_1 (List.mem_of_getElem? (i := 108) rfl)) rfl
theorem kw_109 : (Jvm.Cond.instanceMethod ({ cls := "CarpetHalls$Text", name := "<init>", desc := "()V" } : Jvm.MethodName)) ∈ th_tb := kg (kt_1 (List.mem_of_getElem? (i := 109) rfl)) rfl
theorem kw_110 : (Jvm.Cond.code ({ cls := "CarpetHalls$Text", name := "<init>", desc := "()V" } : Jvm.MethodName) prog_12_method_1_code (1 : Nat) (Option.none : Option Jvm.ClassFile.FieldType)) ∈ th_tb := kg (kt_1 (List.mem_of_getElem? (i := 110) rfl)) rfl
theorem kw_111 : (Jvm.Cond.methodLink "CarpetHalls$Text" (5 : Nat) ({ cls := "java/lang/Object", name := "<init>", desc := "()V" } : Jvm.MethodName)) ∈ th_tb := kg (kt_1 (List.mem_of_getElem? (i := 111) rfl)) rfl
theorem kw_112 : (Jvm.Cond.fieldLink "CarpetHalls$Text" (11 : Nat) "CarpetHalls$Text" "code" "[I") ∈ th_tb := kg (kt_1 (List.mem_of_getElem? (i := 112) rfl)) rfl
theorem kw_113 : (Jvm.Cond.fieldLink "CarpetHalls$Reckoner" (70 : Nat) "CarpetHalls$Text" "code" "[I") ∈ th_tb := kg (kt_1 (List.mem_of_getElem? (i := 113) rfl)) rfl
theorem kw_114 : (Jvm.Cond.fieldLink "CarpetHalls$Text" (15 : Nat) "CarpetHalls$Text" "marks" "[I") ∈ th_tb := kg (kt_1 (List.mem_of_getElem? (i := 114) rfl)) rfl
theorem kw_115 : (Jvm.Cond.fieldLink "CarpetHalls$Text" (18 : Nat) "CarpetHalls$Text" "size" "I") ∈ th_tb := kg (kt_1 (List.mem_of_getElem? (i := 115) rfl)) rfl
theorem kw_116 : (Jvm.Cond.fieldLink "CarpetHalls$Reckoner" (67 : Nat) "CarpetHalls$Text" "size" "I") ∈ th_tb := kg (kt_1 (List.mem_of_getElem? (i := 116) rfl)) rfl
theorem kw_117 : (Jvm.Cond.fieldLink "CarpetHalls$Reader" (174 : Nat) "CarpetHalls$Text" "size" "I") ∈ th_tb := kg (kt_1 (List.mem_of_getElem? (i := 117) rfl)) rfl
theorem kw_118 : (Jvm.Cond.fieldLink "CarpetHalls$Text" (22 : Nat) "CarpetHalls$Text" "clauses" "I") ∈ th_tb := kg (kt_1 (List.mem_of_getElem? (i := 118) rfl)) rfl
theorem kw_119 : (Jvm.Cond.fieldLink "CarpetHalls$Judge" (52 : Nat) "CarpetHalls$Text" "clauses" "I") ∈ th_tb := kg (kt_1 (List.mem_of_getElem? (i := 119) rfl)) rfl
theorem kw_120 : (Jvm.Cond.fieldLink "CarpetHalls" (214 : Nat) "CarpetHalls$Text" "clauses" "I") ∈ th_tb := kg (kt_1 (List.mem_of_getElem? (i := 120) rfl)) rfl
theorem kw_121 : (Jvm.Cond.laysFinal "CarpetHalls$Text" "CarpetHalls$Text" "code" "[I") ∈ th_tb := kg (kt_1 (List.mem_of_getElem? (i := 121) rfl)) rfl
theorem kw_123 : (Jvm.Cond.laysFinal "CarpetHalls$Text" "CarpetHalls$Text" "marks" "[I") ∈ th_tb := kg (kt_1 (List.mem_of_getElem? (i := 123) rfl)) rfl
theorem kw_125 : (Jvm.Cond.lays "CarpetHalls$Text" "CarpetHalls$Text" "size" "I") ∈ th_tb := kg (kt_1 (List.mem_of_getElem? (i := 125) rfl)) rfl
theorem kw_127 : (Jvm.Cond.lays "CarpetHalls$Text" "CarpetHalls$Text" "clauses" "I") ∈ th_tb := kg (kt_1 (List.mem_of_getElem? (i := 127) rfl)) rfl
theorem kw_130 : (Jvm.Cond.fieldLink "CarpetHalls$Stand" (12 : Nat) "CarpetHalls$Stand" "floor" "LCarpetHalls$Floor;") ∈ th_tb := kg (kt_1 (List.mem_of_getElem? (i := 130) rfl)) rfl
theorem kw_131 : (Jvm.Cond.fieldLink "CarpetHalls" (107 : Nat) "CarpetHalls$Stand" "floor" "LCarpetHalls$Floor;") ∈ th_tb := kg (kt_1 (List.mem_of_getElem? (i := 131) rfl)) rfl
theorem kw_132 : (Jvm.Cond.fieldLink "CarpetHalls$Stand" (20 : Nat) "CarpetHalls$Stand" "law" "[LCarpetHalls$Text;") ∈ th_tb := kg (kt_1 (List.mem_of_getElem? (i := 132) rfl)) rfl
theorem kw_133 : (Jvm.Cond.fieldLink "CarpetHalls" (199 : Nat) "CarpetHalls$Stand" "law" "[LCarpetHalls$Text;") ∈ th_tb := kg (kt_1 (List.mem_of_getElem? (i := 133) rfl)) rfl
theorem kw_134 : (Jvm.Cond.fieldLink "CarpetHalls$Stand" (24 : Nat) "CarpetHalls$Stand" "seenX" "[I") ∈ th_tb := kg (kt_1 (List.mem_of_getElem? (i := 134) rfl)) rfl
theorem kw_135 : (Jvm.Cond.fieldLink "CarpetHalls$Search" (71 : Nat) "CarpetHalls$Stand" "seenX" "[I") ∈ th_tb := kg (kt_1 (List.mem_of_getElem? (i := 135) rfl)) rfl
theorem kw_136 : (Jvm.Cond.fieldLink "CarpetHalls" (310 : Nat) "CarpetHalls$Stand" "seenX" "[I") ∈ th_tb := kg (kt_1 (List.mem_of_getElem? (i := 136) rfl)) rfl
theorem kw_137 : (Jvm.Cond.fieldLink "CarpetHalls$Stand" (28 : Nat) "CarpetHalls$Stand" "seenY" "[I") ∈ th_tb := kg (kt_1 (List.mem_of_getElem? (i := 137) rfl)) rfl
theorem kw_138 : (Jvm.Cond.fieldLink "CarpetHalls$Search" (77 : Nat) "CarpetHalls$Stand" "seenY" "[I") ∈ th_tb := kg (kt_1 (List.mem_of_getElem? (i := 138) rfl)) rfl
theorem kw_139 : (Jvm.Cond.fieldLink "CarpetHalls" (313 : Nat) "CarpetHalls$Stand" "seenY" "[I") ∈ th_tb := kg (kt_1 (List.mem_of_getElem? (i := 139) rfl)) rfl
theorem kw_140 : (Jvm.Cond.fieldLink "CarpetHalls$Stand" (31 : Nat) "CarpetHalls$Stand" "seenSide" "[I") ∈ th_tb := kg (kt_1 (List.mem_of_getElem? (i := 140) rfl)) rfl
theorem kw_141 : (Jvm.Cond.fieldLink "CarpetHalls$Search" (90 : Nat) "CarpetHalls$Stand" "seenSide" "[I") ∈ th_tb := kg (kt_1 (List.mem_of_getElem? (i := 141) rfl)) rfl
theorem kw_142 : (Jvm.Cond.fieldLink "CarpetHalls" (316 : Nat) "CarpetHalls$Stand" "seenSide" "[I") ∈ th_tb := kg (kt_1 (List.mem_of_getElem? (i := 142) rfl)) rfl
theorem kw_143 : (Jvm.Cond.fieldLink "CarpetHalls$Stand" (34 : Nat) "CarpetHalls$Stand" "laws" "I") ∈ th_tb := kg (kt_1 (List.mem_of_getElem? (i := 143) rfl)) rfl
theorem kw_144 : (Jvm.Cond.fieldLink "CarpetHalls" (196 : Nat) "CarpetHalls$Stand" "laws" "I") ∈ th_tb := kg (kt_1 (List.mem_of_getElem? (i := 144) rfl)) rfl
theorem kw_145 : (Jvm.Cond.fieldLink "CarpetHalls$Stand" (38 : Nat) "CarpetHalls$Stand" "forced" "I") ∈ th_tb := kg (kt_1 (List.mem_of_getElem? (i := 145) rfl)) rfl
theorem kw_146 : (Jvm.Cond.fieldLink "CarpetHalls" (230 : Nat) "CarpetHalls$Stand" "forced" "I") ∈ th_tb := kg (kt_1 (List.mem_of_getElem? (i := 146) rfl)) rfl
theorem kw_147 : (Jvm.Cond.fieldLink "CarpetHalls$Stand" (41 : Nat) "CarpetHalls$Stand" "seen" "I") ∈ th_tb := kg (kt_1 (List.mem_of_getElem? (i := 147) rfl)) rfl
theorem kw_148 : (Jvm.Cond.fieldLink "CarpetHalls$Search" (66 : Nat) "CarpetHalls$Stand" "seen" "I") ∈ th_tb := kg (kt_1 (List.mem_of_getElem? (i := 148) rfl)) rfl
theorem kw_149 : (Jvm.Cond.fieldLink "CarpetHalls" (307 : Nat) "CarpetHalls$Stand" "seen" "I") ∈ th_tb := kg (kt_1 (List.mem_of_getElem? (i := 149) rfl)) rfl
theorem kw_150 : (Jvm.Cond.laysFinal "CarpetHalls$Stand" "CarpetHalls$Stand" "floor" "LCarpetHalls$Floor;") ∈ th_tb := kg (kt_1 (List.mem_of_getElem? (i := 150) rfl)) rfl
theorem kw_152 : (Jvm.Cond.laysFinal "CarpetHalls$Stand" "CarpetHalls$Stand" "law" "[LCarpetHalls$Text;") ∈ th_tb := kg (kt_1 (List.mem_of_getElem? (i := 152) rfl)) rfl
theorem kw_154 : (Jvm.Cond.laysFinal "CarpetHalls$Stand" "CarpetHalls$Stand" "seenX" "[I") ∈ th_tb := kg (kt_1 (List.mem_of_getElem? (i := 154) rfl)) rfl
theorem kw_156 : (Jvm.Cond.laysFinal "CarpetHalls$Stand" "CarpetHalls$Stand" "seenY" "[I") ∈ th_tb := kg (kt_1 (List.mem_of_getElem? (i := 156) rfl)) rfl
theorem kw_158 : (Jvm.Cond.laysFinal "CarpetHalls$Stand" "CarpetHalls$Stand" "seenSide" "[I") ∈ th_tb := kg (kt_1 (List.mem_of_getElem? (i := 158) rfl)) rfl
theorem kw_160 : (Jvm.Cond.lays "CarpetHalls$Stand" "CarpetHalls$Stand" "laws" "I") ∈ th_tb := kg (kt_1 (List.mem_of_getElem? (i := 160) rfl)) rfl
theorem kw_162 : (Jvm.Cond.lays "CarpetHalls$Stand" "CarpetHalls$Stand" "forced" "I") ∈ th_tb := kg (kt_1 (List.mem_of_getElem? (i := 162) rfl)) rfl
theorem kw_164 : (Jvm.Cond.lays "CarpetHalls$Stand" "CarpetHalls$Stand" "seen" "I") ∈ th_tb := kg (kt_1 (List.mem_of_getElem? (i := 164) rfl)) rfl
theorem kw_167 : (Jvm.Cond.arrayOver (Jvm.ClassFile.FieldType.object "CarpetHalls$Stand")) ∈ lw_tbl := kt_1 (List.mem_of_getElem? (i := 167) rfl)
theorem kw_168 : (Jvm.Cond.classLink "CarpetHalls" (24 : Nat) "CarpetHalls$Floor") ∈ th_tb := kg (kt_1 (List.mem_of_getElem? (i := 168) rfl)) rfl
theorem kw_169 : (Jvm.Cond.methodLink "CarpetHalls" (26 : Nat) ({ cls := "CarpetHalls$Floor", name := "<init>", desc := "()V" } : Jvm.MethodName)) ∈ th_tb := kg (kt_1 (List.mem_of_getElem? (i := 169) rfl)) rfl
theorem kw_170 : (Jvm.Cond.classLink "CarpetHalls" (34 : Nat) "CarpetHalls$Tape") ∈ th_tb := kg (kt_1 (List.mem_of_getElem? (i := 170) rfl)) rfl
theorem kw_171 : (Jvm.Cond.instantiable "CarpetHalls$Tape" (2 : Nat)) ∈ th_tb := kg (kt_1 (List.mem_of_getElem? (i := 171) rfl)) rfl
theorem kw_172 : (Jvm.Cond.methodLink "CarpetHalls" (36 : Nat) ({ cls := "CarpetHalls$Tape", name := "<init>", desc := "()V" } : Jvm.MethodName)) ∈ th_tb := kg (kt_1 (List.mem_of_getElem? (i := 172) rfl)) rfl
theorem kw_173 : (Jvm.Cond.instanceMethod ({ cls := "CarpetHalls$Tape", name := "<init>", desc := "()V" } : Jvm.MethodName)) ∈ th_tb := kg (kt_1 (List.mem_of_getElem? (i := 173) rfl)) rfl
theorem kw_174 : (Jvm.Cond.code ({ cls := "CarpetHalls$Tape", name := "<init>", desc := "()V" } : Jvm.MethodName) prog_11_method_1_code (1 : Nat) (Option.none : Option Jvm.ClassFile.FieldType)) ∈ th_tb := kg (kt_1 (List.mem_of_getElem? (i := 174) rfl)) rfl
theorem kw_175 : (Jvm.Cond.methodLink "CarpetHalls$Tape" (3 : Nat) ({ cls := "java/lang/Object", name := "<init>", desc := "()V" } : Jvm.MethodName)) ∈ th_tb := kg (kt_1 (List.mem_of_getElem? (i := 175) rfl)) rfl
theorem kw_176 : (Jvm.Cond.fieldLink "CarpetHalls$Tape" (9 : Nat) "CarpetHalls$Tape" "bytes" "[I") ∈ th_tb := kg (kt_1 (List.mem_of_getElem? (i := 176) rfl)) rfl
theorem kw_177 : (Jvm.Cond.fieldLink "CarpetHalls$Reader" (66 : Nat) "CarpetHalls$Tape" "bytes" "[I") ∈ th_tb := kg (kt_1 (List.mem_of_getElem? (i := 177) rfl)) rfl
theorem kw_178 : (Jvm.Cond.fieldLink "CarpetHalls" (193 : Nat) "CarpetHalls$Tape" "bytes" "[I") ∈ th_tb := kg (kt_1 (List.mem_of_getElem? (i := 178) rfl)) rfl
theorem kw_179 : (Jvm.Cond.fieldLink "CarpetHalls$Tape" (15 : Nat) "CarpetHalls$Tape" "length" "I") ∈ th_tb := kg (kt_1 (List.mem_of_getElem? (i := 179) rfl)) rfl
theorem kw_180 : (Jvm.Cond.fieldLink "CarpetHalls$Reader" (61 : Nat) "CarpetHalls$Tape" "length" "I") ∈ th_tb := kg (kt_1 (List.mem_of_getElem? (i := 180) rfl)) rfl
theorem kw_181 : (Jvm.Cond.fieldLink "CarpetHalls" (186 : Nat) "CarpetHalls$Tape" "length" "I") ∈ th_tb := kg (kt_1 (List.mem_of_getElem? (i := 181) rfl)) rfl
theorem kw_182 : (Jvm.Cond.laysFinal "CarpetHalls$Tape" "CarpetHalls$Tape" "bytes" "[I") ∈ th_tb := kg (kt_1 (List.mem_of_getElem? (i := 182) rfl)) rfl
theorem kw_184 : (Jvm.Cond.lays "CarpetHalls$Tape" "CarpetHalls$Tape" "length" "I") ∈ th_tb := kg (kt_1 (List.mem_of_getElem? (i := 184) rfl)) rfl
theorem kw_187 : (Jvm.Cond.arrayClass Jvm.ClassFile.FieldType.boolean) ∈ th_tb := kg (kt_1 (List.mem_of_getElem? (i := 187) rfl)) rfl
theorem kw_188 : (Jvm.Cond.classLink "CarpetHalls" (41 : Nat) "CarpetHalls$Reader") ∈ th_tb := kg (kt_1 (List.mem_of_getElem? (i := 188) rfl)) rfl
theorem kw_189 : (Jvm.Cond.instantiable "CarpetHalls$Reader" (9 : Nat)) ∈ th_tb := kg (kt_1 (List.mem_of_getElem? (i := 189) rfl)) rfl
theorem kw_190 : (Jvm.Cond.methodLink "CarpetHalls" (43 : Nat) ({ cls := "CarpetHalls$Reader", name := "<init>", desc := "()V" } : Jvm.MethodName)) ∈ th_tb := kg (kt_1 (List.mem_of_getElem? (i := 190) rfl)) rfl
theorem kw_191 : (Jvm.Cond.instanceMethod ({ cls := "CarpetHalls$Reader", name := "<init>", desc := "()V" } : Jvm.MethodName)) ∈ th_tb := kg (kt_1 (List.mem_of_getElem? (i := 191) rfl)) rfl
theorem kw_192 : (Jvm.Cond.code ({ cls := "CarpetHalls$Reader", name := "<init>", desc := "()V" } : Jvm.MethodName) prog_7_method_1_code (1 : Nat) (Option.none : Option Jvm.ClassFile.FieldType)) ∈ th_tb := kg (kt_1 (List.mem_of_getElem? (i := 192) rfl)) rfl
theorem kw_193 : (Jvm.Cond.methodLink "CarpetHalls$Reader" (5 : Nat) ({ cls := "java/lang/Object", name := "<init>", desc := "()V" } : Jvm.MethodName)) ∈ th_tb := kg (kt_1 (List.mem_of_getElem? (i := 193) rfl)) rfl
theorem kw_194 : (Jvm.Cond.fieldLink "CarpetHalls$Reader" (11 : Nat) "CarpetHalls$Reader" "tokens" "[I") ∈ th_tb := kg (kt_1 (List.mem_of_getElem? (i := 194) rfl)) rfl
theorem kw_195 : (Jvm.Cond.fieldLink "CarpetHalls$Reader" (15 : Nat) "CarpetHalls$Reader" "places" "[I") ∈ th_tb := kg (kt_1 (List.mem_of_getElem? (i := 195) rfl)) rfl
theorem kw_196 : (Jvm.Cond.fieldLink "CarpetHalls$Reader" (18 : Nat) "CarpetHalls$Reader" "tape" "LCarpetHalls$Tape;") ∈ th_tb := kg (kt_1 (List.mem_of_getElem? (i := 196) rfl)) rfl
theorem kw_197 : (Jvm.Cond.fieldLink "CarpetHalls$Reader" (22 : Nat) "CarpetHalls$Reader" "text" "LCarpetHalls$Text;") ∈ th_tb := kg (kt_1 (List.mem_of_getElem? (i := 197) rfl)) rfl
theorem kw_198 : (Jvm.Cond.fieldLink "CarpetHalls$Reader" (26 : Nat) "CarpetHalls$Reader" "ofOrders" "Z") ∈ th_tb := kg (kt_1 (List.mem_of_getElem? (i := 198) rfl)) rfl
theorem kw_199 : (Jvm.Cond.fieldLink "CarpetHalls$Reader" (30 : Nat) "CarpetHalls$Reader" "at" "I") ∈ th_tb := kg (kt_1 (List.mem_of_getElem? (i := 199) rfl)) rfl
theorem kw_200 : (Jvm.Cond.fieldLink "CarpetHalls$Reader" (34 : Nat) "CarpetHalls$Reader" "parts" "I") ∈ th_tb := kg (kt_1 (List.mem_of_getElem? (i := 200) rfl)) rfl
theorem kw_201 : (Jvm.Cond.fieldLink "CarpetHalls$Reader" (37 : Nat) "CarpetHalls$Reader" "brackets" "I") ∈ th_tb := kg (kt_1 (List.mem_of_getElem? (i := 201) rfl)) rfl
theorem kw_202 : (Jvm.Cond.fieldLink "CarpetHalls$Reader" (40 : Nat) "CarpetHalls$Reader" "fault" "I") ∈ th_tb := kg (kt_1 (List.mem_of_getElem? (i := 202) rfl)) rfl
theorem kw_203 : (Jvm.Cond.laysFinal "CarpetHalls$Reader" "CarpetHalls$Reader" "tokens" "[I") ∈ th_tb := kg (kt_1 (List.mem_of_getElem? (i := 203) rfl)) rfl
theorem kw_205 : (Jvm.Cond.laysFinal "CarpetHalls$Reader" "CarpetHalls$Reader" "places" "[I") ∈ th_tb := kg (kt_1 (List.mem_of_getElem? (i := 205) rfl)) rfl
theorem kw_207 : (Jvm.Cond.lays "CarpetHalls$Reader" "CarpetHalls$Reader" "tape" "LCarpetHalls$Tape;") ∈ th_tb := kg (kt_1 (List.mem_of_getElem? (i := 207) rfl)) rfl
theorem kw_209 : (Jvm.Cond.lays "CarpetHalls$Reader" "CarpetHalls$Reader" "text" "LCarpetHalls$Text;") ∈ th_tb := kg (kt_1 (List.mem_of_getElem? (i := 209) rfl)) rfl
theorem kw_211 : (Jvm.Cond.lays "CarpetHalls$Reader" "CarpetHalls$Reader" "ofOrders" "Z") ∈ th_tb := kg (kt_1 (List.mem_of_getElem? (i := 211) rfl)) rfl
theorem kw_213 : (Jvm.Cond.lays "CarpetHalls$Reader" "CarpetHalls$Reader" "at" "I") ∈ th_tb := kg (kt_1 (List.mem_of_getElem? (i := 213) rfl)) rfl
theorem kw_215 : (Jvm.Cond.lays "CarpetHalls$Reader" "CarpetHalls$Reader" "parts" "I") ∈ th_tb := kg (kt_1 (List.mem_of_getElem? (i := 215) rfl)) rfl
theorem kw_217 : (Jvm.Cond.lays "CarpetHalls$Reader" "CarpetHalls$Reader" "brackets" "I") ∈ th_tb := kg (kt_1 (List.mem_of_getElem? (i := 217) rfl)) rfl
theorem kw_219 : (Jvm.Cond.lays "CarpetHalls$Reader" "CarpetHalls$Reader" "fault" "I") ∈ th_tb := kg (kt_1 (List.mem_of_getElem? (i := 219) rfl)) rfl
theorem kw_222 : (Jvm.Cond.classLink "CarpetHalls" (48 : Nat) "CarpetHalls$Text") ∈ th_tb := kg (kt_1 (List.mem_of_getElem? (i := 222) rfl)) rfl
theorem kw_223 : (Jvm.Cond.methodLink "CarpetHalls" (50 : Nat) ({ cls := "CarpetHalls$Text", name := "<init>", desc := "()V" } : Jvm.MethodName)) ∈ th_tb := kg (kt_1 (List.mem_of_getElem? (i := 223) rfl)) rfl
theorem kw_224 : (Jvm.Cond.classLink "CarpetHalls" (55 : Nat) "CarpetHalls$Reckoner") ∈ th_tb := kg (kt_1 (List.mem_of_getElem? (i := 224) rfl)) rfl
theorem kw_225 : (Jvm.Cond.instantiable "CarpetHalls$Reckoner" (4 : Nat)) ∈ th_tb := kg (kt_1 (List.mem_of_getElem? (i := 225) rfl)) rfl
theorem kw_226 : (Jvm.Cond.methodLink "CarpetHalls" (57 : Nat) ({ cls := "CarpetHalls$Reckoner", name := "<init>", desc := "()V" } : Jvm.MethodName)) ∈ th_tb := kg (kt_1 (List.mem_of_getElem? (i := 226) rfl)) rfl
theorem kw_227 : (Jvm.Cond.instanceMethod ({ cls := "CarpetHalls$Reckoner", name := "<init>", desc := "()V" } : Jvm.MethodName)) ∈ th_tb := kg (kt_1 (List.mem_of_getElem? (i := 227) rfl)) rfl
theorem kw_228 : (Jvm.Cond.code ({ cls := "CarpetHalls$Reckoner", name := "<init>", desc := "()V" } : Jvm.MethodName) prog_8_method_1_code (1 : Nat) (Option.none : Option Jvm.ClassFile.FieldType)) ∈ th_tb := kg (kt_1 (List.mem_of_getElem? (i := 228) rfl)) rfl
theorem kw_229 : (Jvm.Cond.methodLink "CarpetHalls$Reckoner" (3 : Nat) ({ cls := "java/lang/Object", name := "<init>", desc := "()V" } : Jvm.MethodName)) ∈ th_tb := kg (kt_1 (List.mem_of_getElem? (i := 229) rfl)) rfl
theorem kw_230 : (Jvm.Cond.fieldLink "CarpetHalls$Reckoner" (9 : Nat) "CarpetHalls$Reckoner" "stack" "[J") ∈ th_tb := kg (kt_1 (List.mem_of_getElem? (i := 230) rfl)) rfl
theorem kw_231 : (Jvm.Cond.fieldLink "CarpetHalls$Reckoner" (17 : Nat) "CarpetHalls$Reckoner" "words" "[I") ∈ th_tb := kg (kt_1 (List.mem_of_getElem? (i := 231) rfl)) rfl
theorem kw_232 : (Jvm.Cond.fieldLink "CarpetHalls" (211 : Nat) "CarpetHalls$Reckoner" "words" "[I") ∈ th_tb := kg (kt_1 (List.mem_of_getElem? (i := 232) rfl)) rfl
theorem kw_233 : (Jvm.Cond.fieldLink "CarpetHalls$Reckoner" (23 : Nat) "CarpetHalls$Reckoner" "sums" "[I") ∈ th_tb := kg (kt_1 (List.mem_of_getElem? (i := 233) rfl)) rfl
theorem kw_234 : (Jvm.Cond.fieldLink "CarpetHalls$Judge" (28 : Nat) "CarpetHalls$Reckoner" "sums" "[I") ∈ th_tb := kg (kt_1 (List.mem_of_getElem? (i := 234) rfl)) rfl
theorem kw_235 : (Jvm.Cond.fieldLink "CarpetHalls" (384 : Nat) "CarpetHalls$Reckoner" "sums" "[I") ∈ th_tb := kg (kt_1 (List.mem_of_getElem? (i := 235) rfl)) rfl
theorem kw_236 : (Jvm.Cond.fieldLink "CarpetHalls$Reckoner" (26 : Nat) "CarpetHalls$Reckoner" "broken" "Z") ∈ th_tb := kg (kt_1 (List.mem_of_getElem? (i := 236) rfl)) rfl
theorem kw_237 : (Jvm.Cond.laysFinal "CarpetHalls$Reckoner" "CarpetHalls$Reckoner" "stack" "[J") ∈ th_tb := kg (kt_1 (List.mem_of_getElem? (i := 237) rfl)) rfl
theorem kw_239 : (Jvm.Cond.laysFinal "CarpetHalls$Reckoner" "CarpetHalls$Reckoner" "words" "[I") ∈ th_tb := kg (kt_1 (List.mem_of_getElem? (i := 239) rfl)) rfl
theorem kw_241 : (Jvm.Cond.laysFinal "CarpetHalls$Reckoner" "CarpetHalls$Reckoner" "sums" "[I") ∈ th_tb := kg (kt_2 (List.mem_of_getElem? (i := 1) rfl)) rfl
theorem kw_243 : (Jvm.Cond.lays "CarpetHalls$Reckoner" "CarpetHalls$Reckoner" "broken" "Z") ∈ th_tb := kg (kt_2 (List.mem_of_getElem? (i := 3) rfl)) rfl
theorem kw_246 : (Jvm.Cond.arrayClass Jvm.ClassFile.FieldType.long) ∈ th_tb := kg (kt_2 (List.mem_of_getElem? (i := 6) rfl)) rfl
theorem kw_247 : (Jvm.Cond.classLink "CarpetHalls" (62 : Nat) "CarpetHalls$Judge") ∈ th_tb := kg (kt_2 (List.mem_of_getElem? (i := 7) rfl)) rfl
theorem kw_248 : (Jvm.Cond.instantiable "CarpetHalls$Judge" (1 : Nat)) ∈ th_tb := kg (kt_2 (List.mem_of_getElem? (i := 8) rfl)) rfl
theorem kw_249 : (Jvm.Cond.methodLink "CarpetHalls" (64 : Nat) ({ cls := "CarpetHalls$Judge", name := "<init>", desc := "()V" } : Jvm.MethodName)) ∈ th_tb := kg (kt_2 (List.mem_of_getElem? (i := 9) rfl)) rfl
theorem kw_250 : (Jvm.Cond.instanceMethod ({ cls := "CarpetHalls$Judge", name := "<init>", desc := "()V" } : Jvm.MethodName)) ∈ th_tb := kg (kt_2 (List.mem_of_getElem? (i := 10) rfl)) rfl
theorem kw_251 : (Jvm.Cond.code ({ cls := "CarpetHalls$Judge", name := "<init>", desc := "()V" } : Jvm.MethodName) prog_4_method_1_code (1 : Nat) (Option.none : Option Jvm.ClassFile.FieldType)) ∈ th_tb := kg (kt_2 (List.mem_of_getElem? (i := 11) rfl)) rfl
theorem kw_252 : (Jvm.Cond.methodLink "CarpetHalls$Judge" (3 : Nat) ({ cls := "java/lang/Object", name := "<init>", desc := "()V" } : Jvm.MethodName)) ∈ th_tb := kg (kt_2 (List.mem_of_getElem? (i := 12) rfl)) rfl
theorem kw_253 : (Jvm.Cond.classLink "CarpetHalls$Judge" (9 : Nat) "CarpetHalls$Reckoner") ∈ th_tb := kg (kt_2 (List.mem_of_getElem? (i := 13) rfl)) rfl
theorem kw_254 : (Jvm.Cond.methodLink "CarpetHalls$Judge" (11 : Nat) ({ cls := "CarpetHalls$Reckoner", name := "<init>", desc := "()V" } : Jvm.MethodName)) ∈ th_tb := kg (kt_2 (List.mem_of_getElem? (i := 14) rfl)) rfl
theorem kw_255 : (Jvm.Cond.fieldLink "CarpetHalls$Judge" (12 : Nat) "CarpetHalls$Judge" "reckoner" "LCarpetHalls$Reckoner;") ∈ th_tb := kg (kt_2 (List.mem_of_getElem? (i := 15) rfl)) rfl
theorem kw_256 : (Jvm.Cond.laysFinal "CarpetHalls$Judge" "CarpetHalls$Judge" "reckoner" "LCarpetHalls$Reckoner;") ∈ th_tb := kg (kt_2 (List.mem_of_getElem? (i := 16) rfl)) rfl
theorem kw_259 : (Jvm.Cond.classLink "CarpetHalls" (69 : Nat) "CarpetHalls$Past") ∈ th_tb := kg (kt_2 (List.mem_of_getElem? (i := 19) rfl)) rfl
theorem kw_260 : (Jvm.Cond.instantiable "CarpetHalls$Past" (5 : Nat)) ∈ th_tb := kg (kt_2 (List.mem_of_getElem? (i := 20) rfl)) rfl
theorem kw_261 : (Jvm.Cond.methodLink "CarpetHalls" (71 : Nat) ({ cls := "CarpetHalls$Past", name := "<init>", desc := "()V" } : Jvm.MethodName)) ∈ th_tb := kg (kt_2 (List.mem_of_getElem? (i := 21) rfl)) rfl
theorem kw_262 : (Jvm.Cond.instanceMethod ({ cls := "CarpetHalls$Past", name := "<init>", desc := "()V" } : Jvm.MethodName)) ∈ th_tb := kg (kt_2 (List.mem_of_getElem? (i := 22) rfl)) rfl
theorem kw_263 : (Jvm.Cond.code ({ cls := "CarpetHalls$Past", name := "<init>", desc := "()V" } : Jvm.MethodName) prog_6_method_1_code (1 : Nat) (Option.none : Option Jvm.ClassFile.FieldType)) ∈ th_tb := kg (kt_2 (List.mem_of_getElem? (i := 23) rfl)) rfl
theorem kw_264 : (Jvm.Cond.methodLink "CarpetHalls$Past" (3 : Nat) ({ cls := "java/lang/Object", name := "<init>", desc := "()V" } : Jvm.MethodName)) ∈ th_tb := kg (kt_2 (List.mem_of_getElem? (i := 24) rfl)) rfl
theorem kw_265 : (Jvm.Cond.classLink "CarpetHalls$Past" (18 : Nat) "CarpetHalls$Floor") ∈ th_tb := kg (kt_2 (List.mem_of_getElem? (i := 25) rfl)) rfl
theorem kw_266 : (Jvm.Cond.methodLink "CarpetHalls$Past" (20 : Nat) ({ cls := "CarpetHalls$Floor", name := "<init>", desc := "()V" } : Jvm.MethodName)) ∈ th_tb := kg (kt_2 (List.mem_of_getElem? (i := 26) rfl)) rfl
theorem kw_267 : (Jvm.Cond.fieldLink "CarpetHalls$Past" (11 : Nat) "CarpetHalls$Past" "steps" "[I") ∈ th_tb := kg (kt_2 (List.mem_of_getElem? (i := 27) rfl)) rfl
theorem kw_268 : (Jvm.Cond.fieldLink "CarpetHalls$Past" (15 : Nat) "CarpetHalls$Past" "savedSteps" "[I") ∈ th_tb := kg (kt_2 (List.mem_of_getElem? (i := 28) rfl)) rfl
theorem kw_269 : (Jvm.Cond.fieldLink "CarpetHalls$Past" (21 : Nat) "CarpetHalls$Past" "savedFloor" "LCarpetHalls$Floor;") ∈ th_tb := kg (kt_2 (List.mem_of_getElem? (i := 29) rfl)) rfl
theorem kw_270 : (Jvm.Cond.fieldLink "CarpetHalls$Past" (25 : Nat) "CarpetHalls$Past" "savedSize" "I") ∈ th_tb := kg (kt_2 (List.mem_of_getElem? (i := 30) rfl)) rfl
theorem kw_271 : (Jvm.Cond.fieldLink "CarpetHalls$Past" (29 : Nat) "CarpetHalls$Past" "size" "I") ∈ th_tb := kg (kt_2 (List.mem_of_getElem? (i := 31) rfl)) rfl
theorem kw_272 : (Jvm.Cond.fieldLink "CarpetHalls" (351 : Nat) "CarpetHalls$Past" "size" "I") ∈ th_tb := kg (kt_2 (List.mem_of_getElem? (i := 32) rfl)) rfl
theorem kw_273 : (Jvm.Cond.laysFinal "CarpetHalls$Past" "CarpetHalls$Past" "steps" "[I") ∈ th_tb := kg (kt_2 (List.mem_of_getElem? (i := 33) rfl)) rfl
theorem kw_275 : (Jvm.Cond.laysFinal "CarpetHalls$Past" "CarpetHalls$Past" "savedSteps" "[I") ∈ th_tb := kg (kt_2 (List.mem_of_getElem? (i := 35) rfl)) rfl
theorem kw_277 : (Jvm.Cond.laysFinal "CarpetHalls$Past" "CarpetHalls$Past" "savedFloor" "LCarpetHalls$Floor;") ∈ th_tb := kg (kt_2 (List.mem_of_getElem? (i := 37) rfl)) rfl
theorem kw_279 : (Jvm.Cond.lays "CarpetHalls$Past" "CarpetHalls$Past" "savedSize" "I") ∈ th_tb := kg (kt_2 (List.mem_of_getElem? (i := 39) rfl)) rfl
theorem kw_281 : (Jvm.Cond.lays "CarpetHalls$Past" "CarpetHalls$Past" "size" "I") ∈ th_tb := kg (kt_2 (List.mem_of_getElem? (i := 41) rfl)) rfl
theorem kw_284 : (Jvm.Cond.classLink "CarpetHalls" (76 : Nat) "CarpetHalls$Search") ∈ th_tb := kg (kt_2 (List.mem_of_getElem? (i := 44) rfl)) rfl
theorem kw_285 : (Jvm.Cond.instantiable "CarpetHalls$Search" (14 : Nat)) ∈ th_tb := kg (kt_2 (List.mem_of_getElem? (i := 45) rfl)) rfl
theorem kw_286 : (Jvm.Cond.methodLink "CarpetHalls" (78 : Nat) ({ cls := "CarpetHalls$Search", name := "<init>", desc := "()V" } : Jvm.MethodName)) ∈ th_tb := kg (kt_2 (List.mem_of_getElem? (i := 46) rfl)) rfl
theorem kw_287 : (Jvm.Cond.instanceMethod ({ cls := "CarpetHalls$Search", name := "<init>", desc := "()V" } : Jvm.MethodName)) ∈ th_tb := kg (kt_2 (List.mem_of_getElem? (i := 47) rfl)) rfl
theorem kw_288 : (Jvm.Cond.code ({ cls := "CarpetHalls$Search", name := "<init>", desc := "()V" } : Jvm.MethodName) prog_9_method_1_code (1 : Nat) (Option.none : Option Jvm.ClassFile.FieldType)) ∈ th_tb := kg (kt_2 (List.mem_of_getElem? (i := 48) rfl)) rfl
theorem kw_289 : (Jvm.Cond.methodLink "CarpetHalls$Search" (3 : Nat) ({ cls := "java/lang/Object", name := "<init>", desc := "()V" } : Jvm.MethodName)) ∈ th_tb := kg (kt_2 (List.mem_of_getElem? (i := 49) rfl)) rfl
theorem kw_290 : (Jvm.Cond.classLink "CarpetHalls$Search" (9 : Nat) "CarpetHalls$Memo") ∈ th_tb := kg (kt_2 (List.mem_of_getElem? (i := 50) rfl)) rfl
theorem kw_291 : (Jvm.Cond.instantiable "CarpetHalls$Memo" (7 : Nat)) ∈ th_tb := kg (kt_2 (List.mem_of_getElem? (i := 51) rfl)) rfl
theorem kw_292 : (Jvm.Cond.methodLink "CarpetHalls$Search" (11 : Nat) ({ cls := "CarpetHalls$Memo", name := "<init>", desc := "()V" } : Jvm.MethodName)) ∈ th_tb := kg (kt_2 (List.mem_of_getElem? (i := 52) rfl)) rfl
theorem kw_293 : (Jvm.Cond.instanceMethod ({ cls := "CarpetHalls$Memo", name := "<init>", desc := "()V" } : Jvm.MethodName)) ∈ th_tb := kg (kt_2 (List.mem_of_getElem? (i := 53) rfl)) rfl
theorem kw_294 : (Jvm.Cond.code ({ cls := "CarpetHalls$Memo", name := "<init>", desc := "()V" } : Jvm.MethodName) prog_5_method_1_code (1 : Nat) (Option.none : Option Jvm.ClassFile.FieldType)) ∈ th_tb := kg (kt_2 (List.mem_of_getElem? (i := 54) rfl)) rfl
theorem kw_295 : (Jvm.Cond.methodLink "CarpetHalls$Memo" (3 : Nat) ({ cls := "java/lang/Object", name := "<init>", desc := "()V" } : Jvm.MethodName)) ∈ th_tb := kg (kt_2 (List.mem_of_getElem? (i := 55) rfl)) rfl
theorem kw_296 : (Jvm.Cond.constantLong "CarpetHalls$Memo" (36 : Nat) (-1 : Int64)) ∈ th_tb := kg (kt_2 (List.mem_of_getElem? (i := 56) rfl)) rfl
theorem kw_297 : (Jvm.Cond.methodLink "CarpetHalls$Memo" (38 : Nat) ({ cls := "java/util/Arrays", name := "fill", desc := "([JJ)V" } : Jvm.MethodName)) ∈ th_tb := kg (kt_2 (List.mem_of_getElem? (i := 57) rfl)) rfl
theorem kw_298 : (Jvm.Cond.static ({ cls := "java/util/Arrays", name := "fill", desc := "([JJ)V" } : Jvm.MethodName)) ∈ th_tb := kg (kt_2 (List.mem_of_getElem? (i := 58) rfl)) rfl
theorem kw_299 : (Jvm.Cond.code ({ cls := "java/util/Arrays", name := "fill", desc := "([JJ)V" } : Jvm.MethodName) prog_21_method_101_code (5 : Nat) (Option.none : Option Jvm.ClassFile.FieldType)) ∈ th_tb := kg (kt_2 (List.mem_of_getElem? (i := 59) rfl)) rfl
theorem kw_300 : (Jvm.Cond.fieldLink "CarpetHalls$Memo" (11 : Nat) "CarpetHalls$Memo" "bits" "I") ∈ th_tb := kg (kt_2 (List.mem_of_getElem? (i := 60) rfl)) rfl
theorem kw_301 : (Jvm.Cond.fieldLink "CarpetHalls$Memo" (15 : Nat) "CarpetHalls$Memo" "keys" "[J") ∈ th_tb := kg (kt_2 (List.mem_of_getElem? (i := 61) rfl)) rfl
theorem kw_302 : (Jvm.Cond.fieldLink "CarpetHalls$Memo" (19 : Nat) "CarpetHalls$Memo" "values" "[I") ∈ th_tb := kg (kt_2 (List.mem_of_getElem? (i := 62) rfl)) rfl
theorem kw_303 : (Jvm.Cond.fieldLink "CarpetHalls$Memo" (23 : Nat) "CarpetHalls$Memo" "flows" "[I") ∈ th_tb := kg (kt_2 (List.mem_of_getElem? (i := 63) rfl)) rfl
theorem kw_304 : (Jvm.Cond.fieldLink "CarpetHalls$Memo" (26 : Nat) "CarpetHalls$Memo" "order" "[I") ∈ th_tb := kg (kt_2 (List.mem_of_getElem? (i := 64) rfl)) rfl
theorem kw_305 : (Jvm.Cond.fieldLink "CarpetHalls$Memo" (29 : Nat) "CarpetHalls$Memo" "used" "I") ∈ th_tb := kg (kt_2 (List.mem_of_getElem? (i := 65) rfl)) rfl
theorem kw_306 : (Jvm.Cond.fieldLink "CarpetHalls$Search" (206 : Nat) "CarpetHalls$Memo" "used" "I") ∈ th_tb := kg (kt_2 (List.mem_of_getElem? (i := 66) rfl)) rfl
theorem kw_307 : (Jvm.Cond.fieldLink "CarpetHalls$Memo" (32 : Nat) "CarpetHalls$Memo" "full" "Z") ∈ th_tb := kg (kt_2 (List.mem_of_getElem? (i := 67) rfl)) rfl
theorem kw_308 : (Jvm.Cond.fieldLink "CarpetHalls$Search" (196 : Nat) "CarpetHalls$Memo" "full" "Z") ∈ th_tb := kg (kt_2 (List.mem_of_getElem? (i := 68) rfl)) rfl
theorem kw_309 : (Jvm.Cond.lays "CarpetHalls$Memo" "CarpetHalls$Memo" "bits" "I") ∈ th_tb := kg (kt_2 (List.mem_of_getElem? (i := 69) rfl)) rfl
theorem kw_311 : (Jvm.Cond.lays "CarpetHalls$Memo" "CarpetHalls$Memo" "keys" "[J") ∈ th_tb := kg (kt_2 (List.mem_of_getElem? (i := 71) rfl)) rfl
theorem kw_313 : (Jvm.Cond.lays "CarpetHalls$Memo" "CarpetHalls$Memo" "values" "[I") ∈ th_tb := kg (kt_2 (List.mem_of_getElem? (i := 73) rfl)) rfl
theorem kw_315 : (Jvm.Cond.lays "CarpetHalls$Memo" "CarpetHalls$Memo" "flows" "[I") ∈ th_tb := kg (kt_2 (List.mem_of_getElem? (i := 75) rfl)) rfl
theorem kw_317 : (Jvm.Cond.lays "CarpetHalls$Memo" "CarpetHalls$Memo" "order" "[I") ∈ th_tb := kg (kt_2 (List.mem_of_getElem? (i := 77) rfl)) rfl
theorem kw_319 : (Jvm.Cond.lays "CarpetHalls$Memo" "CarpetHalls$Memo" "used" "I") ∈ th_tb := kg (kt_2 (List.mem_of_getElem? (i := 79) rfl)) rfl
theorem kw_321 : (Jvm.Cond.lays "CarpetHalls$Memo" "CarpetHalls$Memo" "full" "Z") ∈ th_tb := kg (kt_2 (List.mem_of_getElem? (i := 81) rfl)) rfl
theorem kw_324 : (Jvm.Cond.fieldLink "CarpetHalls$Search" (12 : Nat) "CarpetHalls$Search" "memo" "LCarpetHalls$Memo;") ∈ th_tb := kg (kt_2 (List.mem_of_getElem? (i := 84) rfl)) rfl
theorem kw_325 : (Jvm.Cond.fieldLink "CarpetHalls$Search" (18 : Nat) "CarpetHalls$Search" "price" "[I") ∈ th_tb := kg (kt_2 (List.mem_of_getElem? (i := 85) rfl)) rfl
theorem kw_326 : (Jvm.Cond.fieldLink "CarpetHalls$Search" (22 : Nat) "CarpetHalls$Search" "asked" "[I") ∈ th_tb := kg (kt_2 (List.mem_of_getElem? (i := 86) rfl)) rfl
theorem kw_327 : (Jvm.Cond.fieldLink "CarpetHalls$Search" (25 : Nat) "CarpetHalls$Search" "tally" "[I") ∈ th_tb := kg (kt_2 (List.mem_of_getElem? (i := 87) rfl)) rfl
theorem kw_328 : (Jvm.Cond.fieldLink "CarpetHalls$Search" (28 : Nat) "CarpetHalls$Search" "path" "[I") ∈ th_tb := kg (kt_2 (List.mem_of_getElem? (i := 88) rfl)) rfl
theorem kw_329 : (Jvm.Cond.fieldLink "CarpetHalls$Search" (31 : Nat) "CarpetHalls$Search" "pathLength" "I") ∈ th_tb := kg (kt_2 (List.mem_of_getElem? (i := 89) rfl)) rfl
theorem kw_330 : (Jvm.Cond.fieldLink "CarpetHalls$Search" (35 : Nat) "CarpetHalls$Search" "round" "I") ∈ th_tb := kg (kt_2 (List.mem_of_getElem? (i := 90) rfl)) rfl
theorem kw_331 : (Jvm.Cond.fieldLink "CarpetHalls$Search" (46 : Nat) "CarpetHalls$Search" "judge" "LCarpetHalls$Judge;") ∈ th_tb := kg (kt_2 (List.mem_of_getElem? (i := 91) rfl)) rfl
theorem kw_332 : (Jvm.Cond.fieldLink "CarpetHalls$Search" (38 : Nat) "CarpetHalls$Search" "floor" "LCarpetHalls$Floor;") ∈ th_tb := kg (kt_2 (List.mem_of_getElem? (i := 92) rfl)) rfl
theorem kw_333 : (Jvm.Cond.fieldLink "CarpetHalls$Search" (42 : Nat) "CarpetHalls$Search" "law" "LCarpetHalls$Text;") ∈ th_tb := kg (kt_2 (List.mem_of_getElem? (i := 93) rfl)) rfl
theorem kw_334 : (Jvm.Cond.fieldLink "CarpetHalls$Search" (50 : Nat) "CarpetHalls$Search" "sight" "LCarpetHalls$Stand;") ∈ th_tb := kg (kt_2 (List.mem_of_getElem? (i := 94) rfl)) rfl
theorem kw_335 : (Jvm.Cond.fieldLink "CarpetHalls$Search" (63 : Nat) "CarpetHalls$Search" "bare" "I") ∈ th_tb := kg (kt_2 (List.mem_of_getElem? (i := 95) rfl)) rfl
theorem kw_336 : (Jvm.Cond.fieldLink "CarpetHalls$Search" (131 : Nat) "CarpetHalls$Search" "cheap" "Z") ∈ th_tb := kg (kt_2 (List.mem_of_getElem? (i := 96) rfl)) rfl
theorem kw_337 : (Jvm.Cond.fieldLink "CarpetHalls$Search" (135 : Nat) "CarpetHalls$Search" "enough" "I") ∈ th_tb := kg (kt_2 (List.mem_of_getElem? (i := 97) rfl)) rfl
theorem kw_338 : (Jvm.Cond.laysFinal "CarpetHalls$Search" "CarpetHalls$Search" "memo" "LCarpetHalls$Memo;") ∈ th_tb := kg (kt_2 (List.mem_of_getElem? (i := 98) rfl)) rfl
theorem kw_340 : (Jvm.Cond.laysFinal "CarpetHalls$Search" "CarpetHalls$Search" "price" "[I") ∈ th_tb := kg (kt_2 (List.mem_of_getElem? (i := 100) rfl)) rfl
theorem kw_342 : (Jvm.Cond.laysFinal "CarpetHalls$Search" "CarpetHalls$Search" "asked" "[I") ∈ th_tb := kg (kt_2 (List.mem_of_getElem? (i := 102) rfl)) rfl
theorem kw_344 : (Jvm.Cond.laysFinal "CarpetHalls$Search" "CarpetHalls$Search" "tally" "[I") ∈ th_tb := kg (kt_2 (List.mem_of_getElem? (i := 104) rfl)) rfl
theorem kw_346 : (Jvm.Cond.laysFinal "CarpetHalls$Search" "CarpetHalls$Search" "path" "[I") ∈ th_tb := kg (kt_2 (List.mem_of_getElem? (i := 106) rfl)) rfl
theorem kw_348 : (Jvm.Cond.lays "CarpetHalls$Search" "CarpetHalls$Search" "pathLength" "I") ∈ th_tb := kg (kt_2 (List.mem_of_getElem? (i := 108) rfl)) rfl
theorem kw_350 : (Jvm.Cond.lays "CarpetHalls$Search" "CarpetHalls$Search" "round" "I") ∈ th_tb := kg (kt_2 (List.mem_of_getElem? (i := 110) rfl)) rfl
theorem kw_352 : (Jvm.Cond.lays "CarpetHalls$Search" "CarpetHalls$Search" "judge" "LCarpetHalls$Judge;") ∈ th_tb := kg (kt_2 (List.mem_of_getElem? (i := 112) rfl)) rfl
theorem kw_354 : (Jvm.Cond.lays "CarpetHalls$Search" "CarpetHalls$Search" "floor" "LCarpetHalls$Floor;") ∈ th_tb := kg (kt_2 (List.mem_of_getElem? (i := 114) rfl)) rfl
theorem kw_356 : (Jvm.Cond.lays "CarpetHalls$Search" "CarpetHalls$Search" "law" "LCarpetHalls$Text;") ∈ th_tb := kg (kt_2 (List.mem_of_getElem? (i := 116) rfl)) rfl
theorem kw_358 : (Jvm.Cond.lays "CarpetHalls$Search" "CarpetHalls$Search" "sight" "LCarpetHalls$Stand;") ∈ th_tb := kg (kt_2 (List.mem_of_getElem? (i := 118) rfl)) rfl
theorem kw_360 : (Jvm.Cond.lays "CarpetHalls$Search" "CarpetHalls$Search" "bare" "I") ∈ th_tb := kg (kt_2 (List.mem_of_getElem? (i := 120) rfl)) rfl
theorem kw_362 : (Jvm.Cond.lays "CarpetHalls$Search" "CarpetHalls$Search" "cheap" "Z") ∈ th_tb := kg (kt_2 (List.mem_of_getElem? (i := 122) rfl)) rfl
theorem kw_364 : (Jvm.Cond.lays "CarpetHalls$Search" "CarpetHalls$Search" "enough" "I") ∈ th_tb := kg (kt_2 (List.mem_of_getElem? (i := 124) rfl)) rfl
theorem kw_367 : (Jvm.Cond.classLink "CarpetHalls" (83 : Nat) "CarpetHalls$Chance") ∈ th_tb := kg (kt_2 (List.mem_of_getElem? (i := 127) rfl)) rfl
theorem kw_368 : (Jvm.Cond.instantiable "CarpetHalls$Chance" (1 : Nat)) ∈ th_tb := kg (kt_2 (List.mem_of_getElem? (i := 128) rfl)) rfl
theorem kw_369 : (Jvm.Cond.methodLink "CarpetHalls" (85 : Nat) ({ cls := "CarpetHalls$Chance", name := "<init>", desc := "()V" } : Jvm.MethodName)) ∈ th_tb := kg (kt_2 (List.mem_of_getElem? (i := 129) rfl)) rfl
theorem kw_370 : (Jvm.Cond.instanceMethod ({ cls := "CarpetHalls$Chance", name := "<init>", desc := "()V" } : Jvm.MethodName)) ∈ th_tb := kg (kt_2 (List.mem_of_getElem? (i := 130) rfl)) rfl
theorem kw_371 : (Jvm.Cond.code ({ cls := "CarpetHalls$Chance", name := "<init>", desc := "()V" } : Jvm.MethodName) prog_2_method_1_code (1 : Nat) (Option.none : Option Jvm.ClassFile.FieldType)) ∈ th_tb := kg (kt_2 (List.mem_of_getElem? (i := 131) rfl)) rfl
theorem kw_372 : (Jvm.Cond.methodLink "CarpetHalls$Chance" (3 : Nat) ({ cls := "java/lang/Object", name := "<init>", desc := "()V" } : Jvm.MethodName)) ∈ th_tb := kg (kt_2 (List.mem_of_getElem? (i := 132) rfl)) rfl
theorem kw_373 : (Jvm.Cond.fieldLink "CarpetHalls$Chance" (9 : Nat) "CarpetHalls$Chance" "limbs" "[J") ∈ th_tb := kg (kt_2 (List.mem_of_getElem? (i := 133) rfl)) rfl
theorem kw_374 : (Jvm.Cond.laysFinal "CarpetHalls$Chance" "CarpetHalls$Chance" "limbs" "[J") ∈ th_tb := kg (kt_2 (List.mem_of_getElem? (i := 134) rfl)) rfl
theorem kw_377 : (Jvm.Cond.fieldLink "CarpetHalls" (12 : Nat) "CarpetHalls" "now" "LCarpetHalls$Stand;") ∈ th_tb := kg (kt_2 (List.mem_of_getElem? (i := 137) rfl)) rfl
theorem kw_378 : (Jvm.Cond.fieldLink "CarpetHalls" (16 : Nat) "CarpetHalls" "images" "[LCarpetHalls$Stand;") ∈ th_tb := kg (kt_2 (List.mem_of_getElem? (i := 138) rfl)) rfl
theorem kw_379 : (Jvm.Cond.fieldLink "CarpetHalls" (20 : Nat) "CarpetHalls" "kept" "[Z") ∈ th_tb := kg (kt_2 (List.mem_of_getElem? (i := 139) rfl)) rfl
theorem kw_380 : (Jvm.Cond.fieldLink "CarpetHalls" (27 : Nat) "CarpetHalls" "paper" "LCarpetHalls$Floor;") ∈ th_tb := kg (kt_2 (List.mem_of_getElem? (i := 140) rfl)) rfl
theorem kw_381 : (Jvm.Cond.fieldLink "CarpetHalls" (31 : Nat) "CarpetHalls" "sheet" "LCarpetHalls$Floor;") ∈ th_tb := kg (kt_2 (List.mem_of_getElem? (i := 141) rfl)) rfl
theorem kw_382 : (Jvm.Cond.fieldLink "CarpetHalls" (37 : Nat) "CarpetHalls" "tape" "LCarpetHalls$Tape;") ∈ th_tb := kg (kt_2 (List.mem_of_getElem? (i := 142) rfl)) rfl
theorem kw_383 : (Jvm.Cond.fieldLink "CarpetHalls" (44 : Nat) "CarpetHalls" "reader" "LCarpetHalls$Reader;") ∈ th_tb := kg (kt_2 (List.mem_of_getElem? (i := 143) rfl)) rfl
theorem kw_384 : (Jvm.Cond.fieldLink "CarpetHalls" (51 : Nat) "CarpetHalls" "errand" "LCarpetHalls$Text;") ∈ th_tb := kg (kt_2 (List.mem_of_getElem? (i := 144) rfl)) rfl
theorem kw_385 : (Jvm.Cond.fieldLink "CarpetHalls" (58 : Nat) "CarpetHalls" "clerk" "LCarpetHalls$Reckoner;") ∈ th_tb := kg (kt_2 (List.mem_of_getElem? (i := 145) rfl)) rfl
theorem kw_386 : (Jvm.Cond.fieldLink "CarpetHalls" (65 : Nat) "CarpetHalls" "judge" "LCarpetHalls$Judge;") ∈ th_tb := kg (kt_2 (List.mem_of_getElem? (i := 146) rfl)) rfl
theorem kw_387 : (Jvm.Cond.fieldLink "CarpetHalls" (72 : Nat) "CarpetHalls" "past" "LCarpetHalls$Past;") ∈ th_tb := kg (kt_2 (List.mem_of_getElem? (i := 147) rfl)) rfl
theorem kw_388 : (Jvm.Cond.fieldLink "CarpetHalls" (79 : Nat) "CarpetHalls" "search" "LCarpetHalls$Search;") ∈ th_tb := kg (kt_2 (List.mem_of_getElem? (i := 148) rfl)) rfl
theorem kw_389 : (Jvm.Cond.fieldLink "CarpetHalls" (86 : Nat) "CarpetHalls" "chance" "LCarpetHalls$Chance;") ∈ th_tb := kg (kt_2 (List.mem_of_getElem? (i := 149) rfl)) rfl
theorem kw_390 : (Jvm.Cond.fieldLink "CarpetHalls" (90 : Nat) "CarpetHalls" "refused" "[I") ∈ th_tb := kg (kt_2 (List.mem_of_getElem? (i := 150) rfl)) rfl
theorem kw_391 : (Jvm.Cond.fieldLink "CarpetHalls" (94 : Nat) "CarpetHalls" "status" "I") ∈ th_tb := kg (kt_2 (List.mem_of_getElem? (i := 151) rfl)) rfl
theorem kw_392 : (Jvm.Cond.fieldLink "CarpetHalls" (98 : Nat) "CarpetHalls" "fault" "I") ∈ th_tb := kg (kt_2 (List.mem_of_getElem? (i := 152) rfl)) rfl
theorem kw_393 : (Jvm.Cond.fieldLink "CarpetHalls" (101 : Nat) "CarpetHalls" "fluff" "I") ∈ th_tb := kg (kt_2 (List.mem_of_getElem? (i := 153) rfl)) rfl
theorem kw_394 : (Jvm.Cond.fieldLink "CarpetHalls" (104 : Nat) "CarpetHalls" "stopped" "I") ∈ th_tb := kg (kt_2 (List.mem_of_getElem? (i := 154) rfl)) rfl
theorem kw_395 : (Jvm.Cond.laysFinal "CarpetHalls" "CarpetHalls" "now" "LCarpetHalls$Stand;") ∈ th_tb := kg (kt_2 (List.mem_of_getElem? (i := 155) rfl)) rfl
theorem kw_397 : (Jvm.Cond.laysFinal "CarpetHalls" "CarpetHalls" "images" "[LCarpetHalls$Stand;") ∈ th_tb := kg (kt_2 (List.mem_of_getElem? (i := 157) rfl)) rfl
theorem kw_399 : (Jvm.Cond.laysFinal "CarpetHalls" "CarpetHalls" "kept" "[Z") ∈ th_tb := kg (kt_2 (List.mem_of_getElem? (i := 159) rfl)) rfl
theorem kw_401 : (Jvm.Cond.laysFinal "CarpetHalls" "CarpetHalls" "paper" "LCarpetHalls$Floor;") ∈ th_tb := kg (kt_2 (List.mem_of_getElem? (i := 161) rfl)) rfl
theorem kw_403 : (Jvm.Cond.laysFinal "CarpetHalls" "CarpetHalls" "sheet" "LCarpetHalls$Floor;") ∈ th_tb := kg (kt_2 (List.mem_of_getElem? (i := 163) rfl)) rfl
theorem kw_405 : (Jvm.Cond.laysFinal "CarpetHalls" "CarpetHalls" "tape" "LCarpetHalls$Tape;") ∈ th_tb := kg (kt_2 (List.mem_of_getElem? (i := 165) rfl)) rfl
theorem kw_407 : (Jvm.Cond.laysFinal "CarpetHalls" "CarpetHalls" "reader" "LCarpetHalls$Reader;") ∈ th_tb := kg (kt_2 (List.mem_of_getElem? (i := 167) rfl)) rfl
theorem kw_409 : (Jvm.Cond.laysFinal "CarpetHalls" "CarpetHalls" "errand" "LCarpetHalls$Text;") ∈ th_tb := kg (kt_2 (List.mem_of_getElem? (i := 169) rfl)) rfl
theorem kw_411 : (Jvm.Cond.laysFinal "CarpetHalls" "CarpetHalls" "clerk" "LCarpetHalls$Reckoner;") ∈ th_tb := kg (kt_2 (List.mem_of_getElem? (i := 171) rfl)) rfl
theorem kw_413 : (Jvm.Cond.laysFinal "CarpetHalls" "CarpetHalls" "judge" "LCarpetHalls$Judge;") ∈ th_tb := kg (kt_2 (List.mem_of_getElem? (i := 173) rfl)) rfl
theorem kw_415 : (Jvm.Cond.laysFinal "CarpetHalls" "CarpetHalls" "past" "LCarpetHalls$Past;") ∈ th_tb := kg (kt_2 (List.mem_of_getElem? (i := 175) rfl)) rfl
theorem kw_417 : (Jvm.Cond.laysFinal "CarpetHalls" "CarpetHalls" "search" "LCarpetHalls$Search;") ∈ th_tb := kg (kt_2 (List.mem_of_getElem? (i := 177) rfl)) rfl
theorem kw_419 : (Jvm.Cond.laysFinal "CarpetHalls" "CarpetHalls" "chance" "LCarpetHalls$Chance;") ∈ th_tb := kg (kt_2 (List.mem_of_getElem? (i := 179) rfl)) rfl
theorem kw_421 : (Jvm.Cond.laysFinal "CarpetHalls" "CarpetHalls" "refused" "[I") ∈ th_tb := kg (kt_2 (List.mem_of_getElem? (i := 181) rfl)) rfl
theorem kw_423 : (Jvm.Cond.lays "CarpetHalls" "CarpetHalls" "status" "I") ∈ th_tb := kg (kt_2 (List.mem_of_getElem? (i := 183) rfl)) rfl
theorem kw_425 : (Jvm.Cond.lays "CarpetHalls" "CarpetHalls" "fault" "I") ∈ th_tb := kg (kt_2 (List.mem_of_getElem? (i := 185) rfl)) rfl
theorem kw_427 : (Jvm.Cond.lays "CarpetHalls" "CarpetHalls" "fluff" "I") ∈ th_tb := kg (kt_2 (List.mem_of_getElem? (i := 187) rfl)) rfl
theorem kw_429 : (Jvm.Cond.lays "CarpetHalls" "CarpetHalls" "stopped" "I") ∈ th_tb := kg (kt_2 (List.mem_of_getElem? (i := 189) rfl)) rfl
theorem kw_432 : (Jvm.Cond.methodLink "CarpetHallsLaw" (13 : Nat) ({ cls := "CarpetHalls", name := "carpet", desc := "(III)I" } : Jvm.MethodName)) ∈ th_tb := kg (kt_2 (List.mem_of_getElem? (i := 192) rfl)) rfl
theorem kw_433 : (Jvm.Cond.instanceMethod ({ cls := "CarpetHalls", name := "carpet", desc := "(III)I" } : Jvm.MethodName)) ∈ th_tb := kg (kt_2 (List.mem_of_getElem? (i := 193) rfl)) rfl
theorem kw_434 : (Jvm.Cond.selects "CarpetHalls" ({ cls := "CarpetHalls", name := "carpet", desc := "(III)I" } : Jvm.MethodName) ({ cls := "CarpetHalls", name := "carpet", desc := "(III)I" } : Jvm.MethodName)) ∈ th_tb := kg (kt_2 (List.mem_of_getElem? (i := 194) rfl)) rfl
theorem kw_435 : (Jvm.Cond.code ({ cls := "CarpetHalls", name := "carpet", desc := "(III)I" } : Jvm.MethodName) prog_1_method_2_code (5 : Nat) (Option.some Jvm.ClassFile.FieldType.int)) ∈ th_tb := kg (kt_2 (List.mem_of_getElem? (i := 195) rfl)) rfl
theorem kw_436 : (Jvm.Cond.methodLink "CarpetHalls" (110 : Nat) ({ cls := "CarpetHalls$Floor", name := "add", desc := "(III)I" } : Jvm.MethodName)) ∈ th_tb := kg (kt_2 (List.mem_of_getElem? (i := 196) rfl)) rfl
theorem kw_437 : (Jvm.Cond.instanceMethod ({ cls := "CarpetHalls$Floor", name := "add", desc := "(III)I" } : Jvm.MethodName)) ∈ th_tb := kg (kt_2 (List.mem_of_getElem? (i := 197) rfl)) rfl
theorem kw_438 : (Jvm.Cond.selects "CarpetHalls$Floor" ({ cls := "CarpetHalls$Floor", name := "add", desc := "(III)I" } : Jvm.MethodName) ({ cls := "CarpetHalls$Floor", name := "add", desc := "(III)I" } : Jvm.MethodName)) ∈ th_tb := kg (kt_2 (List.mem_of_getElem? (i := 198) rfl)) rfl
theorem kw_439 : (Jvm.Cond.code ({ cls := "CarpetHalls$Floor", name := "add", desc := "(III)I" } : Jvm.MethodName) prog_3_method_3_code (4 : Nat) (Option.some Jvm.ClassFile.FieldType.int)) ∈ th_tb := kg (kt_2 (List.mem_of_getElem? (i := 199) rfl)) rfl
theorem kw_440 : (Jvm.Cond.methodLink "CarpetHalls" (114 : Nat) ({ cls := "CarpetHalls$Past", name := "clear", desc := "()V" } : Jvm.MethodName)) ∈ th_tb := kg (kt_2 (List.mem_of_getElem? (i := 200) rfl)) rfl
theorem kw_441 : (Jvm.Cond.instanceMethod ({ cls := "CarpetHalls$Past", name := "clear", desc := "()V" } : Jvm.MethodName)) ∈ th_tb := kg (kt_2 (List.mem_of_getElem? (i := 201) rfl)) rfl
theorem kw_442 : (Jvm.Cond.selects "CarpetHalls$Past" ({ cls := "CarpetHalls$Past", name := "clear", desc := "()V" } : Jvm.MethodName) ({ cls := "CarpetHalls$Past", name := "clear", desc := "()V" } : Jvm.MethodName)) ∈ th_tb := kg (kt_2 (List.mem_of_getElem? (i := 202) rfl)) rfl
theorem kw_443 : (Jvm.Cond.code ({ cls := "CarpetHalls$Past", name := "clear", desc := "()V" } : Jvm.MethodName) prog_6_method_2_code (1 : Nat) (Option.none : Option Jvm.ClassFile.FieldType)) ∈ th_tb := kg (kt_2 (List.mem_of_getElem? (i := 203) rfl)) rfl
theorem kw_444 : (Jvm.Cond.methodLink "CarpetHalls" (117 : Nat) ({ cls := "CarpetHalls", name := "answer", desc := "(I)I" } : Jvm.MethodName)) ∈ th_tb := kg (kt_2 (List.mem_of_getElem? (i := 204) rfl)) rfl
theorem kw_446 : (Jvm.Cond.instanceMethod ({ cls := "CarpetHalls", name := "answer", desc := "(I)I" } : Jvm.MethodName)) ∈ th_tb := kg (kt_2 (List.mem_of_getElem? (i := 206) rfl)) rfl
theorem kw_447 : (Jvm.Cond.code ({ cls := "CarpetHalls", name := "answer", desc := "(I)I" } : Jvm.MethodName) prog_1_method_47_code (2 : Nat) (Option.some Jvm.ClassFile.FieldType.int)) ∈ th_tb := kg (kt_2 (List.mem_of_getElem? (i := 207) rfl)) rfl
theorem kw_448 : (Jvm.Cond.methodLink "CarpetHallsLaw" (18 : Nat) ({ cls := "CarpetHalls", name := "of", desc := "(II)I" } : Jvm.MethodName)) ∈ th_tb := kg (kt_2 (List.mem_of_getElem? (i := 208) rfl)) rfl
theorem kw_449 : (Jvm.Cond.instanceMethod ({ cls := "CarpetHalls", name := "of", desc := "(II)I" } : Jvm.MethodName)) ∈ th_tb := kg (kt_2 (List.mem_of_getElem? (i := 209) rfl)) rfl
theorem kw_450 : (Jvm.Cond.selects "CarpetHalls" ({ cls := "CarpetHalls", name := "of", desc := "(II)I" } : Jvm.MethodName) ({ cls := "CarpetHalls", name := "of", desc := "(II)I" } : Jvm.MethodName)) ∈ th_tb := kg (kt_2 (List.mem_of_getElem? (i := 210) rfl)) rfl
theorem kw_451 : (Jvm.Cond.code ({ cls := "CarpetHalls", name := "of", desc := "(II)I" } : Jvm.MethodName) prog_1_method_3_code (4 : Nat) (Option.some Jvm.ClassFile.FieldType.int)) ∈ th_tb := kg (kt_2 (List.mem_of_getElem? (i := 211) rfl)) rfl
theorem kw_452 : (Jvm.Cond.methodLink "CarpetHalls" (121 : Nat) ({ cls := "CarpetHalls$Floor", name := "has", desc := "(I)Z" } : Jvm.MethodName)) ∈ th_tb := kg (kt_2 (List.mem_of_getElem? (i := 212) rfl)) rfl
theorem kw_453 : (Jvm.Cond.instanceMethod ({ cls := "CarpetHalls$Floor", name := "has", desc := "(I)Z" } : Jvm.MethodName)) ∈ th_tb := kg (kt_2 (List.mem_of_getElem? (i := 213) rfl)) rfl
theorem kw_454 : (Jvm.Cond.selects "CarpetHalls$Floor" ({ cls := "CarpetHalls$Floor", name := "has", desc := "(I)Z" } : Jvm.MethodName) ({ cls := "CarpetHalls$Floor", name := "has", desc := "(I)Z" } : Jvm.MethodName)) ∈ th_tb := kg (kt_2 (List.mem_of_getElem? (i := 214) rfl)) rfl
theorem kw_455 : (Jvm.Cond.code ({ cls := "CarpetHalls$Floor", name := "has", desc := "(I)Z" } : Jvm.MethodName) prog_3_method_4_code (2 : Nat) (Option.some Jvm.ClassFile.FieldType.boolean)) ∈ th_tb := kg (kt_2 (List.mem_of_getElem? (i := 215) rfl)) rfl
theorem kw_456 : (Jvm.Cond.methodLink "CarpetHalls" (140 : Nat) ({ cls := "CarpetHalls$Floor", name := "isLaid", desc := "(I)Z" } : Jvm.MethodName)) ∈ th_tb := kg (kt_2 (List.mem_of_getElem? (i := 216) rfl)) rfl
theorem kw_457 : (Jvm.Cond.instanceMethod ({ cls := "CarpetHalls$Floor", name := "isLaid", desc := "(I)Z" } : Jvm.MethodName)) ∈ th_tb := kg (kt_2 (List.mem_of_getElem? (i := 217) rfl)) rfl
theorem kw_458 : (Jvm.Cond.selects "CarpetHalls$Floor" ({ cls := "CarpetHalls$Floor", name := "isLaid", desc := "(I)Z" } : Jvm.MethodName) ({ cls := "CarpetHalls$Floor", name := "isLaid", desc := "(I)Z" } : Jvm.MethodName)) ∈ th_tb := kg (kt_2 (List.mem_of_getElem? (i := 218) rfl)) rfl
theorem kw_459 : (Jvm.Cond.code ({ cls := "CarpetHalls$Floor", name := "isLaid", desc := "(I)Z" } : Jvm.MethodName) prog_3_method_5_code (2 : Nat) (Option.some Jvm.ClassFile.FieldType.boolean)) ∈ th_tb := kg (kt_2 (List.mem_of_getElem? (i := 219) rfl)) rfl
theorem kw_460 : (Jvm.Cond.methodLink "CarpetHalls$Floor" (52 : Nat) ({ cls := "CarpetHalls$Floor", name := "has", desc := "(I)Z" } : Jvm.MethodName)) ∈ th_tb := kg (kt_2 (List.mem_of_getElem? (i := 220) rfl)) rfl
theorem kw_461 : (Jvm.Cond.methodLink "CarpetHalls" (143 : Nat) ({ cls := "CarpetHalls$Stand", name := "forcedLaw", desc := "()LCarpetHalls$Text;" } : Jvm.MethodName)) ∈ th_tb := kg (kt_2 (List.mem_of_getElem? (i := 221) rfl)) rfl
theorem kw_462 : (Jvm.Cond.instanceMethod ({ cls := "CarpetHalls$Stand", name := "forcedLaw", desc := "()LCarpetHalls$Text;" } : Jvm.MethodName)) ∈ th_tb := kg (kt_2 (List.mem_of_getElem? (i := 222) rfl)) rfl
theorem kw_463 : (Jvm.Cond.selects "CarpetHalls$Stand" ({ cls := "CarpetHalls$Stand", name := "forcedLaw", desc := "()LCarpetHalls$Text;" } : Jvm.MethodName) ({ cls := "CarpetHalls$Stand", name := "forcedLaw", desc := "()LCarpetHalls$Text;" } : Jvm.MethodName)) ∈ th_tb := kg (kt_2 (List.mem_of_getElem? (i := 223) rfl)) rfl
theorem kw_464 : (Jvm.Cond.code ({ cls := "CarpetHalls$Stand", name := "forcedLaw", desc := "()LCarpetHalls$Text;" } : Jvm.MethodName) prog_10_method_3_code (1 : Nat) (Option.some (Jvm.ClassFile.FieldType.object "CarpetHalls$Text"))) ∈ th_tb := kg (kt_2 (List.mem_of_getElem? (i := 224) rfl)) rfl
theorem kw_465 : (Jvm.Cond.methodLink "CarpetHalls$Stand" (45 : Nat) ({ cls := "CarpetHalls$Stand", name := "lawOf", desc := "(I)LCarpetHalls$Text;" } : Jvm.MethodName)) ∈ th_tb := kg (kt_2 (List.mem_of_getElem? (i := 225) rfl)) rfl
theorem kw_466 : (Jvm.Cond.instanceMethod ({ cls := "CarpetHalls$Stand", name := "lawOf", desc := "(I)LCarpetHalls$Text;" } : Jvm.MethodName)) ∈ th_tb := kg (kt_2 (List.mem_of_getElem? (i := 226) rfl)) rfl
theorem kw_467 : (Jvm.Cond.selects "CarpetHalls$Stand" ({ cls := "CarpetHalls$Stand", name := "lawOf", desc := "(I)LCarpetHalls$Text;" } : Jvm.MethodName) ({ cls := "CarpetHalls$Stand", name := "lawOf", desc := "(I)LCarpetHalls$Text;" } : Jvm.MethodName)) ∈ th_tb := kg (kt_2 (List.mem_of_getElem? (i := 227) rfl)) rfl
theorem kw_468 : (Jvm.Cond.code ({ cls := "CarpetHalls$Stand", name := "lawOf", desc := "(I)LCarpetHalls$Text;" } : Jvm.MethodName) prog_10_method_2_code (2 : Nat) (Option.some (Jvm.ClassFile.FieldType.object "CarpetHalls$Text"))) ∈ th_tb := kg (kt_2 (List.mem_of_getElem? (i := 228) rfl)) rfl
theorem kw_469 : (Jvm.Cond.methodLink "CarpetHalls" (147 : Nat) ({ cls := "CarpetHalls$Judge", name := "wearOf", desc := "(LCarpetHalls$Text;LCarpetHalls$Floor;I)I" } : Jvm.MethodName)) ∈ th_tb := kg (kt_2 (List.mem_of_getElem? (i := 229) rfl)) rfl
theorem kw_470 : (Jvm.Cond.instanceMethod ({ cls := "CarpetHalls$Judge", name := "wearOf", desc := "(LCarpetHalls$Text;LCarpetHalls$Floor;I)I" } : Jvm.MethodName)) ∈ th_tb := kg (kt_2 (List.mem_of_getElem? (i := 230) rfl)) rfl
theorem kw_471 : (Jvm.Cond.selects "CarpetHalls$Judge" ({ cls := "CarpetHalls$Judge", name := "wearOf", desc := "(LCarpetHalls$Text;LCarpetHalls$Floor;I)I" } : Jvm.MethodName) ({ cls := "CarpetHalls$Judge", name := "wearOf", desc := "(LCarpetHalls$Text;LCarpetHalls$Floor;I)I" } : Jvm.MethodName)) ∈ th_tb := kg (kt_2 (List.mem_of_getElem? (i := 231) rfl)) rfl
theorem kw_472 : (Jvm.Cond.code ({ cls := "CarpetHalls$Judge", name := "wearOf", desc := "(LCarpetHalls$Text;LCarpetHalls$Floor;I)I" } : Jvm.MethodName) prog_4_method_3_code (4 : Nat) (Option.some Jvm.ClassFile.FieldType.int)) ∈ th_tb := kg (kt_2 (List.mem_of_getElem? (i := 232) rfl)) rfl
theorem kw_473 : (Jvm.Cond.methodLink "CarpetHalls$Judge" (18 : Nat) ({ cls := "CarpetHalls$Reckoner", name := "setLawWords", desc := "(LCarpetHalls$Floor;III)V" } : Jvm.MethodName)) ∈ th_tb := kg (kt_2 (List.mem_of_getElem? (i := 233) rfl)) rfl
theorem kw_474 : (Jvm.Cond.instanceMethod ({ cls := "CarpetHalls$Reckoner", name := "setLawWords", desc := "(LCarpetHalls$Floor;III)V" } : Jvm.MethodName)) ∈ th_tb := kg (kt_2 (List.mem_of_getElem? (i := 234) rfl)) rfl
theorem kw_475 : (Jvm.Cond.selects "CarpetHalls$Reckoner" ({ cls := "CarpetHalls$Reckoner", name := "setLawWords", desc := "(LCarpetHalls$Floor;III)V" } : Jvm.MethodName) ({ cls := "CarpetHalls$Reckoner", name := "setLawWords", desc := "(LCarpetHalls$Floor;III)V" } : Jvm.MethodName)) ∈ th_tb := kg (kt_2 (List.mem_of_getElem? (i := 235) rfl)) rfl
theorem kw_476 : (Jvm.Cond.code ({ cls := "CarpetHalls$Reckoner", name := "setLawWords", desc := "(LCarpetHalls$Floor;III)V" } : Jvm.MethodName) prog_8_method_2_code (5 : Nat) (Option.none : Option Jvm.ClassFile.FieldType)) ∈ th_tb := kg (kt_2 (List.mem_of_getElem? (i := 236) rfl)) rfl
theorem kw_477 : (Jvm.Cond.methodLink "CarpetHalls$Judge" (24 : Nat) ({ cls := "CarpetHalls$Judge", name := "holds", desc := "(LCarpetHalls$Text;I)Z" } : Jvm.MethodName)) ∈ th_tb := kg (kt_2 (List.mem_of_getElem? (i := 237) rfl)) rfl
theorem kw_479 : (Jvm.Cond.instanceMethod ({ cls := "CarpetHalls$Judge", name := "holds", desc := "(LCarpetHalls$Text;I)Z" } : Jvm.MethodName)) ∈ th_tb := kg (kt_2 (List.mem_of_getElem? (i := 239) rfl)) rfl
theorem kw_480 : (Jvm.Cond.code ({ cls := "CarpetHalls$Judge", name := "holds", desc := "(LCarpetHalls$Text;I)Z" } : Jvm.MethodName) prog_4_method_5_code (4 : Nat) (Option.some Jvm.ClassFile.FieldType.boolean)) ∈ th_tb := kg (kt_3 (List.mem_of_getElem? (i := 0) rfl)) rfl
theorem kw_481 : (Jvm.Cond.methodLink "CarpetHalls$Judge" (58 : Nat) ({ cls := "CarpetHalls$Text", name := "mark", desc := "(II)I" } : Jvm.MethodName)) ∈ th_tb := kg (kt_3 (List.mem_of_getElem? (i := 1) rfl)) rfl
theorem kw_482 : (Jvm.Cond.instanceMethod ({ cls := "CarpetHalls$Text", name := "mark", desc := "(II)I" } : Jvm.MethodName)) ∈ th_tb := kg (kt_3 (List.mem_of_getElem? (i := 2) rfl)) rfl
theorem kw_483 : (Jvm.Cond.selects "CarpetHalls$Text" ({ cls := "CarpetHalls$Text", name := "mark", desc := "(II)I" } : Jvm.MethodName) ({ cls := "CarpetHalls$Text", name := "mark", desc := "(II)I" } : Jvm.MethodName)) ∈ th_tb := kg (kt_3 (List.mem_of_getElem? (i := 3) rfl)) rfl
theorem kw_484 : (Jvm.Cond.code ({ cls := "CarpetHalls$Text", name := "mark", desc := "(II)I" } : Jvm.MethodName) prog_12_method_9_code (4 : Nat) (Option.some Jvm.ClassFile.FieldType.int)) ∈ th_tb := kg (kt_3 (List.mem_of_getElem? (i := 4) rfl)) rfl
theorem kw_485 : (Jvm.Cond.methodLink "CarpetHalls$Judge" (61 : Nat) ({ cls := "CarpetHalls$Reckoner", name := "isSo", desc := "(LCarpetHalls$Text;I)Z" } : Jvm.MethodName)) ∈ th_tb := kg (kt_3 (List.mem_of_getElem? (i := 5) rfl)) rfl
theorem kw_486 : (Jvm.Cond.instanceMethod ({ cls := "CarpetHalls$Reckoner", name := "isSo", desc := "(LCarpetHalls$Text;I)Z" } : Jvm.MethodName)) ∈ th_tb := kg (kt_3 (List.mem_of_getElem? (i := 6) rfl)) rfl
theorem kw_487 : (Jvm.Cond.selects "CarpetHalls$Reckoner" ({ cls := "CarpetHalls$Reckoner", name := "isSo", desc := "(LCarpetHalls$Text;I)Z" } : Jvm.MethodName) ({ cls := "CarpetHalls$Reckoner", name := "isSo", desc := "(LCarpetHalls$Text;I)Z" } : Jvm.MethodName)) ∈ th_tb := kg (kt_3 (List.mem_of_getElem? (i := 7) rfl)) rfl
theorem kw_488 : (Jvm.Cond.code ({ cls := "CarpetHalls$Reckoner", name := "isSo", desc := "(LCarpetHalls$Text;I)Z" } : Jvm.MethodName) prog_8_method_4_code (5 : Nat) (Option.some Jvm.ClassFile.FieldType.boolean)) ∈ th_tb := kg (kt_3 (List.mem_of_getElem? (i := 8) rfl)) rfl
theorem kw_489 : (Jvm.Cond.methodLink "CarpetHalls$Reckoner" (59 : Nat) ({ cls := "CarpetHalls$Text", name := "mark", desc := "(II)I" } : Jvm.MethodName)) ∈ th_tb := kg (kt_3 (List.mem_of_getElem? (i := 9) rfl)) rfl
theorem kw_490 : (Jvm.Cond.methodLink "CarpetHalls$Reckoner" (63 : Nat) ({ cls := "CarpetHalls$Reckoner", name := "reckon", desc := "(LCarpetHalls$Text;II)J" } : Jvm.MethodName)) ∈ th_tb := kg (kt_3 (List.mem_of_getElem? (i := 10) rfl)) rfl
theorem kw_492 : (Jvm.Cond.instanceMethod ({ cls := "CarpetHalls$Reckoner", name := "reckon", desc := "(LCarpetHalls$Text;II)J" } : Jvm.MethodName)) ∈ th_tb := kg (kt_3 (List.mem_of_getElem? (i := 12) rfl)) rfl
theorem kw_493 : (Jvm.Cond.code ({ cls := "CarpetHalls$Reckoner", name := "reckon", desc := "(LCarpetHalls$Text;II)J" } : Jvm.MethodName) prog_8_method_6_code (13 : Nat) (Option.some Jvm.ClassFile.FieldType.long)) ∈ th_tb := kg (kt_3 (List.mem_of_getElem? (i := 13) rfl)) rfl
theorem kw_494 : (Jvm.Cond.constantLong "CarpetHalls$Reckoner" (73 : Nat) (1000000001 : Int64)) ∈ th_tb := kg (kt_3 (List.mem_of_getElem? (i := 14) rfl)) rfl
theorem kw_495 : (Jvm.Cond.constantLong "CarpetHalls$Reckoner" (75 : Nat) (1000000000 : Int64)) ∈ th_tb := kg (kt_3 (List.mem_of_getElem? (i := 15) rfl)) rfl
theorem kw_496 : (Jvm.Cond.constantLong "CarpetHalls$Reckoner" (77 : Nat) (-1000000000 : Int64)) ∈ th_tb := kg (kt_3 (List.mem_of_getElem? (i := 16) rfl)) rfl
theorem kw_497 : (Jvm.Cond.methodLink "CarpetHalls$Judge" (64 : Nat) ({ cls := "CarpetHalls$Reckoner", name := "reckonSums", desc := "(LCarpetHalls$Text;I)Z" } : Jvm.MethodName)) ∈ th_tb := kg (kt_3 (List.mem_of_getElem? (i := 17) rfl)) rfl
theorem kw_498 : (Jvm.Cond.instanceMethod ({ cls := "CarpetHalls$Reckoner", name := "reckonSums", desc := "(LCarpetHalls$Text;I)Z" } : Jvm.MethodName)) ∈ th_tb := kg (kt_3 (List.mem_of_getElem? (i := 18) rfl)) rfl
theorem kw_499 : (Jvm.Cond.selects "CarpetHalls$Reckoner" ({ cls := "CarpetHalls$Reckoner", name := "reckonSums", desc := "(LCarpetHalls$Text;I)Z" } : Jvm.MethodName) ({ cls := "CarpetHalls$Reckoner", name := "reckonSums", desc := "(LCarpetHalls$Text;I)Z" } : Jvm.MethodName)) ∈ th_tb := kg (kt_3 (List.mem_of_getElem? (i := 19) rfl)) rfl
theorem kw_500 : (Jvm.Cond.code ({ cls := "CarpetHalls$Reckoner", name := "reckonSums", desc := "(LCarpetHalls$Text;I)Z" } : Jvm.MethodName) prog_8_method_5_code (6 : Nat) (Option.some Jvm.ClassFile.FieldType.boolean)) ∈ th_tb := kg (kt_3 (List.mem_of_getElem? (i := 20) rfl)) rfl
theorem kw_501 : (Jvm.Cond.methodLink "CarpetHalls$Judge" (32 : Nat) ({ cls := "java/lang/Math", name := "min", desc := "(II)I" } : Jvm.MethodName)) ∈ th_tb := kg (kt_3 (List.mem_of_getElem? (i := 21) rfl)) rfl
theorem kw_502 : (Jvm.Cond.static ({ cls := "java/lang/Math", name := "min", desc := "(II)I" } : Jvm.MethodName)) ∈ th_tb := kg (kt_3 (List.mem_of_getElem? (i := 22) rfl)) rfl
theorem kw_503 : (Jvm.Cond.code ({ cls := "java/lang/Math", name := "min", desc := "(II)I" } : Jvm.MethodName) prog_16_method_69_code (2 : Nat) (Option.some Jvm.ClassFile.FieldType.int)) ∈ th_tb := kg (kt_3 (List.mem_of_getElem? (i := 23) rfl)) rfl
theorem kw_504 : (Jvm.Cond.methodLink "CarpetHalls$Judge" (38 : Nat) ({ cls := "java/lang/Math", name := "max", desc := "(II)I" } : Jvm.MethodName)) ∈ th_tb := kg (kt_3 (List.mem_of_getElem? (i := 24) rfl)) rfl
theorem kw_505 : (Jvm.Cond.static ({ cls := "java/lang/Math", name := "max", desc := "(II)I" } : Jvm.MethodName)) ∈ th_tb := kg (kt_3 (List.mem_of_getElem? (i := 25) rfl)) rfl
theorem kw_506 : (Jvm.Cond.code ({ cls := "java/lang/Math", name := "max", desc := "(II)I" } : Jvm.MethodName) prog_16_method_65_code (2 : Nat) (Option.some Jvm.ClassFile.FieldType.int)) ∈ th_tb := kg (kt_3 (List.mem_of_getElem? (i := 26) rfl)) rfl
theorem kw_507 : (Jvm.Cond.methodLink "CarpetHallsLaw" (23 : Nat) ({ cls := "CarpetHalls", name := "hall", desc := "(II)I" } : Jvm.MethodName)) ∈ th_tb := kg (kt_3 (List.mem_of_getElem? (i := 27) rfl)) rfl
theorem kw_508 : (Jvm.Cond.instanceMethod ({ cls := "CarpetHalls", name := "hall", desc := "(II)I" } : Jvm.MethodName)) ∈ th_tb := kg (kt_3 (List.mem_of_getElem? (i := 28) rfl)) rfl
theorem kw_509 : (Jvm.Cond.selects "CarpetHalls" ({ cls := "CarpetHalls", name := "hall", desc := "(II)I" } : Jvm.MethodName) ({ cls := "CarpetHalls", name := "hall", desc := "(II)I" } : Jvm.MethodName)) ∈ th_tb := kg (kt_3 (List.mem_of_getElem? (i := 29) rfl)) rfl
theorem kw_510 : (Jvm.Cond.code ({ cls := "CarpetHalls", name := "hall", desc := "(II)I" } : Jvm.MethodName) prog_1_method_4_code (3 : Nat) (Option.some Jvm.ClassFile.FieldType.int)) ∈ th_tb := kg (kt_3 (List.mem_of_getElem? (i := 30) rfl)) rfl
theorem kw_511 : (Jvm.Cond.methodLink "CarpetHalls" (151 : Nat) ({ cls := "CarpetHalls$Floor", name := "laidCarpets", desc := "()I" } : Jvm.MethodName)) ∈ th_tb := kg (kt_3 (List.mem_of_getElem? (i := 31) rfl)) rfl
theorem kw_512 : (Jvm.Cond.instanceMethod ({ cls := "CarpetHalls$Floor", name := "laidCarpets", desc := "()I" } : Jvm.MethodName)) ∈ th_tb := kg (kt_3 (List.mem_of_getElem? (i := 32) rfl)) rfl
theorem kw_513 : (Jvm.Cond.selects "CarpetHalls$Floor" ({ cls := "CarpetHalls$Floor", name := "laidCarpets", desc := "()I" } : Jvm.MethodName) ({ cls := "CarpetHalls$Floor", name := "laidCarpets", desc := "()I" } : Jvm.MethodName)) ∈ th_tb := kg (kt_3 (List.mem_of_getElem? (i := 33) rfl)) rfl
theorem kw_514 : (Jvm.Cond.code ({ cls := "CarpetHalls$Floor", name := "laidCarpets", desc := "()I" } : Jvm.MethodName) prog_3_method_7_code (3 : Nat) (Option.some Jvm.ClassFile.FieldType.int)) ∈ th_tb := kg (kt_3 (List.mem_of_getElem? (i := 34) rfl)) rfl
theorem kw_515 : (Jvm.Cond.methodLink "CarpetHalls$Floor" (56 : Nat) ({ cls := "CarpetHalls$Floor", name := "isLaid", desc := "(I)Z" } : Jvm.MethodName)) ∈ th_tb := kg (kt_3 (List.mem_of_getElem? (i := 35) rfl)) rfl
theorem kw_516 : (Jvm.Cond.methodLink "CarpetHallsLaw" (27 : Nat) ({ cls := "CarpetHalls", name := "at", desc := "(II)I" } : Jvm.MethodName)) ∈ th_tb := kg (kt_3 (List.mem_of_getElem? (i := 36) rfl)) rfl
theorem kw_517 : (Jvm.Cond.instanceMethod ({ cls := "CarpetHalls", name := "at", desc := "(II)I" } : Jvm.MethodName)) ∈ th_tb := kg (kt_3 (List.mem_of_getElem? (i := 37) rfl)) rfl
theorem kw_518 : (Jvm.Cond.selects "CarpetHalls" ({ cls := "CarpetHalls", name := "at", desc := "(II)I" } : Jvm.MethodName) ({ cls := "CarpetHalls", name := "at", desc := "(II)I" } : Jvm.MethodName)) ∈ th_tb := kg (kt_3 (List.mem_of_getElem? (i := 38) rfl)) rfl
theorem kw_519 : (Jvm.Cond.code ({ cls := "CarpetHalls", name := "at", desc := "(II)I" } : Jvm.MethodName) prog_1_method_5_code (3 : Nat) (Option.some Jvm.ClassFile.FieldType.int)) ∈ th_tb := kg (kt_3 (List.mem_of_getElem? (i := 39) rfl)) rfl
theorem kw_520 : (Jvm.Cond.methodLink "CarpetHalls" (161 : Nat) ({ cls := "CarpetHalls$Floor", name := "carpetOn", desc := "(II)I" } : Jvm.MethodName)) ∈ th_tb := kg (kt_3 (List.mem_of_getElem? (i := 40) rfl)) rfl
theorem kw_521 : (Jvm.Cond.instanceMethod ({ cls := "CarpetHalls$Floor", name := "carpetOn", desc := "(II)I" } : Jvm.MethodName)) ∈ th_tb := kg (kt_3 (List.mem_of_getElem? (i := 41) rfl)) rfl
theorem kw_522 : (Jvm.Cond.selects "CarpetHalls$Floor" ({ cls := "CarpetHalls$Floor", name := "carpetOn", desc := "(II)I" } : Jvm.MethodName) ({ cls := "CarpetHalls$Floor", name := "carpetOn", desc := "(II)I" } : Jvm.MethodName)) ∈ th_tb := kg (kt_3 (List.mem_of_getElem? (i := 42) rfl)) rfl
theorem kw_523 : (Jvm.Cond.code ({ cls := "CarpetHalls$Floor", name := "carpetOn", desc := "(II)I" } : Jvm.MethodName) prog_3_method_11_code (4 : Nat) (Option.some Jvm.ClassFile.FieldType.int)) ∈ th_tb := kg (kt_3 (List.mem_of_getElem? (i := 43) rfl)) rfl
theorem kw_524 : (Jvm.Cond.methodLink "CarpetHallsLaw" (31 : Nat) ({ cls := "CarpetHalls", name := "asks", desc := "(IIII)I" } : Jvm.MethodName)) ∈ th_tb := kg (kt_3 (List.mem_of_getElem? (i := 44) rfl)) rfl
theorem kw_525 : (Jvm.Cond.instanceMethod ({ cls := "CarpetHalls", name := "asks", desc := "(IIII)I" } : Jvm.MethodName)) ∈ th_tb := kg (kt_3 (List.mem_of_getElem? (i := 45) rfl)) rfl
theorem kw_526 : (Jvm.Cond.selects "CarpetHalls" ({ cls := "CarpetHalls", name := "asks", desc := "(IIII)I" } : Jvm.MethodName) ({ cls := "CarpetHalls", name := "asks", desc := "(IIII)I" } : Jvm.MethodName)) ∈ th_tb := kg (kt_3 (List.mem_of_getElem? (i := 46) rfl)) rfl
theorem kw_527 : (Jvm.Cond.code ({ cls := "CarpetHalls", name := "asks", desc := "(IIII)I" } : Jvm.MethodName) prog_1_method_6_code (6 : Nat) (Option.some Jvm.ClassFile.FieldType.int)) ∈ th_tb := kg (kt_3 (List.mem_of_getElem? (i := 47) rfl)) rfl
theorem kw_528 : (Jvm.Cond.methodLink "CarpetHalls" (165 : Nat) ({ cls := "CarpetHalls", name := "onGrid", desc := "(I)Z" } : Jvm.MethodName)) ∈ th_tb := kg (kt_3 (List.mem_of_getElem? (i := 48) rfl)) rfl
theorem kw_529 : (Jvm.Cond.static ({ cls := "CarpetHalls", name := "onGrid", desc := "(I)Z" } : Jvm.MethodName)) ∈ th_tb := kg (kt_3 (List.mem_of_getElem? (i := 49) rfl)) rfl
theorem kw_530 : (Jvm.Cond.code ({ cls := "CarpetHalls", name := "onGrid", desc := "(I)Z" } : Jvm.MethodName) prog_1_method_45_code (1 : Nat) (Option.some Jvm.ClassFile.FieldType.boolean)) ∈ th_tb := kg (kt_3 (List.mem_of_getElem? (i := 50) rfl)) rfl
theorem kw_531 : (Jvm.Cond.methodLink "CarpetHalls" (168 : Nat) ({ cls := "CarpetHalls$Judge", name := "costOf", desc := "(LCarpetHalls$Text;LCarpetHalls$Floor;III)I" } : Jvm.MethodName)) ∈ th_tb := kg (kt_3 (List.mem_of_getElem? (i := 51) rfl)) rfl
theorem kw_532 : (Jvm.Cond.instanceMethod ({ cls := "CarpetHalls$Judge", name := "costOf", desc := "(LCarpetHalls$Text;LCarpetHalls$Floor;III)I" } : Jvm.MethodName)) ∈ th_tb := kg (kt_3 (List.mem_of_getElem? (i := 52) rfl)) rfl
theorem kw_533 : (Jvm.Cond.selects "CarpetHalls$Judge" ({ cls := "CarpetHalls$Judge", name := "costOf", desc := "(LCarpetHalls$Text;LCarpetHalls$Floor;III)I" } : Jvm.MethodName) ({ cls := "CarpetHalls$Judge", name := "costOf", desc := "(LCarpetHalls$Text;LCarpetHalls$Floor;III)I" } : Jvm.MethodName)) ∈ th_tb := kg (kt_3 (List.mem_of_getElem? (i := 53) rfl)) rfl
theorem kw_534 : (Jvm.Cond.code ({ cls := "CarpetHalls$Judge", name := "costOf", desc := "(LCarpetHalls$Text;LCarpetHalls$Floor;III)I" } : Jvm.MethodName) prog_4_method_2_code (6 : Nat) (Option.some Jvm.ClassFile.FieldType.int)) ∈ th_tb := kg (kt_3 (List.mem_of_getElem? (i := 54) rfl)) rfl
theorem kw_535 : (Jvm.Cond.methodLink "CarpetHalls" (172 : Nat) ({ cls := "CarpetHalls$Judge", name := "isBarred", desc := "(LCarpetHalls$Text;LCarpetHalls$Floor;III)Z" } : Jvm.MethodName)) ∈ th_tb := kg (kt_3 (List.mem_of_getElem? (i := 55) rfl)) rfl
theorem kw_536 : (Jvm.Cond.instanceMethod ({ cls := "CarpetHalls$Judge", name := "isBarred", desc := "(LCarpetHalls$Text;LCarpetHalls$Floor;III)Z" } : Jvm.MethodName)) ∈ th_tb := kg (kt_3 (List.mem_of_getElem? (i := 56) rfl)) rfl
theorem kw_537 : (Jvm.Cond.selects "CarpetHalls$Judge" ({ cls := "CarpetHalls$Judge", name := "isBarred", desc := "(LCarpetHalls$Text;LCarpetHalls$Floor;III)Z" } : Jvm.MethodName) ({ cls := "CarpetHalls$Judge", name := "isBarred", desc := "(LCarpetHalls$Text;LCarpetHalls$Floor;III)Z" } : Jvm.MethodName)) ∈ th_tb := kg (kt_3 (List.mem_of_getElem? (i := 57) rfl)) rfl
theorem kw_538 : (Jvm.Cond.code ({ cls := "CarpetHalls$Judge", name := "isBarred", desc := "(LCarpetHalls$Text;LCarpetHalls$Floor;III)Z" } : Jvm.MethodName) prog_4_method_4_code (6 : Nat) (Option.some Jvm.ClassFile.FieldType.boolean)) ∈ th_tb := kg (kt_3 (List.mem_of_getElem? (i := 58) rfl)) rfl
theorem kw_539 : (Jvm.Cond.methodLink "CarpetHalls" (176 : Nat) ({ cls := "CarpetHalls", name := "canLie", desc := "(LCarpetHalls$Floor;III)Z" } : Jvm.MethodName)) ∈ th_tb := kg (kt_3 (List.mem_of_getElem? (i := 59) rfl)) rfl
theorem kw_541 : (Jvm.Cond.instanceMethod ({ cls := "CarpetHalls", name := "canLie", desc := "(LCarpetHalls$Floor;III)Z" } : Jvm.MethodName)) ∈ th_tb := kg (kt_3 (List.mem_of_getElem? (i := 61) rfl)) rfl
theorem kw_542 : (Jvm.Cond.code ({ cls := "CarpetHalls", name := "canLie", desc := "(LCarpetHalls$Floor;III)Z" } : Jvm.MethodName) prog_1_method_48_code (5 : Nat) (Option.some Jvm.ClassFile.FieldType.boolean)) ∈ th_tb := kg (kt_3 (List.mem_of_getElem? (i := 62) rfl)) rfl
theorem kw_543 : (Jvm.Cond.methodLink "CarpetHalls" (354 : Nat) ({ cls := "CarpetHalls$Floor", name := "hasPlaceFor", desc := "(III)Z" } : Jvm.MethodName)) ∈ th_tb := kg (kt_3 (List.mem_of_getElem? (i := 63) rfl)) rfl
theorem kw_544 : (Jvm.Cond.instanceMethod ({ cls := "CarpetHalls$Floor", name := "hasPlaceFor", desc := "(III)Z" } : Jvm.MethodName)) ∈ th_tb := kg (kt_3 (List.mem_of_getElem? (i := 64) rfl)) rfl
theorem kw_545 : (Jvm.Cond.selects "CarpetHalls$Floor" ({ cls := "CarpetHalls$Floor", name := "hasPlaceFor", desc := "(III)Z" } : Jvm.MethodName) ({ cls := "CarpetHalls$Floor", name := "hasPlaceFor", desc := "(III)Z" } : Jvm.MethodName)) ∈ th_tb := kg (kt_3 (List.mem_of_getElem? (i := 65) rfl)) rfl
theorem kw_546 : (Jvm.Cond.code ({ cls := "CarpetHalls$Floor", name := "hasPlaceFor", desc := "(III)Z" } : Jvm.MethodName) prog_3_method_12_code (5 : Nat) (Option.some Jvm.ClassFile.FieldType.boolean)) ∈ th_tb := kg (kt_3 (List.mem_of_getElem? (i := 66) rfl)) rfl
theorem kw_547 : (Jvm.Cond.methodLink "CarpetHalls$Floor" (59 : Nat) ({ cls := "CarpetHalls$Floor", name := "isReady", desc := "(I)Z" } : Jvm.MethodName)) ∈ th_tb := kg (kt_3 (List.mem_of_getElem? (i := 67) rfl)) rfl
theorem kw_548 : (Jvm.Cond.instanceMethod ({ cls := "CarpetHalls$Floor", name := "isReady", desc := "(I)Z" } : Jvm.MethodName)) ∈ th_tb := kg (kt_3 (List.mem_of_getElem? (i := 68) rfl)) rfl
theorem kw_549 : (Jvm.Cond.selects "CarpetHalls$Floor" ({ cls := "CarpetHalls$Floor", name := "isReady", desc := "(I)Z" } : Jvm.MethodName) ({ cls := "CarpetHalls$Floor", name := "isReady", desc := "(I)Z" } : Jvm.MethodName)) ∈ th_tb := kg (kt_3 (List.mem_of_getElem? (i := 69) rfl)) rfl
theorem kw_550 : (Jvm.Cond.code ({ cls := "CarpetHalls$Floor", name := "isReady", desc := "(I)Z" } : Jvm.MethodName) prog_3_method_6_code (2 : Nat) (Option.some Jvm.ClassFile.FieldType.boolean)) ∈ th_tb := kg (kt_3 (List.mem_of_getElem? (i := 70) rfl)) rfl
theorem kw_551 : (Jvm.Cond.methodLink "CarpetHallsLaw" (36 : Nat) ({ cls := "CarpetHalls", name := "terms", desc := "(II)I" } : Jvm.MethodName)) ∈ th_tb := kg (kt_3 (List.mem_of_getElem? (i := 71) rfl)) rfl
theorem kw_552 : (Jvm.Cond.instanceMethod ({ cls := "CarpetHalls", name := "terms", desc := "(II)I" } : Jvm.MethodName)) ∈ th_tb := kg (kt_3 (List.mem_of_getElem? (i := 72) rfl)) rfl
theorem kw_553 : (Jvm.Cond.selects "CarpetHalls" ({ cls := "CarpetHalls", name := "terms", desc := "(II)I" } : Jvm.MethodName) ({ cls := "CarpetHalls", name := "terms", desc := "(II)I" } : Jvm.MethodName)) ∈ th_tb := kg (kt_3 (List.mem_of_getElem? (i := 73) rfl)) rfl
theorem kw_554 : (Jvm.Cond.code ({ cls := "CarpetHalls", name := "terms", desc := "(II)I" } : Jvm.MethodName) prog_1_method_7_code (4 : Nat) (Option.some Jvm.ClassFile.FieldType.int)) ∈ th_tb := kg (kt_3 (List.mem_of_getElem? (i := 74) rfl)) rfl
theorem kw_555 : (Jvm.Cond.methodLink "CarpetHalls" (180 : Nat) ({ cls := "CarpetHalls", name := "mostOfTerm", desc := "(I)I" } : Jvm.MethodName)) ∈ th_tb := kg (kt_3 (List.mem_of_getElem? (i := 75) rfl)) rfl
theorem kw_556 : (Jvm.Cond.static ({ cls := "CarpetHalls", name := "mostOfTerm", desc := "(I)I" } : Jvm.MethodName)) ∈ th_tb := kg (kt_3 (List.mem_of_getElem? (i := 76) rfl)) rfl
theorem kw_557 : (Jvm.Cond.code ({ cls := "CarpetHalls", name := "mostOfTerm", desc := "(I)I" } : Jvm.MethodName) prog_1_method_46_code (1 : Nat) (Option.some Jvm.ClassFile.FieldType.int)) ∈ th_tb := kg (kt_3 (List.mem_of_getElem? (i := 77) rfl)) rfl
theorem kw_558 : (Jvm.Cond.methodLink "CarpetHallsLaw" (40 : Nat) ({ cls := "CarpetHalls", name := "feed", desc := "(IIIII)I" } : Jvm.MethodName)) ∈ th_tb := kg (kt_3 (List.mem_of_getElem? (i := 78) rfl)) rfl
theorem kw_559 : (Jvm.Cond.instanceMethod ({ cls := "CarpetHalls", name := "feed", desc := "(IIIII)I" } : Jvm.MethodName)) ∈ th_tb := kg (kt_3 (List.mem_of_getElem? (i := 79) rfl)) rfl
theorem kw_560 : (Jvm.Cond.selects "CarpetHalls" ({ cls := "CarpetHalls", name := "feed", desc := "(IIIII)I" } : Jvm.MethodName) ({ cls := "CarpetHalls", name := "feed", desc := "(IIIII)I" } : Jvm.MethodName)) ∈ th_tb := kg (kt_3 (List.mem_of_getElem? (i := 80) rfl)) rfl
theorem kw_561 : (Jvm.Cond.code ({ cls := "CarpetHalls", name := "feed", desc := "(IIIII)I" } : Jvm.MethodName) prog_1_method_8_code (6 : Nat) (Option.some Jvm.ClassFile.FieldType.int)) ∈ th_tb := kg (kt_3 (List.mem_of_getElem? (i := 81) rfl)) rfl
theorem kw_562 : (Jvm.Cond.methodLink "CarpetHalls" (189 : Nat) ({ cls := "CarpetHalls$Tape", name := "addFour", desc := "(I)V" } : Jvm.MethodName)) ∈ th_tb := kg (kt_3 (List.mem_of_getElem? (i := 82) rfl)) rfl
theorem kw_563 : (Jvm.Cond.instanceMethod ({ cls := "CarpetHalls$Tape", name := "addFour", desc := "(I)V" } : Jvm.MethodName)) ∈ th_tb := kg (kt_3 (List.mem_of_getElem? (i := 83) rfl)) rfl
theorem kw_564 : (Jvm.Cond.selects "CarpetHalls$Tape" ({ cls := "CarpetHalls$Tape", name := "addFour", desc := "(I)V" } : Jvm.MethodName) ({ cls := "CarpetHalls$Tape", name := "addFour", desc := "(I)V" } : Jvm.MethodName)) ∈ th_tb := kg (kt_3 (List.mem_of_getElem? (i := 84) rfl)) rfl
theorem kw_565 : (Jvm.Cond.code ({ cls := "CarpetHalls$Tape", name := "addFour", desc := "(I)V" } : Jvm.MethodName) prog_11_method_2_code (3 : Nat) (Option.none : Option Jvm.ClassFile.FieldType)) ∈ th_tb := kg (kt_3 (List.mem_of_getElem? (i := 85) rfl)) rfl
theorem kw_566 : (Jvm.Cond.methodLink "CarpetHallsLaw" (45 : Nat) ({ cls := "CarpetHalls", name := "end", desc := "(I)I" } : Jvm.MethodName)) ∈ th_tb := kg (kt_3 (List.mem_of_getElem? (i := 86) rfl)) rfl
theorem kw_567 : (Jvm.Cond.instanceMethod ({ cls := "CarpetHalls", name := "end", desc := "(I)I" } : Jvm.MethodName)) ∈ th_tb := kg (kt_3 (List.mem_of_getElem? (i := 87) rfl)) rfl
theorem kw_568 : (Jvm.Cond.selects "CarpetHalls" ({ cls := "CarpetHalls", name := "end", desc := "(I)I" } : Jvm.MethodName) ({ cls := "CarpetHalls", name := "end", desc := "(I)I" } : Jvm.MethodName)) ∈ th_tb := kg (kt_3 (List.mem_of_getElem? (i := 88) rfl)) rfl
theorem kw_569 : (Jvm.Cond.code ({ cls := "CarpetHalls", name := "end", desc := "(I)I" } : Jvm.MethodName) prog_1_method_9_code (2 : Nat) (Option.some Jvm.ClassFile.FieldType.int)) ∈ th_tb := kg (kt_3 (List.mem_of_getElem? (i := 89) rfl)) rfl
theorem kw_570 : (Jvm.Cond.methodLink "CarpetHallsLaw" (50 : Nat) ({ cls := "CarpetHalls", name := "row", desc := "()I" } : Jvm.MethodName)) ∈ th_tb := kg (kt_3 (List.mem_of_getElem? (i := 90) rfl)) rfl
theorem kw_571 : (Jvm.Cond.instanceMethod ({ cls := "CarpetHalls", name := "row", desc := "()I" } : Jvm.MethodName)) ∈ th_tb := kg (kt_3 (List.mem_of_getElem? (i := 91) rfl)) rfl
theorem kw_572 : (Jvm.Cond.selects "CarpetHalls" ({ cls := "CarpetHalls", name := "row", desc := "()I" } : Jvm.MethodName) ({ cls := "CarpetHalls", name := "row", desc := "()I" } : Jvm.MethodName)) ∈ th_tb := kg (kt_3 (List.mem_of_getElem? (i := 92) rfl)) rfl
theorem kw_573 : (Jvm.Cond.code ({ cls := "CarpetHalls", name := "row", desc := "()I" } : Jvm.MethodName) prog_1_method_10_code (4 : Nat) (Option.some Jvm.ClassFile.FieldType.int)) ∈ th_tb := kg (kt_3 (List.mem_of_getElem? (i := 93) rfl)) rfl
theorem kw_574 : (Jvm.Cond.methodLink "CarpetHallsLaw" (55 : Nat) ({ cls := "CarpetHalls", name := "fluff", desc := "()I" } : Jvm.MethodName)) ∈ th_tb := kg (kt_3 (List.mem_of_getElem? (i := 94) rfl)) rfl
theorem kw_575 : (Jvm.Cond.instanceMethod ({ cls := "CarpetHalls", name := "fluff", desc := "()I" } : Jvm.MethodName)) ∈ th_tb := kg (kt_3 (List.mem_of_getElem? (i := 95) rfl)) rfl
theorem kw_576 : (Jvm.Cond.selects "CarpetHalls" ({ cls := "CarpetHalls", name := "fluff", desc := "()I" } : Jvm.MethodName) ({ cls := "CarpetHalls", name := "fluff", desc := "()I" } : Jvm.MethodName)) ∈ th_tb := kg (kt_3 (List.mem_of_getElem? (i := 96) rfl)) rfl
theorem kw_577 : (Jvm.Cond.code ({ cls := "CarpetHalls", name := "fluff", desc := "()I" } : Jvm.MethodName) prog_1_method_11_code (1 : Nat) (Option.some Jvm.ClassFile.FieldType.int)) ∈ th_tb := kg (kt_3 (List.mem_of_getElem? (i := 97) rfl)) rfl
theorem kw_578 : (Jvm.Cond.methodLink "CarpetHallsLaw" (59 : Nat) ({ cls := "CarpetHalls", name := "law", desc := "()I" } : Jvm.MethodName)) ∈ th_tb := kg (kt_3 (List.mem_of_getElem? (i := 98) rfl)) rfl
theorem kw_579 : (Jvm.Cond.instanceMethod ({ cls := "CarpetHalls", name := "law", desc := "()I" } : Jvm.MethodName)) ∈ th_tb := kg (kt_3 (List.mem_of_getElem? (i := 99) rfl)) rfl
theorem kw_580 : (Jvm.Cond.selects "CarpetHalls" ({ cls := "CarpetHalls", name := "law", desc := "()I" } : Jvm.MethodName) ({ cls := "CarpetHalls", name := "law", desc := "()I" } : Jvm.MethodName)) ∈ th_tb := kg (kt_3 (List.mem_of_getElem? (i := 100) rfl)) rfl
theorem kw_581 : (Jvm.Cond.code ({ cls := "CarpetHalls", name := "law", desc := "()I" } : Jvm.MethodName) prog_1_method_12_code (1 : Nat) (Option.some Jvm.ClassFile.FieldType.int)) ∈ th_tb := kg (kt_3 (List.mem_of_getElem? (i := 101) rfl)) rfl
theorem kw_582 : (Jvm.Cond.methodLink "CarpetHalls" (203 : Nat) ({ cls := "CarpetHalls$Reader", name := "read", desc := "(LCarpetHalls$Tape;LCarpetHalls$Text;Z)I" } : Jvm.MethodName)) ∈ th_tb := kg (kt_3 (List.mem_of_getElem? (i := 102) rfl)) rfl
theorem kw_583 : (Jvm.Cond.instanceMethod ({ cls := "CarpetHalls$Reader", name := "read", desc := "(LCarpetHalls$Tape;LCarpetHalls$Text;Z)I" } : Jvm.MethodName)) ∈ th_tb := kg (kt_3 (List.mem_of_getElem? (i := 103) rfl)) rfl
theorem kw_584 : (Jvm.Cond.selects "CarpetHalls$Reader" ({ cls := "CarpetHalls$Reader", name := "read", desc := "(LCarpetHalls$Tape;LCarpetHalls$Text;Z)I" } : Jvm.MethodName) ({ cls := "CarpetHalls$Reader", name := "read", desc := "(LCarpetHalls$Tape;LCarpetHalls$Text;Z)I" } : Jvm.MethodName)) ∈ th_tb := kg (kt_3 (List.mem_of_getElem? (i := 104) rfl)) rfl
theorem kw_585 : (Jvm.Cond.code ({ cls := "CarpetHalls$Reader", name := "read", desc := "(LCarpetHalls$Tape;LCarpetHalls$Text;Z)I" } : Jvm.MethodName) prog_7_method_2_code (5 : Nat) (Option.some Jvm.ClassFile.FieldType.int)) ∈ th_tb := kg (kt_3 (List.mem_of_getElem? (i := 105) rfl)) rfl
theorem kw_586 : (Jvm.Cond.methodLink "CarpetHalls$Reader" (43 : Nat) ({ cls := "CarpetHalls$Text", name := "clear", desc := "()V" } : Jvm.MethodName)) ∈ th_tb := kg (kt_3 (List.mem_of_getElem? (i := 106) rfl)) rfl
theorem kw_587 : (Jvm.Cond.instanceMethod ({ cls := "CarpetHalls$Text", name := "clear", desc := "()V" } : Jvm.MethodName)) ∈ th_tb := kg (kt_3 (List.mem_of_getElem? (i := 107) rfl)) rfl
theorem kw_588 : (Jvm.Cond.selects "CarpetHalls$Text" ({ cls := "CarpetHalls$Text", name := "clear", desc := "()V" } : Jvm.MethodName) ({ cls := "CarpetHalls$Text", name := "clear", desc := "()V" } : Jvm.MethodName)) ∈ th_tb := kg (kt_3 (List.mem_of_getElem? (i := 108) rfl)) rfl
theorem kw_589 : (Jvm.Cond.code ({ cls := "CarpetHalls$Text", name := "clear", desc := "()V" } : Jvm.MethodName) prog_12_method_2_code (1 : Nat) (Option.none : Option Jvm.ClassFile.FieldType)) ∈ th_tb := kg (kt_3 (List.mem_of_getElem? (i := 109) rfl)) rfl
theorem kw_590 : (Jvm.Cond.methodLink "CarpetHalls$Reader" (48 : Nat) ({ cls := "CarpetHalls$Reader", name := "scan", desc := "()V" } : Jvm.MethodName)) ∈ th_tb := kg (kt_3 (List.mem_of_getElem? (i := 110) rfl)) rfl
theorem kw_592 : (Jvm.Cond.instanceMethod ({ cls := "CarpetHalls$Reader", name := "scan", desc := "()V" } : Jvm.MethodName)) ∈ th_tb := kg (kt_3 (List.mem_of_getElem? (i := 112) rfl)) rfl
theorem kw_593 : (Jvm.Cond.code ({ cls := "CarpetHalls$Reader", name := "scan", desc := "()V" } : Jvm.MethodName) prog_7_method_3_code (6 : Nat) (Option.none : Option Jvm.ClassFile.FieldType)) ∈ th_tb := kg (kt_3 (List.mem_of_getElem? (i := 113) rfl)) rfl
theorem kw_594 : (Jvm.Cond.methodLink "CarpetHalls$Reader" (69 : Nat) ({ cls := "CarpetHalls$Reader", name := "isLetter", desc := "(I)Z" } : Jvm.MethodName)) ∈ th_tb := kg (kt_3 (List.mem_of_getElem? (i := 114) rfl)) rfl
theorem kw_595 : (Jvm.Cond.static ({ cls := "CarpetHalls$Reader", name := "isLetter", desc := "(I)Z" } : Jvm.MethodName)) ∈ th_tb := kg (kt_3 (List.mem_of_getElem? (i := 115) rfl)) rfl
theorem kw_596 : (Jvm.Cond.code ({ cls := "CarpetHalls$Reader", name := "isLetter", desc := "(I)Z" } : Jvm.MethodName) prog_7_method_4_code (1 : Nat) (Option.some Jvm.ClassFile.FieldType.boolean)) ∈ th_tb := kg (kt_3 (List.mem_of_getElem? (i := 116) rfl)) rfl
theorem kw_597 : (Jvm.Cond.methodLink "CarpetHalls$Reader" (72 : Nat) ({ cls := "CarpetHalls$Reader", name := "endOfLetters", desc := "(I)I" } : Jvm.MethodName)) ∈ th_tb := kg (kt_3 (List.mem_of_getElem? (i := 117) rfl)) rfl
theorem kw_599 : (Jvm.Cond.instanceMethod ({ cls := "CarpetHalls$Reader", name := "endOfLetters", desc := "(I)I" } : Jvm.MethodName)) ∈ th_tb := kg (kt_3 (List.mem_of_getElem? (i := 119) rfl)) rfl
theorem kw_600 : (Jvm.Cond.code ({ cls := "CarpetHalls$Reader", name := "endOfLetters", desc := "(I)I" } : Jvm.MethodName) prog_7_method_6_code (3 : Nat) (Option.some Jvm.ClassFile.FieldType.int)) ∈ th_tb := kg (kt_3 (List.mem_of_getElem? (i := 120) rfl)) rfl
theorem kw_601 : (Jvm.Cond.methodLink "CarpetHalls$Reader" (76 : Nat) ({ cls := "CarpetHalls$Reader", name := "wordFrom", desc := "(II)I" } : Jvm.MethodName)) ∈ th_tb := kg (kt_3 (List.mem_of_getElem? (i := 121) rfl)) rfl
theorem kw_603 : (Jvm.Cond.instanceMethod ({ cls := "CarpetHalls$Reader", name := "wordFrom", desc := "(II)I" } : Jvm.MethodName)) ∈ th_tb := kg (kt_3 (List.mem_of_getElem? (i := 123) rfl)) rfl
theorem kw_604 : (Jvm.Cond.code ({ cls := "CarpetHalls$Reader", name := "wordFrom", desc := "(II)I" } : Jvm.MethodName) prog_7_method_9_code (3 : Nat) (Option.some Jvm.ClassFile.FieldType.int)) ∈ th_tb := kg (kt_3 (List.mem_of_getElem? (i := 124) rfl)) rfl
theorem kw_605 : (Jvm.Cond.stringRef "CarpetHalls$Reader" (94 : Nat) "costs") ∈ lw_tbl := kt_3 (List.mem_of_getElem? (i := 125) rfl)
theorem kw_606 : (Jvm.Cond.methodLink "CarpetHalls$Reader" (96 : Nat) ({ cls := "CarpetHalls$Reader", name := "is", desc := "(Ljava/lang/String;II)Z" } : Jvm.MethodName)) ∈ th_tb := kg (kt_3 (List.mem_of_getElem? (i := 126) rfl)) rfl
theorem kw_608 : (Jvm.Cond.instanceMethod ({ cls := "CarpetHalls$Reader", name := "is", desc := "(Ljava/lang/String;II)Z" } : Jvm.MethodName)) ∈ th_tb := kg (kt_3 (List.mem_of_getElem? (i := 128) rfl)) rfl
theorem kw_609 : (Jvm.Cond.code ({ cls := "CarpetHalls$Reader", name := "is", desc := "(Ljava/lang/String;II)Z" } : Jvm.MethodName) prog_7_method_10_code (5 : Nat) (Option.some Jvm.ClassFile.FieldType.boolean)) ∈ th_tb := kg (kt_3 (List.mem_of_getElem? (i := 129) rfl)) rfl
theorem kw_610 : (Jvm.Cond.methodLink "CarpetHalls$Reader" (151 : Nat) ({ cls := "java/lang/String", name := "length", desc := "()I" } : Jvm.MethodName)) ∈ th_tb := kg (kt_3 (List.mem_of_getElem? (i := 130) rfl)) rfl
theorem kw_611 : (Jvm.Cond.instanceMethod ({ cls := "java/lang/String", name := "length", desc := "()I" } : Jvm.MethodName)) ∈ th_tb := kg (kt_3 (List.mem_of_getElem? (i := 131) rfl)) rfl
theorem kw_612 : (Jvm.Cond.selects "java/lang/String" ({ cls := "java/lang/String", name := "length", desc := "()I" } : Jvm.MethodName) ({ cls := "java/lang/String", name := "length", desc := "()I" } : Jvm.MethodName)) ∈ th_tb := kg (kt_3 (List.mem_of_getElem? (i := 132) rfl)) rfl
theorem kw_613 : (Jvm.Cond.code ({ cls := "java/lang/String", name := "length", desc := "()I" } : Jvm.MethodName) prog_17_method_54_code (1 : Nat) (Option.some Jvm.ClassFile.FieldType.int)) ∈ th_tb := kg (kt_3 (List.mem_of_getElem? (i := 133) rfl)) rfl
theorem kw_614 : (Jvm.Cond.methodLink "java/lang/String" (335 : Nat) ({ cls := "java/lang/String", name := "coder", desc := "()B" } : Jvm.MethodName)) ∈ th_tb := kg (kt_3 (List.mem_of_getElem? (i := 134) rfl)) rfl
theorem kw_615 : (Jvm.Cond.instanceMethod ({ cls := "java/lang/String", name := "coder", desc := "()B" } : Jvm.MethodName)) ∈ th_tb := kg (kt_3 (List.mem_of_getElem? (i := 135) rfl)) rfl
theorem kw_616 : (Jvm.Cond.selects "java/lang/String" ({ cls := "java/lang/String", name := "coder", desc := "()B" } : Jvm.MethodName) ({ cls := "java/lang/String", name := "coder", desc := "()B" } : Jvm.MethodName)) ∈ th_tb := kg (kt_3 (List.mem_of_getElem? (i := 136) rfl)) rfl
theorem kw_617 : (Jvm.Cond.code ({ cls := "java/lang/String", name := "coder", desc := "()B" } : Jvm.MethodName) prog_17_method_152_code (1 : Nat) (Option.some Jvm.ClassFile.FieldType.byte)) ∈ th_tb := kg (kt_3 (List.mem_of_getElem? (i := 137) rfl)) rfl
theorem kw_618 : (Jvm.Cond.fieldLink "java/lang/String" (38 : Nat) "java/lang/String" "COMPACT_STRINGS" "Z") ∈ th_tb := kg (kt_3 (List.mem_of_getElem? (i := 138) rfl)) rfl
theorem kw_619 : (Jvm.Cond.laysStatic "java/lang/String" "COMPACT_STRINGS" "Z") ∈ lw_tbl := kt_3 (List.mem_of_getElem? (i := 139) rfl)
theorem kw_620 : (Jvm.Cond.methodLink "CarpetHalls$Reader" (156 : Nat) ({ cls := "java/lang/String", name := "charAt", desc := "(I)C" } : Jvm.MethodName)) ∈ th_tb := kg (kt_3 (List.mem_of_getElem? (i := 140) rfl)) rfl
theorem kw_621 : (Jvm.Cond.instanceMethod ({ cls := "java/lang/String", name := "charAt", desc := "(I)C" } : Jvm.MethodName)) ∈ th_tb := kg (kt_3 (List.mem_of_getElem? (i := 141) rfl)) rfl
theorem kw_622 : (Jvm.Cond.selects "java/lang/String" ({ cls := "java/lang/String", name := "charAt", desc := "(I)C" } : Jvm.MethodName) ({ cls := "java/lang/String", name := "charAt", desc := "(I)C" } : Jvm.MethodName)) ∈ th_tb := kg (kt_3 (List.mem_of_getElem? (i := 142) rfl)) rfl
theorem kw_623 : (Jvm.Cond.code ({ cls := "java/lang/String", name := "charAt", desc := "(I)C" } : Jvm.MethodName) prog_17_method_56_code (2 : Nat) (Option.some Jvm.ClassFile.FieldType.char)) ∈ th_tb := kg (kt_3 (List.mem_of_getElem? (i := 143) rfl)) rfl
theorem kw_624 : (Jvm.Cond.methodLink "java/lang/String" (492 : Nat) ({ cls := "java/lang/String", name := "isLatin1", desc := "()Z" } : Jvm.MethodName)) ∈ th_tb := kg (kt_3 (List.mem_of_getElem? (i := 144) rfl)) rfl
theorem kw_625 : (Jvm.Cond.instanceMethod ({ cls := "java/lang/String", name := "isLatin1", desc := "()Z" } : Jvm.MethodName)) ∈ th_tb := kg (kt_3 (List.mem_of_getElem? (i := 145) rfl)) rfl
theorem kw_626 : (Jvm.Cond.selects "java/lang/String" ({ cls := "java/lang/String", name := "isLatin1", desc := "()Z" } : Jvm.MethodName) ({ cls := "java/lang/String", name := "isLatin1", desc := "()Z" } : Jvm.MethodName)) ∈ th_tb := kg (kt_3 (List.mem_of_getElem? (i := 146) rfl)) rfl
theorem kw_627 : (Jvm.Cond.code ({ cls := "java/lang/String", name := "isLatin1", desc := "()Z" } : Jvm.MethodName) prog_17_method_154_code (1 : Nat) (Option.some Jvm.ClassFile.FieldType.boolean)) ∈ th_tb := kg (kt_3 (List.mem_of_getElem? (i := 147) rfl)) rfl
theorem kw_628 : (Jvm.Cond.methodLink "java/lang/String" (495 : Nat) ({ cls := "java/lang/StringLatin1", name := "charAt", desc := "([BI)C" } : Jvm.MethodName)) ∈ th_tb := kg (kt_3 (List.mem_of_getElem? (i := 148) rfl)) rfl
theorem kw_629 : (Jvm.Cond.static ({ cls := "java/lang/StringLatin1", name := "charAt", desc := "([BI)C" } : Jvm.MethodName)) ∈ th_tb := kg (kt_3 (List.mem_of_getElem? (i := 149) rfl)) rfl
theorem kw_630 : (Jvm.Cond.code ({ cls := "java/lang/StringLatin1", name := "charAt", desc := "([BI)C" } : Jvm.MethodName) prog_18_method_2_code (2 : Nat) (Option.some Jvm.ClassFile.FieldType.char)) ∈ th_tb := kg (kt_3 (List.mem_of_getElem? (i := 150) rfl)) rfl
theorem kw_631 : (Jvm.Cond.methodLink "java/lang/StringLatin1" (9 : Nat) ({ cls := "java/lang/String", name := "checkIndex", desc := "(II)V" } : Jvm.MethodName)) ∈ th_tb := kg (kt_3 (List.mem_of_getElem? (i := 151) rfl)) rfl
theorem kw_632 : (Jvm.Cond.static ({ cls := "java/lang/String", name := "checkIndex", desc := "(II)V" } : Jvm.MethodName)) ∈ th_tb := kg (kt_3 (List.mem_of_getElem? (i := 152) rfl)) rfl
theorem kw_633 : (Jvm.Cond.code ({ cls := "java/lang/String", name := "checkIndex", desc := "(II)V" } : Jvm.MethodName) prog_17_method_155_code (2 : Nat) (Option.none : Option Jvm.ClassFile.FieldType)) ∈ th_tb := kg (kt_3 (List.mem_of_getElem? (i := 153) rfl)) rfl
theorem kw_634 : (Jvm.Cond.fieldLink "java/lang/String" (1053 : Nat) "jdk/internal/util/Preconditions" "SIOOBE_FORMATTER" "Ljava/util/function/BiFunction;") ∈ th_tb := kg (kt_3 (List.mem_of_getElem? (i := 154) rfl)) rfl
theorem kw_635 : (Jvm.Cond.laysStatic "jdk/internal/util/Preconditions" "SIOOBE_FORMATTER" "Ljava/util/function/BiFunction;") ∈ lw_tbl := kt_3 (List.mem_of_getElem? (i := 155) rfl)
theorem kw_636 : (Jvm.Cond.methodLink "java/lang/String" (1059 : Nat) ({ cls := "jdk/internal/util/Preconditions", name := "checkIndex", desc := "(IILjava/util/function/BiFunction;)I" } : Jvm.MethodName)) ∈ th_tb := kg (kt_3 (List.mem_of_getElem? (i := 156) rfl)) rfl
theorem kw_637 : (Jvm.Cond.static ({ cls := "jdk/internal/util/Preconditions", name := "checkIndex", desc := "(IILjava/util/function/BiFunction;)I" } : Jvm.MethodName)) ∈ th_tb := kg (kt_3 (List.mem_of_getElem? (i := 157) rfl)) rfl
theorem kw_638 : (Jvm.Cond.code ({ cls := "jdk/internal/util/Preconditions", name := "checkIndex", desc := "(IILjava/util/function/BiFunction;)I" } : Jvm.MethodName) prog_22_method_11_code (3 : Nat) (Option.some Jvm.ClassFile.FieldType.int)) ∈ th_tb := kg (kt_3 (List.mem_of_getElem? (i := 158) rfl)) rfl
theorem kw_639 : (Jvm.Cond.methodLink "java/lang/String" (498 : Nat) ({ cls := "java/lang/StringUTF16", name := "charAt", desc := "([BI)C" } : Jvm.MethodName)) ∈ th_tb := kg (kt_3 (List.mem_of_getElem? (i := 159) rfl)) rfl
theorem kw_640 : (Jvm.Cond.static ({ cls := "java/lang/StringUTF16", name := "charAt", desc := "([BI)C" } : Jvm.MethodName)) ∈ th_tb := kg (kt_3 (List.mem_of_getElem? (i := 160) rfl)) rfl
theorem kw_641 : (Jvm.Cond.code ({ cls := "java/lang/StringUTF16", name := "charAt", desc := "([BI)C" } : Jvm.MethodName) prog_19_method_83_code (2 : Nat) (Option.some Jvm.ClassFile.FieldType.char)) ∈ th_tb := kg (kt_3 (List.mem_of_getElem? (i := 161) rfl)) rfl
theorem kw_642 : (Jvm.Cond.methodLink "java/lang/StringUTF16" (67 : Nat) ({ cls := "java/lang/StringUTF16", name := "checkIndex", desc := "(I[B)V" } : Jvm.MethodName)) ∈ th_tb := kg (kt_3 (List.mem_of_getElem? (i := 162) rfl)) rfl
theorem kw_643 : (Jvm.Cond.static ({ cls := "java/lang/StringUTF16", name := "checkIndex", desc := "(I[B)V" } : Jvm.MethodName)) ∈ th_tb := kg (kt_3 (List.mem_of_getElem? (i := 163) rfl)) rfl
theorem kw_644 : (Jvm.Cond.code ({ cls := "java/lang/StringUTF16", name := "checkIndex", desc := "(I[B)V" } : Jvm.MethodName) prog_19_method_91_code (2 : Nat) (Option.none : Option Jvm.ClassFile.FieldType)) ∈ th_tb := kg (kt_3 (List.mem_of_getElem? (i := 164) rfl)) rfl
theorem kw_645 : (Jvm.Cond.methodLink "java/lang/StringUTF16" (48 : Nat) ({ cls := "java/lang/StringUTF16", name := "length", desc := "([B)I" } : Jvm.MethodName)) ∈ th_tb := kg (kt_3 (List.mem_of_getElem? (i := 165) rfl)) rfl
theorem kw_646 : (Jvm.Cond.static ({ cls := "java/lang/StringUTF16", name := "length", desc := "([B)I" } : Jvm.MethodName)) ∈ th_tb := kg (kt_3 (List.mem_of_getElem? (i := 166) rfl)) rfl
theorem kw_647 : (Jvm.Cond.code ({ cls := "java/lang/StringUTF16", name := "length", desc := "([B)I" } : Jvm.MethodName) prog_19_method_6_code (1 : Nat) (Option.some Jvm.ClassFile.FieldType.int)) ∈ th_tb := kg (kt_3 (List.mem_of_getElem? (i := 167) rfl)) rfl
theorem kw_648 : (Jvm.Cond.methodLink "java/lang/StringUTF16" (414 : Nat) ({ cls := "java/lang/String", name := "checkIndex", desc := "(II)V" } : Jvm.MethodName)) ∈ th_tb := kg (kt_3 (List.mem_of_getElem? (i := 168) rfl)) rfl
theorem kw_649 : (Jvm.Cond.methodLink "java/lang/StringUTF16" (71 : Nat) ({ cls := "java/lang/StringUTF16", name := "getChar", desc := "([BI)C" } : Jvm.MethodName)) ∈ th_tb := kg (kt_3 (List.mem_of_getElem? (i := 169) rfl)) rfl
theorem kw_650 : (Jvm.Cond.static ({ cls := "java/lang/StringUTF16", name := "getChar", desc := "([BI)C" } : Jvm.MethodName)) ∈ th_tb := kg (kt_3 (List.mem_of_getElem? (i := 170) rfl)) rfl
theorem kw_651 : (Jvm.Cond.code ({ cls := "java/lang/StringUTF16", name := "getChar", desc := "([BI)C" } : Jvm.MethodName) prog_19_method_5_code (2 : Nat) (Option.some Jvm.ClassFile.FieldType.char)) ∈ th_tb := kg (kt_3 (List.mem_of_getElem? (i := 171) rfl)) rfl
theorem kw_652 : (Jvm.Cond.fieldLink "java/lang/StringUTF16" (44 : Nat) "java/lang/StringUTF16" "$assertionsDisabled" "Z") ∈ th_tb := kg (kt_3 (List.mem_of_getElem? (i := 172) rfl)) rfl
theorem kw_653 : (Jvm.Cond.laysStatic "java/lang/StringUTF16" "$assertionsDisabled" "Z") ∈ lw_tbl := kt_3 (List.mem_of_getElem? (i := 173) rfl)
theorem kw_654 : (Jvm.Cond.fieldLink "java/lang/StringUTF16" (59 : Nat) "java/lang/StringUTF16" "HI_BYTE_SHIFT" "I") ∈ th_tb := kg (kt_3 (List.mem_of_getElem? (i := 174) rfl)) rfl
theorem kw_655 : (Jvm.Cond.laysStatic "java/lang/StringUTF16" "HI_BYTE_SHIFT" "I") ∈ lw_tbl := kt_3 (List.mem_of_getElem? (i := 175) rfl)
theorem kw_656 : (Jvm.Cond.fieldLink "java/lang/StringUTF16" (63 : Nat) "java/lang/StringUTF16" "LO_BYTE_SHIFT" "I") ∈ th_tb := kg (kt_3 (List.mem_of_getElem? (i := 176) rfl)) rfl
theorem kw_657 : (Jvm.Cond.laysStatic "java/lang/StringUTF16" "LO_BYTE_SHIFT" "I") ∈ lw_tbl := kt_3 (List.mem_of_getElem? (i := 177) rfl)
theorem kw_658 : (Jvm.Cond.stringRef "CarpetHalls$Reader" (100 : Nat) "wears") ∈ lw_tbl := kt_3 (List.mem_of_getElem? (i := 178) rfl)
theorem kw_659 : (Jvm.Cond.stringRef "CarpetHalls$Reader" (102 : Nat) "bars") ∈ lw_tbl := kt_3 (List.mem_of_getElem? (i := 179) rfl)
theorem kw_660 : (Jvm.Cond.stringRef "CarpetHalls$Reader" (104 : Nat) "lay") ∈ lw_tbl := kt_3 (List.mem_of_getElem? (i := 180) rfl)
theorem kw_661 : (Jvm.Cond.stringRef "CarpetHalls$Reader" (106 : Nat) "roll") ∈ lw_tbl := kt_3 (List.mem_of_getElem? (i := 181) rfl)
theorem kw_662 : (Jvm.Cond.stringRef "CarpetHalls$Reader" (108 : Nat) "mirror") ∈ lw_tbl := kt_3 (List.mem_of_getElem? (i := 182) rfl)
theorem kw_663 : (Jvm.Cond.stringRef "CarpetHalls$Reader" (110 : Nat) "pass") ∈ lw_tbl := kt_3 (List.mem_of_getElem? (i := 183) rfl)
theorem kw_664 : (Jvm.Cond.stringRef "CarpetHalls$Reader" (112 : Nat) "if") ∈ lw_tbl := kt_3 (List.mem_of_getElem? (i := 184) rfl)
theorem kw_665 : (Jvm.Cond.stringRef "CarpetHalls$Reader" (114 : Nat) "times") ∈ lw_tbl := kt_3 (List.mem_of_getElem? (i := 185) rfl)
theorem kw_666 : (Jvm.Cond.stringRef "CarpetHalls$Reader" (116 : Nat) "at") ∈ lw_tbl := kt_3 (List.mem_of_getElem? (i := 186) rfl)
theorem kw_667 : (Jvm.Cond.stringRef "CarpetHalls$Reader" (117 : Nat) "by") ∈ lw_tbl := kt_3 (List.mem_of_getElem? (i := 187) rfl)
theorem kw_668 : (Jvm.Cond.stringRef "CarpetHalls$Reader" (119 : Nat) "or") ∈ lw_tbl := kt_3 (List.mem_of_getElem? (i := 188) rfl)
theorem kw_669 : (Jvm.Cond.stringRef "CarpetHalls$Reader" (121 : Nat) "and") ∈ lw_tbl := kt_3 (List.mem_of_getElem? (i := 189) rfl)
theorem kw_670 : (Jvm.Cond.stringRef "CarpetHalls$Reader" (123 : Nat) "not") ∈ lw_tbl := kt_3 (List.mem_of_getElem? (i := 190) rfl)
theorem kw_671 : (Jvm.Cond.stringRef "CarpetHalls$Reader" (125 : Nat) "carpet") ∈ lw_tbl := kt_3 (List.mem_of_getElem? (i := 191) rfl)
theorem kw_672 : (Jvm.Cond.stringRef "CarpetHalls$Reader" (127 : Nat) "side") ∈ lw_tbl := kt_3 (List.mem_of_getElem? (i := 192) rfl)
theorem kw_673 : (Jvm.Cond.stringRef "CarpetHalls$Reader" (129 : Nat) "kind") ∈ lw_tbl := kt_3 (List.mem_of_getElem? (i := 193) rfl)
theorem kw_674 : (Jvm.Cond.stringRef "CarpetHalls$Reader" (131 : Nat) "pile") ∈ lw_tbl := kt_3 (List.mem_of_getElem? (i := 194) rfl)
theorem kw_675 : (Jvm.Cond.stringRef "CarpetHalls$Reader" (133 : Nat) "x") ∈ lw_tbl := kt_3 (List.mem_of_getElem? (i := 195) rfl)
theorem kw_676 : (Jvm.Cond.stringRef "CarpetHalls$Reader" (135 : Nat) "y") ∈ lw_tbl := kt_3 (List.mem_of_getElem? (i := 196) rfl)
theorem kw_677 : (Jvm.Cond.stringRef "CarpetHalls$Reader" (137 : Nat) "year") ∈ lw_tbl := kt_3 (List.mem_of_getElem? (i := 197) rfl)
theorem kw_678 : (Jvm.Cond.stringRef "CarpetHalls$Reader" (139 : Nat) "mood") ∈ lw_tbl := kt_3 (List.mem_of_getElem? (i := 198) rfl)
theorem kw_679 : (Jvm.Cond.stringRef "CarpetHalls$Reader" (141 : Nat) "done") ∈ lw_tbl := kt_3 (List.mem_of_getElem? (i := 199) rfl)
theorem kw_680 : (Jvm.Cond.stringRef "CarpetHalls$Reader" (143 : Nat) "latest") ∈ lw_tbl := kt_3 (List.mem_of_getElem? (i := 200) rfl)
theorem kw_681 : (Jvm.Cond.stringRef "CarpetHalls$Reader" (145 : Nat) "bare") ∈ lw_tbl := kt_3 (List.mem_of_getElem? (i := 201) rfl)
theorem kw_682 : (Jvm.Cond.stringRef "CarpetHalls$Reader" (147 : Nat) "paid") ∈ lw_tbl := kt_3 (List.mem_of_getElem? (i := 202) rfl)
theorem kw_683 : (Jvm.Cond.stringRef "CarpetHalls$Reader" (149 : Nat) "laid") ∈ lw_tbl := kt_3 (List.mem_of_getElem? (i := 203) rfl)
theorem kw_684 : (Jvm.Cond.methodLink "CarpetHalls$Reader" (80 : Nat) ({ cls := "CarpetHalls$Reader", name := "isDigit", desc := "(I)Z" } : Jvm.MethodName)) ∈ th_tb := kg (kt_3 (List.mem_of_getElem? (i := 204) rfl)) rfl
theorem kw_685 : (Jvm.Cond.static ({ cls := "CarpetHalls$Reader", name := "isDigit", desc := "(I)Z" } : Jvm.MethodName)) ∈ th_tb := kg (kt_3 (List.mem_of_getElem? (i := 205) rfl)) rfl
theorem kw_686 : (Jvm.Cond.code ({ cls := "CarpetHalls$Reader", name := "isDigit", desc := "(I)Z" } : Jvm.MethodName) prog_7_method_5_code (1 : Nat) (Option.some Jvm.ClassFile.FieldType.boolean)) ∈ th_tb := kg (kt_3 (List.mem_of_getElem? (i := 206) rfl)) rfl
theorem kw_687 : (Jvm.Cond.methodLink "CarpetHalls$Reader" (83 : Nat) ({ cls := "CarpetHalls$Reader", name := "endOfDigits", desc := "(I)I" } : Jvm.MethodName)) ∈ th_tb := kg (kt_3 (List.mem_of_getElem? (i := 207) rfl)) rfl
theorem kw_689 : (Jvm.Cond.instanceMethod ({ cls := "CarpetHalls$Reader", name := "endOfDigits", desc := "(I)I" } : Jvm.MethodName)) ∈ th_tb := kg (kt_3 (List.mem_of_getElem? (i := 209) rfl)) rfl
theorem kw_690 : (Jvm.Cond.code ({ cls := "CarpetHalls$Reader", name := "endOfDigits", desc := "(I)I" } : Jvm.MethodName) prog_7_method_7_code (3 : Nat) (Option.some Jvm.ClassFile.FieldType.int)) ∈ th_tb := kg (kt_3 (List.mem_of_getElem? (i := 210) rfl)) rfl
theorem kw_691 : (Jvm.Cond.methodLink "CarpetHalls$Reader" (86 : Nat) ({ cls := "CarpetHalls$Reader", name := "valueFrom", desc := "(II)I" } : Jvm.MethodName)) ∈ th_tb := kg (kt_3 (List.mem_of_getElem? (i := 211) rfl)) rfl
theorem kw_693 : (Jvm.Cond.instanceMethod ({ cls := "CarpetHalls$Reader", name := "valueFrom", desc := "(II)I" } : Jvm.MethodName)) ∈ th_tb := kg (kt_3 (List.mem_of_getElem? (i := 213) rfl)) rfl
theorem kw_694 : (Jvm.Cond.code ({ cls := "CarpetHalls$Reader", name := "valueFrom", desc := "(II)I" } : Jvm.MethodName) prog_7_method_8_code (5 : Nat) (Option.some Jvm.ClassFile.FieldType.int)) ∈ th_tb := kg (kt_3 (List.mem_of_getElem? (i := 214) rfl)) rfl
theorem kw_695 : (Jvm.Cond.methodLink "CarpetHalls$Reader" (89 : Nat) ({ cls := "java/lang/Math", name := "min", desc := "(II)I" } : Jvm.MethodName)) ∈ th_tb := kg (kt_3 (List.mem_of_getElem? (i := 215) rfl)) rfl
theorem kw_696 : (Jvm.Cond.methodLink "CarpetHalls$Reader" (51 : Nat) ({ cls := "CarpetHalls$Reader", name := "readClause", desc := "()V" } : Jvm.MethodName)) ∈ th_tb := kg (kt_3 (List.mem_of_getElem? (i := 216) rfl)) rfl
theorem kw_698 : (Jvm.Cond.instanceMethod ({ cls := "CarpetHalls$Reader", name := "readClause", desc := "()V" } : Jvm.MethodName)) ∈ th_tb := kg (kt_3 (List.mem_of_getElem? (i := 218) rfl)) rfl
theorem kw_699 : (Jvm.Cond.code ({ cls := "CarpetHalls$Reader", name := "readClause", desc := "()V" } : Jvm.MethodName) prog_7_method_15_code (3 : Nat) (Option.none : Option Jvm.ClassFile.FieldType)) ∈ th_tb := kg (kt_3 (List.mem_of_getElem? (i := 219) rfl)) rfl
theorem kw_700 : (Jvm.Cond.methodLink "CarpetHalls$Reader" (58 : Nat) ({ cls := "CarpetHalls$Reader", name := "fail", desc := "()V" } : Jvm.MethodName)) ∈ th_tb := kg (kt_3 (List.mem_of_getElem? (i := 220) rfl)) rfl
theorem kw_702 : (Jvm.Cond.instanceMethod ({ cls := "CarpetHalls$Reader", name := "fail", desc := "()V" } : Jvm.MethodName)) ∈ th_tb := kg (kt_3 (List.mem_of_getElem? (i := 222) rfl)) rfl
theorem kw_703 : (Jvm.Cond.code ({ cls := "CarpetHalls$Reader", name := "fail", desc := "()V" } : Jvm.MethodName) prog_7_method_11_code (1 : Nat) (Option.none : Option Jvm.ClassFile.FieldType)) ∈ th_tb := kg (kt_3 (List.mem_of_getElem? (i := 223) rfl)) rfl
theorem kw_704 : (Jvm.Cond.methodLink "CarpetHalls$Reader" (160 : Nat) ({ cls := "CarpetHalls$Text", name := "openClause", desc := "(I)V" } : Jvm.MethodName)) ∈ th_tb := kg (kt_3 (List.mem_of_getElem? (i := 224) rfl)) rfl
theorem kw_705 : (Jvm.Cond.instanceMethod ({ cls := "CarpetHalls$Text", name := "openClause", desc := "(I)V" } : Jvm.MethodName)) ∈ th_tb := kg (kt_3 (List.mem_of_getElem? (i := 225) rfl)) rfl
theorem kw_706 : (Jvm.Cond.selects "CarpetHalls$Text" ({ cls := "CarpetHalls$Text", name := "openClause", desc := "(I)V" } : Jvm.MethodName) ({ cls := "CarpetHalls$Text", name := "openClause", desc := "(I)V" } : Jvm.MethodName)) ∈ th_tb := kg (kt_3 (List.mem_of_getElem? (i := 226) rfl)) rfl
theorem kw_707 : (Jvm.Cond.code ({ cls := "CarpetHalls$Text", name := "openClause", desc := "(I)V" } : Jvm.MethodName) prog_12_method_7_code (2 : Nat) (Option.none : Option Jvm.ClassFile.FieldType)) ∈ th_tb := kg (kt_3 (List.mem_of_getElem? (i := 227) rfl)) rfl
theorem kw_708 : (Jvm.Cond.methodLink "CarpetHalls$Text" (35 : Nat) ({ cls := "CarpetHalls$Text", name := "setMark", desc := "(II)V" } : Jvm.MethodName)) ∈ th_tb := kg (kt_3 (List.mem_of_getElem? (i := 228) rfl)) rfl
theorem kw_709 : (Jvm.Cond.instanceMethod ({ cls := "CarpetHalls$Text", name := "setMark", desc := "(II)V" } : Jvm.MethodName)) ∈ th_tb := kg (kt_3 (List.mem_of_getElem? (i := 229) rfl)) rfl
theorem kw_710 : (Jvm.Cond.selects "CarpetHalls$Text" ({ cls := "CarpetHalls$Text", name := "setMark", desc := "(II)V" } : Jvm.MethodName) ({ cls := "CarpetHalls$Text", name := "setMark", desc := "(II)V" } : Jvm.MethodName)) ∈ th_tb := kg (kt_3 (List.mem_of_getElem? (i := 230) rfl)) rfl
theorem kw_711 : (Jvm.Cond.code ({ cls := "CarpetHalls$Text", name := "setMark", desc := "(II)V" } : Jvm.MethodName) prog_12_method_8_code (4 : Nat) (Option.none : Option Jvm.ClassFile.FieldType)) ∈ th_tb := kg (kt_3 (List.mem_of_getElem? (i := 231) rfl)) rfl
theorem kw_712 : (Jvm.Cond.methodLink "CarpetHalls$Reader" (164 : Nat) ({ cls := "CarpetHalls$Reader", name := "readSums", desc := "(I)V" } : Jvm.MethodName)) ∈ th_tb := kg (kt_3 (List.mem_of_getElem? (i := 232) rfl)) rfl
theorem kw_714 : (Jvm.Cond.instanceMethod ({ cls := "CarpetHalls$Reader", name := "readSums", desc := "(I)V" } : Jvm.MethodName)) ∈ th_tb := kg (kt_3 (List.mem_of_getElem? (i := 234) rfl)) rfl
theorem kw_715 : (Jvm.Cond.code ({ cls := "CarpetHalls$Reader", name := "readSums", desc := "(I)V" } : Jvm.MethodName) prog_7_method_16_code (3 : Nat) (Option.none : Option Jvm.ClassFile.FieldType)) ∈ th_tb := kg (kt_3 (List.mem_of_getElem? (i := 235) rfl)) rfl
theorem kw_716 : (Jvm.Cond.methodLink "CarpetHalls$Reader" (170 : Nat) ({ cls := "CarpetHalls$Text", name := "setMark", desc := "(II)V" } : Jvm.MethodName)) ∈ th_tb := kg (kt_3 (List.mem_of_getElem? (i := 236) rfl)) rfl
theorem kw_717 : (Jvm.Cond.methodLink "CarpetHalls$Reader" (54 : Nat) ({ cls := "CarpetHalls$Reader", name := "take", desc := "(I)Z" } : Jvm.MethodName)) ∈ th_tb := kg (kt_3 (List.mem_of_getElem? (i := 237) rfl)) rfl
theorem kw_719 : (Jvm.Cond.instanceMethod ({ cls := "CarpetHalls$Reader", name := "take", desc := "(I)Z" } : Jvm.MethodName)) ∈ th_tb := kg (kt_3 (List.mem_of_getElem? (i := 239) rfl)) rfl
end
section
theorem kw_720 : (Jvm.Cond.code ({ cls := "CarpetHalls$Reader", name := "take", desc := "(I)Z" } : Jvm.MethodName) prog_7_method_12_code (2 : Nat) (Option.some Jvm.ClassFile.FieldType.boolean)) ∈ th_tb := kg (kt_4 (List.mem_of_getElem? (i := 0) rfl)) rfl
theorem kw_721 : (Jvm.Cond.methodLink "CarpetHalls$Reader" (180 : Nat) ({ cls := "CarpetHalls$Reader", name := "readSum", desc := "()V" } : Jvm.MethodName)) ∈ th_tb := kg (kt_4 (List.mem_of_getElem? (i := 1) rfl)) rfl
theorem kw_723 : (Jvm.Cond.instanceMethod ({ cls := "CarpetHalls$Reader", name := "readSum", desc := "()V" } : Jvm.MethodName)) ∈ th_tb := kg (kt_4 (List.mem_of_getElem? (i := 3) rfl)) rfl
theorem kw_724 : (Jvm.Cond.code ({ cls := "CarpetHalls$Reader", name := "readSum", desc := "()V" } : Jvm.MethodName) prog_7_method_20_code (4 : Nat) (Option.none : Option Jvm.ClassFile.FieldType)) ∈ th_tb := kg (kt_4 (List.mem_of_getElem? (i := 4) rfl)) rfl
theorem kw_725 : (Jvm.Cond.methodLink "CarpetHalls$Reader" (202 : Nat) ({ cls := "CarpetHalls$Reader", name := "readPart", desc := "()V" } : Jvm.MethodName)) ∈ th_tb := kg (kt_4 (List.mem_of_getElem? (i := 5) rfl)) rfl
theorem kw_727 : (Jvm.Cond.instanceMethod ({ cls := "CarpetHalls$Reader", name := "readPart", desc := "()V" } : Jvm.MethodName)) ∈ th_tb := kg (kt_4 (List.mem_of_getElem? (i := 7) rfl)) rfl
theorem kw_728 : (Jvm.Cond.code ({ cls := "CarpetHalls$Reader", name := "readPart", desc := "()V" } : Jvm.MethodName) prog_7_method_22_code (4 : Nat) (Option.none : Option Jvm.ClassFile.FieldType)) ∈ th_tb := kg (kt_4 (List.mem_of_getElem? (i := 8) rfl)) rfl
theorem kw_729 : (Jvm.Cond.methodLink "CarpetHalls$Reader" (186 : Nat) ({ cls := "CarpetHalls$Reader", name := "seenToken", desc := "()I" } : Jvm.MethodName)) ∈ th_tb := kg (kt_4 (List.mem_of_getElem? (i := 9) rfl)) rfl
theorem kw_731 : (Jvm.Cond.instanceMethod ({ cls := "CarpetHalls$Reader", name := "seenToken", desc := "()I" } : Jvm.MethodName)) ∈ th_tb := kg (kt_4 (List.mem_of_getElem? (i := 11) rfl)) rfl
theorem kw_732 : (Jvm.Cond.code ({ cls := "CarpetHalls$Reader", name := "seenToken", desc := "()I" } : Jvm.MethodName) prog_7_method_13_code (1 : Nat) (Option.some Jvm.ClassFile.FieldType.int)) ∈ th_tb := kg (kt_4 (List.mem_of_getElem? (i := 12) rfl)) rfl
theorem kw_733 : (Jvm.Cond.methodLink "CarpetHalls$Reader" (195 : Nat) ({ cls := "CarpetHalls$Reader", name := "openBracket", desc := "()Z" } : Jvm.MethodName)) ∈ th_tb := kg (kt_4 (List.mem_of_getElem? (i := 13) rfl)) rfl
theorem kw_735 : (Jvm.Cond.instanceMethod ({ cls := "CarpetHalls$Reader", name := "openBracket", desc := "()Z" } : Jvm.MethodName)) ∈ th_tb := kg (kt_4 (List.mem_of_getElem? (i := 15) rfl)) rfl
theorem kw_736 : (Jvm.Cond.code ({ cls := "CarpetHalls$Reader", name := "openBracket", desc := "()Z" } : Jvm.MethodName) prog_7_method_19_code (1 : Nat) (Option.some Jvm.ClassFile.FieldType.boolean)) ∈ th_tb := kg (kt_4 (List.mem_of_getElem? (i := 16) rfl)) rfl
theorem kw_737 : (Jvm.Cond.methodLink "CarpetHalls$Reader" (167 : Nat) ({ cls := "CarpetHalls$Reader", name := "takeNumber", desc := "(II)I" } : Jvm.MethodName)) ∈ th_tb := kg (kt_4 (List.mem_of_getElem? (i := 17) rfl)) rfl
theorem kw_739 : (Jvm.Cond.instanceMethod ({ cls := "CarpetHalls$Reader", name := "takeNumber", desc := "(II)I" } : Jvm.MethodName)) ∈ th_tb := kg (kt_4 (List.mem_of_getElem? (i := 19) rfl)) rfl
theorem kw_740 : (Jvm.Cond.code ({ cls := "CarpetHalls$Reader", name := "takeNumber", desc := "(II)I" } : Jvm.MethodName) prog_7_method_14_code (4 : Nat) (Option.some Jvm.ClassFile.FieldType.int)) ∈ th_tb := kg (kt_4 (List.mem_of_getElem? (i := 20) rfl)) rfl
theorem kw_741 : (Jvm.Cond.methodLink "CarpetHalls$Reader" (208 : Nat) ({ cls := "CarpetHalls$Reader", name := "orderCode", desc := "(I)I" } : Jvm.MethodName)) ∈ th_tb := kg (kt_4 (List.mem_of_getElem? (i := 21) rfl)) rfl
theorem kw_742 : (Jvm.Cond.static ({ cls := "CarpetHalls$Reader", name := "orderCode", desc := "(I)I" } : Jvm.MethodName)) ∈ th_tb := kg (kt_4 (List.mem_of_getElem? (i := 22) rfl)) rfl
theorem kw_743 : (Jvm.Cond.code ({ cls := "CarpetHalls$Reader", name := "orderCode", desc := "(I)I" } : Jvm.MethodName) prog_7_method_23_code (1 : Nat) (Option.some Jvm.ClassFile.FieldType.int)) ∈ th_tb := kg (kt_4 (List.mem_of_getElem? (i := 23) rfl)) rfl
theorem kw_744 : (Jvm.Cond.methodLink "CarpetHalls$Reader" (211 : Nat) ({ cls := "CarpetHalls$Reader", name := "lawCode", desc := "(I)I" } : Jvm.MethodName)) ∈ th_tb := kg (kt_4 (List.mem_of_getElem? (i := 24) rfl)) rfl
theorem kw_745 : (Jvm.Cond.static ({ cls := "CarpetHalls$Reader", name := "lawCode", desc := "(I)I" } : Jvm.MethodName)) ∈ th_tb := kg (kt_4 (List.mem_of_getElem? (i := 25) rfl)) rfl
theorem kw_746 : (Jvm.Cond.code ({ cls := "CarpetHalls$Reader", name := "lawCode", desc := "(I)I" } : Jvm.MethodName) prog_7_method_24_code (1 : Nat) (Option.some Jvm.ClassFile.FieldType.int)) ∈ th_tb := kg (kt_4 (List.mem_of_getElem? (i := 26) rfl)) rfl
theorem kw_747 : (Jvm.Cond.methodLink "CarpetHalls$Reader" (199 : Nat) ({ cls := "CarpetHalls$Text", name := "add", desc := "(I)V" } : Jvm.MethodName)) ∈ th_tb := kg (kt_4 (List.mem_of_getElem? (i := 27) rfl)) rfl
theorem kw_748 : (Jvm.Cond.instanceMethod ({ cls := "CarpetHalls$Text", name := "add", desc := "(I)V" } : Jvm.MethodName)) ∈ th_tb := kg (kt_4 (List.mem_of_getElem? (i := 28) rfl)) rfl
theorem kw_749 : (Jvm.Cond.selects "CarpetHalls$Text" ({ cls := "CarpetHalls$Text", name := "add", desc := "(I)V" } : Jvm.MethodName) ({ cls := "CarpetHalls$Text", name := "add", desc := "(I)V" } : Jvm.MethodName)) ∈ th_tb := kg (kt_4 (List.mem_of_getElem? (i := 29) rfl)) rfl
theorem kw_750 : (Jvm.Cond.code ({ cls := "CarpetHalls$Text", name := "add", desc := "(I)V" } : Jvm.MethodName) prog_12_method_4_code (2 : Nat) (Option.none : Option Jvm.ClassFile.FieldType)) ∈ th_tb := kg (kt_4 (List.mem_of_getElem? (i := 30) rfl)) rfl
theorem kw_751 : (Jvm.Cond.methodLink "CarpetHalls$Reader" (205 : Nat) ({ cls := "CarpetHalls$Reader", name := "codeOf", desc := "(I)I" } : Jvm.MethodName)) ∈ th_tb := kg (kt_4 (List.mem_of_getElem? (i := 31) rfl)) rfl
theorem kw_752 : (Jvm.Cond.static ({ cls := "CarpetHalls$Reader", name := "codeOf", desc := "(I)I" } : Jvm.MethodName)) ∈ th_tb := kg (kt_4 (List.mem_of_getElem? (i := 32) rfl)) rfl
theorem kw_753 : (Jvm.Cond.code ({ cls := "CarpetHalls$Reader", name := "codeOf", desc := "(I)I" } : Jvm.MethodName) prog_7_method_21_code (1 : Nat) (Option.some Jvm.ClassFile.FieldType.int)) ∈ th_tb := kg (kt_4 (List.mem_of_getElem? (i := 33) rfl)) rfl
theorem kw_754 : (Jvm.Cond.methodLink "CarpetHalls$Reader" (177 : Nat) ({ cls := "CarpetHalls$Reader", name := "readTest", desc := "()V" } : Jvm.MethodName)) ∈ th_tb := kg (kt_4 (List.mem_of_getElem? (i := 34) rfl)) rfl
theorem kw_756 : (Jvm.Cond.instanceMethod ({ cls := "CarpetHalls$Reader", name := "readTest", desc := "()V" } : Jvm.MethodName)) ∈ th_tb := kg (kt_4 (List.mem_of_getElem? (i := 36) rfl)) rfl
theorem kw_757 : (Jvm.Cond.code ({ cls := "CarpetHalls$Reader", name := "readTest", desc := "()V" } : Jvm.MethodName) prog_7_method_17_code (5 : Nat) (Option.none : Option Jvm.ClassFile.FieldType)) ∈ th_tb := kg (kt_4 (List.mem_of_getElem? (i := 37) rfl)) rfl
theorem kw_758 : (Jvm.Cond.methodLink "CarpetHalls$Reader" (183 : Nat) ({ cls := "CarpetHalls$Reader", name := "readPlain", desc := "()V" } : Jvm.MethodName)) ∈ th_tb := kg (kt_4 (List.mem_of_getElem? (i := 38) rfl)) rfl
theorem kw_760 : (Jvm.Cond.instanceMethod ({ cls := "CarpetHalls$Reader", name := "readPlain", desc := "()V" } : Jvm.MethodName)) ∈ th_tb := kg (kt_4 (List.mem_of_getElem? (i := 40) rfl)) rfl
theorem kw_761 : (Jvm.Cond.code ({ cls := "CarpetHalls$Reader", name := "readPlain", desc := "()V" } : Jvm.MethodName) prog_7_method_18_code (3 : Nat) (Option.none : Option Jvm.ClassFile.FieldType)) ∈ th_tb := kg (kt_4 (List.mem_of_getElem? (i := 41) rfl)) rfl
theorem kw_762 : (Jvm.Cond.methodLink "CarpetHalls$Reader" (189 : Nat) ({ cls := "CarpetHalls$Text", name := "setCode", desc := "(II)V" } : Jvm.MethodName)) ∈ th_tb := kg (kt_4 (List.mem_of_getElem? (i := 42) rfl)) rfl
theorem kw_763 : (Jvm.Cond.instanceMethod ({ cls := "CarpetHalls$Text", name := "setCode", desc := "(II)V" } : Jvm.MethodName)) ∈ th_tb := kg (kt_4 (List.mem_of_getElem? (i := 43) rfl)) rfl
theorem kw_764 : (Jvm.Cond.selects "CarpetHalls$Text" ({ cls := "CarpetHalls$Text", name := "setCode", desc := "(II)V" } : Jvm.MethodName) ({ cls := "CarpetHalls$Text", name := "setCode", desc := "(II)V" } : Jvm.MethodName)) ∈ th_tb := kg (kt_4 (List.mem_of_getElem? (i := 44) rfl)) rfl
theorem kw_765 : (Jvm.Cond.code ({ cls := "CarpetHalls$Text", name := "setCode", desc := "(II)V" } : Jvm.MethodName) prog_12_method_6_code (3 : Nat) (Option.none : Option Jvm.ClassFile.FieldType)) ∈ th_tb := kg (kt_4 (List.mem_of_getElem? (i := 45) rfl)) rfl
theorem kw_766 : (Jvm.Cond.methodLink "CarpetHalls$Reader" (192 : Nat) ({ cls := "CarpetHalls$Text", name := "addJump", desc := "(I)I" } : Jvm.MethodName)) ∈ th_tb := kg (kt_4 (List.mem_of_getElem? (i := 46) rfl)) rfl
theorem kw_767 : (Jvm.Cond.instanceMethod ({ cls := "CarpetHalls$Text", name := "addJump", desc := "(I)I" } : Jvm.MethodName)) ∈ th_tb := kg (kt_4 (List.mem_of_getElem? (i := 47) rfl)) rfl
theorem kw_768 : (Jvm.Cond.selects "CarpetHalls$Text" ({ cls := "CarpetHalls$Text", name := "addJump", desc := "(I)I" } : Jvm.MethodName) ({ cls := "CarpetHalls$Text", name := "addJump", desc := "(I)I" } : Jvm.MethodName)) ∈ th_tb := kg (kt_4 (List.mem_of_getElem? (i := 48) rfl)) rfl
theorem kw_769 : (Jvm.Cond.code ({ cls := "CarpetHalls$Text", name := "addJump", desc := "(I)I" } : Jvm.MethodName) prog_12_method_5_code (2 : Nat) (Option.some Jvm.ClassFile.FieldType.int)) ∈ th_tb := kg (kt_4 (List.mem_of_getElem? (i := 49) rfl)) rfl
theorem kw_770 : (Jvm.Cond.methodLink "CarpetHalls$Text" (31 : Nat) ({ cls := "CarpetHalls$Text", name := "add", desc := "(I)V" } : Jvm.MethodName)) ∈ th_tb := kg (kt_4 (List.mem_of_getElem? (i := 50) rfl)) rfl
theorem kw_771 : (Jvm.Cond.arrayClass Jvm.ClassFile.FieldType.byte) ∈ th_tb := kg (kt_4 (List.mem_of_getElem? (i := 51) rfl)) rfl
theorem kw_772 : (Jvm.Cond.methodLink "CarpetHallsLaw" (63 : Nat) ({ cls := "CarpetHalls", name := "orders", desc := "()I" } : Jvm.MethodName)) ∈ th_tb := kg (kt_4 (List.mem_of_getElem? (i := 52) rfl)) rfl
theorem kw_773 : (Jvm.Cond.instanceMethod ({ cls := "CarpetHalls", name := "orders", desc := "()I" } : Jvm.MethodName)) ∈ th_tb := kg (kt_4 (List.mem_of_getElem? (i := 53) rfl)) rfl
theorem kw_774 : (Jvm.Cond.selects "CarpetHalls" ({ cls := "CarpetHalls", name := "orders", desc := "()I" } : Jvm.MethodName) ({ cls := "CarpetHalls", name := "orders", desc := "()I" } : Jvm.MethodName)) ∈ th_tb := kg (kt_4 (List.mem_of_getElem? (i := 54) rfl)) rfl
theorem kw_775 : (Jvm.Cond.code ({ cls := "CarpetHalls", name := "orders", desc := "()I" } : Jvm.MethodName) prog_1_method_13_code (4 : Nat) (Option.some Jvm.ClassFile.FieldType.int)) ∈ th_tb := kg (kt_4 (List.mem_of_getElem? (i := 55) rfl)) rfl
theorem kw_776 : (Jvm.Cond.methodLink "CarpetHalls" (207 : Nat) ({ cls := "CarpetHalls$Past", name := "save", desc := "(LCarpetHalls$Floor;)V" } : Jvm.MethodName)) ∈ th_tb := kg (kt_4 (List.mem_of_getElem? (i := 56) rfl)) rfl
theorem kw_777 : (Jvm.Cond.instanceMethod ({ cls := "CarpetHalls$Past", name := "save", desc := "(LCarpetHalls$Floor;)V" } : Jvm.MethodName)) ∈ th_tb := kg (kt_4 (List.mem_of_getElem? (i := 57) rfl)) rfl
theorem kw_778 : (Jvm.Cond.selects "CarpetHalls$Past" ({ cls := "CarpetHalls$Past", name := "save", desc := "(LCarpetHalls$Floor;)V" } : Jvm.MethodName) ({ cls := "CarpetHalls$Past", name := "save", desc := "(LCarpetHalls$Floor;)V" } : Jvm.MethodName)) ∈ th_tb := kg (kt_4 (List.mem_of_getElem? (i := 58) rfl)) rfl
theorem kw_779 : (Jvm.Cond.code ({ cls := "CarpetHalls$Past", name := "save", desc := "(LCarpetHalls$Floor;)V" } : Jvm.MethodName) prog_6_method_5_code (2 : Nat) (Option.none : Option Jvm.ClassFile.FieldType)) ∈ th_tb := kg (kt_4 (List.mem_of_getElem? (i := 59) rfl)) rfl
theorem kw_780 : (Jvm.Cond.methodLink "CarpetHalls$Past" (53 : Nat) ({ cls := "CarpetHalls$Floor", name := "copyFrom", desc := "(LCarpetHalls$Floor;)V" } : Jvm.MethodName)) ∈ th_tb := kg (kt_4 (List.mem_of_getElem? (i := 60) rfl)) rfl
theorem kw_781 : (Jvm.Cond.instanceMethod ({ cls := "CarpetHalls$Floor", name := "copyFrom", desc := "(LCarpetHalls$Floor;)V" } : Jvm.MethodName)) ∈ th_tb := kg (kt_4 (List.mem_of_getElem? (i := 61) rfl)) rfl
theorem kw_782 : (Jvm.Cond.selects "CarpetHalls$Floor" ({ cls := "CarpetHalls$Floor", name := "copyFrom", desc := "(LCarpetHalls$Floor;)V" } : Jvm.MethodName) ({ cls := "CarpetHalls$Floor", name := "copyFrom", desc := "(LCarpetHalls$Floor;)V" } : Jvm.MethodName)) ∈ th_tb := kg (kt_4 (List.mem_of_getElem? (i := 62) rfl)) rfl
theorem kw_783 : (Jvm.Cond.code ({ cls := "CarpetHalls$Floor", name := "copyFrom", desc := "(LCarpetHalls$Floor;)V" } : Jvm.MethodName) prog_3_method_2_code (2 : Nat) (Option.none : Option Jvm.ClassFile.FieldType)) ∈ th_tb := kg (kt_4 (List.mem_of_getElem? (i := 63) rfl)) rfl
theorem kw_784 : (Jvm.Cond.methodLink "CarpetHalls$Floor" (46 : Nat) ({ cls := "java/lang/System", name := "arraycopy", desc := "(Ljava/lang/Object;ILjava/lang/Object;II)V" } : Jvm.MethodName)) ∈ th_tb := kg (kt_4 (List.mem_of_getElem? (i := 64) rfl)) rfl
theorem kw_785 : (Jvm.Cond.static ({ cls := "java/lang/System", name := "arraycopy", desc := "(Ljava/lang/Object;ILjava/lang/Object;II)V" } : Jvm.MethodName)) ∈ th_tb := kg (kt_4 (List.mem_of_getElem? (i := 65) rfl)) rfl
theorem kw_786 : (Jvm.Cond.native ({ cls := "java/lang/System", name := "arraycopy", desc := "(Ljava/lang/Object;ILjava/lang/Object;II)V" } : Jvm.MethodName)) ∈ th_tb := kg (kt_4 (List.mem_of_getElem? (i := 66) rfl)) rfl
theorem kw_787 : (Jvm.Cond.methodLink "CarpetHalls$Past" (32 : Nat) ({ cls := "java/lang/System", name := "arraycopy", desc := "(Ljava/lang/Object;ILjava/lang/Object;II)V" } : Jvm.MethodName)) ∈ th_tb := kg (kt_4 (List.mem_of_getElem? (i := 67) rfl)) rfl
theorem kw_788 : (Jvm.Cond.methodLink "CarpetHalls" (217 : Nat) ({ cls := "CarpetHalls$Text", name := "mark", desc := "(II)I" } : Jvm.MethodName)) ∈ th_tb := kg (kt_4 (List.mem_of_getElem? (i := 68) rfl)) rfl
theorem kw_789 : (Jvm.Cond.methodLink "CarpetHalls" (220 : Nat) ({ cls := "CarpetHalls", name := "runOnce", desc := "(I)Z" } : Jvm.MethodName)) ∈ th_tb := kg (kt_4 (List.mem_of_getElem? (i := 69) rfl)) rfl
theorem kw_791 : (Jvm.Cond.instanceMethod ({ cls := "CarpetHalls", name := "runOnce", desc := "(I)Z" } : Jvm.MethodName)) ∈ th_tb := kg (kt_4 (List.mem_of_getElem? (i := 71) rfl)) rfl
theorem kw_792 : (Jvm.Cond.code ({ cls := "CarpetHalls", name := "runOnce", desc := "(I)Z" } : Jvm.MethodName) prog_1_method_53_code (3 : Nat) (Option.some Jvm.ClassFile.FieldType.boolean)) ∈ th_tb := kg (kt_4 (List.mem_of_getElem? (i := 72) rfl)) rfl
theorem kw_793 : (Jvm.Cond.methodLink "CarpetHalls" (374 : Nat) ({ cls := "CarpetHalls$Reckoner", name := "setOrderWords", desc := "(LCarpetHalls$Floor;)V" } : Jvm.MethodName)) ∈ th_tb := kg (kt_4 (List.mem_of_getElem? (i := 73) rfl)) rfl
theorem kw_794 : (Jvm.Cond.instanceMethod ({ cls := "CarpetHalls$Reckoner", name := "setOrderWords", desc := "(LCarpetHalls$Floor;)V" } : Jvm.MethodName)) ∈ th_tb := kg (kt_4 (List.mem_of_getElem? (i := 74) rfl)) rfl
theorem kw_795 : (Jvm.Cond.selects "CarpetHalls$Reckoner" ({ cls := "CarpetHalls$Reckoner", name := "setOrderWords", desc := "(LCarpetHalls$Floor;)V" } : Jvm.MethodName) ({ cls := "CarpetHalls$Reckoner", name := "setOrderWords", desc := "(LCarpetHalls$Floor;)V" } : Jvm.MethodName)) ∈ th_tb := kg (kt_4 (List.mem_of_getElem? (i := 75) rfl)) rfl
theorem kw_796 : (Jvm.Cond.code ({ cls := "CarpetHalls$Reckoner", name := "setOrderWords", desc := "(LCarpetHalls$Floor;)V" } : Jvm.MethodName) prog_8_method_3_code (3 : Nat) (Option.none : Option Jvm.ClassFile.FieldType)) ∈ th_tb := kg (kt_4 (List.mem_of_getElem? (i := 76) rfl)) rfl
theorem kw_797 : (Jvm.Cond.methodLink "CarpetHalls$Reckoner" (44 : Nat) ({ cls := "CarpetHalls$Floor", name := "bareCells", desc := "()I" } : Jvm.MethodName)) ∈ th_tb := kg (kt_4 (List.mem_of_getElem? (i := 77) rfl)) rfl
theorem kw_798 : (Jvm.Cond.instanceMethod ({ cls := "CarpetHalls$Floor", name := "bareCells", desc := "()I" } : Jvm.MethodName)) ∈ th_tb := kg (kt_4 (List.mem_of_getElem? (i := 78) rfl)) rfl
theorem kw_799 : (Jvm.Cond.selects "CarpetHalls$Floor" ({ cls := "CarpetHalls$Floor", name := "bareCells", desc := "()I" } : Jvm.MethodName) ({ cls := "CarpetHalls$Floor", name := "bareCells", desc := "()I" } : Jvm.MethodName)) ∈ th_tb := kg (kt_4 (List.mem_of_getElem? (i := 79) rfl)) rfl
theorem kw_800 : (Jvm.Cond.code ({ cls := "CarpetHalls$Floor", name := "bareCells", desc := "()I" } : Jvm.MethodName) prog_3_method_10_code (3 : Nat) (Option.some Jvm.ClassFile.FieldType.int)) ∈ th_tb := kg (kt_4 (List.mem_of_getElem? (i := 80) rfl)) rfl
theorem kw_801 : (Jvm.Cond.methodLink "CarpetHalls$Reckoner" (52 : Nat) ({ cls := "CarpetHalls$Floor", name := "has", desc := "(I)Z" } : Jvm.MethodName)) ∈ th_tb := kg (kt_4 (List.mem_of_getElem? (i := 81) rfl)) rfl
theorem kw_802 : (Jvm.Cond.methodLink "CarpetHalls$Reckoner" (56 : Nat) ({ cls := "CarpetHalls$Floor", name := "isLaid", desc := "(I)Z" } : Jvm.MethodName)) ∈ th_tb := kg (kt_4 (List.mem_of_getElem? (i := 82) rfl)) rfl
theorem kw_803 : (Jvm.Cond.methodLink "CarpetHalls" (377 : Nat) ({ cls := "CarpetHalls$Reckoner", name := "isSo", desc := "(LCarpetHalls$Text;I)Z" } : Jvm.MethodName)) ∈ th_tb := kg (kt_4 (List.mem_of_getElem? (i := 83) rfl)) rfl
theorem kw_804 : (Jvm.Cond.methodLink "CarpetHalls" (381 : Nat) ({ cls := "CarpetHalls$Reckoner", name := "reckonSums", desc := "(LCarpetHalls$Text;I)Z" } : Jvm.MethodName)) ∈ th_tb := kg (kt_4 (List.mem_of_getElem? (i := 84) rfl)) rfl
theorem kw_805 : (Jvm.Cond.methodLink "CarpetHalls" (233 : Nat) ({ cls := "CarpetHalls", name := "doLay", desc := "(III)I" } : Jvm.MethodName)) ∈ th_tb := kg (kt_4 (List.mem_of_getElem? (i := 85) rfl)) rfl
theorem kw_807 : (Jvm.Cond.instanceMethod ({ cls := "CarpetHalls", name := "doLay", desc := "(III)I" } : Jvm.MethodName)) ∈ th_tb := kg (kt_4 (List.mem_of_getElem? (i := 87) rfl)) rfl
theorem kw_808 : (Jvm.Cond.code ({ cls := "CarpetHalls", name := "doLay", desc := "(III)I" } : Jvm.MethodName) prog_1_method_49_code (6 : Nat) (Option.some Jvm.ClassFile.FieldType.int)) ∈ th_tb := kg (kt_4 (List.mem_of_getElem? (i := 88) rfl)) rfl
theorem kw_809 : (Jvm.Cond.methodLink "CarpetHalls" (358 : Nat) ({ cls := "CarpetHalls$Past", name := "note", desc := "(ILCarpetHalls$Floor;)V" } : Jvm.MethodName)) ∈ th_tb := kg (kt_4 (List.mem_of_getElem? (i := 89) rfl)) rfl
theorem kw_810 : (Jvm.Cond.instanceMethod ({ cls := "CarpetHalls$Past", name := "note", desc := "(ILCarpetHalls$Floor;)V" } : Jvm.MethodName)) ∈ th_tb := kg (kt_4 (List.mem_of_getElem? (i := 90) rfl)) rfl
theorem kw_811 : (Jvm.Cond.selects "CarpetHalls$Past" ({ cls := "CarpetHalls$Past", name := "note", desc := "(ILCarpetHalls$Floor;)V" } : Jvm.MethodName) ({ cls := "CarpetHalls$Past", name := "note", desc := "(ILCarpetHalls$Floor;)V" } : Jvm.MethodName)) ∈ th_tb := kg (kt_4 (List.mem_of_getElem? (i := 91) rfl)) rfl
theorem kw_812 : (Jvm.Cond.code ({ cls := "CarpetHalls$Past", name := "note", desc := "(ILCarpetHalls$Floor;)V" } : Jvm.MethodName) prog_6_method_3_code (4 : Nat) (Option.none : Option Jvm.ClassFile.FieldType)) ∈ th_tb := kg (kt_4 (List.mem_of_getElem? (i := 92) rfl)) rfl
theorem kw_813 : (Jvm.Cond.methodLink "CarpetHalls" (362 : Nat) ({ cls := "java/lang/Math", name := "min", desc := "(II)I" } : Jvm.MethodName)) ∈ th_tb := kg (kt_4 (List.mem_of_getElem? (i := 93) rfl)) rfl
theorem kw_814 : (Jvm.Cond.methodLink "CarpetHalls" (236 : Nat) ({ cls := "CarpetHalls", name := "doRoll", desc := "(I)I" } : Jvm.MethodName)) ∈ th_tb := kg (kt_4 (List.mem_of_getElem? (i := 94) rfl)) rfl
theorem kw_816 : (Jvm.Cond.instanceMethod ({ cls := "CarpetHalls", name := "doRoll", desc := "(I)I" } : Jvm.MethodName)) ∈ th_tb := kg (kt_4 (List.mem_of_getElem? (i := 96) rfl)) rfl
theorem kw_817 : (Jvm.Cond.code ({ cls := "CarpetHalls", name := "doRoll", desc := "(I)I" } : Jvm.MethodName) prog_1_method_50_code (3 : Nat) (Option.some Jvm.ClassFile.FieldType.int)) ∈ th_tb := kg (kt_4 (List.mem_of_getElem? (i := 97) rfl)) rfl
theorem kw_818 : (Jvm.Cond.methodLink "CarpetHalls" (301 : Nat) ({ cls := "CarpetHalls$Floor", name := "rollUp", desc := "(I)V" } : Jvm.MethodName)) ∈ th_tb := kg (kt_4 (List.mem_of_getElem? (i := 98) rfl)) rfl
theorem kw_819 : (Jvm.Cond.instanceMethod ({ cls := "CarpetHalls$Floor", name := "rollUp", desc := "(I)V" } : Jvm.MethodName)) ∈ th_tb := kg (kt_4 (List.mem_of_getElem? (i := 99) rfl)) rfl
theorem kw_820 : (Jvm.Cond.selects "CarpetHalls$Floor" ({ cls := "CarpetHalls$Floor", name := "rollUp", desc := "(I)V" } : Jvm.MethodName) ({ cls := "CarpetHalls$Floor", name := "rollUp", desc := "(I)V" } : Jvm.MethodName)) ∈ th_tb := kg (kt_4 (List.mem_of_getElem? (i := 100) rfl)) rfl
theorem kw_821 : (Jvm.Cond.code ({ cls := "CarpetHalls$Floor", name := "rollUp", desc := "(I)V" } : Jvm.MethodName) prog_3_method_13_code (2 : Nat) (Option.none : Option Jvm.ClassFile.FieldType)) ∈ th_tb := kg (kt_4 (List.mem_of_getElem? (i := 101) rfl)) rfl
theorem kw_822 : (Jvm.Cond.methodLink "CarpetHalls" (249 : Nat) ({ cls := "CarpetHalls$Floor", name := "bareCells", desc := "()I" } : Jvm.MethodName)) ∈ th_tb := kg (kt_4 (List.mem_of_getElem? (i := 102) rfl)) rfl
theorem kw_823 : (Jvm.Cond.methodLink "CarpetHalls" (239 : Nat) ({ cls := "CarpetHalls", name := "doMirror", desc := "()I" } : Jvm.MethodName)) ∈ th_tb := kg (kt_4 (List.mem_of_getElem? (i := 103) rfl)) rfl
theorem kw_825 : (Jvm.Cond.instanceMethod ({ cls := "CarpetHalls", name := "doMirror", desc := "()I" } : Jvm.MethodName)) ∈ th_tb := kg (kt_4 (List.mem_of_getElem? (i := 105) rfl)) rfl
theorem kw_826 : (Jvm.Cond.code ({ cls := "CarpetHalls", name := "doMirror", desc := "()I" } : Jvm.MethodName) prog_1_method_51_code (1 : Nat) (Option.some Jvm.ClassFile.FieldType.int)) ∈ th_tb := kg (kt_4 (List.mem_of_getElem? (i := 106) rfl)) rfl
theorem kw_827 : (Jvm.Cond.methodLink "CarpetHalls" (367 : Nat) ({ cls := "CarpetHalls$Floor", name := "turnOver", desc := "()I" } : Jvm.MethodName)) ∈ th_tb := kg (kt_4 (List.mem_of_getElem? (i := 107) rfl)) rfl
theorem kw_828 : (Jvm.Cond.instanceMethod ({ cls := "CarpetHalls$Floor", name := "turnOver", desc := "()I" } : Jvm.MethodName)) ∈ th_tb := kg (kt_4 (List.mem_of_getElem? (i := 108) rfl)) rfl
theorem kw_829 : (Jvm.Cond.selects "CarpetHalls$Floor" ({ cls := "CarpetHalls$Floor", name := "turnOver", desc := "()I" } : Jvm.MethodName) ({ cls := "CarpetHalls$Floor", name := "turnOver", desc := "()I" } : Jvm.MethodName)) ∈ th_tb := kg (kt_4 (List.mem_of_getElem? (i := 109) rfl)) rfl
theorem kw_830 : (Jvm.Cond.code ({ cls := "CarpetHalls$Floor", name := "turnOver", desc := "()I" } : Jvm.MethodName) prog_3_method_15_code (3 : Nat) (Option.some Jvm.ClassFile.FieldType.int)) ∈ th_tb := kg (kt_4 (List.mem_of_getElem? (i := 110) rfl)) rfl
theorem kw_831 : (Jvm.Cond.methodLink "CarpetHalls" (242 : Nat) ({ cls := "CarpetHalls", name := "doPass", desc := "()I" } : Jvm.MethodName)) ∈ th_tb := kg (kt_4 (List.mem_of_getElem? (i := 111) rfl)) rfl
theorem kw_833 : (Jvm.Cond.instanceMethod ({ cls := "CarpetHalls", name := "doPass", desc := "()I" } : Jvm.MethodName)) ∈ th_tb := kg (kt_4 (List.mem_of_getElem? (i := 113) rfl)) rfl
theorem kw_834 : (Jvm.Cond.code ({ cls := "CarpetHalls", name := "doPass", desc := "()I" } : Jvm.MethodName) prog_1_method_52_code (1 : Nat) (Option.some Jvm.ClassFile.FieldType.int)) ∈ th_tb := kg (kt_4 (List.mem_of_getElem? (i := 114) rfl)) rfl
theorem kw_835 : (Jvm.Cond.methodLink "CarpetHalls" (370 : Nat) ({ cls := "CarpetHalls$Floor", name := "wearAYear", desc := "(LCarpetHalls$Judge;LCarpetHalls$Text;)I" } : Jvm.MethodName)) ∈ th_tb := kg (kt_4 (List.mem_of_getElem? (i := 115) rfl)) rfl
theorem kw_836 : (Jvm.Cond.instanceMethod ({ cls := "CarpetHalls$Floor", name := "wearAYear", desc := "(LCarpetHalls$Judge;LCarpetHalls$Text;)I" } : Jvm.MethodName)) ∈ th_tb := kg (kt_4 (List.mem_of_getElem? (i := 116) rfl)) rfl
theorem kw_837 : (Jvm.Cond.selects "CarpetHalls$Floor" ({ cls := "CarpetHalls$Floor", name := "wearAYear", desc := "(LCarpetHalls$Judge;LCarpetHalls$Text;)I" } : Jvm.MethodName) ({ cls := "CarpetHalls$Floor", name := "wearAYear", desc := "(LCarpetHalls$Judge;LCarpetHalls$Text;)I" } : Jvm.MethodName)) ∈ th_tb := kg (kt_4 (List.mem_of_getElem? (i := 117) rfl)) rfl
theorem kw_838 : (Jvm.Cond.code ({ cls := "CarpetHalls$Floor", name := "wearAYear", desc := "(LCarpetHalls$Judge;LCarpetHalls$Text;)I" } : Jvm.MethodName) prog_3_method_16_code (5 : Nat) (Option.some Jvm.ClassFile.FieldType.int)) ∈ th_tb := kg (kt_4 (List.mem_of_getElem? (i := 118) rfl)) rfl
theorem kw_839 : (Jvm.Cond.methodLink "CarpetHalls$Floor" (66 : Nat) ({ cls := "CarpetHalls$Judge", name := "wearOf", desc := "(LCarpetHalls$Text;LCarpetHalls$Floor;I)I" } : Jvm.MethodName)) ∈ th_tb := kg (kt_4 (List.mem_of_getElem? (i := 119) rfl)) rfl
theorem kw_840 : (Jvm.Cond.methodLink "CarpetHalls$Floor" (72 : Nat) ({ cls := "java/lang/Math", name := "max", desc := "(II)I" } : Jvm.MethodName)) ∈ th_tb := kg (kt_4 (List.mem_of_getElem? (i := 120) rfl)) rfl
theorem kw_841 : (Jvm.Cond.methodLink "CarpetHalls$Floor" (62 : Nat) ({ cls := "CarpetHalls$Floor", name := "rollUp", desc := "(I)V" } : Jvm.MethodName)) ∈ th_tb := kg (kt_4 (List.mem_of_getElem? (i := 121) rfl)) rfl
theorem kw_842 : (Jvm.Cond.methodLink "CarpetHalls" (223 : Nat) ({ cls := "CarpetHalls$Past", name := "restore", desc := "(LCarpetHalls$Floor;)V" } : Jvm.MethodName)) ∈ th_tb := kg (kt_4 (List.mem_of_getElem? (i := 122) rfl)) rfl
theorem kw_843 : (Jvm.Cond.instanceMethod ({ cls := "CarpetHalls$Past", name := "restore", desc := "(LCarpetHalls$Floor;)V" } : Jvm.MethodName)) ∈ th_tb := kg (kt_4 (List.mem_of_getElem? (i := 123) rfl)) rfl
theorem kw_844 : (Jvm.Cond.selects "CarpetHalls$Past" ({ cls := "CarpetHalls$Past", name := "restore", desc := "(LCarpetHalls$Floor;)V" } : Jvm.MethodName) ({ cls := "CarpetHalls$Past", name := "restore", desc := "(LCarpetHalls$Floor;)V" } : Jvm.MethodName)) ∈ th_tb := kg (kt_4 (List.mem_of_getElem? (i := 124) rfl)) rfl
theorem kw_845 : (Jvm.Cond.code ({ cls := "CarpetHalls$Past", name := "restore", desc := "(LCarpetHalls$Floor;)V" } : Jvm.MethodName) prog_6_method_6_code (2 : Nat) (Option.none : Option Jvm.ClassFile.FieldType)) ∈ th_tb := kg (kt_4 (List.mem_of_getElem? (i := 125) rfl)) rfl
theorem kw_846 : (Jvm.Cond.methodLink "CarpetHallsLaw" (67 : Nat) ({ cls := "CarpetHalls", name := "fault", desc := "()I" } : Jvm.MethodName)) ∈ th_tb := kg (kt_4 (List.mem_of_getElem? (i := 126) rfl)) rfl
theorem kw_847 : (Jvm.Cond.instanceMethod ({ cls := "CarpetHalls", name := "fault", desc := "()I" } : Jvm.MethodName)) ∈ th_tb := kg (kt_4 (List.mem_of_getElem? (i := 127) rfl)) rfl
theorem kw_848 : (Jvm.Cond.selects "CarpetHalls" ({ cls := "CarpetHalls", name := "fault", desc := "()I" } : Jvm.MethodName) ({ cls := "CarpetHalls", name := "fault", desc := "()I" } : Jvm.MethodName)) ∈ th_tb := kg (kt_4 (List.mem_of_getElem? (i := 128) rfl)) rfl
theorem kw_849 : (Jvm.Cond.code ({ cls := "CarpetHalls", name := "fault", desc := "()I" } : Jvm.MethodName) prog_1_method_14_code (1 : Nat) (Option.some Jvm.ClassFile.FieldType.int)) ∈ th_tb := kg (kt_4 (List.mem_of_getElem? (i := 129) rfl)) rfl
theorem kw_850 : (Jvm.Cond.methodLink "CarpetHallsLaw" (71 : Nat) ({ cls := "CarpetHalls", name := "stopped", desc := "()I" } : Jvm.MethodName)) ∈ th_tb := kg (kt_4 (List.mem_of_getElem? (i := 130) rfl)) rfl
theorem kw_851 : (Jvm.Cond.instanceMethod ({ cls := "CarpetHalls", name := "stopped", desc := "()I" } : Jvm.MethodName)) ∈ th_tb := kg (kt_4 (List.mem_of_getElem? (i := 131) rfl)) rfl
theorem kw_852 : (Jvm.Cond.selects "CarpetHalls" ({ cls := "CarpetHalls", name := "stopped", desc := "()I" } : Jvm.MethodName) ({ cls := "CarpetHalls", name := "stopped", desc := "()I" } : Jvm.MethodName)) ∈ th_tb := kg (kt_4 (List.mem_of_getElem? (i := 132) rfl)) rfl
theorem kw_853 : (Jvm.Cond.code ({ cls := "CarpetHalls", name := "stopped", desc := "()I" } : Jvm.MethodName) prog_1_method_15_code (1 : Nat) (Option.some Jvm.ClassFile.FieldType.int)) ∈ th_tb := kg (kt_4 (List.mem_of_getElem? (i := 133) rfl)) rfl
theorem kw_854 : (Jvm.Cond.methodLink "CarpetHallsLaw" (75 : Nat) ({ cls := "CarpetHalls", name := "force", desc := "(I)I" } : Jvm.MethodName)) ∈ th_tb := kg (kt_4 (List.mem_of_getElem? (i := 134) rfl)) rfl
theorem kw_855 : (Jvm.Cond.instanceMethod ({ cls := "CarpetHalls", name := "force", desc := "(I)I" } : Jvm.MethodName)) ∈ th_tb := kg (kt_4 (List.mem_of_getElem? (i := 135) rfl)) rfl
theorem kw_856 : (Jvm.Cond.selects "CarpetHalls" ({ cls := "CarpetHalls", name := "force", desc := "(I)I" } : Jvm.MethodName) ({ cls := "CarpetHalls", name := "force", desc := "(I)I" } : Jvm.MethodName)) ∈ th_tb := kg (kt_4 (List.mem_of_getElem? (i := 136) rfl)) rfl
theorem kw_857 : (Jvm.Cond.code ({ cls := "CarpetHalls", name := "force", desc := "(I)I" } : Jvm.MethodName) prog_1_method_16_code (3 : Nat) (Option.some Jvm.ClassFile.FieldType.int)) ∈ th_tb := kg (kt_4 (List.mem_of_getElem? (i := 137) rfl)) rfl
theorem kw_858 : (Jvm.Cond.methodLink "CarpetHalls" (226 : Nat) ({ cls := "CarpetHalls$Stand", name := "lawOf", desc := "(I)LCarpetHalls$Text;" } : Jvm.MethodName)) ∈ th_tb := kg (kt_4 (List.mem_of_getElem? (i := 138) rfl)) rfl
theorem kw_859 : (Jvm.Cond.methodLink "CarpetHallsLaw" (79 : Nat) ({ cls := "CarpetHalls", name := "lay", desc := "(III)I" } : Jvm.MethodName)) ∈ th_tb := kg (kt_4 (List.mem_of_getElem? (i := 139) rfl)) rfl
theorem kw_860 : (Jvm.Cond.instanceMethod ({ cls := "CarpetHalls", name := "lay", desc := "(III)I" } : Jvm.MethodName)) ∈ th_tb := kg (kt_4 (List.mem_of_getElem? (i := 140) rfl)) rfl
theorem kw_861 : (Jvm.Cond.selects "CarpetHalls" ({ cls := "CarpetHalls", name := "lay", desc := "(III)I" } : Jvm.MethodName) ({ cls := "CarpetHalls", name := "lay", desc := "(III)I" } : Jvm.MethodName)) ∈ th_tb := kg (kt_4 (List.mem_of_getElem? (i := 141) rfl)) rfl
theorem kw_862 : (Jvm.Cond.code ({ cls := "CarpetHalls", name := "lay", desc := "(III)I" } : Jvm.MethodName) prog_1_method_17_code (4 : Nat) (Option.some Jvm.ClassFile.FieldType.int)) ∈ th_tb := kg (kt_4 (List.mem_of_getElem? (i := 142) rfl)) rfl
theorem kw_863 : (Jvm.Cond.methodLink "CarpetHallsLaw" (83 : Nat) ({ cls := "CarpetHalls", name := "roll", desc := "(I)I" } : Jvm.MethodName)) ∈ th_tb := kg (kt_4 (List.mem_of_getElem? (i := 143) rfl)) rfl
theorem kw_864 : (Jvm.Cond.instanceMethod ({ cls := "CarpetHalls", name := "roll", desc := "(I)I" } : Jvm.MethodName)) ∈ th_tb := kg (kt_4 (List.mem_of_getElem? (i := 144) rfl)) rfl
theorem kw_865 : (Jvm.Cond.selects "CarpetHalls" ({ cls := "CarpetHalls", name := "roll", desc := "(I)I" } : Jvm.MethodName) ({ cls := "CarpetHalls", name := "roll", desc := "(I)I" } : Jvm.MethodName)) ∈ th_tb := kg (kt_4 (List.mem_of_getElem? (i := 145) rfl)) rfl
theorem kw_866 : (Jvm.Cond.code ({ cls := "CarpetHalls", name := "roll", desc := "(I)I" } : Jvm.MethodName) prog_1_method_18_code (2 : Nat) (Option.some Jvm.ClassFile.FieldType.int)) ∈ th_tb := kg (kt_4 (List.mem_of_getElem? (i := 146) rfl)) rfl
theorem kw_867 : (Jvm.Cond.methodLink "CarpetHallsLaw" (87 : Nat) ({ cls := "CarpetHalls", name := "mirror", desc := "()I" } : Jvm.MethodName)) ∈ th_tb := kg (kt_4 (List.mem_of_getElem? (i := 147) rfl)) rfl
theorem kw_868 : (Jvm.Cond.instanceMethod ({ cls := "CarpetHalls", name := "mirror", desc := "()I" } : Jvm.MethodName)) ∈ th_tb := kg (kt_4 (List.mem_of_getElem? (i := 148) rfl)) rfl
theorem kw_869 : (Jvm.Cond.selects "CarpetHalls" ({ cls := "CarpetHalls", name := "mirror", desc := "()I" } : Jvm.MethodName) ({ cls := "CarpetHalls", name := "mirror", desc := "()I" } : Jvm.MethodName)) ∈ th_tb := kg (kt_4 (List.mem_of_getElem? (i := 149) rfl)) rfl
theorem kw_870 : (Jvm.Cond.code ({ cls := "CarpetHalls", name := "mirror", desc := "()I" } : Jvm.MethodName) prog_1_method_19_code (1 : Nat) (Option.some Jvm.ClassFile.FieldType.int)) ∈ th_tb := kg (kt_4 (List.mem_of_getElem? (i := 150) rfl)) rfl
theorem kw_871 : (Jvm.Cond.methodLink "CarpetHallsLaw" (91 : Nat) ({ cls := "CarpetHalls", name := "pass", desc := "()I" } : Jvm.MethodName)) ∈ th_tb := kg (kt_4 (List.mem_of_getElem? (i := 151) rfl)) rfl
theorem kw_872 : (Jvm.Cond.instanceMethod ({ cls := "CarpetHalls", name := "pass", desc := "()I" } : Jvm.MethodName)) ∈ th_tb := kg (kt_4 (List.mem_of_getElem? (i := 152) rfl)) rfl
theorem kw_873 : (Jvm.Cond.selects "CarpetHalls" ({ cls := "CarpetHalls", name := "pass", desc := "()I" } : Jvm.MethodName) ({ cls := "CarpetHalls", name := "pass", desc := "()I" } : Jvm.MethodName)) ∈ th_tb := kg (kt_4 (List.mem_of_getElem? (i := 153) rfl)) rfl
theorem kw_874 : (Jvm.Cond.code ({ cls := "CarpetHalls", name := "pass", desc := "()I" } : Jvm.MethodName) prog_1_method_20_code (1 : Nat) (Option.some Jvm.ClassFile.FieldType.int)) ∈ th_tb := kg (kt_4 (List.mem_of_getElem? (i := 154) rfl)) rfl
theorem kw_875 : (Jvm.Cond.methodLink "CarpetHallsLaw" (95 : Nat) ({ cls := "CarpetHalls", name := "undo", desc := "()I" } : Jvm.MethodName)) ∈ th_tb := kg (kt_4 (List.mem_of_getElem? (i := 155) rfl)) rfl
theorem kw_876 : (Jvm.Cond.instanceMethod ({ cls := "CarpetHalls", name := "undo", desc := "()I" } : Jvm.MethodName)) ∈ th_tb := kg (kt_4 (List.mem_of_getElem? (i := 156) rfl)) rfl
theorem kw_877 : (Jvm.Cond.selects "CarpetHalls" ({ cls := "CarpetHalls", name := "undo", desc := "()I" } : Jvm.MethodName) ({ cls := "CarpetHalls", name := "undo", desc := "()I" } : Jvm.MethodName)) ∈ th_tb := kg (kt_4 (List.mem_of_getElem? (i := 157) rfl)) rfl
theorem kw_878 : (Jvm.Cond.code ({ cls := "CarpetHalls", name := "undo", desc := "()I" } : Jvm.MethodName) prog_1_method_21_code (1 : Nat) (Option.some Jvm.ClassFile.FieldType.int)) ∈ th_tb := kg (kt_4 (List.mem_of_getElem? (i := 158) rfl)) rfl
theorem kw_879 : (Jvm.Cond.methodLink "CarpetHalls" (245 : Nat) ({ cls := "CarpetHalls$Past", name := "takeBack", desc := "(LCarpetHalls$Floor;)I" } : Jvm.MethodName)) ∈ th_tb := kg (kt_4 (List.mem_of_getElem? (i := 159) rfl)) rfl
theorem kw_880 : (Jvm.Cond.instanceMethod ({ cls := "CarpetHalls$Past", name := "takeBack", desc := "(LCarpetHalls$Floor;)I" } : Jvm.MethodName)) ∈ th_tb := kg (kt_4 (List.mem_of_getElem? (i := 160) rfl)) rfl
theorem kw_881 : (Jvm.Cond.selects "CarpetHalls$Past" ({ cls := "CarpetHalls$Past", name := "takeBack", desc := "(LCarpetHalls$Floor;)I" } : Jvm.MethodName) ({ cls := "CarpetHalls$Past", name := "takeBack", desc := "(LCarpetHalls$Floor;)I" } : Jvm.MethodName)) ∈ th_tb := kg (kt_4 (List.mem_of_getElem? (i := 161) rfl)) rfl
theorem kw_882 : (Jvm.Cond.code ({ cls := "CarpetHalls$Past", name := "takeBack", desc := "(LCarpetHalls$Floor;)I" } : Jvm.MethodName) prog_6_method_4_code (3 : Nat) (Option.some Jvm.ClassFile.FieldType.int)) ∈ th_tb := kg (kt_4 (List.mem_of_getElem? (i := 162) rfl)) rfl
theorem kw_883 : (Jvm.Cond.methodLink "CarpetHallsLaw" (99 : Nat) ({ cls := "CarpetHalls", name := "bare", desc := "(I)I" } : Jvm.MethodName)) ∈ th_tb := kg (kt_4 (List.mem_of_getElem? (i := 163) rfl)) rfl
theorem kw_884 : (Jvm.Cond.instanceMethod ({ cls := "CarpetHalls", name := "bare", desc := "(I)I" } : Jvm.MethodName)) ∈ th_tb := kg (kt_4 (List.mem_of_getElem? (i := 164) rfl)) rfl
theorem kw_885 : (Jvm.Cond.selects "CarpetHalls" ({ cls := "CarpetHalls", name := "bare", desc := "(I)I" } : Jvm.MethodName) ({ cls := "CarpetHalls", name := "bare", desc := "(I)I" } : Jvm.MethodName)) ∈ th_tb := kg (kt_4 (List.mem_of_getElem? (i := 165) rfl)) rfl
theorem kw_886 : (Jvm.Cond.code ({ cls := "CarpetHalls", name := "bare", desc := "(I)I" } : Jvm.MethodName) prog_1_method_22_code (4 : Nat) (Option.some Jvm.ClassFile.FieldType.int)) ∈ th_tb := kg (kt_4 (List.mem_of_getElem? (i := 166) rfl)) rfl
theorem kw_887 : (Jvm.Cond.methodLink "CarpetHalls" (252 : Nat) ({ cls := "CarpetHalls$Floor", name := "firstBareCell", desc := "()I" } : Jvm.MethodName)) ∈ th_tb := kg (kt_4 (List.mem_of_getElem? (i := 167) rfl)) rfl
theorem kw_888 : (Jvm.Cond.instanceMethod ({ cls := "CarpetHalls$Floor", name := "firstBareCell", desc := "()I" } : Jvm.MethodName)) ∈ th_tb := kg (kt_4 (List.mem_of_getElem? (i := 168) rfl)) rfl
theorem kw_889 : (Jvm.Cond.selects "CarpetHalls$Floor" ({ cls := "CarpetHalls$Floor", name := "firstBareCell", desc := "()I" } : Jvm.MethodName) ({ cls := "CarpetHalls$Floor", name := "firstBareCell", desc := "()I" } : Jvm.MethodName)) ∈ th_tb := kg (kt_4 (List.mem_of_getElem? (i := 169) rfl)) rfl
theorem kw_890 : (Jvm.Cond.code ({ cls := "CarpetHalls$Floor", name := "firstBareCell", desc := "()I" } : Jvm.MethodName) prog_3_method_18_code (4 : Nat) (Option.some Jvm.ClassFile.FieldType.int)) ∈ th_tb := kg (kt_4 (List.mem_of_getElem? (i := 170) rfl)) rfl
theorem kw_891 : (Jvm.Cond.methodLink "CarpetHalls$Floor" (84 : Nat) ({ cls := "CarpetHalls$Floor", name := "drawRows", desc := "()V" } : Jvm.MethodName)) ∈ th_tb := kg (kt_4 (List.mem_of_getElem? (i := 171) rfl)) rfl
theorem kw_892 : (Jvm.Cond.instanceMethod ({ cls := "CarpetHalls$Floor", name := "drawRows", desc := "()V" } : Jvm.MethodName)) ∈ th_tb := kg (kt_4 (List.mem_of_getElem? (i := 172) rfl)) rfl
theorem kw_893 : (Jvm.Cond.selects "CarpetHalls$Floor" ({ cls := "CarpetHalls$Floor", name := "drawRows", desc := "()V" } : Jvm.MethodName) ({ cls := "CarpetHalls$Floor", name := "drawRows", desc := "()V" } : Jvm.MethodName)) ∈ th_tb := kg (kt_4 (List.mem_of_getElem? (i := 173) rfl)) rfl
theorem kw_894 : (Jvm.Cond.code ({ cls := "CarpetHalls$Floor", name := "drawRows", desc := "()V" } : Jvm.MethodName) prog_3_method_17_code (4 : Nat) (Option.none : Option Jvm.ClassFile.FieldType)) ∈ th_tb := kg (kt_4 (List.mem_of_getElem? (i := 174) rfl)) rfl
theorem kw_895 : (Jvm.Cond.methodLink "CarpetHalls$Floor" (78 : Nat) ({ cls := "java/util/Arrays", name := "fill", desc := "([II)V" } : Jvm.MethodName)) ∈ th_tb := kg (kt_4 (List.mem_of_getElem? (i := 175) rfl)) rfl
theorem kw_896 : (Jvm.Cond.static ({ cls := "java/util/Arrays", name := "fill", desc := "([II)V" } : Jvm.MethodName)) ∈ th_tb := kg (kt_4 (List.mem_of_getElem? (i := 176) rfl)) rfl
theorem kw_897 : (Jvm.Cond.code ({ cls := "java/util/Arrays", name := "fill", desc := "([II)V" } : Jvm.MethodName) prog_21_method_103_code (4 : Nat) (Option.none : Option Jvm.ClassFile.FieldType)) ∈ th_tb := kg (kt_4 (List.mem_of_getElem? (i := 177) rfl)) rfl
theorem kw_898 : (Jvm.Cond.methodLink "CarpetHallsLaw" (103 : Nat) ({ cls := "CarpetHalls", name := "fill", desc := "(I)I" } : Jvm.MethodName)) ∈ th_tb := kg (kt_4 (List.mem_of_getElem? (i := 178) rfl)) rfl
theorem kw_899 : (Jvm.Cond.instanceMethod ({ cls := "CarpetHalls", name := "fill", desc := "(I)I" } : Jvm.MethodName)) ∈ th_tb := kg (kt_4 (List.mem_of_getElem? (i := 179) rfl)) rfl
theorem kw_900 : (Jvm.Cond.selects "CarpetHalls" ({ cls := "CarpetHalls", name := "fill", desc := "(I)I" } : Jvm.MethodName) ({ cls := "CarpetHalls", name := "fill", desc := "(I)I" } : Jvm.MethodName)) ∈ th_tb := kg (kt_4 (List.mem_of_getElem? (i := 180) rfl)) rfl
theorem kw_901 : (Jvm.Cond.code ({ cls := "CarpetHalls", name := "fill", desc := "(I)I" } : Jvm.MethodName) prog_1_method_23_code (2 : Nat) (Option.some Jvm.ClassFile.FieldType.int)) ∈ th_tb := kg (kt_4 (List.mem_of_getElem? (i := 181) rfl)) rfl
theorem kw_902 : (Jvm.Cond.methodLink "CarpetHalls" (255 : Nat) ({ cls := "CarpetHalls$Search", name := "prepare", desc := "(LCarpetHalls$Floor;LCarpetHalls$Text;LCarpetHalls$Judge;)V" } : Jvm.MethodName)) ∈ th_tb := kg (kt_4 (List.mem_of_getElem? (i := 182) rfl)) rfl
theorem kw_903 : (Jvm.Cond.instanceMethod ({ cls := "CarpetHalls$Search", name := "prepare", desc := "(LCarpetHalls$Floor;LCarpetHalls$Text;LCarpetHalls$Judge;)V" } : Jvm.MethodName)) ∈ th_tb := kg (kt_4 (List.mem_of_getElem? (i := 183) rfl)) rfl
theorem kw_904 : (Jvm.Cond.selects "CarpetHalls$Search" ({ cls := "CarpetHalls$Search", name := "prepare", desc := "(LCarpetHalls$Floor;LCarpetHalls$Text;LCarpetHalls$Judge;)V" } : Jvm.MethodName) ({ cls := "CarpetHalls$Search", name := "prepare", desc := "(LCarpetHalls$Floor;LCarpetHalls$Text;LCarpetHalls$Judge;)V" } : Jvm.MethodName)) ∈ th_tb := kg (kt_4 (List.mem_of_getElem? (i := 184) rfl)) rfl
theorem kw_905 : (Jvm.Cond.code ({ cls := "CarpetHalls$Search", name := "prepare", desc := "(LCarpetHalls$Floor;LCarpetHalls$Text;LCarpetHalls$Judge;)V" } : Jvm.MethodName) prog_9_method_2_code (4 : Nat) (Option.none : Option Jvm.ClassFile.FieldType)) ∈ th_tb := kg (kt_4 (List.mem_of_getElem? (i := 185) rfl)) rfl
theorem kw_906 : (Jvm.Cond.methodLink "CarpetHalls$Search" (54 : Nat) ({ cls := "CarpetHalls$Floor", name := "drawRows", desc := "()V" } : Jvm.MethodName)) ∈ th_tb := kg (kt_4 (List.mem_of_getElem? (i := 186) rfl)) rfl
theorem kw_907 : (Jvm.Cond.methodLink "CarpetHalls$Search" (59 : Nat) ({ cls := "CarpetHalls$Floor", name := "bareCells", desc := "()I" } : Jvm.MethodName)) ∈ th_tb := kg (kt_4 (List.mem_of_getElem? (i := 187) rfl)) rfl
theorem kw_908 : (Jvm.Cond.methodLink "CarpetHalls" (259 : Nat) ({ cls := "CarpetHalls$Search", name := "number", desc := "(I)I" } : Jvm.MethodName)) ∈ th_tb := kg (kt_4 (List.mem_of_getElem? (i := 188) rfl)) rfl
theorem kw_909 : (Jvm.Cond.instanceMethod ({ cls := "CarpetHalls$Search", name := "number", desc := "(I)I" } : Jvm.MethodName)) ∈ th_tb := kg (kt_4 (List.mem_of_getElem? (i := 189) rfl)) rfl
theorem kw_910 : (Jvm.Cond.selects "CarpetHalls$Search" ({ cls := "CarpetHalls$Search", name := "number", desc := "(I)I" } : Jvm.MethodName) ({ cls := "CarpetHalls$Search", name := "number", desc := "(I)I" } : Jvm.MethodName)) ∈ th_tb := kg (kt_4 (List.mem_of_getElem? (i := 190) rfl)) rfl
theorem kw_911 : (Jvm.Cond.code ({ cls := "CarpetHalls$Search", name := "number", desc := "(I)I" } : Jvm.MethodName) prog_9_method_4_code (2 : Nat) (Option.some Jvm.ClassFile.FieldType.int)) ∈ th_tb := kg (kt_4 (List.mem_of_getElem? (i := 191) rfl)) rfl
theorem kw_912 : (Jvm.Cond.methodLink "CarpetHalls$Search" (93 : Nat) ({ cls := "CarpetHalls$Search", name := "begin", desc := "(ZI)V" } : Jvm.MethodName)) ∈ th_tb := kg (kt_4 (List.mem_of_getElem? (i := 192) rfl)) rfl
theorem kw_914 : (Jvm.Cond.instanceMethod ({ cls := "CarpetHalls$Search", name := "begin", desc := "(ZI)V" } : Jvm.MethodName)) ∈ th_tb := kg (kt_4 (List.mem_of_getElem? (i := 194) rfl)) rfl
theorem kw_915 : (Jvm.Cond.code ({ cls := "CarpetHalls$Search", name := "begin", desc := "(ZI)V" } : Jvm.MethodName) prog_9_method_11_code (3 : Nat) (Option.none : Option Jvm.ClassFile.FieldType)) ∈ th_tb := kg (kt_4 (List.mem_of_getElem? (i := 195) rfl)) rfl
theorem kw_916 : (Jvm.Cond.methodLink "CarpetHalls$Search" (138 : Nat) ({ cls := "CarpetHalls$Memo", name := "clear", desc := "()V" } : Jvm.MethodName)) ∈ th_tb := kg (kt_4 (List.mem_of_getElem? (i := 196) rfl)) rfl
theorem kw_917 : (Jvm.Cond.instanceMethod ({ cls := "CarpetHalls$Memo", name := "clear", desc := "()V" } : Jvm.MethodName)) ∈ th_tb := kg (kt_4 (List.mem_of_getElem? (i := 197) rfl)) rfl
theorem kw_918 : (Jvm.Cond.selects "CarpetHalls$Memo" ({ cls := "CarpetHalls$Memo", name := "clear", desc := "()V" } : Jvm.MethodName) ({ cls := "CarpetHalls$Memo", name := "clear", desc := "()V" } : Jvm.MethodName)) ∈ th_tb := kg (kt_4 (List.mem_of_getElem? (i := 198) rfl)) rfl
theorem kw_919 : (Jvm.Cond.code ({ cls := "CarpetHalls$Memo", name := "clear", desc := "()V" } : Jvm.MethodName) prog_5_method_2_code (2 : Nat) (Option.none : Option Jvm.ClassFile.FieldType)) ∈ th_tb := kg (kt_4 (List.mem_of_getElem? (i := 199) rfl)) rfl
theorem kw_920 : (Jvm.Cond.methodLink "CarpetHalls$Search" (97 : Nat) ({ cls := "CarpetHalls$Search", name := "areaReady", desc := "()I" } : Jvm.MethodName)) ∈ th_tb := kg (kt_4 (List.mem_of_getElem? (i := 200) rfl)) rfl
theorem kw_922 : (Jvm.Cond.instanceMethod ({ cls := "CarpetHalls$Search", name := "areaReady", desc := "()I" } : Jvm.MethodName)) ∈ th_tb := kg (kt_4 (List.mem_of_getElem? (i := 202) rfl)) rfl
theorem kw_923 : (Jvm.Cond.code ({ cls := "CarpetHalls$Search", name := "areaReady", desc := "()I" } : Jvm.MethodName) prog_9_method_12_code (3 : Nat) (Option.some Jvm.ClassFile.FieldType.int)) ∈ th_tb := kg (kt_4 (List.mem_of_getElem? (i := 203) rfl)) rfl
theorem kw_924 : (Jvm.Cond.methodLink "CarpetHalls$Search" (141 : Nat) ({ cls := "CarpetHalls$Floor", name := "isReady", desc := "(I)Z" } : Jvm.MethodName)) ∈ th_tb := kg (kt_4 (List.mem_of_getElem? (i := 204) rfl)) rfl
theorem kw_925 : (Jvm.Cond.methodLink "CarpetHalls$Search" (100 : Nat) ({ cls := "CarpetHalls$Search", name := "solve", desc := "(JIII)I" } : Jvm.MethodName)) ∈ th_tb := kg (kt_4 (List.mem_of_getElem? (i := 205) rfl)) rfl
theorem kw_927 : (Jvm.Cond.instanceMethod ({ cls := "CarpetHalls$Search", name := "solve", desc := "(JIII)I" } : Jvm.MethodName)) ∈ th_tb := kg (kt_4 (List.mem_of_getElem? (i := 207) rfl)) rfl
theorem kw_928 : (Jvm.Cond.code ({ cls := "CarpetHalls$Search", name := "solve", desc := "(JIII)I" } : Jvm.MethodName) prog_9_method_13_code (11 : Nat) (Option.some Jvm.ClassFile.FieldType.int)) ∈ th_tb := kg (kt_4 (List.mem_of_getElem? (i := 208) rfl)) rfl
theorem kw_929 : (Jvm.Cond.methodLink "CarpetHalls$Search" (145 : Nat) ({ cls := "CarpetHalls$Memo", name := "find", desc := "(J)I" } : Jvm.MethodName)) ∈ th_tb := kg (kt_4 (List.mem_of_getElem? (i := 209) rfl)) rfl
theorem kw_930 : (Jvm.Cond.instanceMethod ({ cls := "CarpetHalls$Memo", name := "find", desc := "(J)I" } : Jvm.MethodName)) ∈ th_tb := kg (kt_4 (List.mem_of_getElem? (i := 210) rfl)) rfl
theorem kw_931 : (Jvm.Cond.selects "CarpetHalls$Memo" ({ cls := "CarpetHalls$Memo", name := "find", desc := "(J)I" } : Jvm.MethodName) ({ cls := "CarpetHalls$Memo", name := "find", desc := "(J)I" } : Jvm.MethodName)) ∈ th_tb := kg (kt_4 (List.mem_of_getElem? (i := 211) rfl)) rfl
theorem kw_932 : (Jvm.Cond.code ({ cls := "CarpetHalls$Memo", name := "find", desc := "(J)I" } : Jvm.MethodName) prog_5_method_4_code (4 : Nat) (Option.some Jvm.ClassFile.FieldType.int)) ∈ th_tb := kg (kt_4 (List.mem_of_getElem? (i := 212) rfl)) rfl
theorem kw_933 : (Jvm.Cond.methodLink "CarpetHalls$Memo" (46 : Nat) ({ cls := "CarpetHalls$Memo", name := "slotFor", desc := "(J)I" } : Jvm.MethodName)) ∈ th_tb := kg (kt_4 (List.mem_of_getElem? (i := 213) rfl)) rfl
theorem kw_935 : (Jvm.Cond.instanceMethod ({ cls := "CarpetHalls$Memo", name := "slotFor", desc := "(J)I" } : Jvm.MethodName)) ∈ th_tb := kg (kt_4 (List.mem_of_getElem? (i := 215) rfl)) rfl
theorem kw_936 : (Jvm.Cond.code ({ cls := "CarpetHalls$Memo", name := "slotFor", desc := "(J)I" } : Jvm.MethodName) prog_5_method_3_code (5 : Nat) (Option.some Jvm.ClassFile.FieldType.int)) ∈ th_tb := kg (kt_4 (List.mem_of_getElem? (i := 216) rfl)) rfl
theorem kw_937 : (Jvm.Cond.constantLong "CarpetHalls$Memo" (44 : Nat) (-7046029254386353131 : Int64)) ∈ th_tb := kg (kt_4 (List.mem_of_getElem? (i := 217) rfl)) rfl
theorem kw_938 : (Jvm.Cond.methodLink "CarpetHalls$Search" (149 : Nat) ({ cls := "CarpetHalls$Memo", name := "valueIn", desc := "(I)I" } : Jvm.MethodName)) ∈ th_tb := kg (kt_4 (List.mem_of_getElem? (i := 218) rfl)) rfl
theorem kw_939 : (Jvm.Cond.instanceMethod ({ cls := "CarpetHalls$Memo", name := "valueIn", desc := "(I)I" } : Jvm.MethodName)) ∈ th_tb := kg (kt_4 (List.mem_of_getElem? (i := 219) rfl)) rfl
theorem kw_940 : (Jvm.Cond.selects "CarpetHalls$Memo" ({ cls := "CarpetHalls$Memo", name := "valueIn", desc := "(I)I" } : Jvm.MethodName) ({ cls := "CarpetHalls$Memo", name := "valueIn", desc := "(I)I" } : Jvm.MethodName)) ∈ th_tb := kg (kt_4 (List.mem_of_getElem? (i := 220) rfl)) rfl
theorem kw_941 : (Jvm.Cond.code ({ cls := "CarpetHalls$Memo", name := "valueIn", desc := "(I)I" } : Jvm.MethodName) prog_5_method_10_code (2 : Nat) (Option.some Jvm.ClassFile.FieldType.int)) ∈ th_tb := kg (kt_4 (List.mem_of_getElem? (i := 221) rfl)) rfl
theorem kw_942 : (Jvm.Cond.methodLink "CarpetHalls$Search" (104 : Nat) ({ cls := "CarpetHalls$Search", name := "firstBare", desc := "(JI)I" } : Jvm.MethodName)) ∈ th_tb := kg (kt_4 (List.mem_of_getElem? (i := 222) rfl)) rfl
theorem kw_944 : (Jvm.Cond.instanceMethod ({ cls := "CarpetHalls$Search", name := "firstBare", desc := "(JI)I" } : Jvm.MethodName)) ∈ th_tb := kg (kt_4 (List.mem_of_getElem? (i := 224) rfl)) rfl
theorem kw_945 : (Jvm.Cond.code ({ cls := "CarpetHalls$Search", name := "firstBare", desc := "(JI)I" } : Jvm.MethodName) prog_9_method_16_code (5 : Nat) (Option.some Jvm.ClassFile.FieldType.int)) ∈ th_tb := kg (kt_4 (List.mem_of_getElem? (i := 225) rfl)) rfl
theorem kw_946 : (Jvm.Cond.methodLink "CarpetHalls$Search" (115 : Nat) ({ cls := "CarpetHalls$Search", name := "isBare", desc := "(JI)Z" } : Jvm.MethodName)) ∈ th_tb := kg (kt_4 (List.mem_of_getElem? (i := 226) rfl)) rfl
theorem kw_948 : (Jvm.Cond.instanceMethod ({ cls := "CarpetHalls$Search", name := "isBare", desc := "(JI)Z" } : Jvm.MethodName)) ∈ th_tb := kg (kt_4 (List.mem_of_getElem? (i := 228) rfl)) rfl
theorem kw_949 : (Jvm.Cond.code ({ cls := "CarpetHalls$Search", name := "isBare", desc := "(JI)Z" } : Jvm.MethodName) prog_9_method_15_code (6 : Nat) (Option.some Jvm.ClassFile.FieldType.boolean)) ∈ th_tb := kg (kt_4 (List.mem_of_getElem? (i := 229) rfl)) rfl
theorem kw_950 : (Jvm.Cond.constantLong "CarpetHalls$Search" (170 : Nat) (15 : Int64)) ∈ th_tb := kg (kt_4 (List.mem_of_getElem? (i := 230) rfl)) rfl
theorem kw_951 : (Jvm.Cond.methodLink "CarpetHalls$Search" (108 : Nat) ({ cls := "CarpetHalls$Search", name := "fits", desc := "(JII)Z" } : Jvm.MethodName)) ∈ th_tb := kg (kt_4 (List.mem_of_getElem? (i := 231) rfl)) rfl
theorem kw_953 : (Jvm.Cond.instanceMethod ({ cls := "CarpetHalls$Search", name := "fits", desc := "(JII)Z" } : Jvm.MethodName)) ∈ th_tb := kg (kt_4 (List.mem_of_getElem? (i := 233) rfl)) rfl
theorem kw_954 : (Jvm.Cond.code ({ cls := "CarpetHalls$Search", name := "fits", desc := "(JII)Z" } : Jvm.MethodName) prog_9_method_17_code (10 : Nat) (Option.some Jvm.ClassFile.FieldType.boolean)) ∈ th_tb := kg (kt_4 (List.mem_of_getElem? (i := 234) rfl)) rfl
theorem kw_955 : (Jvm.Cond.methodLink "CarpetHalls$Search" (172 : Nat) ({ cls := "CarpetHalls$Search", name := "agreesWithSeen", desc := "(III)Z" } : Jvm.MethodName)) ∈ th_tb := kg (kt_4 (List.mem_of_getElem? (i := 235) rfl)) rfl
theorem kw_957 : (Jvm.Cond.instanceMethod ({ cls := "CarpetHalls$Search", name := "agreesWithSeen", desc := "(III)Z" } : Jvm.MethodName)) ∈ th_tb := kg (kt_4 (List.mem_of_getElem? (i := 237) rfl)) rfl
theorem kw_958 : (Jvm.Cond.code ({ cls := "CarpetHalls$Search", name := "agreesWithSeen", desc := "(III)Z" } : Jvm.MethodName) prog_9_method_18_code (7 : Nat) (Option.some Jvm.ClassFile.FieldType.boolean)) ∈ th_tb := kg (kt_4 (List.mem_of_getElem? (i := 238) rfl)) rfl
theorem kw_959 : (Jvm.Cond.methodLink "CarpetHalls$Search" (112 : Nat) ({ cls := "CarpetHalls$Search", name := "priceAt", desc := "(II)I" } : Jvm.MethodName)) ∈ th_tb := kg (kt_4 (List.mem_of_getElem? (i := 239) rfl)) rfl
theorem kw_961 : (Jvm.Cond.instanceMethod ({ cls := "CarpetHalls$Search", name := "priceAt", desc := "(II)I" } : Jvm.MethodName)) ∈ th_tb := kg (kt_5 (List.mem_of_getElem? (i := 1) rfl)) rfl
theorem kw_962 : (Jvm.Cond.code ({ cls := "CarpetHalls$Search", name := "priceAt", desc := "(II)I" } : Jvm.MethodName) prog_9_method_19_code (6 : Nat) (Option.some Jvm.ClassFile.FieldType.int)) ∈ th_tb := kg (kt_5 (List.mem_of_getElem? (i := 2) rfl)) rfl
theorem kw_963 : (Jvm.Cond.methodLink "CarpetHalls$Search" (176 : Nat) ({ cls := "CarpetHalls$Judge", name := "isBarred", desc := "(LCarpetHalls$Text;LCarpetHalls$Floor;III)Z" } : Jvm.MethodName)) ∈ th_tb := kg (kt_5 (List.mem_of_getElem? (i := 3) rfl)) rfl
theorem kw_964 : (Jvm.Cond.methodLink "CarpetHalls$Search" (182 : Nat) ({ cls := "CarpetHalls$Judge", name := "costOf", desc := "(LCarpetHalls$Text;LCarpetHalls$Floor;III)I" } : Jvm.MethodName)) ∈ th_tb := kg (kt_5 (List.mem_of_getElem? (i := 4) rfl)) rfl
theorem kw_965 : (Jvm.Cond.methodLink "CarpetHalls$Search" (152 : Nat) ({ cls := "CarpetHalls$Search", name := "keyWith", desc := "(JII)J" } : Jvm.MethodName)) ∈ th_tb := kg (kt_5 (List.mem_of_getElem? (i := 5) rfl)) rfl
theorem kw_967 : (Jvm.Cond.instanceMethod ({ cls := "CarpetHalls$Search", name := "keyWith", desc := "(JII)J" } : Jvm.MethodName)) ∈ th_tb := kg (kt_5 (List.mem_of_getElem? (i := 7) rfl)) rfl
theorem kw_968 : (Jvm.Cond.code ({ cls := "CarpetHalls$Search", name := "keyWith", desc := "(JII)J" } : Jvm.MethodName) prog_9_method_20_code (10 : Nat) (Option.some Jvm.ClassFile.FieldType.long)) ∈ th_tb := kg (kt_5 (List.mem_of_getElem? (i := 8) rfl)) rfl
theorem kw_969 : (Jvm.Cond.constantLong "CarpetHalls$Search" (186 : Nat) (-1 : Int64)) ∈ th_tb := kg (kt_5 (List.mem_of_getElem? (i := 9) rfl)) rfl
theorem kw_970 : (Jvm.Cond.constantLong "CarpetHalls$Search" (188 : Nat) (18764998447377 : Int64)) ∈ th_tb := kg (kt_5 (List.mem_of_getElem? (i := 10) rfl)) rfl
theorem kw_971 : (Jvm.Cond.methodLink "CarpetHalls$Search" (156 : Nat) ({ cls := "CarpetHalls$Search", name := "cheaper", desc := "(III)I" } : Jvm.MethodName)) ∈ th_tb := kg (kt_5 (List.mem_of_getElem? (i := 11) rfl)) rfl
theorem kw_972 : (Jvm.Cond.static ({ cls := "CarpetHalls$Search", name := "cheaper", desc := "(III)I" } : Jvm.MethodName)) ∈ th_tb := kg (kt_5 (List.mem_of_getElem? (i := 12) rfl)) rfl
theorem kw_973 : (Jvm.Cond.code ({ cls := "CarpetHalls$Search", name := "cheaper", desc := "(III)I" } : Jvm.MethodName) prog_9_method_14_code (3 : Nat) (Option.some Jvm.ClassFile.FieldType.int)) ∈ th_tb := kg (kt_5 (List.mem_of_getElem? (i := 13) rfl)) rfl
theorem kw_974 : (Jvm.Cond.methodLink "CarpetHalls$Search" (164 : Nat) ({ cls := "java/lang/Math", name := "min", desc := "(II)I" } : Jvm.MethodName)) ∈ th_tb := kg (kt_5 (List.mem_of_getElem? (i := 14) rfl)) rfl
theorem kw_975 : (Jvm.Cond.methodLink "CarpetHalls$Search" (160 : Nat) ({ cls := "CarpetHalls$Memo", name := "keep", desc := "(JI)V" } : Jvm.MethodName)) ∈ th_tb := kg (kt_5 (List.mem_of_getElem? (i := 15) rfl)) rfl
theorem kw_976 : (Jvm.Cond.instanceMethod ({ cls := "CarpetHalls$Memo", name := "keep", desc := "(JI)V" } : Jvm.MethodName)) ∈ th_tb := kg (kt_5 (List.mem_of_getElem? (i := 16) rfl)) rfl
theorem kw_977 : (Jvm.Cond.selects "CarpetHalls$Memo" ({ cls := "CarpetHalls$Memo", name := "keep", desc := "(JI)V" } : Jvm.MethodName) ({ cls := "CarpetHalls$Memo", name := "keep", desc := "(JI)V" } : Jvm.MethodName)) ∈ th_tb := kg (kt_5 (List.mem_of_getElem? (i := 17) rfl)) rfl
theorem kw_978 : (Jvm.Cond.code ({ cls := "CarpetHalls$Memo", name := "keep", desc := "(JI)V" } : Jvm.MethodName) prog_5_method_5_code (4 : Nat) (Option.none : Option Jvm.ClassFile.FieldType)) ∈ th_tb := kg (kt_5 (List.mem_of_getElem? (i := 18) rfl)) rfl
theorem kw_979 : (Jvm.Cond.methodLink "CarpetHalls$Memo" (50 : Nat) ({ cls := "CarpetHalls$Memo", name := "grow", desc := "()V" } : Jvm.MethodName)) ∈ th_tb := kg (kt_5 (List.mem_of_getElem? (i := 19) rfl)) rfl
theorem kw_981 : (Jvm.Cond.instanceMethod ({ cls := "CarpetHalls$Memo", name := "grow", desc := "()V" } : Jvm.MethodName)) ∈ th_tb := kg (kt_5 (List.mem_of_getElem? (i := 21) rfl)) rfl
theorem kw_982 : (Jvm.Cond.code ({ cls := "CarpetHalls$Memo", name := "grow", desc := "()V" } : Jvm.MethodName) prog_5_method_7_code (5 : Nat) (Option.none : Option Jvm.ClassFile.FieldType)) ∈ th_tb := kg (kt_5 (List.mem_of_getElem? (i := 22) rfl)) rfl
theorem kw_983 : (Jvm.Cond.methodLink "CarpetHalls$Memo" (53 : Nat) ({ cls := "CarpetHalls$Memo", name := "put", desc := "(JII)V" } : Jvm.MethodName)) ∈ th_tb := kg (kt_5 (List.mem_of_getElem? (i := 23) rfl)) rfl
theorem kw_985 : (Jvm.Cond.instanceMethod ({ cls := "CarpetHalls$Memo", name := "put", desc := "(JII)V" } : Jvm.MethodName)) ∈ th_tb := kg (kt_5 (List.mem_of_getElem? (i := 25) rfl)) rfl
theorem kw_986 : (Jvm.Cond.code ({ cls := "CarpetHalls$Memo", name := "put", desc := "(JII)V" } : Jvm.MethodName) prog_5_method_6_code (6 : Nat) (Option.none : Option Jvm.ClassFile.FieldType)) ∈ th_tb := kg (kt_5 (List.mem_of_getElem? (i := 26) rfl)) rfl
theorem kw_987 : (Jvm.Cond.methodLink "CarpetHalls" (262 : Nat) ({ cls := "CarpetHalls$Search", name := "rowLength", desc := "()I" } : Jvm.MethodName)) ∈ th_tb := kg (kt_5 (List.mem_of_getElem? (i := 27) rfl)) rfl
theorem kw_988 : (Jvm.Cond.instanceMethod ({ cls := "CarpetHalls$Search", name := "rowLength", desc := "()I" } : Jvm.MethodName)) ∈ th_tb := kg (kt_5 (List.mem_of_getElem? (i := 28) rfl)) rfl
theorem kw_989 : (Jvm.Cond.selects "CarpetHalls$Search" ({ cls := "CarpetHalls$Search", name := "rowLength", desc := "()I" } : Jvm.MethodName) ({ cls := "CarpetHalls$Search", name := "rowLength", desc := "()I" } : Jvm.MethodName)) ∈ th_tb := kg (kt_5 (List.mem_of_getElem? (i := 29) rfl)) rfl
theorem kw_990 : (Jvm.Cond.code ({ cls := "CarpetHalls$Search", name := "rowLength", desc := "()I" } : Jvm.MethodName) prog_9_method_6_code (1 : Nat) (Option.some Jvm.ClassFile.FieldType.int)) ∈ th_tb := kg (kt_5 (List.mem_of_getElem? (i := 30) rfl)) rfl
theorem kw_991 : (Jvm.Cond.methodLink "CarpetHalls" (265 : Nat) ({ cls := "CarpetHalls$Search", name := "rowCarpet", desc := "(I)I" } : Jvm.MethodName)) ∈ th_tb := kg (kt_5 (List.mem_of_getElem? (i := 31) rfl)) rfl
theorem kw_992 : (Jvm.Cond.instanceMethod ({ cls := "CarpetHalls$Search", name := "rowCarpet", desc := "(I)I" } : Jvm.MethodName)) ∈ th_tb := kg (kt_5 (List.mem_of_getElem? (i := 32) rfl)) rfl
theorem kw_993 : (Jvm.Cond.selects "CarpetHalls$Search" ({ cls := "CarpetHalls$Search", name := "rowCarpet", desc := "(I)I" } : Jvm.MethodName) ({ cls := "CarpetHalls$Search", name := "rowCarpet", desc := "(I)I" } : Jvm.MethodName)) ∈ th_tb := kg (kt_5 (List.mem_of_getElem? (i := 33) rfl)) rfl
theorem kw_994 : (Jvm.Cond.code ({ cls := "CarpetHalls$Search", name := "rowCarpet", desc := "(I)I" } : Jvm.MethodName) prog_9_method_7_code (2 : Nat) (Option.some Jvm.ClassFile.FieldType.int)) ∈ th_tb := kg (kt_5 (List.mem_of_getElem? (i := 34) rfl)) rfl
theorem kw_995 : (Jvm.Cond.methodLink "CarpetHallsLaw" (107 : Nat) ({ cls := "CarpetHalls", name := "ways", desc := "()I" } : Jvm.MethodName)) ∈ th_tb := kg (kt_5 (List.mem_of_getElem? (i := 35) rfl)) rfl
theorem kw_996 : (Jvm.Cond.instanceMethod ({ cls := "CarpetHalls", name := "ways", desc := "()I" } : Jvm.MethodName)) ∈ th_tb := kg (kt_5 (List.mem_of_getElem? (i := 36) rfl)) rfl
theorem kw_997 : (Jvm.Cond.selects "CarpetHalls" ({ cls := "CarpetHalls", name := "ways", desc := "()I" } : Jvm.MethodName) ({ cls := "CarpetHalls", name := "ways", desc := "()I" } : Jvm.MethodName)) ∈ th_tb := kg (kt_5 (List.mem_of_getElem? (i := 37) rfl)) rfl
theorem kw_998 : (Jvm.Cond.code ({ cls := "CarpetHalls", name := "ways", desc := "()I" } : Jvm.MethodName) prog_1_method_24_code (1 : Nat) (Option.some Jvm.ClassFile.FieldType.int)) ∈ th_tb := kg (kt_5 (List.mem_of_getElem? (i := 38) rfl)) rfl
theorem kw_999 : (Jvm.Cond.constant "CarpetHalls" (268 : Nat) (1000000000 : Int32)) ∈ th_tb := kg (kt_5 (List.mem_of_getElem? (i := 39) rfl)) rfl
theorem kw_1000 : (Jvm.Cond.methodLink "CarpetHallsLaw" (111 : Nat) ({ cls := "CarpetHalls", name := "cheapest", desc := "()I" } : Jvm.MethodName)) ∈ th_tb := kg (kt_5 (List.mem_of_getElem? (i := 40) rfl)) rfl
theorem kw_1001 : (Jvm.Cond.instanceMethod ({ cls := "CarpetHalls", name := "cheapest", desc := "()I" } : Jvm.MethodName)) ∈ th_tb := kg (kt_5 (List.mem_of_getElem? (i := 41) rfl)) rfl
theorem kw_1002 : (Jvm.Cond.selects "CarpetHalls" ({ cls := "CarpetHalls", name := "cheapest", desc := "()I" } : Jvm.MethodName) ({ cls := "CarpetHalls", name := "cheapest", desc := "()I" } : Jvm.MethodName)) ∈ th_tb := kg (kt_5 (List.mem_of_getElem? (i := 42) rfl)) rfl
theorem kw_1003 : (Jvm.Cond.code ({ cls := "CarpetHalls", name := "cheapest", desc := "()I" } : Jvm.MethodName) prog_1_method_25_code (1 : Nat) (Option.some Jvm.ClassFile.FieldType.int)) ∈ th_tb := kg (kt_5 (List.mem_of_getElem? (i := 43) rfl)) rfl
theorem kw_1004 : (Jvm.Cond.methodLink "CarpetHalls" (269 : Nat) ({ cls := "CarpetHalls$Search", name := "leastCost", desc := "()I" } : Jvm.MethodName)) ∈ th_tb := kg (kt_5 (List.mem_of_getElem? (i := 44) rfl)) rfl
theorem kw_1005 : (Jvm.Cond.instanceMethod ({ cls := "CarpetHalls$Search", name := "leastCost", desc := "()I" } : Jvm.MethodName)) ∈ th_tb := kg (kt_5 (List.mem_of_getElem? (i := 45) rfl)) rfl
theorem kw_1006 : (Jvm.Cond.selects "CarpetHalls$Search" ({ cls := "CarpetHalls$Search", name := "leastCost", desc := "()I" } : Jvm.MethodName) ({ cls := "CarpetHalls$Search", name := "leastCost", desc := "()I" } : Jvm.MethodName)) ∈ th_tb := kg (kt_5 (List.mem_of_getElem? (i := 46) rfl)) rfl
theorem kw_1007 : (Jvm.Cond.code ({ cls := "CarpetHalls$Search", name := "leastCost", desc := "()I" } : Jvm.MethodName) prog_9_method_5_code (1 : Nat) (Option.some Jvm.ClassFile.FieldType.int)) ∈ th_tb := kg (kt_5 (List.mem_of_getElem? (i := 47) rfl)) rfl
theorem kw_1008 : (Jvm.Cond.methodLink "CarpetHallsLaw" (115 : Nat) ({ cls := "CarpetHalls", name := "halls", desc := "(I)I" } : Jvm.MethodName)) ∈ th_tb := kg (kt_5 (List.mem_of_getElem? (i := 48) rfl)) rfl
theorem kw_1009 : (Jvm.Cond.instanceMethod ({ cls := "CarpetHalls", name := "halls", desc := "(I)I" } : Jvm.MethodName)) ∈ th_tb := kg (kt_5 (List.mem_of_getElem? (i := 49) rfl)) rfl
theorem kw_1010 : (Jvm.Cond.selects "CarpetHalls" ({ cls := "CarpetHalls", name := "halls", desc := "(I)I" } : Jvm.MethodName) ({ cls := "CarpetHalls", name := "halls", desc := "(I)I" } : Jvm.MethodName)) ∈ th_tb := kg (kt_5 (List.mem_of_getElem? (i := 50) rfl)) rfl
theorem kw_1011 : (Jvm.Cond.code ({ cls := "CarpetHalls", name := "halls", desc := "(I)I" } : Jvm.MethodName) prog_1_method_26_code (6 : Nat) (Option.some Jvm.ClassFile.FieldType.int)) ∈ th_tb := kg (kt_5 (List.mem_of_getElem? (i := 51) rfl)) rfl
theorem kw_1012 : (Jvm.Cond.methodLink "CarpetHalls" (272 : Nat) ({ cls := "CarpetHalls$Floor", name := "areaWithoutRags", desc := "()I" } : Jvm.MethodName)) ∈ th_tb := kg (kt_5 (List.mem_of_getElem? (i := 52) rfl)) rfl
theorem kw_1013 : (Jvm.Cond.instanceMethod ({ cls := "CarpetHalls$Floor", name := "areaWithoutRags", desc := "()I" } : Jvm.MethodName)) ∈ th_tb := kg (kt_5 (List.mem_of_getElem? (i := 53) rfl)) rfl
theorem kw_1014 : (Jvm.Cond.selects "CarpetHalls$Floor" ({ cls := "CarpetHalls$Floor", name := "areaWithoutRags", desc := "()I" } : Jvm.MethodName) ({ cls := "CarpetHalls$Floor", name := "areaWithoutRags", desc := "()I" } : Jvm.MethodName)) ∈ th_tb := kg (kt_5 (List.mem_of_getElem? (i := 54) rfl)) rfl
theorem kw_1015 : (Jvm.Cond.code ({ cls := "CarpetHalls$Floor", name := "areaWithoutRags", desc := "()I" } : Jvm.MethodName) prog_3_method_9_code (3 : Nat) (Option.some Jvm.ClassFile.FieldType.int)) ∈ th_tb := kg (kt_5 (List.mem_of_getElem? (i := 55) rfl)) rfl
theorem kw_1016 : (Jvm.Cond.methodLink "CarpetHalls" (275 : Nat) ({ cls := "CarpetHalls$Floor", name := "copyFrom", desc := "(LCarpetHalls$Floor;)V" } : Jvm.MethodName)) ∈ th_tb := kg (kt_5 (List.mem_of_getElem? (i := 56) rfl)) rfl
theorem kw_1017 : (Jvm.Cond.methodLink "CarpetHalls" (278 : Nat) ({ cls := "CarpetHalls$Floor", name := "emptyInto", desc := "(II)V" } : Jvm.MethodName)) ∈ th_tb := kg (kt_5 (List.mem_of_getElem? (i := 57) rfl)) rfl
theorem kw_1018 : (Jvm.Cond.instanceMethod ({ cls := "CarpetHalls$Floor", name := "emptyInto", desc := "(II)V" } : Jvm.MethodName)) ∈ th_tb := kg (kt_5 (List.mem_of_getElem? (i := 58) rfl)) rfl
theorem kw_1019 : (Jvm.Cond.selects "CarpetHalls$Floor" ({ cls := "CarpetHalls$Floor", name := "emptyInto", desc := "(II)V" } : Jvm.MethodName) ({ cls := "CarpetHalls$Floor", name := "emptyInto", desc := "(II)V" } : Jvm.MethodName)) ∈ th_tb := kg (kt_5 (List.mem_of_getElem? (i := 59) rfl)) rfl
theorem kw_1020 : (Jvm.Cond.code ({ cls := "CarpetHalls$Floor", name := "emptyInto", desc := "(II)V" } : Jvm.MethodName) prog_3_method_14_code (4 : Nat) (Option.none : Option Jvm.ClassFile.FieldType)) ∈ th_tb := kg (kt_5 (List.mem_of_getElem? (i := 60) rfl)) rfl
theorem kw_1021 : (Jvm.Cond.methodLink "CarpetHallsLaw" (119 : Nat) ({ cls := "CarpetHalls", name := "inner", desc := "()I" } : Jvm.MethodName)) ∈ th_tb := kg (kt_5 (List.mem_of_getElem? (i := 61) rfl)) rfl
theorem kw_1022 : (Jvm.Cond.instanceMethod ({ cls := "CarpetHalls", name := "inner", desc := "()I" } : Jvm.MethodName)) ∈ th_tb := kg (kt_5 (List.mem_of_getElem? (i := 62) rfl)) rfl
theorem kw_1023 : (Jvm.Cond.selects "CarpetHalls" ({ cls := "CarpetHalls", name := "inner", desc := "()I" } : Jvm.MethodName) ({ cls := "CarpetHalls", name := "inner", desc := "()I" } : Jvm.MethodName)) ∈ th_tb := kg (kt_5 (List.mem_of_getElem? (i := 63) rfl)) rfl
theorem kw_1024 : (Jvm.Cond.code ({ cls := "CarpetHalls", name := "inner", desc := "()I" } : Jvm.MethodName) prog_1_method_27_code (1 : Nat) (Option.some Jvm.ClassFile.FieldType.int)) ∈ th_tb := kg (kt_5 (List.mem_of_getElem? (i := 64) rfl)) rfl
theorem kw_1025 : (Jvm.Cond.methodLink "CarpetHalls" (282 : Nat) ({ cls := "CarpetHalls$Floor", name := "innerHalls", desc := "()I" } : Jvm.MethodName)) ∈ th_tb := kg (kt_5 (List.mem_of_getElem? (i := 65) rfl)) rfl
theorem kw_1026 : (Jvm.Cond.instanceMethod ({ cls := "CarpetHalls$Floor", name := "innerHalls", desc := "()I" } : Jvm.MethodName)) ∈ th_tb := kg (kt_5 (List.mem_of_getElem? (i := 66) rfl)) rfl
theorem kw_1027 : (Jvm.Cond.selects "CarpetHalls$Floor" ({ cls := "CarpetHalls$Floor", name := "innerHalls", desc := "()I" } : Jvm.MethodName) ({ cls := "CarpetHalls$Floor", name := "innerHalls", desc := "()I" } : Jvm.MethodName)) ∈ th_tb := kg (kt_5 (List.mem_of_getElem? (i := 67) rfl)) rfl
theorem kw_1028 : (Jvm.Cond.code ({ cls := "CarpetHalls$Floor", name := "innerHalls", desc := "()I" } : Jvm.MethodName) prog_3_method_20_code (3 : Nat) (Option.some Jvm.ClassFile.FieldType.int)) ∈ th_tb := kg (kt_5 (List.mem_of_getElem? (i := 68) rfl)) rfl
theorem kw_1029 : (Jvm.Cond.methodLink "CarpetHalls$Floor" (87 : Nat) ({ cls := "java/lang/Integer", name := "bitCount", desc := "(I)I" } : Jvm.MethodName)) ∈ th_tb := kg (kt_5 (List.mem_of_getElem? (i := 69) rfl)) rfl
theorem kw_1030 : (Jvm.Cond.static ({ cls := "java/lang/Integer", name := "bitCount", desc := "(I)I" } : Jvm.MethodName)) ∈ th_tb := kg (kt_5 (List.mem_of_getElem? (i := 70) rfl)) rfl
theorem kw_1031 : (Jvm.Cond.code ({ cls := "java/lang/Integer", name := "bitCount", desc := "(I)I" } : Jvm.MethodName) prog_15_method_49_code (1 : Nat) (Option.some Jvm.ClassFile.FieldType.int)) ∈ th_tb := kg (kt_5 (List.mem_of_getElem? (i := 71) rfl)) rfl
theorem kw_1032 : (Jvm.Cond.constant "java/lang/Integer" (265 : Nat) (1431655765 : Int32)) ∈ th_tb := kg (kt_5 (List.mem_of_getElem? (i := 72) rfl)) rfl
theorem kw_1033 : (Jvm.Cond.constant "java/lang/Integer" (266 : Nat) (858993459 : Int32)) ∈ th_tb := kg (kt_5 (List.mem_of_getElem? (i := 73) rfl)) rfl
theorem kw_1034 : (Jvm.Cond.constant "java/lang/Integer" (267 : Nat) (252645135 : Int32)) ∈ th_tb := kg (kt_5 (List.mem_of_getElem? (i := 74) rfl)) rfl
theorem kw_1035 : (Jvm.Cond.methodLink "CarpetHalls$Floor" (93 : Nat) ({ cls := "CarpetHalls$Floor", name := "isInnerHall", desc := "(I)Z" } : Jvm.MethodName)) ∈ th_tb := kg (kt_5 (List.mem_of_getElem? (i := 75) rfl)) rfl
theorem kw_1037 : (Jvm.Cond.instanceMethod ({ cls := "CarpetHalls$Floor", name := "isInnerHall", desc := "(I)Z" } : Jvm.MethodName)) ∈ th_tb := kg (kt_5 (List.mem_of_getElem? (i := 77) rfl)) rfl
theorem kw_1038 : (Jvm.Cond.code ({ cls := "CarpetHalls$Floor", name := "isInnerHall", desc := "(I)Z" } : Jvm.MethodName) prog_3_method_21_code (8 : Nat) (Option.some Jvm.ClassFile.FieldType.boolean)) ∈ th_tb := kg (kt_5 (List.mem_of_getElem? (i := 78) rfl)) rfl
theorem kw_1039 : (Jvm.Cond.methodLink "CarpetHalls$Floor" (96 : Nat) ({ cls := "java/lang/Math", name := "min", desc := "(II)I" } : Jvm.MethodName)) ∈ th_tb := kg (kt_5 (List.mem_of_getElem? (i := 79) rfl)) rfl
theorem kw_1040 : (Jvm.Cond.methodLink "CarpetHallsLaw" (123 : Nat) ({ cls := "CarpetHalls", name := "crosses", desc := "()I" } : Jvm.MethodName)) ∈ th_tb := kg (kt_5 (List.mem_of_getElem? (i := 80) rfl)) rfl
theorem kw_1041 : (Jvm.Cond.instanceMethod ({ cls := "CarpetHalls", name := "crosses", desc := "()I" } : Jvm.MethodName)) ∈ th_tb := kg (kt_5 (List.mem_of_getElem? (i := 81) rfl)) rfl
theorem kw_1042 : (Jvm.Cond.selects "CarpetHalls" ({ cls := "CarpetHalls", name := "crosses", desc := "()I" } : Jvm.MethodName) ({ cls := "CarpetHalls", name := "crosses", desc := "()I" } : Jvm.MethodName)) ∈ th_tb := kg (kt_5 (List.mem_of_getElem? (i := 82) rfl)) rfl
theorem kw_1043 : (Jvm.Cond.code ({ cls := "CarpetHalls", name := "crosses", desc := "()I" } : Jvm.MethodName) prog_1_method_28_code (1 : Nat) (Option.some Jvm.ClassFile.FieldType.int)) ∈ th_tb := kg (kt_5 (List.mem_of_getElem? (i := 83) rfl)) rfl
theorem kw_1044 : (Jvm.Cond.methodLink "CarpetHalls" (285 : Nat) ({ cls := "CarpetHalls$Floor", name := "crossPoints", desc := "()I" } : Jvm.MethodName)) ∈ th_tb := kg (kt_5 (List.mem_of_getElem? (i := 84) rfl)) rfl
theorem kw_1045 : (Jvm.Cond.instanceMethod ({ cls := "CarpetHalls$Floor", name := "crossPoints", desc := "()I" } : Jvm.MethodName)) ∈ th_tb := kg (kt_5 (List.mem_of_getElem? (i := 85) rfl)) rfl
theorem kw_1046 : (Jvm.Cond.selects "CarpetHalls$Floor" ({ cls := "CarpetHalls$Floor", name := "crossPoints", desc := "()I" } : Jvm.MethodName) ({ cls := "CarpetHalls$Floor", name := "crossPoints", desc := "()I" } : Jvm.MethodName)) ∈ th_tb := kg (kt_5 (List.mem_of_getElem? (i := 86) rfl)) rfl
theorem kw_1047 : (Jvm.Cond.code ({ cls := "CarpetHalls$Floor", name := "crossPoints", desc := "()I" } : Jvm.MethodName) prog_3_method_22_code (3 : Nat) (Option.some Jvm.ClassFile.FieldType.int)) ∈ th_tb := kg (kt_5 (List.mem_of_getElem? (i := 87) rfl)) rfl
theorem kw_1048 : (Jvm.Cond.methodLink "CarpetHalls$Floor" (99 : Nat) ({ cls := "CarpetHalls$Floor", name := "threeMoreMeetAt", desc := "(II)Z" } : Jvm.MethodName)) ∈ th_tb := kg (kt_5 (List.mem_of_getElem? (i := 88) rfl)) rfl
theorem kw_1050 : (Jvm.Cond.instanceMethod ({ cls := "CarpetHalls$Floor", name := "threeMoreMeetAt", desc := "(II)Z" } : Jvm.MethodName)) ∈ th_tb := kg (kt_5 (List.mem_of_getElem? (i := 90) rfl)) rfl
theorem kw_1051 : (Jvm.Cond.code ({ cls := "CarpetHalls$Floor", name := "threeMoreMeetAt", desc := "(II)Z" } : Jvm.MethodName) prog_3_method_23_code (9 : Nat) (Option.some Jvm.ClassFile.FieldType.boolean)) ∈ th_tb := kg (kt_5 (List.mem_of_getElem? (i := 91) rfl)) rfl
theorem kw_1052 : (Jvm.Cond.methodLink "CarpetHallsLaw" (127 : Nat) ({ cls := "CarpetHalls", name := "currents", desc := "(II)I" } : Jvm.MethodName)) ∈ th_tb := kg (kt_5 (List.mem_of_getElem? (i := 92) rfl)) rfl
theorem kw_1053 : (Jvm.Cond.instanceMethod ({ cls := "CarpetHalls", name := "currents", desc := "(II)I" } : Jvm.MethodName)) ∈ th_tb := kg (kt_5 (List.mem_of_getElem? (i := 93) rfl)) rfl
theorem kw_1054 : (Jvm.Cond.selects "CarpetHalls" ({ cls := "CarpetHalls", name := "currents", desc := "(II)I" } : Jvm.MethodName) ({ cls := "CarpetHalls", name := "currents", desc := "(II)I" } : Jvm.MethodName)) ∈ th_tb := kg (kt_5 (List.mem_of_getElem? (i := 94) rfl)) rfl
theorem kw_1055 : (Jvm.Cond.code ({ cls := "CarpetHalls", name := "currents", desc := "(II)I" } : Jvm.MethodName) prog_1_method_29_code (3 : Nat) (Option.some Jvm.ClassFile.FieldType.int)) ∈ th_tb := kg (kt_5 (List.mem_of_getElem? (i := 95) rfl)) rfl
theorem kw_1056 : (Jvm.Cond.methodLink "CarpetHalls" (288 : Nat) ({ cls := "CarpetHalls$Floor", name := "sidesAtLine", desc := "(IZ)I" } : Jvm.MethodName)) ∈ th_tb := kg (kt_5 (List.mem_of_getElem? (i := 96) rfl)) rfl
theorem kw_1057 : (Jvm.Cond.instanceMethod ({ cls := "CarpetHalls$Floor", name := "sidesAtLine", desc := "(IZ)I" } : Jvm.MethodName)) ∈ th_tb := kg (kt_5 (List.mem_of_getElem? (i := 97) rfl)) rfl
theorem kw_1058 : (Jvm.Cond.selects "CarpetHalls$Floor" ({ cls := "CarpetHalls$Floor", name := "sidesAtLine", desc := "(IZ)I" } : Jvm.MethodName) ({ cls := "CarpetHalls$Floor", name := "sidesAtLine", desc := "(IZ)I" } : Jvm.MethodName)) ∈ th_tb := kg (kt_5 (List.mem_of_getElem? (i := 98) rfl)) rfl
theorem kw_1059 : (Jvm.Cond.code ({ cls := "CarpetHalls$Floor", name := "sidesAtLine", desc := "(IZ)I" } : Jvm.MethodName) prog_3_method_24_code (5 : Nat) (Option.some Jvm.ClassFile.FieldType.int)) ∈ th_tb := kg (kt_5 (List.mem_of_getElem? (i := 99) rfl)) rfl
theorem kw_1060 : (Jvm.Cond.methodLink "CarpetHallsLaw" (131 : Nat) ({ cls := "CarpetHalls", name := "fitting", desc := "(I)I" } : Jvm.MethodName)) ∈ th_tb := kg (kt_5 (List.mem_of_getElem? (i := 100) rfl)) rfl
theorem kw_1061 : (Jvm.Cond.instanceMethod ({ cls := "CarpetHalls", name := "fitting", desc := "(I)I" } : Jvm.MethodName)) ∈ th_tb := kg (kt_5 (List.mem_of_getElem? (i := 101) rfl)) rfl
theorem kw_1062 : (Jvm.Cond.selects "CarpetHalls" ({ cls := "CarpetHalls", name := "fitting", desc := "(I)I" } : Jvm.MethodName) ({ cls := "CarpetHalls", name := "fitting", desc := "(I)I" } : Jvm.MethodName)) ∈ th_tb := kg (kt_5 (List.mem_of_getElem? (i := 102) rfl)) rfl
theorem kw_1063 : (Jvm.Cond.code ({ cls := "CarpetHalls", name := "fitting", desc := "(I)I" } : Jvm.MethodName) prog_1_method_30_code (2 : Nat) (Option.some Jvm.ClassFile.FieldType.int)) ∈ th_tb := kg (kt_5 (List.mem_of_getElem? (i := 103) rfl)) rfl
theorem kw_1064 : (Jvm.Cond.methodLink "CarpetHalls" (292 : Nat) ({ cls := "CarpetHalls$Floor", name := "placesFor", desc := "(I)I" } : Jvm.MethodName)) ∈ th_tb := kg (kt_5 (List.mem_of_getElem? (i := 104) rfl)) rfl
theorem kw_1065 : (Jvm.Cond.instanceMethod ({ cls := "CarpetHalls$Floor", name := "placesFor", desc := "(I)I" } : Jvm.MethodName)) ∈ th_tb := kg (kt_5 (List.mem_of_getElem? (i := 105) rfl)) rfl
theorem kw_1066 : (Jvm.Cond.selects "CarpetHalls$Floor" ({ cls := "CarpetHalls$Floor", name := "placesFor", desc := "(I)I" } : Jvm.MethodName) ({ cls := "CarpetHalls$Floor", name := "placesFor", desc := "(I)I" } : Jvm.MethodName)) ∈ th_tb := kg (kt_5 (List.mem_of_getElem? (i := 106) rfl)) rfl
theorem kw_1067 : (Jvm.Cond.code ({ cls := "CarpetHalls$Floor", name := "placesFor", desc := "(I)I" } : Jvm.MethodName) prog_3_method_19_code (7 : Nat) (Option.some Jvm.ClassFile.FieldType.int)) ∈ th_tb := kg (kt_5 (List.mem_of_getElem? (i := 107) rfl)) rfl
theorem kw_1068 : (Jvm.Cond.methodLink "CarpetHallsLaw" (135 : Nat) ({ cls := "CarpetHalls", name := "alike", desc := "()I" } : Jvm.MethodName)) ∈ th_tb := kg (kt_5 (List.mem_of_getElem? (i := 108) rfl)) rfl
theorem kw_1069 : (Jvm.Cond.instanceMethod ({ cls := "CarpetHalls", name := "alike", desc := "()I" } : Jvm.MethodName)) ∈ th_tb := kg (kt_5 (List.mem_of_getElem? (i := 109) rfl)) rfl
theorem kw_1070 : (Jvm.Cond.selects "CarpetHalls" ({ cls := "CarpetHalls", name := "alike", desc := "()I" } : Jvm.MethodName) ({ cls := "CarpetHalls", name := "alike", desc := "()I" } : Jvm.MethodName)) ∈ th_tb := kg (kt_5 (List.mem_of_getElem? (i := 110) rfl)) rfl
theorem kw_1071 : (Jvm.Cond.code ({ cls := "CarpetHalls", name := "alike", desc := "()I" } : Jvm.MethodName) prog_1_method_31_code (1 : Nat) (Option.some Jvm.ClassFile.FieldType.int)) ∈ th_tb := kg (kt_5 (List.mem_of_getElem? (i := 111) rfl)) rfl
theorem kw_1072 : (Jvm.Cond.methodLink "CarpetHalls" (295 : Nat) ({ cls := "CarpetHalls$Floor", name := "twosOfOneSide", desc := "()I" } : Jvm.MethodName)) ∈ th_tb := kg (kt_5 (List.mem_of_getElem? (i := 112) rfl)) rfl
theorem kw_1073 : (Jvm.Cond.instanceMethod ({ cls := "CarpetHalls$Floor", name := "twosOfOneSide", desc := "()I" } : Jvm.MethodName)) ∈ th_tb := kg (kt_5 (List.mem_of_getElem? (i := 113) rfl)) rfl
theorem kw_1074 : (Jvm.Cond.selects "CarpetHalls$Floor" ({ cls := "CarpetHalls$Floor", name := "twosOfOneSide", desc := "()I" } : Jvm.MethodName) ({ cls := "CarpetHalls$Floor", name := "twosOfOneSide", desc := "()I" } : Jvm.MethodName)) ∈ th_tb := kg (kt_5 (List.mem_of_getElem? (i := 114) rfl)) rfl
theorem kw_1075 : (Jvm.Cond.code ({ cls := "CarpetHalls$Floor", name := "twosOfOneSide", desc := "()I" } : Jvm.MethodName) prog_3_method_25_code (4 : Nat) (Option.some Jvm.ClassFile.FieldType.int)) ∈ th_tb := kg (kt_5 (List.mem_of_getElem? (i := 115) rfl)) rfl
theorem kw_1076 : (Jvm.Cond.methodLink "CarpetHallsLaw" (139 : Nat) ({ cls := "CarpetHalls", name := "free", desc := "()I" } : Jvm.MethodName)) ∈ th_tb := kg (kt_5 (List.mem_of_getElem? (i := 116) rfl)) rfl
theorem kw_1077 : (Jvm.Cond.instanceMethod ({ cls := "CarpetHalls", name := "free", desc := "()I" } : Jvm.MethodName)) ∈ th_tb := kg (kt_5 (List.mem_of_getElem? (i := 117) rfl)) rfl
theorem kw_1078 : (Jvm.Cond.selects "CarpetHalls" ({ cls := "CarpetHalls", name := "free", desc := "()I" } : Jvm.MethodName) ({ cls := "CarpetHalls", name := "free", desc := "()I" } : Jvm.MethodName)) ∈ th_tb := kg (kt_5 (List.mem_of_getElem? (i := 118) rfl)) rfl
theorem kw_1079 : (Jvm.Cond.code ({ cls := "CarpetHalls", name := "free", desc := "()I" } : Jvm.MethodName) prog_1_method_32_code (3 : Nat) (Option.some Jvm.ClassFile.FieldType.int)) ∈ th_tb := kg (kt_5 (List.mem_of_getElem? (i := 119) rfl)) rfl
theorem kw_1080 : (Jvm.Cond.methodLink "CarpetHalls" (304 : Nat) ({ cls := "CarpetHalls$Search", name := "fillsAlone", desc := "(I)Z" } : Jvm.MethodName)) ∈ th_tb := kg (kt_5 (List.mem_of_getElem? (i := 120) rfl)) rfl
theorem kw_1081 : (Jvm.Cond.instanceMethod ({ cls := "CarpetHalls$Search", name := "fillsAlone", desc := "(I)Z" } : Jvm.MethodName)) ∈ th_tb := kg (kt_5 (List.mem_of_getElem? (i := 121) rfl)) rfl
theorem kw_1082 : (Jvm.Cond.selects "CarpetHalls$Search" ({ cls := "CarpetHalls$Search", name := "fillsAlone", desc := "(I)Z" } : Jvm.MethodName) ({ cls := "CarpetHalls$Search", name := "fillsAlone", desc := "(I)Z" } : Jvm.MethodName)) ∈ th_tb := kg (kt_5 (List.mem_of_getElem? (i := 122) rfl)) rfl
theorem kw_1083 : (Jvm.Cond.code ({ cls := "CarpetHalls$Search", name := "fillsAlone", desc := "(I)Z" } : Jvm.MethodName) prog_9_method_8_code (3 : Nat) (Option.some Jvm.ClassFile.FieldType.boolean)) ∈ th_tb := kg (kt_5 (List.mem_of_getElem? (i := 123) rfl)) rfl
theorem kw_1084 : (Jvm.Cond.methodLink "CarpetHallsLaw" (143 : Nat) ({ cls := "CarpetHalls", name := "seen", desc := "(III)I" } : Jvm.MethodName)) ∈ th_tb := kg (kt_5 (List.mem_of_getElem? (i := 124) rfl)) rfl
theorem kw_1085 : (Jvm.Cond.instanceMethod ({ cls := "CarpetHalls", name := "seen", desc := "(III)I" } : Jvm.MethodName)) ∈ th_tb := kg (kt_5 (List.mem_of_getElem? (i := 125) rfl)) rfl
theorem kw_1086 : (Jvm.Cond.selects "CarpetHalls" ({ cls := "CarpetHalls", name := "seen", desc := "(III)I" } : Jvm.MethodName) ({ cls := "CarpetHalls", name := "seen", desc := "(III)I" } : Jvm.MethodName)) ∈ th_tb := kg (kt_5 (List.mem_of_getElem? (i := 126) rfl)) rfl
theorem kw_1087 : (Jvm.Cond.code ({ cls := "CarpetHalls", name := "seen", desc := "(III)I" } : Jvm.MethodName) prog_1_method_33_code (4 : Nat) (Option.some Jvm.ClassFile.FieldType.int)) ∈ th_tb := kg (kt_5 (List.mem_of_getElem? (i := 127) rfl)) rfl
theorem kw_1088 : (Jvm.Cond.methodLink "CarpetHallsLaw" (147 : Nat) ({ cls := "CarpetHalls", name := "forget", desc := "()I" } : Jvm.MethodName)) ∈ th_tb := kg (kt_5 (List.mem_of_getElem? (i := 128) rfl)) rfl
theorem kw_1089 : (Jvm.Cond.instanceMethod ({ cls := "CarpetHalls", name := "forget", desc := "()I" } : Jvm.MethodName)) ∈ th_tb := kg (kt_5 (List.mem_of_getElem? (i := 129) rfl)) rfl
theorem kw_1090 : (Jvm.Cond.selects "CarpetHalls" ({ cls := "CarpetHalls", name := "forget", desc := "()I" } : Jvm.MethodName) ({ cls := "CarpetHalls", name := "forget", desc := "()I" } : Jvm.MethodName)) ∈ th_tb := kg (kt_5 (List.mem_of_getElem? (i := 130) rfl)) rfl
theorem kw_1091 : (Jvm.Cond.code ({ cls := "CarpetHalls", name := "forget", desc := "()I" } : Jvm.MethodName) prog_1_method_34_code (2 : Nat) (Option.some Jvm.ClassFile.FieldType.int)) ∈ th_tb := kg (kt_5 (List.mem_of_getElem? (i := 131) rfl)) rfl
theorem kw_1092 : (Jvm.Cond.methodLink "CarpetHallsLaw" (151 : Nat) ({ cls := "CarpetHalls", name := "floors", desc := "()I" } : Jvm.MethodName)) ∈ th_tb := kg (kt_5 (List.mem_of_getElem? (i := 132) rfl)) rfl
theorem kw_1093 : (Jvm.Cond.instanceMethod ({ cls := "CarpetHalls", name := "floors", desc := "()I" } : Jvm.MethodName)) ∈ th_tb := kg (kt_5 (List.mem_of_getElem? (i := 133) rfl)) rfl
theorem kw_1094 : (Jvm.Cond.selects "CarpetHalls" ({ cls := "CarpetHalls", name := "floors", desc := "()I" } : Jvm.MethodName) ({ cls := "CarpetHalls", name := "floors", desc := "()I" } : Jvm.MethodName)) ∈ th_tb := kg (kt_5 (List.mem_of_getElem? (i := 134) rfl)) rfl
theorem kw_1095 : (Jvm.Cond.code ({ cls := "CarpetHalls", name := "floors", desc := "()I" } : Jvm.MethodName) prog_1_method_35_code (1 : Nat) (Option.some Jvm.ClassFile.FieldType.int)) ∈ th_tb := kg (kt_5 (List.mem_of_getElem? (i := 135) rfl)) rfl
theorem kw_1096 : (Jvm.Cond.methodLink "CarpetHalls" (319 : Nat) ({ cls := "CarpetHalls$Search", name := "heed", desc := "(LCarpetHalls$Stand;)Z" } : Jvm.MethodName)) ∈ th_tb := kg (kt_5 (List.mem_of_getElem? (i := 136) rfl)) rfl
theorem kw_1097 : (Jvm.Cond.instanceMethod ({ cls := "CarpetHalls$Search", name := "heed", desc := "(LCarpetHalls$Stand;)Z" } : Jvm.MethodName)) ∈ th_tb := kg (kt_5 (List.mem_of_getElem? (i := 137) rfl)) rfl
theorem kw_1098 : (Jvm.Cond.selects "CarpetHalls$Search" ({ cls := "CarpetHalls$Search", name := "heed", desc := "(LCarpetHalls$Stand;)Z" } : Jvm.MethodName) ({ cls := "CarpetHalls$Search", name := "heed", desc := "(LCarpetHalls$Stand;)Z" } : Jvm.MethodName)) ∈ th_tb := kg (kt_5 (List.mem_of_getElem? (i := 138) rfl)) rfl
theorem kw_1099 : (Jvm.Cond.code ({ cls := "CarpetHalls$Search", name := "heed", desc := "(LCarpetHalls$Stand;)Z" } : Jvm.MethodName) prog_9_method_3_code (4 : Nat) (Option.some Jvm.ClassFile.FieldType.boolean)) ∈ th_tb := kg (kt_5 (List.mem_of_getElem? (i := 139) rfl)) rfl
theorem kw_1100 : (Jvm.Cond.methodLink "CarpetHalls$Search" (83 : Nat) ({ cls := "CarpetHalls$Floor", name := "carpetOn", desc := "(II)I" } : Jvm.MethodName)) ∈ th_tb := kg (kt_5 (List.mem_of_getElem? (i := 140) rfl)) rfl
theorem kw_1101 : (Jvm.Cond.methodLink "CarpetHallsLaw" (155 : Nat) ({ cls := "CarpetHalls", name := "look", desc := "(I)I" } : Jvm.MethodName)) ∈ th_tb := kg (kt_5 (List.mem_of_getElem? (i := 141) rfl)) rfl
theorem kw_1102 : (Jvm.Cond.instanceMethod ({ cls := "CarpetHalls", name := "look", desc := "(I)I" } : Jvm.MethodName)) ∈ th_tb := kg (kt_5 (List.mem_of_getElem? (i := 142) rfl)) rfl
theorem kw_1103 : (Jvm.Cond.selects "CarpetHalls" ({ cls := "CarpetHalls", name := "look", desc := "(I)I" } : Jvm.MethodName) ({ cls := "CarpetHalls", name := "look", desc := "(I)I" } : Jvm.MethodName)) ∈ th_tb := kg (kt_5 (List.mem_of_getElem? (i := 143) rfl)) rfl
theorem kw_1104 : (Jvm.Cond.code ({ cls := "CarpetHalls", name := "look", desc := "(I)I" } : Jvm.MethodName) prog_1_method_36_code (3 : Nat) (Option.some Jvm.ClassFile.FieldType.int)) ∈ th_tb := kg (kt_5 (List.mem_of_getElem? (i := 144) rfl)) rfl
theorem kw_1105 : (Jvm.Cond.methodLink "CarpetHalls" (323 : Nat) ({ cls := "CarpetHalls$Search", name := "tallyFills", desc := "()V" } : Jvm.MethodName)) ∈ th_tb := kg (kt_5 (List.mem_of_getElem? (i := 145) rfl)) rfl
theorem kw_1106 : (Jvm.Cond.instanceMethod ({ cls := "CarpetHalls$Search", name := "tallyFills", desc := "()V" } : Jvm.MethodName)) ∈ th_tb := kg (kt_5 (List.mem_of_getElem? (i := 146) rfl)) rfl
theorem kw_1107 : (Jvm.Cond.selects "CarpetHalls$Search" ({ cls := "CarpetHalls$Search", name := "tallyFills", desc := "()V" } : Jvm.MethodName) ({ cls := "CarpetHalls$Search", name := "tallyFills", desc := "()V" } : Jvm.MethodName)) ∈ th_tb := kg (kt_5 (List.mem_of_getElem? (i := 147) rfl)) rfl
theorem kw_1108 : (Jvm.Cond.code ({ cls := "CarpetHalls$Search", name := "tallyFills", desc := "()V" } : Jvm.MethodName) prog_9_method_21_code (3 : Nat) (Option.none : Option Jvm.ClassFile.FieldType)) ∈ th_tb := kg (kt_5 (List.mem_of_getElem? (i := 148) rfl)) rfl
theorem kw_1109 : (Jvm.Cond.methodLink "CarpetHalls$Search" (190 : Nat) ({ cls := "java/util/Arrays", name := "fill", desc := "([II)V" } : Jvm.MethodName)) ∈ th_tb := kg (kt_5 (List.mem_of_getElem? (i := 149) rfl)) rfl
theorem kw_1110 : (Jvm.Cond.methodLink "CarpetHalls$Search" (199 : Nat) ({ cls := "CarpetHalls$Search", name := "tallyRow", desc := "(JIII)I" } : Jvm.MethodName)) ∈ th_tb := kg (kt_5 (List.mem_of_getElem? (i := 150) rfl)) rfl
theorem kw_1112 : (Jvm.Cond.instanceMethod ({ cls := "CarpetHalls$Search", name := "tallyRow", desc := "(JIII)I" } : Jvm.MethodName)) ∈ th_tb := kg (kt_5 (List.mem_of_getElem? (i := 152) rfl)) rfl
theorem kw_1113 : (Jvm.Cond.code ({ cls := "CarpetHalls$Search", name := "tallyRow", desc := "(JIII)I" } : Jvm.MethodName) prog_9_method_23_code (10 : Nat) (Option.some Jvm.ClassFile.FieldType.int)) ∈ th_tb := kg (kt_5 (List.mem_of_getElem? (i := 153) rfl)) rfl
theorem kw_1114 : (Jvm.Cond.methodLink "CarpetHalls$Search" (222 : Nat) ({ cls := "CarpetHalls$Search", name := "addToTally", desc := "(III)V" } : Jvm.MethodName)) ∈ th_tb := kg (kt_5 (List.mem_of_getElem? (i := 154) rfl)) rfl
theorem kw_1116 : (Jvm.Cond.instanceMethod ({ cls := "CarpetHalls$Search", name := "addToTally", desc := "(III)V" } : Jvm.MethodName)) ∈ th_tb := kg (kt_5 (List.mem_of_getElem? (i := 156) rfl)) rfl
theorem kw_1117 : (Jvm.Cond.code ({ cls := "CarpetHalls$Search", name := "addToTally", desc := "(III)V" } : Jvm.MethodName) prog_9_method_24_code (7 : Nat) (Option.none : Option Jvm.ClassFile.FieldType)) ∈ th_tb := kg (kt_5 (List.mem_of_getElem? (i := 157) rfl)) rfl
theorem kw_1118 : (Jvm.Cond.methodLink "CarpetHalls$Search" (202 : Nat) ({ cls := "CarpetHalls$Memo", name := "addFlow", desc := "(II)V" } : Jvm.MethodName)) ∈ th_tb := kg (kt_5 (List.mem_of_getElem? (i := 158) rfl)) rfl
theorem kw_1119 : (Jvm.Cond.instanceMethod ({ cls := "CarpetHalls$Memo", name := "addFlow", desc := "(II)V" } : Jvm.MethodName)) ∈ th_tb := kg (kt_5 (List.mem_of_getElem? (i := 159) rfl)) rfl
theorem kw_1120 : (Jvm.Cond.selects "CarpetHalls$Memo" ({ cls := "CarpetHalls$Memo", name := "addFlow", desc := "(II)V" } : Jvm.MethodName) ({ cls := "CarpetHalls$Memo", name := "addFlow", desc := "(II)V" } : Jvm.MethodName)) ∈ th_tb := kg (kt_5 (List.mem_of_getElem? (i := 160) rfl)) rfl
theorem kw_1121 : (Jvm.Cond.code ({ cls := "CarpetHalls$Memo", name := "addFlow", desc := "(II)V" } : Jvm.MethodName) prog_5_method_12_code (3 : Nat) (Option.none : Option Jvm.ClassFile.FieldType)) ∈ th_tb := kg (kt_5 (List.mem_of_getElem? (i := 161) rfl)) rfl
theorem kw_1122 : (Jvm.Cond.methodLink "CarpetHalls$Search" (209 : Nat) ({ cls := "CarpetHalls$Memo", name := "slotOfNth", desc := "(I)I" } : Jvm.MethodName)) ∈ th_tb := kg (kt_5 (List.mem_of_getElem? (i := 162) rfl)) rfl
theorem kw_1123 : (Jvm.Cond.instanceMethod ({ cls := "CarpetHalls$Memo", name := "slotOfNth", desc := "(I)I" } : Jvm.MethodName)) ∈ th_tb := kg (kt_5 (List.mem_of_getElem? (i := 163) rfl)) rfl
theorem kw_1124 : (Jvm.Cond.selects "CarpetHalls$Memo" ({ cls := "CarpetHalls$Memo", name := "slotOfNth", desc := "(I)I" } : Jvm.MethodName) ({ cls := "CarpetHalls$Memo", name := "slotOfNth", desc := "(I)I" } : Jvm.MethodName)) ∈ th_tb := kg (kt_5 (List.mem_of_getElem? (i := 164) rfl)) rfl
theorem kw_1125 : (Jvm.Cond.code ({ cls := "CarpetHalls$Memo", name := "slotOfNth", desc := "(I)I" } : Jvm.MethodName) prog_5_method_8_code (2 : Nat) (Option.some Jvm.ClassFile.FieldType.int)) ∈ th_tb := kg (kt_5 (List.mem_of_getElem? (i := 165) rfl)) rfl
theorem kw_1126 : (Jvm.Cond.methodLink "CarpetHalls$Search" (212 : Nat) ({ cls := "CarpetHalls$Memo", name := "flowIn", desc := "(I)I" } : Jvm.MethodName)) ∈ th_tb := kg (kt_5 (List.mem_of_getElem? (i := 166) rfl)) rfl
theorem kw_1127 : (Jvm.Cond.instanceMethod ({ cls := "CarpetHalls$Memo", name := "flowIn", desc := "(I)I" } : Jvm.MethodName)) ∈ th_tb := kg (kt_5 (List.mem_of_getElem? (i := 167) rfl)) rfl
theorem kw_1128 : (Jvm.Cond.selects "CarpetHalls$Memo" ({ cls := "CarpetHalls$Memo", name := "flowIn", desc := "(I)I" } : Jvm.MethodName) ({ cls := "CarpetHalls$Memo", name := "flowIn", desc := "(I)I" } : Jvm.MethodName)) ∈ th_tb := kg (kt_5 (List.mem_of_getElem? (i := 168) rfl)) rfl
theorem kw_1129 : (Jvm.Cond.code ({ cls := "CarpetHalls$Memo", name := "flowIn", desc := "(I)I" } : Jvm.MethodName) prog_5_method_11_code (2 : Nat) (Option.some Jvm.ClassFile.FieldType.int)) ∈ th_tb := kg (kt_5 (List.mem_of_getElem? (i := 169) rfl)) rfl
theorem kw_1130 : (Jvm.Cond.methodLink "CarpetHalls$Search" (215 : Nat) ({ cls := "CarpetHalls$Memo", name := "keyIn", desc := "(I)J" } : Jvm.MethodName)) ∈ th_tb := kg (kt_5 (List.mem_of_getElem? (i := 170) rfl)) rfl
theorem kw_1131 : (Jvm.Cond.instanceMethod ({ cls := "CarpetHalls$Memo", name := "keyIn", desc := "(I)J" } : Jvm.MethodName)) ∈ th_tb := kg (kt_5 (List.mem_of_getElem? (i := 171) rfl)) rfl
theorem kw_1132 : (Jvm.Cond.selects "CarpetHalls$Memo" ({ cls := "CarpetHalls$Memo", name := "keyIn", desc := "(I)J" } : Jvm.MethodName) ({ cls := "CarpetHalls$Memo", name := "keyIn", desc := "(I)J" } : Jvm.MethodName)) ∈ th_tb := kg (kt_5 (List.mem_of_getElem? (i := 172) rfl)) rfl
theorem kw_1133 : (Jvm.Cond.code ({ cls := "CarpetHalls$Memo", name := "keyIn", desc := "(I)J" } : Jvm.MethodName) prog_5_method_9_code (2 : Nat) (Option.some Jvm.ClassFile.FieldType.long)) ∈ th_tb := kg (kt_5 (List.mem_of_getElem? (i := 173) rfl)) rfl
theorem kw_1134 : (Jvm.Cond.methodLink "CarpetHalls$Search" (219 : Nat) ({ cls := "CarpetHalls$Search", name := "tallyKey", desc := "(JI)V" } : Jvm.MethodName)) ∈ th_tb := kg (kt_5 (List.mem_of_getElem? (i := 174) rfl)) rfl
theorem kw_1136 : (Jvm.Cond.instanceMethod ({ cls := "CarpetHalls$Search", name := "tallyKey", desc := "(JI)V" } : Jvm.MethodName)) ∈ th_tb := kg (kt_5 (List.mem_of_getElem? (i := 176) rfl)) rfl
theorem kw_1137 : (Jvm.Cond.code ({ cls := "CarpetHalls$Search", name := "tallyKey", desc := "(JI)V" } : Jvm.MethodName) prog_9_method_22_code (7 : Nat) (Option.none : Option Jvm.ClassFile.FieldType)) ∈ th_tb := kg (kt_5 (List.mem_of_getElem? (i := 177) rfl)) rfl
theorem kw_1138 : (Jvm.Cond.methodLink "CarpetHalls" (326 : Nat) ({ cls := "CarpetHalls$Search", name := "bestLook", desc := "()I" } : Jvm.MethodName)) ∈ th_tb := kg (kt_5 (List.mem_of_getElem? (i := 178) rfl)) rfl
theorem kw_1139 : (Jvm.Cond.instanceMethod ({ cls := "CarpetHalls$Search", name := "bestLook", desc := "()I" } : Jvm.MethodName)) ∈ th_tb := kg (kt_5 (List.mem_of_getElem? (i := 179) rfl)) rfl
theorem kw_1140 : (Jvm.Cond.selects "CarpetHalls$Search" ({ cls := "CarpetHalls$Search", name := "bestLook", desc := "()I" } : Jvm.MethodName) ({ cls := "CarpetHalls$Search", name := "bestLook", desc := "()I" } : Jvm.MethodName)) ∈ th_tb := kg (kt_5 (List.mem_of_getElem? (i := 180) rfl)) rfl
theorem kw_1141 : (Jvm.Cond.code ({ cls := "CarpetHalls$Search", name := "bestLook", desc := "()I" } : Jvm.MethodName) prog_9_method_9_code (3 : Nat) (Option.some Jvm.ClassFile.FieldType.int)) ∈ th_tb := kg (kt_5 (List.mem_of_getElem? (i := 181) rfl)) rfl
theorem kw_1142 : (Jvm.Cond.methodLink "CarpetHalls$Search" (119 : Nat) ({ cls := "CarpetHalls$Search", name := "mostAt", desc := "(I)I" } : Jvm.MethodName)) ∈ th_tb := kg (kt_5 (List.mem_of_getElem? (i := 182) rfl)) rfl
theorem kw_1143 : (Jvm.Cond.instanceMethod ({ cls := "CarpetHalls$Search", name := "mostAt", desc := "(I)I" } : Jvm.MethodName)) ∈ th_tb := kg (kt_5 (List.mem_of_getElem? (i := 183) rfl)) rfl
theorem kw_1144 : (Jvm.Cond.selects "CarpetHalls$Search" ({ cls := "CarpetHalls$Search", name := "mostAt", desc := "(I)I" } : Jvm.MethodName) ({ cls := "CarpetHalls$Search", name := "mostAt", desc := "(I)I" } : Jvm.MethodName)) ∈ th_tb := kg (kt_5 (List.mem_of_getElem? (i := 184) rfl)) rfl
theorem kw_1145 : (Jvm.Cond.code ({ cls := "CarpetHalls$Search", name := "mostAt", desc := "(I)I" } : Jvm.MethodName) prog_9_method_10_code (4 : Nat) (Option.some Jvm.ClassFile.FieldType.int)) ∈ th_tb := kg (kt_5 (List.mem_of_getElem? (i := 185) rfl)) rfl
theorem kw_1146 : (Jvm.Cond.methodLink "CarpetHalls$Search" (126 : Nat) ({ cls := "java/lang/Math", name := "max", desc := "(II)I" } : Jvm.MethodName)) ∈ th_tb := kg (kt_5 (List.mem_of_getElem? (i := 186) rfl)) rfl
theorem kw_1147 : (Jvm.Cond.methodLink "CarpetHalls" (329 : Nat) ({ cls := "CarpetHalls$Search", name := "mostAt", desc := "(I)I" } : Jvm.MethodName)) ∈ th_tb := kg (kt_5 (List.mem_of_getElem? (i := 187) rfl)) rfl
theorem kw_1148 : (Jvm.Cond.methodLink "CarpetHallsLaw" (159 : Nat) ({ cls := "CarpetHalls", name := "few", desc := "(II)J" } : Jvm.MethodName)) ∈ th_tb := kg (kt_5 (List.mem_of_getElem? (i := 188) rfl)) rfl
theorem kw_1149 : (Jvm.Cond.instanceMethod ({ cls := "CarpetHalls", name := "few", desc := "(II)J" } : Jvm.MethodName)) ∈ th_tb := kg (kt_5 (List.mem_of_getElem? (i := 189) rfl)) rfl
theorem kw_1150 : (Jvm.Cond.selects "CarpetHalls" ({ cls := "CarpetHalls", name := "few", desc := "(II)J" } : Jvm.MethodName) ({ cls := "CarpetHalls", name := "few", desc := "(II)J" } : Jvm.MethodName)) ∈ th_tb := kg (kt_5 (List.mem_of_getElem? (i := 190) rfl)) rfl
theorem kw_1151 : (Jvm.Cond.code ({ cls := "CarpetHalls", name := "few", desc := "(II)J" } : Jvm.MethodName) prog_1_method_37_code (3 : Nat) (Option.some Jvm.ClassFile.FieldType.long)) ∈ th_tb := kg (kt_5 (List.mem_of_getElem? (i := 191) rfl)) rfl
theorem kw_1152 : (Jvm.Cond.constantLong "CarpetHalls" (332 : Nat) (-1 : Int64)) ∈ th_tb := kg (kt_5 (List.mem_of_getElem? (i := 192) rfl)) rfl
theorem kw_1153 : (Jvm.Cond.methodLink "CarpetHalls" (334 : Nat) ({ cls := "CarpetHalls$Chance", name := "fewer", desc := "(III)J" } : Jvm.MethodName)) ∈ th_tb := kg (kt_5 (List.mem_of_getElem? (i := 193) rfl)) rfl
theorem kw_1154 : (Jvm.Cond.instanceMethod ({ cls := "CarpetHalls$Chance", name := "fewer", desc := "(III)J" } : Jvm.MethodName)) ∈ th_tb := kg (kt_5 (List.mem_of_getElem? (i := 194) rfl)) rfl
theorem kw_1155 : (Jvm.Cond.selects "CarpetHalls$Chance" ({ cls := "CarpetHalls$Chance", name := "fewer", desc := "(III)J" } : Jvm.MethodName) ({ cls := "CarpetHalls$Chance", name := "fewer", desc := "(III)J" } : Jvm.MethodName)) ∈ th_tb := kg (kt_5 (List.mem_of_getElem? (i := 195) rfl)) rfl
theorem kw_1156 : (Jvm.Cond.code ({ cls := "CarpetHalls$Chance", name := "fewer", desc := "(III)J" } : Jvm.MethodName) prog_2_method_2_code (7 : Nat) (Option.some Jvm.ClassFile.FieldType.long)) ∈ th_tb := kg (kt_5 (List.mem_of_getElem? (i := 196) rfl)) rfl
theorem kw_1157 : (Jvm.Cond.methodLink "CarpetHalls$Chance" (13 : Nat) ({ cls := "CarpetHalls$Chance", name := "setStart", desc := "(I)V" } : Jvm.MethodName)) ∈ th_tb := kg (kt_5 (List.mem_of_getElem? (i := 197) rfl)) rfl
theorem kw_1159 : (Jvm.Cond.instanceMethod ({ cls := "CarpetHalls$Chance", name := "setStart", desc := "(I)V" } : Jvm.MethodName)) ∈ th_tb := kg (kt_5 (List.mem_of_getElem? (i := 199) rfl)) rfl
theorem kw_1160 : (Jvm.Cond.code ({ cls := "CarpetHalls$Chance", name := "setStart", desc := "(I)V" } : Jvm.MethodName) prog_2_method_3_code (6 : Nat) (Option.none : Option Jvm.ClassFile.FieldType)) ∈ th_tb := kg (kt_5 (List.mem_of_getElem? (i := 200) rfl)) rfl
theorem kw_1161 : (Jvm.Cond.methodLink "CarpetHalls$Chance" (23 : Nat) ({ cls := "java/util/Arrays", name := "fill", desc := "([JJ)V" } : Jvm.MethodName)) ∈ th_tb := kg (kt_5 (List.mem_of_getElem? (i := 201) rfl)) rfl
theorem kw_1162 : (Jvm.Cond.constantLong "CarpetHalls$Chance" (29 : Nat) (10 : Int64)) ∈ th_tb := kg (kt_5 (List.mem_of_getElem? (i := 202) rfl)) rfl
theorem kw_1163 : (Jvm.Cond.methodLink "CarpetHalls$Chance" (17 : Nat) ({ cls := "CarpetHalls$Chance", name := "addOneMore", desc := "(II)V" } : Jvm.MethodName)) ∈ th_tb := kg (kt_5 (List.mem_of_getElem? (i := 203) rfl)) rfl
theorem kw_1165 : (Jvm.Cond.instanceMethod ({ cls := "CarpetHalls$Chance", name := "addOneMore", desc := "(II)V" } : Jvm.MethodName)) ∈ th_tb := kg (kt_5 (List.mem_of_getElem? (i := 205) rfl)) rfl
theorem kw_1166 : (Jvm.Cond.code ({ cls := "CarpetHalls$Chance", name := "addOneMore", desc := "(II)V" } : Jvm.MethodName) prog_2_method_4_code (9 : Nat) (Option.none : Option Jvm.ClassFile.FieldType)) ∈ th_tb := kg (kt_5 (List.mem_of_getElem? (i := 206) rfl)) rfl
theorem kw_1167 : (Jvm.Cond.constantLong "CarpetHalls$Chance" (21 : Nat) (1000000000000 : Int64)) ∈ th_tb := kg (kt_5 (List.mem_of_getElem? (i := 207) rfl)) rfl
theorem kw_1168 : (Jvm.Cond.methodLink "CarpetHallsLaw" (164 : Nat) ({ cls := "CarpetHalls", name := "compare", desc := "(I)I" } : Jvm.MethodName)) ∈ th_tb := kg (kt_5 (List.mem_of_getElem? (i := 208) rfl)) rfl
theorem kw_1169 : (Jvm.Cond.instanceMethod ({ cls := "CarpetHalls", name := "compare", desc := "(I)I" } : Jvm.MethodName)) ∈ th_tb := kg (kt_5 (List.mem_of_getElem? (i := 209) rfl)) rfl
theorem kw_1170 : (Jvm.Cond.selects "CarpetHalls" ({ cls := "CarpetHalls", name := "compare", desc := "(I)I" } : Jvm.MethodName) ({ cls := "CarpetHalls", name := "compare", desc := "(I)I" } : Jvm.MethodName)) ∈ th_tb := kg (kt_5 (List.mem_of_getElem? (i := 210) rfl)) rfl
theorem kw_1171 : (Jvm.Cond.code ({ cls := "CarpetHalls", name := "compare", desc := "(I)I" } : Jvm.MethodName) prog_1_method_38_code (3 : Nat) (Option.some Jvm.ClassFile.FieldType.int)) ∈ th_tb := kg (kt_5 (List.mem_of_getElem? (i := 211) rfl)) rfl
theorem kw_1172 : (Jvm.Cond.methodLink "CarpetHallsLaw" (168 : Nat) ({ cls := "CarpetHalls", name := "years", desc := "(II)I" } : Jvm.MethodName)) ∈ th_tb := kg (kt_5 (List.mem_of_getElem? (i := 212) rfl)) rfl
theorem kw_1173 : (Jvm.Cond.instanceMethod ({ cls := "CarpetHalls", name := "years", desc := "(II)I" } : Jvm.MethodName)) ∈ th_tb := kg (kt_5 (List.mem_of_getElem? (i := 213) rfl)) rfl
theorem kw_1174 : (Jvm.Cond.selects "CarpetHalls" ({ cls := "CarpetHalls", name := "years", desc := "(II)I" } : Jvm.MethodName) ({ cls := "CarpetHalls", name := "years", desc := "(II)I" } : Jvm.MethodName)) ∈ th_tb := kg (kt_5 (List.mem_of_getElem? (i := 214) rfl)) rfl
theorem kw_1175 : (Jvm.Cond.code ({ cls := "CarpetHalls", name := "years", desc := "(II)I" } : Jvm.MethodName) prog_1_method_39_code (5 : Nat) (Option.some Jvm.ClassFile.FieldType.int)) ∈ th_tb := kg (kt_5 (List.mem_of_getElem? (i := 215) rfl)) rfl
theorem kw_1176 : (Jvm.Cond.constant "CarpetHalls" (338 : Nat) (1000000 : Int32)) ∈ th_tb := kg (kt_5 (List.mem_of_getElem? (i := 216) rfl)) rfl
theorem kw_1177 : (Jvm.Cond.methodLink "CarpetHalls" (339 : Nat) ({ cls := "CarpetHalls", name := "drawYear", desc := "(I)I" } : Jvm.MethodName)) ∈ th_tb := kg (kt_5 (List.mem_of_getElem? (i := 217) rfl)) rfl
theorem kw_1179 : (Jvm.Cond.instanceMethod ({ cls := "CarpetHalls", name := "drawYear", desc := "(I)I" } : Jvm.MethodName)) ∈ th_tb := kg (kt_5 (List.mem_of_getElem? (i := 219) rfl)) rfl
theorem kw_1180 : (Jvm.Cond.code ({ cls := "CarpetHalls", name := "drawYear", desc := "(I)I" } : Jvm.MethodName) prog_1_method_55_code (9 : Nat) (Option.some Jvm.ClassFile.FieldType.int)) ∈ th_tb := kg (kt_5 (List.mem_of_getElem? (i := 220) rfl)) rfl
theorem kw_1181 : (Jvm.Cond.methodLink "CarpetHalls" (388 : Nat) ({ cls := "CarpetHalls", name := "nextDraw", desc := "(I)I" } : Jvm.MethodName)) ∈ th_tb := kg (kt_5 (List.mem_of_getElem? (i := 221) rfl)) rfl
theorem kw_1182 : (Jvm.Cond.static ({ cls := "CarpetHalls", name := "nextDraw", desc := "(I)I" } : Jvm.MethodName)) ∈ th_tb := kg (kt_5 (List.mem_of_getElem? (i := 222) rfl)) rfl
theorem kw_1183 : (Jvm.Cond.code ({ cls := "CarpetHalls", name := "nextDraw", desc := "(I)I" } : Jvm.MethodName) prog_1_method_54_code (1 : Nat) (Option.some Jvm.ClassFile.FieldType.int)) ∈ th_tb := kg (kt_5 (List.mem_of_getElem? (i := 223) rfl)) rfl
theorem kw_1184 : (Jvm.Cond.constant "CarpetHalls" (387 : Nat) (1000003 : Int32)) ∈ th_tb := kg (kt_5 (List.mem_of_getElem? (i := 224) rfl)) rfl
theorem kw_1185 : (Jvm.Cond.methodLink "CarpetHallsLaw" (172 : Nat) ({ cls := "CarpetHalls", name := "drawn", desc := "(II)I" } : Jvm.MethodName)) ∈ th_tb := kg (kt_5 (List.mem_of_getElem? (i := 225) rfl)) rfl
theorem kw_1186 : (Jvm.Cond.instanceMethod ({ cls := "CarpetHalls", name := "drawn", desc := "(II)I" } : Jvm.MethodName)) ∈ th_tb := kg (kt_5 (List.mem_of_getElem? (i := 226) rfl)) rfl
theorem kw_1187 : (Jvm.Cond.selects "CarpetHalls" ({ cls := "CarpetHalls", name := "drawn", desc := "(II)I" } : Jvm.MethodName) ({ cls := "CarpetHalls", name := "drawn", desc := "(II)I" } : Jvm.MethodName)) ∈ th_tb := kg (kt_5 (List.mem_of_getElem? (i := 227) rfl)) rfl
theorem kw_1188 : (Jvm.Cond.code ({ cls := "CarpetHalls", name := "drawn", desc := "(II)I" } : Jvm.MethodName) prog_1_method_40_code (3 : Nat) (Option.some Jvm.ClassFile.FieldType.int)) ∈ th_tb := kg (kt_5 (List.mem_of_getElem? (i := 228) rfl)) rfl
theorem kw_1189 : (Jvm.Cond.methodLink "CarpetHallsLaw" (176 : Nat) ({ cls := "CarpetHalls", name := "image", desc := "(I)I" } : Jvm.MethodName)) ∈ th_tb := kg (kt_5 (List.mem_of_getElem? (i := 229) rfl)) rfl
theorem kw_1190 : (Jvm.Cond.instanceMethod ({ cls := "CarpetHalls", name := "image", desc := "(I)I" } : Jvm.MethodName)) ∈ th_tb := kg (kt_5 (List.mem_of_getElem? (i := 230) rfl)) rfl
theorem kw_1191 : (Jvm.Cond.selects "CarpetHalls" ({ cls := "CarpetHalls", name := "image", desc := "(I)I" } : Jvm.MethodName) ({ cls := "CarpetHalls", name := "image", desc := "(I)I" } : Jvm.MethodName)) ∈ th_tb := kg (kt_5 (List.mem_of_getElem? (i := 231) rfl)) rfl
theorem kw_1192 : (Jvm.Cond.code ({ cls := "CarpetHalls", name := "image", desc := "(I)I" } : Jvm.MethodName) prog_1_method_41_code (2 : Nat) (Option.some Jvm.ClassFile.FieldType.int)) ∈ th_tb := kg (kt_5 (List.mem_of_getElem? (i := 232) rfl)) rfl
theorem kw_1193 : (Jvm.Cond.methodLink "CarpetHalls" (342 : Nat) ({ cls := "CarpetHalls$Stand", name := "copyFrom", desc := "(LCarpetHalls$Stand;)V" } : Jvm.MethodName)) ∈ th_tb := kg (kt_5 (List.mem_of_getElem? (i := 233) rfl)) rfl
theorem kw_1194 : (Jvm.Cond.instanceMethod ({ cls := "CarpetHalls$Stand", name := "copyFrom", desc := "(LCarpetHalls$Stand;)V" } : Jvm.MethodName)) ∈ th_tb := kg (kt_5 (List.mem_of_getElem? (i := 234) rfl)) rfl
theorem kw_1195 : (Jvm.Cond.selects "CarpetHalls$Stand" ({ cls := "CarpetHalls$Stand", name := "copyFrom", desc := "(LCarpetHalls$Stand;)V" } : Jvm.MethodName) ({ cls := "CarpetHalls$Stand", name := "copyFrom", desc := "(LCarpetHalls$Stand;)V" } : Jvm.MethodName)) ∈ th_tb := kg (kt_5 (List.mem_of_getElem? (i := 235) rfl)) rfl
theorem kw_1196 : (Jvm.Cond.code ({ cls := "CarpetHalls$Stand", name := "copyFrom", desc := "(LCarpetHalls$Stand;)V" } : Jvm.MethodName) prog_10_method_4_code (3 : Nat) (Option.none : Option Jvm.ClassFile.FieldType)) ∈ th_tb := kg (kt_5 (List.mem_of_getElem? (i := 236) rfl)) rfl
theorem kw_1197 : (Jvm.Cond.methodLink "CarpetHalls$Stand" (49 : Nat) ({ cls := "CarpetHalls$Floor", name := "copyFrom", desc := "(LCarpetHalls$Floor;)V" } : Jvm.MethodName)) ∈ th_tb := kg (kt_5 (List.mem_of_getElem? (i := 237) rfl)) rfl
theorem kw_1198 : (Jvm.Cond.methodLink "CarpetHalls$Stand" (53 : Nat) ({ cls := "CarpetHalls$Text", name := "copyFrom", desc := "(LCarpetHalls$Text;)V" } : Jvm.MethodName)) ∈ th_tb := kg (kt_5 (List.mem_of_getElem? (i := 238) rfl)) rfl
theorem kw_1199 : (Jvm.Cond.instanceMethod ({ cls := "CarpetHalls$Text", name := "copyFrom", desc := "(LCarpetHalls$Text;)V" } : Jvm.MethodName)) ∈ th_tb := kg (kt_5 (List.mem_of_getElem? (i := 239) rfl)) rfl
end
section
theorem kw_1200 : (Jvm.Cond.selects "CarpetHalls$Text" ({ cls := "CarpetHalls$Text", name := "copyFrom", desc := "(LCarpetHalls$Text;)V" } : Jvm.MethodName) ({ cls := "CarpetHalls$Text", name := "copyFrom", desc := "(LCarpetHalls$Text;)V" } : Jvm.MethodName)) ∈ th_tb := kg (kt_6 (List.mem_of_getElem? (i := 0) rfl)) rfl
theorem kw_1201 : (Jvm.Cond.code ({ cls := "CarpetHalls$Text", name := "copyFrom", desc := "(LCarpetHalls$Text;)V" } : Jvm.MethodName) prog_12_method_3_code (2 : Nat) (Option.none : Option Jvm.ClassFile.FieldType)) ∈ th_tb := kg (kt_6 (List.mem_of_getElem? (i := 1) rfl)) rfl
theorem kw_1202 : (Jvm.Cond.methodLink "CarpetHalls$Text" (25 : Nat) ({ cls := "java/lang/System", name := "arraycopy", desc := "(Ljava/lang/Object;ILjava/lang/Object;II)V" } : Jvm.MethodName)) ∈ th_tb := kg (kt_6 (List.mem_of_getElem? (i := 2) rfl)) rfl
theorem kw_1203 : (Jvm.Cond.methodLink "CarpetHalls$Stand" (56 : Nat) ({ cls := "java/lang/System", name := "arraycopy", desc := "(Ljava/lang/Object;ILjava/lang/Object;II)V" } : Jvm.MethodName)) ∈ th_tb := kg (kt_6 (List.mem_of_getElem? (i := 3) rfl)) rfl
theorem kw_1204 : (Jvm.Cond.methodLink "CarpetHallsLaw" (180 : Nat) ({ cls := "CarpetHalls", name := "back", desc := "(I)I" } : Jvm.MethodName)) ∈ th_tb := kg (kt_6 (List.mem_of_getElem? (i := 4) rfl)) rfl
theorem kw_1205 : (Jvm.Cond.instanceMethod ({ cls := "CarpetHalls", name := "back", desc := "(I)I" } : Jvm.MethodName)) ∈ th_tb := kg (kt_6 (List.mem_of_getElem? (i := 5) rfl)) rfl
theorem kw_1206 : (Jvm.Cond.selects "CarpetHalls" ({ cls := "CarpetHalls", name := "back", desc := "(I)I" } : Jvm.MethodName) ({ cls := "CarpetHalls", name := "back", desc := "(I)I" } : Jvm.MethodName)) ∈ th_tb := kg (kt_6 (List.mem_of_getElem? (i := 6) rfl)) rfl
theorem kw_1207 : (Jvm.Cond.code ({ cls := "CarpetHalls", name := "back", desc := "(I)I" } : Jvm.MethodName) prog_1_method_42_code (2 : Nat) (Option.some Jvm.ClassFile.FieldType.int)) ∈ th_tb := kg (kt_6 (List.mem_of_getElem? (i := 7) rfl)) rfl
theorem kw_1208 : (Jvm.Cond.methodLink "CarpetHallsLaw" (184 : Nat) ({ cls := "CarpetHalls", name := "count", desc := "(I)I" } : Jvm.MethodName)) ∈ th_tb := kg (kt_6 (List.mem_of_getElem? (i := 8) rfl)) rfl
theorem kw_1209 : (Jvm.Cond.instanceMethod ({ cls := "CarpetHalls", name := "count", desc := "(I)I" } : Jvm.MethodName)) ∈ th_tb := kg (kt_6 (List.mem_of_getElem? (i := 9) rfl)) rfl
theorem kw_1210 : (Jvm.Cond.selects "CarpetHalls" ({ cls := "CarpetHalls", name := "count", desc := "(I)I" } : Jvm.MethodName) ({ cls := "CarpetHalls", name := "count", desc := "(I)I" } : Jvm.MethodName)) ∈ th_tb := kg (kt_6 (List.mem_of_getElem? (i := 10) rfl)) rfl
theorem kw_1211 : (Jvm.Cond.code ({ cls := "CarpetHalls", name := "count", desc := "(I)I" } : Jvm.MethodName) prog_1_method_43_code (3 : Nat) (Option.some Jvm.ClassFile.FieldType.int)) ∈ th_tb := kg (kt_6 (List.mem_of_getElem? (i := 11) rfl)) rfl
theorem kw_1212 : (Jvm.Cond.methodLink "CarpetHalls" (345 : Nat) ({ cls := "CarpetHalls$Floor", name := "rags", desc := "()I" } : Jvm.MethodName)) ∈ th_tb := kg (kt_6 (List.mem_of_getElem? (i := 12) rfl)) rfl
theorem kw_1213 : (Jvm.Cond.instanceMethod ({ cls := "CarpetHalls$Floor", name := "rags", desc := "()I" } : Jvm.MethodName)) ∈ th_tb := kg (kt_6 (List.mem_of_getElem? (i := 13) rfl)) rfl
theorem kw_1214 : (Jvm.Cond.selects "CarpetHalls$Floor" ({ cls := "CarpetHalls$Floor", name := "rags", desc := "()I" } : Jvm.MethodName) ({ cls := "CarpetHalls$Floor", name := "rags", desc := "()I" } : Jvm.MethodName)) ∈ th_tb := kg (kt_6 (List.mem_of_getElem? (i := 14) rfl)) rfl
theorem kw_1215 : (Jvm.Cond.code ({ cls := "CarpetHalls$Floor", name := "rags", desc := "()I" } : Jvm.MethodName) prog_3_method_8_code (3 : Nat) (Option.some Jvm.ClassFile.FieldType.int)) ∈ th_tb := kg (kt_6 (List.mem_of_getElem? (i := 15) rfl)) rfl
theorem kw_1216 : (Jvm.Cond.methodLink "CarpetHallsLaw" (188 : Nat) ({ cls := "CarpetHalls", name := "status", desc := "()I" } : Jvm.MethodName)) ∈ th_tb := kg (kt_6 (List.mem_of_getElem? (i := 16) rfl)) rfl
theorem kw_1217 : (Jvm.Cond.instanceMethod ({ cls := "CarpetHalls", name := "status", desc := "()I" } : Jvm.MethodName)) ∈ th_tb := kg (kt_6 (List.mem_of_getElem? (i := 17) rfl)) rfl
theorem kw_1218 : (Jvm.Cond.selects "CarpetHalls" ({ cls := "CarpetHalls", name := "status", desc := "()I" } : Jvm.MethodName) ({ cls := "CarpetHalls", name := "status", desc := "()I" } : Jvm.MethodName)) ∈ th_tb := kg (kt_6 (List.mem_of_getElem? (i := 18) rfl)) rfl
theorem kw_1219 : (Jvm.Cond.code ({ cls := "CarpetHalls", name := "status", desc := "()I" } : Jvm.MethodName) prog_1_method_44_code (1 : Nat) (Option.some Jvm.ClassFile.FieldType.int)) ∈ th_tb := kg (kt_6 (List.mem_of_getElem? (i := 19) rfl)) rfl
theorem kw_1220 : (Jvm.Cond.classLink "CarpetHallsLaw" (10 : Nat) "CarpetHallsModel") ∈ th_tb := kg (kt_6 (List.mem_of_getElem? (i := 20) rfl)) rfl
theorem kw_1221 : (Jvm.Cond.instantiable "CarpetHallsModel" (57 : Nat)) ∈ th_tb := kg (kt_6 (List.mem_of_getElem? (i := 21) rfl)) rfl
theorem kw_1222 : (Jvm.Cond.methodLink "CarpetHallsLaw" (12 : Nat) ({ cls := "CarpetHallsModel", name := "<init>", desc := "()V" } : Jvm.MethodName)) ∈ th_tb := kg (kt_6 (List.mem_of_getElem? (i := 22) rfl)) rfl
theorem kw_1223 : (Jvm.Cond.instanceMethod ({ cls := "CarpetHallsModel", name := "<init>", desc := "()V" } : Jvm.MethodName)) ∈ th_tb := kg (kt_6 (List.mem_of_getElem? (i := 23) rfl)) rfl
theorem kw_1224 : (Jvm.Cond.code ({ cls := "CarpetHallsModel", name := "<init>", desc := "()V" } : Jvm.MethodName) prog_14_method_10_code (1 : Nat) (Option.none : Option Jvm.ClassFile.FieldType)) ∈ th_tb := kg (kt_6 (List.mem_of_getElem? (i := 24) rfl)) rfl
theorem kw_1225 : (Jvm.Cond.methodLink "CarpetHallsModel" (22 : Nat) ({ cls := "java/lang/Object", name := "<init>", desc := "()V" } : Jvm.MethodName)) ∈ th_tb := kg (kt_6 (List.mem_of_getElem? (i := 25) rfl)) rfl
theorem kw_1226 : (Jvm.Cond.fieldLink "CarpetHallsModel" (3 : Nat) "CarpetHallsModel" "status" "I") ∈ th_tb := kg (kt_6 (List.mem_of_getElem? (i := 26) rfl)) rfl
theorem kw_1227 : (Jvm.Cond.fieldLink "CarpetHallsModel" (7 : Nat) "CarpetHallsModel" "refused" "[I") ∈ th_tb := kg (kt_6 (List.mem_of_getElem? (i := 27) rfl)) rfl
theorem kw_1228 : (Jvm.Cond.fieldLink "CarpetHallsModel" (28 : Nat) "CarpetHallsModel" "kept" "[I") ∈ th_tb := kg (kt_6 (List.mem_of_getElem? (i := 28) rfl)) rfl
theorem kw_1229 : (Jvm.Cond.fieldLink "CarpetHallsModel" (31 : Nat) "CarpetHallsModel" "images" "[I") ∈ th_tb := kg (kt_6 (List.mem_of_getElem? (i := 29) rfl)) rfl
theorem kw_1230 : (Jvm.Cond.fieldLink "CarpetHallsModel" (34 : Nat) "CarpetHallsModel" "hasImage" "[Z") ∈ th_tb := kg (kt_6 (List.mem_of_getElem? (i := 30) rfl)) rfl
theorem kw_1231 : (Jvm.Cond.fieldLink "CarpetHallsModel" (38 : Nat) "CarpetHallsModel" "aside" "[I") ∈ th_tb := kg (kt_6 (List.mem_of_getElem? (i := 31) rfl)) rfl
theorem kw_1232 : (Jvm.Cond.fieldLink "CarpetHallsModel" (172 : Nat) "CarpetHallsModel" "fluff0" "I") ∈ th_tb := kg (kt_6 (List.mem_of_getElem? (i := 32) rfl)) rfl
theorem kw_1233 : (Jvm.Cond.fieldLink "CarpetHallsModel" (41 : Nat) "CarpetHallsModel" "words" "[B") ∈ th_tb := kg (kt_6 (List.mem_of_getElem? (i := 33) rfl)) rfl
theorem kw_1234 : (Jvm.Cond.fieldLink "CarpetHallsModel" (250 : Nat) "CarpetHallsModel" "firstWord" "I") ∈ th_tb := kg (kt_6 (List.mem_of_getElem? (i := 34) rfl)) rfl
theorem kw_1235 : (Jvm.Cond.fieldLink "CarpetHallsModel" (253 : Nat) "CarpetHallsModel" "lastWord" "I") ∈ th_tb := kg (kt_6 (List.mem_of_getElem? (i := 35) rfl)) rfl
theorem kw_1236 : (Jvm.Cond.fieldLink "CarpetHallsModel" (224 : Nat) "CarpetHallsModel" "isOrders" "Z") ∈ th_tb := kg (kt_6 (List.mem_of_getElem? (i := 36) rfl)) rfl
theorem kw_1237 : (Jvm.Cond.fieldLink "CarpetHallsModel" (45 : Nat) "CarpetHallsModel" "tape" "[B") ∈ th_tb := kg (kt_6 (List.mem_of_getElem? (i := 37) rfl)) rfl
theorem kw_1238 : (Jvm.Cond.fieldLink "CarpetHallsModel" (48 : Nat) "CarpetHallsModel" "five" "[I") ∈ th_tb := kg (kt_6 (List.mem_of_getElem? (i := 38) rfl)) rfl
theorem kw_1239 : (Jvm.Cond.fieldLink "CarpetHallsModel" (169 : Nat) "CarpetHallsModel" "taped" "I") ∈ th_tb := kg (kt_6 (List.mem_of_getElem? (i := 39) rfl)) rfl
theorem kw_1240 : (Jvm.Cond.fieldLink "CarpetHallsModel" (51 : Nat) "CarpetHallsModel" "fault" "I") ∈ th_tb := kg (kt_6 (List.mem_of_getElem? (i := 40) rfl)) rfl
theorem kw_1241 : (Jvm.Cond.fieldLink "CarpetHallsModel" (54 : Nat) "CarpetHallsModel" "code" "[I") ∈ th_tb := kg (kt_6 (List.mem_of_getElem? (i := 41) rfl)) rfl
theorem kw_1242 : (Jvm.Cond.fieldLink "CarpetHallsModel" (57 : Nat) "CarpetHallsModel" "value" "[I") ∈ th_tb := kg (kt_6 (List.mem_of_getElem? (i := 42) rfl)) rfl
theorem kw_1243 : (Jvm.Cond.fieldLink "CarpetHallsModel" (60 : Nat) "CarpetHallsModel" "placed" "[I") ∈ th_tb := kg (kt_6 (List.mem_of_getElem? (i := 43) rfl)) rfl
theorem kw_1244 : (Jvm.Cond.fieldLink "CarpetHallsModel" (175 : Nat) "CarpetHallsModel" "tokens" "I") ∈ th_tb := kg (kt_6 (List.mem_of_getElem? (i := 44) rfl)) rfl
theorem kw_1245 : (Jvm.Cond.fieldLink "CarpetHallsModel" (196 : Nat) "CarpetHallsModel" "token" "I") ∈ th_tb := kg (kt_6 (List.mem_of_getElem? (i := 45) rfl)) rfl
theorem kw_1246 : (Jvm.Cond.fieldLink "CarpetHallsModel" (205 : Nat) "CarpetHallsModel" "leaves" "I") ∈ th_tb := kg (kt_6 (List.mem_of_getElem? (i := 46) rfl)) rfl
theorem kw_1247 : (Jvm.Cond.fieldLink "CarpetHallsModel" (189 : Nat) "CarpetHallsModel" "bad" "I") ∈ th_tb := kg (kt_6 (List.mem_of_getElem? (i := 47) rfl)) rfl
theorem kw_1248 : (Jvm.Cond.fieldLink "CarpetHallsModel" (281 : Nat) "CarpetHallsModel" "go" "I") ∈ th_tb := kg (kt_6 (List.mem_of_getElem? (i := 48) rfl)) rfl
theorem kw_1249 : (Jvm.Cond.fieldLink "CarpetHallsModel" (278 : Nat) "CarpetHallsModel" "goEnd" "I") ∈ th_tb := kg (kt_6 (List.mem_of_getElem? (i := 49) rfl)) rfl
theorem kw_1250 : (Jvm.Cond.fieldLink "CarpetHallsModel" (291 : Nat) "CarpetHallsModel" "broken" "Z") ∈ th_tb := kg (kt_6 (List.mem_of_getElem? (i := 50) rfl)) rfl
theorem kw_1251 : (Jvm.Cond.fieldLink "CarpetHallsModel" (311 : Nat) "CarpetHallsModel" "inOrders" "Z") ∈ th_tb := kg (kt_6 (List.mem_of_getElem? (i := 51) rfl)) rfl
theorem kw_1252 : (Jvm.Cond.fieldLink "CarpetHallsModel" (63 : Nat) "CarpetHallsModel" "asked" "[I") ∈ th_tb := kg (kt_6 (List.mem_of_getElem? (i := 52) rfl)) rfl
theorem kw_1253 : (Jvm.Cond.fieldLink "CarpetHallsModel" (317 : Nat) "CarpetHallsModel" "orderDone" "I") ∈ th_tb := kg (kt_6 (List.mem_of_getElem? (i := 53) rfl)) rfl
theorem kw_1254 : (Jvm.Cond.fieldLink "CarpetHallsModel" (320 : Nat) "CarpetHallsModel" "orderLatest" "I") ∈ th_tb := kg (kt_6 (List.mem_of_getElem? (i := 54) rfl)) rfl
theorem kw_1255 : (Jvm.Cond.fieldLink "CarpetHallsModel" (66 : Nat) "CarpetHallsModel" "covered" "[I") ∈ th_tb := kg (kt_6 (List.mem_of_getElem? (i := 55) rfl)) rfl
theorem kw_1256 : (Jvm.Cond.fieldLink "CarpetHallsModel" (69 : Nat) "CarpetHallsModel" "worn" "[I") ∈ th_tb := kg (kt_6 (List.mem_of_getElem? (i := 56) rfl)) rfl
theorem kw_1257 : (Jvm.Cond.fieldLink "CarpetHallsModel" (72 : Nat) "CarpetHallsModel" "left0" "[I") ∈ th_tb := kg (kt_6 (List.mem_of_getElem? (i := 57) rfl)) rfl
theorem kw_1258 : (Jvm.Cond.fieldLink "CarpetHallsModel" (75 : Nat) "CarpetHallsModel" "leftAhead" "[I") ∈ th_tb := kg (kt_6 (List.mem_of_getElem? (i := 58) rfl)) rfl
theorem kw_1259 : (Jvm.Cond.fieldLink "CarpetHallsModel" (11 : Nat) "CarpetHallsModel" "undoMany" "I") ∈ th_tb := kg (kt_6 (List.mem_of_getElem? (i := 59) rfl)) rfl
theorem kw_1260 : (Jvm.Cond.fieldLink "CarpetHallsModel" (78 : Nat) "CarpetHallsModel" "price" "[I") ∈ th_tb := kg (kt_6 (List.mem_of_getElem? (i := 60) rfl)) rfl
theorem kw_1261 : (Jvm.Cond.fieldLink "CarpetHallsModel" (81 : Nat) "CarpetHallsModel" "row0" "[I") ∈ th_tb := kg (kt_6 (List.mem_of_getElem? (i := 61) rfl)) rfl
theorem kw_1262 : (Jvm.Cond.fieldLink "CarpetHallsModel" (84 : Nat) "CarpetHallsModel" "rowCell" "[I") ∈ th_tb := kg (kt_6 (List.mem_of_getElem? (i := 62) rfl)) rfl
theorem kw_1263 : (Jvm.Cond.fieldLink "CarpetHallsModel" (87 : Nat) "CarpetHallsModel" "firstRow" "[I") ∈ th_tb := kg (kt_6 (List.mem_of_getElem? (i := 63) rfl)) rfl
theorem kw_1264 : (Jvm.Cond.fieldLink "CarpetHallsModel" (90 : Nat) "CarpetHallsModel" "times" "[I") ∈ th_tb := kg (kt_6 (List.mem_of_getElem? (i := 64) rfl)) rfl
theorem kw_1265 : (Jvm.Cond.fieldLink "CarpetHallsModel" (421 : Nat) "CarpetHallsModel" "hallWide" "I") ∈ th_tb := kg (kt_6 (List.mem_of_getElem? (i := 65) rfl)) rfl
theorem kw_1266 : (Jvm.Cond.fieldLink "CarpetHallsModel" (424 : Nat) "CarpetHallsModel" "hallHigh" "I") ∈ th_tb := kg (kt_6 (List.mem_of_getElem? (i := 66) rfl)) rfl
theorem kw_1267 : (Jvm.Cond.fieldLink "CarpetHallsModel" (406 : Nat) "CarpetHallsModel" "fillMany" "I") ∈ th_tb := kg (kt_6 (List.mem_of_getElem? (i := 67) rfl)) rfl
theorem kw_1268 : (Jvm.Cond.fieldLink "CarpetHallsModel" (415 : Nat) "CarpetHallsModel" "firstMany" "I") ∈ th_tb := kg (kt_6 (List.mem_of_getElem? (i := 68) rfl)) rfl
theorem kw_1269 : (Jvm.Cond.fieldLink "CarpetHallsModel" (409 : Nat) "CarpetHallsModel" "least" "I") ∈ th_tb := kg (kt_6 (List.mem_of_getElem? (i := 69) rfl)) rfl
theorem kw_1270 : (Jvm.Cond.fieldLink "CarpetHallsModel" (400 : Nat) "CarpetHallsModel" "bySeen" "Z") ∈ th_tb := kg (kt_6 (List.mem_of_getElem? (i := 70) rfl)) rfl
theorem kw_1271 : (Jvm.Cond.fieldLink "CarpetHallsModel" (418 : Nat) "CarpetHallsModel" "oneDoes" "Z") ∈ th_tb := kg (kt_6 (List.mem_of_getElem? (i := 71) rfl)) rfl
theorem kw_1272 : (Jvm.Cond.fieldLink "CarpetHallsModel" (93 : Nat) "CarpetHallsModel" "shares" "[J") ∈ th_tb := kg (kt_6 (List.mem_of_getElem? (i := 72) rfl)) rfl
theorem kw_1273 : (Jvm.Cond.fieldLink "CarpetHallsModel" (97 : Nat) "CarpetHallsModel" "stopped0" "I") ∈ th_tb := kg (kt_6 (List.mem_of_getElem? (i := 73) rfl)) rfl
theorem kw_1274 : (Jvm.Cond.fieldLink "CarpetHallsModel" (480 : Nat) "CarpetHallsModel" "orderAt" "I") ∈ th_tb := kg (kt_6 (List.mem_of_getElem? (i := 74) rfl)) rfl
theorem kw_1275 : (Jvm.Cond.fieldLink "CarpetHallsModel" (495 : Nat) "CarpetHallsModel" "howOften" "I") ∈ th_tb := kg (kt_6 (List.mem_of_getElem? (i := 75) rfl)) rfl
theorem kw_1276 : (Jvm.Cond.fieldLink "CarpetHallsModel" (489 : Nat) "CarpetHallsModel" "head" "I") ∈ th_tb := kg (kt_6 (List.mem_of_getElem? (i := 76) rfl)) rfl
theorem kw_1277 : (Jvm.Cond.fieldLink "CarpetHallsModel" (492 : Nat) "CarpetHallsModel" "sumsAre" "Z") ∈ th_tb := kg (kt_6 (List.mem_of_getElem? (i := 77) rfl)) rfl
theorem kw_1278 : (Jvm.Cond.fieldLink "CarpetHallsModel" (498 : Nat) "CarpetHallsModel" "testIs" "Z") ∈ th_tb := kg (kt_6 (List.mem_of_getElem? (i := 78) rfl)) rfl
theorem kw_1279 : (Jvm.Cond.fieldLink "CarpetHallsModel" (100 : Nat) "CarpetHallsModel" "sums" "[J") ∈ th_tb := kg (kt_6 (List.mem_of_getElem? (i := 79) rfl)) rfl
theorem kw_1280 : (Jvm.Cond.fieldLink "CarpetHallsModel" (103 : Nat) "CarpetHallsModel" "drawnMoved" "[I") ∈ th_tb := kg (kt_6 (List.mem_of_getElem? (i := 80) rfl)) rfl
theorem kw_1281 : (Jvm.Cond.fieldLink "CarpetHallsModel" (106 : Nat) "CarpetHallsModel" "drawnMany" "I") ∈ th_tb := kg (kt_6 (List.mem_of_getElem? (i := 81) rfl)) rfl
theorem kw_1282 : (Jvm.Cond.fieldLink "CarpetHallsModel" (516 : Nat) "CarpetHallsModel" "latest" "I") ∈ th_tb := kg (kt_6 (List.mem_of_getElem? (i := 82) rfl)) rfl
theorem kw_1283 : (Jvm.Cond.lays "CarpetHallsModel" "CarpetHallsModel" "status" "I") ∈ th_tb := kg (kt_6 (List.mem_of_getElem? (i := 83) rfl)) rfl
theorem kw_1285 : (Jvm.Cond.laysFinal "CarpetHallsModel" "CarpetHallsModel" "refused" "[I") ∈ th_tb := kg (kt_6 (List.mem_of_getElem? (i := 85) rfl)) rfl
theorem kw_1287 : (Jvm.Cond.laysFinal "CarpetHallsModel" "CarpetHallsModel" "kept" "[I") ∈ th_tb := kg (kt_6 (List.mem_of_getElem? (i := 87) rfl)) rfl
theorem kw_1289 : (Jvm.Cond.laysFinal "CarpetHallsModel" "CarpetHallsModel" "images" "[I") ∈ th_tb := kg (kt_6 (List.mem_of_getElem? (i := 89) rfl)) rfl
theorem kw_1291 : (Jvm.Cond.laysFinal "CarpetHallsModel" "CarpetHallsModel" "hasImage" "[Z") ∈ th_tb := kg (kt_6 (List.mem_of_getElem? (i := 91) rfl)) rfl
theorem kw_1293 : (Jvm.Cond.laysFinal "CarpetHallsModel" "CarpetHallsModel" "aside" "[I") ∈ th_tb := kg (kt_6 (List.mem_of_getElem? (i := 93) rfl)) rfl
theorem kw_1295 : (Jvm.Cond.lays "CarpetHallsModel" "CarpetHallsModel" "fluff0" "I") ∈ th_tb := kg (kt_6 (List.mem_of_getElem? (i := 95) rfl)) rfl
theorem kw_1297 : (Jvm.Cond.laysFinal "CarpetHallsModel" "CarpetHallsModel" "words" "[B") ∈ th_tb := kg (kt_6 (List.mem_of_getElem? (i := 97) rfl)) rfl
theorem kw_1299 : (Jvm.Cond.lays "CarpetHallsModel" "CarpetHallsModel" "firstWord" "I") ∈ th_tb := kg (kt_6 (List.mem_of_getElem? (i := 99) rfl)) rfl
theorem kw_1301 : (Jvm.Cond.lays "CarpetHallsModel" "CarpetHallsModel" "lastWord" "I") ∈ th_tb := kg (kt_6 (List.mem_of_getElem? (i := 101) rfl)) rfl
theorem kw_1303 : (Jvm.Cond.lays "CarpetHallsModel" "CarpetHallsModel" "isOrders" "Z") ∈ th_tb := kg (kt_6 (List.mem_of_getElem? (i := 103) rfl)) rfl
theorem kw_1305 : (Jvm.Cond.laysFinal "CarpetHallsModel" "CarpetHallsModel" "tape" "[B") ∈ th_tb := kg (kt_6 (List.mem_of_getElem? (i := 105) rfl)) rfl
theorem kw_1307 : (Jvm.Cond.laysFinal "CarpetHallsModel" "CarpetHallsModel" "five" "[I") ∈ th_tb := kg (kt_6 (List.mem_of_getElem? (i := 107) rfl)) rfl
theorem kw_1309 : (Jvm.Cond.lays "CarpetHallsModel" "CarpetHallsModel" "taped" "I") ∈ th_tb := kg (kt_6 (List.mem_of_getElem? (i := 109) rfl)) rfl
theorem kw_1311 : (Jvm.Cond.lays "CarpetHallsModel" "CarpetHallsModel" "fault" "I") ∈ th_tb := kg (kt_6 (List.mem_of_getElem? (i := 111) rfl)) rfl
theorem kw_1313 : (Jvm.Cond.laysFinal "CarpetHallsModel" "CarpetHallsModel" "code" "[I") ∈ th_tb := kg (kt_6 (List.mem_of_getElem? (i := 113) rfl)) rfl
theorem kw_1315 : (Jvm.Cond.laysFinal "CarpetHallsModel" "CarpetHallsModel" "value" "[I") ∈ th_tb := kg (kt_6 (List.mem_of_getElem? (i := 115) rfl)) rfl
theorem kw_1317 : (Jvm.Cond.laysFinal "CarpetHallsModel" "CarpetHallsModel" "placed" "[I") ∈ th_tb := kg (kt_6 (List.mem_of_getElem? (i := 117) rfl)) rfl
theorem kw_1319 : (Jvm.Cond.lays "CarpetHallsModel" "CarpetHallsModel" "tokens" "I") ∈ th_tb := kg (kt_6 (List.mem_of_getElem? (i := 119) rfl)) rfl
theorem kw_1321 : (Jvm.Cond.lays "CarpetHallsModel" "CarpetHallsModel" "token" "I") ∈ th_tb := kg (kt_6 (List.mem_of_getElem? (i := 121) rfl)) rfl
theorem kw_1323 : (Jvm.Cond.lays "CarpetHallsModel" "CarpetHallsModel" "leaves" "I") ∈ th_tb := kg (kt_6 (List.mem_of_getElem? (i := 123) rfl)) rfl
theorem kw_1325 : (Jvm.Cond.lays "CarpetHallsModel" "CarpetHallsModel" "bad" "I") ∈ th_tb := kg (kt_6 (List.mem_of_getElem? (i := 125) rfl)) rfl
theorem kw_1327 : (Jvm.Cond.lays "CarpetHallsModel" "CarpetHallsModel" "go" "I") ∈ th_tb := kg (kt_6 (List.mem_of_getElem? (i := 127) rfl)) rfl
theorem kw_1329 : (Jvm.Cond.lays "CarpetHallsModel" "CarpetHallsModel" "goEnd" "I") ∈ th_tb := kg (kt_6 (List.mem_of_getElem? (i := 129) rfl)) rfl
theorem kw_1331 : (Jvm.Cond.lays "CarpetHallsModel" "CarpetHallsModel" "broken" "Z") ∈ th_tb := kg (kt_6 (List.mem_of_getElem? (i := 131) rfl)) rfl
theorem kw_1333 : (Jvm.Cond.lays "CarpetHallsModel" "CarpetHallsModel" "inOrders" "Z") ∈ th_tb := kg (kt_6 (List.mem_of_getElem? (i := 133) rfl)) rfl
theorem kw_1335 : (Jvm.Cond.laysFinal "CarpetHallsModel" "CarpetHallsModel" "asked" "[I") ∈ th_tb := kg (kt_6 (List.mem_of_getElem? (i := 135) rfl)) rfl
theorem kw_1337 : (Jvm.Cond.lays "CarpetHallsModel" "CarpetHallsModel" "orderDone" "I") ∈ th_tb := kg (kt_6 (List.mem_of_getElem? (i := 137) rfl)) rfl
theorem kw_1339 : (Jvm.Cond.lays "CarpetHallsModel" "CarpetHallsModel" "orderLatest" "I") ∈ th_tb := kg (kt_6 (List.mem_of_getElem? (i := 139) rfl)) rfl
theorem kw_1341 : (Jvm.Cond.laysFinal "CarpetHallsModel" "CarpetHallsModel" "covered" "[I") ∈ th_tb := kg (kt_6 (List.mem_of_getElem? (i := 141) rfl)) rfl
theorem kw_1343 : (Jvm.Cond.laysFinal "CarpetHallsModel" "CarpetHallsModel" "worn" "[I") ∈ th_tb := kg (kt_6 (List.mem_of_getElem? (i := 143) rfl)) rfl
theorem kw_1345 : (Jvm.Cond.laysFinal "CarpetHallsModel" "CarpetHallsModel" "left0" "[I") ∈ th_tb := kg (kt_6 (List.mem_of_getElem? (i := 145) rfl)) rfl
theorem kw_1347 : (Jvm.Cond.laysFinal "CarpetHallsModel" "CarpetHallsModel" "leftAhead" "[I") ∈ th_tb := kg (kt_6 (List.mem_of_getElem? (i := 147) rfl)) rfl
theorem kw_1349 : (Jvm.Cond.lays "CarpetHallsModel" "CarpetHallsModel" "undoMany" "I") ∈ th_tb := kg (kt_6 (List.mem_of_getElem? (i := 149) rfl)) rfl
theorem kw_1351 : (Jvm.Cond.laysFinal "CarpetHallsModel" "CarpetHallsModel" "price" "[I") ∈ th_tb := kg (kt_6 (List.mem_of_getElem? (i := 151) rfl)) rfl
theorem kw_1353 : (Jvm.Cond.laysFinal "CarpetHallsModel" "CarpetHallsModel" "row0" "[I") ∈ th_tb := kg (kt_6 (List.mem_of_getElem? (i := 153) rfl)) rfl
theorem kw_1355 : (Jvm.Cond.laysFinal "CarpetHallsModel" "CarpetHallsModel" "rowCell" "[I") ∈ th_tb := kg (kt_6 (List.mem_of_getElem? (i := 155) rfl)) rfl
theorem kw_1357 : (Jvm.Cond.laysFinal "CarpetHallsModel" "CarpetHallsModel" "firstRow" "[I") ∈ th_tb := kg (kt_6 (List.mem_of_getElem? (i := 157) rfl)) rfl
theorem kw_1359 : (Jvm.Cond.laysFinal "CarpetHallsModel" "CarpetHallsModel" "times" "[I") ∈ th_tb := kg (kt_6 (List.mem_of_getElem? (i := 159) rfl)) rfl
theorem kw_1361 : (Jvm.Cond.lays "CarpetHallsModel" "CarpetHallsModel" "hallWide" "I") ∈ th_tb := kg (kt_6 (List.mem_of_getElem? (i := 161) rfl)) rfl
theorem kw_1363 : (Jvm.Cond.lays "CarpetHallsModel" "CarpetHallsModel" "hallHigh" "I") ∈ th_tb := kg (kt_6 (List.mem_of_getElem? (i := 163) rfl)) rfl
theorem kw_1365 : (Jvm.Cond.lays "CarpetHallsModel" "CarpetHallsModel" "fillMany" "I") ∈ th_tb := kg (kt_6 (List.mem_of_getElem? (i := 165) rfl)) rfl
theorem kw_1367 : (Jvm.Cond.lays "CarpetHallsModel" "CarpetHallsModel" "firstMany" "I") ∈ th_tb := kg (kt_6 (List.mem_of_getElem? (i := 167) rfl)) rfl
theorem kw_1369 : (Jvm.Cond.lays "CarpetHallsModel" "CarpetHallsModel" "least" "I") ∈ th_tb := kg (kt_6 (List.mem_of_getElem? (i := 169) rfl)) rfl
theorem kw_1371 : (Jvm.Cond.lays "CarpetHallsModel" "CarpetHallsModel" "bySeen" "Z") ∈ th_tb := kg (kt_6 (List.mem_of_getElem? (i := 171) rfl)) rfl
theorem kw_1373 : (Jvm.Cond.lays "CarpetHallsModel" "CarpetHallsModel" "oneDoes" "Z") ∈ th_tb := kg (kt_6 (List.mem_of_getElem? (i := 173) rfl)) rfl
theorem kw_1375 : (Jvm.Cond.laysFinal "CarpetHallsModel" "CarpetHallsModel" "shares" "[J") ∈ th_tb := kg (kt_6 (List.mem_of_getElem? (i := 175) rfl)) rfl
theorem kw_1377 : (Jvm.Cond.lays "CarpetHallsModel" "CarpetHallsModel" "stopped0" "I") ∈ th_tb := kg (kt_6 (List.mem_of_getElem? (i := 177) rfl)) rfl
theorem kw_1379 : (Jvm.Cond.lays "CarpetHallsModel" "CarpetHallsModel" "orderAt" "I") ∈ th_tb := kg (kt_6 (List.mem_of_getElem? (i := 179) rfl)) rfl
theorem kw_1381 : (Jvm.Cond.lays "CarpetHallsModel" "CarpetHallsModel" "howOften" "I") ∈ th_tb := kg (kt_6 (List.mem_of_getElem? (i := 181) rfl)) rfl
theorem kw_1383 : (Jvm.Cond.lays "CarpetHallsModel" "CarpetHallsModel" "head" "I") ∈ th_tb := kg (kt_6 (List.mem_of_getElem? (i := 183) rfl)) rfl
theorem kw_1385 : (Jvm.Cond.lays "CarpetHallsModel" "CarpetHallsModel" "sumsAre" "Z") ∈ th_tb := kg (kt_6 (List.mem_of_getElem? (i := 185) rfl)) rfl
theorem kw_1387 : (Jvm.Cond.lays "CarpetHallsModel" "CarpetHallsModel" "testIs" "Z") ∈ th_tb := kg (kt_6 (List.mem_of_getElem? (i := 187) rfl)) rfl
theorem kw_1389 : (Jvm.Cond.laysFinal "CarpetHallsModel" "CarpetHallsModel" "sums" "[J") ∈ th_tb := kg (kt_6 (List.mem_of_getElem? (i := 189) rfl)) rfl
theorem kw_1391 : (Jvm.Cond.laysFinal "CarpetHallsModel" "CarpetHallsModel" "drawnMoved" "[I") ∈ th_tb := kg (kt_6 (List.mem_of_getElem? (i := 191) rfl)) rfl
theorem kw_1393 : (Jvm.Cond.lays "CarpetHallsModel" "CarpetHallsModel" "drawnMany" "I") ∈ th_tb := kg (kt_6 (List.mem_of_getElem? (i := 193) rfl)) rfl
theorem kw_1395 : (Jvm.Cond.lays "CarpetHallsModel" "CarpetHallsModel" "latest" "I") ∈ th_tb := kg (kt_6 (List.mem_of_getElem? (i := 195) rfl)) rfl
theorem kw_1398 : (Jvm.Cond.methodLink "CarpetHallsLaw" (179 : Nat) ({ cls := "CarpetHallsModel", name := "image", desc := "(I)I" } : Jvm.MethodName)) ∈ th_tb := kg (kt_6 (List.mem_of_getElem? (i := 198) rfl)) rfl
theorem kw_1399 : (Jvm.Cond.instanceMethod ({ cls := "CarpetHallsModel", name := "image", desc := "(I)I" } : Jvm.MethodName)) ∈ th_tb := kg (kt_6 (List.mem_of_getElem? (i := 199) rfl)) rfl
theorem kw_1400 : (Jvm.Cond.selects "CarpetHallsModel" ({ cls := "CarpetHallsModel", name := "image", desc := "(I)I" } : Jvm.MethodName) ({ cls := "CarpetHallsModel", name := "image", desc := "(I)I" } : Jvm.MethodName)) ∈ th_tb := kg (kt_6 (List.mem_of_getElem? (i := 200) rfl)) rfl
theorem kw_1401 : (Jvm.Cond.code ({ cls := "CarpetHallsModel", name := "image", desc := "(I)I" } : Jvm.MethodName) prog_14_method_13_code (3 : Nat) (Option.some Jvm.ClassFile.FieldType.int)) ∈ th_tb := kg (kt_6 (List.mem_of_getElem? (i := 201) rfl)) rfl
theorem kw_1402 : (Jvm.Cond.methodLink "CarpetHallsModel" (18 : Nat) ({ cls := "CarpetHallsModel", name := "lies", desc := "(III)Z" } : Jvm.MethodName)) ∈ th_tb := kg (kt_6 (List.mem_of_getElem? (i := 202) rfl)) rfl
theorem kw_1403 : (Jvm.Cond.static ({ cls := "CarpetHallsModel", name := "lies", desc := "(III)Z" } : Jvm.MethodName)) ∈ th_tb := kg (kt_6 (List.mem_of_getElem? (i := 203) rfl)) rfl
theorem kw_1404 : (Jvm.Cond.code ({ cls := "CarpetHallsModel", name := "lies", desc := "(III)Z" } : Jvm.MethodName) prog_14_method_1_code (3 : Nat) (Option.some Jvm.ClassFile.FieldType.boolean)) ∈ th_tb := kg (kt_6 (List.mem_of_getElem? (i := 204) rfl)) rfl
theorem kw_1405 : (Jvm.Cond.methodLink "CarpetHallsModel" (109 : Nat) ({ cls := "CarpetHallsModel", name := "refuses", desc := "(I)I" } : Jvm.MethodName)) ∈ th_tb := kg (kt_6 (List.mem_of_getElem? (i := 205) rfl)) rfl
theorem kw_1407 : (Jvm.Cond.instanceMethod ({ cls := "CarpetHallsModel", name := "refuses", desc := "(I)I" } : Jvm.MethodName)) ∈ th_tb := kg (kt_6 (List.mem_of_getElem? (i := 207) rfl)) rfl
theorem kw_1408 : (Jvm.Cond.code ({ cls := "CarpetHallsModel", name := "refuses", desc := "(I)I" } : Jvm.MethodName) prog_14_method_4_code (2 : Nat) (Option.some Jvm.ClassFile.FieldType.int)) ∈ th_tb := kg (kt_6 (List.mem_of_getElem? (i := 208) rfl)) rfl
theorem kw_1409 : (Jvm.Cond.methodLink "CarpetHallsModel" (14 : Nat) ({ cls := "CarpetHallsModel", name := "good", desc := "(I)I" } : Jvm.MethodName)) ∈ th_tb := kg (kt_6 (List.mem_of_getElem? (i := 209) rfl)) rfl
theorem kw_1411 : (Jvm.Cond.instanceMethod ({ cls := "CarpetHallsModel", name := "good", desc := "(I)I" } : Jvm.MethodName)) ∈ th_tb := kg (kt_6 (List.mem_of_getElem? (i := 211) rfl)) rfl
theorem kw_1412 : (Jvm.Cond.code ({ cls := "CarpetHallsModel", name := "good", desc := "(I)I" } : Jvm.MethodName) prog_14_method_5_code (2 : Nat) (Option.some Jvm.ClassFile.FieldType.int)) ∈ th_tb := kg (kt_6 (List.mem_of_getElem? (i := 212) rfl)) rfl
theorem kw_1413 : (Jvm.Cond.methodLink "CarpetHallsLaw" (183 : Nat) ({ cls := "CarpetHallsModel", name := "back", desc := "(I)I" } : Jvm.MethodName)) ∈ th_tb := kg (kt_6 (List.mem_of_getElem? (i := 213) rfl)) rfl
theorem kw_1414 : (Jvm.Cond.instanceMethod ({ cls := "CarpetHallsModel", name := "back", desc := "(I)I" } : Jvm.MethodName)) ∈ th_tb := kg (kt_6 (List.mem_of_getElem? (i := 214) rfl)) rfl
theorem kw_1415 : (Jvm.Cond.selects "CarpetHallsModel" ({ cls := "CarpetHallsModel", name := "back", desc := "(I)I" } : Jvm.MethodName) ({ cls := "CarpetHallsModel", name := "back", desc := "(I)I" } : Jvm.MethodName)) ∈ th_tb := kg (kt_6 (List.mem_of_getElem? (i := 215) rfl)) rfl
theorem kw_1416 : (Jvm.Cond.code ({ cls := "CarpetHallsModel", name := "back", desc := "(I)I" } : Jvm.MethodName) prog_14_method_14_code (3 : Nat) (Option.some Jvm.ClassFile.FieldType.int)) ∈ th_tb := kg (kt_6 (List.mem_of_getElem? (i := 216) rfl)) rfl
theorem kw_1417 : (Jvm.Cond.methodLink "CarpetHallsModel" (112 : Nat) ({ cls := "CarpetHallsModel", name := "settled", desc := "(I)I" } : Jvm.MethodName)) ∈ th_tb := kg (kt_6 (List.mem_of_getElem? (i := 217) rfl)) rfl
theorem kw_1419 : (Jvm.Cond.instanceMethod ({ cls := "CarpetHallsModel", name := "settled", desc := "(I)I" } : Jvm.MethodName)) ∈ th_tb := kg (kt_6 (List.mem_of_getElem? (i := 219) rfl)) rfl
theorem kw_1420 : (Jvm.Cond.code ({ cls := "CarpetHallsModel", name := "settled", desc := "(I)I" } : Jvm.MethodName) prog_14_method_6_code (2 : Nat) (Option.some Jvm.ClassFile.FieldType.int)) ∈ th_tb := kg (kt_6 (List.mem_of_getElem? (i := 220) rfl)) rfl
theorem kw_1421 : (Jvm.Cond.methodLink "CarpetHallsLaw" (17 : Nat) ({ cls := "CarpetHallsModel", name := "carpet", desc := "(III)I" } : Jvm.MethodName)) ∈ th_tb := kg (kt_6 (List.mem_of_getElem? (i := 221) rfl)) rfl
theorem kw_1422 : (Jvm.Cond.instanceMethod ({ cls := "CarpetHallsModel", name := "carpet", desc := "(III)I" } : Jvm.MethodName)) ∈ th_tb := kg (kt_6 (List.mem_of_getElem? (i := 222) rfl)) rfl
theorem kw_1423 : (Jvm.Cond.selects "CarpetHallsModel" ({ cls := "CarpetHallsModel", name := "carpet", desc := "(III)I" } : Jvm.MethodName) ({ cls := "CarpetHallsModel", name := "carpet", desc := "(III)I" } : Jvm.MethodName)) ∈ th_tb := kg (kt_6 (List.mem_of_getElem? (i := 223) rfl)) rfl
theorem kw_1424 : (Jvm.Cond.code ({ cls := "CarpetHallsModel", name := "carpet", desc := "(III)I" } : Jvm.MethodName) prog_14_method_22_code (4 : Nat) (Option.some Jvm.ClassFile.FieldType.int)) ∈ th_tb := kg (kt_6 (List.mem_of_getElem? (i := 224) rfl)) rfl
theorem kw_1425 : (Jvm.Cond.methodLink "CarpetHallsModel" (127 : Nat) ({ cls := "CarpetHallsModel", name := "canBe", desc := "(III)Z" } : Jvm.MethodName)) ∈ th_tb := kg (kt_6 (List.mem_of_getElem? (i := 225) rfl)) rfl
theorem kw_1426 : (Jvm.Cond.static ({ cls := "CarpetHallsModel", name := "canBe", desc := "(III)Z" } : Jvm.MethodName)) ∈ th_tb := kg (kt_6 (List.mem_of_getElem? (i := 226) rfl)) rfl
theorem kw_1427 : (Jvm.Cond.code ({ cls := "CarpetHallsModel", name := "canBe", desc := "(III)Z" } : Jvm.MethodName) prog_14_method_19_code (3 : Nat) (Option.some Jvm.ClassFile.FieldType.boolean)) ∈ th_tb := kg (kt_6 (List.mem_of_getElem? (i := 227) rfl)) rfl
theorem kw_1428 : (Jvm.Cond.methodLink "CarpetHallsModel" (119 : Nat) ({ cls := "CarpetHallsModel", name := "isSide", desc := "(I)Z" } : Jvm.MethodName)) ∈ th_tb := kg (kt_6 (List.mem_of_getElem? (i := 228) rfl)) rfl
theorem kw_1429 : (Jvm.Cond.static ({ cls := "CarpetHallsModel", name := "isSide", desc := "(I)Z" } : Jvm.MethodName)) ∈ th_tb := kg (kt_6 (List.mem_of_getElem? (i := 229) rfl)) rfl
theorem kw_1430 : (Jvm.Cond.code ({ cls := "CarpetHallsModel", name := "isSide", desc := "(I)Z" } : Jvm.MethodName) prog_14_method_8_code (1 : Nat) (Option.some Jvm.ClassFile.FieldType.boolean)) ∈ th_tb := kg (kt_6 (List.mem_of_getElem? (i := 230) rfl)) rfl
theorem kw_1431 : (Jvm.Cond.methodLink "CarpetHallsModel" (115 : Nat) ({ cls := "CarpetHallsModel", name := "many", desc := "()I" } : Jvm.MethodName)) ∈ th_tb := kg (kt_6 (List.mem_of_getElem? (i := 231) rfl)) rfl
theorem kw_1433 : (Jvm.Cond.instanceMethod ({ cls := "CarpetHallsModel", name := "many", desc := "()I" } : Jvm.MethodName)) ∈ th_tb := kg (kt_6 (List.mem_of_getElem? (i := 233) rfl)) rfl
theorem kw_1434 : (Jvm.Cond.code ({ cls := "CarpetHallsModel", name := "many", desc := "()I" } : Jvm.MethodName) prog_14_method_15_code (1 : Nat) (Option.some Jvm.ClassFile.FieldType.int)) ∈ th_tb := kg (kt_6 (List.mem_of_getElem? (i := 234) rfl)) rfl
theorem kw_1435 : (Jvm.Cond.methodLink "CarpetHallsModel" (130 : Nat) ({ cls := "CarpetHallsModel", name := "adds", desc := "(III)V" } : Jvm.MethodName)) ∈ th_tb := kg (kt_6 (List.mem_of_getElem? (i := 235) rfl)) rfl
theorem kw_1437 : (Jvm.Cond.instanceMethod ({ cls := "CarpetHallsModel", name := "adds", desc := "(III)V" } : Jvm.MethodName)) ∈ th_tb := kg (kt_6 (List.mem_of_getElem? (i := 237) rfl)) rfl
theorem kw_1438 : (Jvm.Cond.code ({ cls := "CarpetHallsModel", name := "adds", desc := "(III)V" } : Jvm.MethodName) prog_14_method_20_code (5 : Nat) (Option.none : Option Jvm.ClassFile.FieldType)) ∈ th_tb := kg (kt_6 (List.mem_of_getElem? (i := 238) rfl)) rfl
theorem kw_1439 : (Jvm.Cond.methodLink "CarpetHallsModel" (123 : Nat) ({ cls := "CarpetHallsModel", name := "rolls", desc := "(I)V" } : Jvm.MethodName)) ∈ th_tb := kg (kt_6 (List.mem_of_getElem? (i := 239) rfl)) rfl
theorem kw_1441 : (Jvm.Cond.instanceMethod ({ cls := "CarpetHallsModel", name := "rolls", desc := "(I)V" } : Jvm.MethodName)) ∈ th_tb := kg (kt_7 (List.mem_of_getElem? (i := 1) rfl)) rfl
theorem kw_1442 : (Jvm.Cond.code ({ cls := "CarpetHallsModel", name := "rolls", desc := "(I)V" } : Jvm.MethodName) prog_14_method_21_code (2 : Nat) (Option.none : Option Jvm.ClassFile.FieldType)) ∈ th_tb := kg (kt_7 (List.mem_of_getElem? (i := 2) rfl)) rfl
theorem kw_1443 : (Jvm.Cond.methodLink "CarpetHallsLaw" (22 : Nat) ({ cls := "CarpetHallsModel", name := "of", desc := "(II)I" } : Jvm.MethodName)) ∈ th_tb := kg (kt_7 (List.mem_of_getElem? (i := 3) rfl)) rfl
theorem kw_1444 : (Jvm.Cond.instanceMethod ({ cls := "CarpetHallsModel", name := "of", desc := "(II)I" } : Jvm.MethodName)) ∈ th_tb := kg (kt_7 (List.mem_of_getElem? (i := 4) rfl)) rfl
theorem kw_1445 : (Jvm.Cond.selects "CarpetHallsModel" ({ cls := "CarpetHallsModel", name := "of", desc := "(II)I" } : Jvm.MethodName) ({ cls := "CarpetHallsModel", name := "of", desc := "(II)I" } : Jvm.MethodName)) ∈ th_tb := kg (kt_7 (List.mem_of_getElem? (i := 5) rfl)) rfl
theorem kw_1446 : (Jvm.Cond.code ({ cls := "CarpetHallsModel", name := "of", desc := "(II)I" } : Jvm.MethodName) prog_14_method_23_code (3 : Nat) (Option.some Jvm.ClassFile.FieldType.int)) ∈ th_tb := kg (kt_7 (List.mem_of_getElem? (i := 6) rfl)) rfl
theorem kw_1447 : (Jvm.Cond.methodLink "CarpetHallsModel" (134 : Nat) ({ cls := "CarpetHallsModel", name := "isCarpet", desc := "(I)Z" } : Jvm.MethodName)) ∈ th_tb := kg (kt_7 (List.mem_of_getElem? (i := 7) rfl)) rfl
theorem kw_1449 : (Jvm.Cond.instanceMethod ({ cls := "CarpetHallsModel", name := "isCarpet", desc := "(I)Z" } : Jvm.MethodName)) ∈ th_tb := kg (kt_7 (List.mem_of_getElem? (i := 9) rfl)) rfl
theorem kw_1450 : (Jvm.Cond.code ({ cls := "CarpetHallsModel", name := "isCarpet", desc := "(I)Z" } : Jvm.MethodName) prog_14_method_16_code (2 : Nat) (Option.some Jvm.ClassFile.FieldType.boolean)) ∈ th_tb := kg (kt_7 (List.mem_of_getElem? (i := 10) rfl)) rfl
theorem kw_1451 : (Jvm.Cond.methodLink "CarpetHallsModel" (137 : Nat) ({ cls := "CarpetHallsModel", name := "isLaid", desc := "(I)Z" } : Jvm.MethodName)) ∈ th_tb := kg (kt_7 (List.mem_of_getElem? (i := 11) rfl)) rfl
theorem kw_1453 : (Jvm.Cond.instanceMethod ({ cls := "CarpetHallsModel", name := "isLaid", desc := "(I)Z" } : Jvm.MethodName)) ∈ th_tb := kg (kt_7 (List.mem_of_getElem? (i := 13) rfl)) rfl
theorem kw_1454 : (Jvm.Cond.code ({ cls := "CarpetHallsModel", name := "isLaid", desc := "(I)Z" } : Jvm.MethodName) prog_14_method_17_code (2 : Nat) (Option.some Jvm.ClassFile.FieldType.boolean)) ∈ th_tb := kg (kt_7 (List.mem_of_getElem? (i := 14) rfl)) rfl
theorem kw_1455 : (Jvm.Cond.methodLink "CarpetHallsModel" (140 : Nat) ({ cls := "CarpetHallsModel", name := "wearsNow", desc := "(I)I" } : Jvm.MethodName)) ∈ th_tb := kg (kt_7 (List.mem_of_getElem? (i := 15) rfl)) rfl
theorem kw_1457 : (Jvm.Cond.instanceMethod ({ cls := "CarpetHallsModel", name := "wearsNow", desc := "(I)I" } : Jvm.MethodName)) ∈ th_tb := kg (kt_7 (List.mem_of_getElem? (i := 17) rfl)) rfl
theorem kw_1458 : (Jvm.Cond.code ({ cls := "CarpetHallsModel", name := "wearsNow", desc := "(I)I" } : Jvm.MethodName) prog_14_method_79_code (2 : Nat) (Option.some Jvm.ClassFile.FieldType.int)) ∈ th_tb := kg (kt_7 (List.mem_of_getElem? (i := 18) rfl)) rfl
theorem kw_1459 : (Jvm.Cond.methodLink "CarpetHallsModel" (341 : Nat) ({ cls := "CarpetHallsModel", name := "tells", desc := "(IIIIII)I" } : Jvm.MethodName)) ∈ th_tb := kg (kt_7 (List.mem_of_getElem? (i := 19) rfl)) rfl
theorem kw_1461 : (Jvm.Cond.instanceMethod ({ cls := "CarpetHallsModel", name := "tells", desc := "(IIIIII)I" } : Jvm.MethodName)) ∈ th_tb := kg (kt_7 (List.mem_of_getElem? (i := 21) rfl)) rfl
theorem kw_1462 : (Jvm.Cond.code ({ cls := "CarpetHallsModel", name := "tells", desc := "(IIIIII)I" } : Jvm.MethodName) prog_14_method_76_code (14 : Nat) (Option.some Jvm.ClassFile.FieldType.int)) ∈ th_tb := kg (kt_7 (List.mem_of_getElem? (i := 22) rfl)) rfl
theorem kw_1463 : (Jvm.Cond.methodLink "CarpetHallsModel" (338 : Nat) ({ cls := "CarpetHallsModel", name := "setsAsked", desc := "(III)V" } : Jvm.MethodName)) ∈ th_tb := kg (kt_7 (List.mem_of_getElem? (i := 23) rfl)) rfl
theorem kw_1465 : (Jvm.Cond.instanceMethod ({ cls := "CarpetHallsModel", name := "setsAsked", desc := "(III)V" } : Jvm.MethodName)) ∈ th_tb := kg (kt_7 (List.mem_of_getElem? (i := 25) rfl)) rfl
theorem kw_1466 : (Jvm.Cond.code ({ cls := "CarpetHallsModel", name := "setsAsked", desc := "(III)V" } : Jvm.MethodName) prog_14_method_75_code (4 : Nat) (Option.none : Option Jvm.ClassFile.FieldType)) ∈ th_tb := kg (kt_7 (List.mem_of_getElem? (i := 26) rfl)) rfl
theorem kw_1467 : (Jvm.Cond.methodLink "CarpetHallsModel" (284 : Nat) ({ cls := "CarpetHallsModel", name := "codeAt", desc := "(I)I" } : Jvm.MethodName)) ∈ th_tb := kg (kt_7 (List.mem_of_getElem? (i := 27) rfl)) rfl
theorem kw_1469 : (Jvm.Cond.instanceMethod ({ cls := "CarpetHallsModel", name := "codeAt", desc := "(I)I" } : Jvm.MethodName)) ∈ th_tb := kg (kt_7 (List.mem_of_getElem? (i := 29) rfl)) rfl
theorem kw_1470 : (Jvm.Cond.code ({ cls := "CarpetHallsModel", name := "codeAt", desc := "(I)I" } : Jvm.MethodName) prog_14_method_64_code (2 : Nat) (Option.some Jvm.ClassFile.FieldType.int)) ∈ th_tb := kg (kt_7 (List.mem_of_getElem? (i := 30) rfl)) rfl
theorem kw_1471 : (Jvm.Cond.methodLink "CarpetHallsModel" (308 : Nat) ({ cls := "CarpetHallsModel", name := "sumOf", desc := "(Z)J" } : Jvm.MethodName)) ∈ th_tb := kg (kt_7 (List.mem_of_getElem? (i := 31) rfl)) rfl
theorem kw_1473 : (Jvm.Cond.instanceMethod ({ cls := "CarpetHallsModel", name := "sumOf", desc := "(Z)J" } : Jvm.MethodName)) ∈ th_tb := kg (kt_7 (List.mem_of_getElem? (i := 33) rfl)) rfl
theorem kw_1474 : (Jvm.Cond.code ({ cls := "CarpetHallsModel", name := "sumOf", desc := "(Z)J" } : Jvm.MethodName) prog_14_method_67_code (7 : Nat) (Option.some Jvm.ClassFile.FieldType.long)) ∈ th_tb := kg (kt_7 (List.mem_of_getElem? (i := 34) rfl)) rfl
theorem kw_1475 : (Jvm.Cond.methodLink "CarpetHallsModel" (294 : Nat) ({ cls := "CarpetHallsModel", name := "termOf", desc := "(Z)J" } : Jvm.MethodName)) ∈ th_tb := kg (kt_7 (List.mem_of_getElem? (i := 35) rfl)) rfl
theorem kw_1477 : (Jvm.Cond.instanceMethod ({ cls := "CarpetHallsModel", name := "termOf", desc := "(Z)J" } : Jvm.MethodName)) ∈ th_tb := kg (kt_7 (List.mem_of_getElem? (i := 37) rfl)) rfl
theorem kw_1478 : (Jvm.Cond.code ({ cls := "CarpetHallsModel", name := "termOf", desc := "(Z)J" } : Jvm.MethodName) prog_14_method_68_code (7 : Nat) (Option.some Jvm.ClassFile.FieldType.long)) ∈ th_tb := kg (kt_7 (List.mem_of_getElem? (i := 38) rfl)) rfl
theorem kw_1479 : (Jvm.Cond.methodLink "CarpetHallsModel" (302 : Nat) ({ cls := "CarpetHallsModel", name := "partOf", desc := "(Z)J" } : Jvm.MethodName)) ∈ th_tb := kg (kt_7 (List.mem_of_getElem? (i := 39) rfl)) rfl
theorem kw_1481 : (Jvm.Cond.instanceMethod ({ cls := "CarpetHallsModel", name := "partOf", desc := "(Z)J" } : Jvm.MethodName)) ∈ th_tb := kg (kt_7 (List.mem_of_getElem? (i := 41) rfl)) rfl
theorem kw_1482 : (Jvm.Cond.code ({ cls := "CarpetHallsModel", name := "partOf", desc := "(Z)J" } : Jvm.MethodName) prog_14_method_69_code (4 : Nat) (Option.some Jvm.ClassFile.FieldType.long)) ∈ th_tb := kg (kt_7 (List.mem_of_getElem? (i := 42) rfl)) rfl
theorem kw_1483 : (Jvm.Cond.methodLink "CarpetHallsModel" (240 : Nat) ({ cls := "CarpetHallsModel", name := "sign", desc := "(C)I" } : Jvm.MethodName)) ∈ th_tb := kg (kt_7 (List.mem_of_getElem? (i := 43) rfl)) rfl
theorem kw_1484 : (Jvm.Cond.static ({ cls := "CarpetHallsModel", name := "sign", desc := "(C)I" } : Jvm.MethodName)) ∈ th_tb := kg (kt_7 (List.mem_of_getElem? (i := 44) rfl)) rfl
theorem kw_1485 : (Jvm.Cond.code ({ cls := "CarpetHallsModel", name := "sign", desc := "(C)I" } : Jvm.MethodName) prog_14_method_45_code (1 : Nat) (Option.some Jvm.ClassFile.FieldType.int)) ∈ th_tb := kg (kt_7 (List.mem_of_getElem? (i := 45) rfl)) rfl
theorem kw_1486 : (Jvm.Cond.methodLink "CarpetHallsModel" (305 : Nat) ({ cls := "CarpetHallsModel", name := "passes0", desc := "(I)Z" } : Jvm.MethodName)) ∈ th_tb := kg (kt_7 (List.mem_of_getElem? (i := 46) rfl)) rfl
theorem kw_1488 : (Jvm.Cond.instanceMethod ({ cls := "CarpetHallsModel", name := "passes0", desc := "(I)Z" } : Jvm.MethodName)) ∈ th_tb := kg (kt_7 (List.mem_of_getElem? (i := 48) rfl)) rfl
theorem kw_1489 : (Jvm.Cond.code ({ cls := "CarpetHallsModel", name := "passes0", desc := "(I)Z" } : Jvm.MethodName) prog_14_method_65_code (3 : Nat) (Option.some Jvm.ClassFile.FieldType.boolean)) ∈ th_tb := kg (kt_7 (List.mem_of_getElem? (i := 49) rfl)) rfl
theorem kw_1490 : (Jvm.Cond.methodLink "CarpetHallsModel" (314 : Nat) ({ cls := "CarpetHallsModel", name := "orderValue", desc := "(II)I" } : Jvm.MethodName)) ∈ th_tb := kg (kt_7 (List.mem_of_getElem? (i := 50) rfl)) rfl
theorem kw_1492 : (Jvm.Cond.instanceMethod ({ cls := "CarpetHallsModel", name := "orderValue", desc := "(II)I" } : Jvm.MethodName)) ∈ th_tb := kg (kt_7 (List.mem_of_getElem? (i := 52) rfl)) rfl
theorem kw_1493 : (Jvm.Cond.code ({ cls := "CarpetHallsModel", name := "orderValue", desc := "(II)I" } : Jvm.MethodName) prog_14_method_70_code (3 : Nat) (Option.some Jvm.ClassFile.FieldType.int)) ∈ th_tb := kg (kt_7 (List.mem_of_getElem? (i := 53) rfl)) rfl
theorem kw_1494 : (Jvm.Cond.methodLink "CarpetHallsModel" (323 : Nat) ({ cls := "CarpetHallsModel", name := "bareMany", desc := "()I" } : Jvm.MethodName)) ∈ th_tb := kg (kt_7 (List.mem_of_getElem? (i := 54) rfl)) rfl
theorem kw_1496 : (Jvm.Cond.instanceMethod ({ cls := "CarpetHallsModel", name := "bareMany", desc := "()I" } : Jvm.MethodName)) ∈ th_tb := kg (kt_7 (List.mem_of_getElem? (i := 56) rfl)) rfl
theorem kw_1497 : (Jvm.Cond.code ({ cls := "CarpetHallsModel", name := "bareMany", desc := "()I" } : Jvm.MethodName) prog_14_method_84_code (3 : Nat) (Option.some Jvm.ClassFile.FieldType.int)) ∈ th_tb := kg (kt_7 (List.mem_of_getElem? (i := 57) rfl)) rfl
theorem kw_1498 : (Jvm.Cond.methodLink "CarpetHallsModel" (298 : Nat) ({ cls := "CarpetHallsModel", name := "bounded", desc := "(JZ)J" } : Jvm.MethodName)) ∈ th_tb := kg (kt_7 (List.mem_of_getElem? (i := 58) rfl)) rfl
theorem kw_1500 : (Jvm.Cond.instanceMethod ({ cls := "CarpetHallsModel", name := "bounded", desc := "(JZ)J" } : Jvm.MethodName)) ∈ th_tb := kg (kt_7 (List.mem_of_getElem? (i := 60) rfl)) rfl
theorem kw_1501 : (Jvm.Cond.code ({ cls := "CarpetHallsModel", name := "bounded", desc := "(JZ)J" } : Jvm.MethodName) prog_14_method_66_code (4 : Nat) (Option.some Jvm.ClassFile.FieldType.long)) ∈ th_tb := kg (kt_7 (List.mem_of_getElem? (i := 61) rfl)) rfl
theorem kw_1502 : (Jvm.Cond.constantLong "CarpetHallsModel" (287 : Nat) (1000000000 : Int64)) ∈ th_tb := kg (kt_7 (List.mem_of_getElem? (i := 62) rfl)) rfl
theorem kw_1503 : (Jvm.Cond.constantLong "CarpetHallsModel" (289 : Nat) (-1000000000 : Int64)) ∈ th_tb := kg (kt_7 (List.mem_of_getElem? (i := 63) rfl)) rfl
theorem kw_1504 : (Jvm.Cond.methodLink "CarpetHallsModel" (335 : Nat) ({ cls := "CarpetHallsModel", name := "testOf", desc := "(Z)Z" } : Jvm.MethodName)) ∈ th_tb := kg (kt_7 (List.mem_of_getElem? (i := 64) rfl)) rfl
theorem kw_1506 : (Jvm.Cond.instanceMethod ({ cls := "CarpetHallsModel", name := "testOf", desc := "(Z)Z" } : Jvm.MethodName)) ∈ th_tb := kg (kt_7 (List.mem_of_getElem? (i := 66) rfl)) rfl
theorem kw_1507 : (Jvm.Cond.code ({ cls := "CarpetHallsModel", name := "testOf", desc := "(Z)Z" } : Jvm.MethodName) prog_14_method_71_code (4 : Nat) (Option.some Jvm.ClassFile.FieldType.boolean)) ∈ th_tb := kg (kt_7 (List.mem_of_getElem? (i := 67) rfl)) rfl
theorem kw_1508 : (Jvm.Cond.methodLink "CarpetHallsModel" (326 : Nat) ({ cls := "CarpetHallsModel", name := "bothOf", desc := "(Z)Z" } : Jvm.MethodName)) ∈ th_tb := kg (kt_7 (List.mem_of_getElem? (i := 68) rfl)) rfl
theorem kw_1510 : (Jvm.Cond.instanceMethod ({ cls := "CarpetHallsModel", name := "bothOf", desc := "(Z)Z" } : Jvm.MethodName)) ∈ th_tb := kg (kt_7 (List.mem_of_getElem? (i := 70) rfl)) rfl
theorem kw_1511 : (Jvm.Cond.code ({ cls := "CarpetHallsModel", name := "bothOf", desc := "(Z)Z" } : Jvm.MethodName) prog_14_method_72_code (4 : Nat) (Option.some Jvm.ClassFile.FieldType.boolean)) ∈ th_tb := kg (kt_7 (List.mem_of_getElem? (i := 71) rfl)) rfl
theorem kw_1512 : (Jvm.Cond.methodLink "CarpetHallsModel" (329 : Nat) ({ cls := "CarpetHallsModel", name := "plainOf", desc := "(Z)Z" } : Jvm.MethodName)) ∈ th_tb := kg (kt_7 (List.mem_of_getElem? (i := 72) rfl)) rfl
theorem kw_1514 : (Jvm.Cond.instanceMethod ({ cls := "CarpetHallsModel", name := "plainOf", desc := "(Z)Z" } : Jvm.MethodName)) ∈ th_tb := kg (kt_7 (List.mem_of_getElem? (i := 74) rfl)) rfl
theorem kw_1515 : (Jvm.Cond.code ({ cls := "CarpetHallsModel", name := "plainOf", desc := "(Z)Z" } : Jvm.MethodName) prog_14_method_73_code (3 : Nat) (Option.some Jvm.ClassFile.FieldType.boolean)) ∈ th_tb := kg (kt_7 (List.mem_of_getElem? (i := 75) rfl)) rfl
theorem kw_1516 : (Jvm.Cond.methodLink "CarpetHallsModel" (332 : Nat) ({ cls := "CarpetHallsModel", name := "positiveOf", desc := "(Z)Z" } : Jvm.MethodName)) ∈ th_tb := kg (kt_7 (List.mem_of_getElem? (i := 76) rfl)) rfl
theorem kw_1518 : (Jvm.Cond.instanceMethod ({ cls := "CarpetHallsModel", name := "positiveOf", desc := "(Z)Z" } : Jvm.MethodName)) ∈ th_tb := kg (kt_7 (List.mem_of_getElem? (i := 78) rfl)) rfl
theorem kw_1519 : (Jvm.Cond.code ({ cls := "CarpetHallsModel", name := "positiveOf", desc := "(Z)Z" } : Jvm.MethodName) prog_14_method_74_code (7 : Nat) (Option.some Jvm.ClassFile.FieldType.boolean)) ∈ th_tb := kg (kt_7 (List.mem_of_getElem? (i := 79) rfl)) rfl
theorem kw_1520 : (Jvm.Cond.methodLink "CarpetHallsLaw" (26 : Nat) ({ cls := "CarpetHallsModel", name := "hall", desc := "(II)I" } : Jvm.MethodName)) ∈ th_tb := kg (kt_7 (List.mem_of_getElem? (i := 80) rfl)) rfl
theorem kw_1521 : (Jvm.Cond.instanceMethod ({ cls := "CarpetHallsModel", name := "hall", desc := "(II)I" } : Jvm.MethodName)) ∈ th_tb := kg (kt_7 (List.mem_of_getElem? (i := 81) rfl)) rfl
theorem kw_1522 : (Jvm.Cond.selects "CarpetHallsModel" ({ cls := "CarpetHallsModel", name := "hall", desc := "(II)I" } : Jvm.MethodName) ({ cls := "CarpetHallsModel", name := "hall", desc := "(II)I" } : Jvm.MethodName)) ∈ th_tb := kg (kt_7 (List.mem_of_getElem? (i := 82) rfl)) rfl
theorem kw_1523 : (Jvm.Cond.code ({ cls := "CarpetHallsModel", name := "hall", desc := "(II)I" } : Jvm.MethodName) prog_14_method_25_code (3 : Nat) (Option.some Jvm.ClassFile.FieldType.int)) ∈ th_tb := kg (kt_7 (List.mem_of_getElem? (i := 83) rfl)) rfl
theorem kw_1524 : (Jvm.Cond.methodLink "CarpetHallsModel" (143 : Nat) ({ cls := "CarpetHallsModel", name := "laidMany", desc := "()I" } : Jvm.MethodName)) ∈ th_tb := kg (kt_7 (List.mem_of_getElem? (i := 84) rfl)) rfl
theorem kw_1526 : (Jvm.Cond.instanceMethod ({ cls := "CarpetHallsModel", name := "laidMany", desc := "()I" } : Jvm.MethodName)) ∈ th_tb := kg (kt_7 (List.mem_of_getElem? (i := 86) rfl)) rfl
theorem kw_1527 : (Jvm.Cond.code ({ cls := "CarpetHallsModel", name := "laidMany", desc := "()I" } : Jvm.MethodName) prog_14_method_24_code (3 : Nat) (Option.some Jvm.ClassFile.FieldType.int)) ∈ th_tb := kg (kt_7 (List.mem_of_getElem? (i := 87) rfl)) rfl
theorem kw_1528 : (Jvm.Cond.methodLink "CarpetHallsLaw" (30 : Nat) ({ cls := "CarpetHallsModel", name := "at", desc := "(II)I" } : Jvm.MethodName)) ∈ th_tb := kg (kt_7 (List.mem_of_getElem? (i := 88) rfl)) rfl
theorem kw_1529 : (Jvm.Cond.instanceMethod ({ cls := "CarpetHallsModel", name := "at", desc := "(II)I" } : Jvm.MethodName)) ∈ th_tb := kg (kt_7 (List.mem_of_getElem? (i := 89) rfl)) rfl
theorem kw_1530 : (Jvm.Cond.selects "CarpetHallsModel" ({ cls := "CarpetHallsModel", name := "at", desc := "(II)I" } : Jvm.MethodName) ({ cls := "CarpetHallsModel", name := "at", desc := "(II)I" } : Jvm.MethodName)) ∈ th_tb := kg (kt_7 (List.mem_of_getElem? (i := 90) rfl)) rfl
theorem kw_1531 : (Jvm.Cond.code ({ cls := "CarpetHallsModel", name := "at", desc := "(II)I" } : Jvm.MethodName) prog_14_method_27_code (5 : Nat) (Option.some Jvm.ClassFile.FieldType.int)) ∈ th_tb := kg (kt_7 (List.mem_of_getElem? (i := 91) rfl)) rfl
theorem kw_1532 : (Jvm.Cond.methodLink "CarpetHallsModel" (146 : Nat) ({ cls := "CarpetHallsModel", name := "covers", desc := "(III)Z" } : Jvm.MethodName)) ∈ th_tb := kg (kt_7 (List.mem_of_getElem? (i := 92) rfl)) rfl
theorem kw_1534 : (Jvm.Cond.instanceMethod ({ cls := "CarpetHallsModel", name := "covers", desc := "(III)Z" } : Jvm.MethodName)) ∈ th_tb := kg (kt_7 (List.mem_of_getElem? (i := 94) rfl)) rfl
theorem kw_1535 : (Jvm.Cond.code ({ cls := "CarpetHallsModel", name := "covers", desc := "(III)Z" } : Jvm.MethodName) prog_14_method_26_code (4 : Nat) (Option.some Jvm.ClassFile.FieldType.boolean)) ∈ th_tb := kg (kt_7 (List.mem_of_getElem? (i := 95) rfl)) rfl
theorem kw_1536 : (Jvm.Cond.methodLink "CarpetHallsLaw" (35 : Nat) ({ cls := "CarpetHallsModel", name := "asks", desc := "(IIII)I" } : Jvm.MethodName)) ∈ th_tb := kg (kt_7 (List.mem_of_getElem? (i := 96) rfl)) rfl
theorem kw_1537 : (Jvm.Cond.instanceMethod ({ cls := "CarpetHallsModel", name := "asks", desc := "(IIII)I" } : Jvm.MethodName)) ∈ th_tb := kg (kt_7 (List.mem_of_getElem? (i := 97) rfl)) rfl
theorem kw_1538 : (Jvm.Cond.selects "CarpetHallsModel" ({ cls := "CarpetHallsModel", name := "asks", desc := "(IIII)I" } : Jvm.MethodName) ({ cls := "CarpetHallsModel", name := "asks", desc := "(IIII)I" } : Jvm.MethodName)) ∈ th_tb := kg (kt_7 (List.mem_of_getElem? (i := 98) rfl)) rfl
theorem kw_1539 : (Jvm.Cond.code ({ cls := "CarpetHallsModel", name := "asks", desc := "(IIII)I" } : Jvm.MethodName) prog_14_method_28_code (5 : Nat) (Option.some Jvm.ClassFile.FieldType.int)) ∈ th_tb := kg (kt_7 (List.mem_of_getElem? (i := 99) rfl)) rfl
theorem kw_1540 : (Jvm.Cond.methodLink "CarpetHallsModel" (149 : Nat) ({ cls := "CarpetHallsModel", name := "isAlong", desc := "(I)Z" } : Jvm.MethodName)) ∈ th_tb := kg (kt_7 (List.mem_of_getElem? (i := 100) rfl)) rfl
theorem kw_1541 : (Jvm.Cond.static ({ cls := "CarpetHallsModel", name := "isAlong", desc := "(I)Z" } : Jvm.MethodName)) ∈ th_tb := kg (kt_7 (List.mem_of_getElem? (i := 101) rfl)) rfl
theorem kw_1542 : (Jvm.Cond.code ({ cls := "CarpetHallsModel", name := "isAlong", desc := "(I)Z" } : Jvm.MethodName) prog_14_method_9_code (1 : Nat) (Option.some Jvm.ClassFile.FieldType.boolean)) ∈ th_tb := kg (kt_7 (List.mem_of_getElem? (i := 102) rfl)) rfl
theorem kw_1543 : (Jvm.Cond.methodLink "CarpetHallsModel" (152 : Nat) ({ cls := "CarpetHallsModel", name := "costsAt", desc := "(III)I" } : Jvm.MethodName)) ∈ th_tb := kg (kt_7 (List.mem_of_getElem? (i := 103) rfl)) rfl
theorem kw_1545 : (Jvm.Cond.instanceMethod ({ cls := "CarpetHallsModel", name := "costsAt", desc := "(III)I" } : Jvm.MethodName)) ∈ th_tb := kg (kt_7 (List.mem_of_getElem? (i := 105) rfl)) rfl
theorem kw_1546 : (Jvm.Cond.code ({ cls := "CarpetHallsModel", name := "costsAt", desc := "(III)I" } : Jvm.MethodName) prog_14_method_77_code (4 : Nat) (Option.some Jvm.ClassFile.FieldType.int)) ∈ th_tb := kg (kt_7 (List.mem_of_getElem? (i := 106) rfl)) rfl
theorem kw_1547 : (Jvm.Cond.methodLink "CarpetHallsModel" (156 : Nat) ({ cls := "CarpetHallsModel", name := "isBarred", desc := "(III)Z" } : Jvm.MethodName)) ∈ th_tb := kg (kt_7 (List.mem_of_getElem? (i := 107) rfl)) rfl
theorem kw_1549 : (Jvm.Cond.instanceMethod ({ cls := "CarpetHallsModel", name := "isBarred", desc := "(III)Z" } : Jvm.MethodName)) ∈ th_tb := kg (kt_7 (List.mem_of_getElem? (i := 109) rfl)) rfl
theorem kw_1550 : (Jvm.Cond.code ({ cls := "CarpetHallsModel", name := "isBarred", desc := "(III)Z" } : Jvm.MethodName) prog_14_method_78_code (4 : Nat) (Option.some Jvm.ClassFile.FieldType.boolean)) ∈ th_tb := kg (kt_7 (List.mem_of_getElem? (i := 110) rfl)) rfl
theorem kw_1551 : (Jvm.Cond.methodLink "CarpetHallsModel" (159 : Nat) ({ cls := "CarpetHallsModel", name := "canLay", desc := "(III)Z" } : Jvm.MethodName)) ∈ th_tb := kg (kt_7 (List.mem_of_getElem? (i := 111) rfl)) rfl
theorem kw_1553 : (Jvm.Cond.instanceMethod ({ cls := "CarpetHallsModel", name := "canLay", desc := "(III)Z" } : Jvm.MethodName)) ∈ th_tb := kg (kt_7 (List.mem_of_getElem? (i := 113) rfl)) rfl
theorem kw_1554 : (Jvm.Cond.code ({ cls := "CarpetHallsModel", name := "canLay", desc := "(III)Z" } : Jvm.MethodName) prog_14_method_86_code (4 : Nat) (Option.some Jvm.ClassFile.FieldType.boolean)) ∈ th_tb := kg (kt_7 (List.mem_of_getElem? (i := 114) rfl)) rfl
theorem kw_1555 : (Jvm.Cond.methodLink "CarpetHallsModel" (357 : Nat) ({ cls := "CarpetHallsModel", name := "isWhole", desc := "(I)Z" } : Jvm.MethodName)) ∈ th_tb := kg (kt_7 (List.mem_of_getElem? (i := 115) rfl)) rfl
theorem kw_1557 : (Jvm.Cond.instanceMethod ({ cls := "CarpetHallsModel", name := "isWhole", desc := "(I)Z" } : Jvm.MethodName)) ∈ th_tb := kg (kt_7 (List.mem_of_getElem? (i := 117) rfl)) rfl
theorem kw_1558 : (Jvm.Cond.code ({ cls := "CarpetHallsModel", name := "isWhole", desc := "(I)Z" } : Jvm.MethodName) prog_14_method_18_code (2 : Nat) (Option.some Jvm.ClassFile.FieldType.boolean)) ∈ th_tb := kg (kt_7 (List.mem_of_getElem? (i := 118) rfl)) rfl
theorem kw_1559 : (Jvm.Cond.methodLink "CarpetHallsModel" (351 : Nat) ({ cls := "CarpetHallsModel", name := "laysCovered", desc := "()V" } : Jvm.MethodName)) ∈ th_tb := kg (kt_7 (List.mem_of_getElem? (i := 119) rfl)) rfl
theorem kw_1561 : (Jvm.Cond.instanceMethod ({ cls := "CarpetHallsModel", name := "laysCovered", desc := "()V" } : Jvm.MethodName)) ∈ th_tb := kg (kt_7 (List.mem_of_getElem? (i := 121) rfl)) rfl
theorem kw_1562 : (Jvm.Cond.code ({ cls := "CarpetHallsModel", name := "laysCovered", desc := "()V" } : Jvm.MethodName) prog_14_method_81_code (2 : Nat) (Option.none : Option Jvm.ClassFile.FieldType)) ∈ th_tb := kg (kt_7 (List.mem_of_getElem? (i := 122) rfl)) rfl
theorem kw_1563 : (Jvm.Cond.methodLink "CarpetHallsModel" (345 : Nat) ({ cls := "CarpetHallsModel", name := "turnsSquare", desc := "(III)V" } : Jvm.MethodName)) ∈ th_tb := kg (kt_7 (List.mem_of_getElem? (i := 123) rfl)) rfl
theorem kw_1565 : (Jvm.Cond.instanceMethod ({ cls := "CarpetHallsModel", name := "turnsSquare", desc := "(III)V" } : Jvm.MethodName)) ∈ th_tb := kg (kt_7 (List.mem_of_getElem? (i := 125) rfl)) rfl
theorem kw_1566 : (Jvm.Cond.code ({ cls := "CarpetHallsModel", name := "turnsSquare", desc := "(III)V" } : Jvm.MethodName) prog_14_method_80_code (5 : Nat) (Option.none : Option Jvm.ClassFile.FieldType)) ∈ th_tb := kg (kt_7 (List.mem_of_getElem? (i := 126) rfl)) rfl
theorem kw_1567 : (Jvm.Cond.methodLink "CarpetHallsModel" (360 : Nat) ({ cls := "CarpetHallsModel", name := "isFree", desc := "(IIIII)Z" } : Jvm.MethodName)) ∈ th_tb := kg (kt_7 (List.mem_of_getElem? (i := 127) rfl)) rfl
theorem kw_1569 : (Jvm.Cond.instanceMethod ({ cls := "CarpetHallsModel", name := "isFree", desc := "(IIIII)Z" } : Jvm.MethodName)) ∈ th_tb := kg (kt_7 (List.mem_of_getElem? (i := 129) rfl)) rfl
theorem kw_1570 : (Jvm.Cond.code ({ cls := "CarpetHallsModel", name := "isFree", desc := "(IIIII)Z" } : Jvm.MethodName) prog_14_method_82_code (8 : Nat) (Option.some Jvm.ClassFile.FieldType.boolean)) ∈ th_tb := kg (kt_7 (List.mem_of_getElem? (i := 130) rfl)) rfl
theorem kw_1571 : (Jvm.Cond.methodLink "CarpetHallsLaw" (39 : Nat) ({ cls := "CarpetHallsModel", name := "terms", desc := "(II)I" } : Jvm.MethodName)) ∈ th_tb := kg (kt_7 (List.mem_of_getElem? (i := 131) rfl)) rfl
theorem kw_1572 : (Jvm.Cond.instanceMethod ({ cls := "CarpetHallsModel", name := "terms", desc := "(II)I" } : Jvm.MethodName)) ∈ th_tb := kg (kt_7 (List.mem_of_getElem? (i := 132) rfl)) rfl
theorem kw_1573 : (Jvm.Cond.selects "CarpetHallsModel" ({ cls := "CarpetHallsModel", name := "terms", desc := "(II)I" } : Jvm.MethodName) ({ cls := "CarpetHallsModel", name := "terms", desc := "(II)I" } : Jvm.MethodName)) ∈ th_tb := kg (kt_7 (List.mem_of_getElem? (i := 133) rfl)) rfl
theorem kw_1574 : (Jvm.Cond.code ({ cls := "CarpetHallsModel", name := "terms", desc := "(II)I" } : Jvm.MethodName) prog_14_method_31_code (4 : Nat) (Option.some Jvm.ClassFile.FieldType.int)) ∈ th_tb := kg (kt_7 (List.mem_of_getElem? (i := 134) rfl)) rfl
theorem kw_1575 : (Jvm.Cond.methodLink "CarpetHallsModel" (162 : Nat) ({ cls := "CarpetHallsModel", name := "isTerm", desc := "(II)Z" } : Jvm.MethodName)) ∈ th_tb := kg (kt_7 (List.mem_of_getElem? (i := 135) rfl)) rfl
theorem kw_1576 : (Jvm.Cond.static ({ cls := "CarpetHallsModel", name := "isTerm", desc := "(II)Z" } : Jvm.MethodName)) ∈ th_tb := kg (kt_7 (List.mem_of_getElem? (i := 136) rfl)) rfl
theorem kw_1577 : (Jvm.Cond.code ({ cls := "CarpetHallsModel", name := "isTerm", desc := "(II)Z" } : Jvm.MethodName) prog_14_method_29_code (2 : Nat) (Option.some Jvm.ClassFile.FieldType.boolean)) ∈ th_tb := kg (kt_7 (List.mem_of_getElem? (i := 137) rfl)) rfl
theorem kw_1578 : (Jvm.Cond.methodLink "CarpetHallsModel" (166 : Nat) ({ cls := "CarpetHallsModel", name := "termAt", desc := "(I)I" } : Jvm.MethodName)) ∈ th_tb := kg (kt_7 (List.mem_of_getElem? (i := 138) rfl)) rfl
theorem kw_1579 : (Jvm.Cond.static ({ cls := "CarpetHallsModel", name := "termAt", desc := "(I)I" } : Jvm.MethodName)) ∈ th_tb := kg (kt_7 (List.mem_of_getElem? (i := 139) rfl)) rfl
theorem kw_1580 : (Jvm.Cond.code ({ cls := "CarpetHallsModel", name := "termAt", desc := "(I)I" } : Jvm.MethodName) prog_14_method_30_code (1 : Nat) (Option.some Jvm.ClassFile.FieldType.int)) ∈ th_tb := kg (kt_7 (List.mem_of_getElem? (i := 140) rfl)) rfl
theorem kw_1581 : (Jvm.Cond.methodLink "CarpetHallsLaw" (54 : Nat) ({ cls := "CarpetHallsModel", name := "row", desc := "()I" } : Jvm.MethodName)) ∈ th_tb := kg (kt_7 (List.mem_of_getElem? (i := 141) rfl)) rfl
theorem kw_1582 : (Jvm.Cond.instanceMethod ({ cls := "CarpetHallsModel", name := "row", desc := "()I" } : Jvm.MethodName)) ∈ th_tb := kg (kt_7 (List.mem_of_getElem? (i := 142) rfl)) rfl
theorem kw_1583 : (Jvm.Cond.selects "CarpetHallsModel" ({ cls := "CarpetHallsModel", name := "row", desc := "()I" } : Jvm.MethodName) ({ cls := "CarpetHallsModel", name := "row", desc := "()I" } : Jvm.MethodName)) ∈ th_tb := kg (kt_7 (List.mem_of_getElem? (i := 143) rfl)) rfl
theorem kw_1584 : (Jvm.Cond.code ({ cls := "CarpetHallsModel", name := "row", desc := "()I" } : Jvm.MethodName) prog_14_method_32_code (5 : Nat) (Option.some Jvm.ClassFile.FieldType.int)) ∈ th_tb := kg (kt_7 (List.mem_of_getElem? (i := 144) rfl)) rfl
theorem kw_1585 : (Jvm.Cond.methodLink "CarpetHallsLaw" (58 : Nat) ({ cls := "CarpetHallsModel", name := "fluff", desc := "()I" } : Jvm.MethodName)) ∈ th_tb := kg (kt_7 (List.mem_of_getElem? (i := 145) rfl)) rfl
theorem kw_1586 : (Jvm.Cond.instanceMethod ({ cls := "CarpetHallsModel", name := "fluff", desc := "()I" } : Jvm.MethodName)) ∈ th_tb := kg (kt_7 (List.mem_of_getElem? (i := 146) rfl)) rfl
theorem kw_1587 : (Jvm.Cond.selects "CarpetHallsModel" ({ cls := "CarpetHallsModel", name := "fluff", desc := "()I" } : Jvm.MethodName) ({ cls := "CarpetHallsModel", name := "fluff", desc := "()I" } : Jvm.MethodName)) ∈ th_tb := kg (kt_7 (List.mem_of_getElem? (i := 147) rfl)) rfl
theorem kw_1588 : (Jvm.Cond.code ({ cls := "CarpetHallsModel", name := "fluff", desc := "()I" } : Jvm.MethodName) prog_14_method_33_code (1 : Nat) (Option.some Jvm.ClassFile.FieldType.int)) ∈ th_tb := kg (kt_7 (List.mem_of_getElem? (i := 148) rfl)) rfl
theorem kw_1589 : (Jvm.Cond.methodLink "CarpetHallsLaw" (44 : Nat) ({ cls := "CarpetHallsModel", name := "feed", desc := "(IIIII)I" } : Jvm.MethodName)) ∈ th_tb := kg (kt_7 (List.mem_of_getElem? (i := 149) rfl)) rfl
theorem kw_1590 : (Jvm.Cond.instanceMethod ({ cls := "CarpetHallsModel", name := "feed", desc := "(IIIII)I" } : Jvm.MethodName)) ∈ th_tb := kg (kt_7 (List.mem_of_getElem? (i := 150) rfl)) rfl
theorem kw_1591 : (Jvm.Cond.selects "CarpetHallsModel" ({ cls := "CarpetHallsModel", name := "feed", desc := "(IIIII)I" } : Jvm.MethodName) ({ cls := "CarpetHallsModel", name := "feed", desc := "(IIIII)I" } : Jvm.MethodName)) ∈ th_tb := kg (kt_7 (List.mem_of_getElem? (i := 151) rfl)) rfl
theorem kw_1592 : (Jvm.Cond.code ({ cls := "CarpetHallsModel", name := "feed", desc := "(IIIII)I" } : Jvm.MethodName) prog_14_method_34_code (7 : Nat) (Option.some Jvm.ClassFile.FieldType.int)) ∈ th_tb := kg (kt_7 (List.mem_of_getElem? (i := 152) rfl)) rfl
theorem kw_1593 : (Jvm.Cond.methodLink "CarpetHallsLaw" (49 : Nat) ({ cls := "CarpetHallsModel", name := "end", desc := "(I)I" } : Jvm.MethodName)) ∈ th_tb := kg (kt_7 (List.mem_of_getElem? (i := 153) rfl)) rfl
theorem kw_1594 : (Jvm.Cond.instanceMethod ({ cls := "CarpetHallsModel", name := "end", desc := "(I)I" } : Jvm.MethodName)) ∈ th_tb := kg (kt_7 (List.mem_of_getElem? (i := 154) rfl)) rfl
theorem kw_1595 : (Jvm.Cond.selects "CarpetHallsModel" ({ cls := "CarpetHallsModel", name := "end", desc := "(I)I" } : Jvm.MethodName) ({ cls := "CarpetHallsModel", name := "end", desc := "(I)I" } : Jvm.MethodName)) ∈ th_tb := kg (kt_7 (List.mem_of_getElem? (i := 155) rfl)) rfl
theorem kw_1596 : (Jvm.Cond.code ({ cls := "CarpetHallsModel", name := "end", desc := "(I)I" } : Jvm.MethodName) prog_14_method_35_code (2 : Nat) (Option.some Jvm.ClassFile.FieldType.int)) ∈ th_tb := kg (kt_7 (List.mem_of_getElem? (i := 156) rfl)) rfl
theorem kw_1597 : (Jvm.Cond.methodLink "CarpetHallsLaw" (62 : Nat) ({ cls := "CarpetHallsModel", name := "law", desc := "()I" } : Jvm.MethodName)) ∈ th_tb := kg (kt_7 (List.mem_of_getElem? (i := 157) rfl)) rfl
theorem kw_1598 : (Jvm.Cond.instanceMethod ({ cls := "CarpetHallsModel", name := "law", desc := "()I" } : Jvm.MethodName)) ∈ th_tb := kg (kt_7 (List.mem_of_getElem? (i := 158) rfl)) rfl
theorem kw_1599 : (Jvm.Cond.selects "CarpetHallsModel" ({ cls := "CarpetHallsModel", name := "law", desc := "()I" } : Jvm.MethodName) ({ cls := "CarpetHallsModel", name := "law", desc := "()I" } : Jvm.MethodName)) ∈ th_tb := kg (kt_7 (List.mem_of_getElem? (i := 159) rfl)) rfl
theorem kw_1600 : (Jvm.Cond.code ({ cls := "CarpetHallsModel", name := "law", desc := "()I" } : Jvm.MethodName) prog_14_method_60_code (1 : Nat) (Option.some Jvm.ClassFile.FieldType.int)) ∈ th_tb := kg (kt_7 (List.mem_of_getElem? (i := 160) rfl)) rfl
theorem kw_1601 : (Jvm.Cond.methodLink "CarpetHallsModel" (268 : Nat) ({ cls := "CarpetHallsModel", name := "readsAs", desc := "(Z)Z" } : Jvm.MethodName)) ∈ th_tb := kg (kt_7 (List.mem_of_getElem? (i := 161) rfl)) rfl
theorem kw_1603 : (Jvm.Cond.instanceMethod ({ cls := "CarpetHallsModel", name := "readsAs", desc := "(Z)Z" } : Jvm.MethodName)) ∈ th_tb := kg (kt_7 (List.mem_of_getElem? (i := 163) rfl)) rfl
theorem kw_1604 : (Jvm.Cond.code ({ cls := "CarpetHallsModel", name := "readsAs", desc := "(Z)Z" } : Jvm.MethodName) prog_14_method_58_code (2 : Nat) (Option.some Jvm.ClassFile.FieldType.boolean)) ∈ th_tb := kg (kt_7 (List.mem_of_getElem? (i := 164) rfl)) rfl
theorem kw_1605 : (Jvm.Cond.methodLink "CarpetHallsModel" (265 : Nat) ({ cls := "CarpetHallsModel", name := "reads", desc := "()Z" } : Jvm.MethodName)) ∈ th_tb := kg (kt_7 (List.mem_of_getElem? (i := 165) rfl)) rfl
theorem kw_1607 : (Jvm.Cond.instanceMethod ({ cls := "CarpetHallsModel", name := "reads", desc := "()Z" } : Jvm.MethodName)) ∈ th_tb := kg (kt_7 (List.mem_of_getElem? (i := 167) rfl)) rfl
theorem kw_1608 : (Jvm.Cond.code ({ cls := "CarpetHallsModel", name := "reads", desc := "()Z" } : Jvm.MethodName) prog_14_method_57_code (2 : Nat) (Option.some Jvm.ClassFile.FieldType.boolean)) ∈ th_tb := kg (kt_7 (List.mem_of_getElem? (i := 168) rfl)) rfl
theorem kw_1609 : (Jvm.Cond.methodLink "CarpetHallsModel" (259 : Nat) ({ cls := "CarpetHallsModel", name := "splits", desc := "(I)V" } : Jvm.MethodName)) ∈ th_tb := kg (kt_7 (List.mem_of_getElem? (i := 169) rfl)) rfl
theorem kw_1611 : (Jvm.Cond.instanceMethod ({ cls := "CarpetHallsModel", name := "splits", desc := "(I)V" } : Jvm.MethodName)) ∈ th_tb := kg (kt_7 (List.mem_of_getElem? (i := 171) rfl)) rfl
theorem kw_1612 : (Jvm.Cond.code ({ cls := "CarpetHallsModel", name := "splits", desc := "(I)V" } : Jvm.MethodName) prog_14_method_39_code (6 : Nat) (Option.none : Option Jvm.ClassFile.FieldType)) ∈ th_tb := kg (kt_7 (List.mem_of_getElem? (i := 172) rfl)) rfl
theorem kw_1613 : (Jvm.Cond.methodLink "CarpetHallsModel" (178 : Nat) ({ cls := "CarpetHallsModel", name := "isSmall", desc := "(I)Z" } : Jvm.MethodName)) ∈ th_tb := kg (kt_7 (List.mem_of_getElem? (i := 173) rfl)) rfl
theorem kw_1614 : (Jvm.Cond.static ({ cls := "CarpetHallsModel", name := "isSmall", desc := "(I)Z" } : Jvm.MethodName)) ∈ th_tb := kg (kt_7 (List.mem_of_getElem? (i := 174) rfl)) rfl
theorem kw_1615 : (Jvm.Cond.code ({ cls := "CarpetHallsModel", name := "isSmall", desc := "(I)Z" } : Jvm.MethodName) prog_14_method_36_code (1 : Nat) (Option.some Jvm.ClassFile.FieldType.boolean)) ∈ th_tb := kg (kt_7 (List.mem_of_getElem? (i := 175) rfl)) rfl
theorem kw_1616 : (Jvm.Cond.methodLink "CarpetHallsModel" (181 : Nat) ({ cls := "CarpetHallsModel", name := "isDigit", desc := "(I)Z" } : Jvm.MethodName)) ∈ th_tb := kg (kt_7 (List.mem_of_getElem? (i := 176) rfl)) rfl
theorem kw_1617 : (Jvm.Cond.static ({ cls := "CarpetHallsModel", name := "isDigit", desc := "(I)Z" } : Jvm.MethodName)) ∈ th_tb := kg (kt_7 (List.mem_of_getElem? (i := 177) rfl)) rfl
theorem kw_1618 : (Jvm.Cond.code ({ cls := "CarpetHallsModel", name := "isDigit", desc := "(I)Z" } : Jvm.MethodName) prog_14_method_37_code (1 : Nat) (Option.some Jvm.ClassFile.FieldType.boolean)) ∈ th_tb := kg (kt_7 (List.mem_of_getElem? (i := 178) rfl)) rfl
theorem kw_1619 : (Jvm.Cond.methodLink "CarpetHallsModel" (184 : Nat) ({ cls := "CarpetHallsModel", name := "wordOf", desc := "(II)I" } : Jvm.MethodName)) ∈ th_tb := kg (kt_7 (List.mem_of_getElem? (i := 179) rfl)) rfl
theorem kw_1621 : (Jvm.Cond.instanceMethod ({ cls := "CarpetHallsModel", name := "wordOf", desc := "(II)I" } : Jvm.MethodName)) ∈ th_tb := kg (kt_7 (List.mem_of_getElem? (i := 181) rfl)) rfl
theorem kw_1622 : (Jvm.Cond.code ({ cls := "CarpetHallsModel", name := "wordOf", desc := "(II)I" } : Jvm.MethodName) prog_14_method_38_code (8 : Nat) (Option.some Jvm.ClassFile.FieldType.int)) ∈ th_tb := kg (kt_7 (List.mem_of_getElem? (i := 182) rfl)) rfl
theorem kw_1623 : (Jvm.Cond.constant "CarpetHallsModel" (188 : Nat) (1000000 : Int32)) ∈ th_tb := kg (kt_7 (List.mem_of_getElem? (i := 183) rfl)) rfl
theorem kw_1624 : (Jvm.Cond.methodLink "CarpetHallsModel" (262 : Nat) ({ cls := "CarpetHallsModel", name := "readOne", desc := "()V" } : Jvm.MethodName)) ∈ th_tb := kg (kt_7 (List.mem_of_getElem? (i := 184) rfl)) rfl
theorem kw_1626 : (Jvm.Cond.instanceMethod ({ cls := "CarpetHallsModel", name := "readOne", desc := "()V" } : Jvm.MethodName)) ∈ th_tb := kg (kt_7 (List.mem_of_getElem? (i := 186) rfl)) rfl
theorem kw_1627 : (Jvm.Cond.code ({ cls := "CarpetHallsModel", name := "readOne", desc := "()V" } : Jvm.MethodName) prog_14_method_50_code (1 : Nat) (Option.none : Option Jvm.ClassFile.FieldType)) ∈ th_tb := kg (kt_7 (List.mem_of_getElem? (i := 187) rfl)) rfl
theorem kw_1628 : (Jvm.Cond.methodLink "CarpetHallsModel" (228 : Nat) ({ cls := "CarpetHallsModel", name := "readOrder", desc := "()V" } : Jvm.MethodName)) ∈ th_tb := kg (kt_7 (List.mem_of_getElem? (i := 188) rfl)) rfl
theorem kw_1630 : (Jvm.Cond.instanceMethod ({ cls := "CarpetHallsModel", name := "readOrder", desc := "()V" } : Jvm.MethodName)) ∈ th_tb := kg (kt_7 (List.mem_of_getElem? (i := 190) rfl)) rfl
theorem kw_1631 : (Jvm.Cond.code ({ cls := "CarpetHallsModel", name := "readOrder", desc := "()V" } : Jvm.MethodName) prog_14_method_49_code (1 : Nat) (Option.none : Option Jvm.ClassFile.FieldType)) ∈ th_tb := kg (kt_7 (List.mem_of_getElem? (i := 191) rfl)) rfl
theorem kw_1632 : (Jvm.Cond.methodLink "CarpetHallsModel" (199 : Nat) ({ cls := "CarpetHallsModel", name := "takes0", desc := "(I)Z" } : Jvm.MethodName)) ∈ th_tb := kg (kt_7 (List.mem_of_getElem? (i := 192) rfl)) rfl
theorem kw_1634 : (Jvm.Cond.instanceMethod ({ cls := "CarpetHallsModel", name := "takes0", desc := "(I)Z" } : Jvm.MethodName)) ∈ th_tb := kg (kt_7 (List.mem_of_getElem? (i := 194) rfl)) rfl
theorem kw_1635 : (Jvm.Cond.code ({ cls := "CarpetHallsModel", name := "takes0", desc := "(I)Z" } : Jvm.MethodName) prog_14_method_42_code (3 : Nat) (Option.some Jvm.ClassFile.FieldType.boolean)) ∈ th_tb := kg (kt_7 (List.mem_of_getElem? (i := 195) rfl)) rfl
theorem kw_1636 : (Jvm.Cond.methodLink "CarpetHallsModel" (192 : Nat) ({ cls := "CarpetHallsModel", name := "fine", desc := "()Z" } : Jvm.MethodName)) ∈ th_tb := kg (kt_7 (List.mem_of_getElem? (i := 196) rfl)) rfl
theorem kw_1638 : (Jvm.Cond.instanceMethod ({ cls := "CarpetHallsModel", name := "fine", desc := "()Z" } : Jvm.MethodName)) ∈ th_tb := kg (kt_7 (List.mem_of_getElem? (i := 198) rfl)) rfl
theorem kw_1639 : (Jvm.Cond.code ({ cls := "CarpetHallsModel", name := "fine", desc := "()Z" } : Jvm.MethodName) prog_14_method_40_code (1 : Nat) (Option.some Jvm.ClassFile.FieldType.boolean)) ∈ th_tb := kg (kt_7 (List.mem_of_getElem? (i := 199) rfl)) rfl
theorem kw_1640 : (Jvm.Cond.methodLink "CarpetHallsModel" (208 : Nat) ({ cls := "CarpetHallsModel", name := "readSum", desc := "(I)V" } : Jvm.MethodName)) ∈ th_tb := kg (kt_7 (List.mem_of_getElem? (i := 200) rfl)) rfl
theorem kw_1642 : (Jvm.Cond.instanceMethod ({ cls := "CarpetHallsModel", name := "readSum", desc := "(I)V" } : Jvm.MethodName)) ∈ th_tb := kg (kt_7 (List.mem_of_getElem? (i := 202) rfl)) rfl
theorem kw_1643 : (Jvm.Cond.code ({ cls := "CarpetHallsModel", name := "readSum", desc := "(I)V" } : Jvm.MethodName) prog_14_method_54_code (2 : Nat) (Option.none : Option Jvm.ClassFile.FieldType)) ∈ th_tb := kg (kt_7 (List.mem_of_getElem? (i := 203) rfl)) rfl
theorem kw_1644 : (Jvm.Cond.methodLink "CarpetHallsModel" (244 : Nat) ({ cls := "CarpetHallsModel", name := "readTerm", desc := "(I)V" } : Jvm.MethodName)) ∈ th_tb := kg (kt_7 (List.mem_of_getElem? (i := 204) rfl)) rfl
theorem kw_1646 : (Jvm.Cond.instanceMethod ({ cls := "CarpetHallsModel", name := "readTerm", desc := "(I)V" } : Jvm.MethodName)) ∈ th_tb := kg (kt_7 (List.mem_of_getElem? (i := 206) rfl)) rfl
theorem kw_1647 : (Jvm.Cond.code ({ cls := "CarpetHallsModel", name := "readTerm", desc := "(I)V" } : Jvm.MethodName) prog_14_method_55_code (2 : Nat) (Option.none : Option Jvm.ClassFile.FieldType)) ∈ th_tb := kg (kt_7 (List.mem_of_getElem? (i := 207) rfl)) rfl
theorem kw_1648 : (Jvm.Cond.methodLink "CarpetHallsModel" (247 : Nat) ({ cls := "CarpetHallsModel", name := "readPart", desc := "(I)V" } : Jvm.MethodName)) ∈ th_tb := kg (kt_7 (List.mem_of_getElem? (i := 208) rfl)) rfl
theorem kw_1650 : (Jvm.Cond.instanceMethod ({ cls := "CarpetHallsModel", name := "readPart", desc := "(I)V" } : Jvm.MethodName)) ∈ th_tb := kg (kt_7 (List.mem_of_getElem? (i := 210) rfl)) rfl
theorem kw_1651 : (Jvm.Cond.code ({ cls := "CarpetHallsModel", name := "readPart", desc := "(I)V" } : Jvm.MethodName) prog_14_method_56_code (3 : Nat) (Option.none : Option Jvm.ClassFile.FieldType)) ∈ th_tb := kg (kt_7 (List.mem_of_getElem? (i := 211) rfl)) rfl
theorem kw_1652 : (Jvm.Cond.methodLink "CarpetHallsModel" (202 : Nat) ({ cls := "CarpetHallsModel", name := "faults", desc := "()V" } : Jvm.MethodName)) ∈ th_tb := kg (kt_7 (List.mem_of_getElem? (i := 212) rfl)) rfl
theorem kw_1654 : (Jvm.Cond.instanceMethod ({ cls := "CarpetHallsModel", name := "faults", desc := "()V" } : Jvm.MethodName)) ∈ th_tb := kg (kt_7 (List.mem_of_getElem? (i := 214) rfl)) rfl
theorem kw_1655 : (Jvm.Cond.code ({ cls := "CarpetHallsModel", name := "faults", desc := "()V" } : Jvm.MethodName) prog_14_method_41_code (1 : Nat) (Option.none : Option Jvm.ClassFile.FieldType)) ∈ th_tb := kg (kt_7 (List.mem_of_getElem? (i := 215) rfl)) rfl
theorem kw_1656 : (Jvm.Cond.methodLink "CarpetHallsModel" (211 : Nat) ({ cls := "CarpetHallsModel", name := "must", desc := "(I)V" } : Jvm.MethodName)) ∈ th_tb := kg (kt_7 (List.mem_of_getElem? (i := 216) rfl)) rfl
theorem kw_1658 : (Jvm.Cond.instanceMethod ({ cls := "CarpetHallsModel", name := "must", desc := "(I)V" } : Jvm.MethodName)) ∈ th_tb := kg (kt_7 (List.mem_of_getElem? (i := 218) rfl)) rfl
theorem kw_1659 : (Jvm.Cond.code ({ cls := "CarpetHallsModel", name := "must", desc := "(I)V" } : Jvm.MethodName) prog_14_method_43_code (2 : Nat) (Option.none : Option Jvm.ClassFile.FieldType)) ∈ th_tb := kg (kt_7 (List.mem_of_getElem? (i := 219) rfl)) rfl
theorem kw_1660 : (Jvm.Cond.methodLink "CarpetHallsModel" (256 : Nat) ({ cls := "CarpetHallsModel", name := "leaf", desc := "()V" } : Jvm.MethodName)) ∈ th_tb := kg (kt_7 (List.mem_of_getElem? (i := 220) rfl)) rfl
theorem kw_1662 : (Jvm.Cond.instanceMethod ({ cls := "CarpetHallsModel", name := "leaf", desc := "()V" } : Jvm.MethodName)) ∈ th_tb := kg (kt_7 (List.mem_of_getElem? (i := 222) rfl)) rfl
theorem kw_1663 : (Jvm.Cond.code ({ cls := "CarpetHallsModel", name := "leaf", desc := "()V" } : Jvm.MethodName) prog_14_method_44_code (1 : Nat) (Option.none : Option Jvm.ClassFile.FieldType)) ∈ th_tb := kg (kt_7 (List.mem_of_getElem? (i := 223) rfl)) rfl
theorem kw_1664 : (Jvm.Cond.methodLink "CarpetHallsModel" (220 : Nat) ({ cls := "CarpetHallsModel", name := "mustNumber", desc := "(II)V" } : Jvm.MethodName)) ∈ th_tb := kg (kt_7 (List.mem_of_getElem? (i := 224) rfl)) rfl
theorem kw_1666 : (Jvm.Cond.instanceMethod ({ cls := "CarpetHallsModel", name := "mustNumber", desc := "(II)V" } : Jvm.MethodName)) ∈ th_tb := kg (kt_7 (List.mem_of_getElem? (i := 226) rfl)) rfl
theorem kw_1667 : (Jvm.Cond.code ({ cls := "CarpetHallsModel", name := "mustNumber", desc := "(II)V" } : Jvm.MethodName) prog_14_method_46_code (3 : Nat) (Option.none : Option Jvm.ClassFile.FieldType)) ∈ th_tb := kg (kt_7 (List.mem_of_getElem? (i := 227) rfl)) rfl
theorem kw_1668 : (Jvm.Cond.methodLink "CarpetHallsModel" (217 : Nat) ({ cls := "CarpetHallsModel", name := "readMore", desc := "(I)V" } : Jvm.MethodName)) ∈ th_tb := kg (kt_7 (List.mem_of_getElem? (i := 228) rfl)) rfl
theorem kw_1670 : (Jvm.Cond.instanceMethod ({ cls := "CarpetHallsModel", name := "readMore", desc := "(I)V" } : Jvm.MethodName)) ∈ th_tb := kg (kt_7 (List.mem_of_getElem? (i := 230) rfl)) rfl
theorem kw_1671 : (Jvm.Cond.code ({ cls := "CarpetHallsModel", name := "readMore", desc := "(I)V" } : Jvm.MethodName) prog_14_method_48_code (2 : Nat) (Option.none : Option Jvm.ClassFile.FieldType)) ∈ th_tb := kg (kt_7 (List.mem_of_getElem? (i := 231) rfl)) rfl
theorem kw_1672 : (Jvm.Cond.methodLink "CarpetHallsModel" (214 : Nat) ({ cls := "CarpetHallsModel", name := "readTest", desc := "(I)V" } : Jvm.MethodName)) ∈ th_tb := kg (kt_7 (List.mem_of_getElem? (i := 232) rfl)) rfl
theorem kw_1674 : (Jvm.Cond.instanceMethod ({ cls := "CarpetHallsModel", name := "readTest", desc := "(I)V" } : Jvm.MethodName)) ∈ th_tb := kg (kt_7 (List.mem_of_getElem? (i := 234) rfl)) rfl
theorem kw_1675 : (Jvm.Cond.code ({ cls := "CarpetHallsModel", name := "readTest", desc := "(I)V" } : Jvm.MethodName) prog_14_method_51_code (2 : Nat) (Option.none : Option Jvm.ClassFile.FieldType)) ∈ th_tb := kg (kt_7 (List.mem_of_getElem? (i := 235) rfl)) rfl
theorem kw_1676 : (Jvm.Cond.methodLink "CarpetHallsModel" (234 : Nat) ({ cls := "CarpetHallsModel", name := "readBoth", desc := "(I)V" } : Jvm.MethodName)) ∈ th_tb := kg (kt_7 (List.mem_of_getElem? (i := 236) rfl)) rfl
theorem kw_1678 : (Jvm.Cond.instanceMethod ({ cls := "CarpetHallsModel", name := "readBoth", desc := "(I)V" } : Jvm.MethodName)) ∈ th_tb := kg (kt_7 (List.mem_of_getElem? (i := 238) rfl)) rfl
theorem kw_1679 : (Jvm.Cond.code ({ cls := "CarpetHallsModel", name := "readBoth", desc := "(I)V" } : Jvm.MethodName) prog_14_method_52_code (2 : Nat) (Option.none : Option Jvm.ClassFile.FieldType)) ∈ th_tb := kg (kt_7 (List.mem_of_getElem? (i := 239) rfl)) rfl
theorem kw_1680 : (Jvm.Cond.methodLink "CarpetHallsModel" (237 : Nat) ({ cls := "CarpetHallsModel", name := "readPlain", desc := "(I)V" } : Jvm.MethodName)) ∈ th_tb := kg (kt_8 (List.mem_of_getElem? (i := 0) rfl)) rfl
theorem kw_1682 : (Jvm.Cond.instanceMethod ({ cls := "CarpetHallsModel", name := "readPlain", desc := "(I)V" } : Jvm.MethodName)) ∈ th_tb := kg (kt_8 (List.mem_of_getElem? (i := 2) rfl)) rfl
theorem kw_1683 : (Jvm.Cond.code ({ cls := "CarpetHallsModel", name := "readPlain", desc := "(I)V" } : Jvm.MethodName) prog_14_method_53_code (4 : Nat) (Option.none : Option Jvm.ClassFile.FieldType)) ∈ th_tb := kg (kt_8 (List.mem_of_getElem? (i := 3) rfl)) rfl
theorem kw_1684 : (Jvm.Cond.methodLink "CarpetHallsModel" (231 : Nat) ({ cls := "CarpetHallsModel", name := "readClause", desc := "()V" } : Jvm.MethodName)) ∈ th_tb := kg (kt_8 (List.mem_of_getElem? (i := 4) rfl)) rfl
theorem kw_1686 : (Jvm.Cond.instanceMethod ({ cls := "CarpetHallsModel", name := "readClause", desc := "()V" } : Jvm.MethodName)) ∈ th_tb := kg (kt_8 (List.mem_of_getElem? (i := 6) rfl)) rfl
theorem kw_1687 : (Jvm.Cond.code ({ cls := "CarpetHallsModel", name := "readClause", desc := "()V" } : Jvm.MethodName) prog_14_method_47_code (1 : Nat) (Option.none : Option Jvm.ClassFile.FieldType)) ∈ th_tb := kg (kt_8 (List.mem_of_getElem? (i := 7) rfl)) rfl
theorem kw_1688 : (Jvm.Cond.methodLink "CarpetHallsModel" (272 : Nat) ({ cls := "CarpetHallsModel", name := "lays", desc := "(I)V" } : Jvm.MethodName)) ∈ th_tb := kg (kt_8 (List.mem_of_getElem? (i := 8) rfl)) rfl
theorem kw_1690 : (Jvm.Cond.instanceMethod ({ cls := "CarpetHallsModel", name := "lays", desc := "(I)V" } : Jvm.MethodName)) ∈ th_tb := kg (kt_8 (List.mem_of_getElem? (i := 10) rfl)) rfl
theorem kw_1691 : (Jvm.Cond.code ({ cls := "CarpetHallsModel", name := "lays", desc := "(I)V" } : Jvm.MethodName) prog_14_method_59_code (3 : Nat) (Option.none : Option Jvm.ClassFile.FieldType)) ∈ th_tb := kg (kt_8 (List.mem_of_getElem? (i := 11) rfl)) rfl
theorem kw_1692 : (Jvm.Cond.methodLink "CarpetHallsLaw" (70 : Nat) ({ cls := "CarpetHallsModel", name := "fault", desc := "()I" } : Jvm.MethodName)) ∈ th_tb := kg (kt_8 (List.mem_of_getElem? (i := 12) rfl)) rfl
theorem kw_1693 : (Jvm.Cond.instanceMethod ({ cls := "CarpetHallsModel", name := "fault", desc := "()I" } : Jvm.MethodName)) ∈ th_tb := kg (kt_8 (List.mem_of_getElem? (i := 13) rfl)) rfl
theorem kw_1694 : (Jvm.Cond.selects "CarpetHallsModel" ({ cls := "CarpetHallsModel", name := "fault", desc := "()I" } : Jvm.MethodName) ({ cls := "CarpetHallsModel", name := "fault", desc := "()I" } : Jvm.MethodName)) ∈ th_tb := kg (kt_8 (List.mem_of_getElem? (i := 14) rfl)) rfl
theorem kw_1695 : (Jvm.Cond.code ({ cls := "CarpetHallsModel", name := "fault", desc := "()I" } : Jvm.MethodName) prog_14_method_61_code (1 : Nat) (Option.some Jvm.ClassFile.FieldType.int)) ∈ th_tb := kg (kt_8 (List.mem_of_getElem? (i := 15) rfl)) rfl
theorem kw_1696 : (Jvm.Cond.methodLink "CarpetHallsLaw" (78 : Nat) ({ cls := "CarpetHallsModel", name := "force", desc := "(I)I" } : Jvm.MethodName)) ∈ th_tb := kg (kt_8 (List.mem_of_getElem? (i := 16) rfl)) rfl
theorem kw_1697 : (Jvm.Cond.instanceMethod ({ cls := "CarpetHallsModel", name := "force", desc := "(I)I" } : Jvm.MethodName)) ∈ th_tb := kg (kt_8 (List.mem_of_getElem? (i := 17) rfl)) rfl
theorem kw_1698 : (Jvm.Cond.selects "CarpetHallsModel" ({ cls := "CarpetHallsModel", name := "force", desc := "(I)I" } : Jvm.MethodName) ({ cls := "CarpetHallsModel", name := "force", desc := "(I)I" } : Jvm.MethodName)) ∈ th_tb := kg (kt_8 (List.mem_of_getElem? (i := 18) rfl)) rfl
theorem kw_1699 : (Jvm.Cond.code ({ cls := "CarpetHallsModel", name := "force", desc := "(I)I" } : Jvm.MethodName) prog_14_method_63_code (3 : Nat) (Option.some Jvm.ClassFile.FieldType.int)) ∈ th_tb := kg (kt_8 (List.mem_of_getElem? (i := 19) rfl)) rfl
theorem kw_1700 : (Jvm.Cond.methodLink "CarpetHallsModel" (275 : Nat) ({ cls := "CarpetHallsModel", name := "isLaw", desc := "(I)Z" } : Jvm.MethodName)) ∈ th_tb := kg (kt_8 (List.mem_of_getElem? (i := 20) rfl)) rfl
theorem kw_1702 : (Jvm.Cond.instanceMethod ({ cls := "CarpetHallsModel", name := "isLaw", desc := "(I)Z" } : Jvm.MethodName)) ∈ th_tb := kg (kt_8 (List.mem_of_getElem? (i := 22) rfl)) rfl
theorem kw_1703 : (Jvm.Cond.code ({ cls := "CarpetHallsModel", name := "isLaw", desc := "(I)Z" } : Jvm.MethodName) prog_14_method_62_code (2 : Nat) (Option.some Jvm.ClassFile.FieldType.boolean)) ∈ th_tb := kg (kt_8 (List.mem_of_getElem? (i := 23) rfl)) rfl
theorem kw_1704 : (Jvm.Cond.methodLink "CarpetHallsLaw" (102 : Nat) ({ cls := "CarpetHallsModel", name := "bare", desc := "(I)I" } : Jvm.MethodName)) ∈ th_tb := kg (kt_8 (List.mem_of_getElem? (i := 24) rfl)) rfl
theorem kw_1705 : (Jvm.Cond.instanceMethod ({ cls := "CarpetHallsModel", name := "bare", desc := "(I)I" } : Jvm.MethodName)) ∈ th_tb := kg (kt_8 (List.mem_of_getElem? (i := 25) rfl)) rfl
theorem kw_1706 : (Jvm.Cond.selects "CarpetHallsModel" ({ cls := "CarpetHallsModel", name := "bare", desc := "(I)I" } : Jvm.MethodName) ({ cls := "CarpetHallsModel", name := "bare", desc := "(I)I" } : Jvm.MethodName)) ∈ th_tb := kg (kt_8 (List.mem_of_getElem? (i := 26) rfl)) rfl
theorem kw_1707 : (Jvm.Cond.code ({ cls := "CarpetHallsModel", name := "bare", desc := "(I)I" } : Jvm.MethodName) prog_14_method_85_code (3 : Nat) (Option.some Jvm.ClassFile.FieldType.int)) ∈ th_tb := kg (kt_8 (List.mem_of_getElem? (i := 27) rfl)) rfl
theorem kw_1708 : (Jvm.Cond.methodLink "CarpetHallsModel" (354 : Nat) ({ cls := "CarpetHallsModel", name := "firstBare", desc := "(II)I" } : Jvm.MethodName)) ∈ th_tb := kg (kt_8 (List.mem_of_getElem? (i := 28) rfl)) rfl
theorem kw_1710 : (Jvm.Cond.instanceMethod ({ cls := "CarpetHallsModel", name := "firstBare", desc := "(II)I" } : Jvm.MethodName)) ∈ th_tb := kg (kt_8 (List.mem_of_getElem? (i := 30) rfl)) rfl
theorem kw_1711 : (Jvm.Cond.code ({ cls := "CarpetHallsModel", name := "firstBare", desc := "(II)I" } : Jvm.MethodName) prog_14_method_83_code (5 : Nat) (Option.some Jvm.ClassFile.FieldType.int)) ∈ th_tb := kg (kt_8 (List.mem_of_getElem? (i := 31) rfl)) rfl
theorem kw_1712 : (Jvm.Cond.methodLink "CarpetHallsModel" (348 : Nat) ({ cls := "CarpetHallsModel", name := "isIn", desc := "(II)Z" } : Jvm.MethodName)) ∈ th_tb := kg (kt_8 (List.mem_of_getElem? (i := 32) rfl)) rfl
theorem kw_1713 : (Jvm.Cond.static ({ cls := "CarpetHallsModel", name := "isIn", desc := "(II)Z" } : Jvm.MethodName)) ∈ th_tb := kg (kt_8 (List.mem_of_getElem? (i := 33) rfl)) rfl
theorem kw_1714 : (Jvm.Cond.code ({ cls := "CarpetHallsModel", name := "isIn", desc := "(II)Z" } : Jvm.MethodName) prog_14_method_7_code (2 : Nat) (Option.some Jvm.ClassFile.FieldType.boolean)) ∈ th_tb := kg (kt_8 (List.mem_of_getElem? (i := 34) rfl)) rfl
theorem kw_1715 : (Jvm.Cond.methodLink "CarpetHallsLaw" (98 : Nat) ({ cls := "CarpetHallsModel", name := "undo", desc := "()I" } : Jvm.MethodName)) ∈ th_tb := kg (kt_8 (List.mem_of_getElem? (i := 35) rfl)) rfl
theorem kw_1716 : (Jvm.Cond.instanceMethod ({ cls := "CarpetHallsModel", name := "undo", desc := "()I" } : Jvm.MethodName)) ∈ th_tb := kg (kt_8 (List.mem_of_getElem? (i := 36) rfl)) rfl
theorem kw_1717 : (Jvm.Cond.selects "CarpetHallsModel" ({ cls := "CarpetHallsModel", name := "undo", desc := "()I" } : Jvm.MethodName) ({ cls := "CarpetHallsModel", name := "undo", desc := "()I" } : Jvm.MethodName)) ∈ th_tb := kg (kt_8 (List.mem_of_getElem? (i := 37) rfl)) rfl
theorem kw_1718 : (Jvm.Cond.code ({ cls := "CarpetHallsModel", name := "undo", desc := "()I" } : Jvm.MethodName) prog_14_method_90_code (3 : Nat) (Option.some Jvm.ClassFile.FieldType.int)) ∈ th_tb := kg (kt_8 (List.mem_of_getElem? (i := 38) rfl)) rfl
theorem kw_1719 : (Jvm.Cond.methodLink "CarpetHallsLaw" (82 : Nat) ({ cls := "CarpetHallsModel", name := "lay", desc := "(III)I" } : Jvm.MethodName)) ∈ th_tb := kg (kt_8 (List.mem_of_getElem? (i := 39) rfl)) rfl
theorem kw_1720 : (Jvm.Cond.instanceMethod ({ cls := "CarpetHallsModel", name := "lay", desc := "(III)I" } : Jvm.MethodName)) ∈ th_tb := kg (kt_8 (List.mem_of_getElem? (i := 40) rfl)) rfl
theorem kw_1721 : (Jvm.Cond.selects "CarpetHallsModel" ({ cls := "CarpetHallsModel", name := "lay", desc := "(III)I" } : Jvm.MethodName) ({ cls := "CarpetHallsModel", name := "lay", desc := "(III)I" } : Jvm.MethodName)) ∈ th_tb := kg (kt_8 (List.mem_of_getElem? (i := 41) rfl)) rfl
theorem kw_1722 : (Jvm.Cond.code ({ cls := "CarpetHallsModel", name := "lay", desc := "(III)I" } : Jvm.MethodName) prog_14_method_96_code (4 : Nat) (Option.some Jvm.ClassFile.FieldType.int)) ∈ th_tb := kg (kt_8 (List.mem_of_getElem? (i := 42) rfl)) rfl
theorem kw_1723 : (Jvm.Cond.methodLink "CarpetHallsModel" (379 : Nat) ({ cls := "CarpetHallsModel", name := "laysKept", desc := "(III)I" } : Jvm.MethodName)) ∈ th_tb := kg (kt_8 (List.mem_of_getElem? (i := 43) rfl)) rfl
theorem kw_1725 : (Jvm.Cond.instanceMethod ({ cls := "CarpetHallsModel", name := "laysKept", desc := "(III)I" } : Jvm.MethodName)) ∈ th_tb := kg (kt_8 (List.mem_of_getElem? (i := 45) rfl)) rfl
theorem kw_1726 : (Jvm.Cond.code ({ cls := "CarpetHallsModel", name := "laysKept", desc := "(III)I" } : Jvm.MethodName) prog_14_method_92_code (4 : Nat) (Option.some Jvm.ClassFile.FieldType.int)) ∈ th_tb := kg (kt_8 (List.mem_of_getElem? (i := 46) rfl)) rfl
theorem kw_1727 : (Jvm.Cond.methodLink "CarpetHallsModel" (370 : Nat) ({ cls := "CarpetHallsModel", name := "keeps", desc := "(I)V" } : Jvm.MethodName)) ∈ th_tb := kg (kt_8 (List.mem_of_getElem? (i := 47) rfl)) rfl
theorem kw_1729 : (Jvm.Cond.instanceMethod ({ cls := "CarpetHallsModel", name := "keeps", desc := "(I)V" } : Jvm.MethodName)) ∈ th_tb := kg (kt_8 (List.mem_of_getElem? (i := 49) rfl)) rfl
theorem kw_1730 : (Jvm.Cond.code ({ cls := "CarpetHallsModel", name := "keeps", desc := "(I)V" } : Jvm.MethodName) prog_14_method_89_code (4 : Nat) (Option.none : Option Jvm.ClassFile.FieldType)) ∈ th_tb := kg (kt_8 (List.mem_of_getElem? (i := 50) rfl)) rfl
theorem kw_1731 : (Jvm.Cond.methodLink "CarpetHallsModel" (373 : Nat) ({ cls := "CarpetHallsModel", name := "laysAt", desc := "(III)I" } : Jvm.MethodName)) ∈ th_tb := kg (kt_8 (List.mem_of_getElem? (i := 51) rfl)) rfl
theorem kw_1733 : (Jvm.Cond.instanceMethod ({ cls := "CarpetHallsModel", name := "laysAt", desc := "(III)I" } : Jvm.MethodName)) ∈ th_tb := kg (kt_8 (List.mem_of_getElem? (i := 53) rfl)) rfl
theorem kw_1734 : (Jvm.Cond.code ({ cls := "CarpetHallsModel", name := "laysAt", desc := "(III)I" } : Jvm.MethodName) prog_14_method_87_code (5 : Nat) (Option.some Jvm.ClassFile.FieldType.int)) ∈ th_tb := kg (kt_8 (List.mem_of_getElem? (i := 54) rfl)) rfl
theorem kw_1735 : (Jvm.Cond.methodLink "CarpetHallsModel" (364 : Nat) ({ cls := "CarpetHallsModel", name := "lesser", desc := "(II)I" } : Jvm.MethodName)) ∈ th_tb := kg (kt_8 (List.mem_of_getElem? (i := 55) rfl)) rfl
theorem kw_1736 : (Jvm.Cond.static ({ cls := "CarpetHallsModel", name := "lesser", desc := "(II)I" } : Jvm.MethodName)) ∈ th_tb := kg (kt_8 (List.mem_of_getElem? (i := 56) rfl)) rfl
theorem kw_1737 : (Jvm.Cond.code ({ cls := "CarpetHallsModel", name := "lesser", desc := "(II)I" } : Jvm.MethodName) prog_14_method_2_code (2 : Nat) (Option.some Jvm.ClassFile.FieldType.int)) ∈ th_tb := kg (kt_8 (List.mem_of_getElem? (i := 57) rfl)) rfl
theorem kw_1738 : (Jvm.Cond.methodLink "CarpetHallsModel" (382 : Nat) ({ cls := "CarpetHallsModel", name := "goodOr", desc := "(I)I" } : Jvm.MethodName)) ∈ th_tb := kg (kt_8 (List.mem_of_getElem? (i := 58) rfl)) rfl
theorem kw_1740 : (Jvm.Cond.instanceMethod ({ cls := "CarpetHallsModel", name := "goodOr", desc := "(I)I" } : Jvm.MethodName)) ∈ th_tb := kg (kt_8 (List.mem_of_getElem? (i := 60) rfl)) rfl
theorem kw_1741 : (Jvm.Cond.code ({ cls := "CarpetHallsModel", name := "goodOr", desc := "(I)I" } : Jvm.MethodName) prog_14_method_91_code (2 : Nat) (Option.some Jvm.ClassFile.FieldType.int)) ∈ th_tb := kg (kt_8 (List.mem_of_getElem? (i := 61) rfl)) rfl
theorem kw_1742 : (Jvm.Cond.methodLink "CarpetHallsLaw" (86 : Nat) ({ cls := "CarpetHallsModel", name := "roll", desc := "(I)I" } : Jvm.MethodName)) ∈ th_tb := kg (kt_8 (List.mem_of_getElem? (i := 62) rfl)) rfl
theorem kw_1743 : (Jvm.Cond.instanceMethod ({ cls := "CarpetHallsModel", name := "roll", desc := "(I)I" } : Jvm.MethodName)) ∈ th_tb := kg (kt_8 (List.mem_of_getElem? (i := 63) rfl)) rfl
theorem kw_1744 : (Jvm.Cond.selects "CarpetHallsModel" ({ cls := "CarpetHallsModel", name := "roll", desc := "(I)I" } : Jvm.MethodName) ({ cls := "CarpetHallsModel", name := "roll", desc := "(I)I" } : Jvm.MethodName)) ∈ th_tb := kg (kt_8 (List.mem_of_getElem? (i := 64) rfl)) rfl
theorem kw_1745 : (Jvm.Cond.code ({ cls := "CarpetHallsModel", name := "roll", desc := "(I)I" } : Jvm.MethodName) prog_14_method_97_code (2 : Nat) (Option.some Jvm.ClassFile.FieldType.int)) ∈ th_tb := kg (kt_8 (List.mem_of_getElem? (i := 65) rfl)) rfl
theorem kw_1746 : (Jvm.Cond.methodLink "CarpetHallsModel" (385 : Nat) ({ cls := "CarpetHallsModel", name := "rollsKept", desc := "(I)I" } : Jvm.MethodName)) ∈ th_tb := kg (kt_8 (List.mem_of_getElem? (i := 66) rfl)) rfl
theorem kw_1748 : (Jvm.Cond.instanceMethod ({ cls := "CarpetHallsModel", name := "rollsKept", desc := "(I)I" } : Jvm.MethodName)) ∈ th_tb := kg (kt_8 (List.mem_of_getElem? (i := 68) rfl)) rfl
theorem kw_1749 : (Jvm.Cond.code ({ cls := "CarpetHallsModel", name := "rollsKept", desc := "(I)I" } : Jvm.MethodName) prog_14_method_93_code (2 : Nat) (Option.some Jvm.ClassFile.FieldType.int)) ∈ th_tb := kg (kt_8 (List.mem_of_getElem? (i := 69) rfl)) rfl
theorem kw_1750 : (Jvm.Cond.methodLink "CarpetHallsLaw" (90 : Nat) ({ cls := "CarpetHallsModel", name := "mirror", desc := "()I" } : Jvm.MethodName)) ∈ th_tb := kg (kt_8 (List.mem_of_getElem? (i := 70) rfl)) rfl
theorem kw_1751 : (Jvm.Cond.instanceMethod ({ cls := "CarpetHallsModel", name := "mirror", desc := "()I" } : Jvm.MethodName)) ∈ th_tb := kg (kt_8 (List.mem_of_getElem? (i := 71) rfl)) rfl
theorem kw_1752 : (Jvm.Cond.selects "CarpetHallsModel" ({ cls := "CarpetHallsModel", name := "mirror", desc := "()I" } : Jvm.MethodName) ({ cls := "CarpetHallsModel", name := "mirror", desc := "()I" } : Jvm.MethodName)) ∈ th_tb := kg (kt_8 (List.mem_of_getElem? (i := 72) rfl)) rfl
theorem kw_1753 : (Jvm.Cond.code ({ cls := "CarpetHallsModel", name := "mirror", desc := "()I" } : Jvm.MethodName) prog_14_method_98_code (1 : Nat) (Option.some Jvm.ClassFile.FieldType.int)) ∈ th_tb := kg (kt_8 (List.mem_of_getElem? (i := 73) rfl)) rfl
theorem kw_1754 : (Jvm.Cond.methodLink "CarpetHallsModel" (388 : Nat) ({ cls := "CarpetHallsModel", name := "mirrorsKept", desc := "()I" } : Jvm.MethodName)) ∈ th_tb := kg (kt_8 (List.mem_of_getElem? (i := 74) rfl)) rfl
theorem kw_1756 : (Jvm.Cond.instanceMethod ({ cls := "CarpetHallsModel", name := "mirrorsKept", desc := "()I" } : Jvm.MethodName)) ∈ th_tb := kg (kt_8 (List.mem_of_getElem? (i := 76) rfl)) rfl
theorem kw_1757 : (Jvm.Cond.code ({ cls := "CarpetHallsModel", name := "mirrorsKept", desc := "()I" } : Jvm.MethodName) prog_14_method_94_code (2 : Nat) (Option.some Jvm.ClassFile.FieldType.int)) ∈ th_tb := kg (kt_8 (List.mem_of_getElem? (i := 77) rfl)) rfl
theorem kw_1758 : (Jvm.Cond.methodLink "CarpetHallsLaw" (94 : Nat) ({ cls := "CarpetHallsModel", name := "pass", desc := "()I" } : Jvm.MethodName)) ∈ th_tb := kg (kt_8 (List.mem_of_getElem? (i := 78) rfl)) rfl
theorem kw_1759 : (Jvm.Cond.instanceMethod ({ cls := "CarpetHallsModel", name := "pass", desc := "()I" } : Jvm.MethodName)) ∈ th_tb := kg (kt_8 (List.mem_of_getElem? (i := 79) rfl)) rfl
theorem kw_1760 : (Jvm.Cond.selects "CarpetHallsModel" ({ cls := "CarpetHallsModel", name := "pass", desc := "()I" } : Jvm.MethodName) ({ cls := "CarpetHallsModel", name := "pass", desc := "()I" } : Jvm.MethodName)) ∈ th_tb := kg (kt_8 (List.mem_of_getElem? (i := 80) rfl)) rfl
theorem kw_1761 : (Jvm.Cond.code ({ cls := "CarpetHallsModel", name := "pass", desc := "()I" } : Jvm.MethodName) prog_14_method_99_code (1 : Nat) (Option.some Jvm.ClassFile.FieldType.int)) ∈ th_tb := kg (kt_8 (List.mem_of_getElem? (i := 81) rfl)) rfl
theorem kw_1762 : (Jvm.Cond.methodLink "CarpetHallsModel" (391 : Nat) ({ cls := "CarpetHallsModel", name := "passesKept", desc := "()I" } : Jvm.MethodName)) ∈ th_tb := kg (kt_8 (List.mem_of_getElem? (i := 82) rfl)) rfl
theorem kw_1764 : (Jvm.Cond.instanceMethod ({ cls := "CarpetHallsModel", name := "passesKept", desc := "()I" } : Jvm.MethodName)) ∈ th_tb := kg (kt_8 (List.mem_of_getElem? (i := 84) rfl)) rfl
theorem kw_1765 : (Jvm.Cond.code ({ cls := "CarpetHallsModel", name := "passesKept", desc := "()I" } : Jvm.MethodName) prog_14_method_95_code (1 : Nat) (Option.some Jvm.ClassFile.FieldType.int)) ∈ th_tb := kg (kt_8 (List.mem_of_getElem? (i := 85) rfl)) rfl
theorem kw_1766 : (Jvm.Cond.methodLink "CarpetHallsModel" (376 : Nat) ({ cls := "CarpetHallsModel", name := "yearPasses", desc := "()I" } : Jvm.MethodName)) ∈ th_tb := kg (kt_8 (List.mem_of_getElem? (i := 86) rfl)) rfl
theorem kw_1768 : (Jvm.Cond.instanceMethod ({ cls := "CarpetHallsModel", name := "yearPasses", desc := "()I" } : Jvm.MethodName)) ∈ th_tb := kg (kt_8 (List.mem_of_getElem? (i := 88) rfl)) rfl
theorem kw_1769 : (Jvm.Cond.code ({ cls := "CarpetHallsModel", name := "yearPasses", desc := "()I" } : Jvm.MethodName) prog_14_method_88_code (3 : Nat) (Option.some Jvm.ClassFile.FieldType.int)) ∈ th_tb := kg (kt_8 (List.mem_of_getElem? (i := 89) rfl)) rfl
theorem kw_1770 : (Jvm.Cond.methodLink "CarpetHallsModel" (367 : Nat) ({ cls := "CarpetHallsModel", name := "greater", desc := "(II)I" } : Jvm.MethodName)) ∈ th_tb := kg (kt_8 (List.mem_of_getElem? (i := 90) rfl)) rfl
theorem kw_1771 : (Jvm.Cond.static ({ cls := "CarpetHallsModel", name := "greater", desc := "(II)I" } : Jvm.MethodName)) ∈ th_tb := kg (kt_8 (List.mem_of_getElem? (i := 91) rfl)) rfl
theorem kw_1772 : (Jvm.Cond.code ({ cls := "CarpetHallsModel", name := "greater", desc := "(II)I" } : Jvm.MethodName) prog_14_method_3_code (2 : Nat) (Option.some Jvm.ClassFile.FieldType.int)) ∈ th_tb := kg (kt_8 (List.mem_of_getElem? (i := 92) rfl)) rfl
theorem kw_1773 : (Jvm.Cond.methodLink "CarpetHallsLaw" (106 : Nat) ({ cls := "CarpetHallsModel", name := "fill", desc := "(I)I" } : Jvm.MethodName)) ∈ th_tb := kg (kt_8 (List.mem_of_getElem? (i := 93) rfl)) rfl
theorem kw_1774 : (Jvm.Cond.instanceMethod ({ cls := "CarpetHallsModel", name := "fill", desc := "(I)I" } : Jvm.MethodName)) ∈ th_tb := kg (kt_8 (List.mem_of_getElem? (i := 94) rfl)) rfl
theorem kw_1775 : (Jvm.Cond.selects "CarpetHallsModel" ({ cls := "CarpetHallsModel", name := "fill", desc := "(I)I" } : Jvm.MethodName) ({ cls := "CarpetHallsModel", name := "fill", desc := "(I)I" } : Jvm.MethodName)) ∈ th_tb := kg (kt_8 (List.mem_of_getElem? (i := 95) rfl)) rfl
theorem kw_1776 : (Jvm.Cond.code ({ cls := "CarpetHallsModel", name := "fill", desc := "(I)I" } : Jvm.MethodName) prog_14_method_110_code (2 : Nat) (Option.some Jvm.ClassFile.FieldType.int)) ∈ th_tb := kg (kt_8 (List.mem_of_getElem? (i := 96) rfl)) rfl
theorem kw_1777 : (Jvm.Cond.methodLink "CarpetHallsModel" (445 : Nat) ({ cls := "CarpetHallsModel", name := "fillsNow", desc := "(Z)V" } : Jvm.MethodName)) ∈ th_tb := kg (kt_8 (List.mem_of_getElem? (i := 97) rfl)) rfl
theorem kw_1779 : (Jvm.Cond.instanceMethod ({ cls := "CarpetHallsModel", name := "fillsNow", desc := "(Z)V" } : Jvm.MethodName)) ∈ th_tb := kg (kt_8 (List.mem_of_getElem? (i := 99) rfl)) rfl
theorem kw_1780 : (Jvm.Cond.code ({ cls := "CarpetHallsModel", name := "fillsNow", desc := "(Z)V" } : Jvm.MethodName) prog_14_method_109_code (3 : Nat) (Option.none : Option Jvm.ClassFile.FieldType)) ∈ th_tb := kg (kt_8 (List.mem_of_getElem? (i := 100) rfl)) rfl
theorem kw_1781 : (Jvm.Cond.methodLink "CarpetHallsModel" (436 : Nat) ({ cls := "CarpetHallsModel", name := "rolledWhole", desc := "()I" } : Jvm.MethodName)) ∈ th_tb := kg (kt_8 (List.mem_of_getElem? (i := 101) rfl)) rfl
theorem kw_1783 : (Jvm.Cond.instanceMethod ({ cls := "CarpetHallsModel", name := "rolledWhole", desc := "()I" } : Jvm.MethodName)) ∈ th_tb := kg (kt_8 (List.mem_of_getElem? (i := 103) rfl)) rfl
theorem kw_1784 : (Jvm.Cond.code ({ cls := "CarpetHallsModel", name := "rolledWhole", desc := "()I" } : Jvm.MethodName) prog_14_method_102_code (3 : Nat) (Option.some Jvm.ClassFile.FieldType.int)) ∈ th_tb := kg (kt_8 (List.mem_of_getElem? (i := 104) rfl)) rfl
theorem kw_1785 : (Jvm.Cond.methodLink "CarpetHallsModel" (439 : Nat) ({ cls := "CarpetHallsModel", name := "laysPrices", desc := "(I)V" } : Jvm.MethodName)) ∈ th_tb := kg (kt_8 (List.mem_of_getElem? (i := 105) rfl)) rfl
theorem kw_1787 : (Jvm.Cond.instanceMethod ({ cls := "CarpetHallsModel", name := "laysPrices", desc := "(I)V" } : Jvm.MethodName)) ∈ th_tb := kg (kt_8 (List.mem_of_getElem? (i := 107) rfl)) rfl
theorem kw_1788 : (Jvm.Cond.code ({ cls := "CarpetHallsModel", name := "laysPrices", desc := "(I)V" } : Jvm.MethodName) prog_14_method_101_code (6 : Nat) (Option.none : Option Jvm.ClassFile.FieldType)) ∈ th_tb := kg (kt_8 (List.mem_of_getElem? (i := 108) rfl)) rfl
theorem kw_1789 : (Jvm.Cond.methodLink "CarpetHallsModel" (442 : Nat) ({ cls := "CarpetHallsModel", name := "goesThrough", desc := "(III)V" } : Jvm.MethodName)) ∈ th_tb := kg (kt_8 (List.mem_of_getElem? (i := 109) rfl)) rfl
theorem kw_1791 : (Jvm.Cond.instanceMethod ({ cls := "CarpetHallsModel", name := "goesThrough", desc := "(III)V" } : Jvm.MethodName)) ∈ th_tb := kg (kt_8 (List.mem_of_getElem? (i := 111) rfl)) rfl
theorem kw_1792 : (Jvm.Cond.code ({ cls := "CarpetHallsModel", name := "goesThrough", desc := "(III)V" } : Jvm.MethodName) prog_14_method_108_code (4 : Nat) (Option.none : Option Jvm.ClassFile.FieldType)) ∈ th_tb := kg (kt_8 (List.mem_of_getElem? (i := 112) rfl)) rfl
theorem kw_1793 : (Jvm.Cond.methodLink "CarpetHallsModel" (433 : Nat) ({ cls := "CarpetHallsModel", name := "goesOn", desc := "(III)V" } : Jvm.MethodName)) ∈ th_tb := kg (kt_8 (List.mem_of_getElem? (i := 113) rfl)) rfl
theorem kw_1795 : (Jvm.Cond.instanceMethod ({ cls := "CarpetHallsModel", name := "goesOn", desc := "(III)V" } : Jvm.MethodName)) ∈ th_tb := kg (kt_8 (List.mem_of_getElem? (i := 115) rfl)) rfl
theorem kw_1796 : (Jvm.Cond.code ({ cls := "CarpetHallsModel", name := "goesOn", desc := "(III)V" } : Jvm.MethodName) prog_14_method_107_code (8 : Nat) (Option.none : Option Jvm.ClassFile.FieldType)) ∈ th_tb := kg (kt_8 (List.mem_of_getElem? (i := 116) rfl)) rfl
theorem kw_1797 : (Jvm.Cond.methodLink "CarpetHallsModel" (427 : Nat) ({ cls := "CarpetHallsModel", name := "fills", desc := "(II)V" } : Jvm.MethodName)) ∈ th_tb := kg (kt_8 (List.mem_of_getElem? (i := 117) rfl)) rfl
theorem kw_1799 : (Jvm.Cond.instanceMethod ({ cls := "CarpetHallsModel", name := "fills", desc := "(II)V" } : Jvm.MethodName)) ∈ th_tb := kg (kt_8 (List.mem_of_getElem? (i := 119) rfl)) rfl
theorem kw_1800 : (Jvm.Cond.code ({ cls := "CarpetHallsModel", name := "fills", desc := "(II)V" } : Jvm.MethodName) prog_14_method_106_code (4 : Nat) (Option.none : Option Jvm.ClassFile.FieldType)) ∈ th_tb := kg (kt_8 (List.mem_of_getElem? (i := 120) rfl)) rfl
theorem kw_1801 : (Jvm.Cond.methodLink "CarpetHallsModel" (403 : Nat) ({ cls := "CarpetHallsModel", name := "isSeenSo", desc := "(I)Z" } : Jvm.MethodName)) ∈ th_tb := kg (kt_8 (List.mem_of_getElem? (i := 121) rfl)) rfl
theorem kw_1803 : (Jvm.Cond.instanceMethod ({ cls := "CarpetHallsModel", name := "isSeenSo", desc := "(I)Z" } : Jvm.MethodName)) ∈ th_tb := kg (kt_8 (List.mem_of_getElem? (i := 123) rfl)) rfl
theorem kw_1804 : (Jvm.Cond.code ({ cls := "CarpetHallsModel", name := "isSeenSo", desc := "(I)Z" } : Jvm.MethodName) prog_14_method_104_code (5 : Nat) (Option.some Jvm.ClassFile.FieldType.boolean)) ∈ th_tb := kg (kt_8 (List.mem_of_getElem? (i := 124) rfl)) rfl
theorem kw_1805 : (Jvm.Cond.methodLink "CarpetHallsModel" (397 : Nat) ({ cls := "CarpetHallsModel", name := "carpetBehind", desc := "(III)I" } : Jvm.MethodName)) ∈ th_tb := kg (kt_8 (List.mem_of_getElem? (i := 125) rfl)) rfl
theorem kw_1807 : (Jvm.Cond.instanceMethod ({ cls := "CarpetHallsModel", name := "carpetBehind", desc := "(III)I" } : Jvm.MethodName)) ∈ th_tb := kg (kt_8 (List.mem_of_getElem? (i := 127) rfl)) rfl
theorem kw_1808 : (Jvm.Cond.code ({ cls := "CarpetHallsModel", name := "carpetBehind", desc := "(III)I" } : Jvm.MethodName) prog_14_method_103_code (8 : Nat) (Option.some Jvm.ClassFile.FieldType.int)) ∈ th_tb := kg (kt_8 (List.mem_of_getElem? (i := 128) rfl)) rfl
theorem kw_1809 : (Jvm.Cond.methodLink "CarpetHallsModel" (394 : Nat) ({ cls := "CarpetHallsModel", name := "at", desc := "(II)I" } : Jvm.MethodName)) ∈ th_tb := kg (kt_8 (List.mem_of_getElem? (i := 129) rfl)) rfl
theorem kw_1810 : (Jvm.Cond.methodLink "CarpetHallsModel" (412 : Nat) ({ cls := "CarpetHallsModel", name := "countsRow", desc := "(I)V" } : Jvm.MethodName)) ∈ th_tb := kg (kt_8 (List.mem_of_getElem? (i := 130) rfl)) rfl
theorem kw_1812 : (Jvm.Cond.instanceMethod ({ cls := "CarpetHallsModel", name := "countsRow", desc := "(I)V" } : Jvm.MethodName)) ∈ th_tb := kg (kt_8 (List.mem_of_getElem? (i := 132) rfl)) rfl
theorem kw_1813 : (Jvm.Cond.code ({ cls := "CarpetHallsModel", name := "countsRow", desc := "(I)V" } : Jvm.MethodName) prog_14_method_105_code (5 : Nat) (Option.none : Option Jvm.ClassFile.FieldType)) ∈ th_tb := kg (kt_8 (List.mem_of_getElem? (i := 133) rfl)) rfl
theorem kw_1814 : (Jvm.Cond.methodLink "CarpetHallsModel" (430 : Nat) ({ cls := "CarpetHallsModel", name := "priceAt", desc := "(II)I" } : Jvm.MethodName)) ∈ th_tb := kg (kt_8 (List.mem_of_getElem? (i := 134) rfl)) rfl
theorem kw_1816 : (Jvm.Cond.instanceMethod ({ cls := "CarpetHallsModel", name := "priceAt", desc := "(II)I" } : Jvm.MethodName)) ∈ th_tb := kg (kt_8 (List.mem_of_getElem? (i := 136) rfl)) rfl
theorem kw_1817 : (Jvm.Cond.code ({ cls := "CarpetHallsModel", name := "priceAt", desc := "(II)I" } : Jvm.MethodName) prog_14_method_100_code (3 : Nat) (Option.some Jvm.ClassFile.FieldType.int)) ∈ th_tb := kg (kt_8 (List.mem_of_getElem? (i := 137) rfl)) rfl
theorem kw_1818 : (Jvm.Cond.methodLink "CarpetHallsLaw" (110 : Nat) ({ cls := "CarpetHallsModel", name := "ways", desc := "()I" } : Jvm.MethodName)) ∈ th_tb := kg (kt_8 (List.mem_of_getElem? (i := 138) rfl)) rfl
theorem kw_1819 : (Jvm.Cond.instanceMethod ({ cls := "CarpetHallsModel", name := "ways", desc := "()I" } : Jvm.MethodName)) ∈ th_tb := kg (kt_8 (List.mem_of_getElem? (i := 139) rfl)) rfl
theorem kw_1820 : (Jvm.Cond.selects "CarpetHallsModel" ({ cls := "CarpetHallsModel", name := "ways", desc := "()I" } : Jvm.MethodName) ({ cls := "CarpetHallsModel", name := "ways", desc := "()I" } : Jvm.MethodName)) ∈ th_tb := kg (kt_8 (List.mem_of_getElem? (i := 140) rfl)) rfl
theorem kw_1821 : (Jvm.Cond.code ({ cls := "CarpetHallsModel", name := "ways", desc := "()I" } : Jvm.MethodName) prog_14_method_111_code (1 : Nat) (Option.some Jvm.ClassFile.FieldType.int)) ∈ th_tb := kg (kt_8 (List.mem_of_getElem? (i := 141) rfl)) rfl
theorem kw_1822 : (Jvm.Cond.methodLink "CarpetHallsLaw" (114 : Nat) ({ cls := "CarpetHallsModel", name := "cheapest", desc := "()I" } : Jvm.MethodName)) ∈ th_tb := kg (kt_8 (List.mem_of_getElem? (i := 142) rfl)) rfl
theorem kw_1823 : (Jvm.Cond.instanceMethod ({ cls := "CarpetHallsModel", name := "cheapest", desc := "()I" } : Jvm.MethodName)) ∈ th_tb := kg (kt_8 (List.mem_of_getElem? (i := 143) rfl)) rfl
theorem kw_1824 : (Jvm.Cond.selects "CarpetHallsModel" ({ cls := "CarpetHallsModel", name := "cheapest", desc := "()I" } : Jvm.MethodName) ({ cls := "CarpetHallsModel", name := "cheapest", desc := "()I" } : Jvm.MethodName)) ∈ th_tb := kg (kt_8 (List.mem_of_getElem? (i := 144) rfl)) rfl
theorem kw_1825 : (Jvm.Cond.code ({ cls := "CarpetHallsModel", name := "cheapest", desc := "()I" } : Jvm.MethodName) prog_14_method_112_code (1 : Nat) (Option.some Jvm.ClassFile.FieldType.int)) ∈ th_tb := kg (kt_8 (List.mem_of_getElem? (i := 145) rfl)) rfl
theorem kw_1826 : (Jvm.Cond.methodLink "CarpetHallsLaw" (167 : Nat) ({ cls := "CarpetHallsModel", name := "compare", desc := "(I)I" } : Jvm.MethodName)) ∈ th_tb := kg (kt_8 (List.mem_of_getElem? (i := 146) rfl)) rfl
theorem kw_1827 : (Jvm.Cond.instanceMethod ({ cls := "CarpetHallsModel", name := "compare", desc := "(I)I" } : Jvm.MethodName)) ∈ th_tb := kg (kt_8 (List.mem_of_getElem? (i := 147) rfl)) rfl
theorem kw_1828 : (Jvm.Cond.selects "CarpetHallsModel" ({ cls := "CarpetHallsModel", name := "compare", desc := "(I)I" } : Jvm.MethodName) ({ cls := "CarpetHallsModel", name := "compare", desc := "(I)I" } : Jvm.MethodName)) ∈ th_tb := kg (kt_8 (List.mem_of_getElem? (i := 148) rfl)) rfl
theorem kw_1829 : (Jvm.Cond.code ({ cls := "CarpetHallsModel", name := "compare", desc := "(I)I" } : Jvm.MethodName) prog_14_method_113_code (4 : Nat) (Option.some Jvm.ClassFile.FieldType.int)) ∈ th_tb := kg (kt_8 (List.mem_of_getElem? (i := 149) rfl)) rfl
theorem kw_1830 : (Jvm.Cond.methodLink "CarpetHallsModel" (449 : Nat) ({ cls := "CarpetHallsModel", name := "cheapest", desc := "()I" } : Jvm.MethodName)) ∈ th_tb := kg (kt_8 (List.mem_of_getElem? (i := 150) rfl)) rfl
theorem kw_1831 : (Jvm.Cond.methodLink "CarpetHallsLaw" (142 : Nat) ({ cls := "CarpetHallsModel", name := "free", desc := "()I" } : Jvm.MethodName)) ∈ th_tb := kg (kt_8 (List.mem_of_getElem? (i := 151) rfl)) rfl
theorem kw_1832 : (Jvm.Cond.instanceMethod ({ cls := "CarpetHallsModel", name := "free", desc := "()I" } : Jvm.MethodName)) ∈ th_tb := kg (kt_8 (List.mem_of_getElem? (i := 152) rfl)) rfl
theorem kw_1833 : (Jvm.Cond.selects "CarpetHallsModel" ({ cls := "CarpetHallsModel", name := "free", desc := "()I" } : Jvm.MethodName) ({ cls := "CarpetHallsModel", name := "free", desc := "()I" } : Jvm.MethodName)) ∈ th_tb := kg (kt_8 (List.mem_of_getElem? (i := 153) rfl)) rfl
theorem kw_1834 : (Jvm.Cond.code ({ cls := "CarpetHallsModel", name := "free", desc := "()I" } : Jvm.MethodName) prog_14_method_115_code (3 : Nat) (Option.some Jvm.ClassFile.FieldType.int)) ∈ th_tb := kg (kt_8 (List.mem_of_getElem? (i := 154) rfl)) rfl
theorem kw_1835 : (Jvm.Cond.methodLink "CarpetHallsModel" (452 : Nat) ({ cls := "CarpetHallsModel", name := "isMovable", desc := "(I)Z" } : Jvm.MethodName)) ∈ th_tb := kg (kt_8 (List.mem_of_getElem? (i := 155) rfl)) rfl
theorem kw_1837 : (Jvm.Cond.instanceMethod ({ cls := "CarpetHallsModel", name := "isMovable", desc := "(I)Z" } : Jvm.MethodName)) ∈ th_tb := kg (kt_8 (List.mem_of_getElem? (i := 157) rfl)) rfl
theorem kw_1838 : (Jvm.Cond.code ({ cls := "CarpetHallsModel", name := "isMovable", desc := "(I)Z" } : Jvm.MethodName) prog_14_method_114_code (4 : Nat) (Option.some Jvm.ClassFile.FieldType.boolean)) ∈ th_tb := kg (kt_8 (List.mem_of_getElem? (i := 158) rfl)) rfl
theorem kw_1839 : (Jvm.Cond.methodLink "CarpetHallsLaw" (118 : Nat) ({ cls := "CarpetHallsModel", name := "halls", desc := "(I)I" } : Jvm.MethodName)) ∈ th_tb := kg (kt_8 (List.mem_of_getElem? (i := 159) rfl)) rfl
theorem kw_1840 : (Jvm.Cond.instanceMethod ({ cls := "CarpetHallsModel", name := "halls", desc := "(I)I" } : Jvm.MethodName)) ∈ th_tb := kg (kt_8 (List.mem_of_getElem? (i := 160) rfl)) rfl
theorem kw_1841 : (Jvm.Cond.selects "CarpetHallsModel" ({ cls := "CarpetHallsModel", name := "halls", desc := "(I)I" } : Jvm.MethodName) ({ cls := "CarpetHallsModel", name := "halls", desc := "(I)I" } : Jvm.MethodName)) ∈ th_tb := kg (kt_8 (List.mem_of_getElem? (i := 161) rfl)) rfl
theorem kw_1842 : (Jvm.Cond.code ({ cls := "CarpetHallsModel", name := "halls", desc := "(I)I" } : Jvm.MethodName) prog_14_method_117_code (7 : Nat) (Option.some Jvm.ClassFile.FieldType.int)) ∈ th_tb := kg (kt_8 (List.mem_of_getElem? (i := 162) rfl)) rfl
theorem kw_1843 : (Jvm.Cond.methodLink "CarpetHallsModel" (455 : Nat) ({ cls := "CarpetHallsModel", name := "canFill", desc := "(III)Z" } : Jvm.MethodName)) ∈ th_tb := kg (kt_8 (List.mem_of_getElem? (i := 163) rfl)) rfl
theorem kw_1845 : (Jvm.Cond.instanceMethod ({ cls := "CarpetHallsModel", name := "canFill", desc := "(III)Z" } : Jvm.MethodName)) ∈ th_tb := kg (kt_8 (List.mem_of_getElem? (i := 165) rfl)) rfl
theorem kw_1846 : (Jvm.Cond.code ({ cls := "CarpetHallsModel", name := "canFill", desc := "(III)Z" } : Jvm.MethodName) prog_14_method_116_code (5 : Nat) (Option.some Jvm.ClassFile.FieldType.boolean)) ∈ th_tb := kg (kt_8 (List.mem_of_getElem? (i := 166) rfl)) rfl
theorem kw_1847 : (Jvm.Cond.methodLink "CarpetHallsLaw" (122 : Nat) ({ cls := "CarpetHallsModel", name := "inner", desc := "()I" } : Jvm.MethodName)) ∈ th_tb := kg (kt_8 (List.mem_of_getElem? (i := 167) rfl)) rfl
theorem kw_1848 : (Jvm.Cond.instanceMethod ({ cls := "CarpetHallsModel", name := "inner", desc := "()I" } : Jvm.MethodName)) ∈ th_tb := kg (kt_8 (List.mem_of_getElem? (i := 168) rfl)) rfl
theorem kw_1849 : (Jvm.Cond.selects "CarpetHallsModel" ({ cls := "CarpetHallsModel", name := "inner", desc := "()I" } : Jvm.MethodName) ({ cls := "CarpetHallsModel", name := "inner", desc := "()I" } : Jvm.MethodName)) ∈ th_tb := kg (kt_8 (List.mem_of_getElem? (i := 169) rfl)) rfl
theorem kw_1850 : (Jvm.Cond.code ({ cls := "CarpetHallsModel", name := "inner", desc := "()I" } : Jvm.MethodName) prog_14_method_119_code (8 : Nat) (Option.some Jvm.ClassFile.FieldType.int)) ∈ th_tb := kg (kt_8 (List.mem_of_getElem? (i := 170) rfl)) rfl
theorem kw_1851 : (Jvm.Cond.methodLink "CarpetHallsModel" (458 : Nat) ({ cls := "CarpetHallsModel", name := "within", desc := "(IIII)I" } : Jvm.MethodName)) ∈ th_tb := kg (kt_8 (List.mem_of_getElem? (i := 171) rfl)) rfl
theorem kw_1853 : (Jvm.Cond.instanceMethod ({ cls := "CarpetHallsModel", name := "within", desc := "(IIII)I" } : Jvm.MethodName)) ∈ th_tb := kg (kt_8 (List.mem_of_getElem? (i := 173) rfl)) rfl
theorem kw_1854 : (Jvm.Cond.code ({ cls := "CarpetHallsModel", name := "within", desc := "(IIII)I" } : Jvm.MethodName) prog_14_method_118_code (9 : Nat) (Option.some Jvm.ClassFile.FieldType.int)) ∈ th_tb := kg (kt_8 (List.mem_of_getElem? (i := 174) rfl)) rfl
theorem kw_1855 : (Jvm.Cond.methodLink "CarpetHallsLaw" (126 : Nat) ({ cls := "CarpetHallsModel", name := "crosses", desc := "()I" } : Jvm.MethodName)) ∈ th_tb := kg (kt_8 (List.mem_of_getElem? (i := 175) rfl)) rfl
theorem kw_1856 : (Jvm.Cond.instanceMethod ({ cls := "CarpetHallsModel", name := "crosses", desc := "()I" } : Jvm.MethodName)) ∈ th_tb := kg (kt_8 (List.mem_of_getElem? (i := 176) rfl)) rfl
theorem kw_1857 : (Jvm.Cond.selects "CarpetHallsModel" ({ cls := "CarpetHallsModel", name := "crosses", desc := "()I" } : Jvm.MethodName) ({ cls := "CarpetHallsModel", name := "crosses", desc := "()I" } : Jvm.MethodName)) ∈ th_tb := kg (kt_8 (List.mem_of_getElem? (i := 177) rfl)) rfl
theorem kw_1858 : (Jvm.Cond.code ({ cls := "CarpetHallsModel", name := "crosses", desc := "()I" } : Jvm.MethodName) prog_14_method_121_code (4 : Nat) (Option.some Jvm.ClassFile.FieldType.int)) ∈ th_tb := kg (kt_8 (List.mem_of_getElem? (i := 178) rfl)) rfl
theorem kw_1859 : (Jvm.Cond.methodLink "CarpetHallsModel" (462 : Nat) ({ cls := "CarpetHallsModel", name := "isCross", desc := "(II)Z" } : Jvm.MethodName)) ∈ th_tb := kg (kt_8 (List.mem_of_getElem? (i := 179) rfl)) rfl
theorem kw_1861 : (Jvm.Cond.instanceMethod ({ cls := "CarpetHallsModel", name := "isCross", desc := "(II)Z" } : Jvm.MethodName)) ∈ th_tb := kg (kt_8 (List.mem_of_getElem? (i := 181) rfl)) rfl
theorem kw_1862 : (Jvm.Cond.code ({ cls := "CarpetHallsModel", name := "isCross", desc := "(II)Z" } : Jvm.MethodName) prog_14_method_120_code (8 : Nat) (Option.some Jvm.ClassFile.FieldType.boolean)) ∈ th_tb := kg (kt_8 (List.mem_of_getElem? (i := 182) rfl)) rfl
theorem kw_1863 : (Jvm.Cond.methodLink "CarpetHallsLaw" (130 : Nat) ({ cls := "CarpetHallsModel", name := "currents", desc := "(II)I" } : Jvm.MethodName)) ∈ th_tb := kg (kt_8 (List.mem_of_getElem? (i := 183) rfl)) rfl
theorem kw_1864 : (Jvm.Cond.instanceMethod ({ cls := "CarpetHallsModel", name := "currents", desc := "(II)I" } : Jvm.MethodName)) ∈ th_tb := kg (kt_8 (List.mem_of_getElem? (i := 184) rfl)) rfl
theorem kw_1865 : (Jvm.Cond.selects "CarpetHallsModel" ({ cls := "CarpetHallsModel", name := "currents", desc := "(II)I" } : Jvm.MethodName) ({ cls := "CarpetHallsModel", name := "currents", desc := "(II)I" } : Jvm.MethodName)) ∈ th_tb := kg (kt_8 (List.mem_of_getElem? (i := 185) rfl)) rfl
theorem kw_1866 : (Jvm.Cond.code ({ cls := "CarpetHallsModel", name := "currents", desc := "(II)I" } : Jvm.MethodName) prog_14_method_122_code (5 : Nat) (Option.some Jvm.ClassFile.FieldType.int)) ∈ th_tb := kg (kt_8 (List.mem_of_getElem? (i := 186) rfl)) rfl
theorem kw_1867 : (Jvm.Cond.methodLink "CarpetHallsLaw" (134 : Nat) ({ cls := "CarpetHallsModel", name := "fitting", desc := "(I)I" } : Jvm.MethodName)) ∈ th_tb := kg (kt_8 (List.mem_of_getElem? (i := 187) rfl)) rfl
theorem kw_1868 : (Jvm.Cond.instanceMethod ({ cls := "CarpetHallsModel", name := "fitting", desc := "(I)I" } : Jvm.MethodName)) ∈ th_tb := kg (kt_8 (List.mem_of_getElem? (i := 188) rfl)) rfl
theorem kw_1869 : (Jvm.Cond.selects "CarpetHallsModel" ({ cls := "CarpetHallsModel", name := "fitting", desc := "(I)I" } : Jvm.MethodName) ({ cls := "CarpetHallsModel", name := "fitting", desc := "(I)I" } : Jvm.MethodName)) ∈ th_tb := kg (kt_8 (List.mem_of_getElem? (i := 189) rfl)) rfl
theorem kw_1870 : (Jvm.Cond.code ({ cls := "CarpetHallsModel", name := "fitting", desc := "(I)I" } : Jvm.MethodName) prog_14_method_123_code (5 : Nat) (Option.some Jvm.ClassFile.FieldType.int)) ∈ th_tb := kg (kt_8 (List.mem_of_getElem? (i := 190) rfl)) rfl
theorem kw_1871 : (Jvm.Cond.methodLink "CarpetHallsLaw" (138 : Nat) ({ cls := "CarpetHallsModel", name := "alike", desc := "()I" } : Jvm.MethodName)) ∈ th_tb := kg (kt_8 (List.mem_of_getElem? (i := 191) rfl)) rfl
theorem kw_1872 : (Jvm.Cond.instanceMethod ({ cls := "CarpetHallsModel", name := "alike", desc := "()I" } : Jvm.MethodName)) ∈ th_tb := kg (kt_8 (List.mem_of_getElem? (i := 192) rfl)) rfl
theorem kw_1873 : (Jvm.Cond.selects "CarpetHallsModel" ({ cls := "CarpetHallsModel", name := "alike", desc := "()I" } : Jvm.MethodName) ({ cls := "CarpetHallsModel", name := "alike", desc := "()I" } : Jvm.MethodName)) ∈ th_tb := kg (kt_8 (List.mem_of_getElem? (i := 193) rfl)) rfl
theorem kw_1874 : (Jvm.Cond.code ({ cls := "CarpetHallsModel", name := "alike", desc := "()I" } : Jvm.MethodName) prog_14_method_124_code (4 : Nat) (Option.some Jvm.ClassFile.FieldType.int)) ∈ th_tb := kg (kt_8 (List.mem_of_getElem? (i := 194) rfl)) rfl
theorem kw_1875 : (Jvm.Cond.methodLink "CarpetHallsLaw" (146 : Nat) ({ cls := "CarpetHallsModel", name := "seen", desc := "(III)I" } : Jvm.MethodName)) ∈ th_tb := kg (kt_8 (List.mem_of_getElem? (i := 195) rfl)) rfl
theorem kw_1876 : (Jvm.Cond.instanceMethod ({ cls := "CarpetHallsModel", name := "seen", desc := "(III)I" } : Jvm.MethodName)) ∈ th_tb := kg (kt_8 (List.mem_of_getElem? (i := 196) rfl)) rfl
theorem kw_1877 : (Jvm.Cond.selects "CarpetHallsModel" ({ cls := "CarpetHallsModel", name := "seen", desc := "(III)I" } : Jvm.MethodName) ({ cls := "CarpetHallsModel", name := "seen", desc := "(III)I" } : Jvm.MethodName)) ∈ th_tb := kg (kt_8 (List.mem_of_getElem? (i := 197) rfl)) rfl
theorem kw_1878 : (Jvm.Cond.code ({ cls := "CarpetHallsModel", name := "seen", desc := "(III)I" } : Jvm.MethodName) prog_14_method_125_code (5 : Nat) (Option.some Jvm.ClassFile.FieldType.int)) ∈ th_tb := kg (kt_8 (List.mem_of_getElem? (i := 198) rfl)) rfl
theorem kw_1879 : (Jvm.Cond.methodLink "CarpetHallsLaw" (150 : Nat) ({ cls := "CarpetHallsModel", name := "forget", desc := "()I" } : Jvm.MethodName)) ∈ th_tb := kg (kt_8 (List.mem_of_getElem? (i := 199) rfl)) rfl
theorem kw_1880 : (Jvm.Cond.instanceMethod ({ cls := "CarpetHallsModel", name := "forget", desc := "()I" } : Jvm.MethodName)) ∈ th_tb := kg (kt_8 (List.mem_of_getElem? (i := 200) rfl)) rfl
theorem kw_1881 : (Jvm.Cond.selects "CarpetHallsModel" ({ cls := "CarpetHallsModel", name := "forget", desc := "()I" } : Jvm.MethodName) ({ cls := "CarpetHallsModel", name := "forget", desc := "()I" } : Jvm.MethodName)) ∈ th_tb := kg (kt_8 (List.mem_of_getElem? (i := 201) rfl)) rfl
theorem kw_1882 : (Jvm.Cond.code ({ cls := "CarpetHallsModel", name := "forget", desc := "()I" } : Jvm.MethodName) prog_14_method_126_code (2 : Nat) (Option.some Jvm.ClassFile.FieldType.int)) ∈ th_tb := kg (kt_8 (List.mem_of_getElem? (i := 202) rfl)) rfl
theorem kw_1883 : (Jvm.Cond.methodLink "CarpetHallsLaw" (154 : Nat) ({ cls := "CarpetHallsModel", name := "floors", desc := "()I" } : Jvm.MethodName)) ∈ th_tb := kg (kt_8 (List.mem_of_getElem? (i := 203) rfl)) rfl
theorem kw_1884 : (Jvm.Cond.instanceMethod ({ cls := "CarpetHallsModel", name := "floors", desc := "()I" } : Jvm.MethodName)) ∈ th_tb := kg (kt_8 (List.mem_of_getElem? (i := 204) rfl)) rfl
theorem kw_1885 : (Jvm.Cond.selects "CarpetHallsModel" ({ cls := "CarpetHallsModel", name := "floors", desc := "()I" } : Jvm.MethodName) ({ cls := "CarpetHallsModel", name := "floors", desc := "()I" } : Jvm.MethodName)) ∈ th_tb := kg (kt_8 (List.mem_of_getElem? (i := 205) rfl)) rfl
theorem kw_1886 : (Jvm.Cond.code ({ cls := "CarpetHallsModel", name := "floors", desc := "()I" } : Jvm.MethodName) prog_14_method_128_code (1 : Nat) (Option.some Jvm.ClassFile.FieldType.int)) ∈ th_tb := kg (kt_8 (List.mem_of_getElem? (i := 206) rfl)) rfl
theorem kw_1887 : (Jvm.Cond.methodLink "CarpetHallsModel" (465 : Nat) ({ cls := "CarpetHallsModel", name := "laysFloors", desc := "()V" } : Jvm.MethodName)) ∈ th_tb := kg (kt_8 (List.mem_of_getElem? (i := 207) rfl)) rfl
theorem kw_1889 : (Jvm.Cond.instanceMethod ({ cls := "CarpetHallsModel", name := "laysFloors", desc := "()V" } : Jvm.MethodName)) ∈ th_tb := kg (kt_8 (List.mem_of_getElem? (i := 209) rfl)) rfl
theorem kw_1890 : (Jvm.Cond.code ({ cls := "CarpetHallsModel", name := "laysFloors", desc := "()V" } : Jvm.MethodName) prog_14_method_127_code (2 : Nat) (Option.none : Option Jvm.ClassFile.FieldType)) ∈ th_tb := kg (kt_8 (List.mem_of_getElem? (i := 210) rfl)) rfl
theorem kw_1891 : (Jvm.Cond.methodLink "CarpetHallsLaw" (158 : Nat) ({ cls := "CarpetHallsModel", name := "look", desc := "(I)I" } : Jvm.MethodName)) ∈ th_tb := kg (kt_8 (List.mem_of_getElem? (i := 211) rfl)) rfl
theorem kw_1892 : (Jvm.Cond.instanceMethod ({ cls := "CarpetHallsModel", name := "look", desc := "(I)I" } : Jvm.MethodName)) ∈ th_tb := kg (kt_8 (List.mem_of_getElem? (i := 212) rfl)) rfl
theorem kw_1893 : (Jvm.Cond.selects "CarpetHallsModel" ({ cls := "CarpetHallsModel", name := "look", desc := "(I)I" } : Jvm.MethodName) ({ cls := "CarpetHallsModel", name := "look", desc := "(I)I" } : Jvm.MethodName)) ∈ th_tb := kg (kt_8 (List.mem_of_getElem? (i := 213) rfl)) rfl
theorem kw_1894 : (Jvm.Cond.code ({ cls := "CarpetHallsModel", name := "look", desc := "(I)I" } : Jvm.MethodName) prog_14_method_130_code (6 : Nat) (Option.some Jvm.ClassFile.FieldType.int)) ∈ th_tb := kg (kt_8 (List.mem_of_getElem? (i := 214) rfl)) rfl
theorem kw_1895 : (Jvm.Cond.methodLink "CarpetHallsModel" (468 : Nat) ({ cls := "CarpetHallsModel", name := "mostAt", desc := "(I)I" } : Jvm.MethodName)) ∈ th_tb := kg (kt_8 (List.mem_of_getElem? (i := 215) rfl)) rfl
theorem kw_1897 : (Jvm.Cond.instanceMethod ({ cls := "CarpetHallsModel", name := "mostAt", desc := "(I)I" } : Jvm.MethodName)) ∈ th_tb := kg (kt_8 (List.mem_of_getElem? (i := 217) rfl)) rfl
theorem kw_1898 : (Jvm.Cond.code ({ cls := "CarpetHallsModel", name := "mostAt", desc := "(I)I" } : Jvm.MethodName) prog_14_method_129_code (4 : Nat) (Option.some Jvm.ClassFile.FieldType.int)) ∈ th_tb := kg (kt_8 (List.mem_of_getElem? (i := 218) rfl)) rfl
theorem kw_1899 : (Jvm.Cond.methodLink "CarpetHallsLaw" (163 : Nat) ({ cls := "CarpetHallsModel", name := "few", desc := "(II)J" } : Jvm.MethodName)) ∈ th_tb := kg (kt_8 (List.mem_of_getElem? (i := 219) rfl)) rfl
theorem kw_1900 : (Jvm.Cond.instanceMethod ({ cls := "CarpetHallsModel", name := "few", desc := "(II)J" } : Jvm.MethodName)) ∈ th_tb := kg (kt_8 (List.mem_of_getElem? (i := 220) rfl)) rfl
theorem kw_1901 : (Jvm.Cond.selects "CarpetHallsModel" ({ cls := "CarpetHallsModel", name := "few", desc := "(II)J" } : Jvm.MethodName) ({ cls := "CarpetHallsModel", name := "few", desc := "(II)J" } : Jvm.MethodName)) ∈ th_tb := kg (kt_8 (List.mem_of_getElem? (i := 221) rfl)) rfl
theorem kw_1902 : (Jvm.Cond.code ({ cls := "CarpetHallsModel", name := "few", desc := "(II)J" } : Jvm.MethodName) prog_14_method_131_code (6 : Nat) (Option.some Jvm.ClassFile.FieldType.long)) ∈ th_tb := kg (kt_8 (List.mem_of_getElem? (i := 222) rfl)) rfl
theorem kw_1903 : (Jvm.Cond.constantLong "CarpetHallsModel" (471 : Nat) (-1 : Int64)) ∈ th_tb := kg (kt_8 (List.mem_of_getElem? (i := 223) rfl)) rfl
theorem kw_1904 : (Jvm.Cond.constantLong "CarpetHallsModel" (473 : Nat) (1000000000000 : Int64)) ∈ th_tb := kg (kt_8 (List.mem_of_getElem? (i := 224) rfl)) rfl
theorem kw_1905 : (Jvm.Cond.constantLong "CarpetHallsModel" (475 : Nat) (10 : Int64)) ∈ th_tb := kg (kt_8 (List.mem_of_getElem? (i := 225) rfl)) rfl
theorem kw_1906 : (Jvm.Cond.methodLink "CarpetHallsLaw" (74 : Nat) ({ cls := "CarpetHallsModel", name := "stopped", desc := "()I" } : Jvm.MethodName)) ∈ th_tb := kg (kt_8 (List.mem_of_getElem? (i := 226) rfl)) rfl
theorem kw_1907 : (Jvm.Cond.instanceMethod ({ cls := "CarpetHallsModel", name := "stopped", desc := "()I" } : Jvm.MethodName)) ∈ th_tb := kg (kt_8 (List.mem_of_getElem? (i := 227) rfl)) rfl
theorem kw_1908 : (Jvm.Cond.selects "CarpetHallsModel" ({ cls := "CarpetHallsModel", name := "stopped", desc := "()I" } : Jvm.MethodName) ({ cls := "CarpetHallsModel", name := "stopped", desc := "()I" } : Jvm.MethodName)) ∈ th_tb := kg (kt_8 (List.mem_of_getElem? (i := 228) rfl)) rfl
theorem kw_1909 : (Jvm.Cond.code ({ cls := "CarpetHallsModel", name := "stopped", desc := "()I" } : Jvm.MethodName) prog_14_method_132_code (1 : Nat) (Option.some Jvm.ClassFile.FieldType.int)) ∈ th_tb := kg (kt_8 (List.mem_of_getElem? (i := 229) rfl)) rfl
theorem kw_1910 : (Jvm.Cond.methodLink "CarpetHallsLaw" (66 : Nat) ({ cls := "CarpetHallsModel", name := "orders", desc := "()I" } : Jvm.MethodName)) ∈ th_tb := kg (kt_8 (List.mem_of_getElem? (i := 230) rfl)) rfl
theorem kw_1911 : (Jvm.Cond.instanceMethod ({ cls := "CarpetHallsModel", name := "orders", desc := "()I" } : Jvm.MethodName)) ∈ th_tb := kg (kt_8 (List.mem_of_getElem? (i := 231) rfl)) rfl
theorem kw_1912 : (Jvm.Cond.selects "CarpetHallsModel" ({ cls := "CarpetHallsModel", name := "orders", desc := "()I" } : Jvm.MethodName) ({ cls := "CarpetHallsModel", name := "orders", desc := "()I" } : Jvm.MethodName)) ∈ th_tb := kg (kt_8 (List.mem_of_getElem? (i := 232) rfl)) rfl
theorem kw_1913 : (Jvm.Cond.code ({ cls := "CarpetHallsModel", name := "orders", desc := "()I" } : Jvm.MethodName) prog_14_method_133_code (5 : Nat) (Option.some Jvm.ClassFile.FieldType.int)) ∈ th_tb := kg (kt_8 (List.mem_of_getElem? (i := 233) rfl)) rfl
theorem kw_1914 : (Jvm.Cond.methodLink "CarpetHallsModel" (477 : Nat) ({ cls := "CarpetHallsModel", name := "laysAside", desc := "(I)V" } : Jvm.MethodName)) ∈ th_tb := kg (kt_8 (List.mem_of_getElem? (i := 234) rfl)) rfl
theorem kw_1916 : (Jvm.Cond.instanceMethod ({ cls := "CarpetHallsModel", name := "laysAside", desc := "(I)V" } : Jvm.MethodName)) ∈ th_tb := kg (kt_8 (List.mem_of_getElem? (i := 236) rfl)) rfl
theorem kw_1917 : (Jvm.Cond.code ({ cls := "CarpetHallsModel", name := "laysAside", desc := "(I)V" } : Jvm.MethodName) prog_14_method_11_code (3 : Nat) (Option.none : Option Jvm.ClassFile.FieldType)) ∈ th_tb := kg (kt_8 (List.mem_of_getElem? (i := 237) rfl)) rfl
theorem kw_1918 : (Jvm.Cond.methodLink "CarpetHallsModel" (483 : Nat) ({ cls := "CarpetHallsModel", name := "runs", desc := "(I)Z" } : Jvm.MethodName)) ∈ th_tb := kg (kt_8 (List.mem_of_getElem? (i := 238) rfl)) rfl
end
section
theorem kw_1920 : (Jvm.Cond.instanceMethod ({ cls := "CarpetHallsModel", name := "runs", desc := "(I)Z" } : Jvm.MethodName)) ∈ th_tb := kg (kt_9 (List.mem_of_getElem? (i := 0) rfl)) rfl
theorem kw_1921 : (Jvm.Cond.code ({ cls := "CarpetHallsModel", name := "runs", desc := "(I)Z" } : Jvm.MethodName) prog_14_method_137_code (5 : Nat) (Option.some Jvm.ClassFile.FieldType.boolean)) ∈ th_tb := kg (kt_9 (List.mem_of_getElem? (i := 1) rfl)) rfl
theorem kw_1922 : (Jvm.Cond.methodLink "CarpetHallsModel" (507 : Nat) ({ cls := "CarpetHallsModel", name := "goesAlong", desc := "(IZ)V" } : Jvm.MethodName)) ∈ th_tb := kg (kt_9 (List.mem_of_getElem? (i := 2) rfl)) rfl
theorem kw_1924 : (Jvm.Cond.instanceMethod ({ cls := "CarpetHallsModel", name := "goesAlong", desc := "(IZ)V" } : Jvm.MethodName)) ∈ th_tb := kg (kt_9 (List.mem_of_getElem? (i := 4) rfl)) rfl
theorem kw_1925 : (Jvm.Cond.code ({ cls := "CarpetHallsModel", name := "goesAlong", desc := "(IZ)V" } : Jvm.MethodName) prog_14_method_134_code (5 : Nat) (Option.none : Option Jvm.ClassFile.FieldType)) ∈ th_tb := kg (kt_9 (List.mem_of_getElem? (i := 5) rfl)) rfl
theorem kw_1926 : (Jvm.Cond.methodLink "CarpetHallsModel" (511 : Nat) ({ cls := "CarpetHallsModel", name := "obeys", desc := "()I" } : Jvm.MethodName)) ∈ th_tb := kg (kt_9 (List.mem_of_getElem? (i := 6) rfl)) rfl
theorem kw_1928 : (Jvm.Cond.instanceMethod ({ cls := "CarpetHallsModel", name := "obeys", desc := "()I" } : Jvm.MethodName)) ∈ th_tb := kg (kt_9 (List.mem_of_getElem? (i := 8) rfl)) rfl
theorem kw_1929 : (Jvm.Cond.code ({ cls := "CarpetHallsModel", name := "obeys", desc := "()I" } : Jvm.MethodName) prog_14_method_136_code (2 : Nat) (Option.some Jvm.ClassFile.FieldType.int)) ∈ th_tb := kg (kt_9 (List.mem_of_getElem? (i := 9) rfl)) rfl
theorem kw_1930 : (Jvm.Cond.methodLink "CarpetHallsModel" (503 : Nat) ({ cls := "CarpetHallsModel", name := "small", desc := "(J)I" } : Jvm.MethodName)) ∈ th_tb := kg (kt_9 (List.mem_of_getElem? (i := 10) rfl)) rfl
theorem kw_1931 : (Jvm.Cond.static ({ cls := "CarpetHallsModel", name := "small", desc := "(J)I" } : Jvm.MethodName)) ∈ th_tb := kg (kt_9 (List.mem_of_getElem? (i := 11) rfl)) rfl
theorem kw_1932 : (Jvm.Cond.code ({ cls := "CarpetHallsModel", name := "small", desc := "(J)I" } : Jvm.MethodName) prog_14_method_135_code (2 : Nat) (Option.some Jvm.ClassFile.FieldType.int)) ∈ th_tb := kg (kt_9 (List.mem_of_getElem? (i := 12) rfl)) rfl
theorem kw_1933 : (Jvm.Cond.constantLong "CarpetHallsModel" (501 : Nat) (1000000 : Int64)) ∈ th_tb := kg (kt_9 (List.mem_of_getElem? (i := 13) rfl)) rfl
theorem kw_1934 : (Jvm.Cond.methodLink "CarpetHallsModel" (486 : Nat) ({ cls := "CarpetHallsModel", name := "takesBack", desc := "(I)V" } : Jvm.MethodName)) ∈ th_tb := kg (kt_9 (List.mem_of_getElem? (i := 14) rfl)) rfl
theorem kw_1936 : (Jvm.Cond.instanceMethod ({ cls := "CarpetHallsModel", name := "takesBack", desc := "(I)V" } : Jvm.MethodName)) ∈ th_tb := kg (kt_9 (List.mem_of_getElem? (i := 16) rfl)) rfl
theorem kw_1937 : (Jvm.Cond.code ({ cls := "CarpetHallsModel", name := "takesBack", desc := "(I)V" } : Jvm.MethodName) prog_14_method_12_code (3 : Nat) (Option.none : Option Jvm.ClassFile.FieldType)) ∈ th_tb := kg (kt_9 (List.mem_of_getElem? (i := 17) rfl)) rfl
theorem kw_1938 : (Jvm.Cond.methodLink "CarpetHallsLaw" (171 : Nat) ({ cls := "CarpetHallsModel", name := "years", desc := "(II)I" } : Jvm.MethodName)) ∈ th_tb := kg (kt_9 (List.mem_of_getElem? (i := 18) rfl)) rfl
theorem kw_1939 : (Jvm.Cond.instanceMethod ({ cls := "CarpetHallsModel", name := "years", desc := "(II)I" } : Jvm.MethodName)) ∈ th_tb := kg (kt_9 (List.mem_of_getElem? (i := 19) rfl)) rfl
theorem kw_1940 : (Jvm.Cond.selects "CarpetHallsModel" ({ cls := "CarpetHallsModel", name := "years", desc := "(II)I" } : Jvm.MethodName) ({ cls := "CarpetHallsModel", name := "years", desc := "(II)I" } : Jvm.MethodName)) ∈ th_tb := kg (kt_9 (List.mem_of_getElem? (i := 20) rfl)) rfl
theorem kw_1941 : (Jvm.Cond.code ({ cls := "CarpetHallsModel", name := "years", desc := "(II)I" } : Jvm.MethodName) prog_14_method_139_code (8 : Nat) (Option.some Jvm.ClassFile.FieldType.int)) ∈ th_tb := kg (kt_9 (List.mem_of_getElem? (i := 21) rfl)) rfl
theorem kw_1942 : (Jvm.Cond.methodLink "CarpetHallsModel" (523 : Nat) ({ cls := "CarpetHallsModel", name := "draws", desc := "(I)I" } : Jvm.MethodName)) ∈ th_tb := kg (kt_9 (List.mem_of_getElem? (i := 22) rfl)) rfl
theorem kw_1944 : (Jvm.Cond.instanceMethod ({ cls := "CarpetHallsModel", name := "draws", desc := "(I)I" } : Jvm.MethodName)) ∈ th_tb := kg (kt_9 (List.mem_of_getElem? (i := 24) rfl)) rfl
theorem kw_1945 : (Jvm.Cond.code ({ cls := "CarpetHallsModel", name := "draws", desc := "(I)I" } : Jvm.MethodName) prog_14_method_138_code (2 : Nat) (Option.some Jvm.ClassFile.FieldType.int)) ∈ th_tb := kg (kt_9 (List.mem_of_getElem? (i := 25) rfl)) rfl
theorem kw_1946 : (Jvm.Cond.constantLong "CarpetHallsModel" (514 : Nat) (1103 : Int64)) ∈ th_tb := kg (kt_9 (List.mem_of_getElem? (i := 26) rfl)) rfl
theorem kw_1947 : (Jvm.Cond.constantLong "CarpetHallsModel" (519 : Nat) (12345 : Int64)) ∈ th_tb := kg (kt_9 (List.mem_of_getElem? (i := 27) rfl)) rfl
theorem kw_1948 : (Jvm.Cond.constantLong "CarpetHallsModel" (521 : Nat) (1000003 : Int64)) ∈ th_tb := kg (kt_9 (List.mem_of_getElem? (i := 28) rfl)) rfl
theorem kw_1949 : (Jvm.Cond.methodLink "CarpetHallsLaw" (175 : Nat) ({ cls := "CarpetHallsModel", name := "drawn", desc := "(II)I" } : Jvm.MethodName)) ∈ th_tb := kg (kt_9 (List.mem_of_getElem? (i := 29) rfl)) rfl
theorem kw_1950 : (Jvm.Cond.instanceMethod ({ cls := "CarpetHallsModel", name := "drawn", desc := "(II)I" } : Jvm.MethodName)) ∈ th_tb := kg (kt_9 (List.mem_of_getElem? (i := 30) rfl)) rfl
theorem kw_1951 : (Jvm.Cond.selects "CarpetHallsModel" ({ cls := "CarpetHallsModel", name := "drawn", desc := "(II)I" } : Jvm.MethodName) ({ cls := "CarpetHallsModel", name := "drawn", desc := "(II)I" } : Jvm.MethodName)) ∈ th_tb := kg (kt_9 (List.mem_of_getElem? (i := 31) rfl)) rfl
theorem kw_1952 : (Jvm.Cond.code ({ cls := "CarpetHallsModel", name := "drawn", desc := "(II)I" } : Jvm.MethodName) prog_14_method_140_code (3 : Nat) (Option.some Jvm.ClassFile.FieldType.int)) ∈ th_tb := kg (kt_9 (List.mem_of_getElem? (i := 32) rfl)) rfl
theorem kw_1953 : (Jvm.Cond.methodLink "CarpetHallsLaw" (187 : Nat) ({ cls := "CarpetHallsModel", name := "count", desc := "(I)I" } : Jvm.MethodName)) ∈ th_tb := kg (kt_9 (List.mem_of_getElem? (i := 33) rfl)) rfl
theorem kw_1954 : (Jvm.Cond.instanceMethod ({ cls := "CarpetHallsModel", name := "count", desc := "(I)I" } : Jvm.MethodName)) ∈ th_tb := kg (kt_9 (List.mem_of_getElem? (i := 34) rfl)) rfl
theorem kw_1955 : (Jvm.Cond.selects "CarpetHallsModel" ({ cls := "CarpetHallsModel", name := "count", desc := "(I)I" } : Jvm.MethodName) ({ cls := "CarpetHallsModel", name := "count", desc := "(I)I" } : Jvm.MethodName)) ∈ th_tb := kg (kt_9 (List.mem_of_getElem? (i := 35) rfl)) rfl
theorem kw_1956 : (Jvm.Cond.code ({ cls := "CarpetHallsModel", name := "count", desc := "(I)I" } : Jvm.MethodName) prog_14_method_142_code (2 : Nat) (Option.some Jvm.ClassFile.FieldType.int)) ∈ th_tb := kg (kt_9 (List.mem_of_getElem? (i := 36) rfl)) rfl
theorem kw_1957 : (Jvm.Cond.methodLink "CarpetHallsModel" (526 : Nat) ({ cls := "CarpetHallsModel", name := "ragMany", desc := "()I" } : Jvm.MethodName)) ∈ th_tb := kg (kt_9 (List.mem_of_getElem? (i := 37) rfl)) rfl
theorem kw_1959 : (Jvm.Cond.instanceMethod ({ cls := "CarpetHallsModel", name := "ragMany", desc := "()I" } : Jvm.MethodName)) ∈ th_tb := kg (kt_9 (List.mem_of_getElem? (i := 39) rfl)) rfl
theorem kw_1960 : (Jvm.Cond.code ({ cls := "CarpetHallsModel", name := "ragMany", desc := "()I" } : Jvm.MethodName) prog_14_method_141_code (3 : Nat) (Option.some Jvm.ClassFile.FieldType.int)) ∈ th_tb := kg (kt_9 (List.mem_of_getElem? (i := 40) rfl)) rfl
theorem kw_1961 : (Jvm.Cond.methodLink "CarpetHallsLaw" (191 : Nat) ({ cls := "CarpetHallsModel", name := "status", desc := "()I" } : Jvm.MethodName)) ∈ th_tb := kg (kt_9 (List.mem_of_getElem? (i := 41) rfl)) rfl
theorem kw_1962 : (Jvm.Cond.instanceMethod ({ cls := "CarpetHallsModel", name := "status", desc := "()I" } : Jvm.MethodName)) ∈ th_tb := kg (kt_9 (List.mem_of_getElem? (i := 42) rfl)) rfl
theorem kw_1963 : (Jvm.Cond.selects "CarpetHallsModel" ({ cls := "CarpetHallsModel", name := "status", desc := "()I" } : Jvm.MethodName) ({ cls := "CarpetHallsModel", name := "status", desc := "()I" } : Jvm.MethodName)) ∈ th_tb := kg (kt_9 (List.mem_of_getElem? (i := 43) rfl)) rfl
theorem kw_1964 : (Jvm.Cond.code ({ cls := "CarpetHallsModel", name := "status", desc := "()I" } : Jvm.MethodName) prog_14_method_143_code (1 : Nat) (Option.some Jvm.ClassFile.FieldType.int)) ∈ th_tb := kg (kt_9 (List.mem_of_getElem? (i := 44) rfl)) rfl
theorem kw_1965 : (Jvm.Cond.fieldLink "java/lang/String" (9 : Nat) "java/lang/String" "value" "[B") ∈ th_tb := kg (kt_9 (List.mem_of_getElem? (i := 45) rfl)) rfl
theorem kw_1966 : (Jvm.Cond.fieldLink "java/lang/String" (15 : Nat) "java/lang/String" "coder" "B") ∈ th_tb := kg (kt_9 (List.mem_of_getElem? (i := 46) rfl)) rfl
end
section
theorem kp_0 : Cond.selects (⟨"CarpetHalls", "answer", "(I)I"⟩ : MethodName).cls ⟨"CarpetHalls", "answer", "(I)I"⟩ ⟨"CarpetHalls", "answer", "(I)I"⟩ ∈ th_tb := kg (List.mem_append_left _ (List.mem_of_getElem? (i := 0) (by decide +kernel))) rfl
theorem kp_1 : Cond.selects (⟨"CarpetHalls$Judge", "holds", "(LCarpetHalls$Text;I)Z"⟩ : MethodName).cls ⟨"CarpetHalls$Judge", "holds", "(LCarpetHalls$Text;I)Z"⟩ ⟨"CarpetHalls$Judge", "holds", "(LCarpetHalls$Text;I)Z"⟩ ∈ th_tb := kg (List.mem_append_left _ (List.mem_of_getElem? (i := 1) (by decide +kernel))) rfl
theorem kp_2 : Cond.selects (⟨"CarpetHalls$Reckoner", "reckon", "(LCarpetHalls$Text;II)J"⟩ : MethodName).cls ⟨"CarpetHalls$Reckoner", "reckon", "(LCarpetHalls$Text;II)J"⟩ ⟨"CarpetHalls$Reckoner", "reckon", "(LCarpetHalls$Text;II)J"⟩ ∈ th_tb := kg (List.mem_append_left _ (List.mem_of_getElem? (i := 2) (by decide +kernel))) rfl
theorem kp_3 : Cond.selects (⟨"CarpetHalls", "canLie", "(LCarpetHalls$Floor;III)Z"⟩ : MethodName).cls ⟨"CarpetHalls", "canLie", "(LCarpetHalls$Floor;III)Z"⟩ ⟨"CarpetHalls", "canLie", "(LCarpetHalls$Floor;III)Z"⟩ ∈ th_tb := kg (List.mem_append_left _ (List.mem_of_getElem? (i := 3) (by decide +kernel))) rfl
theorem kp_4 : Cond.selects (⟨"CarpetHalls$Reader", "scan", "()V"⟩ : MethodName).cls ⟨"CarpetHalls$Reader", "scan", "()V"⟩ ⟨"CarpetHalls$Reader", "scan", "()V"⟩ ∈ th_tb := kg (List.mem_append_left _ (List.mem_of_getElem? (i := 4) (by decide +kernel))) rfl
theorem kp_5 : Cond.selects (⟨"CarpetHalls$Reader", "endOfLetters", "(I)I"⟩ : MethodName).cls ⟨"CarpetHalls$Reader", "endOfLetters", "(I)I"⟩ ⟨"CarpetHalls$Reader", "endOfLetters", "(I)I"⟩ ∈ th_tb := kg (List.mem_append_left _ (List.mem_of_getElem? (i := 5) (by decide +kernel))) rfl
theorem kp_6 : Cond.selects (⟨"CarpetHalls$Reader", "wordFrom", "(II)I"⟩ : MethodName).cls ⟨"CarpetHalls$Reader", "wordFrom", "(II)I"⟩ ⟨"CarpetHalls$Reader", "wordFrom", "(II)I"⟩ ∈ th_tb := kg (List.mem_append_left _ (List.mem_of_getElem? (i := 6) (by decide +kernel))) rfl
theorem kp_7 : Cond.selects (⟨"CarpetHalls$Reader", "is", "(Ljava/lang/String;II)Z"⟩ : MethodName).cls ⟨"CarpetHalls$Reader", "is", "(Ljava/lang/String;II)Z"⟩ ⟨"CarpetHalls$Reader", "is", "(Ljava/lang/String;II)Z"⟩ ∈ th_tb := kg (List.mem_append_left _ (List.mem_of_getElem? (i := 7) (by decide +kernel))) rfl
theorem kp_8 : Cond.selects (⟨"CarpetHalls$Reader", "endOfDigits", "(I)I"⟩ : MethodName).cls ⟨"CarpetHalls$Reader", "endOfDigits", "(I)I"⟩ ⟨"CarpetHalls$Reader", "endOfDigits", "(I)I"⟩ ∈ th_tb := kg (List.mem_append_left _ (List.mem_of_getElem? (i := 8) (by decide +kernel))) rfl
theorem kp_9 : Cond.selects (⟨"CarpetHalls$Reader", "valueFrom", "(II)I"⟩ : MethodName).cls ⟨"CarpetHalls$Reader", "valueFrom", "(II)I"⟩ ⟨"CarpetHalls$Reader", "valueFrom", "(II)I"⟩ ∈ th_tb := kg (List.mem_append_left _ (List.mem_of_getElem? (i := 9) (by decide +kernel))) rfl
theorem kp_10 : Cond.selects (⟨"CarpetHalls$Reader", "readClause", "()V"⟩ : MethodName).cls ⟨"CarpetHalls$Reader", "readClause", "()V"⟩ ⟨"CarpetHalls$Reader", "readClause", "()V"⟩ ∈ th_tb := kg (List.mem_append_left _ (List.mem_of_getElem? (i := 10) (by decide +kernel))) rfl
theorem kp_11 : Cond.selects (⟨"CarpetHalls$Reader", "fail", "()V"⟩ : MethodName).cls ⟨"CarpetHalls$Reader", "fail", "()V"⟩ ⟨"CarpetHalls$Reader", "fail", "()V"⟩ ∈ th_tb := kg (List.mem_append_left _ (List.mem_of_getElem? (i := 11) (by decide +kernel))) rfl
theorem kp_12 : Cond.selects (⟨"CarpetHalls$Reader", "readSums", "(I)V"⟩ : MethodName).cls ⟨"CarpetHalls$Reader", "readSums", "(I)V"⟩ ⟨"CarpetHalls$Reader", "readSums", "(I)V"⟩ ∈ th_tb := kg (List.mem_append_left _ (List.mem_of_getElem? (i := 12) (by decide +kernel))) rfl
theorem kp_13 : Cond.selects (⟨"CarpetHalls$Reader", "take", "(I)Z"⟩ : MethodName).cls ⟨"CarpetHalls$Reader", "take", "(I)Z"⟩ ⟨"CarpetHalls$Reader", "take", "(I)Z"⟩ ∈ th_tb := kg (List.mem_append_left _ (List.mem_of_getElem? (i := 13) (by decide +kernel))) rfl
theorem kp_14 : Cond.selects (⟨"CarpetHalls$Reader", "readSum", "()V"⟩ : MethodName).cls ⟨"CarpetHalls$Reader", "readSum", "()V"⟩ ⟨"CarpetHalls$Reader", "readSum", "()V"⟩ ∈ th_tb := kg (List.mem_append_left _ (List.mem_of_getElem? (i := 14) (by decide +kernel))) rfl
theorem kp_15 : Cond.selects (⟨"CarpetHalls$Reader", "readPart", "()V"⟩ : MethodName).cls ⟨"CarpetHalls$Reader", "readPart", "()V"⟩ ⟨"CarpetHalls$Reader", "readPart", "()V"⟩ ∈ th_tb := kg (List.mem_append_left _ (List.mem_of_getElem? (i := 15) (by decide +kernel))) rfl
theorem kp_16 : Cond.selects (⟨"CarpetHalls$Reader", "seenToken", "()I"⟩ : MethodName).cls ⟨"CarpetHalls$Reader", "seenToken", "()I"⟩ ⟨"CarpetHalls$Reader", "seenToken", "()I"⟩ ∈ th_tb := kg (List.mem_append_left _ (List.mem_of_getElem? (i := 16) (by decide +kernel))) rfl
theorem kp_17 : Cond.selects (⟨"CarpetHalls$Reader", "openBracket", "()Z"⟩ : MethodName).cls ⟨"CarpetHalls$Reader", "openBracket", "()Z"⟩ ⟨"CarpetHalls$Reader", "openBracket", "()Z"⟩ ∈ th_tb := kg (List.mem_append_left _ (List.mem_of_getElem? (i := 17) (by decide +kernel))) rfl
theorem kp_18 : Cond.selects (⟨"CarpetHalls$Reader", "takeNumber", "(II)I"⟩ : MethodName).cls ⟨"CarpetHalls$Reader", "takeNumber", "(II)I"⟩ ⟨"CarpetHalls$Reader", "takeNumber", "(II)I"⟩ ∈ th_tb := kg (List.mem_append_left _ (List.mem_of_getElem? (i := 18) (by decide +kernel))) rfl
theorem kp_19 : Cond.selects (⟨"CarpetHalls$Reader", "readTest", "()V"⟩ : MethodName).cls ⟨"CarpetHalls$Reader", "readTest", "()V"⟩ ⟨"CarpetHalls$Reader", "readTest", "()V"⟩ ∈ th_tb := kg (List.mem_append_left _ (List.mem_of_getElem? (i := 19) (by decide +kernel))) rfl
theorem kp_20 : Cond.selects (⟨"CarpetHalls$Reader", "readPlain", "()V"⟩ : MethodName).cls ⟨"CarpetHalls$Reader", "readPlain", "()V"⟩ ⟨"CarpetHalls$Reader", "readPlain", "()V"⟩ ∈ th_tb := kg (List.mem_append_left _ (List.mem_of_getElem? (i := 20) (by decide +kernel))) rfl
theorem kp_21 : Cond.selects (⟨"CarpetHalls", "runOnce", "(I)Z"⟩ : MethodName).cls ⟨"CarpetHalls", "runOnce", "(I)Z"⟩ ⟨"CarpetHalls", "runOnce", "(I)Z"⟩ ∈ th_tb := kg (List.mem_append_left _ (List.mem_of_getElem? (i := 21) (by decide +kernel))) rfl
theorem kp_22 : Cond.selects (⟨"CarpetHalls", "doLay", "(III)I"⟩ : MethodName).cls ⟨"CarpetHalls", "doLay", "(III)I"⟩ ⟨"CarpetHalls", "doLay", "(III)I"⟩ ∈ th_tb := kg (List.mem_append_left _ (List.mem_of_getElem? (i := 22) (by decide +kernel))) rfl
theorem kp_23 : Cond.selects (⟨"CarpetHalls", "doRoll", "(I)I"⟩ : MethodName).cls ⟨"CarpetHalls", "doRoll", "(I)I"⟩ ⟨"CarpetHalls", "doRoll", "(I)I"⟩ ∈ th_tb := kg (List.mem_append_left _ (List.mem_of_getElem? (i := 23) (by decide +kernel))) rfl
theorem kp_24 : Cond.selects (⟨"CarpetHalls", "doMirror", "()I"⟩ : MethodName).cls ⟨"CarpetHalls", "doMirror", "()I"⟩ ⟨"CarpetHalls", "doMirror", "()I"⟩ ∈ th_tb := kg (List.mem_append_left _ (List.mem_of_getElem? (i := 24) (by decide +kernel))) rfl
theorem kp_25 : Cond.selects (⟨"CarpetHalls", "doPass", "()I"⟩ : MethodName).cls ⟨"CarpetHalls", "doPass", "()I"⟩ ⟨"CarpetHalls", "doPass", "()I"⟩ ∈ th_tb := kg (List.mem_append_left _ (List.mem_of_getElem? (i := 25) (by decide +kernel))) rfl
theorem kp_26 : Cond.selects (⟨"CarpetHalls$Search", "begin", "(ZI)V"⟩ : MethodName).cls ⟨"CarpetHalls$Search", "begin", "(ZI)V"⟩ ⟨"CarpetHalls$Search", "begin", "(ZI)V"⟩ ∈ th_tb := kg (List.mem_append_left _ (List.mem_of_getElem? (i := 26) (by decide +kernel))) rfl
theorem kp_27 : Cond.selects (⟨"CarpetHalls$Search", "areaReady", "()I"⟩ : MethodName).cls ⟨"CarpetHalls$Search", "areaReady", "()I"⟩ ⟨"CarpetHalls$Search", "areaReady", "()I"⟩ ∈ th_tb := kg (List.mem_append_left _ (List.mem_of_getElem? (i := 27) (by decide +kernel))) rfl
theorem kp_28 : Cond.selects (⟨"CarpetHalls$Search", "solve", "(JIII)I"⟩ : MethodName).cls ⟨"CarpetHalls$Search", "solve", "(JIII)I"⟩ ⟨"CarpetHalls$Search", "solve", "(JIII)I"⟩ ∈ th_tb := kg (List.mem_append_left _ (List.mem_of_getElem? (i := 28) (by decide +kernel))) rfl
theorem kp_29 : Cond.selects (⟨"CarpetHalls$Memo", "slotFor", "(J)I"⟩ : MethodName).cls ⟨"CarpetHalls$Memo", "slotFor", "(J)I"⟩ ⟨"CarpetHalls$Memo", "slotFor", "(J)I"⟩ ∈ th_tb := kg (List.mem_append_left _ (List.mem_of_getElem? (i := 29) (by decide +kernel))) rfl
theorem kp_30 : Cond.selects (⟨"CarpetHalls$Search", "firstBare", "(JI)I"⟩ : MethodName).cls ⟨"CarpetHalls$Search", "firstBare", "(JI)I"⟩ ⟨"CarpetHalls$Search", "firstBare", "(JI)I"⟩ ∈ th_tb := kg (List.mem_append_left _ (List.mem_of_getElem? (i := 30) (by decide +kernel))) rfl
theorem kp_31 : Cond.selects (⟨"CarpetHalls$Search", "isBare", "(JI)Z"⟩ : MethodName).cls ⟨"CarpetHalls$Search", "isBare", "(JI)Z"⟩ ⟨"CarpetHalls$Search", "isBare", "(JI)Z"⟩ ∈ th_tb := kg (List.mem_append_left _ (List.mem_of_getElem? (i := 31) (by decide +kernel))) rfl
theorem kp_32 : Cond.selects (⟨"CarpetHalls$Search", "fits", "(JII)Z"⟩ : MethodName).cls ⟨"CarpetHalls$Search", "fits", "(JII)Z"⟩ ⟨"CarpetHalls$Search", "fits", "(JII)Z"⟩ ∈ th_tb := kg (List.mem_append_left _ (List.mem_of_getElem? (i := 32) (by decide +kernel))) rfl
theorem kp_33 : Cond.selects (⟨"CarpetHalls$Search", "agreesWithSeen", "(III)Z"⟩ : MethodName).cls ⟨"CarpetHalls$Search", "agreesWithSeen", "(III)Z"⟩ ⟨"CarpetHalls$Search", "agreesWithSeen", "(III)Z"⟩ ∈ th_tb := kg (List.mem_append_left _ (List.mem_of_getElem? (i := 33) (by decide +kernel))) rfl
theorem kp_34 : Cond.selects (⟨"CarpetHalls$Search", "priceAt", "(II)I"⟩ : MethodName).cls ⟨"CarpetHalls$Search", "priceAt", "(II)I"⟩ ⟨"CarpetHalls$Search", "priceAt", "(II)I"⟩ ∈ th_tb := kg (List.mem_append_left _ (List.mem_of_getElem? (i := 34) (by decide +kernel))) rfl
theorem kp_35 : Cond.selects (⟨"CarpetHalls$Search", "keyWith", "(JII)J"⟩ : MethodName).cls ⟨"CarpetHalls$Search", "keyWith", "(JII)J"⟩ ⟨"CarpetHalls$Search", "keyWith", "(JII)J"⟩ ∈ th_tb := kg (List.mem_append_left _ (List.mem_of_getElem? (i := 35) (by decide +kernel))) rfl
theorem kp_36 : Cond.selects (⟨"CarpetHalls$Memo", "grow", "()V"⟩ : MethodName).cls ⟨"CarpetHalls$Memo", "grow", "()V"⟩ ⟨"CarpetHalls$Memo", "grow", "()V"⟩ ∈ th_tb := kg (List.mem_append_left _ (List.mem_of_getElem? (i := 36) (by decide +kernel))) rfl
theorem kp_37 : Cond.selects (⟨"CarpetHalls$Memo", "put", "(JII)V"⟩ : MethodName).cls ⟨"CarpetHalls$Memo", "put", "(JII)V"⟩ ⟨"CarpetHalls$Memo", "put", "(JII)V"⟩ ∈ th_tb := kg (List.mem_append_left _ (List.mem_of_getElem? (i := 37) (by decide +kernel))) rfl
theorem kp_38 : Cond.selects (⟨"CarpetHalls$Floor", "isInnerHall", "(I)Z"⟩ : MethodName).cls ⟨"CarpetHalls$Floor", "isInnerHall", "(I)Z"⟩ ⟨"CarpetHalls$Floor", "isInnerHall", "(I)Z"⟩ ∈ th_tb := kg (List.mem_append_left _ (List.mem_of_getElem? (i := 38) (by decide +kernel))) rfl
theorem kp_39 : Cond.selects (⟨"CarpetHalls$Floor", "threeMoreMeetAt", "(II)Z"⟩ : MethodName).cls ⟨"CarpetHalls$Floor", "threeMoreMeetAt", "(II)Z"⟩ ⟨"CarpetHalls$Floor", "threeMoreMeetAt", "(II)Z"⟩ ∈ th_tb := kg (List.mem_append_left _ (List.mem_of_getElem? (i := 39) (by decide +kernel))) rfl
theorem kp_40 : Cond.selects (⟨"CarpetHalls$Search", "tallyRow", "(JIII)I"⟩ : MethodName).cls ⟨"CarpetHalls$Search", "tallyRow", "(JIII)I"⟩ ⟨"CarpetHalls$Search", "tallyRow", "(JIII)I"⟩ ∈ th_tb := kg (List.mem_append_left _ (List.mem_of_getElem? (i := 40) (by decide +kernel))) rfl
theorem kp_41 : Cond.selects (⟨"CarpetHalls$Search", "addToTally", "(III)V"⟩ : MethodName).cls ⟨"CarpetHalls$Search", "addToTally", "(III)V"⟩ ⟨"CarpetHalls$Search", "addToTally", "(III)V"⟩ ∈ th_tb := kg (List.mem_append_left _ (List.mem_of_getElem? (i := 41) (by decide +kernel))) rfl
theorem kp_42 : Cond.selects (⟨"CarpetHalls$Search", "tallyKey", "(JI)V"⟩ : MethodName).cls ⟨"CarpetHalls$Search", "tallyKey", "(JI)V"⟩ ⟨"CarpetHalls$Search", "tallyKey", "(JI)V"⟩ ∈ th_tb := kg (List.mem_append_left _ (List.mem_of_getElem? (i := 42) (by decide +kernel))) rfl
theorem kp_43 : Cond.selects (⟨"CarpetHalls$Chance", "setStart", "(I)V"⟩ : MethodName).cls ⟨"CarpetHalls$Chance", "setStart", "(I)V"⟩ ⟨"CarpetHalls$Chance", "setStart", "(I)V"⟩ ∈ th_tb := kg (List.mem_append_left _ (List.mem_of_getElem? (i := 43) (by decide +kernel))) rfl
theorem kp_44 : Cond.selects (⟨"CarpetHalls$Chance", "addOneMore", "(II)V"⟩ : MethodName).cls ⟨"CarpetHalls$Chance", "addOneMore", "(II)V"⟩ ⟨"CarpetHalls$Chance", "addOneMore", "(II)V"⟩ ∈ th_tb := kg (List.mem_append_left _ (List.mem_of_getElem? (i := 44) (by decide +kernel))) rfl
theorem kp_45 : Cond.selects (⟨"CarpetHalls", "drawYear", "(I)I"⟩ : MethodName).cls ⟨"CarpetHalls", "drawYear", "(I)I"⟩ ⟨"CarpetHalls", "drawYear", "(I)I"⟩ ∈ th_tb := kg (List.mem_append_left _ (List.mem_of_getElem? (i := 45) (by decide +kernel))) rfl
theorem kp_46 : Cond.selects (⟨"CarpetHallsModel", "refuses", "(I)I"⟩ : MethodName).cls ⟨"CarpetHallsModel", "refuses", "(I)I"⟩ ⟨"CarpetHallsModel", "refuses", "(I)I"⟩ ∈ th_tb := kg (List.mem_append_left _ (List.mem_of_getElem? (i := 46) (by decide +kernel))) rfl
theorem kp_47 : Cond.selects (⟨"CarpetHallsModel", "good", "(I)I"⟩ : MethodName).cls ⟨"CarpetHallsModel", "good", "(I)I"⟩ ⟨"CarpetHallsModel", "good", "(I)I"⟩ ∈ th_tb := kg (List.mem_append_left _ (List.mem_of_getElem? (i := 47) (by decide +kernel))) rfl
theorem kp_48 : Cond.selects (⟨"CarpetHallsModel", "settled", "(I)I"⟩ : MethodName).cls ⟨"CarpetHallsModel", "settled", "(I)I"⟩ ⟨"CarpetHallsModel", "settled", "(I)I"⟩ ∈ th_tb := kg (List.mem_append_left _ (List.mem_of_getElem? (i := 48) (by decide +kernel))) rfl
theorem kp_49 : Cond.selects (⟨"CarpetHallsModel", "many", "()I"⟩ : MethodName).cls ⟨"CarpetHallsModel", "many", "()I"⟩ ⟨"CarpetHallsModel", "many", "()I"⟩ ∈ th_tb := kg (List.mem_append_left _ (List.mem_of_getElem? (i := 49) (by decide +kernel))) rfl
theorem kp_50 : Cond.selects (⟨"CarpetHallsModel", "adds", "(III)V"⟩ : MethodName).cls ⟨"CarpetHallsModel", "adds", "(III)V"⟩ ⟨"CarpetHallsModel", "adds", "(III)V"⟩ ∈ th_tb := kg (List.mem_append_left _ (List.mem_of_getElem? (i := 50) (by decide +kernel))) rfl
theorem kp_51 : Cond.selects (⟨"CarpetHallsModel", "rolls", "(I)V"⟩ : MethodName).cls ⟨"CarpetHallsModel", "rolls", "(I)V"⟩ ⟨"CarpetHallsModel", "rolls", "(I)V"⟩ ∈ th_tb := kg (List.mem_append_left _ (List.mem_of_getElem? (i := 51) (by decide +kernel))) rfl
theorem kp_52 : Cond.selects (⟨"CarpetHallsModel", "isCarpet", "(I)Z"⟩ : MethodName).cls ⟨"CarpetHallsModel", "isCarpet", "(I)Z"⟩ ⟨"CarpetHallsModel", "isCarpet", "(I)Z"⟩ ∈ th_tb := kg (List.mem_append_left _ (List.mem_of_getElem? (i := 52) (by decide +kernel))) rfl
theorem kp_53 : Cond.selects (⟨"CarpetHallsModel", "isLaid", "(I)Z"⟩ : MethodName).cls ⟨"CarpetHallsModel", "isLaid", "(I)Z"⟩ ⟨"CarpetHallsModel", "isLaid", "(I)Z"⟩ ∈ th_tb := kg (List.mem_append_left _ (List.mem_of_getElem? (i := 53) (by decide +kernel))) rfl
theorem kp_54 : Cond.selects (⟨"CarpetHallsModel", "wearsNow", "(I)I"⟩ : MethodName).cls ⟨"CarpetHallsModel", "wearsNow", "(I)I"⟩ ⟨"CarpetHallsModel", "wearsNow", "(I)I"⟩ ∈ th_tb := kg (List.mem_append_left _ (List.mem_of_getElem? (i := 54) (by decide +kernel))) rfl
theorem kp_55 : Cond.selects (⟨"CarpetHallsModel", "tells", "(IIIIII)I"⟩ : MethodName).cls ⟨"CarpetHallsModel", "tells", "(IIIIII)I"⟩ ⟨"CarpetHallsModel", "tells", "(IIIIII)I"⟩ ∈ th_tb := kg (List.mem_append_left _ (List.mem_of_getElem? (i := 55) (by decide +kernel))) rfl
theorem kp_56 : Cond.selects (⟨"CarpetHallsModel", "setsAsked", "(III)V"⟩ : MethodName).cls ⟨"CarpetHallsModel", "setsAsked", "(III)V"⟩ ⟨"CarpetHallsModel", "setsAsked", "(III)V"⟩ ∈ th_tb := kg (List.mem_append_left _ (List.mem_of_getElem? (i := 56) (by decide +kernel))) rfl
theorem kp_57 : Cond.selects (⟨"CarpetHallsModel", "codeAt", "(I)I"⟩ : MethodName).cls ⟨"CarpetHallsModel", "codeAt", "(I)I"⟩ ⟨"CarpetHallsModel", "codeAt", "(I)I"⟩ ∈ th_tb := kg (List.mem_append_left _ (List.mem_of_getElem? (i := 57) (by decide +kernel))) rfl
theorem kp_58 : Cond.selects (⟨"CarpetHallsModel", "sumOf", "(Z)J"⟩ : MethodName).cls ⟨"CarpetHallsModel", "sumOf", "(Z)J"⟩ ⟨"CarpetHallsModel", "sumOf", "(Z)J"⟩ ∈ th_tb := kg (List.mem_append_left _ (List.mem_of_getElem? (i := 58) (by decide +kernel))) rfl
theorem kp_59 : Cond.selects (⟨"CarpetHallsModel", "termOf", "(Z)J"⟩ : MethodName).cls ⟨"CarpetHallsModel", "termOf", "(Z)J"⟩ ⟨"CarpetHallsModel", "termOf", "(Z)J"⟩ ∈ th_tb := kg (List.mem_append_left _ (List.mem_of_getElem? (i := 59) (by decide +kernel))) rfl
theorem kp_60 : Cond.selects (⟨"CarpetHallsModel", "partOf", "(Z)J"⟩ : MethodName).cls ⟨"CarpetHallsModel", "partOf", "(Z)J"⟩ ⟨"CarpetHallsModel", "partOf", "(Z)J"⟩ ∈ th_tb := kg (List.mem_append_left _ (List.mem_of_getElem? (i := 60) (by decide +kernel))) rfl
theorem kp_61 : Cond.selects (⟨"CarpetHallsModel", "passes0", "(I)Z"⟩ : MethodName).cls ⟨"CarpetHallsModel", "passes0", "(I)Z"⟩ ⟨"CarpetHallsModel", "passes0", "(I)Z"⟩ ∈ th_tb := kg (List.mem_append_left _ (List.mem_of_getElem? (i := 61) (by decide +kernel))) rfl
theorem kp_62 : Cond.selects (⟨"CarpetHallsModel", "orderValue", "(II)I"⟩ : MethodName).cls ⟨"CarpetHallsModel", "orderValue", "(II)I"⟩ ⟨"CarpetHallsModel", "orderValue", "(II)I"⟩ ∈ th_tb := kg (List.mem_append_left _ (List.mem_of_getElem? (i := 62) (by decide +kernel))) rfl
theorem kp_63 : Cond.selects (⟨"CarpetHallsModel", "bareMany", "()I"⟩ : MethodName).cls ⟨"CarpetHallsModel", "bareMany", "()I"⟩ ⟨"CarpetHallsModel", "bareMany", "()I"⟩ ∈ th_tb := kg (List.mem_append_left _ (List.mem_of_getElem? (i := 63) (by decide +kernel))) rfl
theorem kp_64 : Cond.selects (⟨"CarpetHallsModel", "bounded", "(JZ)J"⟩ : MethodName).cls ⟨"CarpetHallsModel", "bounded", "(JZ)J"⟩ ⟨"CarpetHallsModel", "bounded", "(JZ)J"⟩ ∈ th_tb := kg (List.mem_append_left _ (List.mem_of_getElem? (i := 64) (by decide +kernel))) rfl
theorem kp_65 : Cond.selects (⟨"CarpetHallsModel", "testOf", "(Z)Z"⟩ : MethodName).cls ⟨"CarpetHallsModel", "testOf", "(Z)Z"⟩ ⟨"CarpetHallsModel", "testOf", "(Z)Z"⟩ ∈ th_tb := kg (List.mem_append_left _ (List.mem_of_getElem? (i := 65) (by decide +kernel))) rfl
theorem kp_66 : Cond.selects (⟨"CarpetHallsModel", "bothOf", "(Z)Z"⟩ : MethodName).cls ⟨"CarpetHallsModel", "bothOf", "(Z)Z"⟩ ⟨"CarpetHallsModel", "bothOf", "(Z)Z"⟩ ∈ th_tb := kg (List.mem_append_left _ (List.mem_of_getElem? (i := 66) (by decide +kernel))) rfl
theorem kp_67 : Cond.selects (⟨"CarpetHallsModel", "plainOf", "(Z)Z"⟩ : MethodName).cls ⟨"CarpetHallsModel", "plainOf", "(Z)Z"⟩ ⟨"CarpetHallsModel", "plainOf", "(Z)Z"⟩ ∈ th_tb := kg (List.mem_append_left _ (List.mem_of_getElem? (i := 67) (by decide +kernel))) rfl
theorem kp_68 : Cond.selects (⟨"CarpetHallsModel", "positiveOf", "(Z)Z"⟩ : MethodName).cls ⟨"CarpetHallsModel", "positiveOf", "(Z)Z"⟩ ⟨"CarpetHallsModel", "positiveOf", "(Z)Z"⟩ ∈ th_tb := kg (List.mem_append_left _ (List.mem_of_getElem? (i := 68) (by decide +kernel))) rfl
theorem kp_69 : Cond.selects (⟨"CarpetHallsModel", "laidMany", "()I"⟩ : MethodName).cls ⟨"CarpetHallsModel", "laidMany", "()I"⟩ ⟨"CarpetHallsModel", "laidMany", "()I"⟩ ∈ th_tb := kg (List.mem_append_left _ (List.mem_of_getElem? (i := 69) (by decide +kernel))) rfl
theorem kp_70 : Cond.selects (⟨"CarpetHallsModel", "covers", "(III)Z"⟩ : MethodName).cls ⟨"CarpetHallsModel", "covers", "(III)Z"⟩ ⟨"CarpetHallsModel", "covers", "(III)Z"⟩ ∈ th_tb := kg (List.mem_append_left _ (List.mem_of_getElem? (i := 70) (by decide +kernel))) rfl
theorem kp_71 : Cond.selects (⟨"CarpetHallsModel", "costsAt", "(III)I"⟩ : MethodName).cls ⟨"CarpetHallsModel", "costsAt", "(III)I"⟩ ⟨"CarpetHallsModel", "costsAt", "(III)I"⟩ ∈ th_tb := kg (List.mem_append_left _ (List.mem_of_getElem? (i := 71) (by decide +kernel))) rfl
theorem kp_72 : Cond.selects (⟨"CarpetHallsModel", "isBarred", "(III)Z"⟩ : MethodName).cls ⟨"CarpetHallsModel", "isBarred", "(III)Z"⟩ ⟨"CarpetHallsModel", "isBarred", "(III)Z"⟩ ∈ th_tb := kg (List.mem_append_left _ (List.mem_of_getElem? (i := 72) (by decide +kernel))) rfl
theorem kp_73 : Cond.selects (⟨"CarpetHallsModel", "canLay", "(III)Z"⟩ : MethodName).cls ⟨"CarpetHallsModel", "canLay", "(III)Z"⟩ ⟨"CarpetHallsModel", "canLay", "(III)Z"⟩ ∈ th_tb := kg (List.mem_append_left _ (List.mem_of_getElem? (i := 73) (by decide +kernel))) rfl
theorem kp_74 : Cond.selects (⟨"CarpetHallsModel", "isWhole", "(I)Z"⟩ : MethodName).cls ⟨"CarpetHallsModel", "isWhole", "(I)Z"⟩ ⟨"CarpetHallsModel", "isWhole", "(I)Z"⟩ ∈ th_tb := kg (List.mem_append_left _ (List.mem_of_getElem? (i := 74) (by decide +kernel))) rfl
theorem kp_75 : Cond.selects (⟨"CarpetHallsModel", "laysCovered", "()V"⟩ : MethodName).cls ⟨"CarpetHallsModel", "laysCovered", "()V"⟩ ⟨"CarpetHallsModel", "laysCovered", "()V"⟩ ∈ th_tb := kg (List.mem_append_left _ (List.mem_of_getElem? (i := 75) (by decide +kernel))) rfl
theorem kp_76 : Cond.selects (⟨"CarpetHallsModel", "turnsSquare", "(III)V"⟩ : MethodName).cls ⟨"CarpetHallsModel", "turnsSquare", "(III)V"⟩ ⟨"CarpetHallsModel", "turnsSquare", "(III)V"⟩ ∈ th_tb := kg (List.mem_append_left _ (List.mem_of_getElem? (i := 76) (by decide +kernel))) rfl
theorem kp_77 : Cond.selects (⟨"CarpetHallsModel", "isFree", "(IIIII)Z"⟩ : MethodName).cls ⟨"CarpetHallsModel", "isFree", "(IIIII)Z"⟩ ⟨"CarpetHallsModel", "isFree", "(IIIII)Z"⟩ ∈ th_tb := kg (List.mem_append_left _ (List.mem_of_getElem? (i := 77) (by decide +kernel))) rfl
theorem kp_78 : Cond.selects (⟨"CarpetHallsModel", "readsAs", "(Z)Z"⟩ : MethodName).cls ⟨"CarpetHallsModel", "readsAs", "(Z)Z"⟩ ⟨"CarpetHallsModel", "readsAs", "(Z)Z"⟩ ∈ th_tb := kg (List.mem_append_left _ (List.mem_of_getElem? (i := 78) (by decide +kernel))) rfl
theorem kp_79 : Cond.selects (⟨"CarpetHallsModel", "reads", "()Z"⟩ : MethodName).cls ⟨"CarpetHallsModel", "reads", "()Z"⟩ ⟨"CarpetHallsModel", "reads", "()Z"⟩ ∈ th_tb := kg (List.mem_append_left _ (List.mem_of_getElem? (i := 79) (by decide +kernel))) rfl
theorem kp_80 : Cond.selects (⟨"CarpetHallsModel", "splits", "(I)V"⟩ : MethodName).cls ⟨"CarpetHallsModel", "splits", "(I)V"⟩ ⟨"CarpetHallsModel", "splits", "(I)V"⟩ ∈ th_tb := kg (List.mem_append_left _ (List.mem_of_getElem? (i := 80) (by decide +kernel))) rfl
theorem kp_81 : Cond.selects (⟨"CarpetHallsModel", "wordOf", "(II)I"⟩ : MethodName).cls ⟨"CarpetHallsModel", "wordOf", "(II)I"⟩ ⟨"CarpetHallsModel", "wordOf", "(II)I"⟩ ∈ th_tb := kg (List.mem_append_left _ (List.mem_of_getElem? (i := 81) (by decide +kernel))) rfl
theorem kp_82 : Cond.selects (⟨"CarpetHallsModel", "readOne", "()V"⟩ : MethodName).cls ⟨"CarpetHallsModel", "readOne", "()V"⟩ ⟨"CarpetHallsModel", "readOne", "()V"⟩ ∈ th_tb := kg (List.mem_append_left _ (List.mem_of_getElem? (i := 82) (by decide +kernel))) rfl
theorem kp_83 : Cond.selects (⟨"CarpetHallsModel", "readOrder", "()V"⟩ : MethodName).cls ⟨"CarpetHallsModel", "readOrder", "()V"⟩ ⟨"CarpetHallsModel", "readOrder", "()V"⟩ ∈ th_tb := kg (List.mem_append_left _ (List.mem_of_getElem? (i := 83) (by decide +kernel))) rfl
theorem kp_84 : Cond.selects (⟨"CarpetHallsModel", "takes0", "(I)Z"⟩ : MethodName).cls ⟨"CarpetHallsModel", "takes0", "(I)Z"⟩ ⟨"CarpetHallsModel", "takes0", "(I)Z"⟩ ∈ th_tb := kg (List.mem_append_left _ (List.mem_of_getElem? (i := 84) (by decide +kernel))) rfl
theorem kp_85 : Cond.selects (⟨"CarpetHallsModel", "fine", "()Z"⟩ : MethodName).cls ⟨"CarpetHallsModel", "fine", "()Z"⟩ ⟨"CarpetHallsModel", "fine", "()Z"⟩ ∈ th_tb := kg (List.mem_append_left _ (List.mem_of_getElem? (i := 85) (by decide +kernel))) rfl
theorem kp_86 : Cond.selects (⟨"CarpetHallsModel", "readSum", "(I)V"⟩ : MethodName).cls ⟨"CarpetHallsModel", "readSum", "(I)V"⟩ ⟨"CarpetHallsModel", "readSum", "(I)V"⟩ ∈ th_tb := kg (List.mem_append_left _ (List.mem_of_getElem? (i := 86) (by decide +kernel))) rfl
theorem kp_87 : Cond.selects (⟨"CarpetHallsModel", "readTerm", "(I)V"⟩ : MethodName).cls ⟨"CarpetHallsModel", "readTerm", "(I)V"⟩ ⟨"CarpetHallsModel", "readTerm", "(I)V"⟩ ∈ th_tb := kg (List.mem_append_left _ (List.mem_of_getElem? (i := 87) (by decide +kernel))) rfl
theorem kp_88 : Cond.selects (⟨"CarpetHallsModel", "readPart", "(I)V"⟩ : MethodName).cls ⟨"CarpetHallsModel", "readPart", "(I)V"⟩ ⟨"CarpetHallsModel", "readPart", "(I)V"⟩ ∈ th_tb := kg (List.mem_append_left _ (List.mem_of_getElem? (i := 88) (by decide +kernel))) rfl
theorem kp_89 : Cond.selects (⟨"CarpetHallsModel", "faults", "()V"⟩ : MethodName).cls ⟨"CarpetHallsModel", "faults", "()V"⟩ ⟨"CarpetHallsModel", "faults", "()V"⟩ ∈ th_tb := kg (List.mem_append_left _ (List.mem_of_getElem? (i := 89) (by decide +kernel))) rfl
theorem kp_90 : Cond.selects (⟨"CarpetHallsModel", "must", "(I)V"⟩ : MethodName).cls ⟨"CarpetHallsModel", "must", "(I)V"⟩ ⟨"CarpetHallsModel", "must", "(I)V"⟩ ∈ th_tb := kg (List.mem_append_left _ (List.mem_of_getElem? (i := 90) (by decide +kernel))) rfl
theorem kp_91 : Cond.selects (⟨"CarpetHallsModel", "leaf", "()V"⟩ : MethodName).cls ⟨"CarpetHallsModel", "leaf", "()V"⟩ ⟨"CarpetHallsModel", "leaf", "()V"⟩ ∈ th_tb := kg (List.mem_append_left _ (List.mem_of_getElem? (i := 91) (by decide +kernel))) rfl
theorem kp_92 : Cond.selects (⟨"CarpetHallsModel", "mustNumber", "(II)V"⟩ : MethodName).cls ⟨"CarpetHallsModel", "mustNumber", "(II)V"⟩ ⟨"CarpetHallsModel", "mustNumber", "(II)V"⟩ ∈ th_tb := kg (List.mem_append_left _ (List.mem_of_getElem? (i := 92) (by decide +kernel))) rfl
theorem kp_93 : Cond.selects (⟨"CarpetHallsModel", "readMore", "(I)V"⟩ : MethodName).cls ⟨"CarpetHallsModel", "readMore", "(I)V"⟩ ⟨"CarpetHallsModel", "readMore", "(I)V"⟩ ∈ th_tb := kg (List.mem_append_left _ (List.mem_of_getElem? (i := 93) (by decide +kernel))) rfl
theorem kp_94 : Cond.selects (⟨"CarpetHallsModel", "readTest", "(I)V"⟩ : MethodName).cls ⟨"CarpetHallsModel", "readTest", "(I)V"⟩ ⟨"CarpetHallsModel", "readTest", "(I)V"⟩ ∈ th_tb := kg (List.mem_append_left _ (List.mem_of_getElem? (i := 94) (by decide +kernel))) rfl
theorem kp_95 : Cond.selects (⟨"CarpetHallsModel", "readBoth", "(I)V"⟩ : MethodName).cls ⟨"CarpetHallsModel", "readBoth", "(I)V"⟩ ⟨"CarpetHallsModel", "readBoth", "(I)V"⟩ ∈ th_tb := kg (List.mem_append_left _ (List.mem_of_getElem? (i := 95) (by decide +kernel))) rfl
theorem kp_96 : Cond.selects (⟨"CarpetHallsModel", "readPlain", "(I)V"⟩ : MethodName).cls ⟨"CarpetHallsModel", "readPlain", "(I)V"⟩ ⟨"CarpetHallsModel", "readPlain", "(I)V"⟩ ∈ th_tb := kg (List.mem_append_left _ (List.mem_of_getElem? (i := 96) (by decide +kernel))) rfl
theorem kp_97 : Cond.selects (⟨"CarpetHallsModel", "readClause", "()V"⟩ : MethodName).cls ⟨"CarpetHallsModel", "readClause", "()V"⟩ ⟨"CarpetHallsModel", "readClause", "()V"⟩ ∈ th_tb := kg (List.mem_append_left _ (List.mem_of_getElem? (i := 97) (by decide +kernel))) rfl
theorem kp_98 : Cond.selects (⟨"CarpetHallsModel", "lays", "(I)V"⟩ : MethodName).cls ⟨"CarpetHallsModel", "lays", "(I)V"⟩ ⟨"CarpetHallsModel", "lays", "(I)V"⟩ ∈ th_tb := kg (List.mem_append_left _ (List.mem_of_getElem? (i := 98) (by decide +kernel))) rfl
theorem kp_99 : Cond.selects (⟨"CarpetHallsModel", "isLaw", "(I)Z"⟩ : MethodName).cls ⟨"CarpetHallsModel", "isLaw", "(I)Z"⟩ ⟨"CarpetHallsModel", "isLaw", "(I)Z"⟩ ∈ th_tb := kg (List.mem_append_left _ (List.mem_of_getElem? (i := 99) (by decide +kernel))) rfl
theorem kp_100 : Cond.selects (⟨"CarpetHallsModel", "firstBare", "(II)I"⟩ : MethodName).cls ⟨"CarpetHallsModel", "firstBare", "(II)I"⟩ ⟨"CarpetHallsModel", "firstBare", "(II)I"⟩ ∈ th_tb := kg (List.mem_append_left _ (List.mem_of_getElem? (i := 100) (by decide +kernel))) rfl
theorem kp_101 : Cond.selects (⟨"CarpetHallsModel", "laysKept", "(III)I"⟩ : MethodName).cls ⟨"CarpetHallsModel", "laysKept", "(III)I"⟩ ⟨"CarpetHallsModel", "laysKept", "(III)I"⟩ ∈ th_tb := kg (List.mem_append_left _ (List.mem_of_getElem? (i := 101) (by decide +kernel))) rfl
theorem kp_102 : Cond.selects (⟨"CarpetHallsModel", "keeps", "(I)V"⟩ : MethodName).cls ⟨"CarpetHallsModel", "keeps", "(I)V"⟩ ⟨"CarpetHallsModel", "keeps", "(I)V"⟩ ∈ th_tb := kg (List.mem_append_left _ (List.mem_of_getElem? (i := 102) (by decide +kernel))) rfl
theorem kp_103 : Cond.selects (⟨"CarpetHallsModel", "laysAt", "(III)I"⟩ : MethodName).cls ⟨"CarpetHallsModel", "laysAt", "(III)I"⟩ ⟨"CarpetHallsModel", "laysAt", "(III)I"⟩ ∈ th_tb := kg (List.mem_append_left _ (List.mem_of_getElem? (i := 103) (by decide +kernel))) rfl
theorem kp_104 : Cond.selects (⟨"CarpetHallsModel", "goodOr", "(I)I"⟩ : MethodName).cls ⟨"CarpetHallsModel", "goodOr", "(I)I"⟩ ⟨"CarpetHallsModel", "goodOr", "(I)I"⟩ ∈ th_tb := kg (List.mem_append_left _ (List.mem_of_getElem? (i := 104) (by decide +kernel))) rfl
theorem kp_105 : Cond.selects (⟨"CarpetHallsModel", "rollsKept", "(I)I"⟩ : MethodName).cls ⟨"CarpetHallsModel", "rollsKept", "(I)I"⟩ ⟨"CarpetHallsModel", "rollsKept", "(I)I"⟩ ∈ th_tb := kg (List.mem_append_left _ (List.mem_of_getElem? (i := 105) (by decide +kernel))) rfl
theorem kp_106 : Cond.selects (⟨"CarpetHallsModel", "mirrorsKept", "()I"⟩ : MethodName).cls ⟨"CarpetHallsModel", "mirrorsKept", "()I"⟩ ⟨"CarpetHallsModel", "mirrorsKept", "()I"⟩ ∈ th_tb := kg (List.mem_append_left _ (List.mem_of_getElem? (i := 106) (by decide +kernel))) rfl
theorem kp_107 : Cond.selects (⟨"CarpetHallsModel", "passesKept", "()I"⟩ : MethodName).cls ⟨"CarpetHallsModel", "passesKept", "()I"⟩ ⟨"CarpetHallsModel", "passesKept", "()I"⟩ ∈ th_tb := kg (List.mem_append_left _ (List.mem_of_getElem? (i := 107) (by decide +kernel))) rfl
theorem kp_108 : Cond.selects (⟨"CarpetHallsModel", "yearPasses", "()I"⟩ : MethodName).cls ⟨"CarpetHallsModel", "yearPasses", "()I"⟩ ⟨"CarpetHallsModel", "yearPasses", "()I"⟩ ∈ th_tb := kg (List.mem_append_left _ (List.mem_of_getElem? (i := 108) (by decide +kernel))) rfl
theorem kp_109 : Cond.selects (⟨"CarpetHallsModel", "fillsNow", "(Z)V"⟩ : MethodName).cls ⟨"CarpetHallsModel", "fillsNow", "(Z)V"⟩ ⟨"CarpetHallsModel", "fillsNow", "(Z)V"⟩ ∈ th_tb := kg (List.mem_append_left _ (List.mem_of_getElem? (i := 109) (by decide +kernel))) rfl
theorem kp_110 : Cond.selects (⟨"CarpetHallsModel", "rolledWhole", "()I"⟩ : MethodName).cls ⟨"CarpetHallsModel", "rolledWhole", "()I"⟩ ⟨"CarpetHallsModel", "rolledWhole", "()I"⟩ ∈ th_tb := kg (List.mem_append_left _ (List.mem_of_getElem? (i := 110) (by decide +kernel))) rfl
theorem kp_111 : Cond.selects (⟨"CarpetHallsModel", "laysPrices", "(I)V"⟩ : MethodName).cls ⟨"CarpetHallsModel", "laysPrices", "(I)V"⟩ ⟨"CarpetHallsModel", "laysPrices", "(I)V"⟩ ∈ th_tb := kg (List.mem_append_left _ (List.mem_of_getElem? (i := 111) (by decide +kernel))) rfl
theorem kp_112 : Cond.selects (⟨"CarpetHallsModel", "goesThrough", "(III)V"⟩ : MethodName).cls ⟨"CarpetHallsModel", "goesThrough", "(III)V"⟩ ⟨"CarpetHallsModel", "goesThrough", "(III)V"⟩ ∈ th_tb := kg (List.mem_append_left _ (List.mem_of_getElem? (i := 112) (by decide +kernel))) rfl
theorem kp_113 : Cond.selects (⟨"CarpetHallsModel", "goesOn", "(III)V"⟩ : MethodName).cls ⟨"CarpetHallsModel", "goesOn", "(III)V"⟩ ⟨"CarpetHallsModel", "goesOn", "(III)V"⟩ ∈ th_tb := kg (List.mem_append_left _ (List.mem_of_getElem? (i := 113) (by decide +kernel))) rfl
theorem kp_114 : Cond.selects (⟨"CarpetHallsModel", "fills", "(II)V"⟩ : MethodName).cls ⟨"CarpetHallsModel", "fills", "(II)V"⟩ ⟨"CarpetHallsModel", "fills", "(II)V"⟩ ∈ th_tb := kg (List.mem_append_left _ (List.mem_of_getElem? (i := 114) (by decide +kernel))) rfl
theorem kp_115 : Cond.selects (⟨"CarpetHallsModel", "isSeenSo", "(I)Z"⟩ : MethodName).cls ⟨"CarpetHallsModel", "isSeenSo", "(I)Z"⟩ ⟨"CarpetHallsModel", "isSeenSo", "(I)Z"⟩ ∈ th_tb := kg (List.mem_append_left _ (List.mem_of_getElem? (i := 115) (by decide +kernel))) rfl
theorem kp_116 : Cond.selects (⟨"CarpetHallsModel", "carpetBehind", "(III)I"⟩ : MethodName).cls ⟨"CarpetHallsModel", "carpetBehind", "(III)I"⟩ ⟨"CarpetHallsModel", "carpetBehind", "(III)I"⟩ ∈ th_tb := kg (List.mem_append_left _ (List.mem_of_getElem? (i := 116) (by decide +kernel))) rfl
theorem kp_117 : Cond.selects (⟨"CarpetHallsModel", "countsRow", "(I)V"⟩ : MethodName).cls ⟨"CarpetHallsModel", "countsRow", "(I)V"⟩ ⟨"CarpetHallsModel", "countsRow", "(I)V"⟩ ∈ th_tb := kg (List.mem_append_left _ (List.mem_of_getElem? (i := 117) (by decide +kernel))) rfl
theorem kp_118 : Cond.selects (⟨"CarpetHallsModel", "priceAt", "(II)I"⟩ : MethodName).cls ⟨"CarpetHallsModel", "priceAt", "(II)I"⟩ ⟨"CarpetHallsModel", "priceAt", "(II)I"⟩ ∈ th_tb := kg (List.mem_append_left _ (List.mem_of_getElem? (i := 118) (by decide +kernel))) rfl
theorem kp_119 : Cond.selects (⟨"CarpetHallsModel", "isMovable", "(I)Z"⟩ : MethodName).cls ⟨"CarpetHallsModel", "isMovable", "(I)Z"⟩ ⟨"CarpetHallsModel", "isMovable", "(I)Z"⟩ ∈ th_tb := kg (List.mem_append_left _ (List.mem_of_getElem? (i := 119) (by decide +kernel))) rfl
theorem kp_120 : Cond.selects (⟨"CarpetHallsModel", "canFill", "(III)Z"⟩ : MethodName).cls ⟨"CarpetHallsModel", "canFill", "(III)Z"⟩ ⟨"CarpetHallsModel", "canFill", "(III)Z"⟩ ∈ th_tb := kg (List.mem_append_left _ (List.mem_of_getElem? (i := 120) (by decide +kernel))) rfl
theorem kp_121 : Cond.selects (⟨"CarpetHallsModel", "within", "(IIII)I"⟩ : MethodName).cls ⟨"CarpetHallsModel", "within", "(IIII)I"⟩ ⟨"CarpetHallsModel", "within", "(IIII)I"⟩ ∈ th_tb := kg (List.mem_append_left _ (List.mem_of_getElem? (i := 121) (by decide +kernel))) rfl
theorem kp_122 : Cond.selects (⟨"CarpetHallsModel", "isCross", "(II)Z"⟩ : MethodName).cls ⟨"CarpetHallsModel", "isCross", "(II)Z"⟩ ⟨"CarpetHallsModel", "isCross", "(II)Z"⟩ ∈ th_tb := kg (List.mem_append_left _ (List.mem_of_getElem? (i := 122) (by decide +kernel))) rfl
theorem kp_123 : Cond.selects (⟨"CarpetHallsModel", "laysFloors", "()V"⟩ : MethodName).cls ⟨"CarpetHallsModel", "laysFloors", "()V"⟩ ⟨"CarpetHallsModel", "laysFloors", "()V"⟩ ∈ th_tb := kg (List.mem_append_left _ (List.mem_of_getElem? (i := 123) (by decide +kernel))) rfl
theorem kp_124 : Cond.selects (⟨"CarpetHallsModel", "mostAt", "(I)I"⟩ : MethodName).cls ⟨"CarpetHallsModel", "mostAt", "(I)I"⟩ ⟨"CarpetHallsModel", "mostAt", "(I)I"⟩ ∈ th_tb := kg (List.mem_append_left _ (List.mem_of_getElem? (i := 124) (by decide +kernel))) rfl
theorem kp_125 : Cond.selects (⟨"CarpetHallsModel", "laysAside", "(I)V"⟩ : MethodName).cls ⟨"CarpetHallsModel", "laysAside", "(I)V"⟩ ⟨"CarpetHallsModel", "laysAside", "(I)V"⟩ ∈ th_tb := kg (List.mem_append_left _ (List.mem_of_getElem? (i := 125) (by decide +kernel))) rfl
theorem kp_126 : Cond.selects (⟨"CarpetHallsModel", "runs", "(I)Z"⟩ : MethodName).cls ⟨"CarpetHallsModel", "runs", "(I)Z"⟩ ⟨"CarpetHallsModel", "runs", "(I)Z"⟩ ∈ th_tb := kg (List.mem_append_left _ (List.mem_of_getElem? (i := 126) (by decide +kernel))) rfl
theorem kp_127 : Cond.selects (⟨"CarpetHallsModel", "goesAlong", "(IZ)V"⟩ : MethodName).cls ⟨"CarpetHallsModel", "goesAlong", "(IZ)V"⟩ ⟨"CarpetHallsModel", "goesAlong", "(IZ)V"⟩ ∈ th_tb := kg (List.mem_append_left _ (List.mem_of_getElem? (i := 127) (by decide +kernel))) rfl
theorem kp_128 : Cond.selects (⟨"CarpetHallsModel", "obeys", "()I"⟩ : MethodName).cls ⟨"CarpetHallsModel", "obeys", "()I"⟩ ⟨"CarpetHallsModel", "obeys", "()I"⟩ ∈ th_tb := kg (List.mem_append_left _ (List.mem_of_getElem? (i := 128) (by decide +kernel))) rfl
theorem kp_129 : Cond.selects (⟨"CarpetHallsModel", "takesBack", "(I)V"⟩ : MethodName).cls ⟨"CarpetHallsModel", "takesBack", "(I)V"⟩ ⟨"CarpetHallsModel", "takesBack", "(I)V"⟩ ∈ th_tb := kg (List.mem_append_left _ (List.mem_of_getElem? (i := 129) (by decide +kernel))) rfl
theorem kp_130 : Cond.selects (⟨"CarpetHallsModel", "draws", "(I)I"⟩ : MethodName).cls ⟨"CarpetHallsModel", "draws", "(I)I"⟩ ⟨"CarpetHallsModel", "draws", "(I)I"⟩ ∈ th_tb := kg (List.mem_append_left _ (List.mem_of_getElem? (i := 130) (by decide +kernel))) rfl
theorem kp_131 : Cond.selects (⟨"CarpetHallsModel", "ragMany", "()I"⟩ : MethodName).cls ⟨"CarpetHallsModel", "ragMany", "()I"⟩ ⟨"CarpetHallsModel", "ragMany", "()I"⟩ ∈ th_tb := kg (List.mem_append_left _ (List.mem_of_getElem? (i := 131) (by decide +kernel))) rfl
end
