-- ===== PART A: goes FIRST, ahead of the names: the tables' words, and 'selects' of the private methods out of them =====
/-- a private method of a class that the tables say can be made, by its rows of tables_1 -/
def lw_okq (q : MethodName × Nat) : Prop := (q.1.cls ≠ "java/lang/invoke/MethodHandle" ∧ q.1.cls ≠ "java/lang/invoke/VarHandle") ∧ Cond.instantiable q.1.cls q.2 ∈ tables_1 ∧ Cond.privateMethod q.1 ∈ tables_1 ∧ Cond.instanceMethod q.1 ∈ tables_1
theorem lw_p0 : lw_okq (⟨"HourHouse", "isPayer", "(I)Z"⟩, 13) := ⟨⟨by decide +kernel, by decide +kernel⟩, List.mem_of_getElem? (i := 24) (by decide +kernel), List.mem_of_getElem? (i := 566) (by decide +kernel), List.mem_of_getElem? (i := 567) (by decide +kernel)⟩
theorem lw_p1 : lw_okq (⟨"HourHouse", "isPast", "(I)Z"⟩, 13) := ⟨⟨by decide +kernel, by decide +kernel⟩, List.mem_of_getElem? (i := 24) (by decide +kernel), List.mem_of_getElem? (i := 596) (by decide +kernel), List.mem_of_getElem? (i := 597) (by decide +kernel)⟩
theorem lw_p2 : lw_okq (⟨"HourHouse", "partsInTwo", "()I"⟩, 13) := ⟨⟨by decide +kernel, by decide +kernel⟩, List.mem_of_getElem? (i := 24) (by decide +kernel), List.mem_of_getElem? (i := 639) (by decide +kernel), List.mem_of_getElem? (i := 640) (by decide +kernel)⟩
theorem lw_p3 : lw_okq (⟨"HourHouse", "partsBeyond", "(III)I"⟩, 13) := ⟨⟨by decide +kernel, by decide +kernel⟩, List.mem_of_getElem? (i := 24) (by decide +kernel), List.mem_of_getElem? (i := 643) (by decide +kernel), List.mem_of_getElem? (i := 644) (by decide +kernel)⟩
theorem lw_p4 : lw_okq (⟨"HourHouse$Worths", "slotOf", "(I)I"⟩, 5) := ⟨⟨by decide +kernel, by decide +kernel⟩, List.mem_of_getElem? (i := 411) (by decide +kernel), List.mem_of_getElem? (i := 664) (by decide +kernel), List.mem_of_getElem? (i := 665) (by decide +kernel)⟩
theorem lw_p5 : lw_okq (⟨"HourHouse$Worths", "workOut", "(IIII)I"⟩, 5) := ⟨⟨by decide +kernel, by decide +kernel⟩, List.mem_of_getElem? (i := 411) (by decide +kernel), List.mem_of_getElem? (i := 672) (by decide +kernel), List.mem_of_getElem? (i := 673) (by decide +kernel)⟩
theorem lw_p6 : lw_okq (⟨"HourHouse$Worths", "nameOf", "(III)I"⟩, 5) := ⟨⟨by decide +kernel, by decide +kernel⟩, List.mem_of_getElem? (i := 411) (by decide +kernel), List.mem_of_getElem? (i := 677) (by decide +kernel), List.mem_of_getElem? (i := 678) (by decide +kernel)⟩
theorem lw_p7 : lw_okq (⟨"HourHouse$Worths", "othersMet", "(II)I"⟩, 5) := ⟨⟨by decide +kernel, by decide +kernel⟩, List.mem_of_getElem? (i := 411) (by decide +kernel), List.mem_of_getElem? (i := 681) (by decide +kernel), List.mem_of_getElem? (i := 682) (by decide +kernel)⟩
theorem lw_p8 : lw_okq (⟨"HourHouse$Worths", "putInOrder", "(II)I"⟩, 5) := ⟨⟨by decide +kernel, by decide +kernel⟩, List.mem_of_getElem? (i := 411) (by decide +kernel), List.mem_of_getElem? (i := 718) (by decide +kernel), List.mem_of_getElem? (i := 719) (by decide +kernel)⟩
theorem lw_p9 : lw_okq (⟨"HourHouse$Tape", "readNext", "()V"⟩, 12) := ⟨⟨by decide +kernel, by decide +kernel⟩, List.mem_of_getElem? (i := 362) (by decide +kernel), List.mem_of_getElem? (i := 744) (by decide +kernel), List.mem_of_getElem? (i := 745) (by decide +kernel)⟩
theorem lw_p10 : lw_okq (⟨"HourHouse$Tape", "endOfDigits", "(I)I"⟩, 12) := ⟨⟨by decide +kernel, by decide +kernel⟩, List.mem_of_getElem? (i := 362) (by decide +kernel), List.mem_of_getElem? (i := 751) (by decide +kernel), List.mem_of_getElem? (i := 752) (by decide +kernel)⟩
theorem lw_p11 : lw_okq (⟨"HourHouse$Tape", "endOfLetters", "(I)I"⟩, 12) := ⟨⟨by decide +kernel, by decide +kernel⟩, List.mem_of_getElem? (i := 362) (by decide +kernel), List.mem_of_getElem? (i := 758) (by decide +kernel), List.mem_of_getElem? (i := 759) (by decide +kernel)⟩
theorem lw_p12 : lw_okq (⟨"HourHouse$Tape", "readKeyword", "(Ljava/lang/String;)V"⟩, 12) := ⟨⟨by decide +kernel, by decide +kernel⟩, List.mem_of_getElem? (i := 362) (by decide +kernel), List.mem_of_getElem? (i := 763) (by decide +kernel), List.mem_of_getElem? (i := 764) (by decide +kernel)⟩
theorem lw_p13 : lw_okq (⟨"HourHouse$Tape", "isAtWord", "(Ljava/lang/String;)Z"⟩, 12) := ⟨⟨by decide +kernel, by decide +kernel⟩, List.mem_of_getElem? (i := 362) (by decide +kernel), List.mem_of_getElem? (i := 767) (by decide +kernel), List.mem_of_getElem? (i := 768) (by decide +kernel)⟩
theorem lw_p14 : lw_okq (⟨"HourHouse$Tape", "fail", "()V"⟩, 12) := ⟨⟨by decide +kernel, by decide +kernel⟩, List.mem_of_getElem? (i := 362) (by decide +kernel), List.mem_of_getElem? (i := 819) (by decide +kernel), List.mem_of_getElem? (i := 820) (by decide +kernel)⟩
theorem lw_p15 : lw_okq (⟨"HourHouse$Tape", "readOr", "()V"⟩, 12) := ⟨⟨by decide +kernel, by decide +kernel⟩, List.mem_of_getElem? (i := 362) (by decide +kernel), List.mem_of_getElem? (i := 823) (by decide +kernel), List.mem_of_getElem? (i := 824) (by decide +kernel)⟩
def lw_privs_1 : List (MethodName × Nat) := [(⟨"HourHouse", "isPayer", "(I)Z"⟩, 13), (⟨"HourHouse", "isPast", "(I)Z"⟩, 13), (⟨"HourHouse", "partsInTwo", "()I"⟩, 13), (⟨"HourHouse", "partsBeyond", "(III)I"⟩, 13), (⟨"HourHouse$Worths", "slotOf", "(I)I"⟩, 5), (⟨"HourHouse$Worths", "workOut", "(IIII)I"⟩, 5), (⟨"HourHouse$Worths", "nameOf", "(III)I"⟩, 5), (⟨"HourHouse$Worths", "othersMet", "(II)I"⟩, 5), (⟨"HourHouse$Worths", "putInOrder", "(II)I"⟩, 5), (⟨"HourHouse$Tape", "readNext", "()V"⟩, 12), (⟨"HourHouse$Tape", "endOfDigits", "(I)I"⟩, 12), (⟨"HourHouse$Tape", "endOfLetters", "(I)I"⟩, 12), (⟨"HourHouse$Tape", "readKeyword", "(Ljava/lang/String;)V"⟩, 12), (⟨"HourHouse$Tape", "isAtWord", "(Ljava/lang/String;)Z"⟩, 12), (⟨"HourHouse$Tape", "fail", "()V"⟩, 12), (⟨"HourHouse$Tape", "readOr", "()V"⟩, 12)]
theorem lw_r1 : ∀ q ∈ lw_privs_1, lw_okq q := List.forall_mem_cons.mpr ⟨lw_p0, List.forall_mem_cons.mpr ⟨lw_p1, List.forall_mem_cons.mpr ⟨lw_p2, List.forall_mem_cons.mpr ⟨lw_p3, List.forall_mem_cons.mpr ⟨lw_p4, List.forall_mem_cons.mpr ⟨lw_p5, List.forall_mem_cons.mpr ⟨lw_p6, List.forall_mem_cons.mpr ⟨lw_p7, List.forall_mem_cons.mpr ⟨lw_p8, List.forall_mem_cons.mpr ⟨lw_p9, List.forall_mem_cons.mpr ⟨lw_p10, List.forall_mem_cons.mpr ⟨lw_p11, List.forall_mem_cons.mpr ⟨lw_p12, List.forall_mem_cons.mpr ⟨lw_p13, List.forall_mem_cons.mpr ⟨lw_p14, List.forall_mem_cons.mpr ⟨lw_p15, fun _ h => absurd h List.not_mem_nil⟩⟩⟩⟩⟩⟩⟩⟩⟩⟩⟩⟩⟩⟩⟩⟩
theorem lw_p16 : lw_okq (⟨"HourHouse$Tape", "readAnd", "()V"⟩, 12) := ⟨⟨by decide +kernel, by decide +kernel⟩, List.mem_of_getElem? (i := 362) (by decide +kernel), List.mem_of_getElem? (i := 827) (by decide +kernel), List.mem_of_getElem? (i := 828) (by decide +kernel)⟩
theorem lw_p17 : lw_okq (⟨"HourHouse$Tape", "readTest", "()V"⟩, 12) := ⟨⟨by decide +kernel, by decide +kernel⟩, List.mem_of_getElem? (i := 362) (by decide +kernel), List.mem_of_getElem? (i := 831) (by decide +kernel), List.mem_of_getElem? (i := 832) (by decide +kernel)⟩
theorem lw_p18 : lw_okq (⟨"HourHouse$Tape", "readSum", "()V"⟩, 12) := ⟨⟨by decide +kernel, by decide +kernel⟩, List.mem_of_getElem? (i := 362) (by decide +kernel), List.mem_of_getElem? (i := 835) (by decide +kernel), List.mem_of_getElem? (i := 836) (by decide +kernel)⟩
theorem lw_p19 : lw_okq (⟨"HourHouse$Tape", "readTerm", "()V"⟩, 12) := ⟨⟨by decide +kernel, by decide +kernel⟩, List.mem_of_getElem? (i := 362) (by decide +kernel), List.mem_of_getElem? (i := 839) (by decide +kernel), List.mem_of_getElem? (i := 840) (by decide +kernel)⟩
theorem lw_p20 : lw_okq (⟨"HourHouse$Tape", "readPart", "()V"⟩, 12) := ⟨⟨by decide +kernel, by decide +kernel⟩, List.mem_of_getElem? (i := 362) (by decide +kernel), List.mem_of_getElem? (i := 843) (by decide +kernel), List.mem_of_getElem? (i := 844) (by decide +kernel)⟩
theorem lw_p21 : lw_okq (⟨"HourHouse$Tape", "readNumber", "()V"⟩, 12) := ⟨⟨by decide +kernel, by decide +kernel⟩, List.mem_of_getElem? (i := 362) (by decide +kernel), List.mem_of_getElem? (i := 847) (by decide +kernel), List.mem_of_getElem? (i := 848) (by decide +kernel)⟩
theorem lw_p22 : lw_okq (⟨"HourHouse$Tape", "put", "(I)V"⟩, 12) := ⟨⟨by decide +kernel, by decide +kernel⟩, List.mem_of_getElem? (i := 362) (by decide +kernel), List.mem_of_getElem? (i := 851) (by decide +kernel), List.mem_of_getElem? (i := 852) (by decide +kernel)⟩
theorem lw_p23 : lw_okq (⟨"HourHouse$Tape", "isAtSign", "(C)Z"⟩, 12) := ⟨⟨by decide +kernel, by decide +kernel⟩, List.mem_of_getElem? (i := 362) (by decide +kernel), List.mem_of_getElem? (i := 912) (by decide +kernel), List.mem_of_getElem? (i := 913) (by decide +kernel)⟩
theorem lw_p24 : lw_okq (⟨"HourHouse$Tape", "readBrackets", "()V"⟩, 12) := ⟨⟨by decide +kernel, by decide +kernel⟩, List.mem_of_getElem? (i := 362) (by decide +kernel), List.mem_of_getElem? (i := 916) (by decide +kernel), List.mem_of_getElem? (i := 917) (by decide +kernel)⟩
theorem lw_p25 : lw_okq (⟨"HourHouse", "takeEntries", "(III)I"⟩, 13) := ⟨⟨by decide +kernel, by decide +kernel⟩, List.mem_of_getElem? (i := 24) (by decide +kernel), List.mem_of_getElem? (i := 928) (by decide +kernel), List.mem_of_getElem? (i := 929) (by decide +kernel)⟩
theorem lw_p26 : lw_okq (⟨"HourHouse", "owedPlace", "(II)I"⟩, 13) := ⟨⟨by decide +kernel, by decide +kernel⟩, List.mem_of_getElem? (i := 24) (by decide +kernel), List.mem_of_getElem? (i := 956) (by decide +kernel), List.mem_of_getElem? (i := 957) (by decide +kernel)⟩
theorem lw_p27 : lw_okq (⟨"HourHouse", "interestOf", "(II)I"⟩, 13) := ⟨⟨by decide +kernel, by decide +kernel⟩, List.mem_of_getElem? (i := 24) (by decide +kernel), List.mem_of_getElem? (i := 964) (by decide +kernel), List.mem_of_getElem? (i := 965) (by decide +kernel)⟩
theorem lw_p28 : lw_okq (⟨"HourHouse$Worths", "isLike", "(II)Z"⟩, 5) := ⟨⟨by decide +kernel, by decide +kernel⟩, List.mem_of_getElem? (i := 411) (by decide +kernel), List.mem_of_getElem? (i := 995) (by decide +kernel), List.mem_of_getElem? (i := 996) (by decide +kernel)⟩
theorem lw_p29 : lw_okq (⟨"HourHouse", "canGiveBack", "(I)Z"⟩, 13) := ⟨⟨by decide +kernel, by decide +kernel⟩, List.mem_of_getElem? (i := 24) (by decide +kernel), List.mem_of_getElem? (i := 1000) (by decide +kernel), List.mem_of_getElem? (i := 1001) (by decide +kernel)⟩
theorem lw_p30 : lw_okq (⟨"HourHouse", "giveBack", "(I)V"⟩, 13) := ⟨⟨by decide +kernel, by decide +kernel⟩, List.mem_of_getElem? (i := 24) (by decide +kernel), List.mem_of_getElem? (i := 1004) (by decide +kernel), List.mem_of_getElem? (i := 1005) (by decide +kernel)⟩
theorem lw_p31 : lw_okq (⟨"HourHouse$Planner", "seekFrom", "(II)Z"⟩, 7) := ⟨⟨by decide +kernel, by decide +kernel⟩, List.mem_of_getElem? (i := 434) (by decide +kernel), List.mem_of_getElem? (i := 1055) (by decide +kernel), List.mem_of_getElem? (i := 1056) (by decide +kernel)⟩
def lw_privs_2 : List (MethodName × Nat) := [(⟨"HourHouse$Tape", "readAnd", "()V"⟩, 12), (⟨"HourHouse$Tape", "readTest", "()V"⟩, 12), (⟨"HourHouse$Tape", "readSum", "()V"⟩, 12), (⟨"HourHouse$Tape", "readTerm", "()V"⟩, 12), (⟨"HourHouse$Tape", "readPart", "()V"⟩, 12), (⟨"HourHouse$Tape", "readNumber", "()V"⟩, 12), (⟨"HourHouse$Tape", "put", "(I)V"⟩, 12), (⟨"HourHouse$Tape", "isAtSign", "(C)Z"⟩, 12), (⟨"HourHouse$Tape", "readBrackets", "()V"⟩, 12), (⟨"HourHouse", "takeEntries", "(III)I"⟩, 13), (⟨"HourHouse", "owedPlace", "(II)I"⟩, 13), (⟨"HourHouse", "interestOf", "(II)I"⟩, 13), (⟨"HourHouse$Worths", "isLike", "(II)Z"⟩, 5), (⟨"HourHouse", "canGiveBack", "(I)Z"⟩, 13), (⟨"HourHouse", "giveBack", "(I)V"⟩, 13), (⟨"HourHouse$Planner", "seekFrom", "(II)Z"⟩, 7)]
theorem lw_r2 : ∀ q ∈ lw_privs_2, lw_okq q := List.forall_mem_cons.mpr ⟨lw_p16, List.forall_mem_cons.mpr ⟨lw_p17, List.forall_mem_cons.mpr ⟨lw_p18, List.forall_mem_cons.mpr ⟨lw_p19, List.forall_mem_cons.mpr ⟨lw_p20, List.forall_mem_cons.mpr ⟨lw_p21, List.forall_mem_cons.mpr ⟨lw_p22, List.forall_mem_cons.mpr ⟨lw_p23, List.forall_mem_cons.mpr ⟨lw_p24, List.forall_mem_cons.mpr ⟨lw_p25, List.forall_mem_cons.mpr ⟨lw_p26, List.forall_mem_cons.mpr ⟨lw_p27, List.forall_mem_cons.mpr ⟨lw_p28, List.forall_mem_cons.mpr ⟨lw_p29, List.forall_mem_cons.mpr ⟨lw_p30, List.forall_mem_cons.mpr ⟨lw_p31, fun _ h => absurd h List.not_mem_nil⟩⟩⟩⟩⟩⟩⟩⟩⟩⟩⟩⟩⟩⟩⟩⟩
theorem lw_p32 : lw_okq (⟨"HourHouse$Planner", "takeIfLess", "(I)V"⟩, 7) := ⟨⟨by decide +kernel, by decide +kernel⟩, List.mem_of_getElem? (i := 434) (by decide +kernel), List.mem_of_getElem? (i := 1059) (by decide +kernel), List.mem_of_getElem? (i := 1060) (by decide +kernel)⟩
theorem lw_p33 : lw_okq (⟨"HourHouse", "hasPlaces", "(III)Z"⟩, 13) := ⟨⟨by decide +kernel, by decide +kernel⟩, List.mem_of_getElem? (i := 24) (by decide +kernel), List.mem_of_getElem? (i := 1143) (by decide +kernel), List.mem_of_getElem? (i := 1144) (by decide +kernel)⟩
theorem lw_p34 : lw_okq (⟨"HourHouseModel", "isPerson", "(I)Z"⟩, 35) := ⟨⟨by decide +kernel, by decide +kernel⟩, List.mem_of_getElem? (i := 1154) (by decide +kernel), List.mem_of_getElem? (i := 1279) (by decide +kernel), List.mem_of_getElem? (i := 1280) (by decide +kernel)⟩
theorem lw_p35 : lw_okq (⟨"HourHouseModel", "isClient", "(I)Z"⟩, 35) := ⟨⟨by decide +kernel, by decide +kernel⟩, List.mem_of_getElem? (i := 1154) (by decide +kernel), List.mem_of_getElem? (i := 1291) (by decide +kernel), List.mem_of_getElem? (i := 1292) (by decide +kernel)⟩
theorem lw_p36 : lw_okq (⟨"HourHouseModel", "isMatter", "(I)Z"⟩, 35) := ⟨⟨by decide +kernel, by decide +kernel⟩, List.mem_of_getElem? (i := 1154) (by decide +kernel), List.mem_of_getElem? (i := 1300) (by decide +kernel), List.mem_of_getElem? (i := 1301) (by decide +kernel)⟩
theorem lw_p37 : lw_okq (⟨"HourHouseModel", "isShare", "(I)Z"⟩, 35) := ⟨⟨by decide +kernel, by decide +kernel⟩, List.mem_of_getElem? (i := 1154) (by decide +kernel), List.mem_of_getElem? (i := 1308) (by decide +kernel), List.mem_of_getElem? (i := 1309) (by decide +kernel)⟩
theorem lw_p38 : lw_okq (⟨"HourHouseModel", "isBilled", "(I)Z"⟩, 35) := ⟨⟨by decide +kernel, by decide +kernel⟩, List.mem_of_getElem? (i := 1154) (by decide +kernel), List.mem_of_getElem? (i := 1313) (by decide +kernel), List.mem_of_getElem? (i := 1314) (by decide +kernel)⟩
theorem lw_p39 : lw_okq (⟨"HourHouseModel", "isPast", "(I)Z"⟩, 35) := ⟨⟨by decide +kernel, by decide +kernel⟩, List.mem_of_getElem? (i := 1154) (by decide +kernel), List.mem_of_getElem? (i := 1334) (by decide +kernel), List.mem_of_getElem? (i := 1335) (by decide +kernel)⟩
theorem lw_p40 : lw_okq (⟨"HourHouseModel", "isEntry", "(I)Z"⟩, 35) := ⟨⟨by decide +kernel, by decide +kernel⟩, List.mem_of_getElem? (i := 1154) (by decide +kernel), List.mem_of_getElem? (i := 1345) (by decide +kernel), List.mem_of_getElem? (i := 1346) (by decide +kernel)⟩
theorem lw_p41 : lw_okq (⟨"HourHouseModel", "isKnown", "(II)Z"⟩, 35) := ⟨⟨by decide +kernel, by decide +kernel⟩, List.mem_of_getElem? (i := 1154) (by decide +kernel), List.mem_of_getElem? (i := 1357) (by decide +kernel), List.mem_of_getElem? (i := 1358) (by decide +kernel)⟩
theorem lw_p42 : lw_okq (⟨"HourHouseModel", "next", "()V"⟩, 35) := ⟨⟨by decide +kernel, by decide +kernel⟩, List.mem_of_getElem? (i := 1154) (by decide +kernel), List.mem_of_getElem? (i := 1383) (by decide +kernel), List.mem_of_getElem? (i := 1384) (by decide +kernel)⟩
theorem lw_p43 : lw_okq (⟨"HourHouseModel", "wrong", "()V"⟩, 35) := ⟨⟨by decide +kernel, by decide +kernel⟩, List.mem_of_getElem? (i := 1154) (by decide +kernel), List.mem_of_getElem? (i := 1390) (by decide +kernel), List.mem_of_getElem? (i := 1391) (by decide +kernel)⟩
theorem lw_p44 : lw_okq (⟨"HourHouseModel", "isWord", "(IIIII)Z"⟩, 35) := ⟨⟨by decide +kernel, by decide +kernel⟩, List.mem_of_getElem? (i := 1154) (by decide +kernel), List.mem_of_getElem? (i := 1394) (by decide +kernel), List.mem_of_getElem? (i := 1395) (by decide +kernel)⟩
theorem lw_p45 : lw_okq (⟨"HourHouseModel", "isLetter", "(II)Z"⟩, 35) := ⟨⟨by decide +kernel, by decide +kernel⟩, List.mem_of_getElem? (i := 1154) (by decide +kernel), List.mem_of_getElem? (i := 1398) (by decide +kernel), List.mem_of_getElem? (i := 1399) (by decide +kernel)⟩
theorem lw_p46 : lw_okq (⟨"HourHouseModel", "reads", "(IZ)V"⟩, 35) := ⟨⟨by decide +kernel, by decide +kernel⟩, List.mem_of_getElem? (i := 1154) (by decide +kernel), List.mem_of_getElem? (i := 1402) (by decide +kernel), List.mem_of_getElem? (i := 1403) (by decide +kernel)⟩
theorem lw_p47 : lw_okq (⟨"HourHouseModel", "expression", "()V"⟩, 35) := ⟨⟨by decide +kernel, by decide +kernel⟩, List.mem_of_getElem? (i := 1154) (by decide +kernel), List.mem_of_getElem? (i := 1406) (by decide +kernel), List.mem_of_getElem? (i := 1407) (by decide +kernel)⟩
def lw_privs_3 : List (MethodName × Nat) := [(⟨"HourHouse$Planner", "takeIfLess", "(I)V"⟩, 7), (⟨"HourHouse", "hasPlaces", "(III)Z"⟩, 13), (⟨"HourHouseModel", "isPerson", "(I)Z"⟩, 35), (⟨"HourHouseModel", "isClient", "(I)Z"⟩, 35), (⟨"HourHouseModel", "isMatter", "(I)Z"⟩, 35), (⟨"HourHouseModel", "isShare", "(I)Z"⟩, 35), (⟨"HourHouseModel", "isBilled", "(I)Z"⟩, 35), (⟨"HourHouseModel", "isPast", "(I)Z"⟩, 35), (⟨"HourHouseModel", "isEntry", "(I)Z"⟩, 35), (⟨"HourHouseModel", "isKnown", "(II)Z"⟩, 35), (⟨"HourHouseModel", "next", "()V"⟩, 35), (⟨"HourHouseModel", "wrong", "()V"⟩, 35), (⟨"HourHouseModel", "isWord", "(IIIII)Z"⟩, 35), (⟨"HourHouseModel", "isLetter", "(II)Z"⟩, 35), (⟨"HourHouseModel", "reads", "(IZ)V"⟩, 35), (⟨"HourHouseModel", "expression", "()V"⟩, 35)]
theorem lw_r3 : ∀ q ∈ lw_privs_3, lw_okq q := List.forall_mem_cons.mpr ⟨lw_p32, List.forall_mem_cons.mpr ⟨lw_p33, List.forall_mem_cons.mpr ⟨lw_p34, List.forall_mem_cons.mpr ⟨lw_p35, List.forall_mem_cons.mpr ⟨lw_p36, List.forall_mem_cons.mpr ⟨lw_p37, List.forall_mem_cons.mpr ⟨lw_p38, List.forall_mem_cons.mpr ⟨lw_p39, List.forall_mem_cons.mpr ⟨lw_p40, List.forall_mem_cons.mpr ⟨lw_p41, List.forall_mem_cons.mpr ⟨lw_p42, List.forall_mem_cons.mpr ⟨lw_p43, List.forall_mem_cons.mpr ⟨lw_p44, List.forall_mem_cons.mpr ⟨lw_p45, List.forall_mem_cons.mpr ⟨lw_p46, List.forall_mem_cons.mpr ⟨lw_p47, fun _ h => absurd h List.not_mem_nil⟩⟩⟩⟩⟩⟩⟩⟩⟩⟩⟩⟩⟩⟩⟩⟩
theorem lw_p48 : lw_okq (⟨"HourHouseModel", "begins", "()Z"⟩, 35) := ⟨⟨by decide +kernel, by decide +kernel⟩, List.mem_of_getElem? (i := 1154) (by decide +kernel), List.mem_of_getElem? (i := 1410) (by decide +kernel), List.mem_of_getElem? (i := 1411) (by decide +kernel)⟩
theorem lw_p49 : lw_okq (⟨"HourHouseModel", "isSign", "(I)Z"⟩, 35) := ⟨⟨by decide +kernel, by decide +kernel⟩, List.mem_of_getElem? (i := 1154) (by decide +kernel), List.mem_of_getElem? (i := 1414) (by decide +kernel), List.mem_of_getElem? (i := 1415) (by decide +kernel)⟩
theorem lw_p50 : lw_okq (⟨"HourHouseModel", "emit", "(II)V"⟩, 35) := ⟨⟨by decide +kernel, by decide +kernel⟩, List.mem_of_getElem? (i := 1154) (by decide +kernel), List.mem_of_getElem? (i := 1418) (by decide +kernel), List.mem_of_getElem? (i := 1419) (by decide +kernel)⟩
theorem lw_p51 : lw_okq (⟨"HourHouseModel", "isName", "(I)Z"⟩, 35) := ⟨⟨by decide +kernel, by decide +kernel⟩, List.mem_of_getElem? (i := 1154) (by decide +kernel), List.mem_of_getElem? (i := 1422) (by decide +kernel), List.mem_of_getElem? (i := 1423) (by decide +kernel)⟩
theorem lw_p52 : lw_okq (⟨"HourHouseModel", "parted", "()V"⟩, 35) := ⟨⟨by decide +kernel, by decide +kernel⟩, List.mem_of_getElem? (i := 1154) (by decide +kernel), List.mem_of_getElem? (i := 1426) (by decide +kernel), List.mem_of_getElem? (i := 1427) (by decide +kernel)⟩
theorem lw_p53 : lw_okq (⟨"HourHouseModel", "signHere", "()I"⟩, 35) := ⟨⟨by decide +kernel, by decide +kernel⟩, List.mem_of_getElem? (i := 1154) (by decide +kernel), List.mem_of_getElem? (i := 1430) (by decide +kernel), List.mem_of_getElem? (i := 1431) (by decide +kernel)⟩
theorem lw_p54 : lw_okq (⟨"HourHouseModel", "works", "(I)V"⟩, 35) := ⟨⟨by decide +kernel, by decide +kernel⟩, List.mem_of_getElem? (i := 1154) (by decide +kernel), List.mem_of_getElem? (i := 1434) (by decide +kernel), List.mem_of_getElem? (i := 1435) (by decide +kernel)⟩
theorem lw_p55 : lw_okq (⟨"HourHouseModel", "termsOf", "(I)I"⟩, 35) := ⟨⟨by decide +kernel, by decide +kernel⟩, List.mem_of_getElem? (i := 1154) (by decide +kernel), List.mem_of_getElem? (i := 1438) (by decide +kernel), List.mem_of_getElem? (i := 1439) (by decide +kernel)⟩
theorem lw_p56 : lw_okq (⟨"HourHouseModel", "gives", "(III)I"⟩, 35) := ⟨⟨by decide +kernel, by decide +kernel⟩, List.mem_of_getElem? (i := 1154) (by decide +kernel), List.mem_of_getElem? (i := 1446) (by decide +kernel), List.mem_of_getElem? (i := 1447) (by decide +kernel)⟩
theorem lw_p57 : lw_okq (⟨"HourHouseModel", "termOf", "(I)I"⟩, 35) := ⟨⟨by decide +kernel, by decide +kernel⟩, List.mem_of_getElem? (i := 1154) (by decide +kernel), List.mem_of_getElem? (i := 1450) (by decide +kernel), List.mem_of_getElem? (i := 1451) (by decide +kernel)⟩
theorem lw_p58 : lw_okq (⟨"HourHouseModel", "beside", "(II)I"⟩, 35) := ⟨⟨by decide +kernel, by decide +kernel⟩, List.mem_of_getElem? (i := 1154) (by decide +kernel), List.mem_of_getElem? (i := 1454) (by decide +kernel), List.mem_of_getElem? (i := 1455) (by decide +kernel)⟩
theorem lw_p59 : lw_okq (⟨"HourHouseModel", "worked", "(I)I"⟩, 35) := ⟨⟨by decide +kernel, by decide +kernel⟩, List.mem_of_getElem? (i := 1154) (by decide +kernel), List.mem_of_getElem? (i := 1458) (by decide +kernel), List.mem_of_getElem? (i := 1459) (by decide +kernel)⟩
theorem lw_p60 : lw_okq (⟨"HourHouseModel", "worthOf", "(II)I"⟩, 35) := ⟨⟨by decide +kernel, by decide +kernel⟩, List.mem_of_getElem? (i := 1154) (by decide +kernel), List.mem_of_getElem? (i := 1468) (by decide +kernel), List.mem_of_getElem? (i := 1469) (by decide +kernel)⟩
theorem lw_p61 : lw_okq (⟨"HourHouseModel", "chargedOf", "(II)I"⟩, 35) := ⟨⟨by decide +kernel, by decide +kernel⟩, List.mem_of_getElem? (i := 1154) (by decide +kernel), List.mem_of_getElem? (i := 1472) (by decide +kernel), List.mem_of_getElem? (i := 1473) (by decide +kernel)⟩
theorem lw_p62 : lw_okq (⟨"HourHouseModel", "split", "(II)V"⟩, 35) := ⟨⟨by decide +kernel, by decide +kernel⟩, List.mem_of_getElem? (i := 1154) (by decide +kernel), List.mem_of_getElem? (i := 1481) (by decide +kernel), List.mem_of_getElem? (i := 1482) (by decide +kernel)⟩
theorem lw_p63 : lw_okq (⟨"HourHouseModel", "isBill", "(I)Z"⟩, 35) := ⟨⟨by decide +kernel, by decide +kernel⟩, List.mem_of_getElem? (i := 1154) (by decide +kernel), List.mem_of_getElem? (i := 1489) (by decide +kernel), List.mem_of_getElem? (i := 1490) (by decide +kernel)⟩
def lw_privs_4 : List (MethodName × Nat) := [(⟨"HourHouseModel", "begins", "()Z"⟩, 35), (⟨"HourHouseModel", "isSign", "(I)Z"⟩, 35), (⟨"HourHouseModel", "emit", "(II)V"⟩, 35), (⟨"HourHouseModel", "isName", "(I)Z"⟩, 35), (⟨"HourHouseModel", "parted", "()V"⟩, 35), (⟨"HourHouseModel", "signHere", "()I"⟩, 35), (⟨"HourHouseModel", "works", "(I)V"⟩, 35), (⟨"HourHouseModel", "termsOf", "(I)I"⟩, 35), (⟨"HourHouseModel", "gives", "(III)I"⟩, 35), (⟨"HourHouseModel", "termOf", "(I)I"⟩, 35), (⟨"HourHouseModel", "beside", "(II)I"⟩, 35), (⟨"HourHouseModel", "worked", "(I)I"⟩, 35), (⟨"HourHouseModel", "worthOf", "(II)I"⟩, 35), (⟨"HourHouseModel", "chargedOf", "(II)I"⟩, 35), (⟨"HourHouseModel", "split", "(II)V"⟩, 35), (⟨"HourHouseModel", "isBill", "(I)Z"⟩, 35)]
theorem lw_r4 : ∀ q ∈ lw_privs_4, lw_okq q := List.forall_mem_cons.mpr ⟨lw_p48, List.forall_mem_cons.mpr ⟨lw_p49, List.forall_mem_cons.mpr ⟨lw_p50, List.forall_mem_cons.mpr ⟨lw_p51, List.forall_mem_cons.mpr ⟨lw_p52, List.forall_mem_cons.mpr ⟨lw_p53, List.forall_mem_cons.mpr ⟨lw_p54, List.forall_mem_cons.mpr ⟨lw_p55, List.forall_mem_cons.mpr ⟨lw_p56, List.forall_mem_cons.mpr ⟨lw_p57, List.forall_mem_cons.mpr ⟨lw_p58, List.forall_mem_cons.mpr ⟨lw_p59, List.forall_mem_cons.mpr ⟨lw_p60, List.forall_mem_cons.mpr ⟨lw_p61, List.forall_mem_cons.mpr ⟨lw_p62, List.forall_mem_cons.mpr ⟨lw_p63, fun _ h => absurd h List.not_mem_nil⟩⟩⟩⟩⟩⟩⟩⟩⟩⟩⟩⟩⟩⟩⟩⟩
theorem lw_p64 : lw_okq (⟨"HourHouseModel", "isPayer", "(II)Z"⟩, 35) := ⟨⟨by decide +kernel, by decide +kernel⟩, List.mem_of_getElem? (i := 1154) (by decide +kernel), List.mem_of_getElem? (i := 1516) (by decide +kernel), List.mem_of_getElem? (i := 1517) (by decide +kernel)⟩
theorem lw_p65 : lw_okq (⟨"HourHouseModel", "middleOf", "(I)I"⟩, 35) := ⟨⟨by decide +kernel, by decide +kernel⟩, List.mem_of_getElem? (i := 1154) (by decide +kernel), List.mem_of_getElem? (i := 1524) (by decide +kernel), List.mem_of_getElem? (i := 1525) (by decide +kernel)⟩
theorem lw_p66 : lw_okq (⟨"HourHouseModel", "seeks", "(I)I"⟩, 35) := ⟨⟨by decide +kernel, by decide +kernel⟩, List.mem_of_getElem? (i := 1154) (by decide +kernel), List.mem_of_getElem? (i := 1564) (by decide +kernel), List.mem_of_getElem? (i := 1565) (by decide +kernel)⟩
theorem lw_p67 : lw_okq (⟨"HourHouseModel", "costOf", "(II)I"⟩, 35) := ⟨⟨by decide +kernel, by decide +kernel⟩, List.mem_of_getElem? (i := 1154) (by decide +kernel), List.mem_of_getElem? (i := 1568) (by decide +kernel), List.mem_of_getElem? (i := 1569) (by decide +kernel)⟩
theorem lw_p68 : lw_okq (⟨"HourHouseModel", "may", "(II)Z"⟩, 35) := ⟨⟨by decide +kernel, by decide +kernel⟩, List.mem_of_getElem? (i := 1154) (by decide +kernel), List.mem_of_getElem? (i := 1572) (by decide +kernel), List.mem_of_getElem? (i := 1573) (by decide +kernel)⟩
def lw_privs_5 : List (MethodName × Nat) := [(⟨"HourHouseModel", "isPayer", "(II)Z"⟩, 35), (⟨"HourHouseModel", "middleOf", "(I)I"⟩, 35), (⟨"HourHouseModel", "seeks", "(I)I"⟩, 35), (⟨"HourHouseModel", "costOf", "(II)I"⟩, 35), (⟨"HourHouseModel", "may", "(II)Z"⟩, 35)]
theorem lw_r5 : ∀ q ∈ lw_privs_5, lw_okq q := List.forall_mem_cons.mpr ⟨lw_p64, List.forall_mem_cons.mpr ⟨lw_p65, List.forall_mem_cons.mpr ⟨lw_p66, List.forall_mem_cons.mpr ⟨lw_p67, List.forall_mem_cons.mpr ⟨lw_p68, fun _ h => absurd h List.not_mem_nil⟩⟩⟩⟩⟩
def lw_privs : List (MethodName × Nat) := lw_privs_1 ++ (lw_privs_2 ++ (lw_privs_3 ++ (lw_privs_4 ++ (lw_privs_5))))
def lw_tbl : List Cond := k2_sels lw_privs ++ tables_1
theorem lw_privs_ok : ∀ q ∈ lw_privs, lw_okq q := by
  show ∀ q ∈ lw_privs_1 ++ (lw_privs_2 ++ (lw_privs_3 ++ (lw_privs_4 ++ (lw_privs_5)))), lw_okq q
  exact List.forall_mem_append.mpr ⟨lw_r1, List.forall_mem_append.mpr ⟨lw_r2, List.forall_mem_append.mpr ⟨lw_r3, List.forall_mem_append.mpr ⟨lw_r4, lw_r5⟩⟩⟩⟩
def RX0 : String := "HourHouse$Bills"
def TX0 : u_T := fun k => match k with
  | 0 => ("HourHouse$Bills", "size", "I", false)
  | 1 => ("HourHouse$Bills", "matters", "[I", true)
  | 2 => ("HourHouse$Bills", "days", "[I", true)
  | 3 => ("HourHouse$Bills", "grosses", "[I", true)
  | 4 => ("HourHouse$Bills", "nets", "[I", true)
  | 5 => ("HourHouse$Bills", "retained", "[I", true)
  | 6 => ("HourHouse$Bills", "entryCounts", "[I", true)
  | _ => ("HourHouse$Bills", "owed", "[I", true)
def tyX0 : Nat → FieldType := fun k => match k with
  | 0 => .int
  | 1 => .array .int
  | 2 => .array .int
  | 3 => .array .int
  | 4 => .array .int
  | 5 => .array .int
  | 6 => .array .int
  | _ => .array .int
theorem nmX0 : ∀ a, a < 8 → ∀ b, b < 8 → a ≠ b → (TX0 a).2.1 ≠ (TX0 b).2.1 := by decide +kernel
theorem tyX0_ok : ∀ k, k < 8 → parseFieldDescriptor (TX0 k).2.2.1 = some (tyX0 k) := by decide +kernel
abbrev cX0_init : ByteArray := prog_2_method_1_code
def yX0_init : MethodName := ⟨RX0, "<init>", "()V"⟩
abbrev cX0_has : ByteArray := prog_2_method_2_code
def yX0_has : MethodName := ⟨RX0, "has", "(I)Z"⟩
abbrev cX0_isAnyOf : ByteArray := prog_2_method_3_code
def yX0_isAnyOf : MethodName := ⟨RX0, "isAnyOf", "(I)Z"⟩
abbrev cX0_owedByAll : ByteArray := prog_2_method_4_code
def yX0_owedByAll : MethodName := ⟨RX0, "owedByAll", "(I)I"⟩
abbrev cX0_become : ByteArray := prog_2_method_5_code
def yX0_become : MethodName := ⟨RX0, "become", "(LHourHouse$Bills;)V"⟩
def RX1 : String := "HourHouse$Clients"
def TX1 : u_T := fun k => match k with
  | 0 => ("HourHouse$Clients", "size", "I", false)
  | 1 => ("HourHouse$Clients", "trusts", "[I", true)
  | 2 => ("HourHouse$Clients", "termCounts", "[I", true)
  | 3 => ("HourHouse$Clients", "termDays", "[I", true)
  | 4 => ("HourHouse$Clients", "partsEnds", "[I", true)
  | 5 => ("HourHouse$Clients", "rateEnds", "[I", true)
  | _ => ("HourHouse$Clients", "codes", "[I", true)
def tyX1 : Nat → FieldType := fun k => match k with
  | 0 => .int
  | 1 => .array .int
  | 2 => .array .int
  | 3 => .array .int
  | 4 => .array .int
  | 5 => .array .int
  | _ => .array .int
theorem nmX1 : ∀ a, a < 7 → ∀ b, b < 7 → a ≠ b → (TX1 a).2.1 ≠ (TX1 b).2.1 := by decide +kernel
theorem tyX1_ok : ∀ k, k < 7 → parseFieldDescriptor (TX1 k).2.2.1 = some (tyX1 k) := by decide +kernel
abbrev cX1_init : ByteArray := prog_3_method_1_code
def yX1_init : MethodName := ⟨RX1, "<init>", "()V"⟩
abbrev cX1_has : ByteArray := prog_3_method_2_code
def yX1_has : MethodName := ⟨RX1, "has", "(I)Z"⟩
abbrev cX1_slotOn : ByteArray := prog_3_method_3_code
def yX1_slotOn : MethodName := ⟨RX1, "slotOn", "(II)I"⟩
abbrev cX1_become : ByteArray := prog_3_method_4_code
def yX1_become : MethodName := ⟨RX1, "become", "(LHourHouse$Clients;)V"⟩
def RX2 : String := "HourHouse$Doors"
def TX2 : u_T := fun k => match k with
  | 0 => ("HourHouse$Doors", "size", "I", false)
  | 1 => ("HourHouse$Doors", "persons", "[I", true)
  | 2 => ("HourHouse$Doors", "days", "[I", true)
  | 3 => ("HourHouse$Doors", "froms", "[I", true)
  | 4 => ("HourHouse$Doors", "lengths", "[I", true)
  | _ => ("HourHouse$Doors", "toldOn", "[I", true)
def tyX2 : Nat → FieldType := fun k => match k with
  | 0 => .int
  | 1 => .array .int
  | 2 => .array .int
  | 3 => .array .int
  | 4 => .array .int
  | _ => .array .int
theorem nmX2 : ∀ a, a < 6 → ∀ b, b < 6 → a ≠ b → (TX2 a).2.1 ≠ (TX2 b).2.1 := by decide +kernel
theorem tyX2_ok : ∀ k, k < 6 → parseFieldDescriptor (TX2 k).2.2.1 = some (tyX2 k) := by decide +kernel
abbrev cX2_init : ByteArray := prog_4_method_1_code
def yX2_init : MethodName := ⟨RX2, "<init>", "()V"⟩
abbrev cX2_layOut : ByteArray := prog_4_method_2_code
def yX2_layOut : MethodName := ⟨RX2, "layOut", "(III[I)I"⟩
abbrev cX2_become : ByteArray := prog_4_method_3_code
def yX2_become : MethodName := ⟨RX2, "become", "(LHourHouse$Doors;)V"⟩
def RX3 : String := "HourHouse$Entries"
def TX3 : u_T := fun k => match k with
  | 0 => ("HourHouse$Entries", "size", "I", false)
  | 1 => ("HourHouse$Entries", "persons", "[I", true)
  | 2 => ("HourHouse$Entries", "matters", "[I", true)
  | 3 => ("HourHouse$Entries", "days", "[I", true)
  | 4 => ("HourHouse$Entries", "froms", "[I", true)
  | 5 => ("HourHouse$Entries", "lengths", "[I", true)
  | 6 => ("HourHouse$Entries", "codes", "[I", true)
  | 7 => ("HourHouse$Entries", "toldOn", "[I", true)
  | 8 => ("HourHouse$Entries", "withdrawnOn", "[I", true)
  | 9 => ("HourHouse$Entries", "bills", "[I", true)
  | 10 => ("HourHouse$Entries", "charges", "[I", true)
  | _ => ("HourHouse$Entries", "cuts", "[I", true)
def tyX3 : Nat → FieldType := fun k => match k with
  | 0 => .int
  | 1 => .array .int
  | 2 => .array .int
  | 3 => .array .int
  | 4 => .array .int
  | 5 => .array .int
  | 6 => .array .int
  | 7 => .array .int
  | 8 => .array .int
  | 9 => .array .int
  | 10 => .array .int
  | _ => .array .int
theorem nmX3 : ∀ a, a < 12 → ∀ b, b < 12 → a ≠ b → (TX3 a).2.1 ≠ (TX3 b).2.1 := by decide +kernel
theorem tyX3_ok : ∀ k, k < 12 → parseFieldDescriptor (TX3 k).2.2.1 = some (tyX3 k) := by decide +kernel
abbrev cX3_init : ByteArray := prog_5_method_1_code
def yX3_init : MethodName := ⟨RX3, "<init>", "()V"⟩
abbrev cX3_has : ByteArray := prog_5_method_2_code
def yX3_has : MethodName := ⟨RX3, "has", "(I)Z"⟩
abbrev cX3_isKnown : ByteArray := prog_5_method_3_code
def yX3_isKnown : MethodName := ⟨RX3, "isKnown", "(II)Z"⟩
abbrev cX3_meet : ByteArray := prog_5_method_4_code
def yX3_meet : MethodName := ⟨RX3, "meet", "(II)Z"⟩
abbrev cX3_layOut : ByteArray := prog_5_method_5_code
def yX3_layOut : MethodName := ⟨RX3, "layOut", "(III[I)I"⟩
abbrev cX3_become : ByteArray := prog_5_method_6_code
def yX3_become : MethodName := ⟨RX3, "become", "(LHourHouse$Entries;)V"⟩
def RX4 : String := "HourHouse$House"
def TX4 : u_T := fun k => match k with
  | 0 => ("HourHouse$House", "people", "LHourHouse$People;", true)
  | 1 => ("HourHouse$House", "clients", "LHourHouse$Clients;", true)
  | 2 => ("HourHouse$House", "matters", "LHourHouse$Matters;", true)
  | 3 => ("HourHouse$House", "entries", "LHourHouse$Entries;", true)
  | 4 => ("HourHouse$House", "doors", "LHourHouse$Doors;", true)
  | 5 => ("HourHouse$House", "bills", "LHourHouse$Bills;", true)
  | 6 => ("HourHouse$House", "tasks", "LHourHouse$Tasks;", true)
  | 7 => ("HourHouse$House", "rules", "[I", true)
  | _ => ("HourHouse$House", "today", "I", false)
def tyX4 : Nat → FieldType := fun k => match k with
  | 0 => .object "HourHouse$People"
  | 1 => .object "HourHouse$Clients"
  | 2 => .object "HourHouse$Matters"
  | 3 => .object "HourHouse$Entries"
  | 4 => .object "HourHouse$Doors"
  | 5 => .object "HourHouse$Bills"
  | 6 => .object "HourHouse$Tasks"
  | 7 => .array .int
  | _ => .int
theorem nmX4 : ∀ a, a < 9 → ∀ b, b < 9 → a ≠ b → (TX4 a).2.1 ≠ (TX4 b).2.1 := by decide +kernel
theorem tyX4_ok : ∀ k, k < 9 → parseFieldDescriptor (TX4 k).2.2.1 = some (tyX4 k) := by decide +kernel
abbrev cX4_init : ByteArray := prog_6_method_1_code
def yX4_init : MethodName := ⟨RX4, "<init>", "()V"⟩
abbrev cX4_become : ByteArray := prog_6_method_2_code
def yX4_become : MethodName := ⟨RX4, "become", "(LHourHouse$House;)V"⟩
def RX5 : String := "HourHouse$Matters"
def TX5 : u_T := fun k => match k with
  | 0 => ("HourHouse$Matters", "size", "I", false)
  | 1 => ("HourHouse$Matters", "kinds", "[I", true)
  | 2 => ("HourHouse$Matters", "clients", "[I", true)
  | 3 => ("HourHouse$Matters", "fees", "[I", true)
  | 4 => ("HourHouse$Matters", "payerCounts", "[I", true)
  | 5 => ("HourHouse$Matters", "payerClients", "[I", true)
  | 6 => ("HourHouse$Matters", "payerShares", "[I", true)
  | 7 => ("HourHouse$Matters", "walls", "[I", true)
  | 8 => ("HourHouse$Matters", "retainers", "[I", true)
  | 9 => ("HourHouse$Matters", "stages", "[I", true)
  | _ => ("HourHouse$Matters", "sofars", "[I", true)
def tyX5 : Nat → FieldType := fun k => match k with
  | 0 => .int
  | 1 => .array .int
  | 2 => .array .int
  | 3 => .array .int
  | 4 => .array .int
  | 5 => .array .int
  | 6 => .array .int
  | 7 => .array .int
  | 8 => .array .int
  | 9 => .array .int
  | _ => .array .int
theorem nmX5 : ∀ a, a < 11 → ∀ b, b < 11 → a ≠ b → (TX5 a).2.1 ≠ (TX5 b).2.1 := by decide +kernel
theorem tyX5_ok : ∀ k, k < 11 → parseFieldDescriptor (TX5 k).2.2.1 = some (tyX5 k) := by decide +kernel
abbrev cX5_init : ByteArray := prog_7_method_1_code
def yX5_init : MethodName := ⟨RX5, "<init>", "()V"⟩
abbrev cX5_has : ByteArray := prog_7_method_2_code
def yX5_has : MethodName := ⟨RX5, "has", "(I)Z"⟩
abbrev cX5_begin : ByteArray := prog_7_method_3_code
def yX5_begin : MethodName := ⟨RX5, "begin", "(III)I"⟩
abbrev cX5_putPayer : ByteArray := prog_7_method_4_code
def yX5_putPayer : MethodName := ⟨RX5, "putPayer", "(III)V"⟩
abbrev cX5_isUnder : ByteArray := prog_7_method_5_code
def yX5_isUnder : MethodName := ⟨RX5, "isUnder", "(II)Z"⟩
abbrev cX5_hasWall : ByteArray := prog_7_method_6_code
def yX5_hasWall : MethodName := ⟨RX5, "hasWall", "(II)Z"⟩
abbrev cX5_payerPlace : ByteArray := prog_7_method_7_code
def yX5_payerPlace : MethodName := ⟨RX5, "payerPlace", "(II)I"⟩
abbrev cX5_split : ByteArray := prog_7_method_8_code
def yX5_split : MethodName := ⟨RX5, "split", "(II[I)V"⟩
abbrev cX5_become : ByteArray := prog_7_method_9_code
def yX5_become : MethodName := ⟨RX5, "become", "(LHourHouse$Matters;)V"⟩
def RX6 : String := "HourHouse$People"
def TX6 : u_T := fun k => match k with
  | 0 => ("HourHouse$People", "size", "I", false)
  | 1 => ("HourHouse$People", "kinds", "[I", true)
  | 2 => ("HourHouse$People", "rates", "[I", true)
  | _ => ("HourHouse$People", "spares", "[I", true)
def tyX6 : Nat → FieldType := fun k => match k with
  | 0 => .int
  | 1 => .array .int
  | 2 => .array .int
  | _ => .array .int
theorem nmX6 : ∀ a, a < 4 → ∀ b, b < 4 → a ≠ b → (TX6 a).2.1 ≠ (TX6 b).2.1 := by decide +kernel
theorem tyX6_ok : ∀ k, k < 4 → parseFieldDescriptor (TX6 k).2.2.1 = some (tyX6 k) := by decide +kernel
abbrev cX6_init : ByteArray := prog_8_method_1_code
def yX6_init : MethodName := ⟨RX6, "<init>", "()V"⟩
abbrev cX6_has : ByteArray := prog_8_method_2_code
def yX6_has : MethodName := ⟨RX6, "has", "(I)Z"⟩
abbrev cX6_isUnder : ByteArray := prog_8_method_3_code
def yX6_isUnder : MethodName := ⟨RX6, "isUnder", "(II)Z"⟩
abbrev cX6_become : ByteArray := prog_8_method_4_code
def yX6_become : MethodName := ⟨RX6, "become", "(LHourHouse$People;)V"⟩
def RX7 : String := "HourHouse$Planner"
def TX7 : u_T := fun k => match k with
  | 0 => ("HourHouse$Planner", "house", "LHourHouse$House;", true)
  | 1 => ("HourHouse$Planner", "may", "[Z", true)
  | 2 => ("HourHouse$Planner", "left", "[I", true)
  | 3 => ("HourHouse$Planner", "chosen", "[I", true)
  | 4 => ("HourHouse$Planner", "best", "[I", true)
  | 5 => ("HourHouse$Planner", "bestCost", "I", false)
  | _ => ("HourHouse$Planner", "triesLeft", "I", false)
def tyX7 : Nat → FieldType := fun k => match k with
  | 0 => .object "HourHouse$House"
  | 1 => .array .boolean
  | 2 => .array .int
  | 3 => .array .int
  | 4 => .array .int
  | 5 => .int
  | _ => .int
theorem nmX7 : ∀ a, a < 7 → ∀ b, b < 7 → a ≠ b → (TX7 a).2.1 ≠ (TX7 b).2.1 := by decide +kernel
theorem tyX7_ok : ∀ k, k < 7 → parseFieldDescriptor (TX7 k).2.2.1 = some (tyX7 k) := by decide +kernel
abbrev cX7_init : ByteArray := prog_9_method_1_code
def yX7_init : MethodName := ⟨RX7, "<init>", "(LHourHouse$House;)V"⟩
abbrev cX7_seek : ByteArray := prog_9_method_2_code
def yX7_seek : MethodName := ⟨RX7, "seek", "(I)I"⟩
abbrev cX7_seekFrom : ByteArray := prog_9_method_3_code
def yX7_seekFrom : MethodName := ⟨RX7, "seekFrom", "(II)Z"⟩
abbrev cX7_takeIfLess : ByteArray := prog_9_method_4_code
def yX7_takeIfLess : MethodName := ⟨RX7, "takeIfLess", "(I)V"⟩
abbrev cX7_costOf : ByteArray := prog_9_method_5_code
def yX7_costOf : MethodName := ⟨RX7, "costOf", "(II)I"⟩
def RX8 : String := "HourHouse$Tape"
def TX8 : u_T := fun k => match k with
  | 0 => ("HourHouse$Tape", "bytes", "[B", true)
  | 1 => ("HourHouse$Tape", "size", "I", false)
  | 2 => ("HourHouse$Tape", "code", "[I", true)
  | 3 => ("HourHouse$Tape", "codeSize", "I", false)
  | 4 => ("HourHouse$Tape", "partsEnd", "I", false)
  | 5 => ("HourHouse$Tape", "leaves", "I", false)
  | 6 => ("HourHouse$Tape", "kind", "I", false)
  | 7 => ("HourHouse$Tape", "start", "I", false)
  | 8 => ("HourHouse$Tape", "end", "I", false)
  | 9 => ("HourHouse$Tape", "openBrackets", "I", false)
  | 10 => ("HourHouse$Tape", "openNots", "I", false)
  | _ => ("HourHouse$Tape", "fault", "I", false)
def tyX8 : Nat → FieldType := fun k => match k with
  | 0 => .array .byte
  | 1 => .int
  | 2 => .array .int
  | 3 => .int
  | 4 => .int
  | 5 => .int
  | 6 => .int
  | 7 => .int
  | 8 => .int
  | 9 => .int
  | 10 => .int
  | _ => .int
theorem nmX8 : ∀ a, a < 12 → ∀ b, b < 12 → a ≠ b → (TX8 a).2.1 ≠ (TX8 b).2.1 := by decide +kernel
theorem tyX8_ok : ∀ k, k < 12 → parseFieldDescriptor (TX8 k).2.2.1 = some (tyX8 k) := by decide +kernel
abbrev cX8_init : ByteArray := prog_10_method_1_code
def yX8_init : MethodName := ⟨RX8, "<init>", "()V"⟩
abbrev cX8_putFour : ByteArray := prog_10_method_2_code
def yX8_putFour : MethodName := ⟨RX8, "putFour", "(I)V"⟩
abbrev cX8_readText : ByteArray := prog_10_method_3_code
def yX8_readText : MethodName := ⟨RX8, "readText", "()I"⟩
abbrev cX8_fail : ByteArray := prog_10_method_4_code
def yX8_fail : MethodName := ⟨RX8, "fail", "()V"⟩
abbrev cX8_readNext : ByteArray := prog_10_method_5_code
def yX8_readNext : MethodName := ⟨RX8, "readNext", "()V"⟩
abbrev cX8_isDigit : ByteArray := prog_10_method_6_code
def yX8_isDigit : MethodName := ⟨RX8, "isDigit", "(B)Z"⟩
abbrev cX8_isLetter : ByteArray := prog_10_method_7_code
def yX8_isLetter : MethodName := ⟨RX8, "isLetter", "(B)Z"⟩
abbrev cX8_endOfDigits : ByteArray := prog_10_method_8_code
def yX8_endOfDigits : MethodName := ⟨RX8, "endOfDigits", "(I)I"⟩
abbrev cX8_endOfLetters : ByteArray := prog_10_method_9_code
def yX8_endOfLetters : MethodName := ⟨RX8, "endOfLetters", "(I)I"⟩
abbrev cX8_readKeyword : ByteArray := prog_10_method_10_code
def yX8_readKeyword : MethodName := ⟨RX8, "readKeyword", "(Ljava/lang/String;)V"⟩
abbrev cX8_isAtWord : ByteArray := prog_10_method_11_code
def yX8_isAtWord : MethodName := ⟨RX8, "isAtWord", "(Ljava/lang/String;)Z"⟩
abbrev cX8_isAtSign : ByteArray := prog_10_method_12_code
def yX8_isAtSign : MethodName := ⟨RX8, "isAtSign", "(C)Z"⟩
abbrev cX8_put : ByteArray := prog_10_method_13_code
def yX8_put : MethodName := ⟨RX8, "put", "(I)V"⟩
abbrev cX8_readOr : ByteArray := prog_10_method_14_code
def yX8_readOr : MethodName := ⟨RX8, "readOr", "()V"⟩
abbrev cX8_readAnd : ByteArray := prog_10_method_15_code
def yX8_readAnd : MethodName := ⟨RX8, "readAnd", "()V"⟩
abbrev cX8_readTest : ByteArray := prog_10_method_16_code
def yX8_readTest : MethodName := ⟨RX8, "readTest", "()V"⟩
abbrev cX8_readSum : ByteArray := prog_10_method_17_code
def yX8_readSum : MethodName := ⟨RX8, "readSum", "()V"⟩
abbrev cX8_readTerm : ByteArray := prog_10_method_18_code
def yX8_readTerm : MethodName := ⟨RX8, "readTerm", "()V"⟩
abbrev cX8_readPart : ByteArray := prog_10_method_19_code
def yX8_readPart : MethodName := ⟨RX8, "readPart", "()V"⟩
abbrev cX8_readNumber : ByteArray := prog_10_method_20_code
def yX8_readNumber : MethodName := ⟨RX8, "readNumber", "()V"⟩
abbrev cX8_readBrackets : ByteArray := prog_10_method_21_code
def yX8_readBrackets : MethodName := ⟨RX8, "readBrackets", "()V"⟩
def RX9 : String := "HourHouse$Tasks"
def TX9 : u_T := fun k => match k with
  | 0 => ("HourHouse$Tasks", "size", "I", false)
  | 1 => ("HourHouse$Tasks", "matters", "[I", true)
  | 2 => ("HourHouse$Tasks", "parts", "[I", true)
  | _ => ("HourHouse$Tasks", "leasts", "[I", true)
def tyX9 : Nat → FieldType := fun k => match k with
  | 0 => .int
  | 1 => .array .int
  | 2 => .array .int
  | _ => .array .int
theorem nmX9 : ∀ a, a < 4 → ∀ b, b < 4 → a ≠ b → (TX9 a).2.1 ≠ (TX9 b).2.1 := by decide +kernel
theorem tyX9_ok : ∀ k, k < 4 → parseFieldDescriptor (TX9 k).2.2.1 = some (tyX9 k) := by decide +kernel
abbrev cX9_init : ByteArray := prog_11_method_1_code
def yX9_init : MethodName := ⟨RX9, "<init>", "()V"⟩
abbrev cX9_become : ByteArray := prog_11_method_2_code
def yX9_become : MethodName := ⟨RX9, "become", "(LHourHouse$Tasks;)V"⟩
def RX10 : String := "HourHouse$Worths"
def TX10 : u_T := fun k => match k with
  | 0 => ("HourHouse$Worths", "house", "LHourHouse$House;", true)
  | 1 => ("HourHouse$Worths", "stack", "[I", true)
  | 2 => ("HourHouse$Worths", "order", "[I", true)
  | 3 => ("HourHouse$Worths", "likes", "[I", true)
  | _ => ("HourHouse$Worths", "charges", "[I", true)
def tyX10 : Nat → FieldType := fun k => match k with
  | 0 => .object "HourHouse$House"
  | 1 => .array .int
  | 2 => .array .int
  | 3 => .array .int
  | _ => .array .int
theorem nmX10 : ∀ a, a < 5 → ∀ b, b < 5 → a ≠ b → (TX10 a).2.1 ≠ (TX10 b).2.1 := by decide +kernel
theorem tyX10_ok : ∀ k, k < 5 → parseFieldDescriptor (TX10 k).2.2.1 = some (tyX10 k) := by decide +kernel
abbrev cX10_init : ByteArray := prog_12_method_1_code
def yX10_init : MethodName := ⟨RX10, "<init>", "(LHourHouse$House;)V"⟩
abbrev cX10_countedOf : ByteArray := prog_12_method_2_code
def yX10_countedOf : MethodName := ⟨RX10, "countedOf", "(II)I"⟩
abbrev cX10_atOf : ByteArray := prog_12_method_3_code
def yX10_atOf : MethodName := ⟨RX10, "atOf", "(II)I"⟩
abbrev cX10_worthOf : ByteArray := prog_12_method_4_code
def yX10_worthOf : MethodName := ⟨RX10, "worthOf", "(II)I"⟩
abbrev cX10_slotOf : ByteArray := prog_12_method_5_code
def yX10_slotOf : MethodName := ⟨RX10, "slotOf", "(I)I"⟩
abbrev cX10_workOut : ByteArray := prog_12_method_6_code
def yX10_workOut : MethodName := ⟨RX10, "workOut", "(IIII)I"⟩
abbrev cX10_combine : ByteArray := prog_12_method_7_code
def yX10_combine : MethodName := ⟨RX10, "combine", "(III)I"⟩
abbrev cX10_nameOf : ByteArray := prog_12_method_8_code
def yX10_nameOf : MethodName := ⟨RX10, "nameOf", "(III)I"⟩
abbrev cX10_othersMet : ByteArray := prog_12_method_9_code
def yX10_othersMet : MethodName := ⟨RX10, "othersMet", "(II)I"⟩
abbrev cX10_chargeMatter : ByteArray := prog_12_method_10_code
def yX10_chargeMatter : MethodName := ⟨RX10, "chargeMatter", "(II)I"⟩
abbrev cX10_putInOrder : ByteArray := prog_12_method_11_code
def yX10_putInOrder : MethodName := ⟨RX10, "putInOrder", "(II)I"⟩
abbrev cX10_middleFor : ByteArray := prog_12_method_12_code
def yX10_middleFor : MethodName := ⟨RX10, "middleFor", "(I)I"⟩
abbrev cX10_isLike : ByteArray := prog_12_method_13_code
def yX10_isLike : MethodName := ⟨RX10, "isLike", "(II)Z"⟩
def RX11 : String := "HourHouse"
def TX11 : u_T := fun k => match k with
  | 0 => ("HourHouse", "now", "LHourHouse$House;", true)
  | 1 => ("HourHouse", "image", "LHourHouse$House;", true)
  | 2 => ("HourHouse", "imageKept", "Z", false)
  | 3 => ("HourHouse", "tape", "LHourHouse$Tape;", true)
  | 4 => ("HourHouse", "worths", "LHourHouse$Worths;", true)
  | 5 => ("HourHouse", "planner", "LHourHouse$Planner;", true)
  | 6 => ("HourHouse", "waiting", "[I", true)
  | 7 => ("HourHouse", "waitingSize", "I", false)
  | 8 => ("HourHouse", "places", "[S", true)
  | 9 => ("HourHouse", "sheetSizes", "[I", true)
  | 10 => ("HourHouse", "inEntries", "[I", true)
  | 11 => ("HourHouse", "inDoors", "[I", true)
  | _ => ("HourHouse", "pieces", "[I", true)
def tyX11 : Nat → FieldType := fun k => match k with
  | 0 => .object "HourHouse$House"
  | 1 => .object "HourHouse$House"
  | 2 => .boolean
  | 3 => .object "HourHouse$Tape"
  | 4 => .object "HourHouse$Worths"
  | 5 => .object "HourHouse$Planner"
  | 6 => .array .int
  | 7 => .int
  | 8 => .array .short
  | 9 => .array .int
  | 10 => .array .int
  | 11 => .array .int
  | _ => .array .int
theorem nmX11 : ∀ a, a < 13 → ∀ b, b < 13 → a ≠ b → (TX11 a).2.1 ≠ (TX11 b).2.1 := by decide +kernel
theorem tyX11_ok : ∀ k, k < 13 → parseFieldDescriptor (TX11 k).2.2.1 = some (tyX11 k) := by decide +kernel
abbrev cX11_init : ByteArray := prog_1_method_1_code
def yX11_init : MethodName := ⟨RX11, "<init>", "()V"⟩
abbrev cX11_person : ByteArray := prog_1_method_2_code
def yX11_person : MethodName := ⟨RX11, "person", "(II)I"⟩
abbrev cX11_is : ByteArray := prog_1_method_3_code
def yX11_is : MethodName := ⟨RX11, "is", "(II)I"⟩
abbrev cX11_client : ByteArray := prog_1_method_4_code
def yX11_client : MethodName := ⟨RX11, "client", "()I"⟩
abbrev cX11_matter : ByteArray := prog_1_method_5_code
def yX11_matter : MethodName := ⟨RX11, "matter", "(III)I"⟩
abbrev cX11_isOf : ByteArray := prog_1_method_6_code
def yX11_isOf : MethodName := ⟨RX11, "isOf", "(II)I"⟩
abbrev cX11_payers : ByteArray := prog_1_method_7_code
def yX11_payers : MethodName := ⟨RX11, "payers", "(IIII)I"⟩
abbrev cX11_wall : ByteArray := prog_1_method_8_code
def yX11_wall : MethodName := ⟨RX11, "wall", "(III)I"⟩
abbrev cX11_days : ByteArray := prog_1_method_9_code
def yX11_days : MethodName := ⟨RX11, "days", "(I)I"⟩
abbrev cX11_rule : ByteArray := prog_1_method_10_code
def yX11_rule : MethodName := ⟨RX11, "rule", "(II)I"⟩
abbrev cX11_entry : ByteArray := prog_1_method_11_code
def yX11_entry : MethodName := ⟨RX11, "entry", "(IIIII)I"⟩
abbrev cX11_withdraw : ByteArray := prog_1_method_12_code
def yX11_withdraw : MethodName := ⟨RX11, "withdraw", "(I)I"⟩
abbrev cX11_door : ByteArray := prog_1_method_13_code
def yX11_door : MethodName := ⟨RX11, "door", "(III)I"⟩
abbrev cX11_written : ByteArray := prog_1_method_14_code
def yX11_written : MethodName := ⟨RX11, "written", "(IIII)I"⟩
abbrev cX11_told : ByteArray := prog_1_method_15_code
def yX11_told : MethodName := ⟨RX11, "told", "(II)I"⟩
abbrev cX11_worth : ByteArray := prog_1_method_16_code
def yX11_worth : MethodName := ⟨RX11, "worth", "(III)I"⟩
abbrev cX11_feed : ByteArray := prog_1_method_17_code
def yX11_feed : MethodName := ⟨RX11, "feed", "(III)I"⟩
abbrev cX11_trim : ByteArray := prog_1_method_18_code
def yX11_trim : MethodName := ⟨RX11, "trim", "(I)I"⟩
abbrev cX11_terms : ByteArray := prog_1_method_19_code
def yX11_terms : MethodName := ⟨RX11, "terms", "(II)I"⟩
abbrev cX11_bill : ByteArray := prog_1_method_20_code
def yX11_bill : MethodName := ⟨RX11, "bill", "(III)I"⟩
abbrev cX11_about : ByteArray := prog_1_method_21_code
def yX11_about : MethodName := ⟨RX11, "about", "(II)I"⟩
abbrev cX11_owes : ByteArray := prog_1_method_22_code
def yX11_owes : MethodName := ⟨RX11, "owes", "(III)I"⟩
abbrev cX11_retain : ByteArray := prog_1_method_23_code
def yX11_retain : MethodName := ⟨RX11, "retain", "(II)I"⟩
abbrev cX11_trust : ByteArray := prog_1_method_24_code
def yX11_trust : MethodName := ⟨RX11, "trust", "(II)I"⟩
abbrev cX11_draw : ByteArray := prog_1_method_25_code
def yX11_draw : MethodName := ⟨RX11, "draw", "(II)I"⟩
abbrev cX11_pay : ByteArray := prog_1_method_26_code
def yX11_pay : MethodName := ⟨RX11, "pay", "(III)I"⟩
abbrev cX11_contest : ByteArray := prog_1_method_27_code
def yX11_contest : MethodName := ⟨RX11, "contest", "(I)I"⟩
abbrev cX11_middle : ByteArray := prog_1_method_28_code
def yX11_middle : MethodName := ⟨RX11, "middle", "(I)I"⟩
abbrev cX11_stage : ByteArray := prog_1_method_29_code
def yX11_stage : MethodName := ⟨RX11, "stage", "(II)I"⟩
abbrev cX11_foretold : ByteArray := prog_1_method_30_code
def yX11_foretold : MethodName := ⟨RX11, "foretold", "(II)I"⟩
abbrev cX11_task : ByteArray := prog_1_method_31_code
def yX11_task : MethodName := ⟨RX11, "task", "(III)I"⟩
abbrev cX11_clear : ByteArray := prog_1_method_32_code
def yX11_clear : MethodName := ⟨RX11, "clear", "()I"⟩
abbrev cX11_free : ByteArray := prog_1_method_33_code
def yX11_free : MethodName := ⟨RX11, "free", "(II)I"⟩
abbrev cX11_lay : ByteArray := prog_1_method_34_code
def yX11_lay : MethodName := ⟨RX11, "lay", "(I)I"⟩
abbrev cX11_plan : ByteArray := prog_1_method_35_code
def yX11_plan : MethodName := ⟨RX11, "plan", "(I)I"⟩
abbrev cX11_planned : ByteArray := prog_1_method_36_code
def yX11_planned : MethodName := ⟨RX11, "planned", "(II)I"⟩
abbrev cX11_tell : ByteArray := prog_1_method_37_code
def yX11_tell : MethodName := ⟨RX11, "tell", "(I)I"⟩
abbrev cX11_check : ByteArray := prog_1_method_38_code
def yX11_check : MethodName := ⟨RX11, "check", "()I"⟩
abbrev cX11_keep : ByteArray := prog_1_method_39_code
def yX11_keep : MethodName := ⟨RX11, "keep", "()I"⟩
abbrev cX11_back : ByteArray := prog_1_method_40_code
def yX11_back : MethodName := ⟨RX11, "back", "()I"⟩
abbrev cX11_sheet : ByteArray := prog_1_method_41_code
def yX11_sheet : MethodName := ⟨RX11, "sheet", "(II)I"⟩
abbrev cX11_mark : ByteArray := prog_1_method_42_code
def yX11_mark : MethodName := ⟨RX11, "mark", "(III)I"⟩
abbrev cX11_copy : ByteArray := prog_1_method_43_code
def yX11_copy : MethodName := ⟨RX11, "copy", "(IIIII)I"⟩
abbrev cX11_count : ByteArray := prog_1_method_44_code
def yX11_count : MethodName := ⟨RX11, "count", "(I)I"⟩
abbrev cX11_within : ByteArray := prog_1_method_45_code
def yX11_within : MethodName := ⟨RX11, "within", "(III)Z"⟩
abbrev cX11_sumOf : ByteArray := prog_1_method_46_code
def yX11_sumOf : MethodName := ⟨RX11, "sumOf", "([II)I"⟩
abbrev cX11_takeOver : ByteArray := prog_1_method_47_code
def yX11_takeOver : MethodName := ⟨RX11, "takeOver", "([I[I)V"⟩
abbrev cX11_mostOfRule : ByteArray := prog_1_method_48_code
def yX11_mostOfRule : MethodName := ⟨RX11, "mostOfRule", "(I)I"⟩
abbrev cX11_isPast : ByteArray := prog_1_method_49_code
def yX11_isPast : MethodName := ⟨RX11, "isPast", "(I)Z"⟩
abbrev cX11_isSpan : ByteArray := prog_1_method_50_code
def yX11_isSpan : MethodName := ⟨RX11, "isSpan", "(I)Z"⟩
abbrev cX11_isPayer : ByteArray := prog_1_method_51_code
def yX11_isPayer : MethodName := ⟨RX11, "isPayer", "(I)Z"⟩
abbrev cX11_partsInTwo : ByteArray := prog_1_method_52_code
def yX11_partsInTwo : MethodName := ⟨RX11, "partsInTwo", "()I"⟩
abbrev cX11_partsBeyond : ByteArray := prog_1_method_53_code
def yX11_partsBeyond : MethodName := ⟨RX11, "partsBeyond", "(III)I"⟩
abbrev cX11_takeEntries : ByteArray := prog_1_method_54_code
def yX11_takeEntries : MethodName := ⟨RX11, "takeEntries", "(III)I"⟩
abbrev cX11_owedPlace : ByteArray := prog_1_method_55_code
def yX11_owedPlace : MethodName := ⟨RX11, "owedPlace", "(II)I"⟩
abbrev cX11_interestOf : ByteArray := prog_1_method_56_code
def yX11_interestOf : MethodName := ⟨RX11, "interestOf", "(II)I"⟩
abbrev cX11_canGiveBack : ByteArray := prog_1_method_57_code
def yX11_canGiveBack : MethodName := ⟨RX11, "canGiveBack", "(I)Z"⟩
abbrev cX11_giveBack : ByteArray := prog_1_method_58_code
def yX11_giveBack : MethodName := ⟨RX11, "giveBack", "(I)V"⟩
abbrev cX11_hasPlaces : ByteArray := prog_1_method_59_code
def yX11_hasPlaces : MethodName := ⟨RX11, "hasPlaces", "(III)Z"⟩
def RX12 : String := "HourHouseModel"
def TX12 : u_T := fun k => match k with
  | 0 => ("HourHouseModel", "s", "[I", true)
  | 1 => ("HourHouseModel", "kept", "[I", true)
  | 2 => ("HourHouseModel", "isKept", "Z", false)
  | 3 => ("HourHouseModel", "writtenAt", "[I", true)
  | 4 => ("HourHouseModel", "doorAt", "[I", true)
  | 5 => ("HourHouseModel", "tape", "[I", true)
  | 6 => ("HourHouseModel", "taped", "I", false)
  | 7 => ("HourHouseModel", "from", "I", false)
  | 8 => ("HourHouseModel", "to", "I", false)
  | 9 => ("HourHouseModel", "last", "I", false)
  | 10 => ("HourHouseModel", "sort", "I", false)
  | 11 => ("HourHouseModel", "fault", "I", false)
  | 12 => ("HourHouseModel", "isBad", "Z", false)
  | 13 => ("HourHouseModel", "clause", "I", false)
  | 14 => ("HourHouseModel", "wordMany", "I", false)
  | 15 => ("HourHouseModel", "tally", "I", false)
  | 16 => ("HourHouseModel", "words", "[I", true)
  | 17 => ("HourHouseModel", "open", "[I", true)
  | 18 => ("HourHouseModel", "opens", "I", false)
  | 19 => ("HourHouseModel", "parens", "I", false)
  | 20 => ("HourHouseModel", "prefixes", "I", false)
  | 21 => ("HourHouseModel", "pile", "[I", true)
  | 22 => ("HourHouseModel", "named", "[I", true)
  | 23 => ("HourHouseModel", "splits", "[I", true)
  | 24 => ("HourHouseModel", "likes", "[I", true)
  | 25 => ("HourHouseModel", "chosen", "[I", true)
  | 26 => ("HourHouseModel", "trying", "[I", true)
  | 27 => ("HourHouseModel", "best", "[I", true)
  | 28 => ("HourHouseModel", "left", "[I", true)
  | 29 => ("HourHouseModel", "bestCost", "I", false)
  | 30 => ("HourHouseModel", "numbers", "[I", true)
  | 31 => ("HourHouseModel", "waiting", "I", false)
  | 32 => ("HourHouseModel", "sheets", "[I", true)
  | 33 => ("HourHouseModel", "sizes", "[I", true)
  | _ => ("HourHouseModel", "moved", "[I", true)
def tyX12 : Nat → FieldType := fun k => match k with
  | 0 => .array .int
  | 1 => .array .int
  | 2 => .boolean
  | 3 => .array .int
  | 4 => .array .int
  | 5 => .array .int
  | 6 => .int
  | 7 => .int
  | 8 => .int
  | 9 => .int
  | 10 => .int
  | 11 => .int
  | 12 => .boolean
  | 13 => .int
  | 14 => .int
  | 15 => .int
  | 16 => .array .int
  | 17 => .array .int
  | 18 => .int
  | 19 => .int
  | 20 => .int
  | 21 => .array .int
  | 22 => .array .int
  | 23 => .array .int
  | 24 => .array .int
  | 25 => .array .int
  | 26 => .array .int
  | 27 => .array .int
  | 28 => .array .int
  | 29 => .int
  | 30 => .array .int
  | 31 => .int
  | 32 => .array .int
  | 33 => .array .int
  | _ => .array .int
theorem nmX12 : ∀ a, a < 35 → ∀ b, b < 35 → a ≠ b → (TX12 a).2.1 ≠ (TX12 b).2.1 := by decide +kernel
theorem tyX12_ok : ∀ k, k < 35 → parseFieldDescriptor (TX12 k).2.2.1 = some (tyX12 k) := by decide +kernel
abbrev cX12_init : ByteArray := prog_14_method_1_code
def yX12_init : MethodName := ⟨RX12, "<init>", "()V"⟩
abbrev cX12_in : ByteArray := prog_14_method_3_code
def yX12_in : MethodName := ⟨RX12, "in", "(III)Z"⟩
abbrev cX12_less : ByteArray := prog_14_method_4_code
def yX12_less : MethodName := ⟨RX12, "less", "(II)I"⟩
abbrev cX12_more : ByteArray := prog_14_method_5_code
def yX12_more : MethodName := ⟨RX12, "more", "(II)I"⟩
abbrev cX12_orNone : ByteArray := prog_14_method_6_code
def yX12_orNone : MethodName := ⟨RX12, "orNone", "(I)I"⟩
abbrev cX12_isPerson : ByteArray := prog_14_method_7_code
def yX12_isPerson : MethodName := ⟨RX12, "isPerson", "(I)Z"⟩
abbrev cX12_isClient : ByteArray := prog_14_method_8_code
def yX12_isClient : MethodName := ⟨RX12, "isClient", "(I)Z"⟩
abbrev cX12_isMatter : ByteArray := prog_14_method_9_code
def yX12_isMatter : MethodName := ⟨RX12, "isMatter", "(I)Z"⟩
abbrev cX12_isEntry : ByteArray := prog_14_method_10_code
def yX12_isEntry : MethodName := ⟨RX12, "isEntry", "(I)Z"⟩
abbrev cX12_isBill : ByteArray := prog_14_method_11_code
def yX12_isBill : MethodName := ⟨RX12, "isBill", "(I)Z"⟩
abbrev cX12_isPast : ByteArray := prog_14_method_12_code
def yX12_isPast : MethodName := ⟨RX12, "isPast", "(I)Z"⟩
abbrev cX12_person : ByteArray := prog_14_method_13_code
def yX12_person : MethodName := ⟨RX12, "person", "(II)I"⟩
abbrev cX12_is : ByteArray := prog_14_method_14_code
def yX12_is : MethodName := ⟨RX12, "is", "(II)I"⟩
abbrev cX12_client : ByteArray := prog_14_method_15_code
def yX12_client : MethodName := ⟨RX12, "client", "()I"⟩
abbrev cX12_matter : ByteArray := prog_14_method_16_code
def yX12_matter : MethodName := ⟨RX12, "matter", "(III)I"⟩
abbrev cX12_isOf : ByteArray := prog_14_method_17_code
def yX12_isOf : MethodName := ⟨RX12, "isOf", "(II)I"⟩
abbrev cX12_isBilled : ByteArray := prog_14_method_18_code
def yX12_isBilled : MethodName := ⟨RX12, "isBilled", "(I)Z"⟩
abbrev cX12_isShare : ByteArray := prog_14_method_19_code
def yX12_isShare : MethodName := ⟨RX12, "isShare", "(I)Z"⟩
abbrev cX12_payers : ByteArray := prog_14_method_20_code
def yX12_payers : MethodName := ⟨RX12, "payers", "(IIII)I"⟩
abbrev cX12_wall : ByteArray := prog_14_method_21_code
def yX12_wall : MethodName := ⟨RX12, "wall", "(III)I"⟩
abbrev cX12_days : ByteArray := prog_14_method_22_code
def yX12_days : MethodName := ⟨RX12, "days", "(I)I"⟩
abbrev cX12_rule : ByteArray := prog_14_method_23_code
def yX12_rule : MethodName := ⟨RX12, "rule", "(II)I"⟩
abbrev cX12_areParts : ByteArray := prog_14_method_24_code
def yX12_areParts : MethodName := ⟨RX12, "areParts", "(I)Z"⟩
abbrev cX12_entry : ByteArray := prog_14_method_25_code
def yX12_entry : MethodName := ⟨RX12, "entry", "(IIIII)I"⟩
abbrev cX12_withdraw : ByteArray := prog_14_method_26_code
def yX12_withdraw : MethodName := ⟨RX12, "withdraw", "(I)I"⟩
abbrev cX12_door : ByteArray := prog_14_method_27_code
def yX12_door : MethodName := ⟨RX12, "door", "(III)I"⟩
abbrev cX12_isKnown : ByteArray := prog_14_method_28_code
def yX12_isKnown : MethodName := ⟨RX12, "isKnown", "(II)Z"⟩
abbrev cX12_written : ByteArray := prog_14_method_29_code
def yX12_written : MethodName := ⟨RX12, "written", "(IIII)I"⟩
abbrev cX12_told : ByteArray := prog_14_method_30_code
def yX12_told : MethodName := ⟨RX12, "told", "(II)I"⟩
abbrev cX12_feed : ByteArray := prog_14_method_31_code
def yX12_feed : MethodName := ⟨RX12, "feed", "(III)I"⟩
abbrev cX12_trim : ByteArray := prog_14_method_32_code
def yX12_trim : MethodName := ⟨RX12, "trim", "(I)I"⟩
abbrev cX12_wrong : ByteArray := prog_14_method_33_code
def yX12_wrong : MethodName := ⟨RX12, "wrong", "()V"⟩
abbrev cX12_sortOf : ByteArray := prog_14_method_34_code
def yX12_sortOf : MethodName := ⟨RX12, "sortOf", "(I)I"⟩
abbrev cX12_next : ByteArray := prog_14_method_35_code
def yX12_next : MethodName := ⟨RX12, "next", "()V"⟩
abbrev cX12_isSign : ByteArray := prog_14_method_36_code
def yX12_isSign : MethodName := ⟨RX12, "isSign", "(I)Z"⟩
abbrev cX12_isLetter : ByteArray := prog_14_method_37_code
def yX12_isLetter : MethodName := ⟨RX12, "isLetter", "(II)Z"⟩
abbrev cX12_isWord : ByteArray := prog_14_method_38_code
def yX12_isWord : MethodName := ⟨RX12, "isWord", "(IIIII)Z"⟩
abbrev cX12_emit : ByteArray := prog_14_method_39_code
def yX12_emit : MethodName := ⟨RX12, "emit", "(II)V"⟩
abbrev cX12_works : ByteArray := prog_14_method_40_code
def yX12_works : MethodName := ⟨RX12, "works", "(I)V"⟩
abbrev cX12_parted : ByteArray := prog_14_method_41_code
def yX12_parted : MethodName := ⟨RX12, "parted", "()V"⟩
abbrev cX12_isName : ByteArray := prog_14_method_42_code
def yX12_isName : MethodName := ⟨RX12, "isName", "(I)Z"⟩
abbrev cX12_begins : ByteArray := prog_14_method_43_code
def yX12_begins : MethodName := ⟨RX12, "begins", "()Z"⟩
abbrev cX12_signHere : ByteArray := prog_14_method_44_code
def yX12_signHere : MethodName := ⟨RX12, "signHere", "()I"⟩
abbrev cX12_expression : ByteArray := prog_14_method_45_code
def yX12_expression : MethodName := ⟨RX12, "expression", "()V"⟩
abbrev cX12_reads : ByteArray := prog_14_method_46_code
def yX12_reads : MethodName := ⟨RX12, "reads", "(IZ)V"⟩
abbrev cX12_termsOf : ByteArray := prog_14_method_47_code
def yX12_termsOf : MethodName := ⟨RX12, "termsOf", "(I)I"⟩
abbrev cX12_terms : ByteArray := prog_14_method_48_code
def yX12_terms : MethodName := ⟨RX12, "terms", "(II)I"⟩
abbrev cX12_both : ByteArray := prog_14_method_49_code
def yX12_both : MethodName := ⟨RX12, "both", "(III)I"⟩
abbrev cX12_worked : ByteArray := prog_14_method_50_code
def yX12_worked : MethodName := ⟨RX12, "worked", "(I)I"⟩
abbrev cX12_beside : ByteArray := prog_14_method_51_code
def yX12_beside : MethodName := ⟨RX12, "beside", "(II)I"⟩
abbrev cX12_termOf : ByteArray := prog_14_method_52_code
def yX12_termOf : MethodName := ⟨RX12, "termOf", "(I)I"⟩
abbrev cX12_gives : ByteArray := prog_14_method_53_code
def yX12_gives : MethodName := ⟨RX12, "gives", "(III)I"⟩
abbrev cX12_worthOf : ByteArray := prog_14_method_54_code
def yX12_worthOf : MethodName := ⟨RX12, "worthOf", "(II)I"⟩
abbrev cX12_chargedOf : ByteArray := prog_14_method_55_code
def yX12_chargedOf : MethodName := ⟨RX12, "chargedOf", "(II)I"⟩
abbrev cX12_worth : ByteArray := prog_14_method_56_code
def yX12_worth : MethodName := ⟨RX12, "worth", "(III)I"⟩
abbrev cX12_split : ByteArray := prog_14_method_57_code
def yX12_split : MethodName := ⟨RX12, "split", "(II)V"⟩
abbrev cX12_bill : ByteArray := prog_14_method_58_code
def yX12_bill : MethodName := ⟨RX12, "bill", "(III)I"⟩
abbrev cX12_about : ByteArray := prog_14_method_59_code
def yX12_about : MethodName := ⟨RX12, "about", "(II)I"⟩
abbrev cX12_owes : ByteArray := prog_14_method_60_code
def yX12_owes : MethodName := ⟨RX12, "owes", "(III)I"⟩
abbrev cX12_retain : ByteArray := prog_14_method_61_code
def yX12_retain : MethodName := ⟨RX12, "retain", "(II)I"⟩
abbrev cX12_trust : ByteArray := prog_14_method_62_code
def yX12_trust : MethodName := ⟨RX12, "trust", "(II)I"⟩
abbrev cX12_draw : ByteArray := prog_14_method_63_code
def yX12_draw : MethodName := ⟨RX12, "draw", "(II)I"⟩
abbrev cX12_isPayer : ByteArray := prog_14_method_64_code
def yX12_isPayer : MethodName := ⟨RX12, "isPayer", "(II)Z"⟩
abbrev cX12_pay : ByteArray := prog_14_method_65_code
def yX12_pay : MethodName := ⟨RX12, "pay", "(III)I"⟩
abbrev cX12_middleOf : ByteArray := prog_14_method_66_code
def yX12_middleOf : MethodName := ⟨RX12, "middleOf", "(I)I"⟩
abbrev cX12_middle : ByteArray := prog_14_method_67_code
def yX12_middle : MethodName := ⟨RX12, "middle", "(I)I"⟩
abbrev cX12_contest : ByteArray := prog_14_method_68_code
def yX12_contest : MethodName := ⟨RX12, "contest", "(I)I"⟩
abbrev cX12_stage : ByteArray := prog_14_method_69_code
def yX12_stage : MethodName := ⟨RX12, "stage", "(II)I"⟩
abbrev cX12_foretold : ByteArray := prog_14_method_70_code
def yX12_foretold : MethodName := ⟨RX12, "foretold", "(II)I"⟩
abbrev cX12_task : ByteArray := prog_14_method_71_code
def yX12_task : MethodName := ⟨RX12, "task", "(III)I"⟩
abbrev cX12_clear : ByteArray := prog_14_method_72_code
def yX12_clear : MethodName := ⟨RX12, "clear", "()I"⟩
abbrev cX12_free : ByteArray := prog_14_method_73_code
def yX12_free : MethodName := ⟨RX12, "free", "(II)I"⟩
abbrev cX12_lay : ByteArray := prog_14_method_74_code
def yX12_lay : MethodName := ⟨RX12, "lay", "(I)I"⟩
abbrev cX12_costOf : ByteArray := prog_14_method_75_code
def yX12_costOf : MethodName := ⟨RX12, "costOf", "(II)I"⟩
abbrev cX12_may : ByteArray := prog_14_method_76_code
def yX12_may : MethodName := ⟨RX12, "may", "(II)Z"⟩
abbrev cX12_seeks : ByteArray := prog_14_method_77_code
def yX12_seeks : MethodName := ⟨RX12, "seeks", "(I)I"⟩
abbrev cX12_plan : ByteArray := prog_14_method_78_code
def yX12_plan : MethodName := ⟨RX12, "plan", "(I)I"⟩
abbrev cX12_planned : ByteArray := prog_14_method_79_code
def yX12_planned : MethodName := ⟨RX12, "planned", "(II)I"⟩
abbrev cX12_tell : ByteArray := prog_14_method_80_code
def yX12_tell : MethodName := ⟨RX12, "tell", "(I)I"⟩
abbrev cX12_check : ByteArray := prog_14_method_81_code
def yX12_check : MethodName := ⟨RX12, "check", "()I"⟩
abbrev cX12_keep : ByteArray := prog_14_method_82_code
def yX12_keep : MethodName := ⟨RX12, "keep", "()I"⟩
abbrev cX12_back : ByteArray := prog_14_method_83_code
def yX12_back : MethodName := ⟨RX12, "back", "()I"⟩
abbrev cX12_sheet : ByteArray := prog_14_method_84_code
def yX12_sheet : MethodName := ⟨RX12, "sheet", "(II)I"⟩
abbrev cX12_mark : ByteArray := prog_14_method_85_code
def yX12_mark : MethodName := ⟨RX12, "mark", "(III)I"⟩
abbrev cX12_copy : ByteArray := prog_14_method_86_code
def yX12_copy : MethodName := ⟨RX12, "copy", "(IIIII)I"⟩
abbrev cX12_count : ByteArray := prog_14_method_87_code
def yX12_count : MethodName := ⟨RX12, "count", "(I)I"⟩
def RJx145de : String := "java/io/Serializable"
def RJx9f9b0 : String := "java/lang/CharSequence"
def RJ11 : String := "java/lang/Character"
abbrev cJ11_isValidCodePoint_9a6ad : ByteArray := prog_15_method_11_code
def yJ11_isValidCodePoint_9a6ad : MethodName := ⟨RJ11, "isValidCodePoint", "(I)Z"⟩
abbrev cJ11_highSurrogate_5068e : ByteArray := prog_15_method_28_code
def yJ11_highSurrogate_5068e : MethodName := ⟨RJ11, "highSurrogate", "(I)C"⟩
abbrev cJ11_lowSurrogate_5068e : ByteArray := prog_15_method_29_code
def yJ11_lowSurrogate_5068e : MethodName := ⟨RJ11, "lowSurrogate", "(I)C"⟩
def RJxb160c : String := "java/lang/Comparable"
def RJ6 : String := "java/lang/Integer"
abbrev cJ6_bitCount_0f7a4 : ByteArray := prog_16_method_49_code
def yJ6_bitCount_0f7a4 : MethodName := ⟨RJ6, "bitCount", "(I)I"⟩
def RJ9 : String := "java/lang/Math"
abbrev cJ9_max_7cf53 : ByteArray := prog_17_method_65_code
def yJ9_max_7cf53 : MethodName := ⟨RJ9, "max", "(II)I"⟩
abbrev cJ9_min_7cf53 : ByteArray := prog_17_method_69_code
def yJ9_min_7cf53 : MethodName := ⟨RJ9, "min", "(II)I"⟩
abbrev cJ9_min_f86c9 : ByteArray := prog_17_method_70_code
def yJ9_min_f86c9 : MethodName := ⟨RJ9, "min", "(JJ)J"⟩
def RJ0 : String := "java/lang/String"
abbrev cJ0_length_8abf5 : ByteArray := prog_18_method_54_code
def yJ0_length_8abf5 : MethodName := ⟨RJ0, "length", "()I"⟩
abbrev cJ0_charAt_5068e : ByteArray := prog_18_method_56_code
def yJ0_charAt_5068e : MethodName := ⟨RJ0, "charAt", "(I)C"⟩
abbrev cJ0_indexOf_0f7a4 : ByteArray := prog_18_method_79_code
def yJ0_indexOf_0f7a4 : MethodName := ⟨RJ0, "indexOf", "(I)I"⟩
abbrev cJ0_indexOf_7cf53 : ByteArray := prog_18_method_80_code
def yJ0_indexOf_7cf53 : MethodName := ⟨RJ0, "indexOf", "(II)I"⟩
abbrev cJ0_coder_7d493 : ByteArray := prog_18_method_152_code
def yJ0_coder_7d493 : MethodName := ⟨RJ0, "coder", "()B"⟩
abbrev cJ0_isLatin1_aae02 : ByteArray := prog_18_method_154_code
def yJ0_isLatin1_aae02 : MethodName := ⟨RJ0, "isLatin1", "()Z"⟩
abbrev cJ0_checkIndex_df160 : ByteArray := prog_18_method_155_code
def yJ0_checkIndex_df160 : MethodName := ⟨RJ0, "checkIndex", "(II)V"⟩
abbrev cJ0_checkBoundsBeginEnd_23922 : ByteArray := prog_18_method_158_code
def yJ0_checkBoundsBeginEnd_23922 : MethodName := ⟨RJ0, "checkBoundsBeginEnd", "(III)V"⟩
def RJ1 : String := "java/lang/StringLatin1"
abbrev cJ1_charAt_3b067 : ByteArray := prog_19_method_2_code
def yJ1_charAt_3b067 : MethodName := ⟨RJ1, "charAt", "([BI)C"⟩
abbrev cJ1_canEncode_9a6ad : ByteArray := prog_19_method_4_code
def yJ1_canEncode_9a6ad : MethodName := ⟨RJ1, "canEncode", "(I)Z"⟩
abbrev cJ1_indexOf_4cfef : ByteArray := prog_19_method_22_code
def yJ1_indexOf_4cfef : MethodName := ⟨RJ1, "indexOf", "([BIII)I"⟩
abbrev cJ1_indexOfChar_4cfef : ByteArray := prog_19_method_23_code
def yJ1_indexOfChar_4cfef : MethodName := ⟨RJ1, "indexOfChar", "([BIII)I"⟩
def RJ2 : String := "java/lang/StringUTF16"
abbrev cJ2_getChar_3b067 : ByteArray := prog_20_method_5_code
def yJ2_getChar_3b067 : MethodName := ⟨RJ2, "getChar", "([BI)C"⟩
abbrev cJ2_length_9d52b : ByteArray := prog_20_method_6_code
def yJ2_length_9d52b : MethodName := ⟨RJ2, "length", "([B)I"⟩
abbrev cJ2_indexOf_4cfef : ByteArray := prog_20_method_40_code
def yJ2_indexOf_4cfef : MethodName := ⟨RJ2, "indexOf", "([BIII)I"⟩
abbrev cJ2_indexOfChar_4cfef : ByteArray := prog_20_method_47_code
def yJ2_indexOfChar_4cfef : MethodName := ⟨RJ2, "indexOfChar", "([BIII)I"⟩
abbrev cJ2_indexOfCharUnsafe_4cfef : ByteArray := prog_20_method_48_code
def yJ2_indexOfCharUnsafe_4cfef : MethodName := ⟨RJ2, "indexOfCharUnsafe", "([BIII)I"⟩
abbrev cJ2_indexOfSupplementary_4cfef : ByteArray := prog_20_method_49_code
def yJ2_indexOfSupplementary_4cfef : MethodName := ⟨RJ2, "indexOfSupplementary", "([BIII)I"⟩
abbrev cJ2_charAt_3b067 : ByteArray := prog_20_method_83_code
def yJ2_charAt_3b067 : MethodName := ⟨RJ2, "charAt", "([BI)C"⟩
abbrev cJ2_checkIndex_2214a : ByteArray := prog_20_method_91_code
def yJ2_checkIndex_2214a : MethodName := ⟨RJ2, "checkIndex", "(I[B)V"⟩
abbrev cJ2_checkBoundsBeginEnd_d044e : ByteArray := prog_20_method_93_code
def yJ2_checkBoundsBeginEnd_d044e : MethodName := ⟨RJ2, "checkBoundsBeginEnd", "(II[B)V"⟩
def RJ10 : String := "java/lang/System"
def RJxfd54e : String := "java/lang/constant/Constable"
def RJx3cf43 : String := "java/lang/constant/ConstantDesc"
def RJ7 : String := "java/util/Arrays"
abbrev cJ7_fill_53178 : ByteArray := prog_22_method_103_code
def yJ7_fill_53178 : MethodName := ⟨RJ7, "fill", "([II)V"⟩
def RJ3 : String := "jdk/internal/util/Preconditions"
abbrev cJ3_checkIndex_8e157 : ByteArray := prog_23_method_11_code
def yJ3_checkIndex_8e157 : MethodName := ⟨RJ3, "checkIndex", "(IILjava/util/function/BiFunction;)I"⟩
abbrev cJ3_checkFromToIndex_8c36e : ByteArray := prog_23_method_12_code
def yJ3_checkFromToIndex_8c36e : MethodName := ⟨RJ3, "checkFromToIndex", "(IIILjava/util/function/BiFunction;)I"⟩
def RL : String := "HourHouseLaw"
abbrev cL_law : ByteArray := code
def yL_law : MethodName := ⟨RL, "law", "([I)Z"⟩
abbrev vwCl : List vw_C := [(RX0, TX0, 8), (RX1, TX1, 7), (RX2, TX2, 6), (RX3, TX3, 12), (RX4, TX4, 9), (RX5, TX5, 11), (RX6, TX6, 4), (RX7, TX7, 7), (RX8, TX8, 12), (RX9, TX9, 4), (RX10, TX10, 5), (RX11, TX11, 13), (RX12, TX12, 35)]
