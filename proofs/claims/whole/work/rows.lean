section
-- ===== PART A: goes FIRST, ahead of the names: the tables' words, and 'selects' of the private methods out of them =====
/-- a private method of a class that the tables say can be made, by its rows of tables_1 -/
def lw_okq (q : MethodName × Nat) : Prop := (q.1.cls ≠ "java/lang/invoke/MethodHandle" ∧ q.1.cls ≠ "java/lang/invoke/VarHandle") ∧ Cond.instantiable q.1.cls q.2 ∈ tables_1 ∧ Cond.privateMethod q.1 ∈ tables_1 ∧ Cond.instanceMethod q.1 ∈ tables_1
theorem lw_p0 : lw_okq (⟨"WrongWay", "refuse", "(I)I"⟩, 8) := ⟨⟨by decide +kernel, by decide +kernel⟩, List.mem_of_getElem? (i := 16) (by decide +kernel), List.mem_of_getElem? (i := 187) (by decide +kernel), List.mem_of_getElem? (i := 188) (by decide +kernel)⟩
theorem lw_p1 : lw_okq (⟨"WrongWay$Text", "nextToken", "()V"⟩, 6) := ⟨⟨by decide +kernel, by decide +kernel⟩, List.mem_of_getElem? (i := 113) (by decide +kernel), List.mem_of_getElem? (i := 225) (by decide +kernel), List.mem_of_getElem? (i := 226) (by decide +kernel)⟩
theorem lw_p2 : lw_okq (⟨"WrongWay$Text", "endOfWord", "(I)I"⟩, 6) := ⟨⟨by decide +kernel, by decide +kernel⟩, List.mem_of_getElem? (i := 113) (by decide +kernel), List.mem_of_getElem? (i := 232) (by decide +kernel), List.mem_of_getElem? (i := 233) (by decide +kernel)⟩
theorem lw_p3 : lw_okq (⟨"WrongWay$Text", "endOfNumber", "(I)I"⟩, 6) := ⟨⟨by decide +kernel, by decide +kernel⟩, List.mem_of_getElem? (i := 113) (by decide +kernel), List.mem_of_getElem? (i := 239) (by decide +kernel), List.mem_of_getElem? (i := 240) (by decide +kernel)⟩
theorem lw_p4 : lw_okq (⟨"WrongWay$Text", "valueOf", "(II)I"⟩, 6) := ⟨⟨by decide +kernel, by decide +kernel⟩, List.mem_of_getElem? (i := 113) (by decide +kernel), List.mem_of_getElem? (i := 243) (by decide +kernel), List.mem_of_getElem? (i := 244) (by decide +kernel)⟩
theorem lw_p5 : lw_okq (⟨"WrongWay$Text", "readHouse", "(LWrongWay$House;)Z"⟩, 6) := ⟨⟨by decide +kernel, by decide +kernel⟩, List.mem_of_getElem? (i := 113) (by decide +kernel), List.mem_of_getElem? (i := 247) (by decide +kernel), List.mem_of_getElem? (i := 248) (by decide +kernel)⟩
theorem lw_p6 : lw_okq (⟨"WrongWay$Text", "isWord", "(Ljava/lang/String;)Z"⟩, 6) := ⟨⟨by decide +kernel, by decide +kernel⟩, List.mem_of_getElem? (i := 113) (by decide +kernel), List.mem_of_getElem? (i := 252) (by decide +kernel), List.mem_of_getElem? (i := 253) (by decide +kernel)⟩
theorem lw_p7 : lw_okq (⟨"WrongWay$Text", "nextIsNumber", "(II)Z"⟩, 6) := ⟨⟨by decide +kernel, by decide +kernel⟩, List.mem_of_getElem? (i := 113) (by decide +kernel), List.mem_of_getElem? (i := 304) (by decide +kernel), List.mem_of_getElem? (i := 305) (by decide +kernel)⟩
theorem lw_p8 : lw_okq (⟨"WrongWay$Text", "nextIsSemicolon", "()Z"⟩, 6) := ⟨⟨by decide +kernel, by decide +kernel⟩, List.mem_of_getElem? (i := 113) (by decide +kernel), List.mem_of_getElem? (i := 310) (by decide +kernel), List.mem_of_getElem? (i := 311) (by decide +kernel)⟩
theorem lw_p9 : lw_okq (⟨"WrongWay$Text", "readItem", "(LWrongWay$House;)Z"⟩, 6) := ⟨⟨by decide +kernel, by decide +kernel⟩, List.mem_of_getElem? (i := 113) (by decide +kernel), List.mem_of_getElem? (i := 314) (by decide +kernel), List.mem_of_getElem? (i := 315) (by decide +kernel)⟩
theorem lw_p10 : lw_okq (⟨"WrongWay$Text", "readLift", "(LWrongWay$House;)Z"⟩, 6) := ⟨⟨by decide +kernel, by decide +kernel⟩, List.mem_of_getElem? (i := 113) (by decide +kernel), List.mem_of_getElem? (i := 319) (by decide +kernel), List.mem_of_getElem? (i := 320) (by decide +kernel)⟩
theorem lw_p11 : lw_okq (⟨"WrongWay$Text", "readLine", "(LWrongWay$House;)Z"⟩, 6) := ⟨⟨by decide +kernel, by decide +kernel⟩, List.mem_of_getElem? (i := 113) (by decide +kernel), List.mem_of_getElem? (i := 325) (by decide +kernel), List.mem_of_getElem? (i := 326) (by decide +kernel)⟩
theorem lw_p12 : lw_okq (⟨"WrongWay$Watch", "isSeen", "(III)Z"⟩, 1) := ⟨⟨by decide +kernel, by decide +kernel⟩, List.mem_of_getElem? (i := 102) (by decide +kernel), List.mem_of_getElem? (i := 415) (by decide +kernel), List.mem_of_getElem? (i := 416) (by decide +kernel)⟩
theorem lw_p13 : lw_okq (⟨"WrongWay", "chanceOfUp", "(I)I"⟩, 8) := ⟨⟨by decide +kernel, by decide +kernel⟩, List.mem_of_getElem? (i := 16) (by decide +kernel), List.mem_of_getElem? (i := 431) (by decide +kernel), List.mem_of_getElem? (i := 432) (by decide +kernel)⟩
theorem lw_p14 : lw_okq (⟨"WrongWay", "setMean", "(II)I"⟩, 8) := ⟨⟨by decide +kernel, by decide +kernel⟩, List.mem_of_getElem? (i := 16) (by decide +kernel), List.mem_of_getElem? (i := 435) (by decide +kernel), List.mem_of_getElem? (i := 436) (by decide +kernel)⟩
theorem lw_p15 : lw_okq (⟨"WrongWay", "meanWait", "(II)I"⟩, 8) := ⟨⟨by decide +kernel, by decide +kernel⟩, List.mem_of_getElem? (i := 16) (by decide +kernel), List.mem_of_getElem? (i := 446) (by decide +kernel), List.mem_of_getElem? (i := 447) (by decide +kernel)⟩
def lw_privs_1 : List (MethodName × Nat) := [(⟨"WrongWay", "refuse", "(I)I"⟩, 8), (⟨"WrongWay$Text", "nextToken", "()V"⟩, 6), (⟨"WrongWay$Text", "endOfWord", "(I)I"⟩, 6), (⟨"WrongWay$Text", "endOfNumber", "(I)I"⟩, 6), (⟨"WrongWay$Text", "valueOf", "(II)I"⟩, 6), (⟨"WrongWay$Text", "readHouse", "(LWrongWay$House;)Z"⟩, 6), (⟨"WrongWay$Text", "isWord", "(Ljava/lang/String;)Z"⟩, 6), (⟨"WrongWay$Text", "nextIsNumber", "(II)Z"⟩, 6), (⟨"WrongWay$Text", "nextIsSemicolon", "()Z"⟩, 6), (⟨"WrongWay$Text", "readItem", "(LWrongWay$House;)Z"⟩, 6), (⟨"WrongWay$Text", "readLift", "(LWrongWay$House;)Z"⟩, 6), (⟨"WrongWay$Text", "readLine", "(LWrongWay$House;)Z"⟩, 6), (⟨"WrongWay$Watch", "isSeen", "(III)Z"⟩, 1), (⟨"WrongWay", "chanceOfUp", "(I)I"⟩, 8), (⟨"WrongWay", "setMean", "(II)I"⟩, 8), (⟨"WrongWay", "meanWait", "(II)I"⟩, 8)]
theorem lw_r1 : ∀ q ∈ lw_privs_1, lw_okq q := List.forall_mem_cons.mpr ⟨lw_p0, List.forall_mem_cons.mpr ⟨lw_p1, List.forall_mem_cons.mpr ⟨lw_p2, List.forall_mem_cons.mpr ⟨lw_p3, List.forall_mem_cons.mpr ⟨lw_p4, List.forall_mem_cons.mpr ⟨lw_p5, List.forall_mem_cons.mpr ⟨lw_p6, List.forall_mem_cons.mpr ⟨lw_p7, List.forall_mem_cons.mpr ⟨lw_p8, List.forall_mem_cons.mpr ⟨lw_p9, List.forall_mem_cons.mpr ⟨lw_p10, List.forall_mem_cons.mpr ⟨lw_p11, List.forall_mem_cons.mpr ⟨lw_p12, List.forall_mem_cons.mpr ⟨lw_p13, List.forall_mem_cons.mpr ⟨lw_p14, List.forall_mem_cons.mpr ⟨lw_p15, fun _ h => absurd h List.not_mem_nil⟩⟩⟩⟩⟩⟩⟩⟩⟩⟩⟩⟩⟩⟩⟩⟩
theorem lw_p16 : lw_okq (⟨"WrongWay$Watch", "fits", "(III)Z"⟩, 1) := ⟨⟨by decide +kernel, by decide +kernel⟩, List.mem_of_getElem? (i := 102) (by decide +kernel), List.mem_of_getElem? (i := 509) (by decide +kernel), List.mem_of_getElem? (i := 510) (by decide +kernel)⟩
theorem lw_p17 : lw_okq (⟨"WrongWay$Watch", "kindsThere", "(IIII)I"⟩, 1) := ⟨⟨by decide +kernel, by decide +kernel⟩, List.mem_of_getElem? (i := 102) (by decide +kernel), List.mem_of_getElem? (i := 532) (by decide +kernel), List.mem_of_getElem? (i := 533) (by decide +kernel)⟩
theorem lw_p18 : lw_okq (⟨"WrongWayModel", "begins", "(II)V"⟩, 15) := ⟨⟨by decide +kernel, by decide +kernel⟩, List.mem_of_getElem? (i := 585) (by decide +kernel), List.mem_of_getElem? (i := 591) (by decide +kernel), List.mem_of_getElem? (i := 592) (by decide +kernel)⟩
theorem lw_p19 : lw_okq (⟨"WrongWayModel", "bad", "()I"⟩, 15) := ⟨⟨by decide +kernel, by decide +kernel⟩, List.mem_of_getElem? (i := 585) (by decide +kernel), List.mem_of_getElem? (i := 649) (by decide +kernel), List.mem_of_getElem? (i := 650) (by decide +kernel)⟩
theorem lw_p20 : lw_okq (⟨"WrongWayModel", "full", "()I"⟩, 15) := ⟨⟨by decide +kernel, by decide +kernel⟩, List.mem_of_getElem? (i := 585) (by decide +kernel), List.mem_of_getElem? (i := 659) (by decide +kernel), List.mem_of_getElem? (i := 660) (by decide +kernel)⟩
theorem lw_p21 : lw_okq (⟨"WrongWayModel", "adds", "(III)I"⟩, 15) := ⟨⟨by decide +kernel, by decide +kernel⟩, List.mem_of_getElem? (i := 585) (by decide +kernel), List.mem_of_getElem? (i := 663) (by decide +kernel), List.mem_of_getElem? (i := 664) (by decide +kernel)⟩
theorem lw_p22 : lw_okq (⟨"WrongWayModel", "token", "()V"⟩, 15) := ⟨⟨by decide +kernel, by decide +kernel⟩, List.mem_of_getElem? (i := 585) (by decide +kernel), List.mem_of_getElem? (i := 686) (by decide +kernel), List.mem_of_getElem? (i := 687) (by decide +kernel)⟩
theorem lw_p23 : lw_okq (⟨"WrongWayModel", "byteAt", "(I)I"⟩, 15) := ⟨⟨by decide +kernel, by decide +kernel⟩, List.mem_of_getElem? (i := 585) (by decide +kernel), List.mem_of_getElem? (i := 690) (by decide +kernel), List.mem_of_getElem? (i := 691) (by decide +kernel)⟩
theorem lw_p24 : lw_okq (⟨"WrongWayModel", "takesItem", "(I)Z"⟩, 15) := ⟨⟨by decide +kernel, by decide +kernel⟩, List.mem_of_getElem? (i := 585) (by decide +kernel), List.mem_of_getElem? (i := 698) (by decide +kernel), List.mem_of_getElem? (i := 699) (by decide +kernel)⟩
theorem lw_p25 : lw_okq (⟨"WrongWayModel", "wordNow", "()I"⟩, 15) := ⟨⟨by decide +kernel, by decide +kernel⟩, List.mem_of_getElem? (i := 585) (by decide +kernel), List.mem_of_getElem? (i := 702) (by decide +kernel), List.mem_of_getElem? (i := 703) (by decide +kernel)⟩
theorem lw_p26 : lw_okq (⟨"WrongWayModel", "isNamed", "(IIIII)Z"⟩, 15) := ⟨⟨by decide +kernel, by decide +kernel⟩, List.mem_of_getElem? (i := 585) (by decide +kernel), List.mem_of_getElem? (i := 706) (by decide +kernel), List.mem_of_getElem? (i := 707) (by decide +kernel)⟩
theorem lw_p27 : lw_okq (⟨"WrongWayModel", "takesHouse", "()Z"⟩, 15) := ⟨⟨by decide +kernel, by decide +kernel⟩, List.mem_of_getElem? (i := 585) (by decide +kernel), List.mem_of_getElem? (i := 710) (by decide +kernel), List.mem_of_getElem? (i := 711) (by decide +kernel)⟩
theorem lw_p28 : lw_okq (⟨"WrongWayModel", "takes", "(III)Z"⟩, 15) := ⟨⟨by decide +kernel, by decide +kernel⟩, List.mem_of_getElem? (i := 585) (by decide +kernel), List.mem_of_getElem? (i := 714) (by decide +kernel), List.mem_of_getElem? (i := 715) (by decide +kernel)⟩
theorem lw_p29 : lw_okq (⟨"WrongWayModel", "takesLift", "()Z"⟩, 15) := ⟨⟨by decide +kernel, by decide +kernel⟩, List.mem_of_getElem? (i := 585) (by decide +kernel), List.mem_of_getElem? (i := 718) (by decide +kernel), List.mem_of_getElem? (i := 719) (by decide +kernel)⟩
theorem lw_p30 : lw_okq (⟨"WrongWayModel", "takesLine", "()Z"⟩, 15) := ⟨⟨by decide +kernel, by decide +kernel⟩, List.mem_of_getElem? (i := 585) (by decide +kernel), List.mem_of_getElem? (i := 722) (by decide +kernel), List.mem_of_getElem? (i := 723) (by decide +kernel)⟩
theorem lw_p31 : lw_okq (⟨"WrongWayModel", "copy", "(II)V"⟩, 15) := ⟨⟨by decide +kernel, by decide +kernel⟩, List.mem_of_getElem? (i := 585) (by decide +kernel), List.mem_of_getElem? (i := 726) (by decide +kernel), List.mem_of_getElem? (i := 727) (by decide +kernel)⟩
def lw_privs_2 : List (MethodName × Nat) := [(⟨"WrongWay$Watch", "fits", "(III)Z"⟩, 1), (⟨"WrongWay$Watch", "kindsThere", "(IIII)I"⟩, 1), (⟨"WrongWayModel", "begins", "(II)V"⟩, 15), (⟨"WrongWayModel", "bad", "()I"⟩, 15), (⟨"WrongWayModel", "full", "()I"⟩, 15), (⟨"WrongWayModel", "adds", "(III)I"⟩, 15), (⟨"WrongWayModel", "token", "()V"⟩, 15), (⟨"WrongWayModel", "byteAt", "(I)I"⟩, 15), (⟨"WrongWayModel", "takesItem", "(I)Z"⟩, 15), (⟨"WrongWayModel", "wordNow", "()I"⟩, 15), (⟨"WrongWayModel", "isNamed", "(IIIII)Z"⟩, 15), (⟨"WrongWayModel", "takesHouse", "()Z"⟩, 15), (⟨"WrongWayModel", "takes", "(III)Z"⟩, 15), (⟨"WrongWayModel", "takesLift", "()Z"⟩, 15), (⟨"WrongWayModel", "takesLine", "()Z"⟩, 15), (⟨"WrongWayModel", "copy", "(II)V"⟩, 15)]
theorem lw_r2 : ∀ q ∈ lw_privs_2, lw_okq q := List.forall_mem_cons.mpr ⟨lw_p16, List.forall_mem_cons.mpr ⟨lw_p17, List.forall_mem_cons.mpr ⟨lw_p18, List.forall_mem_cons.mpr ⟨lw_p19, List.forall_mem_cons.mpr ⟨lw_p20, List.forall_mem_cons.mpr ⟨lw_p21, List.forall_mem_cons.mpr ⟨lw_p22, List.forall_mem_cons.mpr ⟨lw_p23, List.forall_mem_cons.mpr ⟨lw_p24, List.forall_mem_cons.mpr ⟨lw_p25, List.forall_mem_cons.mpr ⟨lw_p26, List.forall_mem_cons.mpr ⟨lw_p27, List.forall_mem_cons.mpr ⟨lw_p28, List.forall_mem_cons.mpr ⟨lw_p29, List.forall_mem_cons.mpr ⟨lw_p30, List.forall_mem_cons.mpr ⟨lw_p31, fun _ h => absurd h List.not_mem_nil⟩⟩⟩⟩⟩⟩⟩⟩⟩⟩⟩⟩⟩⟩⟩⟩
theorem lw_p32 : lw_okq (⟨"WrongWayModel", "no", "()I"⟩, 15) := ⟨⟨by decide +kernel, by decide +kernel⟩, List.mem_of_getElem? (i := 585) (by decide +kernel), List.mem_of_getElem? (i := 738) (by decide +kernel), List.mem_of_getElem? (i := 739) (by decide +kernel)⟩
theorem lw_p33 : lw_okq (⟨"WrongWayModel", "isLift", "(I)Z"⟩, 15) := ⟨⟨by decide +kernel, by decide +kernel⟩, List.mem_of_getElem? (i := 585) (by decide +kernel), List.mem_of_getElem? (i := 746) (by decide +kernel), List.mem_of_getElem? (i := 747) (by decide +kernel)⟩
theorem lw_p34 : lw_okq (⟨"WrongWayModel", "floorIn", "(II)I"⟩, 15) := ⟨⟨by decide +kernel, by decide +kernel⟩, List.mem_of_getElem? (i := 585) (by decide +kernel), List.mem_of_getElem? (i := 750) (by decide +kernel), List.mem_of_getElem? (i := 751) (by decide +kernel)⟩
theorem lw_p35 : lw_okq (⟨"WrongWayModel", "floorOf", "(III)I"⟩, 15) := ⟨⟨by decide +kernel, by decide +kernel⟩, List.mem_of_getElem? (i := 585) (by decide +kernel), List.mem_of_getElem? (i := 754) (by decide +kernel), List.mem_of_getElem? (i := 755) (by decide +kernel)⟩
theorem lw_p36 : lw_okq (⟨"WrongWayModel", "roundOf", "(I)I"⟩, 15) := ⟨⟨by decide +kernel, by decide +kernel⟩, List.mem_of_getElem? (i := 585) (by decide +kernel), List.mem_of_getElem? (i := 758) (by decide +kernel), List.mem_of_getElem? (i := 759) (by decide +kernel)⟩
theorem lw_p37 : lw_okq (⟨"WrongWayModel", "plain", "(I)I"⟩, 15) := ⟨⟨by decide +kernel, by decide +kernel⟩, List.mem_of_getElem? (i := 585) (by decide +kernel), List.mem_of_getElem? (i := 762) (by decide +kernel), List.mem_of_getElem? (i := 763) (by decide +kernel)⟩
theorem lw_p38 : lw_okq (⟨"WrongWayModel", "rests", "(I)I"⟩, 15) := ⟨⟨by decide +kernel, by decide +kernel⟩, List.mem_of_getElem? (i := 585) (by decide +kernel), List.mem_of_getElem? (i := 766) (by decide +kernel), List.mem_of_getElem? (i := 767) (by decide +kernel)⟩
theorem lw_p39 : lw_okq (⟨"WrongWayModel", "wayIn", "(II)I"⟩, 15) := ⟨⟨by decide +kernel, by decide +kernel⟩, List.mem_of_getElem? (i := 585) (by decide +kernel), List.mem_of_getElem? (i := 770) (by decide +kernel), List.mem_of_getElem? (i := 771) (by decide +kernel)⟩
theorem lw_p40 : lw_okq (⟨"WrongWayModel", "isTaken", "(II)Z"⟩, 15) := ⟨⟨by decide +kernel, by decide +kernel⟩, List.mem_of_getElem? (i := 585) (by decide +kernel), List.mem_of_getElem? (i := 774) (by decide +kernel), List.mem_of_getElem? (i := 775) (by decide +kernel)⟩
theorem lw_p41 : lw_okq (⟨"WrongWayModel", "isFloor", "(I)Z"⟩, 15) := ⟨⟨by decide +kernel, by decide +kernel⟩, List.mem_of_getElem? (i := 585) (by decide +kernel), List.mem_of_getElem? (i := 790) (by decide +kernel), List.mem_of_getElem? (i := 791) (by decide +kernel)⟩
theorem lw_p42 : lw_okq (⟨"WrongWayModel", "comes", "(IIII)Z"⟩, 15) := ⟨⟨by decide +kernel, by decide +kernel⟩, List.mem_of_getElem? (i := 585) (by decide +kernel), List.mem_of_getElem? (i := 795) (by decide +kernel), List.mem_of_getElem? (i := 796) (by decide +kernel)⟩
theorem lw_p43 : lw_okq (⟨"WrongWayModel", "isSeen", "(III)Z"⟩, 15) := ⟨⟨by decide +kernel, by decide +kernel⟩, List.mem_of_getElem? (i := 585) (by decide +kernel), List.mem_of_getElem? (i := 802) (by decide +kernel), List.mem_of_getElem? (i := 803) (by decide +kernel)⟩
theorem lw_p44 : lw_okq (⟨"WrongWayModel", "tells", "(JJ)I"⟩, 15) := ⟨⟨by decide +kernel, by decide +kernel⟩, List.mem_of_getElem? (i := 585) (by decide +kernel), List.mem_of_getElem? (i := 810) (by decide +kernel), List.mem_of_getElem? (i := 811) (by decide +kernel)⟩
theorem lw_p45 : lw_okq (⟨"WrongWayModel", "rides", "(IIII)I"⟩, 15) := ⟨⟨by decide +kernel, by decide +kernel⟩, List.mem_of_getElem? (i := 585) (by decide +kernel), List.mem_of_getElem? (i := 822) (by decide +kernel), List.mem_of_getElem? (i := 823) (by decide +kernel)⟩
theorem lw_p46 : lw_okq (⟨"WrongWayModel", "ofSixty", "(I)I"⟩, 15) := ⟨⟨by decide +kernel, by decide +kernel⟩, List.mem_of_getElem? (i := 585) (by decide +kernel), List.mem_of_getElem? (i := 835) (by decide +kernel), List.mem_of_getElem? (i := 836) (by decide +kernel)⟩
theorem lw_p47 : lw_okq (⟨"WrongWayModel", "kindsOf", "(I)I"⟩, 15) := ⟨⟨by decide +kernel, by decide +kernel⟩, List.mem_of_getElem? (i := 585) (by decide +kernel), List.mem_of_getElem? (i := 859) (by decide +kernel), List.mem_of_getElem? (i := 860) (by decide +kernel)⟩
def lw_privs_3 : List (MethodName × Nat) := [(⟨"WrongWayModel", "no", "()I"⟩, 15), (⟨"WrongWayModel", "isLift", "(I)Z"⟩, 15), (⟨"WrongWayModel", "floorIn", "(II)I"⟩, 15), (⟨"WrongWayModel", "floorOf", "(III)I"⟩, 15), (⟨"WrongWayModel", "roundOf", "(I)I"⟩, 15), (⟨"WrongWayModel", "plain", "(I)I"⟩, 15), (⟨"WrongWayModel", "rests", "(I)I"⟩, 15), (⟨"WrongWayModel", "wayIn", "(II)I"⟩, 15), (⟨"WrongWayModel", "isTaken", "(II)Z"⟩, 15), (⟨"WrongWayModel", "isFloor", "(I)Z"⟩, 15), (⟨"WrongWayModel", "comes", "(IIII)Z"⟩, 15), (⟨"WrongWayModel", "isSeen", "(III)Z"⟩, 15), (⟨"WrongWayModel", "tells", "(JJ)I"⟩, 15), (⟨"WrongWayModel", "rides", "(IIII)I"⟩, 15), (⟨"WrongWayModel", "ofSixty", "(I)I"⟩, 15), (⟨"WrongWayModel", "kindsOf", "(I)I"⟩, 15)]
theorem lw_r3 : ∀ q ∈ lw_privs_3, lw_okq q := List.forall_mem_cons.mpr ⟨lw_p32, List.forall_mem_cons.mpr ⟨lw_p33, List.forall_mem_cons.mpr ⟨lw_p34, List.forall_mem_cons.mpr ⟨lw_p35, List.forall_mem_cons.mpr ⟨lw_p36, List.forall_mem_cons.mpr ⟨lw_p37, List.forall_mem_cons.mpr ⟨lw_p38, List.forall_mem_cons.mpr ⟨lw_p39, List.forall_mem_cons.mpr ⟨lw_p40, List.forall_mem_cons.mpr ⟨lw_p41, List.forall_mem_cons.mpr ⟨lw_p42, List.forall_mem_cons.mpr ⟨lw_p43, List.forall_mem_cons.mpr ⟨lw_p44, List.forall_mem_cons.mpr ⟨lw_p45, List.forall_mem_cons.mpr ⟨lw_p46, List.forall_mem_cons.mpr ⟨lw_p47, fun _ h => absurd h List.not_mem_nil⟩⟩⟩⟩⟩⟩⟩⟩⟩⟩⟩⟩⟩⟩⟩⟩
theorem lw_p48 : lw_okq (⟨"WrongWayModel", "isSo", "(III)Z"⟩, 15) := ⟨⟨by decide +kernel, by decide +kernel⟩, List.mem_of_getElem? (i := 585) (by decide +kernel), List.mem_of_getElem? (i := 863) (by decide +kernel), List.mem_of_getElem? (i := 864) (by decide +kernel)⟩
theorem lw_p49 : lw_okq (⟨"WrongWayModel", "badAs", "(I)I"⟩, 15) := ⟨⟨by decide +kernel, by decide +kernel⟩, List.mem_of_getElem? (i := 585) (by decide +kernel), List.mem_of_getElem? (i := 903) (by decide +kernel), List.mem_of_getElem? (i := 904) (by decide +kernel)⟩
theorem lw_p50 : lw_okq (⟨"WrongWayModel", "countOf", "(I)I"⟩, 15) := ⟨⟨by decide +kernel, by decide +kernel⟩, List.mem_of_getElem? (i := 585) (by decide +kernel), List.mem_of_getElem? (i := 911) (by decide +kernel), List.mem_of_getElem? (i := 912) (by decide +kernel)⟩
theorem lw_p51 : lw_okq (⟨"WrongWayModel", "mix", "(J)V"⟩, 15) := ⟨⟨by decide +kernel, by decide +kernel⟩, List.mem_of_getElem? (i := 585) (by decide +kernel), List.mem_of_getElem? (i := 920) (by decide +kernel), List.mem_of_getElem? (i := 921) (by decide +kernel)⟩
def lw_privs_4 : List (MethodName × Nat) := [(⟨"WrongWayModel", "isSo", "(III)Z"⟩, 15), (⟨"WrongWayModel", "badAs", "(I)I"⟩, 15), (⟨"WrongWayModel", "countOf", "(I)I"⟩, 15), (⟨"WrongWayModel", "mix", "(J)V"⟩, 15)]
theorem lw_r4 : ∀ q ∈ lw_privs_4, lw_okq q := List.forall_mem_cons.mpr ⟨lw_p48, List.forall_mem_cons.mpr ⟨lw_p49, List.forall_mem_cons.mpr ⟨lw_p50, List.forall_mem_cons.mpr ⟨lw_p51, fun _ h => absurd h List.not_mem_nil⟩⟩⟩⟩
def lw_privs : List (MethodName × Nat) := lw_privs_1 ++ (lw_privs_2 ++ (lw_privs_3 ++ (lw_privs_4)))
def lw_tbl : List Cond := k2_sels lw_privs ++ tables_1
theorem lw_privs_ok : ∀ q ∈ lw_privs, lw_okq q := by
  show ∀ q ∈ lw_privs_1 ++ (lw_privs_2 ++ (lw_privs_3 ++ (lw_privs_4))), lw_okq q
  exact List.forall_mem_append.mpr ⟨lw_r1, List.forall_mem_append.mpr ⟨lw_r2, List.forall_mem_append.mpr ⟨lw_r3, lw_r4⟩⟩⟩
end
section
/-! ===== BEGIN words of one list among another's, by their places ===== -/
theorem goodIn_r {big : List Cond} (ws : List Cond) (ps : List Nat) (hp : ws = ps.filterMap (fun i => big[i]?)) (h : ws.all goodWord = true) : GoodIn big ws := by
  intro w hw
  have h1 := List.all_eq_true.mp h w hw
  rw [hp] at hw
  obtain ⟨i, -, hi⟩ := List.mem_filterMap.mp hw
  have hm : w ∈ big := by first | exact List.mem_of_getElem? hi | exact List.getElem?_mem hi
  exact ⟨hm, good_of_word h1⟩
theorem goodIn_app {big a b : List Cond} (ha : GoodIn big a) (hb : GoodIn big b) : GoodIn big (a ++ b) := fun w h => (List.mem_append.mp h).elim (ha w) (hb w)
theorem goodIn_ca {big a b : List Cond} {c : Cond} (ha : GoodIn big (c :: a)) (hb : GoodIn big b) : GoodIn big (c :: (a ++ b)) := fun w h => (List.mem_cons.mp h).elim (fun e => ha w (List.mem_cons.mpr (Or.inl e))) (fun h => (List.mem_append.mp h).elim (fun h => ha w (List.mem_cons.mpr (Or.inr h))) (hb w))
theorem goodIn_sub {big ws : List Cond} (hm : ∀ w ∈ ws, w ∈ big) (h : ws.all goodWord = true) : GoodIn big ws := fun w hw => ⟨hm w hw, good_of_word (List.all_eq_true.mp h w hw)⟩
/-! ===== END ===== -/

/-! ===== BEGIN printed: names, fields, word lists, decode rows ===== -/
def RX0 : String := "WrongWay$Fraction"
def TX0 : u_T := fun k => match k with
  | 0 => ("WrongWay$Fraction", "above", "J", false)
  | _ => ("WrongWay$Fraction", "below", "J", false)
def tyX0 : Nat → FieldType := fun k => match k with
  | 0 => .long
  | _ => .long
abbrev wsX00 : List Cond := u_ws RX0 TX0 2
theorem nmX0 : ∀ a, a < 2 → ∀ b, b < 2 → a ≠ b → (TX0 a).2.1 ≠ (TX0 b).2.1 := by decide +kernel
theorem tyX0_ok : ∀ k, k < 2 → parseFieldDescriptor (TX0 k).2.2.1 = some (tyX0 k) := by decide +kernel
abbrev cX0_init : ByteArray := prog_2_method_1_code
def yX0_init : MethodName := ⟨RX0, "<init>", "()V"⟩
abbrev cX0_set : ByteArray := prog_2_method_2_code
def yX0_set : MethodName := ⟨RX0, "set", "(JJ)V"⟩
abbrev cX0_commonDivisor : ByteArray := prog_2_method_3_code
def yX0_commonDivisor : MethodName := ⟨RX0, "commonDivisor", "(JJ)J"⟩
def RX1 : String := "WrongWay$House"
def TX1 : u_T := fun k => match k with
  | 0 => ("WrongWay$House", "top", "I", false)
  | 1 => ("WrongWay$House", "lifts", "I", false)
  | 2 => ("WrongWay$House", "minute", "I", false)
  | 3 => ("WrongWay$House", "noted", "I", false)
  | 4 => ("WrongWay$House", "undos", "I", false)
  | 5 => ("WrongWay$House", "kinds", "[I", true)
  | 6 => ("WrongWay$House", "starts", "[I", true)
  | 7 => ("WrongWay$House", "every", "[I", true)
  | 8 => ("WrongWay$House", "at", "[I", true)
  | 9 => ("WrongWay$House", "notedLifts", "[I", true)
  | 10 => ("WrongWay$House", "notedFloors", "[I", true)
  | 11 => ("WrongWay$House", "notedMinutes", "[I", true)
  | 12 => ("WrongWay$House", "notedThere", "[I", true)
  | _ => ("WrongWay$House", "minutesBefore", "[I", true)
def tyX1 : Nat → FieldType := fun k => match k with
  | 0 => .int
  | 1 => .int
  | 2 => .int
  | 3 => .int
  | 4 => .int
  | 5 => .array .int
  | 6 => .array .int
  | 7 => .array .int
  | 8 => .array .int
  | 9 => .array .int
  | 10 => .array .int
  | 11 => .array .int
  | 12 => .array .int
  | _ => .array .int
abbrev wsX10 : List Cond := u_ws RX1 TX1 14
theorem nmX1 : ∀ a, a < 14 → ∀ b, b < 14 → a ≠ b → (TX1 a).2.1 ≠ (TX1 b).2.1 := by decide +kernel
theorem tyX1_ok : ∀ k, k < 14 → parseFieldDescriptor (TX1 k).2.2.1 = some (tyX1 k) := by decide +kernel
abbrev cX1_init : ByteArray := prog_3_method_1_code
def yX1_init : MethodName := ⟨RX1, "<init>", "()V"⟩
abbrev cX1_build : ByteArray := prog_3_method_2_code
def yX1_build : MethodName := ⟨RX1, "build", "(I)V"⟩
abbrev cX1_copy : ByteArray := prog_3_method_3_code
def yX1_copy : MethodName := ⟨RX1, "copy", "(LWrongWay$House;)V"⟩
abbrev cX1_hasFloor : ByteArray := prog_3_method_4_code
def yX1_hasFloor : MethodName := ⟨RX1, "hasFloor", "(I)Z"⟩
abbrev cX1_hasLift : ByteArray := prog_3_method_5_code
def yX1_hasLift : MethodName := ⟨RX1, "hasLift", "(I)Z"⟩
abbrev cX1_addLift : ByteArray := prog_3_method_6_code
def yX1_addLift : MethodName := ⟨RX1, "addLift", "(II)V"⟩
abbrev cX1_setLine : ByteArray := prog_3_method_7_code
def yX1_setLine : MethodName := ⟨RX1, "setLine", "(III)V"⟩
abbrev cX1_addNoted : ByteArray := prog_3_method_8_code
def yX1_addNoted : MethodName := ⟨RX1, "addNoted", "(IIII)V"⟩
abbrev cX1_goOn : ByteArray := prog_3_method_9_code
def yX1_goOn : MethodName := ⟨RX1, "goOn", "(I)V"⟩
abbrev cX1_goBack : ByteArray := prog_3_method_10_code
def yX1_goBack : MethodName := ⟨RX1, "goBack", "()V"⟩
abbrev cX1_turnsOfLine0 : ByteArray := prog_3_method_11_code
def yX1_turnsOfLine0 : MethodName := ⟨RX1, "turnsOfLine0", "(I)I"⟩
abbrev cX1_nextTrain : ByteArray := prog_3_method_12_code
def yX1_nextTrain : MethodName := ⟨RX1, "nextTrain", "(III)I"⟩
abbrev cX1_digestOver : ByteArray := prog_3_method_13_code
def yX1_digestOver : MethodName := ⟨RX1, "digestOver", "(J)J"⟩
def RX2 : String := "WrongWay$Kinds"
def TX2 : u_T := fun k => match k with
  | _ => ("", "", "", false)
def tyX2 : Nat → FieldType := fun k => match k with
  | _ => .int
abbrev wsX20 : List Cond := u_ws RX2 TX2 0
theorem nmX2 : ∀ a, a < 0 → ∀ b, b < 0 → a ≠ b → (TX2 a).2.1 ≠ (TX2 b).2.1 := by decide +kernel
theorem tyX2_ok : ∀ k, k < 0 → parseFieldDescriptor (TX2 k).2.2.1 = some (tyX2 k) := by decide +kernel
abbrev cX2_round : ByteArray := prog_4_method_2_code
def yX2_round : MethodName := ⟨RX2, "round", "(II)I"⟩
abbrev cX2_floorIn : ByteArray := prog_4_method_3_code
def yX2_floorIn : MethodName := ⟨RX2, "floorIn", "(IIII)I"⟩
abbrev cX2_opens : ByteArray := prog_4_method_4_code
def yX2_opens : MethodName := ⟨RX2, "opens", "(III)Z"⟩
def RX3 : String := "WrongWay$Text"
def TX3 : u_T := fun k => match k with
  | 0 => ("WrongWay$Text", "bytes", "[B", true)
  | 1 => ("WrongWay$Text", "length", "I", false)
  | 2 => ("WrongWay$Text", "token", "I", false)
  | 3 => ("WrongWay$Text", "tokenStart", "I", false)
  | 4 => ("WrongWay$Text", "tokenEnd", "I", false)
  | _ => ("WrongWay$Text", "value", "I", false)
def tyX3 : Nat → FieldType := fun k => match k with
  | 0 => .array .byte
  | 1 => .int
  | 2 => .int
  | 3 => .int
  | 4 => .int
  | _ => .int
abbrev wsX30 : List Cond := u_ws RX3 TX3 6
theorem nmX3 : ∀ a, a < 6 → ∀ b, b < 6 → a ≠ b → (TX3 a).2.1 ≠ (TX3 b).2.1 := by decide +kernel
theorem tyX3_ok : ∀ k, k < 6 → parseFieldDescriptor (TX3 k).2.2.1 = some (tyX3 k) := by decide +kernel
abbrev cX3_init : ByteArray := prog_5_method_1_code
def yX3_init : MethodName := ⟨RX3, "<init>", "()V"⟩
abbrev cX3_add : ByteArray := prog_5_method_2_code
def yX3_add : MethodName := ⟨RX3, "add", "(I)V"⟩
abbrev cX3_readInto : ByteArray := prog_5_method_3_code
def yX3_readInto : MethodName := ⟨RX3, "readInto", "(LWrongWay$House;)I"⟩
abbrev cX3_readHouse : ByteArray := prog_5_method_4_code
def yX3_readHouse : MethodName := ⟨RX3, "readHouse", "(LWrongWay$House;)Z"⟩
abbrev cX3_readItem : ByteArray := prog_5_method_5_code
def yX3_readItem : MethodName := ⟨RX3, "readItem", "(LWrongWay$House;)Z"⟩
abbrev cX3_readLift : ByteArray := prog_5_method_6_code
def yX3_readLift : MethodName := ⟨RX3, "readLift", "(LWrongWay$House;)Z"⟩
abbrev cX3_readLine : ByteArray := prog_5_method_7_code
def yX3_readLine : MethodName := ⟨RX3, "readLine", "(LWrongWay$House;)Z"⟩
abbrev cX3_isWord : ByteArray := prog_5_method_8_code
def yX3_isWord : MethodName := ⟨RX3, "isWord", "(Ljava/lang/String;)Z"⟩
abbrev cX3_nextIsNumber : ByteArray := prog_5_method_9_code
def yX3_nextIsNumber : MethodName := ⟨RX3, "nextIsNumber", "(II)Z"⟩
abbrev cX3_nextIsSemicolon : ByteArray := prog_5_method_10_code
def yX3_nextIsSemicolon : MethodName := ⟨RX3, "nextIsSemicolon", "()Z"⟩
abbrev cX3_nextToken : ByteArray := prog_5_method_11_code
def yX3_nextToken : MethodName := ⟨RX3, "nextToken", "()V"⟩
abbrev cX3_endOfWord : ByteArray := prog_5_method_12_code
def yX3_endOfWord : MethodName := ⟨RX3, "endOfWord", "(I)I"⟩
abbrev cX3_endOfNumber : ByteArray := prog_5_method_13_code
def yX3_endOfNumber : MethodName := ⟨RX3, "endOfNumber", "(I)I"⟩
abbrev cX3_valueOf : ByteArray := prog_5_method_14_code
def yX3_valueOf : MethodName := ⟨RX3, "valueOf", "(II)I"⟩
abbrev cX3_isLetter : ByteArray := prog_5_method_15_code
def yX3_isLetter : MethodName := ⟨RX3, "isLetter", "(B)Z"⟩
abbrev cX3_isFigure : ByteArray := prog_5_method_16_code
def yX3_isFigure : MethodName := ⟨RX3, "isFigure", "(B)Z"⟩
def RX4 : String := "WrongWay$Watch"
def TX4 : u_T := fun k => match k with
  | _ => ("WrongWay$Watch", "house", "LWrongWay$House;", true)
def tyX4 : Nat → FieldType := fun k => match k with
  | _ => .object "WrongWay$House"
abbrev wsX40 : List Cond := u_ws RX4 TX4 1
theorem nmX4 : ∀ a, a < 1 → ∀ b, b < 1 → a ≠ b → (TX4 a).2.1 ≠ (TX4 b).2.1 := by decide +kernel
theorem tyX4_ok : ∀ k, k < 1 → parseFieldDescriptor (TX4 k).2.2.1 = some (tyX4 k) := by decide +kernel
abbrev cX4_init : ByteArray := prog_6_method_1_code
def yX4_init : MethodName := ⟨RX4, "<init>", "(LWrongWay$House;)V"⟩
abbrev cX4_floorOf : ByteArray := prog_6_method_2_code
def yX4_floorOf : MethodName := ⟨RX4, "floorOf", "(II)I"⟩
abbrev cX4_wayOf : ByteArray := prog_6_method_3_code
def yX4_wayOf : MethodName := ⟨RX4, "wayOf", "(II)I"⟩
abbrev cX4_isSeen : ByteArray := prog_6_method_4_code
def yX4_isSeen : MethodName := ⟨RX4, "isSeen", "(III)Z"⟩
abbrev cX4_seenFrom : ByteArray := prog_6_method_5_code
def yX4_seenFrom : MethodName := ⟨RX4, "seenFrom", "(III)I"⟩
abbrev cX4_waitOn : ByteArray := prog_6_method_6_code
def yX4_waitOn : MethodName := ⟨RX4, "waitOn", "(III)I"⟩
abbrev cX4_waitForLift : ByteArray := prog_6_method_7_code
def yX4_waitForLift : MethodName := ⟨RX4, "waitForLift", "(III)I"⟩
abbrev cX4_wayOfFirst : ByteArray := prog_6_method_8_code
def yX4_wayOfFirst : MethodName := ⟨RX4, "wayOfFirst", "(II)I"⟩
abbrev cX4_rideTime : ByteArray := prog_6_method_9_code
def yX4_rideTime : MethodName := ⟨RX4, "rideTime", "(IIII)I"⟩
abbrev cX4_fits : ByteArray := prog_6_method_10_code
def yX4_fits : MethodName := ⟨RX4, "fits", "(III)Z"⟩
abbrev cX4_fittingKinds : ByteArray := prog_6_method_11_code
def yX4_fittingKinds : MethodName := ⟨RX4, "fittingKinds", "(I)I"⟩
abbrev cX4_fittingStarts : ByteArray := prog_6_method_12_code
def yX4_fittingStarts : MethodName := ⟨RX4, "fittingStarts", "(I)I"⟩
abbrev cX4_tellingMinute : ByteArray := prog_6_method_13_code
def yX4_tellingMinute : MethodName := ⟨RX4, "tellingMinute", "(II)I"⟩
abbrev cX4_kindsThere : ByteArray := prog_6_method_14_code
def yX4_kindsThere : MethodName := ⟨RX4, "kindsThere", "(IIII)I"⟩
def RX5 : String := "WrongWay"
def TX5 : u_T := fun k => match k with
  | 0 => ("WrongWay", "now", "LWrongWay$House;", true)
  | 1 => ("WrongWay", "draft", "LWrongWay$House;", true)
  | 2 => ("WrongWay", "images", "[LWrongWay$House;", true)
  | 3 => ("WrongWay", "kept", "[Z", true)
  | 4 => ("WrongWay", "watch", "LWrongWay$Watch;", true)
  | 5 => ("WrongWay", "text", "LWrongWay$Text;", true)
  | 6 => ("WrongWay", "fraction", "LWrongWay$Fraction;", true)
  | _ => ("WrongWay", "refusals", "[I", true)
def tyX5 : Nat → FieldType := fun k => match k with
  | 0 => .object "WrongWay$House"
  | 1 => .object "WrongWay$House"
  | 2 => .array (.object "WrongWay$House")
  | 3 => .array .boolean
  | 4 => .object "WrongWay$Watch"
  | 5 => .object "WrongWay$Text"
  | 6 => .object "WrongWay$Fraction"
  | _ => .array .int
abbrev wsX50 : List Cond := u_ws RX5 TX5 8
theorem nmX5 : ∀ a, a < 8 → ∀ b, b < 8 → a ≠ b → (TX5 a).2.1 ≠ (TX5 b).2.1 := by decide +kernel
theorem tyX5_ok : ∀ k, k < 8 → parseFieldDescriptor (TX5 k).2.2.1 = some (tyX5 k) := by decide +kernel
abbrev cX5_init : ByteArray := prog_1_method_1_code
def yX5_init : MethodName := ⟨RX5, "<init>", "()V"⟩
abbrev cX5_house : ByteArray := prog_1_method_2_code
def yX5_house : MethodName := ⟨RX5, "house", "(I)I"⟩
abbrev cX5_lift : ByteArray := prog_1_method_3_code
def yX5_lift : MethodName := ⟨RX5, "lift", "(II)I"⟩
abbrev cX5_line : ByteArray := prog_1_method_4_code
def yX5_line : MethodName := ⟨RX5, "line", "(III)I"⟩
abbrev cX5_type : ByteArray := prog_1_method_5_code
def yX5_type : MethodName := ⟨RX5, "type", "(I)I"⟩
abbrev cX5_clear : ByteArray := prog_1_method_6_code
def yX5_clear : MethodName := ⟨RX5, "clear", "()I"⟩
abbrev cX5_read : ByteArray := prog_1_method_7_code
def yX5_read : MethodName := ⟨RX5, "read", "()I"⟩
abbrev cX5_passes : ByteArray := prog_1_method_8_code
def yX5_passes : MethodName := ⟨RX5, "passes", "(I)I"⟩
abbrev cX5_undo : ByteArray := prog_1_method_9_code
def yX5_undo : MethodName := ⟨RX5, "undo", "()I"⟩
abbrev cX5_of : ByteArray := prog_1_method_10_code
def yX5_of : MethodName := ⟨RX5, "of", "(II)I"⟩
abbrev cX5_where : ByteArray := prog_1_method_11_code
def yX5_where : MethodName := ⟨RX5, "where", "(II)I"⟩
abbrev cX5_first : ByteArray := prog_1_method_12_code
def yX5_first : MethodName := ⟨RX5, "first", "(III)I"⟩
abbrev cX5_often : ByteArray := prog_1_method_13_code
def yX5_often : MethodName := ⟨RX5, "often", "(II)I"⟩
abbrev cX5_own : ByteArray := prog_1_method_14_code
def yX5_own : MethodName := ⟨RX5, "own", "(II)I"⟩
abbrev cX5_ride : ByteArray := prog_1_method_15_code
def yX5_ride : MethodName := ⟨RX5, "ride", "(IIII)I"⟩
abbrev cX5_walk : ByteArray := prog_1_method_16_code
def yX5_walk : MethodName := ⟨RX5, "walk", "(IIII)I"⟩
abbrev cX5_lines : ByteArray := prog_1_method_17_code
def yX5_lines : MethodName := ⟨RX5, "lines", "()I"⟩
abbrev cX5_even : ByteArray := prog_1_method_18_code
def yX5_even : MethodName := ⟨RX5, "even", "()I"⟩
abbrev cX5_note : ByteArray := prog_1_method_19_code
def yX5_note : MethodName := ⟨RX5, "note", "(IIII)I"⟩
abbrev cX5_forget : ByteArray := prog_1_method_20_code
def yX5_forget : MethodName := ⟨RX5, "forget", "()I"⟩
abbrev cX5_is : ByteArray := prog_1_method_21_code
def yX5_is : MethodName := ⟨RX5, "is", "(II)I"⟩
abbrev cX5_look : ByteArray := prog_1_method_22_code
def yX5_look : MethodName := ⟨RX5, "look", "(II)I"⟩
abbrev cX5_porters : ByteArray := prog_1_method_23_code
def yX5_porters : MethodName := ⟨RX5, "porters", "(IIII)I"⟩
abbrev cX5_days : ByteArray := prog_1_method_24_code
def yX5_days : MethodName := ⟨RX5, "days", "(III)I"⟩
abbrev cX5_part : ByteArray := prog_1_method_25_code
def yX5_part : MethodName := ⟨RX5, "part", "(I)J"⟩
abbrev cX5_image : ByteArray := prog_1_method_26_code
def yX5_image : MethodName := ⟨RX5, "image", "(I)I"⟩
abbrev cX5_from : ByteArray := prog_1_method_27_code
def yX5_from : MethodName := ⟨RX5, "from", "(I)I"⟩
abbrev cX5_status : ByteArray := prog_1_method_28_code
def yX5_status : MethodName := ⟨RX5, "status", "(I)I"⟩
abbrev cX5_count : ByteArray := prog_1_method_29_code
def yX5_count : MethodName := ⟨RX5, "count", "(I)I"⟩
abbrev cX5_digest : ByteArray := prog_1_method_30_code
def yX5_digest : MethodName := ⟨RX5, "digest", "()J"⟩
abbrev cX5_refuse : ByteArray := prog_1_method_31_code
def yX5_refuse : MethodName := ⟨RX5, "refuse", "(I)I"⟩
abbrev cX5_isWithin : ByteArray := prog_1_method_32_code
def yX5_isWithin : MethodName := ⟨RX5, "isWithin", "(III)Z"⟩
abbrev cX5_isMinute : ByteArray := prog_1_method_33_code
def yX5_isMinute : MethodName := ⟨RX5, "isMinute", "(I)Z"⟩
abbrev cX5_chanceOfUp : ByteArray := prog_1_method_34_code
def yX5_chanceOfUp : MethodName := ⟨RX5, "chanceOfUp", "(I)I"⟩
abbrev cX5_meanWait : ByteArray := prog_1_method_35_code
def yX5_meanWait : MethodName := ⟨RX5, "meanWait", "(II)I"⟩
abbrev cX5_setMean : ByteArray := prog_1_method_36_code
def yX5_setMean : MethodName := ⟨RX5, "setMean", "(II)I"⟩
def RX6 : String := "WrongWayModel"
def TX6 : u_T := fun k => match k with
  | 0 => ("WrongWayModel", "w", "[I", true)
  | 1 => ("WrongWayModel", "isKept", "[Z", true)
  | 2 => ("WrongWayModel", "text", "[I", true)
  | 3 => ("WrongWayModel", "texted", "I", false)
  | 4 => ("WrongWayModel", "refused", "[I", true)
  | 5 => ("WrongWayModel", "above", "J", false)
  | 6 => ("WrongWayModel", "below", "J", false)
  | 7 => ("WrongWayModel", "at", "I", false)
  | 8 => ("WrongWayModel", "start", "I", false)
  | 9 => ("WrongWayModel", "isWord", "Z", false)
  | 10 => ("WrongWayModel", "isFigures", "Z", false)
  | 11 => ("WrongWayModel", "numbers", "[I", true)
  | 12 => ("WrongWayModel", "comer", "I", false)
  | 13 => ("WrongWayModel", "coming", "I", false)
  | _ => ("WrongWayModel", "h", "J", false)
def tyX6 : Nat → FieldType := fun k => match k with
  | 0 => .array .int
  | 1 => .array .boolean
  | 2 => .array .int
  | 3 => .int
  | 4 => .array .int
  | 5 => .long
  | 6 => .long
  | 7 => .int
  | 8 => .int
  | 9 => .boolean
  | 10 => .boolean
  | 11 => .array .int
  | 12 => .int
  | 13 => .int
  | _ => .long
abbrev wsX60 : List Cond := u_ws RX6 TX6 15
theorem nmX6 : ∀ a, a < 15 → ∀ b, b < 15 → a ≠ b → (TX6 a).2.1 ≠ (TX6 b).2.1 := by decide +kernel
theorem tyX6_ok : ∀ k, k < 15 → parseFieldDescriptor (TX6 k).2.2.1 = some (tyX6 k) := by decide +kernel
abbrev cX6_init : ByteArray := prog_8_method_1_code
def yX6_init : MethodName := ⟨RX6, "<init>", "()V"⟩
abbrev cX6_in : ByteArray := prog_8_method_3_code
def yX6_in : MethodName := ⟨RX6, "in", "(JJJ)Z"⟩
abbrev cX6_has : ByteArray := prog_8_method_4_code
def yX6_has : MethodName := ⟨RX6, "has", "(II)Z"⟩
abbrev cX6_bad : ByteArray := prog_8_method_5_code
def yX6_bad : MethodName := ⟨RX6, "bad", "()I"⟩
abbrev cX6_badAs : ByteArray := prog_8_method_6_code
def yX6_badAs : MethodName := ⟨RX6, "badAs", "(I)I"⟩
abbrev cX6_no : ByteArray := prog_8_method_7_code
def yX6_no : MethodName := ⟨RX6, "no", "()I"⟩
abbrev cX6_full : ByteArray := prog_8_method_8_code
def yX6_full : MethodName := ⟨RX6, "full", "()I"⟩
abbrev cX6_copy : ByteArray := prog_8_method_9_code
def yX6_copy : MethodName := ⟨RX6, "copy", "(II)V"⟩
abbrev cX6_begins : ByteArray := prog_8_method_10_code
def yX6_begins : MethodName := ⟨RX6, "begins", "(II)V"⟩
abbrev cX6_isFloor : ByteArray := prog_8_method_11_code
def yX6_isFloor : MethodName := ⟨RX6, "isFloor", "(I)Z"⟩
abbrev cX6_isLift : ByteArray := prog_8_method_12_code
def yX6_isLift : MethodName := ⟨RX6, "isLift", "(I)Z"⟩
abbrev cX6_isMinute : ByteArray := prog_8_method_13_code
def yX6_isMinute : MethodName := ⟨RX6, "isMinute", "(I)Z"⟩
abbrev cX6_house : ByteArray := prog_8_method_14_code
def yX6_house : MethodName := ⟨RX6, "house", "(I)I"⟩
abbrev cX6_adds : ByteArray := prog_8_method_15_code
def yX6_adds : MethodName := ⟨RX6, "adds", "(III)I"⟩
abbrev cX6_lift : ByteArray := prog_8_method_16_code
def yX6_lift : MethodName := ⟨RX6, "lift", "(II)I"⟩
abbrev cX6_line : ByteArray := prog_8_method_17_code
def yX6_line : MethodName := ⟨RX6, "line", "(III)I"⟩
abbrev cX6_type : ByteArray := prog_8_method_18_code
def yX6_type : MethodName := ⟨RX6, "type", "(I)I"⟩
abbrev cX6_clear : ByteArray := prog_8_method_19_code
def yX6_clear : MethodName := ⟨RX6, "clear", "()I"⟩
abbrev cX6_byteAt : ByteArray := prog_8_method_20_code
def yX6_byteAt : MethodName := ⟨RX6, "byteAt", "(I)I"⟩
abbrev cX6_token : ByteArray := prog_8_method_21_code
def yX6_token : MethodName := ⟨RX6, "token", "()V"⟩
abbrev cX6_isNamed : ByteArray := prog_8_method_22_code
def yX6_isNamed : MethodName := ⟨RX6, "isNamed", "(IIIII)Z"⟩
abbrev cX6_wordNow : ByteArray := prog_8_method_23_code
def yX6_wordNow : MethodName := ⟨RX6, "wordNow", "()I"⟩
abbrev cX6_takes : ByteArray := prog_8_method_24_code
def yX6_takes : MethodName := ⟨RX6, "takes", "(III)Z"⟩
abbrev cX6_takesHouse : ByteArray := prog_8_method_25_code
def yX6_takesHouse : MethodName := ⟨RX6, "takesHouse", "()Z"⟩
abbrev cX6_takesLift : ByteArray := prog_8_method_26_code
def yX6_takesLift : MethodName := ⟨RX6, "takesLift", "()Z"⟩
abbrev cX6_takesLine : ByteArray := prog_8_method_27_code
def yX6_takesLine : MethodName := ⟨RX6, "takesLine", "()Z"⟩
abbrev cX6_takesItem : ByteArray := prog_8_method_28_code
def yX6_takesItem : MethodName := ⟨RX6, "takesItem", "(I)Z"⟩
abbrev cX6_read : ByteArray := prog_8_method_29_code
def yX6_read : MethodName := ⟨RX6, "read", "()I"⟩
abbrev cX6_roundOf : ByteArray := prog_8_method_30_code
def yX6_roundOf : MethodName := ⟨RX6, "roundOf", "(I)I"⟩
abbrev cX6_plain : ByteArray := prog_8_method_31_code
def yX6_plain : MethodName := ⟨RX6, "plain", "(I)I"⟩
abbrev cX6_rests : ByteArray := prog_8_method_32_code
def yX6_rests : MethodName := ⟨RX6, "rests", "(I)I"⟩
abbrev cX6_floorOf : ByteArray := prog_8_method_33_code
def yX6_floorOf : MethodName := ⟨RX6, "floorOf", "(III)I"⟩
abbrev cX6_floorIn : ByteArray := prog_8_method_34_code
def yX6_floorIn : MethodName := ⟨RX6, "floorIn", "(II)I"⟩
abbrev cX6_isTaken : ByteArray := prog_8_method_35_code
def yX6_isTaken : MethodName := ⟨RX6, "isTaken", "(II)Z"⟩
abbrev cX6_wayIn : ByteArray := prog_8_method_36_code
def yX6_wayIn : MethodName := ⟨RX6, "wayIn", "(II)I"⟩
abbrev cX6_isSeen : ByteArray := prog_8_method_37_code
def yX6_isSeen : MethodName := ⟨RX6, "isSeen", "(III)Z"⟩
abbrev cX6_passes : ByteArray := prog_8_method_38_code
def yX6_passes : MethodName := ⟨RX6, "passes", "(I)I"⟩
abbrev cX6_undo : ByteArray := prog_8_method_39_code
def yX6_undo : MethodName := ⟨RX6, "undo", "()I"⟩
abbrev cX6_of : ByteArray := prog_8_method_40_code
def yX6_of : MethodName := ⟨RX6, "of", "(II)I"⟩
abbrev cX6_where : ByteArray := prog_8_method_41_code
def yX6_where : MethodName := ⟨RX6, "where", "(II)I"⟩
abbrev cX6_comes : ByteArray := prog_8_method_42_code
def yX6_comes : MethodName := ⟨RX6, "comes", "(IIII)Z"⟩
abbrev cX6_first : ByteArray := prog_8_method_43_code
def yX6_first : MethodName := ⟨RX6, "first", "(III)I"⟩
abbrev cX6_tells : ByteArray := prog_8_method_44_code
def yX6_tells : MethodName := ⟨RX6, "tells", "(JJ)I"⟩
abbrev cX6_often : ByteArray := prog_8_method_45_code
def yX6_often : MethodName := ⟨RX6, "often", "(II)I"⟩
abbrev cX6_own : ByteArray := prog_8_method_46_code
def yX6_own : MethodName := ⟨RX6, "own", "(II)I"⟩
abbrev cX6_rides : ByteArray := prog_8_method_47_code
def yX6_rides : MethodName := ⟨RX6, "rides", "(IIII)I"⟩
abbrev cX6_ride : ByteArray := prog_8_method_48_code
def yX6_ride : MethodName := ⟨RX6, "ride", "(IIII)I"⟩
abbrev cX6_walk : ByteArray := prog_8_method_49_code
def yX6_walk : MethodName := ⟨RX6, "walk", "(IIII)I"⟩
abbrev cX6_nextOf : ByteArray := prog_8_method_50_code
def yX6_nextOf : MethodName := ⟨RX6, "nextOf", "(III)I"⟩
abbrev cX6_ofSixty : ByteArray := prog_8_method_51_code
def yX6_ofSixty : MethodName := ⟨RX6, "ofSixty", "(I)I"⟩
abbrev cX6_lines : ByteArray := prog_8_method_52_code
def yX6_lines : MethodName := ⟨RX6, "lines", "()I"⟩
abbrev cX6_even : ByteArray := prog_8_method_53_code
def yX6_even : MethodName := ⟨RX6, "even", "()I"⟩
abbrev cX6_note : ByteArray := prog_8_method_54_code
def yX6_note : MethodName := ⟨RX6, "note", "(IIII)I"⟩
abbrev cX6_forget : ByteArray := prog_8_method_55_code
def yX6_forget : MethodName := ⟨RX6, "forget", "()I"⟩
abbrev cX6_isSo : ByteArray := prog_8_method_56_code
def yX6_isSo : MethodName := ⟨RX6, "isSo", "(III)Z"⟩
abbrev cX6_kindsOf : ByteArray := prog_8_method_57_code
def yX6_kindsOf : MethodName := ⟨RX6, "kindsOf", "(I)I"⟩
abbrev cX6_is : ByteArray := prog_8_method_58_code
def yX6_is : MethodName := ⟨RX6, "is", "(II)I"⟩
abbrev cX6_look : ByteArray := prog_8_method_59_code
def yX6_look : MethodName := ⟨RX6, "look", "(II)I"⟩
abbrev cX6_porters : ByteArray := prog_8_method_60_code
def yX6_porters : MethodName := ⟨RX6, "porters", "(IIII)I"⟩
abbrev cX6_days : ByteArray := prog_8_method_61_code
def yX6_days : MethodName := ⟨RX6, "days", "(III)I"⟩
abbrev cX6_part : ByteArray := prog_8_method_62_code
def yX6_part : MethodName := ⟨RX6, "part", "(I)J"⟩
abbrev cX6_image : ByteArray := prog_8_method_63_code
def yX6_image : MethodName := ⟨RX6, "image", "(I)I"⟩
abbrev cX6_from : ByteArray := prog_8_method_64_code
def yX6_from : MethodName := ⟨RX6, "from", "(I)I"⟩
abbrev cX6_status : ByteArray := prog_8_method_65_code
def yX6_status : MethodName := ⟨RX6, "status", "(I)I"⟩
abbrev cX6_countOf : ByteArray := prog_8_method_66_code
def yX6_countOf : MethodName := ⟨RX6, "countOf", "(I)I"⟩
abbrev cX6_count : ByteArray := prog_8_method_67_code
def yX6_count : MethodName := ⟨RX6, "count", "(I)I"⟩
abbrev cX6_mix : ByteArray := prog_8_method_68_code
def yX6_mix : MethodName := ⟨RX6, "mix", "(J)V"⟩
abbrev cX6_digest : ByteArray := prog_8_method_69_code
def yX6_digest : MethodName := ⟨RX6, "digest", "()J"⟩
def RJ6 : String := "java/lang/Integer"
def TJ6 : u_T := fun k => match k with
  | _ => ("", "", "", false)
def tyJ6 : Nat → FieldType := fun k => match k with
  | _ => .int
abbrev wsJ60 : List Cond := u_ws RJ6 TJ6 0
theorem nmJ6 : ∀ a, a < 0 → ∀ b, b < 0 → a ≠ b → (TJ6 a).2.1 ≠ (TJ6 b).2.1 := by decide +kernel
theorem tyJ6_ok : ∀ k, k < 0 → parseFieldDescriptor (TJ6 k).2.2.1 = some (tyJ6 k) := by decide +kernel
abbrev cJ6_bitCount_0f7a4 : ByteArray := prog_9_method_49_code
def yJ6_bitCount_0f7a4 : MethodName := ⟨RJ6, "bitCount", "(I)I"⟩
def RJ9 : String := "java/lang/Math"
def TJ9 : u_T := fun k => match k with
  | _ => ("", "", "", false)
def tyJ9 : Nat → FieldType := fun k => match k with
  | _ => .int
abbrev wsJ90 : List Cond := u_ws RJ9 TJ9 0
theorem nmJ9 : ∀ a, a < 0 → ∀ b, b < 0 → a ≠ b → (TJ9 a).2.1 ≠ (TJ9 b).2.1 := by decide +kernel
theorem tyJ9_ok : ∀ k, k < 0 → parseFieldDescriptor (TJ9 k).2.2.1 = some (tyJ9 k) := by decide +kernel
abbrev cJ9_abs_0f7a4 : ByteArray := prog_10_method_59_code
def yJ9_abs_0f7a4 : MethodName := ⟨RJ9, "abs", "(I)I"⟩
abbrev cJ9_max_7cf53 : ByteArray := prog_10_method_65_code
def yJ9_max_7cf53 : MethodName := ⟨RJ9, "max", "(II)I"⟩
abbrev cJ9_min_7cf53 : ByteArray := prog_10_method_69_code
def yJ9_min_7cf53 : MethodName := ⟨RJ9, "min", "(II)I"⟩
def RJ0 : String := "java/lang/String"
def TJ0 : u_T := fun k => match k with
  | _ => ("", "", "", false)
def tyJ0 : Nat → FieldType := fun k => match k with
  | _ => .int
abbrev wsJ00 : List Cond := u_ws RJ0 TJ0 0
theorem nmJ0 : ∀ a, a < 0 → ∀ b, b < 0 → a ≠ b → (TJ0 a).2.1 ≠ (TJ0 b).2.1 := by decide +kernel
theorem tyJ0_ok : ∀ k, k < 0 → parseFieldDescriptor (TJ0 k).2.2.1 = some (tyJ0 k) := by decide +kernel
abbrev cJ0_length_8abf5 : ByteArray := prog_11_method_54_code
def yJ0_length_8abf5 : MethodName := ⟨RJ0, "length", "()I"⟩
abbrev cJ0_charAt_5068e : ByteArray := prog_11_method_56_code
def yJ0_charAt_5068e : MethodName := ⟨RJ0, "charAt", "(I)C"⟩
abbrev cJ0_coder_7d493 : ByteArray := prog_11_method_152_code
def yJ0_coder_7d493 : MethodName := ⟨RJ0, "coder", "()B"⟩
abbrev cJ0_isLatin1_aae02 : ByteArray := prog_11_method_154_code
def yJ0_isLatin1_aae02 : MethodName := ⟨RJ0, "isLatin1", "()Z"⟩
abbrev cJ0_checkIndex_df160 : ByteArray := prog_11_method_155_code
def yJ0_checkIndex_df160 : MethodName := ⟨RJ0, "checkIndex", "(II)V"⟩
def RJ1 : String := "java/lang/StringLatin1"
def TJ1 : u_T := fun k => match k with
  | _ => ("", "", "", false)
def tyJ1 : Nat → FieldType := fun k => match k with
  | _ => .int
abbrev wsJ10 : List Cond := u_ws RJ1 TJ1 0
theorem nmJ1 : ∀ a, a < 0 → ∀ b, b < 0 → a ≠ b → (TJ1 a).2.1 ≠ (TJ1 b).2.1 := by decide +kernel
theorem tyJ1_ok : ∀ k, k < 0 → parseFieldDescriptor (TJ1 k).2.2.1 = some (tyJ1 k) := by decide +kernel
abbrev cJ1_charAt_3b067 : ByteArray := prog_12_method_2_code
def yJ1_charAt_3b067 : MethodName := ⟨RJ1, "charAt", "([BI)C"⟩
def RJ2 : String := "java/lang/StringUTF16"
def TJ2 : u_T := fun k => match k with
  | _ => ("", "", "", false)
def tyJ2 : Nat → FieldType := fun k => match k with
  | _ => .int
abbrev wsJ20 : List Cond := u_ws RJ2 TJ2 0
theorem nmJ2 : ∀ a, a < 0 → ∀ b, b < 0 → a ≠ b → (TJ2 a).2.1 ≠ (TJ2 b).2.1 := by decide +kernel
theorem tyJ2_ok : ∀ k, k < 0 → parseFieldDescriptor (TJ2 k).2.2.1 = some (tyJ2 k) := by decide +kernel
abbrev cJ2_getChar_3b067 : ByteArray := prog_13_method_5_code
def yJ2_getChar_3b067 : MethodName := ⟨RJ2, "getChar", "([BI)C"⟩
abbrev cJ2_length_9d52b : ByteArray := prog_13_method_6_code
def yJ2_length_9d52b : MethodName := ⟨RJ2, "length", "([B)I"⟩
abbrev cJ2_charAt_3b067 : ByteArray := prog_13_method_83_code
def yJ2_charAt_3b067 : MethodName := ⟨RJ2, "charAt", "([BI)C"⟩
abbrev cJ2_checkIndex_2214a : ByteArray := prog_13_method_91_code
def yJ2_checkIndex_2214a : MethodName := ⟨RJ2, "checkIndex", "(I[B)V"⟩
def RJ10 : String := "java/lang/System"
def TJ10 : u_T := fun k => match k with
  | _ => ("", "", "", false)
def tyJ10 : Nat → FieldType := fun k => match k with
  | _ => .int
abbrev wsJ100 : List Cond := u_ws RJ10 TJ10 0
theorem nmJ10 : ∀ a, a < 0 → ∀ b, b < 0 → a ≠ b → (TJ10 a).2.1 ≠ (TJ10 b).2.1 := by decide +kernel
theorem tyJ10_ok : ∀ k, k < 0 → parseFieldDescriptor (TJ10 k).2.2.1 = some (tyJ10 k) := by decide +kernel
def RJ3 : String := "jdk/internal/util/Preconditions"
def TJ3 : u_T := fun k => match k with
  | _ => ("", "", "", false)
def tyJ3 : Nat → FieldType := fun k => match k with
  | _ => .int
abbrev wsJ30 : List Cond := u_ws RJ3 TJ3 0
theorem nmJ3 : ∀ a, a < 0 → ∀ b, b < 0 → a ≠ b → (TJ3 a).2.1 ≠ (TJ3 b).2.1 := by decide +kernel
theorem tyJ3_ok : ∀ k, k < 0 → parseFieldDescriptor (TJ3 k).2.2.1 = some (tyJ3 k) := by decide +kernel
abbrev cJ3_checkIndex_8e157 : ByteArray := prog_15_method_11_code
def yJ3_checkIndex_8e157 : MethodName := ⟨RJ3, "checkIndex", "(IILjava/util/function/BiFunction;)I"⟩
def wsX0_init : List Cond := .code yX0_init cX0_init 1 none :: ([.methodLink RX0 1 objectInit, .instanceMethod objectInit, .code objectInit ⟨#[0xb1]⟩ 1 none, .fieldLink RX0 7 "WrongWay$Fraction" "above" "J", .fieldLink RX0 13 "WrongWay$Fraction" "below" "J"] ++ wsX00)
def wsX0_commonDivisor : List Cond := .code yX0_commonDivisor cX0_commonDivisor 11 (some .long) :: ([])
def wsX0_set : List Cond := .code yX0_set cX0_set 7 none :: ([.fieldLink RX0 7 "WrongWay$Fraction" "above" "J", .fieldLink RX0 13 "WrongWay$Fraction" "below" "J", .methodLink RX0 16 yX0_commonDivisor, .static yX0_commonDivisor, .initialized RX0, .code yX0_commonDivisor cX0_commonDivisor 11 (some .long)] ++ wsX00)
def wsX1_setLine : List Cond := .code yX1_setLine cX1_setLine 4 none :: ([.fieldLink RX1 16 "WrongWay$House" "every" "[I", .fieldLink RX1 19 "WrongWay$House" "at" "[I"] ++ wsX10)
def wsX1_build : List Cond := .code yX1_build cX1_build 2 none :: ([.fieldLink RX1 41 "WrongWay$House" "top" "I", .fieldLink RX1 45 "WrongWay$House" "lifts" "I", .fieldLink RX1 48 "WrongWay$House" "minute" "I", .fieldLink RX1 51 "WrongWay$House" "noted" "I", .fieldLink RX1 54 "WrongWay$House" "undos" "I", .methodLink RX1 57 yX1_setLine, .instanceMethod yX1_setLine, .selects RX1 yX1_setLine yX1_setLine, .initialized RX1, .code yX1_setLine cX1_setLine 4 none, .fieldLink RX1 16 "WrongWay$House" "every" "[I", .fieldLink RX1 19 "WrongWay$House" "at" "[I"] ++ wsX10)
def wsX1_init_r1 : List Cond := [Cond.methodLink RX1 1 objectInit, Cond.instanceMethod objectInit, Cond.code objectInit ⟨#[0xb1]⟩ 1 none, Cond.arrayClass .int, Cond.fieldLink RX1 9 "WrongWay$House" "kinds" "[I", Cond.fieldLink RX1 13 "WrongWay$House" "starts" "[I", Cond.fieldLink RX1 16 "WrongWay$House" "every" "[I", Cond.fieldLink RX1 19 "WrongWay$House" "at" "[I", Cond.fieldLink RX1 22 "WrongWay$House" "notedLifts" "[I", Cond.fieldLink RX1 25 "WrongWay$House" "notedFloors" "[I", Cond.fieldLink RX1 28 "WrongWay$House" "notedMinutes" "[I", Cond.fieldLink RX1 31 "WrongWay$House" "notedThere" "[I", Cond.fieldLink RX1 34 "WrongWay$House" "minutesBefore" "[I", Cond.methodLink RX1 37 yX1_build, Cond.instanceMethod yX1_build, Cond.selects RX1 yX1_build yX1_build, Cond.initialized RX1, Cond.code yX1_build cX1_build 2 none, Cond.fieldLink RX1 41 "WrongWay$House" "top" "I", Cond.fieldLink RX1 45 "WrongWay$House" "lifts" "I", Cond.fieldLink RX1 48 "WrongWay$House" "minute" "I", Cond.fieldLink RX1 51 "WrongWay$House" "noted" "I", Cond.fieldLink RX1 54 "WrongWay$House" "undos" "I", Cond.methodLink RX1 57 yX1_setLine]
def wsX1_init_r2 : List Cond := [Cond.instanceMethod yX1_setLine, Cond.selects RX1 yX1_setLine yX1_setLine, Cond.code yX1_setLine cX1_setLine 4 none]
def wsX1_init : List Cond := .code yX1_init cX1_init 1 none :: ((wsX1_init_r1 ++ wsX1_init_r2) ++ wsX10)
def wsX1_copy : List Cond := .code yX1_copy cX1_copy 2 none :: ([.fieldLink RX1 41 "WrongWay$House" "top" "I", .fieldLink RX1 45 "WrongWay$House" "lifts" "I", .fieldLink RX1 48 "WrongWay$House" "minute" "I", .fieldLink RX1 51 "WrongWay$House" "noted" "I", .fieldLink RX1 54 "WrongWay$House" "undos" "I", .fieldLink RX1 9 "WrongWay$House" "kinds" "[I", .methodLink RX1 61 arraycopyName, .native arraycopyName, .static arraycopyName, .initialized "java/lang/System", .fieldLink RX1 13 "WrongWay$House" "starts" "[I", .fieldLink RX1 16 "WrongWay$House" "every" "[I", .fieldLink RX1 19 "WrongWay$House" "at" "[I", .fieldLink RX1 22 "WrongWay$House" "notedLifts" "[I", .fieldLink RX1 25 "WrongWay$House" "notedFloors" "[I", .fieldLink RX1 28 "WrongWay$House" "notedMinutes" "[I", .fieldLink RX1 31 "WrongWay$House" "notedThere" "[I", .fieldLink RX1 34 "WrongWay$House" "minutesBefore" "[I"] ++ wsX10)
def wsX1_hasFloor : List Cond := .code yX1_hasFloor cX1_hasFloor 2 (some .boolean) :: ([.fieldLink RX1 41 "WrongWay$House" "top" "I"] ++ wsX10)
def wsX1_hasLift : List Cond := .code yX1_hasLift cX1_hasLift 2 (some .boolean) :: ([.fieldLink RX1 45 "WrongWay$House" "lifts" "I"] ++ wsX10)
def wsX1_addLift : List Cond := .code yX1_addLift cX1_addLift 3 none :: ([.fieldLink RX1 45 "WrongWay$House" "lifts" "I", .fieldLink RX1 9 "WrongWay$House" "kinds" "[I", .fieldLink RX1 13 "WrongWay$House" "starts" "[I", .fieldLink RX1 54 "WrongWay$House" "undos" "I"] ++ wsX10)
def wsX1_addNoted : List Cond := .code yX1_addNoted cX1_addNoted 5 none :: ([.fieldLink RX1 51 "WrongWay$House" "noted" "I", .fieldLink RX1 22 "WrongWay$House" "notedLifts" "[I", .fieldLink RX1 25 "WrongWay$House" "notedFloors" "[I", .fieldLink RX1 28 "WrongWay$House" "notedMinutes" "[I", .fieldLink RX1 31 "WrongWay$House" "notedThere" "[I"] ++ wsX10)
def wsX1_goOn : List Cond := .code yX1_goOn cX1_goOn 2 none :: ([.fieldLink RX1 54 "WrongWay$House" "undos" "I", .fieldLink RX1 34 "WrongWay$House" "minutesBefore" "[I", .methodLink RX1 61 arraycopyName, .native arraycopyName, .static arraycopyName, .initialized "java/lang/System", .fieldLink RX1 48 "WrongWay$House" "minute" "I"] ++ wsX10)
def wsX1_goBack : List Cond := .code yX1_goBack cX1_goBack 1 none :: ([.fieldLink RX1 54 "WrongWay$House" "undos" "I", .fieldLink RX1 34 "WrongWay$House" "minutesBefore" "[I", .fieldLink RX1 48 "WrongWay$House" "minute" "I"] ++ wsX10)
def wsX1_nextTrain : List Cond := .code yX1_nextTrain cX1_nextTrain 4 (some .int) :: ([])
def wsX1_turnsOfLine0 : List Cond := .code yX1_turnsOfLine0 cX1_turnsOfLine0 5 (some .int) :: ([.fieldLink RX1 19 "WrongWay$House" "at" "[I", .fieldLink RX1 16 "WrongWay$House" "every" "[I", .methodLink RX1 67 yX1_nextTrain, .static yX1_nextTrain, .initialized RX1, .code yX1_nextTrain cX1_nextTrain 4 (some .int)] ++ wsX10)
def wsX1_digestOver : List Cond := .code yX1_digestOver cX1_digestOver 6 (some .long) :: ([.fieldLink RX1 45 "WrongWay$House" "lifts" "I", .constantLong RX1 71 (31), .fieldLink RX1 9 "WrongWay$House" "kinds" "[I", .fieldLink RX1 13 "WrongWay$House" "starts" "[I", .fieldLink RX1 16 "WrongWay$House" "every" "[I", .fieldLink RX1 19 "WrongWay$House" "at" "[I", .fieldLink RX1 51 "WrongWay$House" "noted" "I", .fieldLink RX1 22 "WrongWay$House" "notedLifts" "[I", .fieldLink RX1 25 "WrongWay$House" "notedFloors" "[I", .fieldLink RX1 28 "WrongWay$House" "notedMinutes" "[I", .fieldLink RX1 31 "WrongWay$House" "notedThere" "[I"] ++ wsX10)
def wsX2_round : List Cond := .code yX2_round cX2_round 3 (some .int) :: ([.fieldLink RX2 9 "WrongWay$Kinds" "PACE" "[I", .fieldLink RX2 15 "WrongWay$Kinds" "REST_BELOW" "[I", .fieldLink RX2 18 "WrongWay$Kinds" "STAND_ABOVE" "[I"])
def wsX2_floorIn : List Cond := .code yX2_floorIn cX2_floorIn 7 (some .int) :: ([.fieldLink RX2 9 "WrongWay$Kinds" "PACE" "[I", .fieldLink RX2 18 "WrongWay$Kinds" "STAND_ABOVE" "[I", .methodLink RX2 25 Lib.Math.max.name, .static Lib.Math.max.name, .initialized "java/lang/Math", .code Lib.Math.max.name Lib.Math.max.code 2 (some .int), .methodLink RX2 30 Lib.Math.min.name, .static Lib.Math.min.name, .code Lib.Math.min.name Lib.Math.min.code 2 (some .int), .methodLink RX2 21 yX2_round, .static yX2_round, .initialized RX2, .code yX2_round cX2_round 3 (some .int), .fieldLink RX2 15 "WrongWay$Kinds" "REST_BELOW" "[I"])
def wsX2_opens : List Cond := .code yX2_opens cX2_opens 3 (some .boolean) :: ([])
def wsX3_init : List Cond := .code yX3_init cX3_init 1 none :: ([.methodLink RX3 3 objectInit, .instanceMethod objectInit, .code objectInit ⟨#[0xb1]⟩ 1 none, .arrayClass .byte, .fieldLink RX3 11 "WrongWay$Text" "bytes" "[B"] ++ wsX30)
def wsX3_add : List Cond := .code yX3_add cX3_add 2 none :: ([.fieldLink RX3 15 "WrongWay$Text" "length" "I", .fieldLink RX3 11 "WrongWay$Text" "bytes" "[B"] ++ wsX30)
def wsX3_isLetter : List Cond := .code yX3_isLetter cX3_isLetter 1 (some .boolean) :: ([])
def wsX3_endOfWord : List Cond := .code yX3_endOfWord cX3_endOfWord 3 (some .int) :: ([.fieldLink RX3 15 "WrongWay$Text" "length" "I", .fieldLink RX3 11 "WrongWay$Text" "bytes" "[B", .methodLink RX3 97 yX3_isLetter, .static yX3_isLetter, .initialized RX3, .code yX3_isLetter cX3_isLetter 1 (some .boolean)] ++ wsX30)
def wsX3_isFigure : List Cond := .code yX3_isFigure cX3_isFigure 1 (some .boolean) :: ([])
def wsX3_endOfNumber : List Cond := .code yX3_endOfNumber cX3_endOfNumber 3 (some .int) :: ([.fieldLink RX3 15 "WrongWay$Text" "length" "I", .fieldLink RX3 11 "WrongWay$Text" "bytes" "[B", .methodLink RX3 105 yX3_isFigure, .static yX3_isFigure, .initialized RX3, .code yX3_isFigure cX3_isFigure 1 (some .boolean)] ++ wsX30)
def wsX3_valueOf : List Cond := .code yX3_valueOf cX3_valueOf 5 (some .int) :: ([.fieldLink RX3 11 "WrongWay$Text" "bytes" "[B"] ++ wsX30)
def wsX3_nextToken_r1 : List Cond := [Cond.fieldLink RX3 19 "WrongWay$Text" "tokenEnd" "I", Cond.fieldLink RX3 15 "WrongWay$Text" "length" "I", Cond.fieldLink RX3 11 "WrongWay$Text" "bytes" "[B", Cond.fieldLink RX3 29 "WrongWay$Text" "tokenStart" "I", Cond.fieldLink RX3 32 "WrongWay$Text" "token" "I", Cond.fieldLink RX3 50 "WrongWay$Text" "value" "I", Cond.methodLink RX3 97 yX3_isLetter, Cond.static yX3_isLetter, Cond.initialized RX3, Cond.code yX3_isLetter cX3_isLetter 1 (some .boolean), Cond.methodLink RX3 101 yX3_endOfWord, Cond.instanceMethod yX3_endOfWord, Cond.selects RX3 yX3_endOfWord yX3_endOfWord, Cond.code yX3_endOfWord cX3_endOfWord 3 (some .int), Cond.methodLink RX3 105 yX3_isFigure, Cond.static yX3_isFigure, Cond.code yX3_isFigure cX3_isFigure 1 (some .boolean), Cond.methodLink RX3 108 yX3_endOfNumber, Cond.instanceMethod yX3_endOfNumber, Cond.selects RX3 yX3_endOfNumber yX3_endOfNumber, Cond.code yX3_endOfNumber cX3_endOfNumber 3 (some .int), Cond.methodLink RX3 111 yX3_valueOf, Cond.instanceMethod yX3_valueOf, Cond.selects RX3 yX3_valueOf yX3_valueOf]
def wsX3_nextToken_r2 : List Cond := [Cond.code yX3_valueOf cX3_valueOf 5 (some .int)]
def wsX3_nextToken : List Cond := .code yX3_nextToken cX3_nextToken 2 none :: ((wsX3_nextToken_r1 ++ wsX3_nextToken_r2) ++ wsX30)
def wsJ0_coder_7d493 : List Cond := .code yJ0_coder_7d493 cJ0_coder_7d493 1 (some .byte) :: ([.fieldLink RJ0 38 "java/lang/String" "COMPACT_STRINGS" "Z", .fieldLink RJ0 15 "java/lang/String" "coder" "B"])
def wsJ0_length_8abf5 : List Cond := .code yJ0_length_8abf5 cJ0_length_8abf5 1 (some .int) :: ([.fieldLink RJ0 9 "java/lang/String" "value" "[B", .methodLink RJ0 335 yJ0_coder_7d493, .instanceMethod yJ0_coder_7d493, .selects RJ0 yJ0_coder_7d493 yJ0_coder_7d493, .initialized RJ0, .code yJ0_coder_7d493 cJ0_coder_7d493 1 (some .byte), .fieldLink RJ0 38 "java/lang/String" "COMPACT_STRINGS" "Z", .fieldLink RJ0 15 "java/lang/String" "coder" "B"])
def wsJ0_isLatin1_aae02 : List Cond := .code yJ0_isLatin1_aae02 cJ0_isLatin1_aae02 1 (some .boolean) :: ([.fieldLink RJ0 38 "java/lang/String" "COMPACT_STRINGS" "Z", .fieldLink RJ0 15 "java/lang/String" "coder" "B"])
def wsJ3_checkIndex_8e157 : List Cond := .code yJ3_checkIndex_8e157 cJ3_checkIndex_8e157 3 (some .int) :: ([])
def wsJ0_checkIndex_df160 : List Cond := .code yJ0_checkIndex_df160 cJ0_checkIndex_df160 2 none :: ([.fieldLink RJ0 1053 "jdk/internal/util/Preconditions" "SIOOBE_FORMATTER" "Ljava/util/function/BiFunction;", .methodLink RJ0 1059 yJ3_checkIndex_8e157, .static yJ3_checkIndex_8e157, .initialized RJ3, .code yJ3_checkIndex_8e157 cJ3_checkIndex_8e157 3 (some .int)])
def wsJ1_charAt_3b067 : List Cond := .code yJ1_charAt_3b067 cJ1_charAt_3b067 2 (some .char) :: ([.methodLink RJ1 9 yJ0_checkIndex_df160, .static yJ0_checkIndex_df160, .initialized RJ0, .code yJ0_checkIndex_df160 cJ0_checkIndex_df160 2 none, .fieldLink RJ0 1053 "jdk/internal/util/Preconditions" "SIOOBE_FORMATTER" "Ljava/util/function/BiFunction;", .methodLink RJ0 1059 yJ3_checkIndex_8e157, .static yJ3_checkIndex_8e157, .initialized RJ3, .code yJ3_checkIndex_8e157 cJ3_checkIndex_8e157 3 (some .int)])
def wsJ2_length_9d52b : List Cond := .code yJ2_length_9d52b cJ2_length_9d52b 1 (some .int) :: ([])
def wsJ2_checkIndex_2214a : List Cond := .code yJ2_checkIndex_2214a cJ2_checkIndex_2214a 2 none :: ([.methodLink RJ2 48 yJ2_length_9d52b, .static yJ2_length_9d52b, .initialized RJ2, .code yJ2_length_9d52b cJ2_length_9d52b 1 (some .int), .methodLink RJ2 414 yJ0_checkIndex_df160, .static yJ0_checkIndex_df160, .initialized RJ0, .code yJ0_checkIndex_df160 cJ0_checkIndex_df160 2 none, .fieldLink RJ0 1053 "jdk/internal/util/Preconditions" "SIOOBE_FORMATTER" "Ljava/util/function/BiFunction;", .methodLink RJ0 1059 yJ3_checkIndex_8e157, .static yJ3_checkIndex_8e157, .initialized RJ3, .code yJ3_checkIndex_8e157 cJ3_checkIndex_8e157 3 (some .int)])
def wsJ2_getChar_3b067 : List Cond := .code yJ2_getChar_3b067 cJ2_getChar_3b067 2 (some .char) :: ([.fieldLink RJ2 44 "java/lang/StringUTF16" "$assertionsDisabled" "Z", .fieldLink RJ2 59 "java/lang/StringUTF16" "HI_BYTE_SHIFT" "I", .fieldLink RJ2 63 "java/lang/StringUTF16" "LO_BYTE_SHIFT" "I", .methodLink RJ2 48 yJ2_length_9d52b, .static yJ2_length_9d52b, .initialized RJ2, .code yJ2_length_9d52b cJ2_length_9d52b 1 (some .int)])
def wsJ2_charAt_3b067 : List Cond := .code yJ2_charAt_3b067 cJ2_charAt_3b067 2 (some .char) :: ([.methodLink RJ2 67 yJ2_checkIndex_2214a, .static yJ2_checkIndex_2214a, .initialized RJ2, .code yJ2_checkIndex_2214a cJ2_checkIndex_2214a 2 none, .methodLink RJ2 48 yJ2_length_9d52b, .static yJ2_length_9d52b, .code yJ2_length_9d52b cJ2_length_9d52b 1 (some .int), .methodLink RJ2 414 yJ0_checkIndex_df160, .static yJ0_checkIndex_df160, .initialized RJ0, .code yJ0_checkIndex_df160 cJ0_checkIndex_df160 2 none, .fieldLink RJ0 1053 "jdk/internal/util/Preconditions" "SIOOBE_FORMATTER" "Ljava/util/function/BiFunction;", .methodLink RJ0 1059 yJ3_checkIndex_8e157, .static yJ3_checkIndex_8e157, .initialized RJ3, .code yJ3_checkIndex_8e157 cJ3_checkIndex_8e157 3 (some .int), .methodLink RJ2 71 yJ2_getChar_3b067, .static yJ2_getChar_3b067, .code yJ2_getChar_3b067 cJ2_getChar_3b067 2 (some .char), .fieldLink RJ2 44 "java/lang/StringUTF16" "$assertionsDisabled" "Z", .fieldLink RJ2 59 "java/lang/StringUTF16" "HI_BYTE_SHIFT" "I", .fieldLink RJ2 63 "java/lang/StringUTF16" "LO_BYTE_SHIFT" "I"])
def wsJ0_charAt_5068e_r1 : List Cond := [Cond.fieldLink RJ0 9 "java/lang/String" "value" "[B", Cond.methodLink RJ0 492 yJ0_isLatin1_aae02, Cond.instanceMethod yJ0_isLatin1_aae02, Cond.selects RJ0 yJ0_isLatin1_aae02 yJ0_isLatin1_aae02, Cond.initialized RJ0, Cond.code yJ0_isLatin1_aae02 cJ0_isLatin1_aae02 1 (some .boolean), Cond.fieldLink RJ0 38 "java/lang/String" "COMPACT_STRINGS" "Z", Cond.fieldLink RJ0 15 "java/lang/String" "coder" "B", Cond.methodLink RJ0 495 yJ1_charAt_3b067, Cond.static yJ1_charAt_3b067, Cond.initialized RJ1, Cond.code yJ1_charAt_3b067 cJ1_charAt_3b067 2 (some .char), Cond.methodLink RJ1 9 yJ0_checkIndex_df160, Cond.static yJ0_checkIndex_df160, Cond.code yJ0_checkIndex_df160 cJ0_checkIndex_df160 2 none, Cond.fieldLink RJ0 1053 "jdk/internal/util/Preconditions" "SIOOBE_FORMATTER" "Ljava/util/function/BiFunction;", Cond.methodLink RJ0 1059 yJ3_checkIndex_8e157, Cond.static yJ3_checkIndex_8e157, Cond.initialized RJ3, Cond.code yJ3_checkIndex_8e157 cJ3_checkIndex_8e157 3 (some .int), Cond.methodLink RJ0 498 yJ2_charAt_3b067, Cond.static yJ2_charAt_3b067, Cond.initialized RJ2, Cond.code yJ2_charAt_3b067 cJ2_charAt_3b067 2 (some .char)]
def wsJ0_charAt_5068e_r2 : List Cond := [Cond.methodLink RJ2 67 yJ2_checkIndex_2214a, Cond.static yJ2_checkIndex_2214a, Cond.code yJ2_checkIndex_2214a cJ2_checkIndex_2214a 2 none, Cond.methodLink RJ2 48 yJ2_length_9d52b, Cond.static yJ2_length_9d52b, Cond.code yJ2_length_9d52b cJ2_length_9d52b 1 (some .int), Cond.methodLink RJ2 414 yJ0_checkIndex_df160, Cond.methodLink RJ2 71 yJ2_getChar_3b067, Cond.static yJ2_getChar_3b067, Cond.code yJ2_getChar_3b067 cJ2_getChar_3b067 2 (some .char), Cond.fieldLink RJ2 44 "java/lang/StringUTF16" "$assertionsDisabled" "Z", Cond.fieldLink RJ2 59 "java/lang/StringUTF16" "HI_BYTE_SHIFT" "I", Cond.fieldLink RJ2 63 "java/lang/StringUTF16" "LO_BYTE_SHIFT" "I"]
def wsJ0_charAt_5068e : List Cond := .code yJ0_charAt_5068e cJ0_charAt_5068e 2 (some .char) :: ((wsJ0_charAt_5068e_r1 ++ wsJ0_charAt_5068e_r2))
def wsX3_isWord_r1 : List Cond := [Cond.fieldLink RX3 32 "WrongWay$Text" "token" "I", Cond.fieldLink RX3 19 "WrongWay$Text" "tokenEnd" "I", Cond.fieldLink RX3 29 "WrongWay$Text" "tokenStart" "I", Cond.fieldLink RX3 11 "WrongWay$Text" "bytes" "[B", Cond.methodLink RX3 84 yJ0_length_8abf5, Cond.instanceMethod yJ0_length_8abf5, Cond.selects RJ0 yJ0_length_8abf5 yJ0_length_8abf5, Cond.initialized RJ0, Cond.code yJ0_length_8abf5 cJ0_length_8abf5 1 (some .int), Cond.fieldLink RJ0 9 "java/lang/String" "value" "[B", Cond.methodLink RJ0 335 yJ0_coder_7d493, Cond.instanceMethod yJ0_coder_7d493, Cond.selects RJ0 yJ0_coder_7d493 yJ0_coder_7d493, Cond.code yJ0_coder_7d493 cJ0_coder_7d493 1 (some .byte), Cond.fieldLink RJ0 38 "java/lang/String" "COMPACT_STRINGS" "Z", Cond.fieldLink RJ0 15 "java/lang/String" "coder" "B", Cond.methodLink RX3 89 yJ0_charAt_5068e, Cond.instanceMethod yJ0_charAt_5068e, Cond.selects RJ0 yJ0_charAt_5068e yJ0_charAt_5068e, Cond.code yJ0_charAt_5068e cJ0_charAt_5068e 2 (some .char), Cond.methodLink RJ0 492 yJ0_isLatin1_aae02, Cond.instanceMethod yJ0_isLatin1_aae02, Cond.selects RJ0 yJ0_isLatin1_aae02 yJ0_isLatin1_aae02, Cond.code yJ0_isLatin1_aae02 cJ0_isLatin1_aae02 1 (some .boolean)]
def wsX3_isWord_r2 : List Cond := [Cond.methodLink RJ0 495 yJ1_charAt_3b067, Cond.static yJ1_charAt_3b067, Cond.initialized RJ1, Cond.code yJ1_charAt_3b067 cJ1_charAt_3b067 2 (some .char), Cond.methodLink RJ1 9 yJ0_checkIndex_df160, Cond.static yJ0_checkIndex_df160, Cond.code yJ0_checkIndex_df160 cJ0_checkIndex_df160 2 none, Cond.fieldLink RJ0 1053 "jdk/internal/util/Preconditions" "SIOOBE_FORMATTER" "Ljava/util/function/BiFunction;", Cond.methodLink RJ0 1059 yJ3_checkIndex_8e157, Cond.static yJ3_checkIndex_8e157, Cond.initialized RJ3, Cond.code yJ3_checkIndex_8e157 cJ3_checkIndex_8e157 3 (some .int), Cond.methodLink RJ0 498 yJ2_charAt_3b067, Cond.static yJ2_charAt_3b067, Cond.initialized RJ2, Cond.code yJ2_charAt_3b067 cJ2_charAt_3b067 2 (some .char), Cond.methodLink RJ2 67 yJ2_checkIndex_2214a, Cond.static yJ2_checkIndex_2214a, Cond.code yJ2_checkIndex_2214a cJ2_checkIndex_2214a 2 none, Cond.methodLink RJ2 48 yJ2_length_9d52b, Cond.static yJ2_length_9d52b, Cond.code yJ2_length_9d52b cJ2_length_9d52b 1 (some .int), Cond.methodLink RJ2 414 yJ0_checkIndex_df160, Cond.methodLink RJ2 71 yJ2_getChar_3b067]
def wsX3_isWord_r3 : List Cond := [Cond.static yJ2_getChar_3b067, Cond.code yJ2_getChar_3b067 cJ2_getChar_3b067 2 (some .char), Cond.fieldLink RJ2 44 "java/lang/StringUTF16" "$assertionsDisabled" "Z", Cond.fieldLink RJ2 59 "java/lang/StringUTF16" "HI_BYTE_SHIFT" "I", Cond.fieldLink RJ2 63 "java/lang/StringUTF16" "LO_BYTE_SHIFT" "I"]
def wsX3_isWord : List Cond := .code yX3_isWord cX3_isWord 3 (some .boolean) :: ((wsX3_isWord_r1 ++ (wsX3_isWord_r2 ++ wsX3_isWord_r3)) ++ wsX30)
def wsX5_isWithin : List Cond := .code yX5_isWithin cX5_isWithin 3 (some .boolean) :: ([])
def wsX3_nextIsNumber_r1 : List Cond := [Cond.fieldLink RX3 32 "WrongWay$Text" "token" "I", Cond.fieldLink RX3 50 "WrongWay$Text" "value" "I", Cond.methodLink RX3 22 yX3_nextToken, Cond.instanceMethod yX3_nextToken, Cond.selects RX3 yX3_nextToken yX3_nextToken, Cond.initialized RX3, Cond.code yX3_nextToken cX3_nextToken 2 none, Cond.fieldLink RX3 19 "WrongWay$Text" "tokenEnd" "I", Cond.fieldLink RX3 15 "WrongWay$Text" "length" "I", Cond.fieldLink RX3 11 "WrongWay$Text" "bytes" "[B", Cond.fieldLink RX3 29 "WrongWay$Text" "tokenStart" "I", Cond.methodLink RX3 97 yX3_isLetter, Cond.static yX3_isLetter, Cond.code yX3_isLetter cX3_isLetter 1 (some .boolean), Cond.methodLink RX3 101 yX3_endOfWord, Cond.instanceMethod yX3_endOfWord, Cond.selects RX3 yX3_endOfWord yX3_endOfWord, Cond.code yX3_endOfWord cX3_endOfWord 3 (some .int), Cond.methodLink RX3 105 yX3_isFigure, Cond.static yX3_isFigure, Cond.code yX3_isFigure cX3_isFigure 1 (some .boolean), Cond.methodLink RX3 108 yX3_endOfNumber, Cond.instanceMethod yX3_endOfNumber, Cond.selects RX3 yX3_endOfNumber yX3_endOfNumber]
def wsX3_nextIsNumber_r2 : List Cond := [Cond.code yX3_endOfNumber cX3_endOfNumber 3 (some .int), Cond.methodLink RX3 111 yX3_valueOf, Cond.instanceMethod yX3_valueOf, Cond.selects RX3 yX3_valueOf yX3_valueOf, Cond.code yX3_valueOf cX3_valueOf 5 (some .int), Cond.static yX5_isWithin, Cond.initialized RX5, Cond.code yX5_isWithin cX5_isWithin 3 (some .boolean)]
def wsX3_nextIsNumber : List Cond := .code yX3_nextIsNumber cX3_nextIsNumber 3 (some .boolean) :: ((wsX3_nextIsNumber_r1 ++ wsX3_nextIsNumber_r2) ++ wsX30)
def wsX3_nextIsSemicolon_r1 : List Cond := [Cond.fieldLink RX3 32 "WrongWay$Text" "token" "I", Cond.methodLink RX3 22 yX3_nextToken, Cond.instanceMethod yX3_nextToken, Cond.selects RX3 yX3_nextToken yX3_nextToken, Cond.initialized RX3, Cond.code yX3_nextToken cX3_nextToken 2 none, Cond.fieldLink RX3 19 "WrongWay$Text" "tokenEnd" "I", Cond.fieldLink RX3 15 "WrongWay$Text" "length" "I", Cond.fieldLink RX3 11 "WrongWay$Text" "bytes" "[B", Cond.fieldLink RX3 29 "WrongWay$Text" "tokenStart" "I", Cond.fieldLink RX3 50 "WrongWay$Text" "value" "I", Cond.methodLink RX3 97 yX3_isLetter, Cond.static yX3_isLetter, Cond.code yX3_isLetter cX3_isLetter 1 (some .boolean), Cond.methodLink RX3 101 yX3_endOfWord, Cond.instanceMethod yX3_endOfWord, Cond.selects RX3 yX3_endOfWord yX3_endOfWord, Cond.code yX3_endOfWord cX3_endOfWord 3 (some .int), Cond.methodLink RX3 105 yX3_isFigure, Cond.static yX3_isFigure, Cond.code yX3_isFigure cX3_isFigure 1 (some .boolean), Cond.methodLink RX3 108 yX3_endOfNumber, Cond.instanceMethod yX3_endOfNumber, Cond.selects RX3 yX3_endOfNumber yX3_endOfNumber]
def wsX3_nextIsSemicolon_r2 : List Cond := [Cond.code yX3_endOfNumber cX3_endOfNumber 3 (some .int), Cond.methodLink RX3 111 yX3_valueOf, Cond.instanceMethod yX3_valueOf, Cond.selects RX3 yX3_valueOf yX3_valueOf, Cond.code yX3_valueOf cX3_valueOf 5 (some .int)]
def wsX3_nextIsSemicolon : List Cond := .code yX3_nextIsSemicolon cX3_nextIsSemicolon 1 (some .boolean) :: ((wsX3_nextIsSemicolon_r1 ++ wsX3_nextIsSemicolon_r2) ++ wsX30)
def wsX3_readHouse_r1 : List Cond := [Cond.fieldLink RX3 50 "WrongWay$Text" "value" "I", Cond.methodLink RX3 40 yX3_isWord, Cond.instanceMethod yX3_isWord, Cond.selects RX3 yX3_isWord yX3_isWord, Cond.initialized RX3, Cond.code yX3_isWord cX3_isWord 3 (some .boolean), Cond.fieldLink RX3 32 "WrongWay$Text" "token" "I", Cond.fieldLink RX3 19 "WrongWay$Text" "tokenEnd" "I", Cond.fieldLink RX3 29 "WrongWay$Text" "tokenStart" "I", Cond.fieldLink RX3 11 "WrongWay$Text" "bytes" "[B", Cond.methodLink RX3 84 yJ0_length_8abf5, Cond.instanceMethod yJ0_length_8abf5, Cond.selects RJ0 yJ0_length_8abf5 yJ0_length_8abf5, Cond.initialized RJ0, Cond.code yJ0_length_8abf5 cJ0_length_8abf5 1 (some .int), Cond.fieldLink RJ0 9 "java/lang/String" "value" "[B", Cond.methodLink RJ0 335 yJ0_coder_7d493, Cond.instanceMethod yJ0_coder_7d493, Cond.selects RJ0 yJ0_coder_7d493 yJ0_coder_7d493, Cond.code yJ0_coder_7d493 cJ0_coder_7d493 1 (some .byte), Cond.fieldLink RJ0 38 "java/lang/String" "COMPACT_STRINGS" "Z", Cond.fieldLink RJ0 15 "java/lang/String" "coder" "B", Cond.methodLink RX3 89 yJ0_charAt_5068e, Cond.instanceMethod yJ0_charAt_5068e]
def wsX3_readHouse_r2 : List Cond := [Cond.selects RJ0 yJ0_charAt_5068e yJ0_charAt_5068e, Cond.code yJ0_charAt_5068e cJ0_charAt_5068e 2 (some .char), Cond.methodLink RJ0 492 yJ0_isLatin1_aae02, Cond.instanceMethod yJ0_isLatin1_aae02, Cond.selects RJ0 yJ0_isLatin1_aae02 yJ0_isLatin1_aae02, Cond.code yJ0_isLatin1_aae02 cJ0_isLatin1_aae02 1 (some .boolean), Cond.methodLink RJ0 495 yJ1_charAt_3b067, Cond.static yJ1_charAt_3b067, Cond.initialized RJ1, Cond.code yJ1_charAt_3b067 cJ1_charAt_3b067 2 (some .char), Cond.methodLink RJ1 9 yJ0_checkIndex_df160, Cond.static yJ0_checkIndex_df160, Cond.code yJ0_checkIndex_df160 cJ0_checkIndex_df160 2 none, Cond.fieldLink RJ0 1053 "jdk/internal/util/Preconditions" "SIOOBE_FORMATTER" "Ljava/util/function/BiFunction;", Cond.methodLink RJ0 1059 yJ3_checkIndex_8e157, Cond.static yJ3_checkIndex_8e157, Cond.initialized RJ3, Cond.code yJ3_checkIndex_8e157 cJ3_checkIndex_8e157 3 (some .int), Cond.methodLink RJ0 498 yJ2_charAt_3b067, Cond.static yJ2_charAt_3b067, Cond.initialized RJ2, Cond.code yJ2_charAt_3b067 cJ2_charAt_3b067 2 (some .char), Cond.methodLink RJ2 67 yJ2_checkIndex_2214a, Cond.static yJ2_checkIndex_2214a]
def wsX3_readHouse_r3 : List Cond := [Cond.code yJ2_checkIndex_2214a cJ2_checkIndex_2214a 2 none, Cond.methodLink RJ2 48 yJ2_length_9d52b, Cond.static yJ2_length_9d52b, Cond.code yJ2_length_9d52b cJ2_length_9d52b 1 (some .int), Cond.methodLink RJ2 414 yJ0_checkIndex_df160, Cond.methodLink RJ2 71 yJ2_getChar_3b067, Cond.static yJ2_getChar_3b067, Cond.code yJ2_getChar_3b067 cJ2_getChar_3b067 2 (some .char), Cond.fieldLink RJ2 44 "java/lang/StringUTF16" "$assertionsDisabled" "Z", Cond.fieldLink RJ2 59 "java/lang/StringUTF16" "HI_BYTE_SHIFT" "I", Cond.fieldLink RJ2 63 "java/lang/StringUTF16" "LO_BYTE_SHIFT" "I", Cond.methodLink RX3 46 yX3_nextIsNumber, Cond.instanceMethod yX3_nextIsNumber, Cond.selects RX3 yX3_nextIsNumber yX3_nextIsNumber, Cond.code yX3_nextIsNumber cX3_nextIsNumber 3 (some .boolean), Cond.methodLink RX3 22 yX3_nextToken, Cond.instanceMethod yX3_nextToken, Cond.selects RX3 yX3_nextToken yX3_nextToken, Cond.code yX3_nextToken cX3_nextToken 2 none, Cond.fieldLink RX3 15 "WrongWay$Text" "length" "I", Cond.methodLink RX3 97 yX3_isLetter, Cond.static yX3_isLetter, Cond.code yX3_isLetter cX3_isLetter 1 (some .boolean), Cond.methodLink RX3 101 yX3_endOfWord]
def wsX3_readHouse_r4 : List Cond := [Cond.instanceMethod yX3_endOfWord, Cond.selects RX3 yX3_endOfWord yX3_endOfWord, Cond.code yX3_endOfWord cX3_endOfWord 3 (some .int), Cond.methodLink RX3 105 yX3_isFigure, Cond.static yX3_isFigure, Cond.code yX3_isFigure cX3_isFigure 1 (some .boolean), Cond.methodLink RX3 108 yX3_endOfNumber, Cond.instanceMethod yX3_endOfNumber, Cond.selects RX3 yX3_endOfNumber yX3_endOfNumber, Cond.code yX3_endOfNumber cX3_endOfNumber 3 (some .int), Cond.methodLink RX3 111 yX3_valueOf, Cond.instanceMethod yX3_valueOf, Cond.selects RX3 yX3_valueOf yX3_valueOf, Cond.code yX3_valueOf cX3_valueOf 5 (some .int), Cond.static yX5_isWithin, Cond.initialized RX5, Cond.code yX5_isWithin cX5_isWithin 3 (some .boolean), Cond.methodLink RX3 53 yX1_build, Cond.instanceMethod yX1_build, Cond.selects RX1 yX1_build yX1_build, Cond.initialized RX1, Cond.code yX1_build cX1_build 2 none, Cond.fieldLink RX1 41 "WrongWay$House" "top" "I", Cond.fieldLink RX1 45 "WrongWay$House" "lifts" "I"]
def wsX3_readHouse_r5 : List Cond := [Cond.fieldLink RX1 48 "WrongWay$House" "minute" "I", Cond.fieldLink RX1 51 "WrongWay$House" "noted" "I", Cond.fieldLink RX1 54 "WrongWay$House" "undos" "I", Cond.methodLink RX1 57 yX1_setLine, Cond.instanceMethod yX1_setLine, Cond.selects RX1 yX1_setLine yX1_setLine, Cond.code yX1_setLine cX1_setLine 4 none, Cond.fieldLink RX1 16 "WrongWay$House" "every" "[I", Cond.fieldLink RX1 19 "WrongWay$House" "at" "[I", Cond.methodLink RX3 57 yX3_nextIsSemicolon, Cond.instanceMethod yX3_nextIsSemicolon, Cond.selects RX3 yX3_nextIsSemicolon yX3_nextIsSemicolon, Cond.code yX3_nextIsSemicolon cX3_nextIsSemicolon 1 (some .boolean)]
def wsX3_readHouse : List Cond := .code yX3_readHouse cX3_readHouse 2 (some .boolean) :: ((wsX3_readHouse_r1 ++ (wsX3_readHouse_r2 ++ (wsX3_readHouse_r3 ++ (wsX3_readHouse_r4 ++ wsX3_readHouse_r5)))) ++ wsX30 ++ wsX10)
def wsX3_readLift_r1 : List Cond := [Cond.fieldLink RX3 50 "WrongWay$Text" "value" "I", Cond.methodLink RX3 46 yX3_nextIsNumber, Cond.instanceMethod yX3_nextIsNumber, Cond.selects RX3 yX3_nextIsNumber yX3_nextIsNumber, Cond.initialized RX3, Cond.code yX3_nextIsNumber cX3_nextIsNumber 3 (some .boolean), Cond.fieldLink RX3 32 "WrongWay$Text" "token" "I", Cond.methodLink RX3 22 yX3_nextToken, Cond.instanceMethod yX3_nextToken, Cond.selects RX3 yX3_nextToken yX3_nextToken, Cond.code yX3_nextToken cX3_nextToken 2 none, Cond.fieldLink RX3 19 "WrongWay$Text" "tokenEnd" "I", Cond.fieldLink RX3 15 "WrongWay$Text" "length" "I", Cond.fieldLink RX3 11 "WrongWay$Text" "bytes" "[B", Cond.fieldLink RX3 29 "WrongWay$Text" "tokenStart" "I", Cond.methodLink RX3 97 yX3_isLetter, Cond.static yX3_isLetter, Cond.code yX3_isLetter cX3_isLetter 1 (some .boolean), Cond.methodLink RX3 101 yX3_endOfWord, Cond.instanceMethod yX3_endOfWord, Cond.selects RX3 yX3_endOfWord yX3_endOfWord, Cond.code yX3_endOfWord cX3_endOfWord 3 (some .int), Cond.methodLink RX3 105 yX3_isFigure, Cond.static yX3_isFigure]
def wsX3_readLift_r2 : List Cond := [Cond.code yX3_isFigure cX3_isFigure 1 (some .boolean), Cond.methodLink RX3 108 yX3_endOfNumber, Cond.instanceMethod yX3_endOfNumber, Cond.selects RX3 yX3_endOfNumber yX3_endOfNumber, Cond.code yX3_endOfNumber cX3_endOfNumber 3 (some .int), Cond.methodLink RX3 111 yX3_valueOf, Cond.instanceMethod yX3_valueOf, Cond.selects RX3 yX3_valueOf yX3_valueOf, Cond.code yX3_valueOf cX3_valueOf 5 (some .int), Cond.static yX5_isWithin, Cond.initialized RX5, Cond.code yX5_isWithin cX5_isWithin 3 (some .boolean), Cond.methodLink RX3 76 yX1_addLift, Cond.instanceMethod yX1_addLift, Cond.selects RX1 yX1_addLift yX1_addLift, Cond.initialized RX1, Cond.code yX1_addLift cX1_addLift 3 none, Cond.fieldLink RX1 45 "WrongWay$House" "lifts" "I", Cond.fieldLink RX1 9 "WrongWay$House" "kinds" "[I", Cond.fieldLink RX1 13 "WrongWay$House" "starts" "[I", Cond.fieldLink RX1 54 "WrongWay$House" "undos" "I", Cond.methodLink RX3 57 yX3_nextIsSemicolon, Cond.instanceMethod yX3_nextIsSemicolon, Cond.selects RX3 yX3_nextIsSemicolon yX3_nextIsSemicolon]
def wsX3_readLift_r3 : List Cond := [Cond.code yX3_nextIsSemicolon cX3_nextIsSemicolon 1 (some .boolean)]
def wsX3_readLift : List Cond := .code yX3_readLift cX3_readLift 3 (some .boolean) :: ((wsX3_readLift_r1 ++ (wsX3_readLift_r2 ++ wsX3_readLift_r3)) ++ wsX30 ++ wsX10)
def wsX3_readLine_r1 : List Cond := [Cond.fieldLink RX3 50 "WrongWay$Text" "value" "I", Cond.methodLink RX3 46 yX3_nextIsNumber, Cond.instanceMethod yX3_nextIsNumber, Cond.selects RX3 yX3_nextIsNumber yX3_nextIsNumber, Cond.initialized RX3, Cond.code yX3_nextIsNumber cX3_nextIsNumber 3 (some .boolean), Cond.fieldLink RX3 32 "WrongWay$Text" "token" "I", Cond.methodLink RX3 22 yX3_nextToken, Cond.instanceMethod yX3_nextToken, Cond.selects RX3 yX3_nextToken yX3_nextToken, Cond.code yX3_nextToken cX3_nextToken 2 none, Cond.fieldLink RX3 19 "WrongWay$Text" "tokenEnd" "I", Cond.fieldLink RX3 15 "WrongWay$Text" "length" "I", Cond.fieldLink RX3 11 "WrongWay$Text" "bytes" "[B", Cond.fieldLink RX3 29 "WrongWay$Text" "tokenStart" "I", Cond.methodLink RX3 97 yX3_isLetter, Cond.static yX3_isLetter, Cond.code yX3_isLetter cX3_isLetter 1 (some .boolean), Cond.methodLink RX3 101 yX3_endOfWord, Cond.instanceMethod yX3_endOfWord, Cond.selects RX3 yX3_endOfWord yX3_endOfWord, Cond.code yX3_endOfWord cX3_endOfWord 3 (some .int), Cond.methodLink RX3 105 yX3_isFigure, Cond.static yX3_isFigure]
def wsX3_readLine_r2 : List Cond := [Cond.code yX3_isFigure cX3_isFigure 1 (some .boolean), Cond.methodLink RX3 108 yX3_endOfNumber, Cond.instanceMethod yX3_endOfNumber, Cond.selects RX3 yX3_endOfNumber yX3_endOfNumber, Cond.code yX3_endOfNumber cX3_endOfNumber 3 (some .int), Cond.methodLink RX3 111 yX3_valueOf, Cond.instanceMethod yX3_valueOf, Cond.selects RX3 yX3_valueOf yX3_valueOf, Cond.code yX3_valueOf cX3_valueOf 5 (some .int), Cond.static yX5_isWithin, Cond.initialized RX5, Cond.code yX5_isWithin cX5_isWithin 3 (some .boolean), Cond.methodLink RX3 80 yX1_setLine, Cond.instanceMethod yX1_setLine, Cond.selects RX1 yX1_setLine yX1_setLine, Cond.initialized RX1, Cond.code yX1_setLine cX1_setLine 4 none, Cond.fieldLink RX1 16 "WrongWay$House" "every" "[I", Cond.fieldLink RX1 19 "WrongWay$House" "at" "[I", Cond.methodLink RX3 57 yX3_nextIsSemicolon, Cond.instanceMethod yX3_nextIsSemicolon, Cond.selects RX3 yX3_nextIsSemicolon yX3_nextIsSemicolon, Cond.code yX3_nextIsSemicolon cX3_nextIsSemicolon 1 (some .boolean)]
def wsX3_readLine : List Cond := .code yX3_readLine cX3_readLine 4 (some .boolean) :: ((wsX3_readLine_r1 ++ wsX3_readLine_r2) ++ wsX30 ++ wsX10)
def wsX3_readItem_r1 : List Cond := [Cond.fieldLink RX3 63 "WrongWay$House" "lifts" "I", Cond.methodLink RX3 40 yX3_isWord, Cond.instanceMethod yX3_isWord, Cond.selects RX3 yX3_isWord yX3_isWord, Cond.initialized RX3, Cond.code yX3_isWord cX3_isWord 3 (some .boolean), Cond.fieldLink RX3 32 "WrongWay$Text" "token" "I", Cond.fieldLink RX3 19 "WrongWay$Text" "tokenEnd" "I", Cond.fieldLink RX3 29 "WrongWay$Text" "tokenStart" "I", Cond.fieldLink RX3 11 "WrongWay$Text" "bytes" "[B", Cond.methodLink RX3 84 yJ0_length_8abf5, Cond.instanceMethod yJ0_length_8abf5, Cond.selects RJ0 yJ0_length_8abf5 yJ0_length_8abf5, Cond.initialized RJ0, Cond.code yJ0_length_8abf5 cJ0_length_8abf5 1 (some .int), Cond.fieldLink RJ0 9 "java/lang/String" "value" "[B", Cond.methodLink RJ0 335 yJ0_coder_7d493, Cond.instanceMethod yJ0_coder_7d493, Cond.selects RJ0 yJ0_coder_7d493 yJ0_coder_7d493, Cond.code yJ0_coder_7d493 cJ0_coder_7d493 1 (some .byte), Cond.fieldLink RJ0 38 "java/lang/String" "COMPACT_STRINGS" "Z", Cond.fieldLink RJ0 15 "java/lang/String" "coder" "B", Cond.methodLink RX3 89 yJ0_charAt_5068e, Cond.instanceMethod yJ0_charAt_5068e]
def wsX3_readItem_r2 : List Cond := [Cond.selects RJ0 yJ0_charAt_5068e yJ0_charAt_5068e, Cond.code yJ0_charAt_5068e cJ0_charAt_5068e 2 (some .char), Cond.methodLink RJ0 492 yJ0_isLatin1_aae02, Cond.instanceMethod yJ0_isLatin1_aae02, Cond.selects RJ0 yJ0_isLatin1_aae02 yJ0_isLatin1_aae02, Cond.code yJ0_isLatin1_aae02 cJ0_isLatin1_aae02 1 (some .boolean), Cond.methodLink RJ0 495 yJ1_charAt_3b067, Cond.static yJ1_charAt_3b067, Cond.initialized RJ1, Cond.code yJ1_charAt_3b067 cJ1_charAt_3b067 2 (some .char), Cond.methodLink RJ1 9 yJ0_checkIndex_df160, Cond.static yJ0_checkIndex_df160, Cond.code yJ0_checkIndex_df160 cJ0_checkIndex_df160 2 none, Cond.fieldLink RJ0 1053 "jdk/internal/util/Preconditions" "SIOOBE_FORMATTER" "Ljava/util/function/BiFunction;", Cond.methodLink RJ0 1059 yJ3_checkIndex_8e157, Cond.static yJ3_checkIndex_8e157, Cond.initialized RJ3, Cond.code yJ3_checkIndex_8e157 cJ3_checkIndex_8e157 3 (some .int), Cond.methodLink RJ0 498 yJ2_charAt_3b067, Cond.static yJ2_charAt_3b067, Cond.initialized RJ2, Cond.code yJ2_charAt_3b067 cJ2_charAt_3b067 2 (some .char), Cond.methodLink RJ2 67 yJ2_checkIndex_2214a, Cond.static yJ2_checkIndex_2214a]
def wsX3_readItem_r3 : List Cond := [Cond.code yJ2_checkIndex_2214a cJ2_checkIndex_2214a 2 none, Cond.methodLink RJ2 48 yJ2_length_9d52b, Cond.static yJ2_length_9d52b, Cond.code yJ2_length_9d52b cJ2_length_9d52b 1 (some .int), Cond.methodLink RJ2 414 yJ0_checkIndex_df160, Cond.methodLink RJ2 71 yJ2_getChar_3b067, Cond.static yJ2_getChar_3b067, Cond.code yJ2_getChar_3b067 cJ2_getChar_3b067 2 (some .char), Cond.fieldLink RJ2 44 "java/lang/StringUTF16" "$assertionsDisabled" "Z", Cond.fieldLink RJ2 59 "java/lang/StringUTF16" "HI_BYTE_SHIFT" "I", Cond.fieldLink RJ2 63 "java/lang/StringUTF16" "LO_BYTE_SHIFT" "I", Cond.methodLink RX3 66 yX3_readLift, Cond.instanceMethod yX3_readLift, Cond.selects RX3 yX3_readLift yX3_readLift, Cond.code yX3_readLift cX3_readLift 3 (some .boolean), Cond.fieldLink RX3 50 "WrongWay$Text" "value" "I", Cond.methodLink RX3 46 yX3_nextIsNumber, Cond.instanceMethod yX3_nextIsNumber, Cond.selects RX3 yX3_nextIsNumber yX3_nextIsNumber, Cond.code yX3_nextIsNumber cX3_nextIsNumber 3 (some .boolean), Cond.methodLink RX3 22 yX3_nextToken, Cond.instanceMethod yX3_nextToken, Cond.selects RX3 yX3_nextToken yX3_nextToken, Cond.code yX3_nextToken cX3_nextToken 2 none]
def wsX3_readItem_r4 : List Cond := [Cond.fieldLink RX3 15 "WrongWay$Text" "length" "I", Cond.methodLink RX3 97 yX3_isLetter, Cond.static yX3_isLetter, Cond.code yX3_isLetter cX3_isLetter 1 (some .boolean), Cond.methodLink RX3 101 yX3_endOfWord, Cond.instanceMethod yX3_endOfWord, Cond.selects RX3 yX3_endOfWord yX3_endOfWord, Cond.code yX3_endOfWord cX3_endOfWord 3 (some .int), Cond.methodLink RX3 105 yX3_isFigure, Cond.static yX3_isFigure, Cond.code yX3_isFigure cX3_isFigure 1 (some .boolean), Cond.methodLink RX3 108 yX3_endOfNumber, Cond.instanceMethod yX3_endOfNumber, Cond.selects RX3 yX3_endOfNumber yX3_endOfNumber, Cond.code yX3_endOfNumber cX3_endOfNumber 3 (some .int), Cond.methodLink RX3 111 yX3_valueOf, Cond.instanceMethod yX3_valueOf, Cond.selects RX3 yX3_valueOf yX3_valueOf, Cond.code yX3_valueOf cX3_valueOf 5 (some .int), Cond.static yX5_isWithin, Cond.initialized RX5, Cond.code yX5_isWithin cX5_isWithin 3 (some .boolean), Cond.methodLink RX3 76 yX1_addLift, Cond.instanceMethod yX1_addLift]
def wsX3_readItem_r5 : List Cond := [Cond.selects RX1 yX1_addLift yX1_addLift, Cond.initialized RX1, Cond.code yX1_addLift cX1_addLift 3 none, Cond.fieldLink RX1 45 "WrongWay$House" "lifts" "I", Cond.fieldLink RX1 9 "WrongWay$House" "kinds" "[I", Cond.fieldLink RX1 13 "WrongWay$House" "starts" "[I", Cond.fieldLink RX1 54 "WrongWay$House" "undos" "I", Cond.methodLink RX3 57 yX3_nextIsSemicolon, Cond.instanceMethod yX3_nextIsSemicolon, Cond.selects RX3 yX3_nextIsSemicolon yX3_nextIsSemicolon, Cond.code yX3_nextIsSemicolon cX3_nextIsSemicolon 1 (some .boolean), Cond.methodLink RX3 71 yX3_readLine, Cond.instanceMethod yX3_readLine, Cond.selects RX3 yX3_readLine yX3_readLine, Cond.code yX3_readLine cX3_readLine 4 (some .boolean), Cond.methodLink RX3 80 yX1_setLine, Cond.instanceMethod yX1_setLine, Cond.selects RX1 yX1_setLine yX1_setLine, Cond.code yX1_setLine cX1_setLine 4 none, Cond.fieldLink RX1 16 "WrongWay$House" "every" "[I", Cond.fieldLink RX1 19 "WrongWay$House" "at" "[I"]
def wsX3_readItem : List Cond := .code yX3_readItem cX3_readItem 2 (some .boolean) :: ((wsX3_readItem_r1 ++ (wsX3_readItem_r2 ++ (wsX3_readItem_r3 ++ (wsX3_readItem_r4 ++ wsX3_readItem_r5)))) ++ wsX10 ++ wsX30)
def wsX3_readInto_r1 : List Cond := [Cond.fieldLink RX3 19 "WrongWay$Text" "tokenEnd" "I", Cond.fieldLink RX3 29 "WrongWay$Text" "tokenStart" "I", Cond.fieldLink RX3 32 "WrongWay$Text" "token" "I", Cond.methodLink RX3 22 yX3_nextToken, Cond.instanceMethod yX3_nextToken, Cond.selects RX3 yX3_nextToken yX3_nextToken, Cond.initialized RX3, Cond.code yX3_nextToken cX3_nextToken 2 none, Cond.fieldLink RX3 15 "WrongWay$Text" "length" "I", Cond.fieldLink RX3 11 "WrongWay$Text" "bytes" "[B", Cond.fieldLink RX3 50 "WrongWay$Text" "value" "I", Cond.methodLink RX3 97 yX3_isLetter, Cond.static yX3_isLetter, Cond.code yX3_isLetter cX3_isLetter 1 (some .boolean), Cond.methodLink RX3 101 yX3_endOfWord, Cond.instanceMethod yX3_endOfWord, Cond.selects RX3 yX3_endOfWord yX3_endOfWord, Cond.code yX3_endOfWord cX3_endOfWord 3 (some .int), Cond.methodLink RX3 105 yX3_isFigure, Cond.static yX3_isFigure, Cond.code yX3_isFigure cX3_isFigure 1 (some .boolean), Cond.methodLink RX3 108 yX3_endOfNumber, Cond.instanceMethod yX3_endOfNumber, Cond.selects RX3 yX3_endOfNumber yX3_endOfNumber]
def wsX3_readInto_r2 : List Cond := [Cond.code yX3_endOfNumber cX3_endOfNumber 3 (some .int), Cond.methodLink RX3 111 yX3_valueOf, Cond.instanceMethod yX3_valueOf, Cond.selects RX3 yX3_valueOf yX3_valueOf, Cond.code yX3_valueOf cX3_valueOf 5 (some .int), Cond.methodLink RX3 25 yX3_readHouse, Cond.instanceMethod yX3_readHouse, Cond.selects RX3 yX3_readHouse yX3_readHouse, Cond.code yX3_readHouse cX3_readHouse 2 (some .boolean), Cond.methodLink RX3 40 yX3_isWord, Cond.instanceMethod yX3_isWord, Cond.selects RX3 yX3_isWord yX3_isWord, Cond.code yX3_isWord cX3_isWord 3 (some .boolean), Cond.methodLink RX3 84 yJ0_length_8abf5, Cond.instanceMethod yJ0_length_8abf5, Cond.selects RJ0 yJ0_length_8abf5 yJ0_length_8abf5, Cond.initialized RJ0, Cond.code yJ0_length_8abf5 cJ0_length_8abf5 1 (some .int), Cond.fieldLink RJ0 9 "java/lang/String" "value" "[B", Cond.methodLink RJ0 335 yJ0_coder_7d493, Cond.instanceMethod yJ0_coder_7d493, Cond.selects RJ0 yJ0_coder_7d493 yJ0_coder_7d493, Cond.code yJ0_coder_7d493 cJ0_coder_7d493 1 (some .byte), Cond.fieldLink RJ0 38 "java/lang/String" "COMPACT_STRINGS" "Z"]
def wsX3_readInto_r3 : List Cond := [Cond.fieldLink RJ0 15 "java/lang/String" "coder" "B", Cond.methodLink RX3 89 yJ0_charAt_5068e, Cond.instanceMethod yJ0_charAt_5068e, Cond.selects RJ0 yJ0_charAt_5068e yJ0_charAt_5068e, Cond.code yJ0_charAt_5068e cJ0_charAt_5068e 2 (some .char), Cond.methodLink RJ0 492 yJ0_isLatin1_aae02, Cond.instanceMethod yJ0_isLatin1_aae02, Cond.selects RJ0 yJ0_isLatin1_aae02 yJ0_isLatin1_aae02, Cond.code yJ0_isLatin1_aae02 cJ0_isLatin1_aae02 1 (some .boolean), Cond.methodLink RJ0 495 yJ1_charAt_3b067, Cond.static yJ1_charAt_3b067, Cond.initialized RJ1, Cond.code yJ1_charAt_3b067 cJ1_charAt_3b067 2 (some .char), Cond.methodLink RJ1 9 yJ0_checkIndex_df160, Cond.static yJ0_checkIndex_df160, Cond.code yJ0_checkIndex_df160 cJ0_checkIndex_df160 2 none, Cond.fieldLink RJ0 1053 "jdk/internal/util/Preconditions" "SIOOBE_FORMATTER" "Ljava/util/function/BiFunction;", Cond.methodLink RJ0 1059 yJ3_checkIndex_8e157, Cond.static yJ3_checkIndex_8e157, Cond.initialized RJ3, Cond.code yJ3_checkIndex_8e157 cJ3_checkIndex_8e157 3 (some .int), Cond.methodLink RJ0 498 yJ2_charAt_3b067, Cond.static yJ2_charAt_3b067, Cond.initialized RJ2]
def wsX3_readInto_r4 : List Cond := [Cond.code yJ2_charAt_3b067 cJ2_charAt_3b067 2 (some .char), Cond.methodLink RJ2 67 yJ2_checkIndex_2214a, Cond.static yJ2_checkIndex_2214a, Cond.code yJ2_checkIndex_2214a cJ2_checkIndex_2214a 2 none, Cond.methodLink RJ2 48 yJ2_length_9d52b, Cond.static yJ2_length_9d52b, Cond.code yJ2_length_9d52b cJ2_length_9d52b 1 (some .int), Cond.methodLink RJ2 414 yJ0_checkIndex_df160, Cond.methodLink RJ2 71 yJ2_getChar_3b067, Cond.static yJ2_getChar_3b067, Cond.code yJ2_getChar_3b067 cJ2_getChar_3b067 2 (some .char), Cond.fieldLink RJ2 44 "java/lang/StringUTF16" "$assertionsDisabled" "Z", Cond.fieldLink RJ2 59 "java/lang/StringUTF16" "HI_BYTE_SHIFT" "I", Cond.fieldLink RJ2 63 "java/lang/StringUTF16" "LO_BYTE_SHIFT" "I", Cond.methodLink RX3 46 yX3_nextIsNumber, Cond.instanceMethod yX3_nextIsNumber, Cond.selects RX3 yX3_nextIsNumber yX3_nextIsNumber, Cond.code yX3_nextIsNumber cX3_nextIsNumber 3 (some .boolean), Cond.static yX5_isWithin, Cond.initialized RX5, Cond.code yX5_isWithin cX5_isWithin 3 (some .boolean), Cond.methodLink RX3 53 yX1_build, Cond.instanceMethod yX1_build, Cond.selects RX1 yX1_build yX1_build]
def wsX3_readInto_r5 : List Cond := [Cond.initialized RX1, Cond.code yX1_build cX1_build 2 none, Cond.fieldLink RX1 41 "WrongWay$House" "top" "I", Cond.fieldLink RX1 45 "WrongWay$House" "lifts" "I", Cond.fieldLink RX1 48 "WrongWay$House" "minute" "I", Cond.fieldLink RX1 51 "WrongWay$House" "noted" "I", Cond.fieldLink RX1 54 "WrongWay$House" "undos" "I", Cond.methodLink RX1 57 yX1_setLine, Cond.instanceMethod yX1_setLine, Cond.selects RX1 yX1_setLine yX1_setLine, Cond.code yX1_setLine cX1_setLine 4 none, Cond.fieldLink RX1 16 "WrongWay$House" "every" "[I", Cond.fieldLink RX1 19 "WrongWay$House" "at" "[I", Cond.methodLink RX3 57 yX3_nextIsSemicolon, Cond.instanceMethod yX3_nextIsSemicolon, Cond.selects RX3 yX3_nextIsSemicolon yX3_nextIsSemicolon, Cond.code yX3_nextIsSemicolon cX3_nextIsSemicolon 1 (some .boolean), Cond.methodLink RX3 35 yX3_readItem, Cond.instanceMethod yX3_readItem, Cond.selects RX3 yX3_readItem yX3_readItem, Cond.code yX3_readItem cX3_readItem 2 (some .boolean), Cond.fieldLink RX3 63 "WrongWay$House" "lifts" "I", Cond.methodLink RX3 66 yX3_readLift, Cond.instanceMethod yX3_readLift]
def wsX3_readInto_r6 : List Cond := [Cond.selects RX3 yX3_readLift yX3_readLift, Cond.code yX3_readLift cX3_readLift 3 (some .boolean), Cond.methodLink RX3 76 yX1_addLift, Cond.instanceMethod yX1_addLift, Cond.selects RX1 yX1_addLift yX1_addLift, Cond.code yX1_addLift cX1_addLift 3 none, Cond.fieldLink RX1 9 "WrongWay$House" "kinds" "[I", Cond.fieldLink RX1 13 "WrongWay$House" "starts" "[I", Cond.methodLink RX3 71 yX3_readLine, Cond.instanceMethod yX3_readLine, Cond.selects RX3 yX3_readLine yX3_readLine, Cond.code yX3_readLine cX3_readLine 4 (some .boolean), Cond.methodLink RX3 80 yX1_setLine]
def wsX3_readInto : List Cond := .code yX3_readInto cX3_readInto 3 (some .int) :: ((wsX3_readInto_r1 ++ (wsX3_readInto_r2 ++ (wsX3_readInto_r3 ++ (wsX3_readInto_r4 ++ (wsX3_readInto_r5 ++ wsX3_readInto_r6))))) ++ wsX30 ++ wsX10)
def wsX4_init : List Cond := .code yX4_init cX4_init 2 none :: ([.methodLink RX4 3 objectInit, .instanceMethod objectInit, .code objectInit ⟨#[0xb1]⟩ 1 none, .fieldLink RX4 9 "WrongWay$Watch" "house" "LWrongWay$House;"] ++ wsX40)
def wsX4_floorOf : List Cond := .code yX4_floorOf cX4_floorOf 3 (some .int) :: ([.fieldLink RX4 9 "WrongWay$Watch" "house" "LWrongWay$House;", .fieldLink RX4 15 "WrongWay$House" "kinds" "[I", .fieldLink RX4 21 "WrongWay$House" "top" "I", .fieldLink RX4 25 "WrongWay$House" "starts" "[I", .methodLink RX4 28 yX2_floorIn, .static yX2_floorIn, .initialized RX2, .code yX2_floorIn cX2_floorIn 7 (some .int), .fieldLink RX2 9 "WrongWay$Kinds" "PACE" "[I", .fieldLink RX2 18 "WrongWay$Kinds" "STAND_ABOVE" "[I", .methodLink RX2 25 Lib.Math.max.name, .static Lib.Math.max.name, .initialized "java/lang/Math", .code Lib.Math.max.name Lib.Math.max.code 2 (some .int), .methodLink RX2 30 Lib.Math.min.name, .static Lib.Math.min.name, .code Lib.Math.min.name Lib.Math.min.code 2 (some .int), .methodLink RX2 21 yX2_round, .static yX2_round, .code yX2_round cX2_round 3 (some .int), .fieldLink RX2 15 "WrongWay$Kinds" "REST_BELOW" "[I"] ++ wsX40 ++ wsX10)
def wsX4_wayOf : List Cond := .code yX4_wayOf cX4_wayOf 8 (some .int) :: ([.fieldLink RX4 9 "WrongWay$Watch" "house" "LWrongWay$House;", .fieldLink RX4 15 "WrongWay$House" "kinds" "[I", .fieldLink RX4 25 "WrongWay$House" "starts" "[I", .fieldLink RX4 21 "WrongWay$House" "top" "I", .methodLink RX4 28 yX2_floorIn, .static yX2_floorIn, .initialized RX2, .code yX2_floorIn cX2_floorIn 7 (some .int), .fieldLink RX2 9 "WrongWay$Kinds" "PACE" "[I", .fieldLink RX2 18 "WrongWay$Kinds" "STAND_ABOVE" "[I", .methodLink RX2 25 Lib.Math.max.name, .static Lib.Math.max.name, .initialized "java/lang/Math", .code Lib.Math.max.name Lib.Math.max.code 2 (some .int), .methodLink RX2 30 Lib.Math.min.name, .static Lib.Math.min.name, .code Lib.Math.min.name Lib.Math.min.code 2 (some .int), .methodLink RX2 21 yX2_round, .static yX2_round, .code yX2_round cX2_round 3 (some .int), .fieldLink RX2 15 "WrongWay$Kinds" "REST_BELOW" "[I"] ++ wsX40 ++ wsX10)
def wsX4_isSeen : List Cond := .code yX4_isSeen cX4_isSeen 5 (some .boolean) :: ([.fieldLink RX4 9 "WrongWay$Watch" "house" "LWrongWay$House;", .fieldLink RX4 15 "WrongWay$House" "kinds" "[I", .fieldLink RX4 21 "WrongWay$House" "top" "I", .fieldLink RX4 25 "WrongWay$House" "starts" "[I", .methodLink RX4 34 yX2_opens, .static yX2_opens, .initialized RX2, .code yX2_opens cX2_opens 3 (some .boolean), .methodLink RX4 28 yX2_floorIn, .static yX2_floorIn, .code yX2_floorIn cX2_floorIn 7 (some .int), .fieldLink RX2 9 "WrongWay$Kinds" "PACE" "[I", .fieldLink RX2 18 "WrongWay$Kinds" "STAND_ABOVE" "[I", .methodLink RX2 25 Lib.Math.max.name, .static Lib.Math.max.name, .initialized "java/lang/Math", .code Lib.Math.max.name Lib.Math.max.code 2 (some .int), .methodLink RX2 30 Lib.Math.min.name, .static Lib.Math.min.name, .code Lib.Math.min.name Lib.Math.min.code 2 (some .int), .methodLink RX2 21 yX2_round, .static yX2_round, .code yX2_round cX2_round 3 (some .int), .fieldLink RX2 15 "WrongWay$Kinds" "REST_BELOW" "[I"] ++ wsX40 ++ wsX10)
def wsX4_seenFrom_r1 : List Cond := [Cond.fieldLink RX4 9 "WrongWay$Watch" "house" "LWrongWay$House;", Cond.fieldLink RX4 38 "WrongWay$House" "lifts" "I", Cond.methodLink RX4 41 yX4_isSeen, Cond.instanceMethod yX4_isSeen, Cond.selects RX4 yX4_isSeen yX4_isSeen, Cond.initialized RX4, Cond.code yX4_isSeen cX4_isSeen 5 (some .boolean), Cond.fieldLink RX4 15 "WrongWay$House" "kinds" "[I", Cond.fieldLink RX4 21 "WrongWay$House" "top" "I", Cond.fieldLink RX4 25 "WrongWay$House" "starts" "[I", Cond.methodLink RX4 34 yX2_opens, Cond.static yX2_opens, Cond.initialized RX2, Cond.code yX2_opens cX2_opens 3 (some .boolean), Cond.methodLink RX4 28 yX2_floorIn, Cond.static yX2_floorIn, Cond.code yX2_floorIn cX2_floorIn 7 (some .int), Cond.fieldLink RX2 9 "WrongWay$Kinds" "PACE" "[I", Cond.fieldLink RX2 18 "WrongWay$Kinds" "STAND_ABOVE" "[I", Cond.methodLink RX2 25 Lib.Math.max.name, Cond.static Lib.Math.max.name, Cond.initialized "java/lang/Math", Cond.code Lib.Math.max.name Lib.Math.max.code 2 (some .int), Cond.methodLink RX2 30 Lib.Math.min.name]
def wsX4_seenFrom_r2 : List Cond := [Cond.static Lib.Math.min.name, Cond.code Lib.Math.min.name Lib.Math.min.code 2 (some .int), Cond.methodLink RX2 21 yX2_round, Cond.static yX2_round, Cond.code yX2_round cX2_round 3 (some .int), Cond.fieldLink RX2 15 "WrongWay$Kinds" "REST_BELOW" "[I", Cond.methodLink RX4 44 yX4_wayOf, Cond.instanceMethod yX4_wayOf, Cond.selects RX4 yX4_wayOf yX4_wayOf, Cond.code yX4_wayOf cX4_wayOf 8 (some .int)]
def wsX4_seenFrom : List Cond := .code yX4_seenFrom cX4_seenFrom 5 (some .int) :: ((wsX4_seenFrom_r1 ++ wsX4_seenFrom_r2) ++ wsX40 ++ wsX10)
def wsX4_waitOn_r1 : List Cond := [Cond.methodLink RX4 48 yX4_seenFrom, Cond.instanceMethod yX4_seenFrom, Cond.selects RX4 yX4_seenFrom yX4_seenFrom, Cond.initialized RX4, Cond.code yX4_seenFrom cX4_seenFrom 5 (some .int), Cond.fieldLink RX4 9 "WrongWay$Watch" "house" "LWrongWay$House;", Cond.fieldLink RX4 38 "WrongWay$House" "lifts" "I", Cond.methodLink RX4 41 yX4_isSeen, Cond.instanceMethod yX4_isSeen, Cond.selects RX4 yX4_isSeen yX4_isSeen, Cond.code yX4_isSeen cX4_isSeen 5 (some .boolean), Cond.fieldLink RX4 15 "WrongWay$House" "kinds" "[I", Cond.fieldLink RX4 21 "WrongWay$House" "top" "I", Cond.fieldLink RX4 25 "WrongWay$House" "starts" "[I", Cond.methodLink RX4 34 yX2_opens, Cond.static yX2_opens, Cond.initialized RX2, Cond.code yX2_opens cX2_opens 3 (some .boolean), Cond.methodLink RX4 28 yX2_floorIn, Cond.static yX2_floorIn, Cond.code yX2_floorIn cX2_floorIn 7 (some .int), Cond.fieldLink RX2 9 "WrongWay$Kinds" "PACE" "[I", Cond.fieldLink RX2 18 "WrongWay$Kinds" "STAND_ABOVE" "[I", Cond.methodLink RX2 25 Lib.Math.max.name]
def wsX4_waitOn_r2 : List Cond := [Cond.static Lib.Math.max.name, Cond.initialized "java/lang/Math", Cond.code Lib.Math.max.name Lib.Math.max.code 2 (some .int), Cond.methodLink RX2 30 Lib.Math.min.name, Cond.static Lib.Math.min.name, Cond.code Lib.Math.min.name Lib.Math.min.code 2 (some .int), Cond.methodLink RX2 21 yX2_round, Cond.static yX2_round, Cond.code yX2_round cX2_round 3 (some .int), Cond.fieldLink RX2 15 "WrongWay$Kinds" "REST_BELOW" "[I", Cond.methodLink RX4 44 yX4_wayOf, Cond.instanceMethod yX4_wayOf, Cond.selects RX4 yX4_wayOf yX4_wayOf, Cond.code yX4_wayOf cX4_wayOf 8 (some .int)]
def wsX4_waitOn : List Cond := .code yX4_waitOn cX4_waitOn 5 (some .int) :: ((wsX4_waitOn_r1 ++ wsX4_waitOn_r2) ++ wsX40 ++ wsX10)
def wsX4_waitForLift_r1 : List Cond := [Cond.methodLink RX4 41 yX4_isSeen, Cond.instanceMethod yX4_isSeen, Cond.selects RX4 yX4_isSeen yX4_isSeen, Cond.initialized RX4, Cond.code yX4_isSeen cX4_isSeen 5 (some .boolean), Cond.fieldLink RX4 9 "WrongWay$Watch" "house" "LWrongWay$House;", Cond.fieldLink RX4 15 "WrongWay$House" "kinds" "[I", Cond.fieldLink RX4 21 "WrongWay$House" "top" "I", Cond.fieldLink RX4 25 "WrongWay$House" "starts" "[I", Cond.methodLink RX4 34 yX2_opens, Cond.static yX2_opens, Cond.initialized RX2, Cond.code yX2_opens cX2_opens 3 (some .boolean), Cond.methodLink RX4 28 yX2_floorIn, Cond.static yX2_floorIn, Cond.code yX2_floorIn cX2_floorIn 7 (some .int), Cond.fieldLink RX2 9 "WrongWay$Kinds" "PACE" "[I", Cond.fieldLink RX2 18 "WrongWay$Kinds" "STAND_ABOVE" "[I", Cond.methodLink RX2 25 Lib.Math.max.name, Cond.static Lib.Math.max.name, Cond.initialized "java/lang/Math", Cond.code Lib.Math.max.name Lib.Math.max.code 2 (some .int), Cond.methodLink RX2 30 Lib.Math.min.name, Cond.static Lib.Math.min.name]
def wsX4_waitForLift_r2 : List Cond := [Cond.code Lib.Math.min.name Lib.Math.min.code 2 (some .int), Cond.methodLink RX2 21 yX2_round, Cond.static yX2_round, Cond.code yX2_round cX2_round 3 (some .int), Cond.fieldLink RX2 15 "WrongWay$Kinds" "REST_BELOW" "[I"]
def wsX4_waitForLift : List Cond := .code yX4_waitForLift cX4_waitForLift 5 (some .int) :: ((wsX4_waitForLift_r1 ++ wsX4_waitForLift_r2) ++ wsX40 ++ wsX10)
def wsX4_wayOfFirst_r1 : List Cond := [Cond.methodLink RX4 52 yX4_waitOn, Cond.instanceMethod yX4_waitOn, Cond.selects RX4 yX4_waitOn yX4_waitOn, Cond.initialized RX4, Cond.code yX4_waitOn cX4_waitOn 5 (some .int), Cond.methodLink RX4 48 yX4_seenFrom, Cond.instanceMethod yX4_seenFrom, Cond.selects RX4 yX4_seenFrom yX4_seenFrom, Cond.code yX4_seenFrom cX4_seenFrom 5 (some .int), Cond.fieldLink RX4 9 "WrongWay$Watch" "house" "LWrongWay$House;", Cond.fieldLink RX4 38 "WrongWay$House" "lifts" "I", Cond.methodLink RX4 41 yX4_isSeen, Cond.instanceMethod yX4_isSeen, Cond.selects RX4 yX4_isSeen yX4_isSeen, Cond.code yX4_isSeen cX4_isSeen 5 (some .boolean), Cond.fieldLink RX4 15 "WrongWay$House" "kinds" "[I", Cond.fieldLink RX4 21 "WrongWay$House" "top" "I", Cond.fieldLink RX4 25 "WrongWay$House" "starts" "[I", Cond.methodLink RX4 34 yX2_opens, Cond.static yX2_opens, Cond.initialized RX2, Cond.code yX2_opens cX2_opens 3 (some .boolean), Cond.methodLink RX4 28 yX2_floorIn, Cond.static yX2_floorIn]
def wsX4_wayOfFirst_r2 : List Cond := [Cond.code yX2_floorIn cX2_floorIn 7 (some .int), Cond.fieldLink RX2 9 "WrongWay$Kinds" "PACE" "[I", Cond.fieldLink RX2 18 "WrongWay$Kinds" "STAND_ABOVE" "[I", Cond.methodLink RX2 25 Lib.Math.max.name, Cond.static Lib.Math.max.name, Cond.initialized "java/lang/Math", Cond.code Lib.Math.max.name Lib.Math.max.code 2 (some .int), Cond.methodLink RX2 30 Lib.Math.min.name, Cond.static Lib.Math.min.name, Cond.code Lib.Math.min.name Lib.Math.min.code 2 (some .int), Cond.methodLink RX2 21 yX2_round, Cond.static yX2_round, Cond.code yX2_round cX2_round 3 (some .int), Cond.fieldLink RX2 15 "WrongWay$Kinds" "REST_BELOW" "[I", Cond.methodLink RX4 44 yX4_wayOf, Cond.instanceMethod yX4_wayOf, Cond.selects RX4 yX4_wayOf yX4_wayOf, Cond.code yX4_wayOf cX4_wayOf 8 (some .int)]
def wsX4_wayOfFirst : List Cond := .code yX4_wayOfFirst cX4_wayOfFirst 5 (some .int) :: ((wsX4_wayOfFirst_r1 ++ wsX4_wayOfFirst_r2) ++ wsX40 ++ wsX10)
def wsX4_rideTime_r1 : List Cond := [Cond.methodLink RX4 52 yX4_waitOn, Cond.instanceMethod yX4_waitOn, Cond.selects RX4 yX4_waitOn yX4_waitOn, Cond.initialized RX4, Cond.code yX4_waitOn cX4_waitOn 5 (some .int), Cond.methodLink RX4 48 yX4_seenFrom, Cond.instanceMethod yX4_seenFrom, Cond.selects RX4 yX4_seenFrom yX4_seenFrom, Cond.code yX4_seenFrom cX4_seenFrom 5 (some .int), Cond.fieldLink RX4 9 "WrongWay$Watch" "house" "LWrongWay$House;", Cond.fieldLink RX4 38 "WrongWay$House" "lifts" "I", Cond.methodLink RX4 41 yX4_isSeen, Cond.instanceMethod yX4_isSeen, Cond.selects RX4 yX4_isSeen yX4_isSeen, Cond.code yX4_isSeen cX4_isSeen 5 (some .boolean), Cond.fieldLink RX4 15 "WrongWay$House" "kinds" "[I", Cond.fieldLink RX4 21 "WrongWay$House" "top" "I", Cond.fieldLink RX4 25 "WrongWay$House" "starts" "[I", Cond.methodLink RX4 34 yX2_opens, Cond.static yX2_opens, Cond.initialized RX2, Cond.code yX2_opens cX2_opens 3 (some .boolean), Cond.methodLink RX4 28 yX2_floorIn, Cond.static yX2_floorIn]
def wsX4_rideTime_r2 : List Cond := [Cond.code yX2_floorIn cX2_floorIn 7 (some .int), Cond.fieldLink RX2 9 "WrongWay$Kinds" "PACE" "[I", Cond.fieldLink RX2 18 "WrongWay$Kinds" "STAND_ABOVE" "[I", Cond.methodLink RX2 25 Lib.Math.max.name, Cond.static Lib.Math.max.name, Cond.initialized "java/lang/Math", Cond.code Lib.Math.max.name Lib.Math.max.code 2 (some .int), Cond.methodLink RX2 30 Lib.Math.min.name, Cond.static Lib.Math.min.name, Cond.code Lib.Math.min.name Lib.Math.min.code 2 (some .int), Cond.methodLink RX2 21 yX2_round, Cond.static yX2_round, Cond.code yX2_round cX2_round 3 (some .int), Cond.fieldLink RX2 15 "WrongWay$Kinds" "REST_BELOW" "[I", Cond.methodLink RX4 44 yX4_wayOf, Cond.instanceMethod yX4_wayOf, Cond.selects RX4 yX4_wayOf yX4_wayOf, Cond.code yX4_wayOf cX4_wayOf 8 (some .int), Cond.methodLink RX4 55 yX4_waitForLift, Cond.instanceMethod yX4_waitForLift, Cond.selects RX4 yX4_waitForLift yX4_waitForLift, Cond.code yX4_waitForLift cX4_waitForLift 5 (some .int)]
def wsX4_rideTime : List Cond := .code yX4_rideTime cX4_rideTime 8 (some .int) :: ((wsX4_rideTime_r1 ++ wsX4_rideTime_r2) ++ wsX40 ++ wsX10)
def wsX4_fits : List Cond := .code yX4_fits cX4_fits 7 (some .boolean) :: ([.fieldLink RX4 9 "WrongWay$Watch" "house" "LWrongWay$House;", .fieldLink RX4 58 "WrongWay$House" "noted" "I", .fieldLink RX4 61 "WrongWay$House" "notedLifts" "[I", .fieldLink RX4 21 "WrongWay$House" "top" "I", .fieldLink RX4 64 "WrongWay$House" "notedMinutes" "[I", .fieldLink RX4 67 "WrongWay$House" "notedFloors" "[I", .fieldLink RX4 70 "WrongWay$House" "notedThere" "[I", .methodLink RX4 28 yX2_floorIn, .static yX2_floorIn, .initialized RX2, .code yX2_floorIn cX2_floorIn 7 (some .int), .fieldLink RX2 9 "WrongWay$Kinds" "PACE" "[I", .fieldLink RX2 18 "WrongWay$Kinds" "STAND_ABOVE" "[I", .methodLink RX2 25 Lib.Math.max.name, .static Lib.Math.max.name, .initialized "java/lang/Math", .code Lib.Math.max.name Lib.Math.max.code 2 (some .int), .methodLink RX2 30 Lib.Math.min.name, .static Lib.Math.min.name, .code Lib.Math.min.name Lib.Math.min.code 2 (some .int), .methodLink RX2 21 yX2_round, .static yX2_round, .code yX2_round cX2_round 3 (some .int), .fieldLink RX2 15 "WrongWay$Kinds" "REST_BELOW" "[I"] ++ wsX40 ++ wsX10)
def wsX4_fittingKinds_r1 : List Cond := [Cond.fieldLink RX4 9 "WrongWay$Watch" "house" "LWrongWay$House;", Cond.fieldLink RX4 25 "WrongWay$House" "starts" "[I", Cond.methodLink RX4 73 yX4_fits, Cond.instanceMethod yX4_fits, Cond.selects RX4 yX4_fits yX4_fits, Cond.initialized RX4, Cond.code yX4_fits cX4_fits 7 (some .boolean), Cond.fieldLink RX4 58 "WrongWay$House" "noted" "I", Cond.fieldLink RX4 61 "WrongWay$House" "notedLifts" "[I", Cond.fieldLink RX4 21 "WrongWay$House" "top" "I", Cond.fieldLink RX4 64 "WrongWay$House" "notedMinutes" "[I", Cond.fieldLink RX4 67 "WrongWay$House" "notedFloors" "[I", Cond.fieldLink RX4 70 "WrongWay$House" "notedThere" "[I", Cond.methodLink RX4 28 yX2_floorIn, Cond.static yX2_floorIn, Cond.initialized RX2, Cond.code yX2_floorIn cX2_floorIn 7 (some .int), Cond.fieldLink RX2 9 "WrongWay$Kinds" "PACE" "[I", Cond.fieldLink RX2 18 "WrongWay$Kinds" "STAND_ABOVE" "[I", Cond.methodLink RX2 25 Lib.Math.max.name, Cond.static Lib.Math.max.name, Cond.initialized "java/lang/Math", Cond.code Lib.Math.max.name Lib.Math.max.code 2 (some .int), Cond.methodLink RX2 30 Lib.Math.min.name]
def wsX4_fittingKinds_r2 : List Cond := [Cond.static Lib.Math.min.name, Cond.code Lib.Math.min.name Lib.Math.min.code 2 (some .int), Cond.methodLink RX2 21 yX2_round, Cond.static yX2_round, Cond.code yX2_round cX2_round 3 (some .int), Cond.fieldLink RX2 15 "WrongWay$Kinds" "REST_BELOW" "[I"]
def wsX4_fittingKinds : List Cond := .code yX4_fittingKinds cX4_fittingKinds 4 (some .int) :: ((wsX4_fittingKinds_r1 ++ wsX4_fittingKinds_r2) ++ wsX40 ++ wsX10)
def wsX4_fittingStarts_r1 : List Cond := [Cond.fieldLink RX4 9 "WrongWay$Watch" "house" "LWrongWay$House;", Cond.fieldLink RX4 15 "WrongWay$House" "kinds" "[I", Cond.methodLink RX4 73 yX4_fits, Cond.instanceMethod yX4_fits, Cond.selects RX4 yX4_fits yX4_fits, Cond.initialized RX4, Cond.code yX4_fits cX4_fits 7 (some .boolean), Cond.fieldLink RX4 58 "WrongWay$House" "noted" "I", Cond.fieldLink RX4 61 "WrongWay$House" "notedLifts" "[I", Cond.fieldLink RX4 21 "WrongWay$House" "top" "I", Cond.fieldLink RX4 64 "WrongWay$House" "notedMinutes" "[I", Cond.fieldLink RX4 67 "WrongWay$House" "notedFloors" "[I", Cond.fieldLink RX4 70 "WrongWay$House" "notedThere" "[I", Cond.methodLink RX4 28 yX2_floorIn, Cond.static yX2_floorIn, Cond.initialized RX2, Cond.code yX2_floorIn cX2_floorIn 7 (some .int), Cond.fieldLink RX2 9 "WrongWay$Kinds" "PACE" "[I", Cond.fieldLink RX2 18 "WrongWay$Kinds" "STAND_ABOVE" "[I", Cond.methodLink RX2 25 Lib.Math.max.name, Cond.static Lib.Math.max.name, Cond.initialized "java/lang/Math", Cond.code Lib.Math.max.name Lib.Math.max.code 2 (some .int), Cond.methodLink RX2 30 Lib.Math.min.name]
def wsX4_fittingStarts_r2 : List Cond := [Cond.static Lib.Math.min.name, Cond.code Lib.Math.min.name Lib.Math.min.code 2 (some .int), Cond.methodLink RX2 21 yX2_round, Cond.static yX2_round, Cond.code yX2_round cX2_round 3 (some .int), Cond.fieldLink RX2 15 "WrongWay$Kinds" "REST_BELOW" "[I"]
def wsX4_fittingStarts : List Cond := .code yX4_fittingStarts cX4_fittingStarts 4 (some .int) :: ((wsX4_fittingStarts_r1 ++ wsX4_fittingStarts_r2) ++ wsX40 ++ wsX10)
def wsJ6_bitCount_0f7a4 : List Cond := .code yJ6_bitCount_0f7a4 cJ6_bitCount_0f7a4 1 (some .int) :: ([.constant RJ6 265 (1431655765), .constant RJ6 266 (858993459), .constant RJ6 267 (252645135)])
def wsX4_kindsThere : List Cond := .code yX4_kindsThere cX4_kindsThere 8 (some .int) :: ([.fieldLink RX4 9 "WrongWay$Watch" "house" "LWrongWay$House;", .fieldLink RX4 21 "WrongWay$House" "top" "I", .methodLink RX4 28 yX2_floorIn, .static yX2_floorIn, .initialized RX2, .code yX2_floorIn cX2_floorIn 7 (some .int), .fieldLink RX2 9 "WrongWay$Kinds" "PACE" "[I", .fieldLink RX2 18 "WrongWay$Kinds" "STAND_ABOVE" "[I", .methodLink RX2 25 Lib.Math.max.name, .static Lib.Math.max.name, .initialized "java/lang/Math", .code Lib.Math.max.name Lib.Math.max.code 2 (some .int), .methodLink RX2 30 Lib.Math.min.name, .static Lib.Math.min.name, .code Lib.Math.min.name Lib.Math.min.code 2 (some .int), .methodLink RX2 21 yX2_round, .static yX2_round, .code yX2_round cX2_round 3 (some .int), .fieldLink RX2 15 "WrongWay$Kinds" "REST_BELOW" "[I"] ++ wsX40 ++ wsX10)
def wsX4_tellingMinute_r1 : List Cond := [Cond.fieldLink RX4 9 "WrongWay$Watch" "house" "LWrongWay$House;", Cond.fieldLink RX4 25 "WrongWay$House" "starts" "[I", Cond.methodLink RX4 88 Lib.Math.max.name, Cond.static Lib.Math.max.name, Cond.initialized "java/lang/Math", Cond.code Lib.Math.max.name Lib.Math.max.code 2 (some .int), Cond.methodLink RX4 76 yX4_fittingKinds, Cond.instanceMethod yX4_fittingKinds, Cond.selects RX4 yX4_fittingKinds yX4_fittingKinds, Cond.initialized RX4, Cond.code yX4_fittingKinds cX4_fittingKinds 4 (some .int), Cond.methodLink RX4 73 yX4_fits, Cond.instanceMethod yX4_fits, Cond.selects RX4 yX4_fits yX4_fits, Cond.code yX4_fits cX4_fits 7 (some .boolean), Cond.fieldLink RX4 58 "WrongWay$House" "noted" "I", Cond.fieldLink RX4 61 "WrongWay$House" "notedLifts" "[I", Cond.fieldLink RX4 21 "WrongWay$House" "top" "I", Cond.fieldLink RX4 64 "WrongWay$House" "notedMinutes" "[I", Cond.fieldLink RX4 67 "WrongWay$House" "notedFloors" "[I", Cond.fieldLink RX4 70 "WrongWay$House" "notedThere" "[I", Cond.methodLink RX4 28 yX2_floorIn, Cond.static yX2_floorIn, Cond.initialized RX2]
def wsX4_tellingMinute_r2 : List Cond := [Cond.code yX2_floorIn cX2_floorIn 7 (some .int), Cond.fieldLink RX2 9 "WrongWay$Kinds" "PACE" "[I", Cond.fieldLink RX2 18 "WrongWay$Kinds" "STAND_ABOVE" "[I", Cond.methodLink RX2 25 Lib.Math.max.name, Cond.methodLink RX2 30 Lib.Math.min.name, Cond.static Lib.Math.min.name, Cond.code Lib.Math.min.name Lib.Math.min.code 2 (some .int), Cond.methodLink RX2 21 yX2_round, Cond.static yX2_round, Cond.code yX2_round cX2_round 3 (some .int), Cond.fieldLink RX2 15 "WrongWay$Kinds" "REST_BELOW" "[I", Cond.methodLink RX4 80 yJ6_bitCount_0f7a4, Cond.static yJ6_bitCount_0f7a4, Cond.initialized RJ6, Cond.code yJ6_bitCount_0f7a4 cJ6_bitCount_0f7a4 1 (some .int), Cond.constant RJ6 265 (1431655765), Cond.constant RJ6 266 (858993459), Cond.constant RJ6 267 (252645135), Cond.methodLink RX4 85 yX4_kindsThere, Cond.instanceMethod yX4_kindsThere, Cond.selects RX4 yX4_kindsThere yX4_kindsThere, Cond.code yX4_kindsThere cX4_kindsThere 8 (some .int)]
def wsX4_tellingMinute : List Cond := .code yX4_tellingMinute cX4_tellingMinute 10 (some .int) :: ((wsX4_tellingMinute_r1 ++ wsX4_tellingMinute_r2) ++ wsX40 ++ wsX10)
def wsX5_init_r1 : List Cond := [Cond.methodLink RX5 1 objectInit, Cond.instanceMethod objectInit, Cond.code objectInit ⟨#[0xb1]⟩ 1 none, Cond.classLink RX5 7 RX1, Cond.instantiable RX1 14, Cond.initialized RX1, Cond.fieldLink RX5 10 "WrongWay" "now" "LWrongWay$House;", Cond.fieldLink RX5 16 "WrongWay" "draft" "LWrongWay$House;", Cond.fieldLink RX5 19 "WrongWay" "images" "[LWrongWay$House;", Cond.arrayClass .boolean, Cond.fieldLink RX5 23 "WrongWay" "kept" "[Z", Cond.classLink RX5 27 RX4, Cond.instantiable RX4 1, Cond.initialized RX4, Cond.fieldLink RX5 32 "WrongWay" "watch" "LWrongWay$Watch;", Cond.classLink RX5 36 RX3, Cond.instantiable RX3 6, Cond.initialized RX3, Cond.fieldLink RX5 39 "WrongWay" "text" "LWrongWay$Text;", Cond.classLink RX5 43 RX0, Cond.instantiable RX0 2, Cond.initialized RX0, Cond.fieldLink RX5 46 "WrongWay" "fraction" "LWrongWay$Fraction;", Cond.arrayClass .int]
def wsX5_init_r2 : List Cond := [Cond.fieldLink RX5 50 "WrongWay" "refusals" "[I", Cond.methodLink RX5 9 yX1_init, Cond.instanceMethod yX1_init, Cond.code yX1_init cX1_init 1 none, Cond.methodLink RX1 1 objectInit, Cond.fieldLink RX1 9 "WrongWay$House" "kinds" "[I", Cond.fieldLink RX1 13 "WrongWay$House" "starts" "[I", Cond.fieldLink RX1 16 "WrongWay$House" "every" "[I", Cond.fieldLink RX1 19 "WrongWay$House" "at" "[I", Cond.fieldLink RX1 22 "WrongWay$House" "notedLifts" "[I", Cond.fieldLink RX1 25 "WrongWay$House" "notedFloors" "[I", Cond.fieldLink RX1 28 "WrongWay$House" "notedMinutes" "[I", Cond.fieldLink RX1 31 "WrongWay$House" "notedThere" "[I", Cond.fieldLink RX1 34 "WrongWay$House" "minutesBefore" "[I", Cond.methodLink RX1 37 yX1_build, Cond.instanceMethod yX1_build, Cond.selects RX1 yX1_build yX1_build, Cond.code yX1_build cX1_build 2 none, Cond.fieldLink RX1 41 "WrongWay$House" "top" "I", Cond.fieldLink RX1 45 "WrongWay$House" "lifts" "I", Cond.fieldLink RX1 48 "WrongWay$House" "minute" "I", Cond.fieldLink RX1 51 "WrongWay$House" "noted" "I", Cond.fieldLink RX1 54 "WrongWay$House" "undos" "I", Cond.methodLink RX1 57 yX1_setLine]
def wsX5_init_r3 : List Cond := [Cond.instanceMethod yX1_setLine, Cond.selects RX1 yX1_setLine yX1_setLine, Cond.code yX1_setLine cX1_setLine 4 none, Cond.methodLink RX5 29 yX4_init, Cond.instanceMethod yX4_init, Cond.code yX4_init cX4_init 2 none, Cond.methodLink RX4 3 objectInit, Cond.fieldLink RX4 9 "WrongWay$Watch" "house" "LWrongWay$House;", Cond.instanceMethod yX3_init, Cond.code yX3_init cX3_init 1 none, Cond.methodLink RX3 3 objectInit, Cond.arrayClass .byte, Cond.fieldLink RX3 11 "WrongWay$Text" "bytes" "[B", Cond.instanceMethod yX0_init, Cond.code yX0_init cX0_init 1 none, Cond.methodLink RX0 1 objectInit, Cond.fieldLink RX0 7 "WrongWay$Fraction" "above" "J", Cond.fieldLink RX0 13 "WrongWay$Fraction" "below" "J"]
def wsX5_init : List Cond := .code yX5_init cX5_init 1 none :: ((wsX5_init_r1 ++ (wsX5_init_r2 ++ wsX5_init_r3)) ++ wsX10 ++ wsX50 ++ wsX40 ++ wsX30 ++ wsX00)
def wsX5_refuse : List Cond := .code yX5_refuse cX5_refuse 3 (some .int) :: ([.fieldLink RX5 50 "WrongWay" "refusals" "[I", .methodLink RX5 54 yX5_isWithin, .static yX5_isWithin, .initialized RX5, .code yX5_isWithin cX5_isWithin 3 (some .boolean)] ++ wsX50)
def wsX5_house_r1 : List Cond := [Cond.fieldLink RX5 10 "WrongWay" "now" "LWrongWay$House;", Cond.fieldLink RX5 62 "WrongWay$House" "lifts" "I", Cond.methodLink RX5 54 yX5_isWithin, Cond.static yX5_isWithin, Cond.initialized RX5, Cond.code yX5_isWithin cX5_isWithin 3 (some .boolean), Cond.methodLink RX5 58 yX5_refuse, Cond.instanceMethod yX5_refuse, Cond.selects RX5 yX5_refuse yX5_refuse, Cond.code yX5_refuse cX5_refuse 3 (some .int), Cond.fieldLink RX5 50 "WrongWay" "refusals" "[I", Cond.methodLink RX5 66 yX1_build, Cond.instanceMethod yX1_build, Cond.selects RX1 yX1_build yX1_build, Cond.initialized RX1, Cond.code yX1_build cX1_build 2 none, Cond.fieldLink RX1 41 "WrongWay$House" "top" "I", Cond.fieldLink RX1 45 "WrongWay$House" "lifts" "I", Cond.fieldLink RX1 48 "WrongWay$House" "minute" "I", Cond.fieldLink RX1 51 "WrongWay$House" "noted" "I", Cond.fieldLink RX1 54 "WrongWay$House" "undos" "I", Cond.methodLink RX1 57 yX1_setLine, Cond.instanceMethod yX1_setLine, Cond.selects RX1 yX1_setLine yX1_setLine]
def wsX5_house_r2 : List Cond := [Cond.code yX1_setLine cX1_setLine 4 none, Cond.fieldLink RX1 16 "WrongWay$House" "every" "[I", Cond.fieldLink RX1 19 "WrongWay$House" "at" "[I"]
def wsX5_house : List Cond := .code yX5_house cX5_house 3 (some .int) :: ((wsX5_house_r1 ++ wsX5_house_r2) ++ wsX50 ++ wsX10)
def wsX5_lift : List Cond := .code yX5_lift cX5_lift 3 (some .int) :: ([.fieldLink RX5 10 "WrongWay" "now" "LWrongWay$House;", .fieldLink RX5 62 "WrongWay$House" "lifts" "I", .methodLink RX5 54 yX5_isWithin, .static yX5_isWithin, .initialized RX5, .code yX5_isWithin cX5_isWithin 3 (some .boolean), .methodLink RX5 58 yX5_refuse, .instanceMethod yX5_refuse, .selects RX5 yX5_refuse yX5_refuse, .code yX5_refuse cX5_refuse 3 (some .int), .fieldLink RX5 50 "WrongWay" "refusals" "[I", .methodLink RX5 72 yX1_addLift, .instanceMethod yX1_addLift, .selects RX1 yX1_addLift yX1_addLift, .initialized RX1, .code yX1_addLift cX1_addLift 3 none, .fieldLink RX1 45 "WrongWay$House" "lifts" "I", .fieldLink RX1 9 "WrongWay$House" "kinds" "[I", .fieldLink RX1 13 "WrongWay$House" "starts" "[I", .fieldLink RX1 54 "WrongWay$House" "undos" "I"] ++ wsX50 ++ wsX10)
def wsX5_line : List Cond := .code yX5_line cX5_line 5 (some .int) :: ([.fieldLink RX5 10 "WrongWay" "now" "LWrongWay$House;", .fieldLink RX5 76 "WrongWay$House" "every" "[I", .fieldLink RX5 79 "WrongWay$House" "at" "[I", .methodLink RX5 54 yX5_isWithin, .static yX5_isWithin, .initialized RX5, .code yX5_isWithin cX5_isWithin 3 (some .boolean), .methodLink RX5 58 yX5_refuse, .instanceMethod yX5_refuse, .selects RX5 yX5_refuse yX5_refuse, .code yX5_refuse cX5_refuse 3 (some .int), .fieldLink RX5 50 "WrongWay" "refusals" "[I", .methodLink RX5 82 yX1_setLine, .instanceMethod yX1_setLine, .selects RX1 yX1_setLine yX1_setLine, .initialized RX1, .code yX1_setLine cX1_setLine 4 none, .fieldLink RX1 16 "WrongWay$House" "every" "[I", .fieldLink RX1 19 "WrongWay$House" "at" "[I"] ++ wsX50 ++ wsX10)
def wsX5_type : List Cond := .code yX5_type cX5_type 2 (some .int) :: ([.fieldLink RX5 39 "WrongWay" "text" "LWrongWay$Text;", .fieldLink RX5 86 "WrongWay$Text" "length" "I", .methodLink RX5 54 yX5_isWithin, .static yX5_isWithin, .initialized RX5, .code yX5_isWithin cX5_isWithin 3 (some .boolean), .methodLink RX5 58 yX5_refuse, .instanceMethod yX5_refuse, .selects RX5 yX5_refuse yX5_refuse, .code yX5_refuse cX5_refuse 3 (some .int), .fieldLink RX5 50 "WrongWay" "refusals" "[I", .methodLink RX5 89 yX3_add, .instanceMethod yX3_add, .selects RX3 yX3_add yX3_add, .initialized RX3, .code yX3_add cX3_add 2 none, .fieldLink RX3 15 "WrongWay$Text" "length" "I", .fieldLink RX3 11 "WrongWay$Text" "bytes" "[B"] ++ wsX50 ++ wsX30)
def wsX5_clear : List Cond := .code yX5_clear cX5_clear 2 (some .int) :: ([.fieldLink RX5 39 "WrongWay" "text" "LWrongWay$Text;", .fieldLink RX5 86 "WrongWay$Text" "length" "I"] ++ wsX50 ++ wsX30)
def wsX5_read_r1 : List Cond := [Cond.fieldLink RX5 39 "WrongWay" "text" "LWrongWay$Text;", Cond.fieldLink RX5 16 "WrongWay" "draft" "LWrongWay$House;", Cond.fieldLink RX5 10 "WrongWay" "now" "LWrongWay$House;", Cond.methodLink RX5 92 yX3_readInto, Cond.instanceMethod yX3_readInto, Cond.selects RX3 yX3_readInto yX3_readInto, Cond.initialized RX3, Cond.code yX3_readInto cX3_readInto 3 (some .int), Cond.fieldLink RX3 19 "WrongWay$Text" "tokenEnd" "I", Cond.fieldLink RX3 29 "WrongWay$Text" "tokenStart" "I", Cond.fieldLink RX3 32 "WrongWay$Text" "token" "I", Cond.methodLink RX3 22 yX3_nextToken, Cond.instanceMethod yX3_nextToken, Cond.selects RX3 yX3_nextToken yX3_nextToken, Cond.code yX3_nextToken cX3_nextToken 2 none, Cond.fieldLink RX3 15 "WrongWay$Text" "length" "I", Cond.fieldLink RX3 11 "WrongWay$Text" "bytes" "[B", Cond.fieldLink RX3 50 "WrongWay$Text" "value" "I", Cond.methodLink RX3 97 yX3_isLetter, Cond.static yX3_isLetter, Cond.code yX3_isLetter cX3_isLetter 1 (some .boolean), Cond.methodLink RX3 101 yX3_endOfWord, Cond.instanceMethod yX3_endOfWord, Cond.selects RX3 yX3_endOfWord yX3_endOfWord]
def wsX5_read_r2 : List Cond := [Cond.code yX3_endOfWord cX3_endOfWord 3 (some .int), Cond.methodLink RX3 105 yX3_isFigure, Cond.static yX3_isFigure, Cond.code yX3_isFigure cX3_isFigure 1 (some .boolean), Cond.methodLink RX3 108 yX3_endOfNumber, Cond.instanceMethod yX3_endOfNumber, Cond.selects RX3 yX3_endOfNumber yX3_endOfNumber, Cond.code yX3_endOfNumber cX3_endOfNumber 3 (some .int), Cond.methodLink RX3 111 yX3_valueOf, Cond.instanceMethod yX3_valueOf, Cond.selects RX3 yX3_valueOf yX3_valueOf, Cond.code yX3_valueOf cX3_valueOf 5 (some .int), Cond.methodLink RX3 25 yX3_readHouse, Cond.instanceMethod yX3_readHouse, Cond.selects RX3 yX3_readHouse yX3_readHouse, Cond.code yX3_readHouse cX3_readHouse 2 (some .boolean), Cond.methodLink RX3 40 yX3_isWord, Cond.instanceMethod yX3_isWord, Cond.selects RX3 yX3_isWord yX3_isWord, Cond.code yX3_isWord cX3_isWord 3 (some .boolean), Cond.methodLink RX3 84 yJ0_length_8abf5, Cond.instanceMethod yJ0_length_8abf5, Cond.selects RJ0 yJ0_length_8abf5 yJ0_length_8abf5, Cond.initialized RJ0]
def wsX5_read_r3 : List Cond := [Cond.code yJ0_length_8abf5 cJ0_length_8abf5 1 (some .int), Cond.fieldLink RJ0 9 "java/lang/String" "value" "[B", Cond.methodLink RJ0 335 yJ0_coder_7d493, Cond.instanceMethod yJ0_coder_7d493, Cond.selects RJ0 yJ0_coder_7d493 yJ0_coder_7d493, Cond.code yJ0_coder_7d493 cJ0_coder_7d493 1 (some .byte), Cond.fieldLink RJ0 38 "java/lang/String" "COMPACT_STRINGS" "Z", Cond.fieldLink RJ0 15 "java/lang/String" "coder" "B", Cond.methodLink RX3 89 yJ0_charAt_5068e, Cond.instanceMethod yJ0_charAt_5068e, Cond.selects RJ0 yJ0_charAt_5068e yJ0_charAt_5068e, Cond.code yJ0_charAt_5068e cJ0_charAt_5068e 2 (some .char), Cond.methodLink RJ0 492 yJ0_isLatin1_aae02, Cond.instanceMethod yJ0_isLatin1_aae02, Cond.selects RJ0 yJ0_isLatin1_aae02 yJ0_isLatin1_aae02, Cond.code yJ0_isLatin1_aae02 cJ0_isLatin1_aae02 1 (some .boolean), Cond.methodLink RJ0 495 yJ1_charAt_3b067, Cond.static yJ1_charAt_3b067, Cond.initialized RJ1, Cond.code yJ1_charAt_3b067 cJ1_charAt_3b067 2 (some .char), Cond.methodLink RJ1 9 yJ0_checkIndex_df160, Cond.static yJ0_checkIndex_df160, Cond.code yJ0_checkIndex_df160 cJ0_checkIndex_df160 2 none, Cond.fieldLink RJ0 1053 "jdk/internal/util/Preconditions" "SIOOBE_FORMATTER" "Ljava/util/function/BiFunction;"]
def wsX5_read_r4 : List Cond := [Cond.methodLink RJ0 1059 yJ3_checkIndex_8e157, Cond.static yJ3_checkIndex_8e157, Cond.initialized RJ3, Cond.code yJ3_checkIndex_8e157 cJ3_checkIndex_8e157 3 (some .int), Cond.methodLink RJ0 498 yJ2_charAt_3b067, Cond.static yJ2_charAt_3b067, Cond.initialized RJ2, Cond.code yJ2_charAt_3b067 cJ2_charAt_3b067 2 (some .char), Cond.methodLink RJ2 67 yJ2_checkIndex_2214a, Cond.static yJ2_checkIndex_2214a, Cond.code yJ2_checkIndex_2214a cJ2_checkIndex_2214a 2 none, Cond.methodLink RJ2 48 yJ2_length_9d52b, Cond.static yJ2_length_9d52b, Cond.code yJ2_length_9d52b cJ2_length_9d52b 1 (some .int), Cond.methodLink RJ2 414 yJ0_checkIndex_df160, Cond.methodLink RJ2 71 yJ2_getChar_3b067, Cond.static yJ2_getChar_3b067, Cond.code yJ2_getChar_3b067 cJ2_getChar_3b067 2 (some .char), Cond.fieldLink RJ2 44 "java/lang/StringUTF16" "$assertionsDisabled" "Z", Cond.fieldLink RJ2 59 "java/lang/StringUTF16" "HI_BYTE_SHIFT" "I", Cond.fieldLink RJ2 63 "java/lang/StringUTF16" "LO_BYTE_SHIFT" "I", Cond.methodLink RX3 46 yX3_nextIsNumber, Cond.instanceMethod yX3_nextIsNumber, Cond.selects RX3 yX3_nextIsNumber yX3_nextIsNumber]
def wsX5_read_r5 : List Cond := [Cond.code yX3_nextIsNumber cX3_nextIsNumber 3 (some .boolean), Cond.static yX5_isWithin, Cond.initialized RX5, Cond.code yX5_isWithin cX5_isWithin 3 (some .boolean), Cond.methodLink RX3 53 yX1_build, Cond.instanceMethod yX1_build, Cond.selects RX1 yX1_build yX1_build, Cond.initialized RX1, Cond.code yX1_build cX1_build 2 none, Cond.fieldLink RX1 41 "WrongWay$House" "top" "I", Cond.fieldLink RX1 45 "WrongWay$House" "lifts" "I", Cond.fieldLink RX1 48 "WrongWay$House" "minute" "I", Cond.fieldLink RX1 51 "WrongWay$House" "noted" "I", Cond.fieldLink RX1 54 "WrongWay$House" "undos" "I", Cond.methodLink RX1 57 yX1_setLine, Cond.instanceMethod yX1_setLine, Cond.selects RX1 yX1_setLine yX1_setLine, Cond.code yX1_setLine cX1_setLine 4 none, Cond.fieldLink RX1 16 "WrongWay$House" "every" "[I", Cond.fieldLink RX1 19 "WrongWay$House" "at" "[I", Cond.methodLink RX3 57 yX3_nextIsSemicolon, Cond.instanceMethod yX3_nextIsSemicolon, Cond.selects RX3 yX3_nextIsSemicolon yX3_nextIsSemicolon, Cond.code yX3_nextIsSemicolon cX3_nextIsSemicolon 1 (some .boolean)]
def wsX5_read_r6 : List Cond := [Cond.methodLink RX3 35 yX3_readItem, Cond.instanceMethod yX3_readItem, Cond.selects RX3 yX3_readItem yX3_readItem, Cond.code yX3_readItem cX3_readItem 2 (some .boolean), Cond.fieldLink RX3 63 "WrongWay$House" "lifts" "I", Cond.methodLink RX3 66 yX3_readLift, Cond.instanceMethod yX3_readLift, Cond.selects RX3 yX3_readLift yX3_readLift, Cond.code yX3_readLift cX3_readLift 3 (some .boolean), Cond.methodLink RX3 76 yX1_addLift, Cond.instanceMethod yX1_addLift, Cond.selects RX1 yX1_addLift yX1_addLift, Cond.code yX1_addLift cX1_addLift 3 none, Cond.fieldLink RX1 9 "WrongWay$House" "kinds" "[I", Cond.fieldLink RX1 13 "WrongWay$House" "starts" "[I", Cond.methodLink RX3 71 yX3_readLine, Cond.instanceMethod yX3_readLine, Cond.selects RX3 yX3_readLine yX3_readLine, Cond.code yX3_readLine cX3_readLine 4 (some .boolean), Cond.methodLink RX3 80 yX1_setLine, Cond.methodLink RX5 96 yX1_copy, Cond.instanceMethod yX1_copy, Cond.selects RX1 yX1_copy yX1_copy, Cond.code yX1_copy cX1_copy 2 none]
def wsX5_read_r7 : List Cond := [Cond.methodLink RX1 61 arraycopyName, Cond.native arraycopyName, Cond.static arraycopyName, Cond.initialized "java/lang/System", Cond.fieldLink RX1 22 "WrongWay$House" "notedLifts" "[I", Cond.fieldLink RX1 25 "WrongWay$House" "notedFloors" "[I", Cond.fieldLink RX1 28 "WrongWay$House" "notedMinutes" "[I", Cond.fieldLink RX1 31 "WrongWay$House" "notedThere" "[I", Cond.fieldLink RX1 34 "WrongWay$House" "minutesBefore" "[I"]
def wsX5_read : List Cond := .code yX5_read cX5_read 2 (some .int) :: ((wsX5_read_r1 ++ (wsX5_read_r2 ++ (wsX5_read_r3 ++ (wsX5_read_r4 ++ (wsX5_read_r5 ++ (wsX5_read_r6 ++ wsX5_read_r7)))))) ++ wsX50 ++ wsX30 ++ wsX10)
def wsX5_passes_r1 : List Cond := [Cond.fieldLink RX5 10 "WrongWay" "now" "LWrongWay$House;", Cond.fieldLink RX5 99 "WrongWay$House" "minute" "I", Cond.methodLink RX5 102 Lib.Math.min.name, Cond.static Lib.Math.min.name, Cond.initialized "java/lang/Math", Cond.code Lib.Math.min.name Lib.Math.min.code 2 (some .int), Cond.methodLink RX5 54 yX5_isWithin, Cond.static yX5_isWithin, Cond.initialized RX5, Cond.code yX5_isWithin cX5_isWithin 3 (some .boolean), Cond.methodLink RX5 58 yX5_refuse, Cond.instanceMethod yX5_refuse, Cond.selects RX5 yX5_refuse yX5_refuse, Cond.code yX5_refuse cX5_refuse 3 (some .int), Cond.fieldLink RX5 50 "WrongWay" "refusals" "[I", Cond.methodLink RX5 108 yX1_goOn, Cond.instanceMethod yX1_goOn, Cond.selects RX1 yX1_goOn yX1_goOn, Cond.initialized RX1, Cond.code yX1_goOn cX1_goOn 2 none, Cond.fieldLink RX1 54 "WrongWay$House" "undos" "I", Cond.fieldLink RX1 34 "WrongWay$House" "minutesBefore" "[I", Cond.methodLink RX1 61 arraycopyName, Cond.native arraycopyName]
def wsX5_passes_r2 : List Cond := [Cond.static arraycopyName, Cond.initialized "java/lang/System", Cond.fieldLink RX1 48 "WrongWay$House" "minute" "I"]
def wsX5_passes : List Cond := .code yX5_passes cX5_passes 2 (some .int) :: ((wsX5_passes_r1 ++ wsX5_passes_r2) ++ wsX50 ++ wsX10)
def wsX5_undo : List Cond := .code yX5_undo cX5_undo 1 (some .int) :: ([.fieldLink RX5 10 "WrongWay" "now" "LWrongWay$House;", .fieldLink RX5 111 "WrongWay$House" "undos" "I", .fieldLink RX5 99 "WrongWay$House" "minute" "I", .methodLink RX5 58 yX5_refuse, .instanceMethod yX5_refuse, .selects RX5 yX5_refuse yX5_refuse, .initialized RX5, .code yX5_refuse cX5_refuse 3 (some .int), .fieldLink RX5 50 "WrongWay" "refusals" "[I", .methodLink RX5 54 yX5_isWithin, .static yX5_isWithin, .code yX5_isWithin cX5_isWithin 3 (some .boolean), .methodLink RX5 114 yX1_goBack, .instanceMethod yX1_goBack, .selects RX1 yX1_goBack yX1_goBack, .initialized RX1, .code yX1_goBack cX1_goBack 1 none, .fieldLink RX1 54 "WrongWay$House" "undos" "I", .fieldLink RX1 34 "WrongWay$House" "minutesBefore" "[I", .fieldLink RX1 48 "WrongWay$House" "minute" "I"] ++ wsX50 ++ wsX10)
def wsX5_of_r1 : List Cond := [Cond.fieldLink RX5 10 "WrongWay" "now" "LWrongWay$House;", Cond.fieldLink RX5 121 "WrongWay$House" "kinds" "[I", Cond.fieldLink RX5 32 "WrongWay" "watch" "LWrongWay$Watch;", Cond.fieldLink RX5 99 "WrongWay$House" "minute" "I", Cond.fieldLink RX5 127 "WrongWay$House" "starts" "[I", Cond.fieldLink RX5 130 "WrongWay$House" "top" "I", Cond.methodLink RX5 117 yX1_hasLift, Cond.instanceMethod yX1_hasLift, Cond.selects RX1 yX1_hasLift yX1_hasLift, Cond.initialized RX1, Cond.code yX1_hasLift cX1_hasLift 2 (some .boolean), Cond.fieldLink RX1 45 "WrongWay$House" "lifts" "I", Cond.methodLink RX5 54 yX5_isWithin, Cond.static yX5_isWithin, Cond.initialized RX5, Cond.code yX5_isWithin cX5_isWithin 3 (some .boolean), Cond.methodLink RX5 58 yX5_refuse, Cond.instanceMethod yX5_refuse, Cond.selects RX5 yX5_refuse yX5_refuse, Cond.code yX5_refuse cX5_refuse 3 (some .int), Cond.fieldLink RX5 50 "WrongWay" "refusals" "[I", Cond.methodLink RX5 124 yX4_floorOf, Cond.instanceMethod yX4_floorOf, Cond.selects RX4 yX4_floorOf yX4_floorOf]
def wsX5_of_r2 : List Cond := [Cond.initialized RX4, Cond.code yX4_floorOf cX4_floorOf 3 (some .int), Cond.fieldLink RX4 9 "WrongWay$Watch" "house" "LWrongWay$House;", Cond.fieldLink RX4 15 "WrongWay$House" "kinds" "[I", Cond.fieldLink RX4 21 "WrongWay$House" "top" "I", Cond.fieldLink RX4 25 "WrongWay$House" "starts" "[I", Cond.methodLink RX4 28 yX2_floorIn, Cond.static yX2_floorIn, Cond.initialized RX2, Cond.code yX2_floorIn cX2_floorIn 7 (some .int), Cond.fieldLink RX2 9 "WrongWay$Kinds" "PACE" "[I", Cond.fieldLink RX2 18 "WrongWay$Kinds" "STAND_ABOVE" "[I", Cond.methodLink RX2 25 Lib.Math.max.name, Cond.static Lib.Math.max.name, Cond.initialized "java/lang/Math", Cond.code Lib.Math.max.name Lib.Math.max.code 2 (some .int), Cond.methodLink RX2 30 Lib.Math.min.name, Cond.static Lib.Math.min.name, Cond.code Lib.Math.min.name Lib.Math.min.code 2 (some .int), Cond.methodLink RX2 21 yX2_round, Cond.static yX2_round, Cond.code yX2_round cX2_round 3 (some .int), Cond.fieldLink RX2 15 "WrongWay$Kinds" "REST_BELOW" "[I", Cond.methodLink RX5 133 yX2_round]
def wsX5_of_r3 : List Cond := [Cond.methodLink RX5 136 yX4_wayOf, Cond.instanceMethod yX4_wayOf, Cond.selects RX4 yX4_wayOf yX4_wayOf, Cond.code yX4_wayOf cX4_wayOf 8 (some .int), Cond.methodLink RX5 139 yX2_opens, Cond.static yX2_opens, Cond.code yX2_opens cX2_opens 3 (some .boolean)]
def wsX5_of : List Cond := .code yX5_of cX5_of 5 (some .int) :: ((wsX5_of_r1 ++ (wsX5_of_r2 ++ wsX5_of_r3)) ++ wsX50 ++ wsX10 ++ wsX40)
def wsX5_isMinute : List Cond := .code yX5_isMinute cX5_isMinute 1 (some .boolean) :: ([.methodLink RX5 54 yX5_isWithin, .static yX5_isWithin, .initialized RX5, .code yX5_isWithin cX5_isWithin 3 (some .boolean)])
def wsX5_where_r1 : List Cond := [Cond.fieldLink RX5 10 "WrongWay" "now" "LWrongWay$House;", Cond.fieldLink RX5 32 "WrongWay" "watch" "LWrongWay$Watch;", Cond.methodLink RX5 117 yX1_hasLift, Cond.instanceMethod yX1_hasLift, Cond.selects RX1 yX1_hasLift yX1_hasLift, Cond.initialized RX1, Cond.code yX1_hasLift cX1_hasLift 2 (some .boolean), Cond.fieldLink RX1 45 "WrongWay$House" "lifts" "I", Cond.methodLink RX5 142 yX5_isMinute, Cond.static yX5_isMinute, Cond.initialized RX5, Cond.code yX5_isMinute cX5_isMinute 1 (some .boolean), Cond.methodLink RX5 54 yX5_isWithin, Cond.static yX5_isWithin, Cond.code yX5_isWithin cX5_isWithin 3 (some .boolean), Cond.methodLink RX5 58 yX5_refuse, Cond.instanceMethod yX5_refuse, Cond.selects RX5 yX5_refuse yX5_refuse, Cond.code yX5_refuse cX5_refuse 3 (some .int), Cond.fieldLink RX5 50 "WrongWay" "refusals" "[I", Cond.methodLink RX5 124 yX4_floorOf, Cond.instanceMethod yX4_floorOf, Cond.selects RX4 yX4_floorOf yX4_floorOf, Cond.initialized RX4]
def wsX5_where_r2 : List Cond := [Cond.code yX4_floorOf cX4_floorOf 3 (some .int), Cond.fieldLink RX4 9 "WrongWay$Watch" "house" "LWrongWay$House;", Cond.fieldLink RX4 15 "WrongWay$House" "kinds" "[I", Cond.fieldLink RX4 21 "WrongWay$House" "top" "I", Cond.fieldLink RX4 25 "WrongWay$House" "starts" "[I", Cond.methodLink RX4 28 yX2_floorIn, Cond.static yX2_floorIn, Cond.initialized RX2, Cond.code yX2_floorIn cX2_floorIn 7 (some .int), Cond.fieldLink RX2 9 "WrongWay$Kinds" "PACE" "[I", Cond.fieldLink RX2 18 "WrongWay$Kinds" "STAND_ABOVE" "[I", Cond.methodLink RX2 25 Lib.Math.max.name, Cond.static Lib.Math.max.name, Cond.initialized "java/lang/Math", Cond.code Lib.Math.max.name Lib.Math.max.code 2 (some .int), Cond.methodLink RX2 30 Lib.Math.min.name, Cond.static Lib.Math.min.name, Cond.code Lib.Math.min.name Lib.Math.min.code 2 (some .int), Cond.methodLink RX2 21 yX2_round, Cond.static yX2_round, Cond.code yX2_round cX2_round 3 (some .int), Cond.fieldLink RX2 15 "WrongWay$Kinds" "REST_BELOW" "[I"]
def wsX5_where : List Cond := .code yX5_where cX5_where 3 (some .int) :: ((wsX5_where_r1 ++ wsX5_where_r2) ++ wsX50 ++ wsX10 ++ wsX40)
def wsX5_first_r1 : List Cond := [Cond.fieldLink RX5 10 "WrongWay" "now" "LWrongWay$House;", Cond.fieldLink RX5 32 "WrongWay" "watch" "LWrongWay$Watch;", Cond.methodLink RX5 145 yX1_hasFloor, Cond.instanceMethod yX1_hasFloor, Cond.selects RX1 yX1_hasFloor yX1_hasFloor, Cond.initialized RX1, Cond.code yX1_hasFloor cX1_hasFloor 2 (some .boolean), Cond.fieldLink RX1 41 "WrongWay$House" "top" "I", Cond.methodLink RX5 142 yX5_isMinute, Cond.static yX5_isMinute, Cond.initialized RX5, Cond.code yX5_isMinute cX5_isMinute 1 (some .boolean), Cond.methodLink RX5 54 yX5_isWithin, Cond.static yX5_isWithin, Cond.code yX5_isWithin cX5_isWithin 3 (some .boolean), Cond.methodLink RX5 58 yX5_refuse, Cond.instanceMethod yX5_refuse, Cond.selects RX5 yX5_refuse yX5_refuse, Cond.code yX5_refuse cX5_refuse 3 (some .int), Cond.fieldLink RX5 50 "WrongWay" "refusals" "[I", Cond.methodLink RX5 148 yX4_waitOn, Cond.instanceMethod yX4_waitOn, Cond.selects RX4 yX4_waitOn yX4_waitOn, Cond.initialized RX4]
def wsX5_first_r2 : List Cond := [Cond.code yX4_waitOn cX4_waitOn 5 (some .int), Cond.methodLink RX4 48 yX4_seenFrom, Cond.instanceMethod yX4_seenFrom, Cond.selects RX4 yX4_seenFrom yX4_seenFrom, Cond.code yX4_seenFrom cX4_seenFrom 5 (some .int), Cond.fieldLink RX4 9 "WrongWay$Watch" "house" "LWrongWay$House;", Cond.fieldLink RX4 38 "WrongWay$House" "lifts" "I", Cond.methodLink RX4 41 yX4_isSeen, Cond.instanceMethod yX4_isSeen, Cond.selects RX4 yX4_isSeen yX4_isSeen, Cond.code yX4_isSeen cX4_isSeen 5 (some .boolean), Cond.fieldLink RX4 15 "WrongWay$House" "kinds" "[I", Cond.fieldLink RX4 21 "WrongWay$House" "top" "I", Cond.fieldLink RX4 25 "WrongWay$House" "starts" "[I", Cond.methodLink RX4 34 yX2_opens, Cond.static yX2_opens, Cond.initialized RX2, Cond.code yX2_opens cX2_opens 3 (some .boolean), Cond.methodLink RX4 28 yX2_floorIn, Cond.static yX2_floorIn, Cond.code yX2_floorIn cX2_floorIn 7 (some .int), Cond.fieldLink RX2 9 "WrongWay$Kinds" "PACE" "[I", Cond.fieldLink RX2 18 "WrongWay$Kinds" "STAND_ABOVE" "[I", Cond.methodLink RX2 25 Lib.Math.max.name]
def wsX5_first_r3 : List Cond := [Cond.static Lib.Math.max.name, Cond.initialized "java/lang/Math", Cond.code Lib.Math.max.name Lib.Math.max.code 2 (some .int), Cond.methodLink RX2 30 Lib.Math.min.name, Cond.static Lib.Math.min.name, Cond.code Lib.Math.min.name Lib.Math.min.code 2 (some .int), Cond.methodLink RX2 21 yX2_round, Cond.static yX2_round, Cond.code yX2_round cX2_round 3 (some .int), Cond.fieldLink RX2 15 "WrongWay$Kinds" "REST_BELOW" "[I", Cond.methodLink RX4 44 yX4_wayOf, Cond.instanceMethod yX4_wayOf, Cond.selects RX4 yX4_wayOf yX4_wayOf, Cond.code yX4_wayOf cX4_wayOf 8 (some .int), Cond.methodLink RX5 152 yX4_seenFrom, Cond.methodLink RX5 155 yX4_wayOfFirst, Cond.instanceMethod yX4_wayOfFirst, Cond.selects RX4 yX4_wayOfFirst yX4_wayOfFirst, Cond.code yX4_wayOfFirst cX4_wayOfFirst 5 (some .int), Cond.methodLink RX4 52 yX4_waitOn]
def wsX5_first : List Cond := .code yX5_first cX5_first 5 (some .int) :: ((wsX5_first_r1 ++ (wsX5_first_r2 ++ wsX5_first_r3)) ++ wsX50 ++ wsX10 ++ wsX40)
def wsX5_setMean : List Cond := .code yX5_setMean cX5_setMean 3 (some .int) :: ([.fieldLink RX5 46 "WrongWay" "fraction" "LWrongWay$Fraction;", .methodLink RX5 58 yX5_refuse, .instanceMethod yX5_refuse, .selects RX5 yX5_refuse yX5_refuse, .initialized RX5, .code yX5_refuse cX5_refuse 3 (some .int), .fieldLink RX5 50 "WrongWay" "refusals" "[I", .methodLink RX5 54 yX5_isWithin, .static yX5_isWithin, .code yX5_isWithin cX5_isWithin 3 (some .boolean), .methodLink RX5 176 yX0_set, .instanceMethod yX0_set, .selects RX0 yX0_set yX0_set, .initialized RX0, .code yX0_set cX0_set 7 none, .fieldLink RX0 7 "WrongWay$Fraction" "above" "J", .fieldLink RX0 13 "WrongWay$Fraction" "below" "J", .methodLink RX0 16 yX0_commonDivisor, .static yX0_commonDivisor, .code yX0_commonDivisor cX0_commonDivisor 11 (some .long)] ++ wsX50 ++ wsX00)
def wsX5_chanceOfUp_r1 : List Cond := [Cond.fieldLink RX5 32 "WrongWay" "watch" "LWrongWay$Watch;", Cond.methodLink RX5 155 yX4_wayOfFirst, Cond.instanceMethod yX4_wayOfFirst, Cond.selects RX4 yX4_wayOfFirst yX4_wayOfFirst, Cond.initialized RX4, Cond.code yX4_wayOfFirst cX4_wayOfFirst 5 (some .int), Cond.methodLink RX4 52 yX4_waitOn, Cond.instanceMethod yX4_waitOn, Cond.selects RX4 yX4_waitOn yX4_waitOn, Cond.code yX4_waitOn cX4_waitOn 5 (some .int), Cond.methodLink RX4 48 yX4_seenFrom, Cond.instanceMethod yX4_seenFrom, Cond.selects RX4 yX4_seenFrom yX4_seenFrom, Cond.code yX4_seenFrom cX4_seenFrom 5 (some .int), Cond.fieldLink RX4 9 "WrongWay$Watch" "house" "LWrongWay$House;", Cond.fieldLink RX4 38 "WrongWay$House" "lifts" "I", Cond.methodLink RX4 41 yX4_isSeen, Cond.instanceMethod yX4_isSeen, Cond.selects RX4 yX4_isSeen yX4_isSeen, Cond.code yX4_isSeen cX4_isSeen 5 (some .boolean), Cond.fieldLink RX4 15 "WrongWay$House" "kinds" "[I", Cond.fieldLink RX4 21 "WrongWay$House" "top" "I", Cond.fieldLink RX4 25 "WrongWay$House" "starts" "[I", Cond.methodLink RX4 34 yX2_opens]
def wsX5_chanceOfUp_r2 : List Cond := [Cond.static yX2_opens, Cond.initialized RX2, Cond.code yX2_opens cX2_opens 3 (some .boolean), Cond.methodLink RX4 28 yX2_floorIn, Cond.static yX2_floorIn, Cond.code yX2_floorIn cX2_floorIn 7 (some .int), Cond.fieldLink RX2 9 "WrongWay$Kinds" "PACE" "[I", Cond.fieldLink RX2 18 "WrongWay$Kinds" "STAND_ABOVE" "[I", Cond.methodLink RX2 25 Lib.Math.max.name, Cond.static Lib.Math.max.name, Cond.initialized "java/lang/Math", Cond.code Lib.Math.max.name Lib.Math.max.code 2 (some .int), Cond.methodLink RX2 30 Lib.Math.min.name, Cond.static Lib.Math.min.name, Cond.code Lib.Math.min.name Lib.Math.min.code 2 (some .int), Cond.methodLink RX2 21 yX2_round, Cond.static yX2_round, Cond.code yX2_round cX2_round 3 (some .int), Cond.fieldLink RX2 15 "WrongWay$Kinds" "REST_BELOW" "[I", Cond.methodLink RX4 44 yX4_wayOf, Cond.instanceMethod yX4_wayOf, Cond.selects RX4 yX4_wayOf yX4_wayOf, Cond.code yX4_wayOf cX4_wayOf 8 (some .int), Cond.methodLink RX5 230 yX5_setMean]
def wsX5_chanceOfUp_r3 : List Cond := [Cond.instanceMethod yX5_setMean, Cond.selects RX5 yX5_setMean yX5_setMean, Cond.initialized RX5, Cond.code yX5_setMean cX5_setMean 3 (some .int), Cond.fieldLink RX5 46 "WrongWay" "fraction" "LWrongWay$Fraction;", Cond.methodLink RX5 58 yX5_refuse, Cond.instanceMethod yX5_refuse, Cond.selects RX5 yX5_refuse yX5_refuse, Cond.code yX5_refuse cX5_refuse 3 (some .int), Cond.fieldLink RX5 50 "WrongWay" "refusals" "[I", Cond.methodLink RX5 54 yX5_isWithin, Cond.static yX5_isWithin, Cond.code yX5_isWithin cX5_isWithin 3 (some .boolean), Cond.methodLink RX5 176 yX0_set, Cond.instanceMethod yX0_set, Cond.selects RX0 yX0_set yX0_set, Cond.initialized RX0, Cond.code yX0_set cX0_set 7 none, Cond.fieldLink RX0 7 "WrongWay$Fraction" "above" "J", Cond.fieldLink RX0 13 "WrongWay$Fraction" "below" "J", Cond.methodLink RX0 16 yX0_commonDivisor, Cond.static yX0_commonDivisor, Cond.code yX0_commonDivisor cX0_commonDivisor 11 (some .long)]
def wsX5_chanceOfUp : List Cond := .code yX5_chanceOfUp cX5_chanceOfUp 6 (some .int) :: ((wsX5_chanceOfUp_r1 ++ (wsX5_chanceOfUp_r2 ++ wsX5_chanceOfUp_r3)) ++ wsX50 ++ wsX40 ++ wsX10 ++ wsX00)
def wsX5_meanWait_r1 : List Cond := [Cond.fieldLink RX5 32 "WrongWay" "watch" "LWrongWay$Watch;", Cond.methodLink RX5 148 yX4_waitOn, Cond.instanceMethod yX4_waitOn, Cond.selects RX4 yX4_waitOn yX4_waitOn, Cond.initialized RX4, Cond.code yX4_waitOn cX4_waitOn 5 (some .int), Cond.methodLink RX4 48 yX4_seenFrom, Cond.instanceMethod yX4_seenFrom, Cond.selects RX4 yX4_seenFrom yX4_seenFrom, Cond.code yX4_seenFrom cX4_seenFrom 5 (some .int), Cond.fieldLink RX4 9 "WrongWay$Watch" "house" "LWrongWay$House;", Cond.fieldLink RX4 38 "WrongWay$House" "lifts" "I", Cond.methodLink RX4 41 yX4_isSeen, Cond.instanceMethod yX4_isSeen, Cond.selects RX4 yX4_isSeen yX4_isSeen, Cond.code yX4_isSeen cX4_isSeen 5 (some .boolean), Cond.fieldLink RX4 15 "WrongWay$House" "kinds" "[I", Cond.fieldLink RX4 21 "WrongWay$House" "top" "I", Cond.fieldLink RX4 25 "WrongWay$House" "starts" "[I", Cond.methodLink RX4 34 yX2_opens, Cond.static yX2_opens, Cond.initialized RX2, Cond.code yX2_opens cX2_opens 3 (some .boolean), Cond.methodLink RX4 28 yX2_floorIn]
def wsX5_meanWait_r2 : List Cond := [Cond.static yX2_floorIn, Cond.code yX2_floorIn cX2_floorIn 7 (some .int), Cond.fieldLink RX2 9 "WrongWay$Kinds" "PACE" "[I", Cond.fieldLink RX2 18 "WrongWay$Kinds" "STAND_ABOVE" "[I", Cond.methodLink RX2 25 Lib.Math.max.name, Cond.static Lib.Math.max.name, Cond.initialized "java/lang/Math", Cond.code Lib.Math.max.name Lib.Math.max.code 2 (some .int), Cond.methodLink RX2 30 Lib.Math.min.name, Cond.static Lib.Math.min.name, Cond.code Lib.Math.min.name Lib.Math.min.code 2 (some .int), Cond.methodLink RX2 21 yX2_round, Cond.static yX2_round, Cond.code yX2_round cX2_round 3 (some .int), Cond.fieldLink RX2 15 "WrongWay$Kinds" "REST_BELOW" "[I", Cond.methodLink RX4 44 yX4_wayOf, Cond.instanceMethod yX4_wayOf, Cond.selects RX4 yX4_wayOf yX4_wayOf, Cond.code yX4_wayOf cX4_wayOf 8 (some .int), Cond.methodLink RX5 230 yX5_setMean, Cond.instanceMethod yX5_setMean, Cond.selects RX5 yX5_setMean yX5_setMean, Cond.initialized RX5, Cond.code yX5_setMean cX5_setMean 3 (some .int)]
def wsX5_meanWait_r3 : List Cond := [Cond.fieldLink RX5 46 "WrongWay" "fraction" "LWrongWay$Fraction;", Cond.methodLink RX5 58 yX5_refuse, Cond.instanceMethod yX5_refuse, Cond.selects RX5 yX5_refuse yX5_refuse, Cond.code yX5_refuse cX5_refuse 3 (some .int), Cond.fieldLink RX5 50 "WrongWay" "refusals" "[I", Cond.methodLink RX5 54 yX5_isWithin, Cond.static yX5_isWithin, Cond.code yX5_isWithin cX5_isWithin 3 (some .boolean), Cond.methodLink RX5 176 yX0_set, Cond.instanceMethod yX0_set, Cond.selects RX0 yX0_set yX0_set, Cond.initialized RX0, Cond.code yX0_set cX0_set 7 none, Cond.fieldLink RX0 7 "WrongWay$Fraction" "above" "J", Cond.fieldLink RX0 13 "WrongWay$Fraction" "below" "J", Cond.methodLink RX0 16 yX0_commonDivisor, Cond.static yX0_commonDivisor, Cond.code yX0_commonDivisor cX0_commonDivisor 11 (some .long)]
def wsX5_meanWait : List Cond := .code yX5_meanWait cX5_meanWait 7 (some .int) :: ((wsX5_meanWait_r1 ++ (wsX5_meanWait_r2 ++ wsX5_meanWait_r3)) ++ wsX50 ++ wsX40 ++ wsX10 ++ wsX00)
def wsX5_often_r1 : List Cond := [Cond.fieldLink RX5 10 "WrongWay" "now" "LWrongWay$House;", Cond.methodLink RX5 145 yX1_hasFloor, Cond.instanceMethod yX1_hasFloor, Cond.selects RX1 yX1_hasFloor yX1_hasFloor, Cond.initialized RX1, Cond.code yX1_hasFloor cX1_hasFloor 2 (some .boolean), Cond.fieldLink RX1 41 "WrongWay$House" "top" "I", Cond.methodLink RX5 54 yX5_isWithin, Cond.static yX5_isWithin, Cond.initialized RX5, Cond.code yX5_isWithin cX5_isWithin 3 (some .boolean), Cond.methodLink RX5 58 yX5_refuse, Cond.instanceMethod yX5_refuse, Cond.selects RX5 yX5_refuse yX5_refuse, Cond.code yX5_refuse cX5_refuse 3 (some .int), Cond.fieldLink RX5 50 "WrongWay" "refusals" "[I", Cond.methodLink RX5 158 yX5_chanceOfUp, Cond.instanceMethod yX5_chanceOfUp, Cond.selects RX5 yX5_chanceOfUp yX5_chanceOfUp, Cond.code yX5_chanceOfUp cX5_chanceOfUp 6 (some .int), Cond.fieldLink RX5 32 "WrongWay" "watch" "LWrongWay$Watch;", Cond.methodLink RX5 155 yX4_wayOfFirst, Cond.instanceMethod yX4_wayOfFirst, Cond.selects RX4 yX4_wayOfFirst yX4_wayOfFirst]
def wsX5_often_r2 : List Cond := [Cond.initialized RX4, Cond.code yX4_wayOfFirst cX4_wayOfFirst 5 (some .int), Cond.methodLink RX4 52 yX4_waitOn, Cond.instanceMethod yX4_waitOn, Cond.selects RX4 yX4_waitOn yX4_waitOn, Cond.code yX4_waitOn cX4_waitOn 5 (some .int), Cond.methodLink RX4 48 yX4_seenFrom, Cond.instanceMethod yX4_seenFrom, Cond.selects RX4 yX4_seenFrom yX4_seenFrom, Cond.code yX4_seenFrom cX4_seenFrom 5 (some .int), Cond.fieldLink RX4 9 "WrongWay$Watch" "house" "LWrongWay$House;", Cond.fieldLink RX4 38 "WrongWay$House" "lifts" "I", Cond.methodLink RX4 41 yX4_isSeen, Cond.instanceMethod yX4_isSeen, Cond.selects RX4 yX4_isSeen yX4_isSeen, Cond.code yX4_isSeen cX4_isSeen 5 (some .boolean), Cond.fieldLink RX4 15 "WrongWay$House" "kinds" "[I", Cond.fieldLink RX4 21 "WrongWay$House" "top" "I", Cond.fieldLink RX4 25 "WrongWay$House" "starts" "[I", Cond.methodLink RX4 34 yX2_opens, Cond.static yX2_opens, Cond.initialized RX2, Cond.code yX2_opens cX2_opens 3 (some .boolean), Cond.methodLink RX4 28 yX2_floorIn]
def wsX5_often_r3 : List Cond := [Cond.static yX2_floorIn, Cond.code yX2_floorIn cX2_floorIn 7 (some .int), Cond.fieldLink RX2 9 "WrongWay$Kinds" "PACE" "[I", Cond.fieldLink RX2 18 "WrongWay$Kinds" "STAND_ABOVE" "[I", Cond.methodLink RX2 25 Lib.Math.max.name, Cond.static Lib.Math.max.name, Cond.initialized "java/lang/Math", Cond.code Lib.Math.max.name Lib.Math.max.code 2 (some .int), Cond.methodLink RX2 30 Lib.Math.min.name, Cond.static Lib.Math.min.name, Cond.code Lib.Math.min.name Lib.Math.min.code 2 (some .int), Cond.methodLink RX2 21 yX2_round, Cond.static yX2_round, Cond.code yX2_round cX2_round 3 (some .int), Cond.fieldLink RX2 15 "WrongWay$Kinds" "REST_BELOW" "[I", Cond.methodLink RX4 44 yX4_wayOf, Cond.instanceMethod yX4_wayOf, Cond.selects RX4 yX4_wayOf yX4_wayOf, Cond.code yX4_wayOf cX4_wayOf 8 (some .int), Cond.methodLink RX5 230 yX5_setMean, Cond.instanceMethod yX5_setMean, Cond.selects RX5 yX5_setMean yX5_setMean, Cond.code yX5_setMean cX5_setMean 3 (some .int), Cond.fieldLink RX5 46 "WrongWay" "fraction" "LWrongWay$Fraction;"]
def wsX5_often_r4 : List Cond := [Cond.methodLink RX5 176 yX0_set, Cond.instanceMethod yX0_set, Cond.selects RX0 yX0_set yX0_set, Cond.initialized RX0, Cond.code yX0_set cX0_set 7 none, Cond.fieldLink RX0 7 "WrongWay$Fraction" "above" "J", Cond.fieldLink RX0 13 "WrongWay$Fraction" "below" "J", Cond.methodLink RX0 16 yX0_commonDivisor, Cond.static yX0_commonDivisor, Cond.code yX0_commonDivisor cX0_commonDivisor 11 (some .long), Cond.methodLink RX5 161 yX5_meanWait, Cond.instanceMethod yX5_meanWait, Cond.selects RX5 yX5_meanWait yX5_meanWait, Cond.code yX5_meanWait cX5_meanWait 7 (some .int), Cond.methodLink RX5 148 yX4_waitOn]
def wsX5_often : List Cond := .code yX5_often cX5_often 3 (some .int) :: ((wsX5_often_r1 ++ (wsX5_often_r2 ++ (wsX5_often_r3 ++ wsX5_often_r4))) ++ wsX50 ++ wsX10 ++ wsX40 ++ wsX00)
def wsX5_own_r1 : List Cond := [Cond.fieldLink RX5 10 "WrongWay" "now" "LWrongWay$House;", Cond.methodLink RX5 145 yX1_hasFloor, Cond.instanceMethod yX1_hasFloor, Cond.selects RX1 yX1_hasFloor yX1_hasFloor, Cond.initialized RX1, Cond.code yX1_hasFloor cX1_hasFloor 2 (some .boolean), Cond.fieldLink RX1 41 "WrongWay$House" "top" "I", Cond.methodLink RX5 54 yX5_isWithin, Cond.static yX5_isWithin, Cond.initialized RX5, Cond.code yX5_isWithin cX5_isWithin 3 (some .boolean), Cond.methodLink RX5 58 yX5_refuse, Cond.instanceMethod yX5_refuse, Cond.selects RX5 yX5_refuse yX5_refuse, Cond.code yX5_refuse cX5_refuse 3 (some .int), Cond.fieldLink RX5 50 "WrongWay" "refusals" "[I", Cond.methodLink RX5 161 yX5_meanWait, Cond.instanceMethod yX5_meanWait, Cond.selects RX5 yX5_meanWait yX5_meanWait, Cond.code yX5_meanWait cX5_meanWait 7 (some .int), Cond.fieldLink RX5 32 "WrongWay" "watch" "LWrongWay$Watch;", Cond.methodLink RX5 148 yX4_waitOn, Cond.instanceMethod yX4_waitOn, Cond.selects RX4 yX4_waitOn yX4_waitOn]
def wsX5_own_r2 : List Cond := [Cond.initialized RX4, Cond.code yX4_waitOn cX4_waitOn 5 (some .int), Cond.methodLink RX4 48 yX4_seenFrom, Cond.instanceMethod yX4_seenFrom, Cond.selects RX4 yX4_seenFrom yX4_seenFrom, Cond.code yX4_seenFrom cX4_seenFrom 5 (some .int), Cond.fieldLink RX4 9 "WrongWay$Watch" "house" "LWrongWay$House;", Cond.fieldLink RX4 38 "WrongWay$House" "lifts" "I", Cond.methodLink RX4 41 yX4_isSeen, Cond.instanceMethod yX4_isSeen, Cond.selects RX4 yX4_isSeen yX4_isSeen, Cond.code yX4_isSeen cX4_isSeen 5 (some .boolean), Cond.fieldLink RX4 15 "WrongWay$House" "kinds" "[I", Cond.fieldLink RX4 21 "WrongWay$House" "top" "I", Cond.fieldLink RX4 25 "WrongWay$House" "starts" "[I", Cond.methodLink RX4 34 yX2_opens, Cond.static yX2_opens, Cond.initialized RX2, Cond.code yX2_opens cX2_opens 3 (some .boolean), Cond.methodLink RX4 28 yX2_floorIn, Cond.static yX2_floorIn, Cond.code yX2_floorIn cX2_floorIn 7 (some .int), Cond.fieldLink RX2 9 "WrongWay$Kinds" "PACE" "[I", Cond.fieldLink RX2 18 "WrongWay$Kinds" "STAND_ABOVE" "[I"]
def wsX5_own_r3 : List Cond := [Cond.methodLink RX2 25 Lib.Math.max.name, Cond.static Lib.Math.max.name, Cond.initialized "java/lang/Math", Cond.code Lib.Math.max.name Lib.Math.max.code 2 (some .int), Cond.methodLink RX2 30 Lib.Math.min.name, Cond.static Lib.Math.min.name, Cond.code Lib.Math.min.name Lib.Math.min.code 2 (some .int), Cond.methodLink RX2 21 yX2_round, Cond.static yX2_round, Cond.code yX2_round cX2_round 3 (some .int), Cond.fieldLink RX2 15 "WrongWay$Kinds" "REST_BELOW" "[I", Cond.methodLink RX4 44 yX4_wayOf, Cond.instanceMethod yX4_wayOf, Cond.selects RX4 yX4_wayOf yX4_wayOf, Cond.code yX4_wayOf cX4_wayOf 8 (some .int), Cond.methodLink RX5 230 yX5_setMean, Cond.instanceMethod yX5_setMean, Cond.selects RX5 yX5_setMean yX5_setMean, Cond.code yX5_setMean cX5_setMean 3 (some .int), Cond.fieldLink RX5 46 "WrongWay" "fraction" "LWrongWay$Fraction;", Cond.methodLink RX5 176 yX0_set, Cond.instanceMethod yX0_set, Cond.selects RX0 yX0_set yX0_set, Cond.initialized RX0]
def wsX5_own_r4 : List Cond := [Cond.code yX0_set cX0_set 7 none, Cond.fieldLink RX0 7 "WrongWay$Fraction" "above" "J", Cond.fieldLink RX0 13 "WrongWay$Fraction" "below" "J", Cond.methodLink RX0 16 yX0_commonDivisor, Cond.static yX0_commonDivisor, Cond.code yX0_commonDivisor cX0_commonDivisor 11 (some .long)]
def wsX5_own : List Cond := .code yX5_own cX5_own 3 (some .int) :: ((wsX5_own_r1 ++ (wsX5_own_r2 ++ (wsX5_own_r3 ++ wsX5_own_r4))) ++ wsX50 ++ wsX10 ++ wsX40 ++ wsX00)
def wsX5_ride_r1 : List Cond := [Cond.fieldLink RX5 10 "WrongWay" "now" "LWrongWay$House;", Cond.fieldLink RX5 32 "WrongWay" "watch" "LWrongWay$Watch;", Cond.methodLink RX5 145 yX1_hasFloor, Cond.instanceMethod yX1_hasFloor, Cond.selects RX1 yX1_hasFloor yX1_hasFloor, Cond.initialized RX1, Cond.code yX1_hasFloor cX1_hasFloor 2 (some .boolean), Cond.fieldLink RX1 41 "WrongWay$House" "top" "I", Cond.methodLink RX5 142 yX5_isMinute, Cond.static yX5_isMinute, Cond.initialized RX5, Cond.code yX5_isMinute cX5_isMinute 1 (some .boolean), Cond.methodLink RX5 54 yX5_isWithin, Cond.static yX5_isWithin, Cond.code yX5_isWithin cX5_isWithin 3 (some .boolean), Cond.methodLink RX5 58 yX5_refuse, Cond.instanceMethod yX5_refuse, Cond.selects RX5 yX5_refuse yX5_refuse, Cond.code yX5_refuse cX5_refuse 3 (some .int), Cond.fieldLink RX5 50 "WrongWay" "refusals" "[I", Cond.methodLink RX5 164 yX4_rideTime, Cond.instanceMethod yX4_rideTime, Cond.selects RX4 yX4_rideTime yX4_rideTime, Cond.initialized RX4]
def wsX5_ride_r2 : List Cond := [Cond.code yX4_rideTime cX4_rideTime 8 (some .int), Cond.methodLink RX4 52 yX4_waitOn, Cond.instanceMethod yX4_waitOn, Cond.selects RX4 yX4_waitOn yX4_waitOn, Cond.code yX4_waitOn cX4_waitOn 5 (some .int), Cond.methodLink RX4 48 yX4_seenFrom, Cond.instanceMethod yX4_seenFrom, Cond.selects RX4 yX4_seenFrom yX4_seenFrom, Cond.code yX4_seenFrom cX4_seenFrom 5 (some .int), Cond.fieldLink RX4 9 "WrongWay$Watch" "house" "LWrongWay$House;", Cond.fieldLink RX4 38 "WrongWay$House" "lifts" "I", Cond.methodLink RX4 41 yX4_isSeen, Cond.instanceMethod yX4_isSeen, Cond.selects RX4 yX4_isSeen yX4_isSeen, Cond.code yX4_isSeen cX4_isSeen 5 (some .boolean), Cond.fieldLink RX4 15 "WrongWay$House" "kinds" "[I", Cond.fieldLink RX4 21 "WrongWay$House" "top" "I", Cond.fieldLink RX4 25 "WrongWay$House" "starts" "[I", Cond.methodLink RX4 34 yX2_opens, Cond.static yX2_opens, Cond.initialized RX2, Cond.code yX2_opens cX2_opens 3 (some .boolean), Cond.methodLink RX4 28 yX2_floorIn, Cond.static yX2_floorIn]
def wsX5_ride_r3 : List Cond := [Cond.code yX2_floorIn cX2_floorIn 7 (some .int), Cond.fieldLink RX2 9 "WrongWay$Kinds" "PACE" "[I", Cond.fieldLink RX2 18 "WrongWay$Kinds" "STAND_ABOVE" "[I", Cond.methodLink RX2 25 Lib.Math.max.name, Cond.static Lib.Math.max.name, Cond.initialized "java/lang/Math", Cond.code Lib.Math.max.name Lib.Math.max.code 2 (some .int), Cond.methodLink RX2 30 Lib.Math.min.name, Cond.static Lib.Math.min.name, Cond.code Lib.Math.min.name Lib.Math.min.code 2 (some .int), Cond.methodLink RX2 21 yX2_round, Cond.static yX2_round, Cond.code yX2_round cX2_round 3 (some .int), Cond.fieldLink RX2 15 "WrongWay$Kinds" "REST_BELOW" "[I", Cond.methodLink RX4 44 yX4_wayOf, Cond.instanceMethod yX4_wayOf, Cond.selects RX4 yX4_wayOf yX4_wayOf, Cond.code yX4_wayOf cX4_wayOf 8 (some .int), Cond.methodLink RX4 55 yX4_waitForLift, Cond.instanceMethod yX4_waitForLift, Cond.selects RX4 yX4_waitForLift yX4_waitForLift, Cond.code yX4_waitForLift cX4_waitForLift 5 (some .int)]
def wsX5_ride : List Cond := .code yX5_ride cX5_ride 6 (some .int) :: ((wsX5_ride_r1 ++ (wsX5_ride_r2 ++ wsX5_ride_r3)) ++ wsX50 ++ wsX10 ++ wsX40)
def wsX5_walk_r1 : List Cond := [Cond.fieldLink RX5 10 "WrongWay" "now" "LWrongWay$House;", Cond.methodLink RX5 168 Lib.Math.abs.name, Cond.static Lib.Math.abs.name, Cond.initialized "java/lang/Math", Cond.code Lib.Math.abs.name Lib.Math.abs.code 1 (some .int), Cond.fieldLink RX5 130 "WrongWay$House" "top" "I", Cond.fieldLink RX5 32 "WrongWay" "watch" "LWrongWay$Watch;", Cond.methodLink RX5 145 yX1_hasFloor, Cond.instanceMethod yX1_hasFloor, Cond.selects RX1 yX1_hasFloor yX1_hasFloor, Cond.initialized RX1, Cond.code yX1_hasFloor cX1_hasFloor 2 (some .boolean), Cond.fieldLink RX1 41 "WrongWay$House" "top" "I", Cond.methodLink RX5 142 yX5_isMinute, Cond.static yX5_isMinute, Cond.initialized RX5, Cond.code yX5_isMinute cX5_isMinute 1 (some .boolean), Cond.methodLink RX5 54 yX5_isWithin, Cond.static yX5_isWithin, Cond.code yX5_isWithin cX5_isWithin 3 (some .boolean), Cond.methodLink RX5 58 yX5_refuse, Cond.instanceMethod yX5_refuse, Cond.selects RX5 yX5_refuse yX5_refuse, Cond.code yX5_refuse cX5_refuse 3 (some .int)]
def wsX5_walk_r2 : List Cond := [Cond.fieldLink RX5 50 "WrongWay" "refusals" "[I", Cond.methodLink RX5 164 yX4_rideTime, Cond.instanceMethod yX4_rideTime, Cond.selects RX4 yX4_rideTime yX4_rideTime, Cond.initialized RX4, Cond.code yX4_rideTime cX4_rideTime 8 (some .int), Cond.methodLink RX4 52 yX4_waitOn, Cond.instanceMethod yX4_waitOn, Cond.selects RX4 yX4_waitOn yX4_waitOn, Cond.code yX4_waitOn cX4_waitOn 5 (some .int), Cond.methodLink RX4 48 yX4_seenFrom, Cond.instanceMethod yX4_seenFrom, Cond.selects RX4 yX4_seenFrom yX4_seenFrom, Cond.code yX4_seenFrom cX4_seenFrom 5 (some .int), Cond.fieldLink RX4 9 "WrongWay$Watch" "house" "LWrongWay$House;", Cond.fieldLink RX4 38 "WrongWay$House" "lifts" "I", Cond.methodLink RX4 41 yX4_isSeen, Cond.instanceMethod yX4_isSeen, Cond.selects RX4 yX4_isSeen yX4_isSeen, Cond.code yX4_isSeen cX4_isSeen 5 (some .boolean), Cond.fieldLink RX4 15 "WrongWay$House" "kinds" "[I", Cond.fieldLink RX4 21 "WrongWay$House" "top" "I", Cond.fieldLink RX4 25 "WrongWay$House" "starts" "[I", Cond.methodLink RX4 34 yX2_opens]
def wsX5_walk_r3 : List Cond := [Cond.static yX2_opens, Cond.initialized RX2, Cond.code yX2_opens cX2_opens 3 (some .boolean), Cond.methodLink RX4 28 yX2_floorIn, Cond.static yX2_floorIn, Cond.code yX2_floorIn cX2_floorIn 7 (some .int), Cond.fieldLink RX2 9 "WrongWay$Kinds" "PACE" "[I", Cond.fieldLink RX2 18 "WrongWay$Kinds" "STAND_ABOVE" "[I", Cond.methodLink RX2 25 Lib.Math.max.name, Cond.static Lib.Math.max.name, Cond.code Lib.Math.max.name Lib.Math.max.code 2 (some .int), Cond.methodLink RX2 30 Lib.Math.min.name, Cond.static Lib.Math.min.name, Cond.code Lib.Math.min.name Lib.Math.min.code 2 (some .int), Cond.methodLink RX2 21 yX2_round, Cond.static yX2_round, Cond.code yX2_round cX2_round 3 (some .int), Cond.fieldLink RX2 15 "WrongWay$Kinds" "REST_BELOW" "[I", Cond.methodLink RX4 44 yX4_wayOf, Cond.instanceMethod yX4_wayOf, Cond.selects RX4 yX4_wayOf yX4_wayOf, Cond.code yX4_wayOf cX4_wayOf 8 (some .int), Cond.methodLink RX4 55 yX4_waitForLift, Cond.instanceMethod yX4_waitForLift]
def wsX5_walk_r4 : List Cond := [Cond.selects RX4 yX4_waitForLift yX4_waitForLift, Cond.code yX4_waitForLift cX4_waitForLift 5 (some .int)]
def wsX5_walk : List Cond := .code yX5_walk cX5_walk 13 (some .int) :: ((wsX5_walk_r1 ++ (wsX5_walk_r2 ++ (wsX5_walk_r3 ++ wsX5_walk_r4))) ++ wsX50 ++ wsX10 ++ wsX40)
def wsX5_lines : List Cond := .code yX5_lines cX5_lines 1 (some .int) :: ([.fieldLink RX5 46 "WrongWay" "fraction" "LWrongWay$Fraction;", .fieldLink RX5 10 "WrongWay" "now" "LWrongWay$House;", .constantLong RX5 174 (60), .methodLink RX5 171 yX1_turnsOfLine0, .instanceMethod yX1_turnsOfLine0, .selects RX1 yX1_turnsOfLine0 yX1_turnsOfLine0, .initialized RX1, .code yX1_turnsOfLine0 cX1_turnsOfLine0 5 (some .int), .fieldLink RX1 19 "WrongWay$House" "at" "[I", .fieldLink RX1 16 "WrongWay$House" "every" "[I", .methodLink RX1 67 yX1_nextTrain, .static yX1_nextTrain, .code yX1_nextTrain cX1_nextTrain 4 (some .int), .methodLink RX5 176 yX0_set, .instanceMethod yX0_set, .selects RX0 yX0_set yX0_set, .initialized RX0, .code yX0_set cX0_set 7 none, .fieldLink RX0 7 "WrongWay$Fraction" "above" "J", .fieldLink RX0 13 "WrongWay$Fraction" "below" "J", .methodLink RX0 16 yX0_commonDivisor, .static yX0_commonDivisor, .code yX0_commonDivisor cX0_commonDivisor 11 (some .long)] ++ wsX50 ++ wsX10 ++ wsX00)
def wsX5_even : List Cond := .code yX5_even cX5_even 5 (some .int) :: ([.fieldLink RX5 10 "WrongWay" "now" "LWrongWay$House;", .methodLink RX5 168 Lib.Math.abs.name, .static Lib.Math.abs.name, .initialized "java/lang/Math", .code Lib.Math.abs.name Lib.Math.abs.code 1 (some .int), .methodLink RX5 171 yX1_turnsOfLine0, .instanceMethod yX1_turnsOfLine0, .selects RX1 yX1_turnsOfLine0 yX1_turnsOfLine0, .initialized RX1, .code yX1_turnsOfLine0 cX1_turnsOfLine0 5 (some .int), .fieldLink RX1 19 "WrongWay$House" "at" "[I", .fieldLink RX1 16 "WrongWay$House" "every" "[I", .methodLink RX1 67 yX1_nextTrain, .static yX1_nextTrain, .code yX1_nextTrain cX1_nextTrain 4 (some .int)] ++ wsX50 ++ wsX10)
def wsX5_note_r1 : List Cond := [Cond.fieldLink RX5 10 "WrongWay" "now" "LWrongWay$House;", Cond.fieldLink RX5 180 "WrongWay$House" "noted" "I", Cond.methodLink RX5 117 yX1_hasLift, Cond.instanceMethod yX1_hasLift, Cond.selects RX1 yX1_hasLift yX1_hasLift, Cond.initialized RX1, Cond.code yX1_hasLift cX1_hasLift 2 (some .boolean), Cond.fieldLink RX1 45 "WrongWay$House" "lifts" "I", Cond.methodLink RX5 145 yX1_hasFloor, Cond.instanceMethod yX1_hasFloor, Cond.selects RX1 yX1_hasFloor yX1_hasFloor, Cond.code yX1_hasFloor cX1_hasFloor 2 (some .boolean), Cond.fieldLink RX1 41 "WrongWay$House" "top" "I", Cond.methodLink RX5 54 yX5_isWithin, Cond.static yX5_isWithin, Cond.initialized RX5, Cond.code yX5_isWithin cX5_isWithin 3 (some .boolean), Cond.methodLink RX5 58 yX5_refuse, Cond.instanceMethod yX5_refuse, Cond.selects RX5 yX5_refuse yX5_refuse, Cond.code yX5_refuse cX5_refuse 3 (some .int), Cond.fieldLink RX5 50 "WrongWay" "refusals" "[I", Cond.methodLink RX5 183 yX1_addNoted, Cond.instanceMethod yX1_addNoted]
def wsX5_note_r2 : List Cond := [Cond.selects RX1 yX1_addNoted yX1_addNoted, Cond.code yX1_addNoted cX1_addNoted 5 none, Cond.fieldLink RX1 51 "WrongWay$House" "noted" "I", Cond.fieldLink RX1 22 "WrongWay$House" "notedLifts" "[I", Cond.fieldLink RX1 25 "WrongWay$House" "notedFloors" "[I", Cond.fieldLink RX1 28 "WrongWay$House" "notedMinutes" "[I", Cond.fieldLink RX1 31 "WrongWay$House" "notedThere" "[I"]
def wsX5_note : List Cond := .code yX5_note cX5_note 5 (some .int) :: ((wsX5_note_r1 ++ wsX5_note_r2) ++ wsX50 ++ wsX10)
def wsX5_forget : List Cond := .code yX5_forget cX5_forget 2 (some .int) :: ([.fieldLink RX5 10 "WrongWay" "now" "LWrongWay$House;", .fieldLink RX5 180 "WrongWay$House" "noted" "I"] ++ wsX50 ++ wsX10)
def wsX5_is_r1 : List Cond := [Cond.fieldLink RX5 10 "WrongWay" "now" "LWrongWay$House;", Cond.fieldLink RX5 32 "WrongWay" "watch" "LWrongWay$Watch;", Cond.methodLink RX5 117 yX1_hasLift, Cond.instanceMethod yX1_hasLift, Cond.selects RX1 yX1_hasLift yX1_hasLift, Cond.initialized RX1, Cond.code yX1_hasLift cX1_hasLift 2 (some .boolean), Cond.fieldLink RX1 45 "WrongWay$House" "lifts" "I", Cond.methodLink RX5 54 yX5_isWithin, Cond.static yX5_isWithin, Cond.initialized RX5, Cond.code yX5_isWithin cX5_isWithin 3 (some .boolean), Cond.methodLink RX5 58 yX5_refuse, Cond.instanceMethod yX5_refuse, Cond.selects RX5 yX5_refuse yX5_refuse, Cond.code yX5_refuse cX5_refuse 3 (some .int), Cond.fieldLink RX5 50 "WrongWay" "refusals" "[I", Cond.methodLink RX5 187 yX4_fittingKinds, Cond.instanceMethod yX4_fittingKinds, Cond.selects RX4 yX4_fittingKinds yX4_fittingKinds, Cond.initialized RX4, Cond.code yX4_fittingKinds cX4_fittingKinds 4 (some .int), Cond.fieldLink RX4 9 "WrongWay$Watch" "house" "LWrongWay$House;", Cond.fieldLink RX4 25 "WrongWay$House" "starts" "[I"]
def wsX5_is_r2 : List Cond := [Cond.methodLink RX4 73 yX4_fits, Cond.instanceMethod yX4_fits, Cond.selects RX4 yX4_fits yX4_fits, Cond.code yX4_fits cX4_fits 7 (some .boolean), Cond.fieldLink RX4 58 "WrongWay$House" "noted" "I", Cond.fieldLink RX4 61 "WrongWay$House" "notedLifts" "[I", Cond.fieldLink RX4 21 "WrongWay$House" "top" "I", Cond.fieldLink RX4 64 "WrongWay$House" "notedMinutes" "[I", Cond.fieldLink RX4 67 "WrongWay$House" "notedFloors" "[I", Cond.fieldLink RX4 70 "WrongWay$House" "notedThere" "[I", Cond.methodLink RX4 28 yX2_floorIn, Cond.static yX2_floorIn, Cond.initialized RX2, Cond.code yX2_floorIn cX2_floorIn 7 (some .int), Cond.fieldLink RX2 9 "WrongWay$Kinds" "PACE" "[I", Cond.fieldLink RX2 18 "WrongWay$Kinds" "STAND_ABOVE" "[I", Cond.methodLink RX2 25 Lib.Math.max.name, Cond.static Lib.Math.max.name, Cond.initialized "java/lang/Math", Cond.code Lib.Math.max.name Lib.Math.max.code 2 (some .int), Cond.methodLink RX2 30 Lib.Math.min.name, Cond.static Lib.Math.min.name, Cond.code Lib.Math.min.name Lib.Math.min.code 2 (some .int), Cond.methodLink RX2 21 yX2_round]
def wsX5_is_r3 : List Cond := [Cond.static yX2_round, Cond.code yX2_round cX2_round 3 (some .int), Cond.fieldLink RX2 15 "WrongWay$Kinds" "REST_BELOW" "[I", Cond.methodLink RX5 190 yX4_fittingStarts, Cond.instanceMethod yX4_fittingStarts, Cond.selects RX4 yX4_fittingStarts yX4_fittingStarts, Cond.code yX4_fittingStarts cX4_fittingStarts 4 (some .int), Cond.fieldLink RX4 15 "WrongWay$House" "kinds" "[I"]
def wsX5_is : List Cond := .code yX5_is cX5_is 3 (some .int) :: ((wsX5_is_r1 ++ (wsX5_is_r2 ++ wsX5_is_r3)) ++ wsX50 ++ wsX10 ++ wsX40)
def wsX5_look_r1 : List Cond := [Cond.fieldLink RX5 10 "WrongWay" "now" "LWrongWay$House;", Cond.fieldLink RX5 32 "WrongWay" "watch" "LWrongWay$Watch;", Cond.methodLink RX5 117 yX1_hasLift, Cond.instanceMethod yX1_hasLift, Cond.selects RX1 yX1_hasLift yX1_hasLift, Cond.initialized RX1, Cond.code yX1_hasLift cX1_hasLift 2 (some .boolean), Cond.fieldLink RX1 45 "WrongWay$House" "lifts" "I", Cond.methodLink RX5 145 yX1_hasFloor, Cond.instanceMethod yX1_hasFloor, Cond.selects RX1 yX1_hasFloor yX1_hasFloor, Cond.code yX1_hasFloor cX1_hasFloor 2 (some .boolean), Cond.fieldLink RX1 41 "WrongWay$House" "top" "I", Cond.methodLink RX5 58 yX5_refuse, Cond.instanceMethod yX5_refuse, Cond.selects RX5 yX5_refuse yX5_refuse, Cond.initialized RX5, Cond.code yX5_refuse cX5_refuse 3 (some .int), Cond.fieldLink RX5 50 "WrongWay" "refusals" "[I", Cond.methodLink RX5 54 yX5_isWithin, Cond.static yX5_isWithin, Cond.code yX5_isWithin cX5_isWithin 3 (some .boolean), Cond.methodLink RX5 193 yX4_tellingMinute, Cond.instanceMethod yX4_tellingMinute]
def wsX5_look_r2 : List Cond := [Cond.selects RX4 yX4_tellingMinute yX4_tellingMinute, Cond.initialized RX4, Cond.code yX4_tellingMinute cX4_tellingMinute 10 (some .int), Cond.fieldLink RX4 9 "WrongWay$Watch" "house" "LWrongWay$House;", Cond.fieldLink RX4 25 "WrongWay$House" "starts" "[I", Cond.methodLink RX4 88 Lib.Math.max.name, Cond.static Lib.Math.max.name, Cond.initialized "java/lang/Math", Cond.code Lib.Math.max.name Lib.Math.max.code 2 (some .int), Cond.methodLink RX4 76 yX4_fittingKinds, Cond.instanceMethod yX4_fittingKinds, Cond.selects RX4 yX4_fittingKinds yX4_fittingKinds, Cond.code yX4_fittingKinds cX4_fittingKinds 4 (some .int), Cond.methodLink RX4 73 yX4_fits, Cond.instanceMethod yX4_fits, Cond.selects RX4 yX4_fits yX4_fits, Cond.code yX4_fits cX4_fits 7 (some .boolean), Cond.fieldLink RX4 58 "WrongWay$House" "noted" "I", Cond.fieldLink RX4 61 "WrongWay$House" "notedLifts" "[I", Cond.fieldLink RX4 21 "WrongWay$House" "top" "I", Cond.fieldLink RX4 64 "WrongWay$House" "notedMinutes" "[I", Cond.fieldLink RX4 67 "WrongWay$House" "notedFloors" "[I", Cond.fieldLink RX4 70 "WrongWay$House" "notedThere" "[I", Cond.methodLink RX4 28 yX2_floorIn]
def wsX5_look_r3 : List Cond := [Cond.static yX2_floorIn, Cond.initialized RX2, Cond.code yX2_floorIn cX2_floorIn 7 (some .int), Cond.fieldLink RX2 9 "WrongWay$Kinds" "PACE" "[I", Cond.fieldLink RX2 18 "WrongWay$Kinds" "STAND_ABOVE" "[I", Cond.methodLink RX2 25 Lib.Math.max.name, Cond.methodLink RX2 30 Lib.Math.min.name, Cond.static Lib.Math.min.name, Cond.code Lib.Math.min.name Lib.Math.min.code 2 (some .int), Cond.methodLink RX2 21 yX2_round, Cond.static yX2_round, Cond.code yX2_round cX2_round 3 (some .int), Cond.fieldLink RX2 15 "WrongWay$Kinds" "REST_BELOW" "[I", Cond.methodLink RX4 80 yJ6_bitCount_0f7a4, Cond.static yJ6_bitCount_0f7a4, Cond.initialized RJ6, Cond.code yJ6_bitCount_0f7a4 cJ6_bitCount_0f7a4 1 (some .int), Cond.constant RJ6 265 (1431655765), Cond.constant RJ6 266 (858993459), Cond.constant RJ6 267 (252645135), Cond.methodLink RX4 85 yX4_kindsThere, Cond.instanceMethod yX4_kindsThere, Cond.selects RX4 yX4_kindsThere yX4_kindsThere, Cond.code yX4_kindsThere cX4_kindsThere 8 (some .int)]
def wsX5_look : List Cond := .code yX5_look cX5_look 3 (some .int) :: ((wsX5_look_r1 ++ (wsX5_look_r2 ++ wsX5_look_r3)) ++ wsX50 ++ wsX10 ++ wsX40)
def wsX5_porters_r1 : List Cond := [Cond.fieldLink RX5 10 "WrongWay" "now" "LWrongWay$House;", Cond.fieldLink RX5 62 "WrongWay$House" "lifts" "I", Cond.fieldLink RX5 32 "WrongWay" "watch" "LWrongWay$Watch;", Cond.constantLong RX5 199 (10), Cond.fieldLink RX5 46 "WrongWay" "fraction" "LWrongWay$Fraction;", Cond.methodLink RX5 145 yX1_hasFloor, Cond.instanceMethod yX1_hasFloor, Cond.selects RX1 yX1_hasFloor yX1_hasFloor, Cond.initialized RX1, Cond.code yX1_hasFloor cX1_hasFloor 2 (some .boolean), Cond.fieldLink RX1 41 "WrongWay$House" "top" "I", Cond.methodLink RX5 142 yX5_isMinute, Cond.static yX5_isMinute, Cond.initialized RX5, Cond.code yX5_isMinute cX5_isMinute 1 (some .boolean), Cond.methodLink RX5 54 yX5_isWithin, Cond.static yX5_isWithin, Cond.code yX5_isWithin cX5_isWithin 3 (some .boolean), Cond.methodLink RX5 58 yX5_refuse, Cond.instanceMethod yX5_refuse, Cond.selects RX5 yX5_refuse yX5_refuse, Cond.code yX5_refuse cX5_refuse 3 (some .int), Cond.fieldLink RX5 50 "WrongWay" "refusals" "[I", Cond.methodLink RX5 196 yX4_waitForLift]
def wsX5_porters_r2 : List Cond := [Cond.instanceMethod yX4_waitForLift, Cond.selects RX4 yX4_waitForLift yX4_waitForLift, Cond.initialized RX4, Cond.code yX4_waitForLift cX4_waitForLift 5 (some .int), Cond.methodLink RX4 41 yX4_isSeen, Cond.instanceMethod yX4_isSeen, Cond.selects RX4 yX4_isSeen yX4_isSeen, Cond.code yX4_isSeen cX4_isSeen 5 (some .boolean), Cond.fieldLink RX4 9 "WrongWay$Watch" "house" "LWrongWay$House;", Cond.fieldLink RX4 15 "WrongWay$House" "kinds" "[I", Cond.fieldLink RX4 21 "WrongWay$House" "top" "I", Cond.fieldLink RX4 25 "WrongWay$House" "starts" "[I", Cond.methodLink RX4 34 yX2_opens, Cond.static yX2_opens, Cond.initialized RX2, Cond.code yX2_opens cX2_opens 3 (some .boolean), Cond.methodLink RX4 28 yX2_floorIn, Cond.static yX2_floorIn, Cond.code yX2_floorIn cX2_floorIn 7 (some .int), Cond.fieldLink RX2 9 "WrongWay$Kinds" "PACE" "[I", Cond.fieldLink RX2 18 "WrongWay$Kinds" "STAND_ABOVE" "[I", Cond.methodLink RX2 25 Lib.Math.max.name, Cond.static Lib.Math.max.name, Cond.initialized "java/lang/Math"]
def wsX5_porters_r3 : List Cond := [Cond.code Lib.Math.max.name Lib.Math.max.code 2 (some .int), Cond.methodLink RX2 30 Lib.Math.min.name, Cond.static Lib.Math.min.name, Cond.code Lib.Math.min.name Lib.Math.min.code 2 (some .int), Cond.methodLink RX2 21 yX2_round, Cond.static yX2_round, Cond.code yX2_round cX2_round 3 (some .int), Cond.fieldLink RX2 15 "WrongWay$Kinds" "REST_BELOW" "[I", Cond.methodLink RX5 176 yX0_set, Cond.instanceMethod yX0_set, Cond.selects RX0 yX0_set yX0_set, Cond.initialized RX0, Cond.code yX0_set cX0_set 7 none, Cond.fieldLink RX0 7 "WrongWay$Fraction" "above" "J", Cond.fieldLink RX0 13 "WrongWay$Fraction" "below" "J", Cond.methodLink RX0 16 yX0_commonDivisor, Cond.static yX0_commonDivisor, Cond.code yX0_commonDivisor cX0_commonDivisor 11 (some .long)]
def wsX5_porters : List Cond := .code yX5_porters cX5_porters 11 (some .int) :: ((wsX5_porters_r1 ++ (wsX5_porters_r2 ++ wsX5_porters_r3)) ++ wsX50 ++ wsX10 ++ wsX40 ++ wsX00)
def wsX5_days_r1 : List Cond := [Cond.fieldLink RX5 10 "WrongWay" "now" "LWrongWay$House;", Cond.constant RX5 201 (999999), Cond.constantLong RX5 202 (1103515245), Cond.constantLong RX5 204 (12345), Cond.constantLong RX5 206 (2147483648), Cond.constantLong RX5 208 (65536), Cond.constantLong RX5 210 (120), Cond.fieldLink RX5 32 "WrongWay" "watch" "LWrongWay$Watch;", Cond.methodLink RX5 145 yX1_hasFloor, Cond.instanceMethod yX1_hasFloor, Cond.selects RX1 yX1_hasFloor yX1_hasFloor, Cond.initialized RX1, Cond.code yX1_hasFloor cX1_hasFloor 2 (some .boolean), Cond.fieldLink RX1 41 "WrongWay$House" "top" "I", Cond.methodLink RX5 54 yX5_isWithin, Cond.static yX5_isWithin, Cond.initialized RX5, Cond.code yX5_isWithin cX5_isWithin 3 (some .boolean), Cond.methodLink RX5 58 yX5_refuse, Cond.instanceMethod yX5_refuse, Cond.selects RX5 yX5_refuse yX5_refuse, Cond.code yX5_refuse cX5_refuse 3 (some .int), Cond.fieldLink RX5 50 "WrongWay" "refusals" "[I", Cond.methodLink RX5 155 yX4_wayOfFirst]
def wsX5_days_r2 : List Cond := [Cond.instanceMethod yX4_wayOfFirst, Cond.selects RX4 yX4_wayOfFirst yX4_wayOfFirst, Cond.initialized RX4, Cond.code yX4_wayOfFirst cX4_wayOfFirst 5 (some .int), Cond.methodLink RX4 52 yX4_waitOn, Cond.instanceMethod yX4_waitOn, Cond.selects RX4 yX4_waitOn yX4_waitOn, Cond.code yX4_waitOn cX4_waitOn 5 (some .int), Cond.methodLink RX4 48 yX4_seenFrom, Cond.instanceMethod yX4_seenFrom, Cond.selects RX4 yX4_seenFrom yX4_seenFrom, Cond.code yX4_seenFrom cX4_seenFrom 5 (some .int), Cond.fieldLink RX4 9 "WrongWay$Watch" "house" "LWrongWay$House;", Cond.fieldLink RX4 38 "WrongWay$House" "lifts" "I", Cond.methodLink RX4 41 yX4_isSeen, Cond.instanceMethod yX4_isSeen, Cond.selects RX4 yX4_isSeen yX4_isSeen, Cond.code yX4_isSeen cX4_isSeen 5 (some .boolean), Cond.fieldLink RX4 15 "WrongWay$House" "kinds" "[I", Cond.fieldLink RX4 21 "WrongWay$House" "top" "I", Cond.fieldLink RX4 25 "WrongWay$House" "starts" "[I", Cond.methodLink RX4 34 yX2_opens, Cond.static yX2_opens, Cond.initialized RX2]
def wsX5_days_r3 : List Cond := [Cond.code yX2_opens cX2_opens 3 (some .boolean), Cond.methodLink RX4 28 yX2_floorIn, Cond.static yX2_floorIn, Cond.code yX2_floorIn cX2_floorIn 7 (some .int), Cond.fieldLink RX2 9 "WrongWay$Kinds" "PACE" "[I", Cond.fieldLink RX2 18 "WrongWay$Kinds" "STAND_ABOVE" "[I", Cond.methodLink RX2 25 Lib.Math.max.name, Cond.static Lib.Math.max.name, Cond.initialized "java/lang/Math", Cond.code Lib.Math.max.name Lib.Math.max.code 2 (some .int), Cond.methodLink RX2 30 Lib.Math.min.name, Cond.static Lib.Math.min.name, Cond.code Lib.Math.min.name Lib.Math.min.code 2 (some .int), Cond.methodLink RX2 21 yX2_round, Cond.static yX2_round, Cond.code yX2_round cX2_round 3 (some .int), Cond.fieldLink RX2 15 "WrongWay$Kinds" "REST_BELOW" "[I", Cond.methodLink RX4 44 yX4_wayOf, Cond.instanceMethod yX4_wayOf, Cond.selects RX4 yX4_wayOf yX4_wayOf, Cond.code yX4_wayOf cX4_wayOf 8 (some .int)]
def wsX5_days : List Cond := .code yX5_days cX5_days 9 (some .int) :: ((wsX5_days_r1 ++ (wsX5_days_r2 ++ wsX5_days_r3)) ++ wsX50 ++ wsX10 ++ wsX40)
def wsX5_part : List Cond := .code yX5_part cX5_part 2 (some .long) :: ([.fieldLink RX5 46 "WrongWay" "fraction" "LWrongWay$Fraction;", .fieldLink RX5 212 "WrongWay$Fraction" "above" "J", .fieldLink RX5 216 "WrongWay$Fraction" "below" "J", .methodLink RX5 54 yX5_isWithin, .static yX5_isWithin, .initialized RX5, .code yX5_isWithin cX5_isWithin 3 (some .boolean), .methodLink RX5 58 yX5_refuse, .instanceMethod yX5_refuse, .selects RX5 yX5_refuse yX5_refuse, .code yX5_refuse cX5_refuse 3 (some .int), .fieldLink RX5 50 "WrongWay" "refusals" "[I"] ++ wsX50 ++ wsX00)
def wsX5_image_r1 : List Cond := [Cond.fieldLink RX5 19 "WrongWay" "images" "[LWrongWay$House;", Cond.fieldLink RX5 10 "WrongWay" "now" "LWrongWay$House;", Cond.fieldLink RX5 23 "WrongWay" "kept" "[Z", Cond.methodLink RX5 54 yX5_isWithin, Cond.static yX5_isWithin, Cond.initialized RX5, Cond.code yX5_isWithin cX5_isWithin 3 (some .boolean), Cond.methodLink RX5 58 yX5_refuse, Cond.instanceMethod yX5_refuse, Cond.selects RX5 yX5_refuse yX5_refuse, Cond.code yX5_refuse cX5_refuse 3 (some .int), Cond.fieldLink RX5 50 "WrongWay" "refusals" "[I", Cond.methodLink RX5 96 yX1_copy, Cond.instanceMethod yX1_copy, Cond.selects RX1 yX1_copy yX1_copy, Cond.initialized RX1, Cond.code yX1_copy cX1_copy 2 none, Cond.fieldLink RX1 41 "WrongWay$House" "top" "I", Cond.fieldLink RX1 45 "WrongWay$House" "lifts" "I", Cond.fieldLink RX1 48 "WrongWay$House" "minute" "I", Cond.fieldLink RX1 51 "WrongWay$House" "noted" "I", Cond.fieldLink RX1 54 "WrongWay$House" "undos" "I", Cond.fieldLink RX1 9 "WrongWay$House" "kinds" "[I", Cond.methodLink RX1 61 arraycopyName]
def wsX5_image_r2 : List Cond := [Cond.native arraycopyName, Cond.static arraycopyName, Cond.initialized "java/lang/System", Cond.fieldLink RX1 13 "WrongWay$House" "starts" "[I", Cond.fieldLink RX1 16 "WrongWay$House" "every" "[I", Cond.fieldLink RX1 19 "WrongWay$House" "at" "[I", Cond.fieldLink RX1 22 "WrongWay$House" "notedLifts" "[I", Cond.fieldLink RX1 25 "WrongWay$House" "notedFloors" "[I", Cond.fieldLink RX1 28 "WrongWay$House" "notedMinutes" "[I", Cond.fieldLink RX1 31 "WrongWay$House" "notedThere" "[I", Cond.fieldLink RX1 34 "WrongWay$House" "minutesBefore" "[I"]
def wsX5_image : List Cond := .code yX5_image cX5_image 2 (some .int) :: ((wsX5_image_r1 ++ wsX5_image_r2) ++ wsX50 ++ wsX10)
def wsX5_from_r1 : List Cond := [Cond.fieldLink RX5 23 "WrongWay" "kept" "[Z", Cond.fieldLink RX5 10 "WrongWay" "now" "LWrongWay$House;", Cond.fieldLink RX5 19 "WrongWay" "images" "[LWrongWay$House;", Cond.methodLink RX5 54 yX5_isWithin, Cond.static yX5_isWithin, Cond.initialized RX5, Cond.code yX5_isWithin cX5_isWithin 3 (some .boolean), Cond.methodLink RX5 58 yX5_refuse, Cond.instanceMethod yX5_refuse, Cond.selects RX5 yX5_refuse yX5_refuse, Cond.code yX5_refuse cX5_refuse 3 (some .int), Cond.fieldLink RX5 50 "WrongWay" "refusals" "[I", Cond.methodLink RX5 96 yX1_copy, Cond.instanceMethod yX1_copy, Cond.selects RX1 yX1_copy yX1_copy, Cond.initialized RX1, Cond.code yX1_copy cX1_copy 2 none, Cond.fieldLink RX1 41 "WrongWay$House" "top" "I", Cond.fieldLink RX1 45 "WrongWay$House" "lifts" "I", Cond.fieldLink RX1 48 "WrongWay$House" "minute" "I", Cond.fieldLink RX1 51 "WrongWay$House" "noted" "I", Cond.fieldLink RX1 54 "WrongWay$House" "undos" "I", Cond.fieldLink RX1 9 "WrongWay$House" "kinds" "[I", Cond.methodLink RX1 61 arraycopyName]
def wsX5_from_r2 : List Cond := [Cond.native arraycopyName, Cond.static arraycopyName, Cond.initialized "java/lang/System", Cond.fieldLink RX1 13 "WrongWay$House" "starts" "[I", Cond.fieldLink RX1 16 "WrongWay$House" "every" "[I", Cond.fieldLink RX1 19 "WrongWay$House" "at" "[I", Cond.fieldLink RX1 22 "WrongWay$House" "notedLifts" "[I", Cond.fieldLink RX1 25 "WrongWay$House" "notedFloors" "[I", Cond.fieldLink RX1 28 "WrongWay$House" "notedMinutes" "[I", Cond.fieldLink RX1 31 "WrongWay$House" "notedThere" "[I", Cond.fieldLink RX1 34 "WrongWay$House" "minutesBefore" "[I"]
def wsX5_from : List Cond := .code yX5_from cX5_from 2 (some .int) :: ((wsX5_from_r1 ++ wsX5_from_r2) ++ wsX50 ++ wsX10)
def wsX5_status : List Cond := .code yX5_status cX5_status 2 (some .int) :: ([.fieldLink RX5 50 "WrongWay" "refusals" "[I", .methodLink RX5 54 yX5_isWithin, .static yX5_isWithin, .initialized RX5, .code yX5_isWithin cX5_isWithin 3 (some .boolean), .methodLink RX5 58 yX5_refuse, .instanceMethod yX5_refuse, .selects RX5 yX5_refuse yX5_refuse, .code yX5_refuse cX5_refuse 3 (some .int)] ++ wsX50)
def wsX5_count : List Cond := .code yX5_count cX5_count 2 (some .int) :: ([.fieldLink RX5 10 "WrongWay" "now" "LWrongWay$House;", .fieldLink RX5 62 "WrongWay$House" "lifts" "I", .fieldLink RX5 130 "WrongWay$House" "top" "I", .fieldLink RX5 99 "WrongWay$House" "minute" "I", .fieldLink RX5 180 "WrongWay$House" "noted" "I", .fieldLink RX5 111 "WrongWay$House" "undos" "I", .fieldLink RX5 39 "WrongWay" "text" "LWrongWay$Text;", .fieldLink RX5 86 "WrongWay$Text" "length" "I", .methodLink RX5 58 yX5_refuse, .instanceMethod yX5_refuse, .selects RX5 yX5_refuse yX5_refuse, .initialized RX5, .code yX5_refuse cX5_refuse 3 (some .int), .fieldLink RX5 50 "WrongWay" "refusals" "[I", .methodLink RX5 54 yX5_isWithin, .static yX5_isWithin, .code yX5_isWithin cX5_isWithin 3 (some .boolean)] ++ wsX50 ++ wsX10 ++ wsX30)
def wsX5_digest_r1 : List Cond := [Cond.constantLong RX5 219 (1123), Cond.constantLong RX5 221 (31), Cond.fieldLink RX5 10 "WrongWay" "now" "LWrongWay$House;", Cond.fieldLink RX5 46 "WrongWay" "fraction" "LWrongWay$Fraction;", Cond.fieldLink RX5 212 "WrongWay$Fraction" "above" "J", Cond.fieldLink RX5 216 "WrongWay$Fraction" "below" "J", Cond.methodLink RX5 223 yX5_count, Cond.instanceMethod yX5_count, Cond.selects RX5 yX5_count yX5_count, Cond.initialized RX5, Cond.code yX5_count cX5_count 2 (some .int), Cond.fieldLink RX5 62 "WrongWay$House" "lifts" "I", Cond.fieldLink RX5 130 "WrongWay$House" "top" "I", Cond.fieldLink RX5 99 "WrongWay$House" "minute" "I", Cond.fieldLink RX5 180 "WrongWay$House" "noted" "I", Cond.fieldLink RX5 111 "WrongWay$House" "undos" "I", Cond.fieldLink RX5 39 "WrongWay" "text" "LWrongWay$Text;", Cond.fieldLink RX5 86 "WrongWay$Text" "length" "I", Cond.methodLink RX5 58 yX5_refuse, Cond.instanceMethod yX5_refuse, Cond.selects RX5 yX5_refuse yX5_refuse, Cond.code yX5_refuse cX5_refuse 3 (some .int), Cond.fieldLink RX5 50 "WrongWay" "refusals" "[I", Cond.methodLink RX5 54 yX5_isWithin]
def wsX5_digest_r2 : List Cond := [Cond.static yX5_isWithin, Cond.code yX5_isWithin cX5_isWithin 3 (some .boolean), Cond.methodLink RX5 226 yX1_digestOver, Cond.instanceMethod yX1_digestOver, Cond.selects RX1 yX1_digestOver yX1_digestOver, Cond.initialized RX1, Cond.code yX1_digestOver cX1_digestOver 6 (some .long), Cond.fieldLink RX1 45 "WrongWay$House" "lifts" "I", Cond.constantLong RX1 71 (31), Cond.fieldLink RX1 9 "WrongWay$House" "kinds" "[I", Cond.fieldLink RX1 13 "WrongWay$House" "starts" "[I", Cond.fieldLink RX1 16 "WrongWay$House" "every" "[I", Cond.fieldLink RX1 19 "WrongWay$House" "at" "[I", Cond.fieldLink RX1 51 "WrongWay$House" "noted" "I", Cond.fieldLink RX1 22 "WrongWay$House" "notedLifts" "[I", Cond.fieldLink RX1 25 "WrongWay$House" "notedFloors" "[I", Cond.fieldLink RX1 28 "WrongWay$House" "notedMinutes" "[I", Cond.fieldLink RX1 31 "WrongWay$House" "notedThere" "[I"]
def wsX5_digest : List Cond := .code yX5_digest cX5_digest 4 (some .long) :: ((wsX5_digest_r1 ++ wsX5_digest_r2) ++ wsX50 ++ wsX00 ++ wsX10 ++ wsX30)
def wsX6_begins : List Cond := .code yX6_begins cX6_begins 4 none :: ([.fieldLink RX6 7 "WrongWayModel" "w" "[I"] ++ wsX60)
def wsX6_init : List Cond := .code yX6_init cX6_init 1 none :: ([.methodLink RX6 1 objectInit, .instanceMethod objectInit, .code objectInit ⟨#[0xb1]⟩ 1 none, .arrayClass .int, .fieldLink RX6 7 "WrongWayModel" "w" "[I", .arrayClass .boolean, .fieldLink RX6 13 "WrongWayModel" "isKept" "[Z", .fieldLink RX6 17 "WrongWayModel" "text" "[I", .fieldLink RX6 20 "WrongWayModel" "refused" "[I", .fieldLink RX6 23 "WrongWayModel" "below" "J", .fieldLink RX6 27 "WrongWayModel" "numbers" "[I", .methodLink RX6 30 yX6_begins, .instanceMethod yX6_begins, .selects RX6 yX6_begins yX6_begins, .initialized RX6, .code yX6_begins cX6_begins 4 none] ++ wsX60)
def wsX6_in : List Cond := .code yX6_in cX6_in 6 (some .boolean) :: ([])
def wsX6_has : List Cond := .code yX6_has cX6_has 2 (some .boolean) :: ([])
def wsX6_bad : List Cond := .code yX6_bad cX6_bad 1 (some .int) :: ([.fieldLink RX6 20 "WrongWayModel" "refused" "[I"] ++ wsX60)
def wsX6_badAs : List Cond := .code yX6_badAs cX6_badAs 2 (some .int) :: ([.fieldLink RX6 20 "WrongWayModel" "refused" "[I"] ++ wsX60)
def wsX6_no : List Cond := .code yX6_no cX6_no 1 (some .int) :: ([.fieldLink RX6 20 "WrongWayModel" "refused" "[I"] ++ wsX60)
def wsX6_full : List Cond := .code yX6_full cX6_full 1 (some .int) :: ([.fieldLink RX6 20 "WrongWayModel" "refused" "[I"] ++ wsX60)
def wsX6_copy : List Cond := .code yX6_copy cX6_copy 4 none :: ([.fieldLink RX6 7 "WrongWayModel" "w" "[I"] ++ wsX60)
def wsX6_isFloor : List Cond := .code yX6_isFloor cX6_isFloor 2 (some .boolean) :: ([.fieldLink RX6 7 "WrongWayModel" "w" "[I", .methodLink RX6 34 yX6_in, .static yX6_in, .initialized RX6, .code yX6_in cX6_in 6 (some .boolean)] ++ wsX60)
def wsX6_isLift : List Cond := .code yX6_isLift cX6_isLift 2 (some .boolean) :: ([.fieldLink RX6 7 "WrongWayModel" "w" "[I", .methodLink RX6 34 yX6_in, .static yX6_in, .initialized RX6, .code yX6_in cX6_in 6 (some .boolean)] ++ wsX60)
def wsX6_isMinute : List Cond := .code yX6_isMinute cX6_isMinute 1 (some .boolean) :: ([.constantLong RX6 38 (999), .methodLink RX6 34 yX6_in, .static yX6_in, .initialized RX6, .code yX6_in cX6_in 6 (some .boolean)])
def wsX6_house : List Cond := .code yX6_house cX6_house 3 (some .int) :: ([.constantLong RX6 40 (11), .fieldLink RX6 7 "WrongWayModel" "w" "[I", .methodLink RX6 34 yX6_in, .static yX6_in, .initialized RX6, .code yX6_in cX6_in 6 (some .boolean), .methodLink RX6 42 yX6_bad, .instanceMethod yX6_bad, .selects RX6 yX6_bad yX6_bad, .code yX6_bad cX6_bad 1 (some .int), .fieldLink RX6 20 "WrongWayModel" "refused" "[I", .methodLink RX6 30 yX6_begins, .instanceMethod yX6_begins, .selects RX6 yX6_begins yX6_begins, .code yX6_begins cX6_begins 4 none] ++ wsX60)
def wsX6_adds : List Cond := .code yX6_adds cX6_adds 5 (some .int) :: ([.fieldLink RX6 7 "WrongWayModel" "w" "[I"] ++ wsX60)
def wsX6_lift : List Cond := .code yX6_lift cX6_lift 3 (some .int) :: ([.constantLong RX6 46 (5), .constantLong RX6 48 (99), .fieldLink RX6 7 "WrongWayModel" "w" "[I", .methodLink RX6 34 yX6_in, .static yX6_in, .initialized RX6, .code yX6_in cX6_in 6 (some .boolean), .methodLink RX6 42 yX6_bad, .instanceMethod yX6_bad, .selects RX6 yX6_bad yX6_bad, .code yX6_bad cX6_bad 1 (some .int), .fieldLink RX6 20 "WrongWayModel" "refused" "[I", .methodLink RX6 50 yX6_full, .instanceMethod yX6_full, .selects RX6 yX6_full yX6_full, .code yX6_full cX6_full 1 (some .int), .methodLink RX6 53 yX6_adds, .instanceMethod yX6_adds, .selects RX6 yX6_adds yX6_adds, .code yX6_adds cX6_adds 5 (some .int)] ++ wsX60)
def wsX6_line : List Cond := .code yX6_line cX6_line 5 (some .int) :: ([.constantLong RX6 57 (30), .constantLong RX6 59 (29), .fieldLink RX6 7 "WrongWayModel" "w" "[I", .methodLink RX6 34 yX6_in, .static yX6_in, .initialized RX6, .code yX6_in cX6_in 6 (some .boolean), .methodLink RX6 42 yX6_bad, .instanceMethod yX6_bad, .selects RX6 yX6_bad yX6_bad, .code yX6_bad cX6_bad 1 (some .int), .fieldLink RX6 20 "WrongWayModel" "refused" "[I"] ++ wsX60)
def wsX6_type : List Cond := .code yX6_type cX6_type 2 (some .int) :: ([.constantLong RX6 61 (127), .fieldLink RX6 63 "WrongWayModel" "texted" "I", .fieldLink RX6 17 "WrongWayModel" "text" "[I", .methodLink RX6 34 yX6_in, .static yX6_in, .initialized RX6, .code yX6_in cX6_in 6 (some .boolean), .methodLink RX6 42 yX6_bad, .instanceMethod yX6_bad, .selects RX6 yX6_bad yX6_bad, .code yX6_bad cX6_bad 1 (some .int), .fieldLink RX6 20 "WrongWayModel" "refused" "[I", .methodLink RX6 50 yX6_full, .instanceMethod yX6_full, .selects RX6 yX6_full yX6_full, .code yX6_full cX6_full 1 (some .int)] ++ wsX60)
def wsX6_clear : List Cond := .code yX6_clear cX6_clear 2 (some .int) :: ([.fieldLink RX6 63 "WrongWayModel" "texted" "I"] ++ wsX60)
def wsX6_byteAt : List Cond := .code yX6_byteAt cX6_byteAt 2 (some .int) :: ([.fieldLink RX6 63 "WrongWayModel" "texted" "I", .fieldLink RX6 17 "WrongWayModel" "text" "[I"] ++ wsX60)
def wsX6_token : List Cond := .code yX6_token cX6_token 1 none :: ([.fieldLink RX6 67 "WrongWayModel" "at" "I", .fieldLink RX6 74 "WrongWayModel" "start" "I", .constantLong RX6 77 (97), .constantLong RX6 79 (122), .fieldLink RX6 81 "WrongWayModel" "isWord" "Z", .constantLong RX6 85 (48), .constantLong RX6 87 (57), .fieldLink RX6 89 "WrongWayModel" "isFigures" "Z", .fieldLink RX6 63 "WrongWayModel" "texted" "I", .methodLink RX6 70 yX6_byteAt, .instanceMethod yX6_byteAt, .selects RX6 yX6_byteAt yX6_byteAt, .initialized RX6, .code yX6_byteAt cX6_byteAt 2 (some .int), .fieldLink RX6 17 "WrongWayModel" "text" "[I", .methodLink RX6 34 yX6_in, .static yX6_in, .code yX6_in cX6_in 6 (some .boolean)] ++ wsX60)
def wsX6_isNamed : List Cond := .code yX6_isNamed cX6_isNamed 7 (some .boolean) :: ([.fieldLink RX6 81 "WrongWayModel" "isWord" "Z", .fieldLink RX6 67 "WrongWayModel" "at" "I", .fieldLink RX6 74 "WrongWayModel" "start" "I", .methodLink RX6 70 yX6_byteAt, .instanceMethod yX6_byteAt, .selects RX6 yX6_byteAt yX6_byteAt, .initialized RX6, .code yX6_byteAt cX6_byteAt 2 (some .int), .fieldLink RX6 63 "WrongWayModel" "texted" "I", .fieldLink RX6 17 "WrongWayModel" "text" "[I"] ++ wsX60)
def wsX6_wordNow : List Cond := .code yX6_wordNow cX6_wordNow 1 (some .int) :: ([.methodLink RX6 92 yX6_isNamed, .instanceMethod yX6_isNamed, .selects RX6 yX6_isNamed yX6_isNamed, .initialized RX6, .code yX6_isNamed cX6_isNamed 7 (some .boolean), .fieldLink RX6 81 "WrongWayModel" "isWord" "Z", .fieldLink RX6 67 "WrongWayModel" "at" "I", .fieldLink RX6 74 "WrongWayModel" "start" "I", .methodLink RX6 70 yX6_byteAt, .instanceMethod yX6_byteAt, .selects RX6 yX6_byteAt yX6_byteAt, .code yX6_byteAt cX6_byteAt 2 (some .int), .fieldLink RX6 63 "WrongWayModel" "texted" "I", .fieldLink RX6 17 "WrongWayModel" "text" "[I"] ++ wsX60)
def wsX6_takes : List Cond := .code yX6_takes cX6_takes 6 (some .boolean) :: ([.fieldLink RX6 89 "WrongWayModel" "isFigures" "Z", .fieldLink RX6 67 "WrongWayModel" "at" "I", .fieldLink RX6 74 "WrongWayModel" "start" "I", .fieldLink RX6 27 "WrongWayModel" "numbers" "[I", .methodLink RX6 96 yX6_token, .instanceMethod yX6_token, .selects RX6 yX6_token yX6_token, .initialized RX6, .code yX6_token cX6_token 1 none, .constantLong RX6 77 (97), .constantLong RX6 79 (122), .fieldLink RX6 81 "WrongWayModel" "isWord" "Z", .constantLong RX6 85 (48), .constantLong RX6 87 (57), .fieldLink RX6 63 "WrongWayModel" "texted" "I", .methodLink RX6 70 yX6_byteAt, .instanceMethod yX6_byteAt, .selects RX6 yX6_byteAt yX6_byteAt, .code yX6_byteAt cX6_byteAt 2 (some .int), .fieldLink RX6 17 "WrongWayModel" "text" "[I", .methodLink RX6 34 yX6_in, .static yX6_in, .code yX6_in cX6_in 6 (some .boolean)] ++ wsX60)
def wsX6_takesHouse_r1 : List Cond := [Cond.fieldLink RX6 7 "WrongWayModel" "w" "[I", Cond.fieldLink RX6 27 "WrongWayModel" "numbers" "[I", Cond.methodLink RX6 99 yX6_takes, Cond.instanceMethod yX6_takes, Cond.selects RX6 yX6_takes yX6_takes, Cond.initialized RX6, Cond.code yX6_takes cX6_takes 6 (some .boolean), Cond.fieldLink RX6 89 "WrongWayModel" "isFigures" "Z", Cond.fieldLink RX6 67 "WrongWayModel" "at" "I", Cond.fieldLink RX6 74 "WrongWayModel" "start" "I", Cond.methodLink RX6 96 yX6_token, Cond.instanceMethod yX6_token, Cond.selects RX6 yX6_token yX6_token, Cond.code yX6_token cX6_token 1 none, Cond.constantLong RX6 77 (97), Cond.constantLong RX6 79 (122), Cond.fieldLink RX6 81 "WrongWayModel" "isWord" "Z", Cond.constantLong RX6 85 (48), Cond.constantLong RX6 87 (57), Cond.fieldLink RX6 63 "WrongWayModel" "texted" "I", Cond.methodLink RX6 70 yX6_byteAt, Cond.instanceMethod yX6_byteAt, Cond.selects RX6 yX6_byteAt yX6_byteAt, Cond.code yX6_byteAt cX6_byteAt 2 (some .int)]
def wsX6_takesHouse_r2 : List Cond := [Cond.fieldLink RX6 17 "WrongWayModel" "text" "[I", Cond.methodLink RX6 34 yX6_in, Cond.static yX6_in, Cond.code yX6_in cX6_in 6 (some .boolean)]
def wsX6_takesHouse : List Cond := .code yX6_takesHouse cX6_takesHouse 1 (some .boolean) :: ((wsX6_takesHouse_r1 ++ wsX6_takesHouse_r2) ++ wsX60)
def wsX6_takesLift_r1 : List Cond := [Cond.fieldLink RX6 7 "WrongWayModel" "w" "[I", Cond.fieldLink RX6 27 "WrongWayModel" "numbers" "[I", Cond.methodLink RX6 99 yX6_takes, Cond.instanceMethod yX6_takes, Cond.selects RX6 yX6_takes yX6_takes, Cond.initialized RX6, Cond.code yX6_takes cX6_takes 6 (some .boolean), Cond.fieldLink RX6 89 "WrongWayModel" "isFigures" "Z", Cond.fieldLink RX6 67 "WrongWayModel" "at" "I", Cond.fieldLink RX6 74 "WrongWayModel" "start" "I", Cond.methodLink RX6 96 yX6_token, Cond.instanceMethod yX6_token, Cond.selects RX6 yX6_token yX6_token, Cond.code yX6_token cX6_token 1 none, Cond.constantLong RX6 77 (97), Cond.constantLong RX6 79 (122), Cond.fieldLink RX6 81 "WrongWayModel" "isWord" "Z", Cond.constantLong RX6 85 (48), Cond.constantLong RX6 87 (57), Cond.fieldLink RX6 63 "WrongWayModel" "texted" "I", Cond.methodLink RX6 70 yX6_byteAt, Cond.instanceMethod yX6_byteAt, Cond.selects RX6 yX6_byteAt yX6_byteAt, Cond.code yX6_byteAt cX6_byteAt 2 (some .int)]
def wsX6_takesLift_r2 : List Cond := [Cond.fieldLink RX6 17 "WrongWayModel" "text" "[I", Cond.methodLink RX6 34 yX6_in, Cond.static yX6_in, Cond.code yX6_in cX6_in 6 (some .boolean), Cond.methodLink RX6 53 yX6_adds, Cond.instanceMethod yX6_adds, Cond.selects RX6 yX6_adds yX6_adds, Cond.code yX6_adds cX6_adds 5 (some .int)]
def wsX6_takesLift : List Cond := .code yX6_takesLift cX6_takesLift 1 (some .boolean) :: ((wsX6_takesLift_r1 ++ wsX6_takesLift_r2) ++ wsX60)
def wsX6_takesLine_r1 : List Cond := [Cond.fieldLink RX6 7 "WrongWayModel" "w" "[I", Cond.fieldLink RX6 27 "WrongWayModel" "numbers" "[I", Cond.methodLink RX6 99 yX6_takes, Cond.instanceMethod yX6_takes, Cond.selects RX6 yX6_takes yX6_takes, Cond.initialized RX6, Cond.code yX6_takes cX6_takes 6 (some .boolean), Cond.fieldLink RX6 89 "WrongWayModel" "isFigures" "Z", Cond.fieldLink RX6 67 "WrongWayModel" "at" "I", Cond.fieldLink RX6 74 "WrongWayModel" "start" "I", Cond.methodLink RX6 96 yX6_token, Cond.instanceMethod yX6_token, Cond.selects RX6 yX6_token yX6_token, Cond.code yX6_token cX6_token 1 none, Cond.constantLong RX6 77 (97), Cond.constantLong RX6 79 (122), Cond.fieldLink RX6 81 "WrongWayModel" "isWord" "Z", Cond.constantLong RX6 85 (48), Cond.constantLong RX6 87 (57), Cond.fieldLink RX6 63 "WrongWayModel" "texted" "I", Cond.methodLink RX6 70 yX6_byteAt, Cond.instanceMethod yX6_byteAt, Cond.selects RX6 yX6_byteAt yX6_byteAt, Cond.code yX6_byteAt cX6_byteAt 2 (some .int)]
def wsX6_takesLine_r2 : List Cond := [Cond.fieldLink RX6 17 "WrongWayModel" "text" "[I", Cond.methodLink RX6 34 yX6_in, Cond.static yX6_in, Cond.code yX6_in cX6_in 6 (some .boolean)]
def wsX6_takesLine : List Cond := .code yX6_takesLine cX6_takesLine 1 (some .boolean) :: ((wsX6_takesLine_r1 ++ wsX6_takesLine_r2) ++ wsX60)
def wsX6_takesItem_r1 : List Cond := [Cond.fieldLink RX6 74 "WrongWayModel" "start" "I", Cond.methodLink RX6 103 yX6_wordNow, Cond.instanceMethod yX6_wordNow, Cond.selects RX6 yX6_wordNow yX6_wordNow, Cond.initialized RX6, Cond.code yX6_wordNow cX6_wordNow 1 (some .int), Cond.methodLink RX6 92 yX6_isNamed, Cond.instanceMethod yX6_isNamed, Cond.selects RX6 yX6_isNamed yX6_isNamed, Cond.code yX6_isNamed cX6_isNamed 7 (some .boolean), Cond.fieldLink RX6 81 "WrongWayModel" "isWord" "Z", Cond.fieldLink RX6 67 "WrongWayModel" "at" "I", Cond.methodLink RX6 70 yX6_byteAt, Cond.instanceMethod yX6_byteAt, Cond.selects RX6 yX6_byteAt yX6_byteAt, Cond.code yX6_byteAt cX6_byteAt 2 (some .int), Cond.fieldLink RX6 63 "WrongWayModel" "texted" "I", Cond.fieldLink RX6 17 "WrongWayModel" "text" "[I", Cond.methodLink RX6 106 yX6_takesHouse, Cond.instanceMethod yX6_takesHouse, Cond.selects RX6 yX6_takesHouse yX6_takesHouse, Cond.code yX6_takesHouse cX6_takesHouse 1 (some .boolean), Cond.fieldLink RX6 7 "WrongWayModel" "w" "[I", Cond.fieldLink RX6 27 "WrongWayModel" "numbers" "[I"]
def wsX6_takesItem_r2 : List Cond := [Cond.methodLink RX6 99 yX6_takes, Cond.instanceMethod yX6_takes, Cond.selects RX6 yX6_takes yX6_takes, Cond.code yX6_takes cX6_takes 6 (some .boolean), Cond.fieldLink RX6 89 "WrongWayModel" "isFigures" "Z", Cond.methodLink RX6 96 yX6_token, Cond.instanceMethod yX6_token, Cond.selects RX6 yX6_token yX6_token, Cond.code yX6_token cX6_token 1 none, Cond.constantLong RX6 77 (97), Cond.constantLong RX6 79 (122), Cond.constantLong RX6 85 (48), Cond.constantLong RX6 87 (57), Cond.methodLink RX6 34 yX6_in, Cond.static yX6_in, Cond.code yX6_in cX6_in 6 (some .boolean), Cond.methodLink RX6 110 yX6_takesLift, Cond.instanceMethod yX6_takesLift, Cond.selects RX6 yX6_takesLift yX6_takesLift, Cond.code yX6_takesLift cX6_takesLift 1 (some .boolean), Cond.methodLink RX6 53 yX6_adds, Cond.instanceMethod yX6_adds, Cond.selects RX6 yX6_adds yX6_adds, Cond.code yX6_adds cX6_adds 5 (some .int)]
def wsX6_takesItem_r3 : List Cond := [Cond.methodLink RX6 113 yX6_takesLine, Cond.instanceMethod yX6_takesLine, Cond.selects RX6 yX6_takesLine yX6_takesLine, Cond.code yX6_takesLine cX6_takesLine 1 (some .boolean)]
def wsX6_takesItem : List Cond := .code yX6_takesItem cX6_takesItem 4 (some .boolean) :: ((wsX6_takesItem_r1 ++ (wsX6_takesItem_r2 ++ wsX6_takesItem_r3)) ++ wsX60)
def wsX6_read_r1 : List Cond := [Cond.fieldLink RX6 67 "WrongWayModel" "at" "I", Cond.fieldLink RX6 74 "WrongWayModel" "start" "I", Cond.fieldLink RX6 63 "WrongWayModel" "texted" "I", Cond.methodLink RX6 30 yX6_begins, Cond.instanceMethod yX6_begins, Cond.selects RX6 yX6_begins yX6_begins, Cond.initialized RX6, Cond.code yX6_begins cX6_begins 4 none, Cond.fieldLink RX6 7 "WrongWayModel" "w" "[I", Cond.methodLink RX6 96 yX6_token, Cond.instanceMethod yX6_token, Cond.selects RX6 yX6_token yX6_token, Cond.code yX6_token cX6_token 1 none, Cond.constantLong RX6 77 (97), Cond.constantLong RX6 79 (122), Cond.fieldLink RX6 81 "WrongWayModel" "isWord" "Z", Cond.constantLong RX6 85 (48), Cond.constantLong RX6 87 (57), Cond.fieldLink RX6 89 "WrongWayModel" "isFigures" "Z", Cond.methodLink RX6 70 yX6_byteAt, Cond.instanceMethod yX6_byteAt, Cond.selects RX6 yX6_byteAt yX6_byteAt, Cond.code yX6_byteAt cX6_byteAt 2 (some .int), Cond.fieldLink RX6 17 "WrongWayModel" "text" "[I"]
def wsX6_read_r2 : List Cond := [Cond.methodLink RX6 34 yX6_in, Cond.static yX6_in, Cond.code yX6_in cX6_in 6 (some .boolean), Cond.methodLink RX6 116 yX6_takesItem, Cond.instanceMethod yX6_takesItem, Cond.selects RX6 yX6_takesItem yX6_takesItem, Cond.code yX6_takesItem cX6_takesItem 4 (some .boolean), Cond.methodLink RX6 103 yX6_wordNow, Cond.instanceMethod yX6_wordNow, Cond.selects RX6 yX6_wordNow yX6_wordNow, Cond.code yX6_wordNow cX6_wordNow 1 (some .int), Cond.methodLink RX6 92 yX6_isNamed, Cond.instanceMethod yX6_isNamed, Cond.selects RX6 yX6_isNamed yX6_isNamed, Cond.code yX6_isNamed cX6_isNamed 7 (some .boolean), Cond.methodLink RX6 106 yX6_takesHouse, Cond.instanceMethod yX6_takesHouse, Cond.selects RX6 yX6_takesHouse yX6_takesHouse, Cond.code yX6_takesHouse cX6_takesHouse 1 (some .boolean), Cond.fieldLink RX6 27 "WrongWayModel" "numbers" "[I", Cond.methodLink RX6 99 yX6_takes, Cond.instanceMethod yX6_takes, Cond.selects RX6 yX6_takes yX6_takes, Cond.code yX6_takes cX6_takes 6 (some .boolean)]
def wsX6_read_r3 : List Cond := [Cond.methodLink RX6 110 yX6_takesLift, Cond.instanceMethod yX6_takesLift, Cond.selects RX6 yX6_takesLift yX6_takesLift, Cond.code yX6_takesLift cX6_takesLift 1 (some .boolean), Cond.methodLink RX6 53 yX6_adds, Cond.instanceMethod yX6_adds, Cond.selects RX6 yX6_adds yX6_adds, Cond.code yX6_adds cX6_adds 5 (some .int), Cond.methodLink RX6 113 yX6_takesLine, Cond.instanceMethod yX6_takesLine, Cond.selects RX6 yX6_takesLine yX6_takesLine, Cond.code yX6_takesLine cX6_takesLine 1 (some .boolean), Cond.methodLink RX6 120 yX6_copy, Cond.instanceMethod yX6_copy, Cond.selects RX6 yX6_copy yX6_copy, Cond.code yX6_copy cX6_copy 4 none]
def wsX6_read : List Cond := .code yX6_read cX6_read 2 (some .int) :: ((wsX6_read_r1 ++ (wsX6_read_r2 ++ wsX6_read_r3)) ++ wsX60)
def wsX6_roundOf : List Cond := .code yX6_roundOf cX6_roundOf 3 (some .int) :: ([.fieldLink RX6 7 "WrongWayModel" "w" "[I"] ++ wsX60)
def wsX6_plain : List Cond := .code yX6_plain cX6_plain 3 (some .int) :: ([.fieldLink RX6 7 "WrongWayModel" "w" "[I"] ++ wsX60)
def wsX6_rests : List Cond := .code yX6_rests cX6_rests 2 (some .int) :: ([.fieldLink RX6 7 "WrongWayModel" "w" "[I", .methodLink RX6 123 yX6_plain, .instanceMethod yX6_plain, .selects RX6 yX6_plain yX6_plain, .initialized RX6, .code yX6_plain cX6_plain 3 (some .int)] ++ wsX60)
def wsX6_floorOf : List Cond := .code yX6_floorOf cX6_floorOf 6 (some .int) :: ([.fieldLink RX6 7 "WrongWayModel" "w" "[I", .methodLink RX6 126 yX6_roundOf, .instanceMethod yX6_roundOf, .selects RX6 yX6_roundOf yX6_roundOf, .initialized RX6, .code yX6_roundOf cX6_roundOf 3 (some .int), .methodLink RX6 123 yX6_plain, .instanceMethod yX6_plain, .selects RX6 yX6_plain yX6_plain, .code yX6_plain cX6_plain 3 (some .int), .methodLink RX6 129 yX6_rests, .instanceMethod yX6_rests, .selects RX6 yX6_rests yX6_rests, .code yX6_rests cX6_rests 2 (some .int)] ++ wsX60)
def wsX6_floorIn : List Cond := .code yX6_floorIn cX6_floorIn 3 (some .int) :: ([.fieldLink RX6 7 "WrongWayModel" "w" "[I", .methodLink RX6 132 yX6_floorOf, .instanceMethod yX6_floorOf, .selects RX6 yX6_floorOf yX6_floorOf, .initialized RX6, .code yX6_floorOf cX6_floorOf 6 (some .int), .methodLink RX6 126 yX6_roundOf, .instanceMethod yX6_roundOf, .selects RX6 yX6_roundOf yX6_roundOf, .code yX6_roundOf cX6_roundOf 3 (some .int), .methodLink RX6 123 yX6_plain, .instanceMethod yX6_plain, .selects RX6 yX6_plain yX6_plain, .code yX6_plain cX6_plain 3 (some .int), .methodLink RX6 129 yX6_rests, .instanceMethod yX6_rests, .selects RX6 yX6_rests yX6_rests, .code yX6_rests cX6_rests 2 (some .int)] ++ wsX60)
def wsX6_isTaken : List Cond := .code yX6_isTaken cX6_isTaken 4 (some .boolean) :: ([.fieldLink RX6 7 "WrongWayModel" "w" "[I"] ++ wsX60)
def wsX6_wayIn : List Cond := .code yX6_wayIn cX6_wayIn 6 (some .int) :: ([.fieldLink RX6 7 "WrongWayModel" "w" "[I", .methodLink RX6 135 yX6_floorIn, .instanceMethod yX6_floorIn, .selects RX6 yX6_floorIn yX6_floorIn, .initialized RX6, .code yX6_floorIn cX6_floorIn 3 (some .int), .methodLink RX6 132 yX6_floorOf, .instanceMethod yX6_floorOf, .selects RX6 yX6_floorOf yX6_floorOf, .code yX6_floorOf cX6_floorOf 6 (some .int), .methodLink RX6 126 yX6_roundOf, .instanceMethod yX6_roundOf, .selects RX6 yX6_roundOf yX6_roundOf, .code yX6_roundOf cX6_roundOf 3 (some .int), .methodLink RX6 123 yX6_plain, .instanceMethod yX6_plain, .selects RX6 yX6_plain yX6_plain, .code yX6_plain cX6_plain 3 (some .int), .methodLink RX6 129 yX6_rests, .instanceMethod yX6_rests, .selects RX6 yX6_rests yX6_rests, .code yX6_rests cX6_rests 2 (some .int)] ++ wsX60)
def wsX6_isSeen_r1 : List Cond := [Cond.methodLink RX6 135 yX6_floorIn, Cond.instanceMethod yX6_floorIn, Cond.selects RX6 yX6_floorIn yX6_floorIn, Cond.initialized RX6, Cond.code yX6_floorIn cX6_floorIn 3 (some .int), Cond.fieldLink RX6 7 "WrongWayModel" "w" "[I", Cond.methodLink RX6 132 yX6_floorOf, Cond.instanceMethod yX6_floorOf, Cond.selects RX6 yX6_floorOf yX6_floorOf, Cond.code yX6_floorOf cX6_floorOf 6 (some .int), Cond.methodLink RX6 126 yX6_roundOf, Cond.instanceMethod yX6_roundOf, Cond.selects RX6 yX6_roundOf yX6_roundOf, Cond.code yX6_roundOf cX6_roundOf 3 (some .int), Cond.methodLink RX6 123 yX6_plain, Cond.instanceMethod yX6_plain, Cond.selects RX6 yX6_plain yX6_plain, Cond.code yX6_plain cX6_plain 3 (some .int), Cond.methodLink RX6 129 yX6_rests, Cond.instanceMethod yX6_rests, Cond.selects RX6 yX6_rests yX6_rests, Cond.code yX6_rests cX6_rests 2 (some .int), Cond.methodLink RX6 139 yX6_isTaken, Cond.instanceMethod yX6_isTaken]
def wsX6_isSeen_r2 : List Cond := [Cond.selects RX6 yX6_isTaken yX6_isTaken, Cond.code yX6_isTaken cX6_isTaken 4 (some .boolean)]
def wsX6_isSeen : List Cond := .code yX6_isSeen cX6_isSeen 4 (some .boolean) :: ((wsX6_isSeen_r1 ++ wsX6_isSeen_r2) ++ wsX60)
def wsX6_passes : List Cond := .code yX6_passes cX6_passes 3 (some .int) :: ([.constantLong RX6 48 (99), .fieldLink RX6 7 "WrongWayModel" "w" "[I", .methodLink RX6 34 yX6_in, .static yX6_in, .initialized RX6, .code yX6_in cX6_in 6 (some .boolean), .methodLink RX6 42 yX6_bad, .instanceMethod yX6_bad, .selects RX6 yX6_bad yX6_bad, .code yX6_bad cX6_bad 1 (some .int), .fieldLink RX6 20 "WrongWayModel" "refused" "[I"] ++ wsX60)
def wsX6_undo : List Cond := .code yX6_undo cX6_undo 1 (some .int) :: ([.fieldLink RX6 7 "WrongWayModel" "w" "[I", .methodLink RX6 143 yX6_no, .instanceMethod yX6_no, .selects RX6 yX6_no yX6_no, .initialized RX6, .code yX6_no cX6_no 1 (some .int), .fieldLink RX6 20 "WrongWayModel" "refused" "[I"] ++ wsX60)
def wsX6_of_r1 : List Cond := [Cond.constantLong RX6 46 (5), Cond.fieldLink RX6 7 "WrongWayModel" "w" "[I", Cond.methodLink RX6 146 yX6_isLift, Cond.instanceMethod yX6_isLift, Cond.selects RX6 yX6_isLift yX6_isLift, Cond.initialized RX6, Cond.code yX6_isLift cX6_isLift 2 (some .boolean), Cond.methodLink RX6 34 yX6_in, Cond.static yX6_in, Cond.code yX6_in cX6_in 6 (some .boolean), Cond.methodLink RX6 42 yX6_bad, Cond.instanceMethod yX6_bad, Cond.selects RX6 yX6_bad yX6_bad, Cond.code yX6_bad cX6_bad 1 (some .int), Cond.fieldLink RX6 20 "WrongWayModel" "refused" "[I", Cond.methodLink RX6 135 yX6_floorIn, Cond.instanceMethod yX6_floorIn, Cond.selects RX6 yX6_floorIn yX6_floorIn, Cond.code yX6_floorIn cX6_floorIn 3 (some .int), Cond.methodLink RX6 132 yX6_floorOf, Cond.instanceMethod yX6_floorOf, Cond.selects RX6 yX6_floorOf yX6_floorOf, Cond.code yX6_floorOf cX6_floorOf 6 (some .int), Cond.methodLink RX6 126 yX6_roundOf]
def wsX6_of_r2 : List Cond := [Cond.instanceMethod yX6_roundOf, Cond.selects RX6 yX6_roundOf yX6_roundOf, Cond.code yX6_roundOf cX6_roundOf 3 (some .int), Cond.methodLink RX6 123 yX6_plain, Cond.instanceMethod yX6_plain, Cond.selects RX6 yX6_plain yX6_plain, Cond.code yX6_plain cX6_plain 3 (some .int), Cond.methodLink RX6 129 yX6_rests, Cond.instanceMethod yX6_rests, Cond.selects RX6 yX6_rests yX6_rests, Cond.code yX6_rests cX6_rests 2 (some .int), Cond.methodLink RX6 149 yX6_wayIn, Cond.instanceMethod yX6_wayIn, Cond.selects RX6 yX6_wayIn yX6_wayIn, Cond.code yX6_wayIn cX6_wayIn 6 (some .int), Cond.methodLink RX6 139 yX6_isTaken, Cond.instanceMethod yX6_isTaken, Cond.selects RX6 yX6_isTaken yX6_isTaken, Cond.code yX6_isTaken cX6_isTaken 4 (some .boolean)]
def wsX6_of : List Cond := .code yX6_of cX6_of 4 (some .int) :: ((wsX6_of_r1 ++ wsX6_of_r2) ++ wsX60)
def wsX6_where_r1 : List Cond := [Cond.methodLink RX6 146 yX6_isLift, Cond.instanceMethod yX6_isLift, Cond.selects RX6 yX6_isLift yX6_isLift, Cond.initialized RX6, Cond.code yX6_isLift cX6_isLift 2 (some .boolean), Cond.fieldLink RX6 7 "WrongWayModel" "w" "[I", Cond.methodLink RX6 34 yX6_in, Cond.static yX6_in, Cond.code yX6_in cX6_in 6 (some .boolean), Cond.methodLink RX6 152 yX6_isMinute, Cond.static yX6_isMinute, Cond.code yX6_isMinute cX6_isMinute 1 (some .boolean), Cond.constantLong RX6 38 (999), Cond.methodLink RX6 135 yX6_floorIn, Cond.instanceMethod yX6_floorIn, Cond.selects RX6 yX6_floorIn yX6_floorIn, Cond.code yX6_floorIn cX6_floorIn 3 (some .int), Cond.methodLink RX6 132 yX6_floorOf, Cond.instanceMethod yX6_floorOf, Cond.selects RX6 yX6_floorOf yX6_floorOf, Cond.code yX6_floorOf cX6_floorOf 6 (some .int), Cond.methodLink RX6 126 yX6_roundOf, Cond.instanceMethod yX6_roundOf, Cond.selects RX6 yX6_roundOf yX6_roundOf]
def wsX6_where_r2 : List Cond := [Cond.code yX6_roundOf cX6_roundOf 3 (some .int), Cond.methodLink RX6 123 yX6_plain, Cond.instanceMethod yX6_plain, Cond.selects RX6 yX6_plain yX6_plain, Cond.code yX6_plain cX6_plain 3 (some .int), Cond.methodLink RX6 129 yX6_rests, Cond.instanceMethod yX6_rests, Cond.selects RX6 yX6_rests yX6_rests, Cond.code yX6_rests cX6_rests 2 (some .int), Cond.methodLink RX6 42 yX6_bad, Cond.instanceMethod yX6_bad, Cond.selects RX6 yX6_bad yX6_bad, Cond.code yX6_bad cX6_bad 1 (some .int), Cond.fieldLink RX6 20 "WrongWayModel" "refused" "[I"]
def wsX6_where : List Cond := .code yX6_where cX6_where 3 (some .int) :: ((wsX6_where_r1 ++ wsX6_where_r2) ++ wsX60)
def wsX6_comes_r1 : List Cond := [Cond.fieldLink RX6 7 "WrongWayModel" "w" "[I", Cond.fieldLink RX6 161 "WrongWayModel" "comer" "I", Cond.fieldLink RX6 164 "WrongWayModel" "coming" "I", Cond.methodLink RX6 155 yX6_has, Cond.static yX6_has, Cond.initialized RX6, Cond.code yX6_has cX6_has 2 (some .boolean), Cond.methodLink RX6 158 yX6_isSeen, Cond.instanceMethod yX6_isSeen, Cond.selects RX6 yX6_isSeen yX6_isSeen, Cond.code yX6_isSeen cX6_isSeen 4 (some .boolean), Cond.methodLink RX6 135 yX6_floorIn, Cond.instanceMethod yX6_floorIn, Cond.selects RX6 yX6_floorIn yX6_floorIn, Cond.code yX6_floorIn cX6_floorIn 3 (some .int), Cond.methodLink RX6 132 yX6_floorOf, Cond.instanceMethod yX6_floorOf, Cond.selects RX6 yX6_floorOf yX6_floorOf, Cond.code yX6_floorOf cX6_floorOf 6 (some .int), Cond.methodLink RX6 126 yX6_roundOf, Cond.instanceMethod yX6_roundOf, Cond.selects RX6 yX6_roundOf yX6_roundOf, Cond.code yX6_roundOf cX6_roundOf 3 (some .int), Cond.methodLink RX6 123 yX6_plain]
def wsX6_comes_r2 : List Cond := [Cond.instanceMethod yX6_plain, Cond.selects RX6 yX6_plain yX6_plain, Cond.code yX6_plain cX6_plain 3 (some .int), Cond.methodLink RX6 129 yX6_rests, Cond.instanceMethod yX6_rests, Cond.selects RX6 yX6_rests yX6_rests, Cond.code yX6_rests cX6_rests 2 (some .int), Cond.methodLink RX6 139 yX6_isTaken, Cond.instanceMethod yX6_isTaken, Cond.selects RX6 yX6_isTaken yX6_isTaken, Cond.code yX6_isTaken cX6_isTaken 4 (some .boolean), Cond.methodLink RX6 149 yX6_wayIn, Cond.instanceMethod yX6_wayIn, Cond.selects RX6 yX6_wayIn yX6_wayIn, Cond.code yX6_wayIn cX6_wayIn 6 (some .int)]
def wsX6_comes : List Cond := .code yX6_comes cX6_comes 8 (some .boolean) :: ((wsX6_comes_r1 ++ wsX6_comes_r2) ++ wsX60)
def wsX6_first_r1 : List Cond := [Cond.constantLong RX6 170 (2), Cond.fieldLink RX6 161 "WrongWayModel" "comer" "I", Cond.fieldLink RX6 164 "WrongWayModel" "coming" "I", Cond.methodLink RX6 167 yX6_isFloor, Cond.instanceMethod yX6_isFloor, Cond.selects RX6 yX6_isFloor yX6_isFloor, Cond.initialized RX6, Cond.code yX6_isFloor cX6_isFloor 2 (some .boolean), Cond.fieldLink RX6 7 "WrongWayModel" "w" "[I", Cond.methodLink RX6 34 yX6_in, Cond.static yX6_in, Cond.code yX6_in cX6_in 6 (some .boolean), Cond.methodLink RX6 152 yX6_isMinute, Cond.static yX6_isMinute, Cond.code yX6_isMinute cX6_isMinute 1 (some .boolean), Cond.constantLong RX6 38 (999), Cond.methodLink RX6 42 yX6_bad, Cond.instanceMethod yX6_bad, Cond.selects RX6 yX6_bad yX6_bad, Cond.code yX6_bad cX6_bad 1 (some .int), Cond.fieldLink RX6 20 "WrongWayModel" "refused" "[I", Cond.methodLink RX6 172 yX6_comes, Cond.instanceMethod yX6_comes, Cond.selects RX6 yX6_comes yX6_comes]
def wsX6_first_r2 : List Cond := [Cond.code yX6_comes cX6_comes 8 (some .boolean), Cond.methodLink RX6 155 yX6_has, Cond.static yX6_has, Cond.code yX6_has cX6_has 2 (some .boolean), Cond.methodLink RX6 158 yX6_isSeen, Cond.instanceMethod yX6_isSeen, Cond.selects RX6 yX6_isSeen yX6_isSeen, Cond.code yX6_isSeen cX6_isSeen 4 (some .boolean), Cond.methodLink RX6 135 yX6_floorIn, Cond.instanceMethod yX6_floorIn, Cond.selects RX6 yX6_floorIn yX6_floorIn, Cond.code yX6_floorIn cX6_floorIn 3 (some .int), Cond.methodLink RX6 132 yX6_floorOf, Cond.instanceMethod yX6_floorOf, Cond.selects RX6 yX6_floorOf yX6_floorOf, Cond.code yX6_floorOf cX6_floorOf 6 (some .int), Cond.methodLink RX6 126 yX6_roundOf, Cond.instanceMethod yX6_roundOf, Cond.selects RX6 yX6_roundOf yX6_roundOf, Cond.code yX6_roundOf cX6_roundOf 3 (some .int), Cond.methodLink RX6 123 yX6_plain, Cond.instanceMethod yX6_plain, Cond.selects RX6 yX6_plain yX6_plain, Cond.code yX6_plain cX6_plain 3 (some .int)]
def wsX6_first_r3 : List Cond := [Cond.methodLink RX6 129 yX6_rests, Cond.instanceMethod yX6_rests, Cond.selects RX6 yX6_rests yX6_rests, Cond.code yX6_rests cX6_rests 2 (some .int), Cond.methodLink RX6 139 yX6_isTaken, Cond.instanceMethod yX6_isTaken, Cond.selects RX6 yX6_isTaken yX6_isTaken, Cond.code yX6_isTaken cX6_isTaken 4 (some .boolean), Cond.methodLink RX6 149 yX6_wayIn, Cond.instanceMethod yX6_wayIn, Cond.selects RX6 yX6_wayIn yX6_wayIn, Cond.code yX6_wayIn cX6_wayIn 6 (some .int)]
def wsX6_first : List Cond := .code yX6_first cX6_first 4 (some .int) :: ((wsX6_first_r1 ++ (wsX6_first_r2 ++ wsX6_first_r3)) ++ wsX60)
def wsX6_tells : List Cond := .code yX6_tells cX6_tells 11 (some .int) :: ([.fieldLink RX6 176 "WrongWayModel" "above" "J", .fieldLink RX6 23 "WrongWayModel" "below" "J"] ++ wsX60)
def wsX6_often_r1 : List Cond := [Cond.fieldLink RX6 161 "WrongWayModel" "comer" "I", Cond.fieldLink RX6 164 "WrongWayModel" "coming" "I", Cond.methodLink RX6 167 yX6_isFloor, Cond.instanceMethod yX6_isFloor, Cond.selects RX6 yX6_isFloor yX6_isFloor, Cond.initialized RX6, Cond.code yX6_isFloor cX6_isFloor 2 (some .boolean), Cond.fieldLink RX6 7 "WrongWayModel" "w" "[I", Cond.methodLink RX6 34 yX6_in, Cond.static yX6_in, Cond.code yX6_in cX6_in 6 (some .boolean), Cond.methodLink RX6 42 yX6_bad, Cond.instanceMethod yX6_bad, Cond.selects RX6 yX6_bad yX6_bad, Cond.code yX6_bad cX6_bad 1 (some .int), Cond.fieldLink RX6 20 "WrongWayModel" "refused" "[I", Cond.methodLink RX6 172 yX6_comes, Cond.instanceMethod yX6_comes, Cond.selects RX6 yX6_comes yX6_comes, Cond.code yX6_comes cX6_comes 8 (some .boolean), Cond.methodLink RX6 155 yX6_has, Cond.static yX6_has, Cond.code yX6_has cX6_has 2 (some .boolean), Cond.methodLink RX6 158 yX6_isSeen]
def wsX6_often_r2 : List Cond := [Cond.instanceMethod yX6_isSeen, Cond.selects RX6 yX6_isSeen yX6_isSeen, Cond.code yX6_isSeen cX6_isSeen 4 (some .boolean), Cond.methodLink RX6 135 yX6_floorIn, Cond.instanceMethod yX6_floorIn, Cond.selects RX6 yX6_floorIn yX6_floorIn, Cond.code yX6_floorIn cX6_floorIn 3 (some .int), Cond.methodLink RX6 132 yX6_floorOf, Cond.instanceMethod yX6_floorOf, Cond.selects RX6 yX6_floorOf yX6_floorOf, Cond.code yX6_floorOf cX6_floorOf 6 (some .int), Cond.methodLink RX6 126 yX6_roundOf, Cond.instanceMethod yX6_roundOf, Cond.selects RX6 yX6_roundOf yX6_roundOf, Cond.code yX6_roundOf cX6_roundOf 3 (some .int), Cond.methodLink RX6 123 yX6_plain, Cond.instanceMethod yX6_plain, Cond.selects RX6 yX6_plain yX6_plain, Cond.code yX6_plain cX6_plain 3 (some .int), Cond.methodLink RX6 129 yX6_rests, Cond.instanceMethod yX6_rests, Cond.selects RX6 yX6_rests yX6_rests, Cond.code yX6_rests cX6_rests 2 (some .int), Cond.methodLink RX6 139 yX6_isTaken]
def wsX6_often_r3 : List Cond := [Cond.instanceMethod yX6_isTaken, Cond.selects RX6 yX6_isTaken yX6_isTaken, Cond.code yX6_isTaken cX6_isTaken 4 (some .boolean), Cond.methodLink RX6 149 yX6_wayIn, Cond.instanceMethod yX6_wayIn, Cond.selects RX6 yX6_wayIn yX6_wayIn, Cond.code yX6_wayIn cX6_wayIn 6 (some .int), Cond.methodLink RX6 143 yX6_no, Cond.instanceMethod yX6_no, Cond.selects RX6 yX6_no yX6_no, Cond.code yX6_no cX6_no 1 (some .int), Cond.methodLink RX6 179 yX6_tells, Cond.instanceMethod yX6_tells, Cond.selects RX6 yX6_tells yX6_tells, Cond.code yX6_tells cX6_tells 11 (some .int), Cond.fieldLink RX6 176 "WrongWayModel" "above" "J", Cond.fieldLink RX6 23 "WrongWayModel" "below" "J"]
def wsX6_often : List Cond := .code yX6_often cX6_often 6 (some .int) :: ((wsX6_often_r1 ++ (wsX6_often_r2 ++ wsX6_often_r3)) ++ wsX60)
def wsX6_own_r1 : List Cond := [Cond.fieldLink RX6 164 "WrongWayModel" "coming" "I", Cond.methodLink RX6 167 yX6_isFloor, Cond.instanceMethod yX6_isFloor, Cond.selects RX6 yX6_isFloor yX6_isFloor, Cond.initialized RX6, Cond.code yX6_isFloor cX6_isFloor 2 (some .boolean), Cond.fieldLink RX6 7 "WrongWayModel" "w" "[I", Cond.methodLink RX6 34 yX6_in, Cond.static yX6_in, Cond.code yX6_in cX6_in 6 (some .boolean), Cond.methodLink RX6 42 yX6_bad, Cond.instanceMethod yX6_bad, Cond.selects RX6 yX6_bad yX6_bad, Cond.code yX6_bad cX6_bad 1 (some .int), Cond.fieldLink RX6 20 "WrongWayModel" "refused" "[I", Cond.methodLink RX6 172 yX6_comes, Cond.instanceMethod yX6_comes, Cond.selects RX6 yX6_comes yX6_comes, Cond.code yX6_comes cX6_comes 8 (some .boolean), Cond.fieldLink RX6 161 "WrongWayModel" "comer" "I", Cond.methodLink RX6 155 yX6_has, Cond.static yX6_has, Cond.code yX6_has cX6_has 2 (some .boolean), Cond.methodLink RX6 158 yX6_isSeen]
def wsX6_own_r2 : List Cond := [Cond.instanceMethod yX6_isSeen, Cond.selects RX6 yX6_isSeen yX6_isSeen, Cond.code yX6_isSeen cX6_isSeen 4 (some .boolean), Cond.methodLink RX6 135 yX6_floorIn, Cond.instanceMethod yX6_floorIn, Cond.selects RX6 yX6_floorIn yX6_floorIn, Cond.code yX6_floorIn cX6_floorIn 3 (some .int), Cond.methodLink RX6 132 yX6_floorOf, Cond.instanceMethod yX6_floorOf, Cond.selects RX6 yX6_floorOf yX6_floorOf, Cond.code yX6_floorOf cX6_floorOf 6 (some .int), Cond.methodLink RX6 126 yX6_roundOf, Cond.instanceMethod yX6_roundOf, Cond.selects RX6 yX6_roundOf yX6_roundOf, Cond.code yX6_roundOf cX6_roundOf 3 (some .int), Cond.methodLink RX6 123 yX6_plain, Cond.instanceMethod yX6_plain, Cond.selects RX6 yX6_plain yX6_plain, Cond.code yX6_plain cX6_plain 3 (some .int), Cond.methodLink RX6 129 yX6_rests, Cond.instanceMethod yX6_rests, Cond.selects RX6 yX6_rests yX6_rests, Cond.code yX6_rests cX6_rests 2 (some .int), Cond.methodLink RX6 139 yX6_isTaken]
def wsX6_own_r3 : List Cond := [Cond.instanceMethod yX6_isTaken, Cond.selects RX6 yX6_isTaken yX6_isTaken, Cond.code yX6_isTaken cX6_isTaken 4 (some .boolean), Cond.methodLink RX6 149 yX6_wayIn, Cond.instanceMethod yX6_wayIn, Cond.selects RX6 yX6_wayIn yX6_wayIn, Cond.code yX6_wayIn cX6_wayIn 6 (some .int), Cond.methodLink RX6 143 yX6_no, Cond.instanceMethod yX6_no, Cond.selects RX6 yX6_no yX6_no, Cond.code yX6_no cX6_no 1 (some .int), Cond.methodLink RX6 179 yX6_tells, Cond.instanceMethod yX6_tells, Cond.selects RX6 yX6_tells yX6_tells, Cond.code yX6_tells cX6_tells 11 (some .int), Cond.fieldLink RX6 176 "WrongWayModel" "above" "J", Cond.fieldLink RX6 23 "WrongWayModel" "below" "J"]
def wsX6_own : List Cond := .code yX6_own cX6_own 6 (some .int) :: ((wsX6_own_r1 ++ (wsX6_own_r2 ++ wsX6_own_r3)) ++ wsX60)
def wsX6_rides_r1 : List Cond := [Cond.fieldLink RX6 161 "WrongWayModel" "comer" "I", Cond.fieldLink RX6 164 "WrongWayModel" "coming" "I", Cond.methodLink RX6 172 yX6_comes, Cond.instanceMethod yX6_comes, Cond.selects RX6 yX6_comes yX6_comes, Cond.initialized RX6, Cond.code yX6_comes cX6_comes 8 (some .boolean), Cond.fieldLink RX6 7 "WrongWayModel" "w" "[I", Cond.methodLink RX6 155 yX6_has, Cond.static yX6_has, Cond.code yX6_has cX6_has 2 (some .boolean), Cond.methodLink RX6 158 yX6_isSeen, Cond.instanceMethod yX6_isSeen, Cond.selects RX6 yX6_isSeen yX6_isSeen, Cond.code yX6_isSeen cX6_isSeen 4 (some .boolean), Cond.methodLink RX6 135 yX6_floorIn, Cond.instanceMethod yX6_floorIn, Cond.selects RX6 yX6_floorIn yX6_floorIn, Cond.code yX6_floorIn cX6_floorIn 3 (some .int), Cond.methodLink RX6 132 yX6_floorOf, Cond.instanceMethod yX6_floorOf, Cond.selects RX6 yX6_floorOf yX6_floorOf, Cond.code yX6_floorOf cX6_floorOf 6 (some .int), Cond.methodLink RX6 126 yX6_roundOf]
def wsX6_rides_r2 : List Cond := [Cond.instanceMethod yX6_roundOf, Cond.selects RX6 yX6_roundOf yX6_roundOf, Cond.code yX6_roundOf cX6_roundOf 3 (some .int), Cond.methodLink RX6 123 yX6_plain, Cond.instanceMethod yX6_plain, Cond.selects RX6 yX6_plain yX6_plain, Cond.code yX6_plain cX6_plain 3 (some .int), Cond.methodLink RX6 129 yX6_rests, Cond.instanceMethod yX6_rests, Cond.selects RX6 yX6_rests yX6_rests, Cond.code yX6_rests cX6_rests 2 (some .int), Cond.methodLink RX6 139 yX6_isTaken, Cond.instanceMethod yX6_isTaken, Cond.selects RX6 yX6_isTaken yX6_isTaken, Cond.code yX6_isTaken cX6_isTaken 4 (some .boolean), Cond.methodLink RX6 149 yX6_wayIn, Cond.instanceMethod yX6_wayIn, Cond.selects RX6 yX6_wayIn yX6_wayIn, Cond.code yX6_wayIn cX6_wayIn 6 (some .int)]
def wsX6_rides : List Cond := .code yX6_rides cX6_rides 6 (some .int) :: ((wsX6_rides_r1 ++ wsX6_rides_r2) ++ wsX60)
def wsX6_ride_r1 : List Cond := [Cond.methodLink RX6 167 yX6_isFloor, Cond.instanceMethod yX6_isFloor, Cond.selects RX6 yX6_isFloor yX6_isFloor, Cond.initialized RX6, Cond.code yX6_isFloor cX6_isFloor 2 (some .boolean), Cond.fieldLink RX6 7 "WrongWayModel" "w" "[I", Cond.methodLink RX6 34 yX6_in, Cond.static yX6_in, Cond.code yX6_in cX6_in 6 (some .boolean), Cond.methodLink RX6 152 yX6_isMinute, Cond.static yX6_isMinute, Cond.code yX6_isMinute cX6_isMinute 1 (some .boolean), Cond.constantLong RX6 38 (999), Cond.methodLink RX6 42 yX6_bad, Cond.instanceMethod yX6_bad, Cond.selects RX6 yX6_bad yX6_bad, Cond.code yX6_bad cX6_bad 1 (some .int), Cond.fieldLink RX6 20 "WrongWayModel" "refused" "[I", Cond.methodLink RX6 183 yX6_rides, Cond.instanceMethod yX6_rides, Cond.selects RX6 yX6_rides yX6_rides, Cond.code yX6_rides cX6_rides 6 (some .int), Cond.fieldLink RX6 161 "WrongWayModel" "comer" "I", Cond.fieldLink RX6 164 "WrongWayModel" "coming" "I"]
def wsX6_ride_r2 : List Cond := [Cond.methodLink RX6 172 yX6_comes, Cond.instanceMethod yX6_comes, Cond.selects RX6 yX6_comes yX6_comes, Cond.code yX6_comes cX6_comes 8 (some .boolean), Cond.methodLink RX6 155 yX6_has, Cond.static yX6_has, Cond.code yX6_has cX6_has 2 (some .boolean), Cond.methodLink RX6 158 yX6_isSeen, Cond.instanceMethod yX6_isSeen, Cond.selects RX6 yX6_isSeen yX6_isSeen, Cond.code yX6_isSeen cX6_isSeen 4 (some .boolean), Cond.methodLink RX6 135 yX6_floorIn, Cond.instanceMethod yX6_floorIn, Cond.selects RX6 yX6_floorIn yX6_floorIn, Cond.code yX6_floorIn cX6_floorIn 3 (some .int), Cond.methodLink RX6 132 yX6_floorOf, Cond.instanceMethod yX6_floorOf, Cond.selects RX6 yX6_floorOf yX6_floorOf, Cond.code yX6_floorOf cX6_floorOf 6 (some .int), Cond.methodLink RX6 126 yX6_roundOf, Cond.instanceMethod yX6_roundOf, Cond.selects RX6 yX6_roundOf yX6_roundOf, Cond.code yX6_roundOf cX6_roundOf 3 (some .int), Cond.methodLink RX6 123 yX6_plain]
def wsX6_ride_r3 : List Cond := [Cond.instanceMethod yX6_plain, Cond.selects RX6 yX6_plain yX6_plain, Cond.code yX6_plain cX6_plain 3 (some .int), Cond.methodLink RX6 129 yX6_rests, Cond.instanceMethod yX6_rests, Cond.selects RX6 yX6_rests yX6_rests, Cond.code yX6_rests cX6_rests 2 (some .int), Cond.methodLink RX6 139 yX6_isTaken, Cond.instanceMethod yX6_isTaken, Cond.selects RX6 yX6_isTaken yX6_isTaken, Cond.code yX6_isTaken cX6_isTaken 4 (some .boolean), Cond.methodLink RX6 149 yX6_wayIn, Cond.instanceMethod yX6_wayIn, Cond.selects RX6 yX6_wayIn yX6_wayIn, Cond.code yX6_wayIn cX6_wayIn 6 (some .int)]
def wsX6_ride : List Cond := .code yX6_ride cX6_ride 6 (some .int) :: ((wsX6_ride_r1 ++ (wsX6_ride_r2 ++ wsX6_ride_r3)) ++ wsX60)
def wsX6_walk_r1 : List Cond := [Cond.constant RX6 187 (1000000), Cond.fieldLink RX6 7 "WrongWayModel" "w" "[I", Cond.methodLink RX6 167 yX6_isFloor, Cond.instanceMethod yX6_isFloor, Cond.selects RX6 yX6_isFloor yX6_isFloor, Cond.initialized RX6, Cond.code yX6_isFloor cX6_isFloor 2 (some .boolean), Cond.methodLink RX6 34 yX6_in, Cond.static yX6_in, Cond.code yX6_in cX6_in 6 (some .boolean), Cond.methodLink RX6 152 yX6_isMinute, Cond.static yX6_isMinute, Cond.code yX6_isMinute cX6_isMinute 1 (some .boolean), Cond.constantLong RX6 38 (999), Cond.methodLink RX6 42 yX6_bad, Cond.instanceMethod yX6_bad, Cond.selects RX6 yX6_bad yX6_bad, Cond.code yX6_bad cX6_bad 1 (some .int), Cond.fieldLink RX6 20 "WrongWayModel" "refused" "[I", Cond.methodLink RX6 183 yX6_rides, Cond.instanceMethod yX6_rides, Cond.selects RX6 yX6_rides yX6_rides, Cond.code yX6_rides cX6_rides 6 (some .int), Cond.fieldLink RX6 161 "WrongWayModel" "comer" "I"]
def wsX6_walk_r2 : List Cond := [Cond.fieldLink RX6 164 "WrongWayModel" "coming" "I", Cond.methodLink RX6 172 yX6_comes, Cond.instanceMethod yX6_comes, Cond.selects RX6 yX6_comes yX6_comes, Cond.code yX6_comes cX6_comes 8 (some .boolean), Cond.methodLink RX6 155 yX6_has, Cond.static yX6_has, Cond.code yX6_has cX6_has 2 (some .boolean), Cond.methodLink RX6 158 yX6_isSeen, Cond.instanceMethod yX6_isSeen, Cond.selects RX6 yX6_isSeen yX6_isSeen, Cond.code yX6_isSeen cX6_isSeen 4 (some .boolean), Cond.methodLink RX6 135 yX6_floorIn, Cond.instanceMethod yX6_floorIn, Cond.selects RX6 yX6_floorIn yX6_floorIn, Cond.code yX6_floorIn cX6_floorIn 3 (some .int), Cond.methodLink RX6 132 yX6_floorOf, Cond.instanceMethod yX6_floorOf, Cond.selects RX6 yX6_floorOf yX6_floorOf, Cond.code yX6_floorOf cX6_floorOf 6 (some .int), Cond.methodLink RX6 126 yX6_roundOf, Cond.instanceMethod yX6_roundOf, Cond.selects RX6 yX6_roundOf yX6_roundOf, Cond.code yX6_roundOf cX6_roundOf 3 (some .int)]
def wsX6_walk_r3 : List Cond := [Cond.methodLink RX6 123 yX6_plain, Cond.instanceMethod yX6_plain, Cond.selects RX6 yX6_plain yX6_plain, Cond.code yX6_plain cX6_plain 3 (some .int), Cond.methodLink RX6 129 yX6_rests, Cond.instanceMethod yX6_rests, Cond.selects RX6 yX6_rests yX6_rests, Cond.code yX6_rests cX6_rests 2 (some .int), Cond.methodLink RX6 139 yX6_isTaken, Cond.instanceMethod yX6_isTaken, Cond.selects RX6 yX6_isTaken yX6_isTaken, Cond.code yX6_isTaken cX6_isTaken 4 (some .boolean), Cond.methodLink RX6 149 yX6_wayIn, Cond.instanceMethod yX6_wayIn, Cond.selects RX6 yX6_wayIn yX6_wayIn, Cond.code yX6_wayIn cX6_wayIn 6 (some .int)]
def wsX6_walk : List Cond := .code yX6_walk cX6_walk 12 (some .int) :: ((wsX6_walk_r1 ++ (wsX6_walk_r2 ++ wsX6_walk_r3)) ++ wsX60)
def wsX6_nextOf : List Cond := .code yX6_nextOf cX6_nextOf 4 (some .int) :: ([])
def wsX6_ofSixty : List Cond := .code yX6_ofSixty cX6_ofSixty 6 (some .int) :: ([.fieldLink RX6 7 "WrongWayModel" "w" "[I", .methodLink RX6 188 yX6_nextOf, .static yX6_nextOf, .initialized RX6, .code yX6_nextOf cX6_nextOf 4 (some .int)] ++ wsX60)
def wsX6_lines : List Cond := .code yX6_lines cX6_lines 1 (some .int) :: ([.constantLong RX6 194 (60), .methodLink RX6 191 yX6_ofSixty, .instanceMethod yX6_ofSixty, .selects RX6 yX6_ofSixty yX6_ofSixty, .initialized RX6, .code yX6_ofSixty cX6_ofSixty 6 (some .int), .fieldLink RX6 7 "WrongWayModel" "w" "[I", .methodLink RX6 188 yX6_nextOf, .static yX6_nextOf, .code yX6_nextOf cX6_nextOf 4 (some .int), .methodLink RX6 179 yX6_tells, .instanceMethod yX6_tells, .selects RX6 yX6_tells yX6_tells, .code yX6_tells cX6_tells 11 (some .int), .fieldLink RX6 176 "WrongWayModel" "above" "J", .fieldLink RX6 23 "WrongWayModel" "below" "J"] ++ wsX60)
def wsX6_even : List Cond := .code yX6_even cX6_even 5 (some .int) :: ([.constant RX6 187 (1000000), .methodLink RX6 191 yX6_ofSixty, .instanceMethod yX6_ofSixty, .selects RX6 yX6_ofSixty yX6_ofSixty, .initialized RX6, .code yX6_ofSixty cX6_ofSixty 6 (some .int), .fieldLink RX6 7 "WrongWayModel" "w" "[I", .methodLink RX6 188 yX6_nextOf, .static yX6_nextOf, .code yX6_nextOf cX6_nextOf 4 (some .int)] ++ wsX60)
def wsX6_note : List Cond := .code yX6_note cX6_note 6 (some .int) :: ([.constantLong RX6 48 (99), .fieldLink RX6 7 "WrongWayModel" "w" "[I", .methodLink RX6 146 yX6_isLift, .instanceMethod yX6_isLift, .selects RX6 yX6_isLift yX6_isLift, .initialized RX6, .code yX6_isLift cX6_isLift 2 (some .boolean), .methodLink RX6 34 yX6_in, .static yX6_in, .code yX6_in cX6_in 6 (some .boolean), .methodLink RX6 167 yX6_isFloor, .instanceMethod yX6_isFloor, .selects RX6 yX6_isFloor yX6_isFloor, .code yX6_isFloor cX6_isFloor 2 (some .boolean), .methodLink RX6 42 yX6_bad, .instanceMethod yX6_bad, .selects RX6 yX6_bad yX6_bad, .code yX6_bad cX6_bad 1 (some .int), .fieldLink RX6 20 "WrongWayModel" "refused" "[I", .methodLink RX6 50 yX6_full, .instanceMethod yX6_full, .selects RX6 yX6_full yX6_full, .code yX6_full cX6_full 1 (some .int)] ++ wsX60)
def wsX6_forget : List Cond := .code yX6_forget cX6_forget 2 (some .int) :: ([.fieldLink RX6 7 "WrongWayModel" "w" "[I"] ++ wsX60)
def wsX6_isSo : List Cond := .code yX6_isSo cX6_isSo 7 (some .boolean) :: ([.fieldLink RX6 7 "WrongWayModel" "w" "[I", .methodLink RX6 132 yX6_floorOf, .instanceMethod yX6_floorOf, .selects RX6 yX6_floorOf yX6_floorOf, .initialized RX6, .code yX6_floorOf cX6_floorOf 6 (some .int), .methodLink RX6 126 yX6_roundOf, .instanceMethod yX6_roundOf, .selects RX6 yX6_roundOf yX6_roundOf, .code yX6_roundOf cX6_roundOf 3 (some .int), .methodLink RX6 123 yX6_plain, .instanceMethod yX6_plain, .selects RX6 yX6_plain yX6_plain, .code yX6_plain cX6_plain 3 (some .int), .methodLink RX6 129 yX6_rests, .instanceMethod yX6_rests, .selects RX6 yX6_rests yX6_rests, .code yX6_rests cX6_rests 2 (some .int)] ++ wsX60)
def wsX6_kindsOf : List Cond := .code yX6_kindsOf cX6_kindsOf 4 (some .int) :: ([.fieldLink RX6 7 "WrongWayModel" "w" "[I", .methodLink RX6 196 yX6_isSo, .instanceMethod yX6_isSo, .selects RX6 yX6_isSo yX6_isSo, .initialized RX6, .code yX6_isSo cX6_isSo 7 (some .boolean), .methodLink RX6 132 yX6_floorOf, .instanceMethod yX6_floorOf, .selects RX6 yX6_floorOf yX6_floorOf, .code yX6_floorOf cX6_floorOf 6 (some .int), .methodLink RX6 126 yX6_roundOf, .instanceMethod yX6_roundOf, .selects RX6 yX6_roundOf yX6_roundOf, .code yX6_roundOf cX6_roundOf 3 (some .int), .methodLink RX6 123 yX6_plain, .instanceMethod yX6_plain, .selects RX6 yX6_plain yX6_plain, .code yX6_plain cX6_plain 3 (some .int), .methodLink RX6 129 yX6_rests, .instanceMethod yX6_rests, .selects RX6 yX6_rests yX6_rests, .code yX6_rests cX6_rests 2 (some .int)] ++ wsX60)
def wsX6_is_r1 : List Cond := [Cond.fieldLink RX6 7 "WrongWayModel" "w" "[I", Cond.methodLink RX6 146 yX6_isLift, Cond.instanceMethod yX6_isLift, Cond.selects RX6 yX6_isLift yX6_isLift, Cond.initialized RX6, Cond.code yX6_isLift cX6_isLift 2 (some .boolean), Cond.methodLink RX6 34 yX6_in, Cond.static yX6_in, Cond.code yX6_in cX6_in 6 (some .boolean), Cond.methodLink RX6 42 yX6_bad, Cond.instanceMethod yX6_bad, Cond.selects RX6 yX6_bad yX6_bad, Cond.code yX6_bad cX6_bad 1 (some .int), Cond.fieldLink RX6 20 "WrongWayModel" "refused" "[I", Cond.methodLink RX6 199 yX6_kindsOf, Cond.instanceMethod yX6_kindsOf, Cond.selects RX6 yX6_kindsOf yX6_kindsOf, Cond.code yX6_kindsOf cX6_kindsOf 4 (some .int), Cond.methodLink RX6 196 yX6_isSo, Cond.instanceMethod yX6_isSo, Cond.selects RX6 yX6_isSo yX6_isSo, Cond.code yX6_isSo cX6_isSo 7 (some .boolean), Cond.methodLink RX6 132 yX6_floorOf, Cond.instanceMethod yX6_floorOf]
def wsX6_is_r2 : List Cond := [Cond.selects RX6 yX6_floorOf yX6_floorOf, Cond.code yX6_floorOf cX6_floorOf 6 (some .int), Cond.methodLink RX6 126 yX6_roundOf, Cond.instanceMethod yX6_roundOf, Cond.selects RX6 yX6_roundOf yX6_roundOf, Cond.code yX6_roundOf cX6_roundOf 3 (some .int), Cond.methodLink RX6 123 yX6_plain, Cond.instanceMethod yX6_plain, Cond.selects RX6 yX6_plain yX6_plain, Cond.code yX6_plain cX6_plain 3 (some .int), Cond.methodLink RX6 129 yX6_rests, Cond.instanceMethod yX6_rests, Cond.selects RX6 yX6_rests yX6_rests, Cond.code yX6_rests cX6_rests 2 (some .int)]
def wsX6_is : List Cond := .code yX6_is cX6_is 5 (some .int) :: ((wsX6_is_r1 ++ wsX6_is_r2) ++ wsX60)
def wsX6_look_r1 : List Cond := [Cond.constant RX6 187 (1000000), Cond.fieldLink RX6 7 "WrongWayModel" "w" "[I", Cond.methodLink RX6 146 yX6_isLift, Cond.instanceMethod yX6_isLift, Cond.selects RX6 yX6_isLift yX6_isLift, Cond.initialized RX6, Cond.code yX6_isLift cX6_isLift 2 (some .boolean), Cond.methodLink RX6 34 yX6_in, Cond.static yX6_in, Cond.code yX6_in cX6_in 6 (some .boolean), Cond.methodLink RX6 167 yX6_isFloor, Cond.instanceMethod yX6_isFloor, Cond.selects RX6 yX6_isFloor yX6_isFloor, Cond.code yX6_isFloor cX6_isFloor 2 (some .boolean), Cond.methodLink RX6 42 yX6_bad, Cond.instanceMethod yX6_bad, Cond.selects RX6 yX6_bad yX6_bad, Cond.code yX6_bad cX6_bad 1 (some .int), Cond.fieldLink RX6 20 "WrongWayModel" "refused" "[I", Cond.methodLink RX6 199 yX6_kindsOf, Cond.instanceMethod yX6_kindsOf, Cond.selects RX6 yX6_kindsOf yX6_kindsOf, Cond.code yX6_kindsOf cX6_kindsOf 4 (some .int), Cond.methodLink RX6 196 yX6_isSo]
def wsX6_look_r2 : List Cond := [Cond.instanceMethod yX6_isSo, Cond.selects RX6 yX6_isSo yX6_isSo, Cond.code yX6_isSo cX6_isSo 7 (some .boolean), Cond.methodLink RX6 132 yX6_floorOf, Cond.instanceMethod yX6_floorOf, Cond.selects RX6 yX6_floorOf yX6_floorOf, Cond.code yX6_floorOf cX6_floorOf 6 (some .int), Cond.methodLink RX6 126 yX6_roundOf, Cond.instanceMethod yX6_roundOf, Cond.selects RX6 yX6_roundOf yX6_roundOf, Cond.code yX6_roundOf cX6_roundOf 3 (some .int), Cond.methodLink RX6 123 yX6_plain, Cond.instanceMethod yX6_plain, Cond.selects RX6 yX6_plain yX6_plain, Cond.code yX6_plain cX6_plain 3 (some .int), Cond.methodLink RX6 129 yX6_rests, Cond.instanceMethod yX6_rests, Cond.selects RX6 yX6_rests yX6_rests, Cond.code yX6_rests cX6_rests 2 (some .int), Cond.methodLink RX6 155 yX6_has, Cond.static yX6_has, Cond.code yX6_has cX6_has 2 (some .boolean)]
def wsX6_look : List Cond := .code yX6_look cX6_look 11 (some .int) :: ((wsX6_look_r1 ++ wsX6_look_r2) ++ wsX60)
def wsX6_porters_r1 : List Cond := [Cond.constantLong RX6 202 (200), Cond.constantLong RX6 204 (10), Cond.fieldLink RX6 7 "WrongWayModel" "w" "[I", Cond.fieldLink RX6 164 "WrongWayModel" "coming" "I", Cond.methodLink RX6 167 yX6_isFloor, Cond.instanceMethod yX6_isFloor, Cond.selects RX6 yX6_isFloor yX6_isFloor, Cond.initialized RX6, Cond.code yX6_isFloor cX6_isFloor 2 (some .boolean), Cond.methodLink RX6 34 yX6_in, Cond.static yX6_in, Cond.code yX6_in cX6_in 6 (some .boolean), Cond.methodLink RX6 152 yX6_isMinute, Cond.static yX6_isMinute, Cond.code yX6_isMinute cX6_isMinute 1 (some .boolean), Cond.constantLong RX6 38 (999), Cond.methodLink RX6 42 yX6_bad, Cond.instanceMethod yX6_bad, Cond.selects RX6 yX6_bad yX6_bad, Cond.code yX6_bad cX6_bad 1 (some .int), Cond.fieldLink RX6 20 "WrongWayModel" "refused" "[I", Cond.methodLink RX6 155 yX6_has, Cond.static yX6_has, Cond.code yX6_has cX6_has 2 (some .boolean)]
def wsX6_porters_r2 : List Cond := [Cond.methodLink RX6 172 yX6_comes, Cond.instanceMethod yX6_comes, Cond.selects RX6 yX6_comes yX6_comes, Cond.code yX6_comes cX6_comes 8 (some .boolean), Cond.fieldLink RX6 161 "WrongWayModel" "comer" "I", Cond.methodLink RX6 158 yX6_isSeen, Cond.instanceMethod yX6_isSeen, Cond.selects RX6 yX6_isSeen yX6_isSeen, Cond.code yX6_isSeen cX6_isSeen 4 (some .boolean), Cond.methodLink RX6 135 yX6_floorIn, Cond.instanceMethod yX6_floorIn, Cond.selects RX6 yX6_floorIn yX6_floorIn, Cond.code yX6_floorIn cX6_floorIn 3 (some .int), Cond.methodLink RX6 132 yX6_floorOf, Cond.instanceMethod yX6_floorOf, Cond.selects RX6 yX6_floorOf yX6_floorOf, Cond.code yX6_floorOf cX6_floorOf 6 (some .int), Cond.methodLink RX6 126 yX6_roundOf, Cond.instanceMethod yX6_roundOf, Cond.selects RX6 yX6_roundOf yX6_roundOf, Cond.code yX6_roundOf cX6_roundOf 3 (some .int), Cond.methodLink RX6 123 yX6_plain, Cond.instanceMethod yX6_plain, Cond.selects RX6 yX6_plain yX6_plain]
def wsX6_porters_r3 : List Cond := [Cond.code yX6_plain cX6_plain 3 (some .int), Cond.methodLink RX6 129 yX6_rests, Cond.instanceMethod yX6_rests, Cond.selects RX6 yX6_rests yX6_rests, Cond.code yX6_rests cX6_rests 2 (some .int), Cond.methodLink RX6 139 yX6_isTaken, Cond.instanceMethod yX6_isTaken, Cond.selects RX6 yX6_isTaken yX6_isTaken, Cond.code yX6_isTaken cX6_isTaken 4 (some .boolean), Cond.methodLink RX6 149 yX6_wayIn, Cond.instanceMethod yX6_wayIn, Cond.selects RX6 yX6_wayIn yX6_wayIn, Cond.code yX6_wayIn cX6_wayIn 6 (some .int), Cond.methodLink RX6 179 yX6_tells, Cond.instanceMethod yX6_tells, Cond.selects RX6 yX6_tells yX6_tells, Cond.code yX6_tells cX6_tells 11 (some .int), Cond.fieldLink RX6 176 "WrongWayModel" "above" "J", Cond.fieldLink RX6 23 "WrongWayModel" "below" "J"]
def wsX6_porters : List Cond := .code yX6_porters cX6_porters 10 (some .int) :: ((wsX6_porters_r1 ++ (wsX6_porters_r2 ++ wsX6_porters_r3)) ++ wsX60)
def wsX6_days_r1 : List Cond := [Cond.constantLong RX6 206 (999999), Cond.constantLong RX6 194 (60), Cond.constantLong RX6 208 (1103515245), Cond.constantLong RX6 210 (12345), Cond.constantLong RX6 212 (2147483648), Cond.constantLong RX6 214 (65536), Cond.constantLong RX6 216 (120), Cond.fieldLink RX6 161 "WrongWayModel" "comer" "I", Cond.fieldLink RX6 164 "WrongWayModel" "coming" "I", Cond.methodLink RX6 167 yX6_isFloor, Cond.instanceMethod yX6_isFloor, Cond.selects RX6 yX6_isFloor yX6_isFloor, Cond.initialized RX6, Cond.code yX6_isFloor cX6_isFloor 2 (some .boolean), Cond.fieldLink RX6 7 "WrongWayModel" "w" "[I", Cond.methodLink RX6 34 yX6_in, Cond.static yX6_in, Cond.code yX6_in cX6_in 6 (some .boolean), Cond.methodLink RX6 42 yX6_bad, Cond.instanceMethod yX6_bad, Cond.selects RX6 yX6_bad yX6_bad, Cond.code yX6_bad cX6_bad 1 (some .int), Cond.fieldLink RX6 20 "WrongWayModel" "refused" "[I", Cond.methodLink RX6 172 yX6_comes]
def wsX6_days_r2 : List Cond := [Cond.instanceMethod yX6_comes, Cond.selects RX6 yX6_comes yX6_comes, Cond.code yX6_comes cX6_comes 8 (some .boolean), Cond.methodLink RX6 155 yX6_has, Cond.static yX6_has, Cond.code yX6_has cX6_has 2 (some .boolean), Cond.methodLink RX6 158 yX6_isSeen, Cond.instanceMethod yX6_isSeen, Cond.selects RX6 yX6_isSeen yX6_isSeen, Cond.code yX6_isSeen cX6_isSeen 4 (some .boolean), Cond.methodLink RX6 135 yX6_floorIn, Cond.instanceMethod yX6_floorIn, Cond.selects RX6 yX6_floorIn yX6_floorIn, Cond.code yX6_floorIn cX6_floorIn 3 (some .int), Cond.methodLink RX6 132 yX6_floorOf, Cond.instanceMethod yX6_floorOf, Cond.selects RX6 yX6_floorOf yX6_floorOf, Cond.code yX6_floorOf cX6_floorOf 6 (some .int), Cond.methodLink RX6 126 yX6_roundOf, Cond.instanceMethod yX6_roundOf, Cond.selects RX6 yX6_roundOf yX6_roundOf, Cond.code yX6_roundOf cX6_roundOf 3 (some .int), Cond.methodLink RX6 123 yX6_plain, Cond.instanceMethod yX6_plain]
def wsX6_days_r3 : List Cond := [Cond.selects RX6 yX6_plain yX6_plain, Cond.code yX6_plain cX6_plain 3 (some .int), Cond.methodLink RX6 129 yX6_rests, Cond.instanceMethod yX6_rests, Cond.selects RX6 yX6_rests yX6_rests, Cond.code yX6_rests cX6_rests 2 (some .int), Cond.methodLink RX6 139 yX6_isTaken, Cond.instanceMethod yX6_isTaken, Cond.selects RX6 yX6_isTaken yX6_isTaken, Cond.code yX6_isTaken cX6_isTaken 4 (some .boolean), Cond.methodLink RX6 149 yX6_wayIn, Cond.instanceMethod yX6_wayIn, Cond.selects RX6 yX6_wayIn yX6_wayIn, Cond.code yX6_wayIn cX6_wayIn 6 (some .int)]
def wsX6_days : List Cond := .code yX6_days cX6_days 9 (some .int) :: ((wsX6_days_r1 ++ (wsX6_days_r2 ++ wsX6_days_r3)) ++ wsX60)
def wsX6_part : List Cond := .code yX6_part cX6_part 2 (some .long) :: ([.fieldLink RX6 176 "WrongWayModel" "above" "J", .fieldLink RX6 23 "WrongWayModel" "below" "J", .methodLink RX6 42 yX6_bad, .instanceMethod yX6_bad, .selects RX6 yX6_bad yX6_bad, .initialized RX6, .code yX6_bad cX6_bad 1 (some .int), .fieldLink RX6 20 "WrongWayModel" "refused" "[I"] ++ wsX60)
def wsX6_image : List Cond := .code yX6_image cX6_image 2 (some .int) :: ([.fieldLink RX6 13 "WrongWayModel" "isKept" "[Z", .methodLink RX6 34 yX6_in, .static yX6_in, .initialized RX6, .code yX6_in cX6_in 6 (some .boolean), .methodLink RX6 42 yX6_bad, .instanceMethod yX6_bad, .selects RX6 yX6_bad yX6_bad, .code yX6_bad cX6_bad 1 (some .int), .fieldLink RX6 20 "WrongWayModel" "refused" "[I", .methodLink RX6 120 yX6_copy, .instanceMethod yX6_copy, .selects RX6 yX6_copy yX6_copy, .code yX6_copy cX6_copy 4 none, .fieldLink RX6 7 "WrongWayModel" "w" "[I"] ++ wsX60)
def wsX6_from : List Cond := .code yX6_from cX6_from 2 (some .int) :: ([.fieldLink RX6 13 "WrongWayModel" "isKept" "[Z", .methodLink RX6 34 yX6_in, .static yX6_in, .initialized RX6, .code yX6_in cX6_in 6 (some .boolean), .methodLink RX6 42 yX6_bad, .instanceMethod yX6_bad, .selects RX6 yX6_bad yX6_bad, .code yX6_bad cX6_bad 1 (some .int), .fieldLink RX6 20 "WrongWayModel" "refused" "[I", .methodLink RX6 143 yX6_no, .instanceMethod yX6_no, .selects RX6 yX6_no yX6_no, .code yX6_no cX6_no 1 (some .int), .methodLink RX6 120 yX6_copy, .instanceMethod yX6_copy, .selects RX6 yX6_copy yX6_copy, .code yX6_copy cX6_copy 4 none, .fieldLink RX6 7 "WrongWayModel" "w" "[I"] ++ wsX60)
def wsX6_status : List Cond := .code yX6_status cX6_status 2 (some .int) :: ([.constantLong RX6 170 (2), .fieldLink RX6 20 "WrongWayModel" "refused" "[I", .methodLink RX6 34 yX6_in, .static yX6_in, .initialized RX6, .code yX6_in cX6_in 6 (some .boolean), .methodLink RX6 218 yX6_badAs, .instanceMethod yX6_badAs, .selects RX6 yX6_badAs yX6_badAs, .code yX6_badAs cX6_badAs 2 (some .int)] ++ wsX60)
def wsX6_countOf : List Cond := .code yX6_countOf cX6_countOf 2 (some .int) :: ([.fieldLink RX6 63 "WrongWayModel" "texted" "I", .fieldLink RX6 7 "WrongWayModel" "w" "[I"] ++ wsX60)
def wsX6_count : List Cond := .code yX6_count cX6_count 2 (some .int) :: ([.constantLong RX6 46 (5), .methodLink RX6 34 yX6_in, .static yX6_in, .initialized RX6, .code yX6_in cX6_in 6 (some .boolean), .methodLink RX6 221 yX6_countOf, .instanceMethod yX6_countOf, .selects RX6 yX6_countOf yX6_countOf, .code yX6_countOf cX6_countOf 2 (some .int), .fieldLink RX6 63 "WrongWayModel" "texted" "I", .fieldLink RX6 7 "WrongWayModel" "w" "[I", .methodLink RX6 42 yX6_bad, .instanceMethod yX6_bad, .selects RX6 yX6_bad yX6_bad, .code yX6_bad cX6_bad 1 (some .int), .fieldLink RX6 20 "WrongWayModel" "refused" "[I"] ++ wsX60)
def wsX6_mix : List Cond := .code yX6_mix cX6_mix 3 none :: ([.constantLong RX6 224 (31), .fieldLink RX6 226 "WrongWayModel" "h" "J"] ++ wsX60)
def wsX6_digest : List Cond := .code yX6_digest cX6_digest 2 (some .long) :: ([.constantLong RX6 229 (1123), .fieldLink RX6 226 "WrongWayModel" "h" "J", .fieldLink RX6 7 "WrongWayModel" "w" "[I", .fieldLink RX6 176 "WrongWayModel" "above" "J", .fieldLink RX6 23 "WrongWayModel" "below" "J", .methodLink RX6 221 yX6_countOf, .instanceMethod yX6_countOf, .selects RX6 yX6_countOf yX6_countOf, .initialized RX6, .code yX6_countOf cX6_countOf 2 (some .int), .fieldLink RX6 63 "WrongWayModel" "texted" "I", .methodLink RX6 231 yX6_mix, .instanceMethod yX6_mix, .selects RX6 yX6_mix yX6_mix, .code yX6_mix cX6_mix 3 none, .constantLong RX6 224 (31)] ++ wsX60)
def wsJ9_abs_0f7a4 : List Cond := .code yJ9_abs_0f7a4 cJ9_abs_0f7a4 1 (some .int) :: ([])
def wsJ9_max_7cf53 : List Cond := .code yJ9_max_7cf53 cJ9_max_7cf53 2 (some .int) :: ([])
def wsJ9_min_7cf53 : List Cond := .code yJ9_min_7cf53 cJ9_min_7cf53 2 (some .int) :: ([])
theorem dX0_init_0 : decode cX0_init 0 = .ok (.aload_n 0, 1) := by decide +kernel
theorem dX0_init_1 : decode cX0_init 1 = .ok (.invokespecial 1, 3) := by decide +kernel
theorem dX0_init_4 : decode cX0_init 4 = .ok (.aload_n 0, 1) := by decide +kernel
theorem dX0_init_5 : decode cX0_init 5 = .ok (.lconst 0, 1) := by decide +kernel
theorem dX0_init_6 : decode cX0_init 6 = .ok (.putfield 7, 3) := by decide +kernel
theorem dX0_init_9 : decode cX0_init 9 = .ok (.aload_n 0, 1) := by decide +kernel
theorem dX0_init_10 : decode cX0_init 10 = .ok (.lconst 1, 1) := by decide +kernel
theorem dX0_init_11 : decode cX0_init 11 = .ok (.putfield 13, 3) := by decide +kernel
theorem dX0_init_14 : decode cX0_init 14 = .ok (.return_, 1) := by decide +kernel
set_option maxRecDepth 20000 in
theorem ggX0_set_X0_commonDivisor : GoodIn wsX0_set wsX0_commonDivisor := goodIn_r _ [6] (by decide +kernel) (by decide +kernel)
set_option maxRecDepth 20000 in
theorem gX0_set_X0_commonDivisor : GoodIn wsX0_set (va_wsS RX0 16 yX0_commonDivisor wsX0_commonDivisor) := goodIn_app (goodIn_of _ (by decide +kernel)) ggX0_set_X0_commonDivisor
theorem dX0_set_0 : decode cX0_set 0 = .ok (.lload_n 1, 1) := by decide +kernel
theorem dX0_set_1 : decode cX0_set 1 = .ok (.lload_n 3, 1) := by decide +kernel
theorem dX0_set_2 : decode cX0_set 2 = .ok (.invokestatic 16, 3) := by decide +kernel
theorem dX0_set_5 : decode cX0_set 5 = .ok (.lstore 5, 2) := by decide +kernel
theorem dX0_set_7 : decode cX0_set 7 = .ok (.lload 5, 2) := by decide +kernel
theorem dX0_set_9 : decode cX0_set 9 = .ok (.lconst 0, 1) := by decide +kernel
theorem dX0_set_10 : decode cX0_set 10 = .ok (.lcmp, 1) := by decide +kernel
theorem dX0_set_11 : decode cX0_set 11 = .ok (.ifCond .le 19, 3) := by decide +kernel
theorem dX0_set_14 : decode cX0_set 14 = .ok (.aload_n 0, 1) := by decide +kernel
theorem dX0_set_15 : decode cX0_set 15 = .ok (.lload_n 1, 1) := by decide +kernel
theorem dX0_set_16 : decode cX0_set 16 = .ok (.lload 5, 2) := by decide +kernel
theorem dX0_set_18 : decode cX0_set 18 = .ok (.ldiv, 1) := by decide +kernel
theorem dX0_set_19 : decode cX0_set 19 = .ok (.putfield 7, 3) := by decide +kernel
theorem dX0_set_22 : decode cX0_set 22 = .ok (.aload_n 0, 1) := by decide +kernel
theorem dX0_set_23 : decode cX0_set 23 = .ok (.lload_n 3, 1) := by decide +kernel
theorem dX0_set_24 : decode cX0_set 24 = .ok (.lload 5, 2) := by decide +kernel
theorem dX0_set_26 : decode cX0_set 26 = .ok (.ldiv, 1) := by decide +kernel
theorem dX0_set_27 : decode cX0_set 27 = .ok (.putfield 13, 3) := by decide +kernel
theorem dX0_set_30 : decode cX0_set 30 = .ok (.return_, 1) := by decide +kernel
theorem dX0_commonDivisor_0 : decode cX0_commonDivisor 0 = .ok (.lload_n 0, 1) := by decide +kernel
theorem dX0_commonDivisor_1 : decode cX0_commonDivisor 1 = .ok (.lstore 4, 2) := by decide +kernel
theorem dX0_commonDivisor_3 : decode cX0_commonDivisor 3 = .ok (.lload_n 2, 1) := by decide +kernel
theorem dX0_commonDivisor_4 : decode cX0_commonDivisor 4 = .ok (.lstore 6, 2) := by decide +kernel
theorem dX0_commonDivisor_6 : decode cX0_commonDivisor 6 = .ok (.iconst 0, 1) := by decide +kernel
theorem dX0_commonDivisor_7 : decode cX0_commonDivisor 7 = .ok (.istore 8, 2) := by decide +kernel
theorem dX0_commonDivisor_9 : decode cX0_commonDivisor 9 = .ok (.iload 8, 2) := by decide +kernel
theorem dX0_commonDivisor_11 : decode cX0_commonDivisor 11 = .ok (.bipush 100, 2) := by decide +kernel
theorem dX0_commonDivisor_13 : decode cX0_commonDivisor 13 = .ok (.if_icmp .ge 31, 3) := by decide +kernel
theorem dX0_commonDivisor_16 : decode cX0_commonDivisor 16 = .ok (.lload 6, 2) := by decide +kernel
theorem dX0_commonDivisor_18 : decode cX0_commonDivisor 18 = .ok (.lconst 0, 1) := by decide +kernel
theorem dX0_commonDivisor_19 : decode cX0_commonDivisor 19 = .ok (.lcmp, 1) := by decide +kernel
theorem dX0_commonDivisor_20 : decode cX0_commonDivisor 20 = .ok (.ifCond .eq 24, 3) := by decide +kernel
theorem dX0_commonDivisor_23 : decode cX0_commonDivisor 23 = .ok (.lload 4, 2) := by decide +kernel
theorem dX0_commonDivisor_25 : decode cX0_commonDivisor 25 = .ok (.lload 6, 2) := by decide +kernel
theorem dX0_commonDivisor_27 : decode cX0_commonDivisor 27 = .ok (.lrem, 1) := by decide +kernel
theorem dX0_commonDivisor_28 : decode cX0_commonDivisor 28 = .ok (.lstore 9, 2) := by decide +kernel
theorem dX0_commonDivisor_30 : decode cX0_commonDivisor 30 = .ok (.lload 6, 2) := by decide +kernel
theorem dX0_commonDivisor_32 : decode cX0_commonDivisor 32 = .ok (.lstore 4, 2) := by decide +kernel
theorem dX0_commonDivisor_34 : decode cX0_commonDivisor 34 = .ok (.lload 9, 2) := by decide +kernel
theorem dX0_commonDivisor_36 : decode cX0_commonDivisor 36 = .ok (.lstore 6, 2) := by decide +kernel
theorem dX0_commonDivisor_38 : decode cX0_commonDivisor 38 = .ok (.iinc 8 1, 3) := by decide +kernel
theorem dX0_commonDivisor_41 : decode cX0_commonDivisor 41 = .ok (.goto (-32), 3) := by decide +kernel
theorem dX0_commonDivisor_44 : decode cX0_commonDivisor 44 = .ok (.lload 4, 2) := by decide +kernel
theorem dX0_commonDivisor_46 : decode cX0_commonDivisor 46 = .ok (.lreturn, 1) := by decide +kernel
set_option maxRecDepth 20000 in
theorem ggX1_init_X1_build : GoodIn wsX1_init wsX1_build := goodIn_r _ [18, 19, 20, 21, 22, 23, 24, 25, 26, 17, 27, 7, 8, 28, 29, 30, 31, 32, 33, 34, 35, 36, 37, 38, 39, 40, 41] (by decide +kernel) (by decide +kernel)
set_option maxRecDepth 20000 in
theorem gX1_init_X1_build : GoodIn wsX1_init (wsV RX1 37 RX1 yX1_build wsX1_build) := goodIn_app (goodIn_of _ (by decide +kernel)) ggX1_init_X1_build
theorem dX1_init_0 : decode cX1_init 0 = .ok (.aload_n 0, 1) := by decide +kernel
theorem dX1_init_1 : decode cX1_init 1 = .ok (.invokespecial 1, 3) := by decide +kernel
theorem dX1_init_4 : decode cX1_init 4 = .ok (.aload_n 0, 1) := by decide +kernel
theorem dX1_init_5 : decode cX1_init 5 = .ok (.iconst 4, 1) := by decide +kernel
theorem dX1_init_6 : decode cX1_init 6 = .ok (.newarray .int, 2) := by decide +kernel
theorem dX1_init_8 : decode cX1_init 8 = .ok (.putfield 9, 3) := by decide +kernel
theorem dX1_init_11 : decode cX1_init 11 = .ok (.aload_n 0, 1) := by decide +kernel
theorem dX1_init_12 : decode cX1_init 12 = .ok (.iconst 4, 1) := by decide +kernel
theorem dX1_init_13 : decode cX1_init 13 = .ok (.newarray .int, 2) := by decide +kernel
theorem dX1_init_15 : decode cX1_init 15 = .ok (.putfield 13, 3) := by decide +kernel
theorem dX1_init_18 : decode cX1_init 18 = .ok (.aload_n 0, 1) := by decide +kernel
theorem dX1_init_19 : decode cX1_init 19 = .ok (.iconst 2, 1) := by decide +kernel
theorem dX1_init_20 : decode cX1_init 20 = .ok (.newarray .int, 2) := by decide +kernel
theorem dX1_init_22 : decode cX1_init 22 = .ok (.putfield 16, 3) := by decide +kernel
theorem dX1_init_25 : decode cX1_init 25 = .ok (.aload_n 0, 1) := by decide +kernel
theorem dX1_init_26 : decode cX1_init 26 = .ok (.iconst 2, 1) := by decide +kernel
theorem dX1_init_27 : decode cX1_init 27 = .ok (.newarray .int, 2) := by decide +kernel
theorem dX1_init_29 : decode cX1_init 29 = .ok (.putfield 19, 3) := by decide +kernel
theorem dX1_init_32 : decode cX1_init 32 = .ok (.aload_n 0, 1) := by decide +kernel
theorem dX1_init_33 : decode cX1_init 33 = .ok (.bipush 6, 2) := by decide +kernel
theorem dX1_init_35 : decode cX1_init 35 = .ok (.newarray .int, 2) := by decide +kernel
theorem dX1_init_37 : decode cX1_init 37 = .ok (.putfield 22, 3) := by decide +kernel
theorem dX1_init_40 : decode cX1_init 40 = .ok (.aload_n 0, 1) := by decide +kernel
theorem dX1_init_41 : decode cX1_init 41 = .ok (.bipush 6, 2) := by decide +kernel
theorem dX1_init_43 : decode cX1_init 43 = .ok (.newarray .int, 2) := by decide +kernel
theorem dX1_init_45 : decode cX1_init 45 = .ok (.putfield 25, 3) := by decide +kernel
theorem dX1_init_48 : decode cX1_init 48 = .ok (.aload_n 0, 1) := by decide +kernel
theorem dX1_init_49 : decode cX1_init 49 = .ok (.bipush 6, 2) := by decide +kernel
theorem dX1_init_51 : decode cX1_init 51 = .ok (.newarray .int, 2) := by decide +kernel
theorem dX1_init_53 : decode cX1_init 53 = .ok (.putfield 28, 3) := by decide +kernel
theorem dX1_init_56 : decode cX1_init 56 = .ok (.aload_n 0, 1) := by decide +kernel
theorem dX1_init_57 : decode cX1_init 57 = .ok (.bipush 6, 2) := by decide +kernel
theorem dX1_init_59 : decode cX1_init 59 = .ok (.newarray .int, 2) := by decide +kernel
theorem dX1_init_61 : decode cX1_init 61 = .ok (.putfield 31, 3) := by decide +kernel
theorem dX1_init_64 : decode cX1_init 64 = .ok (.aload_n 0, 1) := by decide +kernel
theorem dX1_init_65 : decode cX1_init 65 = .ok (.bipush 8, 2) := by decide +kernel
theorem dX1_init_67 : decode cX1_init 67 = .ok (.newarray .int, 2) := by decide +kernel
theorem dX1_init_69 : decode cX1_init 69 = .ok (.putfield 34, 3) := by decide +kernel
theorem dX1_init_72 : decode cX1_init 72 = .ok (.aload_n 0, 1) := by decide +kernel
theorem dX1_init_73 : decode cX1_init 73 = .ok (.bipush 11, 2) := by decide +kernel
theorem dX1_init_75 : decode cX1_init 75 = .ok (.invokevirtual 37, 3) := by decide +kernel
theorem dX1_init_78 : decode cX1_init 78 = .ok (.return_, 1) := by decide +kernel
set_option maxRecDepth 20000 in
theorem ggX1_build_X1_setLine : GoodIn wsX1_build wsX1_setLine := goodIn_r _ [10, 11, 12, 13, 14, 15, 16, 17, 18, 19, 20, 21, 22, 23, 24, 25, 26] (by decide +kernel) (by decide +kernel)
set_option maxRecDepth 20000 in
theorem gX1_build_X1_setLine : GoodIn wsX1_build (wsV RX1 57 RX1 yX1_setLine wsX1_setLine) := goodIn_app (goodIn_of _ (by decide +kernel)) ggX1_build_X1_setLine
theorem dX1_build_0 : decode cX1_build 0 = .ok (.aload_n 0, 1) := by decide +kernel
theorem dX1_build_1 : decode cX1_build 1 = .ok (.iload_n 1, 1) := by decide +kernel
theorem dX1_build_2 : decode cX1_build 2 = .ok (.putfield 41, 3) := by decide +kernel
theorem dX1_build_5 : decode cX1_build 5 = .ok (.aload_n 0, 1) := by decide +kernel
theorem dX1_build_6 : decode cX1_build 6 = .ok (.iconst 0, 1) := by decide +kernel
theorem dX1_build_7 : decode cX1_build 7 = .ok (.putfield 45, 3) := by decide +kernel
theorem dX1_build_10 : decode cX1_build 10 = .ok (.aload_n 0, 1) := by decide +kernel
theorem dX1_build_11 : decode cX1_build 11 = .ok (.iconst 0, 1) := by decide +kernel
theorem dX1_build_12 : decode cX1_build 12 = .ok (.putfield 48, 3) := by decide +kernel
theorem dX1_build_15 : decode cX1_build 15 = .ok (.aload_n 0, 1) := by decide +kernel
theorem dX1_build_16 : decode cX1_build 16 = .ok (.iconst 0, 1) := by decide +kernel
theorem dX1_build_17 : decode cX1_build 17 = .ok (.putfield 51, 3) := by decide +kernel
theorem dX1_build_20 : decode cX1_build 20 = .ok (.aload_n 0, 1) := by decide +kernel
theorem dX1_build_21 : decode cX1_build 21 = .ok (.iconst 0, 1) := by decide +kernel
theorem dX1_build_22 : decode cX1_build 22 = .ok (.putfield 54, 3) := by decide +kernel
theorem dX1_build_25 : decode cX1_build 25 = .ok (.aload_n 0, 1) := by decide +kernel
theorem dX1_build_26 : decode cX1_build 26 = .ok (.iconst 0, 1) := by decide +kernel
theorem dX1_build_27 : decode cX1_build 27 = .ok (.bipush 10, 2) := by decide +kernel
theorem dX1_build_29 : decode cX1_build 29 = .ok (.iconst 0, 1) := by decide +kernel
theorem dX1_build_30 : decode cX1_build 30 = .ok (.invokevirtual 57, 3) := by decide +kernel
theorem dX1_build_33 : decode cX1_build 33 = .ok (.aload_n 0, 1) := by decide +kernel
theorem dX1_build_34 : decode cX1_build 34 = .ok (.iconst 1, 1) := by decide +kernel
theorem dX1_build_35 : decode cX1_build 35 = .ok (.bipush 10, 2) := by decide +kernel
theorem dX1_build_37 : decode cX1_build 37 = .ok (.iconst 0, 1) := by decide +kernel
theorem dX1_build_38 : decode cX1_build 38 = .ok (.invokevirtual 57, 3) := by decide +kernel
theorem dX1_build_41 : decode cX1_build 41 = .ok (.return_, 1) := by decide +kernel
theorem dX1_copy_0 : decode cX1_copy 0 = .ok (.aload_n 0, 1) := by decide +kernel
theorem dX1_copy_1 : decode cX1_copy 1 = .ok (.aload_n 1, 1) := by decide +kernel
theorem dX1_copy_2 : decode cX1_copy 2 = .ok (.getfield 41, 3) := by decide +kernel
theorem dX1_copy_5 : decode cX1_copy 5 = .ok (.putfield 41, 3) := by decide +kernel
theorem dX1_copy_8 : decode cX1_copy 8 = .ok (.aload_n 0, 1) := by decide +kernel
theorem dX1_copy_9 : decode cX1_copy 9 = .ok (.aload_n 1, 1) := by decide +kernel
theorem dX1_copy_10 : decode cX1_copy 10 = .ok (.getfield 45, 3) := by decide +kernel
theorem dX1_copy_13 : decode cX1_copy 13 = .ok (.putfield 45, 3) := by decide +kernel
theorem dX1_copy_16 : decode cX1_copy 16 = .ok (.aload_n 0, 1) := by decide +kernel
theorem dX1_copy_17 : decode cX1_copy 17 = .ok (.aload_n 1, 1) := by decide +kernel
theorem dX1_copy_18 : decode cX1_copy 18 = .ok (.getfield 48, 3) := by decide +kernel
theorem dX1_copy_21 : decode cX1_copy 21 = .ok (.putfield 48, 3) := by decide +kernel
theorem dX1_copy_24 : decode cX1_copy 24 = .ok (.aload_n 0, 1) := by decide +kernel
theorem dX1_copy_25 : decode cX1_copy 25 = .ok (.aload_n 1, 1) := by decide +kernel
theorem dX1_copy_26 : decode cX1_copy 26 = .ok (.getfield 51, 3) := by decide +kernel
theorem dX1_copy_29 : decode cX1_copy 29 = .ok (.putfield 51, 3) := by decide +kernel
theorem dX1_copy_32 : decode cX1_copy 32 = .ok (.aload_n 0, 1) := by decide +kernel
theorem dX1_copy_33 : decode cX1_copy 33 = .ok (.aload_n 1, 1) := by decide +kernel
theorem dX1_copy_34 : decode cX1_copy 34 = .ok (.getfield 54, 3) := by decide +kernel
theorem dX1_copy_37 : decode cX1_copy 37 = .ok (.putfield 54, 3) := by decide +kernel
theorem dX1_copy_40 : decode cX1_copy 40 = .ok (.aload_n 1, 1) := by decide +kernel
theorem dX1_copy_41 : decode cX1_copy 41 = .ok (.getfield 9, 3) := by decide +kernel
theorem dX1_copy_44 : decode cX1_copy 44 = .ok (.iconst 0, 1) := by decide +kernel
theorem dX1_copy_45 : decode cX1_copy 45 = .ok (.aload_n 0, 1) := by decide +kernel
theorem dX1_copy_46 : decode cX1_copy 46 = .ok (.getfield 9, 3) := by decide +kernel
theorem dX1_copy_49 : decode cX1_copy 49 = .ok (.iconst 0, 1) := by decide +kernel
theorem dX1_copy_50 : decode cX1_copy 50 = .ok (.iconst 4, 1) := by decide +kernel
theorem dX1_copy_51 : decode cX1_copy 51 = .ok (.invokestatic 61, 3) := by decide +kernel
theorem dX1_copy_54 : decode cX1_copy 54 = .ok (.aload_n 1, 1) := by decide +kernel
theorem dX1_copy_55 : decode cX1_copy 55 = .ok (.getfield 13, 3) := by decide +kernel
theorem dX1_copy_58 : decode cX1_copy 58 = .ok (.iconst 0, 1) := by decide +kernel
theorem dX1_copy_59 : decode cX1_copy 59 = .ok (.aload_n 0, 1) := by decide +kernel
theorem dX1_copy_60 : decode cX1_copy 60 = .ok (.getfield 13, 3) := by decide +kernel
theorem dX1_copy_63 : decode cX1_copy 63 = .ok (.iconst 0, 1) := by decide +kernel
theorem dX1_copy_64 : decode cX1_copy 64 = .ok (.iconst 4, 1) := by decide +kernel
theorem dX1_copy_65 : decode cX1_copy 65 = .ok (.invokestatic 61, 3) := by decide +kernel
theorem dX1_copy_68 : decode cX1_copy 68 = .ok (.aload_n 1, 1) := by decide +kernel
theorem dX1_copy_69 : decode cX1_copy 69 = .ok (.getfield 16, 3) := by decide +kernel
theorem dX1_copy_72 : decode cX1_copy 72 = .ok (.iconst 0, 1) := by decide +kernel
theorem dX1_copy_73 : decode cX1_copy 73 = .ok (.aload_n 0, 1) := by decide +kernel
theorem dX1_copy_74 : decode cX1_copy 74 = .ok (.getfield 16, 3) := by decide +kernel
theorem dX1_copy_77 : decode cX1_copy 77 = .ok (.iconst 0, 1) := by decide +kernel
theorem dX1_copy_78 : decode cX1_copy 78 = .ok (.iconst 2, 1) := by decide +kernel
theorem dX1_copy_79 : decode cX1_copy 79 = .ok (.invokestatic 61, 3) := by decide +kernel
theorem dX1_copy_82 : decode cX1_copy 82 = .ok (.aload_n 1, 1) := by decide +kernel
theorem dX1_copy_83 : decode cX1_copy 83 = .ok (.getfield 19, 3) := by decide +kernel
theorem dX1_copy_86 : decode cX1_copy 86 = .ok (.iconst 0, 1) := by decide +kernel
theorem dX1_copy_87 : decode cX1_copy 87 = .ok (.aload_n 0, 1) := by decide +kernel
theorem dX1_copy_88 : decode cX1_copy 88 = .ok (.getfield 19, 3) := by decide +kernel
theorem dX1_copy_91 : decode cX1_copy 91 = .ok (.iconst 0, 1) := by decide +kernel
theorem dX1_copy_92 : decode cX1_copy 92 = .ok (.iconst 2, 1) := by decide +kernel
theorem dX1_copy_93 : decode cX1_copy 93 = .ok (.invokestatic 61, 3) := by decide +kernel
theorem dX1_copy_96 : decode cX1_copy 96 = .ok (.aload_n 1, 1) := by decide +kernel
theorem dX1_copy_97 : decode cX1_copy 97 = .ok (.getfield 22, 3) := by decide +kernel
theorem dX1_copy_100 : decode cX1_copy 100 = .ok (.iconst 0, 1) := by decide +kernel
theorem dX1_copy_101 : decode cX1_copy 101 = .ok (.aload_n 0, 1) := by decide +kernel
theorem dX1_copy_102 : decode cX1_copy 102 = .ok (.getfield 22, 3) := by decide +kernel
theorem dX1_copy_105 : decode cX1_copy 105 = .ok (.iconst 0, 1) := by decide +kernel
theorem dX1_copy_106 : decode cX1_copy 106 = .ok (.bipush 6, 2) := by decide +kernel
theorem dX1_copy_108 : decode cX1_copy 108 = .ok (.invokestatic 61, 3) := by decide +kernel
theorem dX1_copy_111 : decode cX1_copy 111 = .ok (.aload_n 1, 1) := by decide +kernel
theorem dX1_copy_112 : decode cX1_copy 112 = .ok (.getfield 25, 3) := by decide +kernel
theorem dX1_copy_115 : decode cX1_copy 115 = .ok (.iconst 0, 1) := by decide +kernel
theorem dX1_copy_116 : decode cX1_copy 116 = .ok (.aload_n 0, 1) := by decide +kernel
theorem dX1_copy_117 : decode cX1_copy 117 = .ok (.getfield 25, 3) := by decide +kernel
theorem dX1_copy_120 : decode cX1_copy 120 = .ok (.iconst 0, 1) := by decide +kernel
theorem dX1_copy_121 : decode cX1_copy 121 = .ok (.bipush 6, 2) := by decide +kernel
theorem dX1_copy_123 : decode cX1_copy 123 = .ok (.invokestatic 61, 3) := by decide +kernel
theorem dX1_copy_126 : decode cX1_copy 126 = .ok (.aload_n 1, 1) := by decide +kernel
theorem dX1_copy_127 : decode cX1_copy 127 = .ok (.getfield 28, 3) := by decide +kernel
theorem dX1_copy_130 : decode cX1_copy 130 = .ok (.iconst 0, 1) := by decide +kernel
theorem dX1_copy_131 : decode cX1_copy 131 = .ok (.aload_n 0, 1) := by decide +kernel
theorem dX1_copy_132 : decode cX1_copy 132 = .ok (.getfield 28, 3) := by decide +kernel
theorem dX1_copy_135 : decode cX1_copy 135 = .ok (.iconst 0, 1) := by decide +kernel
theorem dX1_copy_136 : decode cX1_copy 136 = .ok (.bipush 6, 2) := by decide +kernel
theorem dX1_copy_138 : decode cX1_copy 138 = .ok (.invokestatic 61, 3) := by decide +kernel
theorem dX1_copy_141 : decode cX1_copy 141 = .ok (.aload_n 1, 1) := by decide +kernel
theorem dX1_copy_142 : decode cX1_copy 142 = .ok (.getfield 31, 3) := by decide +kernel
theorem dX1_copy_145 : decode cX1_copy 145 = .ok (.iconst 0, 1) := by decide +kernel
theorem dX1_copy_146 : decode cX1_copy 146 = .ok (.aload_n 0, 1) := by decide +kernel
theorem dX1_copy_147 : decode cX1_copy 147 = .ok (.getfield 31, 3) := by decide +kernel
theorem dX1_copy_150 : decode cX1_copy 150 = .ok (.iconst 0, 1) := by decide +kernel
theorem dX1_copy_151 : decode cX1_copy 151 = .ok (.bipush 6, 2) := by decide +kernel
theorem dX1_copy_153 : decode cX1_copy 153 = .ok (.invokestatic 61, 3) := by decide +kernel
theorem dX1_copy_156 : decode cX1_copy 156 = .ok (.aload_n 1, 1) := by decide +kernel
theorem dX1_copy_157 : decode cX1_copy 157 = .ok (.getfield 34, 3) := by decide +kernel
theorem dX1_copy_160 : decode cX1_copy 160 = .ok (.iconst 0, 1) := by decide +kernel
theorem dX1_copy_161 : decode cX1_copy 161 = .ok (.aload_n 0, 1) := by decide +kernel
theorem dX1_copy_162 : decode cX1_copy 162 = .ok (.getfield 34, 3) := by decide +kernel
theorem dX1_copy_165 : decode cX1_copy 165 = .ok (.iconst 0, 1) := by decide +kernel
theorem dX1_copy_166 : decode cX1_copy 166 = .ok (.bipush 8, 2) := by decide +kernel
theorem dX1_copy_168 : decode cX1_copy 168 = .ok (.invokestatic 61, 3) := by decide +kernel
theorem dX1_copy_171 : decode cX1_copy 171 = .ok (.return_, 1) := by decide +kernel
theorem dX1_hasFloor_0 : decode cX1_hasFloor 0 = .ok (.iload_n 1, 1) := by decide +kernel
theorem dX1_hasFloor_1 : decode cX1_hasFloor 1 = .ok (.ifCond .lt 15, 3) := by decide +kernel
theorem dX1_hasFloor_4 : decode cX1_hasFloor 4 = .ok (.iload_n 1, 1) := by decide +kernel
theorem dX1_hasFloor_5 : decode cX1_hasFloor 5 = .ok (.aload_n 0, 1) := by decide +kernel
end
section
theorem dX1_hasFloor_6 : decode cX1_hasFloor 6 = .ok (.getfield 41, 3) := by decide +kernel
theorem dX1_hasFloor_9 : decode cX1_hasFloor 9 = .ok (.if_icmp .gt 7, 3) := by decide +kernel
theorem dX1_hasFloor_12 : decode cX1_hasFloor 12 = .ok (.iconst 1, 1) := by decide +kernel
theorem dX1_hasFloor_13 : decode cX1_hasFloor 13 = .ok (.goto 4, 3) := by decide +kernel
theorem dX1_hasFloor_16 : decode cX1_hasFloor 16 = .ok (.iconst 0, 1) := by decide +kernel
theorem dX1_hasFloor_17 : decode cX1_hasFloor 17 = .ok (.ireturn, 1) := by decide +kernel
theorem dX1_hasLift_0 : decode cX1_hasLift 0 = .ok (.iload_n 1, 1) := by decide +kernel
theorem dX1_hasLift_1 : decode cX1_hasLift 1 = .ok (.ifCond .lt 15, 3) := by decide +kernel
theorem dX1_hasLift_4 : decode cX1_hasLift 4 = .ok (.iload_n 1, 1) := by decide +kernel
theorem dX1_hasLift_5 : decode cX1_hasLift 5 = .ok (.aload_n 0, 1) := by decide +kernel
theorem dX1_hasLift_6 : decode cX1_hasLift 6 = .ok (.getfield 45, 3) := by decide +kernel
theorem dX1_hasLift_9 : decode cX1_hasLift 9 = .ok (.if_icmp .ge 7, 3) := by decide +kernel
theorem dX1_hasLift_12 : decode cX1_hasLift 12 = .ok (.iconst 1, 1) := by decide +kernel
theorem dX1_hasLift_13 : decode cX1_hasLift 13 = .ok (.goto 4, 3) := by decide +kernel
theorem dX1_hasLift_16 : decode cX1_hasLift 16 = .ok (.iconst 0, 1) := by decide +kernel
theorem dX1_hasLift_17 : decode cX1_hasLift 17 = .ok (.ireturn, 1) := by decide +kernel
theorem dX1_addLift_0 : decode cX1_addLift 0 = .ok (.aload_n 0, 1) := by decide +kernel
theorem dX1_addLift_1 : decode cX1_addLift 1 = .ok (.getfield 45, 3) := by decide +kernel
theorem dX1_addLift_4 : decode cX1_addLift 4 = .ok (.iconst 4, 1) := by decide +kernel
theorem dX1_addLift_5 : decode cX1_addLift 5 = .ok (.if_icmp .lt 4, 3) := by decide +kernel
theorem dX1_addLift_8 : decode cX1_addLift 8 = .ok (.return_, 1) := by decide +kernel
theorem dX1_addLift_9 : decode cX1_addLift 9 = .ok (.aload_n 0, 1) := by decide +kernel
theorem dX1_addLift_10 : decode cX1_addLift 10 = .ok (.getfield 9, 3) := by decide +kernel
theorem dX1_addLift_13 : decode cX1_addLift 13 = .ok (.aload_n 0, 1) := by decide +kernel
theorem dX1_addLift_14 : decode cX1_addLift 14 = .ok (.getfield 45, 3) := by decide +kernel
theorem dX1_addLift_17 : decode cX1_addLift 17 = .ok (.iload_n 1, 1) := by decide +kernel
theorem dX1_addLift_18 : decode cX1_addLift 18 = .ok (.iastore, 1) := by decide +kernel
theorem dX1_addLift_19 : decode cX1_addLift 19 = .ok (.aload_n 0, 1) := by decide +kernel
theorem dX1_addLift_20 : decode cX1_addLift 20 = .ok (.getfield 13, 3) := by decide +kernel
theorem dX1_addLift_23 : decode cX1_addLift 23 = .ok (.aload_n 0, 1) := by decide +kernel
theorem dX1_addLift_24 : decode cX1_addLift 24 = .ok (.getfield 45, 3) := by decide +kernel
theorem dX1_addLift_27 : decode cX1_addLift 27 = .ok (.iload_n 2, 1) := by decide +kernel
theorem dX1_addLift_28 : decode cX1_addLift 28 = .ok (.iastore, 1) := by decide +kernel
theorem dX1_addLift_29 : decode cX1_addLift 29 = .ok (.aload_n 0, 1) := by decide +kernel
theorem dX1_addLift_30 : decode cX1_addLift 30 = .ok (.dup, 1) := by decide +kernel
theorem dX1_addLift_31 : decode cX1_addLift 31 = .ok (.getfield 45, 3) := by decide +kernel
theorem dX1_addLift_34 : decode cX1_addLift 34 = .ok (.iconst 1, 1) := by decide +kernel
theorem dX1_addLift_35 : decode cX1_addLift 35 = .ok (.iadd, 1) := by decide +kernel
theorem dX1_addLift_36 : decode cX1_addLift 36 = .ok (.putfield 45, 3) := by decide +kernel
theorem dX1_addLift_39 : decode cX1_addLift 39 = .ok (.aload_n 0, 1) := by decide +kernel
theorem dX1_addLift_40 : decode cX1_addLift 40 = .ok (.iconst 0, 1) := by decide +kernel
theorem dX1_addLift_41 : decode cX1_addLift 41 = .ok (.putfield 54, 3) := by decide +kernel
theorem dX1_addLift_44 : decode cX1_addLift 44 = .ok (.return_, 1) := by decide +kernel
theorem dX1_setLine_0 : decode cX1_setLine 0 = .ok (.aload_n 0, 1) := by decide +kernel
theorem dX1_setLine_1 : decode cX1_setLine 1 = .ok (.getfield 16, 3) := by decide +kernel
theorem dX1_setLine_4 : decode cX1_setLine 4 = .ok (.iload_n 1, 1) := by decide +kernel
theorem dX1_setLine_5 : decode cX1_setLine 5 = .ok (.iload_n 2, 1) := by decide +kernel
theorem dX1_setLine_6 : decode cX1_setLine 6 = .ok (.iastore, 1) := by decide +kernel
theorem dX1_setLine_7 : decode cX1_setLine 7 = .ok (.aload_n 0, 1) := by decide +kernel
theorem dX1_setLine_8 : decode cX1_setLine 8 = .ok (.getfield 19, 3) := by decide +kernel
theorem dX1_setLine_11 : decode cX1_setLine 11 = .ok (.iload_n 1, 1) := by decide +kernel
theorem dX1_setLine_12 : decode cX1_setLine 12 = .ok (.iload_n 3, 1) := by decide +kernel
theorem dX1_setLine_13 : decode cX1_setLine 13 = .ok (.iastore, 1) := by decide +kernel
theorem dX1_setLine_14 : decode cX1_setLine 14 = .ok (.return_, 1) := by decide +kernel
theorem dX1_addNoted_0 : decode cX1_addNoted 0 = .ok (.aload_n 0, 1) := by decide +kernel
theorem dX1_addNoted_1 : decode cX1_addNoted 1 = .ok (.getfield 51, 3) := by decide +kernel
theorem dX1_addNoted_4 : decode cX1_addNoted 4 = .ok (.bipush 6, 2) := by decide +kernel
theorem dX1_addNoted_6 : decode cX1_addNoted 6 = .ok (.if_icmp .lt 4, 3) := by decide +kernel
theorem dX1_addNoted_9 : decode cX1_addNoted 9 = .ok (.return_, 1) := by decide +kernel
theorem dX1_addNoted_10 : decode cX1_addNoted 10 = .ok (.aload_n 0, 1) := by decide +kernel
theorem dX1_addNoted_11 : decode cX1_addNoted 11 = .ok (.getfield 22, 3) := by decide +kernel
theorem dX1_addNoted_14 : decode cX1_addNoted 14 = .ok (.aload_n 0, 1) := by decide +kernel
theorem dX1_addNoted_15 : decode cX1_addNoted 15 = .ok (.getfield 51, 3) := by decide +kernel
theorem dX1_addNoted_18 : decode cX1_addNoted 18 = .ok (.iload_n 1, 1) := by decide +kernel
theorem dX1_addNoted_19 : decode cX1_addNoted 19 = .ok (.iastore, 1) := by decide +kernel
theorem dX1_addNoted_20 : decode cX1_addNoted 20 = .ok (.aload_n 0, 1) := by decide +kernel
theorem dX1_addNoted_21 : decode cX1_addNoted 21 = .ok (.getfield 25, 3) := by decide +kernel
theorem dX1_addNoted_24 : decode cX1_addNoted 24 = .ok (.aload_n 0, 1) := by decide +kernel
theorem dX1_addNoted_25 : decode cX1_addNoted 25 = .ok (.getfield 51, 3) := by decide +kernel
theorem dX1_addNoted_28 : decode cX1_addNoted 28 = .ok (.iload_n 2, 1) := by decide +kernel
theorem dX1_addNoted_29 : decode cX1_addNoted 29 = .ok (.iastore, 1) := by decide +kernel
theorem dX1_addNoted_30 : decode cX1_addNoted 30 = .ok (.aload_n 0, 1) := by decide +kernel
theorem dX1_addNoted_31 : decode cX1_addNoted 31 = .ok (.getfield 28, 3) := by decide +kernel
theorem dX1_addNoted_34 : decode cX1_addNoted 34 = .ok (.aload_n 0, 1) := by decide +kernel
theorem dX1_addNoted_35 : decode cX1_addNoted 35 = .ok (.getfield 51, 3) := by decide +kernel
theorem dX1_addNoted_38 : decode cX1_addNoted 38 = .ok (.iload_n 3, 1) := by decide +kernel
theorem dX1_addNoted_39 : decode cX1_addNoted 39 = .ok (.iastore, 1) := by decide +kernel
theorem dX1_addNoted_40 : decode cX1_addNoted 40 = .ok (.aload_n 0, 1) := by decide +kernel
theorem dX1_addNoted_41 : decode cX1_addNoted 41 = .ok (.getfield 31, 3) := by decide +kernel
theorem dX1_addNoted_44 : decode cX1_addNoted 44 = .ok (.aload_n 0, 1) := by decide +kernel
theorem dX1_addNoted_45 : decode cX1_addNoted 45 = .ok (.getfield 51, 3) := by decide +kernel
theorem dX1_addNoted_48 : decode cX1_addNoted 48 = .ok (.iload 4, 2) := by decide +kernel
theorem dX1_addNoted_50 : decode cX1_addNoted 50 = .ok (.iastore, 1) := by decide +kernel
theorem dX1_addNoted_51 : decode cX1_addNoted 51 = .ok (.aload_n 0, 1) := by decide +kernel
theorem dX1_addNoted_52 : decode cX1_addNoted 52 = .ok (.dup, 1) := by decide +kernel
theorem dX1_addNoted_53 : decode cX1_addNoted 53 = .ok (.getfield 51, 3) := by decide +kernel
theorem dX1_addNoted_56 : decode cX1_addNoted 56 = .ok (.iconst 1, 1) := by decide +kernel
theorem dX1_addNoted_57 : decode cX1_addNoted 57 = .ok (.iadd, 1) := by decide +kernel
theorem dX1_addNoted_58 : decode cX1_addNoted 58 = .ok (.putfield 51, 3) := by decide +kernel
theorem dX1_addNoted_61 : decode cX1_addNoted 61 = .ok (.return_, 1) := by decide +kernel
theorem dX1_goOn_0 : decode cX1_goOn 0 = .ok (.aload_n 0, 1) := by decide +kernel
theorem dX1_goOn_1 : decode cX1_goOn 1 = .ok (.getfield 54, 3) := by decide +kernel
theorem dX1_goOn_4 : decode cX1_goOn 4 = .ok (.bipush 8, 2) := by decide +kernel
theorem dX1_goOn_6 : decode cX1_goOn 6 = .ok (.if_icmp .lt 24, 3) := by decide +kernel
theorem dX1_goOn_9 : decode cX1_goOn 9 = .ok (.aload_n 0, 1) := by decide +kernel
theorem dX1_goOn_10 : decode cX1_goOn 10 = .ok (.getfield 34, 3) := by decide +kernel
theorem dX1_goOn_13 : decode cX1_goOn 13 = .ok (.iconst 1, 1) := by decide +kernel
theorem dX1_goOn_14 : decode cX1_goOn 14 = .ok (.aload_n 0, 1) := by decide +kernel
theorem dX1_goOn_15 : decode cX1_goOn 15 = .ok (.getfield 34, 3) := by decide +kernel
theorem dX1_goOn_18 : decode cX1_goOn 18 = .ok (.iconst 0, 1) := by decide +kernel
theorem dX1_goOn_19 : decode cX1_goOn 19 = .ok (.bipush 7, 2) := by decide +kernel
theorem dX1_goOn_21 : decode cX1_goOn 21 = .ok (.invokestatic 61, 3) := by decide +kernel
theorem dX1_goOn_24 : decode cX1_goOn 24 = .ok (.aload_n 0, 1) := by decide +kernel
theorem dX1_goOn_25 : decode cX1_goOn 25 = .ok (.bipush 7, 2) := by decide +kernel
theorem dX1_goOn_27 : decode cX1_goOn 27 = .ok (.putfield 54, 3) := by decide +kernel
theorem dX1_goOn_30 : decode cX1_goOn 30 = .ok (.aload_n 0, 1) := by decide +kernel
theorem dX1_goOn_31 : decode cX1_goOn 31 = .ok (.getfield 34, 3) := by decide +kernel
theorem dX1_goOn_34 : decode cX1_goOn 34 = .ok (.aload_n 0, 1) := by decide +kernel
theorem dX1_goOn_35 : decode cX1_goOn 35 = .ok (.getfield 54, 3) := by decide +kernel
theorem dX1_goOn_38 : decode cX1_goOn 38 = .ok (.aload_n 0, 1) := by decide +kernel
theorem dX1_goOn_39 : decode cX1_goOn 39 = .ok (.getfield 48, 3) := by decide +kernel
theorem dX1_goOn_42 : decode cX1_goOn 42 = .ok (.iastore, 1) := by decide +kernel
theorem dX1_goOn_43 : decode cX1_goOn 43 = .ok (.aload_n 0, 1) := by decide +kernel
theorem dX1_goOn_44 : decode cX1_goOn 44 = .ok (.dup, 1) := by decide +kernel
theorem dX1_goOn_45 : decode cX1_goOn 45 = .ok (.getfield 54, 3) := by decide +kernel
theorem dX1_goOn_48 : decode cX1_goOn 48 = .ok (.iconst 1, 1) := by decide +kernel
theorem dX1_goOn_49 : decode cX1_goOn 49 = .ok (.iadd, 1) := by decide +kernel
theorem dX1_goOn_50 : decode cX1_goOn 50 = .ok (.putfield 54, 3) := by decide +kernel
theorem dX1_goOn_53 : decode cX1_goOn 53 = .ok (.aload_n 0, 1) := by decide +kernel
theorem dX1_goOn_54 : decode cX1_goOn 54 = .ok (.iload_n 1, 1) := by decide +kernel
theorem dX1_goOn_55 : decode cX1_goOn 55 = .ok (.putfield 48, 3) := by decide +kernel
theorem dX1_goOn_58 : decode cX1_goOn 58 = .ok (.return_, 1) := by decide +kernel
theorem dX1_goBack_0 : decode cX1_goBack 0 = .ok (.aload_n 0, 1) := by decide +kernel
theorem dX1_goBack_1 : decode cX1_goBack 1 = .ok (.getfield 54, 3) := by decide +kernel
theorem dX1_goBack_4 : decode cX1_goBack 4 = .ok (.ifCond .le 26, 3) := by decide +kernel
theorem dX1_goBack_7 : decode cX1_goBack 7 = .ok (.aload_n 0, 1) := by decide +kernel
theorem dX1_goBack_8 : decode cX1_goBack 8 = .ok (.dup, 1) := by decide +kernel
theorem dX1_goBack_9 : decode cX1_goBack 9 = .ok (.getfield 54, 3) := by decide +kernel
theorem dX1_goBack_12 : decode cX1_goBack 12 = .ok (.iconst 1, 1) := by decide +kernel
theorem dX1_goBack_13 : decode cX1_goBack 13 = .ok (.isub, 1) := by decide +kernel
theorem dX1_goBack_14 : decode cX1_goBack 14 = .ok (.putfield 54, 3) := by decide +kernel
theorem dX1_goBack_17 : decode cX1_goBack 17 = .ok (.aload_n 0, 1) := by decide +kernel
theorem dX1_goBack_18 : decode cX1_goBack 18 = .ok (.aload_n 0, 1) := by decide +kernel
theorem dX1_goBack_19 : decode cX1_goBack 19 = .ok (.getfield 34, 3) := by decide +kernel
theorem dX1_goBack_22 : decode cX1_goBack 22 = .ok (.aload_n 0, 1) := by decide +kernel
theorem dX1_goBack_23 : decode cX1_goBack 23 = .ok (.getfield 54, 3) := by decide +kernel
theorem dX1_goBack_26 : decode cX1_goBack 26 = .ok (.iaload, 1) := by decide +kernel
theorem dX1_goBack_27 : decode cX1_goBack 27 = .ok (.putfield 48, 3) := by decide +kernel
theorem dX1_goBack_30 : decode cX1_goBack 30 = .ok (.return_, 1) := by decide +kernel
set_option maxRecDepth 20000 in
theorem ggX1_turnsOfLine0_X1_nextTrain : GoodIn wsX1_turnsOfLine0 wsX1_nextTrain := goodIn_r _ [6] (by decide +kernel) (by decide +kernel)
set_option maxRecDepth 20000 in
theorem gX1_turnsOfLine0_X1_nextTrain : GoodIn wsX1_turnsOfLine0 (va_wsS RX1 67 yX1_nextTrain wsX1_nextTrain) := goodIn_app (goodIn_of _ (by decide +kernel)) ggX1_turnsOfLine0_X1_nextTrain
theorem dX1_turnsOfLine0_0 : decode cX1_turnsOfLine0 0 = .ok (.aload_n 0, 1) := by decide +kernel
theorem dX1_turnsOfLine0_1 : decode cX1_turnsOfLine0 1 = .ok (.getfield 19, 3) := by decide +kernel
theorem dX1_turnsOfLine0_4 : decode cX1_turnsOfLine0 4 = .ok (.iconst 1, 1) := by decide +kernel
theorem dX1_turnsOfLine0_5 : decode cX1_turnsOfLine0 5 = .ok (.iaload, 1) := by decide +kernel
theorem dX1_turnsOfLine0_6 : decode cX1_turnsOfLine0 6 = .ok (.iload_n 1, 1) := by decide +kernel
theorem dX1_turnsOfLine0_7 : decode cX1_turnsOfLine0 7 = .ok (.iadd, 1) := by decide +kernel
theorem dX1_turnsOfLine0_8 : decode cX1_turnsOfLine0 8 = .ok (.bipush 30, 2) := by decide +kernel
theorem dX1_turnsOfLine0_10 : decode cX1_turnsOfLine0 10 = .ok (.irem, 1) := by decide +kernel
theorem dX1_turnsOfLine0_11 : decode cX1_turnsOfLine0 11 = .ok (.istore_n 2, 1) := by decide +kernel
theorem dX1_turnsOfLine0_12 : decode cX1_turnsOfLine0 12 = .ok (.iconst 0, 1) := by decide +kernel
theorem dX1_turnsOfLine0_13 : decode cX1_turnsOfLine0 13 = .ok (.istore_n 3, 1) := by decide +kernel
theorem dX1_turnsOfLine0_14 : decode cX1_turnsOfLine0 14 = .ok (.iconst 0, 1) := by decide +kernel
theorem dX1_turnsOfLine0_15 : decode cX1_turnsOfLine0 15 = .ok (.istore 4, 2) := by decide +kernel
theorem dX1_turnsOfLine0_17 : decode cX1_turnsOfLine0 17 = .ok (.iload 4, 2) := by decide +kernel
theorem dX1_turnsOfLine0_19 : decode cX1_turnsOfLine0 19 = .ok (.bipush 60, 2) := by decide +kernel
theorem dX1_turnsOfLine0_21 : decode cX1_turnsOfLine0 21 = .ok (.if_icmp .ge 44, 3) := by decide +kernel
theorem dX1_turnsOfLine0_24 : decode cX1_turnsOfLine0 24 = .ok (.aload_n 0, 1) := by decide +kernel
theorem dX1_turnsOfLine0_25 : decode cX1_turnsOfLine0 25 = .ok (.getfield 16, 3) := by decide +kernel
theorem dX1_turnsOfLine0_28 : decode cX1_turnsOfLine0 28 = .ok (.iconst 0, 1) := by decide +kernel
theorem dX1_turnsOfLine0_29 : decode cX1_turnsOfLine0 29 = .ok (.iaload, 1) := by decide +kernel
theorem dX1_turnsOfLine0_30 : decode cX1_turnsOfLine0 30 = .ok (.aload_n 0, 1) := by decide +kernel
theorem dX1_turnsOfLine0_31 : decode cX1_turnsOfLine0 31 = .ok (.getfield 19, 3) := by decide +kernel
theorem dX1_turnsOfLine0_34 : decode cX1_turnsOfLine0 34 = .ok (.iconst 0, 1) := by decide +kernel
theorem dX1_turnsOfLine0_35 : decode cX1_turnsOfLine0 35 = .ok (.iaload, 1) := by decide +kernel
theorem dX1_turnsOfLine0_36 : decode cX1_turnsOfLine0 36 = .ok (.iload 4, 2) := by decide +kernel
theorem dX1_turnsOfLine0_38 : decode cX1_turnsOfLine0 38 = .ok (.invokestatic 67, 3) := by decide +kernel
theorem dX1_turnsOfLine0_41 : decode cX1_turnsOfLine0 41 = .ok (.aload_n 0, 1) := by decide +kernel
theorem dX1_turnsOfLine0_42 : decode cX1_turnsOfLine0 42 = .ok (.getfield 16, 3) := by decide +kernel
theorem dX1_turnsOfLine0_45 : decode cX1_turnsOfLine0 45 = .ok (.iconst 1, 1) := by decide +kernel
theorem dX1_turnsOfLine0_46 : decode cX1_turnsOfLine0 46 = .ok (.iaload, 1) := by decide +kernel
theorem dX1_turnsOfLine0_47 : decode cX1_turnsOfLine0 47 = .ok (.iload_n 2, 1) := by decide +kernel
theorem dX1_turnsOfLine0_48 : decode cX1_turnsOfLine0 48 = .ok (.iload 4, 2) := by decide +kernel
theorem dX1_turnsOfLine0_50 : decode cX1_turnsOfLine0 50 = .ok (.invokestatic 67, 3) := by decide +kernel
theorem dX1_turnsOfLine0_53 : decode cX1_turnsOfLine0 53 = .ok (.if_icmp .gt 6, 3) := by decide +kernel
theorem dX1_turnsOfLine0_56 : decode cX1_turnsOfLine0 56 = .ok (.iinc 3 1, 3) := by decide +kernel
theorem dX1_turnsOfLine0_59 : decode cX1_turnsOfLine0 59 = .ok (.iinc 4 1, 3) := by decide +kernel
theorem dX1_turnsOfLine0_62 : decode cX1_turnsOfLine0 62 = .ok (.goto (-45), 3) := by decide +kernel
theorem dX1_turnsOfLine0_65 : decode cX1_turnsOfLine0 65 = .ok (.iload_n 3, 1) := by decide +kernel
theorem dX1_turnsOfLine0_66 : decode cX1_turnsOfLine0 66 = .ok (.ireturn, 1) := by decide +kernel
theorem dX1_nextTrain_0 : decode cX1_nextTrain 0 = .ok (.iload_n 2, 1) := by decide +kernel
theorem dX1_nextTrain_1 : decode cX1_nextTrain 1 = .ok (.iload_n 1, 1) := by decide +kernel
theorem dX1_nextTrain_2 : decode cX1_nextTrain 2 = .ok (.if_icmp .le 8, 3) := by decide +kernel
theorem dX1_nextTrain_5 : decode cX1_nextTrain 5 = .ok (.iload_n 0, 1) := by decide +kernel
theorem dX1_nextTrain_6 : decode cX1_nextTrain 6 = .ok (.iconst 1, 1) := by decide +kernel
theorem dX1_nextTrain_7 : decode cX1_nextTrain 7 = .ok (.if_icmp .ge 5, 3) := by decide +kernel
theorem dX1_nextTrain_10 : decode cX1_nextTrain 10 = .ok (.iload_n 1, 1) := by decide +kernel
theorem dX1_nextTrain_11 : decode cX1_nextTrain 11 = .ok (.ireturn, 1) := by decide +kernel
theorem dX1_nextTrain_12 : decode cX1_nextTrain 12 = .ok (.iload_n 2, 1) := by decide +kernel
theorem dX1_nextTrain_13 : decode cX1_nextTrain 13 = .ok (.iload_n 1, 1) := by decide +kernel
theorem dX1_nextTrain_14 : decode cX1_nextTrain 14 = .ok (.isub, 1) := by decide +kernel
theorem dX1_nextTrain_15 : decode cX1_nextTrain 15 = .ok (.iload_n 0, 1) := by decide +kernel
theorem dX1_nextTrain_16 : decode cX1_nextTrain 16 = .ok (.irem, 1) := by decide +kernel
theorem dX1_nextTrain_17 : decode cX1_nextTrain 17 = .ok (.istore_n 3, 1) := by decide +kernel
theorem dX1_nextTrain_18 : decode cX1_nextTrain 18 = .ok (.iload_n 3, 1) := by decide +kernel
theorem dX1_nextTrain_19 : decode cX1_nextTrain 19 = .ok (.ifCond .ne 7, 3) := by decide +kernel
theorem dX1_nextTrain_22 : decode cX1_nextTrain 22 = .ok (.iload_n 2, 1) := by decide +kernel
theorem dX1_nextTrain_23 : decode cX1_nextTrain 23 = .ok (.goto 8, 3) := by decide +kernel
theorem dX1_nextTrain_26 : decode cX1_nextTrain 26 = .ok (.iload_n 2, 1) := by decide +kernel
theorem dX1_nextTrain_27 : decode cX1_nextTrain 27 = .ok (.iload_n 0, 1) := by decide +kernel
theorem dX1_nextTrain_28 : decode cX1_nextTrain 28 = .ok (.iadd, 1) := by decide +kernel
theorem dX1_nextTrain_29 : decode cX1_nextTrain 29 = .ok (.iload_n 3, 1) := by decide +kernel
theorem dX1_nextTrain_30 : decode cX1_nextTrain 30 = .ok (.isub, 1) := by decide +kernel
theorem dX1_nextTrain_31 : decode cX1_nextTrain 31 = .ok (.ireturn, 1) := by decide +kernel
theorem dX1_digestOver_0 : decode cX1_digestOver 0 = .ok (.lload_n 1, 1) := by decide +kernel
theorem dX1_digestOver_1 : decode cX1_digestOver 1 = .ok (.lstore_n 3, 1) := by decide +kernel
theorem dX1_digestOver_2 : decode cX1_digestOver 2 = .ok (.iconst 0, 1) := by decide +kernel
theorem dX1_digestOver_3 : decode cX1_digestOver 3 = .ok (.istore 5, 2) := by decide +kernel
theorem dX1_digestOver_5 : decode cX1_digestOver 5 = .ok (.iload 5, 2) := by decide +kernel
theorem dX1_digestOver_7 : decode cX1_digestOver 7 = .ok (.aload_n 0, 1) := by decide +kernel
theorem dX1_digestOver_8 : decode cX1_digestOver 8 = .ok (.getfield 45, 3) := by decide +kernel
theorem dX1_digestOver_11 : decode cX1_digestOver 11 = .ok (.if_icmp .ge 39, 3) := by decide +kernel
theorem dX1_digestOver_14 : decode cX1_digestOver 14 = .ok (.ldc2_w 71, 3) := by decide +kernel
theorem dX1_digestOver_17 : decode cX1_digestOver 17 = .ok (.lload_n 3, 1) := by decide +kernel
theorem dX1_digestOver_18 : decode cX1_digestOver 18 = .ok (.lmul, 1) := by decide +kernel
theorem dX1_digestOver_19 : decode cX1_digestOver 19 = .ok (.aload_n 0, 1) := by decide +kernel
theorem dX1_digestOver_20 : decode cX1_digestOver 20 = .ok (.getfield 9, 3) := by decide +kernel
theorem dX1_digestOver_23 : decode cX1_digestOver 23 = .ok (.iload 5, 2) := by decide +kernel
theorem dX1_digestOver_25 : decode cX1_digestOver 25 = .ok (.iaload, 1) := by decide +kernel
theorem dX1_digestOver_26 : decode cX1_digestOver 26 = .ok (.i2l, 1) := by decide +kernel
theorem dX1_digestOver_27 : decode cX1_digestOver 27 = .ok (.ladd, 1) := by decide +kernel
theorem dX1_digestOver_28 : decode cX1_digestOver 28 = .ok (.lstore_n 3, 1) := by decide +kernel
theorem dX1_digestOver_29 : decode cX1_digestOver 29 = .ok (.ldc2_w 71, 3) := by decide +kernel
theorem dX1_digestOver_32 : decode cX1_digestOver 32 = .ok (.lload_n 3, 1) := by decide +kernel
theorem dX1_digestOver_33 : decode cX1_digestOver 33 = .ok (.lmul, 1) := by decide +kernel
theorem dX1_digestOver_34 : decode cX1_digestOver 34 = .ok (.aload_n 0, 1) := by decide +kernel
theorem dX1_digestOver_35 : decode cX1_digestOver 35 = .ok (.getfield 13, 3) := by decide +kernel
theorem dX1_digestOver_38 : decode cX1_digestOver 38 = .ok (.iload 5, 2) := by decide +kernel
theorem dX1_digestOver_40 : decode cX1_digestOver 40 = .ok (.iaload, 1) := by decide +kernel
theorem dX1_digestOver_41 : decode cX1_digestOver 41 = .ok (.i2l, 1) := by decide +kernel
theorem dX1_digestOver_42 : decode cX1_digestOver 42 = .ok (.ladd, 1) := by decide +kernel
theorem dX1_digestOver_43 : decode cX1_digestOver 43 = .ok (.lstore_n 3, 1) := by decide +kernel
theorem dX1_digestOver_44 : decode cX1_digestOver 44 = .ok (.iinc 5 1, 3) := by decide +kernel
theorem dX1_digestOver_47 : decode cX1_digestOver 47 = .ok (.goto (-42), 3) := by decide +kernel
theorem dX1_digestOver_50 : decode cX1_digestOver 50 = .ok (.iconst 0, 1) := by decide +kernel
theorem dX1_digestOver_51 : decode cX1_digestOver 51 = .ok (.istore 5, 2) := by decide +kernel
theorem dX1_digestOver_53 : decode cX1_digestOver 53 = .ok (.iload 5, 2) := by decide +kernel
theorem dX1_digestOver_55 : decode cX1_digestOver 55 = .ok (.iconst 2, 1) := by decide +kernel
theorem dX1_digestOver_56 : decode cX1_digestOver 56 = .ok (.if_icmp .ge 39, 3) := by decide +kernel
theorem dX1_digestOver_59 : decode cX1_digestOver 59 = .ok (.ldc2_w 71, 3) := by decide +kernel
theorem dX1_digestOver_62 : decode cX1_digestOver 62 = .ok (.lload_n 3, 1) := by decide +kernel
theorem dX1_digestOver_63 : decode cX1_digestOver 63 = .ok (.lmul, 1) := by decide +kernel
theorem dX1_digestOver_64 : decode cX1_digestOver 64 = .ok (.aload_n 0, 1) := by decide +kernel
theorem dX1_digestOver_65 : decode cX1_digestOver 65 = .ok (.getfield 16, 3) := by decide +kernel
theorem dX1_digestOver_68 : decode cX1_digestOver 68 = .ok (.iload 5, 2) := by decide +kernel
theorem dX1_digestOver_70 : decode cX1_digestOver 70 = .ok (.iaload, 1) := by decide +kernel
theorem dX1_digestOver_71 : decode cX1_digestOver 71 = .ok (.i2l, 1) := by decide +kernel
theorem dX1_digestOver_72 : decode cX1_digestOver 72 = .ok (.ladd, 1) := by decide +kernel
theorem dX1_digestOver_73 : decode cX1_digestOver 73 = .ok (.lstore_n 3, 1) := by decide +kernel
theorem dX1_digestOver_74 : decode cX1_digestOver 74 = .ok (.ldc2_w 71, 3) := by decide +kernel
theorem dX1_digestOver_77 : decode cX1_digestOver 77 = .ok (.lload_n 3, 1) := by decide +kernel
theorem dX1_digestOver_78 : decode cX1_digestOver 78 = .ok (.lmul, 1) := by decide +kernel
theorem dX1_digestOver_79 : decode cX1_digestOver 79 = .ok (.aload_n 0, 1) := by decide +kernel
theorem dX1_digestOver_80 : decode cX1_digestOver 80 = .ok (.getfield 19, 3) := by decide +kernel
theorem dX1_digestOver_83 : decode cX1_digestOver 83 = .ok (.iload 5, 2) := by decide +kernel
theorem dX1_digestOver_85 : decode cX1_digestOver 85 = .ok (.iaload, 1) := by decide +kernel
theorem dX1_digestOver_86 : decode cX1_digestOver 86 = .ok (.i2l, 1) := by decide +kernel
theorem dX1_digestOver_87 : decode cX1_digestOver 87 = .ok (.ladd, 1) := by decide +kernel
theorem dX1_digestOver_88 : decode cX1_digestOver 88 = .ok (.lstore_n 3, 1) := by decide +kernel
theorem dX1_digestOver_89 : decode cX1_digestOver 89 = .ok (.iinc 5 1, 3) := by decide +kernel
theorem dX1_digestOver_92 : decode cX1_digestOver 92 = .ok (.goto (-39), 3) := by decide +kernel
theorem dX1_digestOver_95 : decode cX1_digestOver 95 = .ok (.iconst 0, 1) := by decide +kernel
theorem dX1_digestOver_96 : decode cX1_digestOver 96 = .ok (.istore 5, 2) := by decide +kernel
theorem dX1_digestOver_98 : decode cX1_digestOver 98 = .ok (.iload 5, 2) := by decide +kernel
theorem dX1_digestOver_100 : decode cX1_digestOver 100 = .ok (.aload_n 0, 1) := by decide +kernel
theorem dX1_digestOver_101 : decode cX1_digestOver 101 = .ok (.getfield 51, 3) := by decide +kernel
theorem dX1_digestOver_104 : decode cX1_digestOver 104 = .ok (.if_icmp .ge 69, 3) := by decide +kernel
theorem dX1_digestOver_107 : decode cX1_digestOver 107 = .ok (.ldc2_w 71, 3) := by decide +kernel
theorem dX1_digestOver_110 : decode cX1_digestOver 110 = .ok (.lload_n 3, 1) := by decide +kernel
theorem dX1_digestOver_111 : decode cX1_digestOver 111 = .ok (.lmul, 1) := by decide +kernel
theorem dX1_digestOver_112 : decode cX1_digestOver 112 = .ok (.aload_n 0, 1) := by decide +kernel
theorem dX1_digestOver_113 : decode cX1_digestOver 113 = .ok (.getfield 22, 3) := by decide +kernel
theorem dX1_digestOver_116 : decode cX1_digestOver 116 = .ok (.iload 5, 2) := by decide +kernel
theorem dX1_digestOver_118 : decode cX1_digestOver 118 = .ok (.iaload, 1) := by decide +kernel
theorem dX1_digestOver_119 : decode cX1_digestOver 119 = .ok (.i2l, 1) := by decide +kernel
theorem dX1_digestOver_120 : decode cX1_digestOver 120 = .ok (.ladd, 1) := by decide +kernel
theorem dX1_digestOver_121 : decode cX1_digestOver 121 = .ok (.lstore_n 3, 1) := by decide +kernel
theorem dX1_digestOver_122 : decode cX1_digestOver 122 = .ok (.ldc2_w 71, 3) := by decide +kernel
theorem dX1_digestOver_125 : decode cX1_digestOver 125 = .ok (.lload_n 3, 1) := by decide +kernel
theorem dX1_digestOver_126 : decode cX1_digestOver 126 = .ok (.lmul, 1) := by decide +kernel
theorem dX1_digestOver_127 : decode cX1_digestOver 127 = .ok (.aload_n 0, 1) := by decide +kernel
theorem dX1_digestOver_128 : decode cX1_digestOver 128 = .ok (.getfield 25, 3) := by decide +kernel
theorem dX1_digestOver_131 : decode cX1_digestOver 131 = .ok (.iload 5, 2) := by decide +kernel
theorem dX1_digestOver_133 : decode cX1_digestOver 133 = .ok (.iaload, 1) := by decide +kernel
theorem dX1_digestOver_134 : decode cX1_digestOver 134 = .ok (.i2l, 1) := by decide +kernel
theorem dX1_digestOver_135 : decode cX1_digestOver 135 = .ok (.ladd, 1) := by decide +kernel
theorem dX1_digestOver_136 : decode cX1_digestOver 136 = .ok (.lstore_n 3, 1) := by decide +kernel
theorem dX1_digestOver_137 : decode cX1_digestOver 137 = .ok (.ldc2_w 71, 3) := by decide +kernel
theorem dX1_digestOver_140 : decode cX1_digestOver 140 = .ok (.lload_n 3, 1) := by decide +kernel
theorem dX1_digestOver_141 : decode cX1_digestOver 141 = .ok (.lmul, 1) := by decide +kernel
theorem dX1_digestOver_142 : decode cX1_digestOver 142 = .ok (.aload_n 0, 1) := by decide +kernel
theorem dX1_digestOver_143 : decode cX1_digestOver 143 = .ok (.getfield 28, 3) := by decide +kernel
theorem dX1_digestOver_146 : decode cX1_digestOver 146 = .ok (.iload 5, 2) := by decide +kernel
theorem dX1_digestOver_148 : decode cX1_digestOver 148 = .ok (.iaload, 1) := by decide +kernel
theorem dX1_digestOver_149 : decode cX1_digestOver 149 = .ok (.i2l, 1) := by decide +kernel
theorem dX1_digestOver_150 : decode cX1_digestOver 150 = .ok (.ladd, 1) := by decide +kernel
theorem dX1_digestOver_151 : decode cX1_digestOver 151 = .ok (.lstore_n 3, 1) := by decide +kernel
theorem dX1_digestOver_152 : decode cX1_digestOver 152 = .ok (.ldc2_w 71, 3) := by decide +kernel
theorem dX1_digestOver_155 : decode cX1_digestOver 155 = .ok (.lload_n 3, 1) := by decide +kernel
theorem dX1_digestOver_156 : decode cX1_digestOver 156 = .ok (.lmul, 1) := by decide +kernel
theorem dX1_digestOver_157 : decode cX1_digestOver 157 = .ok (.aload_n 0, 1) := by decide +kernel
theorem dX1_digestOver_158 : decode cX1_digestOver 158 = .ok (.getfield 31, 3) := by decide +kernel
theorem dX1_digestOver_161 : decode cX1_digestOver 161 = .ok (.iload 5, 2) := by decide +kernel
theorem dX1_digestOver_163 : decode cX1_digestOver 163 = .ok (.iaload, 1) := by decide +kernel
theorem dX1_digestOver_164 : decode cX1_digestOver 164 = .ok (.i2l, 1) := by decide +kernel
theorem dX1_digestOver_165 : decode cX1_digestOver 165 = .ok (.ladd, 1) := by decide +kernel
theorem dX1_digestOver_166 : decode cX1_digestOver 166 = .ok (.lstore_n 3, 1) := by decide +kernel
theorem dX1_digestOver_167 : decode cX1_digestOver 167 = .ok (.iinc 5 1, 3) := by decide +kernel
theorem dX1_digestOver_170 : decode cX1_digestOver 170 = .ok (.goto (-72), 3) := by decide +kernel
theorem dX1_digestOver_173 : decode cX1_digestOver 173 = .ok (.lload_n 3, 1) := by decide +kernel
theorem dX1_digestOver_174 : decode cX1_digestOver 174 = .ok (.lreturn, 1) := by decide +kernel
theorem dX2_round_0 : decode cX2_round 0 = .ok (.getstatic 9, 3) := by decide +kernel
theorem dX2_round_3 : decode cX2_round 3 = .ok (.iload_n 0, 1) := by decide +kernel
theorem dX2_round_4 : decode cX2_round 4 = .ok (.iaload, 1) := by decide +kernel
theorem dX2_round_5 : decode cX2_round 5 = .ok (.iconst 2, 1) := by decide +kernel
theorem dX2_round_6 : decode cX2_round 6 = .ok (.if_icmp .ne 7, 3) := by decide +kernel
theorem dX2_round_9 : decode cX2_round 9 = .ok (.iload_n 1, 1) := by decide +kernel
theorem dX2_round_10 : decode cX2_round 10 = .ok (.goto 6, 3) := by decide +kernel
theorem dX2_round_13 : decode cX2_round 13 = .ok (.iconst 2, 1) := by decide +kernel
theorem dX2_round_14 : decode cX2_round 14 = .ok (.iload_n 1, 1) := by decide +kernel
theorem dX2_round_15 : decode cX2_round 15 = .ok (.imul, 1) := by decide +kernel
theorem dX2_round_16 : decode cX2_round 16 = .ok (.istore_n 2, 1) := by decide +kernel
theorem dX2_round_17 : decode cX2_round 17 = .ok (.iload_n 2, 1) := by decide +kernel
theorem dX2_round_18 : decode cX2_round 18 = .ok (.getstatic 15, 3) := by decide +kernel
theorem dX2_round_21 : decode cX2_round 21 = .ok (.iload_n 0, 1) := by decide +kernel
theorem dX2_round_22 : decode cX2_round 22 = .ok (.iaload, 1) := by decide +kernel
theorem dX2_round_23 : decode cX2_round 23 = .ok (.iadd, 1) := by decide +kernel
theorem dX2_round_24 : decode cX2_round 24 = .ok (.getstatic 18, 3) := by decide +kernel
theorem dX2_round_27 : decode cX2_round 27 = .ok (.iload_n 0, 1) := by decide +kernel
theorem dX2_round_28 : decode cX2_round 28 = .ok (.iaload, 1) := by decide +kernel
theorem dX2_round_29 : decode cX2_round 29 = .ok (.iadd, 1) := by decide +kernel
theorem dX2_round_30 : decode cX2_round 30 = .ok (.ireturn, 1) := by decide +kernel
set_option maxRecDepth 20000 in
theorem ggX2_floorIn_X2_round : GoodIn wsX2_floorIn wsX2_round := goodIn_r _ [13, 1, 14, 2] (by decide +kernel) (by decide +kernel)
set_option maxRecDepth 20000 in
theorem gX2_floorIn_X2_round : GoodIn wsX2_floorIn (va_wsS RX2 21 yX2_round wsX2_round) := goodIn_app (goodIn_of _ (by decide +kernel)) ggX2_floorIn_X2_round
theorem dX2_floorIn_0 : decode cX2_floorIn 0 = .ok (.iload_n 0, 1) := by decide +kernel
theorem dX2_floorIn_1 : decode cX2_floorIn 1 = .ok (.iload_n 1, 1) := by decide +kernel
theorem dX2_floorIn_2 : decode cX2_floorIn 2 = .ok (.invokestatic 21, 3) := by decide +kernel
theorem dX2_floorIn_5 : decode cX2_floorIn 5 = .ok (.istore 4, 2) := by decide +kernel
theorem dX2_floorIn_7 : decode cX2_floorIn 7 = .ok (.iload 4, 2) := by decide +kernel
theorem dX2_floorIn_9 : decode cX2_floorIn 9 = .ok (.iconst 1, 1) := by decide +kernel
theorem dX2_floorIn_10 : decode cX2_floorIn 10 = .ok (.if_icmp .ge 5, 3) := by decide +kernel
theorem dX2_floorIn_13 : decode cX2_floorIn 13 = .ok (.iconst 0, 1) := by decide +kernel
theorem dX2_floorIn_14 : decode cX2_floorIn 14 = .ok (.ireturn, 1) := by decide +kernel
theorem dX2_floorIn_15 : decode cX2_floorIn 15 = .ok (.getstatic 9, 3) := by decide +kernel
theorem dX2_floorIn_18 : decode cX2_floorIn 18 = .ok (.iload_n 0, 1) := by decide +kernel
theorem dX2_floorIn_19 : decode cX2_floorIn 19 = .ok (.iaload, 1) := by decide +kernel
theorem dX2_floorIn_20 : decode cX2_floorIn 20 = .ok (.iload_n 3, 1) := by decide +kernel
theorem dX2_floorIn_21 : decode cX2_floorIn 21 = .ok (.iload_n 2, 1) := by decide +kernel
theorem dX2_floorIn_22 : decode cX2_floorIn 22 = .ok (.iadd, 1) := by decide +kernel
theorem dX2_floorIn_23 : decode cX2_floorIn 23 = .ok (.iload 4, 2) := by decide +kernel
theorem dX2_floorIn_25 : decode cX2_floorIn 25 = .ok (.irem, 1) := by decide +kernel
theorem dX2_floorIn_26 : decode cX2_floorIn 26 = .ok (.imul, 1) := by decide +kernel
theorem dX2_floorIn_27 : decode cX2_floorIn 27 = .ok (.istore 5, 2) := by decide +kernel
theorem dX2_floorIn_29 : decode cX2_floorIn 29 = .ok (.iload 5, 2) := by decide +kernel
theorem dX2_floorIn_31 : decode cX2_floorIn 31 = .ok (.iload_n 1, 1) := by decide +kernel
theorem dX2_floorIn_32 : decode cX2_floorIn 32 = .ok (.if_icmp .le 17, 3) := by decide +kernel
theorem dX2_floorIn_35 : decode cX2_floorIn 35 = .ok (.iload_n 1, 1) := by decide +kernel
theorem dX2_floorIn_36 : decode cX2_floorIn 36 = .ok (.iload 5, 2) := by decide +kernel
theorem dX2_floorIn_38 : decode cX2_floorIn 38 = .ok (.getstatic 18, 3) := by decide +kernel
theorem dX2_floorIn_41 : decode cX2_floorIn 41 = .ok (.iload_n 0, 1) := by decide +kernel
theorem dX2_floorIn_42 : decode cX2_floorIn 42 = .ok (.iaload, 1) := by decide +kernel
theorem dX2_floorIn_43 : decode cX2_floorIn 43 = .ok (.isub, 1) := by decide +kernel
theorem dX2_floorIn_44 : decode cX2_floorIn 44 = .ok (.invokestatic 25, 3) := by decide +kernel
theorem dX2_floorIn_47 : decode cX2_floorIn 47 = .ok (.istore 5, 2) := by decide +kernel
theorem dX2_floorIn_49 : decode cX2_floorIn 49 = .ok (.iconst 0, 1) := by decide +kernel
theorem dX2_floorIn_50 : decode cX2_floorIn 50 = .ok (.iconst 2, 1) := by decide +kernel
theorem dX2_floorIn_51 : decode cX2_floorIn 51 = .ok (.iload_n 1, 1) := by decide +kernel
theorem dX2_floorIn_52 : decode cX2_floorIn 52 = .ok (.imul, 1) := by decide +kernel
theorem dX2_floorIn_53 : decode cX2_floorIn 53 = .ok (.iload 5, 2) := by decide +kernel
theorem dX2_floorIn_55 : decode cX2_floorIn 55 = .ok (.isub, 1) := by decide +kernel
theorem dX2_floorIn_56 : decode cX2_floorIn 56 = .ok (.invokestatic 25, 3) := by decide +kernel
theorem dX2_floorIn_59 : decode cX2_floorIn 59 = .ok (.istore 6, 2) := by decide +kernel
theorem dX2_floorIn_61 : decode cX2_floorIn 61 = .ok (.iload 5, 2) := by decide +kernel
theorem dX2_floorIn_63 : decode cX2_floorIn 63 = .ok (.iload 6, 2) := by decide +kernel
theorem dX2_floorIn_65 : decode cX2_floorIn 65 = .ok (.invokestatic 30, 3) := by decide +kernel
theorem dX2_floorIn_68 : decode cX2_floorIn 68 = .ok (.ireturn, 1) := by decide +kernel
theorem dX2_opens_0 : decode cX2_opens 0 = .ok (.iload_n 0, 1) := by decide +kernel
theorem dX2_opens_1 : decode cX2_opens 1 = .ok (.lookupswitch 59 #[(3, 27), (5, 44)], 27) := by decide +kernel
theorem dX2_opens_28 : decode cX2_opens 28 = .ok (.iload_n 2, 1) := by decide +kernel
theorem dX2_opens_29 : decode cX2_opens 29 = .ok (.ifCond .eq 10, 3) := by decide +kernel
theorem dX2_opens_32 : decode cX2_opens 32 = .ok (.iload_n 2, 1) := by decide +kernel
theorem dX2_opens_33 : decode cX2_opens 33 = .ok (.iconst 2, 1) := by decide +kernel
theorem dX2_opens_34 : decode cX2_opens 34 = .ok (.irem, 1) := by decide +kernel
theorem dX2_opens_35 : decode cX2_opens 35 = .ok (.iconst 1, 1) := by decide +kernel
theorem dX2_opens_36 : decode cX2_opens 36 = .ok (.if_icmp .ne 7, 3) := by decide +kernel
theorem dX2_opens_39 : decode cX2_opens 39 = .ok (.iconst 1, 1) := by decide +kernel
theorem dX2_opens_40 : decode cX2_opens 40 = .ok (.goto 4, 3) := by decide +kernel
theorem dX2_opens_43 : decode cX2_opens 43 = .ok (.iconst 0, 1) := by decide +kernel
theorem dX2_opens_44 : decode cX2_opens 44 = .ok (.ireturn, 1) := by decide +kernel
theorem dX2_opens_45 : decode cX2_opens 45 = .ok (.iload_n 2, 1) := by decide +kernel
theorem dX2_opens_46 : decode cX2_opens 46 = .ok (.ifCond .eq 8, 3) := by decide +kernel
theorem dX2_opens_49 : decode cX2_opens 49 = .ok (.iload_n 2, 1) := by decide +kernel
theorem dX2_opens_50 : decode cX2_opens 50 = .ok (.iload_n 1, 1) := by decide +kernel
theorem dX2_opens_51 : decode cX2_opens 51 = .ok (.if_icmp .ne 7, 3) := by decide +kernel
theorem dX2_opens_54 : decode cX2_opens 54 = .ok (.iconst 1, 1) := by decide +kernel
theorem dX2_opens_55 : decode cX2_opens 55 = .ok (.goto 4, 3) := by decide +kernel
theorem dX2_opens_58 : decode cX2_opens 58 = .ok (.iconst 0, 1) := by decide +kernel
theorem dX2_opens_59 : decode cX2_opens 59 = .ok (.ireturn, 1) := by decide +kernel
theorem dX2_opens_60 : decode cX2_opens 60 = .ok (.iconst 1, 1) := by decide +kernel
theorem dX2_opens_61 : decode cX2_opens 61 = .ok (.ireturn, 1) := by decide +kernel
theorem dX3_init_0 : decode cX3_init 0 = .ok (.aload_n 0, 1) := by decide +kernel
theorem dX3_init_1 : decode cX3_init 1 = .ok (.invokespecial 3, 3) := by decide +kernel
theorem dX3_init_4 : decode cX3_init 4 = .ok (.aload_n 0, 1) := by decide +kernel
theorem dX3_init_5 : decode cX3_init 5 = .ok (.sipush 150, 3) := by decide +kernel
theorem dX3_init_8 : decode cX3_init 8 = .ok (.newarray .byte, 2) := by decide +kernel
theorem dX3_init_10 : decode cX3_init 10 = .ok (.putfield 11, 3) := by decide +kernel
theorem dX3_init_13 : decode cX3_init 13 = .ok (.return_, 1) := by decide +kernel
theorem dX3_add_0 : decode cX3_add 0 = .ok (.aload_n 0, 1) := by decide +kernel
theorem dX3_add_1 : decode cX3_add 1 = .ok (.getfield 15, 3) := by decide +kernel
theorem dX3_add_4 : decode cX3_add 4 = .ok (.sipush 150, 3) := by decide +kernel
theorem dX3_add_7 : decode cX3_add 7 = .ok (.if_icmp .ge 24, 3) := by decide +kernel
theorem dX3_add_10 : decode cX3_add 10 = .ok (.aload_n 0, 1) := by decide +kernel
theorem dX3_add_11 : decode cX3_add 11 = .ok (.getfield 11, 3) := by decide +kernel
theorem dX3_add_14 : decode cX3_add 14 = .ok (.aload_n 0, 1) := by decide +kernel
theorem dX3_add_15 : decode cX3_add 15 = .ok (.getfield 15, 3) := by decide +kernel
theorem dX3_add_18 : decode cX3_add 18 = .ok (.iload_n 1, 1) := by decide +kernel
theorem dX3_add_19 : decode cX3_add 19 = .ok (.i2b, 1) := by decide +kernel
theorem dX3_add_20 : decode cX3_add 20 = .ok (.bastore, 1) := by decide +kernel
theorem dX3_add_21 : decode cX3_add 21 = .ok (.aload_n 0, 1) := by decide +kernel
theorem dX3_add_22 : decode cX3_add 22 = .ok (.dup, 1) := by decide +kernel
theorem dX3_add_23 : decode cX3_add 23 = .ok (.getfield 15, 3) := by decide +kernel
theorem dX3_add_26 : decode cX3_add 26 = .ok (.iconst 1, 1) := by decide +kernel
theorem dX3_add_27 : decode cX3_add 27 = .ok (.iadd, 1) := by decide +kernel
theorem dX3_add_28 : decode cX3_add 28 = .ok (.putfield 15, 3) := by decide +kernel
theorem dX3_add_31 : decode cX3_add 31 = .ok (.return_, 1) := by decide +kernel
set_option maxRecDepth 20000 in
theorem ggX3_readInto_X3_nextToken : GoodIn wsX3_readInto wsX3_nextToken := goodIn_r _ [8, 1, 9, 10, 2, 3, 11, 12, 13, 7, 14, 15, 16, 17, 18, 19, 20, 21, 22, 23, 24, 25, 26, 27, 28, 29, 134, 135, 136, 137, 138, 139] (by decide +kernel) (by decide +kernel)
set_option maxRecDepth 20000 in
theorem gX3_readInto_X3_nextToken : GoodIn wsX3_readInto (wsV RX3 22 RX3 yX3_nextToken wsX3_nextToken) := goodIn_app (goodIn_of _ (by decide +kernel)) ggX3_readInto_X3_nextToken
set_option maxRecDepth 20000 in
theorem ggX3_readInto_X3_readHouse : GoodIn wsX3_readInto wsX3_readHouse := goodIn_r _ [33, 11, 34, 35, 36, 7, 37, 3, 1, 2, 10, 38, 39, 40, 41, 42, 43, 44, 45, 46, 47, 48, 49, 50, 51, 52, 53, 54, 55, 56, 57, 58, 59, 60, 61, 62, 63, 64, 65, 66, 67, 68, 69, 70, 71, 72, 73, 74, 75, 76, 77, 78, 79, 80, 81, 82, 83, 84, 85, 86, 87, 88, 89, 90, 4, 5, 6, 8, 9, 12, 13, 14, 15, 16, 17, 18, 19, 20, 21, 22, 23, 24, 25, 26, 27, 28, 29, 91, 92, 93, 94, 95, 96, 97, 98, 99, 100, 101, 102, 103, 104, 105, 106, 107, 108, 109, 110, 111, 112, 113, 134, 135, 136, 137, 138, 139, 140, 141, 142, 143, 144, 145, 146, 147, 148, 149, 150, 151, 152, 153] (by decide +kernel) (by decide +kernel)
set_option maxRecDepth 20000 in
theorem gX3_readInto_X3_readHouse : GoodIn wsX3_readInto (wsV RX3 25 RX3 yX3_readHouse wsX3_readHouse) := goodIn_app (goodIn_of _ (by decide +kernel)) ggX3_readInto_X3_readHouse
set_option maxRecDepth 20000 in
theorem ggX3_readInto_X3_readItem : GoodIn wsX3_readInto wsX3_readItem := goodIn_r _ [117, 118, 34, 35, 36, 7, 37, 3, 1, 2, 10, 38, 39, 40, 41, 42, 43, 44, 45, 46, 47, 48, 49, 50, 51, 52, 53, 54, 55, 56, 57, 58, 59, 60, 61, 62, 63, 64, 65, 66, 67, 68, 69, 70, 71, 72, 73, 74, 75, 76, 77, 78, 79, 80, 81, 82, 83, 84, 85, 86, 119, 120, 121, 122, 11, 87, 88, 89, 90, 4, 5, 6, 8, 9, 12, 13, 14, 15, 16, 17, 18, 19, 20, 21, 22, 23, 24, 25, 26, 27, 28, 29, 91, 92, 93, 123, 124, 125, 97, 126, 100, 127, 128, 103, 110, 111, 112, 113, 129, 130, 131, 132, 133, 105, 106, 107, 108, 109, 140, 141, 142, 143, 144, 145, 146, 147, 148, 149, 150, 151, 152, 153, 134, 135, 136, 137, 138, 139] (by decide +kernel) (by decide +kernel)
set_option maxRecDepth 20000 in
theorem gX3_readInto_X3_readItem : GoodIn wsX3_readInto (wsV RX3 35 RX3 yX3_readItem wsX3_readItem) := goodIn_app (goodIn_of _ (by decide +kernel)) ggX3_readInto_X3_readItem
theorem dX3_readInto_0 : decode cX3_readInto 0 = .ok (.aload_n 0, 1) := by decide +kernel
theorem dX3_readInto_1 : decode cX3_readInto 1 = .ok (.iconst 0, 1) := by decide +kernel
theorem dX3_readInto_2 : decode cX3_readInto 2 = .ok (.putfield 19, 3) := by decide +kernel
theorem dX3_readInto_5 : decode cX3_readInto 5 = .ok (.aload_n 0, 1) := by decide +kernel
theorem dX3_readInto_6 : decode cX3_readInto 6 = .ok (.invokevirtual 22, 3) := by decide +kernel
theorem dX3_readInto_9 : decode cX3_readInto 9 = .ok (.aload_n 0, 1) := by decide +kernel
theorem dX3_readInto_10 : decode cX3_readInto 10 = .ok (.aload_n 1, 1) := by decide +kernel
theorem dX3_readInto_11 : decode cX3_readInto 11 = .ok (.invokevirtual 25, 3) := by decide +kernel
theorem dX3_readInto_14 : decode cX3_readInto 14 = .ok (.ifCond .ne 11, 3) := by decide +kernel
theorem dX3_readInto_17 : decode cX3_readInto 17 = .ok (.bipush (-10), 2) := by decide +kernel
theorem dX3_readInto_19 : decode cX3_readInto 19 = .ok (.aload_n 0, 1) := by decide +kernel
theorem dX3_readInto_20 : decode cX3_readInto 20 = .ok (.getfield 29, 3) := by decide +kernel
theorem dX3_readInto_23 : decode cX3_readInto 23 = .ok (.isub, 1) := by decide +kernel
theorem dX3_readInto_24 : decode cX3_readInto 24 = .ok (.ireturn, 1) := by decide +kernel
theorem dX3_readInto_25 : decode cX3_readInto 25 = .ok (.iconst 1, 1) := by decide +kernel
theorem dX3_readInto_26 : decode cX3_readInto 26 = .ok (.istore_n 2, 1) := by decide +kernel
theorem dX3_readInto_27 : decode cX3_readInto 27 = .ok (.aload_n 0, 1) := by decide +kernel
theorem dX3_readInto_28 : decode cX3_readInto 28 = .ok (.invokevirtual 22, 3) := by decide +kernel
theorem dX3_readInto_31 : decode cX3_readInto 31 = .ok (.aload_n 0, 1) := by decide +kernel
theorem dX3_readInto_32 : decode cX3_readInto 32 = .ok (.getfield 32, 3) := by decide +kernel
theorem dX3_readInto_35 : decode cX3_readInto 35 = .ok (.ifCond .eq 36, 3) := by decide +kernel
theorem dX3_readInto_38 : decode cX3_readInto 38 = .ok (.iload_n 2, 1) := by decide +kernel
theorem dX3_readInto_39 : decode cX3_readInto 39 = .ok (.sipush 150, 3) := by decide +kernel
theorem dX3_readInto_42 : decode cX3_readInto 42 = .ok (.if_icmp .ge 29, 3) := by decide +kernel
theorem dX3_readInto_45 : decode cX3_readInto 45 = .ok (.aload_n 0, 1) := by decide +kernel
theorem dX3_readInto_46 : decode cX3_readInto 46 = .ok (.aload_n 1, 1) := by decide +kernel
theorem dX3_readInto_47 : decode cX3_readInto 47 = .ok (.invokevirtual 35, 3) := by decide +kernel
theorem dX3_readInto_50 : decode cX3_readInto 50 = .ok (.ifCond .ne 11, 3) := by decide +kernel
theorem dX3_readInto_53 : decode cX3_readInto 53 = .ok (.bipush (-10), 2) := by decide +kernel
theorem dX3_readInto_55 : decode cX3_readInto 55 = .ok (.aload_n 0, 1) := by decide +kernel
theorem dX3_readInto_56 : decode cX3_readInto 56 = .ok (.getfield 29, 3) := by decide +kernel
theorem dX3_readInto_59 : decode cX3_readInto 59 = .ok (.isub, 1) := by decide +kernel
theorem dX3_readInto_60 : decode cX3_readInto 60 = .ok (.ireturn, 1) := by decide +kernel
theorem dX3_readInto_61 : decode cX3_readInto 61 = .ok (.iinc 2 1, 3) := by decide +kernel
theorem dX3_readInto_64 : decode cX3_readInto 64 = .ok (.aload_n 0, 1) := by decide +kernel
theorem dX3_readInto_65 : decode cX3_readInto 65 = .ok (.invokevirtual 22, 3) := by decide +kernel
theorem dX3_readInto_68 : decode cX3_readInto 68 = .ok (.goto (-37), 3) := by decide +kernel
theorem dX3_readInto_71 : decode cX3_readInto 71 = .ok (.iload_n 2, 1) := by decide +kernel
theorem dX3_readInto_72 : decode cX3_readInto 72 = .ok (.ireturn, 1) := by decide +kernel
set_option maxRecDepth 20000 in
theorem ggX3_readHouse_X3_isWord : GoodIn wsX3_readHouse wsX3_isWord := goodIn_r _ [6, 7, 8, 9, 10, 11, 12, 13, 14, 15, 16, 17, 18, 19, 20, 21, 22, 23, 24, 25, 26, 27, 28, 29, 30, 31, 32, 33, 34, 35, 36, 37, 38, 39, 40, 41, 42, 43, 44, 45, 46, 47, 48, 49, 50, 51, 52, 53, 54, 55, 56, 57, 58, 59, 110, 111, 112, 113, 114, 115] (by decide +kernel) (by decide +kernel)
set_option maxRecDepth 20000 in
theorem gX3_readHouse_X3_isWord : GoodIn wsX3_readHouse (wsV RX3 40 RX3 yX3_isWord wsX3_isWord) := goodIn_app (goodIn_of _ (by decide +kernel)) ggX3_readHouse_X3_isWord
set_option maxRecDepth 20000 in
theorem ggX3_readHouse_X3_nextIsNumber : GoodIn wsX3_readHouse wsX3_nextIsNumber := goodIn_r _ [63, 7, 1, 64, 65, 66, 5, 67, 8, 68, 10, 9, 69, 70, 71, 72, 73, 74, 75, 76, 77, 78, 79, 80, 81, 82, 83, 84, 85, 86, 87, 88, 89, 110, 111, 112, 113, 114, 115] (by decide +kernel) (by decide +kernel)
set_option maxRecDepth 20000 in
theorem gX3_readHouse_X3_nextIsNumber : GoodIn wsX3_readHouse (wsV RX3 46 RX3 yX3_nextIsNumber wsX3_nextIsNumber) := goodIn_app (goodIn_of _ (by decide +kernel)) ggX3_readHouse_X3_nextIsNumber
set_option maxRecDepth 20000 in
theorem ggX3_readHouse_X1_build : GoodIn wsX3_readHouse wsX1_build := goodIn_r _ [94, 95, 96, 97, 98, 99, 100, 101, 102, 93, 103, 104, 105, 116, 117, 118, 119, 120, 121, 122, 123, 124, 125, 126, 127, 128, 129] (by decide +kernel) (by decide +kernel)
set_option maxRecDepth 20000 in
theorem gX3_readHouse_X1_build : GoodIn wsX3_readHouse (wsV RX3 53 RX1 yX1_build wsX1_build) := goodIn_app (goodIn_of _ (by decide +kernel)) ggX3_readHouse_X1_build
set_option maxRecDepth 20000 in
theorem ggX3_readHouse_X3_nextIsSemicolon : GoodIn wsX3_readHouse wsX3_nextIsSemicolon := goodIn_r _ [109, 7, 64, 65, 66, 5, 67, 8, 68, 10, 9, 1, 69, 70, 71, 72, 73, 74, 75, 76, 77, 78, 79, 80, 81, 82, 83, 84, 85, 86, 110, 111, 112, 113, 114, 115] (by decide +kernel) (by decide +kernel)
set_option maxRecDepth 20000 in
theorem gX3_readHouse_X3_nextIsSemicolon : GoodIn wsX3_readHouse (wsV RX3 57 RX3 yX3_nextIsSemicolon wsX3_nextIsSemicolon) := goodIn_app (goodIn_of _ (by decide +kernel)) ggX3_readHouse_X3_nextIsSemicolon
theorem dX3_readHouse_0 : decode cX3_readHouse 0 = .ok (.aload_n 0, 1) := by decide +kernel
theorem dX3_readHouse_1 : decode cX3_readHouse 1 = .ok (.ldc 38, 2) := by decide +kernel
theorem dX3_readHouse_3 : decode cX3_readHouse 3 = .ok (.invokevirtual 40, 3) := by decide +kernel
theorem dX3_readHouse_6 : decode cX3_readHouse 6 = .ok (.ifCond .eq 13, 3) := by decide +kernel
theorem dX3_readHouse_9 : decode cX3_readHouse 9 = .ok (.aload_n 0, 1) := by decide +kernel
theorem dX3_readHouse_10 : decode cX3_readHouse 10 = .ok (.iconst 1, 1) := by decide +kernel
theorem dX3_readHouse_11 : decode cX3_readHouse 11 = .ok (.bipush 11, 2) := by decide +kernel
theorem dX3_readHouse_13 : decode cX3_readHouse 13 = .ok (.invokevirtual 46, 3) := by decide +kernel
theorem dX3_readHouse_16 : decode cX3_readHouse 16 = .ok (.ifCond .ne 5, 3) := by decide +kernel
theorem dX3_readHouse_19 : decode cX3_readHouse 19 = .ok (.iconst 0, 1) := by decide +kernel
theorem dX3_readHouse_20 : decode cX3_readHouse 20 = .ok (.ireturn, 1) := by decide +kernel
theorem dX3_readHouse_21 : decode cX3_readHouse 21 = .ok (.aload_n 1, 1) := by decide +kernel
theorem dX3_readHouse_22 : decode cX3_readHouse 22 = .ok (.aload_n 0, 1) := by decide +kernel
theorem dX3_readHouse_23 : decode cX3_readHouse 23 = .ok (.getfield 50, 3) := by decide +kernel
theorem dX3_readHouse_26 : decode cX3_readHouse 26 = .ok (.invokevirtual 53, 3) := by decide +kernel
theorem dX3_readHouse_29 : decode cX3_readHouse 29 = .ok (.aload_n 0, 1) := by decide +kernel
theorem dX3_readHouse_30 : decode cX3_readHouse 30 = .ok (.invokevirtual 57, 3) := by decide +kernel
theorem dX3_readHouse_33 : decode cX3_readHouse 33 = .ok (.ireturn, 1) := by decide +kernel
set_option maxRecDepth 20000 in
theorem ggX3_readItem_X3_isWord : GoodIn wsX3_readItem wsX3_isWord := goodIn_r _ [6, 7, 8, 9, 10, 11, 12, 13, 14, 15, 16, 17, 18, 19, 20, 21, 22, 23, 24, 25, 26, 27, 28, 29, 30, 31, 32, 33, 34, 35, 36, 37, 38, 39, 40, 41, 42, 43, 44, 45, 46, 47, 48, 49, 50, 51, 52, 53, 54, 55, 56, 57, 58, 59, 132, 133, 134, 135, 136, 137] (by decide +kernel) (by decide +kernel)
set_option maxRecDepth 20000 in
theorem gX3_readItem_X3_isWord : GoodIn wsX3_readItem (wsV RX3 40 RX3 yX3_isWord wsX3_isWord) := goodIn_app (goodIn_of _ (by decide +kernel)) ggX3_readItem_X3_isWord
set_option maxRecDepth 20000 in
theorem ggX3_readItem_X3_readLift : GoodIn wsX3_readItem wsX3_readLift := goodIn_r _ [63, 64, 65, 66, 67, 5, 68, 7, 69, 70, 71, 72, 8, 73, 10, 9, 74, 75, 76, 77, 78, 79, 80, 81, 82, 83, 84, 85, 86, 87, 88, 89, 90, 91, 92, 93, 94, 95, 96, 97, 98, 99, 100, 101, 102, 103, 104, 105, 106, 107, 132, 133, 134, 135, 136, 137, 118, 119, 120, 121, 122, 123, 124, 125, 126, 127, 128, 129, 130, 131] (by decide +kernel) (by decide +kernel)
set_option maxRecDepth 20000 in
theorem gX3_readItem_X3_readLift : GoodIn wsX3_readItem (wsV RX3 66 RX3 yX3_readLift wsX3_readLift) := goodIn_app (goodIn_of _ (by decide +kernel)) ggX3_readItem_X3_readLift
set_option maxRecDepth 20000 in
theorem ggX3_readItem_X3_readLine : GoodIn wsX3_readItem wsX3_readLine := goodIn_r _ [111, 64, 65, 66, 67, 5, 68, 7, 69, 70, 71, 72, 8, 73, 10, 9, 74, 75, 76, 77, 78, 79, 80, 81, 82, 83, 84, 85, 86, 87, 88, 89, 90, 91, 92, 93, 94, 112, 113, 114, 98, 115, 116, 117, 104, 105, 106, 107, 132, 133, 134, 135, 136, 137, 118, 119, 120, 121, 122, 123, 124, 125, 126, 127, 128, 129, 130, 131] (by decide +kernel) (by decide +kernel)
set_option maxRecDepth 20000 in
theorem gX3_readItem_X3_readLine : GoodIn wsX3_readItem (wsV RX3 71 RX3 yX3_readLine wsX3_readLine) := goodIn_app (goodIn_of _ (by decide +kernel)) ggX3_readItem_X3_readLine
theorem dX3_readItem_0 : decode cX3_readItem 0 = .ok (.aload_n 0, 1) := by decide +kernel
theorem dX3_readItem_1 : decode cX3_readItem 1 = .ok (.ldc 61, 2) := by decide +kernel
theorem dX3_readItem_3 : decode cX3_readItem 3 = .ok (.invokevirtual 40, 3) := by decide +kernel
theorem dX3_readItem_6 : decode cX3_readItem 6 = .ok (.ifCond .eq 17, 3) := by decide +kernel
theorem dX3_readItem_9 : decode cX3_readItem 9 = .ok (.aload_n 1, 1) := by decide +kernel
theorem dX3_readItem_10 : decode cX3_readItem 10 = .ok (.getfield 63, 3) := by decide +kernel
theorem dX3_readItem_13 : decode cX3_readItem 13 = .ok (.iconst 4, 1) := by decide +kernel
theorem dX3_readItem_14 : decode cX3_readItem 14 = .ok (.if_icmp .ge 9, 3) := by decide +kernel
theorem dX3_readItem_17 : decode cX3_readItem 17 = .ok (.aload_n 0, 1) := by decide +kernel
theorem dX3_readItem_18 : decode cX3_readItem 18 = .ok (.aload_n 1, 1) := by decide +kernel
theorem dX3_readItem_19 : decode cX3_readItem 19 = .ok (.invokevirtual 66, 3) := by decide +kernel
theorem dX3_readItem_22 : decode cX3_readItem 22 = .ok (.ireturn, 1) := by decide +kernel
theorem dX3_readItem_23 : decode cX3_readItem 23 = .ok (.aload_n 0, 1) := by decide +kernel
theorem dX3_readItem_24 : decode cX3_readItem 24 = .ok (.ldc 69, 2) := by decide +kernel
theorem dX3_readItem_26 : decode cX3_readItem 26 = .ok (.invokevirtual 40, 3) := by decide +kernel
theorem dX3_readItem_29 : decode cX3_readItem 29 = .ok (.ifCond .eq 15, 3) := by decide +kernel
theorem dX3_readItem_32 : decode cX3_readItem 32 = .ok (.aload_n 0, 1) := by decide +kernel
theorem dX3_readItem_33 : decode cX3_readItem 33 = .ok (.aload_n 1, 1) := by decide +kernel
theorem dX3_readItem_34 : decode cX3_readItem 34 = .ok (.invokevirtual 71, 3) := by decide +kernel
theorem dX3_readItem_37 : decode cX3_readItem 37 = .ok (.ifCond .eq 7, 3) := by decide +kernel
theorem dX3_readItem_40 : decode cX3_readItem 40 = .ok (.iconst 1, 1) := by decide +kernel
theorem dX3_readItem_41 : decode cX3_readItem 41 = .ok (.goto 4, 3) := by decide +kernel
theorem dX3_readItem_44 : decode cX3_readItem 44 = .ok (.iconst 0, 1) := by decide +kernel
theorem dX3_readItem_45 : decode cX3_readItem 45 = .ok (.ireturn, 1) := by decide +kernel
set_option maxRecDepth 20000 in
theorem ggX3_readLift_X3_nextIsNumber : GoodIn wsX3_readLift wsX3_nextIsNumber := goodIn_r _ [6, 7, 1, 8, 9, 10, 5, 11, 12, 13, 14, 15, 16, 17, 18, 19, 20, 21, 22, 23, 24, 25, 26, 27, 28, 29, 30, 31, 32, 33, 34, 35, 36, 50, 51, 52, 53, 54, 55] (by decide +kernel) (by decide +kernel)
set_option maxRecDepth 20000 in
theorem gX3_readLift_X3_nextIsNumber : GoodIn wsX3_readLift (wsV RX3 46 RX3 yX3_nextIsNumber wsX3_nextIsNumber) := goodIn_app (goodIn_of _ (by decide +kernel)) ggX3_readLift_X3_nextIsNumber
set_option maxRecDepth 20000 in
theorem ggX3_readLift_X1_addLift : GoodIn wsX3_readLift wsX1_addLift := goodIn_r _ [41, 42, 43, 44, 45, 56, 57, 58, 59, 60, 61, 62, 63, 64, 65, 66, 67, 68, 69] (by decide +kernel) (by decide +kernel)
set_option maxRecDepth 20000 in
theorem gX3_readLift_X1_addLift : GoodIn wsX3_readLift (wsV RX3 76 RX1 yX1_addLift wsX1_addLift) := goodIn_app (goodIn_of _ (by decide +kernel)) ggX3_readLift_X1_addLift
set_option maxRecDepth 20000 in
theorem ggX3_readLift_X3_nextIsSemicolon : GoodIn wsX3_readLift wsX3_nextIsSemicolon := goodIn_r _ [49, 7, 8, 9, 10, 5, 11, 12, 13, 14, 15, 1, 16, 17, 18, 19, 20, 21, 22, 23, 24, 25, 26, 27, 28, 29, 30, 31, 32, 33, 50, 51, 52, 53, 54, 55] (by decide +kernel) (by decide +kernel)
set_option maxRecDepth 20000 in
theorem gX3_readLift_X3_nextIsSemicolon : GoodIn wsX3_readLift (wsV RX3 57 RX3 yX3_nextIsSemicolon wsX3_nextIsSemicolon) := goodIn_app (goodIn_of _ (by decide +kernel)) ggX3_readLift_X3_nextIsSemicolon
theorem dX3_readLift_0 : decode cX3_readLift 0 = .ok (.aload_n 0, 1) := by decide +kernel
theorem dX3_readLift_1 : decode cX3_readLift 1 = .ok (.iconst 0, 1) := by decide +kernel
theorem dX3_readLift_2 : decode cX3_readLift 2 = .ok (.iconst 5, 1) := by decide +kernel
theorem dX3_readLift_3 : decode cX3_readLift 3 = .ok (.invokevirtual 46, 3) := by decide +kernel
theorem dX3_readLift_6 : decode cX3_readLift 6 = .ok (.ifCond .ne 5, 3) := by decide +kernel
theorem dX3_readLift_9 : decode cX3_readLift 9 = .ok (.iconst 0, 1) := by decide +kernel
theorem dX3_readLift_10 : decode cX3_readLift 10 = .ok (.ireturn, 1) := by decide +kernel
theorem dX3_readLift_11 : decode cX3_readLift 11 = .ok (.aload_n 0, 1) := by decide +kernel
theorem dX3_readLift_12 : decode cX3_readLift 12 = .ok (.getfield 50, 3) := by decide +kernel
theorem dX3_readLift_15 : decode cX3_readLift 15 = .ok (.istore_n 2, 1) := by decide +kernel
theorem dX3_readLift_16 : decode cX3_readLift 16 = .ok (.aload_n 0, 1) := by decide +kernel
theorem dX3_readLift_17 : decode cX3_readLift 17 = .ok (.iconst 0, 1) := by decide +kernel
theorem dX3_readLift_18 : decode cX3_readLift 18 = .ok (.bipush 99, 2) := by decide +kernel
theorem dX3_readLift_20 : decode cX3_readLift 20 = .ok (.invokevirtual 46, 3) := by decide +kernel
theorem dX3_readLift_23 : decode cX3_readLift 23 = .ok (.ifCond .ne 5, 3) := by decide +kernel
theorem dX3_readLift_26 : decode cX3_readLift 26 = .ok (.iconst 0, 1) := by decide +kernel
theorem dX3_readLift_27 : decode cX3_readLift 27 = .ok (.ireturn, 1) := by decide +kernel
theorem dX3_readLift_28 : decode cX3_readLift 28 = .ok (.aload_n 1, 1) := by decide +kernel
theorem dX3_readLift_29 : decode cX3_readLift 29 = .ok (.iload_n 2, 1) := by decide +kernel
theorem dX3_readLift_30 : decode cX3_readLift 30 = .ok (.aload_n 0, 1) := by decide +kernel
theorem dX3_readLift_31 : decode cX3_readLift 31 = .ok (.getfield 50, 3) := by decide +kernel
theorem dX3_readLift_34 : decode cX3_readLift 34 = .ok (.invokevirtual 76, 3) := by decide +kernel
theorem dX3_readLift_37 : decode cX3_readLift 37 = .ok (.aload_n 0, 1) := by decide +kernel
theorem dX3_readLift_38 : decode cX3_readLift 38 = .ok (.invokevirtual 57, 3) := by decide +kernel
theorem dX3_readLift_41 : decode cX3_readLift 41 = .ok (.ireturn, 1) := by decide +kernel
set_option maxRecDepth 20000 in
theorem ggX3_readLine_X3_nextIsNumber : GoodIn wsX3_readLine wsX3_nextIsNumber := goodIn_r _ [6, 7, 1, 8, 9, 10, 5, 11, 12, 13, 14, 15, 16, 17, 18, 19, 20, 21, 22, 23, 24, 25, 26, 27, 28, 29, 30, 31, 32, 33, 34, 35, 36, 48, 49, 50, 51, 52, 53] (by decide +kernel) (by decide +kernel)
set_option maxRecDepth 20000 in
theorem gX3_readLine_X3_nextIsNumber : GoodIn wsX3_readLine (wsV RX3 46 RX3 yX3_nextIsNumber wsX3_nextIsNumber) := goodIn_app (goodIn_of _ (by decide +kernel)) ggX3_readLine_X3_nextIsNumber
set_option maxRecDepth 20000 in
theorem ggX3_readLine_X1_setLine : GoodIn wsX3_readLine wsX1_setLine := goodIn_r _ [41, 42, 43, 54, 55, 56, 57, 58, 59, 60, 61, 62, 63, 64, 65, 66, 67] (by decide +kernel) (by decide +kernel)
set_option maxRecDepth 20000 in
theorem gX3_readLine_X1_setLine : GoodIn wsX3_readLine (wsV RX3 80 RX1 yX1_setLine wsX1_setLine) := goodIn_app (goodIn_of _ (by decide +kernel)) ggX3_readLine_X1_setLine
set_option maxRecDepth 20000 in
theorem ggX3_readLine_X3_nextIsSemicolon : GoodIn wsX3_readLine wsX3_nextIsSemicolon := goodIn_r _ [47, 7, 8, 9, 10, 5, 11, 12, 13, 14, 15, 1, 16, 17, 18, 19, 20, 21, 22, 23, 24, 25, 26, 27, 28, 29, 30, 31, 32, 33, 48, 49, 50, 51, 52, 53] (by decide +kernel) (by decide +kernel)
set_option maxRecDepth 20000 in
theorem gX3_readLine_X3_nextIsSemicolon : GoodIn wsX3_readLine (wsV RX3 57 RX3 yX3_nextIsSemicolon wsX3_nextIsSemicolon) := goodIn_app (goodIn_of _ (by decide +kernel)) ggX3_readLine_X3_nextIsSemicolon
theorem dX3_readLine_0 : decode cX3_readLine 0 = .ok (.aload_n 0, 1) := by decide +kernel
theorem dX3_readLine_1 : decode cX3_readLine 1 = .ok (.iconst 0, 1) := by decide +kernel
theorem dX3_readLine_2 : decode cX3_readLine 2 = .ok (.iconst 1, 1) := by decide +kernel
theorem dX3_readLine_3 : decode cX3_readLine 3 = .ok (.invokevirtual 46, 3) := by decide +kernel
theorem dX3_readLine_6 : decode cX3_readLine 6 = .ok (.ifCond .ne 5, 3) := by decide +kernel
theorem dX3_readLine_9 : decode cX3_readLine 9 = .ok (.iconst 0, 1) := by decide +kernel
theorem dX3_readLine_10 : decode cX3_readLine 10 = .ok (.ireturn, 1) := by decide +kernel
theorem dX3_readLine_11 : decode cX3_readLine 11 = .ok (.aload_n 0, 1) := by decide +kernel
theorem dX3_readLine_12 : decode cX3_readLine 12 = .ok (.getfield 50, 3) := by decide +kernel
theorem dX3_readLine_15 : decode cX3_readLine 15 = .ok (.istore_n 2, 1) := by decide +kernel
theorem dX3_readLine_16 : decode cX3_readLine 16 = .ok (.aload_n 0, 1) := by decide +kernel
theorem dX3_readLine_17 : decode cX3_readLine 17 = .ok (.iconst 1, 1) := by decide +kernel
theorem dX3_readLine_18 : decode cX3_readLine 18 = .ok (.bipush 30, 2) := by decide +kernel
theorem dX3_readLine_20 : decode cX3_readLine 20 = .ok (.invokevirtual 46, 3) := by decide +kernel
theorem dX3_readLine_23 : decode cX3_readLine 23 = .ok (.ifCond .ne 5, 3) := by decide +kernel
theorem dX3_readLine_26 : decode cX3_readLine 26 = .ok (.iconst 0, 1) := by decide +kernel
theorem dX3_readLine_27 : decode cX3_readLine 27 = .ok (.ireturn, 1) := by decide +kernel
theorem dX3_readLine_28 : decode cX3_readLine 28 = .ok (.aload_n 0, 1) := by decide +kernel
theorem dX3_readLine_29 : decode cX3_readLine 29 = .ok (.getfield 50, 3) := by decide +kernel
theorem dX3_readLine_32 : decode cX3_readLine 32 = .ok (.istore_n 3, 1) := by decide +kernel
theorem dX3_readLine_33 : decode cX3_readLine 33 = .ok (.aload_n 0, 1) := by decide +kernel
theorem dX3_readLine_34 : decode cX3_readLine 34 = .ok (.iconst 0, 1) := by decide +kernel
theorem dX3_readLine_35 : decode cX3_readLine 35 = .ok (.bipush 29, 2) := by decide +kernel
theorem dX3_readLine_37 : decode cX3_readLine 37 = .ok (.invokevirtual 46, 3) := by decide +kernel
theorem dX3_readLine_40 : decode cX3_readLine 40 = .ok (.ifCond .ne 5, 3) := by decide +kernel
theorem dX3_readLine_43 : decode cX3_readLine 43 = .ok (.iconst 0, 1) := by decide +kernel
theorem dX3_readLine_44 : decode cX3_readLine 44 = .ok (.ireturn, 1) := by decide +kernel
theorem dX3_readLine_45 : decode cX3_readLine 45 = .ok (.aload_n 1, 1) := by decide +kernel
theorem dX3_readLine_46 : decode cX3_readLine 46 = .ok (.iload_n 2, 1) := by decide +kernel
theorem dX3_readLine_47 : decode cX3_readLine 47 = .ok (.iload_n 3, 1) := by decide +kernel
theorem dX3_readLine_48 : decode cX3_readLine 48 = .ok (.aload_n 0, 1) := by decide +kernel
theorem dX3_readLine_49 : decode cX3_readLine 49 = .ok (.getfield 50, 3) := by decide +kernel
theorem dX3_readLine_52 : decode cX3_readLine 52 = .ok (.invokevirtual 80, 3) := by decide +kernel
theorem dX3_readLine_55 : decode cX3_readLine 55 = .ok (.aload_n 0, 1) := by decide +kernel
theorem dX3_readLine_56 : decode cX3_readLine 56 = .ok (.invokevirtual 57, 3) := by decide +kernel
theorem dX3_readLine_59 : decode cX3_readLine 59 = .ok (.ireturn, 1) := by decide +kernel
set_option maxRecDepth 20000 in
theorem ggX3_isWord_J0_length_8abf5 : GoodIn wsX3_isWord wsJ0_length_8abf5 := goodIn_r _ [9, 10, 11, 12, 13, 8, 14, 15, 16] (by decide +kernel) (by decide +kernel)
set_option maxRecDepth 20000 in
theorem gX3_isWord_J0_length_8abf5 : GoodIn wsX3_isWord (wsV RX3 84 RJ0 yJ0_length_8abf5 wsJ0_length_8abf5) := goodIn_app (goodIn_of _ (by decide +kernel)) ggX3_isWord_J0_length_8abf5
set_option maxRecDepth 20000 in
theorem ggX3_isWord_J0_charAt_5068e : GoodIn wsX3_isWord wsJ0_charAt_5068e := goodIn_r _ [20, 10, 21, 22, 23, 8, 24, 15, 16, 25, 26, 27, 28, 29, 30, 31, 32, 33, 34, 35, 36, 37, 38, 39, 40, 41, 42, 43, 44, 45, 46, 47, 48, 49, 50, 51, 52, 53] (by decide +kernel) (by decide +kernel)
set_option maxRecDepth 20000 in
theorem gX3_isWord_J0_charAt_5068e : GoodIn wsX3_isWord (wsV RX3 89 RJ0 yJ0_charAt_5068e wsJ0_charAt_5068e) := goodIn_app (goodIn_of _ (by decide +kernel)) ggX3_isWord_J0_charAt_5068e
theorem dX3_isWord_0 : decode cX3_isWord 0 = .ok (.aload_n 0, 1) := by decide +kernel
theorem dX3_isWord_1 : decode cX3_isWord 1 = .ok (.getfield 32, 3) := by decide +kernel
theorem dX3_isWord_4 : decode cX3_isWord 4 = .ok (.iconst 1, 1) := by decide +kernel
theorem dX3_isWord_5 : decode cX3_isWord 5 = .ok (.if_icmp .ne 19, 3) := by decide +kernel
theorem dX3_isWord_8 : decode cX3_isWord 8 = .ok (.aload_n 0, 1) := by decide +kernel
theorem dX3_isWord_9 : decode cX3_isWord 9 = .ok (.getfield 19, 3) := by decide +kernel
theorem dX3_isWord_12 : decode cX3_isWord 12 = .ok (.aload_n 0, 1) := by decide +kernel
theorem dX3_isWord_13 : decode cX3_isWord 13 = .ok (.getfield 29, 3) := by decide +kernel
theorem dX3_isWord_16 : decode cX3_isWord 16 = .ok (.isub, 1) := by decide +kernel
theorem dX3_isWord_17 : decode cX3_isWord 17 = .ok (.aload_n 1, 1) := by decide +kernel
theorem dX3_isWord_18 : decode cX3_isWord 18 = .ok (.invokevirtual 84, 3) := by decide +kernel
theorem dX3_isWord_21 : decode cX3_isWord 21 = .ok (.if_icmp .eq 5, 3) := by decide +kernel
theorem dX3_isWord_24 : decode cX3_isWord 24 = .ok (.iconst 0, 1) := by decide +kernel
theorem dX3_isWord_25 : decode cX3_isWord 25 = .ok (.ireturn, 1) := by decide +kernel
theorem dX3_isWord_26 : decode cX3_isWord 26 = .ok (.iconst 0, 1) := by decide +kernel
theorem dX3_isWord_27 : decode cX3_isWord 27 = .ok (.istore_n 2, 1) := by decide +kernel
theorem dX3_isWord_28 : decode cX3_isWord 28 = .ok (.iload_n 2, 1) := by decide +kernel
theorem dX3_isWord_29 : decode cX3_isWord 29 = .ok (.aload_n 1, 1) := by decide +kernel
theorem dX3_isWord_30 : decode cX3_isWord 30 = .ok (.invokevirtual 84, 3) := by decide +kernel
theorem dX3_isWord_33 : decode cX3_isWord 33 = .ok (.if_icmp .ge 30, 3) := by decide +kernel
theorem dX3_isWord_36 : decode cX3_isWord 36 = .ok (.aload_n 0, 1) := by decide +kernel
theorem dX3_isWord_37 : decode cX3_isWord 37 = .ok (.getfield 11, 3) := by decide +kernel
theorem dX3_isWord_40 : decode cX3_isWord 40 = .ok (.aload_n 0, 1) := by decide +kernel
theorem dX3_isWord_41 : decode cX3_isWord 41 = .ok (.getfield 29, 3) := by decide +kernel
theorem dX3_isWord_44 : decode cX3_isWord 44 = .ok (.iload_n 2, 1) := by decide +kernel
theorem dX3_isWord_45 : decode cX3_isWord 45 = .ok (.iadd, 1) := by decide +kernel
theorem dX3_isWord_46 : decode cX3_isWord 46 = .ok (.baload, 1) := by decide +kernel
theorem dX3_isWord_47 : decode cX3_isWord 47 = .ok (.aload_n 1, 1) := by decide +kernel
theorem dX3_isWord_48 : decode cX3_isWord 48 = .ok (.iload_n 2, 1) := by decide +kernel
theorem dX3_isWord_49 : decode cX3_isWord 49 = .ok (.invokevirtual 89, 3) := by decide +kernel
theorem dX3_isWord_52 : decode cX3_isWord 52 = .ok (.if_icmp .eq 5, 3) := by decide +kernel
theorem dX3_isWord_55 : decode cX3_isWord 55 = .ok (.iconst 0, 1) := by decide +kernel
theorem dX3_isWord_56 : decode cX3_isWord 56 = .ok (.ireturn, 1) := by decide +kernel
theorem dX3_isWord_57 : decode cX3_isWord 57 = .ok (.iinc 2 1, 3) := by decide +kernel
theorem dX3_isWord_60 : decode cX3_isWord 60 = .ok (.goto (-32), 3) := by decide +kernel
theorem dX3_isWord_63 : decode cX3_isWord 63 = .ok (.iconst 1, 1) := by decide +kernel
theorem dX3_isWord_64 : decode cX3_isWord 64 = .ok (.ireturn, 1) := by decide +kernel
set_option maxRecDepth 20000 in
theorem ggX3_nextIsNumber_X3_nextToken : GoodIn wsX3_nextIsNumber wsX3_nextToken := goodIn_r _ [7, 8, 9, 10, 11, 1, 2, 12, 13, 6, 14, 15, 16, 17, 18, 19, 20, 21, 22, 23, 24, 25, 26, 27, 28, 29, 33, 34, 35, 36, 37, 38] (by decide +kernel) (by decide +kernel)
set_option maxRecDepth 20000 in
theorem gX3_nextIsNumber_X3_nextToken : GoodIn wsX3_nextIsNumber (wsV RX3 22 RX3 yX3_nextToken wsX3_nextToken) := goodIn_app (goodIn_of _ (by decide +kernel)) ggX3_nextIsNumber_X3_nextToken
set_option maxRecDepth 20000 in
theorem ggX3_nextIsNumber_X5_isWithin : GoodIn wsX3_nextIsNumber wsX5_isWithin := goodIn_r _ [32] (by decide +kernel) (by decide +kernel)
set_option maxRecDepth 20000 in
theorem gX3_nextIsNumber_X5_isWithin_n93 : GoodIn wsX3_nextIsNumber (wsX5_isWithin) := ggX3_nextIsNumber_X5_isWithin
theorem dX3_nextIsNumber_0 : decode cX3_nextIsNumber 0 = .ok (.aload_n 0, 1) := by decide +kernel
theorem dX3_nextIsNumber_1 : decode cX3_nextIsNumber 1 = .ok (.invokevirtual 22, 3) := by decide +kernel
theorem dX3_nextIsNumber_4 : decode cX3_nextIsNumber 4 = .ok (.aload_n 0, 1) := by decide +kernel
theorem dX3_nextIsNumber_5 : decode cX3_nextIsNumber 5 = .ok (.getfield 32, 3) := by decide +kernel
theorem dX3_nextIsNumber_8 : decode cX3_nextIsNumber 8 = .ok (.iconst 2, 1) := by decide +kernel
theorem dX3_nextIsNumber_9 : decode cX3_nextIsNumber 9 = .ok (.if_icmp .ne 19, 3) := by decide +kernel
theorem dX3_nextIsNumber_12 : decode cX3_nextIsNumber 12 = .ok (.aload_n 0, 1) := by decide +kernel
theorem dX3_nextIsNumber_13 : decode cX3_nextIsNumber 13 = .ok (.getfield 50, 3) := by decide +kernel
theorem dX3_nextIsNumber_16 : decode cX3_nextIsNumber 16 = .ok (.iload_n 1, 1) := by decide +kernel
theorem dX3_nextIsNumber_17 : decode cX3_nextIsNumber 17 = .ok (.iload_n 2, 1) := by decide +kernel
theorem dX3_nextIsNumber_18 : decode cX3_nextIsNumber 18 = .ok (.invokestatic 93, 3) := by decide +kernel
theorem dX3_nextIsNumber_21 : decode cX3_nextIsNumber 21 = .ok (.ifCond .eq 7, 3) := by decide +kernel
theorem dX3_nextIsNumber_24 : decode cX3_nextIsNumber 24 = .ok (.iconst 1, 1) := by decide +kernel
theorem dX3_nextIsNumber_25 : decode cX3_nextIsNumber 25 = .ok (.goto 4, 3) := by decide +kernel
theorem dX3_nextIsNumber_28 : decode cX3_nextIsNumber 28 = .ok (.iconst 0, 1) := by decide +kernel
theorem dX3_nextIsNumber_29 : decode cX3_nextIsNumber 29 = .ok (.ireturn, 1) := by decide +kernel
set_option maxRecDepth 20000 in
theorem ggX3_nextIsSemicolon_X3_nextToken : GoodIn wsX3_nextIsSemicolon wsX3_nextToken := goodIn_r _ [6, 7, 8, 9, 10, 1, 11, 12, 13, 5, 14, 15, 16, 17, 18, 19, 20, 21, 22, 23, 24, 25, 26, 27, 28, 29, 30, 31, 32, 33, 34, 35] (by decide +kernel) (by decide +kernel)
set_option maxRecDepth 20000 in
theorem gX3_nextIsSemicolon_X3_nextToken : GoodIn wsX3_nextIsSemicolon (wsV RX3 22 RX3 yX3_nextToken wsX3_nextToken) := goodIn_app (goodIn_of _ (by decide +kernel)) ggX3_nextIsSemicolon_X3_nextToken
theorem dX3_nextIsSemicolon_0 : decode cX3_nextIsSemicolon 0 = .ok (.aload_n 0, 1) := by decide +kernel
theorem dX3_nextIsSemicolon_1 : decode cX3_nextIsSemicolon 1 = .ok (.invokevirtual 22, 3) := by decide +kernel
theorem dX3_nextIsSemicolon_4 : decode cX3_nextIsSemicolon 4 = .ok (.aload_n 0, 1) := by decide +kernel
theorem dX3_nextIsSemicolon_5 : decode cX3_nextIsSemicolon 5 = .ok (.getfield 32, 3) := by decide +kernel
theorem dX3_nextIsSemicolon_8 : decode cX3_nextIsSemicolon 8 = .ok (.iconst 3, 1) := by decide +kernel
theorem dX3_nextIsSemicolon_9 : decode cX3_nextIsSemicolon 9 = .ok (.if_icmp .ne 7, 3) := by decide +kernel
theorem dX3_nextIsSemicolon_12 : decode cX3_nextIsSemicolon 12 = .ok (.iconst 1, 1) := by decide +kernel
theorem dX3_nextIsSemicolon_13 : decode cX3_nextIsSemicolon 13 = .ok (.goto 4, 3) := by decide +kernel
theorem dX3_nextIsSemicolon_16 : decode cX3_nextIsSemicolon 16 = .ok (.iconst 0, 1) := by decide +kernel
theorem dX3_nextIsSemicolon_17 : decode cX3_nextIsSemicolon 17 = .ok (.ireturn, 1) := by decide +kernel
set_option maxRecDepth 20000 in
theorem ggX3_nextToken_X3_isLetter : GoodIn wsX3_nextToken wsX3_isLetter := goodIn_r _ [10] (by decide +kernel) (by decide +kernel)
set_option maxRecDepth 20000 in
theorem gX3_nextToken_X3_isLetter : GoodIn wsX3_nextToken (va_wsS RX3 97 yX3_isLetter wsX3_isLetter) := goodIn_app (goodIn_of _ (by decide +kernel)) ggX3_nextToken_X3_isLetter
set_option maxRecDepth 20000 in
theorem ggX3_nextToken_X3_endOfWord : GoodIn wsX3_nextToken wsX3_endOfWord := goodIn_r _ [14, 2, 3, 7, 8, 9, 10, 26, 27, 28, 29, 30, 31] (by decide +kernel) (by decide +kernel)
set_option maxRecDepth 20000 in
theorem gX3_nextToken_X3_endOfWord : GoodIn wsX3_nextToken (wsV RX3 101 RX3 yX3_endOfWord wsX3_endOfWord) := goodIn_app (goodIn_of _ (by decide +kernel)) ggX3_nextToken_X3_endOfWord
set_option maxRecDepth 20000 in
theorem ggX3_nextToken_X3_isFigure : GoodIn wsX3_nextToken wsX3_isFigure := goodIn_r _ [17] (by decide +kernel) (by decide +kernel)
set_option maxRecDepth 20000 in
theorem gX3_nextToken_X3_isFigure : GoodIn wsX3_nextToken (va_wsS RX3 105 yX3_isFigure wsX3_isFigure) := goodIn_app (goodIn_of _ (by decide +kernel)) ggX3_nextToken_X3_isFigure
set_option maxRecDepth 20000 in
theorem ggX3_nextToken_X3_endOfNumber : GoodIn wsX3_nextToken wsX3_endOfNumber := goodIn_r _ [21, 2, 3, 15, 16, 9, 17, 26, 27, 28, 29, 30, 31] (by decide +kernel) (by decide +kernel)
set_option maxRecDepth 20000 in
theorem gX3_nextToken_X3_endOfNumber : GoodIn wsX3_nextToken (wsV RX3 108 RX3 yX3_endOfNumber wsX3_endOfNumber) := goodIn_app (goodIn_of _ (by decide +kernel)) ggX3_nextToken_X3_endOfNumber
set_option maxRecDepth 20000 in
theorem ggX3_nextToken_X3_valueOf : GoodIn wsX3_nextToken wsX3_valueOf := goodIn_r _ [25, 3, 26, 27, 28, 29, 30, 31] (by decide +kernel) (by decide +kernel)
set_option maxRecDepth 20000 in
theorem gX3_nextToken_X3_valueOf : GoodIn wsX3_nextToken (wsV RX3 111 RX3 yX3_valueOf wsX3_valueOf) := goodIn_app (goodIn_of _ (by decide +kernel)) ggX3_nextToken_X3_valueOf
theorem dX3_nextToken_0 : decode cX3_nextToken 0 = .ok (.aload_n 0, 1) := by decide +kernel
theorem dX3_nextToken_1 : decode cX3_nextToken 1 = .ok (.getfield 19, 3) := by decide +kernel
theorem dX3_nextToken_4 : decode cX3_nextToken 4 = .ok (.istore_n 1, 1) := by decide +kernel
theorem dX3_nextToken_5 : decode cX3_nextToken 5 = .ok (.iload_n 1, 1) := by decide +kernel
theorem dX3_nextToken_6 : decode cX3_nextToken 6 = .ok (.aload_n 0, 1) := by decide +kernel
theorem dX3_nextToken_7 : decode cX3_nextToken 7 = .ok (.getfield 15, 3) := by decide +kernel
theorem dX3_nextToken_10 : decode cX3_nextToken 10 = .ok (.if_icmp .ge 20, 3) := by decide +kernel
theorem dX3_nextToken_13 : decode cX3_nextToken 13 = .ok (.aload_n 0, 1) := by decide +kernel
theorem dX3_nextToken_14 : decode cX3_nextToken 14 = .ok (.getfield 11, 3) := by decide +kernel
theorem dX3_nextToken_17 : decode cX3_nextToken 17 = .ok (.iload_n 1, 1) := by decide +kernel
theorem dX3_nextToken_18 : decode cX3_nextToken 18 = .ok (.baload, 1) := by decide +kernel
theorem dX3_nextToken_19 : decode cX3_nextToken 19 = .ok (.bipush 32, 2) := by decide +kernel
theorem dX3_nextToken_21 : decode cX3_nextToken 21 = .ok (.if_icmp .ne 9, 3) := by decide +kernel
theorem dX3_nextToken_24 : decode cX3_nextToken 24 = .ok (.iinc 1 1, 3) := by decide +kernel
theorem dX3_nextToken_27 : decode cX3_nextToken 27 = .ok (.goto (-22), 3) := by decide +kernel
theorem dX3_nextToken_30 : decode cX3_nextToken 30 = .ok (.aload_n 0, 1) := by decide +kernel
theorem dX3_nextToken_31 : decode cX3_nextToken 31 = .ok (.iload_n 1, 1) := by decide +kernel
theorem dX3_nextToken_32 : decode cX3_nextToken 32 = .ok (.putfield 29, 3) := by decide +kernel
theorem dX3_nextToken_35 : decode cX3_nextToken 35 = .ok (.iload_n 1, 1) := by decide +kernel
theorem dX3_nextToken_36 : decode cX3_nextToken 36 = .ok (.aload_n 0, 1) := by decide +kernel
theorem dX3_nextToken_37 : decode cX3_nextToken 37 = .ok (.getfield 15, 3) := by decide +kernel
theorem dX3_nextToken_40 : decode cX3_nextToken 40 = .ok (.if_icmp .lt 11, 3) := by decide +kernel
theorem dX3_nextToken_43 : decode cX3_nextToken 43 = .ok (.aload_n 0, 1) := by decide +kernel
theorem dX3_nextToken_44 : decode cX3_nextToken 44 = .ok (.iconst 0, 1) := by decide +kernel
theorem dX3_nextToken_45 : decode cX3_nextToken 45 = .ok (.putfield 32, 3) := by decide +kernel
theorem dX3_nextToken_48 : decode cX3_nextToken 48 = .ok (.goto 91, 3) := by decide +kernel
theorem dX3_nextToken_51 : decode cX3_nextToken 51 = .ok (.aload_n 0, 1) := by decide +kernel
theorem dX3_nextToken_52 : decode cX3_nextToken 52 = .ok (.getfield 11, 3) := by decide +kernel
theorem dX3_nextToken_55 : decode cX3_nextToken 55 = .ok (.iload_n 1, 1) := by decide +kernel
theorem dX3_nextToken_56 : decode cX3_nextToken 56 = .ok (.baload, 1) := by decide +kernel
theorem dX3_nextToken_57 : decode cX3_nextToken 57 = .ok (.invokestatic 97, 3) := by decide +kernel
theorem dX3_nextToken_60 : decode cX3_nextToken 60 = .ok (.ifCond .eq 17, 3) := by decide +kernel
theorem dX3_nextToken_63 : decode cX3_nextToken 63 = .ok (.aload_n 0, 1) := by decide +kernel
theorem dX3_nextToken_64 : decode cX3_nextToken 64 = .ok (.iconst 1, 1) := by decide +kernel
theorem dX3_nextToken_65 : decode cX3_nextToken 65 = .ok (.putfield 32, 3) := by decide +kernel
theorem dX3_nextToken_68 : decode cX3_nextToken 68 = .ok (.aload_n 0, 1) := by decide +kernel
theorem dX3_nextToken_69 : decode cX3_nextToken 69 = .ok (.iload_n 1, 1) := by decide +kernel
theorem dX3_nextToken_70 : decode cX3_nextToken 70 = .ok (.invokevirtual 101, 3) := by decide +kernel
theorem dX3_nextToken_73 : decode cX3_nextToken 73 = .ok (.istore_n 1, 1) := by decide +kernel
theorem dX3_nextToken_74 : decode cX3_nextToken 74 = .ok (.goto 65, 3) := by decide +kernel
theorem dX3_nextToken_77 : decode cX3_nextToken 77 = .ok (.aload_n 0, 1) := by decide +kernel
theorem dX3_nextToken_78 : decode cX3_nextToken 78 = .ok (.getfield 11, 3) := by decide +kernel
theorem dX3_nextToken_81 : decode cX3_nextToken 81 = .ok (.iload_n 1, 1) := by decide +kernel
theorem dX3_nextToken_82 : decode cX3_nextToken 82 = .ok (.baload, 1) := by decide +kernel
theorem dX3_nextToken_83 : decode cX3_nextToken 83 = .ok (.invokestatic 105, 3) := by decide +kernel
theorem dX3_nextToken_86 : decode cX3_nextToken 86 = .ok (.ifCond .eq 30, 3) := by decide +kernel
theorem dX3_nextToken_89 : decode cX3_nextToken 89 = .ok (.aload_n 0, 1) := by decide +kernel
theorem dX3_nextToken_90 : decode cX3_nextToken 90 = .ok (.iconst 2, 1) := by decide +kernel
theorem dX3_nextToken_91 : decode cX3_nextToken 91 = .ok (.putfield 32, 3) := by decide +kernel
theorem dX3_nextToken_94 : decode cX3_nextToken 94 = .ok (.aload_n 0, 1) := by decide +kernel
theorem dX3_nextToken_95 : decode cX3_nextToken 95 = .ok (.iload_n 1, 1) := by decide +kernel
theorem dX3_nextToken_96 : decode cX3_nextToken 96 = .ok (.invokevirtual 108, 3) := by decide +kernel
theorem dX3_nextToken_99 : decode cX3_nextToken 99 = .ok (.istore_n 1, 1) := by decide +kernel
theorem dX3_nextToken_100 : decode cX3_nextToken 100 = .ok (.aload_n 0, 1) := by decide +kernel
theorem dX3_nextToken_101 : decode cX3_nextToken 101 = .ok (.aload_n 0, 1) := by decide +kernel
theorem dX3_nextToken_102 : decode cX3_nextToken 102 = .ok (.aload_n 0, 1) := by decide +kernel
theorem dX3_nextToken_103 : decode cX3_nextToken 103 = .ok (.getfield 29, 3) := by decide +kernel
theorem dX3_nextToken_106 : decode cX3_nextToken 106 = .ok (.iload_n 1, 1) := by decide +kernel
theorem dX3_nextToken_107 : decode cX3_nextToken 107 = .ok (.invokevirtual 111, 3) := by decide +kernel
theorem dX3_nextToken_110 : decode cX3_nextToken 110 = .ok (.putfield 50, 3) := by decide +kernel
theorem dX3_nextToken_113 : decode cX3_nextToken 113 = .ok (.goto 26, 3) := by decide +kernel
theorem dX3_nextToken_116 : decode cX3_nextToken 116 = .ok (.aload_n 0, 1) := by decide +kernel
theorem dX3_nextToken_117 : decode cX3_nextToken 117 = .ok (.aload_n 0, 1) := by decide +kernel
theorem dX3_nextToken_118 : decode cX3_nextToken 118 = .ok (.getfield 11, 3) := by decide +kernel
theorem dX3_nextToken_121 : decode cX3_nextToken 121 = .ok (.iload_n 1, 1) := by decide +kernel
theorem dX3_nextToken_122 : decode cX3_nextToken 122 = .ok (.baload, 1) := by decide +kernel
theorem dX3_nextToken_123 : decode cX3_nextToken 123 = .ok (.bipush 59, 2) := by decide +kernel
theorem dX3_nextToken_125 : decode cX3_nextToken 125 = .ok (.if_icmp .ne 7, 3) := by decide +kernel
theorem dX3_nextToken_128 : decode cX3_nextToken 128 = .ok (.iconst 3, 1) := by decide +kernel
theorem dX3_nextToken_129 : decode cX3_nextToken 129 = .ok (.goto 4, 3) := by decide +kernel
theorem dX3_nextToken_132 : decode cX3_nextToken 132 = .ok (.iconst 4, 1) := by decide +kernel
theorem dX3_nextToken_133 : decode cX3_nextToken 133 = .ok (.putfield 32, 3) := by decide +kernel
theorem dX3_nextToken_136 : decode cX3_nextToken 136 = .ok (.iinc 1 1, 3) := by decide +kernel
theorem dX3_nextToken_139 : decode cX3_nextToken 139 = .ok (.aload_n 0, 1) := by decide +kernel
theorem dX3_nextToken_140 : decode cX3_nextToken 140 = .ok (.iload_n 1, 1) := by decide +kernel
theorem dX3_nextToken_141 : decode cX3_nextToken 141 = .ok (.putfield 19, 3) := by decide +kernel
theorem dX3_nextToken_144 : decode cX3_nextToken 144 = .ok (.return_, 1) := by decide +kernel
set_option maxRecDepth 20000 in
theorem ggX3_endOfWord_X3_isLetter : GoodIn wsX3_endOfWord wsX3_isLetter := goodIn_r _ [6] (by decide +kernel) (by decide +kernel)
set_option maxRecDepth 20000 in
theorem gX3_endOfWord_X3_isLetter : GoodIn wsX3_endOfWord (va_wsS RX3 97 yX3_isLetter wsX3_isLetter) := goodIn_app (goodIn_of _ (by decide +kernel)) ggX3_endOfWord_X3_isLetter
theorem dX3_endOfWord_0 : decode cX3_endOfWord 0 = .ok (.iload_n 1, 1) := by decide +kernel
theorem dX3_endOfWord_1 : decode cX3_endOfWord 1 = .ok (.istore_n 2, 1) := by decide +kernel
theorem dX3_endOfWord_2 : decode cX3_endOfWord 2 = .ok (.iload_n 2, 1) := by decide +kernel
theorem dX3_endOfWord_3 : decode cX3_endOfWord 3 = .ok (.aload_n 0, 1) := by decide +kernel
theorem dX3_endOfWord_4 : decode cX3_endOfWord 4 = .ok (.getfield 15, 3) := by decide +kernel
theorem dX3_endOfWord_7 : decode cX3_endOfWord 7 = .ok (.if_icmp .ge 21, 3) := by decide +kernel
theorem dX3_endOfWord_10 : decode cX3_endOfWord 10 = .ok (.aload_n 0, 1) := by decide +kernel
theorem dX3_endOfWord_11 : decode cX3_endOfWord 11 = .ok (.getfield 11, 3) := by decide +kernel
theorem dX3_endOfWord_14 : decode cX3_endOfWord 14 = .ok (.iload_n 2, 1) := by decide +kernel
theorem dX3_endOfWord_15 : decode cX3_endOfWord 15 = .ok (.baload, 1) := by decide +kernel
theorem dX3_endOfWord_16 : decode cX3_endOfWord 16 = .ok (.invokestatic 97, 3) := by decide +kernel
theorem dX3_endOfWord_19 : decode cX3_endOfWord 19 = .ok (.ifCond .eq 9, 3) := by decide +kernel
theorem dX3_endOfWord_22 : decode cX3_endOfWord 22 = .ok (.iinc 2 1, 3) := by decide +kernel
theorem dX3_endOfWord_25 : decode cX3_endOfWord 25 = .ok (.goto (-23), 3) := by decide +kernel
theorem dX3_endOfWord_28 : decode cX3_endOfWord 28 = .ok (.iload_n 2, 1) := by decide +kernel
theorem dX3_endOfWord_29 : decode cX3_endOfWord 29 = .ok (.ireturn, 1) := by decide +kernel
set_option maxRecDepth 20000 in
theorem ggX3_endOfNumber_X3_isFigure : GoodIn wsX3_endOfNumber wsX3_isFigure := goodIn_r _ [6] (by decide +kernel) (by decide +kernel)
set_option maxRecDepth 20000 in
theorem gX3_endOfNumber_X3_isFigure : GoodIn wsX3_endOfNumber (va_wsS RX3 105 yX3_isFigure wsX3_isFigure) := goodIn_app (goodIn_of _ (by decide +kernel)) ggX3_endOfNumber_X3_isFigure
theorem dX3_endOfNumber_0 : decode cX3_endOfNumber 0 = .ok (.iload_n 1, 1) := by decide +kernel
theorem dX3_endOfNumber_1 : decode cX3_endOfNumber 1 = .ok (.istore_n 2, 1) := by decide +kernel
theorem dX3_endOfNumber_2 : decode cX3_endOfNumber 2 = .ok (.iload_n 2, 1) := by decide +kernel
theorem dX3_endOfNumber_3 : decode cX3_endOfNumber 3 = .ok (.aload_n 0, 1) := by decide +kernel
theorem dX3_endOfNumber_4 : decode cX3_endOfNumber 4 = .ok (.getfield 15, 3) := by decide +kernel
theorem dX3_endOfNumber_7 : decode cX3_endOfNumber 7 = .ok (.if_icmp .ge 21, 3) := by decide +kernel
theorem dX3_endOfNumber_10 : decode cX3_endOfNumber 10 = .ok (.aload_n 0, 1) := by decide +kernel
theorem dX3_endOfNumber_11 : decode cX3_endOfNumber 11 = .ok (.getfield 11, 3) := by decide +kernel
theorem dX3_endOfNumber_14 : decode cX3_endOfNumber 14 = .ok (.iload_n 2, 1) := by decide +kernel
theorem dX3_endOfNumber_15 : decode cX3_endOfNumber 15 = .ok (.baload, 1) := by decide +kernel
theorem dX3_endOfNumber_16 : decode cX3_endOfNumber 16 = .ok (.invokestatic 105, 3) := by decide +kernel
theorem dX3_endOfNumber_19 : decode cX3_endOfNumber 19 = .ok (.ifCond .eq 9, 3) := by decide +kernel
theorem dX3_endOfNumber_22 : decode cX3_endOfNumber 22 = .ok (.iinc 2 1, 3) := by decide +kernel
theorem dX3_endOfNumber_25 : decode cX3_endOfNumber 25 = .ok (.goto (-23), 3) := by decide +kernel
theorem dX3_endOfNumber_28 : decode cX3_endOfNumber 28 = .ok (.iload_n 2, 1) := by decide +kernel
theorem dX3_endOfNumber_29 : decode cX3_endOfNumber 29 = .ok (.ireturn, 1) := by decide +kernel
theorem dX3_valueOf_0 : decode cX3_valueOf 0 = .ok (.iload_n 2, 1) := by decide +kernel
theorem dX3_valueOf_1 : decode cX3_valueOf 1 = .ok (.iload_n 1, 1) := by decide +kernel
theorem dX3_valueOf_2 : decode cX3_valueOf 2 = .ok (.isub, 1) := by decide +kernel
theorem dX3_valueOf_3 : decode cX3_valueOf 3 = .ok (.iconst 2, 1) := by decide +kernel
theorem dX3_valueOf_4 : decode cX3_valueOf 4 = .ok (.if_icmp .le 5, 3) := by decide +kernel
theorem dX3_valueOf_7 : decode cX3_valueOf 7 = .ok (.iconst (-1), 1) := by decide +kernel
theorem dX3_valueOf_8 : decode cX3_valueOf 8 = .ok (.ireturn, 1) := by decide +kernel
theorem dX3_valueOf_9 : decode cX3_valueOf 9 = .ok (.iconst 0, 1) := by decide +kernel
theorem dX3_valueOf_10 : decode cX3_valueOf 10 = .ok (.istore_n 3, 1) := by decide +kernel
theorem dX3_valueOf_11 : decode cX3_valueOf 11 = .ok (.iload_n 1, 1) := by decide +kernel
theorem dX3_valueOf_12 : decode cX3_valueOf 12 = .ok (.istore 4, 2) := by decide +kernel
theorem dX3_valueOf_14 : decode cX3_valueOf 14 = .ok (.iload 4, 2) := by decide +kernel
theorem dX3_valueOf_16 : decode cX3_valueOf 16 = .ok (.iload_n 2, 1) := by decide +kernel
theorem dX3_valueOf_17 : decode cX3_valueOf 17 = .ok (.if_icmp .ge 25, 3) := by decide +kernel
theorem dX3_valueOf_20 : decode cX3_valueOf 20 = .ok (.bipush 10, 2) := by decide +kernel
theorem dX3_valueOf_22 : decode cX3_valueOf 22 = .ok (.iload_n 3, 1) := by decide +kernel
theorem dX3_valueOf_23 : decode cX3_valueOf 23 = .ok (.imul, 1) := by decide +kernel
theorem dX3_valueOf_24 : decode cX3_valueOf 24 = .ok (.aload_n 0, 1) := by decide +kernel
theorem dX3_valueOf_25 : decode cX3_valueOf 25 = .ok (.getfield 11, 3) := by decide +kernel
theorem dX3_valueOf_28 : decode cX3_valueOf 28 = .ok (.iload 4, 2) := by decide +kernel
theorem dX3_valueOf_30 : decode cX3_valueOf 30 = .ok (.baload, 1) := by decide +kernel
theorem dX3_valueOf_31 : decode cX3_valueOf 31 = .ok (.iadd, 1) := by decide +kernel
theorem dX3_valueOf_32 : decode cX3_valueOf 32 = .ok (.bipush 48, 2) := by decide +kernel
theorem dX3_valueOf_34 : decode cX3_valueOf 34 = .ok (.isub, 1) := by decide +kernel
theorem dX3_valueOf_35 : decode cX3_valueOf 35 = .ok (.istore_n 3, 1) := by decide +kernel
theorem dX3_valueOf_36 : decode cX3_valueOf 36 = .ok (.iinc 4 1, 3) := by decide +kernel
theorem dX3_valueOf_39 : decode cX3_valueOf 39 = .ok (.goto (-25), 3) := by decide +kernel
theorem dX3_valueOf_42 : decode cX3_valueOf 42 = .ok (.iload_n 3, 1) := by decide +kernel
theorem dX3_valueOf_43 : decode cX3_valueOf 43 = .ok (.ireturn, 1) := by decide +kernel
theorem dX3_isLetter_0 : decode cX3_isLetter 0 = .ok (.iload_n 0, 1) := by decide +kernel
theorem dX3_isLetter_1 : decode cX3_isLetter 1 = .ok (.bipush 97, 2) := by decide +kernel
theorem dX3_isLetter_3 : decode cX3_isLetter 3 = .ok (.if_icmp .lt 13, 3) := by decide +kernel
theorem dX3_isLetter_6 : decode cX3_isLetter 6 = .ok (.iload_n 0, 1) := by decide +kernel
theorem dX3_isLetter_7 : decode cX3_isLetter 7 = .ok (.bipush 122, 2) := by decide +kernel
theorem dX3_isLetter_9 : decode cX3_isLetter 9 = .ok (.if_icmp .gt 7, 3) := by decide +kernel
theorem dX3_isLetter_12 : decode cX3_isLetter 12 = .ok (.iconst 1, 1) := by decide +kernel
theorem dX3_isLetter_13 : decode cX3_isLetter 13 = .ok (.goto 4, 3) := by decide +kernel
theorem dX3_isLetter_16 : decode cX3_isLetter 16 = .ok (.iconst 0, 1) := by decide +kernel
theorem dX3_isLetter_17 : decode cX3_isLetter 17 = .ok (.ireturn, 1) := by decide +kernel
theorem dX3_isFigure_0 : decode cX3_isFigure 0 = .ok (.iload_n 0, 1) := by decide +kernel
theorem dX3_isFigure_1 : decode cX3_isFigure 1 = .ok (.bipush 48, 2) := by decide +kernel
theorem dX3_isFigure_3 : decode cX3_isFigure 3 = .ok (.if_icmp .lt 13, 3) := by decide +kernel
theorem dX3_isFigure_6 : decode cX3_isFigure 6 = .ok (.iload_n 0, 1) := by decide +kernel
theorem dX3_isFigure_7 : decode cX3_isFigure 7 = .ok (.bipush 57, 2) := by decide +kernel
theorem dX3_isFigure_9 : decode cX3_isFigure 9 = .ok (.if_icmp .gt 7, 3) := by decide +kernel
theorem dX3_isFigure_12 : decode cX3_isFigure 12 = .ok (.iconst 1, 1) := by decide +kernel
theorem dX3_isFigure_13 : decode cX3_isFigure 13 = .ok (.goto 4, 3) := by decide +kernel
theorem dX3_isFigure_16 : decode cX3_isFigure 16 = .ok (.iconst 0, 1) := by decide +kernel
theorem dX3_isFigure_17 : decode cX3_isFigure 17 = .ok (.ireturn, 1) := by decide +kernel
theorem dX4_init_0 : decode cX4_init 0 = .ok (.aload_n 0, 1) := by decide +kernel
theorem dX4_init_1 : decode cX4_init 1 = .ok (.invokespecial 3, 3) := by decide +kernel
theorem dX4_init_4 : decode cX4_init 4 = .ok (.aload_n 0, 1) := by decide +kernel
theorem dX4_init_5 : decode cX4_init 5 = .ok (.aload_n 1, 1) := by decide +kernel
theorem dX4_init_6 : decode cX4_init 6 = .ok (.putfield 9, 3) := by decide +kernel
theorem dX4_init_9 : decode cX4_init 9 = .ok (.return_, 1) := by decide +kernel
set_option maxRecDepth 20000 in
theorem ggX4_floorOf_X2_floorIn : GoodIn wsX4_floorOf wsX2_floorIn := goodIn_r _ [8, 9, 10, 11, 12, 13, 14, 15, 16, 17, 18, 19, 7, 20, 21] (by decide +kernel) (by decide +kernel)
set_option maxRecDepth 20000 in
theorem gX4_floorOf_X2_floorIn : GoodIn wsX4_floorOf (va_wsS RX4 28 yX2_floorIn wsX2_floorIn) := goodIn_app (goodIn_of _ (by decide +kernel)) ggX4_floorOf_X2_floorIn
theorem dX4_floorOf_0 : decode cX4_floorOf 0 = .ok (.aload_n 0, 1) := by decide +kernel
theorem dX4_floorOf_1 : decode cX4_floorOf 1 = .ok (.getfield 9, 3) := by decide +kernel
theorem dX4_floorOf_4 : decode cX4_floorOf 4 = .ok (.getfield 15, 3) := by decide +kernel
theorem dX4_floorOf_7 : decode cX4_floorOf 7 = .ok (.iload_n 1, 1) := by decide +kernel
theorem dX4_floorOf_8 : decode cX4_floorOf 8 = .ok (.iaload, 1) := by decide +kernel
theorem dX4_floorOf_9 : decode cX4_floorOf 9 = .ok (.aload_n 0, 1) := by decide +kernel
theorem dX4_floorOf_10 : decode cX4_floorOf 10 = .ok (.getfield 9, 3) := by decide +kernel
theorem dX4_floorOf_13 : decode cX4_floorOf 13 = .ok (.getfield 21, 3) := by decide +kernel
theorem dX4_floorOf_16 : decode cX4_floorOf 16 = .ok (.aload_n 0, 1) := by decide +kernel
theorem dX4_floorOf_17 : decode cX4_floorOf 17 = .ok (.getfield 9, 3) := by decide +kernel
theorem dX4_floorOf_20 : decode cX4_floorOf 20 = .ok (.getfield 25, 3) := by decide +kernel
theorem dX4_floorOf_23 : decode cX4_floorOf 23 = .ok (.iload_n 1, 1) := by decide +kernel
theorem dX4_floorOf_24 : decode cX4_floorOf 24 = .ok (.iaload, 1) := by decide +kernel
theorem dX4_floorOf_25 : decode cX4_floorOf 25 = .ok (.iload_n 2, 1) := by decide +kernel
theorem dX4_floorOf_26 : decode cX4_floorOf 26 = .ok (.invokestatic 28, 3) := by decide +kernel
theorem dX4_floorOf_29 : decode cX4_floorOf 29 = .ok (.ireturn, 1) := by decide +kernel
set_option maxRecDepth 20000 in
theorem ggX4_wayOf_X2_floorIn : GoodIn wsX4_wayOf wsX2_floorIn := goodIn_r _ [8, 9, 10, 11, 12, 13, 14, 15, 16, 17, 18, 19, 7, 20, 21] (by decide +kernel) (by decide +kernel)
set_option maxRecDepth 20000 in
theorem gX4_wayOf_X2_floorIn : GoodIn wsX4_wayOf (va_wsS RX4 28 yX2_floorIn wsX2_floorIn) := goodIn_app (goodIn_of _ (by decide +kernel)) ggX4_wayOf_X2_floorIn
theorem dX4_wayOf_0 : decode cX4_wayOf 0 = .ok (.aload_n 0, 1) := by decide +kernel
theorem dX4_wayOf_1 : decode cX4_wayOf 1 = .ok (.getfield 9, 3) := by decide +kernel
theorem dX4_wayOf_4 : decode cX4_wayOf 4 = .ok (.getfield 15, 3) := by decide +kernel
theorem dX4_wayOf_7 : decode cX4_wayOf 7 = .ok (.iload_n 1, 1) := by decide +kernel
theorem dX4_wayOf_8 : decode cX4_wayOf 8 = .ok (.iaload, 1) := by decide +kernel
theorem dX4_wayOf_9 : decode cX4_wayOf 9 = .ok (.istore_n 3, 1) := by decide +kernel
theorem dX4_wayOf_10 : decode cX4_wayOf 10 = .ok (.aload_n 0, 1) := by decide +kernel
theorem dX4_wayOf_11 : decode cX4_wayOf 11 = .ok (.getfield 9, 3) := by decide +kernel
theorem dX4_wayOf_14 : decode cX4_wayOf 14 = .ok (.getfield 25, 3) := by decide +kernel
theorem dX4_wayOf_17 : decode cX4_wayOf 17 = .ok (.iload_n 1, 1) := by decide +kernel
theorem dX4_wayOf_18 : decode cX4_wayOf 18 = .ok (.iaload, 1) := by decide +kernel
theorem dX4_wayOf_19 : decode cX4_wayOf 19 = .ok (.istore 4, 2) := by decide +kernel
theorem dX4_wayOf_21 : decode cX4_wayOf 21 = .ok (.iload_n 3, 1) := by decide +kernel
theorem dX4_wayOf_22 : decode cX4_wayOf 22 = .ok (.aload_n 0, 1) := by decide +kernel
theorem dX4_wayOf_23 : decode cX4_wayOf 23 = .ok (.getfield 9, 3) := by decide +kernel
theorem dX4_wayOf_26 : decode cX4_wayOf 26 = .ok (.getfield 21, 3) := by decide +kernel
theorem dX4_wayOf_29 : decode cX4_wayOf 29 = .ok (.iload 4, 2) := by decide +kernel
theorem dX4_wayOf_31 : decode cX4_wayOf 31 = .ok (.iload_n 2, 1) := by decide +kernel
theorem dX4_wayOf_32 : decode cX4_wayOf 32 = .ok (.invokestatic 28, 3) := by decide +kernel
theorem dX4_wayOf_35 : decode cX4_wayOf 35 = .ok (.istore 5, 2) := by decide +kernel
theorem dX4_wayOf_37 : decode cX4_wayOf 37 = .ok (.iconst 1, 1) := by decide +kernel
theorem dX4_wayOf_38 : decode cX4_wayOf 38 = .ok (.istore 6, 2) := by decide +kernel
theorem dX4_wayOf_40 : decode cX4_wayOf 40 = .ok (.iload 6, 2) := by decide +kernel
theorem dX4_wayOf_42 : decode cX4_wayOf 42 = .ok (.bipush 28, 2) := by decide +kernel
theorem dX4_wayOf_44 : decode cX4_wayOf 44 = .ok (.if_icmp .ge 48, 3) := by decide +kernel
theorem dX4_wayOf_47 : decode cX4_wayOf 47 = .ok (.iload_n 3, 1) := by decide +kernel
theorem dX4_wayOf_48 : decode cX4_wayOf 48 = .ok (.aload_n 0, 1) := by decide +kernel
theorem dX4_wayOf_49 : decode cX4_wayOf 49 = .ok (.getfield 9, 3) := by decide +kernel
theorem dX4_wayOf_52 : decode cX4_wayOf 52 = .ok (.getfield 21, 3) := by decide +kernel
theorem dX4_wayOf_55 : decode cX4_wayOf 55 = .ok (.iload 4, 2) := by decide +kernel
theorem dX4_wayOf_57 : decode cX4_wayOf 57 = .ok (.iload_n 2, 1) := by decide +kernel
theorem dX4_wayOf_58 : decode cX4_wayOf 58 = .ok (.iload 6, 2) := by decide +kernel
theorem dX4_wayOf_60 : decode cX4_wayOf 60 = .ok (.iadd, 1) := by decide +kernel
theorem dX4_wayOf_61 : decode cX4_wayOf 61 = .ok (.invokestatic 28, 3) := by decide +kernel
theorem dX4_wayOf_64 : decode cX4_wayOf 64 = .ok (.istore 7, 2) := by decide +kernel
theorem dX4_wayOf_66 : decode cX4_wayOf 66 = .ok (.iload 7, 2) := by decide +kernel
theorem dX4_wayOf_68 : decode cX4_wayOf 68 = .ok (.iload 5, 2) := by decide +kernel
theorem dX4_wayOf_70 : decode cX4_wayOf 70 = .ok (.if_icmp .eq 16, 3) := by decide +kernel
theorem dX4_wayOf_73 : decode cX4_wayOf 73 = .ok (.iload 7, 2) := by decide +kernel
theorem dX4_wayOf_75 : decode cX4_wayOf 75 = .ok (.iload 5, 2) := by decide +kernel
theorem dX4_wayOf_77 : decode cX4_wayOf 77 = .ok (.if_icmp .le 7, 3) := by decide +kernel
theorem dX4_wayOf_80 : decode cX4_wayOf 80 = .ok (.iconst 1, 1) := by decide +kernel
theorem dX4_wayOf_81 : decode cX4_wayOf 81 = .ok (.goto 4, 3) := by decide +kernel
theorem dX4_wayOf_84 : decode cX4_wayOf 84 = .ok (.iconst 0, 1) := by decide +kernel
theorem dX4_wayOf_85 : decode cX4_wayOf 85 = .ok (.ireturn, 1) := by decide +kernel
theorem dX4_wayOf_86 : decode cX4_wayOf 86 = .ok (.iinc 6 1, 3) := by decide +kernel
theorem dX4_wayOf_89 : decode cX4_wayOf 89 = .ok (.goto (-49), 3) := by decide +kernel
theorem dX4_wayOf_92 : decode cX4_wayOf 92 = .ok (.iconst 0, 1) := by decide +kernel
theorem dX4_wayOf_93 : decode cX4_wayOf 93 = .ok (.ireturn, 1) := by decide +kernel
set_option maxRecDepth 20000 in
theorem ggX4_isSeen_X2_opens : GoodIn wsX4_isSeen wsX2_opens := goodIn_r _ [8] (by decide +kernel) (by decide +kernel)
set_option maxRecDepth 20000 in
theorem gX4_isSeen_X2_opens : GoodIn wsX4_isSeen (va_wsS RX4 34 yX2_opens wsX2_opens) := goodIn_app (goodIn_of _ (by decide +kernel)) ggX4_isSeen_X2_opens
set_option maxRecDepth 20000 in
theorem ggX4_isSeen_X2_floorIn : GoodIn wsX4_isSeen wsX2_floorIn := goodIn_r _ [11, 12, 13, 14, 15, 16, 17, 18, 19, 20, 21, 22, 7, 23, 24] (by decide +kernel) (by decide +kernel)
set_option maxRecDepth 20000 in
theorem gX4_isSeen_X2_floorIn : GoodIn wsX4_isSeen (va_wsS RX4 28 yX2_floorIn wsX2_floorIn) := goodIn_app (goodIn_of _ (by decide +kernel)) ggX4_isSeen_X2_floorIn
theorem dX4_isSeen_0 : decode cX4_isSeen 0 = .ok (.aload_n 0, 1) := by decide +kernel
theorem dX4_isSeen_1 : decode cX4_isSeen 1 = .ok (.getfield 9, 3) := by decide +kernel
theorem dX4_isSeen_4 : decode cX4_isSeen 4 = .ok (.getfield 15, 3) := by decide +kernel
theorem dX4_isSeen_7 : decode cX4_isSeen 7 = .ok (.iload_n 1, 1) := by decide +kernel
theorem dX4_isSeen_8 : decode cX4_isSeen 8 = .ok (.iaload, 1) := by decide +kernel
theorem dX4_isSeen_9 : decode cX4_isSeen 9 = .ok (.istore 4, 2) := by decide +kernel
theorem dX4_isSeen_11 : decode cX4_isSeen 11 = .ok (.iload 4, 2) := by decide +kernel
theorem dX4_isSeen_13 : decode cX4_isSeen 13 = .ok (.aload_n 0, 1) := by decide +kernel
theorem dX4_isSeen_14 : decode cX4_isSeen 14 = .ok (.getfield 9, 3) := by decide +kernel
end
section
theorem dX4_isSeen_17 : decode cX4_isSeen 17 = .ok (.getfield 21, 3) := by decide +kernel
theorem dX4_isSeen_20 : decode cX4_isSeen 20 = .ok (.iload_n 2, 1) := by decide +kernel
theorem dX4_isSeen_21 : decode cX4_isSeen 21 = .ok (.invokestatic 34, 3) := by decide +kernel
theorem dX4_isSeen_24 : decode cX4_isSeen 24 = .ok (.ifCond .eq 33, 3) := by decide +kernel
theorem dX4_isSeen_27 : decode cX4_isSeen 27 = .ok (.iload 4, 2) := by decide +kernel
theorem dX4_isSeen_29 : decode cX4_isSeen 29 = .ok (.aload_n 0, 1) := by decide +kernel
theorem dX4_isSeen_30 : decode cX4_isSeen 30 = .ok (.getfield 9, 3) := by decide +kernel
theorem dX4_isSeen_33 : decode cX4_isSeen 33 = .ok (.getfield 21, 3) := by decide +kernel
theorem dX4_isSeen_36 : decode cX4_isSeen 36 = .ok (.aload_n 0, 1) := by decide +kernel
theorem dX4_isSeen_37 : decode cX4_isSeen 37 = .ok (.getfield 9, 3) := by decide +kernel
theorem dX4_isSeen_40 : decode cX4_isSeen 40 = .ok (.getfield 25, 3) := by decide +kernel
theorem dX4_isSeen_43 : decode cX4_isSeen 43 = .ok (.iload_n 1, 1) := by decide +kernel
theorem dX4_isSeen_44 : decode cX4_isSeen 44 = .ok (.iaload, 1) := by decide +kernel
theorem dX4_isSeen_45 : decode cX4_isSeen 45 = .ok (.iload_n 3, 1) := by decide +kernel
theorem dX4_isSeen_46 : decode cX4_isSeen 46 = .ok (.invokestatic 28, 3) := by decide +kernel
theorem dX4_isSeen_49 : decode cX4_isSeen 49 = .ok (.iload_n 2, 1) := by decide +kernel
theorem dX4_isSeen_50 : decode cX4_isSeen 50 = .ok (.if_icmp .ne 7, 3) := by decide +kernel
theorem dX4_isSeen_53 : decode cX4_isSeen 53 = .ok (.iconst 1, 1) := by decide +kernel
theorem dX4_isSeen_54 : decode cX4_isSeen 54 = .ok (.goto 4, 3) := by decide +kernel
theorem dX4_isSeen_57 : decode cX4_isSeen 57 = .ok (.iconst 0, 1) := by decide +kernel
theorem dX4_isSeen_58 : decode cX4_isSeen 58 = .ok (.ireturn, 1) := by decide +kernel
set_option maxRecDepth 20000 in
theorem ggX4_seenFrom_X4_isSeen : GoodIn wsX4_seenFrom wsX4_isSeen := goodIn_r _ [7, 1, 8, 9, 10, 11, 12, 13, 14, 15, 16, 17, 18, 19, 20, 21, 22, 23, 24, 25, 26, 27, 28, 29, 30, 35, 36, 37, 38, 39, 40, 41, 42, 43, 44, 45, 46, 47, 48, 49] (by decide +kernel) (by decide +kernel)
set_option maxRecDepth 20000 in
theorem gX4_seenFrom_X4_isSeen : GoodIn wsX4_seenFrom (wsV RX4 41 RX4 yX4_isSeen wsX4_isSeen) := goodIn_app (goodIn_of _ (by decide +kernel)) ggX4_seenFrom_X4_isSeen
set_option maxRecDepth 20000 in
theorem ggX4_seenFrom_X4_wayOf : GoodIn wsX4_seenFrom wsX4_wayOf := goodIn_r _ [34, 1, 8, 10, 9, 15, 16, 13, 17, 18, 19, 20, 21, 22, 23, 24, 25, 26, 27, 28, 29, 30, 35, 36, 37, 38, 39, 40, 41, 42, 43, 44, 45, 46, 47, 48, 49] (by decide +kernel) (by decide +kernel)
set_option maxRecDepth 20000 in
theorem gX4_seenFrom_X4_wayOf : GoodIn wsX4_seenFrom (wsV RX4 44 RX4 yX4_wayOf wsX4_wayOf) := goodIn_app (goodIn_of _ (by decide +kernel)) ggX4_seenFrom_X4_wayOf
theorem dX4_seenFrom_0 : decode cX4_seenFrom 0 = .ok (.iconst 0, 1) := by decide +kernel
theorem dX4_seenFrom_1 : decode cX4_seenFrom 1 = .ok (.istore 4, 2) := by decide +kernel
theorem dX4_seenFrom_3 : decode cX4_seenFrom 3 = .ok (.iload 4, 2) := by decide +kernel
theorem dX4_seenFrom_5 : decode cX4_seenFrom 5 = .ok (.aload_n 0, 1) := by decide +kernel
theorem dX4_seenFrom_6 : decode cX4_seenFrom 6 = .ok (.getfield 9, 3) := by decide +kernel
theorem dX4_seenFrom_9 : decode cX4_seenFrom 9 = .ok (.getfield 38, 3) := by decide +kernel
theorem dX4_seenFrom_12 : decode cX4_seenFrom 12 = .ok (.if_icmp .ge 39, 3) := by decide +kernel
theorem dX4_seenFrom_15 : decode cX4_seenFrom 15 = .ok (.aload_n 0, 1) := by decide +kernel
theorem dX4_seenFrom_16 : decode cX4_seenFrom 16 = .ok (.iload 4, 2) := by decide +kernel
theorem dX4_seenFrom_18 : decode cX4_seenFrom 18 = .ok (.iload_n 1, 1) := by decide +kernel
theorem dX4_seenFrom_19 : decode cX4_seenFrom 19 = .ok (.iload_n 2, 1) := by decide +kernel
theorem dX4_seenFrom_20 : decode cX4_seenFrom 20 = .ok (.invokevirtual 41, 3) := by decide +kernel
theorem dX4_seenFrom_23 : decode cX4_seenFrom 23 = .ok (.ifCond .eq 22, 3) := by decide +kernel
theorem dX4_seenFrom_26 : decode cX4_seenFrom 26 = .ok (.iload_n 3, 1) := by decide +kernel
theorem dX4_seenFrom_27 : decode cX4_seenFrom 27 = .ok (.iconst (-1), 1) := by decide +kernel
theorem dX4_seenFrom_28 : decode cX4_seenFrom 28 = .ok (.if_icmp .eq 14, 3) := by decide +kernel
theorem dX4_seenFrom_31 : decode cX4_seenFrom 31 = .ok (.aload_n 0, 1) := by decide +kernel
theorem dX4_seenFrom_32 : decode cX4_seenFrom 32 = .ok (.iload 4, 2) := by decide +kernel
theorem dX4_seenFrom_34 : decode cX4_seenFrom 34 = .ok (.iload_n 2, 1) := by decide +kernel
theorem dX4_seenFrom_35 : decode cX4_seenFrom 35 = .ok (.invokevirtual 44, 3) := by decide +kernel
theorem dX4_seenFrom_38 : decode cX4_seenFrom 38 = .ok (.iload_n 3, 1) := by decide +kernel
theorem dX4_seenFrom_39 : decode cX4_seenFrom 39 = .ok (.if_icmp .ne 6, 3) := by decide +kernel
theorem dX4_seenFrom_42 : decode cX4_seenFrom 42 = .ok (.iload 4, 2) := by decide +kernel
theorem dX4_seenFrom_44 : decode cX4_seenFrom 44 = .ok (.ireturn, 1) := by decide +kernel
theorem dX4_seenFrom_45 : decode cX4_seenFrom 45 = .ok (.iinc 4 1, 3) := by decide +kernel
theorem dX4_seenFrom_48 : decode cX4_seenFrom 48 = .ok (.goto (-45), 3) := by decide +kernel
theorem dX4_seenFrom_51 : decode cX4_seenFrom 51 = .ok (.iconst (-1), 1) := by decide +kernel
theorem dX4_seenFrom_52 : decode cX4_seenFrom 52 = .ok (.ireturn, 1) := by decide +kernel
set_option maxRecDepth 20000 in
theorem ggX4_waitOn_X4_seenFrom : GoodIn wsX4_waitOn wsX4_seenFrom := goodIn_r _ [5, 6, 7, 8, 9, 10, 4, 11, 12, 13, 14, 15, 16, 17, 18, 19, 20, 21, 22, 23, 24, 25, 26, 27, 28, 29, 30, 31, 32, 33, 34, 35, 36, 37, 38, 39, 40, 41, 42, 43, 44, 45, 46, 47, 48, 49, 50, 51, 52, 53] (by decide +kernel) (by decide +kernel)
set_option maxRecDepth 20000 in
theorem gX4_waitOn_X4_seenFrom : GoodIn wsX4_waitOn (wsV RX4 48 RX4 yX4_seenFrom wsX4_seenFrom) := goodIn_app (goodIn_of _ (by decide +kernel)) ggX4_waitOn_X4_seenFrom
theorem dX4_waitOn_0 : decode cX4_waitOn 0 = .ok (.iconst 0, 1) := by decide +kernel
theorem dX4_waitOn_1 : decode cX4_waitOn 1 = .ok (.istore 4, 2) := by decide +kernel
theorem dX4_waitOn_3 : decode cX4_waitOn 3 = .ok (.iload 4, 2) := by decide +kernel
theorem dX4_waitOn_5 : decode cX4_waitOn 5 = .ok (.bipush 28, 2) := by decide +kernel
theorem dX4_waitOn_7 : decode cX4_waitOn 7 = .ok (.if_icmp .ge 26, 3) := by decide +kernel
theorem dX4_waitOn_10 : decode cX4_waitOn 10 = .ok (.aload_n 0, 1) := by decide +kernel
theorem dX4_waitOn_11 : decode cX4_waitOn 11 = .ok (.iload_n 1, 1) := by decide +kernel
theorem dX4_waitOn_12 : decode cX4_waitOn 12 = .ok (.iload_n 2, 1) := by decide +kernel
theorem dX4_waitOn_13 : decode cX4_waitOn 13 = .ok (.iload 4, 2) := by decide +kernel
theorem dX4_waitOn_15 : decode cX4_waitOn 15 = .ok (.iadd, 1) := by decide +kernel
theorem dX4_waitOn_16 : decode cX4_waitOn 16 = .ok (.iload_n 3, 1) := by decide +kernel
theorem dX4_waitOn_17 : decode cX4_waitOn 17 = .ok (.invokevirtual 48, 3) := by decide +kernel
theorem dX4_waitOn_20 : decode cX4_waitOn 20 = .ok (.iconst (-1), 1) := by decide +kernel
theorem dX4_waitOn_21 : decode cX4_waitOn 21 = .ok (.if_icmp .eq 6, 3) := by decide +kernel
theorem dX4_waitOn_24 : decode cX4_waitOn 24 = .ok (.iload 4, 2) := by decide +kernel
theorem dX4_waitOn_26 : decode cX4_waitOn 26 = .ok (.ireturn, 1) := by decide +kernel
theorem dX4_waitOn_27 : decode cX4_waitOn 27 = .ok (.iinc 4 1, 3) := by decide +kernel
theorem dX4_waitOn_30 : decode cX4_waitOn 30 = .ok (.goto (-27), 3) := by decide +kernel
theorem dX4_waitOn_33 : decode cX4_waitOn 33 = .ok (.iconst (-1), 1) := by decide +kernel
theorem dX4_waitOn_34 : decode cX4_waitOn 34 = .ok (.ireturn, 1) := by decide +kernel
set_option maxRecDepth 20000 in
theorem ggX4_waitForLift_X4_isSeen : GoodIn wsX4_waitForLift wsX4_isSeen := goodIn_r _ [5, 6, 7, 8, 9, 10, 11, 12, 13, 14, 15, 16, 17, 18, 19, 20, 21, 22, 23, 24, 25, 26, 27, 28, 29, 30, 31, 32, 33, 34, 35, 36, 37, 38, 39, 40, 41, 42, 43, 44] (by decide +kernel) (by decide +kernel)
set_option maxRecDepth 20000 in
theorem gX4_waitForLift_X4_isSeen : GoodIn wsX4_waitForLift (wsV RX4 41 RX4 yX4_isSeen wsX4_isSeen) := goodIn_app (goodIn_of _ (by decide +kernel)) ggX4_waitForLift_X4_isSeen
theorem dX4_waitForLift_0 : decode cX4_waitForLift 0 = .ok (.iconst 0, 1) := by decide +kernel
theorem dX4_waitForLift_1 : decode cX4_waitForLift 1 = .ok (.istore 4, 2) := by decide +kernel
theorem dX4_waitForLift_3 : decode cX4_waitForLift 3 = .ok (.iload 4, 2) := by decide +kernel
theorem dX4_waitForLift_5 : decode cX4_waitForLift 5 = .ok (.bipush 28, 2) := by decide +kernel
theorem dX4_waitForLift_7 : decode cX4_waitForLift 7 = .ok (.if_icmp .ge 25, 3) := by decide +kernel
theorem dX4_waitForLift_10 : decode cX4_waitForLift 10 = .ok (.aload_n 0, 1) := by decide +kernel
theorem dX4_waitForLift_11 : decode cX4_waitForLift 11 = .ok (.iload_n 1, 1) := by decide +kernel
theorem dX4_waitForLift_12 : decode cX4_waitForLift 12 = .ok (.iload_n 2, 1) := by decide +kernel
theorem dX4_waitForLift_13 : decode cX4_waitForLift 13 = .ok (.iload_n 3, 1) := by decide +kernel
theorem dX4_waitForLift_14 : decode cX4_waitForLift 14 = .ok (.iload 4, 2) := by decide +kernel
theorem dX4_waitForLift_16 : decode cX4_waitForLift 16 = .ok (.iadd, 1) := by decide +kernel
theorem dX4_waitForLift_17 : decode cX4_waitForLift 17 = .ok (.invokevirtual 41, 3) := by decide +kernel
theorem dX4_waitForLift_20 : decode cX4_waitForLift 20 = .ok (.ifCond .eq 6, 3) := by decide +kernel
theorem dX4_waitForLift_23 : decode cX4_waitForLift 23 = .ok (.iload 4, 2) := by decide +kernel
theorem dX4_waitForLift_25 : decode cX4_waitForLift 25 = .ok (.ireturn, 1) := by decide +kernel
theorem dX4_waitForLift_26 : decode cX4_waitForLift 26 = .ok (.iinc 4 1, 3) := by decide +kernel
theorem dX4_waitForLift_29 : decode cX4_waitForLift 29 = .ok (.goto (-26), 3) := by decide +kernel
theorem dX4_waitForLift_32 : decode cX4_waitForLift 32 = .ok (.iconst (-1), 1) := by decide +kernel
theorem dX4_waitForLift_33 : decode cX4_waitForLift 33 = .ok (.ireturn, 1) := by decide +kernel
set_option maxRecDepth 20000 in
theorem ggX4_wayOfFirst_X4_waitOn : GoodIn wsX4_wayOfFirst wsX4_waitOn := goodIn_r _ [5, 6, 7, 8, 4, 9, 10, 11, 12, 13, 14, 15, 16, 17, 18, 19, 20, 21, 22, 23, 24, 25, 26, 27, 28, 29, 30, 31, 32, 33, 34, 35, 36, 37, 38, 39, 40, 41, 42, 43, 44, 45, 46, 47, 48, 49, 50, 51, 52, 53, 54, 55, 56, 57] (by decide +kernel) (by decide +kernel)
set_option maxRecDepth 20000 in
theorem gX4_wayOfFirst_X4_waitOn : GoodIn wsX4_wayOfFirst (wsV RX4 52 RX4 yX4_waitOn wsX4_waitOn) := goodIn_app (goodIn_of _ (by decide +kernel)) ggX4_wayOfFirst_X4_waitOn
set_option maxRecDepth 20000 in
theorem ggX4_wayOfFirst_X4_seenFrom : GoodIn wsX4_wayOfFirst wsX4_seenFrom := goodIn_r _ [9, 10, 11, 12, 13, 14, 4, 15, 16, 17, 18, 19, 20, 21, 22, 23, 24, 25, 26, 27, 28, 29, 30, 31, 32, 33, 34, 35, 36, 37, 38, 39, 40, 41, 42, 43, 44, 45, 46, 47, 48, 49, 50, 51, 52, 53, 54, 55, 56, 57] (by decide +kernel) (by decide +kernel)
set_option maxRecDepth 20000 in
theorem gX4_wayOfFirst_X4_seenFrom : GoodIn wsX4_wayOfFirst (wsV RX4 48 RX4 yX4_seenFrom wsX4_seenFrom) := goodIn_app (goodIn_of _ (by decide +kernel)) ggX4_wayOfFirst_X4_seenFrom
set_option maxRecDepth 20000 in
theorem ggX4_wayOfFirst_X4_wayOf : GoodIn wsX4_wayOfFirst wsX4_wayOf := goodIn_r _ [42, 10, 16, 18, 17, 23, 24, 21, 25, 26, 27, 28, 29, 30, 31, 32, 33, 34, 35, 36, 37, 38, 43, 44, 45, 46, 47, 48, 49, 50, 51, 52, 53, 54, 55, 56, 57] (by decide +kernel) (by decide +kernel)
set_option maxRecDepth 20000 in
theorem gX4_wayOfFirst_X4_wayOf : GoodIn wsX4_wayOfFirst (wsV RX4 44 RX4 yX4_wayOf wsX4_wayOf) := goodIn_app (goodIn_of _ (by decide +kernel)) ggX4_wayOfFirst_X4_wayOf
theorem dX4_wayOfFirst_0 : decode cX4_wayOfFirst 0 = .ok (.aload_n 0, 1) := by decide +kernel
theorem dX4_wayOfFirst_1 : decode cX4_wayOfFirst 1 = .ok (.iload_n 1, 1) := by decide +kernel
theorem dX4_wayOfFirst_2 : decode cX4_wayOfFirst 2 = .ok (.iload_n 2, 1) := by decide +kernel
theorem dX4_wayOfFirst_3 : decode cX4_wayOfFirst 3 = .ok (.iconst (-1), 1) := by decide +kernel
theorem dX4_wayOfFirst_4 : decode cX4_wayOfFirst 4 = .ok (.invokevirtual 52, 3) := by decide +kernel
theorem dX4_wayOfFirst_7 : decode cX4_wayOfFirst 7 = .ok (.istore_n 3, 1) := by decide +kernel
theorem dX4_wayOfFirst_8 : decode cX4_wayOfFirst 8 = .ok (.iload_n 3, 1) := by decide +kernel
theorem dX4_wayOfFirst_9 : decode cX4_wayOfFirst 9 = .ok (.iconst (-1), 1) := by decide +kernel
theorem dX4_wayOfFirst_10 : decode cX4_wayOfFirst 10 = .ok (.if_icmp .ne 5, 3) := by decide +kernel
theorem dX4_wayOfFirst_13 : decode cX4_wayOfFirst 13 = .ok (.iconst (-1), 1) := by decide +kernel
theorem dX4_wayOfFirst_14 : decode cX4_wayOfFirst 14 = .ok (.ireturn, 1) := by decide +kernel
theorem dX4_wayOfFirst_15 : decode cX4_wayOfFirst 15 = .ok (.aload_n 0, 1) := by decide +kernel
theorem dX4_wayOfFirst_16 : decode cX4_wayOfFirst 16 = .ok (.iload_n 1, 1) := by decide +kernel
theorem dX4_wayOfFirst_17 : decode cX4_wayOfFirst 17 = .ok (.iload_n 2, 1) := by decide +kernel
theorem dX4_wayOfFirst_18 : decode cX4_wayOfFirst 18 = .ok (.iload_n 3, 1) := by decide +kernel
theorem dX4_wayOfFirst_19 : decode cX4_wayOfFirst 19 = .ok (.iadd, 1) := by decide +kernel
theorem dX4_wayOfFirst_20 : decode cX4_wayOfFirst 20 = .ok (.iconst (-1), 1) := by decide +kernel
theorem dX4_wayOfFirst_21 : decode cX4_wayOfFirst 21 = .ok (.invokevirtual 48, 3) := by decide +kernel
theorem dX4_wayOfFirst_24 : decode cX4_wayOfFirst 24 = .ok (.istore 4, 2) := by decide +kernel
theorem dX4_wayOfFirst_26 : decode cX4_wayOfFirst 26 = .ok (.iload 4, 2) := by decide +kernel
theorem dX4_wayOfFirst_28 : decode cX4_wayOfFirst 28 = .ok (.iconst (-1), 1) := by decide +kernel
theorem dX4_wayOfFirst_29 : decode cX4_wayOfFirst 29 = .ok (.if_icmp .ne 7, 3) := by decide +kernel
theorem dX4_wayOfFirst_32 : decode cX4_wayOfFirst 32 = .ok (.iconst (-1), 1) := by decide +kernel
theorem dX4_wayOfFirst_33 : decode cX4_wayOfFirst 33 = .ok (.goto 12, 3) := by decide +kernel
theorem dX4_wayOfFirst_36 : decode cX4_wayOfFirst 36 = .ok (.aload_n 0, 1) := by decide +kernel
theorem dX4_wayOfFirst_37 : decode cX4_wayOfFirst 37 = .ok (.iload 4, 2) := by decide +kernel
theorem dX4_wayOfFirst_39 : decode cX4_wayOfFirst 39 = .ok (.iload_n 2, 1) := by decide +kernel
theorem dX4_wayOfFirst_40 : decode cX4_wayOfFirst 40 = .ok (.iload_n 3, 1) := by decide +kernel
theorem dX4_wayOfFirst_41 : decode cX4_wayOfFirst 41 = .ok (.iadd, 1) := by decide +kernel
theorem dX4_wayOfFirst_42 : decode cX4_wayOfFirst 42 = .ok (.invokevirtual 44, 3) := by decide +kernel
theorem dX4_wayOfFirst_45 : decode cX4_wayOfFirst 45 = .ok (.ireturn, 1) := by decide +kernel
set_option maxRecDepth 20000 in
theorem ggX4_rideTime_X4_waitOn : GoodIn wsX4_rideTime wsX4_waitOn := goodIn_r _ [5, 6, 7, 8, 4, 9, 10, 11, 12, 13, 14, 15, 16, 17, 18, 19, 20, 21, 22, 23, 24, 25, 26, 27, 28, 29, 30, 31, 32, 33, 34, 35, 36, 37, 38, 39, 40, 41, 42, 47, 48, 49, 50, 51, 52, 53, 54, 55, 56, 57, 58, 59, 60, 61] (by decide +kernel) (by decide +kernel)
set_option maxRecDepth 20000 in
theorem gX4_rideTime_X4_waitOn : GoodIn wsX4_rideTime (wsV RX4 52 RX4 yX4_waitOn wsX4_waitOn) := goodIn_app (goodIn_of _ (by decide +kernel)) ggX4_rideTime_X4_waitOn
set_option maxRecDepth 20000 in
theorem ggX4_rideTime_X4_seenFrom : GoodIn wsX4_rideTime wsX4_seenFrom := goodIn_r _ [9, 10, 11, 12, 13, 14, 4, 15, 16, 17, 18, 19, 20, 21, 22, 23, 24, 25, 26, 27, 28, 29, 30, 31, 32, 33, 34, 35, 36, 37, 38, 39, 40, 41, 42, 47, 48, 49, 50, 51, 52, 53, 54, 55, 56, 57, 58, 59, 60, 61] (by decide +kernel) (by decide +kernel)
set_option maxRecDepth 20000 in
theorem gX4_rideTime_X4_seenFrom : GoodIn wsX4_rideTime (wsV RX4 48 RX4 yX4_seenFrom wsX4_seenFrom) := goodIn_app (goodIn_of _ (by decide +kernel)) ggX4_rideTime_X4_seenFrom
set_option maxRecDepth 20000 in
theorem ggX4_rideTime_X4_waitForLift : GoodIn wsX4_rideTime wsX4_waitForLift := goodIn_r _ [46, 12, 13, 14, 4, 15, 10, 16, 17, 18, 19, 20, 21, 22, 23, 24, 25, 26, 27, 28, 29, 30, 31, 32, 33, 34, 35, 36, 37, 38, 47, 48, 49, 50, 51, 52, 53, 54, 55, 56, 57, 58, 59, 60, 61] (by decide +kernel) (by decide +kernel)
set_option maxRecDepth 20000 in
theorem gX4_rideTime_X4_waitForLift : GoodIn wsX4_rideTime (wsV RX4 55 RX4 yX4_waitForLift wsX4_waitForLift) := goodIn_app (goodIn_of _ (by decide +kernel)) ggX4_rideTime_X4_waitForLift
theorem dX4_rideTime_0 : decode cX4_rideTime 0 = .ok (.iload_n 1, 1) := by decide +kernel
theorem dX4_rideTime_1 : decode cX4_rideTime 1 = .ok (.iload_n 2, 1) := by decide +kernel
theorem dX4_rideTime_2 : decode cX4_rideTime 2 = .ok (.if_icmp .ne 5, 3) := by decide +kernel
theorem dX4_rideTime_5 : decode cX4_rideTime 5 = .ok (.iconst 0, 1) := by decide +kernel
theorem dX4_rideTime_6 : decode cX4_rideTime 6 = .ok (.ireturn, 1) := by decide +kernel
theorem dX4_rideTime_7 : decode cX4_rideTime 7 = .ok (.aload_n 0, 1) := by decide +kernel
theorem dX4_rideTime_8 : decode cX4_rideTime 8 = .ok (.iload_n 1, 1) := by decide +kernel
theorem dX4_rideTime_9 : decode cX4_rideTime 9 = .ok (.iload_n 3, 1) := by decide +kernel
theorem dX4_rideTime_10 : decode cX4_rideTime 10 = .ok (.iload 4, 2) := by decide +kernel
theorem dX4_rideTime_12 : decode cX4_rideTime 12 = .ok (.invokevirtual 52, 3) := by decide +kernel
theorem dX4_rideTime_15 : decode cX4_rideTime 15 = .ok (.istore 5, 2) := by decide +kernel
theorem dX4_rideTime_17 : decode cX4_rideTime 17 = .ok (.iload 5, 2) := by decide +kernel
theorem dX4_rideTime_19 : decode cX4_rideTime 19 = .ok (.iconst (-1), 1) := by decide +kernel
theorem dX4_rideTime_20 : decode cX4_rideTime 20 = .ok (.if_icmp .ne 5, 3) := by decide +kernel
theorem dX4_rideTime_23 : decode cX4_rideTime 23 = .ok (.iconst (-1), 1) := by decide +kernel
theorem dX4_rideTime_24 : decode cX4_rideTime 24 = .ok (.ireturn, 1) := by decide +kernel
theorem dX4_rideTime_25 : decode cX4_rideTime 25 = .ok (.aload_n 0, 1) := by decide +kernel
theorem dX4_rideTime_26 : decode cX4_rideTime 26 = .ok (.iload_n 1, 1) := by decide +kernel
theorem dX4_rideTime_27 : decode cX4_rideTime 27 = .ok (.iload_n 3, 1) := by decide +kernel
theorem dX4_rideTime_28 : decode cX4_rideTime 28 = .ok (.iload 5, 2) := by decide +kernel
theorem dX4_rideTime_30 : decode cX4_rideTime 30 = .ok (.iadd, 1) := by decide +kernel
theorem dX4_rideTime_31 : decode cX4_rideTime 31 = .ok (.iload 4, 2) := by decide +kernel
theorem dX4_rideTime_33 : decode cX4_rideTime 33 = .ok (.invokevirtual 48, 3) := by decide +kernel
theorem dX4_rideTime_36 : decode cX4_rideTime 36 = .ok (.istore 6, 2) := by decide +kernel
theorem dX4_rideTime_38 : decode cX4_rideTime 38 = .ok (.iload 6, 2) := by decide +kernel
theorem dX4_rideTime_40 : decode cX4_rideTime 40 = .ok (.iconst (-1), 1) := by decide +kernel
theorem dX4_rideTime_41 : decode cX4_rideTime 41 = .ok (.if_icmp .ne 7, 3) := by decide +kernel
theorem dX4_rideTime_44 : decode cX4_rideTime 44 = .ok (.iconst (-1), 1) := by decide +kernel
theorem dX4_rideTime_45 : decode cX4_rideTime 45 = .ok (.goto 14, 3) := by decide +kernel
theorem dX4_rideTime_48 : decode cX4_rideTime 48 = .ok (.aload_n 0, 1) := by decide +kernel
theorem dX4_rideTime_49 : decode cX4_rideTime 49 = .ok (.iload 6, 2) := by decide +kernel
theorem dX4_rideTime_51 : decode cX4_rideTime 51 = .ok (.iload_n 2, 1) := by decide +kernel
theorem dX4_rideTime_52 : decode cX4_rideTime 52 = .ok (.iload_n 3, 1) := by decide +kernel
theorem dX4_rideTime_53 : decode cX4_rideTime 53 = .ok (.iload 5, 2) := by decide +kernel
theorem dX4_rideTime_55 : decode cX4_rideTime 55 = .ok (.iadd, 1) := by decide +kernel
theorem dX4_rideTime_56 : decode cX4_rideTime 56 = .ok (.invokevirtual 55, 3) := by decide +kernel
theorem dX4_rideTime_59 : decode cX4_rideTime 59 = .ok (.istore 7, 2) := by decide +kernel
theorem dX4_rideTime_61 : decode cX4_rideTime 61 = .ok (.iload 7, 2) := by decide +kernel
theorem dX4_rideTime_63 : decode cX4_rideTime 63 = .ok (.iconst (-1), 1) := by decide +kernel
theorem dX4_rideTime_64 : decode cX4_rideTime 64 = .ok (.if_icmp .ne 7, 3) := by decide +kernel
theorem dX4_rideTime_67 : decode cX4_rideTime 67 = .ok (.iconst (-1), 1) := by decide +kernel
theorem dX4_rideTime_68 : decode cX4_rideTime 68 = .ok (.goto 8, 3) := by decide +kernel
theorem dX4_rideTime_71 : decode cX4_rideTime 71 = .ok (.iload 5, 2) := by decide +kernel
theorem dX4_rideTime_73 : decode cX4_rideTime 73 = .ok (.iload 7, 2) := by decide +kernel
theorem dX4_rideTime_75 : decode cX4_rideTime 75 = .ok (.iadd, 1) := by decide +kernel
theorem dX4_rideTime_76 : decode cX4_rideTime 76 = .ok (.ireturn, 1) := by decide +kernel
set_option maxRecDepth 20000 in
theorem ggX4_fits_X2_floorIn : GoodIn wsX4_fits wsX2_floorIn := goodIn_r _ [11, 12, 13, 14, 15, 16, 17, 18, 19, 20, 21, 22, 10, 23, 24] (by decide +kernel) (by decide +kernel)
set_option maxRecDepth 20000 in
theorem gX4_fits_X2_floorIn : GoodIn wsX4_fits (va_wsS RX4 28 yX2_floorIn wsX2_floorIn) := goodIn_app (goodIn_of _ (by decide +kernel)) ggX4_fits_X2_floorIn
theorem dX4_fits_0 : decode cX4_fits 0 = .ok (.iconst 0, 1) := by decide +kernel
theorem dX4_fits_1 : decode cX4_fits 1 = .ok (.istore 4, 2) := by decide +kernel
theorem dX4_fits_3 : decode cX4_fits 3 = .ok (.iload 4, 2) := by decide +kernel
theorem dX4_fits_5 : decode cX4_fits 5 = .ok (.aload_n 0, 1) := by decide +kernel
theorem dX4_fits_6 : decode cX4_fits 6 = .ok (.getfield 9, 3) := by decide +kernel
theorem dX4_fits_9 : decode cX4_fits 9 = .ok (.getfield 58, 3) := by decide +kernel
theorem dX4_fits_12 : decode cX4_fits 12 = .ok (.if_icmp .ge 95, 3) := by decide +kernel
theorem dX4_fits_15 : decode cX4_fits 15 = .ok (.aload_n 0, 1) := by decide +kernel
theorem dX4_fits_16 : decode cX4_fits 16 = .ok (.getfield 9, 3) := by decide +kernel
theorem dX4_fits_19 : decode cX4_fits 19 = .ok (.getfield 61, 3) := by decide +kernel
theorem dX4_fits_22 : decode cX4_fits 22 = .ok (.iload 4, 2) := by decide +kernel
theorem dX4_fits_24 : decode cX4_fits 24 = .ok (.iaload, 1) := by decide +kernel
theorem dX4_fits_25 : decode cX4_fits 25 = .ok (.iload_n 1, 1) := by decide +kernel
theorem dX4_fits_26 : decode cX4_fits 26 = .ok (.if_icmp .ne 75, 3) := by decide +kernel
theorem dX4_fits_29 : decode cX4_fits 29 = .ok (.iload_n 2, 1) := by decide +kernel
theorem dX4_fits_30 : decode cX4_fits 30 = .ok (.aload_n 0, 1) := by decide +kernel
theorem dX4_fits_31 : decode cX4_fits 31 = .ok (.getfield 9, 3) := by decide +kernel
theorem dX4_fits_34 : decode cX4_fits 34 = .ok (.getfield 21, 3) := by decide +kernel
theorem dX4_fits_37 : decode cX4_fits 37 = .ok (.iload_n 3, 1) := by decide +kernel
theorem dX4_fits_38 : decode cX4_fits 38 = .ok (.aload_n 0, 1) := by decide +kernel
theorem dX4_fits_39 : decode cX4_fits 39 = .ok (.getfield 9, 3) := by decide +kernel
theorem dX4_fits_42 : decode cX4_fits 42 = .ok (.getfield 64, 3) := by decide +kernel
theorem dX4_fits_45 : decode cX4_fits 45 = .ok (.iload 4, 2) := by decide +kernel
theorem dX4_fits_47 : decode cX4_fits 47 = .ok (.iaload, 1) := by decide +kernel
theorem dX4_fits_48 : decode cX4_fits 48 = .ok (.invokestatic 28, 3) := by decide +kernel
theorem dX4_fits_51 : decode cX4_fits 51 = .ok (.istore 5, 2) := by decide +kernel
theorem dX4_fits_53 : decode cX4_fits 53 = .ok (.iload 5, 2) := by decide +kernel
theorem dX4_fits_55 : decode cX4_fits 55 = .ok (.aload_n 0, 1) := by decide +kernel
theorem dX4_fits_56 : decode cX4_fits 56 = .ok (.getfield 9, 3) := by decide +kernel
theorem dX4_fits_59 : decode cX4_fits 59 = .ok (.getfield 67, 3) := by decide +kernel
theorem dX4_fits_62 : decode cX4_fits 62 = .ok (.iload 4, 2) := by decide +kernel
theorem dX4_fits_64 : decode cX4_fits 64 = .ok (.iaload, 1) := by decide +kernel
theorem dX4_fits_65 : decode cX4_fits 65 = .ok (.if_icmp .ne 7, 3) := by decide +kernel
theorem dX4_fits_68 : decode cX4_fits 68 = .ok (.iconst 1, 1) := by decide +kernel
theorem dX4_fits_69 : decode cX4_fits 69 = .ok (.goto 4, 3) := by decide +kernel
theorem dX4_fits_72 : decode cX4_fits 72 = .ok (.iconst 0, 1) := by decide +kernel
theorem dX4_fits_73 : decode cX4_fits 73 = .ok (.istore 6, 2) := by decide +kernel
theorem dX4_fits_75 : decode cX4_fits 75 = .ok (.iload 6, 2) := by decide +kernel
theorem dX4_fits_77 : decode cX4_fits 77 = .ok (.aload_n 0, 1) := by decide +kernel
theorem dX4_fits_78 : decode cX4_fits 78 = .ok (.getfield 9, 3) := by decide +kernel
theorem dX4_fits_81 : decode cX4_fits 81 = .ok (.getfield 70, 3) := by decide +kernel
theorem dX4_fits_84 : decode cX4_fits 84 = .ok (.iload 4, 2) := by decide +kernel
theorem dX4_fits_86 : decode cX4_fits 86 = .ok (.iaload, 1) := by decide +kernel
theorem dX4_fits_87 : decode cX4_fits 87 = .ok (.iconst 1, 1) := by decide +kernel
theorem dX4_fits_88 : decode cX4_fits 88 = .ok (.if_icmp .ne 7, 3) := by decide +kernel
theorem dX4_fits_91 : decode cX4_fits 91 = .ok (.iconst 1, 1) := by decide +kernel
theorem dX4_fits_92 : decode cX4_fits 92 = .ok (.goto 4, 3) := by decide +kernel
theorem dX4_fits_95 : decode cX4_fits 95 = .ok (.iconst 0, 1) := by decide +kernel
theorem dX4_fits_96 : decode cX4_fits 96 = .ok (.if_icmp .eq 5, 3) := by decide +kernel
theorem dX4_fits_99 : decode cX4_fits 99 = .ok (.iconst 0, 1) := by decide +kernel
theorem dX4_fits_100 : decode cX4_fits 100 = .ok (.ireturn, 1) := by decide +kernel
theorem dX4_fits_101 : decode cX4_fits 101 = .ok (.iinc 4 1, 3) := by decide +kernel
theorem dX4_fits_104 : decode cX4_fits 104 = .ok (.goto (-101), 3) := by decide +kernel
theorem dX4_fits_107 : decode cX4_fits 107 = .ok (.iconst 1, 1) := by decide +kernel
theorem dX4_fits_108 : decode cX4_fits 108 = .ok (.ireturn, 1) := by decide +kernel
set_option maxRecDepth 20000 in
theorem ggX4_fittingKinds_X4_fits : GoodIn wsX4_fittingKinds wsX4_fits := goodIn_r _ [7, 1, 8, 9, 10, 11, 12, 13, 14, 15, 16, 17, 18, 19, 20, 21, 22, 23, 24, 25, 26, 27, 28, 29, 30, 31, 32, 33, 34, 35, 36, 37, 38, 39, 40, 41, 42, 43, 44, 45] (by decide +kernel) (by decide +kernel)
set_option maxRecDepth 20000 in
theorem gX4_fittingKinds_X4_fits : GoodIn wsX4_fittingKinds (wsV RX4 73 RX4 yX4_fits wsX4_fits) := goodIn_app (goodIn_of _ (by decide +kernel)) ggX4_fittingKinds_X4_fits
theorem dX4_fittingKinds_0 : decode cX4_fittingKinds 0 = .ok (.iconst 0, 1) := by decide +kernel
theorem dX4_fittingKinds_1 : decode cX4_fittingKinds 1 = .ok (.istore_n 2, 1) := by decide +kernel
theorem dX4_fittingKinds_2 : decode cX4_fittingKinds 2 = .ok (.iconst 0, 1) := by decide +kernel
theorem dX4_fittingKinds_3 : decode cX4_fittingKinds 3 = .ok (.istore_n 3, 1) := by decide +kernel
theorem dX4_fittingKinds_4 : decode cX4_fittingKinds 4 = .ok (.iload_n 3, 1) := by decide +kernel
theorem dX4_fittingKinds_5 : decode cX4_fittingKinds 5 = .ok (.iconst 5, 1) := by decide +kernel
theorem dX4_fittingKinds_6 : decode cX4_fittingKinds 6 = .ok (.if_icmp .gt 33, 3) := by decide +kernel
theorem dX4_fittingKinds_9 : decode cX4_fittingKinds 9 = .ok (.aload_n 0, 1) := by decide +kernel
theorem dX4_fittingKinds_10 : decode cX4_fittingKinds 10 = .ok (.iload_n 1, 1) := by decide +kernel
theorem dX4_fittingKinds_11 : decode cX4_fittingKinds 11 = .ok (.iload_n 3, 1) := by decide +kernel
theorem dX4_fittingKinds_12 : decode cX4_fittingKinds 12 = .ok (.aload_n 0, 1) := by decide +kernel
theorem dX4_fittingKinds_13 : decode cX4_fittingKinds 13 = .ok (.getfield 9, 3) := by decide +kernel
theorem dX4_fittingKinds_16 : decode cX4_fittingKinds 16 = .ok (.getfield 25, 3) := by decide +kernel
theorem dX4_fittingKinds_19 : decode cX4_fittingKinds 19 = .ok (.iload_n 1, 1) := by decide +kernel
theorem dX4_fittingKinds_20 : decode cX4_fittingKinds 20 = .ok (.iaload, 1) := by decide +kernel
theorem dX4_fittingKinds_21 : decode cX4_fittingKinds 21 = .ok (.invokevirtual 73, 3) := by decide +kernel
theorem dX4_fittingKinds_24 : decode cX4_fittingKinds 24 = .ok (.ifCond .eq 9, 3) := by decide +kernel
theorem dX4_fittingKinds_27 : decode cX4_fittingKinds 27 = .ok (.iload_n 2, 1) := by decide +kernel
theorem dX4_fittingKinds_28 : decode cX4_fittingKinds 28 = .ok (.iconst 1, 1) := by decide +kernel
theorem dX4_fittingKinds_29 : decode cX4_fittingKinds 29 = .ok (.iload_n 3, 1) := by decide +kernel
theorem dX4_fittingKinds_30 : decode cX4_fittingKinds 30 = .ok (.ishl, 1) := by decide +kernel
theorem dX4_fittingKinds_31 : decode cX4_fittingKinds 31 = .ok (.ior, 1) := by decide +kernel
theorem dX4_fittingKinds_32 : decode cX4_fittingKinds 32 = .ok (.istore_n 2, 1) := by decide +kernel
theorem dX4_fittingKinds_33 : decode cX4_fittingKinds 33 = .ok (.iinc 3 1, 3) := by decide +kernel
theorem dX4_fittingKinds_36 : decode cX4_fittingKinds 36 = .ok (.goto (-32), 3) := by decide +kernel
theorem dX4_fittingKinds_39 : decode cX4_fittingKinds 39 = .ok (.iload_n 2, 1) := by decide +kernel
theorem dX4_fittingKinds_40 : decode cX4_fittingKinds 40 = .ok (.ireturn, 1) := by decide +kernel
set_option maxRecDepth 20000 in
theorem ggX4_fittingStarts_X4_fits : GoodIn wsX4_fittingStarts wsX4_fits := goodIn_r _ [7, 1, 8, 9, 10, 11, 12, 13, 14, 15, 16, 17, 18, 19, 20, 21, 22, 23, 24, 25, 26, 27, 28, 29, 30, 31, 32, 33, 34, 35, 36, 37, 38, 39, 40, 41, 42, 43, 44, 45] (by decide +kernel) (by decide +kernel)
set_option maxRecDepth 20000 in
theorem gX4_fittingStarts_X4_fits : GoodIn wsX4_fittingStarts (wsV RX4 73 RX4 yX4_fits wsX4_fits) := goodIn_app (goodIn_of _ (by decide +kernel)) ggX4_fittingStarts_X4_fits
theorem dX4_fittingStarts_0 : decode cX4_fittingStarts 0 = .ok (.iconst 0, 1) := by decide +kernel
theorem dX4_fittingStarts_1 : decode cX4_fittingStarts 1 = .ok (.istore_n 2, 1) := by decide +kernel
theorem dX4_fittingStarts_2 : decode cX4_fittingStarts 2 = .ok (.iconst 0, 1) := by decide +kernel
theorem dX4_fittingStarts_3 : decode cX4_fittingStarts 3 = .ok (.istore_n 3, 1) := by decide +kernel
theorem dX4_fittingStarts_4 : decode cX4_fittingStarts 4 = .ok (.iload_n 3, 1) := by decide +kernel
theorem dX4_fittingStarts_5 : decode cX4_fittingStarts 5 = .ok (.bipush 99, 2) := by decide +kernel
theorem dX4_fittingStarts_7 : decode cX4_fittingStarts 7 = .ok (.if_icmp .gt 30, 3) := by decide +kernel
theorem dX4_fittingStarts_10 : decode cX4_fittingStarts 10 = .ok (.aload_n 0, 1) := by decide +kernel
theorem dX4_fittingStarts_11 : decode cX4_fittingStarts 11 = .ok (.iload_n 1, 1) := by decide +kernel
theorem dX4_fittingStarts_12 : decode cX4_fittingStarts 12 = .ok (.aload_n 0, 1) := by decide +kernel
theorem dX4_fittingStarts_13 : decode cX4_fittingStarts 13 = .ok (.getfield 9, 3) := by decide +kernel
theorem dX4_fittingStarts_16 : decode cX4_fittingStarts 16 = .ok (.getfield 15, 3) := by decide +kernel
theorem dX4_fittingStarts_19 : decode cX4_fittingStarts 19 = .ok (.iload_n 1, 1) := by decide +kernel
theorem dX4_fittingStarts_20 : decode cX4_fittingStarts 20 = .ok (.iaload, 1) := by decide +kernel
theorem dX4_fittingStarts_21 : decode cX4_fittingStarts 21 = .ok (.iload_n 3, 1) := by decide +kernel
theorem dX4_fittingStarts_22 : decode cX4_fittingStarts 22 = .ok (.invokevirtual 73, 3) := by decide +kernel
theorem dX4_fittingStarts_25 : decode cX4_fittingStarts 25 = .ok (.ifCond .eq 6, 3) := by decide +kernel
theorem dX4_fittingStarts_28 : decode cX4_fittingStarts 28 = .ok (.iinc 2 1, 3) := by decide +kernel
theorem dX4_fittingStarts_31 : decode cX4_fittingStarts 31 = .ok (.iinc 3 1, 3) := by decide +kernel
theorem dX4_fittingStarts_34 : decode cX4_fittingStarts 34 = .ok (.goto (-30), 3) := by decide +kernel
theorem dX4_fittingStarts_37 : decode cX4_fittingStarts 37 = .ok (.iload_n 2, 1) := by decide +kernel
theorem dX4_fittingStarts_38 : decode cX4_fittingStarts 38 = .ok (.ireturn, 1) := by decide +kernel
set_option maxRecDepth 20000 in
theorem ggX4_tellingMinute_X4_fittingKinds : GoodIn wsX4_tellingMinute wsX4_fittingKinds := goodIn_r _ [11, 1, 2, 12, 13, 14, 10, 15, 16, 17, 18, 19, 20, 21, 22, 23, 24, 25, 26, 27, 28, 4, 5, 6, 29, 30, 31, 32, 33, 34, 35, 47, 48, 49, 50, 51, 52, 53, 54, 55, 56, 57, 58, 59, 60, 61] (by decide +kernel) (by decide +kernel)
set_option maxRecDepth 20000 in
theorem gX4_tellingMinute_X4_fittingKinds : GoodIn wsX4_tellingMinute (wsV RX4 76 RX4 yX4_fittingKinds wsX4_fittingKinds) := goodIn_app (goodIn_of _ (by decide +kernel)) ggX4_tellingMinute_X4_fittingKinds
set_option maxRecDepth 20000 in
theorem ggX4_tellingMinute_J6_bitCount_0f7a4 : GoodIn wsX4_tellingMinute wsJ6_bitCount_0f7a4 := goodIn_r _ [39, 40, 41, 42] (by decide +kernel) (by decide +kernel)
set_option maxRecDepth 20000 in
theorem gX4_tellingMinute_J6_bitCount_0f7a4 : GoodIn wsX4_tellingMinute (va_wsS RX4 80 yJ6_bitCount_0f7a4 wsJ6_bitCount_0f7a4) := goodIn_app (goodIn_of _ (by decide +kernel)) ggX4_tellingMinute_J6_bitCount_0f7a4
set_option maxRecDepth 20000 in
theorem ggX4_tellingMinute_X4_kindsThere : GoodIn wsX4_tellingMinute wsX4_kindsThere := goodIn_r _ [46, 1, 18, 22, 23, 24, 25, 26, 27, 28, 4, 5, 6, 29, 30, 31, 32, 33, 34, 35, 47, 48, 49, 50, 51, 52, 53, 54, 55, 56, 57, 58, 59, 60, 61] (by decide +kernel) (by decide +kernel)
set_option maxRecDepth 20000 in
theorem gX4_tellingMinute_X4_kindsThere : GoodIn wsX4_tellingMinute (wsV RX4 85 RX4 yX4_kindsThere wsX4_kindsThere) := goodIn_app (goodIn_of _ (by decide +kernel)) ggX4_tellingMinute_X4_kindsThere
theorem dX4_tellingMinute_0 : decode cX4_tellingMinute 0 = .ok (.aload_n 0, 1) := by decide +kernel
theorem dX4_tellingMinute_1 : decode cX4_tellingMinute 1 = .ok (.iload_n 1, 1) := by decide +kernel
theorem dX4_tellingMinute_2 : decode cX4_tellingMinute 2 = .ok (.invokevirtual 76, 3) := by decide +kernel
theorem dX4_tellingMinute_5 : decode cX4_tellingMinute 5 = .ok (.istore_n 3, 1) := by decide +kernel
theorem dX4_tellingMinute_6 : decode cX4_tellingMinute 6 = .ok (.iload_n 3, 1) := by decide +kernel
theorem dX4_tellingMinute_7 : decode cX4_tellingMinute 7 = .ok (.invokestatic 80, 3) := by decide +kernel
theorem dX4_tellingMinute_10 : decode cX4_tellingMinute 10 = .ok (.istore 4, 2) := by decide +kernel
theorem dX4_tellingMinute_12 : decode cX4_tellingMinute 12 = .ok (.iconst (-1), 1) := by decide +kernel
theorem dX4_tellingMinute_13 : decode cX4_tellingMinute 13 = .ok (.istore 5, 2) := by decide +kernel
theorem dX4_tellingMinute_15 : decode cX4_tellingMinute 15 = .ok (.iload 4, 2) := by decide +kernel
theorem dX4_tellingMinute_17 : decode cX4_tellingMinute 17 = .ok (.iconst 1, 1) := by decide +kernel
theorem dX4_tellingMinute_18 : decode cX4_tellingMinute 18 = .ok (.iadd, 1) := by decide +kernel
theorem dX4_tellingMinute_19 : decode cX4_tellingMinute 19 = .ok (.istore 6, 2) := by decide +kernel
theorem dX4_tellingMinute_21 : decode cX4_tellingMinute 21 = .ok (.iconst 0, 1) := by decide +kernel
theorem dX4_tellingMinute_22 : decode cX4_tellingMinute 22 = .ok (.istore 7, 2) := by decide +kernel
theorem dX4_tellingMinute_24 : decode cX4_tellingMinute 24 = .ok (.iload 4, 2) := by decide +kernel
theorem dX4_tellingMinute_26 : decode cX4_tellingMinute 26 = .ok (.ifCond .le 62, 3) := by decide +kernel
theorem dX4_tellingMinute_29 : decode cX4_tellingMinute 29 = .ok (.iload 7, 2) := by decide +kernel
theorem dX4_tellingMinute_31 : decode cX4_tellingMinute 31 = .ok (.bipush 30, 2) := by decide +kernel
theorem dX4_tellingMinute_33 : decode cX4_tellingMinute 33 = .ok (.if_icmp .gt 55, 3) := by decide +kernel
theorem dX4_tellingMinute_36 : decode cX4_tellingMinute 36 = .ok (.aload_n 0, 1) := by decide +kernel
theorem dX4_tellingMinute_37 : decode cX4_tellingMinute 37 = .ok (.iload_n 3, 1) := by decide +kernel
theorem dX4_tellingMinute_38 : decode cX4_tellingMinute 38 = .ok (.aload_n 0, 1) := by decide +kernel
theorem dX4_tellingMinute_39 : decode cX4_tellingMinute 39 = .ok (.getfield 9, 3) := by decide +kernel
theorem dX4_tellingMinute_42 : decode cX4_tellingMinute 42 = .ok (.getfield 25, 3) := by decide +kernel
theorem dX4_tellingMinute_45 : decode cX4_tellingMinute 45 = .ok (.iload_n 1, 1) := by decide +kernel
theorem dX4_tellingMinute_46 : decode cX4_tellingMinute 46 = .ok (.iaload, 1) := by decide +kernel
theorem dX4_tellingMinute_47 : decode cX4_tellingMinute 47 = .ok (.iload_n 2, 1) := by decide +kernel
theorem dX4_tellingMinute_48 : decode cX4_tellingMinute 48 = .ok (.iload 7, 2) := by decide +kernel
theorem dX4_tellingMinute_50 : decode cX4_tellingMinute 50 = .ok (.invokevirtual 85, 3) := by decide +kernel
theorem dX4_tellingMinute_53 : decode cX4_tellingMinute 53 = .ok (.istore 8, 2) := by decide +kernel
theorem dX4_tellingMinute_55 : decode cX4_tellingMinute 55 = .ok (.iload 8, 2) := by decide +kernel
theorem dX4_tellingMinute_57 : decode cX4_tellingMinute 57 = .ok (.iload 4, 2) := by decide +kernel
theorem dX4_tellingMinute_59 : decode cX4_tellingMinute 59 = .ok (.iload 8, 2) := by decide +kernel
theorem dX4_tellingMinute_61 : decode cX4_tellingMinute 61 = .ok (.isub, 1) := by decide +kernel
theorem dX4_tellingMinute_62 : decode cX4_tellingMinute 62 = .ok (.invokestatic 88, 3) := by decide +kernel
theorem dX4_tellingMinute_65 : decode cX4_tellingMinute 65 = .ok (.istore 9, 2) := by decide +kernel
theorem dX4_tellingMinute_67 : decode cX4_tellingMinute 67 = .ok (.iload 9, 2) := by decide +kernel
theorem dX4_tellingMinute_69 : decode cX4_tellingMinute 69 = .ok (.iload 6, 2) := by decide +kernel
theorem dX4_tellingMinute_71 : decode cX4_tellingMinute 71 = .ok (.if_icmp .ge 11, 3) := by decide +kernel
theorem dX4_tellingMinute_74 : decode cX4_tellingMinute 74 = .ok (.iload 7, 2) := by decide +kernel
theorem dX4_tellingMinute_76 : decode cX4_tellingMinute 76 = .ok (.istore 5, 2) := by decide +kernel
theorem dX4_tellingMinute_78 : decode cX4_tellingMinute 78 = .ok (.iload 9, 2) := by decide +kernel
theorem dX4_tellingMinute_80 : decode cX4_tellingMinute 80 = .ok (.istore 6, 2) := by decide +kernel
theorem dX4_tellingMinute_82 : decode cX4_tellingMinute 82 = .ok (.iinc 7 1, 3) := by decide +kernel
theorem dX4_tellingMinute_85 : decode cX4_tellingMinute 85 = .ok (.goto (-61), 3) := by decide +kernel
theorem dX4_tellingMinute_88 : decode cX4_tellingMinute 88 = .ok (.iload 5, 2) := by decide +kernel
theorem dX4_tellingMinute_90 : decode cX4_tellingMinute 90 = .ok (.ireturn, 1) := by decide +kernel
set_option maxRecDepth 20000 in
theorem ggX4_kindsThere_X2_floorIn : GoodIn wsX4_kindsThere wsX2_floorIn := goodIn_r _ [6, 7, 8, 9, 10, 11, 12, 13, 14, 15, 16, 17, 5, 18, 19] (by decide +kernel) (by decide +kernel)
set_option maxRecDepth 20000 in
theorem gX4_kindsThere_X2_floorIn : GoodIn wsX4_kindsThere (va_wsS RX4 28 yX2_floorIn wsX2_floorIn) := goodIn_app (goodIn_of _ (by decide +kernel)) ggX4_kindsThere_X2_floorIn
theorem dX4_kindsThere_0 : decode cX4_kindsThere 0 = .ok (.iconst 0, 1) := by decide +kernel
theorem dX4_kindsThere_1 : decode cX4_kindsThere 1 = .ok (.istore 5, 2) := by decide +kernel
theorem dX4_kindsThere_3 : decode cX4_kindsThere 3 = .ok (.iconst 0, 1) := by decide +kernel
theorem dX4_kindsThere_4 : decode cX4_kindsThere 4 = .ok (.istore 6, 2) := by decide +kernel
theorem dX4_kindsThere_6 : decode cX4_kindsThere 6 = .ok (.iload 6, 2) := by decide +kernel
theorem dX4_kindsThere_8 : decode cX4_kindsThere 8 = .ok (.iconst 5, 1) := by decide +kernel
theorem dX4_kindsThere_9 : decode cX4_kindsThere 9 = .ok (.if_icmp .gt 53, 3) := by decide +kernel
theorem dX4_kindsThere_12 : decode cX4_kindsThere 12 = .ok (.iload_n 1, 1) := by decide +kernel
theorem dX4_kindsThere_13 : decode cX4_kindsThere 13 = .ok (.iload 6, 2) := by decide +kernel
theorem dX4_kindsThere_15 : decode cX4_kindsThere 15 = .ok (.ishr, 1) := by decide +kernel
theorem dX4_kindsThere_16 : decode cX4_kindsThere 16 = .ok (.iconst 1, 1) := by decide +kernel
theorem dX4_kindsThere_17 : decode cX4_kindsThere 17 = .ok (.iand, 1) := by decide +kernel
theorem dX4_kindsThere_18 : decode cX4_kindsThere 18 = .ok (.iconst 1, 1) := by decide +kernel
theorem dX4_kindsThere_19 : decode cX4_kindsThere 19 = .ok (.if_icmp .ne 7, 3) := by decide +kernel
theorem dX4_kindsThere_22 : decode cX4_kindsThere 22 = .ok (.iconst 1, 1) := by decide +kernel
theorem dX4_kindsThere_23 : decode cX4_kindsThere 23 = .ok (.goto 4, 3) := by decide +kernel
theorem dX4_kindsThere_26 : decode cX4_kindsThere 26 = .ok (.iconst 0, 1) := by decide +kernel
theorem dX4_kindsThere_27 : decode cX4_kindsThere 27 = .ok (.istore 7, 2) := by decide +kernel
theorem dX4_kindsThere_29 : decode cX4_kindsThere 29 = .ok (.iload 7, 2) := by decide +kernel
theorem dX4_kindsThere_31 : decode cX4_kindsThere 31 = .ok (.ifCond .eq 25, 3) := by decide +kernel
theorem dX4_kindsThere_34 : decode cX4_kindsThere 34 = .ok (.iload 6, 2) := by decide +kernel
theorem dX4_kindsThere_36 : decode cX4_kindsThere 36 = .ok (.aload_n 0, 1) := by decide +kernel
theorem dX4_kindsThere_37 : decode cX4_kindsThere 37 = .ok (.getfield 9, 3) := by decide +kernel
theorem dX4_kindsThere_40 : decode cX4_kindsThere 40 = .ok (.getfield 21, 3) := by decide +kernel
theorem dX4_kindsThere_43 : decode cX4_kindsThere 43 = .ok (.iload_n 2, 1) := by decide +kernel
theorem dX4_kindsThere_44 : decode cX4_kindsThere 44 = .ok (.iload 4, 2) := by decide +kernel
theorem dX4_kindsThere_46 : decode cX4_kindsThere 46 = .ok (.invokestatic 28, 3) := by decide +kernel
theorem dX4_kindsThere_49 : decode cX4_kindsThere 49 = .ok (.iload_n 3, 1) := by decide +kernel
theorem dX4_kindsThere_50 : decode cX4_kindsThere 50 = .ok (.if_icmp .ne 6, 3) := by decide +kernel
theorem dX4_kindsThere_53 : decode cX4_kindsThere 53 = .ok (.iinc 5 1, 3) := by decide +kernel
theorem dX4_kindsThere_56 : decode cX4_kindsThere 56 = .ok (.iinc 6 1, 3) := by decide +kernel
theorem dX4_kindsThere_59 : decode cX4_kindsThere 59 = .ok (.goto (-53), 3) := by decide +kernel
theorem dX4_kindsThere_62 : decode cX4_kindsThere 62 = .ok (.iload 5, 2) := by decide +kernel
theorem dX4_kindsThere_64 : decode cX4_kindsThere 64 = .ok (.ireturn, 1) := by decide +kernel
set_option maxRecDepth 20000 in
theorem ggX5_init_X1_init : GoodIn wsX5_init wsX1_init := goodIn_r _ [28, 29, 2, 3, 24, 30, 31, 32, 33, 34, 35, 36, 37, 38, 39, 40, 41, 6, 42, 43, 44, 45, 46, 47, 48, 49, 50, 51, 67, 68, 69, 70, 71, 72, 73, 74, 75, 76, 77, 78, 79, 80] (by decide +kernel) (by decide +kernel)
set_option maxRecDepth 20000 in
theorem gX5_init_X1_init : GoodIn wsX5_init (wsX1_init) := ggX5_init_X1_init
set_option maxRecDepth 20000 in
theorem ggX5_init_X4_init : GoodIn wsX5_init wsX4_init := goodIn_r _ [54, 55, 2, 3, 56, 89] (by decide +kernel) (by decide +kernel)
set_option maxRecDepth 20000 in
theorem gX5_init_X4_init : GoodIn wsX5_init (wsX4_init) := ggX5_init_X4_init
set_option maxRecDepth 20000 in
theorem ggX5_init_X3_init : GoodIn wsX5_init wsX3_init := goodIn_r _ [58, 59, 2, 3, 60, 61, 90, 91, 92, 93, 94, 95] (by decide +kernel) (by decide +kernel)
set_option maxRecDepth 20000 in
theorem gX5_init_X3_init_n38 : GoodIn wsX5_init (wsX3_init) := ggX5_init_X3_init
set_option maxRecDepth 20000 in
theorem ggX5_init_X0_init : GoodIn wsX5_init wsX0_init := goodIn_r _ [63, 64, 2, 3, 65, 66, 96, 97] (by decide +kernel) (by decide +kernel)
set_option maxRecDepth 20000 in
theorem gX5_init_X0_init_n45 : GoodIn wsX5_init (wsX0_init) := ggX5_init_X0_init
theorem dX5_init_0 : decode cX5_init 0 = .ok (.aload_n 0, 1) := by decide +kernel
theorem dX5_init_1 : decode cX5_init 1 = .ok (.invokespecial 1, 3) := by decide +kernel
theorem dX5_init_4 : decode cX5_init 4 = .ok (.aload_n 0, 1) := by decide +kernel
theorem dX5_init_5 : decode cX5_init 5 = .ok (.new 7, 3) := by decide +kernel
theorem dX5_init_8 : decode cX5_init 8 = .ok (.dup, 1) := by decide +kernel
theorem dX5_init_9 : decode cX5_init 9 = .ok (.invokespecial 9, 3) := by decide +kernel
theorem dX5_init_12 : decode cX5_init 12 = .ok (.putfield 10, 3) := by decide +kernel
theorem dX5_init_15 : decode cX5_init 15 = .ok (.aload_n 0, 1) := by decide +kernel
theorem dX5_init_16 : decode cX5_init 16 = .ok (.new 7, 3) := by decide +kernel
theorem dX5_init_19 : decode cX5_init 19 = .ok (.dup, 1) := by decide +kernel
theorem dX5_init_20 : decode cX5_init 20 = .ok (.invokespecial 9, 3) := by decide +kernel
theorem dX5_init_23 : decode cX5_init 23 = .ok (.putfield 16, 3) := by decide +kernel
theorem dX5_init_26 : decode cX5_init 26 = .ok (.aload_n 0, 1) := by decide +kernel
theorem dX5_init_27 : decode cX5_init 27 = .ok (.iconst 2, 1) := by decide +kernel
theorem dX5_init_28 : decode cX5_init 28 = .ok (.anewarray 7, 3) := by decide +kernel
theorem dX5_init_31 : decode cX5_init 31 = .ok (.dup, 1) := by decide +kernel
theorem dX5_init_32 : decode cX5_init 32 = .ok (.iconst 0, 1) := by decide +kernel
theorem dX5_init_33 : decode cX5_init 33 = .ok (.new 7, 3) := by decide +kernel
theorem dX5_init_36 : decode cX5_init 36 = .ok (.dup, 1) := by decide +kernel
theorem dX5_init_37 : decode cX5_init 37 = .ok (.invokespecial 9, 3) := by decide +kernel
theorem dX5_init_40 : decode cX5_init 40 = .ok (.aastore, 1) := by decide +kernel
theorem dX5_init_41 : decode cX5_init 41 = .ok (.dup, 1) := by decide +kernel
theorem dX5_init_42 : decode cX5_init 42 = .ok (.iconst 1, 1) := by decide +kernel
theorem dX5_init_43 : decode cX5_init 43 = .ok (.new 7, 3) := by decide +kernel
theorem dX5_init_46 : decode cX5_init 46 = .ok (.dup, 1) := by decide +kernel
theorem dX5_init_47 : decode cX5_init 47 = .ok (.invokespecial 9, 3) := by decide +kernel
theorem dX5_init_50 : decode cX5_init 50 = .ok (.aastore, 1) := by decide +kernel
theorem dX5_init_51 : decode cX5_init 51 = .ok (.putfield 19, 3) := by decide +kernel
theorem dX5_init_54 : decode cX5_init 54 = .ok (.aload_n 0, 1) := by decide +kernel
theorem dX5_init_55 : decode cX5_init 55 = .ok (.iconst 2, 1) := by decide +kernel
theorem dX5_init_56 : decode cX5_init 56 = .ok (.newarray .boolean, 2) := by decide +kernel
theorem dX5_init_58 : decode cX5_init 58 = .ok (.putfield 23, 3) := by decide +kernel
theorem dX5_init_61 : decode cX5_init 61 = .ok (.aload_n 0, 1) := by decide +kernel
theorem dX5_init_62 : decode cX5_init 62 = .ok (.new 27, 3) := by decide +kernel
theorem dX5_init_65 : decode cX5_init 65 = .ok (.dup, 1) := by decide +kernel
theorem dX5_init_66 : decode cX5_init 66 = .ok (.aload_n 0, 1) := by decide +kernel
theorem dX5_init_67 : decode cX5_init 67 = .ok (.getfield 10, 3) := by decide +kernel
theorem dX5_init_70 : decode cX5_init 70 = .ok (.invokespecial 29, 3) := by decide +kernel
theorem dX5_init_73 : decode cX5_init 73 = .ok (.putfield 32, 3) := by decide +kernel
theorem dX5_init_76 : decode cX5_init 76 = .ok (.aload_n 0, 1) := by decide +kernel
theorem dX5_init_77 : decode cX5_init 77 = .ok (.new 36, 3) := by decide +kernel
theorem dX5_init_80 : decode cX5_init 80 = .ok (.dup, 1) := by decide +kernel
theorem dX5_init_81 : decode cX5_init 81 = .ok (.invokespecial 38, 3) := by decide +kernel
theorem dX5_init_84 : decode cX5_init 84 = .ok (.putfield 39, 3) := by decide +kernel
theorem dX5_init_87 : decode cX5_init 87 = .ok (.aload_n 0, 1) := by decide +kernel
theorem dX5_init_88 : decode cX5_init 88 = .ok (.new 43, 3) := by decide +kernel
theorem dX5_init_91 : decode cX5_init 91 = .ok (.dup, 1) := by decide +kernel
theorem dX5_init_92 : decode cX5_init 92 = .ok (.invokespecial 45, 3) := by decide +kernel
theorem dX5_init_95 : decode cX5_init 95 = .ok (.putfield 46, 3) := by decide +kernel
theorem dX5_init_98 : decode cX5_init 98 = .ok (.aload_n 0, 1) := by decide +kernel
theorem dX5_init_99 : decode cX5_init 99 = .ok (.iconst 3, 1) := by decide +kernel
theorem dX5_init_100 : decode cX5_init 100 = .ok (.newarray .int, 2) := by decide +kernel
theorem dX5_init_102 : decode cX5_init 102 = .ok (.putfield 50, 3) := by decide +kernel
theorem dX5_init_105 : decode cX5_init 105 = .ok (.return_, 1) := by decide +kernel
set_option maxRecDepth 20000 in
theorem ggX5_house_X5_isWithin : GoodIn wsX5_house wsX5_isWithin := goodIn_r _ [6] (by decide +kernel) (by decide +kernel)
set_option maxRecDepth 20000 in
theorem gX5_house_X5_isWithin : GoodIn wsX5_house (va_wsS RX5 54 yX5_isWithin wsX5_isWithin) := goodIn_app (goodIn_of _ (by decide +kernel)) ggX5_house_X5_isWithin
set_option maxRecDepth 20000 in
theorem ggX5_house_X5_refuse : GoodIn wsX5_house wsX5_refuse := goodIn_r _ [10, 11, 3, 4, 5, 6, 28, 29, 30, 31, 32, 33, 34, 35] (by decide +kernel) (by decide +kernel)
set_option maxRecDepth 20000 in
theorem gX5_house_X5_refuse : GoodIn wsX5_house (wsV RX5 58 RX5 yX5_refuse wsX5_refuse) := goodIn_app (goodIn_of _ (by decide +kernel)) ggX5_house_X5_refuse
set_option maxRecDepth 20000 in
theorem ggX5_house_X1_build : GoodIn wsX5_house wsX1_build := goodIn_r _ [16, 17, 18, 19, 20, 21, 22, 23, 24, 15, 25, 26, 27, 36, 37, 38, 39, 40, 41, 42, 43, 44, 45, 46, 47, 48, 49] (by decide +kernel) (by decide +kernel)
set_option maxRecDepth 20000 in
theorem gX5_house_X1_build : GoodIn wsX5_house (wsV RX5 66 RX1 yX1_build wsX1_build) := goodIn_app (goodIn_of _ (by decide +kernel)) ggX5_house_X1_build
theorem dX5_house_0 : decode cX5_house 0 = .ok (.iload_n 1, 1) := by decide +kernel
theorem dX5_house_1 : decode cX5_house 1 = .ok (.iconst 1, 1) := by decide +kernel
theorem dX5_house_2 : decode cX5_house 2 = .ok (.bipush 11, 2) := by decide +kernel
theorem dX5_house_4 : decode cX5_house 4 = .ok (.invokestatic 54, 3) := by decide +kernel
theorem dX5_house_7 : decode cX5_house 7 = .ok (.ifCond .ne 10, 3) := by decide +kernel
theorem dX5_house_10 : decode cX5_house 10 = .ok (.aload_n 0, 1) := by decide +kernel
theorem dX5_house_11 : decode cX5_house 11 = .ok (.bipush (-2), 2) := by decide +kernel
theorem dX5_house_13 : decode cX5_house 13 = .ok (.invokevirtual 58, 3) := by decide +kernel
theorem dX5_house_16 : decode cX5_house 16 = .ok (.ireturn, 1) := by decide +kernel
theorem dX5_house_17 : decode cX5_house 17 = .ok (.aload_n 0, 1) := by decide +kernel
theorem dX5_house_18 : decode cX5_house 18 = .ok (.getfield 10, 3) := by decide +kernel
theorem dX5_house_21 : decode cX5_house 21 = .ok (.getfield 62, 3) := by decide +kernel
theorem dX5_house_24 : decode cX5_house 24 = .ok (.istore_n 2, 1) := by decide +kernel
theorem dX5_house_25 : decode cX5_house 25 = .ok (.aload_n 0, 1) := by decide +kernel
theorem dX5_house_26 : decode cX5_house 26 = .ok (.getfield 10, 3) := by decide +kernel
theorem dX5_house_29 : decode cX5_house 29 = .ok (.iload_n 1, 1) := by decide +kernel
theorem dX5_house_30 : decode cX5_house 30 = .ok (.invokevirtual 66, 3) := by decide +kernel
theorem dX5_house_33 : decode cX5_house 33 = .ok (.iload_n 2, 1) := by decide +kernel
theorem dX5_house_34 : decode cX5_house 34 = .ok (.ireturn, 1) := by decide +kernel
set_option maxRecDepth 20000 in
theorem ggX5_lift_X5_isWithin : GoodIn wsX5_lift wsX5_isWithin := goodIn_r _ [6] (by decide +kernel) (by decide +kernel)
set_option maxRecDepth 20000 in
theorem gX5_lift_X5_isWithin : GoodIn wsX5_lift (va_wsS RX5 54 yX5_isWithin wsX5_isWithin) := goodIn_app (goodIn_of _ (by decide +kernel)) ggX5_lift_X5_isWithin
set_option maxRecDepth 20000 in
theorem ggX5_lift_X5_refuse : GoodIn wsX5_lift wsX5_refuse := goodIn_r _ [10, 11, 3, 4, 5, 6, 21, 22, 23, 24, 25, 26, 27, 28] (by decide +kernel) (by decide +kernel)
set_option maxRecDepth 20000 in
theorem gX5_lift_X5_refuse : GoodIn wsX5_lift (wsV RX5 58 RX5 yX5_refuse wsX5_refuse) := goodIn_app (goodIn_of _ (by decide +kernel)) ggX5_lift_X5_refuse
set_option maxRecDepth 20000 in
theorem ggX5_lift_X1_addLift : GoodIn wsX5_lift wsX1_addLift := goodIn_r _ [16, 17, 18, 19, 20, 29, 30, 31, 32, 33, 34, 35, 36, 37, 38, 39, 40, 41, 42] (by decide +kernel) (by decide +kernel)
set_option maxRecDepth 20000 in
theorem gX5_lift_X1_addLift : GoodIn wsX5_lift (wsV RX5 72 RX1 yX1_addLift wsX1_addLift) := goodIn_app (goodIn_of _ (by decide +kernel)) ggX5_lift_X1_addLift
theorem dX5_lift_0 : decode cX5_lift 0 = .ok (.iload_n 1, 1) := by decide +kernel
theorem dX5_lift_1 : decode cX5_lift 1 = .ok (.iconst 0, 1) := by decide +kernel
theorem dX5_lift_2 : decode cX5_lift 2 = .ok (.iconst 5, 1) := by decide +kernel
theorem dX5_lift_3 : decode cX5_lift 3 = .ok (.invokestatic 54, 3) := by decide +kernel
theorem dX5_lift_6 : decode cX5_lift 6 = .ok (.ifCond .eq 13, 3) := by decide +kernel
theorem dX5_lift_9 : decode cX5_lift 9 = .ok (.iload_n 2, 1) := by decide +kernel
theorem dX5_lift_10 : decode cX5_lift 10 = .ok (.iconst 0, 1) := by decide +kernel
theorem dX5_lift_11 : decode cX5_lift 11 = .ok (.bipush 99, 2) := by decide +kernel
theorem dX5_lift_13 : decode cX5_lift 13 = .ok (.invokestatic 54, 3) := by decide +kernel
theorem dX5_lift_16 : decode cX5_lift 16 = .ok (.ifCond .ne 10, 3) := by decide +kernel
theorem dX5_lift_19 : decode cX5_lift 19 = .ok (.aload_n 0, 1) := by decide +kernel
theorem dX5_lift_20 : decode cX5_lift 20 = .ok (.bipush (-2), 2) := by decide +kernel
theorem dX5_lift_22 : decode cX5_lift 22 = .ok (.invokevirtual 58, 3) := by decide +kernel
theorem dX5_lift_25 : decode cX5_lift 25 = .ok (.ireturn, 1) := by decide +kernel
theorem dX5_lift_26 : decode cX5_lift 26 = .ok (.aload_n 0, 1) := by decide +kernel
theorem dX5_lift_27 : decode cX5_lift 27 = .ok (.getfield 10, 3) := by decide +kernel
theorem dX5_lift_30 : decode cX5_lift 30 = .ok (.getfield 62, 3) := by decide +kernel
theorem dX5_lift_33 : decode cX5_lift 33 = .ok (.iconst 4, 1) := by decide +kernel
theorem dX5_lift_34 : decode cX5_lift 34 = .ok (.if_icmp .lt 10, 3) := by decide +kernel
theorem dX5_lift_37 : decode cX5_lift 37 = .ok (.aload_n 0, 1) := by decide +kernel
theorem dX5_lift_38 : decode cX5_lift 38 = .ok (.bipush (-4), 2) := by decide +kernel
theorem dX5_lift_40 : decode cX5_lift 40 = .ok (.invokevirtual 58, 3) := by decide +kernel
theorem dX5_lift_43 : decode cX5_lift 43 = .ok (.ireturn, 1) := by decide +kernel
theorem dX5_lift_44 : decode cX5_lift 44 = .ok (.aload_n 0, 1) := by decide +kernel
theorem dX5_lift_45 : decode cX5_lift 45 = .ok (.getfield 10, 3) := by decide +kernel
theorem dX5_lift_48 : decode cX5_lift 48 = .ok (.iload_n 1, 1) := by decide +kernel
theorem dX5_lift_49 : decode cX5_lift 49 = .ok (.iload_n 2, 1) := by decide +kernel
theorem dX5_lift_50 : decode cX5_lift 50 = .ok (.invokevirtual 72, 3) := by decide +kernel
theorem dX5_lift_53 : decode cX5_lift 53 = .ok (.aload_n 0, 1) := by decide +kernel
theorem dX5_lift_54 : decode cX5_lift 54 = .ok (.getfield 10, 3) := by decide +kernel
theorem dX5_lift_57 : decode cX5_lift 57 = .ok (.getfield 62, 3) := by decide +kernel
theorem dX5_lift_60 : decode cX5_lift 60 = .ok (.iconst 1, 1) := by decide +kernel
theorem dX5_lift_61 : decode cX5_lift 61 = .ok (.isub, 1) := by decide +kernel
theorem dX5_lift_62 : decode cX5_lift 62 = .ok (.ireturn, 1) := by decide +kernel
set_option maxRecDepth 20000 in
theorem ggX5_line_X5_isWithin : GoodIn wsX5_line wsX5_isWithin := goodIn_r _ [7] (by decide +kernel) (by decide +kernel)
set_option maxRecDepth 20000 in
theorem gX5_line_X5_isWithin : GoodIn wsX5_line (va_wsS RX5 54 yX5_isWithin wsX5_isWithin) := goodIn_app (goodIn_of _ (by decide +kernel)) ggX5_line_X5_isWithin
set_option maxRecDepth 20000 in
theorem ggX5_line_X5_refuse : GoodIn wsX5_line wsX5_refuse := goodIn_r _ [11, 12, 4, 5, 6, 7, 20, 21, 22, 23, 24, 25, 26, 27] (by decide +kernel) (by decide +kernel)
set_option maxRecDepth 20000 in
theorem gX5_line_X5_refuse : GoodIn wsX5_line (wsV RX5 58 RX5 yX5_refuse wsX5_refuse) := goodIn_app (goodIn_of _ (by decide +kernel)) ggX5_line_X5_refuse
set_option maxRecDepth 20000 in
theorem ggX5_line_X1_setLine : GoodIn wsX5_line wsX1_setLine := goodIn_r _ [17, 18, 19, 28, 29, 30, 31, 32, 33, 34, 35, 36, 37, 38, 39, 40, 41] (by decide +kernel) (by decide +kernel)
set_option maxRecDepth 20000 in
theorem gX5_line_X1_setLine : GoodIn wsX5_line (wsV RX5 82 RX1 yX1_setLine wsX1_setLine) := goodIn_app (goodIn_of _ (by decide +kernel)) ggX5_line_X1_setLine
theorem dX5_line_0 : decode cX5_line 0 = .ok (.iload_n 1, 1) := by decide +kernel
theorem dX5_line_1 : decode cX5_line 1 = .ok (.iconst 0, 1) := by decide +kernel
theorem dX5_line_2 : decode cX5_line 2 = .ok (.iconst 1, 1) := by decide +kernel
theorem dX5_line_3 : decode cX5_line 3 = .ok (.invokestatic 54, 3) := by decide +kernel
theorem dX5_line_6 : decode cX5_line 6 = .ok (.ifCond .eq 23, 3) := by decide +kernel
theorem dX5_line_9 : decode cX5_line 9 = .ok (.iload_n 2, 1) := by decide +kernel
theorem dX5_line_10 : decode cX5_line 10 = .ok (.iconst 1, 1) := by decide +kernel
theorem dX5_line_11 : decode cX5_line 11 = .ok (.bipush 30, 2) := by decide +kernel
theorem dX5_line_13 : decode cX5_line 13 = .ok (.invokestatic 54, 3) := by decide +kernel
theorem dX5_line_16 : decode cX5_line 16 = .ok (.ifCond .eq 13, 3) := by decide +kernel
theorem dX5_line_19 : decode cX5_line 19 = .ok (.iload_n 3, 1) := by decide +kernel
theorem dX5_line_20 : decode cX5_line 20 = .ok (.iconst 0, 1) := by decide +kernel
theorem dX5_line_21 : decode cX5_line 21 = .ok (.bipush 29, 2) := by decide +kernel
theorem dX5_line_23 : decode cX5_line 23 = .ok (.invokestatic 54, 3) := by decide +kernel
theorem dX5_line_26 : decode cX5_line 26 = .ok (.ifCond .ne 10, 3) := by decide +kernel
theorem dX5_line_29 : decode cX5_line 29 = .ok (.aload_n 0, 1) := by decide +kernel
theorem dX5_line_30 : decode cX5_line 30 = .ok (.bipush (-2), 2) := by decide +kernel
theorem dX5_line_32 : decode cX5_line 32 = .ok (.invokevirtual 58, 3) := by decide +kernel
theorem dX5_line_35 : decode cX5_line 35 = .ok (.ireturn, 1) := by decide +kernel
theorem dX5_line_36 : decode cX5_line 36 = .ok (.bipush 100, 2) := by decide +kernel
theorem dX5_line_38 : decode cX5_line 38 = .ok (.aload_n 0, 1) := by decide +kernel
theorem dX5_line_39 : decode cX5_line 39 = .ok (.getfield 10, 3) := by decide +kernel
theorem dX5_line_42 : decode cX5_line 42 = .ok (.getfield 76, 3) := by decide +kernel
theorem dX5_line_45 : decode cX5_line 45 = .ok (.iload_n 1, 1) := by decide +kernel
theorem dX5_line_46 : decode cX5_line 46 = .ok (.iaload, 1) := by decide +kernel
theorem dX5_line_47 : decode cX5_line 47 = .ok (.imul, 1) := by decide +kernel
theorem dX5_line_48 : decode cX5_line 48 = .ok (.aload_n 0, 1) := by decide +kernel
theorem dX5_line_49 : decode cX5_line 49 = .ok (.getfield 10, 3) := by decide +kernel
theorem dX5_line_52 : decode cX5_line 52 = .ok (.getfield 79, 3) := by decide +kernel
theorem dX5_line_55 : decode cX5_line 55 = .ok (.iload_n 1, 1) := by decide +kernel
theorem dX5_line_56 : decode cX5_line 56 = .ok (.iaload, 1) := by decide +kernel
theorem dX5_line_57 : decode cX5_line 57 = .ok (.iadd, 1) := by decide +kernel
theorem dX5_line_58 : decode cX5_line 58 = .ok (.istore 4, 2) := by decide +kernel
theorem dX5_line_60 : decode cX5_line 60 = .ok (.aload_n 0, 1) := by decide +kernel
theorem dX5_line_61 : decode cX5_line 61 = .ok (.getfield 10, 3) := by decide +kernel
theorem dX5_line_64 : decode cX5_line 64 = .ok (.iload_n 1, 1) := by decide +kernel
theorem dX5_line_65 : decode cX5_line 65 = .ok (.iload_n 2, 1) := by decide +kernel
theorem dX5_line_66 : decode cX5_line 66 = .ok (.iload_n 3, 1) := by decide +kernel
theorem dX5_line_67 : decode cX5_line 67 = .ok (.invokevirtual 82, 3) := by decide +kernel
theorem dX5_line_70 : decode cX5_line 70 = .ok (.iload 4, 2) := by decide +kernel
theorem dX5_line_72 : decode cX5_line 72 = .ok (.ireturn, 1) := by decide +kernel
set_option maxRecDepth 20000 in
theorem ggX5_type_X5_isWithin : GoodIn wsX5_type wsX5_isWithin := goodIn_r _ [6] (by decide +kernel) (by decide +kernel)
set_option maxRecDepth 20000 in
theorem gX5_type_X5_isWithin : GoodIn wsX5_type (va_wsS RX5 54 yX5_isWithin wsX5_isWithin) := goodIn_app (goodIn_of _ (by decide +kernel)) ggX5_type_X5_isWithin
set_option maxRecDepth 20000 in
theorem ggX5_type_X5_refuse : GoodIn wsX5_type wsX5_refuse := goodIn_r _ [10, 11, 3, 4, 5, 6, 19, 20, 21, 22, 23, 24, 25, 26] (by decide +kernel) (by decide +kernel)
set_option maxRecDepth 20000 in
theorem gX5_type_X5_refuse : GoodIn wsX5_type (wsV RX5 58 RX5 yX5_refuse wsX5_refuse) := goodIn_app (goodIn_of _ (by decide +kernel)) ggX5_type_X5_refuse
set_option maxRecDepth 20000 in
theorem ggX5_type_X3_add : GoodIn wsX5_type wsX3_add := goodIn_r _ [16, 17, 18, 27, 28, 29, 30, 31, 32] (by decide +kernel) (by decide +kernel)
set_option maxRecDepth 20000 in
theorem gX5_type_X3_add : GoodIn wsX5_type (wsV RX5 89 RX3 yX3_add wsX3_add) := goodIn_app (goodIn_of _ (by decide +kernel)) ggX5_type_X3_add
theorem dX5_type_0 : decode cX5_type 0 = .ok (.iload_n 1, 1) := by decide +kernel
theorem dX5_type_1 : decode cX5_type 1 = .ok (.iconst 0, 1) := by decide +kernel
theorem dX5_type_2 : decode cX5_type 2 = .ok (.bipush 127, 2) := by decide +kernel
theorem dX5_type_4 : decode cX5_type 4 = .ok (.invokestatic 54, 3) := by decide +kernel
theorem dX5_type_7 : decode cX5_type 7 = .ok (.ifCond .ne 10, 3) := by decide +kernel
theorem dX5_type_10 : decode cX5_type 10 = .ok (.aload_n 0, 1) := by decide +kernel
theorem dX5_type_11 : decode cX5_type 11 = .ok (.bipush (-2), 2) := by decide +kernel
theorem dX5_type_13 : decode cX5_type 13 = .ok (.invokevirtual 58, 3) := by decide +kernel
theorem dX5_type_16 : decode cX5_type 16 = .ok (.ireturn, 1) := by decide +kernel
theorem dX5_type_17 : decode cX5_type 17 = .ok (.aload_n 0, 1) := by decide +kernel
theorem dX5_type_18 : decode cX5_type 18 = .ok (.getfield 39, 3) := by decide +kernel
theorem dX5_type_21 : decode cX5_type 21 = .ok (.getfield 86, 3) := by decide +kernel
theorem dX5_type_24 : decode cX5_type 24 = .ok (.sipush 150, 3) := by decide +kernel
theorem dX5_type_27 : decode cX5_type 27 = .ok (.if_icmp .lt 10, 3) := by decide +kernel
theorem dX5_type_30 : decode cX5_type 30 = .ok (.aload_n 0, 1) := by decide +kernel
theorem dX5_type_31 : decode cX5_type 31 = .ok (.bipush (-4), 2) := by decide +kernel
theorem dX5_type_33 : decode cX5_type 33 = .ok (.invokevirtual 58, 3) := by decide +kernel
theorem dX5_type_36 : decode cX5_type 36 = .ok (.ireturn, 1) := by decide +kernel
theorem dX5_type_37 : decode cX5_type 37 = .ok (.aload_n 0, 1) := by decide +kernel
theorem dX5_type_38 : decode cX5_type 38 = .ok (.getfield 39, 3) := by decide +kernel
theorem dX5_type_41 : decode cX5_type 41 = .ok (.iload_n 1, 1) := by decide +kernel
theorem dX5_type_42 : decode cX5_type 42 = .ok (.invokevirtual 89, 3) := by decide +kernel
theorem dX5_type_45 : decode cX5_type 45 = .ok (.aload_n 0, 1) := by decide +kernel
theorem dX5_type_46 : decode cX5_type 46 = .ok (.getfield 39, 3) := by decide +kernel
theorem dX5_type_49 : decode cX5_type 49 = .ok (.getfield 86, 3) := by decide +kernel
theorem dX5_type_52 : decode cX5_type 52 = .ok (.ireturn, 1) := by decide +kernel
theorem dX5_clear_0 : decode cX5_clear 0 = .ok (.aload_n 0, 1) := by decide +kernel
theorem dX5_clear_1 : decode cX5_clear 1 = .ok (.getfield 39, 3) := by decide +kernel
theorem dX5_clear_4 : decode cX5_clear 4 = .ok (.getfield 86, 3) := by decide +kernel
theorem dX5_clear_7 : decode cX5_clear 7 = .ok (.istore_n 1, 1) := by decide +kernel
theorem dX5_clear_8 : decode cX5_clear 8 = .ok (.aload_n 0, 1) := by decide +kernel
theorem dX5_clear_9 : decode cX5_clear 9 = .ok (.getfield 39, 3) := by decide +kernel
theorem dX5_clear_12 : decode cX5_clear 12 = .ok (.iconst 0, 1) := by decide +kernel
theorem dX5_clear_13 : decode cX5_clear 13 = .ok (.putfield 86, 3) := by decide +kernel
theorem dX5_clear_16 : decode cX5_clear 16 = .ok (.iload_n 1, 1) := by decide +kernel
theorem dX5_clear_17 : decode cX5_clear 17 = .ok (.ireturn, 1) := by decide +kernel
set_option maxRecDepth 20000 in
theorem ggX5_read_X3_readInto : GoodIn wsX5_read wsX3_readInto := goodIn_r _ [8, 9, 10, 11, 12, 13, 14, 7, 15, 16, 17, 18, 19, 20, 21, 22, 23, 24, 25, 26, 27, 28, 29, 30, 31, 32, 33, 34, 35, 36, 37, 38, 39, 40, 41, 42, 43, 44, 45, 46, 47, 48, 49, 50, 51, 52, 53, 54, 55, 56, 57, 58, 59, 60, 61, 62, 63, 64, 65, 66, 67, 68, 69, 70, 71, 72, 73, 74, 75, 76, 77, 78, 79, 80, 81, 82, 83, 84, 85, 86, 87, 88, 89, 90, 91, 92, 93, 94, 95, 96, 97, 98, 99, 100, 101, 102, 103, 104, 105, 106, 107, 108, 109, 110, 111, 112, 113, 114, 115, 116, 117, 118, 119, 120, 121, 122, 123, 124, 125, 126, 127, 128, 129, 130, 131, 132, 133, 134, 135, 136, 137, 138, 139, 140, 162, 163, 164, 165, 166, 167, 168, 169, 170, 171, 172, 173, 174, 175, 176, 177, 178, 179, 180, 181] (by decide +kernel) (by decide +kernel)
set_option maxRecDepth 20000 in
theorem gX5_read_X3_readInto : GoodIn wsX5_read (wsV RX5 92 RX3 yX3_readInto wsX3_readInto) := goodIn_app (goodIn_of _ (by decide +kernel)) ggX5_read_X3_readInto
set_option maxRecDepth 20000 in
theorem ggX5_read_X1_copy : GoodIn wsX5_read wsX1_copy := goodIn_r _ [144, 106, 107, 108, 109, 110, 134, 145, 146, 147, 148, 135, 115, 116, 149, 150, 151, 152, 153, 168, 169, 170, 171, 172, 173, 174, 175, 176, 177, 178, 179, 180, 181] (by decide +kernel) (by decide +kernel)
set_option maxRecDepth 20000 in
theorem gX5_read_X1_copy : GoodIn wsX5_read (wsV RX5 96 RX1 yX1_copy wsX1_copy) := goodIn_app (goodIn_of _ (by decide +kernel)) ggX5_read_X1_copy
theorem dX5_read_0 : decode cX5_read 0 = .ok (.aload_n 0, 1) := by decide +kernel
theorem dX5_read_1 : decode cX5_read 1 = .ok (.getfield 39, 3) := by decide +kernel
theorem dX5_read_4 : decode cX5_read 4 = .ok (.aload_n 0, 1) := by decide +kernel
theorem dX5_read_5 : decode cX5_read 5 = .ok (.getfield 16, 3) := by decide +kernel
theorem dX5_read_8 : decode cX5_read 8 = .ok (.invokevirtual 92, 3) := by decide +kernel
theorem dX5_read_11 : decode cX5_read 11 = .ok (.istore_n 1, 1) := by decide +kernel
theorem dX5_read_12 : decode cX5_read 12 = .ok (.iload_n 1, 1) := by decide +kernel
theorem dX5_read_13 : decode cX5_read 13 = .ok (.ifCond .le 14, 3) := by decide +kernel
theorem dX5_read_16 : decode cX5_read 16 = .ok (.aload_n 0, 1) := by decide +kernel
theorem dX5_read_17 : decode cX5_read 17 = .ok (.getfield 10, 3) := by decide +kernel
theorem dX5_read_20 : decode cX5_read 20 = .ok (.aload_n 0, 1) := by decide +kernel
theorem dX5_read_21 : decode cX5_read 21 = .ok (.getfield 16, 3) := by decide +kernel
theorem dX5_read_24 : decode cX5_read 24 = .ok (.invokevirtual 96, 3) := by decide +kernel
theorem dX5_read_27 : decode cX5_read 27 = .ok (.iload_n 1, 1) := by decide +kernel
theorem dX5_read_28 : decode cX5_read 28 = .ok (.ireturn, 1) := by decide +kernel
set_option maxRecDepth 20000 in
theorem ggX5_passes_X5_isWithin : GoodIn wsX5_passes wsX5_isWithin := goodIn_r _ [10] (by decide +kernel) (by decide +kernel)
set_option maxRecDepth 20000 in
theorem gX5_passes_X5_isWithin : GoodIn wsX5_passes (va_wsS RX5 54 yX5_isWithin wsX5_isWithin) := goodIn_app (goodIn_of _ (by decide +kernel)) ggX5_passes_X5_isWithin
set_option maxRecDepth 20000 in
theorem ggX5_passes_X5_refuse : GoodIn wsX5_passes wsX5_refuse := goodIn_r _ [14, 15, 7, 8, 9, 10, 28, 29, 30, 31, 32, 33, 34, 35] (by decide +kernel) (by decide +kernel)
set_option maxRecDepth 20000 in
theorem gX5_passes_X5_refuse : GoodIn wsX5_passes (wsV RX5 58 RX5 yX5_refuse wsX5_refuse) := goodIn_app (goodIn_of _ (by decide +kernel)) ggX5_passes_X5_refuse
set_option maxRecDepth 20000 in
theorem ggX5_passes_X1_goOn : GoodIn wsX5_passes wsX1_goOn := goodIn_r _ [20, 21, 22, 23, 24, 25, 26, 27, 36, 37, 38, 39, 40, 41, 42, 43, 44, 45, 46, 47, 48, 49] (by decide +kernel) (by decide +kernel)
set_option maxRecDepth 20000 in
theorem gX5_passes_X1_goOn : GoodIn wsX5_passes (wsV RX5 108 RX1 yX1_goOn wsX1_goOn) := goodIn_app (goodIn_of _ (by decide +kernel)) ggX5_passes_X1_goOn
theorem dX5_passes_0 : decode cX5_passes 0 = .ok (.iload_n 1, 1) := by decide +kernel
theorem dX5_passes_1 : decode cX5_passes 1 = .ok (.iconst 1, 1) := by decide +kernel
theorem dX5_passes_2 : decode cX5_passes 2 = .ok (.bipush 99, 2) := by decide +kernel
theorem dX5_passes_4 : decode cX5_passes 4 = .ok (.invokestatic 54, 3) := by decide +kernel
theorem dX5_passes_7 : decode cX5_passes 7 = .ok (.ifCond .ne 10, 3) := by decide +kernel
theorem dX5_passes_10 : decode cX5_passes 10 = .ok (.aload_n 0, 1) := by decide +kernel
theorem dX5_passes_11 : decode cX5_passes 11 = .ok (.bipush (-2), 2) := by decide +kernel
theorem dX5_passes_13 : decode cX5_passes 13 = .ok (.invokevirtual 58, 3) := by decide +kernel
theorem dX5_passes_16 : decode cX5_passes 16 = .ok (.ireturn, 1) := by decide +kernel
theorem dX5_passes_17 : decode cX5_passes 17 = .ok (.aload_n 0, 1) := by decide +kernel
theorem dX5_passes_18 : decode cX5_passes 18 = .ok (.getfield 10, 3) := by decide +kernel
theorem dX5_passes_21 : decode cX5_passes 21 = .ok (.sipush 999, 3) := by decide +kernel
theorem dX5_passes_24 : decode cX5_passes 24 = .ok (.aload_n 0, 1) := by decide +kernel
theorem dX5_passes_25 : decode cX5_passes 25 = .ok (.getfield 10, 3) := by decide +kernel
theorem dX5_passes_28 : decode cX5_passes 28 = .ok (.getfield 99, 3) := by decide +kernel
theorem dX5_passes_31 : decode cX5_passes 31 = .ok (.iload_n 1, 1) := by decide +kernel
theorem dX5_passes_32 : decode cX5_passes 32 = .ok (.iadd, 1) := by decide +kernel
theorem dX5_passes_33 : decode cX5_passes 33 = .ok (.invokestatic 102, 3) := by decide +kernel
theorem dX5_passes_36 : decode cX5_passes 36 = .ok (.invokevirtual 108, 3) := by decide +kernel
theorem dX5_passes_39 : decode cX5_passes 39 = .ok (.aload_n 0, 1) := by decide +kernel
theorem dX5_passes_40 : decode cX5_passes 40 = .ok (.getfield 10, 3) := by decide +kernel
theorem dX5_passes_43 : decode cX5_passes 43 = .ok (.getfield 99, 3) := by decide +kernel
theorem dX5_passes_46 : decode cX5_passes 46 = .ok (.ireturn, 1) := by decide +kernel
set_option maxRecDepth 20000 in
theorem ggX5_undo_X5_refuse : GoodIn wsX5_undo wsX5_refuse := goodIn_r _ [8, 9, 10, 11, 7, 12, 21, 22, 23, 24, 25, 26, 27, 28] (by decide +kernel) (by decide +kernel)
set_option maxRecDepth 20000 in
theorem gX5_undo_X5_refuse : GoodIn wsX5_undo (wsV RX5 58 RX5 yX5_refuse wsX5_refuse) := goodIn_app (goodIn_of _ (by decide +kernel)) ggX5_undo_X5_refuse
set_option maxRecDepth 20000 in
theorem ggX5_undo_X1_goBack : GoodIn wsX5_undo wsX1_goBack := goodIn_r _ [17, 18, 19, 20, 29, 30, 31, 32, 33, 34, 35, 36, 37, 38, 39, 40, 41, 42] (by decide +kernel) (by decide +kernel)
set_option maxRecDepth 20000 in
theorem gX5_undo_X1_goBack : GoodIn wsX5_undo (wsV RX5 114 RX1 yX1_goBack wsX1_goBack) := goodIn_app (goodIn_of _ (by decide +kernel)) ggX5_undo_X1_goBack
theorem dX5_undo_0 : decode cX5_undo 0 = .ok (.aload_n 0, 1) := by decide +kernel
theorem dX5_undo_1 : decode cX5_undo 1 = .ok (.getfield 10, 3) := by decide +kernel
theorem dX5_undo_4 : decode cX5_undo 4 = .ok (.getfield 111, 3) := by decide +kernel
theorem dX5_undo_7 : decode cX5_undo 7 = .ok (.ifCond .ne 10, 3) := by decide +kernel
theorem dX5_undo_10 : decode cX5_undo 10 = .ok (.aload_n 0, 1) := by decide +kernel
theorem dX5_undo_11 : decode cX5_undo 11 = .ok (.bipush (-3), 2) := by decide +kernel
theorem dX5_undo_13 : decode cX5_undo 13 = .ok (.invokevirtual 58, 3) := by decide +kernel
theorem dX5_undo_16 : decode cX5_undo 16 = .ok (.ireturn, 1) := by decide +kernel
theorem dX5_undo_17 : decode cX5_undo 17 = .ok (.aload_n 0, 1) := by decide +kernel
theorem dX5_undo_18 : decode cX5_undo 18 = .ok (.getfield 10, 3) := by decide +kernel
theorem dX5_undo_21 : decode cX5_undo 21 = .ok (.invokevirtual 114, 3) := by decide +kernel
theorem dX5_undo_24 : decode cX5_undo 24 = .ok (.aload_n 0, 1) := by decide +kernel
theorem dX5_undo_25 : decode cX5_undo 25 = .ok (.getfield 10, 3) := by decide +kernel
theorem dX5_undo_28 : decode cX5_undo 28 = .ok (.getfield 99, 3) := by decide +kernel
theorem dX5_undo_31 : decode cX5_undo 31 = .ok (.ireturn, 1) := by decide +kernel
set_option maxRecDepth 20000 in
theorem ggX5_of_X1_hasLift : GoodIn wsX5_of wsX1_hasLift := goodIn_r _ [11, 12, 64, 65, 66, 67, 68, 69, 70, 71, 72, 73, 74, 75, 76, 77] (by decide +kernel) (by decide +kernel)
set_option maxRecDepth 20000 in
theorem gX5_of_X1_hasLift : GoodIn wsX5_of (wsV RX5 117 RX1 yX1_hasLift wsX1_hasLift) := goodIn_app (goodIn_of _ (by decide +kernel)) ggX5_of_X1_hasLift
set_option maxRecDepth 20000 in
theorem ggX5_of_X5_isWithin : GoodIn wsX5_of wsX5_isWithin := goodIn_r _ [16] (by decide +kernel) (by decide +kernel)
set_option maxRecDepth 20000 in
theorem gX5_of_X5_isWithin : GoodIn wsX5_of (va_wsS RX5 54 yX5_isWithin wsX5_isWithin) := goodIn_app (goodIn_of _ (by decide +kernel)) ggX5_of_X5_isWithin
set_option maxRecDepth 20000 in
theorem ggX5_of_X5_refuse : GoodIn wsX5_of wsX5_refuse := goodIn_r _ [20, 21, 13, 14, 15, 16, 56, 57, 58, 59, 60, 61, 62, 63] (by decide +kernel) (by decide +kernel)
set_option maxRecDepth 20000 in
theorem gX5_of_X5_refuse : GoodIn wsX5_of (wsV RX5 58 RX5 yX5_refuse wsX5_refuse) := goodIn_app (goodIn_of _ (by decide +kernel)) ggX5_of_X5_refuse
set_option maxRecDepth 20000 in
theorem ggX5_of_X4_floorOf : GoodIn wsX5_of wsX4_floorOf := goodIn_r _ [26, 27, 28, 29, 30, 31, 32, 33, 34, 35, 36, 37, 38, 39, 40, 41, 42, 43, 44, 45, 46, 47, 78, 64, 65, 66, 67, 68, 69, 70, 71, 72, 73, 74, 75, 76, 77] (by decide +kernel) (by decide +kernel)
set_option maxRecDepth 20000 in
theorem gX5_of_X4_floorOf : GoodIn wsX5_of (wsV RX5 124 RX4 yX4_floorOf wsX4_floorOf) := goodIn_app (goodIn_of _ (by decide +kernel)) ggX5_of_X4_floorOf
set_option maxRecDepth 20000 in
theorem ggX5_of_X2_round : GoodIn wsX5_of wsX2_round := goodIn_r _ [46, 35, 47, 36] (by decide +kernel) (by decide +kernel)
set_option maxRecDepth 20000 in
theorem gX5_of_X2_round : GoodIn wsX5_of (va_wsS RX5 133 yX2_round wsX2_round) := goodIn_app (goodIn_of _ (by decide +kernel)) ggX5_of_X2_round
set_option maxRecDepth 20000 in
theorem ggX5_of_X4_wayOf : GoodIn wsX5_of wsX4_wayOf := goodIn_r _ [52, 27, 28, 30, 29, 31, 32, 33, 34, 35, 36, 37, 38, 39, 40, 41, 42, 43, 44, 45, 46, 47, 78, 64, 65, 66, 67, 68, 69, 70, 71, 72, 73, 74, 75, 76, 77] (by decide +kernel) (by decide +kernel)
set_option maxRecDepth 20000 in
theorem gX5_of_X4_wayOf : GoodIn wsX5_of (wsV RX5 136 RX4 yX4_wayOf wsX4_wayOf) := goodIn_app (goodIn_of _ (by decide +kernel)) ggX5_of_X4_wayOf
set_option maxRecDepth 20000 in
theorem ggX5_of_X2_opens : GoodIn wsX5_of wsX2_opens := goodIn_r _ [55] (by decide +kernel) (by decide +kernel)
set_option maxRecDepth 20000 in
theorem gX5_of_X2_opens : GoodIn wsX5_of (va_wsS RX5 139 yX2_opens wsX2_opens) := goodIn_app (goodIn_of _ (by decide +kernel)) ggX5_of_X2_opens
theorem dX5_of_0 : decode cX5_of 0 = .ok (.aload_n 0, 1) := by decide +kernel
theorem dX5_of_1 : decode cX5_of 1 = .ok (.getfield 10, 3) := by decide +kernel
theorem dX5_of_4 : decode cX5_of 4 = .ok (.iload_n 1, 1) := by decide +kernel
theorem dX5_of_5 : decode cX5_of 5 = .ok (.invokevirtual 117, 3) := by decide +kernel
theorem dX5_of_8 : decode cX5_of 8 = .ok (.ifCond .eq 12, 3) := by decide +kernel
theorem dX5_of_11 : decode cX5_of 11 = .ok (.iload_n 2, 1) := by decide +kernel
theorem dX5_of_12 : decode cX5_of 12 = .ok (.iconst 0, 1) := by decide +kernel
theorem dX5_of_13 : decode cX5_of 13 = .ok (.iconst 5, 1) := by decide +kernel
theorem dX5_of_14 : decode cX5_of 14 = .ok (.invokestatic 54, 3) := by decide +kernel
theorem dX5_of_17 : decode cX5_of 17 = .ok (.ifCond .ne 10, 3) := by decide +kernel
theorem dX5_of_20 : decode cX5_of 20 = .ok (.aload_n 0, 1) := by decide +kernel
theorem dX5_of_21 : decode cX5_of 21 = .ok (.bipush (-2), 2) := by decide +kernel
theorem dX5_of_23 : decode cX5_of 23 = .ok (.invokevirtual 58, 3) := by decide +kernel
theorem dX5_of_26 : decode cX5_of 26 = .ok (.ireturn, 1) := by decide +kernel
theorem dX5_of_27 : decode cX5_of 27 = .ok (.aload_n 0, 1) := by decide +kernel
theorem dX5_of_28 : decode cX5_of 28 = .ok (.getfield 10, 3) := by decide +kernel
theorem dX5_of_31 : decode cX5_of 31 = .ok (.getfield 121, 3) := by decide +kernel
theorem dX5_of_34 : decode cX5_of 34 = .ok (.iload_n 1, 1) := by decide +kernel
theorem dX5_of_35 : decode cX5_of 35 = .ok (.iaload, 1) := by decide +kernel
theorem dX5_of_36 : decode cX5_of 36 = .ok (.istore_n 3, 1) := by decide +kernel
theorem dX5_of_37 : decode cX5_of 37 = .ok (.aload_n 0, 1) := by decide +kernel
theorem dX5_of_38 : decode cX5_of 38 = .ok (.getfield 32, 3) := by decide +kernel
theorem dX5_of_41 : decode cX5_of 41 = .ok (.iload_n 1, 1) := by decide +kernel
theorem dX5_of_42 : decode cX5_of 42 = .ok (.aload_n 0, 1) := by decide +kernel
theorem dX5_of_43 : decode cX5_of 43 = .ok (.getfield 10, 3) := by decide +kernel
theorem dX5_of_46 : decode cX5_of 46 = .ok (.getfield 99, 3) := by decide +kernel
theorem dX5_of_49 : decode cX5_of 49 = .ok (.invokevirtual 124, 3) := by decide +kernel
theorem dX5_of_52 : decode cX5_of 52 = .ok (.istore 4, 2) := by decide +kernel
theorem dX5_of_54 : decode cX5_of 54 = .ok (.iload_n 2, 1) := by decide +kernel
theorem dX5_of_55 : decode cX5_of 55 = .ok (.tableswitch 76 0 4 #[33, 35, 45, 57, 60], 33) := by decide +kernel
theorem dX5_of_88 : decode cX5_of 88 = .ok (.iload_n 3, 1) := by decide +kernel
theorem dX5_of_89 : decode cX5_of 89 = .ok (.ireturn, 1) := by decide +kernel
theorem dX5_of_90 : decode cX5_of 90 = .ok (.aload_n 0, 1) := by decide +kernel
theorem dX5_of_91 : decode cX5_of 91 = .ok (.getfield 10, 3) := by decide +kernel
theorem dX5_of_94 : decode cX5_of 94 = .ok (.getfield 127, 3) := by decide +kernel
theorem dX5_of_97 : decode cX5_of 97 = .ok (.iload_n 1, 1) := by decide +kernel
theorem dX5_of_98 : decode cX5_of 98 = .ok (.iaload, 1) := by decide +kernel
theorem dX5_of_99 : decode cX5_of 99 = .ok (.ireturn, 1) := by decide +kernel
theorem dX5_of_100 : decode cX5_of 100 = .ok (.iload_n 3, 1) := by decide +kernel
theorem dX5_of_101 : decode cX5_of 101 = .ok (.aload_n 0, 1) := by decide +kernel
theorem dX5_of_102 : decode cX5_of 102 = .ok (.getfield 10, 3) := by decide +kernel
theorem dX5_of_105 : decode cX5_of 105 = .ok (.getfield 130, 3) := by decide +kernel
theorem dX5_of_108 : decode cX5_of 108 = .ok (.invokestatic 133, 3) := by decide +kernel
theorem dX5_of_111 : decode cX5_of 111 = .ok (.ireturn, 1) := by decide +kernel
theorem dX5_of_112 : decode cX5_of 112 = .ok (.iload 4, 2) := by decide +kernel
theorem dX5_of_114 : decode cX5_of 114 = .ok (.ireturn, 1) := by decide +kernel
theorem dX5_of_115 : decode cX5_of 115 = .ok (.aload_n 0, 1) := by decide +kernel
theorem dX5_of_116 : decode cX5_of 116 = .ok (.getfield 32, 3) := by decide +kernel
theorem dX5_of_119 : decode cX5_of 119 = .ok (.iload_n 1, 1) := by decide +kernel
theorem dX5_of_120 : decode cX5_of 120 = .ok (.aload_n 0, 1) := by decide +kernel
theorem dX5_of_121 : decode cX5_of 121 = .ok (.getfield 10, 3) := by decide +kernel
theorem dX5_of_124 : decode cX5_of 124 = .ok (.getfield 99, 3) := by decide +kernel
theorem dX5_of_127 : decode cX5_of 127 = .ok (.invokevirtual 136, 3) := by decide +kernel
theorem dX5_of_130 : decode cX5_of 130 = .ok (.ireturn, 1) := by decide +kernel
theorem dX5_of_131 : decode cX5_of 131 = .ok (.iload_n 3, 1) := by decide +kernel
theorem dX5_of_132 : decode cX5_of 132 = .ok (.aload_n 0, 1) := by decide +kernel
theorem dX5_of_133 : decode cX5_of 133 = .ok (.getfield 10, 3) := by decide +kernel
theorem dX5_of_136 : decode cX5_of 136 = .ok (.getfield 130, 3) := by decide +kernel
theorem dX5_of_139 : decode cX5_of 139 = .ok (.iload 4, 2) := by decide +kernel
theorem dX5_of_141 : decode cX5_of 141 = .ok (.invokestatic 139, 3) := by decide +kernel
theorem dX5_of_144 : decode cX5_of 144 = .ok (.ifCond .eq 7, 3) := by decide +kernel
theorem dX5_of_147 : decode cX5_of 147 = .ok (.iconst 1, 1) := by decide +kernel
theorem dX5_of_148 : decode cX5_of 148 = .ok (.goto 4, 3) := by decide +kernel
theorem dX5_of_151 : decode cX5_of 151 = .ok (.iconst 0, 1) := by decide +kernel
theorem dX5_of_152 : decode cX5_of 152 = .ok (.ireturn, 1) := by decide +kernel
set_option maxRecDepth 20000 in
theorem ggX5_where_X1_hasLift : GoodIn wsX5_where wsX1_hasLift := goodIn_r _ [7, 8, 55, 56, 57, 58, 59, 60, 61, 62, 63, 64, 65, 66, 67, 68] (by decide +kernel) (by decide +kernel)
set_option maxRecDepth 20000 in
theorem gX5_where_X1_hasLift : GoodIn wsX5_where (wsV RX5 117 RX1 yX1_hasLift wsX1_hasLift) := goodIn_app (goodIn_of _ (by decide +kernel)) ggX5_where_X1_hasLift
set_option maxRecDepth 20000 in
theorem ggX5_where_X5_isMinute : GoodIn wsX5_where wsX5_isMinute := goodIn_r _ [12, 13, 14, 11, 15] (by decide +kernel) (by decide +kernel)
set_option maxRecDepth 20000 in
theorem gX5_where_X5_isMinute : GoodIn wsX5_where (va_wsS RX5 142 yX5_isMinute wsX5_isMinute) := goodIn_app (goodIn_of _ (by decide +kernel)) ggX5_where_X5_isMinute
set_option maxRecDepth 20000 in
theorem ggX5_where_X5_refuse : GoodIn wsX5_where wsX5_refuse := goodIn_r _ [19, 20, 13, 14, 11, 15, 47, 48, 49, 50, 51, 52, 53, 54] (by decide +kernel) (by decide +kernel)
set_option maxRecDepth 20000 in
theorem gX5_where_X5_refuse : GoodIn wsX5_where (wsV RX5 58 RX5 yX5_refuse wsX5_refuse) := goodIn_app (goodIn_of _ (by decide +kernel)) ggX5_where_X5_refuse
set_option maxRecDepth 20000 in
theorem ggX5_where_X4_floorOf : GoodIn wsX5_where wsX4_floorOf := goodIn_r _ [25, 26, 27, 28, 29, 30, 31, 32, 33, 34, 35, 36, 37, 38, 39, 40, 41, 42, 43, 44, 45, 46, 69, 55, 56, 57, 58, 59, 60, 61, 62, 63, 64, 65, 66, 67, 68] (by decide +kernel) (by decide +kernel)
set_option maxRecDepth 20000 in
theorem gX5_where_X4_floorOf : GoodIn wsX5_where (wsV RX5 124 RX4 yX4_floorOf wsX4_floorOf) := goodIn_app (goodIn_of _ (by decide +kernel)) ggX5_where_X4_floorOf
theorem dX5_where_0 : decode cX5_where 0 = .ok (.aload_n 0, 1) := by decide +kernel
theorem dX5_where_1 : decode cX5_where 1 = .ok (.getfield 10, 3) := by decide +kernel
theorem dX5_where_4 : decode cX5_where 4 = .ok (.iload_n 1, 1) := by decide +kernel
theorem dX5_where_5 : decode cX5_where 5 = .ok (.invokevirtual 117, 3) := by decide +kernel
theorem dX5_where_8 : decode cX5_where 8 = .ok (.ifCond .eq 10, 3) := by decide +kernel
theorem dX5_where_11 : decode cX5_where 11 = .ok (.iload_n 2, 1) := by decide +kernel
theorem dX5_where_12 : decode cX5_where 12 = .ok (.invokestatic 142, 3) := by decide +kernel
theorem dX5_where_15 : decode cX5_where 15 = .ok (.ifCond .ne 10, 3) := by decide +kernel
theorem dX5_where_18 : decode cX5_where 18 = .ok (.aload_n 0, 1) := by decide +kernel
theorem dX5_where_19 : decode cX5_where 19 = .ok (.bipush (-2), 2) := by decide +kernel
theorem dX5_where_21 : decode cX5_where 21 = .ok (.invokevirtual 58, 3) := by decide +kernel
theorem dX5_where_24 : decode cX5_where 24 = .ok (.ireturn, 1) := by decide +kernel
theorem dX5_where_25 : decode cX5_where 25 = .ok (.aload_n 0, 1) := by decide +kernel
theorem dX5_where_26 : decode cX5_where 26 = .ok (.getfield 32, 3) := by decide +kernel
theorem dX5_where_29 : decode cX5_where 29 = .ok (.iload_n 1, 1) := by decide +kernel
theorem dX5_where_30 : decode cX5_where 30 = .ok (.iload_n 2, 1) := by decide +kernel
theorem dX5_where_31 : decode cX5_where 31 = .ok (.invokevirtual 124, 3) := by decide +kernel
theorem dX5_where_34 : decode cX5_where 34 = .ok (.ireturn, 1) := by decide +kernel
set_option maxRecDepth 20000 in
theorem ggX5_first_X1_hasFloor : GoodIn wsX5_first wsX1_hasFloor := goodIn_r _ [7, 8, 77, 78, 79, 80, 81, 82, 83, 84, 85, 86, 87, 88, 89, 90] (by decide +kernel) (by decide +kernel)
set_option maxRecDepth 20000 in
theorem gX5_first_X1_hasFloor : GoodIn wsX5_first (wsV RX5 145 RX1 yX1_hasFloor wsX1_hasFloor) := goodIn_app (goodIn_of _ (by decide +kernel)) ggX5_first_X1_hasFloor
set_option maxRecDepth 20000 in
theorem ggX5_first_X5_isMinute : GoodIn wsX5_first wsX5_isMinute := goodIn_r _ [12, 13, 14, 11, 15] (by decide +kernel) (by decide +kernel)
set_option maxRecDepth 20000 in
theorem gX5_first_X5_isMinute : GoodIn wsX5_first (va_wsS RX5 142 yX5_isMinute wsX5_isMinute) := goodIn_app (goodIn_of _ (by decide +kernel)) ggX5_first_X5_isMinute
set_option maxRecDepth 20000 in
theorem ggX5_first_X5_isWithin : GoodIn wsX5_first wsX5_isWithin := goodIn_r _ [15] (by decide +kernel) (by decide +kernel)
set_option maxRecDepth 20000 in
theorem gX5_first_X5_isWithin : GoodIn wsX5_first (va_wsS RX5 54 yX5_isWithin wsX5_isWithin) := goodIn_app (goodIn_of _ (by decide +kernel)) ggX5_first_X5_isWithin
set_option maxRecDepth 20000 in
theorem ggX5_first_X5_refuse : GoodIn wsX5_first wsX5_refuse := goodIn_r _ [19, 20, 13, 14, 11, 15, 69, 70, 71, 72, 73, 74, 75, 76] (by decide +kernel) (by decide +kernel)
set_option maxRecDepth 20000 in
theorem gX5_first_X5_refuse : GoodIn wsX5_first (wsV RX5 58 RX5 yX5_refuse wsX5_refuse) := goodIn_app (goodIn_of _ (by decide +kernel)) ggX5_first_X5_refuse
set_option maxRecDepth 20000 in
theorem ggX5_first_X4_waitOn : GoodIn wsX5_first wsX4_waitOn := goodIn_r _ [25, 26, 27, 28, 24, 29, 30, 31, 32, 33, 34, 35, 36, 37, 38, 39, 40, 41, 42, 43, 44, 45, 46, 47, 48, 49, 50, 51, 52, 53, 54, 55, 56, 57, 58, 59, 60, 61, 62, 91, 77, 78, 79, 80, 81, 82, 83, 84, 85, 86, 87, 88, 89, 90] (by decide +kernel) (by decide +kernel)
set_option maxRecDepth 20000 in
theorem gX5_first_X4_waitOn : GoodIn wsX5_first (wsV RX5 148 RX4 yX4_waitOn wsX4_waitOn) := goodIn_app (goodIn_of _ (by decide +kernel)) ggX5_first_X4_waitOn
set_option maxRecDepth 20000 in
theorem ggX5_first_X4_seenFrom : GoodIn wsX5_first wsX4_seenFrom := goodIn_r _ [29, 30, 31, 32, 33, 34, 24, 35, 36, 37, 38, 39, 40, 41, 42, 43, 44, 45, 46, 47, 48, 49, 50, 51, 52, 53, 54, 55, 56, 57, 58, 59, 60, 61, 62, 91, 77, 78, 79, 80, 81, 82, 83, 84, 85, 86, 87, 88, 89, 90] (by decide +kernel) (by decide +kernel)
set_option maxRecDepth 20000 in
theorem gX5_first_X4_seenFrom : GoodIn wsX5_first (wsV RX5 152 RX4 yX4_seenFrom wsX4_seenFrom) := goodIn_app (goodIn_of _ (by decide +kernel)) ggX5_first_X4_seenFrom
set_option maxRecDepth 20000 in
theorem ggX5_first_X4_wayOfFirst : GoodIn wsX5_first wsX4_wayOfFirst := goodIn_r _ [67, 68, 22, 23, 24, 25, 26, 27, 28, 29, 30, 31, 32, 33, 34, 35, 36, 37, 38, 39, 40, 41, 42, 43, 44, 45, 46, 47, 48, 49, 50, 51, 52, 53, 54, 55, 56, 57, 58, 59, 60, 61, 62, 91, 77, 78, 79, 80, 81, 82, 83, 84, 85, 86, 87, 88, 89, 90] (by decide +kernel) (by decide +kernel)
set_option maxRecDepth 20000 in
theorem gX5_first_X4_wayOfFirst : GoodIn wsX5_first (wsV RX5 155 RX4 yX4_wayOfFirst wsX4_wayOfFirst) := goodIn_app (goodIn_of _ (by decide +kernel)) ggX5_first_X4_wayOfFirst
theorem dX5_first_0 : decode cX5_first 0 = .ok (.aload_n 0, 1) := by decide +kernel
theorem dX5_first_1 : decode cX5_first 1 = .ok (.getfield 10, 3) := by decide +kernel
theorem dX5_first_4 : decode cX5_first 4 = .ok (.iload_n 1, 1) := by decide +kernel
theorem dX5_first_5 : decode cX5_first 5 = .ok (.invokevirtual 145, 3) := by decide +kernel
theorem dX5_first_8 : decode cX5_first 8 = .ok (.ifCond .eq 19, 3) := by decide +kernel
theorem dX5_first_11 : decode cX5_first 11 = .ok (.iload_n 2, 1) := by decide +kernel
theorem dX5_first_12 : decode cX5_first 12 = .ok (.invokestatic 142, 3) := by decide +kernel
theorem dX5_first_15 : decode cX5_first 15 = .ok (.ifCond .eq 12, 3) := by decide +kernel
theorem dX5_first_18 : decode cX5_first 18 = .ok (.iload_n 3, 1) := by decide +kernel
theorem dX5_first_19 : decode cX5_first 19 = .ok (.iconst 0, 1) := by decide +kernel
theorem dX5_first_20 : decode cX5_first 20 = .ok (.iconst 2, 1) := by decide +kernel
theorem dX5_first_21 : decode cX5_first 21 = .ok (.invokestatic 54, 3) := by decide +kernel
theorem dX5_first_24 : decode cX5_first 24 = .ok (.ifCond .ne 10, 3) := by decide +kernel
theorem dX5_first_27 : decode cX5_first 27 = .ok (.aload_n 0, 1) := by decide +kernel
theorem dX5_first_28 : decode cX5_first 28 = .ok (.bipush (-2), 2) := by decide +kernel
theorem dX5_first_30 : decode cX5_first 30 = .ok (.invokevirtual 58, 3) := by decide +kernel
theorem dX5_first_33 : decode cX5_first 33 = .ok (.ireturn, 1) := by decide +kernel
theorem dX5_first_34 : decode cX5_first 34 = .ok (.aload_n 0, 1) := by decide +kernel
theorem dX5_first_35 : decode cX5_first 35 = .ok (.getfield 32, 3) := by decide +kernel
theorem dX5_first_38 : decode cX5_first 38 = .ok (.iload_n 1, 1) := by decide +kernel
theorem dX5_first_39 : decode cX5_first 39 = .ok (.iload_n 2, 1) := by decide +kernel
theorem dX5_first_40 : decode cX5_first 40 = .ok (.iconst (-1), 1) := by decide +kernel
theorem dX5_first_41 : decode cX5_first 41 = .ok (.invokevirtual 148, 3) := by decide +kernel
theorem dX5_first_44 : decode cX5_first 44 = .ok (.istore 4, 2) := by decide +kernel
theorem dX5_first_46 : decode cX5_first 46 = .ok (.iload 4, 2) := by decide +kernel
theorem dX5_first_48 : decode cX5_first 48 = .ok (.iconst (-1), 1) := by decide +kernel
theorem dX5_first_49 : decode cX5_first 49 = .ok (.if_icmp .eq 8, 3) := by decide +kernel
theorem dX5_first_52 : decode cX5_first 52 = .ok (.iload_n 3, 1) := by decide +kernel
theorem dX5_first_53 : decode cX5_first 53 = .ok (.iconst 2, 1) := by decide +kernel
theorem dX5_first_54 : decode cX5_first 54 = .ok (.if_icmp .ne 6, 3) := by decide +kernel
theorem dX5_first_57 : decode cX5_first 57 = .ok (.iload 4, 2) := by decide +kernel
theorem dX5_first_59 : decode cX5_first 59 = .ok (.ireturn, 1) := by decide +kernel
theorem dX5_first_60 : decode cX5_first 60 = .ok (.iload_n 3, 1) := by decide +kernel
theorem dX5_first_61 : decode cX5_first 61 = .ok (.ifCond .ne 19, 3) := by decide +kernel
theorem dX5_first_64 : decode cX5_first 64 = .ok (.aload_n 0, 1) := by decide +kernel
theorem dX5_first_65 : decode cX5_first 65 = .ok (.getfield 32, 3) := by decide +kernel
theorem dX5_first_68 : decode cX5_first 68 = .ok (.iload_n 1, 1) := by decide +kernel
theorem dX5_first_69 : decode cX5_first 69 = .ok (.iload_n 2, 1) := by decide +kernel
theorem dX5_first_70 : decode cX5_first 70 = .ok (.iload 4, 2) := by decide +kernel
theorem dX5_first_72 : decode cX5_first 72 = .ok (.iadd, 1) := by decide +kernel
theorem dX5_first_73 : decode cX5_first 73 = .ok (.iconst (-1), 1) := by decide +kernel
theorem dX5_first_74 : decode cX5_first 74 = .ok (.invokevirtual 152, 3) := by decide +kernel
theorem dX5_first_77 : decode cX5_first 77 = .ok (.goto 12, 3) := by decide +kernel
theorem dX5_first_80 : decode cX5_first 80 = .ok (.aload_n 0, 1) := by decide +kernel
theorem dX5_first_81 : decode cX5_first 81 = .ok (.getfield 32, 3) := by decide +kernel
theorem dX5_first_84 : decode cX5_first 84 = .ok (.iload_n 1, 1) := by decide +kernel
theorem dX5_first_85 : decode cX5_first 85 = .ok (.iload_n 2, 1) := by decide +kernel
theorem dX5_first_86 : decode cX5_first 86 = .ok (.invokevirtual 155, 3) := by decide +kernel
theorem dX5_first_89 : decode cX5_first 89 = .ok (.ireturn, 1) := by decide +kernel
set_option maxRecDepth 20000 in
theorem ggX5_often_X1_hasFloor : GoodIn wsX5_often wsX1_hasFloor := goodIn_r _ [6, 7, 96, 97, 98, 99, 100, 101, 102, 103, 104, 105, 106, 107, 108, 109] (by decide +kernel) (by decide +kernel)
set_option maxRecDepth 20000 in
theorem gX5_often_X1_hasFloor : GoodIn wsX5_often (wsV RX5 145 RX1 yX1_hasFloor wsX1_hasFloor) := goodIn_app (goodIn_of _ (by decide +kernel)) ggX5_often_X1_hasFloor
set_option maxRecDepth 20000 in
theorem ggX5_often_X5_isWithin : GoodIn wsX5_often wsX5_isWithin := goodIn_r _ [11] (by decide +kernel) (by decide +kernel)
set_option maxRecDepth 20000 in
theorem gX5_often_X5_isWithin : GoodIn wsX5_often (va_wsS RX5 54 yX5_isWithin wsX5_isWithin) := goodIn_app (goodIn_of _ (by decide +kernel)) ggX5_often_X5_isWithin
set_option maxRecDepth 20000 in
theorem ggX5_often_X5_refuse : GoodIn wsX5_often wsX5_refuse := goodIn_r _ [15, 16, 8, 9, 10, 11, 88, 89, 90, 91, 92, 93, 94, 95] (by decide +kernel) (by decide +kernel)
set_option maxRecDepth 20000 in
theorem gX5_often_X5_refuse : GoodIn wsX5_often (wsV RX5 58 RX5 yX5_refuse wsX5_refuse) := goodIn_app (goodIn_of _ (by decide +kernel)) ggX5_often_X5_refuse
set_option maxRecDepth 20000 in
theorem ggX5_often_X5_chanceOfUp : GoodIn wsX5_often wsX5_chanceOfUp := goodIn_r _ [20, 21, 22, 23, 24, 25, 26, 27, 28, 29, 30, 31, 32, 33, 34, 35, 36, 37, 38, 39, 40, 41, 42, 43, 44, 45, 46, 47, 48, 49, 50, 51, 52, 53, 54, 55, 56, 57, 58, 59, 60, 61, 62, 63, 64, 65, 66, 67, 68, 69, 70, 10, 71, 72, 12, 13, 14, 15, 16, 8, 9, 11, 73, 74, 75, 76, 77, 78, 79, 80, 81, 82, 88, 89, 90, 91, 92, 93, 94, 95, 110, 96, 97, 98, 99, 100, 101, 102, 103, 104, 105, 106, 107, 108, 109, 111, 112] (by decide +kernel) (by decide +kernel)
set_option maxRecDepth 20000 in
theorem gX5_often_X5_chanceOfUp : GoodIn wsX5_often (wsV RX5 158 RX5 yX5_chanceOfUp wsX5_chanceOfUp) := goodIn_app (goodIn_of _ (by decide +kernel)) ggX5_often_X5_chanceOfUp
set_option maxRecDepth 20000 in
theorem ggX5_often_X5_meanWait : GoodIn wsX5_often wsX5_meanWait := goodIn_r _ [86, 21, 87, 28, 29, 25, 30, 31, 32, 33, 34, 35, 36, 37, 38, 39, 40, 41, 42, 43, 44, 45, 46, 47, 48, 49, 50, 51, 52, 53, 54, 55, 56, 57, 58, 59, 60, 61, 62, 63, 64, 65, 66, 67, 68, 69, 70, 10, 71, 72, 12, 13, 14, 15, 16, 8, 9, 11, 73, 74, 75, 76, 77, 78, 79, 80, 81, 82, 88, 89, 90, 91, 92, 93, 94, 95, 110, 96, 97, 98, 99, 100, 101, 102, 103, 104, 105, 106, 107, 108, 109, 111, 112] (by decide +kernel) (by decide +kernel)
set_option maxRecDepth 20000 in
theorem gX5_often_X5_meanWait : GoodIn wsX5_often (wsV RX5 161 RX5 yX5_meanWait wsX5_meanWait) := goodIn_app (goodIn_of _ (by decide +kernel)) ggX5_often_X5_meanWait
theorem dX5_often_0 : decode cX5_often 0 = .ok (.aload_n 0, 1) := by decide +kernel
theorem dX5_often_1 : decode cX5_often 1 = .ok (.getfield 10, 3) := by decide +kernel
theorem dX5_often_4 : decode cX5_often 4 = .ok (.iload_n 1, 1) := by decide +kernel
theorem dX5_often_5 : decode cX5_often 5 = .ok (.invokevirtual 145, 3) := by decide +kernel
theorem dX5_often_8 : decode cX5_often 8 = .ok (.ifCond .eq 12, 3) := by decide +kernel
theorem dX5_often_11 : decode cX5_often 11 = .ok (.iload_n 2, 1) := by decide +kernel
theorem dX5_often_12 : decode cX5_often 12 = .ok (.iconst 0, 1) := by decide +kernel
theorem dX5_often_13 : decode cX5_often 13 = .ok (.iconst 1, 1) := by decide +kernel
theorem dX5_often_14 : decode cX5_often 14 = .ok (.invokestatic 54, 3) := by decide +kernel
theorem dX5_often_17 : decode cX5_often 17 = .ok (.ifCond .ne 10, 3) := by decide +kernel
theorem dX5_often_20 : decode cX5_often 20 = .ok (.aload_n 0, 1) := by decide +kernel
theorem dX5_often_21 : decode cX5_often 21 = .ok (.bipush (-2), 2) := by decide +kernel
theorem dX5_often_23 : decode cX5_often 23 = .ok (.invokevirtual 58, 3) := by decide +kernel
theorem dX5_often_26 : decode cX5_often 26 = .ok (.ireturn, 1) := by decide +kernel
theorem dX5_often_27 : decode cX5_often 27 = .ok (.iload_n 2, 1) := by decide +kernel
theorem dX5_often_28 : decode cX5_often 28 = .ok (.ifCond .ne 11, 3) := by decide +kernel
theorem dX5_often_31 : decode cX5_often 31 = .ok (.aload_n 0, 1) := by decide +kernel
theorem dX5_often_32 : decode cX5_often 32 = .ok (.iload_n 1, 1) := by decide +kernel
theorem dX5_often_33 : decode cX5_often 33 = .ok (.invokevirtual 158, 3) := by decide +kernel
theorem dX5_often_36 : decode cX5_often 36 = .ok (.goto 9, 3) := by decide +kernel
theorem dX5_often_39 : decode cX5_often 39 = .ok (.aload_n 0, 1) := by decide +kernel
theorem dX5_often_40 : decode cX5_often 40 = .ok (.iload_n 1, 1) := by decide +kernel
theorem dX5_often_41 : decode cX5_often 41 = .ok (.iconst (-1), 1) := by decide +kernel
theorem dX5_often_42 : decode cX5_often 42 = .ok (.invokevirtual 161, 3) := by decide +kernel
theorem dX5_often_45 : decode cX5_often 45 = .ok (.ireturn, 1) := by decide +kernel
set_option maxRecDepth 20000 in
theorem ggX5_own_X1_hasFloor : GoodIn wsX5_own wsX1_hasFloor := goodIn_r _ [6, 7, 87, 88, 89, 90, 91, 92, 93, 94, 95, 96, 97, 98, 99, 100] (by decide +kernel) (by decide +kernel)
set_option maxRecDepth 20000 in
theorem gX5_own_X1_hasFloor : GoodIn wsX5_own (wsV RX5 145 RX1 yX1_hasFloor wsX1_hasFloor) := goodIn_app (goodIn_of _ (by decide +kernel)) ggX5_own_X1_hasFloor
set_option maxRecDepth 20000 in
theorem ggX5_own_X5_isWithin : GoodIn wsX5_own wsX5_isWithin := goodIn_r _ [11] (by decide +kernel) (by decide +kernel)
set_option maxRecDepth 20000 in
theorem gX5_own_X5_isWithin : GoodIn wsX5_own (va_wsS RX5 54 yX5_isWithin wsX5_isWithin) := goodIn_app (goodIn_of _ (by decide +kernel)) ggX5_own_X5_isWithin
set_option maxRecDepth 20000 in
theorem ggX5_own_X5_refuse : GoodIn wsX5_own wsX5_refuse := goodIn_r _ [15, 16, 8, 9, 10, 11, 79, 80, 81, 82, 83, 84, 85, 86] (by decide +kernel) (by decide +kernel)
set_option maxRecDepth 20000 in
theorem gX5_own_X5_refuse : GoodIn wsX5_own (wsV RX5 58 RX5 yX5_refuse wsX5_refuse) := goodIn_app (goodIn_of _ (by decide +kernel)) ggX5_own_X5_refuse
set_option maxRecDepth 20000 in
theorem ggX5_own_X5_meanWait : GoodIn wsX5_own wsX5_meanWait := goodIn_r _ [20, 21, 22, 23, 24, 25, 26, 27, 28, 29, 30, 31, 32, 33, 34, 35, 36, 37, 38, 39, 40, 41, 42, 43, 44, 45, 46, 47, 48, 49, 50, 51, 52, 53, 54, 55, 56, 57, 58, 59, 60, 61, 62, 63, 64, 65, 66, 10, 67, 68, 12, 13, 14, 15, 16, 8, 9, 11, 69, 70, 71, 72, 73, 74, 75, 76, 77, 78, 79, 80, 81, 82, 83, 84, 85, 86, 101, 87, 88, 89, 90, 91, 92, 93, 94, 95, 96, 97, 98, 99, 100, 102, 103] (by decide +kernel) (by decide +kernel)
set_option maxRecDepth 20000 in
theorem gX5_own_X5_meanWait : GoodIn wsX5_own (wsV RX5 161 RX5 yX5_meanWait wsX5_meanWait) := goodIn_app (goodIn_of _ (by decide +kernel)) ggX5_own_X5_meanWait
end
section
theorem dX5_own_0 : decode cX5_own 0 = .ok (.aload_n 0, 1) := by decide +kernel
theorem dX5_own_1 : decode cX5_own 1 = .ok (.getfield 10, 3) := by decide +kernel
theorem dX5_own_4 : decode cX5_own 4 = .ok (.iload_n 1, 1) := by decide +kernel
theorem dX5_own_5 : decode cX5_own 5 = .ok (.invokevirtual 145, 3) := by decide +kernel
theorem dX5_own_8 : decode cX5_own 8 = .ok (.ifCond .eq 12, 3) := by decide +kernel
theorem dX5_own_11 : decode cX5_own 11 = .ok (.iload_n 2, 1) := by decide +kernel
theorem dX5_own_12 : decode cX5_own 12 = .ok (.iconst 0, 1) := by decide +kernel
theorem dX5_own_13 : decode cX5_own 13 = .ok (.iconst 1, 1) := by decide +kernel
theorem dX5_own_14 : decode cX5_own 14 = .ok (.invokestatic 54, 3) := by decide +kernel
theorem dX5_own_17 : decode cX5_own 17 = .ok (.ifCond .ne 10, 3) := by decide +kernel
theorem dX5_own_20 : decode cX5_own 20 = .ok (.aload_n 0, 1) := by decide +kernel
theorem dX5_own_21 : decode cX5_own 21 = .ok (.bipush (-2), 2) := by decide +kernel
theorem dX5_own_23 : decode cX5_own 23 = .ok (.invokevirtual 58, 3) := by decide +kernel
theorem dX5_own_26 : decode cX5_own 26 = .ok (.ireturn, 1) := by decide +kernel
theorem dX5_own_27 : decode cX5_own 27 = .ok (.aload_n 0, 1) := by decide +kernel
theorem dX5_own_28 : decode cX5_own 28 = .ok (.iload_n 1, 1) := by decide +kernel
theorem dX5_own_29 : decode cX5_own 29 = .ok (.iload_n 2, 1) := by decide +kernel
theorem dX5_own_30 : decode cX5_own 30 = .ok (.invokevirtual 161, 3) := by decide +kernel
theorem dX5_own_33 : decode cX5_own 33 = .ok (.ireturn, 1) := by decide +kernel
set_option maxRecDepth 20000 in
theorem ggX5_ride_X1_hasFloor : GoodIn wsX5_ride wsX1_hasFloor := goodIn_r _ [7, 8, 79, 80, 81, 82, 83, 84, 85, 86, 87, 88, 89, 90, 91, 92] (by decide +kernel) (by decide +kernel)
set_option maxRecDepth 20000 in
theorem gX5_ride_X1_hasFloor : GoodIn wsX5_ride (wsV RX5 145 RX1 yX1_hasFloor wsX1_hasFloor) := goodIn_app (goodIn_of _ (by decide +kernel)) ggX5_ride_X1_hasFloor
set_option maxRecDepth 20000 in
theorem ggX5_ride_X5_isMinute : GoodIn wsX5_ride wsX5_isMinute := goodIn_r _ [12, 13, 14, 11, 15] (by decide +kernel) (by decide +kernel)
set_option maxRecDepth 20000 in
theorem gX5_ride_X5_isMinute : GoodIn wsX5_ride (va_wsS RX5 142 yX5_isMinute wsX5_isMinute) := goodIn_app (goodIn_of _ (by decide +kernel)) ggX5_ride_X5_isMinute
set_option maxRecDepth 20000 in
theorem ggX5_ride_X5_isWithin : GoodIn wsX5_ride wsX5_isWithin := goodIn_r _ [15] (by decide +kernel) (by decide +kernel)
set_option maxRecDepth 20000 in
theorem gX5_ride_X5_isWithin : GoodIn wsX5_ride (va_wsS RX5 54 yX5_isWithin wsX5_isWithin) := goodIn_app (goodIn_of _ (by decide +kernel)) ggX5_ride_X5_isWithin
set_option maxRecDepth 20000 in
theorem ggX5_ride_X5_refuse : GoodIn wsX5_ride wsX5_refuse := goodIn_r _ [19, 20, 13, 14, 11, 15, 71, 72, 73, 74, 75, 76, 77, 78] (by decide +kernel) (by decide +kernel)
set_option maxRecDepth 20000 in
theorem gX5_ride_X5_refuse : GoodIn wsX5_ride (wsV RX5 58 RX5 yX5_refuse wsX5_refuse) := goodIn_app (goodIn_of _ (by decide +kernel)) ggX5_ride_X5_refuse
set_option maxRecDepth 20000 in
theorem ggX5_ride_X4_rideTime : GoodIn wsX5_ride wsX4_rideTime := goodIn_r _ [25, 26, 27, 28, 24, 29, 30, 31, 32, 33, 34, 35, 36, 37, 38, 39, 40, 41, 42, 43, 44, 45, 46, 47, 48, 49, 50, 51, 52, 53, 54, 55, 56, 57, 58, 59, 60, 61, 62, 63, 64, 65, 66, 67, 68, 69, 70, 93, 79, 80, 81, 82, 83, 84, 85, 86, 87, 88, 89, 90, 91, 92] (by decide +kernel) (by decide +kernel)
set_option maxRecDepth 20000 in
theorem gX5_ride_X4_rideTime : GoodIn wsX5_ride (wsV RX5 164 RX4 yX4_rideTime wsX4_rideTime) := goodIn_app (goodIn_of _ (by decide +kernel)) ggX5_ride_X4_rideTime
theorem dX5_ride_0 : decode cX5_ride 0 = .ok (.aload_n 0, 1) := by decide +kernel
theorem dX5_ride_1 : decode cX5_ride 1 = .ok (.getfield 10, 3) := by decide +kernel
theorem dX5_ride_4 : decode cX5_ride 4 = .ok (.iload_n 1, 1) := by decide +kernel
theorem dX5_ride_5 : decode cX5_ride 5 = .ok (.invokevirtual 145, 3) := by decide +kernel
theorem dX5_ride_8 : decode cX5_ride 8 = .ok (.ifCond .eq 31, 3) := by decide +kernel
theorem dX5_ride_11 : decode cX5_ride 11 = .ok (.aload_n 0, 1) := by decide +kernel
theorem dX5_ride_12 : decode cX5_ride 12 = .ok (.getfield 10, 3) := by decide +kernel
theorem dX5_ride_15 : decode cX5_ride 15 = .ok (.iload_n 2, 1) := by decide +kernel
theorem dX5_ride_16 : decode cX5_ride 16 = .ok (.invokevirtual 145, 3) := by decide +kernel
theorem dX5_ride_19 : decode cX5_ride 19 = .ok (.ifCond .eq 20, 3) := by decide +kernel
theorem dX5_ride_22 : decode cX5_ride 22 = .ok (.iload_n 3, 1) := by decide +kernel
theorem dX5_ride_23 : decode cX5_ride 23 = .ok (.invokestatic 142, 3) := by decide +kernel
theorem dX5_ride_26 : decode cX5_ride 26 = .ok (.ifCond .eq 13, 3) := by decide +kernel
theorem dX5_ride_29 : decode cX5_ride 29 = .ok (.iload 4, 2) := by decide +kernel
theorem dX5_ride_31 : decode cX5_ride 31 = .ok (.iconst 0, 1) := by decide +kernel
theorem dX5_ride_32 : decode cX5_ride 32 = .ok (.iconst 1, 1) := by decide +kernel
theorem dX5_ride_33 : decode cX5_ride 33 = .ok (.invokestatic 54, 3) := by decide +kernel
theorem dX5_ride_36 : decode cX5_ride 36 = .ok (.ifCond .ne 10, 3) := by decide +kernel
theorem dX5_ride_39 : decode cX5_ride 39 = .ok (.aload_n 0, 1) := by decide +kernel
theorem dX5_ride_40 : decode cX5_ride 40 = .ok (.bipush (-2), 2) := by decide +kernel
theorem dX5_ride_42 : decode cX5_ride 42 = .ok (.invokevirtual 58, 3) := by decide +kernel
theorem dX5_ride_45 : decode cX5_ride 45 = .ok (.ireturn, 1) := by decide +kernel
theorem dX5_ride_46 : decode cX5_ride 46 = .ok (.iload_n 2, 1) := by decide +kernel
theorem dX5_ride_47 : decode cX5_ride 47 = .ok (.iload_n 1, 1) := by decide +kernel
theorem dX5_ride_48 : decode cX5_ride 48 = .ok (.if_icmp .le 7, 3) := by decide +kernel
theorem dX5_ride_51 : decode cX5_ride 51 = .ok (.iconst 1, 1) := by decide +kernel
theorem dX5_ride_52 : decode cX5_ride 52 = .ok (.goto 4, 3) := by decide +kernel
theorem dX5_ride_55 : decode cX5_ride 55 = .ok (.iconst 0, 1) := by decide +kernel
theorem dX5_ride_56 : decode cX5_ride 56 = .ok (.istore 5, 2) := by decide +kernel
theorem dX5_ride_58 : decode cX5_ride 58 = .ok (.aload_n 0, 1) := by decide +kernel
theorem dX5_ride_59 : decode cX5_ride 59 = .ok (.getfield 32, 3) := by decide +kernel
theorem dX5_ride_62 : decode cX5_ride 62 = .ok (.iload_n 1, 1) := by decide +kernel
theorem dX5_ride_63 : decode cX5_ride 63 = .ok (.iload_n 2, 1) := by decide +kernel
theorem dX5_ride_64 : decode cX5_ride 64 = .ok (.iload_n 3, 1) := by decide +kernel
theorem dX5_ride_65 : decode cX5_ride 65 = .ok (.iload 4, 2) := by decide +kernel
theorem dX5_ride_67 : decode cX5_ride 67 = .ok (.ifCond .ne 7, 3) := by decide +kernel
theorem dX5_ride_70 : decode cX5_ride 70 = .ok (.iconst (-1), 1) := by decide +kernel
theorem dX5_ride_71 : decode cX5_ride 71 = .ok (.goto 5, 3) := by decide +kernel
theorem dX5_ride_74 : decode cX5_ride 74 = .ok (.iload 5, 2) := by decide +kernel
theorem dX5_ride_76 : decode cX5_ride 76 = .ok (.invokevirtual 164, 3) := by decide +kernel
theorem dX5_ride_79 : decode cX5_ride 79 = .ok (.ireturn, 1) := by decide +kernel
set_option maxRecDepth 20000 in
theorem ggX5_walk_X1_hasFloor : GoodIn wsX5_walk wsX1_hasFloor := goodIn_r _ [12, 13, 83, 84, 85, 86, 87, 88, 89, 90, 91, 92, 93, 94, 95, 96] (by decide +kernel) (by decide +kernel)
set_option maxRecDepth 20000 in
theorem gX5_walk_X1_hasFloor : GoodIn wsX5_walk (wsV RX5 145 RX1 yX1_hasFloor wsX1_hasFloor) := goodIn_app (goodIn_of _ (by decide +kernel)) ggX5_walk_X1_hasFloor
set_option maxRecDepth 20000 in
theorem ggX5_walk_X5_isMinute : GoodIn wsX5_walk wsX5_isMinute := goodIn_r _ [17, 18, 19, 16, 20] (by decide +kernel) (by decide +kernel)
set_option maxRecDepth 20000 in
theorem gX5_walk_X5_isMinute : GoodIn wsX5_walk (va_wsS RX5 142 yX5_isMinute wsX5_isMinute) := goodIn_app (goodIn_of _ (by decide +kernel)) ggX5_walk_X5_isMinute
set_option maxRecDepth 20000 in
theorem ggX5_walk_X5_isWithin : GoodIn wsX5_walk wsX5_isWithin := goodIn_r _ [20] (by decide +kernel) (by decide +kernel)
set_option maxRecDepth 20000 in
theorem gX5_walk_X5_isWithin : GoodIn wsX5_walk (va_wsS RX5 54 yX5_isWithin wsX5_isWithin) := goodIn_app (goodIn_of _ (by decide +kernel)) ggX5_walk_X5_isWithin
set_option maxRecDepth 20000 in
theorem ggX5_walk_X5_refuse : GoodIn wsX5_walk wsX5_refuse := goodIn_r _ [24, 25, 18, 19, 16, 20, 75, 76, 77, 78, 79, 80, 81, 82] (by decide +kernel) (by decide +kernel)
set_option maxRecDepth 20000 in
theorem gX5_walk_X5_refuse : GoodIn wsX5_walk (wsV RX5 58 RX5 yX5_refuse wsX5_refuse) := goodIn_app (goodIn_of _ (by decide +kernel)) ggX5_walk_X5_refuse
set_option maxRecDepth 20000 in
theorem ggX5_walk_X4_rideTime : GoodIn wsX5_walk wsX4_rideTime := goodIn_r _ [30, 31, 32, 33, 29, 34, 35, 36, 37, 38, 39, 40, 41, 42, 43, 44, 45, 46, 47, 48, 49, 50, 51, 52, 53, 54, 55, 56, 57, 58, 4, 59, 60, 61, 62, 63, 64, 65, 66, 67, 68, 69, 70, 71, 72, 73, 74, 97, 83, 84, 85, 86, 87, 88, 89, 90, 91, 92, 93, 94, 95, 96] (by decide +kernel) (by decide +kernel)
set_option maxRecDepth 20000 in
theorem gX5_walk_X4_rideTime : GoodIn wsX5_walk (wsV RX5 164 RX4 yX4_rideTime wsX4_rideTime) := goodIn_app (goodIn_of _ (by decide +kernel)) ggX5_walk_X4_rideTime
theorem dX5_walk_0 : decode cX5_walk 0 = .ok (.aload_n 0, 1) := by decide +kernel
theorem dX5_walk_1 : decode cX5_walk 1 = .ok (.getfield 10, 3) := by decide +kernel
theorem dX5_walk_4 : decode cX5_walk 4 = .ok (.iload_n 1, 1) := by decide +kernel
theorem dX5_walk_5 : decode cX5_walk 5 = .ok (.invokevirtual 145, 3) := by decide +kernel
theorem dX5_walk_8 : decode cX5_walk 8 = .ok (.ifCond .eq 31, 3) := by decide +kernel
theorem dX5_walk_11 : decode cX5_walk 11 = .ok (.aload_n 0, 1) := by decide +kernel
theorem dX5_walk_12 : decode cX5_walk 12 = .ok (.getfield 10, 3) := by decide +kernel
theorem dX5_walk_15 : decode cX5_walk 15 = .ok (.iload_n 2, 1) := by decide +kernel
theorem dX5_walk_16 : decode cX5_walk 16 = .ok (.invokevirtual 145, 3) := by decide +kernel
theorem dX5_walk_19 : decode cX5_walk 19 = .ok (.ifCond .eq 20, 3) := by decide +kernel
theorem dX5_walk_22 : decode cX5_walk 22 = .ok (.iload_n 3, 1) := by decide +kernel
theorem dX5_walk_23 : decode cX5_walk 23 = .ok (.invokestatic 142, 3) := by decide +kernel
theorem dX5_walk_26 : decode cX5_walk 26 = .ok (.ifCond .eq 13, 3) := by decide +kernel
theorem dX5_walk_29 : decode cX5_walk 29 = .ok (.iload 4, 2) := by decide +kernel
theorem dX5_walk_31 : decode cX5_walk 31 = .ok (.iconst 0, 1) := by decide +kernel
theorem dX5_walk_32 : decode cX5_walk 32 = .ok (.iconst 1, 1) := by decide +kernel
theorem dX5_walk_33 : decode cX5_walk 33 = .ok (.invokestatic 54, 3) := by decide +kernel
theorem dX5_walk_36 : decode cX5_walk 36 = .ok (.ifCond .ne 10, 3) := by decide +kernel
theorem dX5_walk_39 : decode cX5_walk 39 = .ok (.aload_n 0, 1) := by decide +kernel
theorem dX5_walk_40 : decode cX5_walk 40 = .ok (.bipush (-2), 2) := by decide +kernel
theorem dX5_walk_42 : decode cX5_walk 42 = .ok (.invokevirtual 58, 3) := by decide +kernel
theorem dX5_walk_45 : decode cX5_walk 45 = .ok (.ireturn, 1) := by decide +kernel
theorem dX5_walk_46 : decode cX5_walk 46 = .ok (.iload_n 2, 1) := by decide +kernel
theorem dX5_walk_47 : decode cX5_walk 47 = .ok (.istore 5, 2) := by decide +kernel
theorem dX5_walk_49 : decode cX5_walk 49 = .ok (.iconst 2, 1) := by decide +kernel
theorem dX5_walk_50 : decode cX5_walk 50 = .ok (.iload_n 2, 1) := by decide +kernel
theorem dX5_walk_51 : decode cX5_walk 51 = .ok (.iload_n 1, 1) := by decide +kernel
theorem dX5_walk_52 : decode cX5_walk 52 = .ok (.isub, 1) := by decide +kernel
theorem dX5_walk_53 : decode cX5_walk 53 = .ok (.invokestatic 168, 3) := by decide +kernel
theorem dX5_walk_56 : decode cX5_walk 56 = .ok (.imul, 1) := by decide +kernel
theorem dX5_walk_57 : decode cX5_walk 57 = .ok (.istore 6, 2) := by decide +kernel
theorem dX5_walk_59 : decode cX5_walk 59 = .ok (.iload 6, 2) := by decide +kernel
theorem dX5_walk_61 : decode cX5_walk 61 = .ok (.istore 7, 2) := by decide +kernel
theorem dX5_walk_63 : decode cX5_walk 63 = .ok (.iconst 0, 1) := by decide +kernel
theorem dX5_walk_64 : decode cX5_walk 64 = .ok (.istore 8, 2) := by decide +kernel
theorem dX5_walk_66 : decode cX5_walk 66 = .ok (.iload 8, 2) := by decide +kernel
theorem dX5_walk_68 : decode cX5_walk 68 = .ok (.aload_n 0, 1) := by decide +kernel
theorem dX5_walk_69 : decode cX5_walk 69 = .ok (.getfield 10, 3) := by decide +kernel
theorem dX5_walk_72 : decode cX5_walk 72 = .ok (.getfield 130, 3) := by decide +kernel
theorem dX5_walk_75 : decode cX5_walk 75 = .ok (.if_icmp .gt 95, 3) := by decide +kernel
theorem dX5_walk_78 : decode cX5_walk 78 = .ok (.iconst 2, 1) := by decide +kernel
theorem dX5_walk_79 : decode cX5_walk 79 = .ok (.iload 8, 2) := by decide +kernel
theorem dX5_walk_81 : decode cX5_walk 81 = .ok (.iload_n 1, 1) := by decide +kernel
theorem dX5_walk_82 : decode cX5_walk 82 = .ok (.isub, 1) := by decide +kernel
theorem dX5_walk_83 : decode cX5_walk 83 = .ok (.invokestatic 168, 3) := by decide +kernel
theorem dX5_walk_86 : decode cX5_walk 86 = .ok (.imul, 1) := by decide +kernel
theorem dX5_walk_87 : decode cX5_walk 87 = .ok (.istore 9, 2) := by decide +kernel
theorem dX5_walk_89 : decode cX5_walk 89 = .ok (.aload_n 0, 1) := by decide +kernel
theorem dX5_walk_90 : decode cX5_walk 90 = .ok (.getfield 32, 3) := by decide +kernel
theorem dX5_walk_93 : decode cX5_walk 93 = .ok (.iload 8, 2) := by decide +kernel
theorem dX5_walk_95 : decode cX5_walk 95 = .ok (.iload_n 2, 1) := by decide +kernel
theorem dX5_walk_96 : decode cX5_walk 96 = .ok (.iload_n 3, 1) := by decide +kernel
theorem dX5_walk_97 : decode cX5_walk 97 = .ok (.iload 9, 2) := by decide +kernel
theorem dX5_walk_99 : decode cX5_walk 99 = .ok (.iadd, 1) := by decide +kernel
theorem dX5_walk_100 : decode cX5_walk 100 = .ok (.iconst (-1), 1) := by decide +kernel
theorem dX5_walk_101 : decode cX5_walk 101 = .ok (.invokevirtual 164, 3) := by decide +kernel
theorem dX5_walk_104 : decode cX5_walk 104 = .ok (.istore 10, 2) := by decide +kernel
theorem dX5_walk_106 : decode cX5_walk 106 = .ok (.iload 9, 2) := by decide +kernel
theorem dX5_walk_108 : decode cX5_walk 108 = .ok (.iload 10, 2) := by decide +kernel
theorem dX5_walk_110 : decode cX5_walk 110 = .ok (.iadd, 1) := by decide +kernel
theorem dX5_walk_111 : decode cX5_walk 111 = .ok (.istore 11, 2) := by decide +kernel
theorem dX5_walk_113 : decode cX5_walk 113 = .ok (.iload 11, 2) := by decide +kernel
theorem dX5_walk_115 : decode cX5_walk 115 = .ok (.iload 7, 2) := by decide +kernel
theorem dX5_walk_117 : decode cX5_walk 117 = .ok (.if_icmp .lt 17, 3) := by decide +kernel
theorem dX5_walk_120 : decode cX5_walk 120 = .ok (.iload 11, 2) := by decide +kernel
theorem dX5_walk_122 : decode cX5_walk 122 = .ok (.iload 7, 2) := by decide +kernel
theorem dX5_walk_124 : decode cX5_walk 124 = .ok (.if_icmp .ne 14, 3) := by decide +kernel
theorem dX5_walk_127 : decode cX5_walk 127 = .ok (.iload 9, 2) := by decide +kernel
theorem dX5_walk_129 : decode cX5_walk 129 = .ok (.iload 6, 2) := by decide +kernel
theorem dX5_walk_131 : decode cX5_walk 131 = .ok (.if_icmp .ge 7, 3) := by decide +kernel
theorem dX5_walk_134 : decode cX5_walk 134 = .ok (.iconst 1, 1) := by decide +kernel
theorem dX5_walk_135 : decode cX5_walk 135 = .ok (.goto 4, 3) := by decide +kernel
theorem dX5_walk_138 : decode cX5_walk 138 = .ok (.iconst 0, 1) := by decide +kernel
theorem dX5_walk_139 : decode cX5_walk 139 = .ok (.istore 12, 2) := by decide +kernel
theorem dX5_walk_141 : decode cX5_walk 141 = .ok (.iload 10, 2) := by decide +kernel
theorem dX5_walk_143 : decode cX5_walk 143 = .ok (.iconst (-1), 1) := by decide +kernel
theorem dX5_walk_144 : decode cX5_walk 144 = .ok (.if_icmp .eq 20, 3) := by decide +kernel
theorem dX5_walk_147 : decode cX5_walk 147 = .ok (.iload 12, 2) := by decide +kernel
theorem dX5_walk_149 : decode cX5_walk 149 = .ok (.ifCond .eq 15, 3) := by decide +kernel
theorem dX5_walk_152 : decode cX5_walk 152 = .ok (.iload 8, 2) := by decide +kernel
theorem dX5_walk_154 : decode cX5_walk 154 = .ok (.istore 5, 2) := by decide +kernel
theorem dX5_walk_156 : decode cX5_walk 156 = .ok (.iload 9, 2) := by decide +kernel
theorem dX5_walk_158 : decode cX5_walk 158 = .ok (.istore 6, 2) := by decide +kernel
theorem dX5_walk_160 : decode cX5_walk 160 = .ok (.iload 11, 2) := by decide +kernel
theorem dX5_walk_162 : decode cX5_walk 162 = .ok (.istore 7, 2) := by decide +kernel
theorem dX5_walk_164 : decode cX5_walk 164 = .ok (.iinc 8 1, 3) := by decide +kernel
theorem dX5_walk_167 : decode cX5_walk 167 = .ok (.goto (-101), 3) := by decide +kernel
theorem dX5_walk_170 : decode cX5_walk 170 = .ok (.iload 4, 2) := by decide +kernel
theorem dX5_walk_172 : decode cX5_walk 172 = .ok (.ifCond .ne 8, 3) := by decide +kernel
theorem dX5_walk_175 : decode cX5_walk 175 = .ok (.iload 5, 2) := by decide +kernel
theorem dX5_walk_177 : decode cX5_walk 177 = .ok (.goto 5, 3) := by decide +kernel
theorem dX5_walk_180 : decode cX5_walk 180 = .ok (.iload 7, 2) := by decide +kernel
theorem dX5_walk_182 : decode cX5_walk 182 = .ok (.ireturn, 1) := by decide +kernel
set_option maxRecDepth 20000 in
theorem ggX5_lines_X1_turnsOfLine0 : GoodIn wsX5_lines wsX1_turnsOfLine0 := goodIn_r _ [8, 9, 10, 11, 12, 7, 13, 32, 33, 34, 35, 36, 37, 38, 39, 40, 41, 42, 43, 44, 45] (by decide +kernel) (by decide +kernel)
set_option maxRecDepth 20000 in
theorem gX5_lines_X1_turnsOfLine0 : GoodIn wsX5_lines (wsV RX5 171 RX1 yX1_turnsOfLine0 wsX1_turnsOfLine0) := goodIn_app (goodIn_of _ (by decide +kernel)) ggX5_lines_X1_turnsOfLine0
set_option maxRecDepth 20000 in
theorem ggX5_lines_X0_set : GoodIn wsX5_lines wsX0_set := goodIn_r _ [18, 19, 20, 21, 22, 17, 23, 46, 47] (by decide +kernel) (by decide +kernel)
set_option maxRecDepth 20000 in
theorem gX5_lines_X0_set : GoodIn wsX5_lines (wsV RX5 176 RX0 yX0_set wsX0_set) := goodIn_app (goodIn_of _ (by decide +kernel)) ggX5_lines_X0_set
theorem dX5_lines_0 : decode cX5_lines 0 = .ok (.aload_n 0, 1) := by decide +kernel
theorem dX5_lines_1 : decode cX5_lines 1 = .ok (.getfield 46, 3) := by decide +kernel
theorem dX5_lines_4 : decode cX5_lines 4 = .ok (.aload_n 0, 1) := by decide +kernel
theorem dX5_lines_5 : decode cX5_lines 5 = .ok (.getfield 10, 3) := by decide +kernel
theorem dX5_lines_8 : decode cX5_lines 8 = .ok (.iconst 0, 1) := by decide +kernel
theorem dX5_lines_9 : decode cX5_lines 9 = .ok (.invokevirtual 171, 3) := by decide +kernel
theorem dX5_lines_12 : decode cX5_lines 12 = .ok (.i2l, 1) := by decide +kernel
theorem dX5_lines_13 : decode cX5_lines 13 = .ok (.ldc2_w 174, 3) := by decide +kernel
theorem dX5_lines_16 : decode cX5_lines 16 = .ok (.invokevirtual 176, 3) := by decide +kernel
theorem dX5_lines_19 : decode cX5_lines 19 = .ok (.iconst 1, 1) := by decide +kernel
theorem dX5_lines_20 : decode cX5_lines 20 = .ok (.ireturn, 1) := by decide +kernel
set_option maxRecDepth 20000 in
theorem ggX5_even_X1_turnsOfLine0 : GoodIn wsX5_even wsX1_turnsOfLine0 := goodIn_r _ [10, 11, 12, 13, 14, 9, 15, 24, 25, 26, 27, 28, 29, 30, 31, 32, 33, 34, 35, 36, 37] (by decide +kernel) (by decide +kernel)
set_option maxRecDepth 20000 in
theorem gX5_even_X1_turnsOfLine0 : GoodIn wsX5_even (wsV RX5 171 RX1 yX1_turnsOfLine0 wsX1_turnsOfLine0) := goodIn_app (goodIn_of _ (by decide +kernel)) ggX5_even_X1_turnsOfLine0
theorem dX5_even_0 : decode cX5_even 0 = .ok (.iconst 0, 1) := by decide +kernel
theorem dX5_even_1 : decode cX5_even 1 = .ok (.istore_n 1, 1) := by decide +kernel
theorem dX5_even_2 : decode cX5_even 2 = .ok (.bipush 61, 2) := by decide +kernel
theorem dX5_even_4 : decode cX5_even 4 = .ok (.istore_n 2, 1) := by decide +kernel
theorem dX5_even_5 : decode cX5_even 5 = .ok (.iconst 0, 1) := by decide +kernel
theorem dX5_even_6 : decode cX5_even 6 = .ok (.istore_n 3, 1) := by decide +kernel
theorem dX5_even_7 : decode cX5_even 7 = .ok (.iload_n 3, 1) := by decide +kernel
theorem dX5_even_8 : decode cX5_even 8 = .ok (.bipush 29, 2) := by decide +kernel
theorem dX5_even_10 : decode cX5_even 10 = .ok (.if_icmp .gt 38, 3) := by decide +kernel
theorem dX5_even_13 : decode cX5_even 13 = .ok (.iconst 2, 1) := by decide +kernel
theorem dX5_even_14 : decode cX5_even 14 = .ok (.aload_n 0, 1) := by decide +kernel
theorem dX5_even_15 : decode cX5_even 15 = .ok (.getfield 10, 3) := by decide +kernel
theorem dX5_even_18 : decode cX5_even 18 = .ok (.iload_n 3, 1) := by decide +kernel
theorem dX5_even_19 : decode cX5_even 19 = .ok (.invokevirtual 171, 3) := by decide +kernel
theorem dX5_even_22 : decode cX5_even 22 = .ok (.imul, 1) := by decide +kernel
theorem dX5_even_23 : decode cX5_even 23 = .ok (.bipush 60, 2) := by decide +kernel
theorem dX5_even_25 : decode cX5_even 25 = .ok (.isub, 1) := by decide +kernel
theorem dX5_even_26 : decode cX5_even 26 = .ok (.invokestatic 168, 3) := by decide +kernel
theorem dX5_even_29 : decode cX5_even 29 = .ok (.istore 4, 2) := by decide +kernel
theorem dX5_even_31 : decode cX5_even 31 = .ok (.iload 4, 2) := by decide +kernel
theorem dX5_even_33 : decode cX5_even 33 = .ok (.iload_n 2, 1) := by decide +kernel
theorem dX5_even_34 : decode cX5_even 34 = .ok (.if_icmp .ge 8, 3) := by decide +kernel
theorem dX5_even_37 : decode cX5_even 37 = .ok (.iload_n 3, 1) := by decide +kernel
theorem dX5_even_38 : decode cX5_even 38 = .ok (.istore_n 1, 1) := by decide +kernel
theorem dX5_even_39 : decode cX5_even 39 = .ok (.iload 4, 2) := by decide +kernel
theorem dX5_even_41 : decode cX5_even 41 = .ok (.istore_n 2, 1) := by decide +kernel
theorem dX5_even_42 : decode cX5_even 42 = .ok (.iinc 3 1, 3) := by decide +kernel
theorem dX5_even_45 : decode cX5_even 45 = .ok (.goto (-38), 3) := by decide +kernel
theorem dX5_even_48 : decode cX5_even 48 = .ok (.iload_n 1, 1) := by decide +kernel
theorem dX5_even_49 : decode cX5_even 49 = .ok (.ireturn, 1) := by decide +kernel
set_option maxRecDepth 20000 in
theorem ggX5_note_X1_hasLift : GoodIn wsX5_note wsX1_hasLift := goodIn_r _ [7, 8, 40, 41, 42, 43, 44, 45, 46, 47, 48, 49, 50, 51, 52, 53] (by decide +kernel) (by decide +kernel)
set_option maxRecDepth 20000 in
theorem gX5_note_X1_hasLift : GoodIn wsX5_note (wsV RX5 117 RX1 yX1_hasLift wsX1_hasLift) := goodIn_app (goodIn_of _ (by decide +kernel)) ggX5_note_X1_hasLift
set_option maxRecDepth 20000 in
theorem ggX5_note_X1_hasFloor : GoodIn wsX5_note wsX1_hasFloor := goodIn_r _ [12, 13, 40, 41, 42, 43, 44, 45, 46, 47, 48, 49, 50, 51, 52, 53] (by decide +kernel) (by decide +kernel)
set_option maxRecDepth 20000 in
theorem gX5_note_X1_hasFloor : GoodIn wsX5_note (wsV RX5 145 RX1 yX1_hasFloor wsX1_hasFloor) := goodIn_app (goodIn_of _ (by decide +kernel)) ggX5_note_X1_hasFloor
set_option maxRecDepth 20000 in
theorem ggX5_note_X5_isWithin : GoodIn wsX5_note wsX5_isWithin := goodIn_r _ [17] (by decide +kernel) (by decide +kernel)
set_option maxRecDepth 20000 in
theorem gX5_note_X5_isWithin : GoodIn wsX5_note (va_wsS RX5 54 yX5_isWithin wsX5_isWithin) := goodIn_app (goodIn_of _ (by decide +kernel)) ggX5_note_X5_isWithin
set_option maxRecDepth 20000 in
theorem ggX5_note_X5_refuse : GoodIn wsX5_note wsX5_refuse := goodIn_r _ [21, 22, 14, 15, 16, 17, 32, 33, 34, 35, 36, 37, 38, 39] (by decide +kernel) (by decide +kernel)
set_option maxRecDepth 20000 in
theorem gX5_note_X5_refuse : GoodIn wsX5_note (wsV RX5 58 RX5 yX5_refuse wsX5_refuse) := goodIn_app (goodIn_of _ (by decide +kernel)) ggX5_note_X5_refuse
set_option maxRecDepth 20000 in
theorem ggX5_note_X1_addNoted : GoodIn wsX5_note wsX1_addNoted := goodIn_r _ [26, 27, 28, 29, 30, 31, 40, 41, 42, 43, 44, 45, 46, 47, 48, 49, 50, 51, 52, 53] (by decide +kernel) (by decide +kernel)
set_option maxRecDepth 20000 in
theorem gX5_note_X1_addNoted : GoodIn wsX5_note (wsV RX5 183 RX1 yX1_addNoted wsX1_addNoted) := goodIn_app (goodIn_of _ (by decide +kernel)) ggX5_note_X1_addNoted
theorem dX5_note_0 : decode cX5_note 0 = .ok (.aload_n 0, 1) := by decide +kernel
theorem dX5_note_1 : decode cX5_note 1 = .ok (.getfield 10, 3) := by decide +kernel
theorem dX5_note_4 : decode cX5_note 4 = .ok (.iload_n 1, 1) := by decide +kernel
theorem dX5_note_5 : decode cX5_note 5 = .ok (.invokevirtual 117, 3) := by decide +kernel
theorem dX5_note_8 : decode cX5_note 8 = .ok (.ifCond .eq 34, 3) := by decide +kernel
theorem dX5_note_11 : decode cX5_note 11 = .ok (.aload_n 0, 1) := by decide +kernel
theorem dX5_note_12 : decode cX5_note 12 = .ok (.getfield 10, 3) := by decide +kernel
theorem dX5_note_15 : decode cX5_note 15 = .ok (.iload_n 2, 1) := by decide +kernel
theorem dX5_note_16 : decode cX5_note 16 = .ok (.invokevirtual 145, 3) := by decide +kernel
theorem dX5_note_19 : decode cX5_note 19 = .ok (.ifCond .eq 23, 3) := by decide +kernel
theorem dX5_note_22 : decode cX5_note 22 = .ok (.iload_n 3, 1) := by decide +kernel
theorem dX5_note_23 : decode cX5_note 23 = .ok (.iconst 0, 1) := by decide +kernel
theorem dX5_note_24 : decode cX5_note 24 = .ok (.bipush 99, 2) := by decide +kernel
theorem dX5_note_26 : decode cX5_note 26 = .ok (.invokestatic 54, 3) := by decide +kernel
theorem dX5_note_29 : decode cX5_note 29 = .ok (.ifCond .eq 13, 3) := by decide +kernel
theorem dX5_note_32 : decode cX5_note 32 = .ok (.iload 4, 2) := by decide +kernel
theorem dX5_note_34 : decode cX5_note 34 = .ok (.iconst 0, 1) := by decide +kernel
theorem dX5_note_35 : decode cX5_note 35 = .ok (.iconst 1, 1) := by decide +kernel
theorem dX5_note_36 : decode cX5_note 36 = .ok (.invokestatic 54, 3) := by decide +kernel
theorem dX5_note_39 : decode cX5_note 39 = .ok (.ifCond .ne 10, 3) := by decide +kernel
theorem dX5_note_42 : decode cX5_note 42 = .ok (.aload_n 0, 1) := by decide +kernel
theorem dX5_note_43 : decode cX5_note 43 = .ok (.bipush (-2), 2) := by decide +kernel
theorem dX5_note_45 : decode cX5_note 45 = .ok (.invokevirtual 58, 3) := by decide +kernel
theorem dX5_note_48 : decode cX5_note 48 = .ok (.ireturn, 1) := by decide +kernel
theorem dX5_note_49 : decode cX5_note 49 = .ok (.aload_n 0, 1) := by decide +kernel
theorem dX5_note_50 : decode cX5_note 50 = .ok (.getfield 10, 3) := by decide +kernel
theorem dX5_note_53 : decode cX5_note 53 = .ok (.getfield 180, 3) := by decide +kernel
theorem dX5_note_56 : decode cX5_note 56 = .ok (.bipush 6, 2) := by decide +kernel
theorem dX5_note_58 : decode cX5_note 58 = .ok (.if_icmp .lt 10, 3) := by decide +kernel
theorem dX5_note_61 : decode cX5_note 61 = .ok (.aload_n 0, 1) := by decide +kernel
theorem dX5_note_62 : decode cX5_note 62 = .ok (.bipush (-4), 2) := by decide +kernel
theorem dX5_note_64 : decode cX5_note 64 = .ok (.invokevirtual 58, 3) := by decide +kernel
theorem dX5_note_67 : decode cX5_note 67 = .ok (.ireturn, 1) := by decide +kernel
theorem dX5_note_68 : decode cX5_note 68 = .ok (.aload_n 0, 1) := by decide +kernel
theorem dX5_note_69 : decode cX5_note 69 = .ok (.getfield 10, 3) := by decide +kernel
theorem dX5_note_72 : decode cX5_note 72 = .ok (.iload_n 1, 1) := by decide +kernel
theorem dX5_note_73 : decode cX5_note 73 = .ok (.iload_n 2, 1) := by decide +kernel
theorem dX5_note_74 : decode cX5_note 74 = .ok (.iload_n 3, 1) := by decide +kernel
theorem dX5_note_75 : decode cX5_note 75 = .ok (.iload 4, 2) := by decide +kernel
theorem dX5_note_77 : decode cX5_note 77 = .ok (.invokevirtual 183, 3) := by decide +kernel
theorem dX5_note_80 : decode cX5_note 80 = .ok (.aload_n 0, 1) := by decide +kernel
theorem dX5_note_81 : decode cX5_note 81 = .ok (.getfield 10, 3) := by decide +kernel
theorem dX5_note_84 : decode cX5_note 84 = .ok (.getfield 180, 3) := by decide +kernel
theorem dX5_note_87 : decode cX5_note 87 = .ok (.ireturn, 1) := by decide +kernel
theorem dX5_forget_0 : decode cX5_forget 0 = .ok (.aload_n 0, 1) := by decide +kernel
theorem dX5_forget_1 : decode cX5_forget 1 = .ok (.getfield 10, 3) := by decide +kernel
theorem dX5_forget_4 : decode cX5_forget 4 = .ok (.getfield 180, 3) := by decide +kernel
theorem dX5_forget_7 : decode cX5_forget 7 = .ok (.istore_n 1, 1) := by decide +kernel
theorem dX5_forget_8 : decode cX5_forget 8 = .ok (.aload_n 0, 1) := by decide +kernel
theorem dX5_forget_9 : decode cX5_forget 9 = .ok (.getfield 10, 3) := by decide +kernel
theorem dX5_forget_12 : decode cX5_forget 12 = .ok (.iconst 0, 1) := by decide +kernel
theorem dX5_forget_13 : decode cX5_forget 13 = .ok (.putfield 180, 3) := by decide +kernel
theorem dX5_forget_16 : decode cX5_forget 16 = .ok (.iload_n 1, 1) := by decide +kernel
theorem dX5_forget_17 : decode cX5_forget 17 = .ok (.ireturn, 1) := by decide +kernel
set_option maxRecDepth 20000 in
theorem ggX5_is_X1_hasLift : GoodIn wsX5_is wsX1_hasLift := goodIn_r _ [7, 8, 65, 66, 67, 68, 69, 70, 71, 72, 73, 74, 75, 76, 77, 78] (by decide +kernel) (by decide +kernel)
set_option maxRecDepth 20000 in
theorem gX5_is_X1_hasLift : GoodIn wsX5_is (wsV RX5 117 RX1 yX1_hasLift wsX1_hasLift) := goodIn_app (goodIn_of _ (by decide +kernel)) ggX5_is_X1_hasLift
set_option maxRecDepth 20000 in
theorem ggX5_is_X5_isWithin : GoodIn wsX5_is wsX5_isWithin := goodIn_r _ [12] (by decide +kernel) (by decide +kernel)
set_option maxRecDepth 20000 in
theorem gX5_is_X5_isWithin : GoodIn wsX5_is (va_wsS RX5 54 yX5_isWithin wsX5_isWithin) := goodIn_app (goodIn_of _ (by decide +kernel)) ggX5_is_X5_isWithin
set_option maxRecDepth 20000 in
theorem ggX5_is_X5_refuse : GoodIn wsX5_is wsX5_refuse := goodIn_r _ [16, 17, 9, 10, 11, 12, 57, 58, 59, 60, 61, 62, 63, 64] (by decide +kernel) (by decide +kernel)
set_option maxRecDepth 20000 in
theorem gX5_is_X5_refuse : GoodIn wsX5_is (wsV RX5 58 RX5 yX5_refuse wsX5_refuse) := goodIn_app (goodIn_of _ (by decide +kernel)) ggX5_is_X5_refuse
set_option maxRecDepth 20000 in
theorem ggX5_is_X4_fittingKinds : GoodIn wsX5_is wsX4_fittingKinds := goodIn_r _ [22, 23, 24, 25, 26, 27, 21, 28, 29, 30, 31, 32, 33, 34, 35, 36, 37, 38, 39, 40, 41, 42, 43, 44, 45, 46, 47, 48, 49, 50, 51, 79, 65, 66, 67, 68, 69, 70, 71, 72, 73, 74, 75, 76, 77, 78] (by decide +kernel) (by decide +kernel)
set_option maxRecDepth 20000 in
theorem gX5_is_X4_fittingKinds : GoodIn wsX5_is (wsV RX5 187 RX4 yX4_fittingKinds wsX4_fittingKinds) := goodIn_app (goodIn_of _ (by decide +kernel)) ggX5_is_X4_fittingKinds
set_option maxRecDepth 20000 in
theorem ggX5_is_X4_fittingStarts : GoodIn wsX5_is wsX4_fittingStarts := goodIn_r _ [55, 23, 56, 25, 26, 27, 21, 28, 29, 30, 31, 32, 33, 34, 35, 36, 37, 38, 39, 40, 41, 42, 43, 44, 45, 46, 47, 48, 49, 50, 51, 79, 65, 66, 67, 68, 69, 70, 71, 72, 73, 74, 75, 76, 77, 78] (by decide +kernel) (by decide +kernel)
set_option maxRecDepth 20000 in
theorem gX5_is_X4_fittingStarts : GoodIn wsX5_is (wsV RX5 190 RX4 yX4_fittingStarts wsX4_fittingStarts) := goodIn_app (goodIn_of _ (by decide +kernel)) ggX5_is_X4_fittingStarts
theorem dX5_is_0 : decode cX5_is 0 = .ok (.aload_n 0, 1) := by decide +kernel
theorem dX5_is_1 : decode cX5_is 1 = .ok (.getfield 10, 3) := by decide +kernel
theorem dX5_is_4 : decode cX5_is 4 = .ok (.iload_n 1, 1) := by decide +kernel
theorem dX5_is_5 : decode cX5_is 5 = .ok (.invokevirtual 117, 3) := by decide +kernel
theorem dX5_is_8 : decode cX5_is 8 = .ok (.ifCond .eq 12, 3) := by decide +kernel
theorem dX5_is_11 : decode cX5_is 11 = .ok (.iload_n 2, 1) := by decide +kernel
theorem dX5_is_12 : decode cX5_is 12 = .ok (.iconst 0, 1) := by decide +kernel
theorem dX5_is_13 : decode cX5_is 13 = .ok (.iconst 1, 1) := by decide +kernel
theorem dX5_is_14 : decode cX5_is 14 = .ok (.invokestatic 54, 3) := by decide +kernel
theorem dX5_is_17 : decode cX5_is 17 = .ok (.ifCond .ne 10, 3) := by decide +kernel
theorem dX5_is_20 : decode cX5_is 20 = .ok (.aload_n 0, 1) := by decide +kernel
theorem dX5_is_21 : decode cX5_is 21 = .ok (.bipush (-2), 2) := by decide +kernel
theorem dX5_is_23 : decode cX5_is 23 = .ok (.invokevirtual 58, 3) := by decide +kernel
theorem dX5_is_26 : decode cX5_is 26 = .ok (.ireturn, 1) := by decide +kernel
theorem dX5_is_27 : decode cX5_is 27 = .ok (.iload_n 2, 1) := by decide +kernel
theorem dX5_is_28 : decode cX5_is 28 = .ok (.ifCond .ne 14, 3) := by decide +kernel
theorem dX5_is_31 : decode cX5_is 31 = .ok (.aload_n 0, 1) := by decide +kernel
theorem dX5_is_32 : decode cX5_is 32 = .ok (.getfield 32, 3) := by decide +kernel
theorem dX5_is_35 : decode cX5_is 35 = .ok (.iload_n 1, 1) := by decide +kernel
theorem dX5_is_36 : decode cX5_is 36 = .ok (.invokevirtual 187, 3) := by decide +kernel
theorem dX5_is_39 : decode cX5_is 39 = .ok (.goto 11, 3) := by decide +kernel
theorem dX5_is_42 : decode cX5_is 42 = .ok (.aload_n 0, 1) := by decide +kernel
theorem dX5_is_43 : decode cX5_is 43 = .ok (.getfield 32, 3) := by decide +kernel
theorem dX5_is_46 : decode cX5_is 46 = .ok (.iload_n 1, 1) := by decide +kernel
theorem dX5_is_47 : decode cX5_is 47 = .ok (.invokevirtual 190, 3) := by decide +kernel
theorem dX5_is_50 : decode cX5_is 50 = .ok (.ireturn, 1) := by decide +kernel
set_option maxRecDepth 20000 in
theorem ggX5_look_X1_hasLift : GoodIn wsX5_look wsX1_hasLift := goodIn_r _ [7, 8, 81, 82, 83, 84, 85, 86, 87, 88, 89, 90, 91, 92, 93, 94] (by decide +kernel) (by decide +kernel)
set_option maxRecDepth 20000 in
theorem gX5_look_X1_hasLift : GoodIn wsX5_look (wsV RX5 117 RX1 yX1_hasLift wsX1_hasLift) := goodIn_app (goodIn_of _ (by decide +kernel)) ggX5_look_X1_hasLift
set_option maxRecDepth 20000 in
theorem ggX5_look_X1_hasFloor : GoodIn wsX5_look wsX1_hasFloor := goodIn_r _ [12, 13, 81, 82, 83, 84, 85, 86, 87, 88, 89, 90, 91, 92, 93, 94] (by decide +kernel) (by decide +kernel)
set_option maxRecDepth 20000 in
theorem gX5_look_X1_hasFloor : GoodIn wsX5_look (wsV RX5 145 RX1 yX1_hasFloor wsX1_hasFloor) := goodIn_app (goodIn_of _ (by decide +kernel)) ggX5_look_X1_hasFloor
set_option maxRecDepth 20000 in
theorem ggX5_look_X5_refuse : GoodIn wsX5_look wsX5_refuse := goodIn_r _ [18, 19, 20, 21, 17, 22, 73, 74, 75, 76, 77, 78, 79, 80] (by decide +kernel) (by decide +kernel)
set_option maxRecDepth 20000 in
theorem gX5_look_X5_refuse : GoodIn wsX5_look (wsV RX5 58 RX5 yX5_refuse wsX5_refuse) := goodIn_app (goodIn_of _ (by decide +kernel)) ggX5_look_X5_refuse
set_option maxRecDepth 20000 in
theorem ggX5_look_X4_tellingMinute : GoodIn wsX5_look wsX4_tellingMinute := goodIn_r _ [27, 28, 29, 30, 31, 32, 33, 34, 35, 36, 26, 37, 38, 39, 40, 41, 42, 43, 44, 45, 46, 47, 48, 49, 50, 51, 52, 53, 54, 55, 56, 57, 58, 59, 60, 61, 62, 63, 64, 65, 66, 67, 68, 69, 70, 71, 72, 95, 81, 82, 83, 84, 85, 86, 87, 88, 89, 90, 91, 92, 93, 94] (by decide +kernel) (by decide +kernel)
set_option maxRecDepth 20000 in
theorem gX5_look_X4_tellingMinute : GoodIn wsX5_look (wsV RX5 193 RX4 yX4_tellingMinute wsX4_tellingMinute) := goodIn_app (goodIn_of _ (by decide +kernel)) ggX5_look_X4_tellingMinute
theorem dX5_look_0 : decode cX5_look 0 = .ok (.aload_n 0, 1) := by decide +kernel
theorem dX5_look_1 : decode cX5_look 1 = .ok (.getfield 10, 3) := by decide +kernel
theorem dX5_look_4 : decode cX5_look 4 = .ok (.iload_n 1, 1) := by decide +kernel
theorem dX5_look_5 : decode cX5_look 5 = .ok (.invokevirtual 117, 3) := by decide +kernel
theorem dX5_look_8 : decode cX5_look 8 = .ok (.ifCond .eq 14, 3) := by decide +kernel
theorem dX5_look_11 : decode cX5_look 11 = .ok (.aload_n 0, 1) := by decide +kernel
theorem dX5_look_12 : decode cX5_look 12 = .ok (.getfield 10, 3) := by decide +kernel
theorem dX5_look_15 : decode cX5_look 15 = .ok (.iload_n 2, 1) := by decide +kernel
theorem dX5_look_16 : decode cX5_look 16 = .ok (.invokevirtual 145, 3) := by decide +kernel
theorem dX5_look_19 : decode cX5_look 19 = .ok (.ifCond .ne 10, 3) := by decide +kernel
theorem dX5_look_22 : decode cX5_look 22 = .ok (.aload_n 0, 1) := by decide +kernel
theorem dX5_look_23 : decode cX5_look 23 = .ok (.bipush (-2), 2) := by decide +kernel
theorem dX5_look_25 : decode cX5_look 25 = .ok (.invokevirtual 58, 3) := by decide +kernel
theorem dX5_look_28 : decode cX5_look 28 = .ok (.ireturn, 1) := by decide +kernel
theorem dX5_look_29 : decode cX5_look 29 = .ok (.aload_n 0, 1) := by decide +kernel
theorem dX5_look_30 : decode cX5_look 30 = .ok (.getfield 32, 3) := by decide +kernel
theorem dX5_look_33 : decode cX5_look 33 = .ok (.iload_n 1, 1) := by decide +kernel
theorem dX5_look_34 : decode cX5_look 34 = .ok (.iload_n 2, 1) := by decide +kernel
theorem dX5_look_35 : decode cX5_look 35 = .ok (.invokevirtual 193, 3) := by decide +kernel
theorem dX5_look_38 : decode cX5_look 38 = .ok (.ireturn, 1) := by decide +kernel
set_option maxRecDepth 20000 in
theorem ggX5_porters_X1_hasFloor : GoodIn wsX5_porters wsX1_hasFloor := goodIn_r _ [10, 11, 75, 76, 77, 78, 79, 80, 81, 82, 83, 84, 85, 86, 87, 88] (by decide +kernel) (by decide +kernel)
set_option maxRecDepth 20000 in
theorem gX5_porters_X1_hasFloor : GoodIn wsX5_porters (wsV RX5 145 RX1 yX1_hasFloor wsX1_hasFloor) := goodIn_app (goodIn_of _ (by decide +kernel)) ggX5_porters_X1_hasFloor
set_option maxRecDepth 20000 in
theorem ggX5_porters_X5_isMinute : GoodIn wsX5_porters wsX5_isMinute := goodIn_r _ [15, 16, 17, 14, 18] (by decide +kernel) (by decide +kernel)
set_option maxRecDepth 20000 in
theorem gX5_porters_X5_isMinute : GoodIn wsX5_porters (va_wsS RX5 142 yX5_isMinute wsX5_isMinute) := goodIn_app (goodIn_of _ (by decide +kernel)) ggX5_porters_X5_isMinute
set_option maxRecDepth 20000 in
theorem ggX5_porters_X5_isWithin : GoodIn wsX5_porters wsX5_isWithin := goodIn_r _ [18] (by decide +kernel) (by decide +kernel)
set_option maxRecDepth 20000 in
theorem gX5_porters_X5_isWithin : GoodIn wsX5_porters (va_wsS RX5 54 yX5_isWithin wsX5_isWithin) := goodIn_app (goodIn_of _ (by decide +kernel)) ggX5_porters_X5_isWithin
set_option maxRecDepth 20000 in
theorem ggX5_porters_X5_refuse : GoodIn wsX5_porters wsX5_refuse := goodIn_r _ [22, 23, 16, 17, 14, 18, 67, 68, 69, 70, 71, 72, 73, 74] (by decide +kernel) (by decide +kernel)
set_option maxRecDepth 20000 in
theorem gX5_porters_X5_refuse : GoodIn wsX5_porters (wsV RX5 58 RX5 yX5_refuse wsX5_refuse) := goodIn_app (goodIn_of _ (by decide +kernel)) ggX5_porters_X5_refuse
set_option maxRecDepth 20000 in
theorem ggX5_porters_X4_waitForLift : GoodIn wsX5_porters wsX4_waitForLift := goodIn_r _ [28, 29, 30, 31, 27, 32, 33, 34, 35, 36, 37, 38, 39, 40, 41, 42, 43, 44, 45, 46, 47, 48, 49, 50, 51, 52, 53, 54, 55, 56, 89, 75, 76, 77, 78, 79, 80, 81, 82, 83, 84, 85, 86, 87, 88] (by decide +kernel) (by decide +kernel)
set_option maxRecDepth 20000 in
theorem gX5_porters_X4_waitForLift : GoodIn wsX5_porters (wsV RX5 196 RX4 yX4_waitForLift wsX4_waitForLift) := goodIn_app (goodIn_of _ (by decide +kernel)) ggX5_porters_X4_waitForLift
set_option maxRecDepth 20000 in
theorem ggX5_porters_X0_set : GoodIn wsX5_porters wsX0_set := goodIn_r _ [61, 62, 63, 64, 65, 60, 66, 90, 91] (by decide +kernel) (by decide +kernel)
set_option maxRecDepth 20000 in
theorem gX5_porters_X0_set : GoodIn wsX5_porters (wsV RX5 176 RX0 yX0_set wsX0_set) := goodIn_app (goodIn_of _ (by decide +kernel)) ggX5_porters_X0_set
theorem dX5_porters_0 : decode cX5_porters 0 = .ok (.aload_n 0, 1) := by decide +kernel
theorem dX5_porters_1 : decode cX5_porters 1 = .ok (.getfield 10, 3) := by decide +kernel
theorem dX5_porters_4 : decode cX5_porters 4 = .ok (.iload_n 1, 1) := by decide +kernel
theorem dX5_porters_5 : decode cX5_porters 5 = .ok (.invokevirtual 145, 3) := by decide +kernel
theorem dX5_porters_8 : decode cX5_porters 8 = .ok (.ifCond .eq 32, 3) := by decide +kernel
theorem dX5_porters_11 : decode cX5_porters 11 = .ok (.iload_n 2, 1) := by decide +kernel
theorem dX5_porters_12 : decode cX5_porters 12 = .ok (.invokestatic 142, 3) := by decide +kernel
theorem dX5_porters_15 : decode cX5_porters 15 = .ok (.ifCond .eq 25, 3) := by decide +kernel
theorem dX5_porters_18 : decode cX5_porters 18 = .ok (.iload_n 3, 1) := by decide +kernel
theorem dX5_porters_19 : decode cX5_porters 19 = .ok (.iconst 0, 1) := by decide +kernel
theorem dX5_porters_20 : decode cX5_porters 20 = .ok (.sipush 200, 3) := by decide +kernel
theorem dX5_porters_23 : decode cX5_porters 23 = .ok (.invokestatic 54, 3) := by decide +kernel
theorem dX5_porters_26 : decode cX5_porters 26 = .ok (.ifCond .eq 14, 3) := by decide +kernel
theorem dX5_porters_29 : decode cX5_porters 29 = .ok (.iload 4, 2) := by decide +kernel
theorem dX5_porters_31 : decode cX5_porters 31 = .ok (.iconst 0, 1) := by decide +kernel
theorem dX5_porters_32 : decode cX5_porters 32 = .ok (.bipush 10, 2) := by decide +kernel
theorem dX5_porters_34 : decode cX5_porters 34 = .ok (.invokestatic 54, 3) := by decide +kernel
theorem dX5_porters_37 : decode cX5_porters 37 = .ok (.ifCond .ne 10, 3) := by decide +kernel
theorem dX5_porters_40 : decode cX5_porters 40 = .ok (.aload_n 0, 1) := by decide +kernel
theorem dX5_porters_41 : decode cX5_porters 41 = .ok (.bipush (-2), 2) := by decide +kernel
theorem dX5_porters_43 : decode cX5_porters 43 = .ok (.invokevirtual 58, 3) := by decide +kernel
theorem dX5_porters_46 : decode cX5_porters 46 = .ok (.ireturn, 1) := by decide +kernel
theorem dX5_porters_47 : decode cX5_porters 47 = .ok (.lconst 1, 1) := by decide +kernel
theorem dX5_porters_48 : decode cX5_porters 48 = .ok (.lstore 5, 2) := by decide +kernel
theorem dX5_porters_50 : decode cX5_porters 50 = .ok (.lconst 1, 1) := by decide +kernel
theorem dX5_porters_51 : decode cX5_porters 51 = .ok (.lstore 7, 2) := by decide +kernel
theorem dX5_porters_53 : decode cX5_porters 53 = .ok (.iconst 0, 1) := by decide +kernel
theorem dX5_porters_54 : decode cX5_porters 54 = .ok (.istore 9, 2) := by decide +kernel
theorem dX5_porters_56 : decode cX5_porters 56 = .ok (.iload 9, 2) := by decide +kernel
theorem dX5_porters_58 : decode cX5_porters 58 = .ok (.aload_n 0, 1) := by decide +kernel
theorem dX5_porters_59 : decode cX5_porters 59 = .ok (.getfield 10, 3) := by decide +kernel
theorem dX5_porters_62 : decode cX5_porters 62 = .ok (.getfield 62, 3) := by decide +kernel
theorem dX5_porters_65 : decode cX5_porters 65 = .ok (.if_icmp .ge 50, 3) := by decide +kernel
theorem dX5_porters_68 : decode cX5_porters 68 = .ok (.aload_n 0, 1) := by decide +kernel
theorem dX5_porters_69 : decode cX5_porters 69 = .ok (.getfield 32, 3) := by decide +kernel
theorem dX5_porters_72 : decode cX5_porters 72 = .ok (.iload 9, 2) := by decide +kernel
theorem dX5_porters_74 : decode cX5_porters 74 = .ok (.iload_n 1, 1) := by decide +kernel
theorem dX5_porters_75 : decode cX5_porters 75 = .ok (.iload_n 2, 1) := by decide +kernel
theorem dX5_porters_76 : decode cX5_porters 76 = .ok (.invokevirtual 196, 3) := by decide +kernel
theorem dX5_porters_79 : decode cX5_porters 79 = .ok (.istore 10, 2) := by decide +kernel
theorem dX5_porters_81 : decode cX5_porters 81 = .ok (.iload 10, 2) := by decide +kernel
theorem dX5_porters_83 : decode cX5_porters 83 = .ok (.iconst (-1), 1) := by decide +kernel
theorem dX5_porters_84 : decode cX5_porters 84 = .ok (.if_icmp .eq 25, 3) := by decide +kernel
theorem dX5_porters_87 : decode cX5_porters 87 = .ok (.iload 10, 2) := by decide +kernel
theorem dX5_porters_89 : decode cX5_porters 89 = .ok (.iload_n 3, 1) := by decide +kernel
theorem dX5_porters_90 : decode cX5_porters 90 = .ok (.if_icmp .gt 19, 3) := by decide +kernel
theorem dX5_porters_93 : decode cX5_porters 93 = .ok (.lload 5, 2) := by decide +kernel
theorem dX5_porters_95 : decode cX5_porters 95 = .ok (.iload 4, 2) := by decide +kernel
theorem dX5_porters_97 : decode cX5_porters 97 = .ok (.i2l, 1) := by decide +kernel
theorem dX5_porters_98 : decode cX5_porters 98 = .ok (.lmul, 1) := by decide +kernel
theorem dX5_porters_99 : decode cX5_porters 99 = .ok (.lstore 5, 2) := by decide +kernel
theorem dX5_porters_101 : decode cX5_porters 101 = .ok (.lload 7, 2) := by decide +kernel
theorem dX5_porters_103 : decode cX5_porters 103 = .ok (.ldc2_w 199, 3) := by decide +kernel
theorem dX5_porters_106 : decode cX5_porters 106 = .ok (.lmul, 1) := by decide +kernel
theorem dX5_porters_107 : decode cX5_porters 107 = .ok (.lstore 7, 2) := by decide +kernel
theorem dX5_porters_109 : decode cX5_porters 109 = .ok (.iinc 9 1, 3) := by decide +kernel
theorem dX5_porters_112 : decode cX5_porters 112 = .ok (.goto (-56), 3) := by decide +kernel
theorem dX5_porters_115 : decode cX5_porters 115 = .ok (.aload_n 0, 1) := by decide +kernel
theorem dX5_porters_116 : decode cX5_porters 116 = .ok (.getfield 46, 3) := by decide +kernel
theorem dX5_porters_119 : decode cX5_porters 119 = .ok (.lload 7, 2) := by decide +kernel
theorem dX5_porters_121 : decode cX5_porters 121 = .ok (.lload 5, 2) := by decide +kernel
theorem dX5_porters_123 : decode cX5_porters 123 = .ok (.lsub, 1) := by decide +kernel
theorem dX5_porters_124 : decode cX5_porters 124 = .ok (.lload 7, 2) := by decide +kernel
theorem dX5_porters_126 : decode cX5_porters 126 = .ok (.invokevirtual 176, 3) := by decide +kernel
theorem dX5_porters_129 : decode cX5_porters 129 = .ok (.iconst 1, 1) := by decide +kernel
theorem dX5_porters_130 : decode cX5_porters 130 = .ok (.ireturn, 1) := by decide +kernel
set_option maxRecDepth 20000 in
theorem ggX5_days_X1_hasFloor : GoodIn wsX5_days wsX1_hasFloor := goodIn_r _ [13, 14, 78, 79, 80, 81, 82, 83, 84, 85, 86, 87, 88, 89, 90, 91] (by decide +kernel) (by decide +kernel)
set_option maxRecDepth 20000 in
theorem gX5_days_X1_hasFloor : GoodIn wsX5_days (wsV RX5 145 RX1 yX1_hasFloor wsX1_hasFloor) := goodIn_app (goodIn_of _ (by decide +kernel)) ggX5_days_X1_hasFloor
set_option maxRecDepth 20000 in
theorem ggX5_days_X5_isWithin : GoodIn wsX5_days wsX5_isWithin := goodIn_r _ [18] (by decide +kernel) (by decide +kernel)
set_option maxRecDepth 20000 in
theorem gX5_days_X5_isWithin : GoodIn wsX5_days (va_wsS RX5 54 yX5_isWithin wsX5_isWithin) := goodIn_app (goodIn_of _ (by decide +kernel)) ggX5_days_X5_isWithin
set_option maxRecDepth 20000 in
theorem ggX5_days_X5_refuse : GoodIn wsX5_days wsX5_refuse := goodIn_r _ [22, 23, 15, 16, 17, 18, 70, 71, 72, 73, 74, 75, 76, 77] (by decide +kernel) (by decide +kernel)
set_option maxRecDepth 20000 in
theorem gX5_days_X5_refuse : GoodIn wsX5_days (wsV RX5 58 RX5 yX5_refuse wsX5_refuse) := goodIn_app (goodIn_of _ (by decide +kernel)) ggX5_days_X5_refuse
set_option maxRecDepth 20000 in
theorem ggX5_days_X4_wayOfFirst : GoodIn wsX5_days wsX4_wayOfFirst := goodIn_r _ [28, 29, 30, 31, 27, 32, 33, 34, 35, 36, 37, 38, 39, 40, 41, 42, 43, 44, 45, 46, 47, 48, 49, 50, 51, 52, 53, 54, 55, 56, 57, 58, 59, 60, 61, 62, 63, 64, 65, 66, 67, 68, 69, 92, 78, 79, 80, 81, 82, 83, 84, 85, 86, 87, 88, 89, 90, 91] (by decide +kernel) (by decide +kernel)
set_option maxRecDepth 20000 in
theorem gX5_days_X4_wayOfFirst : GoodIn wsX5_days (wsV RX5 155 RX4 yX4_wayOfFirst wsX4_wayOfFirst) := goodIn_app (goodIn_of _ (by decide +kernel)) ggX5_days_X4_wayOfFirst
theorem dX5_days_0 : decode cX5_days 0 = .ok (.aload_n 0, 1) := by decide +kernel
theorem dX5_days_1 : decode cX5_days 1 = .ok (.getfield 10, 3) := by decide +kernel
theorem dX5_days_4 : decode cX5_days 4 = .ok (.iload_n 1, 1) := by decide +kernel
theorem dX5_days_5 : decode cX5_days 5 = .ok (.invokevirtual 145, 3) := by decide +kernel
theorem dX5_days_8 : decode cX5_days 8 = .ok (.ifCond .eq 23, 3) := by decide +kernel
theorem dX5_days_11 : decode cX5_days 11 = .ok (.iload_n 2, 1) := by decide +kernel
theorem dX5_days_12 : decode cX5_days 12 = .ok (.iconst 0, 1) := by decide +kernel
theorem dX5_days_13 : decode cX5_days 13 = .ok (.ldc 201, 2) := by decide +kernel
theorem dX5_days_15 : decode cX5_days 15 = .ok (.invokestatic 54, 3) := by decide +kernel
theorem dX5_days_18 : decode cX5_days 18 = .ok (.ifCond .eq 13, 3) := by decide +kernel
theorem dX5_days_21 : decode cX5_days 21 = .ok (.iload_n 3, 1) := by decide +kernel
theorem dX5_days_22 : decode cX5_days 22 = .ok (.iconst 0, 1) := by decide +kernel
theorem dX5_days_23 : decode cX5_days 23 = .ok (.bipush 60, 2) := by decide +kernel
theorem dX5_days_25 : decode cX5_days 25 = .ok (.invokestatic 54, 3) := by decide +kernel
theorem dX5_days_28 : decode cX5_days 28 = .ok (.ifCond .ne 10, 3) := by decide +kernel
theorem dX5_days_31 : decode cX5_days 31 = .ok (.aload_n 0, 1) := by decide +kernel
theorem dX5_days_32 : decode cX5_days 32 = .ok (.bipush (-2), 2) := by decide +kernel
theorem dX5_days_34 : decode cX5_days 34 = .ok (.invokevirtual 58, 3) := by decide +kernel
theorem dX5_days_37 : decode cX5_days 37 = .ok (.ireturn, 1) := by decide +kernel
theorem dX5_days_38 : decode cX5_days 38 = .ok (.iload_n 2, 1) := by decide +kernel
theorem dX5_days_39 : decode cX5_days 39 = .ok (.i2l, 1) := by decide +kernel
theorem dX5_days_40 : decode cX5_days 40 = .ok (.lstore 4, 2) := by decide +kernel
theorem dX5_days_42 : decode cX5_days 42 = .ok (.iconst 0, 1) := by decide +kernel
theorem dX5_days_43 : decode cX5_days 43 = .ok (.istore 6, 2) := by decide +kernel
theorem dX5_days_45 : decode cX5_days 45 = .ok (.iconst 0, 1) := by decide +kernel
theorem dX5_days_46 : decode cX5_days 46 = .ok (.istore 7, 2) := by decide +kernel
theorem dX5_days_48 : decode cX5_days 48 = .ok (.iload 7, 2) := by decide +kernel
theorem dX5_days_50 : decode cX5_days 50 = .ok (.iload_n 3, 1) := by decide +kernel
theorem dX5_days_51 : decode cX5_days 51 = .ok (.if_icmp .ge 55, 3) := by decide +kernel
theorem dX5_days_54 : decode cX5_days 54 = .ok (.lload 4, 2) := by decide +kernel
theorem dX5_days_56 : decode cX5_days 56 = .ok (.ldc2_w 202, 3) := by decide +kernel
theorem dX5_days_59 : decode cX5_days 59 = .ok (.lmul, 1) := by decide +kernel
theorem dX5_days_60 : decode cX5_days 60 = .ok (.ldc2_w 204, 3) := by decide +kernel
theorem dX5_days_63 : decode cX5_days 63 = .ok (.ladd, 1) := by decide +kernel
theorem dX5_days_64 : decode cX5_days 64 = .ok (.ldc2_w 206, 3) := by decide +kernel
theorem dX5_days_67 : decode cX5_days 67 = .ok (.lrem, 1) := by decide +kernel
theorem dX5_days_68 : decode cX5_days 68 = .ok (.lstore 4, 2) := by decide +kernel
theorem dX5_days_70 : decode cX5_days 70 = .ok (.lload 4, 2) := by decide +kernel
theorem dX5_days_72 : decode cX5_days 72 = .ok (.ldc2_w 208, 3) := by decide +kernel
theorem dX5_days_75 : decode cX5_days 75 = .ok (.ldiv, 1) := by decide +kernel
theorem dX5_days_76 : decode cX5_days 76 = .ok (.ldc2_w 210, 3) := by decide +kernel
theorem dX5_days_79 : decode cX5_days 79 = .ok (.lrem, 1) := by decide +kernel
theorem dX5_days_80 : decode cX5_days 80 = .ok (.l2i, 1) := by decide +kernel
theorem dX5_days_81 : decode cX5_days 81 = .ok (.istore 8, 2) := by decide +kernel
theorem dX5_days_83 : decode cX5_days 83 = .ok (.aload_n 0, 1) := by decide +kernel
theorem dX5_days_84 : decode cX5_days 84 = .ok (.getfield 32, 3) := by decide +kernel
theorem dX5_days_87 : decode cX5_days 87 = .ok (.iload_n 1, 1) := by decide +kernel
theorem dX5_days_88 : decode cX5_days 88 = .ok (.iload 8, 2) := by decide +kernel
theorem dX5_days_90 : decode cX5_days 90 = .ok (.invokevirtual 155, 3) := by decide +kernel
theorem dX5_days_93 : decode cX5_days 93 = .ok (.iconst 1, 1) := by decide +kernel
theorem dX5_days_94 : decode cX5_days 94 = .ok (.if_icmp .ne 6, 3) := by decide +kernel
theorem dX5_days_97 : decode cX5_days 97 = .ok (.iinc 6 1, 3) := by decide +kernel
theorem dX5_days_100 : decode cX5_days 100 = .ok (.iinc 7 1, 3) := by decide +kernel
theorem dX5_days_103 : decode cX5_days 103 = .ok (.goto (-55), 3) := by decide +kernel
theorem dX5_days_106 : decode cX5_days 106 = .ok (.iload 6, 2) := by decide +kernel
theorem dX5_days_108 : decode cX5_days 108 = .ok (.ireturn, 1) := by decide +kernel
set_option maxRecDepth 20000 in
theorem ggX5_part_X5_isWithin : GoodIn wsX5_part wsX5_isWithin := goodIn_r _ [7] (by decide +kernel) (by decide +kernel)
set_option maxRecDepth 20000 in
theorem gX5_part_X5_isWithin : GoodIn wsX5_part (va_wsS RX5 54 yX5_isWithin wsX5_isWithin) := goodIn_app (goodIn_of _ (by decide +kernel)) ggX5_part_X5_isWithin
set_option maxRecDepth 20000 in
theorem ggX5_part_X5_refuse : GoodIn wsX5_part wsX5_refuse := goodIn_r _ [11, 12, 4, 5, 6, 7, 13, 14, 15, 16, 17, 18, 19, 20] (by decide +kernel) (by decide +kernel)
set_option maxRecDepth 20000 in
theorem gX5_part_X5_refuse : GoodIn wsX5_part (wsV RX5 58 RX5 yX5_refuse wsX5_refuse) := goodIn_app (goodIn_of _ (by decide +kernel)) ggX5_part_X5_refuse
theorem dX5_part_0 : decode cX5_part 0 = .ok (.iload_n 1, 1) := by decide +kernel
theorem dX5_part_1 : decode cX5_part 1 = .ok (.iconst 0, 1) := by decide +kernel
theorem dX5_part_2 : decode cX5_part 2 = .ok (.iconst 1, 1) := by decide +kernel
theorem dX5_part_3 : decode cX5_part 3 = .ok (.invokestatic 54, 3) := by decide +kernel
theorem dX5_part_6 : decode cX5_part 6 = .ok (.ifCond .ne 11, 3) := by decide +kernel
theorem dX5_part_9 : decode cX5_part 9 = .ok (.aload_n 0, 1) := by decide +kernel
theorem dX5_part_10 : decode cX5_part 10 = .ok (.bipush (-2), 2) := by decide +kernel
theorem dX5_part_12 : decode cX5_part 12 = .ok (.invokevirtual 58, 3) := by decide +kernel
theorem dX5_part_15 : decode cX5_part 15 = .ok (.i2l, 1) := by decide +kernel
theorem dX5_part_16 : decode cX5_part 16 = .ok (.lreturn, 1) := by decide +kernel
theorem dX5_part_17 : decode cX5_part 17 = .ok (.iload_n 1, 1) := by decide +kernel
theorem dX5_part_18 : decode cX5_part 18 = .ok (.ifCond .ne 13, 3) := by decide +kernel
theorem dX5_part_21 : decode cX5_part 21 = .ok (.aload_n 0, 1) := by decide +kernel
theorem dX5_part_22 : decode cX5_part 22 = .ok (.getfield 46, 3) := by decide +kernel
theorem dX5_part_25 : decode cX5_part 25 = .ok (.getfield 212, 3) := by decide +kernel
theorem dX5_part_28 : decode cX5_part 28 = .ok (.goto 10, 3) := by decide +kernel
theorem dX5_part_31 : decode cX5_part 31 = .ok (.aload_n 0, 1) := by decide +kernel
theorem dX5_part_32 : decode cX5_part 32 = .ok (.getfield 46, 3) := by decide +kernel
theorem dX5_part_35 : decode cX5_part 35 = .ok (.getfield 216, 3) := by decide +kernel
theorem dX5_part_38 : decode cX5_part 38 = .ok (.lreturn, 1) := by decide +kernel
set_option maxRecDepth 20000 in
theorem ggX5_image_X5_isWithin : GoodIn wsX5_image wsX5_isWithin := goodIn_r _ [7] (by decide +kernel) (by decide +kernel)
set_option maxRecDepth 20000 in
theorem gX5_image_X5_isWithin : GoodIn wsX5_image (va_wsS RX5 54 yX5_isWithin wsX5_isWithin) := goodIn_app (goodIn_of _ (by decide +kernel)) ggX5_image_X5_isWithin
set_option maxRecDepth 20000 in
theorem ggX5_image_X5_refuse : GoodIn wsX5_image wsX5_refuse := goodIn_r _ [11, 12, 4, 5, 6, 7, 36, 37, 38, 39, 40, 41, 42, 43] (by decide +kernel) (by decide +kernel)
set_option maxRecDepth 20000 in
theorem gX5_image_X5_refuse : GoodIn wsX5_image (wsV RX5 58 RX5 yX5_refuse wsX5_refuse) := goodIn_app (goodIn_of _ (by decide +kernel)) ggX5_image_X5_refuse
set_option maxRecDepth 20000 in
theorem ggX5_image_X1_copy : GoodIn wsX5_image wsX1_copy := goodIn_r _ [17, 18, 19, 20, 21, 22, 23, 24, 25, 26, 27, 28, 29, 30, 31, 32, 33, 34, 35, 44, 45, 46, 47, 48, 49, 50, 51, 52, 53, 54, 55, 56, 57] (by decide +kernel) (by decide +kernel)
set_option maxRecDepth 20000 in
theorem gX5_image_X1_copy : GoodIn wsX5_image (wsV RX5 96 RX1 yX1_copy wsX1_copy) := goodIn_app (goodIn_of _ (by decide +kernel)) ggX5_image_X1_copy
theorem dX5_image_0 : decode cX5_image 0 = .ok (.iload_n 1, 1) := by decide +kernel
theorem dX5_image_1 : decode cX5_image 1 = .ok (.iconst 0, 1) := by decide +kernel
theorem dX5_image_2 : decode cX5_image 2 = .ok (.iconst 1, 1) := by decide +kernel
theorem dX5_image_3 : decode cX5_image 3 = .ok (.invokestatic 54, 3) := by decide +kernel
theorem dX5_image_6 : decode cX5_image 6 = .ok (.ifCond .ne 10, 3) := by decide +kernel
theorem dX5_image_9 : decode cX5_image 9 = .ok (.aload_n 0, 1) := by decide +kernel
theorem dX5_image_10 : decode cX5_image 10 = .ok (.bipush (-2), 2) := by decide +kernel
theorem dX5_image_12 : decode cX5_image 12 = .ok (.invokevirtual 58, 3) := by decide +kernel
theorem dX5_image_15 : decode cX5_image 15 = .ok (.ireturn, 1) := by decide +kernel
theorem dX5_image_16 : decode cX5_image 16 = .ok (.aload_n 0, 1) := by decide +kernel
theorem dX5_image_17 : decode cX5_image 17 = .ok (.getfield 19, 3) := by decide +kernel
theorem dX5_image_20 : decode cX5_image 20 = .ok (.iload_n 1, 1) := by decide +kernel
theorem dX5_image_21 : decode cX5_image 21 = .ok (.aaload, 1) := by decide +kernel
theorem dX5_image_22 : decode cX5_image 22 = .ok (.aload_n 0, 1) := by decide +kernel
theorem dX5_image_23 : decode cX5_image 23 = .ok (.getfield 10, 3) := by decide +kernel
theorem dX5_image_26 : decode cX5_image 26 = .ok (.invokevirtual 96, 3) := by decide +kernel
theorem dX5_image_29 : decode cX5_image 29 = .ok (.aload_n 0, 1) := by decide +kernel
theorem dX5_image_30 : decode cX5_image 30 = .ok (.getfield 23, 3) := by decide +kernel
theorem dX5_image_33 : decode cX5_image 33 = .ok (.iload_n 1, 1) := by decide +kernel
theorem dX5_image_34 : decode cX5_image 34 = .ok (.iconst 1, 1) := by decide +kernel
theorem dX5_image_35 : decode cX5_image 35 = .ok (.bastore, 1) := by decide +kernel
theorem dX5_image_36 : decode cX5_image 36 = .ok (.iconst 1, 1) := by decide +kernel
theorem dX5_image_37 : decode cX5_image 37 = .ok (.ireturn, 1) := by decide +kernel
set_option maxRecDepth 20000 in
theorem ggX5_from_X5_isWithin : GoodIn wsX5_from wsX5_isWithin := goodIn_r _ [7] (by decide +kernel) (by decide +kernel)
set_option maxRecDepth 20000 in
theorem gX5_from_X5_isWithin : GoodIn wsX5_from (va_wsS RX5 54 yX5_isWithin wsX5_isWithin) := goodIn_app (goodIn_of _ (by decide +kernel)) ggX5_from_X5_isWithin
set_option maxRecDepth 20000 in
theorem ggX5_from_X5_refuse : GoodIn wsX5_from wsX5_refuse := goodIn_r _ [11, 12, 4, 5, 6, 7, 36, 37, 38, 39, 40, 41, 42, 43] (by decide +kernel) (by decide +kernel)
set_option maxRecDepth 20000 in
theorem gX5_from_X5_refuse : GoodIn wsX5_from (wsV RX5 58 RX5 yX5_refuse wsX5_refuse) := goodIn_app (goodIn_of _ (by decide +kernel)) ggX5_from_X5_refuse
set_option maxRecDepth 20000 in
theorem ggX5_from_X1_copy : GoodIn wsX5_from wsX1_copy := goodIn_r _ [17, 18, 19, 20, 21, 22, 23, 24, 25, 26, 27, 28, 29, 30, 31, 32, 33, 34, 35, 44, 45, 46, 47, 48, 49, 50, 51, 52, 53, 54, 55, 56, 57] (by decide +kernel) (by decide +kernel)
set_option maxRecDepth 20000 in
theorem gX5_from_X1_copy : GoodIn wsX5_from (wsV RX5 96 RX1 yX1_copy wsX1_copy) := goodIn_app (goodIn_of _ (by decide +kernel)) ggX5_from_X1_copy
theorem dX5_from_0 : decode cX5_from 0 = .ok (.iload_n 1, 1) := by decide +kernel
theorem dX5_from_1 : decode cX5_from 1 = .ok (.iconst 0, 1) := by decide +kernel
theorem dX5_from_2 : decode cX5_from 2 = .ok (.iconst 1, 1) := by decide +kernel
theorem dX5_from_3 : decode cX5_from 3 = .ok (.invokestatic 54, 3) := by decide +kernel
theorem dX5_from_6 : decode cX5_from 6 = .ok (.ifCond .ne 10, 3) := by decide +kernel
theorem dX5_from_9 : decode cX5_from 9 = .ok (.aload_n 0, 1) := by decide +kernel
theorem dX5_from_10 : decode cX5_from 10 = .ok (.bipush (-2), 2) := by decide +kernel
theorem dX5_from_12 : decode cX5_from 12 = .ok (.invokevirtual 58, 3) := by decide +kernel
theorem dX5_from_15 : decode cX5_from 15 = .ok (.ireturn, 1) := by decide +kernel
theorem dX5_from_16 : decode cX5_from 16 = .ok (.aload_n 0, 1) := by decide +kernel
theorem dX5_from_17 : decode cX5_from 17 = .ok (.getfield 23, 3) := by decide +kernel
theorem dX5_from_20 : decode cX5_from 20 = .ok (.iload_n 1, 1) := by decide +kernel
theorem dX5_from_21 : decode cX5_from 21 = .ok (.baload, 1) := by decide +kernel
theorem dX5_from_22 : decode cX5_from 22 = .ok (.ifCond .ne 10, 3) := by decide +kernel
theorem dX5_from_25 : decode cX5_from 25 = .ok (.aload_n 0, 1) := by decide +kernel
theorem dX5_from_26 : decode cX5_from 26 = .ok (.bipush (-3), 2) := by decide +kernel
theorem dX5_from_28 : decode cX5_from 28 = .ok (.invokevirtual 58, 3) := by decide +kernel
theorem dX5_from_31 : decode cX5_from 31 = .ok (.ireturn, 1) := by decide +kernel
theorem dX5_from_32 : decode cX5_from 32 = .ok (.aload_n 0, 1) := by decide +kernel
theorem dX5_from_33 : decode cX5_from 33 = .ok (.getfield 10, 3) := by decide +kernel
theorem dX5_from_36 : decode cX5_from 36 = .ok (.aload_n 0, 1) := by decide +kernel
theorem dX5_from_37 : decode cX5_from 37 = .ok (.getfield 19, 3) := by decide +kernel
theorem dX5_from_40 : decode cX5_from 40 = .ok (.iload_n 1, 1) := by decide +kernel
theorem dX5_from_41 : decode cX5_from 41 = .ok (.aaload, 1) := by decide +kernel
theorem dX5_from_42 : decode cX5_from 42 = .ok (.invokevirtual 96, 3) := by decide +kernel
theorem dX5_from_45 : decode cX5_from 45 = .ok (.iconst 1, 1) := by decide +kernel
theorem dX5_from_46 : decode cX5_from 46 = .ok (.ireturn, 1) := by decide +kernel
set_option maxRecDepth 20000 in
theorem ggX5_status_X5_isWithin : GoodIn wsX5_status wsX5_isWithin := goodIn_r _ [5] (by decide +kernel) (by decide +kernel)
set_option maxRecDepth 20000 in
theorem gX5_status_X5_isWithin : GoodIn wsX5_status (va_wsS RX5 54 yX5_isWithin wsX5_isWithin) := goodIn_app (goodIn_of _ (by decide +kernel)) ggX5_status_X5_isWithin
set_option maxRecDepth 20000 in
theorem ggX5_status_X5_refuse : GoodIn wsX5_status wsX5_refuse := goodIn_r _ [9, 1, 2, 3, 4, 5, 10, 11, 12, 13, 14, 15, 16, 17] (by decide +kernel) (by decide +kernel)
set_option maxRecDepth 20000 in
theorem gX5_status_X5_refuse : GoodIn wsX5_status (wsV RX5 58 RX5 yX5_refuse wsX5_refuse) := goodIn_app (goodIn_of _ (by decide +kernel)) ggX5_status_X5_refuse
theorem dX5_status_0 : decode cX5_status 0 = .ok (.iload_n 1, 1) := by decide +kernel
theorem dX5_status_1 : decode cX5_status 1 = .ok (.iconst 0, 1) := by decide +kernel
theorem dX5_status_2 : decode cX5_status 2 = .ok (.iconst 2, 1) := by decide +kernel
theorem dX5_status_3 : decode cX5_status 3 = .ok (.invokestatic 54, 3) := by decide +kernel
theorem dX5_status_6 : decode cX5_status 6 = .ok (.ifCond .ne 12, 3) := by decide +kernel
theorem dX5_status_9 : decode cX5_status 9 = .ok (.aload_n 0, 1) := by decide +kernel
theorem dX5_status_10 : decode cX5_status 10 = .ok (.bipush (-2), 2) := by decide +kernel
theorem dX5_status_12 : decode cX5_status 12 = .ok (.invokevirtual 58, 3) := by decide +kernel
theorem dX5_status_15 : decode cX5_status 15 = .ok (.pop, 1) := by decide +kernel
theorem dX5_status_16 : decode cX5_status 16 = .ok (.iconst (-1), 1) := by decide +kernel
theorem dX5_status_17 : decode cX5_status 17 = .ok (.ireturn, 1) := by decide +kernel
theorem dX5_status_18 : decode cX5_status 18 = .ok (.aload_n 0, 1) := by decide +kernel
theorem dX5_status_19 : decode cX5_status 19 = .ok (.getfield 50, 3) := by decide +kernel
theorem dX5_status_22 : decode cX5_status 22 = .ok (.iload_n 1, 1) := by decide +kernel
theorem dX5_status_23 : decode cX5_status 23 = .ok (.iaload, 1) := by decide +kernel
theorem dX5_status_24 : decode cX5_status 24 = .ok (.ireturn, 1) := by decide +kernel
set_option maxRecDepth 20000 in
theorem ggX5_count_X5_refuse : GoodIn wsX5_count wsX5_refuse := goodIn_r _ [13, 14, 15, 16, 12, 17, 18, 19, 20, 21, 22, 23, 24, 25] (by decide +kernel) (by decide +kernel)
set_option maxRecDepth 20000 in
theorem gX5_count_X5_refuse : GoodIn wsX5_count (wsV RX5 58 RX5 yX5_refuse wsX5_refuse) := goodIn_app (goodIn_of _ (by decide +kernel)) ggX5_count_X5_refuse
theorem dX5_count_0 : decode cX5_count 0 = .ok (.iload_n 1, 1) := by decide +kernel
theorem dX5_count_1 : decode cX5_count 1 = .ok (.tableswitch 87 0 5 #[39, 47, 55, 63, 71, 79], 39) := by decide +kernel
theorem dX5_count_40 : decode cX5_count 40 = .ok (.aload_n 0, 1) := by decide +kernel
theorem dX5_count_41 : decode cX5_count 41 = .ok (.getfield 10, 3) := by decide +kernel
theorem dX5_count_44 : decode cX5_count 44 = .ok (.getfield 62, 3) := by decide +kernel
theorem dX5_count_47 : decode cX5_count 47 = .ok (.ireturn, 1) := by decide +kernel
theorem dX5_count_48 : decode cX5_count 48 = .ok (.aload_n 0, 1) := by decide +kernel
theorem dX5_count_49 : decode cX5_count 49 = .ok (.getfield 10, 3) := by decide +kernel
theorem dX5_count_52 : decode cX5_count 52 = .ok (.getfield 130, 3) := by decide +kernel
theorem dX5_count_55 : decode cX5_count 55 = .ok (.ireturn, 1) := by decide +kernel
theorem dX5_count_56 : decode cX5_count 56 = .ok (.aload_n 0, 1) := by decide +kernel
theorem dX5_count_57 : decode cX5_count 57 = .ok (.getfield 10, 3) := by decide +kernel
theorem dX5_count_60 : decode cX5_count 60 = .ok (.getfield 99, 3) := by decide +kernel
theorem dX5_count_63 : decode cX5_count 63 = .ok (.ireturn, 1) := by decide +kernel
theorem dX5_count_64 : decode cX5_count 64 = .ok (.aload_n 0, 1) := by decide +kernel
theorem dX5_count_65 : decode cX5_count 65 = .ok (.getfield 10, 3) := by decide +kernel
theorem dX5_count_68 : decode cX5_count 68 = .ok (.getfield 180, 3) := by decide +kernel
theorem dX5_count_71 : decode cX5_count 71 = .ok (.ireturn, 1) := by decide +kernel
theorem dX5_count_72 : decode cX5_count 72 = .ok (.aload_n 0, 1) := by decide +kernel
theorem dX5_count_73 : decode cX5_count 73 = .ok (.getfield 10, 3) := by decide +kernel
theorem dX5_count_76 : decode cX5_count 76 = .ok (.getfield 111, 3) := by decide +kernel
theorem dX5_count_79 : decode cX5_count 79 = .ok (.ireturn, 1) := by decide +kernel
theorem dX5_count_80 : decode cX5_count 80 = .ok (.aload_n 0, 1) := by decide +kernel
theorem dX5_count_81 : decode cX5_count 81 = .ok (.getfield 39, 3) := by decide +kernel
theorem dX5_count_84 : decode cX5_count 84 = .ok (.getfield 86, 3) := by decide +kernel
theorem dX5_count_87 : decode cX5_count 87 = .ok (.ireturn, 1) := by decide +kernel
theorem dX5_count_88 : decode cX5_count 88 = .ok (.aload_n 0, 1) := by decide +kernel
theorem dX5_count_89 : decode cX5_count 89 = .ok (.bipush (-2), 2) := by decide +kernel
theorem dX5_count_91 : decode cX5_count 91 = .ok (.invokevirtual 58, 3) := by decide +kernel
theorem dX5_count_94 : decode cX5_count 94 = .ok (.ireturn, 1) := by decide +kernel
set_option maxRecDepth 20000 in
theorem ggX5_digest_X5_count : GoodIn wsX5_digest wsX5_count := goodIn_r _ [11, 3, 12, 13, 14, 15, 16, 17, 18, 19, 20, 21, 10, 22, 23, 24, 25, 26, 43, 44, 45, 46, 47, 48, 49, 50, 53, 54, 55, 56, 57, 58, 59, 60, 61, 62, 63, 64, 65, 66, 67, 68, 69, 70, 71, 72] (by decide +kernel) (by decide +kernel)
set_option maxRecDepth 20000 in
theorem gX5_digest_X5_count : GoodIn wsX5_digest (wsV RX5 223 RX5 yX5_count wsX5_count) := goodIn_app (goodIn_of _ (by decide +kernel)) ggX5_digest_X5_count
set_option maxRecDepth 20000 in
theorem ggX5_digest_X1_digestOver : GoodIn wsX5_digest wsX1_digestOver := goodIn_r _ [31, 32, 33, 34, 35, 36, 37, 38, 39, 40, 41, 42, 53, 54, 55, 56, 57, 58, 59, 60, 61, 62, 63, 64, 65, 66] (by decide +kernel) (by decide +kernel)
set_option maxRecDepth 20000 in
theorem gX5_digest_X1_digestOver : GoodIn wsX5_digest (wsV RX5 226 RX1 yX1_digestOver wsX1_digestOver) := goodIn_app (goodIn_of _ (by decide +kernel)) ggX5_digest_X1_digestOver
theorem dX5_digest_0 : decode cX5_digest 0 = .ok (.ldc2_w 219, 3) := by decide +kernel
theorem dX5_digest_3 : decode cX5_digest 3 = .ok (.lstore_n 1, 1) := by decide +kernel
theorem dX5_digest_4 : decode cX5_digest 4 = .ok (.iconst 0, 1) := by decide +kernel
theorem dX5_digest_5 : decode cX5_digest 5 = .ok (.istore_n 3, 1) := by decide +kernel
theorem dX5_digest_6 : decode cX5_digest 6 = .ok (.iload_n 3, 1) := by decide +kernel
theorem dX5_digest_7 : decode cX5_digest 7 = .ok (.iconst 5, 1) := by decide +kernel
theorem dX5_digest_8 : decode cX5_digest 8 = .ok (.if_icmp .gt 22, 3) := by decide +kernel
theorem dX5_digest_11 : decode cX5_digest 11 = .ok (.ldc2_w 221, 3) := by decide +kernel
theorem dX5_digest_14 : decode cX5_digest 14 = .ok (.lload_n 1, 1) := by decide +kernel
theorem dX5_digest_15 : decode cX5_digest 15 = .ok (.lmul, 1) := by decide +kernel
theorem dX5_digest_16 : decode cX5_digest 16 = .ok (.aload_n 0, 1) := by decide +kernel
theorem dX5_digest_17 : decode cX5_digest 17 = .ok (.iload_n 3, 1) := by decide +kernel
theorem dX5_digest_18 : decode cX5_digest 18 = .ok (.invokevirtual 223, 3) := by decide +kernel
theorem dX5_digest_21 : decode cX5_digest 21 = .ok (.i2l, 1) := by decide +kernel
theorem dX5_digest_22 : decode cX5_digest 22 = .ok (.ladd, 1) := by decide +kernel
theorem dX5_digest_23 : decode cX5_digest 23 = .ok (.lstore_n 1, 1) := by decide +kernel
theorem dX5_digest_24 : decode cX5_digest 24 = .ok (.iinc 3 1, 3) := by decide +kernel
theorem dX5_digest_27 : decode cX5_digest 27 = .ok (.goto (-21), 3) := by decide +kernel
theorem dX5_digest_30 : decode cX5_digest 30 = .ok (.aload_n 0, 1) := by decide +kernel
theorem dX5_digest_31 : decode cX5_digest 31 = .ok (.getfield 10, 3) := by decide +kernel
theorem dX5_digest_34 : decode cX5_digest 34 = .ok (.lload_n 1, 1) := by decide +kernel
theorem dX5_digest_35 : decode cX5_digest 35 = .ok (.invokevirtual 226, 3) := by decide +kernel
theorem dX5_digest_38 : decode cX5_digest 38 = .ok (.lstore_n 1, 1) := by decide +kernel
theorem dX5_digest_39 : decode cX5_digest 39 = .ok (.ldc2_w 221, 3) := by decide +kernel
theorem dX5_digest_42 : decode cX5_digest 42 = .ok (.lload_n 1, 1) := by decide +kernel
theorem dX5_digest_43 : decode cX5_digest 43 = .ok (.lmul, 1) := by decide +kernel
theorem dX5_digest_44 : decode cX5_digest 44 = .ok (.aload_n 0, 1) := by decide +kernel
theorem dX5_digest_45 : decode cX5_digest 45 = .ok (.getfield 46, 3) := by decide +kernel
theorem dX5_digest_48 : decode cX5_digest 48 = .ok (.getfield 212, 3) := by decide +kernel
theorem dX5_digest_51 : decode cX5_digest 51 = .ok (.ladd, 1) := by decide +kernel
theorem dX5_digest_52 : decode cX5_digest 52 = .ok (.lstore_n 1, 1) := by decide +kernel
theorem dX5_digest_53 : decode cX5_digest 53 = .ok (.ldc2_w 221, 3) := by decide +kernel
theorem dX5_digest_56 : decode cX5_digest 56 = .ok (.lload_n 1, 1) := by decide +kernel
theorem dX5_digest_57 : decode cX5_digest 57 = .ok (.lmul, 1) := by decide +kernel
theorem dX5_digest_58 : decode cX5_digest 58 = .ok (.aload_n 0, 1) := by decide +kernel
theorem dX5_digest_59 : decode cX5_digest 59 = .ok (.getfield 46, 3) := by decide +kernel
theorem dX5_digest_62 : decode cX5_digest 62 = .ok (.getfield 216, 3) := by decide +kernel
theorem dX5_digest_65 : decode cX5_digest 65 = .ok (.ladd, 1) := by decide +kernel
theorem dX5_digest_66 : decode cX5_digest 66 = .ok (.lreturn, 1) := by decide +kernel
set_option maxRecDepth 20000 in
theorem ggX5_refuse_X5_isWithin : GoodIn wsX5_refuse wsX5_isWithin := goodIn_r _ [5] (by decide +kernel) (by decide +kernel)
set_option maxRecDepth 20000 in
theorem gX5_refuse_X5_isWithin : GoodIn wsX5_refuse (va_wsS RX5 54 yX5_isWithin wsX5_isWithin) := goodIn_app (goodIn_of _ (by decide +kernel)) ggX5_refuse_X5_isWithin
theorem dX5_refuse_0 : decode cX5_refuse 0 = .ok (.bipush (-2), 2) := by decide +kernel
theorem dX5_refuse_2 : decode cX5_refuse 2 = .ok (.iload_n 1, 1) := by decide +kernel
theorem dX5_refuse_3 : decode cX5_refuse 3 = .ok (.isub, 1) := by decide +kernel
theorem dX5_refuse_4 : decode cX5_refuse 4 = .ok (.istore_n 2, 1) := by decide +kernel
theorem dX5_refuse_5 : decode cX5_refuse 5 = .ok (.iload_n 2, 1) := by decide +kernel
theorem dX5_refuse_6 : decode cX5_refuse 6 = .ok (.iconst 0, 1) := by decide +kernel
theorem dX5_refuse_7 : decode cX5_refuse 7 = .ok (.iconst 2, 1) := by decide +kernel
theorem dX5_refuse_8 : decode cX5_refuse 8 = .ok (.invokestatic 54, 3) := by decide +kernel
theorem dX5_refuse_11 : decode cX5_refuse 11 = .ok (.ifCond .eq 13, 3) := by decide +kernel
theorem dX5_refuse_14 : decode cX5_refuse 14 = .ok (.aload_n 0, 1) := by decide +kernel
theorem dX5_refuse_15 : decode cX5_refuse 15 = .ok (.getfield 50, 3) := by decide +kernel
theorem dX5_refuse_18 : decode cX5_refuse 18 = .ok (.iload_n 2, 1) := by decide +kernel
theorem dX5_refuse_19 : decode cX5_refuse 19 = .ok (.dup2, 1) := by decide +kernel
theorem dX5_refuse_20 : decode cX5_refuse 20 = .ok (.iaload, 1) := by decide +kernel
theorem dX5_refuse_21 : decode cX5_refuse 21 = .ok (.iconst 1, 1) := by decide +kernel
theorem dX5_refuse_22 : decode cX5_refuse 22 = .ok (.iadd, 1) := by decide +kernel
theorem dX5_refuse_23 : decode cX5_refuse 23 = .ok (.iastore, 1) := by decide +kernel
theorem dX5_refuse_24 : decode cX5_refuse 24 = .ok (.iload_n 1, 1) := by decide +kernel
theorem dX5_refuse_25 : decode cX5_refuse 25 = .ok (.ireturn, 1) := by decide +kernel
theorem dX5_isWithin_0 : decode cX5_isWithin 0 = .ok (.iload_n 0, 1) := by decide +kernel
theorem dX5_isWithin_1 : decode cX5_isWithin 1 = .ok (.iload_n 1, 1) := by decide +kernel
theorem dX5_isWithin_2 : decode cX5_isWithin 2 = .ok (.if_icmp .lt 12, 3) := by decide +kernel
theorem dX5_isWithin_5 : decode cX5_isWithin 5 = .ok (.iload_n 0, 1) := by decide +kernel
theorem dX5_isWithin_6 : decode cX5_isWithin 6 = .ok (.iload_n 2, 1) := by decide +kernel
theorem dX5_isWithin_7 : decode cX5_isWithin 7 = .ok (.if_icmp .gt 7, 3) := by decide +kernel
theorem dX5_isWithin_10 : decode cX5_isWithin 10 = .ok (.iconst 1, 1) := by decide +kernel
theorem dX5_isWithin_11 : decode cX5_isWithin 11 = .ok (.goto 4, 3) := by decide +kernel
theorem dX5_isWithin_14 : decode cX5_isWithin 14 = .ok (.iconst 0, 1) := by decide +kernel
theorem dX5_isWithin_15 : decode cX5_isWithin 15 = .ok (.ireturn, 1) := by decide +kernel
set_option maxRecDepth 20000 in
theorem ggX5_isMinute_X5_isWithin : GoodIn wsX5_isMinute wsX5_isWithin := goodIn_r _ [4] (by decide +kernel) (by decide +kernel)
set_option maxRecDepth 20000 in
theorem gX5_isMinute_X5_isWithin : GoodIn wsX5_isMinute (va_wsS RX5 54 yX5_isWithin wsX5_isWithin) := goodIn_app (goodIn_of _ (by decide +kernel)) ggX5_isMinute_X5_isWithin
theorem dX5_isMinute_0 : decode cX5_isMinute 0 = .ok (.iload_n 0, 1) := by decide +kernel
theorem dX5_isMinute_1 : decode cX5_isMinute 1 = .ok (.iconst 0, 1) := by decide +kernel
theorem dX5_isMinute_2 : decode cX5_isMinute 2 = .ok (.sipush 999, 3) := by decide +kernel
theorem dX5_isMinute_5 : decode cX5_isMinute 5 = .ok (.invokestatic 54, 3) := by decide +kernel
theorem dX5_isMinute_8 : decode cX5_isMinute 8 = .ok (.ireturn, 1) := by decide +kernel
set_option maxRecDepth 20000 in
theorem ggX5_chanceOfUp_X4_wayOfFirst : GoodIn wsX5_chanceOfUp wsX4_wayOfFirst := goodIn_r _ [6, 7, 8, 9, 5, 10, 11, 12, 13, 14, 15, 16, 17, 18, 19, 20, 21, 22, 23, 24, 25, 26, 27, 28, 29, 30, 31, 32, 33, 34, 35, 36, 37, 38, 39, 40, 41, 42, 43, 44, 45, 46, 47, 80, 81, 82, 83, 84, 85, 86, 87, 88, 89, 90, 91, 92, 93, 94] (by decide +kernel) (by decide +kernel)
set_option maxRecDepth 20000 in
theorem gX5_chanceOfUp_X4_wayOfFirst : GoodIn wsX5_chanceOfUp (wsV RX5 155 RX4 yX4_wayOfFirst wsX4_wayOfFirst) := goodIn_app (goodIn_of _ (by decide +kernel)) ggX5_chanceOfUp_X4_wayOfFirst
set_option maxRecDepth 20000 in
theorem ggX5_chanceOfUp_X5_setMean : GoodIn wsX5_chanceOfUp wsX5_setMean := goodIn_r _ [52, 53, 54, 55, 56, 51, 57, 58, 59, 60, 61, 62, 63, 64, 65, 66, 67, 68, 69, 70, 71, 72, 73, 74, 75, 76, 77, 78, 79, 95, 96] (by decide +kernel) (by decide +kernel)
set_option maxRecDepth 20000 in
theorem gX5_chanceOfUp_X5_setMean : GoodIn wsX5_chanceOfUp (wsV RX5 230 RX5 yX5_setMean wsX5_setMean) := goodIn_app (goodIn_of _ (by decide +kernel)) ggX5_chanceOfUp_X5_setMean
theorem dX5_chanceOfUp_0 : decode cX5_chanceOfUp 0 = .ok (.iconst 0, 1) := by decide +kernel
theorem dX5_chanceOfUp_1 : decode cX5_chanceOfUp 1 = .ok (.istore_n 2, 1) := by decide +kernel
theorem dX5_chanceOfUp_2 : decode cX5_chanceOfUp 2 = .ok (.iconst 0, 1) := by decide +kernel
theorem dX5_chanceOfUp_3 : decode cX5_chanceOfUp 3 = .ok (.istore_n 3, 1) := by decide +kernel
theorem dX5_chanceOfUp_4 : decode cX5_chanceOfUp 4 = .ok (.iconst 0, 1) := by decide +kernel
theorem dX5_chanceOfUp_5 : decode cX5_chanceOfUp 5 = .ok (.istore 4, 2) := by decide +kernel
theorem dX5_chanceOfUp_7 : decode cX5_chanceOfUp 7 = .ok (.iload 4, 2) := by decide +kernel
theorem dX5_chanceOfUp_9 : decode cX5_chanceOfUp 9 = .ok (.bipush 120, 2) := by decide +kernel
theorem dX5_chanceOfUp_11 : decode cX5_chanceOfUp 11 = .ok (.if_icmp .ge 35, 3) := by decide +kernel
theorem dX5_chanceOfUp_14 : decode cX5_chanceOfUp 14 = .ok (.aload_n 0, 1) := by decide +kernel
theorem dX5_chanceOfUp_15 : decode cX5_chanceOfUp 15 = .ok (.getfield 32, 3) := by decide +kernel
theorem dX5_chanceOfUp_18 : decode cX5_chanceOfUp 18 = .ok (.iload_n 1, 1) := by decide +kernel
theorem dX5_chanceOfUp_19 : decode cX5_chanceOfUp 19 = .ok (.iload 4, 2) := by decide +kernel
theorem dX5_chanceOfUp_21 : decode cX5_chanceOfUp 21 = .ok (.invokevirtual 155, 3) := by decide +kernel
theorem dX5_chanceOfUp_24 : decode cX5_chanceOfUp 24 = .ok (.istore 5, 2) := by decide +kernel
theorem dX5_chanceOfUp_26 : decode cX5_chanceOfUp 26 = .ok (.iload 5, 2) := by decide +kernel
theorem dX5_chanceOfUp_28 : decode cX5_chanceOfUp 28 = .ok (.iconst (-1), 1) := by decide +kernel
theorem dX5_chanceOfUp_29 : decode cX5_chanceOfUp 29 = .ok (.if_icmp .eq 11, 3) := by decide +kernel
theorem dX5_chanceOfUp_32 : decode cX5_chanceOfUp 32 = .ok (.iinc 2 1, 3) := by decide +kernel
theorem dX5_chanceOfUp_35 : decode cX5_chanceOfUp 35 = .ok (.iload_n 3, 1) := by decide +kernel
theorem dX5_chanceOfUp_36 : decode cX5_chanceOfUp 36 = .ok (.iload 5, 2) := by decide +kernel
theorem dX5_chanceOfUp_38 : decode cX5_chanceOfUp 38 = .ok (.iadd, 1) := by decide +kernel
theorem dX5_chanceOfUp_39 : decode cX5_chanceOfUp 39 = .ok (.istore_n 3, 1) := by decide +kernel
theorem dX5_chanceOfUp_40 : decode cX5_chanceOfUp 40 = .ok (.iinc 4 1, 3) := by decide +kernel
theorem dX5_chanceOfUp_43 : decode cX5_chanceOfUp 43 = .ok (.goto (-36), 3) := by decide +kernel
theorem dX5_chanceOfUp_46 : decode cX5_chanceOfUp 46 = .ok (.aload_n 0, 1) := by decide +kernel
theorem dX5_chanceOfUp_47 : decode cX5_chanceOfUp 47 = .ok (.iload_n 3, 1) := by decide +kernel
theorem dX5_chanceOfUp_48 : decode cX5_chanceOfUp 48 = .ok (.iload_n 2, 1) := by decide +kernel
theorem dX5_chanceOfUp_49 : decode cX5_chanceOfUp 49 = .ok (.invokevirtual 230, 3) := by decide +kernel
theorem dX5_chanceOfUp_52 : decode cX5_chanceOfUp 52 = .ok (.ireturn, 1) := by decide +kernel
set_option maxRecDepth 20000 in
theorem ggX5_meanWait_X4_waitOn : GoodIn wsX5_meanWait wsX4_waitOn := goodIn_r _ [6, 7, 8, 9, 5, 10, 11, 12, 13, 14, 15, 16, 17, 18, 19, 20, 21, 22, 23, 24, 25, 26, 27, 28, 29, 30, 31, 32, 33, 34, 35, 36, 37, 38, 39, 40, 41, 42, 43, 76, 77, 78, 79, 80, 81, 82, 83, 84, 85, 86, 87, 88, 89, 90] (by decide +kernel) (by decide +kernel)
set_option maxRecDepth 20000 in
theorem gX5_meanWait_X4_waitOn : GoodIn wsX5_meanWait (wsV RX5 148 RX4 yX4_waitOn wsX4_waitOn) := goodIn_app (goodIn_of _ (by decide +kernel)) ggX5_meanWait_X4_waitOn
set_option maxRecDepth 20000 in
theorem ggX5_meanWait_X5_setMean : GoodIn wsX5_meanWait wsX5_setMean := goodIn_r _ [48, 49, 50, 51, 52, 47, 53, 54, 55, 56, 57, 58, 59, 60, 61, 62, 63, 64, 65, 66, 67, 68, 69, 70, 71, 72, 73, 74, 75, 91, 92] (by decide +kernel) (by decide +kernel)
set_option maxRecDepth 20000 in
theorem gX5_meanWait_X5_setMean : GoodIn wsX5_meanWait (wsV RX5 230 RX5 yX5_setMean wsX5_setMean) := goodIn_app (goodIn_of _ (by decide +kernel)) ggX5_meanWait_X5_setMean
theorem dX5_meanWait_0 : decode cX5_meanWait 0 = .ok (.iconst 0, 1) := by decide +kernel
theorem dX5_meanWait_1 : decode cX5_meanWait 1 = .ok (.istore_n 3, 1) := by decide +kernel
theorem dX5_meanWait_2 : decode cX5_meanWait 2 = .ok (.iconst 0, 1) := by decide +kernel
theorem dX5_meanWait_3 : decode cX5_meanWait 3 = .ok (.istore 4, 2) := by decide +kernel
theorem dX5_meanWait_5 : decode cX5_meanWait 5 = .ok (.iconst 0, 1) := by decide +kernel
theorem dX5_meanWait_6 : decode cX5_meanWait 6 = .ok (.istore 5, 2) := by decide +kernel
theorem dX5_meanWait_8 : decode cX5_meanWait 8 = .ok (.iload 5, 2) := by decide +kernel
theorem dX5_meanWait_10 : decode cX5_meanWait 10 = .ok (.bipush 120, 2) := by decide +kernel
theorem dX5_meanWait_12 : decode cX5_meanWait 12 = .ok (.if_icmp .ge 38, 3) := by decide +kernel
theorem dX5_meanWait_15 : decode cX5_meanWait 15 = .ok (.aload_n 0, 1) := by decide +kernel
theorem dX5_meanWait_16 : decode cX5_meanWait 16 = .ok (.getfield 32, 3) := by decide +kernel
theorem dX5_meanWait_19 : decode cX5_meanWait 19 = .ok (.iload_n 1, 1) := by decide +kernel
theorem dX5_meanWait_20 : decode cX5_meanWait 20 = .ok (.iload 5, 2) := by decide +kernel
theorem dX5_meanWait_22 : decode cX5_meanWait 22 = .ok (.iload_n 2, 1) := by decide +kernel
theorem dX5_meanWait_23 : decode cX5_meanWait 23 = .ok (.invokevirtual 148, 3) := by decide +kernel
theorem dX5_meanWait_26 : decode cX5_meanWait 26 = .ok (.istore 6, 2) := by decide +kernel
theorem dX5_meanWait_28 : decode cX5_meanWait 28 = .ok (.iload 6, 2) := by decide +kernel
theorem dX5_meanWait_30 : decode cX5_meanWait 30 = .ok (.iconst (-1), 1) := by decide +kernel
theorem dX5_meanWait_31 : decode cX5_meanWait 31 = .ok (.if_icmp .eq 13, 3) := by decide +kernel
theorem dX5_meanWait_34 : decode cX5_meanWait 34 = .ok (.iinc 3 1, 3) := by decide +kernel
theorem dX5_meanWait_37 : decode cX5_meanWait 37 = .ok (.iload 4, 2) := by decide +kernel
theorem dX5_meanWait_39 : decode cX5_meanWait 39 = .ok (.iload 6, 2) := by decide +kernel
theorem dX5_meanWait_41 : decode cX5_meanWait 41 = .ok (.iadd, 1) := by decide +kernel
theorem dX5_meanWait_42 : decode cX5_meanWait 42 = .ok (.istore 4, 2) := by decide +kernel
theorem dX5_meanWait_44 : decode cX5_meanWait 44 = .ok (.iinc 5 1, 3) := by decide +kernel
theorem dX5_meanWait_47 : decode cX5_meanWait 47 = .ok (.goto (-39), 3) := by decide +kernel
theorem dX5_meanWait_50 : decode cX5_meanWait 50 = .ok (.aload_n 0, 1) := by decide +kernel
theorem dX5_meanWait_51 : decode cX5_meanWait 51 = .ok (.iload 4, 2) := by decide +kernel
end
section
theorem dX5_meanWait_53 : decode cX5_meanWait 53 = .ok (.iload_n 3, 1) := by decide +kernel
theorem dX5_meanWait_54 : decode cX5_meanWait 54 = .ok (.invokevirtual 230, 3) := by decide +kernel
theorem dX5_meanWait_57 : decode cX5_meanWait 57 = .ok (.ireturn, 1) := by decide +kernel
set_option maxRecDepth 20000 in
theorem ggX5_setMean_X5_refuse : GoodIn wsX5_setMean wsX5_refuse := goodIn_r _ [6, 7, 8, 9, 5, 10, 21, 22, 23, 24, 25, 26, 27, 28] (by decide +kernel) (by decide +kernel)
set_option maxRecDepth 20000 in
theorem gX5_setMean_X5_refuse : GoodIn wsX5_setMean (wsV RX5 58 RX5 yX5_refuse wsX5_refuse) := goodIn_app (goodIn_of _ (by decide +kernel)) ggX5_setMean_X5_refuse
set_option maxRecDepth 20000 in
theorem ggX5_setMean_X0_set : GoodIn wsX5_setMean wsX0_set := goodIn_r _ [15, 16, 17, 18, 19, 14, 20, 29, 30] (by decide +kernel) (by decide +kernel)
set_option maxRecDepth 20000 in
theorem gX5_setMean_X0_set : GoodIn wsX5_setMean (wsV RX5 176 RX0 yX0_set wsX0_set) := goodIn_app (goodIn_of _ (by decide +kernel)) ggX5_setMean_X0_set
theorem dX5_setMean_0 : decode cX5_setMean 0 = .ok (.iload_n 2, 1) := by decide +kernel
theorem dX5_setMean_1 : decode cX5_setMean 1 = .ok (.ifCond .ne 10, 3) := by decide +kernel
theorem dX5_setMean_4 : decode cX5_setMean 4 = .ok (.aload_n 0, 1) := by decide +kernel
theorem dX5_setMean_5 : decode cX5_setMean 5 = .ok (.bipush (-3), 2) := by decide +kernel
theorem dX5_setMean_7 : decode cX5_setMean 7 = .ok (.invokevirtual 58, 3) := by decide +kernel
theorem dX5_setMean_10 : decode cX5_setMean 10 = .ok (.ireturn, 1) := by decide +kernel
theorem dX5_setMean_11 : decode cX5_setMean 11 = .ok (.aload_n 0, 1) := by decide +kernel
theorem dX5_setMean_12 : decode cX5_setMean 12 = .ok (.getfield 46, 3) := by decide +kernel
theorem dX5_setMean_15 : decode cX5_setMean 15 = .ok (.iload_n 1, 1) := by decide +kernel
theorem dX5_setMean_16 : decode cX5_setMean 16 = .ok (.i2l, 1) := by decide +kernel
theorem dX5_setMean_17 : decode cX5_setMean 17 = .ok (.iload_n 2, 1) := by decide +kernel
theorem dX5_setMean_18 : decode cX5_setMean 18 = .ok (.i2l, 1) := by decide +kernel
theorem dX5_setMean_19 : decode cX5_setMean 19 = .ok (.invokevirtual 176, 3) := by decide +kernel
theorem dX5_setMean_22 : decode cX5_setMean 22 = .ok (.iconst 1, 1) := by decide +kernel
theorem dX5_setMean_23 : decode cX5_setMean 23 = .ok (.ireturn, 1) := by decide +kernel
set_option maxRecDepth 20000 in
theorem ggX6_init_X6_begins : GoodIn wsX6_init wsX6_begins := goodIn_r _ [16, 5, 17, 18, 19, 20, 21, 22, 23, 24, 25, 26, 27, 28, 29, 30, 31] (by decide +kernel) (by decide +kernel)
set_option maxRecDepth 20000 in
theorem gX6_init_X6_begins : GoodIn wsX6_init (wsV RX6 30 RX6 yX6_begins wsX6_begins) := goodIn_app (goodIn_of _ (by decide +kernel)) ggX6_init_X6_begins
theorem dX6_init_0 : decode cX6_init 0 = .ok (.aload_n 0, 1) := by decide +kernel
theorem dX6_init_1 : decode cX6_init 1 = .ok (.invokespecial 1, 3) := by decide +kernel
theorem dX6_init_4 : decode cX6_init 4 = .ok (.aload_n 0, 1) := by decide +kernel
theorem dX6_init_5 : decode cX6_init 5 = .ok (.sipush 196, 3) := by decide +kernel
theorem dX6_init_8 : decode cX6_init 8 = .ok (.newarray .int, 2) := by decide +kernel
theorem dX6_init_10 : decode cX6_init 10 = .ok (.putfield 7, 3) := by decide +kernel
theorem dX6_init_13 : decode cX6_init 13 = .ok (.aload_n 0, 1) := by decide +kernel
theorem dX6_init_14 : decode cX6_init 14 = .ok (.iconst 2, 1) := by decide +kernel
theorem dX6_init_15 : decode cX6_init 15 = .ok (.newarray .boolean, 2) := by decide +kernel
theorem dX6_init_17 : decode cX6_init 17 = .ok (.putfield 13, 3) := by decide +kernel
theorem dX6_init_20 : decode cX6_init 20 = .ok (.aload_n 0, 1) := by decide +kernel
theorem dX6_init_21 : decode cX6_init 21 = .ok (.sipush 150, 3) := by decide +kernel
theorem dX6_init_24 : decode cX6_init 24 = .ok (.newarray .int, 2) := by decide +kernel
theorem dX6_init_26 : decode cX6_init 26 = .ok (.putfield 17, 3) := by decide +kernel
theorem dX6_init_29 : decode cX6_init 29 = .ok (.aload_n 0, 1) := by decide +kernel
theorem dX6_init_30 : decode cX6_init 30 = .ok (.iconst 3, 1) := by decide +kernel
theorem dX6_init_31 : decode cX6_init 31 = .ok (.newarray .int, 2) := by decide +kernel
theorem dX6_init_33 : decode cX6_init 33 = .ok (.putfield 20, 3) := by decide +kernel
theorem dX6_init_36 : decode cX6_init 36 = .ok (.aload_n 0, 1) := by decide +kernel
theorem dX6_init_37 : decode cX6_init 37 = .ok (.lconst 1, 1) := by decide +kernel
theorem dX6_init_38 : decode cX6_init 38 = .ok (.putfield 23, 3) := by decide +kernel
theorem dX6_init_41 : decode cX6_init 41 = .ok (.aload_n 0, 1) := by decide +kernel
theorem dX6_init_42 : decode cX6_init 42 = .ok (.iconst 3, 1) := by decide +kernel
theorem dX6_init_43 : decode cX6_init 43 = .ok (.newarray .int, 2) := by decide +kernel
theorem dX6_init_45 : decode cX6_init 45 = .ok (.putfield 27, 3) := by decide +kernel
theorem dX6_init_48 : decode cX6_init 48 = .ok (.aload_n 0, 1) := by decide +kernel
theorem dX6_init_49 : decode cX6_init 49 = .ok (.iconst 0, 1) := by decide +kernel
theorem dX6_init_50 : decode cX6_init 50 = .ok (.bipush 11, 2) := by decide +kernel
theorem dX6_init_52 : decode cX6_init 52 = .ok (.invokevirtual 30, 3) := by decide +kernel
theorem dX6_init_55 : decode cX6_init 55 = .ok (.return_, 1) := by decide +kernel
theorem dX6_in_0 : decode cX6_in 0 = .ok (.lload_n 0, 1) := by decide +kernel
theorem dX6_in_1 : decode cX6_in 1 = .ok (.lload_n 2, 1) := by decide +kernel
theorem dX6_in_2 : decode cX6_in 2 = .ok (.lcmp, 1) := by decide +kernel
theorem dX6_in_3 : decode cX6_in 3 = .ok (.ifCond .lt 14, 3) := by decide +kernel
theorem dX6_in_6 : decode cX6_in 6 = .ok (.lload_n 0, 1) := by decide +kernel
theorem dX6_in_7 : decode cX6_in 7 = .ok (.lload 4, 2) := by decide +kernel
theorem dX6_in_9 : decode cX6_in 9 = .ok (.lcmp, 1) := by decide +kernel
theorem dX6_in_10 : decode cX6_in 10 = .ok (.ifCond .gt 7, 3) := by decide +kernel
theorem dX6_in_13 : decode cX6_in 13 = .ok (.iconst 1, 1) := by decide +kernel
theorem dX6_in_14 : decode cX6_in 14 = .ok (.goto 4, 3) := by decide +kernel
theorem dX6_in_17 : decode cX6_in 17 = .ok (.iconst 0, 1) := by decide +kernel
theorem dX6_in_18 : decode cX6_in 18 = .ok (.ireturn, 1) := by decide +kernel
theorem dX6_has_0 : decode cX6_has 0 = .ok (.iload_n 0, 1) := by decide +kernel
theorem dX6_has_1 : decode cX6_has 1 = .ok (.iload_n 1, 1) := by decide +kernel
theorem dX6_has_2 : decode cX6_has 2 = .ok (.ishr, 1) := by decide +kernel
theorem dX6_has_3 : decode cX6_has 3 = .ok (.iconst 1, 1) := by decide +kernel
theorem dX6_has_4 : decode cX6_has 4 = .ok (.iand, 1) := by decide +kernel
theorem dX6_has_5 : decode cX6_has 5 = .ok (.iconst 1, 1) := by decide +kernel
theorem dX6_has_6 : decode cX6_has 6 = .ok (.if_icmp .ne 7, 3) := by decide +kernel
theorem dX6_has_9 : decode cX6_has 9 = .ok (.iconst 1, 1) := by decide +kernel
theorem dX6_has_10 : decode cX6_has 10 = .ok (.goto 4, 3) := by decide +kernel
theorem dX6_has_13 : decode cX6_has 13 = .ok (.iconst 0, 1) := by decide +kernel
theorem dX6_has_14 : decode cX6_has 14 = .ok (.ireturn, 1) := by decide +kernel
theorem dX6_bad_0 : decode cX6_bad 0 = .ok (.aload_n 0, 1) := by decide +kernel
theorem dX6_bad_1 : decode cX6_bad 1 = .ok (.getfield 20, 3) := by decide +kernel
theorem dX6_bad_4 : decode cX6_bad 4 = .ok (.iconst 0, 1) := by decide +kernel
theorem dX6_bad_5 : decode cX6_bad 5 = .ok (.dup2, 1) := by decide +kernel
theorem dX6_bad_6 : decode cX6_bad 6 = .ok (.iaload, 1) := by decide +kernel
theorem dX6_bad_7 : decode cX6_bad 7 = .ok (.iconst 1, 1) := by decide +kernel
theorem dX6_bad_8 : decode cX6_bad 8 = .ok (.iadd, 1) := by decide +kernel
theorem dX6_bad_9 : decode cX6_bad 9 = .ok (.iastore, 1) := by decide +kernel
theorem dX6_bad_10 : decode cX6_bad 10 = .ok (.bipush (-2), 2) := by decide +kernel
theorem dX6_bad_12 : decode cX6_bad 12 = .ok (.ireturn, 1) := by decide +kernel
theorem dX6_badAs_0 : decode cX6_badAs 0 = .ok (.aload_n 0, 1) := by decide +kernel
theorem dX6_badAs_1 : decode cX6_badAs 1 = .ok (.getfield 20, 3) := by decide +kernel
theorem dX6_badAs_4 : decode cX6_badAs 4 = .ok (.iconst 0, 1) := by decide +kernel
theorem dX6_badAs_5 : decode cX6_badAs 5 = .ok (.dup2, 1) := by decide +kernel
theorem dX6_badAs_6 : decode cX6_badAs 6 = .ok (.iaload, 1) := by decide +kernel
theorem dX6_badAs_7 : decode cX6_badAs 7 = .ok (.iconst 1, 1) := by decide +kernel
theorem dX6_badAs_8 : decode cX6_badAs 8 = .ok (.iadd, 1) := by decide +kernel
theorem dX6_badAs_9 : decode cX6_badAs 9 = .ok (.iastore, 1) := by decide +kernel
theorem dX6_badAs_10 : decode cX6_badAs 10 = .ok (.iload_n 1, 1) := by decide +kernel
theorem dX6_badAs_11 : decode cX6_badAs 11 = .ok (.ireturn, 1) := by decide +kernel
theorem dX6_no_0 : decode cX6_no 0 = .ok (.aload_n 0, 1) := by decide +kernel
theorem dX6_no_1 : decode cX6_no 1 = .ok (.getfield 20, 3) := by decide +kernel
theorem dX6_no_4 : decode cX6_no 4 = .ok (.iconst 1, 1) := by decide +kernel
theorem dX6_no_5 : decode cX6_no 5 = .ok (.dup2, 1) := by decide +kernel
theorem dX6_no_6 : decode cX6_no 6 = .ok (.iaload, 1) := by decide +kernel
theorem dX6_no_7 : decode cX6_no 7 = .ok (.iconst 1, 1) := by decide +kernel
theorem dX6_no_8 : decode cX6_no 8 = .ok (.iadd, 1) := by decide +kernel
theorem dX6_no_9 : decode cX6_no 9 = .ok (.iastore, 1) := by decide +kernel
theorem dX6_no_10 : decode cX6_no 10 = .ok (.bipush (-3), 2) := by decide +kernel
theorem dX6_no_12 : decode cX6_no 12 = .ok (.ireturn, 1) := by decide +kernel
theorem dX6_full_0 : decode cX6_full 0 = .ok (.aload_n 0, 1) := by decide +kernel
theorem dX6_full_1 : decode cX6_full 1 = .ok (.getfield 20, 3) := by decide +kernel
theorem dX6_full_4 : decode cX6_full 4 = .ok (.iconst 2, 1) := by decide +kernel
theorem dX6_full_5 : decode cX6_full 5 = .ok (.dup2, 1) := by decide +kernel
theorem dX6_full_6 : decode cX6_full 6 = .ok (.iaload, 1) := by decide +kernel
theorem dX6_full_7 : decode cX6_full 7 = .ok (.iconst 1, 1) := by decide +kernel
theorem dX6_full_8 : decode cX6_full 8 = .ok (.iadd, 1) := by decide +kernel
theorem dX6_full_9 : decode cX6_full 9 = .ok (.iastore, 1) := by decide +kernel
theorem dX6_full_10 : decode cX6_full 10 = .ok (.bipush (-4), 2) := by decide +kernel
theorem dX6_full_12 : decode cX6_full 12 = .ok (.ireturn, 1) := by decide +kernel
theorem dX6_copy_0 : decode cX6_copy 0 = .ok (.iconst 0, 1) := by decide +kernel
theorem dX6_copy_1 : decode cX6_copy 1 = .ok (.istore_n 3, 1) := by decide +kernel
theorem dX6_copy_2 : decode cX6_copy 2 = .ok (.iload_n 3, 1) := by decide +kernel
theorem dX6_copy_3 : decode cX6_copy 3 = .ok (.bipush 49, 2) := by decide +kernel
theorem dX6_copy_5 : decode cX6_copy 5 = .ok (.if_icmp .ge 25, 3) := by decide +kernel
theorem dX6_copy_8 : decode cX6_copy 8 = .ok (.aload_n 0, 1) := by decide +kernel
theorem dX6_copy_9 : decode cX6_copy 9 = .ok (.getfield 7, 3) := by decide +kernel
theorem dX6_copy_12 : decode cX6_copy 12 = .ok (.iload_n 2, 1) := by decide +kernel
theorem dX6_copy_13 : decode cX6_copy 13 = .ok (.iload_n 3, 1) := by decide +kernel
theorem dX6_copy_14 : decode cX6_copy 14 = .ok (.iadd, 1) := by decide +kernel
theorem dX6_copy_15 : decode cX6_copy 15 = .ok (.aload_n 0, 1) := by decide +kernel
theorem dX6_copy_16 : decode cX6_copy 16 = .ok (.getfield 7, 3) := by decide +kernel
theorem dX6_copy_19 : decode cX6_copy 19 = .ok (.iload_n 1, 1) := by decide +kernel
theorem dX6_copy_20 : decode cX6_copy 20 = .ok (.iload_n 3, 1) := by decide +kernel
theorem dX6_copy_21 : decode cX6_copy 21 = .ok (.iadd, 1) := by decide +kernel
theorem dX6_copy_22 : decode cX6_copy 22 = .ok (.iaload, 1) := by decide +kernel
theorem dX6_copy_23 : decode cX6_copy 23 = .ok (.iastore, 1) := by decide +kernel
theorem dX6_copy_24 : decode cX6_copy 24 = .ok (.iinc 3 1, 3) := by decide +kernel
theorem dX6_copy_27 : decode cX6_copy 27 = .ok (.goto (-25), 3) := by decide +kernel
theorem dX6_copy_30 : decode cX6_copy 30 = .ok (.return_, 1) := by decide +kernel
theorem dX6_begins_0 : decode cX6_begins 0 = .ok (.iconst 0, 1) := by decide +kernel
theorem dX6_begins_1 : decode cX6_begins 1 = .ok (.istore_n 3, 1) := by decide +kernel
theorem dX6_begins_2 : decode cX6_begins 2 = .ok (.iload_n 3, 1) := by decide +kernel
theorem dX6_begins_3 : decode cX6_begins 3 = .ok (.bipush 49, 2) := by decide +kernel
theorem dX6_begins_5 : decode cX6_begins 5 = .ok (.if_icmp .ge 18, 3) := by decide +kernel
theorem dX6_begins_8 : decode cX6_begins 8 = .ok (.aload_n 0, 1) := by decide +kernel
theorem dX6_begins_9 : decode cX6_begins 9 = .ok (.getfield 7, 3) := by decide +kernel
theorem dX6_begins_12 : decode cX6_begins 12 = .ok (.iload_n 1, 1) := by decide +kernel
theorem dX6_begins_13 : decode cX6_begins 13 = .ok (.iload_n 3, 1) := by decide +kernel
theorem dX6_begins_14 : decode cX6_begins 14 = .ok (.iadd, 1) := by decide +kernel
theorem dX6_begins_15 : decode cX6_begins 15 = .ok (.iconst 0, 1) := by decide +kernel
theorem dX6_begins_16 : decode cX6_begins 16 = .ok (.iastore, 1) := by decide +kernel
theorem dX6_begins_17 : decode cX6_begins 17 = .ok (.iinc 3 1, 3) := by decide +kernel
theorem dX6_begins_20 : decode cX6_begins 20 = .ok (.goto (-18), 3) := by decide +kernel
theorem dX6_begins_23 : decode cX6_begins 23 = .ok (.aload_n 0, 1) := by decide +kernel
theorem dX6_begins_24 : decode cX6_begins 24 = .ok (.getfield 7, 3) := by decide +kernel
theorem dX6_begins_27 : decode cX6_begins 27 = .ok (.iload_n 1, 1) := by decide +kernel
theorem dX6_begins_28 : decode cX6_begins 28 = .ok (.iconst 1, 1) := by decide +kernel
theorem dX6_begins_29 : decode cX6_begins 29 = .ok (.iadd, 1) := by decide +kernel
theorem dX6_begins_30 : decode cX6_begins 30 = .ok (.iload_n 2, 1) := by decide +kernel
theorem dX6_begins_31 : decode cX6_begins 31 = .ok (.iastore, 1) := by decide +kernel
theorem dX6_begins_32 : decode cX6_begins 32 = .ok (.aload_n 0, 1) := by decide +kernel
theorem dX6_begins_33 : decode cX6_begins 33 = .ok (.getfield 7, 3) := by decide +kernel
theorem dX6_begins_36 : decode cX6_begins 36 = .ok (.iload_n 1, 1) := by decide +kernel
theorem dX6_begins_37 : decode cX6_begins 37 = .ok (.bipush 13, 2) := by decide +kernel
theorem dX6_begins_39 : decode cX6_begins 39 = .ok (.iadd, 1) := by decide +kernel
theorem dX6_begins_40 : decode cX6_begins 40 = .ok (.bipush 10, 2) := by decide +kernel
theorem dX6_begins_42 : decode cX6_begins 42 = .ok (.iastore, 1) := by decide +kernel
theorem dX6_begins_43 : decode cX6_begins 43 = .ok (.aload_n 0, 1) := by decide +kernel
theorem dX6_begins_44 : decode cX6_begins 44 = .ok (.getfield 7, 3) := by decide +kernel
theorem dX6_begins_47 : decode cX6_begins 47 = .ok (.iload_n 1, 1) := by decide +kernel
theorem dX6_begins_48 : decode cX6_begins 48 = .ok (.bipush 13, 2) := by decide +kernel
theorem dX6_begins_50 : decode cX6_begins 50 = .ok (.iadd, 1) := by decide +kernel
theorem dX6_begins_51 : decode cX6_begins 51 = .ok (.iconst 1, 1) := by decide +kernel
theorem dX6_begins_52 : decode cX6_begins 52 = .ok (.iadd, 1) := by decide +kernel
theorem dX6_begins_53 : decode cX6_begins 53 = .ok (.bipush 10, 2) := by decide +kernel
theorem dX6_begins_55 : decode cX6_begins 55 = .ok (.iastore, 1) := by decide +kernel
theorem dX6_begins_56 : decode cX6_begins 56 = .ok (.return_, 1) := by decide +kernel
set_option maxRecDepth 20000 in
theorem ggX6_isFloor_X6_in : GoodIn wsX6_isFloor wsX6_in := goodIn_r _ [5] (by decide +kernel) (by decide +kernel)
set_option maxRecDepth 20000 in
theorem gX6_isFloor_X6_in : GoodIn wsX6_isFloor (va_wsS RX6 34 yX6_in wsX6_in) := goodIn_app (goodIn_of _ (by decide +kernel)) ggX6_isFloor_X6_in
theorem dX6_isFloor_0 : decode cX6_isFloor 0 = .ok (.iload_n 1, 1) := by decide +kernel
theorem dX6_isFloor_1 : decode cX6_isFloor 1 = .ok (.i2l, 1) := by decide +kernel
theorem dX6_isFloor_2 : decode cX6_isFloor 2 = .ok (.lconst 0, 1) := by decide +kernel
theorem dX6_isFloor_3 : decode cX6_isFloor 3 = .ok (.aload_n 0, 1) := by decide +kernel
theorem dX6_isFloor_4 : decode cX6_isFloor 4 = .ok (.getfield 7, 3) := by decide +kernel
theorem dX6_isFloor_7 : decode cX6_isFloor 7 = .ok (.iconst 1, 1) := by decide +kernel
theorem dX6_isFloor_8 : decode cX6_isFloor 8 = .ok (.iaload, 1) := by decide +kernel
theorem dX6_isFloor_9 : decode cX6_isFloor 9 = .ok (.i2l, 1) := by decide +kernel
theorem dX6_isFloor_10 : decode cX6_isFloor 10 = .ok (.invokestatic 34, 3) := by decide +kernel
theorem dX6_isFloor_13 : decode cX6_isFloor 13 = .ok (.ireturn, 1) := by decide +kernel
set_option maxRecDepth 20000 in
theorem ggX6_isLift_X6_in : GoodIn wsX6_isLift wsX6_in := goodIn_r _ [5] (by decide +kernel) (by decide +kernel)
set_option maxRecDepth 20000 in
theorem gX6_isLift_X6_in : GoodIn wsX6_isLift (va_wsS RX6 34 yX6_in wsX6_in) := goodIn_app (goodIn_of _ (by decide +kernel)) ggX6_isLift_X6_in
theorem dX6_isLift_0 : decode cX6_isLift 0 = .ok (.iload_n 1, 1) := by decide +kernel
theorem dX6_isLift_1 : decode cX6_isLift 1 = .ok (.i2l, 1) := by decide +kernel
theorem dX6_isLift_2 : decode cX6_isLift 2 = .ok (.lconst 0, 1) := by decide +kernel
theorem dX6_isLift_3 : decode cX6_isLift 3 = .ok (.aload_n 0, 1) := by decide +kernel
theorem dX6_isLift_4 : decode cX6_isLift 4 = .ok (.getfield 7, 3) := by decide +kernel
theorem dX6_isLift_7 : decode cX6_isLift 7 = .ok (.iconst 0, 1) := by decide +kernel
theorem dX6_isLift_8 : decode cX6_isLift 8 = .ok (.iaload, 1) := by decide +kernel
theorem dX6_isLift_9 : decode cX6_isLift 9 = .ok (.iconst 1, 1) := by decide +kernel
theorem dX6_isLift_10 : decode cX6_isLift 10 = .ok (.isub, 1) := by decide +kernel
theorem dX6_isLift_11 : decode cX6_isLift 11 = .ok (.i2l, 1) := by decide +kernel
theorem dX6_isLift_12 : decode cX6_isLift 12 = .ok (.invokestatic 34, 3) := by decide +kernel
theorem dX6_isLift_15 : decode cX6_isLift 15 = .ok (.ireturn, 1) := by decide +kernel
set_option maxRecDepth 20000 in
theorem ggX6_isMinute_X6_in : GoodIn wsX6_isMinute wsX6_in := goodIn_r _ [5] (by decide +kernel) (by decide +kernel)
set_option maxRecDepth 20000 in
theorem gX6_isMinute_X6_in : GoodIn wsX6_isMinute (va_wsS RX6 34 yX6_in wsX6_in) := goodIn_app (goodIn_of _ (by decide +kernel)) ggX6_isMinute_X6_in
theorem dX6_isMinute_0 : decode cX6_isMinute 0 = .ok (.iload_n 0, 1) := by decide +kernel
theorem dX6_isMinute_1 : decode cX6_isMinute 1 = .ok (.i2l, 1) := by decide +kernel
theorem dX6_isMinute_2 : decode cX6_isMinute 2 = .ok (.lconst 0, 1) := by decide +kernel
theorem dX6_isMinute_3 : decode cX6_isMinute 3 = .ok (.ldc2_w 38, 3) := by decide +kernel
theorem dX6_isMinute_6 : decode cX6_isMinute 6 = .ok (.invokestatic 34, 3) := by decide +kernel
theorem dX6_isMinute_9 : decode cX6_isMinute 9 = .ok (.ireturn, 1) := by decide +kernel
set_option maxRecDepth 20000 in
theorem ggX6_house_X6_in : GoodIn wsX6_house wsX6_in := goodIn_r _ [6] (by decide +kernel) (by decide +kernel)
set_option maxRecDepth 20000 in
theorem gX6_house_X6_in : GoodIn wsX6_house (va_wsS RX6 34 yX6_in wsX6_in) := goodIn_app (goodIn_of _ (by decide +kernel)) ggX6_house_X6_in
set_option maxRecDepth 20000 in
theorem ggX6_house_X6_bad : GoodIn wsX6_house wsX6_bad := goodIn_r _ [10, 11, 16, 17, 18, 19, 20, 21, 22, 23, 24, 25, 26, 27, 28, 29, 30] (by decide +kernel) (by decide +kernel)
set_option maxRecDepth 20000 in
theorem gX6_house_X6_bad : GoodIn wsX6_house (wsV RX6 42 RX6 yX6_bad wsX6_bad) := goodIn_app (goodIn_of _ (by decide +kernel)) ggX6_house_X6_bad
set_option maxRecDepth 20000 in
theorem ggX6_house_X6_begins : GoodIn wsX6_house wsX6_begins := goodIn_r _ [15, 2, 16, 17, 18, 19, 20, 21, 22, 23, 24, 25, 26, 27, 28, 29, 30] (by decide +kernel) (by decide +kernel)
set_option maxRecDepth 20000 in
theorem gX6_house_X6_begins : GoodIn wsX6_house (wsV RX6 30 RX6 yX6_begins wsX6_begins) := goodIn_app (goodIn_of _ (by decide +kernel)) ggX6_house_X6_begins
theorem dX6_house_0 : decode cX6_house 0 = .ok (.iload_n 1, 1) := by decide +kernel
theorem dX6_house_1 : decode cX6_house 1 = .ok (.i2l, 1) := by decide +kernel
theorem dX6_house_2 : decode cX6_house 2 = .ok (.lconst 1, 1) := by decide +kernel
theorem dX6_house_3 : decode cX6_house 3 = .ok (.ldc2_w 40, 3) := by decide +kernel
theorem dX6_house_6 : decode cX6_house 6 = .ok (.invokestatic 34, 3) := by decide +kernel
theorem dX6_house_9 : decode cX6_house 9 = .ok (.ifCond .ne 8, 3) := by decide +kernel
theorem dX6_house_12 : decode cX6_house 12 = .ok (.aload_n 0, 1) := by decide +kernel
theorem dX6_house_13 : decode cX6_house 13 = .ok (.invokevirtual 42, 3) := by decide +kernel
theorem dX6_house_16 : decode cX6_house 16 = .ok (.ireturn, 1) := by decide +kernel
theorem dX6_house_17 : decode cX6_house 17 = .ok (.aload_n 0, 1) := by decide +kernel
theorem dX6_house_18 : decode cX6_house 18 = .ok (.getfield 7, 3) := by decide +kernel
theorem dX6_house_21 : decode cX6_house 21 = .ok (.iconst 0, 1) := by decide +kernel
theorem dX6_house_22 : decode cX6_house 22 = .ok (.iaload, 1) := by decide +kernel
theorem dX6_house_23 : decode cX6_house 23 = .ok (.istore_n 2, 1) := by decide +kernel
theorem dX6_house_24 : decode cX6_house 24 = .ok (.aload_n 0, 1) := by decide +kernel
theorem dX6_house_25 : decode cX6_house 25 = .ok (.iconst 0, 1) := by decide +kernel
theorem dX6_house_26 : decode cX6_house 26 = .ok (.iload_n 1, 1) := by decide +kernel
theorem dX6_house_27 : decode cX6_house 27 = .ok (.invokevirtual 30, 3) := by decide +kernel
theorem dX6_house_30 : decode cX6_house 30 = .ok (.iload_n 2, 1) := by decide +kernel
theorem dX6_house_31 : decode cX6_house 31 = .ok (.ireturn, 1) := by decide +kernel
theorem dX6_adds_0 : decode cX6_adds 0 = .ok (.aload_n 0, 1) := by decide +kernel
theorem dX6_adds_1 : decode cX6_adds 1 = .ok (.getfield 7, 3) := by decide +kernel
theorem dX6_adds_4 : decode cX6_adds 4 = .ok (.iload_n 1, 1) := by decide +kernel
theorem dX6_adds_5 : decode cX6_adds 5 = .ok (.iconst 0, 1) := by decide +kernel
theorem dX6_adds_6 : decode cX6_adds 6 = .ok (.iadd, 1) := by decide +kernel
theorem dX6_adds_7 : decode cX6_adds 7 = .ok (.iaload, 1) := by decide +kernel
theorem dX6_adds_8 : decode cX6_adds 8 = .ok (.istore 4, 2) := by decide +kernel
theorem dX6_adds_10 : decode cX6_adds 10 = .ok (.aload_n 0, 1) := by decide +kernel
theorem dX6_adds_11 : decode cX6_adds 11 = .ok (.getfield 7, 3) := by decide +kernel
theorem dX6_adds_14 : decode cX6_adds 14 = .ok (.iload_n 1, 1) := by decide +kernel
theorem dX6_adds_15 : decode cX6_adds 15 = .ok (.iconst 5, 1) := by decide +kernel
theorem dX6_adds_16 : decode cX6_adds 16 = .ok (.iadd, 1) := by decide +kernel
theorem dX6_adds_17 : decode cX6_adds 17 = .ok (.iload 4, 2) := by decide +kernel
theorem dX6_adds_19 : decode cX6_adds 19 = .ok (.iadd, 1) := by decide +kernel
theorem dX6_adds_20 : decode cX6_adds 20 = .ok (.iload_n 2, 1) := by decide +kernel
theorem dX6_adds_21 : decode cX6_adds 21 = .ok (.iastore, 1) := by decide +kernel
theorem dX6_adds_22 : decode cX6_adds 22 = .ok (.aload_n 0, 1) := by decide +kernel
theorem dX6_adds_23 : decode cX6_adds 23 = .ok (.getfield 7, 3) := by decide +kernel
theorem dX6_adds_26 : decode cX6_adds 26 = .ok (.iload_n 1, 1) := by decide +kernel
theorem dX6_adds_27 : decode cX6_adds 27 = .ok (.bipush 9, 2) := by decide +kernel
theorem dX6_adds_29 : decode cX6_adds 29 = .ok (.iadd, 1) := by decide +kernel
theorem dX6_adds_30 : decode cX6_adds 30 = .ok (.iload 4, 2) := by decide +kernel
theorem dX6_adds_32 : decode cX6_adds 32 = .ok (.iadd, 1) := by decide +kernel
theorem dX6_adds_33 : decode cX6_adds 33 = .ok (.iload_n 3, 1) := by decide +kernel
theorem dX6_adds_34 : decode cX6_adds 34 = .ok (.iastore, 1) := by decide +kernel
theorem dX6_adds_35 : decode cX6_adds 35 = .ok (.aload_n 0, 1) := by decide +kernel
theorem dX6_adds_36 : decode cX6_adds 36 = .ok (.getfield 7, 3) := by decide +kernel
theorem dX6_adds_39 : decode cX6_adds 39 = .ok (.iload_n 1, 1) := by decide +kernel
theorem dX6_adds_40 : decode cX6_adds 40 = .ok (.iconst 0, 1) := by decide +kernel
theorem dX6_adds_41 : decode cX6_adds 41 = .ok (.iadd, 1) := by decide +kernel
theorem dX6_adds_42 : decode cX6_adds 42 = .ok (.dup2, 1) := by decide +kernel
theorem dX6_adds_43 : decode cX6_adds 43 = .ok (.iaload, 1) := by decide +kernel
theorem dX6_adds_44 : decode cX6_adds 44 = .ok (.iconst 1, 1) := by decide +kernel
theorem dX6_adds_45 : decode cX6_adds 45 = .ok (.iadd, 1) := by decide +kernel
theorem dX6_adds_46 : decode cX6_adds 46 = .ok (.iastore, 1) := by decide +kernel
theorem dX6_adds_47 : decode cX6_adds 47 = .ok (.iload 4, 2) := by decide +kernel
theorem dX6_adds_49 : decode cX6_adds 49 = .ok (.ireturn, 1) := by decide +kernel
set_option maxRecDepth 20000 in
theorem ggX6_lift_X6_in : GoodIn wsX6_lift wsX6_in := goodIn_r _ [7] (by decide +kernel) (by decide +kernel)
set_option maxRecDepth 20000 in
theorem gX6_lift_X6_in : GoodIn wsX6_lift (va_wsS RX6 34 yX6_in wsX6_in) := goodIn_app (goodIn_of _ (by decide +kernel)) ggX6_lift_X6_in
set_option maxRecDepth 20000 in
theorem ggX6_lift_X6_bad : GoodIn wsX6_lift wsX6_bad := goodIn_r _ [11, 12, 21, 22, 23, 24, 25, 26, 27, 28, 29, 30, 31, 32, 33, 34, 35] (by decide +kernel) (by decide +kernel)
set_option maxRecDepth 20000 in
theorem gX6_lift_X6_bad : GoodIn wsX6_lift (wsV RX6 42 RX6 yX6_bad wsX6_bad) := goodIn_app (goodIn_of _ (by decide +kernel)) ggX6_lift_X6_bad
set_option maxRecDepth 20000 in
theorem ggX6_lift_X6_full : GoodIn wsX6_lift wsX6_full := goodIn_r _ [16, 12, 21, 22, 23, 24, 25, 26, 27, 28, 29, 30, 31, 32, 33, 34, 35] (by decide +kernel) (by decide +kernel)
set_option maxRecDepth 20000 in
theorem gX6_lift_X6_full : GoodIn wsX6_lift (wsV RX6 50 RX6 yX6_full wsX6_full) := goodIn_app (goodIn_of _ (by decide +kernel)) ggX6_lift_X6_full
set_option maxRecDepth 20000 in
theorem ggX6_lift_X6_adds : GoodIn wsX6_lift wsX6_adds := goodIn_r _ [20, 3, 21, 22, 23, 24, 25, 26, 27, 28, 29, 30, 31, 32, 33, 34, 35] (by decide +kernel) (by decide +kernel)
set_option maxRecDepth 20000 in
theorem gX6_lift_X6_adds : GoodIn wsX6_lift (wsV RX6 53 RX6 yX6_adds wsX6_adds) := goodIn_app (goodIn_of _ (by decide +kernel)) ggX6_lift_X6_adds
theorem dX6_lift_0 : decode cX6_lift 0 = .ok (.iload_n 1, 1) := by decide +kernel
theorem dX6_lift_1 : decode cX6_lift 1 = .ok (.i2l, 1) := by decide +kernel
theorem dX6_lift_2 : decode cX6_lift 2 = .ok (.lconst 0, 1) := by decide +kernel
theorem dX6_lift_3 : decode cX6_lift 3 = .ok (.ldc2_w 46, 3) := by decide +kernel
theorem dX6_lift_6 : decode cX6_lift 6 = .ok (.invokestatic 34, 3) := by decide +kernel
theorem dX6_lift_9 : decode cX6_lift 9 = .ok (.ifCond .eq 15, 3) := by decide +kernel
theorem dX6_lift_12 : decode cX6_lift 12 = .ok (.iload_n 2, 1) := by decide +kernel
theorem dX6_lift_13 : decode cX6_lift 13 = .ok (.i2l, 1) := by decide +kernel
theorem dX6_lift_14 : decode cX6_lift 14 = .ok (.lconst 0, 1) := by decide +kernel
theorem dX6_lift_15 : decode cX6_lift 15 = .ok (.ldc2_w 48, 3) := by decide +kernel
theorem dX6_lift_18 : decode cX6_lift 18 = .ok (.invokestatic 34, 3) := by decide +kernel
theorem dX6_lift_21 : decode cX6_lift 21 = .ok (.ifCond .ne 8, 3) := by decide +kernel
theorem dX6_lift_24 : decode cX6_lift 24 = .ok (.aload_n 0, 1) := by decide +kernel
theorem dX6_lift_25 : decode cX6_lift 25 = .ok (.invokevirtual 42, 3) := by decide +kernel
theorem dX6_lift_28 : decode cX6_lift 28 = .ok (.ireturn, 1) := by decide +kernel
theorem dX6_lift_29 : decode cX6_lift 29 = .ok (.aload_n 0, 1) := by decide +kernel
theorem dX6_lift_30 : decode cX6_lift 30 = .ok (.getfield 7, 3) := by decide +kernel
theorem dX6_lift_33 : decode cX6_lift 33 = .ok (.iconst 0, 1) := by decide +kernel
theorem dX6_lift_34 : decode cX6_lift 34 = .ok (.iaload, 1) := by decide +kernel
theorem dX6_lift_35 : decode cX6_lift 35 = .ok (.iconst 4, 1) := by decide +kernel
theorem dX6_lift_36 : decode cX6_lift 36 = .ok (.if_icmp .ne 8, 3) := by decide +kernel
theorem dX6_lift_39 : decode cX6_lift 39 = .ok (.aload_n 0, 1) := by decide +kernel
theorem dX6_lift_40 : decode cX6_lift 40 = .ok (.invokevirtual 50, 3) := by decide +kernel
theorem dX6_lift_43 : decode cX6_lift 43 = .ok (.ireturn, 1) := by decide +kernel
theorem dX6_lift_44 : decode cX6_lift 44 = .ok (.aload_n 0, 1) := by decide +kernel
theorem dX6_lift_45 : decode cX6_lift 45 = .ok (.getfield 7, 3) := by decide +kernel
theorem dX6_lift_48 : decode cX6_lift 48 = .ok (.iconst 4, 1) := by decide +kernel
theorem dX6_lift_49 : decode cX6_lift 49 = .ok (.iconst 0, 1) := by decide +kernel
theorem dX6_lift_50 : decode cX6_lift 50 = .ok (.iastore, 1) := by decide +kernel
theorem dX6_lift_51 : decode cX6_lift 51 = .ok (.aload_n 0, 1) := by decide +kernel
theorem dX6_lift_52 : decode cX6_lift 52 = .ok (.iconst 0, 1) := by decide +kernel
theorem dX6_lift_53 : decode cX6_lift 53 = .ok (.iload_n 1, 1) := by decide +kernel
theorem dX6_lift_54 : decode cX6_lift 54 = .ok (.iload_n 2, 1) := by decide +kernel
theorem dX6_lift_55 : decode cX6_lift 55 = .ok (.invokevirtual 53, 3) := by decide +kernel
theorem dX6_lift_58 : decode cX6_lift 58 = .ok (.ireturn, 1) := by decide +kernel
set_option maxRecDepth 20000 in
theorem ggX6_line_X6_in : GoodIn wsX6_line wsX6_in := goodIn_r _ [7] (by decide +kernel) (by decide +kernel)
set_option maxRecDepth 20000 in
theorem gX6_line_X6_in : GoodIn wsX6_line (va_wsS RX6 34 yX6_in wsX6_in) := goodIn_app (goodIn_of _ (by decide +kernel)) ggX6_line_X6_in
set_option maxRecDepth 20000 in
theorem ggX6_line_X6_bad : GoodIn wsX6_line wsX6_bad := goodIn_r _ [11, 12, 13, 14, 15, 16, 17, 18, 19, 20, 21, 22, 23, 24, 25, 26, 27] (by decide +kernel) (by decide +kernel)
set_option maxRecDepth 20000 in
theorem gX6_line_X6_bad : GoodIn wsX6_line (wsV RX6 42 RX6 yX6_bad wsX6_bad) := goodIn_app (goodIn_of _ (by decide +kernel)) ggX6_line_X6_bad
theorem dX6_line_0 : decode cX6_line 0 = .ok (.iload_n 1, 1) := by decide +kernel
theorem dX6_line_1 : decode cX6_line 1 = .ok (.i2l, 1) := by decide +kernel
theorem dX6_line_2 : decode cX6_line 2 = .ok (.lconst 0, 1) := by decide +kernel
theorem dX6_line_3 : decode cX6_line 3 = .ok (.lconst 1, 1) := by decide +kernel
theorem dX6_line_4 : decode cX6_line 4 = .ok (.invokestatic 34, 3) := by decide +kernel
theorem dX6_line_7 : decode cX6_line 7 = .ok (.ifCond .eq 27, 3) := by decide +kernel
theorem dX6_line_10 : decode cX6_line 10 = .ok (.iload_n 2, 1) := by decide +kernel
theorem dX6_line_11 : decode cX6_line 11 = .ok (.i2l, 1) := by decide +kernel
theorem dX6_line_12 : decode cX6_line 12 = .ok (.lconst 1, 1) := by decide +kernel
theorem dX6_line_13 : decode cX6_line 13 = .ok (.ldc2_w 57, 3) := by decide +kernel
theorem dX6_line_16 : decode cX6_line 16 = .ok (.invokestatic 34, 3) := by decide +kernel
theorem dX6_line_19 : decode cX6_line 19 = .ok (.ifCond .eq 15, 3) := by decide +kernel
theorem dX6_line_22 : decode cX6_line 22 = .ok (.iload_n 3, 1) := by decide +kernel
theorem dX6_line_23 : decode cX6_line 23 = .ok (.i2l, 1) := by decide +kernel
theorem dX6_line_24 : decode cX6_line 24 = .ok (.lconst 0, 1) := by decide +kernel
theorem dX6_line_25 : decode cX6_line 25 = .ok (.ldc2_w 59, 3) := by decide +kernel
theorem dX6_line_28 : decode cX6_line 28 = .ok (.invokestatic 34, 3) := by decide +kernel
theorem dX6_line_31 : decode cX6_line 31 = .ok (.ifCond .ne 8, 3) := by decide +kernel
theorem dX6_line_34 : decode cX6_line 34 = .ok (.aload_n 0, 1) := by decide +kernel
theorem dX6_line_35 : decode cX6_line 35 = .ok (.invokevirtual 42, 3) := by decide +kernel
theorem dX6_line_38 : decode cX6_line 38 = .ok (.ireturn, 1) := by decide +kernel
theorem dX6_line_39 : decode cX6_line 39 = .ok (.bipush 100, 2) := by decide +kernel
theorem dX6_line_41 : decode cX6_line 41 = .ok (.aload_n 0, 1) := by decide +kernel
theorem dX6_line_42 : decode cX6_line 42 = .ok (.getfield 7, 3) := by decide +kernel
theorem dX6_line_45 : decode cX6_line 45 = .ok (.bipush 13, 2) := by decide +kernel
theorem dX6_line_47 : decode cX6_line 47 = .ok (.iload_n 1, 1) := by decide +kernel
theorem dX6_line_48 : decode cX6_line 48 = .ok (.iadd, 1) := by decide +kernel
theorem dX6_line_49 : decode cX6_line 49 = .ok (.iaload, 1) := by decide +kernel
theorem dX6_line_50 : decode cX6_line 50 = .ok (.imul, 1) := by decide +kernel
theorem dX6_line_51 : decode cX6_line 51 = .ok (.aload_n 0, 1) := by decide +kernel
theorem dX6_line_52 : decode cX6_line 52 = .ok (.getfield 7, 3) := by decide +kernel
theorem dX6_line_55 : decode cX6_line 55 = .ok (.bipush 15, 2) := by decide +kernel
theorem dX6_line_57 : decode cX6_line 57 = .ok (.iload_n 1, 1) := by decide +kernel
theorem dX6_line_58 : decode cX6_line 58 = .ok (.iadd, 1) := by decide +kernel
theorem dX6_line_59 : decode cX6_line 59 = .ok (.iaload, 1) := by decide +kernel
theorem dX6_line_60 : decode cX6_line 60 = .ok (.iadd, 1) := by decide +kernel
theorem dX6_line_61 : decode cX6_line 61 = .ok (.istore 4, 2) := by decide +kernel
theorem dX6_line_63 : decode cX6_line 63 = .ok (.aload_n 0, 1) := by decide +kernel
theorem dX6_line_64 : decode cX6_line 64 = .ok (.getfield 7, 3) := by decide +kernel
theorem dX6_line_67 : decode cX6_line 67 = .ok (.bipush 13, 2) := by decide +kernel
theorem dX6_line_69 : decode cX6_line 69 = .ok (.iload_n 1, 1) := by decide +kernel
theorem dX6_line_70 : decode cX6_line 70 = .ok (.iadd, 1) := by decide +kernel
theorem dX6_line_71 : decode cX6_line 71 = .ok (.iload_n 2, 1) := by decide +kernel
theorem dX6_line_72 : decode cX6_line 72 = .ok (.iastore, 1) := by decide +kernel
theorem dX6_line_73 : decode cX6_line 73 = .ok (.aload_n 0, 1) := by decide +kernel
theorem dX6_line_74 : decode cX6_line 74 = .ok (.getfield 7, 3) := by decide +kernel
theorem dX6_line_77 : decode cX6_line 77 = .ok (.bipush 15, 2) := by decide +kernel
theorem dX6_line_79 : decode cX6_line 79 = .ok (.iload_n 1, 1) := by decide +kernel
theorem dX6_line_80 : decode cX6_line 80 = .ok (.iadd, 1) := by decide +kernel
theorem dX6_line_81 : decode cX6_line 81 = .ok (.iload_n 3, 1) := by decide +kernel
theorem dX6_line_82 : decode cX6_line 82 = .ok (.iastore, 1) := by decide +kernel
theorem dX6_line_83 : decode cX6_line 83 = .ok (.iload 4, 2) := by decide +kernel
theorem dX6_line_85 : decode cX6_line 85 = .ok (.ireturn, 1) := by decide +kernel
set_option maxRecDepth 20000 in
theorem ggX6_type_X6_in : GoodIn wsX6_type wsX6_in := goodIn_r _ [7] (by decide +kernel) (by decide +kernel)
set_option maxRecDepth 20000 in
theorem gX6_type_X6_in : GoodIn wsX6_type (va_wsS RX6 34 yX6_in wsX6_in) := goodIn_app (goodIn_of _ (by decide +kernel)) ggX6_type_X6_in
set_option maxRecDepth 20000 in
theorem ggX6_type_X6_bad : GoodIn wsX6_type wsX6_bad := goodIn_r _ [11, 12, 17, 18, 19, 20, 21, 22, 23, 24, 25, 26, 27, 28, 29, 30, 31] (by decide +kernel) (by decide +kernel)
set_option maxRecDepth 20000 in
theorem gX6_type_X6_bad : GoodIn wsX6_type (wsV RX6 42 RX6 yX6_bad wsX6_bad) := goodIn_app (goodIn_of _ (by decide +kernel)) ggX6_type_X6_bad
set_option maxRecDepth 20000 in
theorem ggX6_type_X6_full : GoodIn wsX6_type wsX6_full := goodIn_r _ [16, 12, 17, 18, 19, 20, 21, 22, 23, 24, 25, 26, 27, 28, 29, 30, 31] (by decide +kernel) (by decide +kernel)
set_option maxRecDepth 20000 in
theorem gX6_type_X6_full : GoodIn wsX6_type (wsV RX6 50 RX6 yX6_full wsX6_full) := goodIn_app (goodIn_of _ (by decide +kernel)) ggX6_type_X6_full
theorem dX6_type_0 : decode cX6_type 0 = .ok (.iload_n 1, 1) := by decide +kernel
theorem dX6_type_1 : decode cX6_type 1 = .ok (.i2l, 1) := by decide +kernel
theorem dX6_type_2 : decode cX6_type 2 = .ok (.lconst 0, 1) := by decide +kernel
theorem dX6_type_3 : decode cX6_type 3 = .ok (.ldc2_w 61, 3) := by decide +kernel
theorem dX6_type_6 : decode cX6_type 6 = .ok (.invokestatic 34, 3) := by decide +kernel
theorem dX6_type_9 : decode cX6_type 9 = .ok (.ifCond .ne 8, 3) := by decide +kernel
theorem dX6_type_12 : decode cX6_type 12 = .ok (.aload_n 0, 1) := by decide +kernel
theorem dX6_type_13 : decode cX6_type 13 = .ok (.invokevirtual 42, 3) := by decide +kernel
theorem dX6_type_16 : decode cX6_type 16 = .ok (.ireturn, 1) := by decide +kernel
theorem dX6_type_17 : decode cX6_type 17 = .ok (.aload_n 0, 1) := by decide +kernel
theorem dX6_type_18 : decode cX6_type 18 = .ok (.getfield 63, 3) := by decide +kernel
theorem dX6_type_21 : decode cX6_type 21 = .ok (.sipush 150, 3) := by decide +kernel
theorem dX6_type_24 : decode cX6_type 24 = .ok (.if_icmp .ne 8, 3) := by decide +kernel
theorem dX6_type_27 : decode cX6_type 27 = .ok (.aload_n 0, 1) := by decide +kernel
theorem dX6_type_28 : decode cX6_type 28 = .ok (.invokevirtual 50, 3) := by decide +kernel
theorem dX6_type_31 : decode cX6_type 31 = .ok (.ireturn, 1) := by decide +kernel
theorem dX6_type_32 : decode cX6_type 32 = .ok (.aload_n 0, 1) := by decide +kernel
theorem dX6_type_33 : decode cX6_type 33 = .ok (.getfield 17, 3) := by decide +kernel
theorem dX6_type_36 : decode cX6_type 36 = .ok (.aload_n 0, 1) := by decide +kernel
theorem dX6_type_37 : decode cX6_type 37 = .ok (.getfield 63, 3) := by decide +kernel
theorem dX6_type_40 : decode cX6_type 40 = .ok (.iload_n 1, 1) := by decide +kernel
theorem dX6_type_41 : decode cX6_type 41 = .ok (.iastore, 1) := by decide +kernel
theorem dX6_type_42 : decode cX6_type 42 = .ok (.aload_n 0, 1) := by decide +kernel
theorem dX6_type_43 : decode cX6_type 43 = .ok (.dup, 1) := by decide +kernel
theorem dX6_type_44 : decode cX6_type 44 = .ok (.getfield 63, 3) := by decide +kernel
theorem dX6_type_47 : decode cX6_type 47 = .ok (.iconst 1, 1) := by decide +kernel
theorem dX6_type_48 : decode cX6_type 48 = .ok (.iadd, 1) := by decide +kernel
theorem dX6_type_49 : decode cX6_type 49 = .ok (.putfield 63, 3) := by decide +kernel
theorem dX6_type_52 : decode cX6_type 52 = .ok (.aload_n 0, 1) := by decide +kernel
theorem dX6_type_53 : decode cX6_type 53 = .ok (.getfield 63, 3) := by decide +kernel
theorem dX6_type_56 : decode cX6_type 56 = .ok (.ireturn, 1) := by decide +kernel
theorem dX6_clear_0 : decode cX6_clear 0 = .ok (.aload_n 0, 1) := by decide +kernel
theorem dX6_clear_1 : decode cX6_clear 1 = .ok (.getfield 63, 3) := by decide +kernel
theorem dX6_clear_4 : decode cX6_clear 4 = .ok (.istore_n 1, 1) := by decide +kernel
theorem dX6_clear_5 : decode cX6_clear 5 = .ok (.aload_n 0, 1) := by decide +kernel
theorem dX6_clear_6 : decode cX6_clear 6 = .ok (.iconst 0, 1) := by decide +kernel
theorem dX6_clear_7 : decode cX6_clear 7 = .ok (.putfield 63, 3) := by decide +kernel
theorem dX6_clear_10 : decode cX6_clear 10 = .ok (.iload_n 1, 1) := by decide +kernel
theorem dX6_clear_11 : decode cX6_clear 11 = .ok (.ireturn, 1) := by decide +kernel
theorem dX6_byteAt_0 : decode cX6_byteAt 0 = .ok (.iload_n 1, 1) := by decide +kernel
theorem dX6_byteAt_1 : decode cX6_byteAt 1 = .ok (.aload_n 0, 1) := by decide +kernel
theorem dX6_byteAt_2 : decode cX6_byteAt 2 = .ok (.getfield 63, 3) := by decide +kernel
theorem dX6_byteAt_5 : decode cX6_byteAt 5 = .ok (.if_icmp .ge 12, 3) := by decide +kernel
theorem dX6_byteAt_8 : decode cX6_byteAt 8 = .ok (.aload_n 0, 1) := by decide +kernel
theorem dX6_byteAt_9 : decode cX6_byteAt 9 = .ok (.getfield 17, 3) := by decide +kernel
theorem dX6_byteAt_12 : decode cX6_byteAt 12 = .ok (.iload_n 1, 1) := by decide +kernel
theorem dX6_byteAt_13 : decode cX6_byteAt 13 = .ok (.iaload, 1) := by decide +kernel
theorem dX6_byteAt_14 : decode cX6_byteAt 14 = .ok (.goto 4, 3) := by decide +kernel
theorem dX6_byteAt_17 : decode cX6_byteAt 17 = .ok (.iconst (-1), 1) := by decide +kernel
theorem dX6_byteAt_18 : decode cX6_byteAt 18 = .ok (.ireturn, 1) := by decide +kernel
set_option maxRecDepth 20000 in
theorem ggX6_token_X6_byteAt : GoodIn wsX6_token wsX6_byteAt := goodIn_r _ [14, 9, 15, 19, 20, 21, 22, 23, 24, 25, 26, 27, 28, 29, 30, 31, 32, 33] (by decide +kernel) (by decide +kernel)
set_option maxRecDepth 20000 in
theorem gX6_token_X6_byteAt : GoodIn wsX6_token (wsV RX6 70 RX6 yX6_byteAt wsX6_byteAt) := goodIn_app (goodIn_of _ (by decide +kernel)) ggX6_token_X6_byteAt
set_option maxRecDepth 20000 in
theorem ggX6_token_X6_in : GoodIn wsX6_token wsX6_in := goodIn_r _ [18] (by decide +kernel) (by decide +kernel)
set_option maxRecDepth 20000 in
theorem gX6_token_X6_in : GoodIn wsX6_token (va_wsS RX6 34 yX6_in wsX6_in) := goodIn_app (goodIn_of _ (by decide +kernel)) ggX6_token_X6_in
theorem dX6_token_0 : decode cX6_token 0 = .ok (.aload_n 0, 1) := by decide +kernel
theorem dX6_token_1 : decode cX6_token 1 = .ok (.aload_n 0, 1) := by decide +kernel
theorem dX6_token_2 : decode cX6_token 2 = .ok (.getfield 67, 3) := by decide +kernel
theorem dX6_token_5 : decode cX6_token 5 = .ok (.invokevirtual 70, 3) := by decide +kernel
theorem dX6_token_8 : decode cX6_token 8 = .ok (.bipush 32, 2) := by decide +kernel
theorem dX6_token_10 : decode cX6_token 10 = .ok (.if_icmp .ne 16, 3) := by decide +kernel
theorem dX6_token_13 : decode cX6_token 13 = .ok (.aload_n 0, 1) := by decide +kernel
theorem dX6_token_14 : decode cX6_token 14 = .ok (.dup, 1) := by decide +kernel
theorem dX6_token_15 : decode cX6_token 15 = .ok (.getfield 67, 3) := by decide +kernel
theorem dX6_token_18 : decode cX6_token 18 = .ok (.iconst 1, 1) := by decide +kernel
theorem dX6_token_19 : decode cX6_token 19 = .ok (.iadd, 1) := by decide +kernel
theorem dX6_token_20 : decode cX6_token 20 = .ok (.putfield 67, 3) := by decide +kernel
theorem dX6_token_23 : decode cX6_token 23 = .ok (.goto (-23), 3) := by decide +kernel
theorem dX6_token_26 : decode cX6_token 26 = .ok (.aload_n 0, 1) := by decide +kernel
theorem dX6_token_27 : decode cX6_token 27 = .ok (.aload_n 0, 1) := by decide +kernel
theorem dX6_token_28 : decode cX6_token 28 = .ok (.getfield 67, 3) := by decide +kernel
theorem dX6_token_31 : decode cX6_token 31 = .ok (.putfield 74, 3) := by decide +kernel
theorem dX6_token_34 : decode cX6_token 34 = .ok (.aload_n 0, 1) := by decide +kernel
theorem dX6_token_35 : decode cX6_token 35 = .ok (.aload_n 0, 1) := by decide +kernel
theorem dX6_token_36 : decode cX6_token 36 = .ok (.aload_n 0, 1) := by decide +kernel
theorem dX6_token_37 : decode cX6_token 37 = .ok (.getfield 67, 3) := by decide +kernel
theorem dX6_token_40 : decode cX6_token 40 = .ok (.invokevirtual 70, 3) := by decide +kernel
theorem dX6_token_43 : decode cX6_token 43 = .ok (.i2l, 1) := by decide +kernel
theorem dX6_token_44 : decode cX6_token 44 = .ok (.ldc2_w 77, 3) := by decide +kernel
theorem dX6_token_47 : decode cX6_token 47 = .ok (.ldc2_w 79, 3) := by decide +kernel
theorem dX6_token_50 : decode cX6_token 50 = .ok (.invokestatic 34, 3) := by decide +kernel
theorem dX6_token_53 : decode cX6_token 53 = .ok (.putfield 81, 3) := by decide +kernel
theorem dX6_token_56 : decode cX6_token 56 = .ok (.aload_n 0, 1) := by decide +kernel
theorem dX6_token_57 : decode cX6_token 57 = .ok (.aload_n 0, 1) := by decide +kernel
theorem dX6_token_58 : decode cX6_token 58 = .ok (.aload_n 0, 1) := by decide +kernel
theorem dX6_token_59 : decode cX6_token 59 = .ok (.getfield 67, 3) := by decide +kernel
theorem dX6_token_62 : decode cX6_token 62 = .ok (.invokevirtual 70, 3) := by decide +kernel
theorem dX6_token_65 : decode cX6_token 65 = .ok (.i2l, 1) := by decide +kernel
theorem dX6_token_66 : decode cX6_token 66 = .ok (.ldc2_w 85, 3) := by decide +kernel
theorem dX6_token_69 : decode cX6_token 69 = .ok (.ldc2_w 87, 3) := by decide +kernel
theorem dX6_token_72 : decode cX6_token 72 = .ok (.invokestatic 34, 3) := by decide +kernel
theorem dX6_token_75 : decode cX6_token 75 = .ok (.putfield 89, 3) := by decide +kernel
theorem dX6_token_78 : decode cX6_token 78 = .ok (.aload_n 0, 1) := by decide +kernel
theorem dX6_token_79 : decode cX6_token 79 = .ok (.dup, 1) := by decide +kernel
theorem dX6_token_80 : decode cX6_token 80 = .ok (.getfield 67, 3) := by decide +kernel
theorem dX6_token_83 : decode cX6_token 83 = .ok (.aload_n 0, 1) := by decide +kernel
theorem dX6_token_84 : decode cX6_token 84 = .ok (.getfield 67, 3) := by decide +kernel
theorem dX6_token_87 : decode cX6_token 87 = .ok (.aload_n 0, 1) := by decide +kernel
theorem dX6_token_88 : decode cX6_token 88 = .ok (.getfield 63, 3) := by decide +kernel
theorem dX6_token_91 : decode cX6_token 91 = .ok (.if_icmp .ge 7, 3) := by decide +kernel
theorem dX6_token_94 : decode cX6_token 94 = .ok (.iconst 1, 1) := by decide +kernel
theorem dX6_token_95 : decode cX6_token 95 = .ok (.goto 4, 3) := by decide +kernel
theorem dX6_token_98 : decode cX6_token 98 = .ok (.iconst 0, 1) := by decide +kernel
theorem dX6_token_99 : decode cX6_token 99 = .ok (.iadd, 1) := by decide +kernel
theorem dX6_token_100 : decode cX6_token 100 = .ok (.putfield 67, 3) := by decide +kernel
theorem dX6_token_103 : decode cX6_token 103 = .ok (.aload_n 0, 1) := by decide +kernel
theorem dX6_token_104 : decode cX6_token 104 = .ok (.getfield 81, 3) := by decide +kernel
theorem dX6_token_107 : decode cX6_token 107 = .ok (.ifCond .eq 24, 3) := by decide +kernel
theorem dX6_token_110 : decode cX6_token 110 = .ok (.aload_n 0, 1) := by decide +kernel
theorem dX6_token_111 : decode cX6_token 111 = .ok (.aload_n 0, 1) := by decide +kernel
theorem dX6_token_112 : decode cX6_token 112 = .ok (.getfield 67, 3) := by decide +kernel
theorem dX6_token_115 : decode cX6_token 115 = .ok (.invokevirtual 70, 3) := by decide +kernel
theorem dX6_token_118 : decode cX6_token 118 = .ok (.i2l, 1) := by decide +kernel
theorem dX6_token_119 : decode cX6_token 119 = .ok (.ldc2_w 77, 3) := by decide +kernel
theorem dX6_token_122 : decode cX6_token 122 = .ok (.ldc2_w 79, 3) := by decide +kernel
theorem dX6_token_125 : decode cX6_token 125 = .ok (.invokestatic 34, 3) := by decide +kernel
theorem dX6_token_128 : decode cX6_token 128 = .ok (.ifCond .ne 31, 3) := by decide +kernel
theorem dX6_token_131 : decode cX6_token 131 = .ok (.aload_n 0, 1) := by decide +kernel
theorem dX6_token_132 : decode cX6_token 132 = .ok (.getfield 89, 3) := by decide +kernel
theorem dX6_token_135 : decode cX6_token 135 = .ok (.ifCond .eq 37, 3) := by decide +kernel
theorem dX6_token_138 : decode cX6_token 138 = .ok (.aload_n 0, 1) := by decide +kernel
theorem dX6_token_139 : decode cX6_token 139 = .ok (.aload_n 0, 1) := by decide +kernel
theorem dX6_token_140 : decode cX6_token 140 = .ok (.getfield 67, 3) := by decide +kernel
theorem dX6_token_143 : decode cX6_token 143 = .ok (.invokevirtual 70, 3) := by decide +kernel
theorem dX6_token_146 : decode cX6_token 146 = .ok (.i2l, 1) := by decide +kernel
theorem dX6_token_147 : decode cX6_token 147 = .ok (.ldc2_w 85, 3) := by decide +kernel
theorem dX6_token_150 : decode cX6_token 150 = .ok (.ldc2_w 87, 3) := by decide +kernel
theorem dX6_token_153 : decode cX6_token 153 = .ok (.invokestatic 34, 3) := by decide +kernel
theorem dX6_token_156 : decode cX6_token 156 = .ok (.ifCond .eq 16, 3) := by decide +kernel
theorem dX6_token_159 : decode cX6_token 159 = .ok (.aload_n 0, 1) := by decide +kernel
theorem dX6_token_160 : decode cX6_token 160 = .ok (.dup, 1) := by decide +kernel
theorem dX6_token_161 : decode cX6_token 161 = .ok (.getfield 67, 3) := by decide +kernel
theorem dX6_token_164 : decode cX6_token 164 = .ok (.iconst 1, 1) := by decide +kernel
theorem dX6_token_165 : decode cX6_token 165 = .ok (.iadd, 1) := by decide +kernel
theorem dX6_token_166 : decode cX6_token 166 = .ok (.putfield 67, 3) := by decide +kernel
theorem dX6_token_169 : decode cX6_token 169 = .ok (.goto (-66), 3) := by decide +kernel
theorem dX6_token_172 : decode cX6_token 172 = .ok (.return_, 1) := by decide +kernel
set_option maxRecDepth 20000 in
theorem ggX6_isNamed_X6_byteAt : GoodIn wsX6_isNamed wsX6_byteAt := goodIn_r _ [8, 9, 10, 11, 12, 13, 14, 15, 16, 17, 18, 19, 20, 21, 22, 23, 24, 25] (by decide +kernel) (by decide +kernel)
set_option maxRecDepth 20000 in
theorem gX6_isNamed_X6_byteAt : GoodIn wsX6_isNamed (wsV RX6 70 RX6 yX6_byteAt wsX6_byteAt) := goodIn_app (goodIn_of _ (by decide +kernel)) ggX6_isNamed_X6_byteAt
theorem dX6_isNamed_0 : decode cX6_isNamed 0 = .ok (.aload_n 0, 1) := by decide +kernel
theorem dX6_isNamed_1 : decode cX6_isNamed 1 = .ok (.getfield 81, 3) := by decide +kernel
theorem dX6_isNamed_4 : decode cX6_isNamed 4 = .ok (.ifCond .eq 29, 3) := by decide +kernel
theorem dX6_isNamed_7 : decode cX6_isNamed 7 = .ok (.aload_n 0, 1) := by decide +kernel
theorem dX6_isNamed_8 : decode cX6_isNamed 8 = .ok (.getfield 67, 3) := by decide +kernel
theorem dX6_isNamed_11 : decode cX6_isNamed 11 = .ok (.aload_n 0, 1) := by decide +kernel
theorem dX6_isNamed_12 : decode cX6_isNamed 12 = .ok (.getfield 74, 3) := by decide +kernel
theorem dX6_isNamed_15 : decode cX6_isNamed 15 = .ok (.isub, 1) := by decide +kernel
theorem dX6_isNamed_16 : decode cX6_isNamed 16 = .ok (.iload 5, 2) := by decide +kernel
theorem dX6_isNamed_18 : decode cX6_isNamed 18 = .ok (.ifCond .ne 7, 3) := by decide +kernel
theorem dX6_isNamed_21 : decode cX6_isNamed 21 = .ok (.iconst 4, 1) := by decide +kernel
theorem dX6_isNamed_22 : decode cX6_isNamed 22 = .ok (.goto 4, 3) := by decide +kernel
theorem dX6_isNamed_25 : decode cX6_isNamed 25 = .ok (.iconst 5, 1) := by decide +kernel
theorem dX6_isNamed_26 : decode cX6_isNamed 26 = .ok (.if_icmp .ne 7, 3) := by decide +kernel
theorem dX6_isNamed_29 : decode cX6_isNamed 29 = .ok (.iconst 1, 1) := by decide +kernel
theorem dX6_isNamed_30 : decode cX6_isNamed 30 = .ok (.goto 4, 3) := by decide +kernel
theorem dX6_isNamed_33 : decode cX6_isNamed 33 = .ok (.iconst 0, 1) := by decide +kernel
theorem dX6_isNamed_34 : decode cX6_isNamed 34 = .ok (.istore 6, 2) := by decide +kernel
theorem dX6_isNamed_36 : decode cX6_isNamed 36 = .ok (.iload 6, 2) := by decide +kernel
theorem dX6_isNamed_38 : decode cX6_isNamed 38 = .ok (.ifCond .eq 82, 3) := by decide +kernel
theorem dX6_isNamed_41 : decode cX6_isNamed 41 = .ok (.aload_n 0, 1) := by decide +kernel
theorem dX6_isNamed_42 : decode cX6_isNamed 42 = .ok (.aload_n 0, 1) := by decide +kernel
theorem dX6_isNamed_43 : decode cX6_isNamed 43 = .ok (.getfield 74, 3) := by decide +kernel
theorem dX6_isNamed_46 : decode cX6_isNamed 46 = .ok (.invokevirtual 70, 3) := by decide +kernel
theorem dX6_isNamed_49 : decode cX6_isNamed 49 = .ok (.iload_n 1, 1) := by decide +kernel
theorem dX6_isNamed_50 : decode cX6_isNamed 50 = .ok (.if_icmp .ne 70, 3) := by decide +kernel
theorem dX6_isNamed_53 : decode cX6_isNamed 53 = .ok (.aload_n 0, 1) := by decide +kernel
theorem dX6_isNamed_54 : decode cX6_isNamed 54 = .ok (.aload_n 0, 1) := by decide +kernel
theorem dX6_isNamed_55 : decode cX6_isNamed 55 = .ok (.getfield 74, 3) := by decide +kernel
theorem dX6_isNamed_58 : decode cX6_isNamed 58 = .ok (.iconst 1, 1) := by decide +kernel
theorem dX6_isNamed_59 : decode cX6_isNamed 59 = .ok (.iadd, 1) := by decide +kernel
theorem dX6_isNamed_60 : decode cX6_isNamed 60 = .ok (.invokevirtual 70, 3) := by decide +kernel
theorem dX6_isNamed_63 : decode cX6_isNamed 63 = .ok (.iload_n 2, 1) := by decide +kernel
theorem dX6_isNamed_64 : decode cX6_isNamed 64 = .ok (.if_icmp .ne 56, 3) := by decide +kernel
theorem dX6_isNamed_67 : decode cX6_isNamed 67 = .ok (.aload_n 0, 1) := by decide +kernel
theorem dX6_isNamed_68 : decode cX6_isNamed 68 = .ok (.aload_n 0, 1) := by decide +kernel
theorem dX6_isNamed_69 : decode cX6_isNamed 69 = .ok (.getfield 74, 3) := by decide +kernel
theorem dX6_isNamed_72 : decode cX6_isNamed 72 = .ok (.iconst 2, 1) := by decide +kernel
theorem dX6_isNamed_73 : decode cX6_isNamed 73 = .ok (.iadd, 1) := by decide +kernel
theorem dX6_isNamed_74 : decode cX6_isNamed 74 = .ok (.invokevirtual 70, 3) := by decide +kernel
theorem dX6_isNamed_77 : decode cX6_isNamed 77 = .ok (.iload_n 3, 1) := by decide +kernel
theorem dX6_isNamed_78 : decode cX6_isNamed 78 = .ok (.if_icmp .ne 42, 3) := by decide +kernel
theorem dX6_isNamed_81 : decode cX6_isNamed 81 = .ok (.aload_n 0, 1) := by decide +kernel
theorem dX6_isNamed_82 : decode cX6_isNamed 82 = .ok (.aload_n 0, 1) := by decide +kernel
theorem dX6_isNamed_83 : decode cX6_isNamed 83 = .ok (.getfield 74, 3) := by decide +kernel
theorem dX6_isNamed_86 : decode cX6_isNamed 86 = .ok (.iconst 3, 1) := by decide +kernel
theorem dX6_isNamed_87 : decode cX6_isNamed 87 = .ok (.iadd, 1) := by decide +kernel
theorem dX6_isNamed_88 : decode cX6_isNamed 88 = .ok (.invokevirtual 70, 3) := by decide +kernel
theorem dX6_isNamed_91 : decode cX6_isNamed 91 = .ok (.iload 4, 2) := by decide +kernel
theorem dX6_isNamed_93 : decode cX6_isNamed 93 = .ok (.if_icmp .ne 27, 3) := by decide +kernel
theorem dX6_isNamed_96 : decode cX6_isNamed 96 = .ok (.iload 5, 2) := by decide +kernel
theorem dX6_isNamed_98 : decode cX6_isNamed 98 = .ok (.ifCond .eq 18, 3) := by decide +kernel
theorem dX6_isNamed_101 : decode cX6_isNamed 101 = .ok (.aload_n 0, 1) := by decide +kernel
theorem dX6_isNamed_102 : decode cX6_isNamed 102 = .ok (.aload_n 0, 1) := by decide +kernel
theorem dX6_isNamed_103 : decode cX6_isNamed 103 = .ok (.getfield 74, 3) := by decide +kernel
theorem dX6_isNamed_106 : decode cX6_isNamed 106 = .ok (.iconst 4, 1) := by decide +kernel
theorem dX6_isNamed_107 : decode cX6_isNamed 107 = .ok (.iadd, 1) := by decide +kernel
theorem dX6_isNamed_108 : decode cX6_isNamed 108 = .ok (.invokevirtual 70, 3) := by decide +kernel
theorem dX6_isNamed_111 : decode cX6_isNamed 111 = .ok (.iload 5, 2) := by decide +kernel
theorem dX6_isNamed_113 : decode cX6_isNamed 113 = .ok (.if_icmp .ne 7, 3) := by decide +kernel
theorem dX6_isNamed_116 : decode cX6_isNamed 116 = .ok (.iconst 1, 1) := by decide +kernel
theorem dX6_isNamed_117 : decode cX6_isNamed 117 = .ok (.goto 4, 3) := by decide +kernel
theorem dX6_isNamed_120 : decode cX6_isNamed 120 = .ok (.iconst 0, 1) := by decide +kernel
theorem dX6_isNamed_121 : decode cX6_isNamed 121 = .ok (.ireturn, 1) := by decide +kernel
set_option maxRecDepth 20000 in
theorem ggX6_wordNow_X6_isNamed : GoodIn wsX6_wordNow wsX6_isNamed := goodIn_r _ [5, 6, 7, 8, 9, 10, 11, 4, 12, 13, 14, 15, 16, 17, 18, 19, 20, 21, 22, 23, 24, 25, 26, 27, 28, 29] (by decide +kernel) (by decide +kernel)
set_option maxRecDepth 20000 in
theorem gX6_wordNow_X6_isNamed : GoodIn wsX6_wordNow (wsV RX6 92 RX6 yX6_isNamed wsX6_isNamed) := goodIn_app (goodIn_of _ (by decide +kernel)) ggX6_wordNow_X6_isNamed
theorem dX6_wordNow_0 : decode cX6_wordNow 0 = .ok (.aload_n 0, 1) := by decide +kernel
theorem dX6_wordNow_1 : decode cX6_wordNow 1 = .ok (.bipush 104, 2) := by decide +kernel
theorem dX6_wordNow_3 : decode cX6_wordNow 3 = .ok (.bipush 111, 2) := by decide +kernel
theorem dX6_wordNow_5 : decode cX6_wordNow 5 = .ok (.bipush 117, 2) := by decide +kernel
theorem dX6_wordNow_7 : decode cX6_wordNow 7 = .ok (.bipush 115, 2) := by decide +kernel
theorem dX6_wordNow_9 : decode cX6_wordNow 9 = .ok (.bipush 101, 2) := by decide +kernel
theorem dX6_wordNow_11 : decode cX6_wordNow 11 = .ok (.invokevirtual 92, 3) := by decide +kernel
theorem dX6_wordNow_14 : decode cX6_wordNow 14 = .ok (.ifCond .eq 5, 3) := by decide +kernel
theorem dX6_wordNow_17 : decode cX6_wordNow 17 = .ok (.iconst 0, 1) := by decide +kernel
theorem dX6_wordNow_18 : decode cX6_wordNow 18 = .ok (.ireturn, 1) := by decide +kernel
theorem dX6_wordNow_19 : decode cX6_wordNow 19 = .ok (.aload_n 0, 1) := by decide +kernel
theorem dX6_wordNow_20 : decode cX6_wordNow 20 = .ok (.bipush 108, 2) := by decide +kernel
theorem dX6_wordNow_22 : decode cX6_wordNow 22 = .ok (.bipush 105, 2) := by decide +kernel
theorem dX6_wordNow_24 : decode cX6_wordNow 24 = .ok (.bipush 102, 2) := by decide +kernel
theorem dX6_wordNow_26 : decode cX6_wordNow 26 = .ok (.bipush 116, 2) := by decide +kernel
theorem dX6_wordNow_28 : decode cX6_wordNow 28 = .ok (.iconst 0, 1) := by decide +kernel
theorem dX6_wordNow_29 : decode cX6_wordNow 29 = .ok (.invokevirtual 92, 3) := by decide +kernel
theorem dX6_wordNow_32 : decode cX6_wordNow 32 = .ok (.ifCond .eq 7, 3) := by decide +kernel
theorem dX6_wordNow_35 : decode cX6_wordNow 35 = .ok (.iconst 1, 1) := by decide +kernel
theorem dX6_wordNow_36 : decode cX6_wordNow 36 = .ok (.goto 24, 3) := by decide +kernel
theorem dX6_wordNow_39 : decode cX6_wordNow 39 = .ok (.aload_n 0, 1) := by decide +kernel
theorem dX6_wordNow_40 : decode cX6_wordNow 40 = .ok (.bipush 108, 2) := by decide +kernel
theorem dX6_wordNow_42 : decode cX6_wordNow 42 = .ok (.bipush 105, 2) := by decide +kernel
theorem dX6_wordNow_44 : decode cX6_wordNow 44 = .ok (.bipush 110, 2) := by decide +kernel
theorem dX6_wordNow_46 : decode cX6_wordNow 46 = .ok (.bipush 101, 2) := by decide +kernel
theorem dX6_wordNow_48 : decode cX6_wordNow 48 = .ok (.iconst 0, 1) := by decide +kernel
theorem dX6_wordNow_49 : decode cX6_wordNow 49 = .ok (.invokevirtual 92, 3) := by decide +kernel
theorem dX6_wordNow_52 : decode cX6_wordNow 52 = .ok (.ifCond .eq 7, 3) := by decide +kernel
theorem dX6_wordNow_55 : decode cX6_wordNow 55 = .ok (.iconst 2, 1) := by decide +kernel
theorem dX6_wordNow_56 : decode cX6_wordNow 56 = .ok (.goto 4, 3) := by decide +kernel
theorem dX6_wordNow_59 : decode cX6_wordNow 59 = .ok (.iconst (-1), 1) := by decide +kernel
theorem dX6_wordNow_60 : decode cX6_wordNow 60 = .ok (.ireturn, 1) := by decide +kernel
set_option maxRecDepth 20000 in
theorem ggX6_takes_X6_token : GoodIn wsX6_takes wsX6_token := goodIn_r _ [9, 2, 3, 10, 11, 12, 13, 14, 1, 15, 16, 17, 18, 8, 19, 20, 21, 22, 23, 24, 25, 26, 27, 28, 29, 30, 31, 32, 33, 34, 35, 36, 37, 38] (by decide +kernel) (by decide +kernel)
set_option maxRecDepth 20000 in
theorem gX6_takes_X6_token : GoodIn wsX6_takes (wsV RX6 96 RX6 yX6_token wsX6_token) := goodIn_app (goodIn_of _ (by decide +kernel)) ggX6_takes_X6_token
set_option maxRecDepth 20000 in
theorem ggX6_takes_X6_byteAt : GoodIn wsX6_takes wsX6_byteAt := goodIn_r _ [19, 15, 20, 24, 25, 26, 27, 28, 29, 30, 31, 32, 33, 34, 35, 36, 37, 38] (by decide +kernel) (by decide +kernel)
set_option maxRecDepth 20000 in
theorem gX6_takes_X6_byteAt : GoodIn wsX6_takes (wsV RX6 70 RX6 yX6_byteAt wsX6_byteAt) := goodIn_app (goodIn_of _ (by decide +kernel)) ggX6_takes_X6_byteAt
set_option maxRecDepth 20000 in
theorem ggX6_takes_X6_in : GoodIn wsX6_takes wsX6_in := goodIn_r _ [23] (by decide +kernel) (by decide +kernel)
set_option maxRecDepth 20000 in
theorem gX6_takes_X6_in : GoodIn wsX6_takes (va_wsS RX6 34 yX6_in wsX6_in) := goodIn_app (goodIn_of _ (by decide +kernel)) ggX6_takes_X6_in
theorem dX6_takes_0 : decode cX6_takes 0 = .ok (.aload_n 0, 1) := by decide +kernel
theorem dX6_takes_1 : decode cX6_takes 1 = .ok (.invokevirtual 96, 3) := by decide +kernel
theorem dX6_takes_4 : decode cX6_takes 4 = .ok (.aload_n 0, 1) := by decide +kernel
theorem dX6_takes_5 : decode cX6_takes 5 = .ok (.getfield 89, 3) := by decide +kernel
theorem dX6_takes_8 : decode cX6_takes 8 = .ok (.ifCond .eq 16, 3) := by decide +kernel
theorem dX6_takes_11 : decode cX6_takes 11 = .ok (.aload_n 0, 1) := by decide +kernel
theorem dX6_takes_12 : decode cX6_takes 12 = .ok (.getfield 67, 3) := by decide +kernel
theorem dX6_takes_15 : decode cX6_takes 15 = .ok (.aload_n 0, 1) := by decide +kernel
theorem dX6_takes_16 : decode cX6_takes 16 = .ok (.getfield 74, 3) := by decide +kernel
theorem dX6_takes_19 : decode cX6_takes 19 = .ok (.isub, 1) := by decide +kernel
theorem dX6_takes_20 : decode cX6_takes 20 = .ok (.iconst 2, 1) := by decide +kernel
theorem dX6_takes_21 : decode cX6_takes 21 = .ok (.if_icmp .le 5, 3) := by decide +kernel
theorem dX6_takes_24 : decode cX6_takes 24 = .ok (.iconst 0, 1) := by decide +kernel
theorem dX6_takes_25 : decode cX6_takes 25 = .ok (.ireturn, 1) := by decide +kernel
theorem dX6_takes_26 : decode cX6_takes 26 = .ok (.iconst 0, 1) := by decide +kernel
theorem dX6_takes_27 : decode cX6_takes 27 = .ok (.istore 4, 2) := by decide +kernel
theorem dX6_takes_29 : decode cX6_takes 29 = .ok (.aload_n 0, 1) := by decide +kernel
theorem dX6_takes_30 : decode cX6_takes 30 = .ok (.getfield 74, 3) := by decide +kernel
theorem dX6_takes_33 : decode cX6_takes 33 = .ok (.istore 5, 2) := by decide +kernel
theorem dX6_takes_35 : decode cX6_takes 35 = .ok (.iload 5, 2) := by decide +kernel
theorem dX6_takes_37 : decode cX6_takes 37 = .ok (.aload_n 0, 1) := by decide +kernel
theorem dX6_takes_38 : decode cX6_takes 38 = .ok (.getfield 67, 3) := by decide +kernel
theorem dX6_takes_41 : decode cX6_takes 41 = .ok (.if_icmp .ge 26, 3) := by decide +kernel
theorem dX6_takes_44 : decode cX6_takes 44 = .ok (.bipush 10, 2) := by decide +kernel
theorem dX6_takes_46 : decode cX6_takes 46 = .ok (.iload 4, 2) := by decide +kernel
theorem dX6_takes_48 : decode cX6_takes 48 = .ok (.imul, 1) := by decide +kernel
theorem dX6_takes_49 : decode cX6_takes 49 = .ok (.aload_n 0, 1) := by decide +kernel
theorem dX6_takes_50 : decode cX6_takes 50 = .ok (.iload 5, 2) := by decide +kernel
theorem dX6_takes_52 : decode cX6_takes 52 = .ok (.invokevirtual 70, 3) := by decide +kernel
theorem dX6_takes_55 : decode cX6_takes 55 = .ok (.iadd, 1) := by decide +kernel
theorem dX6_takes_56 : decode cX6_takes 56 = .ok (.bipush 48, 2) := by decide +kernel
theorem dX6_takes_58 : decode cX6_takes 58 = .ok (.isub, 1) := by decide +kernel
theorem dX6_takes_59 : decode cX6_takes 59 = .ok (.istore 4, 2) := by decide +kernel
theorem dX6_takes_61 : decode cX6_takes 61 = .ok (.iinc 5 1, 3) := by decide +kernel
theorem dX6_takes_64 : decode cX6_takes 64 = .ok (.goto (-29), 3) := by decide +kernel
theorem dX6_takes_67 : decode cX6_takes 67 = .ok (.aload_n 0, 1) := by decide +kernel
theorem dX6_takes_68 : decode cX6_takes 68 = .ok (.getfield 27, 3) := by decide +kernel
theorem dX6_takes_71 : decode cX6_takes 71 = .ok (.iload_n 1, 1) := by decide +kernel
theorem dX6_takes_72 : decode cX6_takes 72 = .ok (.iload 4, 2) := by decide +kernel
theorem dX6_takes_74 : decode cX6_takes 74 = .ok (.iastore, 1) := by decide +kernel
theorem dX6_takes_75 : decode cX6_takes 75 = .ok (.iload 4, 2) := by decide +kernel
theorem dX6_takes_77 : decode cX6_takes 77 = .ok (.i2l, 1) := by decide +kernel
theorem dX6_takes_78 : decode cX6_takes 78 = .ok (.iload_n 2, 1) := by decide +kernel
theorem dX6_takes_79 : decode cX6_takes 79 = .ok (.i2l, 1) := by decide +kernel
theorem dX6_takes_80 : decode cX6_takes 80 = .ok (.iload_n 3, 1) := by decide +kernel
theorem dX6_takes_81 : decode cX6_takes 81 = .ok (.i2l, 1) := by decide +kernel
theorem dX6_takes_82 : decode cX6_takes 82 = .ok (.invokestatic 34, 3) := by decide +kernel
theorem dX6_takes_85 : decode cX6_takes 85 = .ok (.ireturn, 1) := by decide +kernel
set_option maxRecDepth 20000 in
theorem ggX6_takesHouse_X6_takes : GoodIn wsX6_takesHouse wsX6_takes := goodIn_r _ [7, 8, 9, 10, 2, 11, 12, 13, 6, 14, 15, 16, 17, 18, 19, 20, 21, 22, 23, 24, 25, 26, 27, 28, 29, 30, 31, 32, 33, 34, 35, 36, 37, 38, 39, 40, 41, 42, 43] (by decide +kernel) (by decide +kernel)
set_option maxRecDepth 20000 in
theorem gX6_takesHouse_X6_takes : GoodIn wsX6_takesHouse (wsV RX6 99 RX6 yX6_takes wsX6_takes) := goodIn_app (goodIn_of _ (by decide +kernel)) ggX6_takesHouse_X6_takes
theorem dX6_takesHouse_0 : decode cX6_takesHouse 0 = .ok (.aload_n 0, 1) := by decide +kernel
theorem dX6_takesHouse_1 : decode cX6_takesHouse 1 = .ok (.iconst 0, 1) := by decide +kernel
theorem dX6_takesHouse_2 : decode cX6_takesHouse 2 = .ok (.iconst 1, 1) := by decide +kernel
theorem dX6_takesHouse_3 : decode cX6_takesHouse 3 = .ok (.bipush 11, 2) := by decide +kernel
theorem dX6_takesHouse_5 : decode cX6_takesHouse 5 = .ok (.invokevirtual 99, 3) := by decide +kernel
theorem dX6_takesHouse_8 : decode cX6_takesHouse 8 = .ok (.ifCond .ne 5, 3) := by decide +kernel
theorem dX6_takesHouse_11 : decode cX6_takesHouse 11 = .ok (.iconst 0, 1) := by decide +kernel
theorem dX6_takesHouse_12 : decode cX6_takesHouse 12 = .ok (.ireturn, 1) := by decide +kernel
theorem dX6_takesHouse_13 : decode cX6_takesHouse 13 = .ok (.aload_n 0, 1) := by decide +kernel
theorem dX6_takesHouse_14 : decode cX6_takesHouse 14 = .ok (.getfield 7, 3) := by decide +kernel
theorem dX6_takesHouse_17 : decode cX6_takesHouse 17 = .ok (.sipush 148, 3) := by decide +kernel
theorem dX6_takesHouse_20 : decode cX6_takesHouse 20 = .ok (.aload_n 0, 1) := by decide +kernel
theorem dX6_takesHouse_21 : decode cX6_takesHouse 21 = .ok (.getfield 27, 3) := by decide +kernel
theorem dX6_takesHouse_24 : decode cX6_takesHouse 24 = .ok (.iconst 0, 1) := by decide +kernel
theorem dX6_takesHouse_25 : decode cX6_takesHouse 25 = .ok (.iaload, 1) := by decide +kernel
theorem dX6_takesHouse_26 : decode cX6_takesHouse 26 = .ok (.iastore, 1) := by decide +kernel
theorem dX6_takesHouse_27 : decode cX6_takesHouse 27 = .ok (.iconst 1, 1) := by decide +kernel
theorem dX6_takesHouse_28 : decode cX6_takesHouse 28 = .ok (.ireturn, 1) := by decide +kernel
set_option maxRecDepth 20000 in
theorem ggX6_takesLift_X6_takes : GoodIn wsX6_takesLift wsX6_takes := goodIn_r _ [7, 8, 9, 10, 2, 11, 12, 13, 6, 14, 15, 16, 17, 18, 19, 20, 21, 22, 23, 24, 25, 26, 27, 28, 33, 34, 35, 36, 37, 38, 39, 40, 41, 42, 43, 44, 45, 46, 47] (by decide +kernel) (by decide +kernel)
set_option maxRecDepth 20000 in
theorem gX6_takesLift_X6_takes : GoodIn wsX6_takesLift (wsV RX6 99 RX6 yX6_takes wsX6_takes) := goodIn_app (goodIn_of _ (by decide +kernel)) ggX6_takesLift_X6_takes
set_option maxRecDepth 20000 in
theorem ggX6_takesLift_X6_adds : GoodIn wsX6_takesLift wsX6_adds := goodIn_r _ [32, 1, 33, 34, 35, 36, 37, 38, 39, 40, 41, 42, 43, 44, 45, 46, 47] (by decide +kernel) (by decide +kernel)
set_option maxRecDepth 20000 in
theorem gX6_takesLift_X6_adds : GoodIn wsX6_takesLift (wsV RX6 53 RX6 yX6_adds wsX6_adds) := goodIn_app (goodIn_of _ (by decide +kernel)) ggX6_takesLift_X6_adds
theorem dX6_takesLift_0 : decode cX6_takesLift 0 = .ok (.aload_n 0, 1) := by decide +kernel
theorem dX6_takesLift_1 : decode cX6_takesLift 1 = .ok (.getfield 7, 3) := by decide +kernel
theorem dX6_takesLift_4 : decode cX6_takesLift 4 = .ok (.sipush 147, 3) := by decide +kernel
theorem dX6_takesLift_7 : decode cX6_takesLift 7 = .ok (.iaload, 1) := by decide +kernel
theorem dX6_takesLift_8 : decode cX6_takesLift 8 = .ok (.iconst 4, 1) := by decide +kernel
theorem dX6_takesLift_9 : decode cX6_takesLift 9 = .ok (.if_icmp .eq 24, 3) := by decide +kernel
theorem dX6_takesLift_12 : decode cX6_takesLift 12 = .ok (.aload_n 0, 1) := by decide +kernel
theorem dX6_takesLift_13 : decode cX6_takesLift 13 = .ok (.iconst 0, 1) := by decide +kernel
theorem dX6_takesLift_14 : decode cX6_takesLift 14 = .ok (.iconst 0, 1) := by decide +kernel
theorem dX6_takesLift_15 : decode cX6_takesLift 15 = .ok (.iconst 5, 1) := by decide +kernel
theorem dX6_takesLift_16 : decode cX6_takesLift 16 = .ok (.invokevirtual 99, 3) := by decide +kernel
theorem dX6_takesLift_19 : decode cX6_takesLift 19 = .ok (.ifCond .eq 14, 3) := by decide +kernel
theorem dX6_takesLift_22 : decode cX6_takesLift 22 = .ok (.aload_n 0, 1) := by decide +kernel
theorem dX6_takesLift_23 : decode cX6_takesLift 23 = .ok (.iconst 1, 1) := by decide +kernel
theorem dX6_takesLift_24 : decode cX6_takesLift 24 = .ok (.iconst 0, 1) := by decide +kernel
theorem dX6_takesLift_25 : decode cX6_takesLift 25 = .ok (.bipush 99, 2) := by decide +kernel
theorem dX6_takesLift_27 : decode cX6_takesLift 27 = .ok (.invokevirtual 99, 3) := by decide +kernel
theorem dX6_takesLift_30 : decode cX6_takesLift 30 = .ok (.ifCond .ne 5, 3) := by decide +kernel
theorem dX6_takesLift_33 : decode cX6_takesLift 33 = .ok (.iconst 0, 1) := by decide +kernel
theorem dX6_takesLift_34 : decode cX6_takesLift 34 = .ok (.ireturn, 1) := by decide +kernel
theorem dX6_takesLift_35 : decode cX6_takesLift 35 = .ok (.aload_n 0, 1) := by decide +kernel
theorem dX6_takesLift_36 : decode cX6_takesLift 36 = .ok (.sipush 147, 3) := by decide +kernel
theorem dX6_takesLift_39 : decode cX6_takesLift 39 = .ok (.aload_n 0, 1) := by decide +kernel
theorem dX6_takesLift_40 : decode cX6_takesLift 40 = .ok (.getfield 27, 3) := by decide +kernel
theorem dX6_takesLift_43 : decode cX6_takesLift 43 = .ok (.iconst 0, 1) := by decide +kernel
theorem dX6_takesLift_44 : decode cX6_takesLift 44 = .ok (.iaload, 1) := by decide +kernel
theorem dX6_takesLift_45 : decode cX6_takesLift 45 = .ok (.aload_n 0, 1) := by decide +kernel
theorem dX6_takesLift_46 : decode cX6_takesLift 46 = .ok (.getfield 27, 3) := by decide +kernel
theorem dX6_takesLift_49 : decode cX6_takesLift 49 = .ok (.iconst 1, 1) := by decide +kernel
theorem dX6_takesLift_50 : decode cX6_takesLift 50 = .ok (.iaload, 1) := by decide +kernel
theorem dX6_takesLift_51 : decode cX6_takesLift 51 = .ok (.invokevirtual 53, 3) := by decide +kernel
theorem dX6_takesLift_54 : decode cX6_takesLift 54 = .ok (.ifCond .lt 7, 3) := by decide +kernel
theorem dX6_takesLift_57 : decode cX6_takesLift 57 = .ok (.iconst 1, 1) := by decide +kernel
theorem dX6_takesLift_58 : decode cX6_takesLift 58 = .ok (.goto 4, 3) := by decide +kernel
theorem dX6_takesLift_61 : decode cX6_takesLift 61 = .ok (.iconst 0, 1) := by decide +kernel
theorem dX6_takesLift_62 : decode cX6_takesLift 62 = .ok (.ireturn, 1) := by decide +kernel
set_option maxRecDepth 20000 in
theorem ggX6_takesLine_X6_takes : GoodIn wsX6_takesLine wsX6_takes := goodIn_r _ [7, 8, 9, 10, 2, 11, 12, 13, 6, 14, 15, 16, 17, 18, 19, 20, 21, 22, 23, 24, 25, 26, 27, 28, 29, 30, 31, 32, 33, 34, 35, 36, 37, 38, 39, 40, 41, 42, 43] (by decide +kernel) (by decide +kernel)
set_option maxRecDepth 20000 in
theorem gX6_takesLine_X6_takes : GoodIn wsX6_takesLine (wsV RX6 99 RX6 yX6_takes wsX6_takes) := goodIn_app (goodIn_of _ (by decide +kernel)) ggX6_takesLine_X6_takes
theorem dX6_takesLine_0 : decode cX6_takesLine 0 = .ok (.aload_n 0, 1) := by decide +kernel
theorem dX6_takesLine_1 : decode cX6_takesLine 1 = .ok (.iconst 0, 1) := by decide +kernel
theorem dX6_takesLine_2 : decode cX6_takesLine 2 = .ok (.iconst 0, 1) := by decide +kernel
theorem dX6_takesLine_3 : decode cX6_takesLine 3 = .ok (.iconst 1, 1) := by decide +kernel
theorem dX6_takesLine_4 : decode cX6_takesLine 4 = .ok (.invokevirtual 99, 3) := by decide +kernel
theorem dX6_takesLine_7 : decode cX6_takesLine 7 = .ok (.ifCond .eq 25, 3) := by decide +kernel
theorem dX6_takesLine_10 : decode cX6_takesLine 10 = .ok (.aload_n 0, 1) := by decide +kernel
theorem dX6_takesLine_11 : decode cX6_takesLine 11 = .ok (.iconst 1, 1) := by decide +kernel
theorem dX6_takesLine_12 : decode cX6_takesLine 12 = .ok (.iconst 1, 1) := by decide +kernel
theorem dX6_takesLine_13 : decode cX6_takesLine 13 = .ok (.bipush 30, 2) := by decide +kernel
theorem dX6_takesLine_15 : decode cX6_takesLine 15 = .ok (.invokevirtual 99, 3) := by decide +kernel
theorem dX6_takesLine_18 : decode cX6_takesLine 18 = .ok (.ifCond .eq 14, 3) := by decide +kernel
theorem dX6_takesLine_21 : decode cX6_takesLine 21 = .ok (.aload_n 0, 1) := by decide +kernel
theorem dX6_takesLine_22 : decode cX6_takesLine 22 = .ok (.iconst 2, 1) := by decide +kernel
theorem dX6_takesLine_23 : decode cX6_takesLine 23 = .ok (.iconst 0, 1) := by decide +kernel
theorem dX6_takesLine_24 : decode cX6_takesLine 24 = .ok (.bipush 29, 2) := by decide +kernel
theorem dX6_takesLine_26 : decode cX6_takesLine 26 = .ok (.invokevirtual 99, 3) := by decide +kernel
theorem dX6_takesLine_29 : decode cX6_takesLine 29 = .ok (.ifCond .ne 5, 3) := by decide +kernel
theorem dX6_takesLine_32 : decode cX6_takesLine 32 = .ok (.iconst 0, 1) := by decide +kernel
theorem dX6_takesLine_33 : decode cX6_takesLine 33 = .ok (.ireturn, 1) := by decide +kernel
theorem dX6_takesLine_34 : decode cX6_takesLine 34 = .ok (.aload_n 0, 1) := by decide +kernel
theorem dX6_takesLine_35 : decode cX6_takesLine 35 = .ok (.getfield 7, 3) := by decide +kernel
theorem dX6_takesLine_38 : decode cX6_takesLine 38 = .ok (.sipush 160, 3) := by decide +kernel
theorem dX6_takesLine_41 : decode cX6_takesLine 41 = .ok (.aload_n 0, 1) := by decide +kernel
theorem dX6_takesLine_42 : decode cX6_takesLine 42 = .ok (.getfield 27, 3) := by decide +kernel
theorem dX6_takesLine_45 : decode cX6_takesLine 45 = .ok (.iconst 0, 1) := by decide +kernel
theorem dX6_takesLine_46 : decode cX6_takesLine 46 = .ok (.iaload, 1) := by decide +kernel
theorem dX6_takesLine_47 : decode cX6_takesLine 47 = .ok (.iadd, 1) := by decide +kernel
theorem dX6_takesLine_48 : decode cX6_takesLine 48 = .ok (.aload_n 0, 1) := by decide +kernel
theorem dX6_takesLine_49 : decode cX6_takesLine 49 = .ok (.getfield 27, 3) := by decide +kernel
theorem dX6_takesLine_52 : decode cX6_takesLine 52 = .ok (.iconst 1, 1) := by decide +kernel
theorem dX6_takesLine_53 : decode cX6_takesLine 53 = .ok (.iaload, 1) := by decide +kernel
theorem dX6_takesLine_54 : decode cX6_takesLine 54 = .ok (.iastore, 1) := by decide +kernel
theorem dX6_takesLine_55 : decode cX6_takesLine 55 = .ok (.aload_n 0, 1) := by decide +kernel
theorem dX6_takesLine_56 : decode cX6_takesLine 56 = .ok (.getfield 7, 3) := by decide +kernel
theorem dX6_takesLine_59 : decode cX6_takesLine 59 = .ok (.sipush 162, 3) := by decide +kernel
theorem dX6_takesLine_62 : decode cX6_takesLine 62 = .ok (.aload_n 0, 1) := by decide +kernel
theorem dX6_takesLine_63 : decode cX6_takesLine 63 = .ok (.getfield 27, 3) := by decide +kernel
theorem dX6_takesLine_66 : decode cX6_takesLine 66 = .ok (.iconst 0, 1) := by decide +kernel
theorem dX6_takesLine_67 : decode cX6_takesLine 67 = .ok (.iaload, 1) := by decide +kernel
theorem dX6_takesLine_68 : decode cX6_takesLine 68 = .ok (.iadd, 1) := by decide +kernel
theorem dX6_takesLine_69 : decode cX6_takesLine 69 = .ok (.aload_n 0, 1) := by decide +kernel
theorem dX6_takesLine_70 : decode cX6_takesLine 70 = .ok (.getfield 27, 3) := by decide +kernel
theorem dX6_takesLine_73 : decode cX6_takesLine 73 = .ok (.iconst 2, 1) := by decide +kernel
theorem dX6_takesLine_74 : decode cX6_takesLine 74 = .ok (.iaload, 1) := by decide +kernel
theorem dX6_takesLine_75 : decode cX6_takesLine 75 = .ok (.iastore, 1) := by decide +kernel
theorem dX6_takesLine_76 : decode cX6_takesLine 76 = .ok (.iconst 1, 1) := by decide +kernel
theorem dX6_takesLine_77 : decode cX6_takesLine 77 = .ok (.ireturn, 1) := by decide +kernel
set_option maxRecDepth 20000 in
theorem ggX6_takesItem_X6_wordNow : GoodIn wsX6_takesItem wsX6_wordNow := goodIn_r _ [6, 7, 8, 9, 5, 10, 11, 12, 1, 13, 14, 15, 16, 17, 18, 53, 54, 55, 56, 57, 58, 59, 60, 61, 62, 63, 64, 65, 66, 67] (by decide +kernel) (by decide +kernel)
set_option maxRecDepth 20000 in
theorem gX6_takesItem_X6_wordNow : GoodIn wsX6_takesItem (wsV RX6 103 RX6 yX6_wordNow wsX6_wordNow) := goodIn_app (goodIn_of _ (by decide +kernel)) ggX6_takesItem_X6_wordNow
set_option maxRecDepth 20000 in
theorem ggX6_takesItem_X6_takesHouse : GoodIn wsX6_takesItem wsX6_takesHouse := goodIn_r _ [22, 23, 24, 25, 26, 27, 5, 28, 29, 12, 1, 30, 31, 32, 33, 34, 35, 11, 36, 37, 17, 13, 14, 15, 16, 18, 38, 39, 40, 53, 54, 55, 56, 57, 58, 59, 60, 61, 62, 63, 64, 65, 66, 67] (by decide +kernel) (by decide +kernel)
set_option maxRecDepth 20000 in
theorem gX6_takesItem_X6_takesHouse : GoodIn wsX6_takesItem (wsV RX6 106 RX6 yX6_takesHouse wsX6_takesHouse) := goodIn_app (goodIn_of _ (by decide +kernel)) ggX6_takesItem_X6_takesHouse
set_option maxRecDepth 20000 in
theorem ggX6_takesItem_X6_takesLift : GoodIn wsX6_takesItem wsX6_takesLift := goodIn_r _ [44, 23, 24, 25, 26, 27, 5, 28, 29, 12, 1, 30, 31, 32, 33, 34, 35, 11, 36, 37, 17, 13, 14, 15, 16, 18, 38, 39, 40, 45, 46, 47, 48, 53, 54, 55, 56, 57, 58, 59, 60, 61, 62, 63, 64, 65, 66, 67] (by decide +kernel) (by decide +kernel)
set_option maxRecDepth 20000 in
theorem gX6_takesItem_X6_takesLift : GoodIn wsX6_takesItem (wsV RX6 110 RX6 yX6_takesLift wsX6_takesLift) := goodIn_app (goodIn_of _ (by decide +kernel)) ggX6_takesItem_X6_takesLift
set_option maxRecDepth 20000 in
theorem ggX6_takesItem_X6_takesLine : GoodIn wsX6_takesItem wsX6_takesLine := goodIn_r _ [52, 23, 24, 25, 26, 27, 5, 28, 29, 12, 1, 30, 31, 32, 33, 34, 35, 11, 36, 37, 17, 13, 14, 15, 16, 18, 38, 39, 40, 53, 54, 55, 56, 57, 58, 59, 60, 61, 62, 63, 64, 65, 66, 67] (by decide +kernel) (by decide +kernel)
set_option maxRecDepth 20000 in
theorem gX6_takesItem_X6_takesLine : GoodIn wsX6_takesItem (wsV RX6 113 RX6 yX6_takesLine wsX6_takesLine) := goodIn_app (goodIn_of _ (by decide +kernel)) ggX6_takesItem_X6_takesLine
set_option maxRecDepth 20000 in
theorem ggX6_takesItem_X6_token : GoodIn wsX6_takesItem wsX6_token := goodIn_r _ [33, 12, 1, 34, 35, 11, 36, 37, 29, 17, 13, 14, 15, 5, 16, 18, 38, 39, 40, 53, 54, 55, 56, 57, 58, 59, 60, 61, 62, 63, 64, 65, 66, 67] (by decide +kernel) (by decide +kernel)
set_option maxRecDepth 20000 in
theorem gX6_takesItem_X6_token : GoodIn wsX6_takesItem (wsV RX6 96 RX6 yX6_token wsX6_token) := goodIn_app (goodIn_of _ (by decide +kernel)) ggX6_takesItem_X6_token
set_option maxRecDepth 20000 in
theorem ggX6_takesItem_X6_byteAt : GoodIn wsX6_takesItem wsX6_byteAt := goodIn_r _ [16, 17, 18, 53, 54, 55, 56, 57, 58, 59, 60, 61, 62, 63, 64, 65, 66, 67] (by decide +kernel) (by decide +kernel)
set_option maxRecDepth 20000 in
theorem gX6_takesItem_X6_byteAt : GoodIn wsX6_takesItem (wsV RX6 70 RX6 yX6_byteAt wsX6_byteAt) := goodIn_app (goodIn_of _ (by decide +kernel)) ggX6_takesItem_X6_byteAt
theorem dX6_takesItem_0 : decode cX6_takesItem 0 = .ok (.aload_n 0, 1) := by decide +kernel
theorem dX6_takesItem_1 : decode cX6_takesItem 1 = .ok (.invokevirtual 103, 3) := by decide +kernel
theorem dX6_takesItem_4 : decode cX6_takesItem 4 = .ok (.istore_n 2, 1) := by decide +kernel
theorem dX6_takesItem_5 : decode cX6_takesItem 5 = .ok (.iload_n 2, 1) := by decide +kernel
theorem dX6_takesItem_6 : decode cX6_takesItem 6 = .ok (.iconst (-1), 1) := by decide +kernel
theorem dX6_takesItem_7 : decode cX6_takesItem 7 = .ok (.if_icmp .eq 24, 3) := by decide +kernel
theorem dX6_takesItem_10 : decode cX6_takesItem 10 = .ok (.iload_n 2, 1) := by decide +kernel
theorem dX6_takesItem_11 : decode cX6_takesItem 11 = .ok (.ifCond .ne 7, 3) := by decide +kernel
theorem dX6_takesItem_14 : decode cX6_takesItem 14 = .ok (.iconst 1, 1) := by decide +kernel
theorem dX6_takesItem_15 : decode cX6_takesItem 15 = .ok (.goto 4, 3) := by decide +kernel
theorem dX6_takesItem_18 : decode cX6_takesItem 18 = .ok (.iconst 0, 1) := by decide +kernel
theorem dX6_takesItem_19 : decode cX6_takesItem 19 = .ok (.iload_n 1, 1) := by decide +kernel
theorem dX6_takesItem_20 : decode cX6_takesItem 20 = .ok (.ifCond .ne 7, 3) := by decide +kernel
theorem dX6_takesItem_23 : decode cX6_takesItem 23 = .ok (.iconst 1, 1) := by decide +kernel
theorem dX6_takesItem_24 : decode cX6_takesItem 24 = .ok (.goto 4, 3) := by decide +kernel
theorem dX6_takesItem_27 : decode cX6_takesItem 27 = .ok (.iconst 0, 1) := by decide +kernel
theorem dX6_takesItem_28 : decode cX6_takesItem 28 = .ok (.if_icmp .eq 5, 3) := by decide +kernel
theorem dX6_takesItem_31 : decode cX6_takesItem 31 = .ok (.iconst 0, 1) := by decide +kernel
theorem dX6_takesItem_32 : decode cX6_takesItem 32 = .ok (.ireturn, 1) := by decide +kernel
theorem dX6_takesItem_33 : decode cX6_takesItem 33 = .ok (.iload_n 2, 1) := by decide +kernel
theorem dX6_takesItem_34 : decode cX6_takesItem 34 = .ok (.ifCond .ne 10, 3) := by decide +kernel
theorem dX6_takesItem_37 : decode cX6_takesItem 37 = .ok (.aload_n 0, 1) := by decide +kernel
theorem dX6_takesItem_38 : decode cX6_takesItem 38 = .ok (.invokevirtual 106, 3) := by decide +kernel
theorem dX6_takesItem_41 : decode cX6_takesItem 41 = .ok (.goto 19, 3) := by decide +kernel
theorem dX6_takesItem_44 : decode cX6_takesItem 44 = .ok (.iload_n 2, 1) := by decide +kernel
theorem dX6_takesItem_45 : decode cX6_takesItem 45 = .ok (.iconst 1, 1) := by decide +kernel
theorem dX6_takesItem_46 : decode cX6_takesItem 46 = .ok (.if_icmp .ne 10, 3) := by decide +kernel
theorem dX6_takesItem_49 : decode cX6_takesItem 49 = .ok (.aload_n 0, 1) := by decide +kernel
theorem dX6_takesItem_50 : decode cX6_takesItem 50 = .ok (.invokevirtual 110, 3) := by decide +kernel
theorem dX6_takesItem_53 : decode cX6_takesItem 53 = .ok (.goto 7, 3) := by decide +kernel
theorem dX6_takesItem_56 : decode cX6_takesItem 56 = .ok (.aload_n 0, 1) := by decide +kernel
theorem dX6_takesItem_57 : decode cX6_takesItem 57 = .ok (.invokevirtual 113, 3) := by decide +kernel
theorem dX6_takesItem_60 : decode cX6_takesItem 60 = .ok (.istore_n 3, 1) := by decide +kernel
theorem dX6_takesItem_61 : decode cX6_takesItem 61 = .ok (.iload_n 3, 1) := by decide +kernel
theorem dX6_takesItem_62 : decode cX6_takesItem 62 = .ok (.ifCond .ne 5, 3) := by decide +kernel
theorem dX6_takesItem_65 : decode cX6_takesItem 65 = .ok (.iconst 0, 1) := by decide +kernel
theorem dX6_takesItem_66 : decode cX6_takesItem 66 = .ok (.ireturn, 1) := by decide +kernel
theorem dX6_takesItem_67 : decode cX6_takesItem 67 = .ok (.aload_n 0, 1) := by decide +kernel
theorem dX6_takesItem_68 : decode cX6_takesItem 68 = .ok (.invokevirtual 96, 3) := by decide +kernel
theorem dX6_takesItem_71 : decode cX6_takesItem 71 = .ok (.aload_n 0, 1) := by decide +kernel
end
section
theorem dX6_takesItem_72 : decode cX6_takesItem 72 = .ok (.aload_n 0, 1) := by decide +kernel
theorem dX6_takesItem_73 : decode cX6_takesItem 73 = .ok (.getfield 74, 3) := by decide +kernel
theorem dX6_takesItem_76 : decode cX6_takesItem 76 = .ok (.invokevirtual 70, 3) := by decide +kernel
theorem dX6_takesItem_79 : decode cX6_takesItem 79 = .ok (.bipush 59, 2) := by decide +kernel
theorem dX6_takesItem_81 : decode cX6_takesItem 81 = .ok (.if_icmp .ne 7, 3) := by decide +kernel
theorem dX6_takesItem_84 : decode cX6_takesItem 84 = .ok (.iconst 1, 1) := by decide +kernel
theorem dX6_takesItem_85 : decode cX6_takesItem 85 = .ok (.goto 4, 3) := by decide +kernel
theorem dX6_takesItem_88 : decode cX6_takesItem 88 = .ok (.iconst 0, 1) := by decide +kernel
theorem dX6_takesItem_89 : decode cX6_takesItem 89 = .ok (.ireturn, 1) := by decide +kernel
set_option maxRecDepth 20000 in
theorem ggX6_read_X6_begins : GoodIn wsX6_read wsX6_begins := goodIn_r _ [8, 9, 65, 66, 67, 68, 69, 70, 71, 72, 73, 74, 75, 76, 77, 78, 79] (by decide +kernel) (by decide +kernel)
set_option maxRecDepth 20000 in
theorem gX6_read_X6_begins : GoodIn wsX6_read (wsV RX6 30 RX6 yX6_begins wsX6_begins) := goodIn_app (goodIn_of _ (by decide +kernel)) ggX6_read_X6_begins
set_option maxRecDepth 20000 in
theorem ggX6_read_X6_token : GoodIn wsX6_read wsX6_token := goodIn_r _ [13, 1, 2, 14, 15, 16, 17, 18, 19, 3, 20, 21, 22, 7, 23, 24, 25, 26, 27, 65, 66, 67, 68, 69, 70, 71, 72, 73, 74, 75, 76, 77, 78, 79] (by decide +kernel) (by decide +kernel)
set_option maxRecDepth 20000 in
theorem gX6_read_X6_token : GoodIn wsX6_read (wsV RX6 96 RX6 yX6_token wsX6_token) := goodIn_app (goodIn_of _ (by decide +kernel)) ggX6_read_X6_token
set_option maxRecDepth 20000 in
theorem ggX6_read_X6_takesItem : GoodIn wsX6_read wsX6_takesItem := goodIn_r _ [31, 2, 32, 33, 34, 7, 35, 36, 37, 38, 39, 16, 1, 20, 21, 22, 23, 3, 24, 40, 41, 42, 43, 9, 44, 45, 46, 47, 48, 19, 10, 11, 12, 13, 14, 15, 17, 18, 25, 26, 27, 49, 50, 51, 52, 53, 54, 55, 56, 57, 58, 59, 60, 65, 66, 67, 68, 69, 70, 71, 72, 73, 74, 75, 76, 77, 78, 79] (by decide +kernel) (by decide +kernel)
set_option maxRecDepth 20000 in
theorem gX6_read_X6_takesItem : GoodIn wsX6_read (wsV RX6 116 RX6 yX6_takesItem wsX6_takesItem) := goodIn_app (goodIn_of _ (by decide +kernel)) ggX6_read_X6_takesItem
set_option maxRecDepth 20000 in
theorem ggX6_read_X6_copy : GoodIn wsX6_read wsX6_copy := goodIn_r _ [64, 9, 65, 66, 67, 68, 69, 70, 71, 72, 73, 74, 75, 76, 77, 78, 79] (by decide +kernel) (by decide +kernel)
set_option maxRecDepth 20000 in
theorem gX6_read_X6_copy : GoodIn wsX6_read (wsV RX6 120 RX6 yX6_copy wsX6_copy) := goodIn_app (goodIn_of _ (by decide +kernel)) ggX6_read_X6_copy
theorem dX6_read_0 : decode cX6_read 0 = .ok (.aload_n 0, 1) := by decide +kernel
theorem dX6_read_1 : decode cX6_read 1 = .ok (.iconst 0, 1) := by decide +kernel
theorem dX6_read_2 : decode cX6_read 2 = .ok (.putfield 67, 3) := by decide +kernel
theorem dX6_read_5 : decode cX6_read 5 = .ok (.iconst 0, 1) := by decide +kernel
theorem dX6_read_6 : decode cX6_read 6 = .ok (.istore_n 1, 1) := by decide +kernel
theorem dX6_read_7 : decode cX6_read 7 = .ok (.aload_n 0, 1) := by decide +kernel
theorem dX6_read_8 : decode cX6_read 8 = .ok (.sipush 147, 3) := by decide +kernel
theorem dX6_read_11 : decode cX6_read 11 = .ok (.bipush 11, 2) := by decide +kernel
theorem dX6_read_13 : decode cX6_read 13 = .ok (.invokevirtual 30, 3) := by decide +kernel
theorem dX6_read_16 : decode cX6_read 16 = .ok (.aload_n 0, 1) := by decide +kernel
theorem dX6_read_17 : decode cX6_read 17 = .ok (.invokevirtual 96, 3) := by decide +kernel
theorem dX6_read_20 : decode cX6_read 20 = .ok (.aload_n 0, 1) := by decide +kernel
theorem dX6_read_21 : decode cX6_read 21 = .ok (.getfield 74, 3) := by decide +kernel
theorem dX6_read_24 : decode cX6_read 24 = .ok (.aload_n 0, 1) := by decide +kernel
theorem dX6_read_25 : decode cX6_read 25 = .ok (.getfield 63, 3) := by decide +kernel
theorem dX6_read_28 : decode cX6_read 28 = .ok (.if_icmp .lt 7, 3) := by decide +kernel
theorem dX6_read_31 : decode cX6_read 31 = .ok (.iload_n 1, 1) := by decide +kernel
theorem dX6_read_32 : decode cX6_read 32 = .ok (.ifCond .ne 29, 3) := by decide +kernel
theorem dX6_read_35 : decode cX6_read 35 = .ok (.aload_n 0, 1) := by decide +kernel
theorem dX6_read_36 : decode cX6_read 36 = .ok (.iload_n 1, 1) := by decide +kernel
theorem dX6_read_37 : decode cX6_read 37 = .ok (.invokevirtual 116, 3) := by decide +kernel
theorem dX6_read_40 : decode cX6_read 40 = .ok (.ifCond .ne 11, 3) := by decide +kernel
theorem dX6_read_43 : decode cX6_read 43 = .ok (.bipush (-10), 2) := by decide +kernel
theorem dX6_read_45 : decode cX6_read 45 = .ok (.aload_n 0, 1) := by decide +kernel
theorem dX6_read_46 : decode cX6_read 46 = .ok (.getfield 74, 3) := by decide +kernel
theorem dX6_read_49 : decode cX6_read 49 = .ok (.isub, 1) := by decide +kernel
theorem dX6_read_50 : decode cX6_read 50 = .ok (.ireturn, 1) := by decide +kernel
theorem dX6_read_51 : decode cX6_read 51 = .ok (.iinc 1 1, 3) := by decide +kernel
theorem dX6_read_54 : decode cX6_read 54 = .ok (.aload_n 0, 1) := by decide +kernel
theorem dX6_read_55 : decode cX6_read 55 = .ok (.invokevirtual 96, 3) := by decide +kernel
theorem dX6_read_58 : decode cX6_read 58 = .ok (.goto (-38), 3) := by decide +kernel
theorem dX6_read_61 : decode cX6_read 61 = .ok (.aload_n 0, 1) := by decide +kernel
theorem dX6_read_62 : decode cX6_read 62 = .ok (.sipush 147, 3) := by decide +kernel
theorem dX6_read_65 : decode cX6_read 65 = .ok (.iconst 0, 1) := by decide +kernel
theorem dX6_read_66 : decode cX6_read 66 = .ok (.invokevirtual 120, 3) := by decide +kernel
theorem dX6_read_69 : decode cX6_read 69 = .ok (.iload_n 1, 1) := by decide +kernel
theorem dX6_read_70 : decode cX6_read 70 = .ok (.ireturn, 1) := by decide +kernel
theorem dX6_roundOf_0 : decode cX6_roundOf 0 = .ok (.aload_n 0, 1) := by decide +kernel
theorem dX6_roundOf_1 : decode cX6_roundOf 1 = .ok (.getfield 7, 3) := by decide +kernel
theorem dX6_roundOf_4 : decode cX6_roundOf 4 = .ok (.iconst 1, 1) := by decide +kernel
theorem dX6_roundOf_5 : decode cX6_roundOf 5 = .ok (.iaload, 1) := by decide +kernel
theorem dX6_roundOf_6 : decode cX6_roundOf 6 = .ok (.istore_n 2, 1) := by decide +kernel
theorem dX6_roundOf_7 : decode cX6_roundOf 7 = .ok (.iload_n 1, 1) := by decide +kernel
theorem dX6_roundOf_8 : decode cX6_roundOf 8 = .ok (.iconst 1, 1) := by decide +kernel
theorem dX6_roundOf_9 : decode cX6_roundOf 9 = .ok (.if_icmp .ne 7, 3) := by decide +kernel
theorem dX6_roundOf_12 : decode cX6_roundOf 12 = .ok (.iload_n 2, 1) := by decide +kernel
theorem dX6_roundOf_13 : decode cX6_roundOf 13 = .ok (.goto 33, 3) := by decide +kernel
theorem dX6_roundOf_16 : decode cX6_roundOf 16 = .ok (.iload_n 1, 1) := by decide +kernel
theorem dX6_roundOf_17 : decode cX6_roundOf 17 = .ok (.iconst 2, 1) := by decide +kernel
theorem dX6_roundOf_18 : decode cX6_roundOf 18 = .ok (.if_icmp .ne 11, 3) := by decide +kernel
theorem dX6_roundOf_21 : decode cX6_roundOf 21 = .ok (.iconst 2, 1) := by decide +kernel
theorem dX6_roundOf_22 : decode cX6_roundOf 22 = .ok (.iload_n 2, 1) := by decide +kernel
theorem dX6_roundOf_23 : decode cX6_roundOf 23 = .ok (.imul, 1) := by decide +kernel
theorem dX6_roundOf_24 : decode cX6_roundOf 24 = .ok (.iconst 4, 1) := by decide +kernel
theorem dX6_roundOf_25 : decode cX6_roundOf 25 = .ok (.iadd, 1) := by decide +kernel
theorem dX6_roundOf_26 : decode cX6_roundOf 26 = .ok (.goto 20, 3) := by decide +kernel
theorem dX6_roundOf_29 : decode cX6_roundOf 29 = .ok (.iload_n 1, 1) := by decide +kernel
theorem dX6_roundOf_30 : decode cX6_roundOf 30 = .ok (.iconst 4, 1) := by decide +kernel
theorem dX6_roundOf_31 : decode cX6_roundOf 31 = .ok (.if_icmp .ne 12, 3) := by decide +kernel
theorem dX6_roundOf_34 : decode cX6_roundOf 34 = .ok (.iconst 2, 1) := by decide +kernel
theorem dX6_roundOf_35 : decode cX6_roundOf 35 = .ok (.iload_n 2, 1) := by decide +kernel
theorem dX6_roundOf_36 : decode cX6_roundOf 36 = .ok (.imul, 1) := by decide +kernel
theorem dX6_roundOf_37 : decode cX6_roundOf 37 = .ok (.bipush 6, 2) := by decide +kernel
theorem dX6_roundOf_39 : decode cX6_roundOf 39 = .ok (.iadd, 1) := by decide +kernel
theorem dX6_roundOf_40 : decode cX6_roundOf 40 = .ok (.goto 6, 3) := by decide +kernel
theorem dX6_roundOf_43 : decode cX6_roundOf 43 = .ok (.iconst 2, 1) := by decide +kernel
theorem dX6_roundOf_44 : decode cX6_roundOf 44 = .ok (.iload_n 2, 1) := by decide +kernel
theorem dX6_roundOf_45 : decode cX6_roundOf 45 = .ok (.imul, 1) := by decide +kernel
theorem dX6_roundOf_46 : decode cX6_roundOf 46 = .ok (.ireturn, 1) := by decide +kernel
theorem dX6_plain_0 : decode cX6_plain 0 = .ok (.aload_n 0, 1) := by decide +kernel
theorem dX6_plain_1 : decode cX6_plain 1 = .ok (.getfield 7, 3) := by decide +kernel
theorem dX6_plain_4 : decode cX6_plain 4 = .ok (.iconst 1, 1) := by decide +kernel
theorem dX6_plain_5 : decode cX6_plain 5 = .ok (.iaload, 1) := by decide +kernel
theorem dX6_plain_6 : decode cX6_plain 6 = .ok (.istore_n 2, 1) := by decide +kernel
theorem dX6_plain_7 : decode cX6_plain 7 = .ok (.iload_n 1, 1) := by decide +kernel
theorem dX6_plain_8 : decode cX6_plain 8 = .ok (.iload_n 2, 1) := by decide +kernel
theorem dX6_plain_9 : decode cX6_plain 9 = .ok (.if_icmp .gt 7, 3) := by decide +kernel
theorem dX6_plain_12 : decode cX6_plain 12 = .ok (.iload_n 1, 1) := by decide +kernel
theorem dX6_plain_13 : decode cX6_plain 13 = .ok (.goto 8, 3) := by decide +kernel
theorem dX6_plain_16 : decode cX6_plain 16 = .ok (.iconst 2, 1) := by decide +kernel
theorem dX6_plain_17 : decode cX6_plain 17 = .ok (.iload_n 2, 1) := by decide +kernel
theorem dX6_plain_18 : decode cX6_plain 18 = .ok (.imul, 1) := by decide +kernel
theorem dX6_plain_19 : decode cX6_plain 19 = .ok (.iload_n 1, 1) := by decide +kernel
theorem dX6_plain_20 : decode cX6_plain 20 = .ok (.isub, 1) := by decide +kernel
theorem dX6_plain_21 : decode cX6_plain 21 = .ok (.ireturn, 1) := by decide +kernel
set_option maxRecDepth 20000 in
theorem ggX6_rests_X6_plain : GoodIn wsX6_rests wsX6_plain := goodIn_r _ [6, 1, 7, 8, 9, 10, 11, 12, 13, 14, 15, 16, 17, 18, 19, 20, 21] (by decide +kernel) (by decide +kernel)
set_option maxRecDepth 20000 in
theorem gX6_rests_X6_plain : GoodIn wsX6_rests (wsV RX6 123 RX6 yX6_plain wsX6_plain) := goodIn_app (goodIn_of _ (by decide +kernel)) ggX6_rests_X6_plain
theorem dX6_rests_0 : decode cX6_rests 0 = .ok (.iload_n 1, 1) := by decide +kernel
theorem dX6_rests_1 : decode cX6_rests 1 = .ok (.iconst 2, 1) := by decide +kernel
theorem dX6_rests_2 : decode cX6_rests 2 = .ok (.aload_n 0, 1) := by decide +kernel
theorem dX6_rests_3 : decode cX6_rests 3 = .ok (.getfield 7, 3) := by decide +kernel
theorem dX6_rests_6 : decode cX6_rests 6 = .ok (.iconst 1, 1) := by decide +kernel
theorem dX6_rests_7 : decode cX6_rests 7 = .ok (.iaload, 1) := by decide +kernel
theorem dX6_rests_8 : decode cX6_rests 8 = .ok (.imul, 1) := by decide +kernel
theorem dX6_rests_9 : decode cX6_rests 9 = .ok (.if_icmp .lt 7, 3) := by decide +kernel
theorem dX6_rests_12 : decode cX6_rests 12 = .ok (.iconst 0, 1) := by decide +kernel
theorem dX6_rests_13 : decode cX6_rests 13 = .ok (.goto 8, 3) := by decide +kernel
theorem dX6_rests_16 : decode cX6_rests 16 = .ok (.aload_n 0, 1) := by decide +kernel
theorem dX6_rests_17 : decode cX6_rests 17 = .ok (.iload_n 1, 1) := by decide +kernel
theorem dX6_rests_18 : decode cX6_rests 18 = .ok (.invokevirtual 123, 3) := by decide +kernel
theorem dX6_rests_21 : decode cX6_rests 21 = .ok (.ireturn, 1) := by decide +kernel
set_option maxRecDepth 20000 in
theorem ggX6_floorOf_X6_roundOf : GoodIn wsX6_floorOf wsX6_roundOf := goodIn_r _ [6, 1, 15, 16, 17, 18, 19, 20, 21, 22, 23, 24, 25, 26, 27, 28, 29] (by decide +kernel) (by decide +kernel)
set_option maxRecDepth 20000 in
theorem gX6_floorOf_X6_roundOf : GoodIn wsX6_floorOf (wsV RX6 126 RX6 yX6_roundOf wsX6_roundOf) := goodIn_app (goodIn_of _ (by decide +kernel)) ggX6_floorOf_X6_roundOf
set_option maxRecDepth 20000 in
theorem ggX6_floorOf_X6_plain : GoodIn wsX6_floorOf wsX6_plain := goodIn_r _ [10, 1, 15, 16, 17, 18, 19, 20, 21, 22, 23, 24, 25, 26, 27, 28, 29] (by decide +kernel) (by decide +kernel)
set_option maxRecDepth 20000 in
theorem gX6_floorOf_X6_plain : GoodIn wsX6_floorOf (wsV RX6 123 RX6 yX6_plain wsX6_plain) := goodIn_app (goodIn_of _ (by decide +kernel)) ggX6_floorOf_X6_plain
set_option maxRecDepth 20000 in
theorem ggX6_floorOf_X6_rests : GoodIn wsX6_floorOf wsX6_rests := goodIn_r _ [14, 1, 7, 8, 9, 5, 10, 15, 16, 17, 18, 19, 20, 21, 22, 23, 24, 25, 26, 27, 28, 29] (by decide +kernel) (by decide +kernel)
set_option maxRecDepth 20000 in
theorem gX6_floorOf_X6_rests : GoodIn wsX6_floorOf (wsV RX6 129 RX6 yX6_rests wsX6_rests) := goodIn_app (goodIn_of _ (by decide +kernel)) ggX6_floorOf_X6_rests
theorem dX6_floorOf_0 : decode cX6_floorOf 0 = .ok (.aload_n 0, 1) := by decide +kernel
theorem dX6_floorOf_1 : decode cX6_floorOf 1 = .ok (.getfield 7, 3) := by decide +kernel
theorem dX6_floorOf_4 : decode cX6_floorOf 4 = .ok (.iconst 1, 1) := by decide +kernel
theorem dX6_floorOf_5 : decode cX6_floorOf 5 = .ok (.iaload, 1) := by decide +kernel
theorem dX6_floorOf_6 : decode cX6_floorOf 6 = .ok (.istore 4, 2) := by decide +kernel
theorem dX6_floorOf_8 : decode cX6_floorOf 8 = .ok (.iload_n 3, 1) := by decide +kernel
theorem dX6_floorOf_9 : decode cX6_floorOf 9 = .ok (.iload_n 2, 1) := by decide +kernel
theorem dX6_floorOf_10 : decode cX6_floorOf 10 = .ok (.iadd, 1) := by decide +kernel
theorem dX6_floorOf_11 : decode cX6_floorOf 11 = .ok (.aload_n 0, 1) := by decide +kernel
theorem dX6_floorOf_12 : decode cX6_floorOf 12 = .ok (.iload_n 1, 1) := by decide +kernel
theorem dX6_floorOf_13 : decode cX6_floorOf 13 = .ok (.invokevirtual 126, 3) := by decide +kernel
theorem dX6_floorOf_16 : decode cX6_floorOf 16 = .ok (.irem, 1) := by decide +kernel
theorem dX6_floorOf_17 : decode cX6_floorOf 17 = .ok (.istore 5, 2) := by decide +kernel
theorem dX6_floorOf_19 : decode cX6_floorOf 19 = .ok (.iload_n 1, 1) := by decide +kernel
theorem dX6_floorOf_20 : decode cX6_floorOf 20 = .ok (.tableswitch 98 1 4 #[32, 41, 98, 48], 32) := by decide +kernel
theorem dX6_floorOf_52 : decode cX6_floorOf 52 = .ok (.aload_n 0, 1) := by decide +kernel
theorem dX6_floorOf_53 : decode cX6_floorOf 53 = .ok (.iconst 2, 1) := by decide +kernel
theorem dX6_floorOf_54 : decode cX6_floorOf 54 = .ok (.iload 5, 2) := by decide +kernel
theorem dX6_floorOf_56 : decode cX6_floorOf 56 = .ok (.imul, 1) := by decide +kernel
theorem dX6_floorOf_57 : decode cX6_floorOf 57 = .ok (.invokevirtual 123, 3) := by decide +kernel
theorem dX6_floorOf_60 : decode cX6_floorOf 60 = .ok (.ireturn, 1) := by decide +kernel
theorem dX6_floorOf_61 : decode cX6_floorOf 61 = .ok (.aload_n 0, 1) := by decide +kernel
theorem dX6_floorOf_62 : decode cX6_floorOf 62 = .ok (.iload 5, 2) := by decide +kernel
theorem dX6_floorOf_64 : decode cX6_floorOf 64 = .ok (.invokevirtual 129, 3) := by decide +kernel
theorem dX6_floorOf_67 : decode cX6_floorOf 67 = .ok (.ireturn, 1) := by decide +kernel
theorem dX6_floorOf_68 : decode cX6_floorOf 68 = .ok (.iload 5, 2) := by decide +kernel
theorem dX6_floorOf_70 : decode cX6_floorOf 70 = .ok (.iload 4, 2) := by decide +kernel
theorem dX6_floorOf_72 : decode cX6_floorOf 72 = .ok (.iconst 1, 1) := by decide +kernel
theorem dX6_floorOf_73 : decode cX6_floorOf 73 = .ok (.iadd, 1) := by decide +kernel
theorem dX6_floorOf_74 : decode cX6_floorOf 74 = .ok (.if_icmp .eq 12, 3) := by decide +kernel
theorem dX6_floorOf_77 : decode cX6_floorOf 77 = .ok (.iload 5, 2) := by decide +kernel
theorem dX6_floorOf_79 : decode cX6_floorOf 79 = .ok (.iload 4, 2) := by decide +kernel
theorem dX6_floorOf_81 : decode cX6_floorOf 81 = .ok (.iconst 2, 1) := by decide +kernel
theorem dX6_floorOf_82 : decode cX6_floorOf 82 = .ok (.iadd, 1) := by decide +kernel
theorem dX6_floorOf_83 : decode cX6_floorOf 83 = .ok (.if_icmp .ne 8, 3) := by decide +kernel
theorem dX6_floorOf_86 : decode cX6_floorOf 86 = .ok (.iload 4, 2) := by decide +kernel
theorem dX6_floorOf_88 : decode cX6_floorOf 88 = .ok (.goto 29, 3) := by decide +kernel
theorem dX6_floorOf_91 : decode cX6_floorOf 91 = .ok (.iload 5, 2) := by decide +kernel
theorem dX6_floorOf_93 : decode cX6_floorOf 93 = .ok (.iload 4, 2) := by decide +kernel
theorem dX6_floorOf_95 : decode cX6_floorOf 95 = .ok (.iconst 2, 1) := by decide +kernel
theorem dX6_floorOf_96 : decode cX6_floorOf 96 = .ok (.iadd, 1) := by decide +kernel
theorem dX6_floorOf_97 : decode cX6_floorOf 97 = .ok (.if_icmp .le 14, 3) := by decide +kernel
theorem dX6_floorOf_100 : decode cX6_floorOf 100 = .ok (.aload_n 0, 1) := by decide +kernel
theorem dX6_floorOf_101 : decode cX6_floorOf 101 = .ok (.iload 5, 2) := by decide +kernel
theorem dX6_floorOf_103 : decode cX6_floorOf 103 = .ok (.iconst 2, 1) := by decide +kernel
theorem dX6_floorOf_104 : decode cX6_floorOf 104 = .ok (.isub, 1) := by decide +kernel
theorem dX6_floorOf_105 : decode cX6_floorOf 105 = .ok (.invokevirtual 129, 3) := by decide +kernel
theorem dX6_floorOf_108 : decode cX6_floorOf 108 = .ok (.goto 9, 3) := by decide +kernel
theorem dX6_floorOf_111 : decode cX6_floorOf 111 = .ok (.aload_n 0, 1) := by decide +kernel
theorem dX6_floorOf_112 : decode cX6_floorOf 112 = .ok (.iload 5, 2) := by decide +kernel
theorem dX6_floorOf_114 : decode cX6_floorOf 114 = .ok (.invokevirtual 129, 3) := by decide +kernel
theorem dX6_floorOf_117 : decode cX6_floorOf 117 = .ok (.ireturn, 1) := by decide +kernel
theorem dX6_floorOf_118 : decode cX6_floorOf 118 = .ok (.aload_n 0, 1) := by decide +kernel
theorem dX6_floorOf_119 : decode cX6_floorOf 119 = .ok (.iload 5, 2) := by decide +kernel
theorem dX6_floorOf_121 : decode cX6_floorOf 121 = .ok (.invokevirtual 123, 3) := by decide +kernel
theorem dX6_floorOf_124 : decode cX6_floorOf 124 = .ok (.ireturn, 1) := by decide +kernel
set_option maxRecDepth 20000 in
theorem ggX6_floorIn_X6_floorOf : GoodIn wsX6_floorIn wsX6_floorOf := goodIn_r _ [6, 1, 7, 8, 9, 5, 10, 11, 12, 13, 14, 15, 16, 17, 18, 19, 20, 21, 22, 23, 24, 25, 26, 27, 28, 29, 30, 31, 32, 33] (by decide +kernel) (by decide +kernel)
set_option maxRecDepth 20000 in
theorem gX6_floorIn_X6_floorOf : GoodIn wsX6_floorIn (wsV RX6 132 RX6 yX6_floorOf wsX6_floorOf) := goodIn_app (goodIn_of _ (by decide +kernel)) ggX6_floorIn_X6_floorOf
theorem dX6_floorIn_0 : decode cX6_floorIn 0 = .ok (.aload_n 0, 1) := by decide +kernel
theorem dX6_floorIn_1 : decode cX6_floorIn 1 = .ok (.aload_n 0, 1) := by decide +kernel
theorem dX6_floorIn_2 : decode cX6_floorIn 2 = .ok (.getfield 7, 3) := by decide +kernel
theorem dX6_floorIn_5 : decode cX6_floorIn 5 = .ok (.iconst 5, 1) := by decide +kernel
theorem dX6_floorIn_6 : decode cX6_floorIn 6 = .ok (.iload_n 1, 1) := by decide +kernel
theorem dX6_floorIn_7 : decode cX6_floorIn 7 = .ok (.iadd, 1) := by decide +kernel
theorem dX6_floorIn_8 : decode cX6_floorIn 8 = .ok (.iaload, 1) := by decide +kernel
theorem dX6_floorIn_9 : decode cX6_floorIn 9 = .ok (.aload_n 0, 1) := by decide +kernel
theorem dX6_floorIn_10 : decode cX6_floorIn 10 = .ok (.getfield 7, 3) := by decide +kernel
theorem dX6_floorIn_13 : decode cX6_floorIn 13 = .ok (.bipush 9, 2) := by decide +kernel
theorem dX6_floorIn_15 : decode cX6_floorIn 15 = .ok (.iload_n 1, 1) := by decide +kernel
theorem dX6_floorIn_16 : decode cX6_floorIn 16 = .ok (.iadd, 1) := by decide +kernel
theorem dX6_floorIn_17 : decode cX6_floorIn 17 = .ok (.iaload, 1) := by decide +kernel
theorem dX6_floorIn_18 : decode cX6_floorIn 18 = .ok (.iload_n 2, 1) := by decide +kernel
theorem dX6_floorIn_19 : decode cX6_floorIn 19 = .ok (.invokevirtual 132, 3) := by decide +kernel
theorem dX6_floorIn_22 : decode cX6_floorIn 22 = .ok (.ireturn, 1) := by decide +kernel
theorem dX6_isTaken_0 : decode cX6_isTaken 0 = .ok (.aload_n 0, 1) := by decide +kernel
theorem dX6_isTaken_1 : decode cX6_isTaken 1 = .ok (.getfield 7, 3) := by decide +kernel
theorem dX6_isTaken_4 : decode cX6_isTaken 4 = .ok (.iconst 5, 1) := by decide +kernel
theorem dX6_isTaken_5 : decode cX6_isTaken 5 = .ok (.iload_n 1, 1) := by decide +kernel
theorem dX6_isTaken_6 : decode cX6_isTaken 6 = .ok (.iadd, 1) := by decide +kernel
theorem dX6_isTaken_7 : decode cX6_isTaken 7 = .ok (.iaload, 1) := by decide +kernel
theorem dX6_isTaken_8 : decode cX6_isTaken 8 = .ok (.istore_n 3, 1) := by decide +kernel
theorem dX6_isTaken_9 : decode cX6_isTaken 9 = .ok (.iload_n 3, 1) := by decide +kernel
theorem dX6_isTaken_10 : decode cX6_isTaken 10 = .ok (.iconst 3, 1) := by decide +kernel
theorem dX6_isTaken_11 : decode cX6_isTaken 11 = .ok (.if_icmp .ne 22, 3) := by decide +kernel
theorem dX6_isTaken_14 : decode cX6_isTaken 14 = .ok (.iload_n 2, 1) := by decide +kernel
theorem dX6_isTaken_15 : decode cX6_isTaken 15 = .ok (.ifCond .eq 10, 3) := by decide +kernel
theorem dX6_isTaken_18 : decode cX6_isTaken 18 = .ok (.iload_n 2, 1) := by decide +kernel
theorem dX6_isTaken_19 : decode cX6_isTaken 19 = .ok (.iconst 2, 1) := by decide +kernel
theorem dX6_isTaken_20 : decode cX6_isTaken 20 = .ok (.irem, 1) := by decide +kernel
theorem dX6_isTaken_21 : decode cX6_isTaken 21 = .ok (.iconst 1, 1) := by decide +kernel
theorem dX6_isTaken_22 : decode cX6_isTaken 22 = .ok (.if_icmp .ne 7, 3) := by decide +kernel
theorem dX6_isTaken_25 : decode cX6_isTaken 25 = .ok (.iconst 1, 1) := by decide +kernel
theorem dX6_isTaken_26 : decode cX6_isTaken 26 = .ok (.goto 31, 3) := by decide +kernel
theorem dX6_isTaken_29 : decode cX6_isTaken 29 = .ok (.iconst 0, 1) := by decide +kernel
theorem dX6_isTaken_30 : decode cX6_isTaken 30 = .ok (.goto 27, 3) := by decide +kernel
theorem dX6_isTaken_33 : decode cX6_isTaken 33 = .ok (.iload_n 3, 1) := by decide +kernel
theorem dX6_isTaken_34 : decode cX6_isTaken 34 = .ok (.iconst 5, 1) := by decide +kernel
theorem dX6_isTaken_35 : decode cX6_isTaken 35 = .ok (.if_icmp .ne 17, 3) := by decide +kernel
theorem dX6_isTaken_38 : decode cX6_isTaken 38 = .ok (.iload_n 2, 1) := by decide +kernel
theorem dX6_isTaken_39 : decode cX6_isTaken 39 = .ok (.ifCond .eq 13, 3) := by decide +kernel
theorem dX6_isTaken_42 : decode cX6_isTaken 42 = .ok (.iload_n 2, 1) := by decide +kernel
theorem dX6_isTaken_43 : decode cX6_isTaken 43 = .ok (.aload_n 0, 1) := by decide +kernel
theorem dX6_isTaken_44 : decode cX6_isTaken 44 = .ok (.getfield 7, 3) := by decide +kernel
theorem dX6_isTaken_47 : decode cX6_isTaken 47 = .ok (.iconst 1, 1) := by decide +kernel
theorem dX6_isTaken_48 : decode cX6_isTaken 48 = .ok (.iaload, 1) := by decide +kernel
theorem dX6_isTaken_49 : decode cX6_isTaken 49 = .ok (.if_icmp .ne 7, 3) := by decide +kernel
theorem dX6_isTaken_52 : decode cX6_isTaken 52 = .ok (.iconst 1, 1) := by decide +kernel
theorem dX6_isTaken_53 : decode cX6_isTaken 53 = .ok (.goto 4, 3) := by decide +kernel
theorem dX6_isTaken_56 : decode cX6_isTaken 56 = .ok (.iconst 0, 1) := by decide +kernel
theorem dX6_isTaken_57 : decode cX6_isTaken 57 = .ok (.ireturn, 1) := by decide +kernel
set_option maxRecDepth 20000 in
theorem ggX6_wayIn_X6_floorIn : GoodIn wsX6_wayIn wsX6_floorIn := goodIn_r _ [6, 1, 7, 8, 9, 5, 10, 11, 12, 13, 14, 15, 16, 17, 18, 19, 20, 21, 22, 23, 24, 25, 26, 27, 28, 29, 30, 31, 32, 33, 34, 35, 36, 37] (by decide +kernel) (by decide +kernel)
set_option maxRecDepth 20000 in
theorem gX6_wayIn_X6_floorIn : GoodIn wsX6_wayIn (wsV RX6 135 RX6 yX6_floorIn wsX6_floorIn) := goodIn_app (goodIn_of _ (by decide +kernel)) ggX6_wayIn_X6_floorIn
set_option maxRecDepth 20000 in
theorem ggX6_wayIn_X6_roundOf : GoodIn wsX6_wayIn wsX6_roundOf := goodIn_r _ [14, 1, 23, 24, 25, 26, 27, 28, 29, 30, 31, 32, 33, 34, 35, 36, 37] (by decide +kernel) (by decide +kernel)
set_option maxRecDepth 20000 in
theorem gX6_wayIn_X6_roundOf : GoodIn wsX6_wayIn (wsV RX6 126 RX6 yX6_roundOf wsX6_roundOf) := goodIn_app (goodIn_of _ (by decide +kernel)) ggX6_wayIn_X6_roundOf
theorem dX6_wayIn_0 : decode cX6_wayIn 0 = .ok (.aload_n 0, 1) := by decide +kernel
theorem dX6_wayIn_1 : decode cX6_wayIn 1 = .ok (.iload_n 1, 1) := by decide +kernel
theorem dX6_wayIn_2 : decode cX6_wayIn 2 = .ok (.iload_n 2, 1) := by decide +kernel
theorem dX6_wayIn_3 : decode cX6_wayIn 3 = .ok (.invokevirtual 135, 3) := by decide +kernel
theorem dX6_wayIn_6 : decode cX6_wayIn 6 = .ok (.istore_n 3, 1) := by decide +kernel
theorem dX6_wayIn_7 : decode cX6_wayIn 7 = .ok (.iconst 1, 1) := by decide +kernel
theorem dX6_wayIn_8 : decode cX6_wayIn 8 = .ok (.istore 4, 2) := by decide +kernel
theorem dX6_wayIn_10 : decode cX6_wayIn 10 = .ok (.iload 4, 2) := by decide +kernel
theorem dX6_wayIn_12 : decode cX6_wayIn 12 = .ok (.aload_n 0, 1) := by decide +kernel
theorem dX6_wayIn_13 : decode cX6_wayIn 13 = .ok (.aload_n 0, 1) := by decide +kernel
theorem dX6_wayIn_14 : decode cX6_wayIn 14 = .ok (.getfield 7, 3) := by decide +kernel
theorem dX6_wayIn_17 : decode cX6_wayIn 17 = .ok (.iconst 5, 1) := by decide +kernel
theorem dX6_wayIn_18 : decode cX6_wayIn 18 = .ok (.iload_n 1, 1) := by decide +kernel
theorem dX6_wayIn_19 : decode cX6_wayIn 19 = .ok (.iadd, 1) := by decide +kernel
theorem dX6_wayIn_20 : decode cX6_wayIn 20 = .ok (.iaload, 1) := by decide +kernel
theorem dX6_wayIn_21 : decode cX6_wayIn 21 = .ok (.invokevirtual 126, 3) := by decide +kernel
theorem dX6_wayIn_24 : decode cX6_wayIn 24 = .ok (.if_icmp .ge 38, 3) := by decide +kernel
theorem dX6_wayIn_27 : decode cX6_wayIn 27 = .ok (.aload_n 0, 1) := by decide +kernel
theorem dX6_wayIn_28 : decode cX6_wayIn 28 = .ok (.iload_n 1, 1) := by decide +kernel
theorem dX6_wayIn_29 : decode cX6_wayIn 29 = .ok (.iload_n 2, 1) := by decide +kernel
theorem dX6_wayIn_30 : decode cX6_wayIn 30 = .ok (.iload 4, 2) := by decide +kernel
theorem dX6_wayIn_32 : decode cX6_wayIn 32 = .ok (.iadd, 1) := by decide +kernel
theorem dX6_wayIn_33 : decode cX6_wayIn 33 = .ok (.invokevirtual 135, 3) := by decide +kernel
theorem dX6_wayIn_36 : decode cX6_wayIn 36 = .ok (.istore 5, 2) := by decide +kernel
theorem dX6_wayIn_38 : decode cX6_wayIn 38 = .ok (.iload 5, 2) := by decide +kernel
theorem dX6_wayIn_40 : decode cX6_wayIn 40 = .ok (.iload_n 3, 1) := by decide +kernel
theorem dX6_wayIn_41 : decode cX6_wayIn 41 = .ok (.if_icmp .eq 15, 3) := by decide +kernel
theorem dX6_wayIn_44 : decode cX6_wayIn 44 = .ok (.iload 5, 2) := by decide +kernel
theorem dX6_wayIn_46 : decode cX6_wayIn 46 = .ok (.iload_n 3, 1) := by decide +kernel
theorem dX6_wayIn_47 : decode cX6_wayIn 47 = .ok (.if_icmp .le 7, 3) := by decide +kernel
theorem dX6_wayIn_50 : decode cX6_wayIn 50 = .ok (.iconst 1, 1) := by decide +kernel
theorem dX6_wayIn_51 : decode cX6_wayIn 51 = .ok (.goto 4, 3) := by decide +kernel
theorem dX6_wayIn_54 : decode cX6_wayIn 54 = .ok (.iconst 0, 1) := by decide +kernel
theorem dX6_wayIn_55 : decode cX6_wayIn 55 = .ok (.ireturn, 1) := by decide +kernel
theorem dX6_wayIn_56 : decode cX6_wayIn 56 = .ok (.iinc 4 1, 3) := by decide +kernel
theorem dX6_wayIn_59 : decode cX6_wayIn 59 = .ok (.goto (-49), 3) := by decide +kernel
theorem dX6_wayIn_62 : decode cX6_wayIn 62 = .ok (.iconst 0, 1) := by decide +kernel
theorem dX6_wayIn_63 : decode cX6_wayIn 63 = .ok (.ireturn, 1) := by decide +kernel
set_option maxRecDepth 20000 in
theorem ggX6_isSeen_X6_floorIn : GoodIn wsX6_isSeen wsX6_floorIn := goodIn_r _ [5, 6, 7, 8, 9, 4, 10, 11, 12, 13, 14, 15, 16, 17, 18, 19, 20, 21, 22, 27, 28, 29, 30, 31, 32, 33, 34, 35, 36, 37, 38, 39, 40, 41] (by decide +kernel) (by decide +kernel)
set_option maxRecDepth 20000 in
theorem gX6_isSeen_X6_floorIn : GoodIn wsX6_isSeen (wsV RX6 135 RX6 yX6_floorIn wsX6_floorIn) := goodIn_app (goodIn_of _ (by decide +kernel)) ggX6_isSeen_X6_floorIn
set_option maxRecDepth 20000 in
theorem ggX6_isSeen_X6_isTaken : GoodIn wsX6_isSeen wsX6_isTaken := goodIn_r _ [26, 6, 27, 28, 29, 30, 31, 32, 33, 34, 35, 36, 37, 38, 39, 40, 41] (by decide +kernel) (by decide +kernel)
set_option maxRecDepth 20000 in
theorem gX6_isSeen_X6_isTaken : GoodIn wsX6_isSeen (wsV RX6 139 RX6 yX6_isTaken wsX6_isTaken) := goodIn_app (goodIn_of _ (by decide +kernel)) ggX6_isSeen_X6_isTaken
theorem dX6_isSeen_0 : decode cX6_isSeen 0 = .ok (.aload_n 0, 1) := by decide +kernel
theorem dX6_isSeen_1 : decode cX6_isSeen 1 = .ok (.iload_n 1, 1) := by decide +kernel
theorem dX6_isSeen_2 : decode cX6_isSeen 2 = .ok (.iload_n 3, 1) := by decide +kernel
theorem dX6_isSeen_3 : decode cX6_isSeen 3 = .ok (.invokevirtual 135, 3) := by decide +kernel
theorem dX6_isSeen_6 : decode cX6_isSeen 6 = .ok (.iload_n 2, 1) := by decide +kernel
theorem dX6_isSeen_7 : decode cX6_isSeen 7 = .ok (.if_icmp .ne 16, 3) := by decide +kernel
theorem dX6_isSeen_10 : decode cX6_isSeen 10 = .ok (.aload_n 0, 1) := by decide +kernel
theorem dX6_isSeen_11 : decode cX6_isSeen 11 = .ok (.iload_n 1, 1) := by decide +kernel
theorem dX6_isSeen_12 : decode cX6_isSeen 12 = .ok (.iload_n 2, 1) := by decide +kernel
theorem dX6_isSeen_13 : decode cX6_isSeen 13 = .ok (.invokevirtual 139, 3) := by decide +kernel
theorem dX6_isSeen_16 : decode cX6_isSeen 16 = .ok (.ifCond .eq 7, 3) := by decide +kernel
theorem dX6_isSeen_19 : decode cX6_isSeen 19 = .ok (.iconst 1, 1) := by decide +kernel
theorem dX6_isSeen_20 : decode cX6_isSeen 20 = .ok (.goto 4, 3) := by decide +kernel
theorem dX6_isSeen_23 : decode cX6_isSeen 23 = .ok (.iconst 0, 1) := by decide +kernel
theorem dX6_isSeen_24 : decode cX6_isSeen 24 = .ok (.ireturn, 1) := by decide +kernel
set_option maxRecDepth 20000 in
theorem ggX6_passes_X6_in : GoodIn wsX6_passes wsX6_in := goodIn_r _ [6] (by decide +kernel) (by decide +kernel)
set_option maxRecDepth 20000 in
theorem gX6_passes_X6_in : GoodIn wsX6_passes (va_wsS RX6 34 yX6_in wsX6_in) := goodIn_app (goodIn_of _ (by decide +kernel)) ggX6_passes_X6_in
set_option maxRecDepth 20000 in
theorem ggX6_passes_X6_bad : GoodIn wsX6_passes wsX6_bad := goodIn_r _ [10, 11, 12, 13, 14, 15, 16, 17, 18, 19, 20, 21, 22, 23, 24, 25, 26] (by decide +kernel) (by decide +kernel)
set_option maxRecDepth 20000 in
theorem gX6_passes_X6_bad : GoodIn wsX6_passes (wsV RX6 42 RX6 yX6_bad wsX6_bad) := goodIn_app (goodIn_of _ (by decide +kernel)) ggX6_passes_X6_bad
theorem dX6_passes_0 : decode cX6_passes 0 = .ok (.iload_n 1, 1) := by decide +kernel
theorem dX6_passes_1 : decode cX6_passes 1 = .ok (.i2l, 1) := by decide +kernel
theorem dX6_passes_2 : decode cX6_passes 2 = .ok (.lconst 1, 1) := by decide +kernel
theorem dX6_passes_3 : decode cX6_passes 3 = .ok (.ldc2_w 48, 3) := by decide +kernel
theorem dX6_passes_6 : decode cX6_passes 6 = .ok (.invokestatic 34, 3) := by decide +kernel
theorem dX6_passes_9 : decode cX6_passes 9 = .ok (.ifCond .ne 8, 3) := by decide +kernel
theorem dX6_passes_12 : decode cX6_passes 12 = .ok (.aload_n 0, 1) := by decide +kernel
theorem dX6_passes_13 : decode cX6_passes 13 = .ok (.invokevirtual 42, 3) := by decide +kernel
theorem dX6_passes_16 : decode cX6_passes 16 = .ok (.ireturn, 1) := by decide +kernel
theorem dX6_passes_17 : decode cX6_passes 17 = .ok (.aload_n 0, 1) := by decide +kernel
theorem dX6_passes_18 : decode cX6_passes 18 = .ok (.getfield 7, 3) := by decide +kernel
theorem dX6_passes_21 : decode cX6_passes 21 = .ok (.iconst 4, 1) := by decide +kernel
theorem dX6_passes_22 : decode cX6_passes 22 = .ok (.iaload, 1) := by decide +kernel
theorem dX6_passes_23 : decode cX6_passes 23 = .ok (.bipush 8, 2) := by decide +kernel
theorem dX6_passes_25 : decode cX6_passes 25 = .ok (.if_icmp .ne 47, 3) := by decide +kernel
theorem dX6_passes_28 : decode cX6_passes 28 = .ok (.iconst 0, 1) := by decide +kernel
theorem dX6_passes_29 : decode cX6_passes 29 = .ok (.istore_n 2, 1) := by decide +kernel
theorem dX6_passes_30 : decode cX6_passes 30 = .ok (.iload_n 2, 1) := by decide +kernel
theorem dX6_passes_31 : decode cX6_passes 31 = .ok (.bipush 7, 2) := by decide +kernel
theorem dX6_passes_33 : decode cX6_passes 33 = .ok (.if_icmp .ge 29, 3) := by decide +kernel
theorem dX6_passes_36 : decode cX6_passes 36 = .ok (.aload_n 0, 1) := by decide +kernel
theorem dX6_passes_37 : decode cX6_passes 37 = .ok (.getfield 7, 3) := by decide +kernel
theorem dX6_passes_40 : decode cX6_passes 40 = .ok (.bipush 41, 2) := by decide +kernel
theorem dX6_passes_42 : decode cX6_passes 42 = .ok (.iload_n 2, 1) := by decide +kernel
theorem dX6_passes_43 : decode cX6_passes 43 = .ok (.iadd, 1) := by decide +kernel
theorem dX6_passes_44 : decode cX6_passes 44 = .ok (.aload_n 0, 1) := by decide +kernel
theorem dX6_passes_45 : decode cX6_passes 45 = .ok (.getfield 7, 3) := by decide +kernel
theorem dX6_passes_48 : decode cX6_passes 48 = .ok (.bipush 41, 2) := by decide +kernel
theorem dX6_passes_50 : decode cX6_passes 50 = .ok (.iload_n 2, 1) := by decide +kernel
theorem dX6_passes_51 : decode cX6_passes 51 = .ok (.iadd, 1) := by decide +kernel
theorem dX6_passes_52 : decode cX6_passes 52 = .ok (.iconst 1, 1) := by decide +kernel
theorem dX6_passes_53 : decode cX6_passes 53 = .ok (.iadd, 1) := by decide +kernel
theorem dX6_passes_54 : decode cX6_passes 54 = .ok (.iaload, 1) := by decide +kernel
theorem dX6_passes_55 : decode cX6_passes 55 = .ok (.iastore, 1) := by decide +kernel
theorem dX6_passes_56 : decode cX6_passes 56 = .ok (.iinc 2 1, 3) := by decide +kernel
theorem dX6_passes_59 : decode cX6_passes 59 = .ok (.goto (-29), 3) := by decide +kernel
theorem dX6_passes_62 : decode cX6_passes 62 = .ok (.aload_n 0, 1) := by decide +kernel
theorem dX6_passes_63 : decode cX6_passes 63 = .ok (.getfield 7, 3) := by decide +kernel
theorem dX6_passes_66 : decode cX6_passes 66 = .ok (.iconst 4, 1) := by decide +kernel
theorem dX6_passes_67 : decode cX6_passes 67 = .ok (.dup2, 1) := by decide +kernel
theorem dX6_passes_68 : decode cX6_passes 68 = .ok (.iaload, 1) := by decide +kernel
theorem dX6_passes_69 : decode cX6_passes 69 = .ok (.iconst 1, 1) := by decide +kernel
theorem dX6_passes_70 : decode cX6_passes 70 = .ok (.isub, 1) := by decide +kernel
theorem dX6_passes_71 : decode cX6_passes 71 = .ok (.iastore, 1) := by decide +kernel
theorem dX6_passes_72 : decode cX6_passes 72 = .ok (.aload_n 0, 1) := by decide +kernel
theorem dX6_passes_73 : decode cX6_passes 73 = .ok (.getfield 7, 3) := by decide +kernel
theorem dX6_passes_76 : decode cX6_passes 76 = .ok (.bipush 41, 2) := by decide +kernel
theorem dX6_passes_78 : decode cX6_passes 78 = .ok (.aload_n 0, 1) := by decide +kernel
theorem dX6_passes_79 : decode cX6_passes 79 = .ok (.getfield 7, 3) := by decide +kernel
theorem dX6_passes_82 : decode cX6_passes 82 = .ok (.iconst 4, 1) := by decide +kernel
theorem dX6_passes_83 : decode cX6_passes 83 = .ok (.iaload, 1) := by decide +kernel
theorem dX6_passes_84 : decode cX6_passes 84 = .ok (.iadd, 1) := by decide +kernel
theorem dX6_passes_85 : decode cX6_passes 85 = .ok (.aload_n 0, 1) := by decide +kernel
theorem dX6_passes_86 : decode cX6_passes 86 = .ok (.getfield 7, 3) := by decide +kernel
theorem dX6_passes_89 : decode cX6_passes 89 = .ok (.iconst 2, 1) := by decide +kernel
theorem dX6_passes_90 : decode cX6_passes 90 = .ok (.iaload, 1) := by decide +kernel
theorem dX6_passes_91 : decode cX6_passes 91 = .ok (.iastore, 1) := by decide +kernel
theorem dX6_passes_92 : decode cX6_passes 92 = .ok (.aload_n 0, 1) := by decide +kernel
theorem dX6_passes_93 : decode cX6_passes 93 = .ok (.getfield 7, 3) := by decide +kernel
theorem dX6_passes_96 : decode cX6_passes 96 = .ok (.iconst 4, 1) := by decide +kernel
theorem dX6_passes_97 : decode cX6_passes 97 = .ok (.dup2, 1) := by decide +kernel
theorem dX6_passes_98 : decode cX6_passes 98 = .ok (.iaload, 1) := by decide +kernel
theorem dX6_passes_99 : decode cX6_passes 99 = .ok (.iconst 1, 1) := by decide +kernel
theorem dX6_passes_100 : decode cX6_passes 100 = .ok (.iadd, 1) := by decide +kernel
theorem dX6_passes_101 : decode cX6_passes 101 = .ok (.iastore, 1) := by decide +kernel
theorem dX6_passes_102 : decode cX6_passes 102 = .ok (.aload_n 0, 1) := by decide +kernel
theorem dX6_passes_103 : decode cX6_passes 103 = .ok (.getfield 7, 3) := by decide +kernel
theorem dX6_passes_106 : decode cX6_passes 106 = .ok (.iconst 2, 1) := by decide +kernel
theorem dX6_passes_107 : decode cX6_passes 107 = .ok (.aload_n 0, 1) := by decide +kernel
theorem dX6_passes_108 : decode cX6_passes 108 = .ok (.getfield 7, 3) := by decide +kernel
theorem dX6_passes_111 : decode cX6_passes 111 = .ok (.iconst 2, 1) := by decide +kernel
theorem dX6_passes_112 : decode cX6_passes 112 = .ok (.iaload, 1) := by decide +kernel
theorem dX6_passes_113 : decode cX6_passes 113 = .ok (.iload_n 1, 1) := by decide +kernel
theorem dX6_passes_114 : decode cX6_passes 114 = .ok (.iadd, 1) := by decide +kernel
theorem dX6_passes_115 : decode cX6_passes 115 = .ok (.sipush 999, 3) := by decide +kernel
theorem dX6_passes_118 : decode cX6_passes 118 = .ok (.if_icmp .le 9, 3) := by decide +kernel
theorem dX6_passes_121 : decode cX6_passes 121 = .ok (.sipush 999, 3) := by decide +kernel
theorem dX6_passes_124 : decode cX6_passes 124 = .ok (.goto 11, 3) := by decide +kernel
theorem dX6_passes_127 : decode cX6_passes 127 = .ok (.aload_n 0, 1) := by decide +kernel
theorem dX6_passes_128 : decode cX6_passes 128 = .ok (.getfield 7, 3) := by decide +kernel
theorem dX6_passes_131 : decode cX6_passes 131 = .ok (.iconst 2, 1) := by decide +kernel
theorem dX6_passes_132 : decode cX6_passes 132 = .ok (.iaload, 1) := by decide +kernel
theorem dX6_passes_133 : decode cX6_passes 133 = .ok (.iload_n 1, 1) := by decide +kernel
theorem dX6_passes_134 : decode cX6_passes 134 = .ok (.iadd, 1) := by decide +kernel
theorem dX6_passes_135 : decode cX6_passes 135 = .ok (.iastore, 1) := by decide +kernel
theorem dX6_passes_136 : decode cX6_passes 136 = .ok (.aload_n 0, 1) := by decide +kernel
theorem dX6_passes_137 : decode cX6_passes 137 = .ok (.getfield 7, 3) := by decide +kernel
theorem dX6_passes_140 : decode cX6_passes 140 = .ok (.iconst 2, 1) := by decide +kernel
theorem dX6_passes_141 : decode cX6_passes 141 = .ok (.iaload, 1) := by decide +kernel
theorem dX6_passes_142 : decode cX6_passes 142 = .ok (.ireturn, 1) := by decide +kernel
set_option maxRecDepth 20000 in
theorem ggX6_undo_X6_no : GoodIn wsX6_undo wsX6_no := goodIn_r _ [6, 7, 8, 9, 10, 11, 12, 13, 14, 15, 16, 17, 18, 19, 20, 21, 22] (by decide +kernel) (by decide +kernel)
set_option maxRecDepth 20000 in
theorem gX6_undo_X6_no : GoodIn wsX6_undo (wsV RX6 143 RX6 yX6_no wsX6_no) := goodIn_app (goodIn_of _ (by decide +kernel)) ggX6_undo_X6_no
theorem dX6_undo_0 : decode cX6_undo 0 = .ok (.aload_n 0, 1) := by decide +kernel
theorem dX6_undo_1 : decode cX6_undo 1 = .ok (.getfield 7, 3) := by decide +kernel
theorem dX6_undo_4 : decode cX6_undo 4 = .ok (.iconst 4, 1) := by decide +kernel
theorem dX6_undo_5 : decode cX6_undo 5 = .ok (.iaload, 1) := by decide +kernel
theorem dX6_undo_6 : decode cX6_undo 6 = .ok (.ifCond .ne 8, 3) := by decide +kernel
theorem dX6_undo_9 : decode cX6_undo 9 = .ok (.aload_n 0, 1) := by decide +kernel
theorem dX6_undo_10 : decode cX6_undo 10 = .ok (.invokevirtual 143, 3) := by decide +kernel
theorem dX6_undo_13 : decode cX6_undo 13 = .ok (.ireturn, 1) := by decide +kernel
theorem dX6_undo_14 : decode cX6_undo 14 = .ok (.aload_n 0, 1) := by decide +kernel
theorem dX6_undo_15 : decode cX6_undo 15 = .ok (.getfield 7, 3) := by decide +kernel
theorem dX6_undo_18 : decode cX6_undo 18 = .ok (.iconst 4, 1) := by decide +kernel
theorem dX6_undo_19 : decode cX6_undo 19 = .ok (.dup2, 1) := by decide +kernel
theorem dX6_undo_20 : decode cX6_undo 20 = .ok (.iaload, 1) := by decide +kernel
theorem dX6_undo_21 : decode cX6_undo 21 = .ok (.iconst 1, 1) := by decide +kernel
theorem dX6_undo_22 : decode cX6_undo 22 = .ok (.isub, 1) := by decide +kernel
theorem dX6_undo_23 : decode cX6_undo 23 = .ok (.iastore, 1) := by decide +kernel
theorem dX6_undo_24 : decode cX6_undo 24 = .ok (.aload_n 0, 1) := by decide +kernel
theorem dX6_undo_25 : decode cX6_undo 25 = .ok (.getfield 7, 3) := by decide +kernel
theorem dX6_undo_28 : decode cX6_undo 28 = .ok (.iconst 2, 1) := by decide +kernel
theorem dX6_undo_29 : decode cX6_undo 29 = .ok (.aload_n 0, 1) := by decide +kernel
theorem dX6_undo_30 : decode cX6_undo 30 = .ok (.getfield 7, 3) := by decide +kernel
theorem dX6_undo_33 : decode cX6_undo 33 = .ok (.bipush 41, 2) := by decide +kernel
theorem dX6_undo_35 : decode cX6_undo 35 = .ok (.aload_n 0, 1) := by decide +kernel
theorem dX6_undo_36 : decode cX6_undo 36 = .ok (.getfield 7, 3) := by decide +kernel
theorem dX6_undo_39 : decode cX6_undo 39 = .ok (.iconst 4, 1) := by decide +kernel
theorem dX6_undo_40 : decode cX6_undo 40 = .ok (.iaload, 1) := by decide +kernel
theorem dX6_undo_41 : decode cX6_undo 41 = .ok (.iadd, 1) := by decide +kernel
theorem dX6_undo_42 : decode cX6_undo 42 = .ok (.iaload, 1) := by decide +kernel
theorem dX6_undo_43 : decode cX6_undo 43 = .ok (.iastore, 1) := by decide +kernel
theorem dX6_undo_44 : decode cX6_undo 44 = .ok (.aload_n 0, 1) := by decide +kernel
theorem dX6_undo_45 : decode cX6_undo 45 = .ok (.getfield 7, 3) := by decide +kernel
theorem dX6_undo_48 : decode cX6_undo 48 = .ok (.iconst 2, 1) := by decide +kernel
theorem dX6_undo_49 : decode cX6_undo 49 = .ok (.iaload, 1) := by decide +kernel
theorem dX6_undo_50 : decode cX6_undo 50 = .ok (.ireturn, 1) := by decide +kernel
set_option maxRecDepth 20000 in
theorem ggX6_of_X6_isLift : GoodIn wsX6_of wsX6_isLift := goodIn_r _ [7, 2, 8, 9, 6, 10, 44, 45, 46, 47, 48, 49, 50, 51, 52, 53, 54, 55, 56, 57, 58] (by decide +kernel) (by decide +kernel)
set_option maxRecDepth 20000 in
theorem gX6_of_X6_isLift : GoodIn wsX6_of (wsV RX6 146 RX6 yX6_isLift wsX6_isLift) := goodIn_app (goodIn_of _ (by decide +kernel)) ggX6_of_X6_isLift
set_option maxRecDepth 20000 in
theorem ggX6_of_X6_in : GoodIn wsX6_of wsX6_in := goodIn_r _ [10] (by decide +kernel) (by decide +kernel)
set_option maxRecDepth 20000 in
theorem gX6_of_X6_in : GoodIn wsX6_of (va_wsS RX6 34 yX6_in wsX6_in) := goodIn_app (goodIn_of _ (by decide +kernel)) ggX6_of_X6_in
set_option maxRecDepth 20000 in
theorem ggX6_of_X6_bad : GoodIn wsX6_of wsX6_bad := goodIn_r _ [14, 15, 44, 45, 46, 47, 48, 49, 50, 51, 52, 53, 54, 55, 56, 57, 58] (by decide +kernel) (by decide +kernel)
set_option maxRecDepth 20000 in
theorem gX6_of_X6_bad : GoodIn wsX6_of (wsV RX6 42 RX6 yX6_bad wsX6_bad) := goodIn_app (goodIn_of _ (by decide +kernel)) ggX6_of_X6_bad
set_option maxRecDepth 20000 in
theorem ggX6_of_X6_floorIn : GoodIn wsX6_of wsX6_floorIn := goodIn_r _ [19, 2, 20, 21, 22, 6, 23, 24, 25, 26, 27, 28, 29, 30, 31, 32, 33, 34, 35, 44, 45, 46, 47, 48, 49, 50, 51, 52, 53, 54, 55, 56, 57, 58] (by decide +kernel) (by decide +kernel)
set_option maxRecDepth 20000 in
theorem gX6_of_X6_floorIn : GoodIn wsX6_of (wsV RX6 135 RX6 yX6_floorIn wsX6_floorIn) := goodIn_app (goodIn_of _ (by decide +kernel)) ggX6_of_X6_floorIn
set_option maxRecDepth 20000 in
theorem ggX6_of_X6_roundOf : GoodIn wsX6_of wsX6_roundOf := goodIn_r _ [27, 2, 44, 45, 46, 47, 48, 49, 50, 51, 52, 53, 54, 55, 56, 57, 58] (by decide +kernel) (by decide +kernel)
set_option maxRecDepth 20000 in
theorem gX6_of_X6_roundOf : GoodIn wsX6_of (wsV RX6 126 RX6 yX6_roundOf wsX6_roundOf) := goodIn_app (goodIn_of _ (by decide +kernel)) ggX6_of_X6_roundOf
set_option maxRecDepth 20000 in
theorem ggX6_of_X6_wayIn : GoodIn wsX6_of wsX6_wayIn := goodIn_r _ [39, 2, 16, 17, 18, 6, 19, 20, 21, 22, 23, 24, 25, 26, 27, 28, 29, 30, 31, 32, 33, 34, 35, 44, 45, 46, 47, 48, 49, 50, 51, 52, 53, 54, 55, 56, 57, 58] (by decide +kernel) (by decide +kernel)
set_option maxRecDepth 20000 in
theorem gX6_of_X6_wayIn : GoodIn wsX6_of (wsV RX6 149 RX6 yX6_wayIn wsX6_wayIn) := goodIn_app (goodIn_of _ (by decide +kernel)) ggX6_of_X6_wayIn
set_option maxRecDepth 20000 in
theorem ggX6_of_X6_isTaken : GoodIn wsX6_of wsX6_isTaken := goodIn_r _ [43, 2, 44, 45, 46, 47, 48, 49, 50, 51, 52, 53, 54, 55, 56, 57, 58] (by decide +kernel) (by decide +kernel)
set_option maxRecDepth 20000 in
theorem gX6_of_X6_isTaken : GoodIn wsX6_of (wsV RX6 139 RX6 yX6_isTaken wsX6_isTaken) := goodIn_app (goodIn_of _ (by decide +kernel)) ggX6_of_X6_isTaken
theorem dX6_of_0 : decode cX6_of 0 = .ok (.aload_n 0, 1) := by decide +kernel
theorem dX6_of_1 : decode cX6_of 1 = .ok (.iload_n 1, 1) := by decide +kernel
theorem dX6_of_2 : decode cX6_of 2 = .ok (.invokevirtual 146, 3) := by decide +kernel
theorem dX6_of_5 : decode cX6_of 5 = .ok (.ifCond .eq 15, 3) := by decide +kernel
theorem dX6_of_8 : decode cX6_of 8 = .ok (.iload_n 2, 1) := by decide +kernel
theorem dX6_of_9 : decode cX6_of 9 = .ok (.i2l, 1) := by decide +kernel
theorem dX6_of_10 : decode cX6_of 10 = .ok (.lconst 0, 1) := by decide +kernel
theorem dX6_of_11 : decode cX6_of 11 = .ok (.ldc2_w 46, 3) := by decide +kernel
theorem dX6_of_14 : decode cX6_of 14 = .ok (.invokestatic 34, 3) := by decide +kernel
theorem dX6_of_17 : decode cX6_of 17 = .ok (.ifCond .ne 8, 3) := by decide +kernel
theorem dX6_of_20 : decode cX6_of 20 = .ok (.aload_n 0, 1) := by decide +kernel
theorem dX6_of_21 : decode cX6_of 21 = .ok (.invokevirtual 42, 3) := by decide +kernel
theorem dX6_of_24 : decode cX6_of 24 = .ok (.ireturn, 1) := by decide +kernel
theorem dX6_of_25 : decode cX6_of 25 = .ok (.aload_n 0, 1) := by decide +kernel
theorem dX6_of_26 : decode cX6_of 26 = .ok (.iload_n 1, 1) := by decide +kernel
theorem dX6_of_27 : decode cX6_of 27 = .ok (.aload_n 0, 1) := by decide +kernel
theorem dX6_of_28 : decode cX6_of 28 = .ok (.getfield 7, 3) := by decide +kernel
theorem dX6_of_31 : decode cX6_of 31 = .ok (.iconst 2, 1) := by decide +kernel
theorem dX6_of_32 : decode cX6_of 32 = .ok (.iaload, 1) := by decide +kernel
theorem dX6_of_33 : decode cX6_of 33 = .ok (.invokevirtual 135, 3) := by decide +kernel
theorem dX6_of_36 : decode cX6_of 36 = .ok (.istore_n 3, 1) := by decide +kernel
theorem dX6_of_37 : decode cX6_of 37 = .ok (.iload_n 2, 1) := by decide +kernel
theorem dX6_of_38 : decode cX6_of 38 = .ok (.tableswitch 80 0 4 #[34, 43, 53, 66, 68], 34) := by decide +kernel
theorem dX6_of_72 : decode cX6_of 72 = .ok (.aload_n 0, 1) := by decide +kernel
theorem dX6_of_73 : decode cX6_of 73 = .ok (.getfield 7, 3) := by decide +kernel
theorem dX6_of_76 : decode cX6_of 76 = .ok (.iconst 5, 1) := by decide +kernel
theorem dX6_of_77 : decode cX6_of 77 = .ok (.iload_n 1, 1) := by decide +kernel
theorem dX6_of_78 : decode cX6_of 78 = .ok (.iadd, 1) := by decide +kernel
theorem dX6_of_79 : decode cX6_of 79 = .ok (.iaload, 1) := by decide +kernel
theorem dX6_of_80 : decode cX6_of 80 = .ok (.ireturn, 1) := by decide +kernel
theorem dX6_of_81 : decode cX6_of 81 = .ok (.aload_n 0, 1) := by decide +kernel
theorem dX6_of_82 : decode cX6_of 82 = .ok (.getfield 7, 3) := by decide +kernel
theorem dX6_of_85 : decode cX6_of 85 = .ok (.bipush 9, 2) := by decide +kernel
theorem dX6_of_87 : decode cX6_of 87 = .ok (.iload_n 1, 1) := by decide +kernel
theorem dX6_of_88 : decode cX6_of 88 = .ok (.iadd, 1) := by decide +kernel
theorem dX6_of_89 : decode cX6_of 89 = .ok (.iaload, 1) := by decide +kernel
theorem dX6_of_90 : decode cX6_of 90 = .ok (.ireturn, 1) := by decide +kernel
theorem dX6_of_91 : decode cX6_of 91 = .ok (.aload_n 0, 1) := by decide +kernel
theorem dX6_of_92 : decode cX6_of 92 = .ok (.aload_n 0, 1) := by decide +kernel
theorem dX6_of_93 : decode cX6_of 93 = .ok (.getfield 7, 3) := by decide +kernel
theorem dX6_of_96 : decode cX6_of 96 = .ok (.iconst 5, 1) := by decide +kernel
theorem dX6_of_97 : decode cX6_of 97 = .ok (.iload_n 1, 1) := by decide +kernel
theorem dX6_of_98 : decode cX6_of 98 = .ok (.iadd, 1) := by decide +kernel
theorem dX6_of_99 : decode cX6_of 99 = .ok (.iaload, 1) := by decide +kernel
theorem dX6_of_100 : decode cX6_of 100 = .ok (.invokevirtual 126, 3) := by decide +kernel
theorem dX6_of_103 : decode cX6_of 103 = .ok (.ireturn, 1) := by decide +kernel
theorem dX6_of_104 : decode cX6_of 104 = .ok (.iload_n 3, 1) := by decide +kernel
theorem dX6_of_105 : decode cX6_of 105 = .ok (.ireturn, 1) := by decide +kernel
theorem dX6_of_106 : decode cX6_of 106 = .ok (.aload_n 0, 1) := by decide +kernel
theorem dX6_of_107 : decode cX6_of 107 = .ok (.iload_n 1, 1) := by decide +kernel
theorem dX6_of_108 : decode cX6_of 108 = .ok (.aload_n 0, 1) := by decide +kernel
theorem dX6_of_109 : decode cX6_of 109 = .ok (.getfield 7, 3) := by decide +kernel
theorem dX6_of_112 : decode cX6_of 112 = .ok (.iconst 2, 1) := by decide +kernel
theorem dX6_of_113 : decode cX6_of 113 = .ok (.iaload, 1) := by decide +kernel
theorem dX6_of_114 : decode cX6_of 114 = .ok (.invokevirtual 149, 3) := by decide +kernel
theorem dX6_of_117 : decode cX6_of 117 = .ok (.ireturn, 1) := by decide +kernel
theorem dX6_of_118 : decode cX6_of 118 = .ok (.aload_n 0, 1) := by decide +kernel
theorem dX6_of_119 : decode cX6_of 119 = .ok (.iload_n 1, 1) := by decide +kernel
theorem dX6_of_120 : decode cX6_of 120 = .ok (.iload_n 3, 1) := by decide +kernel
theorem dX6_of_121 : decode cX6_of 121 = .ok (.invokevirtual 139, 3) := by decide +kernel
theorem dX6_of_124 : decode cX6_of 124 = .ok (.ifCond .eq 7, 3) := by decide +kernel
theorem dX6_of_127 : decode cX6_of 127 = .ok (.iconst 1, 1) := by decide +kernel
theorem dX6_of_128 : decode cX6_of 128 = .ok (.goto 4, 3) := by decide +kernel
theorem dX6_of_131 : decode cX6_of 131 = .ok (.iconst 0, 1) := by decide +kernel
theorem dX6_of_132 : decode cX6_of 132 = .ok (.ireturn, 1) := by decide +kernel
set_option maxRecDepth 20000 in
theorem ggX6_where_X6_isLift : GoodIn wsX6_where wsX6_isLift := goodIn_r _ [5, 6, 7, 8, 4, 9, 39, 40, 41, 42, 43, 44, 45, 46, 47, 48, 49, 50, 51, 52, 53] (by decide +kernel) (by decide +kernel)
set_option maxRecDepth 20000 in
theorem gX6_where_X6_isLift : GoodIn wsX6_where (wsV RX6 146 RX6 yX6_isLift wsX6_isLift) := goodIn_app (goodIn_of _ (by decide +kernel)) ggX6_where_X6_isLift
set_option maxRecDepth 20000 in
theorem ggX6_where_X6_isMinute : GoodIn wsX6_where wsX6_isMinute := goodIn_r _ [12, 13, 7, 8, 4, 9] (by decide +kernel) (by decide +kernel)
set_option maxRecDepth 20000 in
theorem gX6_where_X6_isMinute : GoodIn wsX6_where (va_wsS RX6 152 yX6_isMinute wsX6_isMinute) := goodIn_app (goodIn_of _ (by decide +kernel)) ggX6_where_X6_isMinute
set_option maxRecDepth 20000 in
theorem ggX6_where_X6_floorIn : GoodIn wsX6_where wsX6_floorIn := goodIn_r _ [17, 6, 18, 19, 20, 4, 21, 22, 23, 24, 25, 26, 27, 28, 29, 30, 31, 32, 33, 39, 40, 41, 42, 43, 44, 45, 46, 47, 48, 49, 50, 51, 52, 53] (by decide +kernel) (by decide +kernel)
set_option maxRecDepth 20000 in
theorem gX6_where_X6_floorIn : GoodIn wsX6_where (wsV RX6 135 RX6 yX6_floorIn wsX6_floorIn) := goodIn_app (goodIn_of _ (by decide +kernel)) ggX6_where_X6_floorIn
set_option maxRecDepth 20000 in
theorem ggX6_where_X6_bad : GoodIn wsX6_where wsX6_bad := goodIn_r _ [37, 38, 39, 40, 41, 42, 43, 44, 45, 46, 47, 48, 49, 50, 51, 52, 53] (by decide +kernel) (by decide +kernel)
set_option maxRecDepth 20000 in
theorem gX6_where_X6_bad : GoodIn wsX6_where (wsV RX6 42 RX6 yX6_bad wsX6_bad) := goodIn_app (goodIn_of _ (by decide +kernel)) ggX6_where_X6_bad
theorem dX6_where_0 : decode cX6_where 0 = .ok (.aload_n 0, 1) := by decide +kernel
theorem dX6_where_1 : decode cX6_where 1 = .ok (.iload_n 1, 1) := by decide +kernel
theorem dX6_where_2 : decode cX6_where 2 = .ok (.invokevirtual 146, 3) := by decide +kernel
theorem dX6_where_5 : decode cX6_where 5 = .ok (.ifCond .eq 19, 3) := by decide +kernel
theorem dX6_where_8 : decode cX6_where 8 = .ok (.iload_n 2, 1) := by decide +kernel
theorem dX6_where_9 : decode cX6_where 9 = .ok (.invokestatic 152, 3) := by decide +kernel
theorem dX6_where_12 : decode cX6_where 12 = .ok (.ifCond .eq 12, 3) := by decide +kernel
theorem dX6_where_15 : decode cX6_where 15 = .ok (.aload_n 0, 1) := by decide +kernel
theorem dX6_where_16 : decode cX6_where 16 = .ok (.iload_n 1, 1) := by decide +kernel
theorem dX6_where_17 : decode cX6_where 17 = .ok (.iload_n 2, 1) := by decide +kernel
theorem dX6_where_18 : decode cX6_where 18 = .ok (.invokevirtual 135, 3) := by decide +kernel
theorem dX6_where_21 : decode cX6_where 21 = .ok (.goto 7, 3) := by decide +kernel
theorem dX6_where_24 : decode cX6_where 24 = .ok (.aload_n 0, 1) := by decide +kernel
theorem dX6_where_25 : decode cX6_where 25 = .ok (.invokevirtual 42, 3) := by decide +kernel
theorem dX6_where_28 : decode cX6_where 28 = .ok (.ireturn, 1) := by decide +kernel
set_option maxRecDepth 20000 in
theorem ggX6_comes_X6_has : GoodIn wsX6_comes wsX6_has := goodIn_r _ [7] (by decide +kernel) (by decide +kernel)
set_option maxRecDepth 20000 in
theorem gX6_comes_X6_has : GoodIn wsX6_comes (va_wsS RX6 155 yX6_has wsX6_has) := goodIn_app (goodIn_of _ (by decide +kernel)) ggX6_comes_X6_has
set_option maxRecDepth 20000 in
theorem ggX6_comes_X6_isSeen : GoodIn wsX6_comes wsX6_isSeen := goodIn_r _ [11, 12, 13, 14, 6, 15, 1, 16, 17, 18, 19, 20, 21, 22, 23, 24, 25, 26, 27, 28, 29, 30, 31, 32, 33, 34, 35, 40, 41, 42, 43, 44, 45, 46, 47, 48, 49, 50, 51, 52, 53, 54] (by decide +kernel) (by decide +kernel)
set_option maxRecDepth 20000 in
theorem gX6_comes_X6_isSeen : GoodIn wsX6_comes (wsV RX6 158 RX6 yX6_isSeen wsX6_isSeen) := goodIn_app (goodIn_of _ (by decide +kernel)) ggX6_comes_X6_isSeen
set_option maxRecDepth 20000 in
theorem ggX6_comes_X6_wayIn : GoodIn wsX6_comes wsX6_wayIn := goodIn_r _ [39, 1, 12, 13, 14, 6, 15, 16, 17, 18, 19, 20, 21, 22, 23, 24, 25, 26, 27, 28, 29, 30, 31, 40, 41, 42, 43, 44, 45, 46, 47, 48, 49, 50, 51, 52, 53, 54] (by decide +kernel) (by decide +kernel)
set_option maxRecDepth 20000 in
theorem gX6_comes_X6_wayIn : GoodIn wsX6_comes (wsV RX6 149 RX6 yX6_wayIn wsX6_wayIn) := goodIn_app (goodIn_of _ (by decide +kernel)) ggX6_comes_X6_wayIn
theorem dX6_comes_0 : decode cX6_comes 0 = .ok (.iconst 0, 1) := by decide +kernel
theorem dX6_comes_1 : decode cX6_comes 1 = .ok (.istore 5, 2) := by decide +kernel
theorem dX6_comes_3 : decode cX6_comes 3 = .ok (.iload 5, 2) := by decide +kernel
theorem dX6_comes_5 : decode cX6_comes 5 = .ok (.sipush 200, 3) := by decide +kernel
theorem dX6_comes_8 : decode cX6_comes 8 = .ok (.if_icmp .ge 101, 3) := by decide +kernel
theorem dX6_comes_11 : decode cX6_comes 11 = .ok (.iconst 0, 1) := by decide +kernel
theorem dX6_comes_12 : decode cX6_comes 12 = .ok (.istore 6, 2) := by decide +kernel
theorem dX6_comes_14 : decode cX6_comes 14 = .ok (.iload 6, 2) := by decide +kernel
theorem dX6_comes_16 : decode cX6_comes 16 = .ok (.aload_n 0, 1) := by decide +kernel
theorem dX6_comes_17 : decode cX6_comes 17 = .ok (.getfield 7, 3) := by decide +kernel
theorem dX6_comes_20 : decode cX6_comes 20 = .ok (.iconst 0, 1) := by decide +kernel
theorem dX6_comes_21 : decode cX6_comes 21 = .ok (.iaload, 1) := by decide +kernel
theorem dX6_comes_22 : decode cX6_comes 22 = .ok (.if_icmp .ge 81, 3) := by decide +kernel
theorem dX6_comes_25 : decode cX6_comes 25 = .ok (.iload_n 3, 1) := by decide +kernel
theorem dX6_comes_26 : decode cX6_comes 26 = .ok (.iload 6, 2) := by decide +kernel
theorem dX6_comes_28 : decode cX6_comes 28 = .ok (.invokestatic 155, 3) := by decide +kernel
theorem dX6_comes_31 : decode cX6_comes 31 = .ok (.ifCond .eq 21, 3) := by decide +kernel
theorem dX6_comes_34 : decode cX6_comes 34 = .ok (.aload_n 0, 1) := by decide +kernel
theorem dX6_comes_35 : decode cX6_comes 35 = .ok (.iload 6, 2) := by decide +kernel
theorem dX6_comes_37 : decode cX6_comes 37 = .ok (.iload_n 1, 1) := by decide +kernel
theorem dX6_comes_38 : decode cX6_comes 38 = .ok (.iload_n 2, 1) := by decide +kernel
theorem dX6_comes_39 : decode cX6_comes 39 = .ok (.iload 5, 2) := by decide +kernel
theorem dX6_comes_41 : decode cX6_comes 41 = .ok (.iadd, 1) := by decide +kernel
theorem dX6_comes_42 : decode cX6_comes 42 = .ok (.invokevirtual 158, 3) := by decide +kernel
theorem dX6_comes_45 : decode cX6_comes 45 = .ok (.ifCond .eq 7, 3) := by decide +kernel
theorem dX6_comes_48 : decode cX6_comes 48 = .ok (.iconst 1, 1) := by decide +kernel
theorem dX6_comes_49 : decode cX6_comes 49 = .ok (.goto 4, 3) := by decide +kernel
theorem dX6_comes_52 : decode cX6_comes 52 = .ok (.iconst 0, 1) := by decide +kernel
theorem dX6_comes_53 : decode cX6_comes 53 = .ok (.istore 7, 2) := by decide +kernel
theorem dX6_comes_55 : decode cX6_comes 55 = .ok (.iload 7, 2) := by decide +kernel
theorem dX6_comes_57 : decode cX6_comes 57 = .ok (.ifCond .eq 40, 3) := by decide +kernel
theorem dX6_comes_60 : decode cX6_comes 60 = .ok (.iload 4, 2) := by decide +kernel
theorem dX6_comes_62 : decode cX6_comes 62 = .ok (.iconst 2, 1) := by decide +kernel
theorem dX6_comes_63 : decode cX6_comes 63 = .ok (.if_icmp .eq 18, 3) := by decide +kernel
theorem dX6_comes_66 : decode cX6_comes 66 = .ok (.aload_n 0, 1) := by decide +kernel
theorem dX6_comes_67 : decode cX6_comes 67 = .ok (.iload 6, 2) := by decide +kernel
theorem dX6_comes_69 : decode cX6_comes 69 = .ok (.iload_n 2, 1) := by decide +kernel
theorem dX6_comes_70 : decode cX6_comes 70 = .ok (.iload 5, 2) := by decide +kernel
theorem dX6_comes_72 : decode cX6_comes 72 = .ok (.iadd, 1) := by decide +kernel
theorem dX6_comes_73 : decode cX6_comes 73 = .ok (.invokevirtual 149, 3) := by decide +kernel
theorem dX6_comes_76 : decode cX6_comes 76 = .ok (.iload 4, 2) := by decide +kernel
theorem dX6_comes_78 : decode cX6_comes 78 = .ok (.if_icmp .ne 19, 3) := by decide +kernel
theorem dX6_comes_81 : decode cX6_comes 81 = .ok (.aload_n 0, 1) := by decide +kernel
theorem dX6_comes_82 : decode cX6_comes 82 = .ok (.iload 6, 2) := by decide +kernel
theorem dX6_comes_84 : decode cX6_comes 84 = .ok (.putfield 161, 3) := by decide +kernel
theorem dX6_comes_87 : decode cX6_comes 87 = .ok (.aload_n 0, 1) := by decide +kernel
theorem dX6_comes_88 : decode cX6_comes 88 = .ok (.iload_n 2, 1) := by decide +kernel
theorem dX6_comes_89 : decode cX6_comes 89 = .ok (.iload 5, 2) := by decide +kernel
theorem dX6_comes_91 : decode cX6_comes 91 = .ok (.iadd, 1) := by decide +kernel
theorem dX6_comes_92 : decode cX6_comes 92 = .ok (.putfield 164, 3) := by decide +kernel
theorem dX6_comes_95 : decode cX6_comes 95 = .ok (.iconst 1, 1) := by decide +kernel
theorem dX6_comes_96 : decode cX6_comes 96 = .ok (.ireturn, 1) := by decide +kernel
theorem dX6_comes_97 : decode cX6_comes 97 = .ok (.iinc 6 1, 3) := by decide +kernel
theorem dX6_comes_100 : decode cX6_comes 100 = .ok (.goto (-86), 3) := by decide +kernel
theorem dX6_comes_103 : decode cX6_comes 103 = .ok (.iinc 5 1, 3) := by decide +kernel
theorem dX6_comes_106 : decode cX6_comes 106 = .ok (.goto (-103), 3) := by decide +kernel
theorem dX6_comes_109 : decode cX6_comes 109 = .ok (.iconst 0, 1) := by decide +kernel
theorem dX6_comes_110 : decode cX6_comes 110 = .ok (.ireturn, 1) := by decide +kernel
set_option maxRecDepth 20000 in
theorem ggX6_first_X6_isFloor : GoodIn wsX6_first wsX6_isFloor := goodIn_r _ [8, 9, 10, 11, 7, 12, 61, 62, 63, 64, 65, 66, 67, 68, 69, 70, 71, 72, 73, 74, 75] (by decide +kernel) (by decide +kernel)
set_option maxRecDepth 20000 in
theorem gX6_first_X6_isFloor : GoodIn wsX6_first (wsV RX6 167 RX6 yX6_isFloor wsX6_isFloor) := goodIn_app (goodIn_of _ (by decide +kernel)) ggX6_first_X6_isFloor
set_option maxRecDepth 20000 in
theorem ggX6_first_X6_isMinute : GoodIn wsX6_first wsX6_isMinute := goodIn_r _ [15, 16, 10, 11, 7, 12] (by decide +kernel) (by decide +kernel)
set_option maxRecDepth 20000 in
theorem gX6_first_X6_isMinute : GoodIn wsX6_first (va_wsS RX6 152 yX6_isMinute wsX6_isMinute) := goodIn_app (goodIn_of _ (by decide +kernel)) ggX6_first_X6_isMinute
set_option maxRecDepth 20000 in
theorem ggX6_first_X6_in : GoodIn wsX6_first wsX6_in := goodIn_r _ [12] (by decide +kernel) (by decide +kernel)
set_option maxRecDepth 20000 in
theorem gX6_first_X6_in : GoodIn wsX6_first (va_wsS RX6 34 yX6_in wsX6_in) := goodIn_app (goodIn_of _ (by decide +kernel)) ggX6_first_X6_in
set_option maxRecDepth 20000 in
theorem ggX6_first_X6_bad : GoodIn wsX6_first wsX6_bad := goodIn_r _ [20, 21, 61, 62, 63, 64, 65, 66, 67, 68, 69, 70, 71, 72, 73, 74, 75] (by decide +kernel) (by decide +kernel)
set_option maxRecDepth 20000 in
theorem gX6_first_X6_bad : GoodIn wsX6_first (wsV RX6 42 RX6 yX6_bad wsX6_bad) := goodIn_app (goodIn_of _ (by decide +kernel)) ggX6_first_X6_bad
set_option maxRecDepth 20000 in
theorem ggX6_first_X6_comes : GoodIn wsX6_first wsX6_comes := goodIn_r _ [25, 9, 2, 3, 26, 27, 7, 28, 29, 30, 31, 32, 33, 34, 35, 36, 37, 38, 39, 40, 41, 42, 43, 44, 45, 46, 47, 48, 49, 50, 51, 52, 53, 54, 55, 56, 57, 58, 59, 60, 61, 62, 63, 64, 65, 66, 67, 68, 69, 70, 71, 72, 73, 74, 75] (by decide +kernel) (by decide +kernel)
set_option maxRecDepth 20000 in
theorem gX6_first_X6_comes : GoodIn wsX6_first (wsV RX6 172 RX6 yX6_comes wsX6_comes) := goodIn_app (goodIn_of _ (by decide +kernel)) ggX6_first_X6_comes
set_option maxRecDepth 20000 in
theorem ggX6_first_X6_wayIn : GoodIn wsX6_first wsX6_wayIn := goodIn_r _ [60, 9, 33, 34, 35, 7, 36, 37, 38, 39, 40, 41, 42, 43, 44, 45, 46, 47, 48, 49, 50, 51, 52, 61, 62, 63, 64, 65, 66, 67, 68, 69, 70, 71, 72, 73, 74, 75] (by decide +kernel) (by decide +kernel)
set_option maxRecDepth 20000 in
theorem gX6_first_X6_wayIn : GoodIn wsX6_first (wsV RX6 149 RX6 yX6_wayIn wsX6_wayIn) := goodIn_app (goodIn_of _ (by decide +kernel)) ggX6_first_X6_wayIn
theorem dX6_first_0 : decode cX6_first 0 = .ok (.aload_n 0, 1) := by decide +kernel
theorem dX6_first_1 : decode cX6_first 1 = .ok (.iload_n 1, 1) := by decide +kernel
theorem dX6_first_2 : decode cX6_first 2 = .ok (.invokevirtual 167, 3) := by decide +kernel
theorem dX6_first_5 : decode cX6_first 5 = .ok (.ifCond .eq 22, 3) := by decide +kernel
theorem dX6_first_8 : decode cX6_first 8 = .ok (.iload_n 2, 1) := by decide +kernel
theorem dX6_first_9 : decode cX6_first 9 = .ok (.invokestatic 152, 3) := by decide +kernel
theorem dX6_first_12 : decode cX6_first 12 = .ok (.ifCond .eq 15, 3) := by decide +kernel
theorem dX6_first_15 : decode cX6_first 15 = .ok (.iload_n 3, 1) := by decide +kernel
theorem dX6_first_16 : decode cX6_first 16 = .ok (.i2l, 1) := by decide +kernel
theorem dX6_first_17 : decode cX6_first 17 = .ok (.lconst 0, 1) := by decide +kernel
theorem dX6_first_18 : decode cX6_first 18 = .ok (.ldc2_w 170, 3) := by decide +kernel
theorem dX6_first_21 : decode cX6_first 21 = .ok (.invokestatic 34, 3) := by decide +kernel
theorem dX6_first_24 : decode cX6_first 24 = .ok (.ifCond .ne 8, 3) := by decide +kernel
theorem dX6_first_27 : decode cX6_first 27 = .ok (.aload_n 0, 1) := by decide +kernel
theorem dX6_first_28 : decode cX6_first 28 = .ok (.invokevirtual 42, 3) := by decide +kernel
theorem dX6_first_31 : decode cX6_first 31 = .ok (.ireturn, 1) := by decide +kernel
theorem dX6_first_32 : decode cX6_first 32 = .ok (.aload_n 0, 1) := by decide +kernel
theorem dX6_first_33 : decode cX6_first 33 = .ok (.iload_n 1, 1) := by decide +kernel
theorem dX6_first_34 : decode cX6_first 34 = .ok (.iload_n 2, 1) := by decide +kernel
theorem dX6_first_35 : decode cX6_first 35 = .ok (.bipush 15, 2) := by decide +kernel
theorem dX6_first_37 : decode cX6_first 37 = .ok (.iconst 2, 1) := by decide +kernel
theorem dX6_first_38 : decode cX6_first 38 = .ok (.invokevirtual 172, 3) := by decide +kernel
theorem dX6_first_41 : decode cX6_first 41 = .ok (.ifCond .ne 5, 3) := by decide +kernel
theorem dX6_first_44 : decode cX6_first 44 = .ok (.iconst (-1), 1) := by decide +kernel
theorem dX6_first_45 : decode cX6_first 45 = .ok (.ireturn, 1) := by decide +kernel
theorem dX6_first_46 : decode cX6_first 46 = .ok (.iload_n 3, 1) := by decide +kernel
theorem dX6_first_47 : decode cX6_first 47 = .ok (.ifCond .ne 10, 3) := by decide +kernel
theorem dX6_first_50 : decode cX6_first 50 = .ok (.aload_n 0, 1) := by decide +kernel
theorem dX6_first_51 : decode cX6_first 51 = .ok (.getfield 161, 3) := by decide +kernel
theorem dX6_first_54 : decode cX6_first 54 = .ok (.goto 29, 3) := by decide +kernel
theorem dX6_first_57 : decode cX6_first 57 = .ok (.iload_n 3, 1) := by decide +kernel
theorem dX6_first_58 : decode cX6_first 58 = .ok (.iconst 1, 1) := by decide +kernel
theorem dX6_first_59 : decode cX6_first 59 = .ok (.if_icmp .ne 18, 3) := by decide +kernel
theorem dX6_first_62 : decode cX6_first 62 = .ok (.aload_n 0, 1) := by decide +kernel
theorem dX6_first_63 : decode cX6_first 63 = .ok (.aload_n 0, 1) := by decide +kernel
theorem dX6_first_64 : decode cX6_first 64 = .ok (.getfield 161, 3) := by decide +kernel
theorem dX6_first_67 : decode cX6_first 67 = .ok (.aload_n 0, 1) := by decide +kernel
theorem dX6_first_68 : decode cX6_first 68 = .ok (.getfield 164, 3) := by decide +kernel
theorem dX6_first_71 : decode cX6_first 71 = .ok (.invokevirtual 149, 3) := by decide +kernel
theorem dX6_first_74 : decode cX6_first 74 = .ok (.goto 9, 3) := by decide +kernel
theorem dX6_first_77 : decode cX6_first 77 = .ok (.aload_n 0, 1) := by decide +kernel
theorem dX6_first_78 : decode cX6_first 78 = .ok (.getfield 164, 3) := by decide +kernel
theorem dX6_first_81 : decode cX6_first 81 = .ok (.iload_n 2, 1) := by decide +kernel
theorem dX6_first_82 : decode cX6_first 82 = .ok (.isub, 1) := by decide +kernel
theorem dX6_first_83 : decode cX6_first 83 = .ok (.ireturn, 1) := by decide +kernel
theorem dX6_tells_0 : decode cX6_tells 0 = .ok (.lload_n 1, 1) := by decide +kernel
theorem dX6_tells_1 : decode cX6_tells 1 = .ok (.lstore 5, 2) := by decide +kernel
theorem dX6_tells_3 : decode cX6_tells 3 = .ok (.lload_n 3, 1) := by decide +kernel
theorem dX6_tells_4 : decode cX6_tells 4 = .ok (.lstore 7, 2) := by decide +kernel
theorem dX6_tells_6 : decode cX6_tells 6 = .ok (.lload 7, 2) := by decide +kernel
theorem dX6_tells_8 : decode cX6_tells 8 = .ok (.lconst 0, 1) := by decide +kernel
theorem dX6_tells_9 : decode cX6_tells 9 = .ok (.lcmp, 1) := by decide +kernel
theorem dX6_tells_10 : decode cX6_tells 10 = .ok (.ifCond .eq 21, 3) := by decide +kernel
theorem dX6_tells_13 : decode cX6_tells 13 = .ok (.lload 5, 2) := by decide +kernel
theorem dX6_tells_15 : decode cX6_tells 15 = .ok (.lload 7, 2) := by decide +kernel
theorem dX6_tells_17 : decode cX6_tells 17 = .ok (.lrem, 1) := by decide +kernel
theorem dX6_tells_18 : decode cX6_tells 18 = .ok (.lstore 9, 2) := by decide +kernel
theorem dX6_tells_20 : decode cX6_tells 20 = .ok (.lload 7, 2) := by decide +kernel
theorem dX6_tells_22 : decode cX6_tells 22 = .ok (.lstore 5, 2) := by decide +kernel
theorem dX6_tells_24 : decode cX6_tells 24 = .ok (.lload 9, 2) := by decide +kernel
theorem dX6_tells_26 : decode cX6_tells 26 = .ok (.lstore 7, 2) := by decide +kernel
theorem dX6_tells_28 : decode cX6_tells 28 = .ok (.goto (-22), 3) := by decide +kernel
theorem dX6_tells_31 : decode cX6_tells 31 = .ok (.aload_n 0, 1) := by decide +kernel
theorem dX6_tells_32 : decode cX6_tells 32 = .ok (.lload_n 1, 1) := by decide +kernel
theorem dX6_tells_33 : decode cX6_tells 33 = .ok (.lload 5, 2) := by decide +kernel
theorem dX6_tells_35 : decode cX6_tells 35 = .ok (.ldiv, 1) := by decide +kernel
theorem dX6_tells_36 : decode cX6_tells 36 = .ok (.putfield 176, 3) := by decide +kernel
theorem dX6_tells_39 : decode cX6_tells 39 = .ok (.aload_n 0, 1) := by decide +kernel
theorem dX6_tells_40 : decode cX6_tells 40 = .ok (.lload_n 3, 1) := by decide +kernel
theorem dX6_tells_41 : decode cX6_tells 41 = .ok (.lload 5, 2) := by decide +kernel
theorem dX6_tells_43 : decode cX6_tells 43 = .ok (.ldiv, 1) := by decide +kernel
theorem dX6_tells_44 : decode cX6_tells 44 = .ok (.putfield 23, 3) := by decide +kernel
theorem dX6_tells_47 : decode cX6_tells 47 = .ok (.iconst 1, 1) := by decide +kernel
theorem dX6_tells_48 : decode cX6_tells 48 = .ok (.ireturn, 1) := by decide +kernel
set_option maxRecDepth 20000 in
theorem ggX6_often_X6_isFloor : GoodIn wsX6_often wsX6_isFloor := goodIn_r _ [7, 8, 9, 10, 6, 11, 66, 67, 68, 69, 70, 71, 72, 73, 74, 75, 76, 77, 78, 79, 80] (by decide +kernel) (by decide +kernel)
set_option maxRecDepth 20000 in
theorem gX6_often_X6_isFloor : GoodIn wsX6_often (wsV RX6 167 RX6 yX6_isFloor wsX6_isFloor) := goodIn_app (goodIn_of _ (by decide +kernel)) ggX6_often_X6_isFloor
set_option maxRecDepth 20000 in
theorem ggX6_often_X6_in : GoodIn wsX6_often wsX6_in := goodIn_r _ [11] (by decide +kernel) (by decide +kernel)
set_option maxRecDepth 20000 in
theorem gX6_often_X6_in : GoodIn wsX6_often (va_wsS RX6 34 yX6_in wsX6_in) := goodIn_app (goodIn_of _ (by decide +kernel)) ggX6_often_X6_in
set_option maxRecDepth 20000 in
theorem ggX6_often_X6_bad : GoodIn wsX6_often wsX6_bad := goodIn_r _ [15, 16, 66, 67, 68, 69, 70, 71, 72, 73, 74, 75, 76, 77, 78, 79, 80] (by decide +kernel) (by decide +kernel)
set_option maxRecDepth 20000 in
theorem gX6_often_X6_bad : GoodIn wsX6_often (wsV RX6 42 RX6 yX6_bad wsX6_bad) := goodIn_app (goodIn_of _ (by decide +kernel)) ggX6_often_X6_bad
set_option maxRecDepth 20000 in
theorem ggX6_often_X6_comes : GoodIn wsX6_often wsX6_comes := goodIn_r _ [20, 8, 1, 2, 21, 22, 6, 23, 24, 25, 26, 27, 28, 29, 30, 31, 32, 33, 34, 35, 36, 37, 38, 39, 40, 41, 42, 43, 44, 45, 46, 47, 48, 49, 50, 51, 52, 53, 54, 55, 66, 67, 68, 69, 70, 71, 72, 73, 74, 75, 76, 77, 78, 79, 80] (by decide +kernel) (by decide +kernel)
set_option maxRecDepth 20000 in
theorem gX6_often_X6_comes : GoodIn wsX6_often (wsV RX6 172 RX6 yX6_comes wsX6_comes) := goodIn_app (goodIn_of _ (by decide +kernel)) ggX6_often_X6_comes
set_option maxRecDepth 20000 in
theorem ggX6_often_X6_wayIn : GoodIn wsX6_often wsX6_wayIn := goodIn_r _ [55, 8, 28, 29, 30, 6, 31, 32, 33, 34, 35, 36, 37, 38, 39, 40, 41, 42, 43, 44, 45, 46, 47, 66, 67, 68, 69, 70, 71, 72, 73, 74, 75, 76, 77, 78, 79, 80] (by decide +kernel) (by decide +kernel)
set_option maxRecDepth 20000 in
theorem gX6_often_X6_wayIn : GoodIn wsX6_often (wsV RX6 149 RX6 yX6_wayIn wsX6_wayIn) := goodIn_app (goodIn_of _ (by decide +kernel)) ggX6_often_X6_wayIn
set_option maxRecDepth 20000 in
theorem ggX6_often_X6_no : GoodIn wsX6_often wsX6_no := goodIn_r _ [59, 16, 66, 67, 68, 69, 70, 71, 72, 73, 74, 75, 76, 77, 78, 79, 80] (by decide +kernel) (by decide +kernel)
set_option maxRecDepth 20000 in
theorem gX6_often_X6_no : GoodIn wsX6_often (wsV RX6 143 RX6 yX6_no wsX6_no) := goodIn_app (goodIn_of _ (by decide +kernel)) ggX6_often_X6_no
set_option maxRecDepth 20000 in
theorem ggX6_often_X6_tells : GoodIn wsX6_often wsX6_tells := goodIn_r _ [63, 64, 65, 66, 67, 68, 69, 70, 71, 72, 73, 74, 75, 76, 77, 78, 79, 80] (by decide +kernel) (by decide +kernel)
set_option maxRecDepth 20000 in
theorem gX6_often_X6_tells : GoodIn wsX6_often (wsV RX6 179 RX6 yX6_tells wsX6_tells) := goodIn_app (goodIn_of _ (by decide +kernel)) ggX6_often_X6_tells
theorem dX6_often_0 : decode cX6_often 0 = .ok (.aload_n 0, 1) := by decide +kernel
theorem dX6_often_1 : decode cX6_often 1 = .ok (.iload_n 1, 1) := by decide +kernel
theorem dX6_often_2 : decode cX6_often 2 = .ok (.invokevirtual 167, 3) := by decide +kernel
theorem dX6_often_5 : decode cX6_often 5 = .ok (.ifCond .eq 13, 3) := by decide +kernel
theorem dX6_often_8 : decode cX6_often 8 = .ok (.iload_n 2, 1) := by decide +kernel
theorem dX6_often_9 : decode cX6_often 9 = .ok (.i2l, 1) := by decide +kernel
theorem dX6_often_10 : decode cX6_often 10 = .ok (.lconst 0, 1) := by decide +kernel
theorem dX6_often_11 : decode cX6_often 11 = .ok (.lconst 1, 1) := by decide +kernel
theorem dX6_often_12 : decode cX6_often 12 = .ok (.invokestatic 34, 3) := by decide +kernel
theorem dX6_often_15 : decode cX6_often 15 = .ok (.ifCond .ne 8, 3) := by decide +kernel
theorem dX6_often_18 : decode cX6_often 18 = .ok (.aload_n 0, 1) := by decide +kernel
theorem dX6_often_19 : decode cX6_often 19 = .ok (.invokevirtual 42, 3) := by decide +kernel
theorem dX6_often_22 : decode cX6_often 22 = .ok (.ireturn, 1) := by decide +kernel
theorem dX6_often_23 : decode cX6_often 23 = .ok (.iconst 0, 1) := by decide +kernel
theorem dX6_often_24 : decode cX6_often 24 = .ok (.istore_n 3, 1) := by decide +kernel
theorem dX6_often_25 : decode cX6_often 25 = .ok (.iconst 0, 1) := by decide +kernel
theorem dX6_often_26 : decode cX6_often 26 = .ok (.istore 4, 2) := by decide +kernel
theorem dX6_often_28 : decode cX6_often 28 = .ok (.iconst 0, 1) := by decide +kernel
theorem dX6_often_29 : decode cX6_often 29 = .ok (.istore 5, 2) := by decide +kernel
theorem dX6_often_31 : decode cX6_often 31 = .ok (.iload 5, 2) := by decide +kernel
theorem dX6_often_33 : decode cX6_often 33 = .ok (.bipush 120, 2) := by decide +kernel
theorem dX6_often_35 : decode cX6_often 35 = .ok (.if_icmp .ge 56, 3) := by decide +kernel
theorem dX6_often_38 : decode cX6_often 38 = .ok (.aload_n 0, 1) := by decide +kernel
theorem dX6_often_39 : decode cX6_often 39 = .ok (.iload_n 1, 1) := by decide +kernel
theorem dX6_often_40 : decode cX6_often 40 = .ok (.iload 5, 2) := by decide +kernel
theorem dX6_often_42 : decode cX6_often 42 = .ok (.bipush 15, 2) := by decide +kernel
theorem dX6_often_44 : decode cX6_often 44 = .ok (.iconst 2, 1) := by decide +kernel
theorem dX6_often_45 : decode cX6_often 45 = .ok (.invokevirtual 172, 3) := by decide +kernel
theorem dX6_often_48 : decode cX6_often 48 = .ok (.ifCond .eq 37, 3) := by decide +kernel
theorem dX6_often_51 : decode cX6_often 51 = .ok (.iinc 3 1, 3) := by decide +kernel
theorem dX6_often_54 : decode cX6_often 54 = .ok (.iload 4, 2) := by decide +kernel
theorem dX6_often_56 : decode cX6_often 56 = .ok (.iload_n 2, 1) := by decide +kernel
theorem dX6_often_57 : decode cX6_often 57 = .ok (.ifCond .ne 18, 3) := by decide +kernel
theorem dX6_often_60 : decode cX6_often 60 = .ok (.aload_n 0, 1) := by decide +kernel
theorem dX6_often_61 : decode cX6_often 61 = .ok (.aload_n 0, 1) := by decide +kernel
theorem dX6_often_62 : decode cX6_often 62 = .ok (.getfield 161, 3) := by decide +kernel
theorem dX6_often_65 : decode cX6_often 65 = .ok (.aload_n 0, 1) := by decide +kernel
theorem dX6_often_66 : decode cX6_often 66 = .ok (.getfield 164, 3) := by decide +kernel
theorem dX6_often_69 : decode cX6_often 69 = .ok (.invokevirtual 149, 3) := by decide +kernel
theorem dX6_often_72 : decode cX6_often 72 = .ok (.goto 10, 3) := by decide +kernel
theorem dX6_often_75 : decode cX6_often 75 = .ok (.aload_n 0, 1) := by decide +kernel
theorem dX6_often_76 : decode cX6_often 76 = .ok (.getfield 164, 3) := by decide +kernel
theorem dX6_often_79 : decode cX6_often 79 = .ok (.iload 5, 2) := by decide +kernel
theorem dX6_often_81 : decode cX6_often 81 = .ok (.isub, 1) := by decide +kernel
theorem dX6_often_82 : decode cX6_often 82 = .ok (.iadd, 1) := by decide +kernel
theorem dX6_often_83 : decode cX6_often 83 = .ok (.istore 4, 2) := by decide +kernel
theorem dX6_often_85 : decode cX6_often 85 = .ok (.iinc 5 1, 3) := by decide +kernel
theorem dX6_often_88 : decode cX6_often 88 = .ok (.goto (-57), 3) := by decide +kernel
theorem dX6_often_91 : decode cX6_often 91 = .ok (.iload_n 3, 1) := by decide +kernel
theorem dX6_often_92 : decode cX6_often 92 = .ok (.ifCond .ne 10, 3) := by decide +kernel
theorem dX6_often_95 : decode cX6_often 95 = .ok (.aload_n 0, 1) := by decide +kernel
theorem dX6_often_96 : decode cX6_often 96 = .ok (.invokevirtual 143, 3) := by decide +kernel
theorem dX6_often_99 : decode cX6_often 99 = .ok (.goto 12, 3) := by decide +kernel
theorem dX6_often_102 : decode cX6_often 102 = .ok (.aload_n 0, 1) := by decide +kernel
theorem dX6_often_103 : decode cX6_often 103 = .ok (.iload 4, 2) := by decide +kernel
theorem dX6_often_105 : decode cX6_often 105 = .ok (.i2l, 1) := by decide +kernel
theorem dX6_often_106 : decode cX6_often 106 = .ok (.iload_n 3, 1) := by decide +kernel
theorem dX6_often_107 : decode cX6_often 107 = .ok (.i2l, 1) := by decide +kernel
theorem dX6_often_108 : decode cX6_often 108 = .ok (.invokevirtual 179, 3) := by decide +kernel
theorem dX6_often_111 : decode cX6_often 111 = .ok (.ireturn, 1) := by decide +kernel
set_option maxRecDepth 20000 in
theorem ggX6_own_X6_isFloor : GoodIn wsX6_own wsX6_isFloor := goodIn_r _ [6, 7, 8, 9, 5, 10, 66, 67, 68, 69, 70, 71, 72, 73, 74, 75, 76, 77, 78, 79, 80] (by decide +kernel) (by decide +kernel)
set_option maxRecDepth 20000 in
theorem gX6_own_X6_isFloor : GoodIn wsX6_own (wsV RX6 167 RX6 yX6_isFloor wsX6_isFloor) := goodIn_app (goodIn_of _ (by decide +kernel)) ggX6_own_X6_isFloor
set_option maxRecDepth 20000 in
theorem ggX6_own_X6_in : GoodIn wsX6_own wsX6_in := goodIn_r _ [10] (by decide +kernel) (by decide +kernel)
set_option maxRecDepth 20000 in
theorem gX6_own_X6_in : GoodIn wsX6_own (va_wsS RX6 34 yX6_in wsX6_in) := goodIn_app (goodIn_of _ (by decide +kernel)) ggX6_own_X6_in
set_option maxRecDepth 20000 in
theorem ggX6_own_X6_bad : GoodIn wsX6_own wsX6_bad := goodIn_r _ [14, 15, 66, 67, 68, 69, 70, 71, 72, 73, 74, 75, 76, 77, 78, 79, 80] (by decide +kernel) (by decide +kernel)
set_option maxRecDepth 20000 in
theorem gX6_own_X6_bad : GoodIn wsX6_own (wsV RX6 42 RX6 yX6_bad wsX6_bad) := goodIn_app (goodIn_of _ (by decide +kernel)) ggX6_own_X6_bad
set_option maxRecDepth 20000 in
theorem ggX6_own_X6_comes : GoodIn wsX6_own wsX6_comes := goodIn_r _ [19, 7, 20, 1, 21, 22, 5, 23, 24, 25, 26, 27, 28, 29, 30, 31, 32, 33, 34, 35, 36, 37, 38, 39, 40, 41, 42, 43, 44, 45, 46, 47, 48, 49, 50, 51, 52, 53, 54, 55, 66, 67, 68, 69, 70, 71, 72, 73, 74, 75, 76, 77, 78, 79, 80] (by decide +kernel) (by decide +kernel)
set_option maxRecDepth 20000 in
theorem gX6_own_X6_comes : GoodIn wsX6_own (wsV RX6 172 RX6 yX6_comes wsX6_comes) := goodIn_app (goodIn_of _ (by decide +kernel)) ggX6_own_X6_comes
set_option maxRecDepth 20000 in
theorem ggX6_own_X6_no : GoodIn wsX6_own wsX6_no := goodIn_r _ [59, 15, 66, 67, 68, 69, 70, 71, 72, 73, 74, 75, 76, 77, 78, 79, 80] (by decide +kernel) (by decide +kernel)
set_option maxRecDepth 20000 in
theorem gX6_own_X6_no : GoodIn wsX6_own (wsV RX6 143 RX6 yX6_no wsX6_no) := goodIn_app (goodIn_of _ (by decide +kernel)) ggX6_own_X6_no
set_option maxRecDepth 20000 in
theorem ggX6_own_X6_tells : GoodIn wsX6_own wsX6_tells := goodIn_r _ [63, 64, 65, 66, 67, 68, 69, 70, 71, 72, 73, 74, 75, 76, 77, 78, 79, 80] (by decide +kernel) (by decide +kernel)
set_option maxRecDepth 20000 in
theorem gX6_own_X6_tells : GoodIn wsX6_own (wsV RX6 179 RX6 yX6_tells wsX6_tells) := goodIn_app (goodIn_of _ (by decide +kernel)) ggX6_own_X6_tells
theorem dX6_own_0 : decode cX6_own 0 = .ok (.aload_n 0, 1) := by decide +kernel
theorem dX6_own_1 : decode cX6_own 1 = .ok (.iload_n 1, 1) := by decide +kernel
theorem dX6_own_2 : decode cX6_own 2 = .ok (.invokevirtual 167, 3) := by decide +kernel
theorem dX6_own_5 : decode cX6_own 5 = .ok (.ifCond .eq 13, 3) := by decide +kernel
theorem dX6_own_8 : decode cX6_own 8 = .ok (.iload_n 2, 1) := by decide +kernel
theorem dX6_own_9 : decode cX6_own 9 = .ok (.i2l, 1) := by decide +kernel
theorem dX6_own_10 : decode cX6_own 10 = .ok (.lconst 0, 1) := by decide +kernel
theorem dX6_own_11 : decode cX6_own 11 = .ok (.lconst 1, 1) := by decide +kernel
theorem dX6_own_12 : decode cX6_own 12 = .ok (.invokestatic 34, 3) := by decide +kernel
theorem dX6_own_15 : decode cX6_own 15 = .ok (.ifCond .ne 8, 3) := by decide +kernel
theorem dX6_own_18 : decode cX6_own 18 = .ok (.aload_n 0, 1) := by decide +kernel
theorem dX6_own_19 : decode cX6_own 19 = .ok (.invokevirtual 42, 3) := by decide +kernel
theorem dX6_own_22 : decode cX6_own 22 = .ok (.ireturn, 1) := by decide +kernel
theorem dX6_own_23 : decode cX6_own 23 = .ok (.iconst 0, 1) := by decide +kernel
theorem dX6_own_24 : decode cX6_own 24 = .ok (.istore_n 3, 1) := by decide +kernel
theorem dX6_own_25 : decode cX6_own 25 = .ok (.iconst 0, 1) := by decide +kernel
theorem dX6_own_26 : decode cX6_own 26 = .ok (.istore 4, 2) := by decide +kernel
theorem dX6_own_28 : decode cX6_own 28 = .ok (.iconst 0, 1) := by decide +kernel
theorem dX6_own_29 : decode cX6_own 29 = .ok (.istore 5, 2) := by decide +kernel
theorem dX6_own_31 : decode cX6_own 31 = .ok (.iload 5, 2) := by decide +kernel
theorem dX6_own_33 : decode cX6_own 33 = .ok (.bipush 120, 2) := by decide +kernel
theorem dX6_own_35 : decode cX6_own 35 = .ok (.if_icmp .ge 37, 3) := by decide +kernel
theorem dX6_own_38 : decode cX6_own 38 = .ok (.aload_n 0, 1) := by decide +kernel
theorem dX6_own_39 : decode cX6_own 39 = .ok (.iload_n 1, 1) := by decide +kernel
theorem dX6_own_40 : decode cX6_own 40 = .ok (.iload 5, 2) := by decide +kernel
theorem dX6_own_42 : decode cX6_own 42 = .ok (.bipush 15, 2) := by decide +kernel
theorem dX6_own_44 : decode cX6_own 44 = .ok (.iload_n 2, 1) := by decide +kernel
theorem dX6_own_45 : decode cX6_own 45 = .ok (.invokevirtual 172, 3) := by decide +kernel
theorem dX6_own_48 : decode cX6_own 48 = .ok (.ifCond .eq 18, 3) := by decide +kernel
theorem dX6_own_51 : decode cX6_own 51 = .ok (.iinc 3 1, 3) := by decide +kernel
theorem dX6_own_54 : decode cX6_own 54 = .ok (.iload 4, 2) := by decide +kernel
theorem dX6_own_56 : decode cX6_own 56 = .ok (.aload_n 0, 1) := by decide +kernel
theorem dX6_own_57 : decode cX6_own 57 = .ok (.getfield 164, 3) := by decide +kernel
theorem dX6_own_60 : decode cX6_own 60 = .ok (.iload 5, 2) := by decide +kernel
theorem dX6_own_62 : decode cX6_own 62 = .ok (.isub, 1) := by decide +kernel
theorem dX6_own_63 : decode cX6_own 63 = .ok (.iadd, 1) := by decide +kernel
theorem dX6_own_64 : decode cX6_own 64 = .ok (.istore 4, 2) := by decide +kernel
theorem dX6_own_66 : decode cX6_own 66 = .ok (.iinc 5 1, 3) := by decide +kernel
theorem dX6_own_69 : decode cX6_own 69 = .ok (.goto (-38), 3) := by decide +kernel
theorem dX6_own_72 : decode cX6_own 72 = .ok (.iload_n 3, 1) := by decide +kernel
theorem dX6_own_73 : decode cX6_own 73 = .ok (.ifCond .ne 10, 3) := by decide +kernel
theorem dX6_own_76 : decode cX6_own 76 = .ok (.aload_n 0, 1) := by decide +kernel
theorem dX6_own_77 : decode cX6_own 77 = .ok (.invokevirtual 143, 3) := by decide +kernel
theorem dX6_own_80 : decode cX6_own 80 = .ok (.goto 12, 3) := by decide +kernel
theorem dX6_own_83 : decode cX6_own 83 = .ok (.aload_n 0, 1) := by decide +kernel
theorem dX6_own_84 : decode cX6_own 84 = .ok (.iload 4, 2) := by decide +kernel
theorem dX6_own_86 : decode cX6_own 86 = .ok (.i2l, 1) := by decide +kernel
theorem dX6_own_87 : decode cX6_own 87 = .ok (.iload_n 3, 1) := by decide +kernel
theorem dX6_own_88 : decode cX6_own 88 = .ok (.i2l, 1) := by decide +kernel
theorem dX6_own_89 : decode cX6_own 89 = .ok (.invokevirtual 179, 3) := by decide +kernel
theorem dX6_own_92 : decode cX6_own 92 = .ok (.ireturn, 1) := by decide +kernel
set_option maxRecDepth 20000 in
theorem ggX6_rides_X6_comes : GoodIn wsX6_rides wsX6_comes := goodIn_r _ [7, 8, 1, 2, 9, 10, 6, 11, 12, 13, 14, 15, 16, 17, 18, 19, 20, 21, 22, 23, 24, 25, 26, 27, 28, 29, 30, 31, 32, 33, 34, 35, 36, 37, 38, 39, 40, 41, 42, 43, 44, 45, 46, 47, 48, 49, 50, 51, 52, 53, 54, 55, 56, 57, 58] (by decide +kernel) (by decide +kernel)
set_option maxRecDepth 20000 in
theorem gX6_rides_X6_comes : GoodIn wsX6_rides (wsV RX6 172 RX6 yX6_comes wsX6_comes) := goodIn_app (goodIn_of _ (by decide +kernel)) ggX6_rides_X6_comes
set_option maxRecDepth 20000 in
theorem ggX6_rides_X6_isSeen : GoodIn wsX6_rides wsX6_isSeen := goodIn_r _ [15, 16, 17, 18, 6, 19, 8, 20, 21, 22, 23, 24, 25, 26, 27, 28, 29, 30, 31, 32, 33, 34, 35, 36, 37, 38, 39, 44, 45, 46, 47, 48, 49, 50, 51, 52, 53, 54, 55, 56, 57, 58] (by decide +kernel) (by decide +kernel)
set_option maxRecDepth 20000 in
theorem gX6_rides_X6_isSeen : GoodIn wsX6_rides (wsV RX6 158 RX6 yX6_isSeen wsX6_isSeen) := goodIn_app (goodIn_of _ (by decide +kernel)) ggX6_rides_X6_isSeen
theorem dX6_rides_0 : decode cX6_rides 0 = .ok (.iload_n 1, 1) := by decide +kernel
theorem dX6_rides_1 : decode cX6_rides 1 = .ok (.iload_n 2, 1) := by decide +kernel
theorem dX6_rides_2 : decode cX6_rides 2 = .ok (.if_icmp .ne 5, 3) := by decide +kernel
theorem dX6_rides_5 : decode cX6_rides 5 = .ok (.iload_n 3, 1) := by decide +kernel
theorem dX6_rides_6 : decode cX6_rides 6 = .ok (.ireturn, 1) := by decide +kernel
theorem dX6_rides_7 : decode cX6_rides 7 = .ok (.aload_n 0, 1) := by decide +kernel
theorem dX6_rides_8 : decode cX6_rides 8 = .ok (.iload_n 1, 1) := by decide +kernel
theorem dX6_rides_9 : decode cX6_rides 9 = .ok (.iload_n 3, 1) := by decide +kernel
theorem dX6_rides_10 : decode cX6_rides 10 = .ok (.bipush 15, 2) := by decide +kernel
theorem dX6_rides_12 : decode cX6_rides 12 = .ok (.iload 4, 2) := by decide +kernel
theorem dX6_rides_14 : decode cX6_rides 14 = .ok (.invokevirtual 172, 3) := by decide +kernel
theorem dX6_rides_17 : decode cX6_rides 17 = .ok (.ifCond .ne 5, 3) := by decide +kernel
theorem dX6_rides_20 : decode cX6_rides 20 = .ok (.iconst (-1), 1) := by decide +kernel
theorem dX6_rides_21 : decode cX6_rides 21 = .ok (.ireturn, 1) := by decide +kernel
theorem dX6_rides_22 : decode cX6_rides 22 = .ok (.iconst 0, 1) := by decide +kernel
theorem dX6_rides_23 : decode cX6_rides 23 = .ok (.istore 5, 2) := by decide +kernel
theorem dX6_rides_25 : decode cX6_rides 25 = .ok (.iload 5, 2) := by decide +kernel
theorem dX6_rides_27 : decode cX6_rides 27 = .ok (.sipush 200, 3) := by decide +kernel
theorem dX6_rides_30 : decode cX6_rides 30 = .ok (.if_icmp .ge 36, 3) := by decide +kernel
theorem dX6_rides_33 : decode cX6_rides 33 = .ok (.aload_n 0, 1) := by decide +kernel
theorem dX6_rides_34 : decode cX6_rides 34 = .ok (.aload_n 0, 1) := by decide +kernel
theorem dX6_rides_35 : decode cX6_rides 35 = .ok (.getfield 161, 3) := by decide +kernel
theorem dX6_rides_38 : decode cX6_rides 38 = .ok (.iload_n 2, 1) := by decide +kernel
theorem dX6_rides_39 : decode cX6_rides 39 = .ok (.aload_n 0, 1) := by decide +kernel
theorem dX6_rides_40 : decode cX6_rides 40 = .ok (.getfield 164, 3) := by decide +kernel
theorem dX6_rides_43 : decode cX6_rides 43 = .ok (.iload 5, 2) := by decide +kernel
theorem dX6_rides_45 : decode cX6_rides 45 = .ok (.iadd, 1) := by decide +kernel
theorem dX6_rides_46 : decode cX6_rides 46 = .ok (.invokevirtual 158, 3) := by decide +kernel
theorem dX6_rides_49 : decode cX6_rides 49 = .ok (.ifCond .eq 11, 3) := by decide +kernel
theorem dX6_rides_52 : decode cX6_rides 52 = .ok (.aload_n 0, 1) := by decide +kernel
theorem dX6_rides_53 : decode cX6_rides 53 = .ok (.getfield 164, 3) := by decide +kernel
theorem dX6_rides_56 : decode cX6_rides 56 = .ok (.iload 5, 2) := by decide +kernel
theorem dX6_rides_58 : decode cX6_rides 58 = .ok (.iadd, 1) := by decide +kernel
theorem dX6_rides_59 : decode cX6_rides 59 = .ok (.ireturn, 1) := by decide +kernel
theorem dX6_rides_60 : decode cX6_rides 60 = .ok (.iinc 5 1, 3) := by decide +kernel
theorem dX6_rides_63 : decode cX6_rides 63 = .ok (.goto (-38), 3) := by decide +kernel
theorem dX6_rides_66 : decode cX6_rides 66 = .ok (.iconst (-1), 1) := by decide +kernel
theorem dX6_rides_67 : decode cX6_rides 67 = .ok (.ireturn, 1) := by decide +kernel
set_option maxRecDepth 20000 in
theorem ggX6_ride_X6_isFloor : GoodIn wsX6_ride wsX6_isFloor := goodIn_r _ [5, 6, 7, 8, 4, 9, 64, 65, 66, 67, 68, 69, 70, 71, 72, 73, 74, 75, 76, 77, 78] (by decide +kernel) (by decide +kernel)
set_option maxRecDepth 20000 in
theorem gX6_ride_X6_isFloor : GoodIn wsX6_ride (wsV RX6 167 RX6 yX6_isFloor wsX6_isFloor) := goodIn_app (goodIn_of _ (by decide +kernel)) ggX6_ride_X6_isFloor
set_option maxRecDepth 20000 in
theorem ggX6_ride_X6_isMinute : GoodIn wsX6_ride wsX6_isMinute := goodIn_r _ [12, 13, 7, 8, 4, 9] (by decide +kernel) (by decide +kernel)
set_option maxRecDepth 20000 in
theorem gX6_ride_X6_isMinute : GoodIn wsX6_ride (va_wsS RX6 152 yX6_isMinute wsX6_isMinute) := goodIn_app (goodIn_of _ (by decide +kernel)) ggX6_ride_X6_isMinute
set_option maxRecDepth 20000 in
theorem ggX6_ride_X6_in : GoodIn wsX6_ride wsX6_in := goodIn_r _ [9] (by decide +kernel) (by decide +kernel)
set_option maxRecDepth 20000 in
theorem gX6_ride_X6_in : GoodIn wsX6_ride (va_wsS RX6 34 yX6_in wsX6_in) := goodIn_app (goodIn_of _ (by decide +kernel)) ggX6_ride_X6_in
set_option maxRecDepth 20000 in
theorem ggX6_ride_X6_bad : GoodIn wsX6_ride wsX6_bad := goodIn_r _ [17, 18, 64, 65, 66, 67, 68, 69, 70, 71, 72, 73, 74, 75, 76, 77, 78] (by decide +kernel) (by decide +kernel)
set_option maxRecDepth 20000 in
theorem gX6_ride_X6_bad : GoodIn wsX6_ride (wsV RX6 42 RX6 yX6_bad wsX6_bad) := goodIn_app (goodIn_of _ (by decide +kernel)) ggX6_ride_X6_bad
set_option maxRecDepth 20000 in
theorem ggX6_ride_X6_rides : GoodIn wsX6_ride wsX6_rides := goodIn_r _ [22, 23, 24, 25, 26, 27, 4, 28, 6, 29, 30, 31, 32, 33, 34, 35, 36, 37, 38, 39, 40, 41, 42, 43, 44, 45, 46, 47, 48, 49, 50, 51, 52, 53, 54, 55, 56, 57, 58, 59, 60, 61, 62, 63, 64, 65, 66, 67, 68, 69, 70, 71, 72, 73, 74, 75, 76, 77, 78] (by decide +kernel) (by decide +kernel)
set_option maxRecDepth 20000 in
theorem gX6_ride_X6_rides : GoodIn wsX6_ride (wsV RX6 183 RX6 yX6_rides wsX6_rides) := goodIn_app (goodIn_of _ (by decide +kernel)) ggX6_ride_X6_rides
theorem dX6_ride_0 : decode cX6_ride 0 = .ok (.aload_n 0, 1) := by decide +kernel
theorem dX6_ride_1 : decode cX6_ride 1 = .ok (.iload_n 1, 1) := by decide +kernel
theorem dX6_ride_2 : decode cX6_ride 2 = .ok (.invokevirtual 167, 3) := by decide +kernel
theorem dX6_ride_5 : decode cX6_ride 5 = .ok (.ifCond .eq 29, 3) := by decide +kernel
theorem dX6_ride_8 : decode cX6_ride 8 = .ok (.aload_n 0, 1) := by decide +kernel
theorem dX6_ride_9 : decode cX6_ride 9 = .ok (.iload_n 2, 1) := by decide +kernel
theorem dX6_ride_10 : decode cX6_ride 10 = .ok (.invokevirtual 167, 3) := by decide +kernel
theorem dX6_ride_13 : decode cX6_ride 13 = .ok (.ifCond .eq 21, 3) := by decide +kernel
theorem dX6_ride_16 : decode cX6_ride 16 = .ok (.iload_n 3, 1) := by decide +kernel
theorem dX6_ride_17 : decode cX6_ride 17 = .ok (.invokestatic 152, 3) := by decide +kernel
theorem dX6_ride_20 : decode cX6_ride 20 = .ok (.ifCond .eq 14, 3) := by decide +kernel
theorem dX6_ride_23 : decode cX6_ride 23 = .ok (.iload 4, 2) := by decide +kernel
theorem dX6_ride_25 : decode cX6_ride 25 = .ok (.i2l, 1) := by decide +kernel
theorem dX6_ride_26 : decode cX6_ride 26 = .ok (.lconst 0, 1) := by decide +kernel
theorem dX6_ride_27 : decode cX6_ride 27 = .ok (.lconst 1, 1) := by decide +kernel
theorem dX6_ride_28 : decode cX6_ride 28 = .ok (.invokestatic 34, 3) := by decide +kernel
theorem dX6_ride_31 : decode cX6_ride 31 = .ok (.ifCond .ne 8, 3) := by decide +kernel
theorem dX6_ride_34 : decode cX6_ride 34 = .ok (.aload_n 0, 1) := by decide +kernel
theorem dX6_ride_35 : decode cX6_ride 35 = .ok (.invokevirtual 42, 3) := by decide +kernel
theorem dX6_ride_38 : decode cX6_ride 38 = .ok (.ireturn, 1) := by decide +kernel
theorem dX6_ride_39 : decode cX6_ride 39 = .ok (.aload_n 0, 1) := by decide +kernel
theorem dX6_ride_40 : decode cX6_ride 40 = .ok (.iload_n 1, 1) := by decide +kernel
end
section
theorem dX6_ride_41 : decode cX6_ride 41 = .ok (.iload_n 2, 1) := by decide +kernel
theorem dX6_ride_42 : decode cX6_ride 42 = .ok (.iload_n 3, 1) := by decide +kernel
theorem dX6_ride_43 : decode cX6_ride 43 = .ok (.iload 4, 2) := by decide +kernel
theorem dX6_ride_45 : decode cX6_ride 45 = .ok (.ifCond .ne 7, 3) := by decide +kernel
theorem dX6_ride_48 : decode cX6_ride 48 = .ok (.iconst 2, 1) := by decide +kernel
theorem dX6_ride_49 : decode cX6_ride 49 = .ok (.goto 13, 3) := by decide +kernel
theorem dX6_ride_52 : decode cX6_ride 52 = .ok (.iload_n 2, 1) := by decide +kernel
theorem dX6_ride_53 : decode cX6_ride 53 = .ok (.iload_n 1, 1) := by decide +kernel
theorem dX6_ride_54 : decode cX6_ride 54 = .ok (.if_icmp .le 7, 3) := by decide +kernel
theorem dX6_ride_57 : decode cX6_ride 57 = .ok (.iconst 1, 1) := by decide +kernel
theorem dX6_ride_58 : decode cX6_ride 58 = .ok (.goto 4, 3) := by decide +kernel
theorem dX6_ride_61 : decode cX6_ride 61 = .ok (.iconst 0, 1) := by decide +kernel
theorem dX6_ride_62 : decode cX6_ride 62 = .ok (.invokevirtual 183, 3) := by decide +kernel
theorem dX6_ride_65 : decode cX6_ride 65 = .ok (.istore 5, 2) := by decide +kernel
theorem dX6_ride_67 : decode cX6_ride 67 = .ok (.iload 5, 2) := by decide +kernel
theorem dX6_ride_69 : decode cX6_ride 69 = .ok (.iconst (-1), 1) := by decide +kernel
theorem dX6_ride_70 : decode cX6_ride 70 = .ok (.if_icmp .ne 7, 3) := by decide +kernel
theorem dX6_ride_73 : decode cX6_ride 73 = .ok (.iconst (-1), 1) := by decide +kernel
theorem dX6_ride_74 : decode cX6_ride 74 = .ok (.goto 7, 3) := by decide +kernel
theorem dX6_ride_77 : decode cX6_ride 77 = .ok (.iload 5, 2) := by decide +kernel
theorem dX6_ride_79 : decode cX6_ride 79 = .ok (.iload_n 3, 1) := by decide +kernel
theorem dX6_ride_80 : decode cX6_ride 80 = .ok (.isub, 1) := by decide +kernel
theorem dX6_ride_81 : decode cX6_ride 81 = .ok (.ireturn, 1) := by decide +kernel
set_option maxRecDepth 20000 in
theorem ggX6_walk_X6_isFloor : GoodIn wsX6_walk wsX6_isFloor := goodIn_r _ [7, 2, 8, 9, 6, 10, 65, 66, 67, 68, 69, 70, 71, 72, 73, 74, 75, 76, 77, 78, 79] (by decide +kernel) (by decide +kernel)
set_option maxRecDepth 20000 in
theorem gX6_walk_X6_isFloor : GoodIn wsX6_walk (wsV RX6 167 RX6 yX6_isFloor wsX6_isFloor) := goodIn_app (goodIn_of _ (by decide +kernel)) ggX6_walk_X6_isFloor
set_option maxRecDepth 20000 in
theorem ggX6_walk_X6_isMinute : GoodIn wsX6_walk wsX6_isMinute := goodIn_r _ [13, 14, 8, 9, 6, 10] (by decide +kernel) (by decide +kernel)
set_option maxRecDepth 20000 in
theorem gX6_walk_X6_isMinute : GoodIn wsX6_walk (va_wsS RX6 152 yX6_isMinute wsX6_isMinute) := goodIn_app (goodIn_of _ (by decide +kernel)) ggX6_walk_X6_isMinute
set_option maxRecDepth 20000 in
theorem ggX6_walk_X6_in : GoodIn wsX6_walk wsX6_in := goodIn_r _ [10] (by decide +kernel) (by decide +kernel)
set_option maxRecDepth 20000 in
theorem gX6_walk_X6_in : GoodIn wsX6_walk (va_wsS RX6 34 yX6_in wsX6_in) := goodIn_app (goodIn_of _ (by decide +kernel)) ggX6_walk_X6_in
set_option maxRecDepth 20000 in
theorem ggX6_walk_X6_bad : GoodIn wsX6_walk wsX6_bad := goodIn_r _ [18, 19, 65, 66, 67, 68, 69, 70, 71, 72, 73, 74, 75, 76, 77, 78, 79] (by decide +kernel) (by decide +kernel)
set_option maxRecDepth 20000 in
theorem gX6_walk_X6_bad : GoodIn wsX6_walk (wsV RX6 42 RX6 yX6_bad wsX6_bad) := goodIn_app (goodIn_of _ (by decide +kernel)) ggX6_walk_X6_bad
set_option maxRecDepth 20000 in
theorem ggX6_walk_X6_rides : GoodIn wsX6_walk wsX6_rides := goodIn_r _ [23, 24, 25, 26, 27, 28, 6, 29, 2, 30, 31, 32, 33, 34, 35, 36, 37, 38, 39, 40, 41, 42, 43, 44, 45, 46, 47, 48, 49, 50, 51, 52, 53, 54, 55, 56, 57, 58, 59, 60, 61, 62, 63, 64, 65, 66, 67, 68, 69, 70, 71, 72, 73, 74, 75, 76, 77, 78, 79] (by decide +kernel) (by decide +kernel)
set_option maxRecDepth 20000 in
theorem gX6_walk_X6_rides : GoodIn wsX6_walk (wsV RX6 183 RX6 yX6_rides wsX6_rides) := goodIn_app (goodIn_of _ (by decide +kernel)) ggX6_walk_X6_rides
theorem dX6_walk_0 : decode cX6_walk 0 = .ok (.aload_n 0, 1) := by decide +kernel
theorem dX6_walk_1 : decode cX6_walk 1 = .ok (.iload_n 1, 1) := by decide +kernel
theorem dX6_walk_2 : decode cX6_walk 2 = .ok (.invokevirtual 167, 3) := by decide +kernel
theorem dX6_walk_5 : decode cX6_walk 5 = .ok (.ifCond .eq 29, 3) := by decide +kernel
theorem dX6_walk_8 : decode cX6_walk 8 = .ok (.aload_n 0, 1) := by decide +kernel
theorem dX6_walk_9 : decode cX6_walk 9 = .ok (.iload_n 2, 1) := by decide +kernel
theorem dX6_walk_10 : decode cX6_walk 10 = .ok (.invokevirtual 167, 3) := by decide +kernel
theorem dX6_walk_13 : decode cX6_walk 13 = .ok (.ifCond .eq 21, 3) := by decide +kernel
theorem dX6_walk_16 : decode cX6_walk 16 = .ok (.iload_n 3, 1) := by decide +kernel
theorem dX6_walk_17 : decode cX6_walk 17 = .ok (.invokestatic 152, 3) := by decide +kernel
theorem dX6_walk_20 : decode cX6_walk 20 = .ok (.ifCond .eq 14, 3) := by decide +kernel
theorem dX6_walk_23 : decode cX6_walk 23 = .ok (.iload 4, 2) := by decide +kernel
theorem dX6_walk_25 : decode cX6_walk 25 = .ok (.i2l, 1) := by decide +kernel
theorem dX6_walk_26 : decode cX6_walk 26 = .ok (.lconst 0, 1) := by decide +kernel
theorem dX6_walk_27 : decode cX6_walk 27 = .ok (.lconst 1, 1) := by decide +kernel
theorem dX6_walk_28 : decode cX6_walk 28 = .ok (.invokestatic 34, 3) := by decide +kernel
theorem dX6_walk_31 : decode cX6_walk 31 = .ok (.ifCond .ne 8, 3) := by decide +kernel
theorem dX6_walk_34 : decode cX6_walk 34 = .ok (.aload_n 0, 1) := by decide +kernel
theorem dX6_walk_35 : decode cX6_walk 35 = .ok (.invokevirtual 42, 3) := by decide +kernel
theorem dX6_walk_38 : decode cX6_walk 38 = .ok (.ireturn, 1) := by decide +kernel
theorem dX6_walk_39 : decode cX6_walk 39 = .ok (.iload_n 1, 1) := by decide +kernel
theorem dX6_walk_40 : decode cX6_walk 40 = .ok (.istore 5, 2) := by decide +kernel
theorem dX6_walk_42 : decode cX6_walk 42 = .ok (.ldc 187, 2) := by decide +kernel
theorem dX6_walk_44 : decode cX6_walk 44 = .ok (.istore 6, 2) := by decide +kernel
theorem dX6_walk_46 : decode cX6_walk 46 = .ok (.ldc 187, 2) := by decide +kernel
theorem dX6_walk_48 : decode cX6_walk 48 = .ok (.istore 7, 2) := by decide +kernel
theorem dX6_walk_50 : decode cX6_walk 50 = .ok (.iconst 0, 1) := by decide +kernel
theorem dX6_walk_51 : decode cX6_walk 51 = .ok (.istore 8, 2) := by decide +kernel
theorem dX6_walk_53 : decode cX6_walk 53 = .ok (.iload 8, 2) := by decide +kernel
theorem dX6_walk_55 : decode cX6_walk 55 = .ok (.aload_n 0, 1) := by decide +kernel
theorem dX6_walk_56 : decode cX6_walk 56 = .ok (.getfield 7, 3) := by decide +kernel
theorem dX6_walk_59 : decode cX6_walk 59 = .ok (.iconst 1, 1) := by decide +kernel
theorem dX6_walk_60 : decode cX6_walk 60 = .ok (.iaload, 1) := by decide +kernel
theorem dX6_walk_61 : decode cX6_walk 61 = .ok (.if_icmp .gt 120, 3) := by decide +kernel
theorem dX6_walk_64 : decode cX6_walk 64 = .ok (.iconst 2, 1) := by decide +kernel
theorem dX6_walk_65 : decode cX6_walk 65 = .ok (.iload 8, 2) := by decide +kernel
theorem dX6_walk_67 : decode cX6_walk 67 = .ok (.iload_n 1, 1) := by decide +kernel
theorem dX6_walk_68 : decode cX6_walk 68 = .ok (.if_icmp .ge 10, 3) := by decide +kernel
theorem dX6_walk_71 : decode cX6_walk 71 = .ok (.iload_n 1, 1) := by decide +kernel
theorem dX6_walk_72 : decode cX6_walk 72 = .ok (.iload 8, 2) := by decide +kernel
theorem dX6_walk_74 : decode cX6_walk 74 = .ok (.isub, 1) := by decide +kernel
theorem dX6_walk_75 : decode cX6_walk 75 = .ok (.goto 7, 3) := by decide +kernel
theorem dX6_walk_78 : decode cX6_walk 78 = .ok (.iload 8, 2) := by decide +kernel
theorem dX6_walk_80 : decode cX6_walk 80 = .ok (.iload_n 1, 1) := by decide +kernel
theorem dX6_walk_81 : decode cX6_walk 81 = .ok (.isub, 1) := by decide +kernel
theorem dX6_walk_82 : decode cX6_walk 82 = .ok (.imul, 1) := by decide +kernel
theorem dX6_walk_83 : decode cX6_walk 83 = .ok (.istore 9, 2) := by decide +kernel
theorem dX6_walk_85 : decode cX6_walk 85 = .ok (.aload_n 0, 1) := by decide +kernel
theorem dX6_walk_86 : decode cX6_walk 86 = .ok (.iload 8, 2) := by decide +kernel
theorem dX6_walk_88 : decode cX6_walk 88 = .ok (.iload_n 2, 1) := by decide +kernel
theorem dX6_walk_89 : decode cX6_walk 89 = .ok (.iload_n 3, 1) := by decide +kernel
theorem dX6_walk_90 : decode cX6_walk 90 = .ok (.iload 9, 2) := by decide +kernel
theorem dX6_walk_92 : decode cX6_walk 92 = .ok (.iadd, 1) := by decide +kernel
theorem dX6_walk_93 : decode cX6_walk 93 = .ok (.iconst 2, 1) := by decide +kernel
theorem dX6_walk_94 : decode cX6_walk 94 = .ok (.invokevirtual 183, 3) := by decide +kernel
theorem dX6_walk_97 : decode cX6_walk 97 = .ok (.istore 10, 2) := by decide +kernel
theorem dX6_walk_99 : decode cX6_walk 99 = .ok (.iload 10, 2) := by decide +kernel
theorem dX6_walk_101 : decode cX6_walk 101 = .ok (.iconst (-1), 1) := by decide +kernel
theorem dX6_walk_102 : decode cX6_walk 102 = .ok (.if_icmp .eq 28, 3) := by decide +kernel
theorem dX6_walk_105 : decode cX6_walk 105 = .ok (.iload 10, 2) := by decide +kernel
theorem dX6_walk_107 : decode cX6_walk 107 = .ok (.iload 6, 2) := by decide +kernel
theorem dX6_walk_109 : decode cX6_walk 109 = .ok (.if_icmp .lt 17, 3) := by decide +kernel
theorem dX6_walk_112 : decode cX6_walk 112 = .ok (.iload 10, 2) := by decide +kernel
theorem dX6_walk_114 : decode cX6_walk 114 = .ok (.iload 6, 2) := by decide +kernel
theorem dX6_walk_116 : decode cX6_walk 116 = .ok (.if_icmp .ne 14, 3) := by decide +kernel
theorem dX6_walk_119 : decode cX6_walk 119 = .ok (.iload 9, 2) := by decide +kernel
theorem dX6_walk_121 : decode cX6_walk 121 = .ok (.iload 7, 2) := by decide +kernel
theorem dX6_walk_123 : decode cX6_walk 123 = .ok (.if_icmp .ge 7, 3) := by decide +kernel
theorem dX6_walk_126 : decode cX6_walk 126 = .ok (.iconst 1, 1) := by decide +kernel
theorem dX6_walk_127 : decode cX6_walk 127 = .ok (.goto 4, 3) := by decide +kernel
theorem dX6_walk_130 : decode cX6_walk 130 = .ok (.iconst 0, 1) := by decide +kernel
theorem dX6_walk_131 : decode cX6_walk 131 = .ok (.istore 11, 2) := by decide +kernel
theorem dX6_walk_133 : decode cX6_walk 133 = .ok (.iload 11, 2) := by decide +kernel
theorem dX6_walk_135 : decode cX6_walk 135 = .ok (.ifCond .eq 8, 3) := by decide +kernel
theorem dX6_walk_138 : decode cX6_walk 138 = .ok (.iload 8, 2) := by decide +kernel
theorem dX6_walk_140 : decode cX6_walk 140 = .ok (.goto 5, 3) := by decide +kernel
theorem dX6_walk_143 : decode cX6_walk 143 = .ok (.iload 5, 2) := by decide +kernel
theorem dX6_walk_145 : decode cX6_walk 145 = .ok (.istore 5, 2) := by decide +kernel
theorem dX6_walk_147 : decode cX6_walk 147 = .ok (.iload 11, 2) := by decide +kernel
theorem dX6_walk_149 : decode cX6_walk 149 = .ok (.ifCond .eq 8, 3) := by decide +kernel
theorem dX6_walk_152 : decode cX6_walk 152 = .ok (.iload 10, 2) := by decide +kernel
theorem dX6_walk_154 : decode cX6_walk 154 = .ok (.goto 5, 3) := by decide +kernel
theorem dX6_walk_157 : decode cX6_walk 157 = .ok (.iload 6, 2) := by decide +kernel
theorem dX6_walk_159 : decode cX6_walk 159 = .ok (.istore 6, 2) := by decide +kernel
theorem dX6_walk_161 : decode cX6_walk 161 = .ok (.iload 11, 2) := by decide +kernel
theorem dX6_walk_163 : decode cX6_walk 163 = .ok (.ifCond .eq 8, 3) := by decide +kernel
theorem dX6_walk_166 : decode cX6_walk 166 = .ok (.iload 9, 2) := by decide +kernel
theorem dX6_walk_168 : decode cX6_walk 168 = .ok (.goto 5, 3) := by decide +kernel
theorem dX6_walk_171 : decode cX6_walk 171 = .ok (.iload 7, 2) := by decide +kernel
theorem dX6_walk_173 : decode cX6_walk 173 = .ok (.istore 7, 2) := by decide +kernel
theorem dX6_walk_175 : decode cX6_walk 175 = .ok (.iinc 8 1, 3) := by decide +kernel
theorem dX6_walk_178 : decode cX6_walk 178 = .ok (.goto (-125), 3) := by decide +kernel
theorem dX6_walk_181 : decode cX6_walk 181 = .ok (.iload 4, 2) := by decide +kernel
theorem dX6_walk_183 : decode cX6_walk 183 = .ok (.ifCond .ne 8, 3) := by decide +kernel
theorem dX6_walk_186 : decode cX6_walk 186 = .ok (.iload 5, 2) := by decide +kernel
theorem dX6_walk_188 : decode cX6_walk 188 = .ok (.goto 7, 3) := by decide +kernel
theorem dX6_walk_191 : decode cX6_walk 191 = .ok (.iload 6, 2) := by decide +kernel
theorem dX6_walk_193 : decode cX6_walk 193 = .ok (.iload_n 3, 1) := by decide +kernel
theorem dX6_walk_194 : decode cX6_walk 194 = .ok (.isub, 1) := by decide +kernel
theorem dX6_walk_195 : decode cX6_walk 195 = .ok (.ireturn, 1) := by decide +kernel
theorem dX6_nextOf_0 : decode cX6_nextOf 0 = .ok (.iload_n 1, 1) := by decide +kernel
theorem dX6_nextOf_1 : decode cX6_nextOf 1 = .ok (.istore_n 3, 1) := by decide +kernel
theorem dX6_nextOf_2 : decode cX6_nextOf 2 = .ok (.iload_n 3, 1) := by decide +kernel
theorem dX6_nextOf_3 : decode cX6_nextOf 3 = .ok (.iload_n 2, 1) := by decide +kernel
theorem dX6_nextOf_4 : decode cX6_nextOf 4 = .ok (.if_icmp .ge 10, 3) := by decide +kernel
theorem dX6_nextOf_7 : decode cX6_nextOf 7 = .ok (.iload_n 3, 1) := by decide +kernel
theorem dX6_nextOf_8 : decode cX6_nextOf 8 = .ok (.iload_n 0, 1) := by decide +kernel
theorem dX6_nextOf_9 : decode cX6_nextOf 9 = .ok (.iadd, 1) := by decide +kernel
theorem dX6_nextOf_10 : decode cX6_nextOf 10 = .ok (.istore_n 3, 1) := by decide +kernel
theorem dX6_nextOf_11 : decode cX6_nextOf 11 = .ok (.goto (-9), 3) := by decide +kernel
theorem dX6_nextOf_14 : decode cX6_nextOf 14 = .ok (.iload_n 3, 1) := by decide +kernel
theorem dX6_nextOf_15 : decode cX6_nextOf 15 = .ok (.ireturn, 1) := by decide +kernel
set_option maxRecDepth 20000 in
theorem ggX6_ofSixty_X6_nextOf : GoodIn wsX6_ofSixty wsX6_nextOf := goodIn_r _ [5] (by decide +kernel) (by decide +kernel)
set_option maxRecDepth 20000 in
theorem gX6_ofSixty_X6_nextOf : GoodIn wsX6_ofSixty (va_wsS RX6 188 yX6_nextOf wsX6_nextOf) := goodIn_app (goodIn_of _ (by decide +kernel)) ggX6_ofSixty_X6_nextOf
theorem dX6_ofSixty_0 : decode cX6_ofSixty 0 = .ok (.iconst 0, 1) := by decide +kernel
theorem dX6_ofSixty_1 : decode cX6_ofSixty 1 = .ok (.istore_n 2, 1) := by decide +kernel
theorem dX6_ofSixty_2 : decode cX6_ofSixty 2 = .ok (.iconst 0, 1) := by decide +kernel
theorem dX6_ofSixty_3 : decode cX6_ofSixty 3 = .ok (.istore_n 3, 1) := by decide +kernel
theorem dX6_ofSixty_4 : decode cX6_ofSixty 4 = .ok (.iload_n 3, 1) := by decide +kernel
theorem dX6_ofSixty_5 : decode cX6_ofSixty 5 = .ok (.bipush 60, 2) := by decide +kernel
theorem dX6_ofSixty_7 : decode cX6_ofSixty 7 = .ok (.if_icmp .ge 69, 3) := by decide +kernel
theorem dX6_ofSixty_10 : decode cX6_ofSixty 10 = .ok (.aload_n 0, 1) := by decide +kernel
theorem dX6_ofSixty_11 : decode cX6_ofSixty 11 = .ok (.getfield 7, 3) := by decide +kernel
theorem dX6_ofSixty_14 : decode cX6_ofSixty 14 = .ok (.bipush 13, 2) := by decide +kernel
theorem dX6_ofSixty_16 : decode cX6_ofSixty 16 = .ok (.iaload, 1) := by decide +kernel
theorem dX6_ofSixty_17 : decode cX6_ofSixty 17 = .ok (.aload_n 0, 1) := by decide +kernel
theorem dX6_ofSixty_18 : decode cX6_ofSixty 18 = .ok (.getfield 7, 3) := by decide +kernel
theorem dX6_ofSixty_21 : decode cX6_ofSixty 21 = .ok (.bipush 15, 2) := by decide +kernel
theorem dX6_ofSixty_23 : decode cX6_ofSixty 23 = .ok (.iaload, 1) := by decide +kernel
theorem dX6_ofSixty_24 : decode cX6_ofSixty 24 = .ok (.iload_n 3, 1) := by decide +kernel
theorem dX6_ofSixty_25 : decode cX6_ofSixty 25 = .ok (.invokestatic 188, 3) := by decide +kernel
theorem dX6_ofSixty_28 : decode cX6_ofSixty 28 = .ok (.istore 4, 2) := by decide +kernel
theorem dX6_ofSixty_30 : decode cX6_ofSixty 30 = .ok (.aload_n 0, 1) := by decide +kernel
theorem dX6_ofSixty_31 : decode cX6_ofSixty 31 = .ok (.getfield 7, 3) := by decide +kernel
theorem dX6_ofSixty_34 : decode cX6_ofSixty 34 = .ok (.bipush 14, 2) := by decide +kernel
theorem dX6_ofSixty_36 : decode cX6_ofSixty 36 = .ok (.iaload, 1) := by decide +kernel
theorem dX6_ofSixty_37 : decode cX6_ofSixty 37 = .ok (.aload_n 0, 1) := by decide +kernel
theorem dX6_ofSixty_38 : decode cX6_ofSixty 38 = .ok (.getfield 7, 3) := by decide +kernel
theorem dX6_ofSixty_41 : decode cX6_ofSixty 41 = .ok (.bipush 16, 2) := by decide +kernel
theorem dX6_ofSixty_43 : decode cX6_ofSixty 43 = .ok (.iaload, 1) := by decide +kernel
theorem dX6_ofSixty_44 : decode cX6_ofSixty 44 = .ok (.iload_n 1, 1) := by decide +kernel
theorem dX6_ofSixty_45 : decode cX6_ofSixty 45 = .ok (.iadd, 1) := by decide +kernel
theorem dX6_ofSixty_46 : decode cX6_ofSixty 46 = .ok (.bipush 30, 2) := by decide +kernel
theorem dX6_ofSixty_48 : decode cX6_ofSixty 48 = .ok (.irem, 1) := by decide +kernel
theorem dX6_ofSixty_49 : decode cX6_ofSixty 49 = .ok (.iload_n 3, 1) := by decide +kernel
theorem dX6_ofSixty_50 : decode cX6_ofSixty 50 = .ok (.invokestatic 188, 3) := by decide +kernel
theorem dX6_ofSixty_53 : decode cX6_ofSixty 53 = .ok (.istore 5, 2) := by decide +kernel
theorem dX6_ofSixty_55 : decode cX6_ofSixty 55 = .ok (.iload_n 2, 1) := by decide +kernel
theorem dX6_ofSixty_56 : decode cX6_ofSixty 56 = .ok (.iload 4, 2) := by decide +kernel
theorem dX6_ofSixty_58 : decode cX6_ofSixty 58 = .ok (.iload 5, 2) := by decide +kernel
theorem dX6_ofSixty_60 : decode cX6_ofSixty 60 = .ok (.if_icmp .gt 7, 3) := by decide +kernel
theorem dX6_ofSixty_63 : decode cX6_ofSixty 63 = .ok (.iconst 1, 1) := by decide +kernel
theorem dX6_ofSixty_64 : decode cX6_ofSixty 64 = .ok (.goto 4, 3) := by decide +kernel
theorem dX6_ofSixty_67 : decode cX6_ofSixty 67 = .ok (.iconst 0, 1) := by decide +kernel
theorem dX6_ofSixty_68 : decode cX6_ofSixty 68 = .ok (.iadd, 1) := by decide +kernel
theorem dX6_ofSixty_69 : decode cX6_ofSixty 69 = .ok (.istore_n 2, 1) := by decide +kernel
theorem dX6_ofSixty_70 : decode cX6_ofSixty 70 = .ok (.iinc 3 1, 3) := by decide +kernel
theorem dX6_ofSixty_73 : decode cX6_ofSixty 73 = .ok (.goto (-69), 3) := by decide +kernel
theorem dX6_ofSixty_76 : decode cX6_ofSixty 76 = .ok (.iload_n 2, 1) := by decide +kernel
theorem dX6_ofSixty_77 : decode cX6_ofSixty 77 = .ok (.ireturn, 1) := by decide +kernel
set_option maxRecDepth 20000 in
theorem ggX6_lines_X6_ofSixty : GoodIn wsX6_lines wsX6_ofSixty := goodIn_r _ [6, 7, 8, 9, 5, 10, 17, 18, 19, 20, 21, 22, 23, 24, 25, 26, 27, 28, 29, 30, 31] (by decide +kernel) (by decide +kernel)
set_option maxRecDepth 20000 in
theorem gX6_lines_X6_ofSixty : GoodIn wsX6_lines (wsV RX6 191 RX6 yX6_ofSixty wsX6_ofSixty) := goodIn_app (goodIn_of _ (by decide +kernel)) ggX6_lines_X6_ofSixty
set_option maxRecDepth 20000 in
theorem ggX6_lines_X6_tells : GoodIn wsX6_lines wsX6_tells := goodIn_r _ [14, 15, 16, 17, 18, 19, 20, 21, 22, 23, 24, 25, 26, 27, 28, 29, 30, 31] (by decide +kernel) (by decide +kernel)
set_option maxRecDepth 20000 in
theorem gX6_lines_X6_tells : GoodIn wsX6_lines (wsV RX6 179 RX6 yX6_tells wsX6_tells) := goodIn_app (goodIn_of _ (by decide +kernel)) ggX6_lines_X6_tells
theorem dX6_lines_0 : decode cX6_lines 0 = .ok (.aload_n 0, 1) := by decide +kernel
theorem dX6_lines_1 : decode cX6_lines 1 = .ok (.aload_n 0, 1) := by decide +kernel
theorem dX6_lines_2 : decode cX6_lines 2 = .ok (.iconst 0, 1) := by decide +kernel
theorem dX6_lines_3 : decode cX6_lines 3 = .ok (.invokevirtual 191, 3) := by decide +kernel
theorem dX6_lines_6 : decode cX6_lines 6 = .ok (.i2l, 1) := by decide +kernel
theorem dX6_lines_7 : decode cX6_lines 7 = .ok (.ldc2_w 194, 3) := by decide +kernel
theorem dX6_lines_10 : decode cX6_lines 10 = .ok (.invokevirtual 179, 3) := by decide +kernel
theorem dX6_lines_13 : decode cX6_lines 13 = .ok (.ireturn, 1) := by decide +kernel
set_option maxRecDepth 20000 in
theorem ggX6_even_X6_ofSixty : GoodIn wsX6_even wsX6_ofSixty := goodIn_r _ [6, 7, 8, 9, 5, 10, 11, 12, 13, 14, 15, 16, 17, 18, 19, 20, 21, 22, 23, 24, 25] (by decide +kernel) (by decide +kernel)
set_option maxRecDepth 20000 in
theorem gX6_even_X6_ofSixty : GoodIn wsX6_even (wsV RX6 191 RX6 yX6_ofSixty wsX6_ofSixty) := goodIn_app (goodIn_of _ (by decide +kernel)) ggX6_even_X6_ofSixty
theorem dX6_even_0 : decode cX6_even 0 = .ok (.iconst 0, 1) := by decide +kernel
theorem dX6_even_1 : decode cX6_even 1 = .ok (.istore_n 1, 1) := by decide +kernel
theorem dX6_even_2 : decode cX6_even 2 = .ok (.ldc 187, 2) := by decide +kernel
theorem dX6_even_4 : decode cX6_even 4 = .ok (.istore_n 2, 1) := by decide +kernel
theorem dX6_even_5 : decode cX6_even 5 = .ok (.iconst 0, 1) := by decide +kernel
theorem dX6_even_6 : decode cX6_even 6 = .ok (.istore_n 3, 1) := by decide +kernel
theorem dX6_even_7 : decode cX6_even 7 = .ok (.iload_n 3, 1) := by decide +kernel
theorem dX6_even_8 : decode cX6_even 8 = .ok (.bipush 30, 2) := by decide +kernel
theorem dX6_even_10 : decode cX6_even 10 = .ok (.if_icmp .ge 59, 3) := by decide +kernel
theorem dX6_even_13 : decode cX6_even 13 = .ok (.aload_n 0, 1) := by decide +kernel
theorem dX6_even_14 : decode cX6_even 14 = .ok (.iload_n 3, 1) := by decide +kernel
theorem dX6_even_15 : decode cX6_even 15 = .ok (.invokevirtual 191, 3) := by decide +kernel
theorem dX6_even_18 : decode cX6_even 18 = .ok (.bipush 30, 2) := by decide +kernel
theorem dX6_even_20 : decode cX6_even 20 = .ok (.isub, 1) := by decide +kernel
theorem dX6_even_21 : decode cX6_even 21 = .ok (.istore 4, 2) := by decide +kernel
theorem dX6_even_23 : decode cX6_even 23 = .ok (.iload 4, 2) := by decide +kernel
theorem dX6_even_25 : decode cX6_even 25 = .ok (.ifCond .ge 9, 3) := by decide +kernel
theorem dX6_even_28 : decode cX6_even 28 = .ok (.iload 4, 2) := by decide +kernel
theorem dX6_even_30 : decode cX6_even 30 = .ok (.ineg, 1) := by decide +kernel
theorem dX6_even_31 : decode cX6_even 31 = .ok (.goto 5, 3) := by decide +kernel
theorem dX6_even_34 : decode cX6_even 34 = .ok (.iload 4, 2) := by decide +kernel
theorem dX6_even_36 : decode cX6_even 36 = .ok (.istore 4, 2) := by decide +kernel
theorem dX6_even_38 : decode cX6_even 38 = .ok (.iload 4, 2) := by decide +kernel
theorem dX6_even_40 : decode cX6_even 40 = .ok (.iload_n 2, 1) := by decide +kernel
theorem dX6_even_41 : decode cX6_even 41 = .ok (.if_icmp .ge 7, 3) := by decide +kernel
theorem dX6_even_44 : decode cX6_even 44 = .ok (.iload_n 3, 1) := by decide +kernel
theorem dX6_even_45 : decode cX6_even 45 = .ok (.goto 4, 3) := by decide +kernel
theorem dX6_even_48 : decode cX6_even 48 = .ok (.iload_n 1, 1) := by decide +kernel
theorem dX6_even_49 : decode cX6_even 49 = .ok (.istore_n 1, 1) := by decide +kernel
theorem dX6_even_50 : decode cX6_even 50 = .ok (.iload 4, 2) := by decide +kernel
theorem dX6_even_52 : decode cX6_even 52 = .ok (.iload_n 2, 1) := by decide +kernel
theorem dX6_even_53 : decode cX6_even 53 = .ok (.if_icmp .ge 8, 3) := by decide +kernel
theorem dX6_even_56 : decode cX6_even 56 = .ok (.iload 4, 2) := by decide +kernel
theorem dX6_even_58 : decode cX6_even 58 = .ok (.goto 4, 3) := by decide +kernel
theorem dX6_even_61 : decode cX6_even 61 = .ok (.iload_n 2, 1) := by decide +kernel
theorem dX6_even_62 : decode cX6_even 62 = .ok (.istore_n 2, 1) := by decide +kernel
theorem dX6_even_63 : decode cX6_even 63 = .ok (.iinc 3 1, 3) := by decide +kernel
theorem dX6_even_66 : decode cX6_even 66 = .ok (.goto (-59), 3) := by decide +kernel
theorem dX6_even_69 : decode cX6_even 69 = .ok (.iload_n 1, 1) := by decide +kernel
theorem dX6_even_70 : decode cX6_even 70 = .ok (.ireturn, 1) := by decide +kernel
set_option maxRecDepth 20000 in
theorem ggX6_note_X6_isLift : GoodIn wsX6_note wsX6_isLift := goodIn_r _ [7, 2, 8, 9, 6, 10, 24, 25, 26, 27, 28, 29, 30, 31, 32, 33, 34, 35, 36, 37, 38] (by decide +kernel) (by decide +kernel)
set_option maxRecDepth 20000 in
theorem gX6_note_X6_isLift : GoodIn wsX6_note (wsV RX6 146 RX6 yX6_isLift wsX6_isLift) := goodIn_app (goodIn_of _ (by decide +kernel)) ggX6_note_X6_isLift
set_option maxRecDepth 20000 in
theorem ggX6_note_X6_isFloor : GoodIn wsX6_note wsX6_isFloor := goodIn_r _ [14, 2, 8, 9, 6, 10, 24, 25, 26, 27, 28, 29, 30, 31, 32, 33, 34, 35, 36, 37, 38] (by decide +kernel) (by decide +kernel)
set_option maxRecDepth 20000 in
theorem gX6_note_X6_isFloor : GoodIn wsX6_note (wsV RX6 167 RX6 yX6_isFloor wsX6_isFloor) := goodIn_app (goodIn_of _ (by decide +kernel)) ggX6_note_X6_isFloor
set_option maxRecDepth 20000 in
theorem ggX6_note_X6_in : GoodIn wsX6_note wsX6_in := goodIn_r _ [10] (by decide +kernel) (by decide +kernel)
set_option maxRecDepth 20000 in
theorem gX6_note_X6_in : GoodIn wsX6_note (va_wsS RX6 34 yX6_in wsX6_in) := goodIn_app (goodIn_of _ (by decide +kernel)) ggX6_note_X6_in
set_option maxRecDepth 20000 in
theorem ggX6_note_X6_bad : GoodIn wsX6_note wsX6_bad := goodIn_r _ [18, 19, 24, 25, 26, 27, 28, 29, 30, 31, 32, 33, 34, 35, 36, 37, 38] (by decide +kernel) (by decide +kernel)
set_option maxRecDepth 20000 in
theorem gX6_note_X6_bad : GoodIn wsX6_note (wsV RX6 42 RX6 yX6_bad wsX6_bad) := goodIn_app (goodIn_of _ (by decide +kernel)) ggX6_note_X6_bad
set_option maxRecDepth 20000 in
theorem ggX6_note_X6_full : GoodIn wsX6_note wsX6_full := goodIn_r _ [23, 19, 24, 25, 26, 27, 28, 29, 30, 31, 32, 33, 34, 35, 36, 37, 38] (by decide +kernel) (by decide +kernel)
set_option maxRecDepth 20000 in
theorem gX6_note_X6_full : GoodIn wsX6_note (wsV RX6 50 RX6 yX6_full wsX6_full) := goodIn_app (goodIn_of _ (by decide +kernel)) ggX6_note_X6_full
theorem dX6_note_0 : decode cX6_note 0 = .ok (.aload_n 0, 1) := by decide +kernel
theorem dX6_note_1 : decode cX6_note 1 = .ok (.iload_n 1, 1) := by decide +kernel
theorem dX6_note_2 : decode cX6_note 2 = .ok (.invokevirtual 146, 3) := by decide +kernel
theorem dX6_note_5 : decode cX6_note 5 = .ok (.ifCond .eq 34, 3) := by decide +kernel
theorem dX6_note_8 : decode cX6_note 8 = .ok (.aload_n 0, 1) := by decide +kernel
theorem dX6_note_9 : decode cX6_note 9 = .ok (.iload_n 2, 1) := by decide +kernel
theorem dX6_note_10 : decode cX6_note 10 = .ok (.invokevirtual 167, 3) := by decide +kernel
theorem dX6_note_13 : decode cX6_note 13 = .ok (.ifCond .eq 26, 3) := by decide +kernel
theorem dX6_note_16 : decode cX6_note 16 = .ok (.iload_n 3, 1) := by decide +kernel
theorem dX6_note_17 : decode cX6_note 17 = .ok (.i2l, 1) := by decide +kernel
theorem dX6_note_18 : decode cX6_note 18 = .ok (.lconst 0, 1) := by decide +kernel
theorem dX6_note_19 : decode cX6_note 19 = .ok (.ldc2_w 48, 3) := by decide +kernel
theorem dX6_note_22 : decode cX6_note 22 = .ok (.invokestatic 34, 3) := by decide +kernel
theorem dX6_note_25 : decode cX6_note 25 = .ok (.ifCond .eq 14, 3) := by decide +kernel
theorem dX6_note_28 : decode cX6_note 28 = .ok (.iload 4, 2) := by decide +kernel
theorem dX6_note_30 : decode cX6_note 30 = .ok (.i2l, 1) := by decide +kernel
theorem dX6_note_31 : decode cX6_note 31 = .ok (.lconst 0, 1) := by decide +kernel
theorem dX6_note_32 : decode cX6_note 32 = .ok (.lconst 1, 1) := by decide +kernel
theorem dX6_note_33 : decode cX6_note 33 = .ok (.invokestatic 34, 3) := by decide +kernel
theorem dX6_note_36 : decode cX6_note 36 = .ok (.ifCond .ne 8, 3) := by decide +kernel
theorem dX6_note_39 : decode cX6_note 39 = .ok (.aload_n 0, 1) := by decide +kernel
theorem dX6_note_40 : decode cX6_note 40 = .ok (.invokevirtual 42, 3) := by decide +kernel
theorem dX6_note_43 : decode cX6_note 43 = .ok (.ireturn, 1) := by decide +kernel
theorem dX6_note_44 : decode cX6_note 44 = .ok (.aload_n 0, 1) := by decide +kernel
theorem dX6_note_45 : decode cX6_note 45 = .ok (.getfield 7, 3) := by decide +kernel
theorem dX6_note_48 : decode cX6_note 48 = .ok (.iconst 3, 1) := by decide +kernel
theorem dX6_note_49 : decode cX6_note 49 = .ok (.iaload, 1) := by decide +kernel
theorem dX6_note_50 : decode cX6_note 50 = .ok (.bipush 6, 2) := by decide +kernel
theorem dX6_note_52 : decode cX6_note 52 = .ok (.if_icmp .ne 8, 3) := by decide +kernel
theorem dX6_note_55 : decode cX6_note 55 = .ok (.aload_n 0, 1) := by decide +kernel
theorem dX6_note_56 : decode cX6_note 56 = .ok (.invokevirtual 50, 3) := by decide +kernel
theorem dX6_note_59 : decode cX6_note 59 = .ok (.ireturn, 1) := by decide +kernel
theorem dX6_note_60 : decode cX6_note 60 = .ok (.bipush 17, 2) := by decide +kernel
theorem dX6_note_62 : decode cX6_note 62 = .ok (.iconst 4, 1) := by decide +kernel
theorem dX6_note_63 : decode cX6_note 63 = .ok (.aload_n 0, 1) := by decide +kernel
theorem dX6_note_64 : decode cX6_note 64 = .ok (.getfield 7, 3) := by decide +kernel
theorem dX6_note_67 : decode cX6_note 67 = .ok (.iconst 3, 1) := by decide +kernel
theorem dX6_note_68 : decode cX6_note 68 = .ok (.iaload, 1) := by decide +kernel
theorem dX6_note_69 : decode cX6_note 69 = .ok (.imul, 1) := by decide +kernel
theorem dX6_note_70 : decode cX6_note 70 = .ok (.iadd, 1) := by decide +kernel
theorem dX6_note_71 : decode cX6_note 71 = .ok (.istore 5, 2) := by decide +kernel
theorem dX6_note_73 : decode cX6_note 73 = .ok (.aload_n 0, 1) := by decide +kernel
theorem dX6_note_74 : decode cX6_note 74 = .ok (.getfield 7, 3) := by decide +kernel
theorem dX6_note_77 : decode cX6_note 77 = .ok (.iload 5, 2) := by decide +kernel
theorem dX6_note_79 : decode cX6_note 79 = .ok (.iload_n 1, 1) := by decide +kernel
theorem dX6_note_80 : decode cX6_note 80 = .ok (.iastore, 1) := by decide +kernel
theorem dX6_note_81 : decode cX6_note 81 = .ok (.aload_n 0, 1) := by decide +kernel
theorem dX6_note_82 : decode cX6_note 82 = .ok (.getfield 7, 3) := by decide +kernel
theorem dX6_note_85 : decode cX6_note 85 = .ok (.iload 5, 2) := by decide +kernel
theorem dX6_note_87 : decode cX6_note 87 = .ok (.iconst 1, 1) := by decide +kernel
theorem dX6_note_88 : decode cX6_note 88 = .ok (.iadd, 1) := by decide +kernel
theorem dX6_note_89 : decode cX6_note 89 = .ok (.iload_n 2, 1) := by decide +kernel
theorem dX6_note_90 : decode cX6_note 90 = .ok (.iastore, 1) := by decide +kernel
theorem dX6_note_91 : decode cX6_note 91 = .ok (.aload_n 0, 1) := by decide +kernel
theorem dX6_note_92 : decode cX6_note 92 = .ok (.getfield 7, 3) := by decide +kernel
theorem dX6_note_95 : decode cX6_note 95 = .ok (.iload 5, 2) := by decide +kernel
theorem dX6_note_97 : decode cX6_note 97 = .ok (.iconst 2, 1) := by decide +kernel
theorem dX6_note_98 : decode cX6_note 98 = .ok (.iadd, 1) := by decide +kernel
theorem dX6_note_99 : decode cX6_note 99 = .ok (.iload_n 3, 1) := by decide +kernel
theorem dX6_note_100 : decode cX6_note 100 = .ok (.iastore, 1) := by decide +kernel
theorem dX6_note_101 : decode cX6_note 101 = .ok (.aload_n 0, 1) := by decide +kernel
theorem dX6_note_102 : decode cX6_note 102 = .ok (.getfield 7, 3) := by decide +kernel
theorem dX6_note_105 : decode cX6_note 105 = .ok (.iload 5, 2) := by decide +kernel
theorem dX6_note_107 : decode cX6_note 107 = .ok (.iconst 3, 1) := by decide +kernel
theorem dX6_note_108 : decode cX6_note 108 = .ok (.iadd, 1) := by decide +kernel
theorem dX6_note_109 : decode cX6_note 109 = .ok (.iload 4, 2) := by decide +kernel
theorem dX6_note_111 : decode cX6_note 111 = .ok (.iastore, 1) := by decide +kernel
theorem dX6_note_112 : decode cX6_note 112 = .ok (.aload_n 0, 1) := by decide +kernel
theorem dX6_note_113 : decode cX6_note 113 = .ok (.getfield 7, 3) := by decide +kernel
theorem dX6_note_116 : decode cX6_note 116 = .ok (.iconst 3, 1) := by decide +kernel
theorem dX6_note_117 : decode cX6_note 117 = .ok (.dup2, 1) := by decide +kernel
theorem dX6_note_118 : decode cX6_note 118 = .ok (.iaload, 1) := by decide +kernel
theorem dX6_note_119 : decode cX6_note 119 = .ok (.iconst 1, 1) := by decide +kernel
theorem dX6_note_120 : decode cX6_note 120 = .ok (.iadd, 1) := by decide +kernel
theorem dX6_note_121 : decode cX6_note 121 = .ok (.iastore, 1) := by decide +kernel
theorem dX6_note_122 : decode cX6_note 122 = .ok (.aload_n 0, 1) := by decide +kernel
theorem dX6_note_123 : decode cX6_note 123 = .ok (.getfield 7, 3) := by decide +kernel
theorem dX6_note_126 : decode cX6_note 126 = .ok (.iconst 3, 1) := by decide +kernel
theorem dX6_note_127 : decode cX6_note 127 = .ok (.iaload, 1) := by decide +kernel
theorem dX6_note_128 : decode cX6_note 128 = .ok (.ireturn, 1) := by decide +kernel
theorem dX6_forget_0 : decode cX6_forget 0 = .ok (.aload_n 0, 1) := by decide +kernel
theorem dX6_forget_1 : decode cX6_forget 1 = .ok (.getfield 7, 3) := by decide +kernel
theorem dX6_forget_4 : decode cX6_forget 4 = .ok (.iconst 3, 1) := by decide +kernel
theorem dX6_forget_5 : decode cX6_forget 5 = .ok (.iaload, 1) := by decide +kernel
theorem dX6_forget_6 : decode cX6_forget 6 = .ok (.istore_n 1, 1) := by decide +kernel
theorem dX6_forget_7 : decode cX6_forget 7 = .ok (.aload_n 0, 1) := by decide +kernel
theorem dX6_forget_8 : decode cX6_forget 8 = .ok (.getfield 7, 3) := by decide +kernel
theorem dX6_forget_11 : decode cX6_forget 11 = .ok (.iconst 3, 1) := by decide +kernel
theorem dX6_forget_12 : decode cX6_forget 12 = .ok (.iconst 0, 1) := by decide +kernel
theorem dX6_forget_13 : decode cX6_forget 13 = .ok (.iastore, 1) := by decide +kernel
theorem dX6_forget_14 : decode cX6_forget 14 = .ok (.iload_n 1, 1) := by decide +kernel
theorem dX6_forget_15 : decode cX6_forget 15 = .ok (.ireturn, 1) := by decide +kernel
set_option maxRecDepth 20000 in
theorem ggX6_isSo_X6_floorOf : GoodIn wsX6_isSo wsX6_floorOf := goodIn_r _ [6, 1, 7, 8, 9, 5, 10, 11, 12, 13, 14, 15, 16, 17, 18, 19, 20, 21, 22, 23, 24, 25, 26, 27, 28, 29, 30, 31, 32, 33] (by decide +kernel) (by decide +kernel)
set_option maxRecDepth 20000 in
theorem gX6_isSo_X6_floorOf : GoodIn wsX6_isSo (wsV RX6 132 RX6 yX6_floorOf wsX6_floorOf) := goodIn_app (goodIn_of _ (by decide +kernel)) ggX6_isSo_X6_floorOf
theorem dX6_isSo_0 : decode cX6_isSo 0 = .ok (.iconst 1, 1) := by decide +kernel
theorem dX6_isSo_1 : decode cX6_isSo 1 = .ok (.istore 4, 2) := by decide +kernel
theorem dX6_isSo_3 : decode cX6_isSo 3 = .ok (.iconst 0, 1) := by decide +kernel
theorem dX6_isSo_4 : decode cX6_isSo 4 = .ok (.istore 5, 2) := by decide +kernel
theorem dX6_isSo_6 : decode cX6_isSo 6 = .ok (.iload 5, 2) := by decide +kernel
theorem dX6_isSo_8 : decode cX6_isSo 8 = .ok (.aload_n 0, 1) := by decide +kernel
theorem dX6_isSo_9 : decode cX6_isSo 9 = .ok (.getfield 7, 3) := by decide +kernel
theorem dX6_isSo_12 : decode cX6_isSo 12 = .ok (.iconst 3, 1) := by decide +kernel
theorem dX6_isSo_13 : decode cX6_isSo 13 = .ok (.iaload, 1) := by decide +kernel
theorem dX6_isSo_14 : decode cX6_isSo 14 = .ok (.if_icmp .ge 94, 3) := by decide +kernel
theorem dX6_isSo_17 : decode cX6_isSo 17 = .ok (.bipush 17, 2) := by decide +kernel
theorem dX6_isSo_19 : decode cX6_isSo 19 = .ok (.iconst 4, 1) := by decide +kernel
theorem dX6_isSo_20 : decode cX6_isSo 20 = .ok (.iload 5, 2) := by decide +kernel
theorem dX6_isSo_22 : decode cX6_isSo 22 = .ok (.imul, 1) := by decide +kernel
theorem dX6_isSo_23 : decode cX6_isSo 23 = .ok (.iadd, 1) := by decide +kernel
theorem dX6_isSo_24 : decode cX6_isSo 24 = .ok (.istore 6, 2) := by decide +kernel
theorem dX6_isSo_26 : decode cX6_isSo 26 = .ok (.iload 4, 2) := by decide +kernel
theorem dX6_isSo_28 : decode cX6_isSo 28 = .ok (.ifCond .eq 71, 3) := by decide +kernel
theorem dX6_isSo_31 : decode cX6_isSo 31 = .ok (.aload_n 0, 1) := by decide +kernel
theorem dX6_isSo_32 : decode cX6_isSo 32 = .ok (.getfield 7, 3) := by decide +kernel
theorem dX6_isSo_35 : decode cX6_isSo 35 = .ok (.iload 6, 2) := by decide +kernel
theorem dX6_isSo_37 : decode cX6_isSo 37 = .ok (.iaload, 1) := by decide +kernel
theorem dX6_isSo_38 : decode cX6_isSo 38 = .ok (.iload_n 1, 1) := by decide +kernel
theorem dX6_isSo_39 : decode cX6_isSo 39 = .ok (.if_icmp .ne 56, 3) := by decide +kernel
theorem dX6_isSo_42 : decode cX6_isSo 42 = .ok (.aload_n 0, 1) := by decide +kernel
theorem dX6_isSo_43 : decode cX6_isSo 43 = .ok (.iload_n 2, 1) := by decide +kernel
theorem dX6_isSo_44 : decode cX6_isSo 44 = .ok (.iload_n 3, 1) := by decide +kernel
theorem dX6_isSo_45 : decode cX6_isSo 45 = .ok (.aload_n 0, 1) := by decide +kernel
theorem dX6_isSo_46 : decode cX6_isSo 46 = .ok (.getfield 7, 3) := by decide +kernel
theorem dX6_isSo_49 : decode cX6_isSo 49 = .ok (.iload 6, 2) := by decide +kernel
theorem dX6_isSo_51 : decode cX6_isSo 51 = .ok (.iconst 2, 1) := by decide +kernel
theorem dX6_isSo_52 : decode cX6_isSo 52 = .ok (.iadd, 1) := by decide +kernel
theorem dX6_isSo_53 : decode cX6_isSo 53 = .ok (.iaload, 1) := by decide +kernel
theorem dX6_isSo_54 : decode cX6_isSo 54 = .ok (.invokevirtual 132, 3) := by decide +kernel
theorem dX6_isSo_57 : decode cX6_isSo 57 = .ok (.aload_n 0, 1) := by decide +kernel
theorem dX6_isSo_58 : decode cX6_isSo 58 = .ok (.getfield 7, 3) := by decide +kernel
theorem dX6_isSo_61 : decode cX6_isSo 61 = .ok (.iload 6, 2) := by decide +kernel
theorem dX6_isSo_63 : decode cX6_isSo 63 = .ok (.iconst 1, 1) := by decide +kernel
theorem dX6_isSo_64 : decode cX6_isSo 64 = .ok (.iadd, 1) := by decide +kernel
theorem dX6_isSo_65 : decode cX6_isSo 65 = .ok (.iaload, 1) := by decide +kernel
theorem dX6_isSo_66 : decode cX6_isSo 66 = .ok (.if_icmp .ne 7, 3) := by decide +kernel
theorem dX6_isSo_69 : decode cX6_isSo 69 = .ok (.iconst 1, 1) := by decide +kernel
theorem dX6_isSo_70 : decode cX6_isSo 70 = .ok (.goto 4, 3) := by decide +kernel
theorem dX6_isSo_73 : decode cX6_isSo 73 = .ok (.iconst 0, 1) := by decide +kernel
theorem dX6_isSo_74 : decode cX6_isSo 74 = .ok (.aload_n 0, 1) := by decide +kernel
theorem dX6_isSo_75 : decode cX6_isSo 75 = .ok (.getfield 7, 3) := by decide +kernel
theorem dX6_isSo_78 : decode cX6_isSo 78 = .ok (.iload 6, 2) := by decide +kernel
theorem dX6_isSo_80 : decode cX6_isSo 80 = .ok (.iconst 3, 1) := by decide +kernel
theorem dX6_isSo_81 : decode cX6_isSo 81 = .ok (.iadd, 1) := by decide +kernel
theorem dX6_isSo_82 : decode cX6_isSo 82 = .ok (.iaload, 1) := by decide +kernel
theorem dX6_isSo_83 : decode cX6_isSo 83 = .ok (.iconst 1, 1) := by decide +kernel
theorem dX6_isSo_84 : decode cX6_isSo 84 = .ok (.if_icmp .ne 7, 3) := by decide +kernel
theorem dX6_isSo_87 : decode cX6_isSo 87 = .ok (.iconst 1, 1) := by decide +kernel
theorem dX6_isSo_88 : decode cX6_isSo 88 = .ok (.goto 4, 3) := by decide +kernel
theorem dX6_isSo_91 : decode cX6_isSo 91 = .ok (.iconst 0, 1) := by decide +kernel
theorem dX6_isSo_92 : decode cX6_isSo 92 = .ok (.if_icmp .ne 7, 3) := by decide +kernel
theorem dX6_isSo_95 : decode cX6_isSo 95 = .ok (.iconst 1, 1) := by decide +kernel
theorem dX6_isSo_96 : decode cX6_isSo 96 = .ok (.goto 4, 3) := by decide +kernel
theorem dX6_isSo_99 : decode cX6_isSo 99 = .ok (.iconst 0, 1) := by decide +kernel
theorem dX6_isSo_100 : decode cX6_isSo 100 = .ok (.istore 4, 2) := by decide +kernel
theorem dX6_isSo_102 : decode cX6_isSo 102 = .ok (.iinc 5 1, 3) := by decide +kernel
theorem dX6_isSo_105 : decode cX6_isSo 105 = .ok (.goto (-99), 3) := by decide +kernel
theorem dX6_isSo_108 : decode cX6_isSo 108 = .ok (.iload 4, 2) := by decide +kernel
theorem dX6_isSo_110 : decode cX6_isSo 110 = .ok (.ireturn, 1) := by decide +kernel
set_option maxRecDepth 20000 in
theorem ggX6_kindsOf_X6_isSo : GoodIn wsX6_kindsOf wsX6_isSo := goodIn_r _ [6, 1, 7, 8, 9, 5, 10, 11, 12, 13, 14, 15, 16, 17, 18, 19, 20, 21, 22, 23, 24, 25, 26, 27, 28, 29, 30, 31, 32, 33, 34, 35, 36, 37] (by decide +kernel) (by decide +kernel)
set_option maxRecDepth 20000 in
theorem gX6_kindsOf_X6_isSo : GoodIn wsX6_kindsOf (wsV RX6 196 RX6 yX6_isSo wsX6_isSo) := goodIn_app (goodIn_of _ (by decide +kernel)) ggX6_kindsOf_X6_isSo
theorem dX6_kindsOf_0 : decode cX6_kindsOf 0 = .ok (.iconst 0, 1) := by decide +kernel
theorem dX6_kindsOf_1 : decode cX6_kindsOf 1 = .ok (.istore_n 2, 1) := by decide +kernel
theorem dX6_kindsOf_2 : decode cX6_kindsOf 2 = .ok (.iconst 0, 1) := by decide +kernel
theorem dX6_kindsOf_3 : decode cX6_kindsOf 3 = .ok (.istore_n 3, 1) := by decide +kernel
theorem dX6_kindsOf_4 : decode cX6_kindsOf 4 = .ok (.iload_n 3, 1) := by decide +kernel
theorem dX6_kindsOf_5 : decode cX6_kindsOf 5 = .ok (.iconst 5, 1) := by decide +kernel
theorem dX6_kindsOf_6 : decode cX6_kindsOf 6 = .ok (.if_icmp .gt 37, 3) := by decide +kernel
theorem dX6_kindsOf_9 : decode cX6_kindsOf 9 = .ok (.iload_n 2, 1) := by decide +kernel
theorem dX6_kindsOf_10 : decode cX6_kindsOf 10 = .ok (.aload_n 0, 1) := by decide +kernel
theorem dX6_kindsOf_11 : decode cX6_kindsOf 11 = .ok (.iload_n 1, 1) := by decide +kernel
theorem dX6_kindsOf_12 : decode cX6_kindsOf 12 = .ok (.iload_n 3, 1) := by decide +kernel
theorem dX6_kindsOf_13 : decode cX6_kindsOf 13 = .ok (.aload_n 0, 1) := by decide +kernel
theorem dX6_kindsOf_14 : decode cX6_kindsOf 14 = .ok (.getfield 7, 3) := by decide +kernel
theorem dX6_kindsOf_17 : decode cX6_kindsOf 17 = .ok (.bipush 9, 2) := by decide +kernel
theorem dX6_kindsOf_19 : decode cX6_kindsOf 19 = .ok (.iload_n 1, 1) := by decide +kernel
theorem dX6_kindsOf_20 : decode cX6_kindsOf 20 = .ok (.iadd, 1) := by decide +kernel
theorem dX6_kindsOf_21 : decode cX6_kindsOf 21 = .ok (.iaload, 1) := by decide +kernel
theorem dX6_kindsOf_22 : decode cX6_kindsOf 22 = .ok (.invokevirtual 196, 3) := by decide +kernel
theorem dX6_kindsOf_25 : decode cX6_kindsOf 25 = .ok (.ifCond .eq 9, 3) := by decide +kernel
theorem dX6_kindsOf_28 : decode cX6_kindsOf 28 = .ok (.iconst 1, 1) := by decide +kernel
theorem dX6_kindsOf_29 : decode cX6_kindsOf 29 = .ok (.iload_n 3, 1) := by decide +kernel
theorem dX6_kindsOf_30 : decode cX6_kindsOf 30 = .ok (.ishl, 1) := by decide +kernel
theorem dX6_kindsOf_31 : decode cX6_kindsOf 31 = .ok (.goto 4, 3) := by decide +kernel
theorem dX6_kindsOf_34 : decode cX6_kindsOf 34 = .ok (.iconst 0, 1) := by decide +kernel
theorem dX6_kindsOf_35 : decode cX6_kindsOf 35 = .ok (.ior, 1) := by decide +kernel
theorem dX6_kindsOf_36 : decode cX6_kindsOf 36 = .ok (.istore_n 2, 1) := by decide +kernel
theorem dX6_kindsOf_37 : decode cX6_kindsOf 37 = .ok (.iinc 3 1, 3) := by decide +kernel
theorem dX6_kindsOf_40 : decode cX6_kindsOf 40 = .ok (.goto (-36), 3) := by decide +kernel
theorem dX6_kindsOf_43 : decode cX6_kindsOf 43 = .ok (.iload_n 2, 1) := by decide +kernel
theorem dX6_kindsOf_44 : decode cX6_kindsOf 44 = .ok (.ireturn, 1) := by decide +kernel
set_option maxRecDepth 20000 in
theorem ggX6_is_X6_isLift : GoodIn wsX6_is wsX6_isLift := goodIn_r _ [6, 1, 7, 8, 5, 9, 39, 40, 41, 42, 43, 44, 45, 46, 47, 48, 49, 50, 51, 52, 53] (by decide +kernel) (by decide +kernel)
set_option maxRecDepth 20000 in
theorem gX6_is_X6_isLift : GoodIn wsX6_is (wsV RX6 146 RX6 yX6_isLift wsX6_isLift) := goodIn_app (goodIn_of _ (by decide +kernel)) ggX6_is_X6_isLift
set_option maxRecDepth 20000 in
theorem ggX6_is_X6_in : GoodIn wsX6_is wsX6_in := goodIn_r _ [9] (by decide +kernel) (by decide +kernel)
set_option maxRecDepth 20000 in
theorem gX6_is_X6_in : GoodIn wsX6_is (va_wsS RX6 34 yX6_in wsX6_in) := goodIn_app (goodIn_of _ (by decide +kernel)) ggX6_is_X6_in
set_option maxRecDepth 20000 in
theorem ggX6_is_X6_bad : GoodIn wsX6_is wsX6_bad := goodIn_r _ [13, 14, 39, 40, 41, 42, 43, 44, 45, 46, 47, 48, 49, 50, 51, 52, 53] (by decide +kernel) (by decide +kernel)
set_option maxRecDepth 20000 in
theorem gX6_is_X6_bad : GoodIn wsX6_is (wsV RX6 42 RX6 yX6_bad wsX6_bad) := goodIn_app (goodIn_of _ (by decide +kernel)) ggX6_is_X6_bad
set_option maxRecDepth 20000 in
theorem ggX6_is_X6_kindsOf : GoodIn wsX6_is wsX6_kindsOf := goodIn_r _ [18, 1, 19, 20, 21, 5, 22, 23, 24, 25, 26, 27, 28, 29, 30, 31, 32, 33, 34, 35, 36, 37, 38, 39, 40, 41, 42, 43, 44, 45, 46, 47, 48, 49, 50, 51, 52, 53] (by decide +kernel) (by decide +kernel)
set_option maxRecDepth 20000 in
theorem gX6_is_X6_kindsOf : GoodIn wsX6_is (wsV RX6 199 RX6 yX6_kindsOf wsX6_kindsOf) := goodIn_app (goodIn_of _ (by decide +kernel)) ggX6_is_X6_kindsOf
set_option maxRecDepth 20000 in
theorem ggX6_is_X6_isSo : GoodIn wsX6_is wsX6_isSo := goodIn_r _ [22, 1, 23, 24, 25, 5, 26, 27, 28, 29, 30, 31, 32, 33, 34, 35, 36, 37, 38, 39, 40, 41, 42, 43, 44, 45, 46, 47, 48, 49, 50, 51, 52, 53] (by decide +kernel) (by decide +kernel)
set_option maxRecDepth 20000 in
theorem gX6_is_X6_isSo : GoodIn wsX6_is (wsV RX6 196 RX6 yX6_isSo wsX6_isSo) := goodIn_app (goodIn_of _ (by decide +kernel)) ggX6_is_X6_isSo
theorem dX6_is_0 : decode cX6_is 0 = .ok (.aload_n 0, 1) := by decide +kernel
theorem dX6_is_1 : decode cX6_is 1 = .ok (.iload_n 1, 1) := by decide +kernel
theorem dX6_is_2 : decode cX6_is 2 = .ok (.invokevirtual 146, 3) := by decide +kernel
theorem dX6_is_5 : decode cX6_is 5 = .ok (.ifCond .eq 13, 3) := by decide +kernel
theorem dX6_is_8 : decode cX6_is 8 = .ok (.iload_n 2, 1) := by decide +kernel
theorem dX6_is_9 : decode cX6_is 9 = .ok (.i2l, 1) := by decide +kernel
theorem dX6_is_10 : decode cX6_is 10 = .ok (.lconst 0, 1) := by decide +kernel
theorem dX6_is_11 : decode cX6_is 11 = .ok (.lconst 1, 1) := by decide +kernel
theorem dX6_is_12 : decode cX6_is 12 = .ok (.invokestatic 34, 3) := by decide +kernel
theorem dX6_is_15 : decode cX6_is 15 = .ok (.ifCond .ne 8, 3) := by decide +kernel
theorem dX6_is_18 : decode cX6_is 18 = .ok (.aload_n 0, 1) := by decide +kernel
theorem dX6_is_19 : decode cX6_is 19 = .ok (.invokevirtual 42, 3) := by decide +kernel
theorem dX6_is_22 : decode cX6_is 22 = .ok (.ireturn, 1) := by decide +kernel
theorem dX6_is_23 : decode cX6_is 23 = .ok (.iload_n 2, 1) := by decide +kernel
theorem dX6_is_24 : decode cX6_is 24 = .ok (.ifCond .ne 9, 3) := by decide +kernel
theorem dX6_is_27 : decode cX6_is 27 = .ok (.aload_n 0, 1) := by decide +kernel
theorem dX6_is_28 : decode cX6_is 28 = .ok (.iload_n 1, 1) := by decide +kernel
theorem dX6_is_29 : decode cX6_is 29 = .ok (.invokevirtual 199, 3) := by decide +kernel
theorem dX6_is_32 : decode cX6_is 32 = .ok (.ireturn, 1) := by decide +kernel
theorem dX6_is_33 : decode cX6_is 33 = .ok (.iconst 0, 1) := by decide +kernel
theorem dX6_is_34 : decode cX6_is 34 = .ok (.istore_n 3, 1) := by decide +kernel
theorem dX6_is_35 : decode cX6_is 35 = .ok (.iconst 0, 1) := by decide +kernel
theorem dX6_is_36 : decode cX6_is 36 = .ok (.istore 4, 2) := by decide +kernel
theorem dX6_is_38 : decode cX6_is 38 = .ok (.iload 4, 2) := by decide +kernel
theorem dX6_is_40 : decode cX6_is 40 = .ok (.bipush 100, 2) := by decide +kernel
theorem dX6_is_42 : decode cX6_is 42 = .ok (.if_icmp .ge 35, 3) := by decide +kernel
theorem dX6_is_45 : decode cX6_is 45 = .ok (.iload_n 3, 1) := by decide +kernel
theorem dX6_is_46 : decode cX6_is 46 = .ok (.aload_n 0, 1) := by decide +kernel
theorem dX6_is_47 : decode cX6_is 47 = .ok (.iload_n 1, 1) := by decide +kernel
theorem dX6_is_48 : decode cX6_is 48 = .ok (.aload_n 0, 1) := by decide +kernel
theorem dX6_is_49 : decode cX6_is 49 = .ok (.getfield 7, 3) := by decide +kernel
theorem dX6_is_52 : decode cX6_is 52 = .ok (.iconst 5, 1) := by decide +kernel
theorem dX6_is_53 : decode cX6_is 53 = .ok (.iload_n 1, 1) := by decide +kernel
theorem dX6_is_54 : decode cX6_is 54 = .ok (.iadd, 1) := by decide +kernel
theorem dX6_is_55 : decode cX6_is 55 = .ok (.iaload, 1) := by decide +kernel
theorem dX6_is_56 : decode cX6_is 56 = .ok (.iload 4, 2) := by decide +kernel
theorem dX6_is_58 : decode cX6_is 58 = .ok (.invokevirtual 196, 3) := by decide +kernel
theorem dX6_is_61 : decode cX6_is 61 = .ok (.ifCond .eq 7, 3) := by decide +kernel
theorem dX6_is_64 : decode cX6_is 64 = .ok (.iconst 1, 1) := by decide +kernel
theorem dX6_is_65 : decode cX6_is 65 = .ok (.goto 4, 3) := by decide +kernel
theorem dX6_is_68 : decode cX6_is 68 = .ok (.iconst 0, 1) := by decide +kernel
theorem dX6_is_69 : decode cX6_is 69 = .ok (.iadd, 1) := by decide +kernel
theorem dX6_is_70 : decode cX6_is 70 = .ok (.istore_n 3, 1) := by decide +kernel
theorem dX6_is_71 : decode cX6_is 71 = .ok (.iinc 4 1, 3) := by decide +kernel
theorem dX6_is_74 : decode cX6_is 74 = .ok (.goto (-36), 3) := by decide +kernel
theorem dX6_is_77 : decode cX6_is 77 = .ok (.iload_n 3, 1) := by decide +kernel
theorem dX6_is_78 : decode cX6_is 78 = .ok (.ireturn, 1) := by decide +kernel
set_option maxRecDepth 20000 in
theorem ggX6_look_X6_isLift : GoodIn wsX6_look wsX6_isLift := goodIn_r _ [7, 2, 8, 9, 6, 10, 47, 48, 49, 50, 51, 52, 53, 54, 55, 56, 57, 58, 59, 60, 61] (by decide +kernel) (by decide +kernel)
set_option maxRecDepth 20000 in
theorem gX6_look_X6_isLift : GoodIn wsX6_look (wsV RX6 146 RX6 yX6_isLift wsX6_isLift) := goodIn_app (goodIn_of _ (by decide +kernel)) ggX6_look_X6_isLift
set_option maxRecDepth 20000 in
theorem ggX6_look_X6_isFloor : GoodIn wsX6_look wsX6_isFloor := goodIn_r _ [14, 2, 8, 9, 6, 10, 47, 48, 49, 50, 51, 52, 53, 54, 55, 56, 57, 58, 59, 60, 61] (by decide +kernel) (by decide +kernel)
set_option maxRecDepth 20000 in
theorem gX6_look_X6_isFloor : GoodIn wsX6_look (wsV RX6 167 RX6 yX6_isFloor wsX6_isFloor) := goodIn_app (goodIn_of _ (by decide +kernel)) ggX6_look_X6_isFloor
set_option maxRecDepth 20000 in
theorem ggX6_look_X6_bad : GoodIn wsX6_look wsX6_bad := goodIn_r _ [18, 19, 47, 48, 49, 50, 51, 52, 53, 54, 55, 56, 57, 58, 59, 60, 61] (by decide +kernel) (by decide +kernel)
set_option maxRecDepth 20000 in
theorem gX6_look_X6_bad : GoodIn wsX6_look (wsV RX6 42 RX6 yX6_bad wsX6_bad) := goodIn_app (goodIn_of _ (by decide +kernel)) ggX6_look_X6_bad
set_option maxRecDepth 20000 in
theorem ggX6_look_X6_kindsOf : GoodIn wsX6_look wsX6_kindsOf := goodIn_r _ [23, 2, 24, 25, 26, 6, 27, 28, 29, 30, 31, 32, 33, 34, 35, 36, 37, 38, 39, 40, 41, 42, 43, 47, 48, 49, 50, 51, 52, 53, 54, 55, 56, 57, 58, 59, 60, 61] (by decide +kernel) (by decide +kernel)
set_option maxRecDepth 20000 in
theorem gX6_look_X6_kindsOf : GoodIn wsX6_look (wsV RX6 199 RX6 yX6_kindsOf wsX6_kindsOf) := goodIn_app (goodIn_of _ (by decide +kernel)) ggX6_look_X6_kindsOf
set_option maxRecDepth 20000 in
theorem ggX6_look_X6_floorOf : GoodIn wsX6_look wsX6_floorOf := goodIn_r _ [31, 2, 32, 33, 34, 6, 35, 36, 37, 38, 39, 40, 41, 42, 43, 47, 48, 49, 50, 51, 52, 53, 54, 55, 56, 57, 58, 59, 60, 61] (by decide +kernel) (by decide +kernel)
set_option maxRecDepth 20000 in
theorem gX6_look_X6_floorOf : GoodIn wsX6_look (wsV RX6 132 RX6 yX6_floorOf wsX6_floorOf) := goodIn_app (goodIn_of _ (by decide +kernel)) ggX6_look_X6_floorOf
set_option maxRecDepth 20000 in
theorem ggX6_look_X6_has : GoodIn wsX6_look wsX6_has := goodIn_r _ [46] (by decide +kernel) (by decide +kernel)
set_option maxRecDepth 20000 in
theorem gX6_look_X6_has : GoodIn wsX6_look (va_wsS RX6 155 yX6_has wsX6_has) := goodIn_app (goodIn_of _ (by decide +kernel)) ggX6_look_X6_has
theorem dX6_look_0 : decode cX6_look 0 = .ok (.aload_n 0, 1) := by decide +kernel
theorem dX6_look_1 : decode cX6_look 1 = .ok (.iload_n 1, 1) := by decide +kernel
theorem dX6_look_2 : decode cX6_look 2 = .ok (.invokevirtual 146, 3) := by decide +kernel
theorem dX6_look_5 : decode cX6_look 5 = .ok (.ifCond .eq 11, 3) := by decide +kernel
theorem dX6_look_8 : decode cX6_look 8 = .ok (.aload_n 0, 1) := by decide +kernel
theorem dX6_look_9 : decode cX6_look 9 = .ok (.iload_n 2, 1) := by decide +kernel
theorem dX6_look_10 : decode cX6_look 10 = .ok (.invokevirtual 167, 3) := by decide +kernel
theorem dX6_look_13 : decode cX6_look 13 = .ok (.ifCond .ne 8, 3) := by decide +kernel
theorem dX6_look_16 : decode cX6_look 16 = .ok (.aload_n 0, 1) := by decide +kernel
theorem dX6_look_17 : decode cX6_look 17 = .ok (.invokevirtual 42, 3) := by decide +kernel
theorem dX6_look_20 : decode cX6_look 20 = .ok (.ireturn, 1) := by decide +kernel
theorem dX6_look_21 : decode cX6_look 21 = .ok (.aload_n 0, 1) := by decide +kernel
theorem dX6_look_22 : decode cX6_look 22 = .ok (.iload_n 1, 1) := by decide +kernel
theorem dX6_look_23 : decode cX6_look 23 = .ok (.invokevirtual 199, 3) := by decide +kernel
theorem dX6_look_26 : decode cX6_look 26 = .ok (.istore_n 3, 1) := by decide +kernel
theorem dX6_look_27 : decode cX6_look 27 = .ok (.iconst (-1), 1) := by decide +kernel
theorem dX6_look_28 : decode cX6_look 28 = .ok (.istore 4, 2) := by decide +kernel
theorem dX6_look_30 : decode cX6_look 30 = .ok (.ldc 187, 2) := by decide +kernel
theorem dX6_look_32 : decode cX6_look 32 = .ok (.istore 5, 2) := by decide +kernel
theorem dX6_look_34 : decode cX6_look 34 = .ok (.iconst 0, 1) := by decide +kernel
theorem dX6_look_35 : decode cX6_look 35 = .ok (.istore 6, 2) := by decide +kernel
theorem dX6_look_37 : decode cX6_look 37 = .ok (.iload 6, 2) := by decide +kernel
theorem dX6_look_39 : decode cX6_look 39 = .ok (.bipush 30, 2) := by decide +kernel
theorem dX6_look_41 : decode cX6_look 41 = .ok (.if_icmp .gt 158, 3) := by decide +kernel
theorem dX6_look_44 : decode cX6_look 44 = .ok (.iload_n 3, 1) := by decide +kernel
theorem dX6_look_45 : decode cX6_look 45 = .ok (.ifCond .eq 154, 3) := by decide +kernel
theorem dX6_look_48 : decode cX6_look 48 = .ok (.iconst 0, 1) := by decide +kernel
theorem dX6_look_49 : decode cX6_look 49 = .ok (.istore 7, 2) := by decide +kernel
theorem dX6_look_51 : decode cX6_look 51 = .ok (.iconst 0, 1) := by decide +kernel
theorem dX6_look_52 : decode cX6_look 52 = .ok (.istore 8, 2) := by decide +kernel
theorem dX6_look_54 : decode cX6_look 54 = .ok (.iconst 0, 1) := by decide +kernel
theorem dX6_look_55 : decode cX6_look 55 = .ok (.istore 9, 2) := by decide +kernel
theorem dX6_look_57 : decode cX6_look 57 = .ok (.iload 9, 2) := by decide +kernel
theorem dX6_look_59 : decode cX6_look 59 = .ok (.iconst 5, 1) := by decide +kernel
theorem dX6_look_60 : decode cX6_look 60 = .ok (.if_icmp .gt 85, 3) := by decide +kernel
theorem dX6_look_63 : decode cX6_look 63 = .ok (.aload_n 0, 1) := by decide +kernel
theorem dX6_look_64 : decode cX6_look 64 = .ok (.iload 9, 2) := by decide +kernel
theorem dX6_look_66 : decode cX6_look 66 = .ok (.aload_n 0, 1) := by decide +kernel
theorem dX6_look_67 : decode cX6_look 67 = .ok (.getfield 7, 3) := by decide +kernel
theorem dX6_look_70 : decode cX6_look 70 = .ok (.bipush 9, 2) := by decide +kernel
theorem dX6_look_72 : decode cX6_look 72 = .ok (.iload_n 1, 1) := by decide +kernel
theorem dX6_look_73 : decode cX6_look 73 = .ok (.iadd, 1) := by decide +kernel
theorem dX6_look_74 : decode cX6_look 74 = .ok (.iaload, 1) := by decide +kernel
theorem dX6_look_75 : decode cX6_look 75 = .ok (.iload 6, 2) := by decide +kernel
theorem dX6_look_77 : decode cX6_look 77 = .ok (.invokevirtual 132, 3) := by decide +kernel
theorem dX6_look_80 : decode cX6_look 80 = .ok (.iload_n 2, 1) := by decide +kernel
theorem dX6_look_81 : decode cX6_look 81 = .ok (.if_icmp .ne 7, 3) := by decide +kernel
theorem dX6_look_84 : decode cX6_look 84 = .ok (.iconst 1, 1) := by decide +kernel
theorem dX6_look_85 : decode cX6_look 85 = .ok (.goto 4, 3) := by decide +kernel
theorem dX6_look_88 : decode cX6_look 88 = .ok (.iconst 0, 1) := by decide +kernel
theorem dX6_look_89 : decode cX6_look 89 = .ok (.istore 10, 2) := by decide +kernel
theorem dX6_look_91 : decode cX6_look 91 = .ok (.iload 7, 2) := by decide +kernel
theorem dX6_look_93 : decode cX6_look 93 = .ok (.iload_n 3, 1) := by decide +kernel
theorem dX6_look_94 : decode cX6_look 94 = .ok (.iload 9, 2) := by decide +kernel
theorem dX6_look_96 : decode cX6_look 96 = .ok (.invokestatic 155, 3) := by decide +kernel
theorem dX6_look_99 : decode cX6_look 99 = .ok (.ifCond .eq 12, 3) := by decide +kernel
theorem dX6_look_102 : decode cX6_look 102 = .ok (.iload 10, 2) := by decide +kernel
theorem dX6_look_104 : decode cX6_look 104 = .ok (.ifCond .eq 7, 3) := by decide +kernel
theorem dX6_look_107 : decode cX6_look 107 = .ok (.iconst 1, 1) := by decide +kernel
theorem dX6_look_108 : decode cX6_look 108 = .ok (.goto 4, 3) := by decide +kernel
theorem dX6_look_111 : decode cX6_look 111 = .ok (.iconst 0, 1) := by decide +kernel
theorem dX6_look_112 : decode cX6_look 112 = .ok (.iadd, 1) := by decide +kernel
theorem dX6_look_113 : decode cX6_look 113 = .ok (.istore 7, 2) := by decide +kernel
theorem dX6_look_115 : decode cX6_look 115 = .ok (.iload 8, 2) := by decide +kernel
theorem dX6_look_117 : decode cX6_look 117 = .ok (.iload_n 3, 1) := by decide +kernel
theorem dX6_look_118 : decode cX6_look 118 = .ok (.iload 9, 2) := by decide +kernel
theorem dX6_look_120 : decode cX6_look 120 = .ok (.invokestatic 155, 3) := by decide +kernel
theorem dX6_look_123 : decode cX6_look 123 = .ok (.ifCond .eq 12, 3) := by decide +kernel
theorem dX6_look_126 : decode cX6_look 126 = .ok (.iload 10, 2) := by decide +kernel
theorem dX6_look_128 : decode cX6_look 128 = .ok (.ifCond .ne 7, 3) := by decide +kernel
theorem dX6_look_131 : decode cX6_look 131 = .ok (.iconst 1, 1) := by decide +kernel
theorem dX6_look_132 : decode cX6_look 132 = .ok (.goto 4, 3) := by decide +kernel
theorem dX6_look_135 : decode cX6_look 135 = .ok (.iconst 0, 1) := by decide +kernel
theorem dX6_look_136 : decode cX6_look 136 = .ok (.iadd, 1) := by decide +kernel
theorem dX6_look_137 : decode cX6_look 137 = .ok (.istore 8, 2) := by decide +kernel
theorem dX6_look_139 : decode cX6_look 139 = .ok (.iinc 9 1, 3) := by decide +kernel
theorem dX6_look_142 : decode cX6_look 142 = .ok (.goto (-85), 3) := by decide +kernel
theorem dX6_look_145 : decode cX6_look 145 = .ok (.iload 7, 2) := by decide +kernel
theorem dX6_look_147 : decode cX6_look 147 = .ok (.iload 8, 2) := by decide +kernel
theorem dX6_look_149 : decode cX6_look 149 = .ok (.if_icmp .le 8, 3) := by decide +kernel
theorem dX6_look_152 : decode cX6_look 152 = .ok (.iload 7, 2) := by decide +kernel
theorem dX6_look_154 : decode cX6_look 154 = .ok (.goto 5, 3) := by decide +kernel
theorem dX6_look_157 : decode cX6_look 157 = .ok (.iload 8, 2) := by decide +kernel
theorem dX6_look_159 : decode cX6_look 159 = .ok (.istore 9, 2) := by decide +kernel
theorem dX6_look_161 : decode cX6_look 161 = .ok (.iload 9, 2) := by decide +kernel
theorem dX6_look_163 : decode cX6_look 163 = .ok (.iload 5, 2) := by decide +kernel
theorem dX6_look_165 : decode cX6_look 165 = .ok (.if_icmp .ge 8, 3) := by decide +kernel
theorem dX6_look_168 : decode cX6_look 168 = .ok (.iload 6, 2) := by decide +kernel
theorem dX6_look_170 : decode cX6_look 170 = .ok (.goto 5, 3) := by decide +kernel
theorem dX6_look_173 : decode cX6_look 173 = .ok (.iload 4, 2) := by decide +kernel
theorem dX6_look_175 : decode cX6_look 175 = .ok (.istore 4, 2) := by decide +kernel
theorem dX6_look_177 : decode cX6_look 177 = .ok (.iload 9, 2) := by decide +kernel
theorem dX6_look_179 : decode cX6_look 179 = .ok (.iload 5, 2) := by decide +kernel
theorem dX6_look_181 : decode cX6_look 181 = .ok (.if_icmp .ge 8, 3) := by decide +kernel
theorem dX6_look_184 : decode cX6_look 184 = .ok (.iload 9, 2) := by decide +kernel
theorem dX6_look_186 : decode cX6_look 186 = .ok (.goto 5, 3) := by decide +kernel
theorem dX6_look_189 : decode cX6_look 189 = .ok (.iload 5, 2) := by decide +kernel
theorem dX6_look_191 : decode cX6_look 191 = .ok (.istore 5, 2) := by decide +kernel
theorem dX6_look_193 : decode cX6_look 193 = .ok (.iinc 6 1, 3) := by decide +kernel
theorem dX6_look_196 : decode cX6_look 196 = .ok (.goto (-159), 3) := by decide +kernel
theorem dX6_look_199 : decode cX6_look 199 = .ok (.iload 4, 2) := by decide +kernel
theorem dX6_look_201 : decode cX6_look 201 = .ok (.ireturn, 1) := by decide +kernel
set_option maxRecDepth 20000 in
theorem ggX6_porters_X6_isFloor : GoodIn wsX6_porters wsX6_isFloor := goodIn_r _ [9, 3, 10, 11, 8, 12, 68, 69, 70, 71, 72, 73, 74, 75, 76, 77, 78, 79, 80, 81, 82] (by decide +kernel) (by decide +kernel)
set_option maxRecDepth 20000 in
theorem gX6_porters_X6_isFloor : GoodIn wsX6_porters (wsV RX6 167 RX6 yX6_isFloor wsX6_isFloor) := goodIn_app (goodIn_of _ (by decide +kernel)) ggX6_porters_X6_isFloor
set_option maxRecDepth 20000 in
theorem ggX6_porters_X6_isMinute : GoodIn wsX6_porters wsX6_isMinute := goodIn_r _ [15, 16, 10, 11, 8, 12] (by decide +kernel) (by decide +kernel)
set_option maxRecDepth 20000 in
theorem gX6_porters_X6_isMinute : GoodIn wsX6_porters (va_wsS RX6 152 yX6_isMinute wsX6_isMinute) := goodIn_app (goodIn_of _ (by decide +kernel)) ggX6_porters_X6_isMinute
set_option maxRecDepth 20000 in
theorem ggX6_porters_X6_in : GoodIn wsX6_porters wsX6_in := goodIn_r _ [12] (by decide +kernel) (by decide +kernel)
set_option maxRecDepth 20000 in
theorem gX6_porters_X6_in : GoodIn wsX6_porters (va_wsS RX6 34 yX6_in wsX6_in) := goodIn_app (goodIn_of _ (by decide +kernel)) ggX6_porters_X6_in
set_option maxRecDepth 20000 in
theorem ggX6_porters_X6_bad : GoodIn wsX6_porters wsX6_bad := goodIn_r _ [20, 21, 68, 69, 70, 71, 72, 73, 74, 75, 76, 77, 78, 79, 80, 81, 82] (by decide +kernel) (by decide +kernel)
set_option maxRecDepth 20000 in
theorem gX6_porters_X6_bad : GoodIn wsX6_porters (wsV RX6 42 RX6 yX6_bad wsX6_bad) := goodIn_app (goodIn_of _ (by decide +kernel)) ggX6_porters_X6_bad
set_option maxRecDepth 20000 in
theorem ggX6_porters_X6_has : GoodIn wsX6_porters wsX6_has := goodIn_r _ [24] (by decide +kernel) (by decide +kernel)
set_option maxRecDepth 20000 in
theorem gX6_porters_X6_has : GoodIn wsX6_porters (va_wsS RX6 155 yX6_has wsX6_has) := goodIn_app (goodIn_of _ (by decide +kernel)) ggX6_porters_X6_has
set_option maxRecDepth 20000 in
theorem ggX6_porters_X6_comes : GoodIn wsX6_porters wsX6_comes := goodIn_r _ [28, 3, 29, 4, 22, 23, 8, 24, 30, 31, 32, 33, 34, 35, 36, 37, 38, 39, 40, 41, 42, 43, 44, 45, 46, 47, 48, 49, 50, 51, 52, 53, 54, 55, 56, 57, 58, 59, 60, 61, 68, 69, 70, 71, 72, 73, 74, 75, 76, 77, 78, 79, 80, 81, 82] (by decide +kernel) (by decide +kernel)
set_option maxRecDepth 20000 in
theorem gX6_porters_X6_comes : GoodIn wsX6_porters (wsV RX6 172 RX6 yX6_comes wsX6_comes) := goodIn_app (goodIn_of _ (by decide +kernel)) ggX6_porters_X6_comes
set_option maxRecDepth 20000 in
theorem ggX6_porters_X6_tells : GoodIn wsX6_porters wsX6_tells := goodIn_r _ [65, 66, 67, 68, 69, 70, 71, 72, 73, 74, 75, 76, 77, 78, 79, 80, 81, 82] (by decide +kernel) (by decide +kernel)
set_option maxRecDepth 20000 in
theorem gX6_porters_X6_tells : GoodIn wsX6_porters (wsV RX6 179 RX6 yX6_tells wsX6_tells) := goodIn_app (goodIn_of _ (by decide +kernel)) ggX6_porters_X6_tells
theorem dX6_porters_0 : decode cX6_porters 0 = .ok (.aload_n 0, 1) := by decide +kernel
theorem dX6_porters_1 : decode cX6_porters 1 = .ok (.iload_n 1, 1) := by decide +kernel
theorem dX6_porters_2 : decode cX6_porters 2 = .ok (.invokevirtual 167, 3) := by decide +kernel
theorem dX6_porters_5 : decode cX6_porters 5 = .ok (.ifCond .eq 35, 3) := by decide +kernel
theorem dX6_porters_8 : decode cX6_porters 8 = .ok (.iload_n 2, 1) := by decide +kernel
theorem dX6_porters_9 : decode cX6_porters 9 = .ok (.invokestatic 152, 3) := by decide +kernel
theorem dX6_porters_12 : decode cX6_porters 12 = .ok (.ifCond .eq 28, 3) := by decide +kernel
theorem dX6_porters_15 : decode cX6_porters 15 = .ok (.iload_n 3, 1) := by decide +kernel
theorem dX6_porters_16 : decode cX6_porters 16 = .ok (.i2l, 1) := by decide +kernel
theorem dX6_porters_17 : decode cX6_porters 17 = .ok (.lconst 0, 1) := by decide +kernel
theorem dX6_porters_18 : decode cX6_porters 18 = .ok (.ldc2_w 202, 3) := by decide +kernel
theorem dX6_porters_21 : decode cX6_porters 21 = .ok (.invokestatic 34, 3) := by decide +kernel
theorem dX6_porters_24 : decode cX6_porters 24 = .ok (.ifCond .eq 16, 3) := by decide +kernel
theorem dX6_porters_27 : decode cX6_porters 27 = .ok (.iload 4, 2) := by decide +kernel
theorem dX6_porters_29 : decode cX6_porters 29 = .ok (.i2l, 1) := by decide +kernel
theorem dX6_porters_30 : decode cX6_porters 30 = .ok (.lconst 0, 1) := by decide +kernel
theorem dX6_porters_31 : decode cX6_porters 31 = .ok (.ldc2_w 204, 3) := by decide +kernel
theorem dX6_porters_34 : decode cX6_porters 34 = .ok (.invokestatic 34, 3) := by decide +kernel
theorem dX6_porters_37 : decode cX6_porters 37 = .ok (.ifCond .ne 8, 3) := by decide +kernel
theorem dX6_porters_40 : decode cX6_porters 40 = .ok (.aload_n 0, 1) := by decide +kernel
theorem dX6_porters_41 : decode cX6_porters 41 = .ok (.invokevirtual 42, 3) := by decide +kernel
theorem dX6_porters_44 : decode cX6_porters 44 = .ok (.ireturn, 1) := by decide +kernel
theorem dX6_porters_45 : decode cX6_porters 45 = .ok (.iconst 0, 1) := by decide +kernel
theorem dX6_porters_46 : decode cX6_porters 46 = .ok (.istore 5, 2) := by decide +kernel
theorem dX6_porters_48 : decode cX6_porters 48 = .ok (.iconst 1, 1) := by decide +kernel
theorem dX6_porters_49 : decode cX6_porters 49 = .ok (.istore 6, 2) := by decide +kernel
theorem dX6_porters_51 : decode cX6_porters 51 = .ok (.iconst 0, 1) := by decide +kernel
theorem dX6_porters_52 : decode cX6_porters 52 = .ok (.istore 7, 2) := by decide +kernel
theorem dX6_porters_54 : decode cX6_porters 54 = .ok (.iload 7, 2) := by decide +kernel
theorem dX6_porters_56 : decode cX6_porters 56 = .ok (.aload_n 0, 1) := by decide +kernel
theorem dX6_porters_57 : decode cX6_porters 57 = .ok (.getfield 7, 3) := by decide +kernel
theorem dX6_porters_60 : decode cX6_porters 60 = .ok (.iconst 0, 1) := by decide +kernel
theorem dX6_porters_61 : decode cX6_porters 61 = .ok (.iaload, 1) := by decide +kernel
theorem dX6_porters_62 : decode cX6_porters 62 = .ok (.if_icmp .ge 16, 3) := by decide +kernel
theorem dX6_porters_65 : decode cX6_porters 65 = .ok (.iload 6, 2) := by decide +kernel
theorem dX6_porters_67 : decode cX6_porters 67 = .ok (.bipush 10, 2) := by decide +kernel
theorem dX6_porters_69 : decode cX6_porters 69 = .ok (.imul, 1) := by decide +kernel
theorem dX6_porters_70 : decode cX6_porters 70 = .ok (.istore 6, 2) := by decide +kernel
theorem dX6_porters_72 : decode cX6_porters 72 = .ok (.iinc 7 1, 3) := by decide +kernel
theorem dX6_porters_75 : decode cX6_porters 75 = .ok (.goto (-21), 3) := by decide +kernel
theorem dX6_porters_78 : decode cX6_porters 78 = .ok (.iconst 0, 1) := by decide +kernel
theorem dX6_porters_79 : decode cX6_porters 79 = .ok (.istore 7, 2) := by decide +kernel
theorem dX6_porters_81 : decode cX6_porters 81 = .ok (.iload 7, 2) := by decide +kernel
theorem dX6_porters_83 : decode cX6_porters 83 = .ok (.iconst 1, 1) := by decide +kernel
theorem dX6_porters_84 : decode cX6_porters 84 = .ok (.aload_n 0, 1) := by decide +kernel
theorem dX6_porters_85 : decode cX6_porters 85 = .ok (.getfield 7, 3) := by decide +kernel
theorem dX6_porters_88 : decode cX6_porters 88 = .ok (.iconst 0, 1) := by decide +kernel
theorem dX6_porters_89 : decode cX6_porters 89 = .ok (.iaload, 1) := by decide +kernel
theorem dX6_porters_90 : decode cX6_porters 90 = .ok (.ishl, 1) := by decide +kernel
theorem dX6_porters_91 : decode cX6_porters 91 = .ok (.if_icmp .ge 90, 3) := by decide +kernel
theorem dX6_porters_94 : decode cX6_porters 94 = .ok (.iconst 1, 1) := by decide +kernel
theorem dX6_porters_95 : decode cX6_porters 95 = .ok (.istore 8, 2) := by decide +kernel
theorem dX6_porters_97 : decode cX6_porters 97 = .ok (.iconst 0, 1) := by decide +kernel
theorem dX6_porters_98 : decode cX6_porters 98 = .ok (.istore 9, 2) := by decide +kernel
theorem dX6_porters_100 : decode cX6_porters 100 = .ok (.iload 9, 2) := by decide +kernel
theorem dX6_porters_102 : decode cX6_porters 102 = .ok (.aload_n 0, 1) := by decide +kernel
theorem dX6_porters_103 : decode cX6_porters 103 = .ok (.getfield 7, 3) := by decide +kernel
theorem dX6_porters_106 : decode cX6_porters 106 = .ok (.iconst 0, 1) := by decide +kernel
theorem dX6_porters_107 : decode cX6_porters 107 = .ok (.iaload, 1) := by decide +kernel
theorem dX6_porters_108 : decode cX6_porters 108 = .ok (.if_icmp .ge 34, 3) := by decide +kernel
theorem dX6_porters_111 : decode cX6_porters 111 = .ok (.iload 8, 2) := by decide +kernel
theorem dX6_porters_113 : decode cX6_porters 113 = .ok (.iload 7, 2) := by decide +kernel
theorem dX6_porters_115 : decode cX6_porters 115 = .ok (.iload 9, 2) := by decide +kernel
theorem dX6_porters_117 : decode cX6_porters 117 = .ok (.invokestatic 155, 3) := by decide +kernel
theorem dX6_porters_120 : decode cX6_porters 120 = .ok (.ifCond .eq 11, 3) := by decide +kernel
theorem dX6_porters_123 : decode cX6_porters 123 = .ok (.bipush 10, 2) := by decide +kernel
theorem dX6_porters_125 : decode cX6_porters 125 = .ok (.iload 4, 2) := by decide +kernel
theorem dX6_porters_127 : decode cX6_porters 127 = .ok (.isub, 1) := by decide +kernel
theorem dX6_porters_128 : decode cX6_porters 128 = .ok (.goto 5, 3) := by decide +kernel
theorem dX6_porters_131 : decode cX6_porters 131 = .ok (.iload 4, 2) := by decide +kernel
theorem dX6_porters_133 : decode cX6_porters 133 = .ok (.imul, 1) := by decide +kernel
theorem dX6_porters_134 : decode cX6_porters 134 = .ok (.istore 8, 2) := by decide +kernel
theorem dX6_porters_136 : decode cX6_porters 136 = .ok (.iinc 9 1, 3) := by decide +kernel
theorem dX6_porters_139 : decode cX6_porters 139 = .ok (.goto (-39), 3) := by decide +kernel
theorem dX6_porters_142 : decode cX6_porters 142 = .ok (.iload 5, 2) := by decide +kernel
theorem dX6_porters_144 : decode cX6_porters 144 = .ok (.aload_n 0, 1) := by decide +kernel
theorem dX6_porters_145 : decode cX6_porters 145 = .ok (.iload_n 1, 1) := by decide +kernel
theorem dX6_porters_146 : decode cX6_porters 146 = .ok (.iload_n 2, 1) := by decide +kernel
theorem dX6_porters_147 : decode cX6_porters 147 = .ok (.iload 7, 2) := by decide +kernel
theorem dX6_porters_149 : decode cX6_porters 149 = .ok (.iconst 2, 1) := by decide +kernel
theorem dX6_porters_150 : decode cX6_porters 150 = .ok (.invokevirtual 172, 3) := by decide +kernel
theorem dX6_porters_153 : decode cX6_porters 153 = .ok (.ifCond .eq 18, 3) := by decide +kernel
theorem dX6_porters_156 : decode cX6_porters 156 = .ok (.aload_n 0, 1) := by decide +kernel
theorem dX6_porters_157 : decode cX6_porters 157 = .ok (.getfield 164, 3) := by decide +kernel
theorem dX6_porters_160 : decode cX6_porters 160 = .ok (.iload_n 2, 1) := by decide +kernel
theorem dX6_porters_161 : decode cX6_porters 161 = .ok (.isub, 1) := by decide +kernel
theorem dX6_porters_162 : decode cX6_porters 162 = .ok (.iload_n 3, 1) := by decide +kernel
theorem dX6_porters_163 : decode cX6_porters 163 = .ok (.if_icmp .gt 8, 3) := by decide +kernel
theorem dX6_porters_166 : decode cX6_porters 166 = .ok (.iload 8, 2) := by decide +kernel
theorem dX6_porters_168 : decode cX6_porters 168 = .ok (.goto 4, 3) := by decide +kernel
theorem dX6_porters_171 : decode cX6_porters 171 = .ok (.iconst 0, 1) := by decide +kernel
theorem dX6_porters_172 : decode cX6_porters 172 = .ok (.iadd, 1) := by decide +kernel
theorem dX6_porters_173 : decode cX6_porters 173 = .ok (.istore 5, 2) := by decide +kernel
theorem dX6_porters_175 : decode cX6_porters 175 = .ok (.iinc 7 1, 3) := by decide +kernel
theorem dX6_porters_178 : decode cX6_porters 178 = .ok (.goto (-97), 3) := by decide +kernel
theorem dX6_porters_181 : decode cX6_porters 181 = .ok (.aload_n 0, 1) := by decide +kernel
theorem dX6_porters_182 : decode cX6_porters 182 = .ok (.iload 5, 2) := by decide +kernel
theorem dX6_porters_184 : decode cX6_porters 184 = .ok (.i2l, 1) := by decide +kernel
theorem dX6_porters_185 : decode cX6_porters 185 = .ok (.iload 6, 2) := by decide +kernel
theorem dX6_porters_187 : decode cX6_porters 187 = .ok (.i2l, 1) := by decide +kernel
theorem dX6_porters_188 : decode cX6_porters 188 = .ok (.invokevirtual 179, 3) := by decide +kernel
theorem dX6_porters_191 : decode cX6_porters 191 = .ok (.ireturn, 1) := by decide +kernel
set_option maxRecDepth 20000 in
theorem ggX6_days_X6_isFloor : GoodIn wsX6_days wsX6_isFloor := goodIn_r _ [14, 15, 16, 17, 13, 18, 63, 64, 65, 66, 67, 68, 69, 70, 71, 72, 73, 74, 75, 76, 77] (by decide +kernel) (by decide +kernel)
set_option maxRecDepth 20000 in
theorem gX6_days_X6_isFloor : GoodIn wsX6_days (wsV RX6 167 RX6 yX6_isFloor wsX6_isFloor) := goodIn_app (goodIn_of _ (by decide +kernel)) ggX6_days_X6_isFloor
set_option maxRecDepth 20000 in
theorem ggX6_days_X6_in : GoodIn wsX6_days wsX6_in := goodIn_r _ [18] (by decide +kernel) (by decide +kernel)
set_option maxRecDepth 20000 in
theorem gX6_days_X6_in : GoodIn wsX6_days (va_wsS RX6 34 yX6_in wsX6_in) := goodIn_app (goodIn_of _ (by decide +kernel)) ggX6_days_X6_in
set_option maxRecDepth 20000 in
theorem ggX6_days_X6_bad : GoodIn wsX6_days wsX6_bad := goodIn_r _ [22, 23, 63, 64, 65, 66, 67, 68, 69, 70, 71, 72, 73, 74, 75, 76, 77] (by decide +kernel) (by decide +kernel)
set_option maxRecDepth 20000 in
theorem gX6_days_X6_bad : GoodIn wsX6_days (wsV RX6 42 RX6 yX6_bad wsX6_bad) := goodIn_app (goodIn_of _ (by decide +kernel)) ggX6_days_X6_bad
set_option maxRecDepth 20000 in
theorem ggX6_days_X6_comes : GoodIn wsX6_days wsX6_comes := goodIn_r _ [27, 15, 8, 9, 28, 29, 13, 30, 31, 32, 33, 34, 35, 36, 37, 38, 39, 40, 41, 42, 43, 44, 45, 46, 47, 48, 49, 50, 51, 52, 53, 54, 55, 56, 57, 58, 59, 60, 61, 62, 63, 64, 65, 66, 67, 68, 69, 70, 71, 72, 73, 74, 75, 76, 77] (by decide +kernel) (by decide +kernel)
set_option maxRecDepth 20000 in
theorem gX6_days_X6_comes : GoodIn wsX6_days (wsV RX6 172 RX6 yX6_comes wsX6_comes) := goodIn_app (goodIn_of _ (by decide +kernel)) ggX6_days_X6_comes
set_option maxRecDepth 20000 in
theorem ggX6_days_X6_wayIn : GoodIn wsX6_days wsX6_wayIn := goodIn_r _ [62, 15, 35, 36, 37, 13, 38, 39, 40, 41, 42, 43, 44, 45, 46, 47, 48, 49, 50, 51, 52, 53, 54, 63, 64, 65, 66, 67, 68, 69, 70, 71, 72, 73, 74, 75, 76, 77] (by decide +kernel) (by decide +kernel)
set_option maxRecDepth 20000 in
theorem gX6_days_X6_wayIn : GoodIn wsX6_days (wsV RX6 149 RX6 yX6_wayIn wsX6_wayIn) := goodIn_app (goodIn_of _ (by decide +kernel)) ggX6_days_X6_wayIn
theorem dX6_days_0 : decode cX6_days 0 = .ok (.aload_n 0, 1) := by decide +kernel
theorem dX6_days_1 : decode cX6_days 1 = .ok (.iload_n 1, 1) := by decide +kernel
theorem dX6_days_2 : decode cX6_days 2 = .ok (.invokevirtual 167, 3) := by decide +kernel
theorem dX6_days_5 : decode cX6_days 5 = .ok (.ifCond .eq 27, 3) := by decide +kernel
theorem dX6_days_8 : decode cX6_days 8 = .ok (.iload_n 2, 1) := by decide +kernel
theorem dX6_days_9 : decode cX6_days 9 = .ok (.i2l, 1) := by decide +kernel
theorem dX6_days_10 : decode cX6_days 10 = .ok (.lconst 0, 1) := by decide +kernel
theorem dX6_days_11 : decode cX6_days 11 = .ok (.ldc2_w 206, 3) := by decide +kernel
theorem dX6_days_14 : decode cX6_days 14 = .ok (.invokestatic 34, 3) := by decide +kernel
theorem dX6_days_17 : decode cX6_days 17 = .ok (.ifCond .eq 15, 3) := by decide +kernel
theorem dX6_days_20 : decode cX6_days 20 = .ok (.iload_n 3, 1) := by decide +kernel
theorem dX6_days_21 : decode cX6_days 21 = .ok (.i2l, 1) := by decide +kernel
theorem dX6_days_22 : decode cX6_days 22 = .ok (.lconst 0, 1) := by decide +kernel
theorem dX6_days_23 : decode cX6_days 23 = .ok (.ldc2_w 194, 3) := by decide +kernel
theorem dX6_days_26 : decode cX6_days 26 = .ok (.invokestatic 34, 3) := by decide +kernel
theorem dX6_days_29 : decode cX6_days 29 = .ok (.ifCond .ne 8, 3) := by decide +kernel
theorem dX6_days_32 : decode cX6_days 32 = .ok (.aload_n 0, 1) := by decide +kernel
theorem dX6_days_33 : decode cX6_days 33 = .ok (.invokevirtual 42, 3) := by decide +kernel
theorem dX6_days_36 : decode cX6_days 36 = .ok (.ireturn, 1) := by decide +kernel
theorem dX6_days_37 : decode cX6_days 37 = .ok (.iload_n 2, 1) := by decide +kernel
theorem dX6_days_38 : decode cX6_days 38 = .ok (.i2l, 1) := by decide +kernel
theorem dX6_days_39 : decode cX6_days 39 = .ok (.lstore 4, 2) := by decide +kernel
theorem dX6_days_41 : decode cX6_days 41 = .ok (.iconst 0, 1) := by decide +kernel
theorem dX6_days_42 : decode cX6_days 42 = .ok (.istore 6, 2) := by decide +kernel
theorem dX6_days_44 : decode cX6_days 44 = .ok (.iconst 0, 1) := by decide +kernel
theorem dX6_days_45 : decode cX6_days 45 = .ok (.istore 7, 2) := by decide +kernel
theorem dX6_days_47 : decode cX6_days 47 = .ok (.iload 7, 2) := by decide +kernel
theorem dX6_days_49 : decode cX6_days 49 = .ok (.iload_n 3, 1) := by decide +kernel
theorem dX6_days_50 : decode cX6_days 50 = .ok (.if_icmp .ge 72, 3) := by decide +kernel
theorem dX6_days_53 : decode cX6_days 53 = .ok (.lload 4, 2) := by decide +kernel
theorem dX6_days_55 : decode cX6_days 55 = .ok (.ldc2_w 208, 3) := by decide +kernel
theorem dX6_days_58 : decode cX6_days 58 = .ok (.lmul, 1) := by decide +kernel
theorem dX6_days_59 : decode cX6_days 59 = .ok (.ldc2_w 210, 3) := by decide +kernel
theorem dX6_days_62 : decode cX6_days 62 = .ok (.ladd, 1) := by decide +kernel
theorem dX6_days_63 : decode cX6_days 63 = .ok (.ldc2_w 212, 3) := by decide +kernel
theorem dX6_days_66 : decode cX6_days 66 = .ok (.lrem, 1) := by decide +kernel
theorem dX6_days_67 : decode cX6_days 67 = .ok (.lstore 4, 2) := by decide +kernel
theorem dX6_days_69 : decode cX6_days 69 = .ok (.lload 4, 2) := by decide +kernel
theorem dX6_days_71 : decode cX6_days 71 = .ok (.ldc2_w 214, 3) := by decide +kernel
theorem dX6_days_74 : decode cX6_days 74 = .ok (.ldiv, 1) := by decide +kernel
theorem dX6_days_75 : decode cX6_days 75 = .ok (.ldc2_w 216, 3) := by decide +kernel
theorem dX6_days_78 : decode cX6_days 78 = .ok (.lrem, 1) := by decide +kernel
theorem dX6_days_79 : decode cX6_days 79 = .ok (.l2i, 1) := by decide +kernel
theorem dX6_days_80 : decode cX6_days 80 = .ok (.istore 8, 2) := by decide +kernel
theorem dX6_days_82 : decode cX6_days 82 = .ok (.iload 6, 2) := by decide +kernel
theorem dX6_days_84 : decode cX6_days 84 = .ok (.aload_n 0, 1) := by decide +kernel
theorem dX6_days_85 : decode cX6_days 85 = .ok (.iload_n 1, 1) := by decide +kernel
theorem dX6_days_86 : decode cX6_days 86 = .ok (.iload 8, 2) := by decide +kernel
theorem dX6_days_88 : decode cX6_days 88 = .ok (.bipush 15, 2) := by decide +kernel
theorem dX6_days_90 : decode cX6_days 90 = .ok (.iconst 2, 1) := by decide +kernel
theorem dX6_days_91 : decode cX6_days 91 = .ok (.invokevirtual 172, 3) := by decide +kernel
theorem dX6_days_94 : decode cX6_days 94 = .ok (.ifCond .eq 18, 3) := by decide +kernel
theorem dX6_days_97 : decode cX6_days 97 = .ok (.aload_n 0, 1) := by decide +kernel
theorem dX6_days_98 : decode cX6_days 98 = .ok (.aload_n 0, 1) := by decide +kernel
theorem dX6_days_99 : decode cX6_days 99 = .ok (.getfield 161, 3) := by decide +kernel
theorem dX6_days_102 : decode cX6_days 102 = .ok (.aload_n 0, 1) := by decide +kernel
theorem dX6_days_103 : decode cX6_days 103 = .ok (.getfield 164, 3) := by decide +kernel
theorem dX6_days_106 : decode cX6_days 106 = .ok (.invokevirtual 149, 3) := by decide +kernel
theorem dX6_days_109 : decode cX6_days 109 = .ok (.goto 4, 3) := by decide +kernel
theorem dX6_days_112 : decode cX6_days 112 = .ok (.iconst 0, 1) := by decide +kernel
theorem dX6_days_113 : decode cX6_days 113 = .ok (.iadd, 1) := by decide +kernel
theorem dX6_days_114 : decode cX6_days 114 = .ok (.istore 6, 2) := by decide +kernel
theorem dX6_days_116 : decode cX6_days 116 = .ok (.iinc 7 1, 3) := by decide +kernel
theorem dX6_days_119 : decode cX6_days 119 = .ok (.goto (-72), 3) := by decide +kernel
theorem dX6_days_122 : decode cX6_days 122 = .ok (.iload 6, 2) := by decide +kernel
theorem dX6_days_124 : decode cX6_days 124 = .ok (.ireturn, 1) := by decide +kernel
set_option maxRecDepth 20000 in
theorem ggX6_part_X6_bad : GoodIn wsX6_part wsX6_bad := goodIn_r _ [7, 8, 9, 10, 11, 12, 13, 14, 15, 16, 17, 18, 19, 20, 21, 22, 23] (by decide +kernel) (by decide +kernel)
set_option maxRecDepth 20000 in
theorem gX6_part_X6_bad : GoodIn wsX6_part (wsV RX6 42 RX6 yX6_bad wsX6_bad) := goodIn_app (goodIn_of _ (by decide +kernel)) ggX6_part_X6_bad
theorem dX6_part_0 : decode cX6_part 0 = .ok (.iload_n 1, 1) := by decide +kernel
theorem dX6_part_1 : decode cX6_part 1 = .ok (.ifCond .ne 10, 3) := by decide +kernel
theorem dX6_part_4 : decode cX6_part 4 = .ok (.aload_n 0, 1) := by decide +kernel
theorem dX6_part_5 : decode cX6_part 5 = .ok (.getfield 176, 3) := by decide +kernel
theorem dX6_part_8 : decode cX6_part 8 = .ok (.goto 20, 3) := by decide +kernel
theorem dX6_part_11 : decode cX6_part 11 = .ok (.iload_n 1, 1) := by decide +kernel
theorem dX6_part_12 : decode cX6_part 12 = .ok (.iconst 1, 1) := by decide +kernel
theorem dX6_part_13 : decode cX6_part 13 = .ok (.if_icmp .ne 10, 3) := by decide +kernel
theorem dX6_part_16 : decode cX6_part 16 = .ok (.aload_n 0, 1) := by decide +kernel
theorem dX6_part_17 : decode cX6_part 17 = .ok (.getfield 23, 3) := by decide +kernel
theorem dX6_part_20 : decode cX6_part 20 = .ok (.goto 8, 3) := by decide +kernel
theorem dX6_part_23 : decode cX6_part 23 = .ok (.aload_n 0, 1) := by decide +kernel
theorem dX6_part_24 : decode cX6_part 24 = .ok (.invokevirtual 42, 3) := by decide +kernel
theorem dX6_part_27 : decode cX6_part 27 = .ok (.i2l, 1) := by decide +kernel
theorem dX6_part_28 : decode cX6_part 28 = .ok (.lreturn, 1) := by decide +kernel
set_option maxRecDepth 20000 in
theorem ggX6_image_X6_in : GoodIn wsX6_image wsX6_in := goodIn_r _ [5] (by decide +kernel) (by decide +kernel)
set_option maxRecDepth 20000 in
theorem gX6_image_X6_in : GoodIn wsX6_image (va_wsS RX6 34 yX6_in wsX6_in) := goodIn_app (goodIn_of _ (by decide +kernel)) ggX6_image_X6_in
set_option maxRecDepth 20000 in
theorem ggX6_image_X6_bad : GoodIn wsX6_image wsX6_bad := goodIn_r _ [9, 10, 16, 17, 18, 19, 20, 21, 22, 23, 24, 25, 26, 27, 28, 29, 30] (by decide +kernel) (by decide +kernel)
set_option maxRecDepth 20000 in
theorem gX6_image_X6_bad : GoodIn wsX6_image (wsV RX6 42 RX6 yX6_bad wsX6_bad) := goodIn_app (goodIn_of _ (by decide +kernel)) ggX6_image_X6_bad
set_option maxRecDepth 20000 in
theorem ggX6_image_X6_copy : GoodIn wsX6_image wsX6_copy := goodIn_r _ [14, 15, 16, 17, 18, 19, 20, 21, 22, 23, 24, 25, 26, 27, 28, 29, 30] (by decide +kernel) (by decide +kernel)
set_option maxRecDepth 20000 in
theorem gX6_image_X6_copy : GoodIn wsX6_image (wsV RX6 120 RX6 yX6_copy wsX6_copy) := goodIn_app (goodIn_of _ (by decide +kernel)) ggX6_image_X6_copy
theorem dX6_image_0 : decode cX6_image 0 = .ok (.iload_n 1, 1) := by decide +kernel
theorem dX6_image_1 : decode cX6_image 1 = .ok (.i2l, 1) := by decide +kernel
theorem dX6_image_2 : decode cX6_image 2 = .ok (.lconst 0, 1) := by decide +kernel
theorem dX6_image_3 : decode cX6_image 3 = .ok (.lconst 1, 1) := by decide +kernel
theorem dX6_image_4 : decode cX6_image 4 = .ok (.invokestatic 34, 3) := by decide +kernel
theorem dX6_image_7 : decode cX6_image 7 = .ok (.ifCond .ne 8, 3) := by decide +kernel
theorem dX6_image_10 : decode cX6_image 10 = .ok (.aload_n 0, 1) := by decide +kernel
theorem dX6_image_11 : decode cX6_image 11 = .ok (.invokevirtual 42, 3) := by decide +kernel
theorem dX6_image_14 : decode cX6_image 14 = .ok (.ireturn, 1) := by decide +kernel
theorem dX6_image_15 : decode cX6_image 15 = .ok (.aload_n 0, 1) := by decide +kernel
theorem dX6_image_16 : decode cX6_image 16 = .ok (.iconst 0, 1) := by decide +kernel
theorem dX6_image_17 : decode cX6_image 17 = .ok (.bipush 49, 2) := by decide +kernel
theorem dX6_image_19 : decode cX6_image 19 = .ok (.iconst 1, 1) := by decide +kernel
theorem dX6_image_20 : decode cX6_image 20 = .ok (.iload_n 1, 1) := by decide +kernel
theorem dX6_image_21 : decode cX6_image 21 = .ok (.iadd, 1) := by decide +kernel
theorem dX6_image_22 : decode cX6_image 22 = .ok (.imul, 1) := by decide +kernel
theorem dX6_image_23 : decode cX6_image 23 = .ok (.invokevirtual 120, 3) := by decide +kernel
theorem dX6_image_26 : decode cX6_image 26 = .ok (.aload_n 0, 1) := by decide +kernel
theorem dX6_image_27 : decode cX6_image 27 = .ok (.getfield 13, 3) := by decide +kernel
theorem dX6_image_30 : decode cX6_image 30 = .ok (.iload_n 1, 1) := by decide +kernel
theorem dX6_image_31 : decode cX6_image 31 = .ok (.iconst 1, 1) := by decide +kernel
theorem dX6_image_32 : decode cX6_image 32 = .ok (.bastore, 1) := by decide +kernel
theorem dX6_image_33 : decode cX6_image 33 = .ok (.iconst 1, 1) := by decide +kernel
theorem dX6_image_34 : decode cX6_image 34 = .ok (.ireturn, 1) := by decide +kernel
set_option maxRecDepth 20000 in
theorem ggX6_from_X6_in : GoodIn wsX6_from wsX6_in := goodIn_r _ [5] (by decide +kernel) (by decide +kernel)
set_option maxRecDepth 20000 in
theorem gX6_from_X6_in : GoodIn wsX6_from (va_wsS RX6 34 yX6_in wsX6_in) := goodIn_app (goodIn_of _ (by decide +kernel)) ggX6_from_X6_in
set_option maxRecDepth 20000 in
theorem ggX6_from_X6_bad : GoodIn wsX6_from wsX6_bad := goodIn_r _ [9, 10, 20, 21, 22, 23, 24, 25, 26, 27, 28, 29, 30, 31, 32, 33, 34] (by decide +kernel) (by decide +kernel)
set_option maxRecDepth 20000 in
theorem gX6_from_X6_bad : GoodIn wsX6_from (wsV RX6 42 RX6 yX6_bad wsX6_bad) := goodIn_app (goodIn_of _ (by decide +kernel)) ggX6_from_X6_bad
set_option maxRecDepth 20000 in
theorem ggX6_from_X6_no : GoodIn wsX6_from wsX6_no := goodIn_r _ [14, 10, 20, 21, 22, 23, 24, 25, 26, 27, 28, 29, 30, 31, 32, 33, 34] (by decide +kernel) (by decide +kernel)
set_option maxRecDepth 20000 in
theorem gX6_from_X6_no : GoodIn wsX6_from (wsV RX6 143 RX6 yX6_no wsX6_no) := goodIn_app (goodIn_of _ (by decide +kernel)) ggX6_from_X6_no
set_option maxRecDepth 20000 in
theorem ggX6_from_X6_copy : GoodIn wsX6_from wsX6_copy := goodIn_r _ [18, 19, 20, 21, 22, 23, 24, 25, 26, 27, 28, 29, 30, 31, 32, 33, 34] (by decide +kernel) (by decide +kernel)
set_option maxRecDepth 20000 in
theorem gX6_from_X6_copy : GoodIn wsX6_from (wsV RX6 120 RX6 yX6_copy wsX6_copy) := goodIn_app (goodIn_of _ (by decide +kernel)) ggX6_from_X6_copy
theorem dX6_from_0 : decode cX6_from 0 = .ok (.iload_n 1, 1) := by decide +kernel
theorem dX6_from_1 : decode cX6_from 1 = .ok (.i2l, 1) := by decide +kernel
theorem dX6_from_2 : decode cX6_from 2 = .ok (.lconst 0, 1) := by decide +kernel
theorem dX6_from_3 : decode cX6_from 3 = .ok (.lconst 1, 1) := by decide +kernel
theorem dX6_from_4 : decode cX6_from 4 = .ok (.invokestatic 34, 3) := by decide +kernel
theorem dX6_from_7 : decode cX6_from 7 = .ok (.ifCond .ne 8, 3) := by decide +kernel
theorem dX6_from_10 : decode cX6_from 10 = .ok (.aload_n 0, 1) := by decide +kernel
theorem dX6_from_11 : decode cX6_from 11 = .ok (.invokevirtual 42, 3) := by decide +kernel
theorem dX6_from_14 : decode cX6_from 14 = .ok (.ireturn, 1) := by decide +kernel
theorem dX6_from_15 : decode cX6_from 15 = .ok (.aload_n 0, 1) := by decide +kernel
theorem dX6_from_16 : decode cX6_from 16 = .ok (.getfield 13, 3) := by decide +kernel
theorem dX6_from_19 : decode cX6_from 19 = .ok (.iload_n 1, 1) := by decide +kernel
theorem dX6_from_20 : decode cX6_from 20 = .ok (.baload, 1) := by decide +kernel
theorem dX6_from_21 : decode cX6_from 21 = .ok (.ifCond .ne 8, 3) := by decide +kernel
theorem dX6_from_24 : decode cX6_from 24 = .ok (.aload_n 0, 1) := by decide +kernel
theorem dX6_from_25 : decode cX6_from 25 = .ok (.invokevirtual 143, 3) := by decide +kernel
theorem dX6_from_28 : decode cX6_from 28 = .ok (.ireturn, 1) := by decide +kernel
theorem dX6_from_29 : decode cX6_from 29 = .ok (.aload_n 0, 1) := by decide +kernel
theorem dX6_from_30 : decode cX6_from 30 = .ok (.bipush 49, 2) := by decide +kernel
theorem dX6_from_32 : decode cX6_from 32 = .ok (.iconst 1, 1) := by decide +kernel
theorem dX6_from_33 : decode cX6_from 33 = .ok (.iload_n 1, 1) := by decide +kernel
theorem dX6_from_34 : decode cX6_from 34 = .ok (.iadd, 1) := by decide +kernel
theorem dX6_from_35 : decode cX6_from 35 = .ok (.imul, 1) := by decide +kernel
theorem dX6_from_36 : decode cX6_from 36 = .ok (.iconst 0, 1) := by decide +kernel
theorem dX6_from_37 : decode cX6_from 37 = .ok (.invokevirtual 120, 3) := by decide +kernel
theorem dX6_from_40 : decode cX6_from 40 = .ok (.iconst 1, 1) := by decide +kernel
theorem dX6_from_41 : decode cX6_from 41 = .ok (.ireturn, 1) := by decide +kernel
set_option maxRecDepth 20000 in
theorem ggX6_status_X6_in : GoodIn wsX6_status wsX6_in := goodIn_r _ [6] (by decide +kernel) (by decide +kernel)
set_option maxRecDepth 20000 in
theorem gX6_status_X6_in : GoodIn wsX6_status (va_wsS RX6 34 yX6_in wsX6_in) := goodIn_app (goodIn_of _ (by decide +kernel)) ggX6_status_X6_in
set_option maxRecDepth 20000 in
theorem ggX6_status_X6_badAs : GoodIn wsX6_status wsX6_badAs := goodIn_r _ [10, 2, 11, 12, 13, 14, 15, 16, 17, 18, 19, 20, 21, 22, 23, 24, 25] (by decide +kernel) (by decide +kernel)
set_option maxRecDepth 20000 in
theorem gX6_status_X6_badAs : GoodIn wsX6_status (wsV RX6 218 RX6 yX6_badAs wsX6_badAs) := goodIn_app (goodIn_of _ (by decide +kernel)) ggX6_status_X6_badAs
theorem dX6_status_0 : decode cX6_status 0 = .ok (.iload_n 1, 1) := by decide +kernel
theorem dX6_status_1 : decode cX6_status 1 = .ok (.i2l, 1) := by decide +kernel
theorem dX6_status_2 : decode cX6_status 2 = .ok (.lconst 0, 1) := by decide +kernel
theorem dX6_status_3 : decode cX6_status 3 = .ok (.ldc2_w 170, 3) := by decide +kernel
theorem dX6_status_6 : decode cX6_status 6 = .ok (.invokestatic 34, 3) := by decide +kernel
theorem dX6_status_9 : decode cX6_status 9 = .ok (.ifCond .eq 12, 3) := by decide +kernel
theorem dX6_status_12 : decode cX6_status 12 = .ok (.aload_n 0, 1) := by decide +kernel
theorem dX6_status_13 : decode cX6_status 13 = .ok (.getfield 20, 3) := by decide +kernel
theorem dX6_status_16 : decode cX6_status 16 = .ok (.iload_n 1, 1) := by decide +kernel
theorem dX6_status_17 : decode cX6_status 17 = .ok (.iaload, 1) := by decide +kernel
theorem dX6_status_18 : decode cX6_status 18 = .ok (.goto 8, 3) := by decide +kernel
theorem dX6_status_21 : decode cX6_status 21 = .ok (.aload_n 0, 1) := by decide +kernel
theorem dX6_status_22 : decode cX6_status 22 = .ok (.iconst (-1), 1) := by decide +kernel
theorem dX6_status_23 : decode cX6_status 23 = .ok (.invokevirtual 218, 3) := by decide +kernel
theorem dX6_status_26 : decode cX6_status 26 = .ok (.ireturn, 1) := by decide +kernel
theorem dX6_countOf_0 : decode cX6_countOf 0 = .ok (.iload_n 1, 1) := by decide +kernel
theorem dX6_countOf_1 : decode cX6_countOf 1 = .ok (.iconst 5, 1) := by decide +kernel
theorem dX6_countOf_2 : decode cX6_countOf 2 = .ok (.if_icmp .ne 10, 3) := by decide +kernel
theorem dX6_countOf_5 : decode cX6_countOf 5 = .ok (.aload_n 0, 1) := by decide +kernel
theorem dX6_countOf_6 : decode cX6_countOf 6 = .ok (.getfield 63, 3) := by decide +kernel
theorem dX6_countOf_9 : decode cX6_countOf 9 = .ok (.goto 9, 3) := by decide +kernel
theorem dX6_countOf_12 : decode cX6_countOf 12 = .ok (.aload_n 0, 1) := by decide +kernel
theorem dX6_countOf_13 : decode cX6_countOf 13 = .ok (.getfield 7, 3) := by decide +kernel
theorem dX6_countOf_16 : decode cX6_countOf 16 = .ok (.iload_n 1, 1) := by decide +kernel
theorem dX6_countOf_17 : decode cX6_countOf 17 = .ok (.iaload, 1) := by decide +kernel
theorem dX6_countOf_18 : decode cX6_countOf 18 = .ok (.ireturn, 1) := by decide +kernel
set_option maxRecDepth 20000 in
theorem ggX6_count_X6_in : GoodIn wsX6_count wsX6_in := goodIn_r _ [5] (by decide +kernel) (by decide +kernel)
set_option maxRecDepth 20000 in
theorem gX6_count_X6_in : GoodIn wsX6_count (va_wsS RX6 34 yX6_in wsX6_in) := goodIn_app (goodIn_of _ (by decide +kernel)) ggX6_count_X6_in
set_option maxRecDepth 20000 in
theorem ggX6_count_X6_countOf : GoodIn wsX6_count wsX6_countOf := goodIn_r _ [9, 10, 11, 17, 18, 19, 20, 21, 22, 23, 24, 25, 26, 27, 28, 29, 30, 31] (by decide +kernel) (by decide +kernel)
set_option maxRecDepth 20000 in
theorem gX6_count_X6_countOf : GoodIn wsX6_count (wsV RX6 221 RX6 yX6_countOf wsX6_countOf) := goodIn_app (goodIn_of _ (by decide +kernel)) ggX6_count_X6_countOf
set_option maxRecDepth 20000 in
theorem ggX6_count_X6_bad : GoodIn wsX6_count wsX6_bad := goodIn_r _ [15, 16, 17, 18, 19, 20, 21, 22, 23, 24, 25, 26, 27, 28, 29, 30, 31] (by decide +kernel) (by decide +kernel)
set_option maxRecDepth 20000 in
theorem gX6_count_X6_bad : GoodIn wsX6_count (wsV RX6 42 RX6 yX6_bad wsX6_bad) := goodIn_app (goodIn_of _ (by decide +kernel)) ggX6_count_X6_bad
theorem dX6_count_0 : decode cX6_count 0 = .ok (.iload_n 1, 1) := by decide +kernel
theorem dX6_count_1 : decode cX6_count 1 = .ok (.i2l, 1) := by decide +kernel
theorem dX6_count_2 : decode cX6_count 2 = .ok (.lconst 0, 1) := by decide +kernel
theorem dX6_count_3 : decode cX6_count 3 = .ok (.ldc2_w 46, 3) := by decide +kernel
theorem dX6_count_6 : decode cX6_count 6 = .ok (.invokestatic 34, 3) := by decide +kernel
theorem dX6_count_9 : decode cX6_count 9 = .ok (.ifCond .eq 11, 3) := by decide +kernel
theorem dX6_count_12 : decode cX6_count 12 = .ok (.aload_n 0, 1) := by decide +kernel
theorem dX6_count_13 : decode cX6_count 13 = .ok (.iload_n 1, 1) := by decide +kernel
theorem dX6_count_14 : decode cX6_count 14 = .ok (.invokevirtual 221, 3) := by decide +kernel
theorem dX6_count_17 : decode cX6_count 17 = .ok (.goto 7, 3) := by decide +kernel
theorem dX6_count_20 : decode cX6_count 20 = .ok (.aload_n 0, 1) := by decide +kernel
theorem dX6_count_21 : decode cX6_count 21 = .ok (.invokevirtual 42, 3) := by decide +kernel
theorem dX6_count_24 : decode cX6_count 24 = .ok (.ireturn, 1) := by decide +kernel
theorem dX6_mix_0 : decode cX6_mix 0 = .ok (.aload_n 0, 1) := by decide +kernel
theorem dX6_mix_1 : decode cX6_mix 1 = .ok (.ldc2_w 224, 3) := by decide +kernel
theorem dX6_mix_4 : decode cX6_mix 4 = .ok (.aload_n 0, 1) := by decide +kernel
theorem dX6_mix_5 : decode cX6_mix 5 = .ok (.getfield 226, 3) := by decide +kernel
theorem dX6_mix_8 : decode cX6_mix 8 = .ok (.lmul, 1) := by decide +kernel
theorem dX6_mix_9 : decode cX6_mix 9 = .ok (.lload_n 1, 1) := by decide +kernel
theorem dX6_mix_10 : decode cX6_mix 10 = .ok (.ladd, 1) := by decide +kernel
theorem dX6_mix_11 : decode cX6_mix 11 = .ok (.putfield 226, 3) := by decide +kernel
theorem dX6_mix_14 : decode cX6_mix 14 = .ok (.return_, 1) := by decide +kernel
set_option maxRecDepth 20000 in
theorem ggX6_digest_X6_countOf : GoodIn wsX6_digest wsX6_countOf := goodIn_r _ [10, 11, 3, 17, 18, 19, 20, 21, 22, 23, 24, 25, 26, 27, 28, 29, 30, 31] (by decide +kernel) (by decide +kernel)
set_option maxRecDepth 20000 in
theorem gX6_digest_X6_countOf : GoodIn wsX6_digest (wsV RX6 221 RX6 yX6_countOf wsX6_countOf) := goodIn_app (goodIn_of _ (by decide +kernel)) ggX6_digest_X6_countOf
set_option maxRecDepth 20000 in
theorem ggX6_digest_X6_mix : GoodIn wsX6_digest wsX6_mix := goodIn_r _ [15, 16, 2, 17, 18, 19, 20, 21, 22, 23, 24, 25, 26, 27, 28, 29, 30, 31] (by decide +kernel) (by decide +kernel)
set_option maxRecDepth 20000 in
theorem gX6_digest_X6_mix : GoodIn wsX6_digest (wsV RX6 231 RX6 yX6_mix wsX6_mix) := goodIn_app (goodIn_of _ (by decide +kernel)) ggX6_digest_X6_mix
theorem dX6_digest_0 : decode cX6_digest 0 = .ok (.aload_n 0, 1) := by decide +kernel
theorem dX6_digest_1 : decode cX6_digest 1 = .ok (.ldc2_w 229, 3) := by decide +kernel
theorem dX6_digest_4 : decode cX6_digest 4 = .ok (.putfield 226, 3) := by decide +kernel
theorem dX6_digest_7 : decode cX6_digest 7 = .ok (.iconst 0, 1) := by decide +kernel
theorem dX6_digest_8 : decode cX6_digest 8 = .ok (.istore_n 1, 1) := by decide +kernel
theorem dX6_digest_9 : decode cX6_digest 9 = .ok (.iload_n 1, 1) := by decide +kernel
theorem dX6_digest_10 : decode cX6_digest 10 = .ok (.bipush 6, 2) := by decide +kernel
theorem dX6_digest_12 : decode cX6_digest 12 = .ok (.if_icmp .ge 19, 3) := by decide +kernel
theorem dX6_digest_15 : decode cX6_digest 15 = .ok (.aload_n 0, 1) := by decide +kernel
theorem dX6_digest_16 : decode cX6_digest 16 = .ok (.aload_n 0, 1) := by decide +kernel
theorem dX6_digest_17 : decode cX6_digest 17 = .ok (.iload_n 1, 1) := by decide +kernel
theorem dX6_digest_18 : decode cX6_digest 18 = .ok (.invokevirtual 221, 3) := by decide +kernel
theorem dX6_digest_21 : decode cX6_digest 21 = .ok (.i2l, 1) := by decide +kernel
theorem dX6_digest_22 : decode cX6_digest 22 = .ok (.invokevirtual 231, 3) := by decide +kernel
theorem dX6_digest_25 : decode cX6_digest 25 = .ok (.iinc 1 1, 3) := by decide +kernel
theorem dX6_digest_28 : decode cX6_digest 28 = .ok (.goto (-19), 3) := by decide +kernel
theorem dX6_digest_31 : decode cX6_digest 31 = .ok (.iconst 0, 1) := by decide +kernel
theorem dX6_digest_32 : decode cX6_digest 32 = .ok (.istore_n 1, 1) := by decide +kernel
theorem dX6_digest_33 : decode cX6_digest 33 = .ok (.iload_n 1, 1) := by decide +kernel
theorem dX6_digest_34 : decode cX6_digest 34 = .ok (.aload_n 0, 1) := by decide +kernel
theorem dX6_digest_35 : decode cX6_digest 35 = .ok (.getfield 7, 3) := by decide +kernel
theorem dX6_digest_38 : decode cX6_digest 38 = .ok (.iconst 0, 1) := by decide +kernel
theorem dX6_digest_39 : decode cX6_digest 39 = .ok (.iaload, 1) := by decide +kernel
theorem dX6_digest_40 : decode cX6_digest 40 = .ok (.if_icmp .ge 36, 3) := by decide +kernel
theorem dX6_digest_43 : decode cX6_digest 43 = .ok (.aload_n 0, 1) := by decide +kernel
theorem dX6_digest_44 : decode cX6_digest 44 = .ok (.aload_n 0, 1) := by decide +kernel
theorem dX6_digest_45 : decode cX6_digest 45 = .ok (.getfield 7, 3) := by decide +kernel
theorem dX6_digest_48 : decode cX6_digest 48 = .ok (.iconst 5, 1) := by decide +kernel
theorem dX6_digest_49 : decode cX6_digest 49 = .ok (.iload_n 1, 1) := by decide +kernel
theorem dX6_digest_50 : decode cX6_digest 50 = .ok (.iadd, 1) := by decide +kernel
theorem dX6_digest_51 : decode cX6_digest 51 = .ok (.iaload, 1) := by decide +kernel
theorem dX6_digest_52 : decode cX6_digest 52 = .ok (.i2l, 1) := by decide +kernel
theorem dX6_digest_53 : decode cX6_digest 53 = .ok (.invokevirtual 231, 3) := by decide +kernel
theorem dX6_digest_56 : decode cX6_digest 56 = .ok (.aload_n 0, 1) := by decide +kernel
theorem dX6_digest_57 : decode cX6_digest 57 = .ok (.aload_n 0, 1) := by decide +kernel
theorem dX6_digest_58 : decode cX6_digest 58 = .ok (.getfield 7, 3) := by decide +kernel
theorem dX6_digest_61 : decode cX6_digest 61 = .ok (.bipush 9, 2) := by decide +kernel
theorem dX6_digest_63 : decode cX6_digest 63 = .ok (.iload_n 1, 1) := by decide +kernel
theorem dX6_digest_64 : decode cX6_digest 64 = .ok (.iadd, 1) := by decide +kernel
theorem dX6_digest_65 : decode cX6_digest 65 = .ok (.iaload, 1) := by decide +kernel
theorem dX6_digest_66 : decode cX6_digest 66 = .ok (.i2l, 1) := by decide +kernel
theorem dX6_digest_67 : decode cX6_digest 67 = .ok (.invokevirtual 231, 3) := by decide +kernel
theorem dX6_digest_70 : decode cX6_digest 70 = .ok (.iinc 1 1, 3) := by decide +kernel
theorem dX6_digest_73 : decode cX6_digest 73 = .ok (.goto (-40), 3) := by decide +kernel
theorem dX6_digest_76 : decode cX6_digest 76 = .ok (.iconst 0, 1) := by decide +kernel
theorem dX6_digest_77 : decode cX6_digest 77 = .ok (.istore_n 1, 1) := by decide +kernel
theorem dX6_digest_78 : decode cX6_digest 78 = .ok (.iload_n 1, 1) := by decide +kernel
theorem dX6_digest_79 : decode cX6_digest 79 = .ok (.iconst 2, 1) := by decide +kernel
theorem dX6_digest_80 : decode cX6_digest 80 = .ok (.if_icmp .ge 37, 3) := by decide +kernel
theorem dX6_digest_83 : decode cX6_digest 83 = .ok (.aload_n 0, 1) := by decide +kernel
theorem dX6_digest_84 : decode cX6_digest 84 = .ok (.aload_n 0, 1) := by decide +kernel
theorem dX6_digest_85 : decode cX6_digest 85 = .ok (.getfield 7, 3) := by decide +kernel
theorem dX6_digest_88 : decode cX6_digest 88 = .ok (.bipush 13, 2) := by decide +kernel
theorem dX6_digest_90 : decode cX6_digest 90 = .ok (.iload_n 1, 1) := by decide +kernel
theorem dX6_digest_91 : decode cX6_digest 91 = .ok (.iadd, 1) := by decide +kernel
theorem dX6_digest_92 : decode cX6_digest 92 = .ok (.iaload, 1) := by decide +kernel
theorem dX6_digest_93 : decode cX6_digest 93 = .ok (.i2l, 1) := by decide +kernel
theorem dX6_digest_94 : decode cX6_digest 94 = .ok (.invokevirtual 231, 3) := by decide +kernel
theorem dX6_digest_97 : decode cX6_digest 97 = .ok (.aload_n 0, 1) := by decide +kernel
theorem dX6_digest_98 : decode cX6_digest 98 = .ok (.aload_n 0, 1) := by decide +kernel
theorem dX6_digest_99 : decode cX6_digest 99 = .ok (.getfield 7, 3) := by decide +kernel
theorem dX6_digest_102 : decode cX6_digest 102 = .ok (.bipush 15, 2) := by decide +kernel
theorem dX6_digest_104 : decode cX6_digest 104 = .ok (.iload_n 1, 1) := by decide +kernel
theorem dX6_digest_105 : decode cX6_digest 105 = .ok (.iadd, 1) := by decide +kernel
theorem dX6_digest_106 : decode cX6_digest 106 = .ok (.iaload, 1) := by decide +kernel
theorem dX6_digest_107 : decode cX6_digest 107 = .ok (.i2l, 1) := by decide +kernel
theorem dX6_digest_108 : decode cX6_digest 108 = .ok (.invokevirtual 231, 3) := by decide +kernel
theorem dX6_digest_111 : decode cX6_digest 111 = .ok (.iinc 1 1, 3) := by decide +kernel
theorem dX6_digest_114 : decode cX6_digest 114 = .ok (.goto (-36), 3) := by decide +kernel
theorem dX6_digest_117 : decode cX6_digest 117 = .ok (.iconst 0, 1) := by decide +kernel
theorem dX6_digest_118 : decode cX6_digest 118 = .ok (.istore_n 1, 1) := by decide +kernel
theorem dX6_digest_119 : decode cX6_digest 119 = .ok (.iload_n 1, 1) := by decide +kernel
theorem dX6_digest_120 : decode cX6_digest 120 = .ok (.iconst 4, 1) := by decide +kernel
theorem dX6_digest_121 : decode cX6_digest 121 = .ok (.aload_n 0, 1) := by decide +kernel
theorem dX6_digest_122 : decode cX6_digest 122 = .ok (.getfield 7, 3) := by decide +kernel
theorem dX6_digest_125 : decode cX6_digest 125 = .ok (.iconst 3, 1) := by decide +kernel
theorem dX6_digest_126 : decode cX6_digest 126 = .ok (.iaload, 1) := by decide +kernel
theorem dX6_digest_127 : decode cX6_digest 127 = .ok (.imul, 1) := by decide +kernel
theorem dX6_digest_128 : decode cX6_digest 128 = .ok (.if_icmp .ge 23, 3) := by decide +kernel
theorem dX6_digest_131 : decode cX6_digest 131 = .ok (.aload_n 0, 1) := by decide +kernel
theorem dX6_digest_132 : decode cX6_digest 132 = .ok (.aload_n 0, 1) := by decide +kernel
theorem dX6_digest_133 : decode cX6_digest 133 = .ok (.getfield 7, 3) := by decide +kernel
theorem dX6_digest_136 : decode cX6_digest 136 = .ok (.bipush 17, 2) := by decide +kernel
theorem dX6_digest_138 : decode cX6_digest 138 = .ok (.iload_n 1, 1) := by decide +kernel
theorem dX6_digest_139 : decode cX6_digest 139 = .ok (.iadd, 1) := by decide +kernel
theorem dX6_digest_140 : decode cX6_digest 140 = .ok (.iaload, 1) := by decide +kernel
theorem dX6_digest_141 : decode cX6_digest 141 = .ok (.i2l, 1) := by decide +kernel
theorem dX6_digest_142 : decode cX6_digest 142 = .ok (.invokevirtual 231, 3) := by decide +kernel
theorem dX6_digest_145 : decode cX6_digest 145 = .ok (.iinc 1 1, 3) := by decide +kernel
theorem dX6_digest_148 : decode cX6_digest 148 = .ok (.goto (-29), 3) := by decide +kernel
theorem dX6_digest_151 : decode cX6_digest 151 = .ok (.aload_n 0, 1) := by decide +kernel
theorem dX6_digest_152 : decode cX6_digest 152 = .ok (.aload_n 0, 1) := by decide +kernel
theorem dX6_digest_153 : decode cX6_digest 153 = .ok (.getfield 176, 3) := by decide +kernel
theorem dX6_digest_156 : decode cX6_digest 156 = .ok (.invokevirtual 231, 3) := by decide +kernel
theorem dX6_digest_159 : decode cX6_digest 159 = .ok (.aload_n 0, 1) := by decide +kernel
theorem dX6_digest_160 : decode cX6_digest 160 = .ok (.aload_n 0, 1) := by decide +kernel
theorem dX6_digest_161 : decode cX6_digest 161 = .ok (.getfield 23, 3) := by decide +kernel
theorem dX6_digest_164 : decode cX6_digest 164 = .ok (.invokevirtual 231, 3) := by decide +kernel
theorem dX6_digest_167 : decode cX6_digest 167 = .ok (.aload_n 0, 1) := by decide +kernel
theorem dX6_digest_168 : decode cX6_digest 168 = .ok (.getfield 226, 3) := by decide +kernel
theorem dX6_digest_171 : decode cX6_digest 171 = .ok (.lreturn, 1) := by decide +kernel
theorem dJ6_bitCount_0f7a4_0 : decode cJ6_bitCount_0f7a4 0 = .ok (.iload_n 0, 1) := by decide +kernel
theorem dJ6_bitCount_0f7a4_1 : decode cJ6_bitCount_0f7a4 1 = .ok (.iload_n 0, 1) := by decide +kernel
theorem dJ6_bitCount_0f7a4_2 : decode cJ6_bitCount_0f7a4 2 = .ok (.iconst 1, 1) := by decide +kernel
theorem dJ6_bitCount_0f7a4_3 : decode cJ6_bitCount_0f7a4 3 = .ok (.iushr, 1) := by decide +kernel
theorem dJ6_bitCount_0f7a4_4 : decode cJ6_bitCount_0f7a4 4 = .ok (.ldc_w 265, 3) := by decide +kernel
theorem dJ6_bitCount_0f7a4_7 : decode cJ6_bitCount_0f7a4 7 = .ok (.iand, 1) := by decide +kernel
theorem dJ6_bitCount_0f7a4_8 : decode cJ6_bitCount_0f7a4 8 = .ok (.isub, 1) := by decide +kernel
theorem dJ6_bitCount_0f7a4_9 : decode cJ6_bitCount_0f7a4 9 = .ok (.istore_n 0, 1) := by decide +kernel
theorem dJ6_bitCount_0f7a4_10 : decode cJ6_bitCount_0f7a4 10 = .ok (.iload_n 0, 1) := by decide +kernel
theorem dJ6_bitCount_0f7a4_11 : decode cJ6_bitCount_0f7a4 11 = .ok (.ldc_w 266, 3) := by decide +kernel
theorem dJ6_bitCount_0f7a4_14 : decode cJ6_bitCount_0f7a4 14 = .ok (.iand, 1) := by decide +kernel
theorem dJ6_bitCount_0f7a4_15 : decode cJ6_bitCount_0f7a4 15 = .ok (.iload_n 0, 1) := by decide +kernel
theorem dJ6_bitCount_0f7a4_16 : decode cJ6_bitCount_0f7a4 16 = .ok (.iconst 2, 1) := by decide +kernel
theorem dJ6_bitCount_0f7a4_17 : decode cJ6_bitCount_0f7a4 17 = .ok (.iushr, 1) := by decide +kernel
theorem dJ6_bitCount_0f7a4_18 : decode cJ6_bitCount_0f7a4 18 = .ok (.ldc_w 266, 3) := by decide +kernel
theorem dJ6_bitCount_0f7a4_21 : decode cJ6_bitCount_0f7a4 21 = .ok (.iand, 1) := by decide +kernel
theorem dJ6_bitCount_0f7a4_22 : decode cJ6_bitCount_0f7a4 22 = .ok (.iadd, 1) := by decide +kernel
theorem dJ6_bitCount_0f7a4_23 : decode cJ6_bitCount_0f7a4 23 = .ok (.istore_n 0, 1) := by decide +kernel
theorem dJ6_bitCount_0f7a4_24 : decode cJ6_bitCount_0f7a4 24 = .ok (.iload_n 0, 1) := by decide +kernel
theorem dJ6_bitCount_0f7a4_25 : decode cJ6_bitCount_0f7a4 25 = .ok (.iload_n 0, 1) := by decide +kernel
theorem dJ6_bitCount_0f7a4_26 : decode cJ6_bitCount_0f7a4 26 = .ok (.iconst 4, 1) := by decide +kernel
theorem dJ6_bitCount_0f7a4_27 : decode cJ6_bitCount_0f7a4 27 = .ok (.iushr, 1) := by decide +kernel
theorem dJ6_bitCount_0f7a4_28 : decode cJ6_bitCount_0f7a4 28 = .ok (.iadd, 1) := by decide +kernel
theorem dJ6_bitCount_0f7a4_29 : decode cJ6_bitCount_0f7a4 29 = .ok (.ldc_w 267, 3) := by decide +kernel
theorem dJ6_bitCount_0f7a4_32 : decode cJ6_bitCount_0f7a4 32 = .ok (.iand, 1) := by decide +kernel
theorem dJ6_bitCount_0f7a4_33 : decode cJ6_bitCount_0f7a4 33 = .ok (.istore_n 0, 1) := by decide +kernel
theorem dJ6_bitCount_0f7a4_34 : decode cJ6_bitCount_0f7a4 34 = .ok (.iload_n 0, 1) := by decide +kernel
theorem dJ6_bitCount_0f7a4_35 : decode cJ6_bitCount_0f7a4 35 = .ok (.iload_n 0, 1) := by decide +kernel
theorem dJ6_bitCount_0f7a4_36 : decode cJ6_bitCount_0f7a4 36 = .ok (.bipush 8, 2) := by decide +kernel
theorem dJ6_bitCount_0f7a4_38 : decode cJ6_bitCount_0f7a4 38 = .ok (.iushr, 1) := by decide +kernel
theorem dJ6_bitCount_0f7a4_39 : decode cJ6_bitCount_0f7a4 39 = .ok (.iadd, 1) := by decide +kernel
theorem dJ6_bitCount_0f7a4_40 : decode cJ6_bitCount_0f7a4 40 = .ok (.istore_n 0, 1) := by decide +kernel
theorem dJ6_bitCount_0f7a4_41 : decode cJ6_bitCount_0f7a4 41 = .ok (.iload_n 0, 1) := by decide +kernel
theorem dJ6_bitCount_0f7a4_42 : decode cJ6_bitCount_0f7a4 42 = .ok (.iload_n 0, 1) := by decide +kernel
theorem dJ6_bitCount_0f7a4_43 : decode cJ6_bitCount_0f7a4 43 = .ok (.bipush 16, 2) := by decide +kernel
theorem dJ6_bitCount_0f7a4_45 : decode cJ6_bitCount_0f7a4 45 = .ok (.iushr, 1) := by decide +kernel
theorem dJ6_bitCount_0f7a4_46 : decode cJ6_bitCount_0f7a4 46 = .ok (.iadd, 1) := by decide +kernel
theorem dJ6_bitCount_0f7a4_47 : decode cJ6_bitCount_0f7a4 47 = .ok (.istore_n 0, 1) := by decide +kernel
theorem dJ6_bitCount_0f7a4_48 : decode cJ6_bitCount_0f7a4 48 = .ok (.iload_n 0, 1) := by decide +kernel
theorem dJ6_bitCount_0f7a4_49 : decode cJ6_bitCount_0f7a4 49 = .ok (.bipush 63, 2) := by decide +kernel
theorem dJ6_bitCount_0f7a4_51 : decode cJ6_bitCount_0f7a4 51 = .ok (.iand, 1) := by decide +kernel
theorem dJ6_bitCount_0f7a4_52 : decode cJ6_bitCount_0f7a4 52 = .ok (.ireturn, 1) := by decide +kernel
theorem dJ9_abs_0f7a4_0 : decode cJ9_abs_0f7a4 0 = .ok (.iload_n 0, 1) := by decide +kernel
theorem dJ9_abs_0f7a4_1 : decode cJ9_abs_0f7a4 1 = .ok (.ifCond .ge 8, 3) := by decide +kernel
theorem dJ9_abs_0f7a4_4 : decode cJ9_abs_0f7a4 4 = .ok (.iload_n 0, 1) := by decide +kernel
theorem dJ9_abs_0f7a4_5 : decode cJ9_abs_0f7a4 5 = .ok (.ineg, 1) := by decide +kernel
theorem dJ9_abs_0f7a4_6 : decode cJ9_abs_0f7a4 6 = .ok (.goto 4, 3) := by decide +kernel
theorem dJ9_abs_0f7a4_9 : decode cJ9_abs_0f7a4 9 = .ok (.iload_n 0, 1) := by decide +kernel
theorem dJ9_abs_0f7a4_10 : decode cJ9_abs_0f7a4 10 = .ok (.ireturn, 1) := by decide +kernel
theorem dJ9_max_7cf53_0 : decode cJ9_max_7cf53 0 = .ok (.iload_n 0, 1) := by decide +kernel
theorem dJ9_max_7cf53_1 : decode cJ9_max_7cf53 1 = .ok (.iload_n 1, 1) := by decide +kernel
theorem dJ9_max_7cf53_2 : decode cJ9_max_7cf53 2 = .ok (.if_icmp .lt 7, 3) := by decide +kernel
theorem dJ9_max_7cf53_5 : decode cJ9_max_7cf53 5 = .ok (.iload_n 0, 1) := by decide +kernel
theorem dJ9_max_7cf53_6 : decode cJ9_max_7cf53 6 = .ok (.goto 4, 3) := by decide +kernel
theorem dJ9_max_7cf53_9 : decode cJ9_max_7cf53 9 = .ok (.iload_n 1, 1) := by decide +kernel
theorem dJ9_max_7cf53_10 : decode cJ9_max_7cf53 10 = .ok (.ireturn, 1) := by decide +kernel
theorem dJ9_min_7cf53_0 : decode cJ9_min_7cf53 0 = .ok (.iload_n 0, 1) := by decide +kernel
theorem dJ9_min_7cf53_1 : decode cJ9_min_7cf53 1 = .ok (.iload_n 1, 1) := by decide +kernel
theorem dJ9_min_7cf53_2 : decode cJ9_min_7cf53 2 = .ok (.if_icmp .gt 7, 3) := by decide +kernel
theorem dJ9_min_7cf53_5 : decode cJ9_min_7cf53 5 = .ok (.iload_n 0, 1) := by decide +kernel
theorem dJ9_min_7cf53_6 : decode cJ9_min_7cf53 6 = .ok (.goto 4, 3) := by decide +kernel
theorem dJ9_min_7cf53_9 : decode cJ9_min_7cf53 9 = .ok (.iload_n 1, 1) := by decide +kernel
theorem dJ9_min_7cf53_10 : decode cJ9_min_7cf53 10 = .ok (.ireturn, 1) := by decide +kernel
set_option maxRecDepth 20000 in
theorem ggJ0_length_8abf5_J0_coder_7d493 : GoodIn wsJ0_length_8abf5 wsJ0_coder_7d493 := goodIn_r _ [6, 7, 8] (by decide +kernel) (by decide +kernel)
set_option maxRecDepth 20000 in
theorem gJ0_length_8abf5_J0_coder_7d493 : GoodIn wsJ0_length_8abf5 (wsV RJ0 335 RJ0 yJ0_coder_7d493 wsJ0_coder_7d493) := goodIn_app (goodIn_of _ (by decide +kernel)) ggJ0_length_8abf5_J0_coder_7d493
theorem dJ0_length_8abf5_0 : decode cJ0_length_8abf5 0 = .ok (.aload_n 0, 1) := by decide +kernel
theorem dJ0_length_8abf5_1 : decode cJ0_length_8abf5 1 = .ok (.getfield 9, 3) := by decide +kernel
theorem dJ0_length_8abf5_4 : decode cJ0_length_8abf5 4 = .ok (.arraylength, 1) := by decide +kernel
theorem dJ0_length_8abf5_5 : decode cJ0_length_8abf5 5 = .ok (.aload_n 0, 1) := by decide +kernel
theorem dJ0_length_8abf5_6 : decode cJ0_length_8abf5 6 = .ok (.invokevirtual 335, 3) := by decide +kernel
theorem dJ0_length_8abf5_9 : decode cJ0_length_8abf5 9 = .ok (.ishr, 1) := by decide +kernel
theorem dJ0_length_8abf5_10 : decode cJ0_length_8abf5 10 = .ok (.ireturn, 1) := by decide +kernel
set_option maxRecDepth 20000 in
theorem ggJ0_charAt_5068e_J0_isLatin1_aae02 : GoodIn wsJ0_charAt_5068e wsJ0_isLatin1_aae02 := goodIn_r _ [6, 7, 8] (by decide +kernel) (by decide +kernel)
set_option maxRecDepth 20000 in
theorem gJ0_charAt_5068e_J0_isLatin1_aae02 : GoodIn wsJ0_charAt_5068e (wsV RJ0 492 RJ0 yJ0_isLatin1_aae02 wsJ0_isLatin1_aae02) := goodIn_app (goodIn_of _ (by decide +kernel)) ggJ0_charAt_5068e_J0_isLatin1_aae02
set_option maxRecDepth 20000 in
theorem ggJ0_charAt_5068e_J1_charAt_3b067 : GoodIn wsJ0_charAt_5068e wsJ1_charAt_3b067 := goodIn_r _ [12, 13, 14, 5, 15, 16, 17, 18, 19, 20] (by decide +kernel) (by decide +kernel)
set_option maxRecDepth 20000 in
theorem gJ0_charAt_5068e_J1_charAt_3b067 : GoodIn wsJ0_charAt_5068e (va_wsS RJ0 495 yJ1_charAt_3b067 wsJ1_charAt_3b067) := goodIn_app (goodIn_of _ (by decide +kernel)) ggJ0_charAt_5068e_J1_charAt_3b067
set_option maxRecDepth 20000 in
theorem ggJ0_charAt_5068e_J2_charAt_3b067 : GoodIn wsJ0_charAt_5068e wsJ2_charAt_3b067 := goodIn_r _ [24, 25, 26, 23, 27, 28, 29, 30, 31, 14, 5, 15, 16, 17, 18, 19, 20, 32, 33, 34, 35, 36, 37] (by decide +kernel) (by decide +kernel)
set_option maxRecDepth 20000 in
theorem gJ0_charAt_5068e_J2_charAt_3b067 : GoodIn wsJ0_charAt_5068e (va_wsS RJ0 498 yJ2_charAt_3b067 wsJ2_charAt_3b067) := goodIn_app (goodIn_of _ (by decide +kernel)) ggJ0_charAt_5068e_J2_charAt_3b067
theorem dJ0_charAt_5068e_0 : decode cJ0_charAt_5068e 0 = .ok (.aload_n 0, 1) := by decide +kernel
theorem dJ0_charAt_5068e_1 : decode cJ0_charAt_5068e 1 = .ok (.invokevirtual 492, 3) := by decide +kernel
theorem dJ0_charAt_5068e_4 : decode cJ0_charAt_5068e 4 = .ok (.ifCond .eq 12, 3) := by decide +kernel
theorem dJ0_charAt_5068e_7 : decode cJ0_charAt_5068e 7 = .ok (.aload_n 0, 1) := by decide +kernel
theorem dJ0_charAt_5068e_8 : decode cJ0_charAt_5068e 8 = .ok (.getfield 9, 3) := by decide +kernel
theorem dJ0_charAt_5068e_11 : decode cJ0_charAt_5068e 11 = .ok (.iload_n 1, 1) := by decide +kernel
theorem dJ0_charAt_5068e_12 : decode cJ0_charAt_5068e 12 = .ok (.invokestatic 495, 3) := by decide +kernel
theorem dJ0_charAt_5068e_15 : decode cJ0_charAt_5068e 15 = .ok (.ireturn, 1) := by decide +kernel
theorem dJ0_charAt_5068e_16 : decode cJ0_charAt_5068e 16 = .ok (.aload_n 0, 1) := by decide +kernel
theorem dJ0_charAt_5068e_17 : decode cJ0_charAt_5068e 17 = .ok (.getfield 9, 3) := by decide +kernel
theorem dJ0_charAt_5068e_20 : decode cJ0_charAt_5068e 20 = .ok (.iload_n 1, 1) := by decide +kernel
theorem dJ0_charAt_5068e_21 : decode cJ0_charAt_5068e 21 = .ok (.invokestatic 498, 3) := by decide +kernel
theorem dJ0_charAt_5068e_24 : decode cJ0_charAt_5068e 24 = .ok (.ireturn, 1) := by decide +kernel
theorem dJ0_coder_7d493_0 : decode cJ0_coder_7d493 0 = .ok (.getstatic 38, 3) := by decide +kernel
theorem dJ0_coder_7d493_3 : decode cJ0_coder_7d493 3 = .ok (.ifCond .eq 10, 3) := by decide +kernel
theorem dJ0_coder_7d493_6 : decode cJ0_coder_7d493 6 = .ok (.aload_n 0, 1) := by decide +kernel
theorem dJ0_coder_7d493_7 : decode cJ0_coder_7d493 7 = .ok (.getfield 15, 3) := by decide +kernel
theorem dJ0_coder_7d493_10 : decode cJ0_coder_7d493 10 = .ok (.goto 4, 3) := by decide +kernel
theorem dJ0_coder_7d493_13 : decode cJ0_coder_7d493 13 = .ok (.iconst 1, 1) := by decide +kernel
theorem dJ0_coder_7d493_14 : decode cJ0_coder_7d493 14 = .ok (.ireturn, 1) := by decide +kernel
theorem dJ0_isLatin1_aae02_0 : decode cJ0_isLatin1_aae02 0 = .ok (.getstatic 38, 3) := by decide +kernel
theorem dJ0_isLatin1_aae02_3 : decode cJ0_isLatin1_aae02 3 = .ok (.ifCond .eq 14, 3) := by decide +kernel
theorem dJ0_isLatin1_aae02_6 : decode cJ0_isLatin1_aae02 6 = .ok (.aload_n 0, 1) := by decide +kernel
theorem dJ0_isLatin1_aae02_7 : decode cJ0_isLatin1_aae02 7 = .ok (.getfield 15, 3) := by decide +kernel
theorem dJ0_isLatin1_aae02_10 : decode cJ0_isLatin1_aae02 10 = .ok (.ifCond .ne 7, 3) := by decide +kernel
theorem dJ0_isLatin1_aae02_13 : decode cJ0_isLatin1_aae02 13 = .ok (.iconst 1, 1) := by decide +kernel
theorem dJ0_isLatin1_aae02_14 : decode cJ0_isLatin1_aae02 14 = .ok (.goto 4, 3) := by decide +kernel
theorem dJ0_isLatin1_aae02_17 : decode cJ0_isLatin1_aae02 17 = .ok (.iconst 0, 1) := by decide +kernel
theorem dJ0_isLatin1_aae02_18 : decode cJ0_isLatin1_aae02 18 = .ok (.ireturn, 1) := by decide +kernel
set_option maxRecDepth 20000 in
theorem ggJ0_checkIndex_df160_J3_checkIndex_8e157 : GoodIn wsJ0_checkIndex_df160 wsJ3_checkIndex_8e157 := goodIn_r _ [5] (by decide +kernel) (by decide +kernel)
set_option maxRecDepth 20000 in
theorem gJ0_checkIndex_df160_J3_checkIndex_8e157 : GoodIn wsJ0_checkIndex_df160 (va_wsS RJ0 1059 yJ3_checkIndex_8e157 wsJ3_checkIndex_8e157) := goodIn_app (goodIn_of _ (by decide +kernel)) ggJ0_checkIndex_df160_J3_checkIndex_8e157
theorem dJ0_checkIndex_df160_0 : decode cJ0_checkIndex_df160 0 = .ok (.iload_n 0, 1) := by decide +kernel
theorem dJ0_checkIndex_df160_1 : decode cJ0_checkIndex_df160 1 = .ok (.iload_n 1, 1) := by decide +kernel
theorem dJ0_checkIndex_df160_2 : decode cJ0_checkIndex_df160 2 = .ok (.getstatic 1053, 3) := by decide +kernel
theorem dJ0_checkIndex_df160_5 : decode cJ0_checkIndex_df160 5 = .ok (.invokestatic 1059, 3) := by decide +kernel
theorem dJ0_checkIndex_df160_8 : decode cJ0_checkIndex_df160 8 = .ok (.pop, 1) := by decide +kernel
theorem dJ0_checkIndex_df160_9 : decode cJ0_checkIndex_df160 9 = .ok (.return_, 1) := by decide +kernel
set_option maxRecDepth 20000 in
theorem ggJ1_charAt_3b067_J0_checkIndex_df160 : GoodIn wsJ1_charAt_3b067 wsJ0_checkIndex_df160 := goodIn_r _ [4, 5, 6, 7, 8, 9] (by decide +kernel) (by decide +kernel)
set_option maxRecDepth 20000 in
theorem gJ1_charAt_3b067_J0_checkIndex_df160 : GoodIn wsJ1_charAt_3b067 (va_wsS RJ1 9 yJ0_checkIndex_df160 wsJ0_checkIndex_df160) := goodIn_app (goodIn_of _ (by decide +kernel)) ggJ1_charAt_3b067_J0_checkIndex_df160
theorem dJ1_charAt_3b067_0 : decode cJ1_charAt_3b067 0 = .ok (.iload_n 1, 1) := by decide +kernel
theorem dJ1_charAt_3b067_1 : decode cJ1_charAt_3b067 1 = .ok (.aload_n 0, 1) := by decide +kernel
theorem dJ1_charAt_3b067_2 : decode cJ1_charAt_3b067 2 = .ok (.arraylength, 1) := by decide +kernel
theorem dJ1_charAt_3b067_3 : decode cJ1_charAt_3b067 3 = .ok (.invokestatic 9, 3) := by decide +kernel
theorem dJ1_charAt_3b067_6 : decode cJ1_charAt_3b067 6 = .ok (.aload_n 0, 1) := by decide +kernel
theorem dJ1_charAt_3b067_7 : decode cJ1_charAt_3b067 7 = .ok (.iload_n 1, 1) := by decide +kernel
theorem dJ1_charAt_3b067_8 : decode cJ1_charAt_3b067 8 = .ok (.baload, 1) := by decide +kernel
theorem dJ1_charAt_3b067_9 : decode cJ1_charAt_3b067 9 = .ok (.sipush 255, 3) := by decide +kernel
theorem dJ1_charAt_3b067_12 : decode cJ1_charAt_3b067 12 = .ok (.iand, 1) := by decide +kernel
theorem dJ1_charAt_3b067_13 : decode cJ1_charAt_3b067 13 = .ok (.i2c, 1) := by decide +kernel
theorem dJ1_charAt_3b067_14 : decode cJ1_charAt_3b067 14 = .ok (.ireturn, 1) := by decide +kernel
set_option maxRecDepth 20000 in
theorem ggJ2_getChar_3b067_J2_length_9d52b : GoodIn wsJ2_getChar_3b067 wsJ2_length_9d52b := goodIn_r _ [7] (by decide +kernel) (by decide +kernel)
set_option maxRecDepth 20000 in
theorem gJ2_getChar_3b067_J2_length_9d52b : GoodIn wsJ2_getChar_3b067 (va_wsS RJ2 48 yJ2_length_9d52b wsJ2_length_9d52b) := goodIn_app (goodIn_of _ (by decide +kernel)) ggJ2_getChar_3b067_J2_length_9d52b
theorem dJ2_getChar_3b067_0 : decode cJ2_getChar_3b067 0 = .ok (.getstatic 44, 3) := by decide +kernel
theorem dJ2_getChar_3b067_3 : decode cJ2_getChar_3b067 3 = .ok (.ifCond .ne 25, 3) := by decide +kernel
theorem dJ2_getChar_3b067_6 : decode cJ2_getChar_3b067 6 = .ok (.iload_n 1, 1) := by decide +kernel
theorem dJ2_getChar_3b067_7 : decode cJ2_getChar_3b067 7 = .ok (.ifCond .lt 11, 3) := by decide +kernel
theorem dJ2_getChar_3b067_10 : decode cJ2_getChar_3b067 10 = .ok (.iload_n 1, 1) := by decide +kernel
theorem dJ2_getChar_3b067_11 : decode cJ2_getChar_3b067 11 = .ok (.aload_n 0, 1) := by decide +kernel
theorem dJ2_getChar_3b067_12 : decode cJ2_getChar_3b067 12 = .ok (.invokestatic 48, 3) := by decide +kernel
theorem dJ2_getChar_3b067_15 : decode cJ2_getChar_3b067 15 = .ok (.if_icmp .lt 13, 3) := by decide +kernel
theorem dJ2_getChar_3b067_18 : decode cJ2_getChar_3b067 18 = .ok (.new 52, 3) := by decide +kernel
theorem dJ2_getChar_3b067_21 : decode cJ2_getChar_3b067 21 = .ok (.dup, 1) := by decide +kernel
theorem dJ2_getChar_3b067_22 : decode cJ2_getChar_3b067 22 = .ok (.ldc 54, 2) := by decide +kernel
theorem dJ2_getChar_3b067_24 : decode cJ2_getChar_3b067 24 = .ok (.invokespecial 56, 3) := by decide +kernel
theorem dJ2_getChar_3b067_27 : decode cJ2_getChar_3b067 27 = .ok (.athrow, 1) := by decide +kernel
theorem dJ2_getChar_3b067_28 : decode cJ2_getChar_3b067 28 = .ok (.iload_n 1, 1) := by decide +kernel
theorem dJ2_getChar_3b067_29 : decode cJ2_getChar_3b067 29 = .ok (.iconst 1, 1) := by decide +kernel
theorem dJ2_getChar_3b067_30 : decode cJ2_getChar_3b067 30 = .ok (.ishl, 1) := by decide +kernel
theorem dJ2_getChar_3b067_31 : decode cJ2_getChar_3b067 31 = .ok (.istore_n 1, 1) := by decide +kernel
theorem dJ2_getChar_3b067_32 : decode cJ2_getChar_3b067 32 = .ok (.aload_n 0, 1) := by decide +kernel
theorem dJ2_getChar_3b067_33 : decode cJ2_getChar_3b067 33 = .ok (.iload_n 1, 1) := by decide +kernel
theorem dJ2_getChar_3b067_34 : decode cJ2_getChar_3b067 34 = .ok (.iinc 1 1, 3) := by decide +kernel
theorem dJ2_getChar_3b067_37 : decode cJ2_getChar_3b067 37 = .ok (.baload, 1) := by decide +kernel
theorem dJ2_getChar_3b067_38 : decode cJ2_getChar_3b067 38 = .ok (.sipush 255, 3) := by decide +kernel
theorem dJ2_getChar_3b067_41 : decode cJ2_getChar_3b067 41 = .ok (.iand, 1) := by decide +kernel
theorem dJ2_getChar_3b067_42 : decode cJ2_getChar_3b067 42 = .ok (.getstatic 59, 3) := by decide +kernel
theorem dJ2_getChar_3b067_45 : decode cJ2_getChar_3b067 45 = .ok (.ishl, 1) := by decide +kernel
theorem dJ2_getChar_3b067_46 : decode cJ2_getChar_3b067 46 = .ok (.aload_n 0, 1) := by decide +kernel
theorem dJ2_getChar_3b067_47 : decode cJ2_getChar_3b067 47 = .ok (.iload_n 1, 1) := by decide +kernel
theorem dJ2_getChar_3b067_48 : decode cJ2_getChar_3b067 48 = .ok (.baload, 1) := by decide +kernel
theorem dJ2_getChar_3b067_49 : decode cJ2_getChar_3b067 49 = .ok (.sipush 255, 3) := by decide +kernel
theorem dJ2_getChar_3b067_52 : decode cJ2_getChar_3b067 52 = .ok (.iand, 1) := by decide +kernel
theorem dJ2_getChar_3b067_53 : decode cJ2_getChar_3b067 53 = .ok (.getstatic 63, 3) := by decide +kernel
theorem dJ2_getChar_3b067_56 : decode cJ2_getChar_3b067 56 = .ok (.ishl, 1) := by decide +kernel
theorem dJ2_getChar_3b067_57 : decode cJ2_getChar_3b067 57 = .ok (.ior, 1) := by decide +kernel
theorem dJ2_getChar_3b067_58 : decode cJ2_getChar_3b067 58 = .ok (.i2c, 1) := by decide +kernel
theorem dJ2_getChar_3b067_59 : decode cJ2_getChar_3b067 59 = .ok (.ireturn, 1) := by decide +kernel
theorem dJ2_length_9d52b_0 : decode cJ2_length_9d52b 0 = .ok (.aload_n 0, 1) := by decide +kernel
theorem dJ2_length_9d52b_1 : decode cJ2_length_9d52b 1 = .ok (.arraylength, 1) := by decide +kernel
theorem dJ2_length_9d52b_2 : decode cJ2_length_9d52b 2 = .ok (.iconst 1, 1) := by decide +kernel
theorem dJ2_length_9d52b_3 : decode cJ2_length_9d52b 3 = .ok (.ishr, 1) := by decide +kernel
theorem dJ2_length_9d52b_4 : decode cJ2_length_9d52b 4 = .ok (.ireturn, 1) := by decide +kernel
set_option maxRecDepth 20000 in
theorem ggJ2_charAt_3b067_J2_checkIndex_2214a : GoodIn wsJ2_charAt_3b067 wsJ2_checkIndex_2214a := goodIn_r _ [4, 5, 6, 3, 7, 8, 9, 10, 11, 12, 13, 14, 15, 16] (by decide +kernel) (by decide +kernel)
set_option maxRecDepth 20000 in
theorem gJ2_charAt_3b067_J2_checkIndex_2214a : GoodIn wsJ2_charAt_3b067 (va_wsS RJ2 67 yJ2_checkIndex_2214a wsJ2_checkIndex_2214a) := goodIn_app (goodIn_of _ (by decide +kernel)) ggJ2_charAt_3b067_J2_checkIndex_2214a
set_option maxRecDepth 20000 in
theorem ggJ2_charAt_3b067_J2_getChar_3b067 : GoodIn wsJ2_charAt_3b067 wsJ2_getChar_3b067 := goodIn_r _ [19, 20, 21, 22, 5, 6, 3, 7] (by decide +kernel) (by decide +kernel)
set_option maxRecDepth 20000 in
theorem gJ2_charAt_3b067_J2_getChar_3b067 : GoodIn wsJ2_charAt_3b067 (va_wsS RJ2 71 yJ2_getChar_3b067 wsJ2_getChar_3b067) := goodIn_app (goodIn_of _ (by decide +kernel)) ggJ2_charAt_3b067_J2_getChar_3b067
theorem dJ2_charAt_3b067_0 : decode cJ2_charAt_3b067 0 = .ok (.iload_n 1, 1) := by decide +kernel
theorem dJ2_charAt_3b067_1 : decode cJ2_charAt_3b067 1 = .ok (.aload_n 0, 1) := by decide +kernel
theorem dJ2_charAt_3b067_2 : decode cJ2_charAt_3b067 2 = .ok (.invokestatic 67, 3) := by decide +kernel
theorem dJ2_charAt_3b067_5 : decode cJ2_charAt_3b067 5 = .ok (.aload_n 0, 1) := by decide +kernel
theorem dJ2_charAt_3b067_6 : decode cJ2_charAt_3b067 6 = .ok (.iload_n 1, 1) := by decide +kernel
theorem dJ2_charAt_3b067_7 : decode cJ2_charAt_3b067 7 = .ok (.invokestatic 71, 3) := by decide +kernel
theorem dJ2_charAt_3b067_10 : decode cJ2_charAt_3b067 10 = .ok (.ireturn, 1) := by decide +kernel
set_option maxRecDepth 20000 in
theorem ggJ2_checkIndex_2214a_J2_length_9d52b : GoodIn wsJ2_checkIndex_2214a wsJ2_length_9d52b := goodIn_r _ [4] (by decide +kernel) (by decide +kernel)
set_option maxRecDepth 20000 in
theorem gJ2_checkIndex_2214a_J2_length_9d52b : GoodIn wsJ2_checkIndex_2214a (va_wsS RJ2 48 yJ2_length_9d52b wsJ2_length_9d52b) := goodIn_app (goodIn_of _ (by decide +kernel)) ggJ2_checkIndex_2214a_J2_length_9d52b
set_option maxRecDepth 20000 in
theorem ggJ2_checkIndex_2214a_J0_checkIndex_df160 : GoodIn wsJ2_checkIndex_2214a wsJ0_checkIndex_df160 := goodIn_r _ [8, 9, 10, 11, 12, 13] (by decide +kernel) (by decide +kernel)
set_option maxRecDepth 20000 in
theorem gJ2_checkIndex_2214a_J0_checkIndex_df160 : GoodIn wsJ2_checkIndex_2214a (va_wsS RJ2 414 yJ0_checkIndex_df160 wsJ0_checkIndex_df160) := goodIn_app (goodIn_of _ (by decide +kernel)) ggJ2_checkIndex_2214a_J0_checkIndex_df160
theorem dJ2_checkIndex_2214a_0 : decode cJ2_checkIndex_2214a 0 = .ok (.iload_n 0, 1) := by decide +kernel
theorem dJ2_checkIndex_2214a_1 : decode cJ2_checkIndex_2214a 1 = .ok (.aload_n 1, 1) := by decide +kernel
theorem dJ2_checkIndex_2214a_2 : decode cJ2_checkIndex_2214a 2 = .ok (.invokestatic 48, 3) := by decide +kernel
theorem dJ2_checkIndex_2214a_5 : decode cJ2_checkIndex_2214a 5 = .ok (.invokestatic 414, 3) := by decide +kernel
theorem dJ2_checkIndex_2214a_8 : decode cJ2_checkIndex_2214a 8 = .ok (.return_, 1) := by decide +kernel
theorem dJ3_checkIndex_8e157_0 : decode cJ3_checkIndex_8e157 0 = .ok (.iload_n 0, 1) := by decide +kernel
theorem dJ3_checkIndex_8e157_1 : decode cJ3_checkIndex_8e157 1 = .ok (.ifCond .lt 8, 3) := by decide +kernel
theorem dJ3_checkIndex_8e157_4 : decode cJ3_checkIndex_8e157 4 = .ok (.iload_n 0, 1) := by decide +kernel
theorem dJ3_checkIndex_8e157_5 : decode cJ3_checkIndex_8e157 5 = .ok (.iload_n 1, 1) := by decide +kernel
theorem dJ3_checkIndex_8e157_6 : decode cJ3_checkIndex_8e157 6 = .ok (.if_icmp .lt 10, 3) := by decide +kernel
theorem dJ3_checkIndex_8e157_9 : decode cJ3_checkIndex_8e157 9 = .ok (.aload_n 2, 1) := by decide +kernel
theorem dJ3_checkIndex_8e157_10 : decode cJ3_checkIndex_8e157 10 = .ok (.iload_n 0, 1) := by decide +kernel
theorem dJ3_checkIndex_8e157_11 : decode cJ3_checkIndex_8e157 11 = .ok (.iload_n 1, 1) := by decide +kernel
theorem dJ3_checkIndex_8e157_12 : decode cJ3_checkIndex_8e157 12 = .ok (.invokestatic 95, 3) := by decide +kernel
theorem dJ3_checkIndex_8e157_15 : decode cJ3_checkIndex_8e157 15 = .ok (.athrow, 1) := by decide +kernel
theorem dJ3_checkIndex_8e157_16 : decode cJ3_checkIndex_8e157 16 = .ok (.iload_n 0, 1) := by decide +kernel
theorem dJ3_checkIndex_8e157_17 : decode cJ3_checkIndex_8e157 17 = .ok (.ireturn, 1) := by decide +kernel
abbrev vwCl : List vw_C := [(RX0, TX0, 2), (RX1, TX1, 14), (RX3, TX3, 6), (RX4, TX4, 1), (RX5, TX5, 8), (RX6, TX6, 15)]
end
section
/-! ints and longs as whole numbers -/
def zI (z : Int) : Int32 := Int32.ofInt z
def zL (z : Int) : Int64 := Int64.ofInt z
abbrev rI (z : Int) : Prop := -2147483648 ≤ z ∧ z < 2147483648
theorem zI_toInt {z : Int} (h : rI z) : (zI z).toInt = z := Int32.toInt_ofInt_of_le (by have := h.1; omega) (by have := h.2; omega)
theorem zI_of (x : Int32) : zI x.toInt = x := Int32.ofInt_toInt x
theorem zI_rng (x : Int32) : rI x.toInt := ⟨by have := Int32.le_toInt x; omega, by have := Int32.toInt_lt x; omega⟩
theorem zI_ex (x : Int32) : ∃ z : Int, rI z ∧ x = zI z := ⟨x.toInt, zI_rng x, (zI_of x).symm⟩
theorem zI_add (a b : Int) : zI a + zI b = zI (a + b) := (Int32.ofInt_add a b).symm
theorem zI_sub (a b : Int) : zI a - zI b = zI (a - b) := (Int32.ofInt_sub a b).symm
theorem zI_mul (a b : Int) : zI a * zI b = zI (a * b) := (Int32.ofInt_mul a b).symm
theorem zI_neg (a : Int) : -zI a = zI (-a) := (Int32.ofInt_neg a).symm
theorem zI_eq {a b : Int} (ha : rI a) (hb : rI b) : zI a = zI b ↔ a = b := ⟨fun h => by rw [← zI_toInt ha, ← zI_toInt hb, h], fun h => by rw [h]⟩
theorem zI_le {a b : Int} (ha : rI a) (hb : rI b) : zI a ≤ zI b ↔ a ≤ b := by rw [Int32.le_iff_toInt_le, zI_toInt ha, zI_toInt hb]
theorem zI_lt {a b : Int} (ha : rI a) (hb : rI b) : zI a < zI b ↔ a < b := by rw [Int32.lt_iff_toInt_lt, zI_toInt ha, zI_toInt hb]
theorem zI_0 : zI 0 = 0 := rfl
theorem zI_1 : zI 1 = 1 := rfl
theorem zI_clamp {z : Int} (h : 0 ≤ z ∧ z < 2147483648) : (zI z).toNatClampNeg = z.toNat := by
  show (zI z).toInt.toNat = z.toNat
  rw [zI_toInt ⟨by omega, h.2⟩]
theorem zI_nat (n : Nat) : nI n = zI n := by
  show Int32.ofNat n = Int32.ofInt (n : Int)
  rw [Int32.ofInt_eq_ofNat]
theorem zI_in {z : Int} {n : Nat} (h : 0 ≤ z ∧ z < n) (hn : n < 2147483648) : vp_in (zI z) n := by
  rw [vp_in_iff, zI_toInt ⟨by omega, by omega⟩]
  exact h
theorem zI_rem {a b : Int} (ha : 0 ≤ a ∧ a < 2147483648) (hb : 0 < b ∧ b < 2147483648) : zI a - zI a / zI b * zI b = zI (a % b) := by
  obtain ⟨n, rfl⟩ := Int.eq_ofNat_of_zero_le ha.1
  obtain ⟨k, rfl⟩ := Int.eq_ofNat_of_zero_le (Int.le_of_lt hb.1)
  rw [← zI_nat, ← zI_nat, pk_rem (by omega) (by omega) (by omega), zI_nat]
  rfl
theorem zI_nz {b : Int} (hb : rI b) (h : b ≠ 0) : ¬ zI b = 0 := fun e => h ((zI_eq hb (by decide)).mp e)
theorem zL_add (a b : Int) : zL a + zL b = zL (a + b) := (Int64.ofInt_add a b).symm
theorem zL_sub (a b : Int) : zL a - zL b = zL (a - b) := (Int64.ofInt_sub a b).symm
theorem zL_mul (a b : Int) : zL a * zL b = zL (a * b) := (Int64.ofInt_mul a b).symm
abbrev rL (z : Int) : Prop := -9223372036854775808 ≤ z ∧ z < 9223372036854775808
theorem zL_toInt {z : Int} (h : rL z) : (zL z).toInt = z := Int64.toInt_ofInt_of_le (by have := h.1; omega) (by have := h.2; omega)
theorem zL_eq {a b : Int} (ha : rL a) (hb : rL b) : zL a = zL b ↔ a = b := ⟨fun h => by rw [← zL_toInt ha, ← zL_toInt hb, h], fun h => by rw [h]⟩
theorem zL_lt {a b : Int} (ha : rL a) (hb : rL b) : zL a < zL b ↔ a < b := by rw [Int64.lt_iff_toInt_lt, zL_toInt ha, zL_toInt hb]
theorem zL_nat (n : Nat) : lN n = zL n := by
  show Int64.ofNat n = Int64.ofInt (n : Int)
  rw [Int64.ofInt_eq_ofNat]
theorem zL_div {a b : Int} (ha : 0 ≤ a ∧ a < 9223372036854775808) (hb : 0 < b ∧ b < 9223372036854775808) : zL a / zL b = zL (a / b) := by
  obtain ⟨n, rfl⟩ := Int.eq_ofNat_of_zero_le ha.1
  obtain ⟨k, rfl⟩ := Int.eq_ofNat_of_zero_le (Int.le_of_lt hb.1)
  rw [← zL_nat, ← zL_nat, pk_lDiv (by omega) (by omega) (by omega), zL_nat]
  rfl
theorem zL_rem {a b : Int} (ha : 0 ≤ a ∧ a < 9223372036854775808) (hb : 0 < b ∧ b < 9223372036854775808) : zL a - zL a / zL b * zL b = zL (a % b) := by
  obtain ⟨n, rfl⟩ := Int.eq_ofNat_of_zero_le ha.1
  obtain ⟨k, rfl⟩ := Int.eq_ofNat_of_zero_le (Int.le_of_lt hb.1)
  rw [← zL_nat, ← zL_nat, pk_lRem (by omega) (by omega) (by omega), zL_nat]
  rfl
theorem zL_nz {b : Int} (hb : rL b) (h : b ≠ 0) : ¬ zL b = 0 := fun e => h ((zL_eq hb (by decide)).mp e)
theorem zI_l {a : Int} (ha : rI a) : (zI a).toInt64 = zL a := by
  show (zI a).toInt64 = zL a
  have h := Int64.ofInt_toInt (zI a).toInt64
  rw [Int32.toInt_toInt64, zI_toInt ha] at h
  exact h.symm
theorem zL_i {a : Int} : (zL a).toInt32 = zI a := by
  unfold zL zI
  exact Int64.toInt32_ofInt ..
def bz (P : Prop) [Decidable P] : Int := if P then 1 else 0
theorem bz_t {P : Prop} [Decidable P] (h : P) : bz P = 1 := if_pos h
theorem bz_f {P : Prop} [Decidable P] (h : ¬ P) : bz P = 0 := if_neg h
theorem bz_r {P : Prop} [Decidable P] : 0 ≤ bz P ∧ bz P ≤ 1 := by unfold bz; split <;> decide
theorem bz_c {P Q : Prop} [Decidable P] [Decidable Q] (h : P ↔ Q) : bz P = bz Q := by unfold bz; simp only [h]
theorem bz_nar {P : Prop} [Decidable P] : narrow .boolean (.int (zI (bz P))) = .int (zI (bz P)) := by unfold bz; split <;> rfl
theorem zI_nar0 : narrow .boolean (.int (zI 0)) = .int (zI 0) := rfl
theorem zI_nar1 : narrow .boolean (.int (zI 1)) = .int (zI 1) := rfl
section QW
variable {p : Program} {l : Launch} {e : Env} {R : Room} {s : State} {m : MethodId} {args : Array Value} {below : List Frame} {meth : Method} {c : Code} {H : Heap} {locs : List Loc} {cells slots : Nat} {Q : State → Prop} {cc : ByteArray} {pc : Nat} {ls : Array Slot} {rest : List Value}
theorem q_iconst (hx : p.tables.exec = Jvm.exec) (hb : c.code = cc) {n : Int} (hd : decode cc pc = .ok (.iconst n, 1)) (k : W p l e R s m args below meth c H locs cells slots Q (F0 m (pc + 1) ls (.int (zI n) :: rest))) : W p l e R s m args below meth c H locs cells slots Q (F0 m pc ls rest) := lv_iconst hx hb hd rfl k
theorem q_bipush (hx : p.tables.exec = Jvm.exec) (hb : c.code = cc) {n : Int} (hd : decode cc pc = .ok (.bipush n, 2)) (hv : (Int8.ofInt n).toInt32 = zI n) (k : W p l e R s m args below meth c H locs cells slots Q (F0 m (pc + 2) ls (.int (zI n) :: rest))) : W p l e R s m args below meth c H locs cells slots Q (F0 m pc ls rest) := lv_bipush hx hb hd hv k
theorem q_sipush (hx : p.tables.exec = Jvm.exec) (hb : c.code = cc) {n : Int} (hd : decode cc pc = .ok (.sipush n, 3)) (hv : (Int16.ofInt n).toInt32 = zI n) (k : W p l e R s m args below meth c H locs cells slots Q (F0 m (pc + 3) ls (.int (zI n) :: rest))) : W p l e R s m args below meth c H locs cells slots Q (F0 m pc ls rest) := lv_sipush hx hb hd hv k
theorem q_ldc (hx : p.tables.exec = Jvm.exec) (hb : c.code = cc) {own : String} {index : Nat} (z : Int) {v : Int32} (hown : s.vm.findClass own = some m.cls) (hc : (Jvm.Cond.constant own index v).before args s = true) (hv : v = zI z) (hd : decode cc pc = .ok (.ldc index, 2)) (k : W p l e R s m args below meth c H locs cells slots Q (F0 m (pc + 2) ls (.int (zI z) :: rest))) : W p l e R s m args below meth c H locs cells slots Q (F0 m pc ls rest) := by
  subst hv
  exact lv_ldc hx hb hown hc hd k
theorem q_ldc2 (hx : p.tables.exec = Jvm.exec) (hb : c.code = cc) {own : String} {index : Nat} (z : Int) {v : Int64} (hown : s.vm.findClass own = some m.cls) (hc : (Jvm.Cond.constantLong own index v).before args s = true) (hv : v = zL z) (hd : decode cc pc = .ok (.ldc2_w index, 3)) (k : W p l e R s m args below meth c H locs cells slots Q (F0 m (pc + 3) ls (.long (zL z) :: rest))) : W p l e R s m args below meth c H locs cells slots Q (F0 m pc ls rest) := by
  subst hv
  exact lv_ldc2 hx hb hown hc hd k
theorem q_lconst (hx : p.tables.exec = Jvm.exec) (hb : c.code = cc) {n : Fin 2} (z : Int) (hd : decode cc pc = .ok (.lconst n, 1)) (hv : Int64.ofNat (n : Nat) = zL z) (k : W p l e R s m args below meth c H locs cells slots Q (F0 m (pc + 1) ls (.long (zL z) :: rest))) : W p l e R s m args below meth c H locs cells slots Q (F0 m pc ls rest) := lv_lconst hx hb hd hv k
theorem q_iadd (hx : p.tables.exec = Jvm.exec) (hb : c.code = cc) {x y : Int} (hd : decode cc pc = .ok (.iadd, 1)) (k : W p l e R s m args below meth c H locs cells slots Q (F0 m (pc + 1) ls (.int (zI (x + y)) :: rest))) : W p l e R s m args below meth c H locs cells slots Q (F0 m pc ls (.int (zI y) :: .int (zI x) :: rest)) := lv_iadd hx hb hd (by rw [zI_add]; exact k)
theorem q_isub (hx : p.tables.exec = Jvm.exec) (hb : c.code = cc) {x y : Int} (hd : decode cc pc = .ok (.isub, 1)) (k : W p l e R s m args below meth c H locs cells slots Q (F0 m (pc + 1) ls (.int (zI (x - y)) :: rest))) : W p l e R s m args below meth c H locs cells slots Q (F0 m pc ls (.int (zI y) :: .int (zI x) :: rest)) := lv_isub hx hb hd (by rw [zI_sub]; exact k)
theorem q_imul (hx : p.tables.exec = Jvm.exec) (hb : c.code = cc) {x y : Int} (hd : decode cc pc = .ok (.imul, 1)) (k : W p l e R s m args below meth c H locs cells slots Q (F0 m (pc + 1) ls (.int (zI (x * y)) :: rest))) : W p l e R s m args below meth c H locs cells slots Q (F0 m pc ls (.int (zI y) :: .int (zI x) :: rest)) := lv_imul hx hb hd (by rw [zI_mul]; exact k)
theorem q_ineg (hx : p.tables.exec = Jvm.exec) (hb : c.code = cc) {x : Int} (hd : decode cc pc = .ok (.ineg, 1)) (k : W p l e R s m args below meth c H locs cells slots Q (F0 m (pc + 1) ls (.int (zI (-x)) :: rest))) : W p l e R s m args below meth c H locs cells slots Q (F0 m pc ls (.int (zI x) :: rest)) := lv_ineg hx hb hd (by rw [zI_neg]; exact k)
theorem q_irem (hx : p.tables.exec = Jvm.exec) (hb : c.code = cc) {x y : Int} (hd : decode cc pc = .ok (.irem, 1)) (h : (0 ≤ x ∧ x < 2147483648) ∧ (0 < y ∧ y < 2147483648)) (k : W p l e R s m args below meth c H locs cells slots Q (F0 m (pc + 1) ls (.int (zI (x % y)) :: rest))) : W p l e R s m args below meth c H locs cells slots Q (F0 m pc ls (.int (zI y) :: .int (zI x) :: rest)) := lv_irem hx hb hd (zI_nz ⟨by have := h.2.1; omega, h.2.2⟩ (by have := h.2.1; omega)) (by rw [zI_rem h.1 h.2]; exact k)
theorem q_i2l (hx : p.tables.exec = Jvm.exec) (hb : c.code = cc) {x : Int} (hd : decode cc pc = .ok (.i2l, 1)) (h : rI x) (k : W p l e R s m args below meth c H locs cells slots Q (F0 m (pc + 1) ls (.long (zL x) :: rest))) : W p l e R s m args below meth c H locs cells slots Q (F0 m pc ls (.int (zI x) :: rest)) := lv_i2l hx hb hd (zI_l h) k
theorem q_l2i (hx : p.tables.exec = Jvm.exec) (hb : c.code = cc) {x : Int} (hd : decode cc pc = .ok (.l2i, 1)) (k : W p l e R s m args below meth c H locs cells slots Q (F0 m (pc + 1) ls (.int (zI x) :: rest))) : W p l e R s m args below meth c H locs cells slots Q (F0 m pc ls (.long (zL x) :: rest)) := lv_l2i hx hb hd zL_i k
theorem q_ladd (hx : p.tables.exec = Jvm.exec) (hb : c.code = cc) {x y : Int} (hd : decode cc pc = .ok (.ladd, 1)) (k : W p l e R s m args below meth c H locs cells slots Q (F0 m (pc + 1) ls (.long (zL (x + y)) :: rest))) : W p l e R s m args below meth c H locs cells slots Q (F0 m pc ls (.long (zL y) :: .long (zL x) :: rest)) := lv_ladd hx hb hd (by rw [zL_add]; exact k)
theorem q_lsub (hx : p.tables.exec = Jvm.exec) (hb : c.code = cc) {x y : Int} (hd : decode cc pc = .ok (.lsub, 1)) (k : W p l e R s m args below meth c H locs cells slots Q (F0 m (pc + 1) ls (.long (zL (x - y)) :: rest))) : W p l e R s m args below meth c H locs cells slots Q (F0 m pc ls (.long (zL y) :: .long (zL x) :: rest)) := lv_lsub hx hb hd (by rw [zL_sub]; exact k)
theorem q_lmul (hx : p.tables.exec = Jvm.exec) (hb : c.code = cc) {x y : Int} (hd : decode cc pc = .ok (.lmul, 1)) (k : W p l e R s m args below meth c H locs cells slots Q (F0 m (pc + 1) ls (.long (zL (x * y)) :: rest))) : W p l e R s m args below meth c H locs cells slots Q (F0 m pc ls (.long (zL y) :: .long (zL x) :: rest)) := lv_lmul hx hb hd (by rw [zL_mul]; exact k)
theorem q_ldiv (hx : p.tables.exec = Jvm.exec) (hb : c.code = cc) {x y : Int} (hd : decode cc pc = .ok (.ldiv, 1)) (h : (0 ≤ x ∧ x < 9223372036854775808) ∧ (0 < y ∧ y < 9223372036854775808)) (k : W p l e R s m args below meth c H locs cells slots Q (F0 m (pc + 1) ls (.long (zL (x / y)) :: rest))) : W p l e R s m args below meth c H locs cells slots Q (F0 m pc ls (.long (zL y) :: .long (zL x) :: rest)) := lv_ldiv hx hb hd (zL_nz ⟨by have := h.2.1; omega, h.2.2⟩ (by have := h.2.1; omega)) (by rw [zL_div h.1 h.2]; exact k)
theorem q_lrem (hx : p.tables.exec = Jvm.exec) (hb : c.code = cc) {x y : Int} (hd : decode cc pc = .ok (.lrem, 1)) (h : (0 ≤ x ∧ x < 9223372036854775808) ∧ (0 < y ∧ y < 9223372036854775808)) (k : W p l e R s m args below meth c H locs cells slots Q (F0 m (pc + 1) ls (.long (zL (x % y)) :: rest))) : W p l e R s m args below meth c H locs cells slots Q (F0 m pc ls (.long (zL y) :: .long (zL x) :: rest)) := lv_lrem hx hb hd (zL_nz ⟨by have := h.2.1; omega, h.2.2⟩ (by have := h.2.1; omega)) (by rw [zL_rem h.1 h.2]; exact k)
def cmpz (x y : Int) : Int := if x < y then -1 else if x = y then 0 else 1
theorem q_lcmp (hx : p.tables.exec = Jvm.exec) (hb : c.code = cc) {x y : Int} (hd : decode cc pc = .ok (.lcmp, 1)) (h : rL x ∧ rL y) (k : W p l e R s m args below meth c H locs cells slots Q (F0 m (pc + 1) ls (.int (zI (cmpz x y)) :: rest))) : W p l e R s m args below meth c H locs cells slots Q (F0 m pc ls (.long (zL y) :: .long (zL x) :: rest)) := by
  refine W.lcmp hx hb hd ?_
  have e1 : lg_cmp (zL x) (zL y) = zI (cmpz x y) := by
    unfold lg_cmp cmpz
    simp only [zL_lt h.1 h.2, zL_lt h.2 h.1, zL_eq h.1 h.2]
    by_cases a : x < y
    · simp [a]; rfl
    · by_cases b : x = y
      · subst b; simp; rfl
      · have : y < x := by omega
        simp [a, b, this]; rfl
  rw [e1]
  exact k
theorem q_icmp_eq (hx : p.tables.exec = Jvm.exec) (hb : c.code = cc) {x y : Int} {off : Int} {tgt : Nat} (hd : decode cc pc = .ok (.if_icmp .eq off, 3)) (ht : (pc : Int) + off = (tgt : Int)) (h : rI x ∧ rI y) (kt : x = y → W p l e R s m args below meth c H locs cells slots Q (F0 m tgt ls rest)) (kf : ¬ x = y → W p l e R s m args below meth c H locs cells slots Q (F0 m (pc + 3) ls rest)) : W p l e R s m args below meth c H locs cells slots Q (F0 m pc ls (.int (zI y) :: .int (zI x) :: rest)) := lv_icmp_eq hx hb hd ht (fun q => kt ((zI_eq h.1 h.2).mp q)) (fun q => kf (fun z => q ((zI_eq h.1 h.2).mpr z)))
theorem q_icmp_ne (hx : p.tables.exec = Jvm.exec) (hb : c.code = cc) {x y : Int} {off : Int} {tgt : Nat} (hd : decode cc pc = .ok (.if_icmp .ne off, 3)) (ht : (pc : Int) + off = (tgt : Int)) (h : rI x ∧ rI y) (kt : ¬ x = y → W p l e R s m args below meth c H locs cells slots Q (F0 m tgt ls rest)) (kf : x = y → W p l e R s m args below meth c H locs cells slots Q (F0 m (pc + 3) ls rest)) : W p l e R s m args below meth c H locs cells slots Q (F0 m pc ls (.int (zI y) :: .int (zI x) :: rest)) := lv_icmp_ne hx hb hd ht (fun q => kt (fun z => q ((zI_eq h.1 h.2).mpr z))) (fun q => kf ((zI_eq h.1 h.2).mp q))
theorem q_icmp_lt (hx : p.tables.exec = Jvm.exec) (hb : c.code = cc) {x y : Int} {off : Int} {tgt : Nat} (hd : decode cc pc = .ok (.if_icmp .lt off, 3)) (ht : (pc : Int) + off = (tgt : Int)) (h : rI x ∧ rI y) (kt : x < y → W p l e R s m args below meth c H locs cells slots Q (F0 m tgt ls rest)) (kf : ¬ x < y → W p l e R s m args below meth c H locs cells slots Q (F0 m (pc + 3) ls rest)) : W p l e R s m args below meth c H locs cells slots Q (F0 m pc ls (.int (zI y) :: .int (zI x) :: rest)) := lv_icmp_lt hx hb hd ht (fun q => kt ((zI_lt h.1 h.2).mp q)) (fun q => kf (fun z => q ((zI_lt h.1 h.2).mpr z)))
theorem q_icmp_ge (hx : p.tables.exec = Jvm.exec) (hb : c.code = cc) {x y : Int} {off : Int} {tgt : Nat} (hd : decode cc pc = .ok (.if_icmp .ge off, 3)) (ht : (pc : Int) + off = (tgt : Int)) (h : rI x ∧ rI y) (kt : y ≤ x → W p l e R s m args below meth c H locs cells slots Q (F0 m tgt ls rest)) (kf : ¬ y ≤ x → W p l e R s m args below meth c H locs cells slots Q (F0 m (pc + 3) ls rest)) : W p l e R s m args below meth c H locs cells slots Q (F0 m pc ls (.int (zI y) :: .int (zI x) :: rest)) := lv_icmp_ge hx hb hd ht (fun q => kt ((zI_le h.2 h.1).mp q)) (fun q => kf (fun z => q ((zI_le h.2 h.1).mpr z)))
theorem q_icmp_gt (hx : p.tables.exec = Jvm.exec) (hb : c.code = cc) {x y : Int} {off : Int} {tgt : Nat} (hd : decode cc pc = .ok (.if_icmp .gt off, 3)) (ht : (pc : Int) + off = (tgt : Int)) (h : rI x ∧ rI y) (kt : y < x → W p l e R s m args below meth c H locs cells slots Q (F0 m tgt ls rest)) (kf : ¬ y < x → W p l e R s m args below meth c H locs cells slots Q (F0 m (pc + 3) ls rest)) : W p l e R s m args below meth c H locs cells slots Q (F0 m pc ls (.int (zI y) :: .int (zI x) :: rest)) := lv_icmp_gt hx hb hd ht (fun q => kt ((zI_lt h.2 h.1).mp q)) (fun q => kf (fun z => q ((zI_lt h.2 h.1).mpr z)))
theorem q_icmp_le (hx : p.tables.exec = Jvm.exec) (hb : c.code = cc) {x y : Int} {off : Int} {tgt : Nat} (hd : decode cc pc = .ok (.if_icmp .le off, 3)) (ht : (pc : Int) + off = (tgt : Int)) (h : rI x ∧ rI y) (kt : x ≤ y → W p l e R s m args below meth c H locs cells slots Q (F0 m tgt ls rest)) (kf : ¬ x ≤ y → W p l e R s m args below meth c H locs cells slots Q (F0 m (pc + 3) ls rest)) : W p l e R s m args below meth c H locs cells slots Q (F0 m pc ls (.int (zI y) :: .int (zI x) :: rest)) := lv_icmp_le hx hb hd ht (fun q => kt ((zI_le h.1 h.2).mp q)) (fun q => kf (fun z => q ((zI_le h.1 h.2).mpr z)))
theorem q_if_eq (hx : p.tables.exec = Jvm.exec) (hb : c.code = cc) {x : Int} {off : Int} {tgt : Nat} (hd : decode cc pc = .ok (.ifCond .eq off, 3)) (ht : (pc : Int) + off = (tgt : Int)) (h : rI x) (kt : x = 0 → W p l e R s m args below meth c H locs cells slots Q (F0 m tgt ls rest)) (kf : ¬ x = 0 → W p l e R s m args below meth c H locs cells slots Q (F0 m (pc + 3) ls rest)) : W p l e R s m args below meth c H locs cells slots Q (F0 m pc ls (.int (zI x) :: rest)) := lv_if_eq hx hb hd ht (fun q => kt ((zI_eq h (by decide)).mp q)) (fun q => kf (fun z => q ((zI_eq h (by decide)).mpr z)))
theorem q_if_ne (hx : p.tables.exec = Jvm.exec) (hb : c.code = cc) {x : Int} {off : Int} {tgt : Nat} (hd : decode cc pc = .ok (.ifCond .ne off, 3)) (ht : (pc : Int) + off = (tgt : Int)) (h : rI x) (kt : ¬ x = 0 → W p l e R s m args below meth c H locs cells slots Q (F0 m tgt ls rest)) (kf : x = 0 → W p l e R s m args below meth c H locs cells slots Q (F0 m (pc + 3) ls rest)) : W p l e R s m args below meth c H locs cells slots Q (F0 m pc ls (.int (zI x) :: rest)) := lv_if_ne hx hb hd ht (fun q => kt (fun z => q ((zI_eq h (by decide)).mpr z))) (fun q => kf ((zI_eq h (by decide)).mp q))
theorem q_if_lt (hx : p.tables.exec = Jvm.exec) (hb : c.code = cc) {x : Int} {off : Int} {tgt : Nat} (hd : decode cc pc = .ok (.ifCond .lt off, 3)) (ht : (pc : Int) + off = (tgt : Int)) (h : rI x) (kt : x < 0 → W p l e R s m args below meth c H locs cells slots Q (F0 m tgt ls rest)) (kf : ¬ x < 0 → W p l e R s m args below meth c H locs cells slots Q (F0 m (pc + 3) ls rest)) : W p l e R s m args below meth c H locs cells slots Q (F0 m pc ls (.int (zI x) :: rest)) := lv_if_lt hx hb hd ht (fun q => kt ((zI_lt h (by decide)).mp q)) (fun q => kf (fun z => q ((zI_lt h (by decide)).mpr z)))
theorem q_if_ge (hx : p.tables.exec = Jvm.exec) (hb : c.code = cc) {x : Int} {off : Int} {tgt : Nat} (hd : decode cc pc = .ok (.ifCond .ge off, 3)) (ht : (pc : Int) + off = (tgt : Int)) (h : rI x) (kt : 0 ≤ x → W p l e R s m args below meth c H locs cells slots Q (F0 m tgt ls rest)) (kf : ¬ 0 ≤ x → W p l e R s m args below meth c H locs cells slots Q (F0 m (pc + 3) ls rest)) : W p l e R s m args below meth c H locs cells slots Q (F0 m pc ls (.int (zI x) :: rest)) := lv_if_ge hx hb hd ht (fun q => kt ((zI_le (by decide) h).mp q)) (fun q => kf (fun z => q ((zI_le (by decide) h).mpr z)))
theorem q_if_gt (hx : p.tables.exec = Jvm.exec) (hb : c.code = cc) {x : Int} {off : Int} {tgt : Nat} (hd : decode cc pc = .ok (.ifCond .gt off, 3)) (ht : (pc : Int) + off = (tgt : Int)) (h : rI x) (kt : 0 < x → W p l e R s m args below meth c H locs cells slots Q (F0 m tgt ls rest)) (kf : ¬ 0 < x → W p l e R s m args below meth c H locs cells slots Q (F0 m (pc + 3) ls rest)) : W p l e R s m args below meth c H locs cells slots Q (F0 m pc ls (.int (zI x) :: rest)) := lv_if_gt hx hb hd ht (fun q => kt ((zI_lt (by decide) h).mp q)) (fun q => kf (fun z => q ((zI_lt (by decide) h).mpr z)))
theorem q_if_le (hx : p.tables.exec = Jvm.exec) (hb : c.code = cc) {x : Int} {off : Int} {tgt : Nat} (hd : decode cc pc = .ok (.ifCond .le off, 3)) (ht : (pc : Int) + off = (tgt : Int)) (h : rI x) (kt : x ≤ 0 → W p l e R s m args below meth c H locs cells slots Q (F0 m tgt ls rest)) (kf : ¬ x ≤ 0 → W p l e R s m args below meth c H locs cells slots Q (F0 m (pc + 3) ls rest)) : W p l e R s m args below meth c H locs cells slots Q (F0 m pc ls (.int (zI x) :: rest)) := lv_if_le hx hb hd ht (fun q => kt ((zI_le h (by decide)).mp q)) (fun q => kf (fun z => q ((zI_le h (by decide)).mpr z)))
/-- a truth value on the stack, asked -/
theorem q_bz_eq (hx : p.tables.exec = Jvm.exec) (hb : c.code = cc) {P : Prop} {i : Decidable P} {off : Int} {tgt : Nat} (hd : decode cc pc = .ok (.ifCond .eq off, 3)) (ht : (pc : Int) + off = (tgt : Int)) (kt : ¬ P → W p l e R s m args below meth c H locs cells slots Q (F0 m tgt ls rest)) (kf : P → W p l e R s m args below meth c H locs cells slots Q (F0 m (pc + 3) ls rest)) : W p l e R s m args below meth c H locs cells slots Q (F0 m pc ls (.int (zI (bz P)) :: rest)) := q_if_eq hx hb hd ht ⟨by have := @bz_r P i; omega, by have := @bz_r P i; omega⟩ (fun q => kt (fun z => by rw [bz_t z] at q; exact absurd q (by decide))) (fun q => kf (Decidable.byContradiction fun z => q (bz_f z)))
theorem q_bz_ne (hx : p.tables.exec = Jvm.exec) (hb : c.code = cc) {P : Prop} {i : Decidable P} {off : Int} {tgt : Nat} (hd : decode cc pc = .ok (.ifCond .ne off, 3)) (ht : (pc : Int) + off = (tgt : Int)) (kt : P → W p l e R s m args below meth c H locs cells slots Q (F0 m tgt ls rest)) (kf : ¬ P → W p l e R s m args below meth c H locs cells slots Q (F0 m (pc + 3) ls rest)) : W p l e R s m args below meth c H locs cells slots Q (F0 m pc ls (.int (zI (bz P)) :: rest)) := q_if_ne hx hb hd ht ⟨by have := @bz_r P i; omega, by have := @bz_r P i; omega⟩ (fun q => kt (Decidable.byContradiction fun z => q (bz_f z))) (fun q => kf (fun z => by rw [bz_t z] at q; exact absurd q (by decide)))
/-- a known one -/
theorem q_if_eqT (hx : p.tables.exec = Jvm.exec) (hb : c.code = cc) {x : Int32} {off : Int} {tgt : Nat} (hd : decode cc pc = .ok (.ifCond .eq off, 3)) (ht : (pc : Int) + off = (tgt : Int)) (h : x = 0) (k : W p l e R s m args below meth c H locs cells slots Q (F0 m tgt ls rest)) : W p l e R s m args below meth c H locs cells slots Q (F0 m pc ls (.int x :: rest)) := lv_if_eq hx hb hd ht (fun _ => k) (fun q => absurd h q)
theorem q_if_eqF (hx : p.tables.exec = Jvm.exec) (hb : c.code = cc) {x : Int32} {off : Int} {tgt : Nat} (hd : decode cc pc = .ok (.ifCond .eq off, 3)) (ht : (pc : Int) + off = (tgt : Int)) (h : ¬ x = 0) (k : W p l e R s m args below meth c H locs cells slots Q (F0 m (pc + 3) ls rest)) : W p l e R s m args below meth c H locs cells slots Q (F0 m pc ls (.int x :: rest)) := lv_if_eq hx hb hd ht (fun q => absurd q h) (fun _ => k)
theorem q_if_neT (hx : p.tables.exec = Jvm.exec) (hb : c.code = cc) {x : Int32} {off : Int} {tgt : Nat} (hd : decode cc pc = .ok (.ifCond .ne off, 3)) (ht : (pc : Int) + off = (tgt : Int)) (h : ¬ x = 0) (k : W p l e R s m args below meth c H locs cells slots Q (F0 m tgt ls rest)) : W p l e R s m args below meth c H locs cells slots Q (F0 m pc ls (.int x :: rest)) := lv_if_ne hx hb hd ht (fun _ => k) (fun q => absurd q h)
theorem q_if_neF (hx : p.tables.exec = Jvm.exec) (hb : c.code = cc) {x : Int32} {off : Int} {tgt : Nat} (hd : decode cc pc = .ok (.ifCond .ne off, 3)) (ht : (pc : Int) + off = (tgt : Int)) (h : x = 0) (k : W p l e R s m args below meth c H locs cells slots Q (F0 m (pc + 3) ls rest)) : W p l e R s m args below meth c H locs cells slots Q (F0 m pc ls (.int x :: rest)) := lv_if_ne hx hb hd ht (fun q => absurd h q) (fun _ => k)
end QW
end
section
/-! what nobody writes: the statics of Kinds, the String constants, the nest link -/
def kPace (k : Int) : Int := if k = 1 then 2 else 1
def kRest (k : Int) : Int := if k = 2 then 4 else if k = 4 then 4 else 0
def kStand (k : Int) : Int := if k = 4 then 2 else 0
def strB : List (List Int32) := [[104, 111, 117, 115, 101], [108, 105, 102, 116], [108, 105, 110, 101]]
def st_ok (tt : Nat → Nat) (A : Nat → Prop) (U : State) (H : Heap) : Prop :=
  (va_Z RX2 "PACE" "[I" (.ref (tt 0)) A U H ∧ va_T .int (tt 0) 6 (fun k => .int (zI (kPace k))) A U H) ∧
  (va_Z RX2 "REST_BELOW" "[I" (.ref (tt 1)) A U H ∧ va_T .int (tt 1) 6 (fun k => .int (zI (kRest k))) A U H) ∧
  (va_Z RX2 "STAND_ABOVE" "[I" (.ref (tt 2)) A U H ∧ va_T .int (tt 2) 6 (fun k => .int (zI (kStand k))) A U H) ∧
  (vk_R RX3 38 "house" (tt 3) U ∧ vk_R RX3 61 "lift" (tt 4) U ∧ vk_R RX3 69 "line" (tt 5) U) ∧
  vk_S 3 [5, 4, 4] strB (fun i => tt (3 + i)) (fun i => tt (6 + i)) A U H ∧
  va_Nw (.methodLinkNest RX3 93 yX5_isWithin RX5) U ∧
  va_Z "java/lang/String" "COMPACT_STRINGS" "Z" (.int 1) A U H ∧
  va_Zq "jdk/internal/util/Preconditions" "SIOOBE_FORMATTER" "Ljava/util/function/BiFunction;" A U H
theorem st_ok.kept {tt : Nat → Nat} {A : Nat → Prop} {U : State} {H H1 : Heap} (h : st_ok tt A U H) (hq : ∀ a : Nat, a < H.size → ¬ A a → H1[a]? = H[a]?) : st_ok tt A U H1 := by
  obtain ⟨⟨a1, a2⟩, ⟨b1, b2⟩, ⟨c1, c2⟩, d, e, f, g, i⟩ := h
  exact ⟨⟨a1.kept hq, a2.kept hq⟩, ⟨b1.kept hq, b2.kept hq⟩, ⟨c1.kept hq, c2.kept hq⟩, d, e.kept hq, f, g.kept hq, i.kept hq⟩
theorem st_ok.narrow {tt : Nat → Nat} {A B : Nat → Prop} {U : State} {H : Heap} (h : st_ok tt A U H) (hq : ∀ a : Nat, B a → A a) : st_ok tt B U H := by
  obtain ⟨⟨a1, a2⟩, ⟨b1, b2⟩, ⟨c1, c2⟩, d, e, f, g, i⟩ := h
  exact ⟨⟨a1.narrow hq, a2.narrow hq⟩, ⟨b1.narrow hq, b2.narrow hq⟩, ⟨c1.narrow hq, c2.narrow hq⟩, d, e.narrow hq, f, g.narrow hq, i.narrow hq⟩
theorem st_ok.warm {tt : Nat → Nat} {A : Nat → Prop} {s U : State} {H : Heap} (hW : s.WarmedH U.vm) (h : st_ok tt A s H) : st_ok tt A U H := by
  obtain ⟨⟨a1, a2⟩, ⟨b1, b2⟩, ⟨c1, c2⟩, ⟨d1, d2, d3⟩, e, f, g, i⟩ := h
  have ha := hW.alike
  exact ⟨⟨a1.moved ha, a2.moved ha⟩, ⟨b1.moved ha, b2.moved ha⟩, ⟨c1.moved ha, c2.moved ha⟩, ⟨d1.warm hW, d2.warm hW, d3.warm hW⟩, e.moved ha, f.warmM hW, g.moved ha, i.moved ha⟩
theorem st_ok.same {tt : Nat → Nat} {A : Nat → Prop} {s U : State} {H : Heap} (hv : U.vm = s.vm) (h : st_ok tt A s H) : st_ok tt A U H := by
  obtain ⟨⟨a1, a2⟩, ⟨b1, b2⟩, ⟨c1, c2⟩, ⟨d1, d2, d3⟩, e, f, g, i⟩ := h
  have ha : s.vm.Alike U.vm := by rw [hv]; exact Vm.Alike.refl _
  exact ⟨⟨a1.moved ha, a2.moved ha⟩, ⟨b1.moved ha, b2.moved ha⟩, ⟨c1.moved ha, c2.moved ha⟩, ⟨d1.same hv, d2.same hv, d3.same hv⟩, e.moved ha, va_Nw.same rfl hv.symm f, g.moved ha, i.moved ha⟩
theorem st_ok.pre {tt : Nat → Nat} {A B : Nat → Prop} {s U : State} {H : Heap} {locs : List Loc} (h : st_ok tt A s s.heap) (hS : va_S A s.heap H locs) (hq : ∀ a : Nat, B a → A a) (hU : U.heap = H) (hW : s.WarmedH U.vm) : st_ok tt B U U.heap := by
  rw [hU]
  exact ((h.kept hS.2.1).narrow hq).warm hW
/-- a start that only reads -/
def eS (D : va_G) (tys : List (ClassId × FieldType)) (ws : va_W) (tt : Nat → Nat) (U : State) : Prop := va_P D vwCl ws U.heap ∧ va_K D vwCl tys U ∧ st_ok tt (fun _ => False) U U.heap
/-- a start that writes, and its end -/
def eQ (D : va_G) (tys : List (ClassId × FieldType)) (ws : va_W) (tt : Nat → Nat) (sz : Nat) (U : State) : Prop := U.heap.size = sz ∧ va_P D vwCl ws U.heap ∧ va_K D vwCl tys U ∧ va_D (fun _ => True) ws ∧ st_ok tt (va_A ws sz) U U.heap
def fQ (D : va_G) (tys : List (ClassId × FieldType)) (A : Nat → Prop) (ws : va_W) (_ : Unit) (t : State) : Prop := va_P D vwCl ws t.heap ∧ va_K D vwCl tys t ∧ va_D A ws
theorem eS_blind {D : va_G} {tys : List (ClassId × FieldType)} {ws : va_W} {tt : Nat → Nat} {av : List Value} : FrameBlind (va_Pc av (eS D tys ws tt)) := fun a U g mk h => by
  obtain ⟨h1, h2, h3, h4⟩ := h
  exact ⟨h1, h2, va_K.moved (u := U) (U := U.calling g mk a) (Vm.Alike.refl U.vm) h3, st_ok.same (s := U) (U := U.calling g mk a) rfl h4⟩
theorem eQ_blind {D : va_G} {tys : List (ClassId × FieldType)} {ws : va_W} {tt : Nat → Nat} {sz : Nat} {av : List Value} : FrameBlind (va_Pc av (eQ D tys ws tt sz)) := fun a U g mk h => by
  obtain ⟨h1, h0, h2, h3, h5, h4⟩ := h
  exact ⟨h1, h0, h2, va_K.moved (u := U) (U := U.calling g mk a) (Vm.Alike.refl U.vm) h3, h5, st_ok.same (s := U) (U := U.calling g mk a) rfl h4⟩
theorem eS_pre {D : va_G} {tys : List (ClassId × FieldType)} {ws : va_W} {tt : Nat → Nat} {av : List Value} {A : Nat → Prop} {s : State} {H : Heap} {locs : List Loc} (hP : va_P D vwCl ws H) (hK : va_K D vwCl tys s) (hT : st_ok tt A s s.heap) (hS : va_S A s.heap H locs) : PreS s H (va_Pc av (eS D tys ws tt)) av :=
  ⟨eS_blind, fun U hU hW => ⟨rfl, by rw [hU]; exact hP, va_K.moved hW.alike hK, hT.pre hS (fun _ h => h.elim) hU hW⟩⟩
theorem eQ_pre {D : va_G} {tys : List (ClassId × FieldType)} {ws : va_W} {tt : Nat → Nat} {av : List Value} {A B : Nat → Prop} {s : State} {H : Heap} {locs : List Loc} (hP : va_P D vwCl ws H) (hK : va_K D vwCl tys s) (hD : va_D B ws) (hT : st_ok tt A s s.heap) (hS : va_S A s.heap H locs) (hF : ∀ q, va_A ws H.size q → A q) : PreS s H (va_Pc av (eQ D tys ws tt H.size)) av :=
  ⟨eQ_blind, fun U hU hW => ⟨rfl, by rw [hU], by rw [hU]; exact hP, va_K.moved hW.alike hK, hD.weaken (fun _ _ _ _ => trivial), hT.pre hS hF hU hW⟩⟩
section QL
variable {p : Program} {l : Launch} {e : Env} {R : Room} {s : State} {m : MethodId} {args : Array Value} {below : List Frame} {meth : Method} {c : Code} {H : Heap} {locs : List Loc} {cells slots : Nat} {Q : State → Prop} {cc : ByteArray} {pc : Nat} {ls : Array Slot} {rest st0 : List Value}
/-- a loop that writes nothing -/
theorem w_loopP {σ : Type} (I : σ → Array Slot → Prop) (μ : σ → Nat) (body : ∀ (a : σ) (ls : Array Slot), I a ls → (∀ (a' : σ) (ls' : Array Slot), I a' ls' → μ a' < μ a → W p l e R s m args below meth c H locs cells slots Q (F0 m pc ls' st0)) → W p l e R s m args below meth c H locs cells slots Q (F0 m pc ls st0)) (a : σ) (h : I a ls) : W p l e R s m args below meth c H locs cells slots Q (F0 m pc ls st0) := by
  have key : ∀ (n : Nat) (a : σ) (ls : Array Slot), μ a < n → I a ls → W p l e R s m args below meth c H locs cells slots Q (F0 m pc ls st0) := by
    intro n
    induction n with
    | zero => exact fun a ls hn => absurd hn (Nat.not_lt_zero _)
    | succ n ih => exact fun a ls hn hI => body a ls hI (fun a' ls' hI' hm => ih a' ls' (by omega) hI')
  exact key (μ a + 1) a ls (Nat.lt_succ_self _) h
/-- a loop that writes -/
theorem w_loopQ {σ : Type} (I : σ → Heap → List Loc → Array Slot → Prop) (μ : σ → Nat) (body : ∀ (a : σ) (H : Heap) (locs : List Loc) (ls : Array Slot), I a H locs ls → (∀ (a' : σ) (H' : Heap) (locs' : List Loc) (ls' : Array Slot), I a' H' locs' ls' → μ a' < μ a → W p l e R s m args below meth c H' locs' cells slots Q (F0 m pc ls' st0)) → W p l e R s m args below meth c H locs cells slots Q (F0 m pc ls st0)) (a : σ) (h : I a H locs ls) : W p l e R s m args below meth c H locs cells slots Q (F0 m pc ls st0) := by
  have key : ∀ (n : Nat) (a : σ) (H : Heap) (locs : List Loc) (ls : Array Slot), μ a < n → I a H locs ls → W p l e R s m args below meth c H locs cells slots Q (F0 m pc ls st0) := by
    intro n
    induction n with
    | zero => exact fun a H locs ls hn => absurd hn (Nat.not_lt_zero _)
    | succ n ih => exact fun a H locs ls hn hI => body a H locs ls hI (fun a' H' locs' ls' hI' hm => ih a' H' locs' ls' (by omega) hI')
  exact key (μ a + 1) a H locs ls (Nat.lt_succ_self _) h
variable {D : va_G} {tys : List (ClassId × FieldType)} {ws wc wr w1 : va_W} {tt : Nat → Nat} {A A0 : Nat → Prop} {a b : Nat} {H0 : Heap}
theorem q_iald (hx : p.tables.exec = Jvm.exec) (hb : c.code = cc) (hK : va_K D vwCl tys s) (hP : va_P D vwCl ws H) (q0 t0 : Nat) {cA : ClassId} {n : Nat} {F : Int → Int} (ha : ws[q0]? = some (a, .inl (cA, n, .inl (fun k => zI (F k))))) (ht : tys[t0]? = some (cA, .int)) {i v : Int} (hn : n < 2147483648) (hi : 0 ≤ i ∧ i < n) (hv : F i = v) (hd : decode cc pc = .ok (.iaload, 1))
    (kk : W p l e R s m args below meth c H locs cells slots Q (F0 m (pc + 1) ls (.int (zI v) :: rest))) : W p l e R s m args below meth c H locs cells slots Q (F0 m pc ls (.int (zI i) :: .ref a :: rest)) := by
  refine va_iald hx hb hK hP q0 t0 ha ht (zI_in hi hn) hd ?_
  show W p l e R s m args below meth c H locs cells slots Q (F0 m (pc + 1) ls (.int (zI (F ((zI i).toNatClampNeg : Int))) :: rest))
  rw [zI_clamp ⟨hi.1, by omega⟩, Int.toNat_of_nonneg hi.1, hv]
  exact kk
theorem q_bald (hx : p.tables.exec = Jvm.exec) (hb : c.code = cc) (hK : va_K D vwCl tys s) (hP : va_P D vwCl ws H) (q0 t0 : Nat) {cA : ClassId} {n : Nat} {F : Int → Int} (ha : ws[q0]? = some (a, .inl (cA, n, .inl (fun k => zI (F k))))) (ht : tys[t0]? = some (cA, .byte)) {i v : Int} (hn : n < 2147483648) (hi : 0 ≤ i ∧ i < n) (hv : F i = v) (hd : decode cc pc = .ok (.baload, 1))
    (kk : W p l e R s m args below meth c H locs cells slots Q (F0 m (pc + 1) ls (.int (zI v) :: rest))) : W p l e R s m args below meth c H locs cells slots Q (F0 m pc ls (.int (zI i) :: .ref a :: rest)) := by
  refine va_bald hx hb hK hP q0 t0 ha ht (zI_in hi hn) hd ?_
  show W p l e R s m args below meth c H locs cells slots Q (F0 m (pc + 1) ls (.int (zI (F ((zI i).toNatClampNeg : Int))) :: rest))
  rw [zI_clamp ⟨hi.1, by omega⟩, Int.toNat_of_nonneg hi.1, hv]
  exact kk
theorem q_zald (hx : p.tables.exec = Jvm.exec) (hb : c.code = cc) (hK : va_K D vwCl tys s) (hP : va_P D vwCl ws H) (q0 t0 : Nat) {cA : ClassId} {n : Nat} {F : Int → Int} (ha : ws[q0]? = some (a, .inl (cA, n, .inl (fun k => zI (F k))))) (ht : tys[t0]? = some (cA, .boolean)) {i v : Int} (hn : n < 2147483648) (hi : 0 ≤ i ∧ i < n) (hv : F i = v) (hd : decode cc pc = .ok (.baload, 1))
    (kk : W p l e R s m args below meth c H locs cells slots Q (F0 m (pc + 1) ls (.int (zI v) :: rest))) : W p l e R s m args below meth c H locs cells slots Q (F0 m pc ls (.int (zI i) :: .ref a :: rest)) := by
  refine va_zald hx hb hK hP q0 t0 ha ht (zI_in hi hn) hd ?_
  show W p l e R s m args below meth c H locs cells slots Q (F0 m (pc + 1) ls (.int (zI (F ((zI i).toNatClampNeg : Int))) :: rest))
  rw [zI_clamp ⟨hi.1, by omega⟩, Int.toNat_of_nonneg hi.1, hv]
  exact kk
theorem q_ti (hx : p.tables.exec = Jvm.exec) (hb : c.code = cc) {t n : Nat} {F : Int → Int} (hT : va_T .int t n (fun k => .int (zI (F k))) A s s.heap) (hS : va_S A s.heap H locs) {i : Int} (hn : n < 2147483648) (hi : 0 ≤ i ∧ i < n) (hd : decode cc pc = .ok (.iaload, 1))
    (kk : W p l e R s m args below meth c H locs cells slots Q (F0 m (pc + 1) ls (.int (zI (F i)) :: rest))) : W p l e R s m args below meth c H locs cells slots Q (F0 m pc ls (.int (zI i) :: .ref t :: rest)) := by
  refine va_ti hx hb hT hS (zI_in hi hn) (v := .int (zI (F i))) ?_ hd kk
  show Value.int (zI (F ((zI i).toNatClampNeg : Int))) = _
  rw [zI_clamp ⟨hi.1, by omega⟩, Int.toNat_of_nonneg hi.1]
theorem upd_z {F : Int → Int} {i v : Int} (hi : 0 ≤ i ∧ i < 2147483648) : upd (fun k => zI (F k)) (zI i).toNatClampNeg (zI v) = fun k : Nat => zI (if (k : Int) = i then v else F k) := by
  funext k
  rw [zI_clamp hi]
  unfold upd
  by_cases h : k = i.toNat
  · rw [if_pos h, if_pos (by omega)]
  · rw [if_neg h, if_neg (by omega)]
theorem q_iast (hx : p.tables.exec = Jvm.exec) (hb : c.code = cc) (hK : va_K D vwCl tys s) (hP : va_P D vwCl ws H) (hD : va_D A ws) (hS : va_S A H0 H locs) (q0 t0 : Nat) {cA : ClassId} {n : Nat} {F : Int → Int} (ha : ws[q0]? = some (a, .inl (cA, n, .inl (fun k => zI (F k))))) (ht : tys[t0]? = some (cA, .int)) {i v : Int} (hn : n < 2147483648) (hi : 0 ≤ i ∧ i < n) (hd : decode cc pc = .ok (.iastore, 1))
    (kk : ∀ (H1 : Heap) (locs1 : List Loc), va_P D vwCl (ws.set q0 (a, .inl (cA, n, .inl (fun k => zI (if (k : Int) = i then v else F k))))) H1 → va_D A (ws.set q0 (a, .inl (cA, n, .inl (fun k => zI (if (k : Int) = i then v else F k))))) → va_S A H0 H1 locs1 → W p l e R s m args below meth c H1 locs1 cells slots Q (F0 m (pc + 1) ls rest)) : W p l e R s m args below meth c H locs cells slots Q (F0 m pc ls (.int (zI v) :: .int (zI i) :: .ref a :: rest)) := by
  refine va_iast hx hb hK hP hD hS q0 t0 ha ht (zI_in hi hn) hd ?_
  rw [upd_z ⟨hi.1, by omega⟩]
  exact kk
end QL
section QC
variable {p : Program} {l : Launch} {e : Env} {R : Room} {s : State} {m : MethodId} {args : Array Value} {below : List Frame} {meth : Method} {c : Code} {H : Heap} {locs : List Loc} {cells slots : Nat} {Q : State → Prop} {cc : ByteArray} {pc : Nat} {ls : Array Slot} {rest st0 : List Value}
variable {D : va_G} {tys : List (ClassId × FieldType)} {ws wc wr w1 : va_W} {tt : Nat → Nat} {A A0 : Nat → Prop} {a b : Nat} {H0 : Heap}
variable {y : MethodName} {bytes : ByteArray} {maxL nL n index : Nat} {ret : Option FieldType} {wy : List Cond} {rm : Room} {Ts : List Cond} {own C : String} {As : List Value}
theorem q_cSi {z : Int} (S : CallFix p m c cc nL s args Ts own) (hM : Met l y wy rm (va_Pc As (eS D tys wc tt)) (vp_Si (fun r => r = zI z)) 0 0 (fun _ => False)) (cw : CallB R s args own index y bytes maxL ret wy rm 0 0 n ∧ (Cond.static y).before args s = true) (hP : va_P D vwCl wc H) (hK : va_K D vwCl tys s) (hT : st_ok tt A s s.heap) (hS : va_S A s.heap H locs)
    (hn : As.length = n) (hsize : ls.size = nL) (hstack : st0 = As.reverse ++ rest) (hW : (rest.map fun v => v.category).sum ≤ 8) (hd : decode cc pc = .ok (.invokestatic index, 3)) (hf : cells ≤ R.cells ∧ slots ≤ R.slots)
    (kk : W p l e R s m args below meth c H locs cells slots Q (F0 m (pc + 3) ls (.int (zI z) :: rest))) : W p l e R s m args below meth c H locs cells slots Q (F0 m pc ls st0) := by
  refine vp_callSi (W.runS (g := F0 m pc ls st0) (rest := rest) S hM cw (eS_pre hP hK hT hS) rfl hn hsize hstack (lv_room hW) hd hf) (fun r hr => ?_)
  rw [hr]
  exact kk
theorem q_cSl {z : Int} (S : CallFix p m c cc nL s args Ts own) (hM : Met l y wy rm (va_Pc As (eS D tys wc tt)) (vp_Sl (fun r => r = zL z)) 0 0 (fun _ => False)) (cw : CallB R s args own index y bytes maxL ret wy rm 0 0 n ∧ (Cond.static y).before args s = true) (hP : va_P D vwCl wc H) (hK : va_K D vwCl tys s) (hT : st_ok tt A s s.heap) (hS : va_S A s.heap H locs)
    (hn : As.length = n) (hsize : ls.size = nL) (hstack : st0 = As.reverse ++ rest) (hW : (rest.map fun v => v.category).sum ≤ 8) (hd : decode cc pc = .ok (.invokestatic index, 3)) (hf : cells ≤ R.cells ∧ slots ≤ R.slots)
    (kk : W p l e R s m args below meth c H locs cells slots Q (F0 m (pc + 3) ls (.long (zL z) :: rest))) : W p l e R s m args below meth c H locs cells slots Q (F0 m pc ls st0) := by
  refine vp_callSl (W.runS (g := F0 m pc ls st0) (rest := rest) S hM cw (eS_pre hP hK hT hS) rfl hn hsize hstack (lv_room hW) hd hf) (fun r hr => ?_)
  rw [hr]
  exact kk
theorem q_cVi {z : Int} (S : CallFix p m c cc nL s args Ts own) (hM : Met l y wy rm (va_Pc (.ref b :: As) (eS D tys wc tt)) (vp_Si (fun r => r = zI z)) 0 0 (fun _ => False)) (cw : CallW R s args own C index y bytes maxL ret wy rm 0 0 n) (hP : va_P D vwCl wc H) (hK : va_K D vwCl tys s) (hT : st_ok tt A s s.heap) (hS : va_S A s.heap H locs) (q0 ci : Nat) {q : vw_C} {fs : List Value} (hc : vwCl[ci]? = some q) (hC : q.1 = C) (he : wc[q0]? = some (b, .inr (ci, fs)))
    (hn : As.length = n) (hsize : ls.size = nL) (hstack : st0 = As.reverse ++ .ref b :: rest) (hW : (rest.map fun v => v.category).sum ≤ 8) (hd : decode cc pc = .ok (.invokevirtual index, 3)) (hf : cells ≤ R.cells ∧ slots ≤ R.slots)
    (kk : W p l e R s m args below meth c H locs cells slots Q (F0 m (pc + 3) ls (.int (zI z) :: rest))) : W p l e R s m args below meth c H locs cells slots Q (F0 m pc ls st0) := by
  subst hC
  have hp := eS_pre (av := .ref b :: As) hP hK hT hS
  refine vp_callSi (W.runV (g := F0 m pc ls st0) (rest := rest) S hM cw ⟨hp.1, va_recv hK hP hc he, hp.2⟩ rfl hn hsize hstack (lv_room hW) hd hf) (fun r hr => ?_)
  rw [hr]
  exact kk
theorem q_cVl {z : Int} (S : CallFix p m c cc nL s args Ts own) (hM : Met l y wy rm (va_Pc (.ref b :: As) (eS D tys wc tt)) (vp_Sl (fun r => r = zL z)) 0 0 (fun _ => False)) (cw : CallW R s args own C index y bytes maxL ret wy rm 0 0 n) (hP : va_P D vwCl wc H) (hK : va_K D vwCl tys s) (hT : st_ok tt A s s.heap) (hS : va_S A s.heap H locs) (q0 ci : Nat) {q : vw_C} {fs : List Value} (hc : vwCl[ci]? = some q) (hC : q.1 = C) (he : wc[q0]? = some (b, .inr (ci, fs)))
    (hn : As.length = n) (hsize : ls.size = nL) (hstack : st0 = As.reverse ++ .ref b :: rest) (hW : (rest.map fun v => v.category).sum ≤ 8) (hd : decode cc pc = .ok (.invokevirtual index, 3)) (hf : cells ≤ R.cells ∧ slots ≤ R.slots)
    (kk : W p l e R s m args below meth c H locs cells slots Q (F0 m (pc + 3) ls (.long (zL z) :: rest))) : W p l e R s m args below meth c H locs cells slots Q (F0 m pc ls st0) := by
  subst hC
  have hp := eS_pre (av := .ref b :: As) hP hK hT hS
  refine vp_callSl (W.runV (g := F0 m pc ls st0) (rest := rest) S hM cw ⟨hp.1, va_recv hK hP hc he, hp.2⟩ rfl hn hsize hstack (lv_room hW) hd hf) (fun r hr => ?_)
  rw [hr]
  exact kk
/-- a call that writes: its cells are cut out and put back behind the rest -/
theorem q_cVqi {z : Int} (isC isR : List Nat) (S : CallFix p m c cc nL s args Ts own) (hP : va_P D vwCl ws H) (hD : va_D A ws) (hK : va_K D vwCl tys s) (hT : st_ok tt A s s.heap) (hS : va_S A s.heap H locs) (hA : ∀ q, s.heap.size ≤ q → A q)
    (hM : Met l y wy rm (va_Pc (.ref b :: As) (eQ D tys wc tt H.size)) (va_Qi (fun r (_ : Unit) => r = zI z) (fQ D tys (va_A wc H.size) w1) (va_A wc H.size)) 0 0 (va_A wc H.size)) (cw : CallW R s args own C index y bytes maxL ret wy rm 0 0 n) (hC : isC.map (fun i => ws[i]?) = wc.map some) (hR : isR.map (fun i => ws[i]?) = wr.map some) (hnC : va_nd isC = true) (hnd : va_nd isR = true) (hdis : ∀ i ∈ isR, i ∉ isC)
    (q0 ci : Nat) {q : vw_C} {fs : List Value} (hc : vwCl[ci]? = some q) (hCC : q.1 = C) (he : wc[q0]? = some (b, .inr (ci, fs)))
    (hn : As.length = n) (hsize : ls.size = nL) (hstack : st0 = As.reverse ++ .ref b :: rest) (hW : (rest.map fun v => v.category).sum ≤ 8) (hd : decode cc pc = .ok (.invokevirtual index, 3)) (hf : cells ≤ R.cells ∧ slots ≤ R.slots)
    (kk : ∀ (H1 : Heap) (locs1 : List Loc), va_P D vwCl (wr ++ w1) H1 → va_D A (wr ++ w1) → va_S A s.heap H1 locs1 → W p l e R s m args below meth c H1 locs1 cells slots Q (F0 m (pc + 3) ls (.int (zI z) :: rest))) : W p l e R s m args below meth c H locs cells slots Q (F0 m pc ls st0) := by
  subst hCC
  have hDc := hD.sub isC hnC hC
  have hF := va_free hD hS hA isC hC
  have hPc : va_P D vwCl wc H := by
    intro k x hk
    have h1 : (isC.map (fun i => ws[i]?))[k]? = some (some x) := by rw [hC, List.getElem?_map, hk]; rfl
    rw [List.getElem?_map] at h1
    cases hi : isC[k]? with
    | none => rw [hi] at h1; cases h1
    | some i => rw [hi] at h1; exact hP i x (Option.some.inj h1)
  have hp := eQ_pre (av := .ref b :: As) hPc hK hDc hT hS hF
  refine va_calli (va_runV (g := F0 m pc ls st0) (rest := rest) S hM cw ⟨hp.1, va_recv hK hPc hc he, hp.2⟩ rfl hn hsize hstack (lv_room hW) hd hf) hS (fun q _ h => hF q h) hF (fun r u t H1 locs1 ht hvm hw hB hz1 hk1 hS1 => ?_)
  obtain ⟨hP1, hK1, hD1⟩ := hB
  rw [ht] at hP1
  obtain ⟨hP2, hD2⟩ := va_join (wr := wr) (w1 := w1) hP hD isC isR hC hR hnd hdis hk1 hF hP1 hD1
  rw [hw]
  exact kk H1 locs1 hP2 hD2 hS1
theorem q_cVqv (isC isR : List Nat) (S : CallFix p m c cc nL s args Ts own) (hP : va_P D vwCl ws H) (hD : va_D A ws) (hK : va_K D vwCl tys s) (hT : st_ok tt A s s.heap) (hS : va_S A s.heap H locs) (hA : ∀ q, s.heap.size ≤ q → A q)
    (hM : Met l y wy rm (va_Pc (.ref b :: As) (eQ D tys wc tt H.size)) (va_Qv (fun (_ : Unit) => True) (fQ D tys (va_A wc H.size) w1) (va_A wc H.size)) 0 0 (va_A wc H.size)) (cw : CallW R s args own C index y bytes maxL ret wy rm 0 0 n) (hC : isC.map (fun i => ws[i]?) = wc.map some) (hR : isR.map (fun i => ws[i]?) = wr.map some) (hnC : va_nd isC = true) (hnd : va_nd isR = true) (hdis : ∀ i ∈ isR, i ∉ isC)
    (q0 ci : Nat) {q : vw_C} {fs : List Value} (hc : vwCl[ci]? = some q) (hCC : q.1 = C) (he : wc[q0]? = some (b, .inr (ci, fs)))
    (hn : As.length = n) (hsize : ls.size = nL) (hstack : st0 = As.reverse ++ .ref b :: rest) (hW : (rest.map fun v => v.category).sum ≤ 8) (hd : decode cc pc = .ok (.invokevirtual index, 3)) (hf : cells ≤ R.cells ∧ slots ≤ R.slots)
    (kk : ∀ (H1 : Heap) (locs1 : List Loc), va_P D vwCl (wr ++ w1) H1 → va_D A (wr ++ w1) → va_S A s.heap H1 locs1 → W p l e R s m args below meth c H1 locs1 cells slots Q (F0 m (pc + 3) ls rest)) : W p l e R s m args below meth c H locs cells slots Q (F0 m pc ls st0) := by
  subst hCC
  have hDc := hD.sub isC hnC hC
  have hF := va_free hD hS hA isC hC
  have hPc : va_P D vwCl wc H := by
    intro k x hk
    have h1 : (isC.map (fun i => ws[i]?))[k]? = some (some x) := by rw [hC, List.getElem?_map, hk]; rfl
    rw [List.getElem?_map] at h1
    cases hi : isC[k]? with
    | none => rw [hi] at h1; cases h1
    | some i => rw [hi] at h1; exact hP i x (Option.some.inj h1)
  have hp := eQ_pre (av := .ref b :: As) hPc hK hDc hT hS hF
  refine va_callv (va_runV (g := F0 m pc ls st0) (rest := rest) S hM cw ⟨hp.1, va_recv hK hPc hc he, hp.2⟩ rfl hn hsize hstack (lv_room hW) hd hf) hS (fun q _ h => hF q h) hF (fun u t H1 locs1 ht hvm hw hB hz1 hk1 hS1 => ?_)
  obtain ⟨hP1, hK1, hD1⟩ := hB
  rw [ht] at hP1
  obtain ⟨hP2, hD2⟩ := va_join (wr := wr) (w1 := w1) hP hD isC isR hC hR hnd hdis hk1 hF hP1 hD1
  exact kk H1 locs1 hP2 hD2 hS1
end QC
end
