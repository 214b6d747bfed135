section
-- ===== PART A: goes FIRST, ahead of the names: the tables' words, and 'selects' of the private methods out of them =====
/-- a private method of a class that the tables say can be made, by its rows of tables_1 -/
def lw_okq (q : MethodName × Nat) : Prop := (q.1.cls ≠ "java/lang/invoke/MethodHandle" ∧ q.1.cls ≠ "java/lang/invoke/VarHandle") ∧ Cond.instantiable q.1.cls q.2 ∈ tables_1 ∧ Cond.privateMethod q.1 ∈ tables_1 ∧ Cond.instanceMethod q.1 ∈ tables_1
theorem lw_p0 : lw_okq (⟨"NotEnded$Reader", "readClause", "()Z"⟩, 8) := ⟨⟨by decide +kernel, by decide +kernel⟩, List.mem_of_getElem? (i := 49) (by decide +kernel), List.mem_of_getElem? (i := 333) (by decide +kernel), List.mem_of_getElem? (i := 334) (by decide +kernel)⟩
theorem lw_p1 : lw_okq (⟨"NotEnded$Reader", "look", "()C"⟩, 8) := ⟨⟨by decide +kernel, by decide +kernel⟩, List.mem_of_getElem? (i := 49) (by decide +kernel), List.mem_of_getElem? (i := 337) (by decide +kernel), List.mem_of_getElem? (i := 338) (by decide +kernel)⟩
theorem lw_p2 : lw_okq (⟨"NotEnded$Reader", "take", "(C)Z"⟩, 8) := ⟨⟨by decide +kernel, by decide +kernel⟩, List.mem_of_getElem? (i := 49) (by decide +kernel), List.mem_of_getElem? (i := 431) (by decide +kernel), List.mem_of_getElem? (i := 432) (by decide +kernel)⟩
theorem lw_p3 : lw_okq (⟨"NotEnded$Reader", "readSum", "(I)Z"⟩, 8) := ⟨⟨by decide +kernel, by decide +kernel⟩, List.mem_of_getElem? (i := 49) (by decide +kernel), List.mem_of_getElem? (i := 435) (by decide +kernel), List.mem_of_getElem? (i := 436) (by decide +kernel)⟩
theorem lw_p4 : lw_okq (⟨"NotEnded$Reader", "readTerm", "(I)Z"⟩, 8) := ⟨⟨by decide +kernel, by decide +kernel⟩, List.mem_of_getElem? (i := 49) (by decide +kernel), List.mem_of_getElem? (i := 439) (by decide +kernel), List.mem_of_getElem? (i := 440) (by decide +kernel)⟩
theorem lw_p5 : lw_okq (⟨"NotEnded$Reader", "readAtom", "(I)Z"⟩, 8) := ⟨⟨by decide +kernel, by decide +kernel⟩, List.mem_of_getElem? (i := 49) (by decide +kernel), List.mem_of_getElem? (i := 443) (by decide +kernel), List.mem_of_getElem? (i := 444) (by decide +kernel)⟩
theorem lw_p6 : lw_okq (⟨"NotEnded$Reader", "opens", "(I)Z"⟩, 8) := ⟨⟨by decide +kernel, by decide +kernel⟩, List.mem_of_getElem? (i := 49) (by decide +kernel), List.mem_of_getElem? (i := 447) (by decide +kernel), List.mem_of_getElem? (i := 448) (by decide +kernel)⟩
theorem lw_p7 : lw_okq (⟨"NotEnded$Reader", "readNumber", "()Z"⟩, 8) := ⟨⟨by decide +kernel, by decide +kernel⟩, List.mem_of_getElem? (i := 49) (by decide +kernel), List.mem_of_getElem? (i := 454) (by decide +kernel), List.mem_of_getElem? (i := 455) (by decide +kernel)⟩
theorem lw_p8 : lw_okq (⟨"NotEnded$Reader", "write", "(I)Z"⟩, 8) := ⟨⟨by decide +kernel, by decide +kernel⟩, List.mem_of_getElem? (i := 49) (by decide +kernel), List.mem_of_getElem? (i := 458) (by decide +kernel), List.mem_of_getElem? (i := 459) (by decide +kernel)⟩
theorem lw_p9 : lw_okq (⟨"NotEnded$Reader", "keepClause", "(III)Z"⟩, 8) := ⟨⟨by decide +kernel, by decide +kernel⟩, List.mem_of_getElem? (i := 49) (by decide +kernel), List.mem_of_getElem? (i := 465) (by decide +kernel), List.mem_of_getElem? (i := 466) (by decide +kernel)⟩
theorem lw_p10 : lw_okq (⟨"NotEnded$Reader", "readCondition", "(IZ)Z"⟩, 8) := ⟨⟨by decide +kernel, by decide +kernel⟩, List.mem_of_getElem? (i := 49) (by decide +kernel), List.mem_of_getElem? (i := 469) (by decide +kernel), List.mem_of_getElem? (i := 470) (by decide +kernel)⟩
theorem lw_p11 : lw_okq (⟨"NotEnded$Reader", "readTruth", "(IZ)Z"⟩, 8) := ⟨⟨by decide +kernel, by decide +kernel⟩, List.mem_of_getElem? (i := 49) (by decide +kernel), List.mem_of_getElem? (i := 473) (by decide +kernel), List.mem_of_getElem? (i := 474) (by decide +kernel)⟩
theorem lw_p12 : lw_okq (⟨"NotEnded$Reader", "readUnit", "(IZ)Z"⟩, 8) := ⟨⟨by decide +kernel, by decide +kernel⟩, List.mem_of_getElem? (i := 49) (by decide +kernel), List.mem_of_getElem? (i := 477) (by decide +kernel), List.mem_of_getElem? (i := 478) (by decide +kernel)⟩
theorem lw_p13 : lw_okq (⟨"NotEnded$Course", "weigh", "()V"⟩, 19) := ⟨⟨by decide +kernel, by decide +kernel⟩, List.mem_of_getElem? (i := 146) (by decide +kernel), List.mem_of_getElem? (i := 590) (by decide +kernel), List.mem_of_getElem? (i := 591) (by decide +kernel)⟩
theorem lw_p14 : lw_okq (⟨"NotEnded$Course", "tallyHouses", "()V"⟩, 19) := ⟨⟨by decide +kernel, by decide +kernel⟩, List.mem_of_getElem? (i := 146) (by decide +kernel), List.mem_of_getElem? (i := 594) (by decide +kernel), List.mem_of_getElem? (i := 595) (by decide +kernel)⟩
theorem lw_p15 : lw_okq (⟨"NotEnded$Course", "setLettersOfHour", "()V"⟩, 19) := ⟨⟨by decide +kernel, by decide +kernel⟩, List.mem_of_getElem? (i := 146) (by decide +kernel), List.mem_of_getElem? (i := 608) (by decide +kernel), List.mem_of_getElem? (i := 609) (by decide +kernel)⟩
def lw_privs_1 : List (MethodName × Nat) := [(⟨"NotEnded$Reader", "readClause", "()Z"⟩, 8), (⟨"NotEnded$Reader", "look", "()C"⟩, 8), (⟨"NotEnded$Reader", "take", "(C)Z"⟩, 8), (⟨"NotEnded$Reader", "readSum", "(I)Z"⟩, 8), (⟨"NotEnded$Reader", "readTerm", "(I)Z"⟩, 8), (⟨"NotEnded$Reader", "readAtom", "(I)Z"⟩, 8), (⟨"NotEnded$Reader", "opens", "(I)Z"⟩, 8), (⟨"NotEnded$Reader", "readNumber", "()Z"⟩, 8), (⟨"NotEnded$Reader", "write", "(I)Z"⟩, 8), (⟨"NotEnded$Reader", "keepClause", "(III)Z"⟩, 8), (⟨"NotEnded$Reader", "readCondition", "(IZ)Z"⟩, 8), (⟨"NotEnded$Reader", "readTruth", "(IZ)Z"⟩, 8), (⟨"NotEnded$Reader", "readUnit", "(IZ)Z"⟩, 8), (⟨"NotEnded$Course", "weigh", "()V"⟩, 19), (⟨"NotEnded$Course", "tallyHouses", "()V"⟩, 19), (⟨"NotEnded$Course", "setLettersOfHour", "()V"⟩, 19)]
theorem lw_r1 : ∀ q ∈ lw_privs_1, lw_okq q := List.forall_mem_cons.mpr ⟨lw_p0, List.forall_mem_cons.mpr ⟨lw_p1, List.forall_mem_cons.mpr ⟨lw_p2, List.forall_mem_cons.mpr ⟨lw_p3, List.forall_mem_cons.mpr ⟨lw_p4, List.forall_mem_cons.mpr ⟨lw_p5, List.forall_mem_cons.mpr ⟨lw_p6, List.forall_mem_cons.mpr ⟨lw_p7, List.forall_mem_cons.mpr ⟨lw_p8, List.forall_mem_cons.mpr ⟨lw_p9, List.forall_mem_cons.mpr ⟨lw_p10, List.forall_mem_cons.mpr ⟨lw_p11, List.forall_mem_cons.mpr ⟨lw_p12, List.forall_mem_cons.mpr ⟨lw_p13, List.forall_mem_cons.mpr ⟨lw_p14, List.forall_mem_cons.mpr ⟨lw_p15, fun _ h => absurd h List.not_mem_nil⟩⟩⟩⟩⟩⟩⟩⟩⟩⟩⟩⟩⟩⟩⟩⟩
theorem lw_p16 : lw_okq (⟨"NotEnded$Course", "setLettersOf", "(I)V"⟩, 19) := ⟨⟨by decide +kernel, by decide +kernel⟩, List.mem_of_getElem? (i := 146) (by decide +kernel), List.mem_of_getElem? (i := 625) (by decide +kernel), List.mem_of_getElem? (i := 626) (by decide +kernel)⟩
theorem lw_p17 : lw_okq (⟨"NotEnded$Reckoner", "reckon", "([III)I"⟩, 2) := ⟨⟨by decide +kernel, by decide +kernel⟩, List.mem_of_getElem? (i := 83) (by decide +kernel), List.mem_of_getElem? (i := 634) (by decide +kernel), List.mem_of_getElem? (i := 635) (by decide +kernel)⟩
theorem lw_p18 : lw_okq (⟨"NotEnded$Reckoner", "valueOf", "(I)I"⟩, 2) := ⟨⟨by decide +kernel, by decide +kernel⟩, List.mem_of_getElem? (i := 83) (by decide +kernel), List.mem_of_getElem? (i := 639) (by decide +kernel), List.mem_of_getElem? (i := 640) (by decide +kernel)⟩
theorem lw_p19 : lw_okq (⟨"NotEnded$Course", "holdMore", "()V"⟩, 19) := ⟨⟨by decide +kernel, by decide +kernel⟩, List.mem_of_getElem? (i := 146) (by decide +kernel), List.mem_of_getElem? (i := 653) (by decide +kernel), List.mem_of_getElem? (i := 654) (by decide +kernel)⟩
theorem lw_p20 : lw_okq (⟨"NotEnded$Course", "tell", "()V"⟩, 19) := ⟨⟨by decide +kernel, by decide +kernel⟩, List.mem_of_getElem? (i := 146) (by decide +kernel), List.mem_of_getElem? (i := 658) (by decide +kernel), List.mem_of_getElem? (i := 659) (by decide +kernel)⟩
theorem lw_p21 : lw_okq (⟨"NotEnded$Course", "tellThoseKnown", "(I)V"⟩, 19) := ⟨⟨by decide +kernel, by decide +kernel⟩, List.mem_of_getElem? (i := 146) (by decide +kernel), List.mem_of_getElem? (i := 662) (by decide +kernel), List.mem_of_getElem? (i := 663) (by decide +kernel)⟩
theorem lw_p22 : lw_okq (⟨"NotEnded$Course", "goHome", "()V"⟩, 19) := ⟨⟨by decide +kernel, by decide +kernel⟩, List.mem_of_getElem? (i := 146) (by decide +kernel), List.mem_of_getElem? (i := 666) (by decide +kernel), List.mem_of_getElem? (i := 667) (by decide +kernel)⟩
theorem lw_p23 : lw_okq (⟨"NotEnded$Course", "mayGo", "(I)Z"⟩, 19) := ⟨⟨by decide +kernel, by decide +kernel⟩, List.mem_of_getElem? (i := 146) (by decide +kernel), List.mem_of_getElem? (i := 670) (by decide +kernel), List.mem_of_getElem? (i := 671) (by decide +kernel)⟩
theorem lw_p24 : lw_okq (⟨"NotEnded", "heldAtEnd", "(LNotEnded$Rule;JII)I"⟩, 10) := ⟨⟨by decide +kernel, by decide +kernel⟩, List.mem_of_getElem? (i := 27) (by decide +kernel), List.mem_of_getElem? (i := 711) (by decide +kernel), List.mem_of_getElem? (i := 712) (by decide +kernel)⟩
theorem lw_p25 : lw_okq (⟨"NotEnded", "isNoted", "(LNotEnded$Rule;JI)Z"⟩, 10) := ⟨⟨by decide +kernel, by decide +kernel⟩, List.mem_of_getElem? (i := 27) (by decide +kernel), List.mem_of_getElem? (i := 755) (by decide +kernel), List.mem_of_getElem? (i := 756) (by decide +kernel)⟩
theorem lw_p26 : lw_okq (⟨"NotEnded$Notebook", "isSo", "(LNotEnded$Course;I)Z"⟩, 6) := ⟨⟨by decide +kernel, by decide +kernel⟩, List.mem_of_getElem? (i := 211) (by decide +kernel), List.mem_of_getElem? (i := 764) (by decide +kernel), List.mem_of_getElem? (i := 765) (by decide +kernel)⟩
theorem lw_p27 : lw_okq (⟨"NotEnded$Course", "addOneWhoMay", "(II)V"⟩, 19) := ⟨⟨by decide +kernel, by decide +kernel⟩, List.mem_of_getElem? (i := 146) (by decide +kernel), List.mem_of_getElem? (i := 798) (by decide +kernel), List.mem_of_getElem? (i := 799) (by decide +kernel)⟩
theorem lw_p28 : lw_okq (⟨"NotEnded", "isLet", "(LNotEnded$Rule;I)Z"⟩, 10) := ⟨⟨by decide +kernel, by decide +kernel⟩, List.mem_of_getElem? (i := 27) (by decide +kernel), List.mem_of_getElem? (i := 810) (by decide +kernel), List.mem_of_getElem? (i := 811) (by decide +kernel)⟩
theorem lw_p29 : lw_okq (⟨"NotEnded", "barredBy", "(LNotEnded$Rule;)I"⟩, 10) := ⟨⟨by decide +kernel, by decide +kernel⟩, List.mem_of_getElem? (i := 27) (by decide +kernel), List.mem_of_getElem? (i := 820) (by decide +kernel), List.mem_of_getElem? (i := 821) (by decide +kernel)⟩
theorem lw_p30 : lw_okq (⟨"NotEnded", "leastHelp", "(LNotEnded$Rule;JI)I"⟩, 10) := ⟨⟨by decide +kernel, by decide +kernel⟩, List.mem_of_getElem? (i := 27) (by decide +kernel), List.mem_of_getElem? (i := 855) (by decide +kernel), List.mem_of_getElem? (i := 856) (by decide +kernel)⟩
theorem lw_p31 : lw_okq (⟨"NotEnded", "givesUpBy", "(LNotEnded$Rule;JII)Z"⟩, 10) := ⟨⟨by decide +kernel, by decide +kernel⟩, List.mem_of_getElem? (i := 27) (by decide +kernel), List.mem_of_getElem? (i := 879) (by decide +kernel), List.mem_of_getElem? (i := 880) (by decide +kernel)⟩
def lw_privs_2 : List (MethodName × Nat) := [(⟨"NotEnded$Course", "setLettersOf", "(I)V"⟩, 19), (⟨"NotEnded$Reckoner", "reckon", "([III)I"⟩, 2), (⟨"NotEnded$Reckoner", "valueOf", "(I)I"⟩, 2), (⟨"NotEnded$Course", "holdMore", "()V"⟩, 19), (⟨"NotEnded$Course", "tell", "()V"⟩, 19), (⟨"NotEnded$Course", "tellThoseKnown", "(I)V"⟩, 19), (⟨"NotEnded$Course", "goHome", "()V"⟩, 19), (⟨"NotEnded$Course", "mayGo", "(I)Z"⟩, 19), (⟨"NotEnded", "heldAtEnd", "(LNotEnded$Rule;JII)I"⟩, 10), (⟨"NotEnded", "isNoted", "(LNotEnded$Rule;JI)Z"⟩, 10), (⟨"NotEnded$Notebook", "isSo", "(LNotEnded$Course;I)Z"⟩, 6), (⟨"NotEnded$Course", "addOneWhoMay", "(II)V"⟩, 19), (⟨"NotEnded", "isLet", "(LNotEnded$Rule;I)Z"⟩, 10), (⟨"NotEnded", "barredBy", "(LNotEnded$Rule;)I"⟩, 10), (⟨"NotEnded", "leastHelp", "(LNotEnded$Rule;JI)I"⟩, 10), (⟨"NotEnded", "givesUpBy", "(LNotEnded$Rule;JII)Z"⟩, 10)]
theorem lw_r2 : ∀ q ∈ lw_privs_2, lw_okq q := List.forall_mem_cons.mpr ⟨lw_p16, List.forall_mem_cons.mpr ⟨lw_p17, List.forall_mem_cons.mpr ⟨lw_p18, List.forall_mem_cons.mpr ⟨lw_p19, List.forall_mem_cons.mpr ⟨lw_p20, List.forall_mem_cons.mpr ⟨lw_p21, List.forall_mem_cons.mpr ⟨lw_p22, List.forall_mem_cons.mpr ⟨lw_p23, List.forall_mem_cons.mpr ⟨lw_p24, List.forall_mem_cons.mpr ⟨lw_p25, List.forall_mem_cons.mpr ⟨lw_p26, List.forall_mem_cons.mpr ⟨lw_p27, List.forall_mem_cons.mpr ⟨lw_p28, List.forall_mem_cons.mpr ⟨lw_p29, List.forall_mem_cons.mpr ⟨lw_p30, List.forall_mem_cons.mpr ⟨lw_p31, fun _ h => absurd h List.not_mem_nil⟩⟩⟩⟩⟩⟩⟩⟩⟩⟩⟩⟩⟩⟩⟩⟩
theorem lw_p32 : lw_okq (⟨"NotEnded", "holdersWithout", "(LNotEnded$Rule;JI)I"⟩, 10) := ⟨⟨by decide +kernel, by decide +kernel⟩, List.mem_of_getElem? (i := 27) (by decide +kernel), List.mem_of_getElem? (i := 900) (by decide +kernel), List.mem_of_getElem? (i := 901) (by decide +kernel)⟩
theorem lw_p33 : lw_okq (⟨"NotEnded", "lookersOfSize", "(LNotEnded$Rule;JII)I"⟩, 10) := ⟨⟨by decide +kernel, by decide +kernel⟩, List.mem_of_getElem? (i := 27) (by decide +kernel), List.mem_of_getElem? (i := 908) (by decide +kernel), List.mem_of_getElem? (i := 909) (by decide +kernel)⟩
theorem lw_p34 : lw_okq (⟨"java/lang/Throwable", "fillInStackTrace", "(I)Ljava/lang/Throwable;"⟩, 6) := ⟨⟨by decide +kernel, by decide +kernel⟩, List.mem_of_getElem? (i := 973) (by decide +kernel), List.mem_of_getElem? (i := 971) (by decide +kernel), List.mem_of_getElem? (i := 972) (by decide +kernel)⟩
theorem lw_p35 : lw_okq (⟨"NotEndedModel", "put", "(I)V"⟩, 52) := ⟨⟨by decide +kernel, by decide +kernel⟩, List.mem_of_getElem? (i := 1002) (by decide +kernel), List.mem_of_getElem? (i := 1179) (by decide +kernel), List.mem_of_getElem? (i := 1180) (by decide +kernel)⟩
theorem lw_p36 : lw_okq (⟨"NotEndedModel", "goThrough", "([BIIZI)V"⟩, 52) := ⟨⟨by decide +kernel, by decide +kernel⟩, List.mem_of_getElem? (i := 1002) (by decide +kernel), List.mem_of_getElem? (i := 1194) (by decide +kernel), List.mem_of_getElem? (i := 1195) (by decide +kernel)⟩
theorem lw_p37 : lw_okq (⟨"NotEndedModel", "clause", "()V"⟩, 52) := ⟨⟨by decide +kernel, by decide +kernel⟩, List.mem_of_getElem? (i := 1002) (by decide +kernel), List.mem_of_getElem? (i := 1200) (by decide +kernel), List.mem_of_getElem? (i := 1201) (by decide +kernel)⟩
theorem lw_p38 : lw_okq (⟨"NotEndedModel", "look", "()I"⟩, 52) := ⟨⟨by decide +kernel, by decide +kernel⟩, List.mem_of_getElem? (i := 1002) (by decide +kernel), List.mem_of_getElem? (i := 1204) (by decide +kernel), List.mem_of_getElem? (i := 1205) (by decide +kernel)⟩
theorem lw_p39 : lw_okq (⟨"NotEndedModel", "fails", "()Z"⟩, 52) := ⟨⟨by decide +kernel, by decide +kernel⟩, List.mem_of_getElem? (i := 1002) (by decide +kernel), List.mem_of_getElem? (i := 1232) (by decide +kernel), List.mem_of_getElem? (i := 1233) (by decide +kernel)⟩
theorem lw_p40 : lw_okq (⟨"NotEndedModel", "takes", "(I)Z"⟩, 52) := ⟨⟨by decide +kernel, by decide +kernel⟩, List.mem_of_getElem? (i := 1002) (by decide +kernel), List.mem_of_getElem? (i := 1236) (by decide +kernel), List.mem_of_getElem? (i := 1237) (by decide +kernel)⟩
theorem lw_p41 : lw_okq (⟨"NotEndedModel", "condition", "(ZI)Z"⟩, 52) := ⟨⟨by decide +kernel, by decide +kernel⟩, List.mem_of_getElem? (i := 1002) (by decide +kernel), List.mem_of_getElem? (i := 1240) (by decide +kernel), List.mem_of_getElem? (i := 1241) (by decide +kernel)⟩
theorem lw_p42 : lw_okq (⟨"NotEndedModel", "part", "(ZI)Z"⟩, 52) := ⟨⟨by decide +kernel, by decide +kernel⟩, List.mem_of_getElem? (i := 1002) (by decide +kernel), List.mem_of_getElem? (i := 1244) (by decide +kernel), List.mem_of_getElem? (i := 1245) (by decide +kernel)⟩
theorem lw_p43 : lw_okq (⟨"NotEndedModel", "compares", "(ZI)Z"⟩, 52) := ⟨⟨by decide +kernel, by decide +kernel⟩, List.mem_of_getElem? (i := 1002) (by decide +kernel), List.mem_of_getElem? (i := 1248) (by decide +kernel), List.mem_of_getElem? (i := 1249) (by decide +kernel)⟩
theorem lw_p44 : lw_okq (⟨"NotEndedModel", "sum", "()I"⟩, 52) := ⟨⟨by decide +kernel, by decide +kernel⟩, List.mem_of_getElem? (i := 1002) (by decide +kernel), List.mem_of_getElem? (i := 1252) (by decide +kernel), List.mem_of_getElem? (i := 1253) (by decide +kernel)⟩
theorem lw_p45 : lw_okq (⟨"NotEndedModel", "term", "()I"⟩, 52) := ⟨⟨by decide +kernel, by decide +kernel⟩, List.mem_of_getElem? (i := 1002) (by decide +kernel), List.mem_of_getElem? (i := 1256) (by decide +kernel), List.mem_of_getElem? (i := 1257) (by decide +kernel)⟩
theorem lw_p46 : lw_okq (⟨"NotEndedModel", "atom", "()I"⟩, 52) := ⟨⟨by decide +kernel, by decide +kernel⟩, List.mem_of_getElem? (i := 1002) (by decide +kernel), List.mem_of_getElem? (i := 1260) (by decide +kernel), List.mem_of_getElem? (i := 1261) (by decide +kernel)⟩
theorem lw_p47 : lw_okq (⟨"NotEndedModel", "goesIn", "()Z"⟩, 52) := ⟨⟨by decide +kernel, by decide +kernel⟩, List.mem_of_getElem? (i := 1002) (by decide +kernel), List.mem_of_getElem? (i := 1264) (by decide +kernel), List.mem_of_getElem? (i := 1265) (by decide +kernel)⟩
def lw_privs_3 : List (MethodName × Nat) := [(⟨"NotEnded", "holdersWithout", "(LNotEnded$Rule;JI)I"⟩, 10), (⟨"NotEnded", "lookersOfSize", "(LNotEnded$Rule;JII)I"⟩, 10), (⟨"java/lang/Throwable", "fillInStackTrace", "(I)Ljava/lang/Throwable;"⟩, 6), (⟨"NotEndedModel", "put", "(I)V"⟩, 52), (⟨"NotEndedModel", "goThrough", "([BIIZI)V"⟩, 52), (⟨"NotEndedModel", "clause", "()V"⟩, 52), (⟨"NotEndedModel", "look", "()I"⟩, 52), (⟨"NotEndedModel", "fails", "()Z"⟩, 52), (⟨"NotEndedModel", "takes", "(I)Z"⟩, 52), (⟨"NotEndedModel", "condition", "(ZI)Z"⟩, 52), (⟨"NotEndedModel", "part", "(ZI)Z"⟩, 52), (⟨"NotEndedModel", "compares", "(ZI)Z"⟩, 52), (⟨"NotEndedModel", "sum", "()I"⟩, 52), (⟨"NotEndedModel", "term", "()I"⟩, 52), (⟨"NotEndedModel", "atom", "()I"⟩, 52), (⟨"NotEndedModel", "goesIn", "()Z"⟩, 52)]
theorem lw_r3 : ∀ q ∈ lw_privs_3, lw_okq q := List.forall_mem_cons.mpr ⟨lw_p32, List.forall_mem_cons.mpr ⟨lw_p33, List.forall_mem_cons.mpr ⟨lw_p34, List.forall_mem_cons.mpr ⟨lw_p35, List.forall_mem_cons.mpr ⟨lw_p36, List.forall_mem_cons.mpr ⟨lw_p37, List.forall_mem_cons.mpr ⟨lw_p38, List.forall_mem_cons.mpr ⟨lw_p39, List.forall_mem_cons.mpr ⟨lw_p40, List.forall_mem_cons.mpr ⟨lw_p41, List.forall_mem_cons.mpr ⟨lw_p42, List.forall_mem_cons.mpr ⟨lw_p43, List.forall_mem_cons.mpr ⟨lw_p44, List.forall_mem_cons.mpr ⟨lw_p45, List.forall_mem_cons.mpr ⟨lw_p46, List.forall_mem_cons.mpr ⟨lw_p47, fun _ h => absurd h List.not_mem_nil⟩⟩⟩⟩⟩⟩⟩⟩⟩⟩⟩⟩⟩⟩⟩⟩
theorem lw_p48 : lw_okq (⟨"NotEndedModel", "isDigit", "()Z"⟩, 52) := ⟨⟨by decide +kernel, by decide +kernel⟩, List.mem_of_getElem? (i := 1002) (by decide +kernel), List.mem_of_getElem? (i := 1268) (by decide +kernel), List.mem_of_getElem? (i := 1269) (by decide +kernel)⟩
theorem lw_p49 : lw_okq (⟨"NotEndedModel", "unit", "()Z"⟩, 52) := ⟨⟨by decide +kernel, by decide +kernel⟩, List.mem_of_getElem? (i := 1002) (by decide +kernel), List.mem_of_getElem? (i := 1286) (by decide +kernel), List.mem_of_getElem? (i := 1287) (by decide +kernel)⟩
theorem lw_p50 : lw_okq (⟨"NotEndedModel", "isPerson", "(I)Z"⟩, 52) := ⟨⟨by decide +kernel, by decide +kernel⟩, List.mem_of_getElem? (i := 1002) (by decide +kernel), List.mem_of_getElem? (i := 1302) (by decide +kernel), List.mem_of_getElem? (i := 1303) (by decide +kernel)⟩
theorem lw_p51 : lw_okq (⟨"NotEndedModel", "isLaw", "(I)Z"⟩, 52) := ⟨⟨by decide +kernel, by decide +kernel⟩, List.mem_of_getElem? (i := 1002) (by decide +kernel), List.mem_of_getElem? (i := 1314) (by decide +kernel), List.mem_of_getElem? (i := 1315) (by decide +kernel)⟩
theorem lw_p52 : lw_okq (⟨"NotEndedModel", "everybody", "()I"⟩, 52) := ⟨⟨by decide +kernel, by decide +kernel⟩, List.mem_of_getElem? (i := 1002) (by decide +kernel), List.mem_of_getElem? (i := 1318) (by decide +kernel), List.mem_of_getElem? (i := 1319) (by decide +kernel)⟩
theorem lw_p53 : lw_okq (⟨"NotEndedModel", "begin", "(IJ)V"⟩, 52) := ⟨⟨by decide +kernel, by decide +kernel⟩, List.mem_of_getElem? (i := 1002) (by decide +kernel), List.mem_of_getElem? (i := 1322) (by decide +kernel), List.mem_of_getElem? (i := 1323) (by decide +kernel)⟩
theorem lw_p54 : lw_okq (⟨"NotEndedModel", "layLetters", "(I)V"⟩, 52) := ⟨⟨by decide +kernel, by decide +kernel⟩, List.mem_of_getElem? (i := 1002) (by decide +kernel), List.mem_of_getElem? (i := 1326) (by decide +kernel), List.mem_of_getElem? (i := 1327) (by decide +kernel)⟩
theorem lw_p55 : lw_okq (⟨"NotEndedModel", "worthOf", "(IZI)I"⟩, 52) := ⟨⟨by decide +kernel, by decide +kernel⟩, List.mem_of_getElem? (i := 1002) (by decide +kernel), List.mem_of_getElem? (i := 1334) (by decide +kernel), List.mem_of_getElem? (i := 1335) (by decide +kernel)⟩
theorem lw_p56 : lw_okq (⟨"NotEndedModel", "runOf", "(IJII)V"⟩, 52) := ⟨⟨by decide +kernel, by decide +kernel⟩, List.mem_of_getElem? (i := 1002) (by decide +kernel), List.mem_of_getElem? (i := 1342) (by decide +kernel), List.mem_of_getElem? (i := 1343) (by decide +kernel)⟩
theorem lw_p57 : lw_okq (⟨"NotEndedModel", "goOn", "(II)V"⟩, 52) := ⟨⟨by decide +kernel, by decide +kernel⟩, List.mem_of_getElem? (i := 1002) (by decide +kernel), List.mem_of_getElem? (i := 1346) (by decide +kernel), List.mem_of_getElem? (i := 1347) (by decide +kernel)⟩
theorem lw_p58 : lw_okq (⟨"NotEndedModel", "goesBy", "(I)V"⟩, 52) := ⟨⟨by decide +kernel, by decide +kernel⟩, List.mem_of_getElem? (i := 1002) (by decide +kernel), List.mem_of_getElem? (i := 1350) (by decide +kernel), List.mem_of_getElem? (i := 1351) (by decide +kernel)⟩
theorem lw_p59 : lw_okq (⟨"NotEndedModel", "isFree", "(I)Z"⟩, 52) := ⟨⟨by decide +kernel, by decide +kernel⟩, List.mem_of_getElem? (i := 1002) (by decide +kernel), List.mem_of_getElem? (i := 1354) (by decide +kernel), List.mem_of_getElem? (i := 1355) (by decide +kernel)⟩
theorem lw_p60 : lw_okq (⟨"NotEndedModel", "isChanced", "(I)Z"⟩, 52) := ⟨⟨by decide +kernel, by decide +kernel⟩, List.mem_of_getElem? (i := 1002) (by decide +kernel), List.mem_of_getElem? (i := 1362) (by decide +kernel), List.mem_of_getElem? (i := 1363) (by decide +kernel)⟩
theorem lw_p61 : lw_okq (⟨"NotEndedModel", "endOf", "(IJII)I"⟩, 52) := ⟨⟨by decide +kernel, by decide +kernel⟩, List.mem_of_getElem? (i := 1002) (by decide +kernel), List.mem_of_getElem? (i := 1377) (by decide +kernel), List.mem_of_getElem? (i := 1378) (by decide +kernel)⟩
theorem lw_p62 : lw_okq (⟨"NotEndedModel", "isAsked", "(II)Z"⟩, 52) := ⟨⟨by decide +kernel, by decide +kernel⟩, List.mem_of_getElem? (i := 1002) (by decide +kernel), List.mem_of_getElem? (i := 1385) (by decide +kernel), List.mem_of_getElem? (i := 1386) (by decide +kernel)⟩
theorem lw_p63 : lw_okq (⟨"NotEndedModel", "allSent", "()I"⟩, 52) := ⟨⟨by decide +kernel, by decide +kernel⟩, List.mem_of_getElem? (i := 1002) (by decide +kernel), List.mem_of_getElem? (i := 1389) (by decide +kernel), List.mem_of_getElem? (i := 1390) (by decide +kernel)⟩
def lw_privs_4 : List (MethodName × Nat) := [(⟨"NotEndedModel", "isDigit", "()Z"⟩, 52), (⟨"NotEndedModel", "unit", "()Z"⟩, 52), (⟨"NotEndedModel", "isPerson", "(I)Z"⟩, 52), (⟨"NotEndedModel", "isLaw", "(I)Z"⟩, 52), (⟨"NotEndedModel", "everybody", "()I"⟩, 52), (⟨"NotEndedModel", "begin", "(IJ)V"⟩, 52), (⟨"NotEndedModel", "layLetters", "(I)V"⟩, 52), (⟨"NotEndedModel", "worthOf", "(IZI)I"⟩, 52), (⟨"NotEndedModel", "runOf", "(IJII)V"⟩, 52), (⟨"NotEndedModel", "goOn", "(II)V"⟩, 52), (⟨"NotEndedModel", "goesBy", "(I)V"⟩, 52), (⟨"NotEndedModel", "isFree", "(I)Z"⟩, 52), (⟨"NotEndedModel", "isChanced", "(I)Z"⟩, 52), (⟨"NotEndedModel", "endOf", "(IJII)I"⟩, 52), (⟨"NotEndedModel", "isAsked", "(II)Z"⟩, 52), (⟨"NotEndedModel", "allSent", "()I"⟩, 52)]
theorem lw_r4 : ∀ q ∈ lw_privs_4, lw_okq q := List.forall_mem_cons.mpr ⟨lw_p48, List.forall_mem_cons.mpr ⟨lw_p49, List.forall_mem_cons.mpr ⟨lw_p50, List.forall_mem_cons.mpr ⟨lw_p51, List.forall_mem_cons.mpr ⟨lw_p52, List.forall_mem_cons.mpr ⟨lw_p53, List.forall_mem_cons.mpr ⟨lw_p54, List.forall_mem_cons.mpr ⟨lw_p55, List.forall_mem_cons.mpr ⟨lw_p56, List.forall_mem_cons.mpr ⟨lw_p57, List.forall_mem_cons.mpr ⟨lw_p58, List.forall_mem_cons.mpr ⟨lw_p59, List.forall_mem_cons.mpr ⟨lw_p60, List.forall_mem_cons.mpr ⟨lw_p61, List.forall_mem_cons.mpr ⟨lw_p62, List.forall_mem_cons.mpr ⟨lw_p63, fun _ h => absurd h List.not_mem_nil⟩⟩⟩⟩⟩⟩⟩⟩⟩⟩⟩⟩⟩⟩⟩⟩
theorem lw_p64 : lw_okq (⟨"NotEndedModel", "fitsAll", "(IJZ)Z"⟩, 52) := ⟨⟨by decide +kernel, by decide +kernel⟩, List.mem_of_getElem? (i := 1002) (by decide +kernel), List.mem_of_getElem? (i := 1405) (by decide +kernel), List.mem_of_getElem? (i := 1406) (by decide +kernel)⟩
theorem lw_p65 : lw_okq (⟨"NotEndedModel", "isAlone", "(I)Z"⟩, 52) := ⟨⟨by decide +kernel, by decide +kernel⟩, List.mem_of_getElem? (i := 1002) (by decide +kernel), List.mem_of_getElem? (i := 1409) (by decide +kernel), List.mem_of_getElem? (i := 1410) (by decide +kernel)⟩
theorem lw_p66 : lw_okq (⟨"NotEndedModel", "isSo", "(I)Z"⟩, 52) := ⟨⟨by decide +kernel, by decide +kernel⟩, List.mem_of_getElem? (i := 1002) (by decide +kernel), List.mem_of_getElem? (i := 1413) (by decide +kernel), List.mem_of_getElem? (i := 1414) (by decide +kernel)⟩
theorem lw_p67 : lw_okq (⟨"NotEndedModel", "isTurning", "(I)Z"⟩, 52) := ⟨⟨by decide +kernel, by decide +kernel⟩, List.mem_of_getElem? (i := 1002) (by decide +kernel), List.mem_of_getElem? (i := 1431) (by decide +kernel), List.mem_of_getElem? (i := 1432) (by decide +kernel)⟩
theorem lw_p68 : lw_okq (⟨"NotEndedModel", "isLet", "(II)Z"⟩, 52) := ⟨⟨by decide +kernel, by decide +kernel⟩, List.mem_of_getElem? (i := 1002) (by decide +kernel), List.mem_of_getElem? (i := 1438) (by decide +kernel), List.mem_of_getElem? (i := 1439) (by decide +kernel)⟩
theorem lw_p69 : lw_okq (⟨"NotEndedModel", "barred", "(I)J"⟩, 52) := ⟨⟨by decide +kernel, by decide +kernel⟩, List.mem_of_getElem? (i := 1002) (by decide +kernel), List.mem_of_getElem? (i := 1446) (by decide +kernel), List.mem_of_getElem? (i := 1447) (by decide +kernel)⟩
theorem lw_p70 : lw_okq (⟨"NotEndedModel", "isBefore", "(II)Z"⟩, 52) := ⟨⟨by decide +kernel, by decide +kernel⟩, List.mem_of_getElem? (i := 1002) (by decide +kernel), List.mem_of_getElem? (i := 1476) (by decide +kernel), List.mem_of_getElem? (i := 1477) (by decide +kernel)⟩
theorem lw_p71 : lw_okq (⟨"NotEndedModel", "costOf", "(I)I"⟩, 52) := ⟨⟨by decide +kernel, by decide +kernel⟩, List.mem_of_getElem? (i := 1002) (by decide +kernel), List.mem_of_getElem? (i := 1480) (by decide +kernel), List.mem_of_getElem? (i := 1481) (by decide +kernel)⟩
theorem lw_p72 : lw_okq (⟨"NotEndedModel", "helps", "(IJII)Z"⟩, 52) := ⟨⟨by decide +kernel, by decide +kernel⟩, List.mem_of_getElem? (i := 1002) (by decide +kernel), List.mem_of_getElem? (i := 1488) (by decide +kernel), List.mem_of_getElem? (i := 1489) (by decide +kernel)⟩
theorem lw_p73 : lw_okq (⟨"NotEndedModel", "holders", "(IJI)I"⟩, 52) := ⟨⟨by decide +kernel, by decide +kernel⟩, List.mem_of_getElem? (i := 1002) (by decide +kernel), List.mem_of_getElem? (i := 1496) (by decide +kernel), List.mem_of_getElem? (i := 1497) (by decide +kernel)⟩
def lw_privs_5 : List (MethodName × Nat) := [(⟨"NotEndedModel", "fitsAll", "(IJZ)Z"⟩, 52), (⟨"NotEndedModel", "isAlone", "(I)Z"⟩, 52), (⟨"NotEndedModel", "isSo", "(I)Z"⟩, 52), (⟨"NotEndedModel", "isTurning", "(I)Z"⟩, 52), (⟨"NotEndedModel", "isLet", "(II)Z"⟩, 52), (⟨"NotEndedModel", "barred", "(I)J"⟩, 52), (⟨"NotEndedModel", "isBefore", "(II)Z"⟩, 52), (⟨"NotEndedModel", "costOf", "(I)I"⟩, 52), (⟨"NotEndedModel", "helps", "(IJII)Z"⟩, 52), (⟨"NotEndedModel", "holders", "(IJI)I"⟩, 52)]
theorem lw_r5 : ∀ q ∈ lw_privs_5, lw_okq q := List.forall_mem_cons.mpr ⟨lw_p64, List.forall_mem_cons.mpr ⟨lw_p65, List.forall_mem_cons.mpr ⟨lw_p66, List.forall_mem_cons.mpr ⟨lw_p67, List.forall_mem_cons.mpr ⟨lw_p68, List.forall_mem_cons.mpr ⟨lw_p69, List.forall_mem_cons.mpr ⟨lw_p70, List.forall_mem_cons.mpr ⟨lw_p71, List.forall_mem_cons.mpr ⟨lw_p72, List.forall_mem_cons.mpr ⟨lw_p73, fun _ h => absurd h List.not_mem_nil⟩⟩⟩⟩⟩⟩⟩⟩⟩⟩
def lw_privs : List (MethodName × Nat) := lw_privs_1 ++ (lw_privs_2 ++ (lw_privs_3 ++ (lw_privs_4 ++ (lw_privs_5))))
def lw_tbl : List Cond := k2_sels lw_privs ++ tables_1
theorem lw_privs_ok : ∀ q ∈ lw_privs, lw_okq q := by
  show ∀ q ∈ lw_privs_1 ++ (lw_privs_2 ++ (lw_privs_3 ++ (lw_privs_4 ++ (lw_privs_5)))), lw_okq q
  exact List.forall_mem_append.mpr ⟨lw_r1, List.forall_mem_append.mpr ⟨lw_r2, List.forall_mem_append.mpr ⟨lw_r3, List.forall_mem_append.mpr ⟨lw_r4, lw_r5⟩⟩⟩⟩
end
section
def RX0 : String := "NotEnded$Acts"
def TX0 : u_T := fun k => match k with
  | 0 => ("NotEnded$Acts", "persons", "[I", true)
  | 1 => ("NotEnded$Acts", "kinds", "[I", true)
  | 2 => ("NotEnded$Acts", "things", "[I", true)
  | 3 => ("NotEnded$Acts", "costs", "[I", true)
  | _ => ("NotEnded$Acts", "size", "I", false)
def tyX0 : Nat → FieldType := fun k => match k with
  | 0 => .array .int
  | 1 => .array .int
  | 2 => .array .int
  | 3 => .array .int
  | _ => .int
abbrev wsX00 : List Cond := u_ws RX0 TX0 5
theorem nmX0 : ∀ a, a < 5 → ∀ b, b < 5 → a ≠ b → (TX0 a).2.1 ≠ (TX0 b).2.1 := by decide +kernel
theorem tyX0_ok : ∀ k, k < 5 → parseFieldDescriptor (TX0 k).2.2.1 = some (tyX0 k) := by decide +kernel
def RX1 : String := "NotEnded$Course"
def TX1 : u_T := fun k => match k with
  | 0 => ("NotEnded$Course", "folk", "LNotEnded$Folk;", true)
  | 1 => ("NotEnded$Course", "reckoner", "LNotEnded$Reckoner;", true)
  | 2 => ("NotEnded$Course", "held", "[I", true)
  | 3 => ("NotEnded$Course", "putIn", "[I", true)
  | 4 => ("NotEnded$Course", "places", "[I", true)
  | 5 => ("NotEnded$Course", "tellsSince", "[I", true)
  | 6 => ("NotEnded$Course", "holdsMore", "[I", true)
  | 7 => ("NotEnded$Course", "passesOn", "[I", true)
  | 8 => ("NotEnded$Course", "goes", "[I", true)
  | 9 => ("NotEnded$Course", "hears", "[I", true)
  | 10 => ("NotEnded$Course", "manyIn", "[I", true)
  | 11 => ("NotEnded$Course", "heldIn", "[I", true)
  | 12 => ("NotEnded$Course", "sentIn", "[I", true)
  | 13 => ("NotEnded$Course", "ways", "[J", true)
  | 14 => ("NotEnded$Course", "law", "LNotEnded$Rule;", false)
  | 15 => ("NotEnded$Course", "drawn", "J", false)
  | 16 => ("NotEnded$Course", "present", "I", false)
  | 17 => ("NotEnded$Course", "moved", "I", false)
  | _ => ("NotEnded$Course", "hour", "I", false)
def tyX1 : Nat → FieldType := fun k => match k with
  | 0 => .object "NotEnded$Folk"
  | 1 => .object "NotEnded$Reckoner"
  | 2 => .array .int
  | 3 => .array .int
  | 4 => .array .int
  | 5 => .array .int
  | 6 => .array .int
  | 7 => .array .int
  | 8 => .array .int
  | 9 => .array .int
  | 10 => .array .int
  | 11 => .array .int
  | 12 => .array .int
  | 13 => .array .long
  | 14 => .object "NotEnded$Rule"
  | 15 => .long
  | 16 => .int
  | 17 => .int
  | _ => .int
abbrev wsX10 : List Cond := u_ws RX1 TX1 19
theorem nmX1 : ∀ a, a < 19 → ∀ b, b < 19 → a ≠ b → (TX1 a).2.1 ≠ (TX1 b).2.1 := by decide +kernel
theorem tyX1_ok : ∀ k, k < 19 → parseFieldDescriptor (TX1 k).2.2.1 = some (tyX1 k) := by decide +kernel
def RX2 : String := "NotEnded$Folk"
def TX2 : u_T := fun k => match k with
  | 0 => ("NotEnded$Folk", "holds", "[I", true)
  | 1 => ("NotEnded$Folk", "putIn", "[I", true)
  | 2 => ("NotEnded$Folk", "houses", "[I", true)
  | 3 => ("NotEnded$Folk", "knows", "[I", true)
  | 4 => ("NotEnded$Folk", "hours", "[I", true)
  | 5 => ("NotEnded$Folk", "sent", "I", false)
  | 6 => ("NotEnded$Folk", "size", "I", false)
  | _ => ("NotEnded$Folk", "words", "I", false)
def tyX2 : Nat → FieldType := fun k => match k with
  | 0 => .array .int
  | 1 => .array .int
  | 2 => .array .int
  | 3 => .array .int
  | 4 => .array .int
  | 5 => .int
  | 6 => .int
  | _ => .int
abbrev wsX20 : List Cond := u_ws RX2 TX2 8
theorem nmX2 : ∀ a, a < 8 → ∀ b, b < 8 → a ≠ b → (TX2 a).2.1 ≠ (TX2 b).2.1 := by decide +kernel
theorem tyX2_ok : ∀ k, k < 8 → parseFieldDescriptor (TX2 k).2.2.1 = some (tyX2 k) := by decide +kernel
def RX3 : String := "NotEnded$Notebook"
def TX3 : u_T := fun k => match k with
  | 0 => ("NotEnded$Notebook", "persons", "[I", true)
  | 1 => ("NotEnded$Notebook", "hours", "[I", true)
  | 2 => ("NotEnded$Notebook", "kinds", "[I", true)
  | 3 => ("NotEnded$Notebook", "values", "[I", true)
  | 4 => ("NotEnded$Notebook", "offs", "[I", true)
  | _ => ("NotEnded$Notebook", "size", "I", false)
def tyX3 : Nat → FieldType := fun k => match k with
  | 0 => .array .int
  | 1 => .array .int
  | 2 => .array .int
  | 3 => .array .int
  | 4 => .array .int
  | _ => .int
abbrev wsX30 : List Cond := u_ws RX3 TX3 6
theorem nmX3 : ∀ a, a < 6 → ∀ b, b < 6 → a ≠ b → (TX3 a).2.1 ≠ (TX3 b).2.1 := by decide +kernel
theorem tyX3_ok : ∀ k, k < 6 → parseFieldDescriptor (TX3 k).2.2.1 = some (tyX3 k) := by decide +kernel
def RX4 : String := "NotEnded$Reader"
def TX4 : u_T := fun k => match k with
  | 0 => ("NotEnded$Reader", "tape", "LNotEnded$Tape;", true)
  | 1 => ("NotEnded$Reader", "steps", "[I", true)
  | 2 => ("NotEnded$Reader", "clauses", "[I", true)
  | 3 => ("NotEnded$Reader", "written", "I", false)
  | 4 => ("NotEnded$Reader", "filled", "I", false)
  | 5 => ("NotEnded$Reader", "place", "I", false)
  | 6 => ("NotEnded$Reader", "labelSigns", "Ljava/lang/String;", false)
  | _ => ("NotEnded$Reader", "letterSigns", "Ljava/lang/String;", false)
def tyX4 : Nat → FieldType := fun k => match k with
  | 0 => .object "NotEnded$Tape"
  | 1 => .array .int
  | 2 => .array .int
  | 3 => .int
  | 4 => .int
  | 5 => .int
  | 6 => .object "java/lang/String"
  | _ => .object "java/lang/String"
abbrev wsX40 : List Cond := u_ws RX4 TX4 8
theorem nmX4 : ∀ a, a < 8 → ∀ b, b < 8 → a ≠ b → (TX4 a).2.1 ≠ (TX4 b).2.1 := by decide +kernel
theorem tyX4_ok : ∀ k, k < 8 → parseFieldDescriptor (TX4 k).2.2.1 = some (tyX4 k) := by decide +kernel
def RX5 : String := "NotEnded$Reckoner"
def TX5 : u_T := fun k => match k with
  | 0 => ("NotEnded$Reckoner", "letters", "[I", true)
  | _ => ("NotEnded$Reckoner", "open", "[I", true)
def tyX5 : Nat → FieldType := fun k => match k with
  | 0 => .array .int
  | _ => .array .int
abbrev wsX50 : List Cond := u_ws RX5 TX5 2
theorem nmX5 : ∀ a, a < 2 → ∀ b, b < 2 → a ≠ b → (TX5 a).2.1 ≠ (TX5 b).2.1 := by decide +kernel
theorem tyX5_ok : ∀ k, k < 2 → parseFieldDescriptor (TX5 k).2.2.1 = some (tyX5 k) := by decide +kernel
def RX6 : String := "NotEnded$Rule"
def TX6 : u_T := fun k => match k with
  | 0 => ("NotEnded$Rule", "steps", "[I", true)
  | _ => ("NotEnded$Rule", "clauses", "[I", true)
def tyX6 : Nat → FieldType := fun k => match k with
  | 0 => .array .int
  | _ => .array .int
abbrev wsX60 : List Cond := u_ws RX6 TX6 2
theorem nmX6 : ∀ a, a < 2 → ∀ b, b < 2 → a ≠ b → (TX6 a).2.1 ≠ (TX6 b).2.1 := by decide +kernel
theorem tyX6_ok : ∀ k, k < 2 → parseFieldDescriptor (TX6 k).2.2.1 = some (tyX6 k) := by decide +kernel
def RX7 : String := "NotEnded$Shelf"
def TX7 : u_T := fun k => match k with
  | 0 => ("NotEnded$Shelf", "rules", "[LNotEnded$Rule;", true)
  | _ => ("NotEnded$Shelf", "size", "I", false)
def tyX7 : Nat → FieldType := fun k => match k with
  | 0 => .array (.object "NotEnded$Rule")
  | _ => .int
abbrev wsX70 : List Cond := u_ws RX7 TX7 2
theorem nmX7 : ∀ a, a < 2 → ∀ b, b < 2 → a ≠ b → (TX7 a).2.1 ≠ (TX7 b).2.1 := by decide +kernel
theorem tyX7_ok : ∀ k, k < 2 → parseFieldDescriptor (TX7 k).2.2.1 = some (tyX7 k) := by decide +kernel
def RX8 : String := "NotEnded$Tape"
def TX8 : u_T := fun k => match k with
  | 0 => ("NotEnded$Tape", "signs", "[C", true)
  | _ => ("NotEnded$Tape", "length", "I", false)
def tyX8 : Nat → FieldType := fun k => match k with
  | 0 => .array .char
  | _ => .int
abbrev wsX80 : List Cond := u_ws RX8 TX8 2
theorem nmX8 : ∀ a, a < 2 → ∀ b, b < 2 → a ≠ b → (TX8 a).2.1 ≠ (TX8 b).2.1 := by decide +kernel
theorem tyX8_ok : ∀ k, k < 2 → parseFieldDescriptor (TX8 k).2.2.1 = some (tyX8 k) := by decide +kernel
def RX9 : String := "NotEnded"
def TX9 : u_T := fun k => match k with
  | 0 => ("NotEnded", "tape", "LNotEnded$Tape;", true)
  | 1 => ("NotEnded", "reader", "LNotEnded$Reader;", true)
  | 2 => ("NotEnded", "reckoner", "LNotEnded$Reckoner;", true)
  | 3 => ("NotEnded", "laws", "LNotEnded$Shelf;", true)
  | 4 => ("NotEnded", "turnings", "LNotEnded$Shelf;", true)
  | 5 => ("NotEnded", "folk", "LNotEnded$Folk;", true)
  | 6 => ("NotEnded", "course", "LNotEnded$Course;", true)
  | 7 => ("NotEnded", "notebook", "LNotEnded$Notebook;", true)
  | 8 => ("NotEnded", "acts", "LNotEnded$Acts;", true)
  | _ => ("NotEnded", "said", "[I", true)
def tyX9 : Nat → FieldType := fun k => match k with
  | 0 => .object "NotEnded$Tape"
  | 1 => .object "NotEnded$Reader"
  | 2 => .object "NotEnded$Reckoner"
  | 3 => .object "NotEnded$Shelf"
  | 4 => .object "NotEnded$Shelf"
  | 5 => .object "NotEnded$Folk"
  | 6 => .object "NotEnded$Course"
  | 7 => .object "NotEnded$Notebook"
  | 8 => .object "NotEnded$Acts"
  | _ => .array .int
abbrev wsX90 : List Cond := u_ws RX9 TX9 10
theorem nmX9 : ∀ a, a < 10 → ∀ b, b < 10 → a ≠ b → (TX9 a).2.1 ≠ (TX9 b).2.1 := by decide +kernel
theorem tyX9_ok : ∀ k, k < 10 → parseFieldDescriptor (TX9 k).2.2.1 = some (tyX9 k) := by decide +kernel
def RX10 : String := "NotEndedModel"
def TX10 : u_T := fun k => match k with
  | 0 => ("NotEndedModel", "thrown", "I", false)
  | 1 => ("NotEndedModel", "tape", "[B", true)
  | 2 => ("NotEndedModel", "texts", "[B", true)
  | 3 => ("NotEndedModel", "textLong", "[I", true)
  | 4 => ("NotEndedModel", "letters", "[I", true)
  | 5 => ("NotEndedModel", "text", "[B", false)
  | 6 => ("NotEndedModel", "length", "I", false)
  | 7 => ("NotEndedModel", "laws", "I", false)
  | 8 => ("NotEndedModel", "turnings", "I", false)
  | 9 => ("NotEndedModel", "begins", "I", false)
  | 10 => ("NotEndedModel", "ends", "I", false)
  | 11 => ("NotEndedModel", "at", "I", false)
  | 12 => ("NotEndedModel", "fault", "I", false)
  | 13 => ("NotEndedModel", "deep", "I", false)
  | 14 => ("NotEndedModel", "label", "I", false)
  | 15 => ("NotEndedModel", "found", "I", false)
  | 16 => ("NotEndedModel", "labels", "Ljava/lang/String;", false)
  | 17 => ("NotEndedModel", "allowed", "Ljava/lang/String;", false)
  | 18 => ("NotEndedModel", "hasFound", "Z", false)
  | 19 => ("NotEndedModel", "toldHolds", "[I", true)
  | 20 => ("NotEndedModel", "toldIn", "[I", true)
  | 21 => ("NotEndedModel", "toldHouse", "[I", true)
  | 22 => ("NotEndedModel", "knows", "[I", true)
  | 23 => ("NotEndedModel", "said", "[I", true)
  | 24 => ("NotEndedModel", "due", "[I", true)
  | 25 => ("NotEndedModel", "isSent", "[Z", true)
  | 26 => ("NotEndedModel", "persons", "I", false)
  | 27 => ("NotEndedModel", "words", "I", false)
  | 28 => ("NotEndedModel", "holds", "[I", true)
  | 29 => ("NotEndedModel", "putIn", "[I", true)
  | 30 => ("NotEndedModel", "house", "[I", true)
  | 31 => ("NotEndedModel", "since", "[I", true)
  | 32 => ("NotEndedModel", "more", "[I", true)
  | 33 => ("NotEndedModel", "goes", "[I", true)
  | 34 => ("NotEndedModel", "heard", "[I", true)
  | 35 => ("NotEndedModel", "tells", "[I", true)
  | 36 => ("NotEndedModel", "was", "[I", true)
  | 37 => ("NotEndedModel", "there", "I", false)
  | 38 => ("NotEndedModel", "hour", "I", false)
  | 39 => ("NotEndedModel", "x", "J", false)
  | 40 => ("NotEndedModel", "notePerson", "[I", true)
  | 41 => ("NotEndedModel", "noteHour", "[I", true)
  | 42 => ("NotEndedModel", "noteKind", "[I", true)
  | 43 => ("NotEndedModel", "noteValue", "[I", true)
  | 44 => ("NotEndedModel", "noteOff", "[I", true)
  | 45 => ("NotEndedModel", "notes", "I", false)
  | 46 => ("NotEndedModel", "ways", "[J", true)
  | 47 => ("NotEndedModel", "actOf", "[I", true)
  | 48 => ("NotEndedModel", "actKind", "[I", true)
  | 49 => ("NotEndedModel", "actX", "[I", true)
  | 50 => ("NotEndedModel", "actCost", "[I", true)
  | _ => ("NotEndedModel", "acts", "I", false)
def tyX10 : Nat → FieldType := fun k => match k with
  | 0 => .int
  | 1 => .array .byte
  | 2 => .array .byte
  | 3 => .array .int
  | 4 => .array .int
  | 5 => .array .byte
  | 6 => .int
  | 7 => .int
  | 8 => .int
  | 9 => .int
  | 10 => .int
  | 11 => .int
  | 12 => .int
  | 13 => .int
  | 14 => .int
  | 15 => .int
  | 16 => .object "java/lang/String"
  | 17 => .object "java/lang/String"
  | 18 => .boolean
  | 19 => .array .int
  | 20 => .array .int
  | 21 => .array .int
  | 22 => .array .int
  | 23 => .array .int
  | 24 => .array .int
  | 25 => .array .boolean
  | 26 => .int
  | 27 => .int
  | 28 => .array .int
  | 29 => .array .int
  | 30 => .array .int
  | 31 => .array .int
  | 32 => .array .int
  | 33 => .array .int
  | 34 => .array .int
  | 35 => .array .int
  | 36 => .array .int
  | 37 => .int
  | 38 => .int
  | 39 => .long
  | 40 => .array .int
  | 41 => .array .int
  | 42 => .array .int
  | 43 => .array .int
  | 44 => .array .int
  | 45 => .int
  | 46 => .array .long
  | 47 => .array .int
  | 48 => .array .int
  | 49 => .array .int
  | 50 => .array .int
  | _ => .int
abbrev wsX100 : List Cond := u_ws RX10 TX10 52
theorem nmX10 : ∀ a, a < 52 → ∀ b, b < 52 → a ≠ b → (TX10 a).2.1 ≠ (TX10 b).2.1 := by decide +kernel
theorem tyX10_ok : ∀ k, k < 52 → parseFieldDescriptor (TX10 k).2.2.1 = some (tyX10 k) := by decide +kernel
def RJx145de : String := "java/io/Serializable"
def TJx145de : u_T := fun k => match k with
  | _ => ("", "", "", false)
def tyJx145de : Nat → FieldType := fun k => match k with
  | _ => .int
abbrev wsJx145de0 : List Cond := u_ws RJx145de TJx145de 0
theorem nmJx145de : ∀ a, a < 0 → ∀ b, b < 0 → a ≠ b → (TJx145de a).2.1 ≠ (TJx145de b).2.1 := by decide +kernel
theorem tyJx145de_ok : ∀ k, k < 0 → parseFieldDescriptor (TJx145de k).2.2.1 = some (tyJx145de k) := by decide +kernel
def RJx9f9b0 : String := "java/lang/CharSequence"
def TJx9f9b0 : u_T := fun k => match k with
  | _ => ("", "", "", false)
def tyJx9f9b0 : Nat → FieldType := fun k => match k with
  | _ => .int
abbrev wsJx9f9b00 : List Cond := u_ws RJx9f9b0 TJx9f9b0 0
theorem nmJx9f9b0 : ∀ a, a < 0 → ∀ b, b < 0 → a ≠ b → (TJx9f9b0 a).2.1 ≠ (TJx9f9b0 b).2.1 := by decide +kernel
theorem tyJx9f9b0_ok : ∀ k, k < 0 → parseFieldDescriptor (TJx9f9b0 k).2.2.1 = some (tyJx9f9b0 k) := by decide +kernel
def RJ11 : String := "java/lang/Character"
def TJ11 : u_T := fun k => match k with
  | _ => ("", "", "", false)
def tyJ11 : Nat → FieldType := fun k => match k with
  | _ => .int
abbrev wsJ110 : List Cond := u_ws RJ11 TJ11 0
theorem nmJ11 : ∀ a, a < 0 → ∀ b, b < 0 → a ≠ b → (TJ11 a).2.1 ≠ (TJ11 b).2.1 := by decide +kernel
theorem tyJ11_ok : ∀ k, k < 0 → parseFieldDescriptor (TJ11 k).2.2.1 = some (tyJ11 k) := by decide +kernel
def RJx8e188 : String := "java/lang/Cloneable"
def TJx8e188 : u_T := fun k => match k with
  | _ => ("", "", "", false)
def tyJx8e188 : Nat → FieldType := fun k => match k with
  | _ => .int
abbrev wsJx8e1880 : List Cond := u_ws RJx8e188 TJx8e188 0
theorem nmJx8e188 : ∀ a, a < 0 → ∀ b, b < 0 → a ≠ b → (TJx8e188 a).2.1 ≠ (TJx8e188 b).2.1 := by decide +kernel
theorem tyJx8e188_ok : ∀ k, k < 0 → parseFieldDescriptor (TJx8e188 k).2.2.1 = some (tyJx8e188 k) := by decide +kernel
def RJxb160c : String := "java/lang/Comparable"
def TJxb160c : u_T := fun k => match k with
  | _ => ("", "", "", false)
def tyJxb160c : Nat → FieldType := fun k => match k with
  | _ => .int
abbrev wsJxb160c0 : List Cond := u_ws RJxb160c TJxb160c 0
theorem nmJxb160c : ∀ a, a < 0 → ∀ b, b < 0 → a ≠ b → (TJxb160c a).2.1 ≠ (TJxb160c b).2.1 := by decide +kernel
theorem tyJxb160c_ok : ∀ k, k < 0 → parseFieldDescriptor (TJxb160c k).2.2.1 = some (tyJxb160c k) := by decide +kernel
def RJ6 : String := "java/lang/Integer"
def TJ6 : u_T := fun k => match k with
  | _ => ("", "", "", false)
def tyJ6 : Nat → FieldType := fun k => match k with
  | _ => .int
abbrev wsJ60 : List Cond := u_ws RJ6 TJ6 0
theorem nmJ6 : ∀ a, a < 0 → ∀ b, b < 0 → a ≠ b → (TJ6 a).2.1 ≠ (TJ6 b).2.1 := by decide +kernel
theorem tyJ6_ok : ∀ k, k < 0 → parseFieldDescriptor (TJ6 k).2.2.1 = some (tyJ6 k) := by decide +kernel
def RJ13 : String := "java/lang/Long"
def TJ13 : u_T := fun k => match k with
  | _ => ("", "", "", false)
def tyJ13 : Nat → FieldType := fun k => match k with
  | _ => .int
abbrev wsJ130 : List Cond := u_ws RJ13 TJ13 0
theorem nmJ13 : ∀ a, a < 0 → ∀ b, b < 0 → a ≠ b → (TJ13 a).2.1 ≠ (TJ13 b).2.1 := by decide +kernel
theorem tyJ13_ok : ∀ k, k < 0 → parseFieldDescriptor (TJ13 k).2.2.1 = some (tyJ13 k) := by decide +kernel
def RJ9 : String := "java/lang/Math"
def TJ9 : u_T := fun k => match k with
  | _ => ("", "", "", false)
def tyJ9 : Nat → FieldType := fun k => match k with
  | _ => .int
abbrev wsJ90 : List Cond := u_ws RJ9 TJ9 0
theorem nmJ9 : ∀ a, a < 0 → ∀ b, b < 0 → a ≠ b → (TJ9 a).2.1 ≠ (TJ9 b).2.1 := by decide +kernel
theorem tyJ9_ok : ∀ k, k < 0 → parseFieldDescriptor (TJ9 k).2.2.1 = some (tyJ9 k) := by decide +kernel
def RJ0 : String := "java/lang/String"
def TJ0 : u_T := fun k => match k with
  | _ => ("", "", "", false)
def tyJ0 : Nat → FieldType := fun k => match k with
  | _ => .int
abbrev wsJ00 : List Cond := u_ws RJ0 TJ0 0
theorem nmJ0 : ∀ a, a < 0 → ∀ b, b < 0 → a ≠ b → (TJ0 a).2.1 ≠ (TJ0 b).2.1 := by decide +kernel
theorem tyJ0_ok : ∀ k, k < 0 → parseFieldDescriptor (TJ0 k).2.2.1 = some (tyJ0 k) := by decide +kernel
def RJ1 : String := "java/lang/StringLatin1"
def TJ1 : u_T := fun k => match k with
  | _ => ("", "", "", false)
def tyJ1 : Nat → FieldType := fun k => match k with
  | _ => .int
abbrev wsJ10 : List Cond := u_ws RJ1 TJ1 0
theorem nmJ1 : ∀ a, a < 0 → ∀ b, b < 0 → a ≠ b → (TJ1 a).2.1 ≠ (TJ1 b).2.1 := by decide +kernel
theorem tyJ1_ok : ∀ k, k < 0 → parseFieldDescriptor (TJ1 k).2.2.1 = some (tyJ1 k) := by decide +kernel
def RJ2 : String := "java/lang/StringUTF16"
def TJ2 : u_T := fun k => match k with
  | _ => ("", "", "", false)
def tyJ2 : Nat → FieldType := fun k => match k with
  | _ => .int
abbrev wsJ20 : List Cond := u_ws RJ2 TJ2 0
theorem nmJ2 : ∀ a, a < 0 → ∀ b, b < 0 → a ≠ b → (TJ2 a).2.1 ≠ (TJ2 b).2.1 := by decide +kernel
theorem tyJ2_ok : ∀ k, k < 0 → parseFieldDescriptor (TJ2 k).2.2.1 = some (tyJ2 k) := by decide +kernel
def RJ10 : String := "java/lang/System"
def TJ10 : u_T := fun k => match k with
  | _ => ("", "", "", false)
def tyJ10 : Nat → FieldType := fun k => match k with
  | _ => .int
abbrev wsJ100 : List Cond := u_ws RJ10 TJ10 0
theorem nmJ10 : ∀ a, a < 0 → ∀ b, b < 0 → a ≠ b → (TJ10 a).2.1 ≠ (TJ10 b).2.1 := by decide +kernel
theorem tyJ10_ok : ∀ k, k < 0 → parseFieldDescriptor (TJ10 k).2.2.1 = some (tyJ10 k) := by decide +kernel
def RJxfd54e : String := "java/lang/constant/Constable"
def TJxfd54e : u_T := fun k => match k with
  | _ => ("", "", "", false)
def tyJxfd54e : Nat → FieldType := fun k => match k with
  | _ => .int
abbrev wsJxfd54e0 : List Cond := u_ws RJxfd54e TJxfd54e 0
theorem nmJxfd54e : ∀ a, a < 0 → ∀ b, b < 0 → a ≠ b → (TJxfd54e a).2.1 ≠ (TJxfd54e b).2.1 := by decide +kernel
theorem tyJxfd54e_ok : ∀ k, k < 0 → parseFieldDescriptor (TJxfd54e k).2.2.1 = some (tyJxfd54e k) := by decide +kernel
def RJx3cf43 : String := "java/lang/constant/ConstantDesc"
def TJx3cf43 : u_T := fun k => match k with
  | _ => ("", "", "", false)
def tyJx3cf43 : Nat → FieldType := fun k => match k with
  | _ => .int
abbrev wsJx3cf430 : List Cond := u_ws RJx3cf43 TJx3cf43 0
theorem nmJx3cf43 : ∀ a, a < 0 → ∀ b, b < 0 → a ≠ b → (TJx3cf43 a).2.1 ≠ (TJx3cf43 b).2.1 := by decide +kernel
theorem tyJx3cf43_ok : ∀ k, k < 0 → parseFieldDescriptor (TJx3cf43 k).2.2.1 = some (tyJx3cf43 k) := by decide +kernel
def RJ7 : String := "java/util/Arrays"
def TJ7 : u_T := fun k => match k with
  | _ => ("", "", "", false)
def tyJ7 : Nat → FieldType := fun k => match k with
  | _ => .int
abbrev wsJ70 : List Cond := u_ws RJ7 TJ7 0
theorem nmJ7 : ∀ a, a < 0 → ∀ b, b < 0 → a ≠ b → (TJ7 a).2.1 ≠ (TJ7 b).2.1 := by decide +kernel
theorem tyJ7_ok : ∀ k, k < 0 → parseFieldDescriptor (TJ7 k).2.2.1 = some (tyJ7 k) := by decide +kernel
def RJ3 : String := "jdk/internal/util/Preconditions"
def TJ3 : u_T := fun k => match k with
  | _ => ("", "", "", false)
def tyJ3 : Nat → FieldType := fun k => match k with
  | _ => .int
abbrev wsJ30 : List Cond := u_ws RJ3 TJ3 0
theorem nmJ3 : ∀ a, a < 0 → ∀ b, b < 0 → a ≠ b → (TJ3 a).2.1 ≠ (TJ3 b).2.1 := by decide +kernel
theorem tyJ3_ok : ∀ k, k < 0 → parseFieldDescriptor (TJ3 k).2.2.1 = some (tyJ3 k) := by decide +kernel
def RL : String := "NotEndedLaw"
abbrev cX0_init : ByteArray := prog_2_method_1_code
def yX0_init : MethodName := ⟨RX0, "<init>", "()V"⟩
abbrev cX0_add : ByteArray := prog_2_method_2_code
def yX0_add : MethodName := ⟨RX0, "add", "(IIII)I"⟩
abbrev cX0_size : ByteArray := prog_2_method_3_code
def yX0_size : MethodName := ⟨RX0, "size", "()I"⟩
abbrev cX0_actsFor : ByteArray := prog_2_method_4_code
def yX0_actsFor : MethodName := ⟨RX0, "actsFor", "(I)I"⟩
abbrev cX0_costOf : ByteArray := prog_2_method_5_code
def yX0_costOf : MethodName := ⟨RX0, "costOf", "(I)I"⟩
abbrev cX0_givenBackBy : ByteArray := prog_2_method_6_code
def yX0_givenBackBy : MethodName := ⟨RX0, "givenBackBy", "(I)I"⟩
abbrev cX0_houseBy : ByteArray := prog_2_method_7_code
def yX0_houseBy : MethodName := ⟨RX0, "houseBy", "(I)I"⟩
abbrev cX0_goneBy : ByteArray := prog_2_method_8_code
def yX0_goneBy : MethodName := ⟨RX0, "goneBy", "(I)I"⟩
abbrev cX0_isLess : ByteArray := prog_2_method_9_code
def yX0_isLess : MethodName := ⟨RX0, "isLess", "(II)Z"⟩
abbrev cX1_init : ByteArray := prog_3_method_1_code
def yX1_init : MethodName := ⟨RX1, "<init>", "(LNotEnded$Folk;LNotEnded$Reckoner;)V"⟩
abbrev cX1_begin : ByteArray := prog_3_method_2_code
def yX1_begin : MethodName := ⟨RX1, "begin", "(LNotEnded$Rule;JI)V"⟩
abbrev cX1_giveBack : ByteArray := prog_3_method_3_code
def yX1_giveBack : MethodName := ⟨RX1, "giveBack", "(II)V"⟩
abbrev cX1_moveTo : ByteArray := prog_3_method_4_code
def yX1_moveTo : MethodName := ⟨RX1, "moveTo", "(II)V"⟩
abbrev cX1_go : ByteArray := prog_3_method_5_code
def yX1_go : MethodName := ⟨RX1, "go", "(I)V"⟩
abbrev cX1_heldBy : ByteArray := prog_3_method_6_code
def yX1_heldBy : MethodName := ⟨RX1, "heldBy", "(I)I"⟩
abbrev cX1_placeOf : ByteArray := prog_3_method_7_code
def yX1_placeOf : MethodName := ⟨RX1, "placeOf", "(I)I"⟩
abbrev cX1_tellsSince : ByteArray := prog_3_method_8_code
def yX1_tellsSince : MethodName := ⟨RX1, "tellsSince", "(I)I"⟩
abbrev cX1_howManyAreHome : ByteArray := prog_3_method_9_code
def yX1_howManyAreHome : MethodName := ⟨RX1, "howManyAreHome", "()I"⟩
abbrev cX1_whoGaveUp : ByteArray := prog_3_method_10_code
def yX1_whoGaveUp : MethodName := ⟨RX1, "whoGaveUp", "()I"⟩
abbrev cX1_whoHoldsOn : ByteArray := prog_3_method_11_code
def yX1_whoHoldsOn : MethodName := ⟨RX1, "whoHoldsOn", "()I"⟩
abbrev cX1_housesThatTold : ByteArray := prog_3_method_12_code
def yX1_housesThatTold : MethodName := ⟨RX1, "housesThatTold", "()I"⟩
abbrev cX1_meanHeldIn : ByteArray := prog_3_method_13_code
def yX1_meanHeldIn : MethodName := ⟨RX1, "meanHeldIn", "(I)I"⟩
abbrev cX1_worthNow : ByteArray := prog_3_method_14_code
def yX1_worthNow : MethodName := ⟨RX1, "worthNow", "(II)I"⟩
abbrev cX1_waysThatGo : ByteArray := prog_3_method_15_code
def yX1_waysThatGo : MethodName := ⟨RX1, "waysThatGo", "(I)J"⟩
abbrev cX1_addOneWhoMay : ByteArray := prog_3_method_16_code
def yX1_addOneWhoMay : MethodName := ⟨RX1, "addOneWhoMay", "(II)V"⟩
abbrev cX1_mayGo : ByteArray := prog_3_method_17_code
def yX1_mayGo : MethodName := ⟨RX1, "mayGo", "(I)Z"⟩
abbrev cX1_weigh : ByteArray := prog_3_method_18_code
def yX1_weigh : MethodName := ⟨RX1, "weigh", "()V"⟩
abbrev cX1_tallyHouses : ByteArray := prog_3_method_19_code
def yX1_tallyHouses : MethodName := ⟨RX1, "tallyHouses", "()V"⟩
abbrev cX1_setLettersOfHour : ByteArray := prog_3_method_20_code
def yX1_setLettersOfHour : MethodName := ⟨RX1, "setLettersOfHour", "()V"⟩
abbrev cX1_setLettersOf : ByteArray := prog_3_method_21_code
def yX1_setLettersOf : MethodName := ⟨RX1, "setLettersOf", "(I)V"⟩
abbrev cX1_holdMore : ByteArray := prog_3_method_22_code
def yX1_holdMore : MethodName := ⟨RX1, "holdMore", "()V"⟩
abbrev cX1_tell : ByteArray := prog_3_method_23_code
def yX1_tell : MethodName := ⟨RX1, "tell", "()V"⟩
abbrev cX1_tellThoseKnown : ByteArray := prog_3_method_24_code
def yX1_tellThoseKnown : MethodName := ⟨RX1, "tellThoseKnown", "(I)V"⟩
abbrev cX1_goHome : ByteArray := prog_3_method_25_code
def yX1_goHome : MethodName := ⟨RX1, "goHome", "()V"⟩
abbrev cX2_init : ByteArray := prog_4_method_1_code
def yX2_init : MethodName := ⟨RX2, "<init>", "()V"⟩
abbrev cX2_addPerson : ByteArray := prog_4_method_2_code
def yX2_addPerson : MethodName := ⟨RX2, "addPerson", "(IIIZ)I"⟩
abbrev cX2_acquaint : ByteArray := prog_4_method_3_code
def yX2_acquaint : MethodName := ⟨RX2, "acquaint", "(II)V"⟩
abbrev cX2_addWord : ByteArray := prog_4_method_4_code
def yX2_addWord : MethodName := ⟨RX2, "addWord", "(I)I"⟩
abbrev cX2_size : ByteArray := prog_4_method_5_code
def yX2_size : MethodName := ⟨RX2, "size", "()I"⟩
abbrev cX2_words : ByteArray := prog_4_method_6_code
def yX2_words : MethodName := ⟨RX2, "words", "()I"⟩
abbrev cX2_has : ByteArray := prog_4_method_7_code
def yX2_has : MethodName := ⟨RX2, "has", "(I)Z"⟩
abbrev cX2_hasAll : ByteArray := prog_4_method_8_code
def yX2_hasAll : MethodName := ⟨RX2, "hasAll", "(I)Z"⟩
abbrev cX2_everybody : ByteArray := prog_4_method_9_code
def yX2_everybody : MethodName := ⟨RX2, "everybody", "()I"⟩
abbrev cX2_sentOnes : ByteArray := prog_4_method_10_code
def yX2_sentOnes : MethodName := ⟨RX2, "sentOnes", "()I"⟩
abbrev cX2_isSent : ByteArray := prog_4_method_11_code
def yX2_isSent : MethodName := ⟨RX2, "isSent", "(I)Z"⟩
abbrev cX2_thoseAlone : ByteArray := prog_4_method_12_code
def yX2_thoseAlone : MethodName := ⟨RX2, "thoseAlone", "()I"⟩
abbrev cX2_wordsPast : ByteArray := prog_4_method_13_code
def yX2_wordsPast : MethodName := ⟨RX2, "wordsPast", "(I)I"⟩
abbrev cX2_hoursSinceWord : ByteArray := prog_4_method_14_code
def yX2_hoursSinceWord : MethodName := ⟨RX2, "hoursSinceWord", "(I)I"⟩
abbrev cX3_init : ByteArray := prog_5_method_1_code
def yX3_init : MethodName := ⟨RX3, "<init>", "()V"⟩
abbrev cX3_add : ByteArray := prog_5_method_2_code
def yX3_add : MethodName := ⟨RX3, "add", "(IIIII)I"⟩
abbrev cX3_size : ByteArray := prog_5_method_3_code
def yX3_size : MethodName := ⟨RX3, "size", "()I"⟩
abbrev cX3_agrees : ByteArray := prog_5_method_4_code
def yX3_agrees : MethodName := ⟨RX3, "agrees", "(LNotEnded$Course;II)Z"⟩
abbrev cX3_isSo : ByteArray := prog_5_method_5_code
def yX3_isSo : MethodName := ⟨RX3, "isSo", "(LNotEnded$Course;I)Z"⟩
abbrev cX4_init : ByteArray := prog_6_method_1_code
def yX4_init : MethodName := ⟨RX4, "<init>", "(LNotEnded$Tape;)V"⟩
abbrev cX4_read : ByteArray := prog_6_method_2_code
def yX4_read : MethodName := ⟨RX4, "read", "(I)I"⟩
abbrev cX4_rule : ByteArray := prog_6_method_3_code
def yX4_rule : MethodName := ⟨RX4, "rule", "()LNotEnded$Rule;"⟩
abbrev cX4_readClause : ByteArray := prog_6_method_4_code
def yX4_readClause : MethodName := ⟨RX4, "readClause", "()Z"⟩
abbrev cX4_keepClause : ByteArray := prog_6_method_5_code
def yX4_keepClause : MethodName := ⟨RX4, "keepClause", "(III)Z"⟩
abbrev cX4_readCondition : ByteArray := prog_6_method_6_code
def yX4_readCondition : MethodName := ⟨RX4, "readCondition", "(IZ)Z"⟩
abbrev cX4_readTruth : ByteArray := prog_6_method_7_code
def yX4_readTruth : MethodName := ⟨RX4, "readTruth", "(IZ)Z"⟩
abbrev cX4_readUnit : ByteArray := prog_6_method_8_code
def yX4_readUnit : MethodName := ⟨RX4, "readUnit", "(IZ)Z"⟩
abbrev cX4_readSum : ByteArray := prog_6_method_9_code
def yX4_readSum : MethodName := ⟨RX4, "readSum", "(I)Z"⟩
abbrev cX4_readTerm : ByteArray := prog_6_method_10_code
def yX4_readTerm : MethodName := ⟨RX4, "readTerm", "(I)Z"⟩
abbrev cX4_readAtom : ByteArray := prog_6_method_11_code
def yX4_readAtom : MethodName := ⟨RX4, "readAtom", "(I)Z"⟩
abbrev cX4_readNumber : ByteArray := prog_6_method_12_code
def yX4_readNumber : MethodName := ⟨RX4, "readNumber", "()Z"⟩
abbrev cX4_opens : ByteArray := prog_6_method_13_code
def yX4_opens : MethodName := ⟨RX4, "opens", "(I)Z"⟩
abbrev cX4_take : ByteArray := prog_6_method_14_code
def yX4_take : MethodName := ⟨RX4, "take", "(C)Z"⟩
abbrev cX4_look : ByteArray := prog_6_method_15_code
def yX4_look : MethodName := ⟨RX4, "look", "()C"⟩
abbrev cX4_write : ByteArray := prog_6_method_16_code
def yX4_write : MethodName := ⟨RX4, "write", "(I)Z"⟩
abbrev cX4_isDigit : ByteArray := prog_6_method_17_code
def yX4_isDigit : MethodName := ⟨RX4, "isDigit", "(C)Z"⟩
abbrev cX4_isComparison : ByteArray := prog_6_method_18_code
def yX4_isComparison : MethodName := ⟨RX4, "isComparison", "(C)Z"⟩
abbrev cX5_init : ByteArray := prog_7_method_1_code
def yX5_init : MethodName := ⟨RX5, "<init>", "()V"⟩
abbrev cX5_setLetter : ByteArray := prog_7_method_2_code
def yX5_setLetter : MethodName := ⟨RX5, "setLetter", "(II)V"⟩
abbrev cX5_worthOf : ByteArray := prog_7_method_3_code
def yX5_worthOf : MethodName := ⟨RX5, "worthOf", "(LNotEnded$Rule;I)I"⟩
abbrev cX5_reckon : ByteArray := prog_7_method_4_code
def yX5_reckon : MethodName := ⟨RX5, "reckon", "([III)I"⟩
abbrev cX5_valueOf : ByteArray := prog_7_method_5_code
def yX5_valueOf : MethodName := ⟨RX5, "valueOf", "(I)I"⟩
abbrev cX5_join : ByteArray := prog_7_method_6_code
def yX5_join : MethodName := ⟨RX5, "join", "(III)J"⟩
abbrev cX5_bounded : ByteArray := prog_7_method_7_code
def yX5_bounded : MethodName := ⟨RX5, "bounded", "(J)I"⟩
abbrev cX6_init : ByteArray := prog_8_method_1_code
def yX6_init : MethodName := ⟨RX6, "<init>", "([I[I)V"⟩
abbrev cX7_init : ByteArray := prog_9_method_1_code
def yX7_init : MethodName := ⟨RX7, "<init>", "(I)V"⟩
abbrev cX7_isFull : ByteArray := prog_9_method_2_code
def yX7_isFull : MethodName := ⟨RX7, "isFull", "()Z"⟩
abbrev cX7_put : ByteArray := prog_9_method_3_code
def yX7_put : MethodName := ⟨RX7, "put", "(LNotEnded$Rule;)I"⟩
abbrev cX7_size : ByteArray := prog_9_method_4_code
def yX7_size : MethodName := ⟨RX7, "size", "()I"⟩
abbrev cX7_at : ByteArray := prog_9_method_5_code
def yX7_at : MethodName := ⟨RX7, "at", "(I)LNotEnded$Rule;"⟩
abbrev cX8_init : ByteArray := prog_10_method_1_code
def yX8_init : MethodName := ⟨RX8, "<init>", "()V"⟩
abbrev cX8_bytesIn : ByteArray := prog_10_method_2_code
def yX8_bytesIn : MethodName := ⟨RX8, "bytesIn", "(I)I"⟩
abbrev cX8_append : ByteArray := prog_10_method_3_code
def yX8_append : MethodName := ⟨RX8, "append", "(I)V"⟩
abbrev cX8_cutTo : ByteArray := prog_10_method_4_code
def yX8_cutTo : MethodName := ⟨RX8, "cutTo", "(I)V"⟩
abbrev cX8_length : ByteArray := prog_10_method_5_code
def yX8_length : MethodName := ⟨RX8, "length", "()I"⟩
abbrev cX8_at : ByteArray := prog_10_method_6_code
def yX8_at : MethodName := ⟨RX8, "at", "(I)C"⟩
abbrev cX9_init : ByteArray := prog_1_method_1_code
def yX9_init : MethodName := ⟨RX9, "<init>", "()V"⟩
abbrev cX9_feed : ByteArray := prog_1_method_2_code
def yX9_feed : MethodName := ⟨RX9, "feed", "(IIIII)I"⟩
abbrev cX9_end : ByteArray := prog_1_method_3_code
def yX9_end : MethodName := ⟨RX9, "end", "(I)Z"⟩
abbrev cX9_fault : ByteArray := prog_1_method_4_code
def yX9_fault : MethodName := ⟨RX9, "fault", "(I)I"⟩
abbrev cX9_text : ByteArray := prog_1_method_5_code
def yX9_text : MethodName := ⟨RX9, "text", "(I)I"⟩
abbrev cX9_person : ByteArray := prog_1_method_6_code
def yX9_person : MethodName := ⟨RX9, "person", "(IIIZ)I"⟩
abbrev cX9_know : ByteArray := prog_1_method_7_code
def yX9_know : MethodName := ⟨RX9, "know", "(II)Z"⟩
abbrev cX9_word : ByteArray := prog_1_method_8_code
def yX9_word : MethodName := ⟨RX9, "word", "(I)I"⟩
abbrev cX9_worth : ByteArray := prog_1_method_9_code
def yX9_worth : MethodName := ⟨RX9, "worth", "(III)I"⟩
abbrev cX9_run : ByteArray := prog_1_method_10_code
def yX9_run : MethodName := ⟨RX9, "run", "(IJIII)I"⟩
abbrev cX9_all : ByteArray := prog_1_method_11_code
def yX9_all : MethodName := ⟨RX9, "all", "(IJII)I"⟩
abbrev cX9_without : ByteArray := prog_1_method_12_code
def yX9_without : MethodName := ⟨RX9, "without", "(IJII)I"⟩
abbrev cX9_did : ByteArray := prog_1_method_13_code
def yX9_did : MethodName := ⟨RX9, "did", "(IJI)I"⟩
abbrev cX9_lean : ByteArray := prog_1_method_14_code
def yX9_lean : MethodName := ⟨RX9, "lean", "(IJII)I"⟩
abbrev cX9_note : ByteArray := prog_1_method_15_code
def yX9_note : MethodName := ⟨RX9, "note", "(IIIII)I"⟩
abbrev cX9_fits : ByteArray := prog_1_method_16_code
def yX9_fits : MethodName := ⟨RX9, "fits", "(JZ)I"⟩
abbrev cX9_books : ByteArray := prog_1_method_17_code
def yX9_books : MethodName := ⟨RX9, "books", "(IJI)I"⟩
abbrev cX9_odds : ByteArray := prog_1_method_18_code
def yX9_odds : MethodName := ⟨RX9, "odds", "(IJII)J"⟩
abbrev cX9_lets : ByteArray := prog_1_method_19_code
def yX9_lets : MethodName := ⟨RX9, "lets", "(II)I"⟩
abbrev cX9_bars : ByteArray := prog_1_method_20_code
def yX9_bars : MethodName := ⟨RX9, "bars", "(I)I"⟩
abbrev cX9_bolder : ByteArray := prog_1_method_21_code
def yX9_bolder : MethodName := ⟨RX9, "bolder", "(II)I"⟩
abbrev cX9_say : ByteArray := prog_1_method_22_code
def yX9_say : MethodName := ⟨RX9, "say", "(II)Z"⟩
abbrev cX9_stayed : ByteArray := prog_1_method_23_code
def yX9_stayed : MethodName := ⟨RX9, "stayed", "(IJI)I"⟩
abbrev cX9_act : ByteArray := prog_1_method_24_code
def yX9_act : MethodName := ⟨RX9, "act", "(IIII)I"⟩
abbrev cX9_help : ByteArray := prog_1_method_25_code
def yX9_help : MethodName := ⟨RX9, "help", "(IJII)I"⟩
abbrev cX9_lookers : ByteArray := prog_1_method_26_code
def yX9_lookers : MethodName := ⟨RX9, "lookers", "(IJ)I"⟩
abbrev cX9_count : ByteArray := prog_1_method_27_code
def yX9_count : MethodName := ⟨RX9, "count", "(I)I"⟩
abbrev cX9_heldAtEnd : ByteArray := prog_1_method_28_code
def yX9_heldAtEnd : MethodName := ⟨RX9, "heldAtEnd", "(LNotEnded$Rule;JII)I"⟩
abbrev cX9_isNoted : ByteArray := prog_1_method_29_code
def yX9_isNoted : MethodName := ⟨RX9, "isNoted", "(LNotEnded$Rule;JI)Z"⟩
abbrev cX9_isLet : ByteArray := prog_1_method_30_code
def yX9_isLet : MethodName := ⟨RX9, "isLet", "(LNotEnded$Rule;I)Z"⟩
abbrev cX9_barredBy : ByteArray := prog_1_method_31_code
def yX9_barredBy : MethodName := ⟨RX9, "barredBy", "(LNotEnded$Rule;)I"⟩
abbrev cX9_leastHelp : ByteArray := prog_1_method_32_code
def yX9_leastHelp : MethodName := ⟨RX9, "leastHelp", "(LNotEnded$Rule;JI)I"⟩
abbrev cX9_givesUpBy : ByteArray := prog_1_method_33_code
def yX9_givesUpBy : MethodName := ⟨RX9, "givesUpBy", "(LNotEnded$Rule;JII)Z"⟩
abbrev cX9_holdersWithout : ByteArray := prog_1_method_34_code
def yX9_holdersWithout : MethodName := ⟨RX9, "holdersWithout", "(LNotEnded$Rule;JI)I"⟩
abbrev cX9_lookersOfSize : ByteArray := prog_1_method_35_code
def yX9_lookersOfSize : MethodName := ⟨RX9, "lookersOfSize", "(LNotEnded$Rule;JII)I"⟩
abbrev cX9_isSort : ByteArray := prog_1_method_36_code
def yX9_isSort : MethodName := ⟨RX9, "isSort", "(I)Z"⟩
abbrev cX9_isHouse : ByteArray := prog_1_method_37_code
def yX9_isHouse : MethodName := ⟨RX9, "isHouse", "(I)Z"⟩
abbrev cX9_isOutcome : ByteArray := prog_1_method_38_code
def yX9_isOutcome : MethodName := ⟨RX9, "isOutcome", "(I)Z"⟩
abbrev cX9_isIn : ByteArray := prog_1_method_39_code
def yX9_isIn : MethodName := ⟨RX9, "isIn", "(III)Z"⟩
abbrev cX9_isBit : ByteArray := prog_1_method_40_code
def yX9_isBit : MethodName := ⟨RX9, "isBit", "(II)Z"⟩
abbrev cX9_within : ByteArray := prog_1_method_41_code
def yX9_within : MethodName := ⟨RX9, "within", "(III)I"⟩
abbrev cX9_isLowerFirst : ByteArray := prog_1_method_42_code
def yX9_isLowerFirst : MethodName := ⟨RX9, "isLowerFirst", "(II)Z"⟩
abbrev cX10_init : ByteArray := prog_12_method_1_code
def yX10_init : MethodName := ⟨RX10, "<init>", "()V"⟩
abbrev cX10_thrown : ByteArray := prog_12_method_2_code
def yX10_thrown : MethodName := ⟨RX10, "thrown", "()I"⟩
abbrev cX10_isIn : ByteArray := prog_12_method_3_code
def yX10_isIn : MethodName := ⟨RX10, "isIn", "(III)Z"⟩
abbrev cX10_isAmong : ByteArray := prog_12_method_4_code
def yX10_isAmong : MethodName := ⟨RX10, "isAmong", "(Ljava/lang/String;I)Z"⟩
abbrev cX10_bytesIn : ByteArray := prog_12_method_5_code
def yX10_bytesIn : MethodName := ⟨RX10, "bytesIn", "(I)I"⟩
abbrev cX10_put : ByteArray := prog_12_method_6_code
def yX10_put : MethodName := ⟨RX10, "put", "(I)V"⟩
abbrev cX10_feed : ByteArray := prog_12_method_7_code
def yX10_feed : MethodName := ⟨RX10, "feed", "(IIIII)I"⟩
abbrev cX10_end : ByteArray := prog_12_method_8_code
def yX10_end : MethodName := ⟨RX10, "end", "(I)Z"⟩
abbrev cX10_look : ByteArray := prog_12_method_9_code
def yX10_look : MethodName := ⟨RX10, "look", "()I"⟩
abbrev cX10_fails : ByteArray := prog_12_method_10_code
def yX10_fails : MethodName := ⟨RX10, "fails", "()Z"⟩
abbrev cX10_goesIn : ByteArray := prog_12_method_11_code
def yX10_goesIn : MethodName := ⟨RX10, "goesIn", "()Z"⟩
abbrev cX10_takes : ByteArray := prog_12_method_12_code
def yX10_takes : MethodName := ⟨RX10, "takes", "(I)Z"⟩
abbrev cX10_isDigit : ByteArray := prog_12_method_13_code
def yX10_isDigit : MethodName := ⟨RX10, "isDigit", "()Z"⟩
abbrev cX10_within : ByteArray := prog_12_method_14_code
def yX10_within : MethodName := ⟨RX10, "within", "(J)I"⟩
abbrev cX10_atom : ByteArray := prog_12_method_15_code
def yX10_atom : MethodName := ⟨RX10, "atom", "()I"⟩
abbrev cX10_term : ByteArray := prog_12_method_16_code
def yX10_term : MethodName := ⟨RX10, "term", "()I"⟩
abbrev cX10_sum : ByteArray := prog_12_method_17_code
def yX10_sum : MethodName := ⟨RX10, "sum", "()I"⟩
abbrev cX10_isSign : ByteArray := prog_12_method_18_code
def yX10_isSign : MethodName := ⟨RX10, "isSign", "(I)Z"⟩
abbrev cX10_compares : ByteArray := prog_12_method_19_code
def yX10_compares : MethodName := ⟨RX10, "compares", "(ZI)Z"⟩
abbrev cX10_unit : ByteArray := prog_12_method_20_code
def yX10_unit : MethodName := ⟨RX10, "unit", "()Z"⟩
abbrev cX10_part : ByteArray := prog_12_method_21_code
def yX10_part : MethodName := ⟨RX10, "part", "(ZI)Z"⟩
abbrev cX10_condition : ByteArray := prog_12_method_22_code
def yX10_condition : MethodName := ⟨RX10, "condition", "(ZI)Z"⟩
abbrev cX10_clause : ByteArray := prog_12_method_23_code
def yX10_clause : MethodName := ⟨RX10, "clause", "()V"⟩
abbrev cX10_goThrough : ByteArray := prog_12_method_24_code
def yX10_goThrough : MethodName := ⟨RX10, "goThrough", "([BIIZI)V"⟩
abbrev cX10_fault : ByteArray := prog_12_method_25_code
def yX10_fault : MethodName := ⟨RX10, "fault", "(I)I"⟩
abbrev cX10_text : ByteArray := prog_12_method_26_code
def yX10_text : MethodName := ⟨RX10, "text", "(I)I"⟩
abbrev cX10_isLaw : ByteArray := prog_12_method_27_code
def yX10_isLaw : MethodName := ⟨RX10, "isLaw", "(I)Z"⟩
abbrev cX10_isTurning : ByteArray := prog_12_method_28_code
def yX10_isTurning : MethodName := ⟨RX10, "isTurning", "(I)Z"⟩
abbrev cX10_worthOf : ByteArray := prog_12_method_29_code
def yX10_worthOf : MethodName := ⟨RX10, "worthOf", "(IZI)I"⟩
abbrev cX10_isPerson : ByteArray := prog_12_method_30_code
def yX10_isPerson : MethodName := ⟨RX10, "isPerson", "(I)Z"⟩
abbrev cX10_person : ByteArray := prog_12_method_31_code
def yX10_person : MethodName := ⟨RX10, "person", "(IIIZ)I"⟩
abbrev cX10_know : ByteArray := prog_12_method_32_code
def yX10_know : MethodName := ⟨RX10, "know", "(II)Z"⟩
abbrev cX10_word : ByteArray := prog_12_method_33_code
def yX10_word : MethodName := ⟨RX10, "word", "(I)I"⟩
abbrev cX10_has : ByteArray := prog_12_method_34_code
def yX10_has : MethodName := ⟨RX10, "has", "(II)Z"⟩
abbrev cX10_everybody : ByteArray := prog_12_method_35_code
def yX10_everybody : MethodName := ⟨RX10, "everybody", "()I"⟩
abbrev cX10_allSent : ByteArray := prog_12_method_36_code
def yX10_allSent : MethodName := ⟨RX10, "allSent", "()I"⟩
abbrev cX10_begin : ByteArray := prog_12_method_37_code
def yX10_begin : MethodName := ⟨RX10, "begin", "(IJ)V"⟩
abbrev cX10_layLetters : ByteArray := prog_12_method_38_code
def yX10_layLetters : MethodName := ⟨RX10, "layLetters", "(I)V"⟩
abbrev cX10_isFree : ByteArray := prog_12_method_39_code
def yX10_isFree : MethodName := ⟨RX10, "isFree", "(I)Z"⟩
abbrev cX10_held : ByteArray := prog_12_method_40_code
def yX10_held : MethodName := ⟨RX10, "held", "(I)I"⟩
abbrev cX10_isChanced : ByteArray := prog_12_method_41_code
def yX10_isChanced : MethodName := ⟨RX10, "isChanced", "(I)Z"⟩
abbrev cX10_goesBy : ByteArray := prog_12_method_42_code
def yX10_goesBy : MethodName := ⟨RX10, "goesBy", "(I)V"⟩
abbrev cX10_goOn : ByteArray := prog_12_method_43_code
def yX10_goOn : MethodName := ⟨RX10, "goOn", "(II)V"⟩
abbrev cX10_runOf : ByteArray := prog_12_method_44_code
def yX10_runOf : MethodName := ⟨RX10, "runOf", "(IJII)V"⟩
abbrev cX10_worth : ByteArray := prog_12_method_45_code
def yX10_worth : MethodName := ⟨RX10, "worth", "(III)I"⟩
abbrev cX10_run : ByteArray := prog_12_method_46_code
def yX10_run : MethodName := ⟨RX10, "run", "(IJIII)I"⟩
abbrev cX10_all : ByteArray := prog_12_method_47_code
def yX10_all : MethodName := ⟨RX10, "all", "(IJII)I"⟩
abbrev cX10_endOf : ByteArray := prog_12_method_48_code
def yX10_endOf : MethodName := ⟨RX10, "endOf", "(IJII)I"⟩
abbrev cX10_without : ByteArray := prog_12_method_49_code
def yX10_without : MethodName := ⟨RX10, "without", "(IJII)I"⟩
abbrev cX10_isAsked : ByteArray := prog_12_method_50_code
def yX10_isAsked : MethodName := ⟨RX10, "isAsked", "(II)Z"⟩
abbrev cX10_did : ByteArray := prog_12_method_51_code
def yX10_did : MethodName := ⟨RX10, "did", "(IJI)I"⟩
abbrev cX10_lean : ByteArray := prog_12_method_52_code
def yX10_lean : MethodName := ⟨RX10, "lean", "(IJII)I"⟩
abbrev cX10_note : ByteArray := prog_12_method_53_code
def yX10_note : MethodName := ⟨RX10, "note", "(IIIII)I"⟩
abbrev cX10_isAlone : ByteArray := prog_12_method_54_code
def yX10_isAlone : MethodName := ⟨RX10, "isAlone", "(I)Z"⟩
abbrev cX10_isSo : ByteArray := prog_12_method_55_code
def yX10_isSo : MethodName := ⟨RX10, "isSo", "(I)Z"⟩
abbrev cX10_fitsAll : ByteArray := prog_12_method_56_code
def yX10_fitsAll : MethodName := ⟨RX10, "fitsAll", "(IJZ)Z"⟩
abbrev cX10_fits : ByteArray := prog_12_method_57_code
def yX10_fits : MethodName := ⟨RX10, "fits", "(JZ)I"⟩
abbrev cX10_books : ByteArray := prog_12_method_58_code
def yX10_books : MethodName := ⟨RX10, "books", "(IJI)I"⟩
abbrev cX10_odds : ByteArray := prog_12_method_59_code
def yX10_odds : MethodName := ⟨RX10, "odds", "(IJII)J"⟩
abbrev cX10_isLet : ByteArray := prog_12_method_60_code
def yX10_isLet : MethodName := ⟨RX10, "isLet", "(II)Z"⟩
abbrev cX10_isOutcome : ByteArray := prog_12_method_61_code
def yX10_isOutcome : MethodName := ⟨RX10, "isOutcome", "(I)Z"⟩
abbrev cX10_lets : ByteArray := prog_12_method_62_code
def yX10_lets : MethodName := ⟨RX10, "lets", "(II)I"⟩
abbrev cX10_barred : ByteArray := prog_12_method_63_code
def yX10_barred : MethodName := ⟨RX10, "barred", "(I)J"⟩
abbrev cX10_bars : ByteArray := prog_12_method_64_code
def yX10_bars : MethodName := ⟨RX10, "bars", "(I)I"⟩
abbrev cX10_bolder : ByteArray := prog_12_method_65_code
def yX10_bolder : MethodName := ⟨RX10, "bolder", "(II)I"⟩
abbrev cX10_say : ByteArray := prog_12_method_66_code
def yX10_say : MethodName := ⟨RX10, "say", "(II)Z"⟩
abbrev cX10_stayed : ByteArray := prog_12_method_67_code
def yX10_stayed : MethodName := ⟨RX10, "stayed", "(IJI)I"⟩
abbrev cX10_act : ByteArray := prog_12_method_68_code
def yX10_act : MethodName := ⟨RX10, "act", "(IIII)I"⟩
abbrev cX10_helps : ByteArray := prog_12_method_69_code
def yX10_helps : MethodName := ⟨RX10, "helps", "(IJII)Z"⟩
abbrev cX10_costOf : ByteArray := prog_12_method_70_code
def yX10_costOf : MethodName := ⟨RX10, "costOf", "(I)I"⟩
abbrev cX10_isLower : ByteArray := prog_12_method_71_code
def yX10_isLower : MethodName := ⟨RX10, "isLower", "(II)Z"⟩
abbrev cX10_isBefore : ByteArray := prog_12_method_72_code
def yX10_isBefore : MethodName := ⟨RX10, "isBefore", "(II)Z"⟩
abbrev cX10_help : ByteArray := prog_12_method_73_code
def yX10_help : MethodName := ⟨RX10, "help", "(IJII)I"⟩
abbrev cX10_holders : ByteArray := prog_12_method_74_code
def yX10_holders : MethodName := ⟨RX10, "holders", "(IJI)I"⟩
abbrev cX10_lookers : ByteArray := prog_12_method_75_code
def yX10_lookers : MethodName := ⟨RX10, "lookers", "(IJ)I"⟩
abbrev cX10_count : ByteArray := prog_12_method_76_code
def yX10_count : MethodName := ⟨RX10, "count", "(I)I"⟩
abbrev cJ11_isValidCodePoint_9a6ad : ByteArray := prog_15_method_11_code
def yJ11_isValidCodePoint_9a6ad : MethodName := ⟨RJ11, "isValidCodePoint", "(I)Z"⟩
abbrev cJ11_highSurrogate_5068e : ByteArray := prog_15_method_28_code
def yJ11_highSurrogate_5068e : MethodName := ⟨RJ11, "highSurrogate", "(I)C"⟩
abbrev cJ11_lowSurrogate_5068e : ByteArray := prog_15_method_29_code
def yJ11_lowSurrogate_5068e : MethodName := ⟨RJ11, "lowSurrogate", "(I)C"⟩
abbrev cJ6_compare_7cf53 : ByteArray := prog_19_method_40_code
def yJ6_compare_7cf53 : MethodName := ⟨RJ6, "compare", "(II)I"⟩
abbrev cJ6_bitCount_0f7a4 : ByteArray := prog_19_method_49_code
def yJ6_bitCount_0f7a4 : MethodName := ⟨RJ6, "bitCount", "(I)I"⟩
abbrev cJ13_bitCount_95d88 : ByteArray := prog_20_method_50_code
def yJ13_bitCount_95d88 : MethodName := ⟨RJ13, "bitCount", "(J)I"⟩
abbrev cJ9_abs_0f7a4 : ByteArray := prog_21_method_59_code
def yJ9_abs_0f7a4 : MethodName := ⟨RJ9, "abs", "(I)I"⟩
abbrev cJ9_max_7cf53 : ByteArray := prog_21_method_65_code
def yJ9_max_7cf53 : MethodName := ⟨RJ9, "max", "(II)I"⟩
abbrev cJ9_max_f86c9 : ByteArray := prog_21_method_66_code
def yJ9_max_f86c9 : MethodName := ⟨RJ9, "max", "(JJ)J"⟩
abbrev cJ9_min_7cf53 : ByteArray := prog_21_method_69_code
def yJ9_min_7cf53 : MethodName := ⟨RJ9, "min", "(II)I"⟩
abbrev cJ9_min_f86c9 : ByteArray := prog_21_method_70_code
def yJ9_min_f86c9 : MethodName := ⟨RJ9, "min", "(JJ)J"⟩
abbrev cJ0_length_8abf5 : ByteArray := prog_23_method_54_code
def yJ0_length_8abf5 : MethodName := ⟨RJ0, "length", "()I"⟩
abbrev cJ0_charAt_5068e : ByteArray := prog_23_method_56_code
def yJ0_charAt_5068e : MethodName := ⟨RJ0, "charAt", "(I)C"⟩
abbrev cJ0_indexOf_0f7a4 : ByteArray := prog_23_method_79_code
def yJ0_indexOf_0f7a4 : MethodName := ⟨RJ0, "indexOf", "(I)I"⟩
abbrev cJ0_indexOf_7cf53 : ByteArray := prog_23_method_80_code
def yJ0_indexOf_7cf53 : MethodName := ⟨RJ0, "indexOf", "(II)I"⟩
abbrev cJ0_coder_7d493 : ByteArray := prog_23_method_152_code
def yJ0_coder_7d493 : MethodName := ⟨RJ0, "coder", "()B"⟩
abbrev cJ0_isLatin1_aae02 : ByteArray := prog_23_method_154_code
def yJ0_isLatin1_aae02 : MethodName := ⟨RJ0, "isLatin1", "()Z"⟩
abbrev cJ0_checkIndex_df160 : ByteArray := prog_23_method_155_code
def yJ0_checkIndex_df160 : MethodName := ⟨RJ0, "checkIndex", "(II)V"⟩
abbrev cJ0_checkBoundsBeginEnd_23922 : ByteArray := prog_23_method_158_code
def yJ0_checkBoundsBeginEnd_23922 : MethodName := ⟨RJ0, "checkBoundsBeginEnd", "(III)V"⟩
abbrev cJ1_charAt_3b067 : ByteArray := prog_24_method_2_code
def yJ1_charAt_3b067 : MethodName := ⟨RJ1, "charAt", "([BI)C"⟩
abbrev cJ1_canEncode_9a6ad : ByteArray := prog_24_method_4_code
def yJ1_canEncode_9a6ad : MethodName := ⟨RJ1, "canEncode", "(I)Z"⟩
abbrev cJ1_indexOf_4cfef : ByteArray := prog_24_method_22_code
def yJ1_indexOf_4cfef : MethodName := ⟨RJ1, "indexOf", "([BIII)I"⟩
abbrev cJ1_indexOfChar_4cfef : ByteArray := prog_24_method_23_code
def yJ1_indexOfChar_4cfef : MethodName := ⟨RJ1, "indexOfChar", "([BIII)I"⟩
abbrev cJ2_getChar_3b067 : ByteArray := prog_25_method_5_code
def yJ2_getChar_3b067 : MethodName := ⟨RJ2, "getChar", "([BI)C"⟩
abbrev cJ2_length_9d52b : ByteArray := prog_25_method_6_code
def yJ2_length_9d52b : MethodName := ⟨RJ2, "length", "([B)I"⟩
abbrev cJ2_indexOf_4cfef : ByteArray := prog_25_method_40_code
def yJ2_indexOf_4cfef : MethodName := ⟨RJ2, "indexOf", "([BIII)I"⟩
abbrev cJ2_indexOfChar_4cfef : ByteArray := prog_25_method_47_code
def yJ2_indexOfChar_4cfef : MethodName := ⟨RJ2, "indexOfChar", "([BIII)I"⟩
abbrev cJ2_indexOfCharUnsafe_4cfef : ByteArray := prog_25_method_48_code
def yJ2_indexOfCharUnsafe_4cfef : MethodName := ⟨RJ2, "indexOfCharUnsafe", "([BIII)I"⟩
abbrev cJ2_indexOfSupplementary_4cfef : ByteArray := prog_25_method_49_code
def yJ2_indexOfSupplementary_4cfef : MethodName := ⟨RJ2, "indexOfSupplementary", "([BIII)I"⟩
abbrev cJ2_charAt_3b067 : ByteArray := prog_25_method_83_code
def yJ2_charAt_3b067 : MethodName := ⟨RJ2, "charAt", "([BI)C"⟩
abbrev cJ2_checkIndex_2214a : ByteArray := prog_25_method_91_code
def yJ2_checkIndex_2214a : MethodName := ⟨RJ2, "checkIndex", "(I[B)V"⟩
abbrev cJ2_checkBoundsBeginEnd_d044e : ByteArray := prog_25_method_93_code
def yJ2_checkBoundsBeginEnd_d044e : MethodName := ⟨RJ2, "checkBoundsBeginEnd", "(II[B)V"⟩
abbrev cJ7_fill_d0a16 : ByteArray := prog_30_method_101_code
def yJ7_fill_d0a16 : MethodName := ⟨RJ7, "fill", "([JJ)V"⟩
abbrev cJ7_fill_53178 : ByteArray := prog_30_method_103_code
def yJ7_fill_53178 : MethodName := ⟨RJ7, "fill", "([II)V"⟩
abbrev cJ7_copyOf_59c91 : ByteArray := prog_30_method_123_code
def yJ7_copyOf_59c91 : MethodName := ⟨RJ7, "copyOf", "([II)[I"⟩
abbrev cJ3_checkIndex_8e157 : ByteArray := prog_32_method_11_code
def yJ3_checkIndex_8e157 : MethodName := ⟨RJ3, "checkIndex", "(IILjava/util/function/BiFunction;)I"⟩
abbrev cJ3_checkFromToIndex_8c36e : ByteArray := prog_32_method_12_code
def yJ3_checkFromToIndex_8c36e : MethodName := ⟨RJ3, "checkFromToIndex", "(IIILjava/util/function/BiFunction;)I"⟩
abbrev cL_worth : ByteArray := method_3_code
def yL_worth : MethodName := ⟨RL, "worth", "(LNotEnded;III[J)I"⟩
abbrev cL_law : ByteArray := code
def yL_law : MethodName := ⟨RL, "law", "([I)Z"⟩
end
section
theorem dX9_isIn_0 : decode cX9_isIn 0 = .ok (.iload_n 0, 1) := by decide +kernel
theorem dX9_isIn_1 : decode cX9_isIn 1 = .ok (.iload_n 1, 1) := by decide +kernel
theorem dX9_isIn_2 : decode cX9_isIn 2 = .ok (.if_icmp .lt 12, 3) := by decide +kernel
theorem dX9_isIn_14 : decode cX9_isIn 14 = .ok (.iconst 0, 1) := by decide +kernel
theorem dX9_isIn_15 : decode cX9_isIn 15 = .ok (.ireturn, 1) := by decide +kernel
theorem dX9_isIn_5 : decode cX9_isIn 5 = .ok (.iload_n 0, 1) := by decide +kernel
theorem dX9_isIn_6 : decode cX9_isIn 6 = .ok (.iload_n 2, 1) := by decide +kernel
theorem dX9_isIn_7 : decode cX9_isIn 7 = .ok (.if_icmp .gt 7, 3) := by decide +kernel
theorem dX9_isIn_10 : decode cX9_isIn 10 = .ok (.iconst 1, 1) := by decide +kernel
theorem dX9_isIn_11 : decode cX9_isIn 11 = .ok (.goto 4, 3) := by decide +kernel
theorem dX10_isIn_0 : decode cX10_isIn 0 = .ok (.iload_n 0, 1) := by decide +kernel
theorem dX10_isIn_1 : decode cX10_isIn 1 = .ok (.iload_n 1, 1) := by decide +kernel
theorem dX10_isIn_2 : decode cX10_isIn 2 = .ok (.if_icmp .lt 12, 3) := by decide +kernel
theorem dX10_isIn_14 : decode cX10_isIn 14 = .ok (.iconst 0, 1) := by decide +kernel
theorem dX10_isIn_15 : decode cX10_isIn 15 = .ok (.ireturn, 1) := by decide +kernel
theorem dX10_isIn_5 : decode cX10_isIn 5 = .ok (.iload_n 0, 1) := by decide +kernel
theorem dX10_isIn_6 : decode cX10_isIn 6 = .ok (.iload_n 2, 1) := by decide +kernel
theorem dX10_isIn_7 : decode cX10_isIn 7 = .ok (.if_icmp .gt 7, 3) := by decide +kernel
theorem dX10_isIn_10 : decode cX10_isIn 10 = .ok (.iconst 1, 1) := by decide +kernel
theorem dX10_isIn_11 : decode cX10_isIn 11 = .ok (.goto 4, 3) := by decide +kernel
theorem dX7_at_0 : decode cX7_at 0 = .ok (.iload_n 1, 1) := by decide +kernel
theorem dX7_at_1 : decode cX7_at 1 = .ok (.ifCond .lt 29, 3) := by decide +kernel
theorem dX7_at_30 : decode cX7_at 30 = .ok (.aconst_null, 1) := by decide +kernel
theorem dX7_at_31 : decode cX7_at 31 = .ok (.areturn, 1) := by decide +kernel
theorem dX7_at_4 : decode cX7_at 4 = .ok (.iload_n 1, 1) := by decide +kernel
theorem dX7_at_5 : decode cX7_at 5 = .ok (.aload_n 0, 1) := by decide +kernel
theorem dX7_at_6 : decode cX7_at 6 = .ok (.getfield 9, 3) := by decide +kernel
theorem dX7_at_9 : decode cX7_at 9 = .ok (.if_icmp .ge 21, 3) := by decide +kernel
theorem dX2_has_0 : decode cX2_has 0 = .ok (.iload_n 1, 1) := by decide +kernel
theorem dX2_has_1 : decode cX2_has 1 = .ok (.ifCond .lt 21, 3) := by decide +kernel
theorem dX2_has_22 : decode cX2_has 22 = .ok (.iconst 0, 1) := by decide +kernel
theorem dX2_has_23 : decode cX2_has 23 = .ok (.ireturn, 1) := by decide +kernel
theorem dX2_has_4 : decode cX2_has 4 = .ok (.iload_n 1, 1) := by decide +kernel
theorem dX2_has_5 : decode cX2_has 5 = .ok (.aload_n 0, 1) := by decide +kernel
theorem dX2_has_6 : decode cX2_has 6 = .ok (.getfield 31, 3) := by decide +kernel
theorem dX2_has_9 : decode cX2_has 9 = .ok (.if_icmp .ge 13, 3) := by decide +kernel
theorem dX9_run_0 : decode cX9_run 0 = .ok (.aload_n 0, 1) := by decide +kernel
theorem dX9_run_1 : decode cX9_run 1 = .ok (.getfield 37, 3) := by decide +kernel
theorem dX9_run_4 : decode cX9_run 4 = .ok (.iload_n 1, 1) := by decide +kernel
theorem dX9_run_5 : decode cX9_run 5 = .ok (.invokevirtual 138, 3) := by decide +kernel
theorem dX9_run_8 : decode cX9_run 8 = .ok (.astore 7, 2) := by decide +kernel
theorem dX9_run_10 : decode cX9_run 10 = .ok (.aload 7, 2) := by decide +kernel
theorem dX9_run_12 : decode cX9_run 12 = .ok (.ifnull 36, 3) := by decide +kernel
theorem dX9_run_48 : decode cX9_run 48 = .ok (.sipush (-1000), 3) := by decide +kernel
theorem dX9_run_51 : decode cX9_run 51 = .ok (.ireturn, 1) := by decide +kernel
theorem dX9_all_0 : decode cX9_all 0 = .ok (.aload_n 0, 1) := by decide +kernel
theorem dX9_all_1 : decode cX9_all 1 = .ok (.getfield 37, 3) := by decide +kernel
theorem dX9_all_4 : decode cX9_all 4 = .ok (.iload_n 1, 1) := by decide +kernel
theorem dX9_all_5 : decode cX9_all 5 = .ok (.invokevirtual 138, 3) := by decide +kernel
theorem dX9_all_8 : decode cX9_all 8 = .ok (.astore 6, 2) := by decide +kernel
theorem dX9_all_10 : decode cX9_all 10 = .ok (.aload 6, 2) := by decide +kernel
theorem dX9_all_12 : decode cX9_all 12 = .ok (.ifnull 24, 3) := by decide +kernel
theorem dX9_all_36 : decode cX9_all 36 = .ok (.iconst (-1), 1) := by decide +kernel
theorem dX9_all_37 : decode cX9_all 37 = .ok (.ireturn, 1) := by decide +kernel
theorem dX9_without_0 : decode cX9_without 0 = .ok (.aload_n 0, 1) := by decide +kernel
theorem dX9_without_1 : decode cX9_without 1 = .ok (.getfield 37, 3) := by decide +kernel
theorem dX9_without_4 : decode cX9_without 4 = .ok (.iload_n 1, 1) := by decide +kernel
theorem dX9_without_5 : decode cX9_without 5 = .ok (.invokevirtual 138, 3) := by decide +kernel
theorem dX9_without_8 : decode cX9_without 8 = .ok (.astore 6, 2) := by decide +kernel
theorem dX9_without_10 : decode cX9_without 10 = .ok (.aload 6, 2) := by decide +kernel
theorem dX9_without_12 : decode cX9_without 12 = .ok (.ifnull 37, 3) := by decide +kernel
theorem dX9_without_49 : decode cX9_without 49 = .ok (.sipush (-1000), 3) := by decide +kernel
theorem dX9_without_52 : decode cX9_without 52 = .ok (.ireturn, 1) := by decide +kernel
theorem dX9_did_0 : decode cX9_did 0 = .ok (.aload_n 0, 1) := by decide +kernel
theorem dX9_did_1 : decode cX9_did 1 = .ok (.getfield 37, 3) := by decide +kernel
theorem dX9_did_4 : decode cX9_did 4 = .ok (.iload_n 1, 1) := by decide +kernel
theorem dX9_did_5 : decode cX9_did 5 = .ok (.invokevirtual 138, 3) := by decide +kernel
theorem dX9_did_8 : decode cX9_did 8 = .ok (.astore 5, 2) := by decide +kernel
theorem dX9_did_10 : decode cX9_did 10 = .ok (.aload 5, 2) := by decide +kernel
theorem dX9_did_12 : decode cX9_did 12 = .ok (.ifnull 27, 3) := by decide +kernel
theorem dX9_did_39 : decode cX9_did 39 = .ok (.sipush (-1000), 3) := by decide +kernel
theorem dX9_did_42 : decode cX9_did 42 = .ok (.ireturn, 1) := by decide +kernel
theorem dX9_lean_0 : decode cX9_lean 0 = .ok (.aload_n 0, 1) := by decide +kernel
theorem dX9_lean_1 : decode cX9_lean 1 = .ok (.getfield 37, 3) := by decide +kernel
theorem dX9_lean_4 : decode cX9_lean 4 = .ok (.iload_n 1, 1) := by decide +kernel
theorem dX9_lean_5 : decode cX9_lean 5 = .ok (.invokevirtual 138, 3) := by decide +kernel
theorem dX9_lean_8 : decode cX9_lean 8 = .ok (.astore 6, 2) := by decide +kernel
theorem dX9_lean_10 : decode cX9_lean 10 = .ok (.aload 6, 2) := by decide +kernel
theorem dX9_lean_12 : decode cX9_lean 12 = .ok (.ifnull 37, 3) := by decide +kernel
theorem dX9_lean_49 : decode cX9_lean 49 = .ok (.sipush (-1000), 3) := by decide +kernel
theorem dX9_lean_52 : decode cX9_lean 52 = .ok (.ireturn, 1) := by decide +kernel
theorem dX9_books_0 : decode cX9_books 0 = .ok (.aload_n 0, 1) := by decide +kernel
theorem dX9_books_1 : decode cX9_books 1 = .ok (.getfield 37, 3) := by decide +kernel
theorem dX9_books_4 : decode cX9_books 4 = .ok (.iload_n 1, 1) := by decide +kernel
theorem dX9_books_5 : decode cX9_books 5 = .ok (.invokevirtual 138, 3) := by decide +kernel
theorem dX9_books_8 : decode cX9_books 8 = .ok (.astore 5, 2) := by decide +kernel
theorem dX9_books_10 : decode cX9_books 10 = .ok (.aload 5, 2) := by decide +kernel
theorem dX9_books_12 : decode cX9_books 12 = .ok (.ifnull 13, 3) := by decide +kernel
theorem dX9_books_25 : decode cX9_books 25 = .ok (.sipush (-1000), 3) := by decide +kernel
theorem dX9_books_28 : decode cX9_books 28 = .ok (.ireturn, 1) := by decide +kernel
theorem dX9_stayed_0 : decode cX9_stayed 0 = .ok (.aload_n 0, 1) := by decide +kernel
theorem dX9_stayed_1 : decode cX9_stayed 1 = .ok (.getfield 37, 3) := by decide +kernel
theorem dX9_stayed_4 : decode cX9_stayed 4 = .ok (.iload_n 1, 1) := by decide +kernel
theorem dX9_stayed_5 : decode cX9_stayed 5 = .ok (.invokevirtual 138, 3) := by decide +kernel
theorem dX9_stayed_8 : decode cX9_stayed 8 = .ok (.astore 5, 2) := by decide +kernel
theorem dX9_stayed_10 : decode cX9_stayed 10 = .ok (.aload 5, 2) := by decide +kernel
theorem dX9_stayed_12 : decode cX9_stayed 12 = .ok (.ifnull 11, 3) := by decide +kernel
theorem dX9_stayed_23 : decode cX9_stayed 23 = .ok (.iconst (-1), 1) := by decide +kernel
theorem dX9_stayed_24 : decode cX9_stayed 24 = .ok (.ireturn, 1) := by decide +kernel
theorem dX9_help_0 : decode cX9_help 0 = .ok (.aload_n 0, 1) := by decide +kernel
theorem dX9_help_1 : decode cX9_help 1 = .ok (.getfield 37, 3) := by decide +kernel
theorem dX9_help_4 : decode cX9_help 4 = .ok (.iload_n 1, 1) := by decide +kernel
theorem dX9_help_5 : decode cX9_help 5 = .ok (.invokevirtual 138, 3) := by decide +kernel
theorem dX9_help_8 : decode cX9_help 8 = .ok (.astore 6, 2) := by decide +kernel
theorem dX9_help_10 : decode cX9_help 10 = .ok (.aload 6, 2) := by decide +kernel
theorem dX9_help_12 : decode cX9_help 12 = .ok (.ifnull 25, 3) := by decide +kernel
theorem dX9_help_37 : decode cX9_help 37 = .ok (.iconst (-1), 1) := by decide +kernel
theorem dX9_help_38 : decode cX9_help 38 = .ok (.ireturn, 1) := by decide +kernel
theorem dX9_lookers_0 : decode cX9_lookers 0 = .ok (.aload_n 0, 1) := by decide +kernel
theorem dX9_lookers_1 : decode cX9_lookers 1 = .ok (.getfield 37, 3) := by decide +kernel
theorem dX9_lookers_4 : decode cX9_lookers 4 = .ok (.iload_n 1, 1) := by decide +kernel
theorem dX9_lookers_5 : decode cX9_lookers 5 = .ok (.invokevirtual 138, 3) := by decide +kernel
theorem dX9_lookers_8 : decode cX9_lookers 8 = .ok (.astore 4, 2) := by decide +kernel
theorem dX9_lookers_10 : decode cX9_lookers 10 = .ok (.aload 4, 2) := by decide +kernel
theorem dX9_lookers_12 : decode cX9_lookers 12 = .ok (.ifnonnull 5, 3) := by decide +kernel
theorem dX9_lookers_15 : decode cX9_lookers 15 = .ok (.iconst (-1), 1) := by decide +kernel
theorem dX9_lookers_16 : decode cX9_lookers 16 = .ok (.ireturn, 1) := by decide +kernel
theorem dX9_odds_0 : decode cX9_odds 0 = .ok (.aload_n 0, 1) := by decide +kernel
theorem dX9_odds_1 : decode cX9_odds 1 = .ok (.getfield 37, 3) := by decide +kernel
theorem dX9_odds_4 : decode cX9_odds 4 = .ok (.iload_n 1, 1) := by decide +kernel
theorem dX9_odds_5 : decode cX9_odds 5 = .ok (.invokevirtual 138, 3) := by decide +kernel
theorem dX9_odds_8 : decode cX9_odds 8 = .ok (.astore 6, 2) := by decide +kernel
theorem dX9_odds_10 : decode cX9_odds 10 = .ok (.aload 6, 2) := by decide +kernel
theorem dX9_odds_12 : decode cX9_odds 12 = .ok (.ifnull 25, 3) := by decide +kernel
theorem dX9_odds_37 : decode cX9_odds 37 = .ok (.ldc2_w 217, 3) := by decide +kernel
theorem dX9_odds_40 : decode cX9_odds 40 = .ok (.lreturn, 1) := by decide +kernel
theorem dX9_lets_0 : decode cX9_lets 0 = .ok (.aload_n 0, 1) := by decide +kernel
theorem dX9_lets_1 : decode cX9_lets 1 = .ok (.getfield 41, 3) := by decide +kernel
theorem dX9_lets_4 : decode cX9_lets 4 = .ok (.iload_n 1, 1) := by decide +kernel
theorem dX9_lets_5 : decode cX9_lets 5 = .ok (.invokevirtual 138, 3) := by decide +kernel
theorem dX9_lets_8 : decode cX9_lets 8 = .ok (.astore_n 3, 1) := by decide +kernel
theorem dX9_lets_9 : decode cX9_lets 9 = .ok (.aload_n 3, 1) := by decide +kernel
theorem dX9_lets_10 : decode cX9_lets 10 = .ok (.ifnull 10, 3) := by decide +kernel
theorem dX9_lets_20 : decode cX9_lets 20 = .ok (.iconst (-1), 1) := by decide +kernel
theorem dX9_lets_21 : decode cX9_lets 21 = .ok (.ireturn, 1) := by decide +kernel
theorem dX9_bars_0 : decode cX9_bars 0 = .ok (.aload_n 0, 1) := by decide +kernel
theorem dX9_bars_1 : decode cX9_bars 1 = .ok (.getfield 41, 3) := by decide +kernel
theorem dX9_bars_4 : decode cX9_bars 4 = .ok (.iload_n 1, 1) := by decide +kernel
theorem dX9_bars_5 : decode cX9_bars 5 = .ok (.invokevirtual 138, 3) := by decide +kernel
theorem dX9_bars_8 : decode cX9_bars 8 = .ok (.astore_n 2, 1) := by decide +kernel
theorem dX9_bars_9 : decode cX9_bars 9 = .ok (.aload_n 2, 1) := by decide +kernel
theorem dX9_bars_10 : decode cX9_bars 10 = .ok (.ifnonnull 7, 3) := by decide +kernel
theorem dX9_bars_13 : decode cX9_bars 13 = .ok (.iconst (-1), 1) := by decide +kernel
theorem dX9_bars_14 : decode cX9_bars 14 = .ok (.goto 11, 3) := by decide +kernel
theorem dX9_bars_25 : decode cX9_bars 25 = .ok (.ireturn, 1) := by decide +kernel
theorem dX9_bolder_0 : decode cX9_bolder 0 = .ok (.aload_n 0, 1) := by decide +kernel
theorem dX9_bolder_1 : decode cX9_bolder 1 = .ok (.getfield 41, 3) := by decide +kernel
theorem dX9_bolder_4 : decode cX9_bolder 4 = .ok (.iload_n 1, 1) := by decide +kernel
theorem dX9_bolder_5 : decode cX9_bolder 5 = .ok (.invokevirtual 138, 3) := by decide +kernel
theorem dX9_bolder_8 : decode cX9_bolder 8 = .ok (.astore_n 3, 1) := by decide +kernel
theorem dX9_bolder_9 : decode cX9_bolder 9 = .ok (.aload_n 0, 1) := by decide +kernel
theorem dX9_bolder_10 : decode cX9_bolder 10 = .ok (.getfield 41, 3) := by decide +kernel
theorem dX9_bolder_13 : decode cX9_bolder 13 = .ok (.iload_n 2, 1) := by decide +kernel
theorem dX9_bolder_14 : decode cX9_bolder 14 = .ok (.invokevirtual 138, 3) := by decide +kernel
theorem dX9_bolder_17 : decode cX9_bolder 17 = .ok (.astore 4, 2) := by decide +kernel
theorem dX9_bolder_19 : decode cX9_bolder 19 = .ok (.aload_n 3, 1) := by decide +kernel
theorem dX9_bolder_20 : decode cX9_bolder 20 = .ok (.ifnull 8, 3) := by decide +kernel
theorem dX9_bolder_28 : decode cX9_bolder 28 = .ok (.iconst (-1), 1) := by decide +kernel
theorem dX9_bolder_29 : decode cX9_bolder 29 = .ok (.ireturn, 1) := by decide +kernel
theorem dX9_know_0 : decode cX9_know 0 = .ok (.aload_n 0, 1) := by decide +kernel
theorem dX9_know_1 : decode cX9_know 1 = .ok (.getfield 47, 3) := by decide +kernel
theorem dX9_know_4 : decode cX9_know 4 = .ok (.iload_n 1, 1) := by decide +kernel
theorem dX9_know_5 : decode cX9_know 5 = .ok (.invokevirtual 128, 3) := by decide +kernel
theorem dX9_know_8 : decode cX9_know 8 = .ok (.ifCond .eq 19, 3) := by decide +kernel
theorem dX9_know_27 : decode cX9_know 27 = .ok (.iconst 0, 1) := by decide +kernel
theorem dX9_know_28 : decode cX9_know 28 = .ok (.ireturn, 1) := by decide +kernel
theorem dX9_note_0 : decode cX9_note 0 = .ok (.aload_n 0, 1) := by decide +kernel
theorem dX9_note_1 : decode cX9_note 1 = .ok (.getfield 47, 3) := by decide +kernel
theorem dX9_note_4 : decode cX9_note 4 = .ok (.iload_n 1, 1) := by decide +kernel
theorem dX9_note_5 : decode cX9_note 5 = .ok (.invokevirtual 128, 3) := by decide +kernel
theorem dX9_note_8 : decode cX9_note 8 = .ok (.ifCond .eq 13, 3) := by decide +kernel
theorem dX9_note_21 : decode cX9_note 21 = .ok (.iconst (-1), 1) := by decide +kernel
theorem dX9_note_22 : decode cX9_note 22 = .ok (.ireturn, 1) := by decide +kernel
theorem dX9_say_0 : decode cX9_say 0 = .ok (.aload_n 0, 1) := by decide +kernel
theorem dX9_say_1 : decode cX9_say 1 = .ok (.getfield 47, 3) := by decide +kernel
theorem dX9_say_4 : decode cX9_say 4 = .ok (.iload_n 1, 1) := by decide +kernel
theorem dX9_say_5 : decode cX9_say 5 = .ok (.invokevirtual 128, 3) := by decide +kernel
theorem dX9_say_8 : decode cX9_say 8 = .ok (.ifCond .eq 19, 3) := by decide +kernel
theorem dX9_say_27 : decode cX9_say 27 = .ok (.iconst 0, 1) := by decide +kernel
theorem dX9_say_28 : decode cX9_say 28 = .ok (.ireturn, 1) := by decide +kernel
theorem dX9_act_0 : decode cX9_act 0 = .ok (.aload_n 0, 1) := by decide +kernel
theorem dX9_act_1 : decode cX9_act 1 = .ok (.getfield 47, 3) := by decide +kernel
theorem dX9_act_4 : decode cX9_act 4 = .ok (.iload_n 1, 1) := by decide +kernel
theorem dX9_act_5 : decode cX9_act 5 = .ok (.invokevirtual 128, 3) := by decide +kernel
theorem dX9_act_8 : decode cX9_act 8 = .ok (.ifCond .eq 25, 3) := by decide +kernel
theorem dX9_act_33 : decode cX9_act 33 = .ok (.iconst (-1), 1) := by decide +kernel
theorem dX9_act_34 : decode cX9_act 34 = .ok (.ireturn, 1) := by decide +kernel
theorem dX7_size_0 : decode cX7_size 0 = .ok (.aload_n 0, 1) := by decide +kernel
theorem dX7_size_1 : decode cX7_size 1 = .ok (.getfield 9, 3) := by decide +kernel
theorem dX7_size_4 : decode cX7_size 4 = .ok (.ireturn, 1) := by decide +kernel
theorem dX2_size_0 : decode cX2_size 0 = .ok (.aload_n 0, 1) := by decide +kernel
theorem dX2_size_1 : decode cX2_size 1 = .ok (.getfield 31, 3) := by decide +kernel
theorem dX2_size_4 : decode cX2_size 4 = .ok (.ireturn, 1) := by decide +kernel
theorem dX2_words_0 : decode cX2_words 0 = .ok (.aload_n 0, 1) := by decide +kernel
theorem dX2_words_1 : decode cX2_words 1 = .ok (.getfield 34, 3) := by decide +kernel
theorem dX2_words_4 : decode cX2_words 4 = .ok (.ireturn, 1) := by decide +kernel
theorem dX3_size_0 : decode cX3_size 0 = .ok (.aload_n 0, 1) := by decide +kernel
theorem dX3_size_1 : decode cX3_size 1 = .ok (.getfield 27, 3) := by decide +kernel
theorem dX3_size_4 : decode cX3_size 4 = .ok (.ireturn, 1) := by decide +kernel
theorem dX0_size_0 : decode cX0_size 0 = .ok (.aload_n 0, 1) := by decide +kernel
theorem dX0_size_1 : decode cX0_size 1 = .ok (.getfield 24, 3) := by decide +kernel
theorem dX0_size_4 : decode cX0_size 4 = .ok (.ireturn, 1) := by decide +kernel
theorem dX8_length_0 : decode cX8_length 0 = .ok (.aload_n 0, 1) := by decide +kernel
theorem dX8_length_1 : decode cX8_length 1 = .ok (.getfield 15, 3) := by decide +kernel
theorem dX8_length_4 : decode cX8_length 4 = .ok (.ireturn, 1) := by decide +kernel
theorem dX2_everybody_0 : decode cX2_everybody 0 = .ok (.iconst 1, 1) := by decide +kernel
theorem dX2_everybody_1 : decode cX2_everybody 1 = .ok (.aload_n 0, 1) := by decide +kernel
theorem dX2_everybody_2 : decode cX2_everybody 2 = .ok (.getfield 31, 3) := by decide +kernel
theorem dX2_everybody_5 : decode cX2_everybody 5 = .ok (.ishl, 1) := by decide +kernel
theorem dX2_everybody_6 : decode cX2_everybody 6 = .ok (.iconst 1, 1) := by decide +kernel
theorem dX2_everybody_7 : decode cX2_everybody 7 = .ok (.isub, 1) := by decide +kernel
theorem dX2_everybody_8 : decode cX2_everybody 8 = .ok (.ireturn, 1) := by decide +kernel
theorem dX2_thoseAlone_0 : decode cX2_thoseAlone 0 = .ok (.aload_n 0, 1) := by decide +kernel
theorem dX2_thoseAlone_1 : decode cX2_thoseAlone 1 = .ok (.invokevirtual 41, 3) := by decide +kernel
theorem dX2_thoseAlone_4 : decode cX2_thoseAlone 4 = .ok (.istore_n 1, 1) := by decide +kernel
theorem dX2_thoseAlone_5 : decode cX2_thoseAlone 5 = .ok (.iconst 0, 1) := by decide +kernel
theorem dX2_thoseAlone_6 : decode cX2_thoseAlone 6 = .ok (.istore_n 2, 1) := by decide +kernel
theorem dX2_thoseAlone_7 : decode cX2_thoseAlone 7 = .ok (.iload_n 2, 1) := by decide +kernel
theorem dX2_thoseAlone_8 : decode cX2_thoseAlone 8 = .ok (.aload_n 0, 1) := by decide +kernel
theorem dX2_thoseAlone_9 : decode cX2_thoseAlone 9 = .ok (.getfield 31, 3) := by decide +kernel
theorem dX2_thoseAlone_12 : decode cX2_thoseAlone 12 = .ok (.if_icmp .ge 53, 3) := by decide +kernel
theorem dX2_thoseAlone_65 : decode cX2_thoseAlone 65 = .ok (.iload_n 1, 1) := by decide +kernel
theorem dX2_thoseAlone_66 : decode cX2_thoseAlone 66 = .ok (.ireturn, 1) := by decide +kernel
theorem dX9_isHouse_0 : decode cX9_isHouse 0 = .ok (.iload_n 0, 1) := by decide +kernel
theorem dX9_isHouse_1 : decode cX9_isHouse 1 = .ok (.iconst 0, 1) := by decide +kernel
theorem dX9_isHouse_2 : decode cX9_isHouse 2 = .ok (.iconst 3, 1) := by decide +kernel
theorem dX9_isHouse_3 : decode cX9_isHouse 3 = .ok (.invokestatic 117, 3) := by decide +kernel
theorem dX9_isHouse_6 : decode cX9_isHouse 6 = .ok (.ireturn, 1) := by decide +kernel
theorem dX9_isSort_0 : decode cX9_isSort 0 = .ok (.iload_n 0, 1) := by decide +kernel
theorem dX9_isSort_1 : decode cX9_isSort 1 = .ok (.ifCond .eq 8, 3) := by decide +kernel
theorem dX9_isSort_9 : decode cX9_isSort 9 = .ok (.iconst 1, 1) := by decide +kernel
theorem dX9_isSort_10 : decode cX9_isSort 10 = .ok (.goto 4, 3) := by decide +kernel
theorem dX9_isSort_14 : decode cX9_isSort 14 = .ok (.ireturn, 1) := by decide +kernel
theorem dX9_isSort_4 : decode cX9_isSort 4 = .ok (.iload_n 0, 1) := by decide +kernel
theorem dX9_isSort_5 : decode cX9_isSort 5 = .ok (.iconst 1, 1) := by decide +kernel
theorem dX9_isSort_6 : decode cX9_isSort 6 = .ok (.if_icmp .ne 7, 3) := by decide +kernel
theorem dX9_isSort_13 : decode cX9_isSort 13 = .ok (.iconst 0, 1) := by decide +kernel
theorem dX9_within_0 : decode cX9_within 0 = .ok (.iload_n 0, 1) := by decide +kernel
theorem dX9_within_1 : decode cX9_within 1 = .ok (.iload_n 1, 1) := by decide +kernel
theorem dX9_within_2 : decode cX9_within 2 = .ok (.if_icmp .ge 5, 3) := by decide +kernel
theorem dX9_within_7 : decode cX9_within 7 = .ok (.iload_n 0, 1) := by decide +kernel
theorem dX9_within_8 : decode cX9_within 8 = .ok (.iload_n 2, 1) := by decide +kernel
theorem dX9_within_9 : decode cX9_within 9 = .ok (.if_icmp .le 7, 3) := by decide +kernel
theorem dX9_within_16 : decode cX9_within 16 = .ok (.iload_n 0, 1) := by decide +kernel
theorem dX9_within_17 : decode cX9_within 17 = .ok (.ireturn, 1) := by decide +kernel
theorem dX9_within_12 : decode cX9_within 12 = .ok (.iload_n 2, 1) := by decide +kernel
theorem dX9_within_13 : decode cX9_within 13 = .ok (.goto 4, 3) := by decide +kernel
theorem dX9_within_5 : decode cX9_within 5 = .ok (.iload_n 1, 1) := by decide +kernel
theorem dX9_within_6 : decode cX9_within 6 = .ok (.ireturn, 1) := by decide +kernel
theorem dX8_bytesIn_0 : decode cX8_bytesIn 0 = .ok (.iconst 0, 1) := by decide +kernel
theorem dX8_bytesIn_1 : decode cX8_bytesIn 1 = .ok (.istore_n 1, 1) := by decide +kernel
theorem dX8_bytesIn_2 : decode cX8_bytesIn 2 = .ok (.bipush 24, 2) := by decide +kernel
theorem dX8_bytesIn_4 : decode cX8_bytesIn 4 = .ok (.istore_n 2, 1) := by decide +kernel
theorem dX8_bytesIn_5 : decode cX8_bytesIn 5 = .ok (.iload_n 2, 1) := by decide +kernel
theorem dX8_bytesIn_6 : decode cX8_bytesIn 6 = .ok (.ifCond .lt 22, 3) := by decide +kernel
theorem dX8_bytesIn_9 : decode cX8_bytesIn 9 = .ok (.iload_n 0, 1) := by decide +kernel
theorem dX8_bytesIn_10 : decode cX8_bytesIn 10 = .ok (.iload_n 2, 1) := by decide +kernel
theorem dX8_bytesIn_11 : decode cX8_bytesIn 11 = .ok (.iushr, 1) := by decide +kernel
theorem dX8_bytesIn_12 : decode cX8_bytesIn 12 = .ok (.sipush 255, 3) := by decide +kernel
theorem dX8_bytesIn_15 : decode cX8_bytesIn 15 = .ok (.iand, 1) := by decide +kernel
theorem dX8_bytesIn_16 : decode cX8_bytesIn 16 = .ok (.ifCond .eq 6, 3) := by decide +kernel
theorem dX8_bytesIn_22 : decode cX8_bytesIn 22 = .ok (.iinc 2 (-8), 3) := by decide +kernel
theorem dX8_bytesIn_25 : decode cX8_bytesIn 25 = .ok (.goto (-20), 3) := by decide +kernel
theorem dX8_bytesIn_28 : decode cX8_bytesIn 28 = .ok (.iload_n 1, 1) := by decide +kernel
theorem dX8_bytesIn_29 : decode cX8_bytesIn 29 = .ok (.ireturn, 1) := by decide +kernel
theorem dX8_bytesIn_19 : decode cX8_bytesIn 19 = .ok (.iinc 1 1, 3) := by decide +kernel
theorem dX10_bytesIn_0 : decode cX10_bytesIn 0 = .ok (.iconst 0, 1) := by decide +kernel
theorem dX10_bytesIn_1 : decode cX10_bytesIn 1 = .ok (.istore_n 1, 1) := by decide +kernel
theorem dX10_bytesIn_2 : decode cX10_bytesIn 2 = .ok (.bipush 24, 2) := by decide +kernel
theorem dX10_bytesIn_4 : decode cX10_bytesIn 4 = .ok (.istore_n 2, 1) := by decide +kernel
theorem dX10_bytesIn_5 : decode cX10_bytesIn 5 = .ok (.iload_n 2, 1) := by decide +kernel
theorem dX10_bytesIn_6 : decode cX10_bytesIn 6 = .ok (.ifCond .lt 27, 3) := by decide +kernel
theorem dX10_bytesIn_9 : decode cX10_bytesIn 9 = .ok (.iload_n 1, 1) := by decide +kernel
theorem dX10_bytesIn_10 : decode cX10_bytesIn 10 = .ok (.iload_n 0, 1) := by decide +kernel
theorem dX10_bytesIn_11 : decode cX10_bytesIn 11 = .ok (.iload_n 2, 1) := by decide +kernel
theorem dX10_bytesIn_12 : decode cX10_bytesIn 12 = .ok (.ishr, 1) := by decide +kernel
theorem dX10_bytesIn_13 : decode cX10_bytesIn 13 = .ok (.sipush 255, 3) := by decide +kernel
theorem dX10_bytesIn_16 : decode cX10_bytesIn 16 = .ok (.iand, 1) := by decide +kernel
theorem dX10_bytesIn_17 : decode cX10_bytesIn 17 = .ok (.ifCond .eq 7, 3) := by decide +kernel
theorem dX10_bytesIn_24 : decode cX10_bytesIn 24 = .ok (.iconst 0, 1) := by decide +kernel
theorem dX10_bytesIn_25 : decode cX10_bytesIn 25 = .ok (.iadd, 1) := by decide +kernel
theorem dX10_bytesIn_26 : decode cX10_bytesIn 26 = .ok (.istore_n 1, 1) := by decide +kernel
theorem dX10_bytesIn_27 : decode cX10_bytesIn 27 = .ok (.iinc 2 (-8), 3) := by decide +kernel
theorem dX10_bytesIn_30 : decode cX10_bytesIn 30 = .ok (.goto (-25), 3) := by decide +kernel
theorem dX10_bytesIn_33 : decode cX10_bytesIn 33 = .ok (.iload_n 1, 1) := by decide +kernel
theorem dX10_bytesIn_34 : decode cX10_bytesIn 34 = .ok (.ireturn, 1) := by decide +kernel
theorem dX10_bytesIn_20 : decode cX10_bytesIn 20 = .ok (.iconst 1, 1) := by decide +kernel
theorem dX10_bytesIn_21 : decode cX10_bytesIn 21 = .ok (.goto 4, 3) := by decide +kernel
theorem dX10_isLaw_0 : decode cX10_isLaw 0 = .ok (.iload_n 1, 1) := by decide +kernel
theorem dX10_isLaw_1 : decode cX10_isLaw 1 = .ok (.ifCond .lt 15, 3) := by decide +kernel
theorem dX10_isLaw_16 : decode cX10_isLaw 16 = .ok (.iconst 0, 1) := by decide +kernel
theorem dX10_isLaw_17 : decode cX10_isLaw 17 = .ok (.ireturn, 1) := by decide +kernel
theorem dX10_isLaw_4 : decode cX10_isLaw 4 = .ok (.iload_n 1, 1) := by decide +kernel
theorem dX10_isLaw_5 : decode cX10_isLaw 5 = .ok (.aload_n 0, 1) := by decide +kernel
theorem dX10_isLaw_6 : decode cX10_isLaw 6 = .ok (.getfield 244, 3) := by decide +kernel
theorem dX10_isLaw_9 : decode cX10_isLaw 9 = .ok (.if_icmp .ge 7, 3) := by decide +kernel
theorem dX10_isTurning_0 : decode cX10_isTurning 0 = .ok (.iload_n 1, 1) := by decide +kernel
theorem dX10_isTurning_1 : decode cX10_isTurning 1 = .ok (.ifCond .lt 15, 3) := by decide +kernel
theorem dX10_isTurning_16 : decode cX10_isTurning 16 = .ok (.iconst 0, 1) := by decide +kernel
theorem dX10_isTurning_17 : decode cX10_isTurning 17 = .ok (.ireturn, 1) := by decide +kernel
theorem dX10_isTurning_4 : decode cX10_isTurning 4 = .ok (.iload_n 1, 1) := by decide +kernel
theorem dX10_isTurning_5 : decode cX10_isTurning 5 = .ok (.aload_n 0, 1) := by decide +kernel
theorem dX10_isTurning_6 : decode cX10_isTurning 6 = .ok (.getfield 247, 3) := by decide +kernel
theorem dX10_isTurning_9 : decode cX10_isTurning 9 = .ok (.if_icmp .ge 7, 3) := by decide +kernel
theorem dX10_isPerson_0 : decode cX10_isPerson 0 = .ok (.iload_n 1, 1) := by decide +kernel
theorem dX10_isPerson_1 : decode cX10_isPerson 1 = .ok (.ifCond .lt 15, 3) := by decide +kernel
theorem dX10_isPerson_16 : decode cX10_isPerson 16 = .ok (.iconst 0, 1) := by decide +kernel
theorem dX10_isPerson_17 : decode cX10_isPerson 17 = .ok (.ireturn, 1) := by decide +kernel
theorem dX10_isPerson_4 : decode cX10_isPerson 4 = .ok (.iload_n 1, 1) := by decide +kernel
theorem dX10_isPerson_5 : decode cX10_isPerson 5 = .ok (.aload_n 0, 1) := by decide +kernel
theorem dX10_isPerson_6 : decode cX10_isPerson 6 = .ok (.getfield 250, 3) := by decide +kernel
theorem dX10_isPerson_9 : decode cX10_isPerson 9 = .ok (.if_icmp .ge 7, 3) := by decide +kernel
theorem dX10_isAsked_0 : decode cX10_isAsked 0 = .ok (.aload_n 0, 1) := by decide +kernel
theorem dX10_isAsked_1 : decode cX10_isAsked 1 = .ok (.iload_n 1, 1) := by decide +kernel
theorem dX10_isAsked_2 : decode cX10_isAsked 2 = .ok (.invokevirtual 311, 3) := by decide +kernel
theorem dX10_isAsked_5 : decode cX10_isAsked 5 = .ok (.ifCond .eq 24, 3) := by decide +kernel
theorem dX10_isAsked_29 : decode cX10_isAsked 29 = .ok (.iconst 0, 1) := by decide +kernel
theorem dX10_isAsked_30 : decode cX10_isAsked 30 = .ok (.ireturn, 1) := by decide +kernel
theorem dX10_run_0 : decode cX10_run 0 = .ok (.aload_n 0, 1) := by decide +kernel
theorem dX10_run_1 : decode cX10_run 1 = .ok (.iconst 0, 1) := by decide +kernel
theorem dX10_run_2 : decode cX10_run 2 = .ok (.putfield 117, 3) := by decide +kernel
theorem dX10_run_5 : decode cX10_run 5 = .ok (.aload_n 0, 1) := by decide +kernel
theorem dX10_run_6 : decode cX10_run 6 = .ok (.iload_n 1, 1) := by decide +kernel
theorem dX10_run_7 : decode cX10_run 7 = .ok (.invokevirtual 311, 3) := by decide +kernel
theorem dX10_run_10 : decode cX10_run 10 = .ok (.ifCond .eq 33, 3) := by decide +kernel
theorem dX10_run_43 : decode cX10_run 43 = .ok (.sipush (-1000), 3) := by decide +kernel
theorem dX10_run_46 : decode cX10_run 46 = .ok (.ireturn, 1) := by decide +kernel
theorem dX10_all_0 : decode cX10_all 0 = .ok (.aload_n 0, 1) := by decide +kernel
theorem dX10_all_1 : decode cX10_all 1 = .ok (.iconst 0, 1) := by decide +kernel
theorem dX10_all_2 : decode cX10_all 2 = .ok (.putfield 117, 3) := by decide +kernel
theorem dX10_all_5 : decode cX10_all 5 = .ok (.aload_n 0, 1) := by decide +kernel
theorem dX10_all_6 : decode cX10_all 6 = .ok (.iload_n 1, 1) := by decide +kernel
theorem dX10_all_7 : decode cX10_all 7 = .ok (.invokevirtual 311, 3) := by decide +kernel
theorem dX10_all_10 : decode cX10_all 10 = .ok (.ifCond .eq 24, 3) := by decide +kernel
theorem dX10_all_34 : decode cX10_all 34 = .ok (.iconst (-1), 1) := by decide +kernel
theorem dX10_all_35 : decode cX10_all 35 = .ok (.ireturn, 1) := by decide +kernel
theorem dX10_without_0 : decode cX10_without 0 = .ok (.aload_n 0, 1) := by decide +kernel
theorem dX10_without_1 : decode cX10_without 1 = .ok (.iconst 0, 1) := by decide +kernel
theorem dX10_without_2 : decode cX10_without 2 = .ok (.putfield 117, 3) := by decide +kernel
theorem dX10_without_5 : decode cX10_without 5 = .ok (.aload_n 0, 1) := by decide +kernel
theorem dX10_without_6 : decode cX10_without 6 = .ok (.iload_n 1, 1) := by decide +kernel
theorem dX10_without_7 : decode cX10_without 7 = .ok (.invokevirtual 311, 3) := by decide +kernel
theorem dX10_without_10 : decode cX10_without 10 = .ok (.ifCond .eq 36, 3) := by decide +kernel
theorem dX10_without_46 : decode cX10_without 46 = .ok (.sipush (-1000), 3) := by decide +kernel
theorem dX10_without_49 : decode cX10_without 49 = .ok (.ireturn, 1) := by decide +kernel
theorem dX10_did_0 : decode cX10_did 0 = .ok (.aload_n 0, 1) := by decide +kernel
theorem dX10_did_1 : decode cX10_did 1 = .ok (.iconst 0, 1) := by decide +kernel
theorem dX10_did_2 : decode cX10_did 2 = .ok (.putfield 117, 3) := by decide +kernel
theorem dX10_did_5 : decode cX10_did 5 = .ok (.aload_n 0, 1) := by decide +kernel
theorem dX10_did_6 : decode cX10_did 6 = .ok (.iload_n 1, 1) := by decide +kernel
theorem dX10_did_7 : decode cX10_did 7 = .ok (.iload 4, 2) := by decide +kernel
theorem dX10_did_9 : decode cX10_did 9 = .ok (.invokevirtual 325, 3) := by decide +kernel
theorem dX10_did_12 : decode cX10_did 12 = .ok (.ifCond .ne 7, 3) := by decide +kernel
theorem dX10_did_15 : decode cX10_did 15 = .ok (.sipush (-1000), 3) := by decide +kernel
theorem dX10_did_18 : decode cX10_did 18 = .ok (.ireturn, 1) := by decide +kernel
theorem dX10_lean_0 : decode cX10_lean 0 = .ok (.aload_n 0, 1) := by decide +kernel
theorem dX10_lean_1 : decode cX10_lean 1 = .ok (.iconst 0, 1) := by decide +kernel
theorem dX10_lean_2 : decode cX10_lean 2 = .ok (.putfield 117, 3) := by decide +kernel
theorem dX10_lean_5 : decode cX10_lean 5 = .ok (.aload_n 0, 1) := by decide +kernel
theorem dX10_lean_6 : decode cX10_lean 6 = .ok (.iload_n 1, 1) := by decide +kernel
theorem dX10_lean_7 : decode cX10_lean 7 = .ok (.iload 4, 2) := by decide +kernel
theorem dX10_lean_9 : decode cX10_lean 9 = .ok (.invokevirtual 325, 3) := by decide +kernel
theorem dX10_lean_12 : decode cX10_lean 12 = .ok (.ifCond .eq 13, 3) := by decide +kernel
theorem dX10_lean_25 : decode cX10_lean 25 = .ok (.sipush (-1000), 3) := by decide +kernel
theorem dX10_lean_28 : decode cX10_lean 28 = .ok (.ireturn, 1) := by decide +kernel
theorem dX10_books_0 : decode cX10_books 0 = .ok (.aload_n 0, 1) := by decide +kernel
theorem dX10_books_1 : decode cX10_books 1 = .ok (.iconst 0, 1) := by decide +kernel
theorem dX10_books_2 : decode cX10_books 2 = .ok (.putfield 117, 3) := by decide +kernel
theorem dX10_books_5 : decode cX10_books 5 = .ok (.aload_n 0, 1) := by decide +kernel
theorem dX10_books_6 : decode cX10_books 6 = .ok (.iload_n 1, 1) := by decide +kernel
theorem dX10_books_7 : decode cX10_books 7 = .ok (.invokevirtual 311, 3) := by decide +kernel
theorem dX10_books_10 : decode cX10_books 10 = .ok (.ifCond .eq 13, 3) := by decide +kernel
theorem dX10_books_23 : decode cX10_books 23 = .ok (.sipush (-1000), 3) := by decide +kernel
theorem dX10_books_26 : decode cX10_books 26 = .ok (.ireturn, 1) := by decide +kernel
theorem dX10_stayed_0 : decode cX10_stayed 0 = .ok (.aload_n 0, 1) := by decide +kernel
theorem dX10_stayed_1 : decode cX10_stayed 1 = .ok (.iconst 0, 1) := by decide +kernel
theorem dX10_stayed_2 : decode cX10_stayed 2 = .ok (.putfield 117, 3) := by decide +kernel
theorem dX10_stayed_5 : decode cX10_stayed 5 = .ok (.aload_n 0, 1) := by decide +kernel
theorem dX10_stayed_6 : decode cX10_stayed 6 = .ok (.iload_n 1, 1) := by decide +kernel
theorem dX10_stayed_7 : decode cX10_stayed 7 = .ok (.invokevirtual 311, 3) := by decide +kernel
theorem dX10_stayed_10 : decode cX10_stayed 10 = .ok (.ifCond .eq 11, 3) := by decide +kernel
theorem dX10_stayed_21 : decode cX10_stayed 21 = .ok (.iconst (-1), 1) := by decide +kernel
theorem dX10_stayed_22 : decode cX10_stayed 22 = .ok (.ireturn, 1) := by decide +kernel
theorem dX10_help_0 : decode cX10_help 0 = .ok (.aload_n 0, 1) := by decide +kernel
theorem dX10_help_1 : decode cX10_help 1 = .ok (.iconst 0, 1) := by decide +kernel
theorem dX10_help_2 : decode cX10_help 2 = .ok (.putfield 117, 3) := by decide +kernel
theorem dX10_help_5 : decode cX10_help 5 = .ok (.aload_n 0, 1) := by decide +kernel
theorem dX10_help_6 : decode cX10_help 6 = .ok (.iload_n 1, 1) := by decide +kernel
theorem dX10_help_7 : decode cX10_help 7 = .ok (.iload 4, 2) := by decide +kernel
theorem dX10_help_9 : decode cX10_help 9 = .ok (.invokevirtual 325, 3) := by decide +kernel
theorem dX10_help_12 : decode cX10_help 12 = .ok (.ifCond .eq 13, 3) := by decide +kernel
theorem dX10_help_25 : decode cX10_help 25 = .ok (.iconst (-1), 1) := by decide +kernel
theorem dX10_help_26 : decode cX10_help 26 = .ok (.ireturn, 1) := by decide +kernel
theorem dX10_lookers_0 : decode cX10_lookers 0 = .ok (.aload_n 0, 1) := by decide +kernel
theorem dX10_lookers_1 : decode cX10_lookers 1 = .ok (.iconst 0, 1) := by decide +kernel
theorem dX10_lookers_2 : decode cX10_lookers 2 = .ok (.putfield 117, 3) := by decide +kernel
theorem dX10_lookers_5 : decode cX10_lookers 5 = .ok (.aload_n 0, 1) := by decide +kernel
theorem dX10_lookers_6 : decode cX10_lookers 6 = .ok (.iload_n 1, 1) := by decide +kernel
theorem dX10_lookers_7 : decode cX10_lookers 7 = .ok (.invokevirtual 311, 3) := by decide +kernel
theorem dX10_lookers_10 : decode cX10_lookers 10 = .ok (.ifCond .ne 5, 3) := by decide +kernel
theorem dX10_lookers_13 : decode cX10_lookers 13 = .ok (.iconst (-1), 1) := by decide +kernel
theorem dX10_lookers_14 : decode cX10_lookers 14 = .ok (.ireturn, 1) := by decide +kernel
theorem dX10_lets_0 : decode cX10_lets 0 = .ok (.aload_n 0, 1) := by decide +kernel
theorem dX10_lets_1 : decode cX10_lets 1 = .ok (.iconst 0, 1) := by decide +kernel
theorem dX10_lets_2 : decode cX10_lets 2 = .ok (.putfield 117, 3) := by decide +kernel
theorem dX10_lets_5 : decode cX10_lets 5 = .ok (.aload_n 0, 1) := by decide +kernel
theorem dX10_lets_6 : decode cX10_lets 6 = .ok (.iload_n 1, 1) := by decide +kernel
theorem dX10_lets_7 : decode cX10_lets 7 = .ok (.invokevirtual 349, 3) := by decide +kernel
theorem dX10_lets_10 : decode cX10_lets 10 = .ok (.ifCond .eq 10, 3) := by decide +kernel
theorem dX10_lets_20 : decode cX10_lets 20 = .ok (.iconst (-1), 1) := by decide +kernel
theorem dX10_lets_21 : decode cX10_lets 21 = .ok (.goto 17, 3) := by decide +kernel
theorem dX10_lets_38 : decode cX10_lets 38 = .ok (.ireturn, 1) := by decide +kernel
theorem dX10_bars_0 : decode cX10_bars 0 = .ok (.aload_n 0, 1) := by decide +kernel
theorem dX10_bars_1 : decode cX10_bars 1 = .ok (.iconst 0, 1) := by decide +kernel
theorem dX10_bars_2 : decode cX10_bars 2 = .ok (.putfield 117, 3) := by decide +kernel
theorem dX10_bars_5 : decode cX10_bars 5 = .ok (.aload_n 0, 1) := by decide +kernel
theorem dX10_bars_6 : decode cX10_bars 6 = .ok (.iload_n 1, 1) := by decide +kernel
theorem dX10_bars_7 : decode cX10_bars 7 = .ok (.invokevirtual 349, 3) := by decide +kernel
theorem dX10_bars_10 : decode cX10_bars 10 = .ok (.ifCond .eq 14, 3) := by decide +kernel
theorem dX10_bars_24 : decode cX10_bars 24 = .ok (.iconst (-1), 1) := by decide +kernel
theorem dX10_bars_25 : decode cX10_bars 25 = .ok (.ireturn, 1) := by decide +kernel
theorem dX10_bolder_0 : decode cX10_bolder 0 = .ok (.aload_n 0, 1) := by decide +kernel
theorem dX10_bolder_1 : decode cX10_bolder 1 = .ok (.iconst 0, 1) := by decide +kernel
theorem dX10_bolder_2 : decode cX10_bolder 2 = .ok (.putfield 117, 3) := by decide +kernel
theorem dX10_bolder_5 : decode cX10_bolder 5 = .ok (.aload_n 0, 1) := by decide +kernel
theorem dX10_bolder_6 : decode cX10_bolder 6 = .ok (.iload_n 1, 1) := by decide +kernel
theorem dX10_bolder_7 : decode cX10_bolder 7 = .ok (.invokevirtual 349, 3) := by decide +kernel
theorem dX10_bolder_10 : decode cX10_bolder 10 = .ok (.ifCond .eq 11, 3) := by decide +kernel
theorem dX10_bolder_21 : decode cX10_bolder 21 = .ok (.iconst (-1), 1) := by decide +kernel
theorem dX10_bolder_22 : decode cX10_bolder 22 = .ok (.ireturn, 1) := by decide +kernel
theorem dX10_know_0 : decode cX10_know 0 = .ok (.aload_n 0, 1) := by decide +kernel
theorem dX10_know_1 : decode cX10_know 1 = .ok (.iconst 0, 1) := by decide +kernel
theorem dX10_know_2 : decode cX10_know 2 = .ok (.putfield 117, 3) := by decide +kernel
theorem dX10_know_5 : decode cX10_know 5 = .ok (.aload_n 0, 1) := by decide +kernel
theorem dX10_know_6 : decode cX10_know 6 = .ok (.iload_n 1, 1) := by decide +kernel
theorem dX10_know_7 : decode cX10_know 7 = .ok (.invokevirtual 253, 3) := by decide +kernel
theorem dX10_know_10 : decode cX10_know 10 = .ok (.ifCond .eq 16, 3) := by decide +kernel
theorem dX10_know_26 : decode cX10_know 26 = .ok (.iconst 0, 1) := by decide +kernel
theorem dX10_know_27 : decode cX10_know 27 = .ok (.ireturn, 1) := by decide +kernel
theorem dX10_note_0 : decode cX10_note 0 = .ok (.aload_n 0, 1) := by decide +kernel
theorem dX10_note_1 : decode cX10_note 1 = .ok (.iconst 0, 1) := by decide +kernel
theorem dX10_note_2 : decode cX10_note 2 = .ok (.putfield 117, 3) := by decide +kernel
theorem dX10_note_5 : decode cX10_note 5 = .ok (.aload_n 0, 1) := by decide +kernel
theorem dX10_note_6 : decode cX10_note 6 = .ok (.getfield 331, 3) := by decide +kernel
theorem dX10_note_9 : decode cX10_note 9 = .ok (.bipush 20, 2) := by decide +kernel
theorem dX10_note_11 : decode cX10_note 11 = .ok (.if_icmp .eq 30, 3) := by decide +kernel
theorem dX10_note_14 : decode cX10_note 14 = .ok (.aload_n 0, 1) := by decide +kernel
theorem dX10_note_15 : decode cX10_note 15 = .ok (.iload_n 1, 1) := by decide +kernel
theorem dX10_note_16 : decode cX10_note 16 = .ok (.invokevirtual 253, 3) := by decide +kernel
theorem dX10_note_19 : decode cX10_note 19 = .ok (.ifCond .eq 22, 3) := by decide +kernel
theorem dX10_note_41 : decode cX10_note 41 = .ok (.iconst (-1), 1) := by decide +kernel
theorem dX10_note_42 : decode cX10_note 42 = .ok (.ireturn, 1) := by decide +kernel
theorem dX10_say_0 : decode cX10_say 0 = .ok (.aload_n 0, 1) := by decide +kernel
theorem dX10_say_1 : decode cX10_say 1 = .ok (.iconst 0, 1) := by decide +kernel
theorem dX10_say_2 : decode cX10_say 2 = .ok (.putfield 117, 3) := by decide +kernel
theorem dX10_say_5 : decode cX10_say 5 = .ok (.aload_n 0, 1) := by decide +kernel
theorem dX10_say_6 : decode cX10_say 6 = .ok (.iload_n 1, 1) := by decide +kernel
theorem dX10_say_7 : decode cX10_say 7 = .ok (.invokevirtual 253, 3) := by decide +kernel
theorem dX10_say_10 : decode cX10_say 10 = .ok (.ifCond .eq 16, 3) := by decide +kernel
theorem dX10_say_26 : decode cX10_say 26 = .ok (.iconst 0, 1) := by decide +kernel
theorem dX10_say_27 : decode cX10_say 27 = .ok (.ireturn, 1) := by decide +kernel
theorem dX10_act_0 : decode cX10_act 0 = .ok (.aload_n 0, 1) := by decide +kernel
theorem dX10_act_1 : decode cX10_act 1 = .ok (.iconst 0, 1) := by decide +kernel
theorem dX10_act_2 : decode cX10_act 2 = .ok (.putfield 117, 3) := by decide +kernel
theorem dX10_act_5 : decode cX10_act 5 = .ok (.aload_n 0, 1) := by decide +kernel
theorem dX10_act_6 : decode cX10_act 6 = .ok (.getfield 367, 3) := by decide +kernel
theorem dX10_act_9 : decode cX10_act 9 = .ok (.bipush 6, 2) := by decide +kernel
theorem dX10_act_11 : decode cX10_act 11 = .ok (.if_icmp .eq 31, 3) := by decide +kernel
theorem dX10_act_14 : decode cX10_act 14 = .ok (.aload_n 0, 1) := by decide +kernel
theorem dX10_act_15 : decode cX10_act 15 = .ok (.iload_n 1, 1) := by decide +kernel
theorem dX10_act_16 : decode cX10_act 16 = .ok (.invokevirtual 253, 3) := by decide +kernel
theorem dX10_act_19 : decode cX10_act 19 = .ok (.ifCond .eq 23, 3) := by decide +kernel
theorem dX10_act_42 : decode cX10_act 42 = .ok (.iconst (-1), 1) := by decide +kernel
theorem dX10_act_43 : decode cX10_act 43 = .ok (.ireturn, 1) := by decide +kernel
theorem dX10_fits_0 : decode cX10_fits 0 = .ok (.aload_n 0, 1) := by decide +kernel
theorem dX10_fits_1 : decode cX10_fits 1 = .ok (.iconst 0, 1) := by decide +kernel
theorem dX10_fits_2 : decode cX10_fits 2 = .ok (.putfield 117, 3) := by decide +kernel
theorem dX10_fits_5 : decode cX10_fits 5 = .ok (.iconst 0, 1) := by decide +kernel
theorem dX10_fits_6 : decode cX10_fits 6 = .ok (.istore 4, 2) := by decide +kernel
theorem dX10_fits_8 : decode cX10_fits 8 = .ok (.iconst 0, 1) := by decide +kernel
theorem dX10_fits_9 : decode cX10_fits 9 = .ok (.istore 5, 2) := by decide +kernel
theorem dX10_fits_11 : decode cX10_fits 11 = .ok (.iload 5, 2) := by decide +kernel
theorem dX10_fits_13 : decode cX10_fits 13 = .ok (.aload_n 0, 1) := by decide +kernel
theorem dX10_fits_14 : decode cX10_fits 14 = .ok (.getfield 244, 3) := by decide +kernel
theorem dX10_fits_17 : decode cX10_fits 17 = .ok (.if_icmp .ge 33, 3) := by decide +kernel
theorem dX10_fits_50 : decode cX10_fits 50 = .ok (.iload 4, 2) := by decide +kernel
theorem dX10_fits_52 : decode cX10_fits 52 = .ok (.ireturn, 1) := by decide +kernel
theorem dX10_odds_0 : decode cX10_odds 0 = .ok (.aload_n 0, 1) := by decide +kernel
theorem dX10_odds_1 : decode cX10_odds 1 = .ok (.iconst 0, 1) := by decide +kernel
theorem dX10_odds_2 : decode cX10_odds 2 = .ok (.putfield 117, 3) := by decide +kernel
theorem dX10_odds_5 : decode cX10_odds 5 = .ok (.aload_n 0, 1) := by decide +kernel
theorem dX10_odds_6 : decode cX10_odds 6 = .ok (.iload_n 1, 1) := by decide +kernel
theorem dX10_odds_7 : decode cX10_odds 7 = .ok (.invokevirtual 311, 3) := by decide +kernel
theorem dX10_odds_10 : decode cX10_odds 10 = .ok (.ifCond .eq 25, 3) := by decide +kernel
theorem dX10_odds_35 : decode cX10_odds 35 = .ok (.ldc2_w 347, 3) := by decide +kernel
theorem dX10_odds_38 : decode cX10_odds 38 = .ok (.lreturn, 1) := by decide +kernel
theorem dX10_count_0 : decode cX10_count 0 = .ok (.aload_n 0, 1) := by decide +kernel
theorem dX10_count_1 : decode cX10_count 1 = .ok (.iconst 0, 1) := by decide +kernel
theorem dX10_count_2 : decode cX10_count 2 = .ok (.putfield 117, 3) := by decide +kernel
theorem dX10_count_5 : decode cX10_count 5 = .ok (.iload_n 1, 1) := by decide +kernel
theorem dX10_count_6 : decode cX10_count 6 = .ok (.tableswitch 77 0 6 #[42, 47, 52, 57, 62, 67, 72], 42) := by decide +kernel
theorem dX10_count_48 : decode cX10_count 48 = .ok (.aload_n 0, 1) := by decide +kernel
theorem dX10_count_49 : decode cX10_count 49 = .ok (.getfield 244, 3) := by decide +kernel
theorem dX10_count_52 : decode cX10_count 52 = .ok (.ireturn, 1) := by decide +kernel
theorem dX10_count_53 : decode cX10_count 53 = .ok (.aload_n 0, 1) := by decide +kernel
theorem dX10_count_54 : decode cX10_count 54 = .ok (.getfield 247, 3) := by decide +kernel
theorem dX10_count_57 : decode cX10_count 57 = .ok (.ireturn, 1) := by decide +kernel
theorem dX10_count_58 : decode cX10_count 58 = .ok (.aload_n 0, 1) := by decide +kernel
theorem dX10_count_59 : decode cX10_count 59 = .ok (.getfield 250, 3) := by decide +kernel
theorem dX10_count_62 : decode cX10_count 62 = .ok (.ireturn, 1) := by decide +kernel
theorem dX10_count_63 : decode cX10_count 63 = .ok (.aload_n 0, 1) := by decide +kernel
theorem dX10_count_64 : decode cX10_count 64 = .ok (.getfield 256, 3) := by decide +kernel
theorem dX10_count_67 : decode cX10_count 67 = .ok (.ireturn, 1) := by decide +kernel
theorem dX10_count_68 : decode cX10_count 68 = .ok (.aload_n 0, 1) := by decide +kernel
theorem dX10_count_69 : decode cX10_count 69 = .ok (.getfield 331, 3) := by decide +kernel
theorem dX10_count_72 : decode cX10_count 72 = .ok (.ireturn, 1) := by decide +kernel
theorem dX10_count_73 : decode cX10_count 73 = .ok (.aload_n 0, 1) := by decide +kernel
theorem dX10_count_74 : decode cX10_count 74 = .ok (.getfield 367, 3) := by decide +kernel
theorem dX10_count_77 : decode cX10_count 77 = .ok (.ireturn, 1) := by decide +kernel
theorem dX10_count_78 : decode cX10_count 78 = .ok (.aload_n 0, 1) := by decide +kernel
theorem dX10_count_79 : decode cX10_count 79 = .ok (.getfield 131, 3) := by decide +kernel
theorem dX10_count_82 : decode cX10_count 82 = .ok (.ireturn, 1) := by decide +kernel
theorem dX10_count_83 : decode cX10_count 83 = .ok (.iconst (-1), 1) := by decide +kernel
theorem dX10_count_84 : decode cX10_count 84 = .ok (.ireturn, 1) := by decide +kernel
theorem dX10_end_0 : decode cX10_end 0 = .ok (.aload_n 0, 1) := by decide +kernel
theorem dX10_end_1 : decode cX10_end 1 = .ok (.iconst 0, 1) := by decide +kernel
theorem dX10_end_2 : decode cX10_end 2 = .ok (.putfield 117, 3) := by decide +kernel
theorem dX10_end_5 : decode cX10_end 5 = .ok (.iload_n 1, 1) := by decide +kernel
theorem dX10_end_6 : decode cX10_end 6 = .ok (.ifCond .lt 11, 3) := by decide +kernel
theorem dX10_end_17 : decode cX10_end 17 = .ok (.iconst 0, 1) := by decide +kernel
theorem dX10_end_18 : decode cX10_end 18 = .ok (.ireturn, 1) := by decide +kernel
theorem dX10_end_9 : decode cX10_end 9 = .ok (.iload_n 1, 1) := by decide +kernel
theorem dX10_end_10 : decode cX10_end 10 = .ok (.aload_n 0, 1) := by decide +kernel
theorem dX10_end_11 : decode cX10_end 11 = .ok (.getfield 131, 3) := by decide +kernel
theorem dX10_end_14 : decode cX10_end 14 = .ok (.if_icmp .le 5, 3) := by decide +kernel
theorem dX10_end_19 : decode cX10_end 19 = .ok (.aload_n 0, 1) := by decide +kernel
theorem dX10_end_20 : decode cX10_end 20 = .ok (.iload_n 1, 1) := by decide +kernel
theorem dX10_end_21 : decode cX10_end 21 = .ok (.putfield 131, 3) := by decide +kernel
theorem dX10_end_24 : decode cX10_end 24 = .ok (.iconst 1, 1) := by decide +kernel
theorem dX10_end_25 : decode cX10_end 25 = .ok (.ireturn, 1) := by decide +kernel
end
section
/-! Our own small kit: contracts' starts and ends in two forms. kR: nothing is written; kW: cells change or come. -/
theorem goodIn_sub {big ws : List Cond} (hm : ∀ w ∈ ws, w ∈ big) (h : ws.all goodWord = true) : GoodIn big ws := fun w hw => ⟨hm w hw, good_of_word (List.all_eq_true.mp h w hw)⟩
theorem kG {big a b : List Cond} (ha : ∀ w ∈ a, w ∈ big) (hga : a.all goodWord = true) (hb : ∀ w ∈ b, w ∈ big) (hgb : b.all goodWord = true) : GoodIn big (a ++ b) := fun w h => (List.mem_append.mp h).elim (goodIn_sub ha hga w) (goodIn_sub hb hgb w)
abbrev vwCl : List vw_C := [(RX0, TX0, 5), (RX1, TX1, 19), (RX2, TX2, 8), (RX3, TX3, 6), (RX4, TX4, 8), (RX5, TX5, 2), (RX6, TX6, 2), (RX7, TX7, 2), (RX8, TX8, 2), (RX9, TX9, 10), (RX10, TX10, 52)]
def kT : State → Prop := fun _ => True
theorem kT_blind : ∀ (U : State) (g : JFrame) (mk : MethodId) (a : Array Value), kT U → kT (U.calling g mk a) := fun _ _ _ _ _ => trivial
theorem kT_give {s : State} {H : Heap} : ∀ U : State, U.heap = H → s.WarmedH U.vm → kT U := fun _ _ _ => trivial
def kR (dC : Nat → ClassId) (dI : Nat → Nat → Nat) (av : List Value) (W : va_W) (T : List (ClassId × FieldType)) (X : State → Prop) : Array Value → State → Prop := fun v U => v = av.toArray ∧ va_P (dC, dI) vwCl W U.heap ∧ va_K (dC, dI) vwCl T U ∧ X U
def kW (dC : Nat → ClassId) (dI : Nat → Nat → Nat) (av : List Value) (W : va_W) (T : List (ClassId × FieldType)) (X : State → Prop) (sz : Nat) : Array Value → State → Prop := fun v U => v = av.toArray ∧ U.heap.size = sz ∧ va_P (dC, dI) vwCl W U.heap ∧ va_K (dC, dI) vwCl T U ∧ va_D (fun _ => True) W ∧ X U
def kB (dC : Nat → ClassId) (dI : Nat → Nat → Nat) (W : va_W) (T : List (ClassId × FieldType)) (A : Nat → Prop) (t : State) : Prop := va_P (dC, dI) vwCl W t.heap ∧ va_K (dC, dI) vwCl T t ∧ va_D A W
theorem kR_blind {dC : Nat → ClassId} {dI : Nat → Nat → Nat} {av : List Value} {W : va_W} {T : List (ClassId × FieldType)} {X : State → Prop} (hX : ∀ (U : State) (g : JFrame) (mk : MethodId) (a : Array Value), X U → X (U.calling g mk a)) : FrameBlind (kR dC dI av W T X) := fun a U g mk q => by
  obtain ⟨q0, qP, qK, qX⟩ := q
  exact ⟨q0, qP, va_K.moved (u := U) (U := U.calling g mk a) (Vm.Alike.refl U.vm) qK, hX _ _ _ _ qX⟩
theorem kW_blind {dC : Nat → ClassId} {dI : Nat → Nat → Nat} {av : List Value} {W : va_W} {T : List (ClassId × FieldType)} {X : State → Prop} {sz : Nat} (hX : ∀ (U : State) (g : JFrame) (mk : MethodId) (a : Array Value), X U → X (U.calling g mk a)) : FrameBlind (kW dC dI av W T X sz) := fun a U g mk q => by
  obtain ⟨q0, q1, qP, qK, qD, qX⟩ := q
  exact ⟨q0, q1, qP, va_K.moved (u := U) (U := U.calling g mk a) (Vm.Alike.refl U.vm) qK, qD, hX _ _ _ _ qX⟩
section KPre
variable {s : State} {H : Heap} {dC : Nat → ClassId} {dI : Nat → Nat → Nat} {av : List Value} {W : va_W} {T : List (ClassId × FieldType)} {X : State → Prop} {A : Nat → Prop} {C : String} {b : Addr}
theorem kR_S (hb : ∀ (U : State) (g : JFrame) (mk : MethodId) (a : Array Value), X U → X (U.calling g mk a)) (hX : ∀ U : State, U.heap = H → s.WarmedH U.vm → X U) (hP : va_P (dC, dI) vwCl W H) (hK : va_K (dC, dI) vwCl T s) : PreS s H (kR dC dI av W T X) av :=
  ⟨kR_blind hb, fun U hU hW => ⟨rfl, by rw [hU]; exact hP, va_K.moved hW.alike hK, hX U hU hW⟩⟩
theorem kR_V (hb : ∀ (U : State) (g : JFrame) (mk : MethodId) (a : Array Value), X U → X (U.calling g mk a)) (hX : ∀ U : State, U.heap = H → s.WarmedH U.vm → X U) (hc : ∃ cellB : Cell, H[b]? = some cellB ∧ cellB.vm.isStatics = false ∧ s.vm.findClass C = some cellB.cls) (hP : va_P (dC, dI) vwCl W H) (hK : va_K (dC, dI) vwCl T s) : PreV s H C b (kR dC dI (.ref b :: av) W T X) av :=
  ⟨kR_blind hb, hc, fun U hU hW => ⟨rfl, by rw [hU]; exact hP, va_K.moved hW.alike hK, hX U hU hW⟩⟩
theorem kW_S (hb : ∀ (U : State) (g : JFrame) (mk : MethodId) (a : Array Value), X U → X (U.calling g mk a)) (hX : ∀ U : State, U.heap = H → s.WarmedH U.vm → X U) (hP : va_P (dC, dI) vwCl W H) (hK : va_K (dC, dI) vwCl T s) (hD : va_D A W) : PreS s H (kW dC dI av W T X H.size) av :=
  ⟨kW_blind hb, fun U hU hW => ⟨rfl, by rw [hU], by rw [hU]; exact hP, va_K.moved hW.alike hK, hD.weaken (fun _ _ _ _ => trivial), hX U hU hW⟩⟩
theorem kW_V (hb : ∀ (U : State) (g : JFrame) (mk : MethodId) (a : Array Value), X U → X (U.calling g mk a)) (hX : ∀ U : State, U.heap = H → s.WarmedH U.vm → X U) (hc : ∃ cellB : Cell, H[b]? = some cellB ∧ cellB.vm.isStatics = false ∧ s.vm.findClass C = some cellB.cls) (hP : va_P (dC, dI) vwCl W H) (hK : va_K (dC, dI) vwCl T s) (hD : va_D A W) : PreV s H C b (kW dC dI (.ref b :: av) W T X H.size) av :=
  ⟨kW_blind hb, hc, fun U hU hW => ⟨rfl, by rw [hU], by rw [hU]; exact hP, va_K.moved hW.alike hK, hD.weaken (fun _ _ _ _ => trivial), hX U hU hW⟩⟩
end KPre
/-- a number within two bounds -/
def kIn (v lo hi : Int32) : Int32 := if v < lo then 0 else if hi < v then 0 else 1
/-- a byte of a word, as the reference shifts it -/
def kS (x k : Int32) : Int32 := (x >>> (k &&& 31)) &&& 255
def kC1 (x k : Int32) : Nat := if kS x k = 0 then 0 else 1
/-- how many bytes of a word are not 0 -/
def kCnt (x : Int32) : Nat := kC1 x 24 + kC1 x 16 + kC1 x 8 + kC1 x 0
theorem kC1_le (x k : Int32) : kC1 x k ≤ 1 := by unfold kC1; split <;> omega
theorem kCnt_le (x : Int32) : kCnt x ≤ 4 := by
  have h1 := kC1_le x 24; have h2 := kC1_le x 16; have h3 := kC1_le x 8; have h4 := kC1_le x 0
  unfold kCnt; omega
def kFeed (a b c d e : Int32) : Int32 := nI (kCnt a + kCnt b + kCnt c + kCnt d + kCnt e)
theorem kSu_255 : ∀ j : Fin 32, 8 ≤ j.val → (255#32).getLsbD j.val = false := by decide
theorem kSu_aux (x : BitVec 32) (k : Nat) (hk : k + 8 ≤ 32) : (x >>> k) &&& 255#32 = (x.sshiftRight k) &&& 255#32 := by
  ext i hi
  simp only [BitVec.getElem_and, BitVec.getElem_ushiftRight, BitVec.getElem_sshiftRight]
  by_cases h8 : i < 8
  · rw [dif_pos (by omega)]
    simp [BitVec.getLsbD_eq_getElem (show k + i < 32 by omega)]
  · have h2 : (255#32)[i] = false := by
      have h3 := kSu_255 ⟨i, hi⟩ (by simpa using h8)
      rw [← BitVec.getLsbD_eq_getElem]
      exact h3
    rw [h2, Bool.and_false, Bool.and_false]
theorem kSu24 (x : Int32) : (x.toUInt32 >>> (Int32.toUInt32 24 &&& Int32.toUInt32 31)).toInt32 &&& 255 = kS x 24 := Int32.toBitVec_inj.mp (kSu_aux x.toBitVec 24 (by decide))
theorem kSu16 (x : Int32) : (x.toUInt32 >>> (Int32.toUInt32 16 &&& Int32.toUInt32 31)).toInt32 &&& 255 = kS x 16 := Int32.toBitVec_inj.mp (kSu_aux x.toBitVec 16 (by decide))
theorem kSu8 (x : Int32) : (x.toUInt32 >>> (Int32.toUInt32 8 &&& Int32.toUInt32 31)).toInt32 &&& 255 = kS x 8 := Int32.toBitVec_inj.mp (kSu_aux x.toBitVec 8 (by decide))
theorem kSu0 (x : Int32) : (x.toUInt32 >>> (Int32.toUInt32 0 &&& Int32.toUInt32 31)).toInt32 &&& 255 = kS x 0 := Int32.toBitVec_inj.mp (kSu_aux x.toBitVec 0 (by decide))
/-- what person answers first of all -/
def kPerson (a b c : Int32) : Int32 := if kIn a 0 100 = 0 then -1 else if kIn b 0 99 = 0 then -1 else if kIn c 0 3 = 0 then -1 else 0
def kWord (h : Int32) : Int32 := if kIn h 0 47 = 0 then -1 else 1
def kEnd (n : Int32) : Int32 := if n < 0 then 0 else if n ≤ 0 then 1 else 0
def kCount (p : Int32) : Int32 := if p.toInt < 0 ∨ 6 < p.toInt then -1 else 0
theorem kSw7 (x : Int32) : x = 0 ∨ x = 1 ∨ x = 2 ∨ x = 3 ∨ x = 4 ∨ x = 5 ∨ x = 6 ∨ (x.toInt < 0 ∨ 6 < x.toInt) := by
  by_cases h : x.toInt < 0 ∨ 6 < x.toInt
  · simp [h]
  · have h1 : 0 ≤ x.toInt ∧ x.toInt ≤ 6 := by omega
    have : x.toInt = 0 ∨ x.toInt = 1 ∨ x.toInt = 2 ∨ x.toInt = 3 ∨ x.toInt = 4 ∨ x.toInt = 5 ∨ x.toInt = 6 := by omega
    rcases this with e | e | e | e | e | e | e
    · exact Or.inl (Int32.toInt_inj.mp e)
    · exact Or.inr (Or.inl (Int32.toInt_inj.mp e))
    · exact Or.inr (Or.inr (Or.inl (Int32.toInt_inj.mp e)))
    · exact Or.inr (Or.inr (Or.inr (Or.inl (Int32.toInt_inj.mp e))))
    · exact Or.inr (Or.inr (Or.inr (Or.inr (Or.inl (Int32.toInt_inj.mp e)))))
    · exact Or.inr (Or.inr (Or.inr (Or.inr (Or.inr (Or.inl (Int32.toInt_inj.mp e))))))
    · exact Or.inr (Or.inr (Or.inr (Or.inr (Or.inr (Or.inr (Or.inl (Int32.toInt_inj.mp e)))))))
/-- the link by which Tape calls its host -/
def kN19 (U : State) : Prop := va_Nw (.methodLinkNest RX8 19 yX9_within RX9) U
theorem kN19_blind : ∀ (U : State) (g : JFrame) (mk : MethodId) (a : Array Value), kN19 U → kN19 (U.calling g mk a) := fun U _ _ _ h => va_Nw.same (u := U) rfl rfl h
theorem kN19_give {s : State} {H : Heap} (h : kN19 s) : ∀ U : State, U.heap = H → s.WarmedH U.vm → kN19 U := fun _ _ hW => va_Nw.warmM hW h
def kSort (p : Int32) : Int32 := if p = 0 then 1 else if p = 1 then 1 else 0
theorem kIn_nar (a b c : Int32) : narrow .boolean (.int (kIn a b c)) = .int (kIn a b c) := by
  unfold kIn
  split
  · rfl
  · split <;> rfl
end
section
def w_c_isIn9 : List Cond := .code yX9_isIn cX9_isIn 3 (some .boolean) :: ([])
theorem gw_c_isIn9 : (w_c_isIn9).all goodWord = true := by decide +kernel
set_option maxHeartbeats 4000000 in
set_option maxRecDepth 100000 in
/-- isIn of the class -/
theorem c_isIn9 (l : Launch) (dC : Nat → ClassId) (dI : Nat → Nat → Nat) (p0 : Int32) (p1 : Int32) (p2 : Int32) : Met l yX9_isIn w_c_isIn9 ({ frames := 1, cells := 0, slots := 0, locals := 60 }) (kR dC dI [.int p0, .int p1, .int p2] [] [] kT) (vp_Si (fun r : Int32 => r = kIn p0 p1 p2)) 0 0 (fun _ => False) := by
  refine Met.ofW (cc := cX9_isIn) (maxL := 3) (ret := (some .boolean)) (by decide) rfl ?_
  intro p e s m args below meth c s₁ B hml hv
  obtain ⟨rfl, hP, hK, hX⟩ := hv
  have hx := B.exec
  have hb := B.bytes
  have hr := B.returns
  have hts := atoms_spec (ws := w_c_isIn9) B.pre
  have hown : s.vm.findClass RX9 = some m.cls := findClass_of_methodNamed B.named
  have hlocks := B.notSynchronized
  have hP : va_P (dC, dI) vwCl [] s.heap := hP
  have hl := lv_entry ([.int p0, .int p1, .int p2]) (n := 3) (Nat.le_of_ble_eq_true rfl)
  rw [lg_entry_eq]
  generalize (lg_sl ([.int p0, .int p1, .int p2]) ++ List.replicate (3 - (lg_sl ([.int p0, .int p1, .int p2])).length) Slot.unset).toArray = ls at hl ⊢
  have hl : lv_has ls 3 [(0, .int p0), (1, .int p1), (2, .int p2)] := hl
  refine lv_iload_n hx hb dX9_isIn_0 rfl (lv_at hl 0 rfl) ?_
  refine lv_iload_n hx hb dX9_isIn_1 rfl (lv_at hl 1 rfl) ?_
  refine lv_icmp_lt (tgt := 14) hx hb dX9_isIn_2 (by decide) (fun c_1 => ?_) (fun c_1 => ?_)
  · refine lv_iconst (v := 0) hx hb dX9_isIn_14 (by decide) ?_
    exact W.zret (v := 0) hx hb hr rfl (fun t ht hW => ⟨0, rfl, (by simp [kIn, c_1]), ht⟩) (fun _ h => nomatch h) dX9_isIn_15
  · refine lv_iload_n hx hb dX9_isIn_5 rfl (lv_at hl 0 rfl) ?_
    refine lv_iload_n hx hb dX9_isIn_6 rfl (lv_at hl 2 rfl) ?_
    refine lv_icmp_gt (tgt := 14) hx hb dX9_isIn_7 (by decide) (fun c_2 => ?_) (fun c_2 => ?_)
    · refine lv_iconst (v := 0) hx hb dX9_isIn_14 (by decide) ?_
      exact W.zret (v := 0) hx hb hr rfl (fun t ht hW => ⟨0, rfl, (by simp [kIn, c_1, c_2]), ht⟩) (fun _ h => nomatch h) dX9_isIn_15
    · refine lv_iconst (v := 1) hx hb dX9_isIn_10 (by decide) ?_
      refine lv_goto (tgt := 15) hx hb dX9_isIn_11 (by decide) ?_
      exact W.zret (v := 1) hx hb hr rfl (fun t ht hW => ⟨1, rfl, (by simp [kIn, c_1, c_2]), ht⟩) (fun _ h => nomatch h) dX9_isIn_15

def w_c_isIn10 : List Cond := .code yX10_isIn cX10_isIn 3 (some .boolean) :: ([])
theorem gw_c_isIn10 : (w_c_isIn10).all goodWord = true := by decide +kernel
set_option maxHeartbeats 4000000 in
set_option maxRecDepth 100000 in
/-- isIn of the reference -/
theorem c_isIn10 (l : Launch) (dC : Nat → ClassId) (dI : Nat → Nat → Nat) (p0 : Int32) (p1 : Int32) (p2 : Int32) : Met l yX10_isIn w_c_isIn10 ({ frames := 1, cells := 0, slots := 0, locals := 60 }) (kR dC dI [.int p0, .int p1, .int p2] [] [] kT) (vp_Si (fun r : Int32 => r = kIn p0 p1 p2)) 0 0 (fun _ => False) := by
  refine Met.ofW (cc := cX10_isIn) (maxL := 3) (ret := (some .boolean)) (by decide) rfl ?_
  intro p e s m args below meth c s₁ B hml hv
  obtain ⟨rfl, hP, hK, hX⟩ := hv
  have hx := B.exec
  have hb := B.bytes
  have hr := B.returns
  have hts := atoms_spec (ws := w_c_isIn10) B.pre
  have hown : s.vm.findClass RX10 = some m.cls := findClass_of_methodNamed B.named
  have hlocks := B.notSynchronized
  have hP : va_P (dC, dI) vwCl [] s.heap := hP
  have hl := lv_entry ([.int p0, .int p1, .int p2]) (n := 3) (Nat.le_of_ble_eq_true rfl)
  rw [lg_entry_eq]
  generalize (lg_sl ([.int p0, .int p1, .int p2]) ++ List.replicate (3 - (lg_sl ([.int p0, .int p1, .int p2])).length) Slot.unset).toArray = ls at hl ⊢
  have hl : lv_has ls 3 [(0, .int p0), (1, .int p1), (2, .int p2)] := hl
  refine lv_iload_n hx hb dX10_isIn_0 rfl (lv_at hl 0 rfl) ?_
  refine lv_iload_n hx hb dX10_isIn_1 rfl (lv_at hl 1 rfl) ?_
  refine lv_icmp_lt (tgt := 14) hx hb dX10_isIn_2 (by decide) (fun c_1 => ?_) (fun c_1 => ?_)
  · refine lv_iconst (v := 0) hx hb dX10_isIn_14 (by decide) ?_
    exact W.zret (v := 0) hx hb hr rfl (fun t ht hW => ⟨0, rfl, (by simp [kIn, c_1]), ht⟩) (fun _ h => nomatch h) dX10_isIn_15
  · refine lv_iload_n hx hb dX10_isIn_5 rfl (lv_at hl 0 rfl) ?_
    refine lv_iload_n hx hb dX10_isIn_6 rfl (lv_at hl 2 rfl) ?_
    refine lv_icmp_gt (tgt := 14) hx hb dX10_isIn_7 (by decide) (fun c_2 => ?_) (fun c_2 => ?_)
    · refine lv_iconst (v := 0) hx hb dX10_isIn_14 (by decide) ?_
      exact W.zret (v := 0) hx hb hr rfl (fun t ht hW => ⟨0, rfl, (by simp [kIn, c_1, c_2]), ht⟩) (fun _ h => nomatch h) dX10_isIn_15
    · refine lv_iconst (v := 1) hx hb dX10_isIn_10 (by decide) ?_
      refine lv_goto (tgt := 15) hx hb dX10_isIn_11 (by decide) ?_
      exact W.zret (v := 1) hx hb hr rfl (fun t ht hW => ⟨1, rfl, (by simp [kIn, c_1, c_2]), ht⟩) (fun _ h => nomatch h) dX10_isIn_15

def w_c_at7 : List Cond := .code yX7_at cX7_at 2 (some (.object "NotEnded$Rule")) :: ([.fieldLink RX7 9 "NotEnded$Shelf" "size" "I"] ++ (wsX70))
theorem gw_c_at7 : (w_c_at7).all goodWord = true := by decide +kernel
set_option maxHeartbeats 4000000 in
set_option maxRecDepth 100000 in
/-- an empty shelf has no text -/
theorem c_at7 (l : Launch) (dC : Nat → ClassId) (dI : Nat → Nat → Nat) (h0 : Nat) (v0 : Value) (p0 : Int32) : Met l yX7_at w_c_at7 ({ frames := 1, cells := 0, slots := 0, locals := 60 }) (kR dC dI [.ref h0, .int p0] [(h0, .inr (7, [v0, .int 0]))] [] kT) (va_Sq (fun r : Option Nat => r = none)) 0 0 (fun _ => False) := by
  refine Met.ofW (cc := cX7_at) (maxL := 2) (ret := (some (.object "NotEnded$Rule"))) (by decide) rfl ?_
  intro p e s m args below meth c s₁ B hml hv
  obtain ⟨rfl, hP, hK, hX⟩ := hv
  have hx := B.exec
  have hb := B.bytes
  have hr := B.returns
  have hts := atoms_spec (ws := w_c_at7) B.pre
  have hown : s.vm.findClass RX7 = some m.cls := findClass_of_methodNamed B.named
  have hlocks := B.notSynchronized
  have hP : va_P (dC, dI) vwCl [(h0, .inr (7, [v0, .int 0]))] s.heap := hP
  have hl := lv_entry ([.ref h0, .int p0]) (n := 2) (Nat.le_of_ble_eq_true rfl)
  rw [lg_entry_eq]
  generalize (lg_sl ([.ref h0, .int p0]) ++ List.replicate (2 - (lg_sl ([.ref h0, .int p0])).length) Slot.unset).toArray = ls at hl ⊢
  have hl : lv_has ls 2 [(0, .ref h0), (1, .int p0)] := hl
  refine lv_iload_n hx hb dX7_at_0 rfl (lv_at hl 1 rfl) ?_
  refine lv_if_lt (tgt := 30) hx hb dX7_at_1 (by decide) (fun c_1 => ?_) (fun c_1 => ?_)
  · refine lv_null hx hb dX7_at_30 ?_
    exact W.aret hx hb hr (Or.inl ⟨_, rfl⟩) (Or.inl rfl) (fun t ht hW => ⟨none, rfl, rfl, ht⟩) (fun _ h => nomatch h) dX7_at_31
  · refine lv_iload_n hx hb dX7_at_4 rfl (lv_at hl 1 rfl) ?_
    refine lv_aload_n hx hb dX7_at_5 rfl (lv_at hl 0 rfl) ?_
    refine va_get (D := (dC, dI)) (ci := 7) (v := .int 0) (C := RX7) (T := TX7) (N := 2) hx hb hts (fun _ h => List.mem_cons_of_mem _ (List.mem_append_right _ h)) hown hK hP 0 rfl rfl 1 (by decide) (hts (.fieldLink RX7 9 "NotEnded$Shelf" "size" "I") (List.mem_cons_of_mem _ (List.mem_append_left _ (List.mem_of_getElem? (i := 0) rfl)))) (fun _ h9 => h9) rfl dX7_at_6 ?_
    refine lv_icmp_ge (tgt := 30) hx hb dX7_at_9 (by decide) (fun c_2 => ?_) (fun c_2 => absurd (Int32.not_lt.mp c_1) c_2)
    refine lv_null hx hb dX7_at_30 ?_
    exact W.aret hx hb hr (Or.inl ⟨_, rfl⟩) (Or.inl rfl) (fun t ht hW => ⟨none, rfl, rfl, ht⟩) (fun _ h => nomatch h) dX7_at_31

def w_c_has2 : List Cond := .code yX2_has cX2_has 2 (some .boolean) :: ([.fieldLink RX2 31 "NotEnded$Folk" "size" "I"] ++ (wsX20))
theorem gw_c_has2 : (w_c_has2).all goodWord = true := by decide +kernel
set_option maxHeartbeats 4000000 in
set_option maxRecDepth 100000 in
/-- nobody is there -/
theorem c_has2 (l : Launch) (dC : Nat → ClassId) (dI : Nat → Nat → Nat) (h0 : Nat) (v0 : Value) (v1 : Value) (v2 : Value) (v3 : Value) (v4 : Value) (v5 : Value) (v7 : Value) (p0 : Int32) : Met l yX2_has w_c_has2 ({ frames := 1, cells := 0, slots := 0, locals := 60 }) (kR dC dI [.ref h0, .int p0] [(h0, .inr (2, [v0, v1, v2, v3, v4, v5, .int 0, v7]))] [] kT) (vp_Si (fun r : Int32 => r = 0)) 0 0 (fun _ => False) := by
  refine Met.ofW (cc := cX2_has) (maxL := 2) (ret := (some .boolean)) (by decide) rfl ?_
  intro p e s m args below meth c s₁ B hml hv
  obtain ⟨rfl, hP, hK, hX⟩ := hv
  have hx := B.exec
  have hb := B.bytes
  have hr := B.returns
  have hts := atoms_spec (ws := w_c_has2) B.pre
  have hown : s.vm.findClass RX2 = some m.cls := findClass_of_methodNamed B.named
  have hlocks := B.notSynchronized
  have hP : va_P (dC, dI) vwCl [(h0, .inr (2, [v0, v1, v2, v3, v4, v5, .int 0, v7]))] s.heap := hP
  have hl := lv_entry ([.ref h0, .int p0]) (n := 2) (Nat.le_of_ble_eq_true rfl)
  rw [lg_entry_eq]
  generalize (lg_sl ([.ref h0, .int p0]) ++ List.replicate (2 - (lg_sl ([.ref h0, .int p0])).length) Slot.unset).toArray = ls at hl ⊢
  have hl : lv_has ls 2 [(0, .ref h0), (1, .int p0)] := hl
  refine lv_iload_n hx hb dX2_has_0 rfl (lv_at hl 1 rfl) ?_
  refine lv_if_lt (tgt := 22) hx hb dX2_has_1 (by decide) (fun c_1 => ?_) (fun c_1 => ?_)
  · refine lv_iconst (v := 0) hx hb dX2_has_22 (by decide) ?_
    exact W.zret (v := 0) hx hb hr rfl (fun t ht hW => ⟨0, rfl, rfl, ht⟩) (fun _ h => nomatch h) dX2_has_23
  · refine lv_iload_n hx hb dX2_has_4 rfl (lv_at hl 1 rfl) ?_
    refine lv_aload_n hx hb dX2_has_5 rfl (lv_at hl 0 rfl) ?_
    refine va_get (D := (dC, dI)) (ci := 2) (v := .int 0) (C := RX2) (T := TX2) (N := 8) hx hb hts (fun _ h => List.mem_cons_of_mem _ (List.mem_append_right _ h)) hown hK hP 0 rfl rfl 6 (by decide) (hts (.fieldLink RX2 31 "NotEnded$Folk" "size" "I") (List.mem_cons_of_mem _ (List.mem_append_left _ (List.mem_of_getElem? (i := 0) rfl)))) (fun _ h9 => h9) rfl dX2_has_6 ?_
    refine lv_icmp_ge (tgt := 22) hx hb dX2_has_9 (by decide) (fun c_2 => ?_) (fun c_2 => absurd (Int32.not_lt.mp c_1) c_2)
    refine lv_iconst (v := 0) hx hb dX2_has_22 (by decide) ?_
    exact W.zret (v := 0) hx hb hr rfl (fun t ht hW => ⟨0, rfl, rfl, ht⟩) (fun _ h => nomatch h) dX2_has_23

def w_c_size7 : List Cond := .code yX7_size cX7_size 1 (some .int) :: ([.fieldLink RX7 9 "NotEnded$Shelf" "size" "I"] ++ (wsX70))
theorem gw_c_size7 : (w_c_size7).all goodWord = true := by decide +kernel
set_option maxHeartbeats 4000000 in
set_option maxRecDepth 100000 in
/-- X7_size reads a number -/
theorem c_size7 (l : Launch) (dC : Nat → ClassId) (dI : Nat → Nat → Nat) (h0 : Nat) (v0 : Value) (n : Int32) : Met l yX7_size w_c_size7 ({ frames := 1, cells := 0, slots := 0, locals := 60 }) (kR dC dI [.ref h0] [(h0, .inr (7, [v0, .int n]))] [] kT) (vp_Si (fun r : Int32 => r = n)) 0 0 (fun _ => False) := by
  refine Met.ofW (cc := cX7_size) (maxL := 1) (ret := (some .int)) (by decide) rfl ?_
  intro p e s m args below meth c s₁ B hml hv
  obtain ⟨rfl, hP, hK, hX⟩ := hv
  have hx := B.exec
  have hb := B.bytes
  have hr := B.returns
  have hts := atoms_spec (ws := w_c_size7) B.pre
  have hown : s.vm.findClass RX7 = some m.cls := findClass_of_methodNamed B.named
  have hlocks := B.notSynchronized
  have hP : va_P (dC, dI) vwCl [(h0, .inr (7, [v0, .int n]))] s.heap := hP
  have hl := lv_entry ([.ref h0]) (n := 1) (Nat.le_of_ble_eq_true rfl)
  rw [lg_entry_eq]
  generalize (lg_sl ([.ref h0]) ++ List.replicate (1 - (lg_sl ([.ref h0])).length) Slot.unset).toArray = ls at hl ⊢
  have hl : lv_has ls 1 [(0, .ref h0)] := hl
  refine lv_aload_n hx hb dX7_size_0 rfl (lv_at hl 0 rfl) ?_
  refine va_get (D := (dC, dI)) (ci := 7) (v := .int n) (C := RX7) (T := TX7) (N := 2) hx hb hts (fun _ h => List.mem_cons_of_mem _ (List.mem_append_right _ h)) hown hK hP 0 rfl rfl 1 (by decide) (hts (.fieldLink RX7 9 "NotEnded$Shelf" "size" "I") (List.mem_cons_of_mem _ (List.mem_append_left _ (List.mem_of_getElem? (i := 0) rfl)))) (fun _ h9 => h9) rfl dX7_size_1 ?_
  exact W.iret (v := n) hx hb hr (fun t ht hW => ⟨n, rfl, rfl, ht⟩) (fun _ h => nomatch h) dX7_size_4

def w_c_size2 : List Cond := .code yX2_size cX2_size 1 (some .int) :: ([.fieldLink RX2 31 "NotEnded$Folk" "size" "I"] ++ (wsX20))
theorem gw_c_size2 : (w_c_size2).all goodWord = true := by decide +kernel
set_option maxHeartbeats 4000000 in
set_option maxRecDepth 100000 in
/-- X2_size reads a number -/
theorem c_size2 (l : Launch) (dC : Nat → ClassId) (dI : Nat → Nat → Nat) (h0 : Nat) (v0 : Value) (v1 : Value) (v2 : Value) (v3 : Value) (v4 : Value) (v5 : Value) (v7 : Value) (n : Int32) : Met l yX2_size w_c_size2 ({ frames := 1, cells := 0, slots := 0, locals := 60 }) (kR dC dI [.ref h0] [(h0, .inr (2, [v0, v1, v2, v3, v4, v5, .int n, v7]))] [] kT) (vp_Si (fun r : Int32 => r = n)) 0 0 (fun _ => False) := by
  refine Met.ofW (cc := cX2_size) (maxL := 1) (ret := (some .int)) (by decide) rfl ?_
  intro p e s m args below meth c s₁ B hml hv
  obtain ⟨rfl, hP, hK, hX⟩ := hv
  have hx := B.exec
  have hb := B.bytes
  have hr := B.returns
  have hts := atoms_spec (ws := w_c_size2) B.pre
  have hown : s.vm.findClass RX2 = some m.cls := findClass_of_methodNamed B.named
  have hlocks := B.notSynchronized
  have hP : va_P (dC, dI) vwCl [(h0, .inr (2, [v0, v1, v2, v3, v4, v5, .int n, v7]))] s.heap := hP
  have hl := lv_entry ([.ref h0]) (n := 1) (Nat.le_of_ble_eq_true rfl)
  rw [lg_entry_eq]
  generalize (lg_sl ([.ref h0]) ++ List.replicate (1 - (lg_sl ([.ref h0])).length) Slot.unset).toArray = ls at hl ⊢
  have hl : lv_has ls 1 [(0, .ref h0)] := hl
  refine lv_aload_n hx hb dX2_size_0 rfl (lv_at hl 0 rfl) ?_
  refine va_get (D := (dC, dI)) (ci := 2) (v := .int n) (C := RX2) (T := TX2) (N := 8) hx hb hts (fun _ h => List.mem_cons_of_mem _ (List.mem_append_right _ h)) hown hK hP 0 rfl rfl 6 (by decide) (hts (.fieldLink RX2 31 "NotEnded$Folk" "size" "I") (List.mem_cons_of_mem _ (List.mem_append_left _ (List.mem_of_getElem? (i := 0) rfl)))) (fun _ h9 => h9) rfl dX2_size_1 ?_
  exact W.iret (v := n) hx hb hr (fun t ht hW => ⟨n, rfl, rfl, ht⟩) (fun _ h => nomatch h) dX2_size_4

def w_c_words2 : List Cond := .code yX2_words cX2_words 1 (some .int) :: ([.fieldLink RX2 34 "NotEnded$Folk" "words" "I"] ++ (wsX20))
theorem gw_c_words2 : (w_c_words2).all goodWord = true := by decide +kernel
set_option maxHeartbeats 4000000 in
set_option maxRecDepth 100000 in
/-- X2_words reads a number -/
theorem c_words2 (l : Launch) (dC : Nat → ClassId) (dI : Nat → Nat → Nat) (h0 : Nat) (v0 : Value) (v1 : Value) (v2 : Value) (v3 : Value) (v4 : Value) (v5 : Value) (v6 : Value) (n : Int32) : Met l yX2_words w_c_words2 ({ frames := 1, cells := 0, slots := 0, locals := 60 }) (kR dC dI [.ref h0] [(h0, .inr (2, [v0, v1, v2, v3, v4, v5, v6, .int n]))] [] kT) (vp_Si (fun r : Int32 => r = n)) 0 0 (fun _ => False) := by
  refine Met.ofW (cc := cX2_words) (maxL := 1) (ret := (some .int)) (by decide) rfl ?_
  intro p e s m args below meth c s₁ B hml hv
  obtain ⟨rfl, hP, hK, hX⟩ := hv
  have hx := B.exec
  have hb := B.bytes
  have hr := B.returns
  have hts := atoms_spec (ws := w_c_words2) B.pre
  have hown : s.vm.findClass RX2 = some m.cls := findClass_of_methodNamed B.named
  have hlocks := B.notSynchronized
  have hP : va_P (dC, dI) vwCl [(h0, .inr (2, [v0, v1, v2, v3, v4, v5, v6, .int n]))] s.heap := hP
  have hl := lv_entry ([.ref h0]) (n := 1) (Nat.le_of_ble_eq_true rfl)
  rw [lg_entry_eq]
  generalize (lg_sl ([.ref h0]) ++ List.replicate (1 - (lg_sl ([.ref h0])).length) Slot.unset).toArray = ls at hl ⊢
  have hl : lv_has ls 1 [(0, .ref h0)] := hl
  refine lv_aload_n hx hb dX2_words_0 rfl (lv_at hl 0 rfl) ?_
  refine va_get (D := (dC, dI)) (ci := 2) (v := .int n) (C := RX2) (T := TX2) (N := 8) hx hb hts (fun _ h => List.mem_cons_of_mem _ (List.mem_append_right _ h)) hown hK hP 0 rfl rfl 7 (by decide) (hts (.fieldLink RX2 34 "NotEnded$Folk" "words" "I") (List.mem_cons_of_mem _ (List.mem_append_left _ (List.mem_of_getElem? (i := 0) rfl)))) (fun _ h9 => h9) rfl dX2_words_1 ?_
  exact W.iret (v := n) hx hb hr (fun t ht hW => ⟨n, rfl, rfl, ht⟩) (fun _ h => nomatch h) dX2_words_4

def w_c_size3 : List Cond := .code yX3_size cX3_size 1 (some .int) :: ([.fieldLink RX3 27 "NotEnded$Notebook" "size" "I"] ++ (wsX30))
theorem gw_c_size3 : (w_c_size3).all goodWord = true := by decide +kernel
set_option maxHeartbeats 4000000 in
set_option maxRecDepth 100000 in
/-- X3_size reads a number -/
theorem c_size3 (l : Launch) (dC : Nat → ClassId) (dI : Nat → Nat → Nat) (h0 : Nat) (v0 : Value) (v1 : Value) (v2 : Value) (v3 : Value) (v4 : Value) (n : Int32) : Met l yX3_size w_c_size3 ({ frames := 1, cells := 0, slots := 0, locals := 60 }) (kR dC dI [.ref h0] [(h0, .inr (3, [v0, v1, v2, v3, v4, .int n]))] [] kT) (vp_Si (fun r : Int32 => r = n)) 0 0 (fun _ => False) := by
  refine Met.ofW (cc := cX3_size) (maxL := 1) (ret := (some .int)) (by decide) rfl ?_
  intro p e s m args below meth c s₁ B hml hv
  obtain ⟨rfl, hP, hK, hX⟩ := hv
  have hx := B.exec
  have hb := B.bytes
  have hr := B.returns
  have hts := atoms_spec (ws := w_c_size3) B.pre
  have hown : s.vm.findClass RX3 = some m.cls := findClass_of_methodNamed B.named
  have hlocks := B.notSynchronized
  have hP : va_P (dC, dI) vwCl [(h0, .inr (3, [v0, v1, v2, v3, v4, .int n]))] s.heap := hP
  have hl := lv_entry ([.ref h0]) (n := 1) (Nat.le_of_ble_eq_true rfl)
  rw [lg_entry_eq]
  generalize (lg_sl ([.ref h0]) ++ List.replicate (1 - (lg_sl ([.ref h0])).length) Slot.unset).toArray = ls at hl ⊢
  have hl : lv_has ls 1 [(0, .ref h0)] := hl
  refine lv_aload_n hx hb dX3_size_0 rfl (lv_at hl 0 rfl) ?_
  refine va_get (D := (dC, dI)) (ci := 3) (v := .int n) (C := RX3) (T := TX3) (N := 6) hx hb hts (fun _ h => List.mem_cons_of_mem _ (List.mem_append_right _ h)) hown hK hP 0 rfl rfl 5 (by decide) (hts (.fieldLink RX3 27 "NotEnded$Notebook" "size" "I") (List.mem_cons_of_mem _ (List.mem_append_left _ (List.mem_of_getElem? (i := 0) rfl)))) (fun _ h9 => h9) rfl dX3_size_1 ?_
  exact W.iret (v := n) hx hb hr (fun t ht hW => ⟨n, rfl, rfl, ht⟩) (fun _ h => nomatch h) dX3_size_4

def w_c_size0 : List Cond := .code yX0_size cX0_size 1 (some .int) :: ([.fieldLink RX0 24 "NotEnded$Acts" "size" "I"] ++ (wsX00))
theorem gw_c_size0 : (w_c_size0).all goodWord = true := by decide +kernel
set_option maxHeartbeats 4000000 in
set_option maxRecDepth 100000 in
/-- X0_size reads a number -/
theorem c_size0 (l : Launch) (dC : Nat → ClassId) (dI : Nat → Nat → Nat) (h0 : Nat) (v0 : Value) (v1 : Value) (v2 : Value) (v3 : Value) (n : Int32) : Met l yX0_size w_c_size0 ({ frames := 1, cells := 0, slots := 0, locals := 60 }) (kR dC dI [.ref h0] [(h0, .inr (0, [v0, v1, v2, v3, .int n]))] [] kT) (vp_Si (fun r : Int32 => r = n)) 0 0 (fun _ => False) := by
  refine Met.ofW (cc := cX0_size) (maxL := 1) (ret := (some .int)) (by decide) rfl ?_
  intro p e s m args below meth c s₁ B hml hv
  obtain ⟨rfl, hP, hK, hX⟩ := hv
  have hx := B.exec
  have hb := B.bytes
  have hr := B.returns
  have hts := atoms_spec (ws := w_c_size0) B.pre
  have hown : s.vm.findClass RX0 = some m.cls := findClass_of_methodNamed B.named
  have hlocks := B.notSynchronized
  have hP : va_P (dC, dI) vwCl [(h0, .inr (0, [v0, v1, v2, v3, .int n]))] s.heap := hP
  have hl := lv_entry ([.ref h0]) (n := 1) (Nat.le_of_ble_eq_true rfl)
  rw [lg_entry_eq]
  generalize (lg_sl ([.ref h0]) ++ List.replicate (1 - (lg_sl ([.ref h0])).length) Slot.unset).toArray = ls at hl ⊢
  have hl : lv_has ls 1 [(0, .ref h0)] := hl
  refine lv_aload_n hx hb dX0_size_0 rfl (lv_at hl 0 rfl) ?_
  refine va_get (D := (dC, dI)) (ci := 0) (v := .int n) (C := RX0) (T := TX0) (N := 5) hx hb hts (fun _ h => List.mem_cons_of_mem _ (List.mem_append_right _ h)) hown hK hP 0 rfl rfl 4 (by decide) (hts (.fieldLink RX0 24 "NotEnded$Acts" "size" "I") (List.mem_cons_of_mem _ (List.mem_append_left _ (List.mem_of_getElem? (i := 0) rfl)))) (fun _ h9 => h9) rfl dX0_size_1 ?_
  exact W.iret (v := n) hx hb hr (fun t ht hW => ⟨n, rfl, rfl, ht⟩) (fun _ h => nomatch h) dX0_size_4

def w_c_length8 : List Cond := .code yX8_length cX8_length 1 (some .int) :: ([.fieldLink RX8 15 "NotEnded$Tape" "length" "I"] ++ (wsX80))
theorem gw_c_length8 : (w_c_length8).all goodWord = true := by decide +kernel
set_option maxHeartbeats 4000000 in
set_option maxRecDepth 100000 in
/-- X8_length reads a number -/
theorem c_length8 (l : Launch) (dC : Nat → ClassId) (dI : Nat → Nat → Nat) (h0 : Nat) (v0 : Value) (n : Int32) : Met l yX8_length w_c_length8 ({ frames := 1, cells := 0, slots := 0, locals := 60 }) (kR dC dI [.ref h0] [(h0, .inr (8, [v0, .int n]))] [] kT) (vp_Si (fun r : Int32 => r = n)) 0 0 (fun _ => False) := by
  refine Met.ofW (cc := cX8_length) (maxL := 1) (ret := (some .int)) (by decide) rfl ?_
  intro p e s m args below meth c s₁ B hml hv
  obtain ⟨rfl, hP, hK, hX⟩ := hv
  have hx := B.exec
  have hb := B.bytes
  have hr := B.returns
  have hts := atoms_spec (ws := w_c_length8) B.pre
  have hown : s.vm.findClass RX8 = some m.cls := findClass_of_methodNamed B.named
  have hlocks := B.notSynchronized
  have hP : va_P (dC, dI) vwCl [(h0, .inr (8, [v0, .int n]))] s.heap := hP
  have hl := lv_entry ([.ref h0]) (n := 1) (Nat.le_of_ble_eq_true rfl)
  rw [lg_entry_eq]
  generalize (lg_sl ([.ref h0]) ++ List.replicate (1 - (lg_sl ([.ref h0])).length) Slot.unset).toArray = ls at hl ⊢
  have hl : lv_has ls 1 [(0, .ref h0)] := hl
  refine lv_aload_n hx hb dX8_length_0 rfl (lv_at hl 0 rfl) ?_
  refine va_get (D := (dC, dI)) (ci := 8) (v := .int n) (C := RX8) (T := TX8) (N := 2) hx hb hts (fun _ h => List.mem_cons_of_mem _ (List.mem_append_right _ h)) hown hK hP 0 rfl rfl 1 (by decide) (hts (.fieldLink RX8 15 "NotEnded$Tape" "length" "I") (List.mem_cons_of_mem _ (List.mem_append_left _ (List.mem_of_getElem? (i := 0) rfl)))) (fun _ h9 => h9) rfl dX8_length_1 ?_
  exact W.iret (v := n) hx hb hr (fun t ht hW => ⟨n, rfl, rfl, ht⟩) (fun _ h => nomatch h) dX8_length_4

def w_c_every2 : List Cond := .code yX2_everybody cX2_everybody 1 (some .int) :: ([.fieldLink RX2 31 "NotEnded$Folk" "size" "I"] ++ (wsX20))
theorem gw_c_every2 : (w_c_every2).all goodWord = true := by decide +kernel
set_option maxHeartbeats 4000000 in
set_option maxRecDepth 100000 in
theorem c_every2 (l : Launch) (dC : Nat → ClassId) (dI : Nat → Nat → Nat) (h0 : Nat) (v0 : Value) (v1 : Value) (v2 : Value) (v3 : Value) (v4 : Value) (v5 : Value) (v7 : Value) : Met l yX2_everybody w_c_every2 ({ frames := 1, cells := 0, slots := 0, locals := 60 }) (kR dC dI [.ref h0] [(h0, .inr (2, [v0, v1, v2, v3, v4, v5, .int 0, v7]))] [] kT) (vp_Si (fun r : Int32 => r = 0)) 0 0 (fun _ => False) := by
  refine Met.ofW (cc := cX2_everybody) (maxL := 1) (ret := (some .int)) (by decide) rfl ?_
  intro p e s m args below meth c s₁ B hml hv
  obtain ⟨rfl, hP, hK, hX⟩ := hv
  have hx := B.exec
  have hb := B.bytes
  have hr := B.returns
  have hts := atoms_spec (ws := w_c_every2) B.pre
  have hown : s.vm.findClass RX2 = some m.cls := findClass_of_methodNamed B.named
  have hlocks := B.notSynchronized
  have hP : va_P (dC, dI) vwCl [(h0, .inr (2, [v0, v1, v2, v3, v4, v5, .int 0, v7]))] s.heap := hP
  have hl := lv_entry ([.ref h0]) (n := 1) (Nat.le_of_ble_eq_true rfl)
  rw [lg_entry_eq]
  generalize (lg_sl ([.ref h0]) ++ List.replicate (1 - (lg_sl ([.ref h0])).length) Slot.unset).toArray = ls at hl ⊢
  have hl : lv_has ls 1 [(0, .ref h0)] := hl
  refine lv_iconst (v := 1) hx hb dX2_everybody_0 (by decide) ?_
  refine lv_aload_n hx hb dX2_everybody_1 rfl (lv_at hl 0 rfl) ?_
  refine va_get (D := (dC, dI)) (ci := 2) (v := .int 0) (C := RX2) (T := TX2) (N := 8) hx hb hts (fun _ h => List.mem_cons_of_mem _ (List.mem_append_right _ h)) hown hK hP 0 rfl rfl 6 (by decide) (hts (.fieldLink RX2 31 "NotEnded$Folk" "size" "I") (List.mem_cons_of_mem _ (List.mem_append_left _ (List.mem_of_getElem? (i := 0) rfl)))) (fun _ h9 => h9) rfl dX2_everybody_2 ?_
  refine lv_ishl hx hb dX2_everybody_5 ?_
  refine lv_topi (fun y_1 ey_1 => ?_)
  obtain rfl : y_1 = 1 := ey_1.trans (by decide)
  refine lv_iconst (v := 1) hx hb dX2_everybody_6 (by decide) ?_
  refine lv_isub hx hb dX2_everybody_7 ?_
  refine lv_topi (fun y_2 ey_2 => ?_)
  obtain rfl : y_2 = 0 := ey_2.trans (by decide)
  exact W.iret (v := 0) hx hb hr (fun t ht hW => ⟨0, rfl, rfl, ht⟩) (fun _ h => nomatch h) dX2_everybody_8

def w_c_alone2 : List Cond := .code yX2_thoseAlone cX2_thoseAlone 4 (some .int) :: ([.initialized RX2, .selects RX2 yX2_everybody yX2_everybody, .instanceMethod yX2_everybody, .methodLink RX2 41 yX2_everybody, .fieldLink RX2 31 "NotEnded$Folk" "size" "I"] ++ (w_c_every2 ++ (wsX20)))
theorem gw_c_alone2 : (w_c_alone2).all goodWord = true := by decide +kernel
set_option maxHeartbeats 4000000 in
set_option maxRecDepth 100000 in
theorem c_alone2 (l : Launch) (dC : Nat → ClassId) (dI : Nat → Nat → Nat) (h0 : Nat) (v0 : Value) (v1 : Value) (v2 : Value) (v3 : Value) (v4 : Value) (v5 : Value) (v7 : Value) : Met l yX2_thoseAlone w_c_alone2 ({ frames := 2, cells := 0, slots := 0, locals := 120 }) (kR dC dI [.ref h0] [(h0, .inr (2, [v0, v1, v2, v3, v4, v5, .int 0, v7]))] [] kT) (vp_Si (fun r : Int32 => r = 0)) 0 0 (fun _ => False) := by
  refine Met.ofW (cc := cX2_thoseAlone) (maxL := 4) (ret := (some .int)) (by decide) rfl ?_
  intro p e s m args below meth c s₁ B hml hv
  obtain ⟨rfl, hP, hK, hX⟩ := hv
  have hx := B.exec
  have hb := B.bytes
  have hr := B.returns
  have hts := atoms_spec (ws := w_c_alone2) B.pre
  have hown : s.vm.findClass RX2 = some m.cls := findClass_of_methodNamed B.named
  have hlocks := B.notSynchronized
  have hP : va_P (dC, dI) vwCl [(h0, .inr (2, [v0, v1, v2, v3, v4, v5, .int 0, v7]))] s.heap := hP
  have hl := lv_entry ([.ref h0]) (n := 4) (Nat.le_of_ble_eq_true rfl)
  rw [lg_entry_eq]
  generalize (lg_sl ([.ref h0]) ++ List.replicate (4 - (lg_sl ([.ref h0])).length) Slot.unset).toArray = ls at hl ⊢
  have hl : lv_has ls 4 [(0, .ref h0)] := hl
  refine lv_aload_n hx hb dX2_thoseAlone_0 rfl (lv_at hl 0 rfl) ?_
  have hPc := hP.sub (ws' := [(h0, .inr (2, [v0, v1, v2, v3, v4, v5, .int 0, v7]))]) [0] rfl
  have hKc := hK.sub (tys' := []) [] rfl
  refine vp_callSi (va_runV (As := []) (rest := []) ⟨hx, hb, hml, hown, hts⟩ (c_every2 l dC dI h0 (v0 : Value) (v1 : Value) (v2 : Value) (v3 : Value) (v4 : Value) (v5 : Value) (v7 : Value)) (cwV 0 hts (kG (List.forall_mem_cons.mpr ⟨(List.mem_cons_of_mem _ (List.mem_append_left _ (List.mem_of_getElem? (i := 3) rfl))), (List.forall_mem_cons.mpr ⟨(List.mem_cons_of_mem _ (List.mem_append_left _ (List.mem_of_getElem? (i := 2) rfl))), (List.forall_mem_cons.mpr ⟨(List.mem_cons_of_mem _ (List.mem_append_left _ (List.mem_of_getElem? (i := 1) rfl))), (List.forall_mem_cons.mpr ⟨(List.mem_cons_of_mem _ (List.mem_append_left _ (List.mem_of_getElem? (i := 0) rfl))), (fun _ h => absurd h List.not_mem_nil)⟩)⟩)⟩)⟩) (by decide +kernel) (fun _ h => List.mem_cons_of_mem _ (List.mem_append_right _ (List.mem_append_left _ h))) gw_c_every2) rfl rfl rfl (by decide +kernel) ⟨(Nat.le_of_ble_eq_true rfl), (Nat.le_of_ble_eq_true rfl)⟩) (kR_V kT_blind kT_give (va_recv hKc hPc (ci := 2) (q0 := 0) rfl rfl) hPc hKc) rfl rfl hl.1 rfl (lv_room (Nat.le_of_ble_eq_true rfl)) dX2_thoseAlone_1 ⟨(Nat.le_of_ble_eq_true rfl), (Nat.le_of_ble_eq_true rfl)⟩).run (fun r_1 hw => ?_)
  obtain rfl : r_1 = 0 := hw
  refine lv_istore_n (lv' := [(1, .int 0), (0, .ref h0)]) hx hb dX2_thoseAlone_4 rfl hl (by decide) rfl (fun ls hl => ?_)
  refine lv_iconst (v := 0) hx hb dX2_thoseAlone_5 (by decide) ?_
  refine lv_istore_n (lv' := [(2, .int 0), (1, .int 0), (0, .ref h0)]) hx hb dX2_thoseAlone_6 rfl hl (by decide) rfl (fun ls hl => ?_)
  refine lv_iload_n hx hb dX2_thoseAlone_7 rfl (lv_at hl 0 rfl) ?_
  refine lv_aload_n hx hb dX2_thoseAlone_8 rfl (lv_at hl 2 rfl) ?_
  refine va_get (D := (dC, dI)) (ci := 2) (v := .int 0) (C := RX2) (T := TX2) (N := 8) hx hb hts (fun _ h => List.mem_cons_of_mem _ (List.mem_append_right _ (List.mem_append_right _ h))) hown hK hP 0 rfl rfl 6 (by decide) (hts (.fieldLink RX2 31 "NotEnded$Folk" "size" "I") (List.mem_cons_of_mem _ (List.mem_append_left _ (List.mem_of_getElem? (i := 4) rfl)))) (fun _ h9 => h9) rfl dX2_thoseAlone_9 ?_
  refine lv_icmp_ge (tgt := 65) hx hb dX2_thoseAlone_12 (by decide) (fun c_2 => ?_) (fun c_2 => absurd (by decide) c_2)
  refine lv_iload_n hx hb dX2_thoseAlone_65 rfl (lv_at hl 1 rfl) ?_
  exact W.iret (v := 0) hx hb hr (fun t ht hW => ⟨0, rfl, rfl, ht⟩) (fun _ h => nomatch h) dX2_thoseAlone_66

def w_c_isHouse9 : List Cond := .code yX9_isHouse cX9_isHouse 1 (some .boolean) :: ([.initialized RX9, .static yX9_isIn, .methodLink RX9 117 yX9_isIn] ++ (w_c_isIn9))
theorem gw_c_isHouse9 : (w_c_isHouse9).all goodWord = true := by decide +kernel
set_option maxHeartbeats 4000000 in
set_option maxRecDepth 100000 in
theorem c_isHouse9 (l : Launch) (dC : Nat → ClassId) (dI : Nat → Nat → Nat) (p0 : Int32) : Met l yX9_isHouse w_c_isHouse9 ({ frames := 2, cells := 0, slots := 0, locals := 120 }) (kR dC dI [.int p0] [] [] kT) (vp_Si (fun r : Int32 => r = kIn p0 0 3)) 0 0 (fun _ => False) := by
  refine Met.ofW (cc := cX9_isHouse) (maxL := 1) (ret := (some .boolean)) (by decide) rfl ?_
  intro p e s m args below meth c s₁ B hml hv
  obtain ⟨rfl, hP, hK, hX⟩ := hv
  have hx := B.exec
  have hb := B.bytes
  have hr := B.returns
  have hts := atoms_spec (ws := w_c_isHouse9) B.pre
  have hown : s.vm.findClass RX9 = some m.cls := findClass_of_methodNamed B.named
  have hlocks := B.notSynchronized
  have hP : va_P (dC, dI) vwCl [] s.heap := hP
  have hl := lv_entry ([.int p0]) (n := 1) (Nat.le_of_ble_eq_true rfl)
  rw [lg_entry_eq]
  generalize (lg_sl ([.int p0]) ++ List.replicate (1 - (lg_sl ([.int p0])).length) Slot.unset).toArray = ls at hl ⊢
  have hl : lv_has ls 1 [(0, .int p0)] := hl
  refine lv_iload_n hx hb dX9_isHouse_0 rfl (lv_at hl 0 rfl) ?_
  refine lv_iconst (v := 0) hx hb dX9_isHouse_1 (by decide) ?_
  refine lv_iconst (v := 3) hx hb dX9_isHouse_2 (by decide) ?_
  have hPc := hP.sub (ws' := []) [] rfl
  have hKc := hK.sub (tys' := []) [] rfl
  refine vp_callSi (va_runS (As := [.int p0, .int 0, .int 3]) (rest := []) ⟨hx, hb, hml, hown, hts⟩ (c_isIn9 l dC dI p0 0 3) (va_cwS 3 hts (kG (List.forall_mem_cons.mpr ⟨(List.mem_cons_of_mem _ (List.mem_append_left _ (List.mem_of_getElem? (i := 2) rfl))), (List.forall_mem_cons.mpr ⟨(List.mem_cons_of_mem _ (List.mem_append_left _ (List.mem_of_getElem? (i := 1) rfl))), (List.forall_mem_cons.mpr ⟨(List.mem_cons_of_mem _ (List.mem_append_left _ (List.mem_of_getElem? (i := 0) rfl))), (fun _ h => absurd h List.not_mem_nil)⟩)⟩)⟩) (by decide +kernel) (fun _ h => List.mem_cons_of_mem _ (List.mem_append_right _ h)) gw_c_isIn9) rfl rfl rfl (by decide +kernel) ⟨(Nat.le_of_ble_eq_true rfl), (Nat.le_of_ble_eq_true rfl)⟩) (kR_S kT_blind kT_give hPc hKc) rfl rfl hl.1 rfl (lv_room (Nat.le_of_ble_eq_true rfl)) dX9_isHouse_3 ⟨(Nat.le_of_ble_eq_true rfl), (Nat.le_of_ble_eq_true rfl)⟩).run (fun r_1 hw => ?_)
  have hw_2 := hw
  exact W.zret (v := r_1) hx hb hr (by rw [hw_2]; exact kIn_nar _ _ _) (fun t ht hW => ⟨r_1, rfl, hw_2, ht⟩) (fun _ h => nomatch h) dX9_isHouse_6

def w_c_isSort9 : List Cond := .code yX9_isSort cX9_isSort 1 (some .boolean) :: ([])
theorem gw_c_isSort9 : (w_c_isSort9).all goodWord = true := by decide +kernel
set_option maxHeartbeats 4000000 in
set_option maxRecDepth 100000 in
theorem c_isSort9 (l : Launch) (dC : Nat → ClassId) (dI : Nat → Nat → Nat) (p0 : Int32) : Met l yX9_isSort w_c_isSort9 ({ frames := 1, cells := 0, slots := 0, locals := 60 }) (kR dC dI [.int p0] [] [] kT) (vp_Si (fun r : Int32 => r = kSort p0)) 0 0 (fun _ => False) := by
  refine Met.ofW (cc := cX9_isSort) (maxL := 1) (ret := (some .boolean)) (by decide) rfl ?_
  intro p e s m args below meth c s₁ B hml hv
  obtain ⟨rfl, hP, hK, hX⟩ := hv
  have hx := B.exec
  have hb := B.bytes
  have hr := B.returns
  have hts := atoms_spec (ws := w_c_isSort9) B.pre
  have hown : s.vm.findClass RX9 = some m.cls := findClass_of_methodNamed B.named
  have hlocks := B.notSynchronized
  have hP : va_P (dC, dI) vwCl [] s.heap := hP
  have hl := lv_entry ([.int p0]) (n := 1) (Nat.le_of_ble_eq_true rfl)
  rw [lg_entry_eq]
  generalize (lg_sl ([.int p0]) ++ List.replicate (1 - (lg_sl ([.int p0])).length) Slot.unset).toArray = ls at hl ⊢
  have hl : lv_has ls 1 [(0, .int p0)] := hl
  refine lv_iload_n hx hb dX9_isSort_0 rfl (lv_at hl 0 rfl) ?_
  refine lv_if_eq (tgt := 9) hx hb dX9_isSort_1 (by decide) (fun c_1 => ?_) (fun c_1 => ?_)
  · refine lv_iconst (v := 1) hx hb dX9_isSort_9 (by decide) ?_
    refine lv_goto (tgt := 14) hx hb dX9_isSort_10 (by decide) ?_
    exact W.zret (v := 1) hx hb hr rfl (fun t ht hW => ⟨1, rfl, (by simp [kSort, c_1]), ht⟩) (fun _ h => nomatch h) dX9_isSort_14
  · refine lv_iload_n hx hb dX9_isSort_4 rfl (lv_at hl 0 rfl) ?_
    refine lv_iconst (v := 1) hx hb dX9_isSort_5 (by decide) ?_
    refine lv_icmp_ne (tgt := 13) hx hb dX9_isSort_6 (by decide) (fun c_2 => ?_) (fun c_2 => ?_)
    · refine lv_iconst (v := 0) hx hb dX9_isSort_13 (by decide) ?_
      exact W.zret (v := 0) hx hb hr rfl (fun t ht hW => ⟨0, rfl, (by simp [kSort, c_1, c_2]), ht⟩) (fun _ h => nomatch h) dX9_isSort_14
    · refine lv_iconst (v := 1) hx hb dX9_isSort_9 (by decide) ?_
      refine lv_goto (tgt := 14) hx hb dX9_isSort_10 (by decide) ?_
      exact W.zret (v := 1) hx hb hr rfl (fun t ht hW => ⟨1, rfl, (by simp [kSort, c_1, c_2]), ht⟩) (fun _ h => nomatch h) dX9_isSort_14

def w_c_within9 : List Cond := .code yX9_within cX9_within 3 (some .int) :: ([])
theorem gw_c_within9 : (w_c_within9).all goodWord = true := by decide +kernel
set_option maxHeartbeats 4000000 in
set_option maxRecDepth 100000 in
theorem c_within9 (l : Launch) (dC : Nat → ClassId) (dI : Nat → Nat → Nat) (p0 : Int32) (p1 : Int32) (p2 : Int32) : Met l yX9_within w_c_within9 ({ frames := 1, cells := 0, slots := 0, locals := 60 }) (kR dC dI [.int p0, .int p1, .int p2] [] [] kT) (vp_Si (fun r : Int32 => True)) 0 0 (fun _ => False) := by
  refine Met.ofW (cc := cX9_within) (maxL := 3) (ret := (some .int)) (by decide) rfl ?_
  intro p e s m args below meth c s₁ B hml hv
  obtain ⟨rfl, hP, hK, hX⟩ := hv
  have hx := B.exec
  have hb := B.bytes
  have hr := B.returns
  have hts := atoms_spec (ws := w_c_within9) B.pre
  have hown : s.vm.findClass RX9 = some m.cls := findClass_of_methodNamed B.named
  have hlocks := B.notSynchronized
  have hP : va_P (dC, dI) vwCl [] s.heap := hP
  have hl := lv_entry ([.int p0, .int p1, .int p2]) (n := 3) (Nat.le_of_ble_eq_true rfl)
  rw [lg_entry_eq]
  generalize (lg_sl ([.int p0, .int p1, .int p2]) ++ List.replicate (3 - (lg_sl ([.int p0, .int p1, .int p2])).length) Slot.unset).toArray = ls at hl ⊢
  have hl : lv_has ls 3 [(0, .int p0), (1, .int p1), (2, .int p2)] := hl
  refine lv_iload_n hx hb dX9_within_0 rfl (lv_at hl 0 rfl) ?_
  refine lv_iload_n hx hb dX9_within_1 rfl (lv_at hl 1 rfl) ?_
  refine lv_icmp_ge (tgt := 7) hx hb dX9_within_2 (by decide) (fun c_1 => ?_) (fun c_1 => ?_)
  · refine lv_iload_n hx hb dX9_within_7 rfl (lv_at hl 0 rfl) ?_
    refine lv_iload_n hx hb dX9_within_8 rfl (lv_at hl 2 rfl) ?_
    refine lv_icmp_le (tgt := 16) hx hb dX9_within_9 (by decide) (fun c_2 => ?_) (fun c_2 => ?_)
    · refine lv_iload_n hx hb dX9_within_16 rfl (lv_at hl 0 rfl) ?_
      exact W.iret (v := p0) hx hb hr (fun t ht hW => ⟨p0, rfl, trivial, ht⟩) (fun _ h => nomatch h) dX9_within_17
    · refine lv_iload_n hx hb dX9_within_12 rfl (lv_at hl 2 rfl) ?_
      refine lv_goto (tgt := 17) hx hb dX9_within_13 (by decide) ?_
      exact W.iret (v := p2) hx hb hr (fun t ht hW => ⟨p2, rfl, trivial, ht⟩) (fun _ h => nomatch h) dX9_within_17
  · refine lv_iload_n hx hb dX9_within_5 rfl (lv_at hl 1 rfl) ?_
    exact W.iret (v := p1) hx hb hr (fun t ht hW => ⟨p1, rfl, trivial, ht⟩) (fun _ h => nomatch h) dX9_within_6

def w_c_bytes8 : List Cond := .code yX8_bytesIn cX8_bytesIn 3 (some .int) :: ([])
theorem gw_c_bytes8 : (w_c_bytes8).all goodWord = true := by decide +kernel
set_option maxHeartbeats 4000000 in
set_option maxRecDepth 100000 in
theorem c_bytes8 (l : Launch) (dC : Nat → ClassId) (dI : Nat → Nat → Nat) (p0 : Int32) : Met l yX8_bytesIn w_c_bytes8 ({ frames := 1, cells := 0, slots := 0, locals := 60 }) (kR dC dI [.int p0] [] [] kT) (vp_Si (fun r : Int32 => r = nI (kCnt p0))) 0 0 (fun _ => False) := by
  refine Met.ofW (cc := cX8_bytesIn) (maxL := 3) (ret := (some .int)) (by decide) rfl ?_
  intro p e s m args below meth c s₁ B hml hv
  obtain ⟨rfl, hP, hK, hX⟩ := hv
  have hx := B.exec
  have hb := B.bytes
  have hr := B.returns
  have hts := atoms_spec (ws := w_c_bytes8) B.pre
  have hown : s.vm.findClass RX8 = some m.cls := findClass_of_methodNamed B.named
  have hlocks := B.notSynchronized
  have hP : va_P (dC, dI) vwCl [] s.heap := hP
  have hl := lv_entry ([.int p0]) (n := 3) (Nat.le_of_ble_eq_true rfl)
  rw [lg_entry_eq]
  generalize (lg_sl ([.int p0]) ++ List.replicate (3 - (lg_sl ([.int p0])).length) Slot.unset).toArray = ls at hl ⊢
  have hl : lv_has ls 3 [(0, .int p0)] := hl
  refine lv_iconst (v := 0) hx hb dX8_bytesIn_0 (by decide) ?_
  refine lv_istore_n (lv' := [(1, .int 0), (0, .int p0)]) hx hb dX8_bytesIn_1 rfl hl (by decide) rfl (fun ls hl => ?_)
  refine lv_bipush (v := 24) hx hb dX8_bytesIn_2 (by decide) ?_
  refine lv_istore_n (lv' := [(2, .int 24), (1, .int 0), (0, .int p0)]) hx hb dX8_bytesIn_4 rfl hl (by decide) rfl (fun ls hl => ?_)
  refine lv_iload_n hx hb dX8_bytesIn_5 rfl (lv_at hl 0 rfl) ?_
  refine lv_if_lt (tgt := 28) hx hb dX8_bytesIn_6 (by decide) (fun c_1 => absurd c_1 (by decide)) (fun c_1 => ?_)
  refine lv_iload_n hx hb dX8_bytesIn_9 rfl (lv_at hl 2 rfl) ?_
  refine lv_iload_n hx hb dX8_bytesIn_10 rfl (lv_at hl 0 rfl) ?_
  obtain ⟨x_2, ex_2⟩ : ∃ z : Int32, z = (Int32.toUInt32 p0 >>> (Int32.toUInt32 24 &&& Int32.toUInt32 31)).toInt32 := ⟨_, rfl⟩
  refine lv_iushr (v := x_2) hx hb dX8_bytesIn_11 ex_2.symm ?_
  refine lv_sipush (v := 255) hx hb dX8_bytesIn_12 (by decide) ?_
  refine lv_iand hx hb dX8_bytesIn_15 ?_
  refine lv_topi (fun x_3 ex_3 => ?_)
  have hy_4 : kS p0 24 = x_3 := by rw [ex_3, ex_2]; exact (kSu24 p0).symm
  refine lv_if_eq (tgt := 22) hx hb dX8_bytesIn_16 (by decide) (fun c_5 => ?_) (fun c_5 => ?_)
  · refine lv_iinc (v := 16) (lv' := [(2, .int 16), (1, .int 0), (0, .int p0)]) hx hb dX8_bytesIn_22 hl (k := 0) rfl (by decide) (by decide) rfl (fun ls hl => ?_)
    refine lv_goto (tgt := 5) hx hb dX8_bytesIn_25 (by decide) ?_
    refine lv_iload_n hx hb dX8_bytesIn_5 rfl (lv_at hl 0 rfl) ?_
    refine lv_if_lt (tgt := 28) hx hb dX8_bytesIn_6 (by decide) (fun c_6 => absurd c_6 (by decide)) (fun c_6 => ?_)
    refine lv_iload_n hx hb dX8_bytesIn_9 rfl (lv_at hl 2 rfl) ?_
    refine lv_iload_n hx hb dX8_bytesIn_10 rfl (lv_at hl 0 rfl) ?_
    obtain ⟨x_7, ex_7⟩ : ∃ z : Int32, z = (Int32.toUInt32 p0 >>> (Int32.toUInt32 16 &&& Int32.toUInt32 31)).toInt32 := ⟨_, rfl⟩
    refine lv_iushr (v := x_7) hx hb dX8_bytesIn_11 ex_7.symm ?_
    refine lv_sipush (v := 255) hx hb dX8_bytesIn_12 (by decide) ?_
    refine lv_iand hx hb dX8_bytesIn_15 ?_
    refine lv_topi (fun x_8 ex_8 => ?_)
    have hy_9 : kS p0 16 = x_8 := by rw [ex_8, ex_7]; exact (kSu16 p0).symm
    refine lv_if_eq (tgt := 22) hx hb dX8_bytesIn_16 (by decide) (fun c_10 => ?_) (fun c_10 => ?_)
    · refine lv_iinc (v := 8) (lv' := [(2, .int 8), (1, .int 0), (0, .int p0)]) hx hb dX8_bytesIn_22 hl (k := 0) rfl (by decide) (by decide) rfl (fun ls hl => ?_)
      refine lv_goto (tgt := 5) hx hb dX8_bytesIn_25 (by decide) ?_
      refine lv_iload_n hx hb dX8_bytesIn_5 rfl (lv_at hl 0 rfl) ?_
      refine lv_if_lt (tgt := 28) hx hb dX8_bytesIn_6 (by decide) (fun c_11 => absurd c_11 (by decide)) (fun c_11 => ?_)
      refine lv_iload_n hx hb dX8_bytesIn_9 rfl (lv_at hl 2 rfl) ?_
      refine lv_iload_n hx hb dX8_bytesIn_10 rfl (lv_at hl 0 rfl) ?_
      obtain ⟨x_12, ex_12⟩ : ∃ z : Int32, z = (Int32.toUInt32 p0 >>> (Int32.toUInt32 8 &&& Int32.toUInt32 31)).toInt32 := ⟨_, rfl⟩
      refine lv_iushr (v := x_12) hx hb dX8_bytesIn_11 ex_12.symm ?_
      refine lv_sipush (v := 255) hx hb dX8_bytesIn_12 (by decide) ?_
      refine lv_iand hx hb dX8_bytesIn_15 ?_
      refine lv_topi (fun x_13 ex_13 => ?_)
      have hy_14 : kS p0 8 = x_13 := by rw [ex_13, ex_12]; exact (kSu8 p0).symm
      refine lv_if_eq (tgt := 22) hx hb dX8_bytesIn_16 (by decide) (fun c_15 => ?_) (fun c_15 => ?_)
      · refine lv_iinc (v := 0) (lv' := [(2, .int 0), (1, .int 0), (0, .int p0)]) hx hb dX8_bytesIn_22 hl (k := 0) rfl (by decide) (by decide) rfl (fun ls hl => ?_)
        refine lv_goto (tgt := 5) hx hb dX8_bytesIn_25 (by decide) ?_
        refine lv_iload_n hx hb dX8_bytesIn_5 rfl (lv_at hl 0 rfl) ?_
        refine lv_if_lt (tgt := 28) hx hb dX8_bytesIn_6 (by decide) (fun c_16 => absurd c_16 (by decide)) (fun c_16 => ?_)
        refine lv_iload_n hx hb dX8_bytesIn_9 rfl (lv_at hl 2 rfl) ?_
        refine lv_iload_n hx hb dX8_bytesIn_10 rfl (lv_at hl 0 rfl) ?_
        obtain ⟨x_17, ex_17⟩ : ∃ z : Int32, z = (Int32.toUInt32 p0 >>> (Int32.toUInt32 0 &&& Int32.toUInt32 31)).toInt32 := ⟨_, rfl⟩
        refine lv_iushr (v := x_17) hx hb dX8_bytesIn_11 ex_17.symm ?_
        refine lv_sipush (v := 255) hx hb dX8_bytesIn_12 (by decide) ?_
        refine lv_iand hx hb dX8_bytesIn_15 ?_
        refine lv_topi (fun x_18 ex_18 => ?_)
        have hy_19 : kS p0 0 = x_18 := by rw [ex_18, ex_17]; exact (kSu0 p0).symm
        refine lv_if_eq (tgt := 22) hx hb dX8_bytesIn_16 (by decide) (fun c_20 => ?_) (fun c_20 => ?_)
        · refine lv_iinc (v := (-8)) (lv' := [(2, .int (-8)), (1, .int 0), (0, .int p0)]) hx hb dX8_bytesIn_22 hl (k := 0) rfl (by decide) (by decide) rfl (fun ls hl => ?_)
          refine lv_goto (tgt := 5) hx hb dX8_bytesIn_25 (by decide) ?_
          refine lv_iload_n hx hb dX8_bytesIn_5 rfl (lv_at hl 0 rfl) ?_
          refine lv_if_lt (tgt := 28) hx hb dX8_bytesIn_6 (by decide) (fun c_21 => ?_) (fun c_21 => absurd (by decide) c_21)
          refine lv_iload_n hx hb dX8_bytesIn_28 rfl (lv_at hl 1 rfl) ?_
          have hk : kCnt p0 = 0 := by simp [kCnt, kC1, hy_4, hy_9, hy_14, hy_19, c_5, c_10, c_15, c_20]
          exact W.iret (v := 0) hx hb hr (fun t ht hW => ⟨0, rfl, (by rw [hk]; rfl), ht⟩) (fun _ h => nomatch h) dX8_bytesIn_29
        · refine lv_iinc (v := 1) (lv' := [(1, .int 1), (2, .int 0), (0, .int p0)]) hx hb dX8_bytesIn_19 hl (k := 1) rfl (by decide) (by decide) rfl (fun ls hl => ?_)
          refine lv_iinc (v := (-8)) (lv' := [(2, .int (-8)), (1, .int 1), (0, .int p0)]) hx hb dX8_bytesIn_22 hl (k := 1) rfl (by decide) (by decide) rfl (fun ls hl => ?_)
          refine lv_goto (tgt := 5) hx hb dX8_bytesIn_25 (by decide) ?_
          refine lv_iload_n hx hb dX8_bytesIn_5 rfl (lv_at hl 0 rfl) ?_
          refine lv_if_lt (tgt := 28) hx hb dX8_bytesIn_6 (by decide) (fun c_22 => ?_) (fun c_22 => absurd (by decide) c_22)
          refine lv_iload_n hx hb dX8_bytesIn_28 rfl (lv_at hl 1 rfl) ?_
          have hk : kCnt p0 = 1 := by simp [kCnt, kC1, hy_4, hy_9, hy_14, hy_19, c_5, c_10, c_15, c_20]
          exact W.iret (v := 1) hx hb hr (fun t ht hW => ⟨1, rfl, (by rw [hk]; rfl), ht⟩) (fun _ h => nomatch h) dX8_bytesIn_29
      · refine lv_iinc (v := 1) (lv' := [(1, .int 1), (2, .int 8), (0, .int p0)]) hx hb dX8_bytesIn_19 hl (k := 1) rfl (by decide) (by decide) rfl (fun ls hl => ?_)
        refine lv_iinc (v := 0) (lv' := [(2, .int 0), (1, .int 1), (0, .int p0)]) hx hb dX8_bytesIn_22 hl (k := 1) rfl (by decide) (by decide) rfl (fun ls hl => ?_)
        refine lv_goto (tgt := 5) hx hb dX8_bytesIn_25 (by decide) ?_
        refine lv_iload_n hx hb dX8_bytesIn_5 rfl (lv_at hl 0 rfl) ?_
        refine lv_if_lt (tgt := 28) hx hb dX8_bytesIn_6 (by decide) (fun c_23 => absurd c_23 (by decide)) (fun c_23 => ?_)
        refine lv_iload_n hx hb dX8_bytesIn_9 rfl (lv_at hl 2 rfl) ?_
        refine lv_iload_n hx hb dX8_bytesIn_10 rfl (lv_at hl 0 rfl) ?_
        obtain ⟨x_24, ex_24⟩ : ∃ z : Int32, z = (Int32.toUInt32 p0 >>> (Int32.toUInt32 0 &&& Int32.toUInt32 31)).toInt32 := ⟨_, rfl⟩
        refine lv_iushr (v := x_24) hx hb dX8_bytesIn_11 ex_24.symm ?_
        refine lv_sipush (v := 255) hx hb dX8_bytesIn_12 (by decide) ?_
        refine lv_iand hx hb dX8_bytesIn_15 ?_
        refine lv_topi (fun x_25 ex_25 => ?_)
        have hy_26 : kS p0 0 = x_25 := by rw [ex_25, ex_24]; exact (kSu0 p0).symm
        refine lv_if_eq (tgt := 22) hx hb dX8_bytesIn_16 (by decide) (fun c_27 => ?_) (fun c_27 => ?_)
        · refine lv_iinc (v := (-8)) (lv' := [(2, .int (-8)), (1, .int 1), (0, .int p0)]) hx hb dX8_bytesIn_22 hl (k := 0) rfl (by decide) (by decide) rfl (fun ls hl => ?_)
          refine lv_goto (tgt := 5) hx hb dX8_bytesIn_25 (by decide) ?_
          refine lv_iload_n hx hb dX8_bytesIn_5 rfl (lv_at hl 0 rfl) ?_
          refine lv_if_lt (tgt := 28) hx hb dX8_bytesIn_6 (by decide) (fun c_28 => ?_) (fun c_28 => absurd (by decide) c_28)
          refine lv_iload_n hx hb dX8_bytesIn_28 rfl (lv_at hl 1 rfl) ?_
          have hk : kCnt p0 = 1 := by simp [kCnt, kC1, hy_4, hy_9, hy_14, hy_26, c_5, c_10, c_15, c_27]
          exact W.iret (v := 1) hx hb hr (fun t ht hW => ⟨1, rfl, (by rw [hk]; rfl), ht⟩) (fun _ h => nomatch h) dX8_bytesIn_29
        · refine lv_iinc (v := 2) (lv' := [(1, .int 2), (2, .int 0), (0, .int p0)]) hx hb dX8_bytesIn_19 hl (k := 1) rfl (by decide) (by decide) rfl (fun ls hl => ?_)
          refine lv_iinc (v := (-8)) (lv' := [(2, .int (-8)), (1, .int 2), (0, .int p0)]) hx hb dX8_bytesIn_22 hl (k := 1) rfl (by decide) (by decide) rfl (fun ls hl => ?_)
          refine lv_goto (tgt := 5) hx hb dX8_bytesIn_25 (by decide) ?_
          refine lv_iload_n hx hb dX8_bytesIn_5 rfl (lv_at hl 0 rfl) ?_
          refine lv_if_lt (tgt := 28) hx hb dX8_bytesIn_6 (by decide) (fun c_29 => ?_) (fun c_29 => absurd (by decide) c_29)
          refine lv_iload_n hx hb dX8_bytesIn_28 rfl (lv_at hl 1 rfl) ?_
          have hk : kCnt p0 = 2 := by simp [kCnt, kC1, hy_4, hy_9, hy_14, hy_26, c_5, c_10, c_15, c_27]
          exact W.iret (v := 2) hx hb hr (fun t ht hW => ⟨2, rfl, (by rw [hk]; rfl), ht⟩) (fun _ h => nomatch h) dX8_bytesIn_29
    · refine lv_iinc (v := 1) (lv' := [(1, .int 1), (2, .int 16), (0, .int p0)]) hx hb dX8_bytesIn_19 hl (k := 1) rfl (by decide) (by decide) rfl (fun ls hl => ?_)
      refine lv_iinc (v := 8) (lv' := [(2, .int 8), (1, .int 1), (0, .int p0)]) hx hb dX8_bytesIn_22 hl (k := 1) rfl (by decide) (by decide) rfl (fun ls hl => ?_)
      refine lv_goto (tgt := 5) hx hb dX8_bytesIn_25 (by decide) ?_
      refine lv_iload_n hx hb dX8_bytesIn_5 rfl (lv_at hl 0 rfl) ?_
      refine lv_if_lt (tgt := 28) hx hb dX8_bytesIn_6 (by decide) (fun c_30 => absurd c_30 (by decide)) (fun c_30 => ?_)
      refine lv_iload_n hx hb dX8_bytesIn_9 rfl (lv_at hl 2 rfl) ?_
      refine lv_iload_n hx hb dX8_bytesIn_10 rfl (lv_at hl 0 rfl) ?_
      obtain ⟨x_31, ex_31⟩ : ∃ z : Int32, z = (Int32.toUInt32 p0 >>> (Int32.toUInt32 8 &&& Int32.toUInt32 31)).toInt32 := ⟨_, rfl⟩
      refine lv_iushr (v := x_31) hx hb dX8_bytesIn_11 ex_31.symm ?_
      refine lv_sipush (v := 255) hx hb dX8_bytesIn_12 (by decide) ?_
      refine lv_iand hx hb dX8_bytesIn_15 ?_
      refine lv_topi (fun x_32 ex_32 => ?_)
      have hy_33 : kS p0 8 = x_32 := by rw [ex_32, ex_31]; exact (kSu8 p0).symm
      refine lv_if_eq (tgt := 22) hx hb dX8_bytesIn_16 (by decide) (fun c_34 => ?_) (fun c_34 => ?_)
      · refine lv_iinc (v := 0) (lv' := [(2, .int 0), (1, .int 1), (0, .int p0)]) hx hb dX8_bytesIn_22 hl (k := 0) rfl (by decide) (by decide) rfl (fun ls hl => ?_)
        refine lv_goto (tgt := 5) hx hb dX8_bytesIn_25 (by decide) ?_
        refine lv_iload_n hx hb dX8_bytesIn_5 rfl (lv_at hl 0 rfl) ?_
        refine lv_if_lt (tgt := 28) hx hb dX8_bytesIn_6 (by decide) (fun c_35 => absurd c_35 (by decide)) (fun c_35 => ?_)
        refine lv_iload_n hx hb dX8_bytesIn_9 rfl (lv_at hl 2 rfl) ?_
        refine lv_iload_n hx hb dX8_bytesIn_10 rfl (lv_at hl 0 rfl) ?_
        obtain ⟨x_36, ex_36⟩ : ∃ z : Int32, z = (Int32.toUInt32 p0 >>> (Int32.toUInt32 0 &&& Int32.toUInt32 31)).toInt32 := ⟨_, rfl⟩
        refine lv_iushr (v := x_36) hx hb dX8_bytesIn_11 ex_36.symm ?_
        refine lv_sipush (v := 255) hx hb dX8_bytesIn_12 (by decide) ?_
        refine lv_iand hx hb dX8_bytesIn_15 ?_
        refine lv_topi (fun x_37 ex_37 => ?_)
        have hy_38 : kS p0 0 = x_37 := by rw [ex_37, ex_36]; exact (kSu0 p0).symm
        refine lv_if_eq (tgt := 22) hx hb dX8_bytesIn_16 (by decide) (fun c_39 => ?_) (fun c_39 => ?_)
        · refine lv_iinc (v := (-8)) (lv' := [(2, .int (-8)), (1, .int 1), (0, .int p0)]) hx hb dX8_bytesIn_22 hl (k := 0) rfl (by decide) (by decide) rfl (fun ls hl => ?_)
          refine lv_goto (tgt := 5) hx hb dX8_bytesIn_25 (by decide) ?_
          refine lv_iload_n hx hb dX8_bytesIn_5 rfl (lv_at hl 0 rfl) ?_
          refine lv_if_lt (tgt := 28) hx hb dX8_bytesIn_6 (by decide) (fun c_40 => ?_) (fun c_40 => absurd (by decide) c_40)
          refine lv_iload_n hx hb dX8_bytesIn_28 rfl (lv_at hl 1 rfl) ?_
          have hk : kCnt p0 = 1 := by simp [kCnt, kC1, hy_4, hy_9, hy_33, hy_38, c_5, c_10, c_34, c_39]
          exact W.iret (v := 1) hx hb hr (fun t ht hW => ⟨1, rfl, (by rw [hk]; rfl), ht⟩) (fun _ h => nomatch h) dX8_bytesIn_29
        · refine lv_iinc (v := 2) (lv' := [(1, .int 2), (2, .int 0), (0, .int p0)]) hx hb dX8_bytesIn_19 hl (k := 1) rfl (by decide) (by decide) rfl (fun ls hl => ?_)
          refine lv_iinc (v := (-8)) (lv' := [(2, .int (-8)), (1, .int 2), (0, .int p0)]) hx hb dX8_bytesIn_22 hl (k := 1) rfl (by decide) (by decide) rfl (fun ls hl => ?_)
          refine lv_goto (tgt := 5) hx hb dX8_bytesIn_25 (by decide) ?_
          refine lv_iload_n hx hb dX8_bytesIn_5 rfl (lv_at hl 0 rfl) ?_
          refine lv_if_lt (tgt := 28) hx hb dX8_bytesIn_6 (by decide) (fun c_41 => ?_) (fun c_41 => absurd (by decide) c_41)
          refine lv_iload_n hx hb dX8_bytesIn_28 rfl (lv_at hl 1 rfl) ?_
          have hk : kCnt p0 = 2 := by simp [kCnt, kC1, hy_4, hy_9, hy_33, hy_38, c_5, c_10, c_34, c_39]
          exact W.iret (v := 2) hx hb hr (fun t ht hW => ⟨2, rfl, (by rw [hk]; rfl), ht⟩) (fun _ h => nomatch h) dX8_bytesIn_29
      · refine lv_iinc (v := 2) (lv' := [(1, .int 2), (2, .int 8), (0, .int p0)]) hx hb dX8_bytesIn_19 hl (k := 1) rfl (by decide) (by decide) rfl (fun ls hl => ?_)
        refine lv_iinc (v := 0) (lv' := [(2, .int 0), (1, .int 2), (0, .int p0)]) hx hb dX8_bytesIn_22 hl (k := 1) rfl (by decide) (by decide) rfl (fun ls hl => ?_)
        refine lv_goto (tgt := 5) hx hb dX8_bytesIn_25 (by decide) ?_
        refine lv_iload_n hx hb dX8_bytesIn_5 rfl (lv_at hl 0 rfl) ?_
        refine lv_if_lt (tgt := 28) hx hb dX8_bytesIn_6 (by decide) (fun c_42 => absurd c_42 (by decide)) (fun c_42 => ?_)
        refine lv_iload_n hx hb dX8_bytesIn_9 rfl (lv_at hl 2 rfl) ?_
        refine lv_iload_n hx hb dX8_bytesIn_10 rfl (lv_at hl 0 rfl) ?_
        obtain ⟨x_43, ex_43⟩ : ∃ z : Int32, z = (Int32.toUInt32 p0 >>> (Int32.toUInt32 0 &&& Int32.toUInt32 31)).toInt32 := ⟨_, rfl⟩
        refine lv_iushr (v := x_43) hx hb dX8_bytesIn_11 ex_43.symm ?_
        refine lv_sipush (v := 255) hx hb dX8_bytesIn_12 (by decide) ?_
        refine lv_iand hx hb dX8_bytesIn_15 ?_
        refine lv_topi (fun x_44 ex_44 => ?_)
        have hy_45 : kS p0 0 = x_44 := by rw [ex_44, ex_43]; exact (kSu0 p0).symm
        refine lv_if_eq (tgt := 22) hx hb dX8_bytesIn_16 (by decide) (fun c_46 => ?_) (fun c_46 => ?_)
        · refine lv_iinc (v := (-8)) (lv' := [(2, .int (-8)), (1, .int 2), (0, .int p0)]) hx hb dX8_bytesIn_22 hl (k := 0) rfl (by decide) (by decide) rfl (fun ls hl => ?_)
          refine lv_goto (tgt := 5) hx hb dX8_bytesIn_25 (by decide) ?_
          refine lv_iload_n hx hb dX8_bytesIn_5 rfl (lv_at hl 0 rfl) ?_
          refine lv_if_lt (tgt := 28) hx hb dX8_bytesIn_6 (by decide) (fun c_47 => ?_) (fun c_47 => absurd (by decide) c_47)
          refine lv_iload_n hx hb dX8_bytesIn_28 rfl (lv_at hl 1 rfl) ?_
          have hk : kCnt p0 = 2 := by simp [kCnt, kC1, hy_4, hy_9, hy_33, hy_45, c_5, c_10, c_34, c_46]
          exact W.iret (v := 2) hx hb hr (fun t ht hW => ⟨2, rfl, (by rw [hk]; rfl), ht⟩) (fun _ h => nomatch h) dX8_bytesIn_29
        · refine lv_iinc (v := 3) (lv' := [(1, .int 3), (2, .int 0), (0, .int p0)]) hx hb dX8_bytesIn_19 hl (k := 1) rfl (by decide) (by decide) rfl (fun ls hl => ?_)
          refine lv_iinc (v := (-8)) (lv' := [(2, .int (-8)), (1, .int 3), (0, .int p0)]) hx hb dX8_bytesIn_22 hl (k := 1) rfl (by decide) (by decide) rfl (fun ls hl => ?_)
          refine lv_goto (tgt := 5) hx hb dX8_bytesIn_25 (by decide) ?_
          refine lv_iload_n hx hb dX8_bytesIn_5 rfl (lv_at hl 0 rfl) ?_
          refine lv_if_lt (tgt := 28) hx hb dX8_bytesIn_6 (by decide) (fun c_48 => ?_) (fun c_48 => absurd (by decide) c_48)
          refine lv_iload_n hx hb dX8_bytesIn_28 rfl (lv_at hl 1 rfl) ?_
          have hk : kCnt p0 = 3 := by simp [kCnt, kC1, hy_4, hy_9, hy_33, hy_45, c_5, c_10, c_34, c_46]
          exact W.iret (v := 3) hx hb hr (fun t ht hW => ⟨3, rfl, (by rw [hk]; rfl), ht⟩) (fun _ h => nomatch h) dX8_bytesIn_29
  · refine lv_iinc (v := 1) (lv' := [(1, .int 1), (2, .int 24), (0, .int p0)]) hx hb dX8_bytesIn_19 hl (k := 1) rfl (by decide) (by decide) rfl (fun ls hl => ?_)
    refine lv_iinc (v := 16) (lv' := [(2, .int 16), (1, .int 1), (0, .int p0)]) hx hb dX8_bytesIn_22 hl (k := 1) rfl (by decide) (by decide) rfl (fun ls hl => ?_)
    refine lv_goto (tgt := 5) hx hb dX8_bytesIn_25 (by decide) ?_
    refine lv_iload_n hx hb dX8_bytesIn_5 rfl (lv_at hl 0 rfl) ?_
    refine lv_if_lt (tgt := 28) hx hb dX8_bytesIn_6 (by decide) (fun c_49 => absurd c_49 (by decide)) (fun c_49 => ?_)
    refine lv_iload_n hx hb dX8_bytesIn_9 rfl (lv_at hl 2 rfl) ?_
    refine lv_iload_n hx hb dX8_bytesIn_10 rfl (lv_at hl 0 rfl) ?_
    obtain ⟨x_50, ex_50⟩ : ∃ z : Int32, z = (Int32.toUInt32 p0 >>> (Int32.toUInt32 16 &&& Int32.toUInt32 31)).toInt32 := ⟨_, rfl⟩
    refine lv_iushr (v := x_50) hx hb dX8_bytesIn_11 ex_50.symm ?_
    refine lv_sipush (v := 255) hx hb dX8_bytesIn_12 (by decide) ?_
    refine lv_iand hx hb dX8_bytesIn_15 ?_
    refine lv_topi (fun x_51 ex_51 => ?_)
    have hy_52 : kS p0 16 = x_51 := by rw [ex_51, ex_50]; exact (kSu16 p0).symm
    refine lv_if_eq (tgt := 22) hx hb dX8_bytesIn_16 (by decide) (fun c_53 => ?_) (fun c_53 => ?_)
    · refine lv_iinc (v := 8) (lv' := [(2, .int 8), (1, .int 1), (0, .int p0)]) hx hb dX8_bytesIn_22 hl (k := 0) rfl (by decide) (by decide) rfl (fun ls hl => ?_)
      refine lv_goto (tgt := 5) hx hb dX8_bytesIn_25 (by decide) ?_
      refine lv_iload_n hx hb dX8_bytesIn_5 rfl (lv_at hl 0 rfl) ?_
      refine lv_if_lt (tgt := 28) hx hb dX8_bytesIn_6 (by decide) (fun c_54 => absurd c_54 (by decide)) (fun c_54 => ?_)
      refine lv_iload_n hx hb dX8_bytesIn_9 rfl (lv_at hl 2 rfl) ?_
      refine lv_iload_n hx hb dX8_bytesIn_10 rfl (lv_at hl 0 rfl) ?_
      obtain ⟨x_55, ex_55⟩ : ∃ z : Int32, z = (Int32.toUInt32 p0 >>> (Int32.toUInt32 8 &&& Int32.toUInt32 31)).toInt32 := ⟨_, rfl⟩
      refine lv_iushr (v := x_55) hx hb dX8_bytesIn_11 ex_55.symm ?_
      refine lv_sipush (v := 255) hx hb dX8_bytesIn_12 (by decide) ?_
      refine lv_iand hx hb dX8_bytesIn_15 ?_
      refine lv_topi (fun x_56 ex_56 => ?_)
      have hy_57 : kS p0 8 = x_56 := by rw [ex_56, ex_55]; exact (kSu8 p0).symm
      refine lv_if_eq (tgt := 22) hx hb dX8_bytesIn_16 (by decide) (fun c_58 => ?_) (fun c_58 => ?_)
      · refine lv_iinc (v := 0) (lv' := [(2, .int 0), (1, .int 1), (0, .int p0)]) hx hb dX8_bytesIn_22 hl (k := 0) rfl (by decide) (by decide) rfl (fun ls hl => ?_)
        refine lv_goto (tgt := 5) hx hb dX8_bytesIn_25 (by decide) ?_
        refine lv_iload_n hx hb dX8_bytesIn_5 rfl (lv_at hl 0 rfl) ?_
        refine lv_if_lt (tgt := 28) hx hb dX8_bytesIn_6 (by decide) (fun c_59 => absurd c_59 (by decide)) (fun c_59 => ?_)
        refine lv_iload_n hx hb dX8_bytesIn_9 rfl (lv_at hl 2 rfl) ?_
        refine lv_iload_n hx hb dX8_bytesIn_10 rfl (lv_at hl 0 rfl) ?_
        obtain ⟨x_60, ex_60⟩ : ∃ z : Int32, z = (Int32.toUInt32 p0 >>> (Int32.toUInt32 0 &&& Int32.toUInt32 31)).toInt32 := ⟨_, rfl⟩
        refine lv_iushr (v := x_60) hx hb dX8_bytesIn_11 ex_60.symm ?_
        refine lv_sipush (v := 255) hx hb dX8_bytesIn_12 (by decide) ?_
        refine lv_iand hx hb dX8_bytesIn_15 ?_
        refine lv_topi (fun x_61 ex_61 => ?_)
        have hy_62 : kS p0 0 = x_61 := by rw [ex_61, ex_60]; exact (kSu0 p0).symm
        refine lv_if_eq (tgt := 22) hx hb dX8_bytesIn_16 (by decide) (fun c_63 => ?_) (fun c_63 => ?_)
        · refine lv_iinc (v := (-8)) (lv' := [(2, .int (-8)), (1, .int 1), (0, .int p0)]) hx hb dX8_bytesIn_22 hl (k := 0) rfl (by decide) (by decide) rfl (fun ls hl => ?_)
          refine lv_goto (tgt := 5) hx hb dX8_bytesIn_25 (by decide) ?_
          refine lv_iload_n hx hb dX8_bytesIn_5 rfl (lv_at hl 0 rfl) ?_
          refine lv_if_lt (tgt := 28) hx hb dX8_bytesIn_6 (by decide) (fun c_64 => ?_) (fun c_64 => absurd (by decide) c_64)
          refine lv_iload_n hx hb dX8_bytesIn_28 rfl (lv_at hl 1 rfl) ?_
          have hk : kCnt p0 = 1 := by simp [kCnt, kC1, hy_4, hy_52, hy_57, hy_62, c_5, c_53, c_58, c_63]
          exact W.iret (v := 1) hx hb hr (fun t ht hW => ⟨1, rfl, (by rw [hk]; rfl), ht⟩) (fun _ h => nomatch h) dX8_bytesIn_29
        · refine lv_iinc (v := 2) (lv' := [(1, .int 2), (2, .int 0), (0, .int p0)]) hx hb dX8_bytesIn_19 hl (k := 1) rfl (by decide) (by decide) rfl (fun ls hl => ?_)
          refine lv_iinc (v := (-8)) (lv' := [(2, .int (-8)), (1, .int 2), (0, .int p0)]) hx hb dX8_bytesIn_22 hl (k := 1) rfl (by decide) (by decide) rfl (fun ls hl => ?_)
          refine lv_goto (tgt := 5) hx hb dX8_bytesIn_25 (by decide) ?_
          refine lv_iload_n hx hb dX8_bytesIn_5 rfl (lv_at hl 0 rfl) ?_
          refine lv_if_lt (tgt := 28) hx hb dX8_bytesIn_6 (by decide) (fun c_65 => ?_) (fun c_65 => absurd (by decide) c_65)
          refine lv_iload_n hx hb dX8_bytesIn_28 rfl (lv_at hl 1 rfl) ?_
          have hk : kCnt p0 = 2 := by simp [kCnt, kC1, hy_4, hy_52, hy_57, hy_62, c_5, c_53, c_58, c_63]
          exact W.iret (v := 2) hx hb hr (fun t ht hW => ⟨2, rfl, (by rw [hk]; rfl), ht⟩) (fun _ h => nomatch h) dX8_bytesIn_29
      · refine lv_iinc (v := 2) (lv' := [(1, .int 2), (2, .int 8), (0, .int p0)]) hx hb dX8_bytesIn_19 hl (k := 1) rfl (by decide) (by decide) rfl (fun ls hl => ?_)
        refine lv_iinc (v := 0) (lv' := [(2, .int 0), (1, .int 2), (0, .int p0)]) hx hb dX8_bytesIn_22 hl (k := 1) rfl (by decide) (by decide) rfl (fun ls hl => ?_)
        refine lv_goto (tgt := 5) hx hb dX8_bytesIn_25 (by decide) ?_
        refine lv_iload_n hx hb dX8_bytesIn_5 rfl (lv_at hl 0 rfl) ?_
        refine lv_if_lt (tgt := 28) hx hb dX8_bytesIn_6 (by decide) (fun c_66 => absurd c_66 (by decide)) (fun c_66 => ?_)
        refine lv_iload_n hx hb dX8_bytesIn_9 rfl (lv_at hl 2 rfl) ?_
        refine lv_iload_n hx hb dX8_bytesIn_10 rfl (lv_at hl 0 rfl) ?_
        obtain ⟨x_67, ex_67⟩ : ∃ z : Int32, z = (Int32.toUInt32 p0 >>> (Int32.toUInt32 0 &&& Int32.toUInt32 31)).toInt32 := ⟨_, rfl⟩
        refine lv_iushr (v := x_67) hx hb dX8_bytesIn_11 ex_67.symm ?_
        refine lv_sipush (v := 255) hx hb dX8_bytesIn_12 (by decide) ?_
        refine lv_iand hx hb dX8_bytesIn_15 ?_
        refine lv_topi (fun x_68 ex_68 => ?_)
        have hy_69 : kS p0 0 = x_68 := by rw [ex_68, ex_67]; exact (kSu0 p0).symm
        refine lv_if_eq (tgt := 22) hx hb dX8_bytesIn_16 (by decide) (fun c_70 => ?_) (fun c_70 => ?_)
        · refine lv_iinc (v := (-8)) (lv' := [(2, .int (-8)), (1, .int 2), (0, .int p0)]) hx hb dX8_bytesIn_22 hl (k := 0) rfl (by decide) (by decide) rfl (fun ls hl => ?_)
          refine lv_goto (tgt := 5) hx hb dX8_bytesIn_25 (by decide) ?_
          refine lv_iload_n hx hb dX8_bytesIn_5 rfl (lv_at hl 0 rfl) ?_
          refine lv_if_lt (tgt := 28) hx hb dX8_bytesIn_6 (by decide) (fun c_71 => ?_) (fun c_71 => absurd (by decide) c_71)
          refine lv_iload_n hx hb dX8_bytesIn_28 rfl (lv_at hl 1 rfl) ?_
          have hk : kCnt p0 = 2 := by simp [kCnt, kC1, hy_4, hy_52, hy_57, hy_69, c_5, c_53, c_58, c_70]
          exact W.iret (v := 2) hx hb hr (fun t ht hW => ⟨2, rfl, (by rw [hk]; rfl), ht⟩) (fun _ h => nomatch h) dX8_bytesIn_29
        · refine lv_iinc (v := 3) (lv' := [(1, .int 3), (2, .int 0), (0, .int p0)]) hx hb dX8_bytesIn_19 hl (k := 1) rfl (by decide) (by decide) rfl (fun ls hl => ?_)
          refine lv_iinc (v := (-8)) (lv' := [(2, .int (-8)), (1, .int 3), (0, .int p0)]) hx hb dX8_bytesIn_22 hl (k := 1) rfl (by decide) (by decide) rfl (fun ls hl => ?_)
          refine lv_goto (tgt := 5) hx hb dX8_bytesIn_25 (by decide) ?_
          refine lv_iload_n hx hb dX8_bytesIn_5 rfl (lv_at hl 0 rfl) ?_
          refine lv_if_lt (tgt := 28) hx hb dX8_bytesIn_6 (by decide) (fun c_72 => ?_) (fun c_72 => absurd (by decide) c_72)
          refine lv_iload_n hx hb dX8_bytesIn_28 rfl (lv_at hl 1 rfl) ?_
          have hk : kCnt p0 = 3 := by simp [kCnt, kC1, hy_4, hy_52, hy_57, hy_69, c_5, c_53, c_58, c_70]
          exact W.iret (v := 3) hx hb hr (fun t ht hW => ⟨3, rfl, (by rw [hk]; rfl), ht⟩) (fun _ h => nomatch h) dX8_bytesIn_29
    · refine lv_iinc (v := 2) (lv' := [(1, .int 2), (2, .int 16), (0, .int p0)]) hx hb dX8_bytesIn_19 hl (k := 1) rfl (by decide) (by decide) rfl (fun ls hl => ?_)
      refine lv_iinc (v := 8) (lv' := [(2, .int 8), (1, .int 2), (0, .int p0)]) hx hb dX8_bytesIn_22 hl (k := 1) rfl (by decide) (by decide) rfl (fun ls hl => ?_)
      refine lv_goto (tgt := 5) hx hb dX8_bytesIn_25 (by decide) ?_
      refine lv_iload_n hx hb dX8_bytesIn_5 rfl (lv_at hl 0 rfl) ?_
      refine lv_if_lt (tgt := 28) hx hb dX8_bytesIn_6 (by decide) (fun c_73 => absurd c_73 (by decide)) (fun c_73 => ?_)
      refine lv_iload_n hx hb dX8_bytesIn_9 rfl (lv_at hl 2 rfl) ?_
      refine lv_iload_n hx hb dX8_bytesIn_10 rfl (lv_at hl 0 rfl) ?_
      obtain ⟨x_74, ex_74⟩ : ∃ z : Int32, z = (Int32.toUInt32 p0 >>> (Int32.toUInt32 8 &&& Int32.toUInt32 31)).toInt32 := ⟨_, rfl⟩
      refine lv_iushr (v := x_74) hx hb dX8_bytesIn_11 ex_74.symm ?_
      refine lv_sipush (v := 255) hx hb dX8_bytesIn_12 (by decide) ?_
      refine lv_iand hx hb dX8_bytesIn_15 ?_
      refine lv_topi (fun x_75 ex_75 => ?_)
      have hy_76 : kS p0 8 = x_75 := by rw [ex_75, ex_74]; exact (kSu8 p0).symm
      refine lv_if_eq (tgt := 22) hx hb dX8_bytesIn_16 (by decide) (fun c_77 => ?_) (fun c_77 => ?_)
      · refine lv_iinc (v := 0) (lv' := [(2, .int 0), (1, .int 2), (0, .int p0)]) hx hb dX8_bytesIn_22 hl (k := 0) rfl (by decide) (by decide) rfl (fun ls hl => ?_)
        refine lv_goto (tgt := 5) hx hb dX8_bytesIn_25 (by decide) ?_
        refine lv_iload_n hx hb dX8_bytesIn_5 rfl (lv_at hl 0 rfl) ?_
        refine lv_if_lt (tgt := 28) hx hb dX8_bytesIn_6 (by decide) (fun c_78 => absurd c_78 (by decide)) (fun c_78 => ?_)
        refine lv_iload_n hx hb dX8_bytesIn_9 rfl (lv_at hl 2 rfl) ?_
        refine lv_iload_n hx hb dX8_bytesIn_10 rfl (lv_at hl 0 rfl) ?_
        obtain ⟨x_79, ex_79⟩ : ∃ z : Int32, z = (Int32.toUInt32 p0 >>> (Int32.toUInt32 0 &&& Int32.toUInt32 31)).toInt32 := ⟨_, rfl⟩
        refine lv_iushr (v := x_79) hx hb dX8_bytesIn_11 ex_79.symm ?_
        refine lv_sipush (v := 255) hx hb dX8_bytesIn_12 (by decide) ?_
        refine lv_iand hx hb dX8_bytesIn_15 ?_
        refine lv_topi (fun x_80 ex_80 => ?_)
        have hy_81 : kS p0 0 = x_80 := by rw [ex_80, ex_79]; exact (kSu0 p0).symm
        refine lv_if_eq (tgt := 22) hx hb dX8_bytesIn_16 (by decide) (fun c_82 => ?_) (fun c_82 => ?_)
        · refine lv_iinc (v := (-8)) (lv' := [(2, .int (-8)), (1, .int 2), (0, .int p0)]) hx hb dX8_bytesIn_22 hl (k := 0) rfl (by decide) (by decide) rfl (fun ls hl => ?_)
          refine lv_goto (tgt := 5) hx hb dX8_bytesIn_25 (by decide) ?_
          refine lv_iload_n hx hb dX8_bytesIn_5 rfl (lv_at hl 0 rfl) ?_
          refine lv_if_lt (tgt := 28) hx hb dX8_bytesIn_6 (by decide) (fun c_83 => ?_) (fun c_83 => absurd (by decide) c_83)
          refine lv_iload_n hx hb dX8_bytesIn_28 rfl (lv_at hl 1 rfl) ?_
          have hk : kCnt p0 = 2 := by simp [kCnt, kC1, hy_4, hy_52, hy_76, hy_81, c_5, c_53, c_77, c_82]
          exact W.iret (v := 2) hx hb hr (fun t ht hW => ⟨2, rfl, (by rw [hk]; rfl), ht⟩) (fun _ h => nomatch h) dX8_bytesIn_29
        · refine lv_iinc (v := 3) (lv' := [(1, .int 3), (2, .int 0), (0, .int p0)]) hx hb dX8_bytesIn_19 hl (k := 1) rfl (by decide) (by decide) rfl (fun ls hl => ?_)
          refine lv_iinc (v := (-8)) (lv' := [(2, .int (-8)), (1, .int 3), (0, .int p0)]) hx hb dX8_bytesIn_22 hl (k := 1) rfl (by decide) (by decide) rfl (fun ls hl => ?_)
          refine lv_goto (tgt := 5) hx hb dX8_bytesIn_25 (by decide) ?_
          refine lv_iload_n hx hb dX8_bytesIn_5 rfl (lv_at hl 0 rfl) ?_
          refine lv_if_lt (tgt := 28) hx hb dX8_bytesIn_6 (by decide) (fun c_84 => ?_) (fun c_84 => absurd (by decide) c_84)
          refine lv_iload_n hx hb dX8_bytesIn_28 rfl (lv_at hl 1 rfl) ?_
          have hk : kCnt p0 = 3 := by simp [kCnt, kC1, hy_4, hy_52, hy_76, hy_81, c_5, c_53, c_77, c_82]
          exact W.iret (v := 3) hx hb hr (fun t ht hW => ⟨3, rfl, (by rw [hk]; rfl), ht⟩) (fun _ h => nomatch h) dX8_bytesIn_29
      · refine lv_iinc (v := 3) (lv' := [(1, .int 3), (2, .int 8), (0, .int p0)]) hx hb dX8_bytesIn_19 hl (k := 1) rfl (by decide) (by decide) rfl (fun ls hl => ?_)
        refine lv_iinc (v := 0) (lv' := [(2, .int 0), (1, .int 3), (0, .int p0)]) hx hb dX8_bytesIn_22 hl (k := 1) rfl (by decide) (by decide) rfl (fun ls hl => ?_)
        refine lv_goto (tgt := 5) hx hb dX8_bytesIn_25 (by decide) ?_
        refine lv_iload_n hx hb dX8_bytesIn_5 rfl (lv_at hl 0 rfl) ?_
        refine lv_if_lt (tgt := 28) hx hb dX8_bytesIn_6 (by decide) (fun c_85 => absurd c_85 (by decide)) (fun c_85 => ?_)
        refine lv_iload_n hx hb dX8_bytesIn_9 rfl (lv_at hl 2 rfl) ?_
        refine lv_iload_n hx hb dX8_bytesIn_10 rfl (lv_at hl 0 rfl) ?_
        obtain ⟨x_86, ex_86⟩ : ∃ z : Int32, z = (Int32.toUInt32 p0 >>> (Int32.toUInt32 0 &&& Int32.toUInt32 31)).toInt32 := ⟨_, rfl⟩
        refine lv_iushr (v := x_86) hx hb dX8_bytesIn_11 ex_86.symm ?_
        refine lv_sipush (v := 255) hx hb dX8_bytesIn_12 (by decide) ?_
        refine lv_iand hx hb dX8_bytesIn_15 ?_
        refine lv_topi (fun x_87 ex_87 => ?_)
        have hy_88 : kS p0 0 = x_87 := by rw [ex_87, ex_86]; exact (kSu0 p0).symm
        refine lv_if_eq (tgt := 22) hx hb dX8_bytesIn_16 (by decide) (fun c_89 => ?_) (fun c_89 => ?_)
        · refine lv_iinc (v := (-8)) (lv' := [(2, .int (-8)), (1, .int 3), (0, .int p0)]) hx hb dX8_bytesIn_22 hl (k := 0) rfl (by decide) (by decide) rfl (fun ls hl => ?_)
          refine lv_goto (tgt := 5) hx hb dX8_bytesIn_25 (by decide) ?_
          refine lv_iload_n hx hb dX8_bytesIn_5 rfl (lv_at hl 0 rfl) ?_
          refine lv_if_lt (tgt := 28) hx hb dX8_bytesIn_6 (by decide) (fun c_90 => ?_) (fun c_90 => absurd (by decide) c_90)
          refine lv_iload_n hx hb dX8_bytesIn_28 rfl (lv_at hl 1 rfl) ?_
          have hk : kCnt p0 = 3 := by simp [kCnt, kC1, hy_4, hy_52, hy_76, hy_88, c_5, c_53, c_77, c_89]
          exact W.iret (v := 3) hx hb hr (fun t ht hW => ⟨3, rfl, (by rw [hk]; rfl), ht⟩) (fun _ h => nomatch h) dX8_bytesIn_29
        · refine lv_iinc (v := 4) (lv' := [(1, .int 4), (2, .int 0), (0, .int p0)]) hx hb dX8_bytesIn_19 hl (k := 1) rfl (by decide) (by decide) rfl (fun ls hl => ?_)
          refine lv_iinc (v := (-8)) (lv' := [(2, .int (-8)), (1, .int 4), (0, .int p0)]) hx hb dX8_bytesIn_22 hl (k := 1) rfl (by decide) (by decide) rfl (fun ls hl => ?_)
          refine lv_goto (tgt := 5) hx hb dX8_bytesIn_25 (by decide) ?_
          refine lv_iload_n hx hb dX8_bytesIn_5 rfl (lv_at hl 0 rfl) ?_
          refine lv_if_lt (tgt := 28) hx hb dX8_bytesIn_6 (by decide) (fun c_91 => ?_) (fun c_91 => absurd (by decide) c_91)
          refine lv_iload_n hx hb dX8_bytesIn_28 rfl (lv_at hl 1 rfl) ?_
          have hk : kCnt p0 = 4 := by simp [kCnt, kC1, hy_4, hy_52, hy_76, hy_88, c_5, c_53, c_77, c_89]
          exact W.iret (v := 4) hx hb hr (fun t ht hW => ⟨4, rfl, (by rw [hk]; rfl), ht⟩) (fun _ h => nomatch h) dX8_bytesIn_29

def w_c_bytes10 : List Cond := .code yX10_bytesIn cX10_bytesIn 3 (some .int) :: ([])
theorem gw_c_bytes10 : (w_c_bytes10).all goodWord = true := by decide +kernel
set_option maxHeartbeats 4000000 in
set_option maxRecDepth 100000 in
theorem c_bytes10 (l : Launch) (dC : Nat → ClassId) (dI : Nat → Nat → Nat) (p0 : Int32) : Met l yX10_bytesIn w_c_bytes10 ({ frames := 1, cells := 0, slots := 0, locals := 60 }) (kR dC dI [.int p0] [] [] kT) (vp_Si (fun r : Int32 => r = nI (kCnt p0))) 0 0 (fun _ => False) := by
  refine Met.ofW (cc := cX10_bytesIn) (maxL := 3) (ret := (some .int)) (by decide) rfl ?_
  intro p e s m args below meth c s₁ B hml hv
  obtain ⟨rfl, hP, hK, hX⟩ := hv
  have hx := B.exec
  have hb := B.bytes
  have hr := B.returns
  have hts := atoms_spec (ws := w_c_bytes10) B.pre
  have hown : s.vm.findClass RX10 = some m.cls := findClass_of_methodNamed B.named
  have hlocks := B.notSynchronized
  have hP : va_P (dC, dI) vwCl [] s.heap := hP
  have hl := lv_entry ([.int p0]) (n := 3) (Nat.le_of_ble_eq_true rfl)
  rw [lg_entry_eq]
  generalize (lg_sl ([.int p0]) ++ List.replicate (3 - (lg_sl ([.int p0])).length) Slot.unset).toArray = ls at hl ⊢
  have hl : lv_has ls 3 [(0, .int p0)] := hl
  refine lv_iconst (v := 0) hx hb dX10_bytesIn_0 (by decide) ?_
  refine lv_istore_n (lv' := [(1, .int 0), (0, .int p0)]) hx hb dX10_bytesIn_1 rfl hl (by decide) rfl (fun ls hl => ?_)
  refine lv_bipush (v := 24) hx hb dX10_bytesIn_2 (by decide) ?_
  refine lv_istore_n (lv' := [(2, .int 24), (1, .int 0), (0, .int p0)]) hx hb dX10_bytesIn_4 rfl hl (by decide) rfl (fun ls hl => ?_)
  refine lv_iload_n hx hb dX10_bytesIn_5 rfl (lv_at hl 0 rfl) ?_
  refine lv_if_lt (tgt := 33) hx hb dX10_bytesIn_6 (by decide) (fun c_1 => absurd c_1 (by decide)) (fun c_1 => ?_)
  refine lv_iload_n hx hb dX10_bytesIn_9 rfl (lv_at hl 1 rfl) ?_
  refine lv_iload_n hx hb dX10_bytesIn_10 rfl (lv_at hl 2 rfl) ?_
  refine lv_iload_n hx hb dX10_bytesIn_11 rfl (lv_at hl 0 rfl) ?_
  refine lv_ishr hx hb dX10_bytesIn_12 ?_
  refine lv_topi (fun x_2 ex_2 => ?_)
  refine lv_sipush (v := 255) hx hb dX10_bytesIn_13 (by decide) ?_
  refine lv_iand hx hb dX10_bytesIn_16 ?_
  refine lv_topi (fun x_3 ex_3 => ?_)
  have hy_4 : kS p0 24 = x_3 := by rw [ex_3, ex_2]; rfl
  refine lv_if_eq (tgt := 24) hx hb dX10_bytesIn_17 (by decide) (fun c_5 => ?_) (fun c_5 => ?_)
  · refine lv_iconst (v := 0) hx hb dX10_bytesIn_24 (by decide) ?_
    refine lv_iadd hx hb dX10_bytesIn_25 ?_
    refine lv_topi (fun y_6 ey_6 => ?_)
    obtain rfl : y_6 = 0 := ey_6.trans (by decide)
    refine lv_istore_n (lv' := [(1, .int 0), (2, .int 24), (0, .int p0)]) hx hb dX10_bytesIn_26 rfl hl (by decide) rfl (fun ls hl => ?_)
    refine lv_iinc (v := 16) (lv' := [(2, .int 16), (1, .int 0), (0, .int p0)]) hx hb dX10_bytesIn_27 hl (k := 1) rfl (by decide) (by decide) rfl (fun ls hl => ?_)
    refine lv_goto (tgt := 5) hx hb dX10_bytesIn_30 (by decide) ?_
    refine lv_iload_n hx hb dX10_bytesIn_5 rfl (lv_at hl 0 rfl) ?_
    refine lv_if_lt (tgt := 33) hx hb dX10_bytesIn_6 (by decide) (fun c_7 => absurd c_7 (by decide)) (fun c_7 => ?_)
    refine lv_iload_n hx hb dX10_bytesIn_9 rfl (lv_at hl 1 rfl) ?_
    refine lv_iload_n hx hb dX10_bytesIn_10 rfl (lv_at hl 2 rfl) ?_
    refine lv_iload_n hx hb dX10_bytesIn_11 rfl (lv_at hl 0 rfl) ?_
    refine lv_ishr hx hb dX10_bytesIn_12 ?_
    refine lv_topi (fun x_8 ex_8 => ?_)
    refine lv_sipush (v := 255) hx hb dX10_bytesIn_13 (by decide) ?_
    refine lv_iand hx hb dX10_bytesIn_16 ?_
    refine lv_topi (fun x_9 ex_9 => ?_)
    have hy_10 : kS p0 16 = x_9 := by rw [ex_9, ex_8]; rfl
    refine lv_if_eq (tgt := 24) hx hb dX10_bytesIn_17 (by decide) (fun c_11 => ?_) (fun c_11 => ?_)
    · refine lv_iconst (v := 0) hx hb dX10_bytesIn_24 (by decide) ?_
      refine lv_iadd hx hb dX10_bytesIn_25 ?_
      refine lv_topi (fun y_12 ey_12 => ?_)
      obtain rfl : y_12 = 0 := ey_12.trans (by decide)
      refine lv_istore_n (lv' := [(1, .int 0), (2, .int 16), (0, .int p0)]) hx hb dX10_bytesIn_26 rfl hl (by decide) rfl (fun ls hl => ?_)
      refine lv_iinc (v := 8) (lv' := [(2, .int 8), (1, .int 0), (0, .int p0)]) hx hb dX10_bytesIn_27 hl (k := 1) rfl (by decide) (by decide) rfl (fun ls hl => ?_)
      refine lv_goto (tgt := 5) hx hb dX10_bytesIn_30 (by decide) ?_
      refine lv_iload_n hx hb dX10_bytesIn_5 rfl (lv_at hl 0 rfl) ?_
      refine lv_if_lt (tgt := 33) hx hb dX10_bytesIn_6 (by decide) (fun c_13 => absurd c_13 (by decide)) (fun c_13 => ?_)
      refine lv_iload_n hx hb dX10_bytesIn_9 rfl (lv_at hl 1 rfl) ?_
      refine lv_iload_n hx hb dX10_bytesIn_10 rfl (lv_at hl 2 rfl) ?_
      refine lv_iload_n hx hb dX10_bytesIn_11 rfl (lv_at hl 0 rfl) ?_
      refine lv_ishr hx hb dX10_bytesIn_12 ?_
      refine lv_topi (fun x_14 ex_14 => ?_)
      refine lv_sipush (v := 255) hx hb dX10_bytesIn_13 (by decide) ?_
      refine lv_iand hx hb dX10_bytesIn_16 ?_
      refine lv_topi (fun x_15 ex_15 => ?_)
      have hy_16 : kS p0 8 = x_15 := by rw [ex_15, ex_14]; rfl
      refine lv_if_eq (tgt := 24) hx hb dX10_bytesIn_17 (by decide) (fun c_17 => ?_) (fun c_17 => ?_)
      · refine lv_iconst (v := 0) hx hb dX10_bytesIn_24 (by decide) ?_
        refine lv_iadd hx hb dX10_bytesIn_25 ?_
        refine lv_topi (fun y_18 ey_18 => ?_)
        obtain rfl : y_18 = 0 := ey_18.trans (by decide)
        refine lv_istore_n (lv' := [(1, .int 0), (2, .int 8), (0, .int p0)]) hx hb dX10_bytesIn_26 rfl hl (by decide) rfl (fun ls hl => ?_)
        refine lv_iinc (v := 0) (lv' := [(2, .int 0), (1, .int 0), (0, .int p0)]) hx hb dX10_bytesIn_27 hl (k := 1) rfl (by decide) (by decide) rfl (fun ls hl => ?_)
        refine lv_goto (tgt := 5) hx hb dX10_bytesIn_30 (by decide) ?_
        refine lv_iload_n hx hb dX10_bytesIn_5 rfl (lv_at hl 0 rfl) ?_
        refine lv_if_lt (tgt := 33) hx hb dX10_bytesIn_6 (by decide) (fun c_19 => absurd c_19 (by decide)) (fun c_19 => ?_)
        refine lv_iload_n hx hb dX10_bytesIn_9 rfl (lv_at hl 1 rfl) ?_
        refine lv_iload_n hx hb dX10_bytesIn_10 rfl (lv_at hl 2 rfl) ?_
        refine lv_iload_n hx hb dX10_bytesIn_11 rfl (lv_at hl 0 rfl) ?_
        refine lv_ishr hx hb dX10_bytesIn_12 ?_
        refine lv_topi (fun x_20 ex_20 => ?_)
        refine lv_sipush (v := 255) hx hb dX10_bytesIn_13 (by decide) ?_
        refine lv_iand hx hb dX10_bytesIn_16 ?_
        refine lv_topi (fun x_21 ex_21 => ?_)
        have hy_22 : kS p0 0 = x_21 := by rw [ex_21, ex_20]; rfl
        refine lv_if_eq (tgt := 24) hx hb dX10_bytesIn_17 (by decide) (fun c_23 => ?_) (fun c_23 => ?_)
        · refine lv_iconst (v := 0) hx hb dX10_bytesIn_24 (by decide) ?_
          refine lv_iadd hx hb dX10_bytesIn_25 ?_
          refine lv_topi (fun y_24 ey_24 => ?_)
          obtain rfl : y_24 = 0 := ey_24.trans (by decide)
          refine lv_istore_n (lv' := [(1, .int 0), (2, .int 0), (0, .int p0)]) hx hb dX10_bytesIn_26 rfl hl (by decide) rfl (fun ls hl => ?_)
          refine lv_iinc (v := (-8)) (lv' := [(2, .int (-8)), (1, .int 0), (0, .int p0)]) hx hb dX10_bytesIn_27 hl (k := 1) rfl (by decide) (by decide) rfl (fun ls hl => ?_)
          refine lv_goto (tgt := 5) hx hb dX10_bytesIn_30 (by decide) ?_
          refine lv_iload_n hx hb dX10_bytesIn_5 rfl (lv_at hl 0 rfl) ?_
          refine lv_if_lt (tgt := 33) hx hb dX10_bytesIn_6 (by decide) (fun c_25 => ?_) (fun c_25 => absurd (by decide) c_25)
          refine lv_iload_n hx hb dX10_bytesIn_33 rfl (lv_at hl 1 rfl) ?_
          have hk : kCnt p0 = 0 := by simp [kCnt, kC1, hy_4, hy_10, hy_16, hy_22, c_5, c_11, c_17, c_23]
          exact W.iret (v := 0) hx hb hr (fun t ht hW => ⟨0, rfl, (by rw [hk]; rfl), ht⟩) (fun _ h => nomatch h) dX10_bytesIn_34
        · refine lv_iconst (v := 1) hx hb dX10_bytesIn_20 (by decide) ?_
          refine lv_goto (tgt := 25) hx hb dX10_bytesIn_21 (by decide) ?_
          refine lv_iadd hx hb dX10_bytesIn_25 ?_
          refine lv_topi (fun y_26 ey_26 => ?_)
          obtain rfl : y_26 = 1 := ey_26.trans (by decide)
          refine lv_istore_n (lv' := [(1, .int 1), (2, .int 0), (0, .int p0)]) hx hb dX10_bytesIn_26 rfl hl (by decide) rfl (fun ls hl => ?_)
          refine lv_iinc (v := (-8)) (lv' := [(2, .int (-8)), (1, .int 1), (0, .int p0)]) hx hb dX10_bytesIn_27 hl (k := 1) rfl (by decide) (by decide) rfl (fun ls hl => ?_)
          refine lv_goto (tgt := 5) hx hb dX10_bytesIn_30 (by decide) ?_
          refine lv_iload_n hx hb dX10_bytesIn_5 rfl (lv_at hl 0 rfl) ?_
          refine lv_if_lt (tgt := 33) hx hb dX10_bytesIn_6 (by decide) (fun c_27 => ?_) (fun c_27 => absurd (by decide) c_27)
          refine lv_iload_n hx hb dX10_bytesIn_33 rfl (lv_at hl 1 rfl) ?_
          have hk : kCnt p0 = 1 := by simp [kCnt, kC1, hy_4, hy_10, hy_16, hy_22, c_5, c_11, c_17, c_23]
          exact W.iret (v := 1) hx hb hr (fun t ht hW => ⟨1, rfl, (by rw [hk]; rfl), ht⟩) (fun _ h => nomatch h) dX10_bytesIn_34
      · refine lv_iconst (v := 1) hx hb dX10_bytesIn_20 (by decide) ?_
        refine lv_goto (tgt := 25) hx hb dX10_bytesIn_21 (by decide) ?_
        refine lv_iadd hx hb dX10_bytesIn_25 ?_
        refine lv_topi (fun y_28 ey_28 => ?_)
        obtain rfl : y_28 = 1 := ey_28.trans (by decide)
        refine lv_istore_n (lv' := [(1, .int 1), (2, .int 8), (0, .int p0)]) hx hb dX10_bytesIn_26 rfl hl (by decide) rfl (fun ls hl => ?_)
        refine lv_iinc (v := 0) (lv' := [(2, .int 0), (1, .int 1), (0, .int p0)]) hx hb dX10_bytesIn_27 hl (k := 1) rfl (by decide) (by decide) rfl (fun ls hl => ?_)
        refine lv_goto (tgt := 5) hx hb dX10_bytesIn_30 (by decide) ?_
        refine lv_iload_n hx hb dX10_bytesIn_5 rfl (lv_at hl 0 rfl) ?_
        refine lv_if_lt (tgt := 33) hx hb dX10_bytesIn_6 (by decide) (fun c_29 => absurd c_29 (by decide)) (fun c_29 => ?_)
        refine lv_iload_n hx hb dX10_bytesIn_9 rfl (lv_at hl 1 rfl) ?_
        refine lv_iload_n hx hb dX10_bytesIn_10 rfl (lv_at hl 2 rfl) ?_
        refine lv_iload_n hx hb dX10_bytesIn_11 rfl (lv_at hl 0 rfl) ?_
        refine lv_ishr hx hb dX10_bytesIn_12 ?_
        refine lv_topi (fun x_30 ex_30 => ?_)
        refine lv_sipush (v := 255) hx hb dX10_bytesIn_13 (by decide) ?_
        refine lv_iand hx hb dX10_bytesIn_16 ?_
        refine lv_topi (fun x_31 ex_31 => ?_)
        have hy_32 : kS p0 0 = x_31 := by rw [ex_31, ex_30]; rfl
        refine lv_if_eq (tgt := 24) hx hb dX10_bytesIn_17 (by decide) (fun c_33 => ?_) (fun c_33 => ?_)
        · refine lv_iconst (v := 0) hx hb dX10_bytesIn_24 (by decide) ?_
          refine lv_iadd hx hb dX10_bytesIn_25 ?_
          refine lv_topi (fun y_34 ey_34 => ?_)
          obtain rfl : y_34 = 1 := ey_34.trans (by decide)
          refine lv_istore_n (lv' := [(1, .int 1), (2, .int 0), (0, .int p0)]) hx hb dX10_bytesIn_26 rfl hl (by decide) rfl (fun ls hl => ?_)
          refine lv_iinc (v := (-8)) (lv' := [(2, .int (-8)), (1, .int 1), (0, .int p0)]) hx hb dX10_bytesIn_27 hl (k := 1) rfl (by decide) (by decide) rfl (fun ls hl => ?_)
          refine lv_goto (tgt := 5) hx hb dX10_bytesIn_30 (by decide) ?_
          refine lv_iload_n hx hb dX10_bytesIn_5 rfl (lv_at hl 0 rfl) ?_
          refine lv_if_lt (tgt := 33) hx hb dX10_bytesIn_6 (by decide) (fun c_35 => ?_) (fun c_35 => absurd (by decide) c_35)
          refine lv_iload_n hx hb dX10_bytesIn_33 rfl (lv_at hl 1 rfl) ?_
          have hk : kCnt p0 = 1 := by simp [kCnt, kC1, hy_4, hy_10, hy_16, hy_32, c_5, c_11, c_17, c_33]
          exact W.iret (v := 1) hx hb hr (fun t ht hW => ⟨1, rfl, (by rw [hk]; rfl), ht⟩) (fun _ h => nomatch h) dX10_bytesIn_34
        · refine lv_iconst (v := 1) hx hb dX10_bytesIn_20 (by decide) ?_
          refine lv_goto (tgt := 25) hx hb dX10_bytesIn_21 (by decide) ?_
          refine lv_iadd hx hb dX10_bytesIn_25 ?_
          refine lv_topi (fun y_36 ey_36 => ?_)
          obtain rfl : y_36 = 2 := ey_36.trans (by decide)
          refine lv_istore_n (lv' := [(1, .int 2), (2, .int 0), (0, .int p0)]) hx hb dX10_bytesIn_26 rfl hl (by decide) rfl (fun ls hl => ?_)
          refine lv_iinc (v := (-8)) (lv' := [(2, .int (-8)), (1, .int 2), (0, .int p0)]) hx hb dX10_bytesIn_27 hl (k := 1) rfl (by decide) (by decide) rfl (fun ls hl => ?_)
          refine lv_goto (tgt := 5) hx hb dX10_bytesIn_30 (by decide) ?_
          refine lv_iload_n hx hb dX10_bytesIn_5 rfl (lv_at hl 0 rfl) ?_
          refine lv_if_lt (tgt := 33) hx hb dX10_bytesIn_6 (by decide) (fun c_37 => ?_) (fun c_37 => absurd (by decide) c_37)
          refine lv_iload_n hx hb dX10_bytesIn_33 rfl (lv_at hl 1 rfl) ?_
          have hk : kCnt p0 = 2 := by simp [kCnt, kC1, hy_4, hy_10, hy_16, hy_32, c_5, c_11, c_17, c_33]
          exact W.iret (v := 2) hx hb hr (fun t ht hW => ⟨2, rfl, (by rw [hk]; rfl), ht⟩) (fun _ h => nomatch h) dX10_bytesIn_34
    · refine lv_iconst (v := 1) hx hb dX10_bytesIn_20 (by decide) ?_
      refine lv_goto (tgt := 25) hx hb dX10_bytesIn_21 (by decide) ?_
      refine lv_iadd hx hb dX10_bytesIn_25 ?_
      refine lv_topi (fun y_38 ey_38 => ?_)
      obtain rfl : y_38 = 1 := ey_38.trans (by decide)
      refine lv_istore_n (lv' := [(1, .int 1), (2, .int 16), (0, .int p0)]) hx hb dX10_bytesIn_26 rfl hl (by decide) rfl (fun ls hl => ?_)
      refine lv_iinc (v := 8) (lv' := [(2, .int 8), (1, .int 1), (0, .int p0)]) hx hb dX10_bytesIn_27 hl (k := 1) rfl (by decide) (by decide) rfl (fun ls hl => ?_)
      refine lv_goto (tgt := 5) hx hb dX10_bytesIn_30 (by decide) ?_
      refine lv_iload_n hx hb dX10_bytesIn_5 rfl (lv_at hl 0 rfl) ?_
      refine lv_if_lt (tgt := 33) hx hb dX10_bytesIn_6 (by decide) (fun c_39 => absurd c_39 (by decide)) (fun c_39 => ?_)
      refine lv_iload_n hx hb dX10_bytesIn_9 rfl (lv_at hl 1 rfl) ?_
      refine lv_iload_n hx hb dX10_bytesIn_10 rfl (lv_at hl 2 rfl) ?_
      refine lv_iload_n hx hb dX10_bytesIn_11 rfl (lv_at hl 0 rfl) ?_
      refine lv_ishr hx hb dX10_bytesIn_12 ?_
      refine lv_topi (fun x_40 ex_40 => ?_)
      refine lv_sipush (v := 255) hx hb dX10_bytesIn_13 (by decide) ?_
      refine lv_iand hx hb dX10_bytesIn_16 ?_
      refine lv_topi (fun x_41 ex_41 => ?_)
      have hy_42 : kS p0 8 = x_41 := by rw [ex_41, ex_40]; rfl
      refine lv_if_eq (tgt := 24) hx hb dX10_bytesIn_17 (by decide) (fun c_43 => ?_) (fun c_43 => ?_)
      · refine lv_iconst (v := 0) hx hb dX10_bytesIn_24 (by decide) ?_
        refine lv_iadd hx hb dX10_bytesIn_25 ?_
        refine lv_topi (fun y_44 ey_44 => ?_)
        obtain rfl : y_44 = 1 := ey_44.trans (by decide)
        refine lv_istore_n (lv' := [(1, .int 1), (2, .int 8), (0, .int p0)]) hx hb dX10_bytesIn_26 rfl hl (by decide) rfl (fun ls hl => ?_)
        refine lv_iinc (v := 0) (lv' := [(2, .int 0), (1, .int 1), (0, .int p0)]) hx hb dX10_bytesIn_27 hl (k := 1) rfl (by decide) (by decide) rfl (fun ls hl => ?_)
        refine lv_goto (tgt := 5) hx hb dX10_bytesIn_30 (by decide) ?_
        refine lv_iload_n hx hb dX10_bytesIn_5 rfl (lv_at hl 0 rfl) ?_
        refine lv_if_lt (tgt := 33) hx hb dX10_bytesIn_6 (by decide) (fun c_45 => absurd c_45 (by decide)) (fun c_45 => ?_)
        refine lv_iload_n hx hb dX10_bytesIn_9 rfl (lv_at hl 1 rfl) ?_
        refine lv_iload_n hx hb dX10_bytesIn_10 rfl (lv_at hl 2 rfl) ?_
        refine lv_iload_n hx hb dX10_bytesIn_11 rfl (lv_at hl 0 rfl) ?_
        refine lv_ishr hx hb dX10_bytesIn_12 ?_
        refine lv_topi (fun x_46 ex_46 => ?_)
        refine lv_sipush (v := 255) hx hb dX10_bytesIn_13 (by decide) ?_
        refine lv_iand hx hb dX10_bytesIn_16 ?_
        refine lv_topi (fun x_47 ex_47 => ?_)
        have hy_48 : kS p0 0 = x_47 := by rw [ex_47, ex_46]; rfl
        refine lv_if_eq (tgt := 24) hx hb dX10_bytesIn_17 (by decide) (fun c_49 => ?_) (fun c_49 => ?_)
        · refine lv_iconst (v := 0) hx hb dX10_bytesIn_24 (by decide) ?_
          refine lv_iadd hx hb dX10_bytesIn_25 ?_
          refine lv_topi (fun y_50 ey_50 => ?_)
          obtain rfl : y_50 = 1 := ey_50.trans (by decide)
          refine lv_istore_n (lv' := [(1, .int 1), (2, .int 0), (0, .int p0)]) hx hb dX10_bytesIn_26 rfl hl (by decide) rfl (fun ls hl => ?_)
          refine lv_iinc (v := (-8)) (lv' := [(2, .int (-8)), (1, .int 1), (0, .int p0)]) hx hb dX10_bytesIn_27 hl (k := 1) rfl (by decide) (by decide) rfl (fun ls hl => ?_)
          refine lv_goto (tgt := 5) hx hb dX10_bytesIn_30 (by decide) ?_
          refine lv_iload_n hx hb dX10_bytesIn_5 rfl (lv_at hl 0 rfl) ?_
          refine lv_if_lt (tgt := 33) hx hb dX10_bytesIn_6 (by decide) (fun c_51 => ?_) (fun c_51 => absurd (by decide) c_51)
          refine lv_iload_n hx hb dX10_bytesIn_33 rfl (lv_at hl 1 rfl) ?_
          have hk : kCnt p0 = 1 := by simp [kCnt, kC1, hy_4, hy_10, hy_42, hy_48, c_5, c_11, c_43, c_49]
          exact W.iret (v := 1) hx hb hr (fun t ht hW => ⟨1, rfl, (by rw [hk]; rfl), ht⟩) (fun _ h => nomatch h) dX10_bytesIn_34
        · refine lv_iconst (v := 1) hx hb dX10_bytesIn_20 (by decide) ?_
          refine lv_goto (tgt := 25) hx hb dX10_bytesIn_21 (by decide) ?_
          refine lv_iadd hx hb dX10_bytesIn_25 ?_
          refine lv_topi (fun y_52 ey_52 => ?_)
          obtain rfl : y_52 = 2 := ey_52.trans (by decide)
          refine lv_istore_n (lv' := [(1, .int 2), (2, .int 0), (0, .int p0)]) hx hb dX10_bytesIn_26 rfl hl (by decide) rfl (fun ls hl => ?_)
          refine lv_iinc (v := (-8)) (lv' := [(2, .int (-8)), (1, .int 2), (0, .int p0)]) hx hb dX10_bytesIn_27 hl (k := 1) rfl (by decide) (by decide) rfl (fun ls hl => ?_)
          refine lv_goto (tgt := 5) hx hb dX10_bytesIn_30 (by decide) ?_
          refine lv_iload_n hx hb dX10_bytesIn_5 rfl (lv_at hl 0 rfl) ?_
          refine lv_if_lt (tgt := 33) hx hb dX10_bytesIn_6 (by decide) (fun c_53 => ?_) (fun c_53 => absurd (by decide) c_53)
          refine lv_iload_n hx hb dX10_bytesIn_33 rfl (lv_at hl 1 rfl) ?_
          have hk : kCnt p0 = 2 := by simp [kCnt, kC1, hy_4, hy_10, hy_42, hy_48, c_5, c_11, c_43, c_49]
          exact W.iret (v := 2) hx hb hr (fun t ht hW => ⟨2, rfl, (by rw [hk]; rfl), ht⟩) (fun _ h => nomatch h) dX10_bytesIn_34
      · refine lv_iconst (v := 1) hx hb dX10_bytesIn_20 (by decide) ?_
        refine lv_goto (tgt := 25) hx hb dX10_bytesIn_21 (by decide) ?_
        refine lv_iadd hx hb dX10_bytesIn_25 ?_
        refine lv_topi (fun y_54 ey_54 => ?_)
        obtain rfl : y_54 = 2 := ey_54.trans (by decide)
        refine lv_istore_n (lv' := [(1, .int 2), (2, .int 8), (0, .int p0)]) hx hb dX10_bytesIn_26 rfl hl (by decide) rfl (fun ls hl => ?_)
        refine lv_iinc (v := 0) (lv' := [(2, .int 0), (1, .int 2), (0, .int p0)]) hx hb dX10_bytesIn_27 hl (k := 1) rfl (by decide) (by decide) rfl (fun ls hl => ?_)
        refine lv_goto (tgt := 5) hx hb dX10_bytesIn_30 (by decide) ?_
        refine lv_iload_n hx hb dX10_bytesIn_5 rfl (lv_at hl 0 rfl) ?_
        refine lv_if_lt (tgt := 33) hx hb dX10_bytesIn_6 (by decide) (fun c_55 => absurd c_55 (by decide)) (fun c_55 => ?_)
        refine lv_iload_n hx hb dX10_bytesIn_9 rfl (lv_at hl 1 rfl) ?_
        refine lv_iload_n hx hb dX10_bytesIn_10 rfl (lv_at hl 2 rfl) ?_
        refine lv_iload_n hx hb dX10_bytesIn_11 rfl (lv_at hl 0 rfl) ?_
        refine lv_ishr hx hb dX10_bytesIn_12 ?_
        refine lv_topi (fun x_56 ex_56 => ?_)
        refine lv_sipush (v := 255) hx hb dX10_bytesIn_13 (by decide) ?_
        refine lv_iand hx hb dX10_bytesIn_16 ?_
        refine lv_topi (fun x_57 ex_57 => ?_)
        have hy_58 : kS p0 0 = x_57 := by rw [ex_57, ex_56]; rfl
        refine lv_if_eq (tgt := 24) hx hb dX10_bytesIn_17 (by decide) (fun c_59 => ?_) (fun c_59 => ?_)
        · refine lv_iconst (v := 0) hx hb dX10_bytesIn_24 (by decide) ?_
          refine lv_iadd hx hb dX10_bytesIn_25 ?_
          refine lv_topi (fun y_60 ey_60 => ?_)
          obtain rfl : y_60 = 2 := ey_60.trans (by decide)
          refine lv_istore_n (lv' := [(1, .int 2), (2, .int 0), (0, .int p0)]) hx hb dX10_bytesIn_26 rfl hl (by decide) rfl (fun ls hl => ?_)
          refine lv_iinc (v := (-8)) (lv' := [(2, .int (-8)), (1, .int 2), (0, .int p0)]) hx hb dX10_bytesIn_27 hl (k := 1) rfl (by decide) (by decide) rfl (fun ls hl => ?_)
          refine lv_goto (tgt := 5) hx hb dX10_bytesIn_30 (by decide) ?_
          refine lv_iload_n hx hb dX10_bytesIn_5 rfl (lv_at hl 0 rfl) ?_
          refine lv_if_lt (tgt := 33) hx hb dX10_bytesIn_6 (by decide) (fun c_61 => ?_) (fun c_61 => absurd (by decide) c_61)
          refine lv_iload_n hx hb dX10_bytesIn_33 rfl (lv_at hl 1 rfl) ?_
          have hk : kCnt p0 = 2 := by simp [kCnt, kC1, hy_4, hy_10, hy_42, hy_58, c_5, c_11, c_43, c_59]
          exact W.iret (v := 2) hx hb hr (fun t ht hW => ⟨2, rfl, (by rw [hk]; rfl), ht⟩) (fun _ h => nomatch h) dX10_bytesIn_34
        · refine lv_iconst (v := 1) hx hb dX10_bytesIn_20 (by decide) ?_
          refine lv_goto (tgt := 25) hx hb dX10_bytesIn_21 (by decide) ?_
          refine lv_iadd hx hb dX10_bytesIn_25 ?_
          refine lv_topi (fun y_62 ey_62 => ?_)
          obtain rfl : y_62 = 3 := ey_62.trans (by decide)
          refine lv_istore_n (lv' := [(1, .int 3), (2, .int 0), (0, .int p0)]) hx hb dX10_bytesIn_26 rfl hl (by decide) rfl (fun ls hl => ?_)
          refine lv_iinc (v := (-8)) (lv' := [(2, .int (-8)), (1, .int 3), (0, .int p0)]) hx hb dX10_bytesIn_27 hl (k := 1) rfl (by decide) (by decide) rfl (fun ls hl => ?_)
          refine lv_goto (tgt := 5) hx hb dX10_bytesIn_30 (by decide) ?_
          refine lv_iload_n hx hb dX10_bytesIn_5 rfl (lv_at hl 0 rfl) ?_
          refine lv_if_lt (tgt := 33) hx hb dX10_bytesIn_6 (by decide) (fun c_63 => ?_) (fun c_63 => absurd (by decide) c_63)
          refine lv_iload_n hx hb dX10_bytesIn_33 rfl (lv_at hl 1 rfl) ?_
          have hk : kCnt p0 = 3 := by simp [kCnt, kC1, hy_4, hy_10, hy_42, hy_58, c_5, c_11, c_43, c_59]
          exact W.iret (v := 3) hx hb hr (fun t ht hW => ⟨3, rfl, (by rw [hk]; rfl), ht⟩) (fun _ h => nomatch h) dX10_bytesIn_34
  · refine lv_iconst (v := 1) hx hb dX10_bytesIn_20 (by decide) ?_
    refine lv_goto (tgt := 25) hx hb dX10_bytesIn_21 (by decide) ?_
    refine lv_iadd hx hb dX10_bytesIn_25 ?_
    refine lv_topi (fun y_64 ey_64 => ?_)
    obtain rfl : y_64 = 1 := ey_64.trans (by decide)
    refine lv_istore_n (lv' := [(1, .int 1), (2, .int 24), (0, .int p0)]) hx hb dX10_bytesIn_26 rfl hl (by decide) rfl (fun ls hl => ?_)
    refine lv_iinc (v := 16) (lv' := [(2, .int 16), (1, .int 1), (0, .int p0)]) hx hb dX10_bytesIn_27 hl (k := 1) rfl (by decide) (by decide) rfl (fun ls hl => ?_)
    refine lv_goto (tgt := 5) hx hb dX10_bytesIn_30 (by decide) ?_
    refine lv_iload_n hx hb dX10_bytesIn_5 rfl (lv_at hl 0 rfl) ?_
    refine lv_if_lt (tgt := 33) hx hb dX10_bytesIn_6 (by decide) (fun c_65 => absurd c_65 (by decide)) (fun c_65 => ?_)
    refine lv_iload_n hx hb dX10_bytesIn_9 rfl (lv_at hl 1 rfl) ?_
    refine lv_iload_n hx hb dX10_bytesIn_10 rfl (lv_at hl 2 rfl) ?_
    refine lv_iload_n hx hb dX10_bytesIn_11 rfl (lv_at hl 0 rfl) ?_
    refine lv_ishr hx hb dX10_bytesIn_12 ?_
    refine lv_topi (fun x_66 ex_66 => ?_)
    refine lv_sipush (v := 255) hx hb dX10_bytesIn_13 (by decide) ?_
    refine lv_iand hx hb dX10_bytesIn_16 ?_
    refine lv_topi (fun x_67 ex_67 => ?_)
    have hy_68 : kS p0 16 = x_67 := by rw [ex_67, ex_66]; rfl
    refine lv_if_eq (tgt := 24) hx hb dX10_bytesIn_17 (by decide) (fun c_69 => ?_) (fun c_69 => ?_)
    · refine lv_iconst (v := 0) hx hb dX10_bytesIn_24 (by decide) ?_
      refine lv_iadd hx hb dX10_bytesIn_25 ?_
      refine lv_topi (fun y_70 ey_70 => ?_)
      obtain rfl : y_70 = 1 := ey_70.trans (by decide)
      refine lv_istore_n (lv' := [(1, .int 1), (2, .int 16), (0, .int p0)]) hx hb dX10_bytesIn_26 rfl hl (by decide) rfl (fun ls hl => ?_)
      refine lv_iinc (v := 8) (lv' := [(2, .int 8), (1, .int 1), (0, .int p0)]) hx hb dX10_bytesIn_27 hl (k := 1) rfl (by decide) (by decide) rfl (fun ls hl => ?_)
      refine lv_goto (tgt := 5) hx hb dX10_bytesIn_30 (by decide) ?_
      refine lv_iload_n hx hb dX10_bytesIn_5 rfl (lv_at hl 0 rfl) ?_
      refine lv_if_lt (tgt := 33) hx hb dX10_bytesIn_6 (by decide) (fun c_71 => absurd c_71 (by decide)) (fun c_71 => ?_)
      refine lv_iload_n hx hb dX10_bytesIn_9 rfl (lv_at hl 1 rfl) ?_
      refine lv_iload_n hx hb dX10_bytesIn_10 rfl (lv_at hl 2 rfl) ?_
      refine lv_iload_n hx hb dX10_bytesIn_11 rfl (lv_at hl 0 rfl) ?_
      refine lv_ishr hx hb dX10_bytesIn_12 ?_
      refine lv_topi (fun x_72 ex_72 => ?_)
      refine lv_sipush (v := 255) hx hb dX10_bytesIn_13 (by decide) ?_
      refine lv_iand hx hb dX10_bytesIn_16 ?_
      refine lv_topi (fun x_73 ex_73 => ?_)
      have hy_74 : kS p0 8 = x_73 := by rw [ex_73, ex_72]; rfl
      refine lv_if_eq (tgt := 24) hx hb dX10_bytesIn_17 (by decide) (fun c_75 => ?_) (fun c_75 => ?_)
      · refine lv_iconst (v := 0) hx hb dX10_bytesIn_24 (by decide) ?_
        refine lv_iadd hx hb dX10_bytesIn_25 ?_
        refine lv_topi (fun y_76 ey_76 => ?_)
        obtain rfl : y_76 = 1 := ey_76.trans (by decide)
        refine lv_istore_n (lv' := [(1, .int 1), (2, .int 8), (0, .int p0)]) hx hb dX10_bytesIn_26 rfl hl (by decide) rfl (fun ls hl => ?_)
        refine lv_iinc (v := 0) (lv' := [(2, .int 0), (1, .int 1), (0, .int p0)]) hx hb dX10_bytesIn_27 hl (k := 1) rfl (by decide) (by decide) rfl (fun ls hl => ?_)
        refine lv_goto (tgt := 5) hx hb dX10_bytesIn_30 (by decide) ?_
        refine lv_iload_n hx hb dX10_bytesIn_5 rfl (lv_at hl 0 rfl) ?_
        refine lv_if_lt (tgt := 33) hx hb dX10_bytesIn_6 (by decide) (fun c_77 => absurd c_77 (by decide)) (fun c_77 => ?_)
        refine lv_iload_n hx hb dX10_bytesIn_9 rfl (lv_at hl 1 rfl) ?_
        refine lv_iload_n hx hb dX10_bytesIn_10 rfl (lv_at hl 2 rfl) ?_
        refine lv_iload_n hx hb dX10_bytesIn_11 rfl (lv_at hl 0 rfl) ?_
        refine lv_ishr hx hb dX10_bytesIn_12 ?_
        refine lv_topi (fun x_78 ex_78 => ?_)
        refine lv_sipush (v := 255) hx hb dX10_bytesIn_13 (by decide) ?_
        refine lv_iand hx hb dX10_bytesIn_16 ?_
        refine lv_topi (fun x_79 ex_79 => ?_)
        have hy_80 : kS p0 0 = x_79 := by rw [ex_79, ex_78]; rfl
        refine lv_if_eq (tgt := 24) hx hb dX10_bytesIn_17 (by decide) (fun c_81 => ?_) (fun c_81 => ?_)
        · refine lv_iconst (v := 0) hx hb dX10_bytesIn_24 (by decide) ?_
          refine lv_iadd hx hb dX10_bytesIn_25 ?_
          refine lv_topi (fun y_82 ey_82 => ?_)
          obtain rfl : y_82 = 1 := ey_82.trans (by decide)
          refine lv_istore_n (lv' := [(1, .int 1), (2, .int 0), (0, .int p0)]) hx hb dX10_bytesIn_26 rfl hl (by decide) rfl (fun ls hl => ?_)
          refine lv_iinc (v := (-8)) (lv' := [(2, .int (-8)), (1, .int 1), (0, .int p0)]) hx hb dX10_bytesIn_27 hl (k := 1) rfl (by decide) (by decide) rfl (fun ls hl => ?_)
          refine lv_goto (tgt := 5) hx hb dX10_bytesIn_30 (by decide) ?_
          refine lv_iload_n hx hb dX10_bytesIn_5 rfl (lv_at hl 0 rfl) ?_
          refine lv_if_lt (tgt := 33) hx hb dX10_bytesIn_6 (by decide) (fun c_83 => ?_) (fun c_83 => absurd (by decide) c_83)
          refine lv_iload_n hx hb dX10_bytesIn_33 rfl (lv_at hl 1 rfl) ?_
          have hk : kCnt p0 = 1 := by simp [kCnt, kC1, hy_4, hy_68, hy_74, hy_80, c_5, c_69, c_75, c_81]
          exact W.iret (v := 1) hx hb hr (fun t ht hW => ⟨1, rfl, (by rw [hk]; rfl), ht⟩) (fun _ h => nomatch h) dX10_bytesIn_34
        · refine lv_iconst (v := 1) hx hb dX10_bytesIn_20 (by decide) ?_
          refine lv_goto (tgt := 25) hx hb dX10_bytesIn_21 (by decide) ?_
          refine lv_iadd hx hb dX10_bytesIn_25 ?_
          refine lv_topi (fun y_84 ey_84 => ?_)
          obtain rfl : y_84 = 2 := ey_84.trans (by decide)
          refine lv_istore_n (lv' := [(1, .int 2), (2, .int 0), (0, .int p0)]) hx hb dX10_bytesIn_26 rfl hl (by decide) rfl (fun ls hl => ?_)
          refine lv_iinc (v := (-8)) (lv' := [(2, .int (-8)), (1, .int 2), (0, .int p0)]) hx hb dX10_bytesIn_27 hl (k := 1) rfl (by decide) (by decide) rfl (fun ls hl => ?_)
          refine lv_goto (tgt := 5) hx hb dX10_bytesIn_30 (by decide) ?_
          refine lv_iload_n hx hb dX10_bytesIn_5 rfl (lv_at hl 0 rfl) ?_
          refine lv_if_lt (tgt := 33) hx hb dX10_bytesIn_6 (by decide) (fun c_85 => ?_) (fun c_85 => absurd (by decide) c_85)
          refine lv_iload_n hx hb dX10_bytesIn_33 rfl (lv_at hl 1 rfl) ?_
          have hk : kCnt p0 = 2 := by simp [kCnt, kC1, hy_4, hy_68, hy_74, hy_80, c_5, c_69, c_75, c_81]
          exact W.iret (v := 2) hx hb hr (fun t ht hW => ⟨2, rfl, (by rw [hk]; rfl), ht⟩) (fun _ h => nomatch h) dX10_bytesIn_34
      · refine lv_iconst (v := 1) hx hb dX10_bytesIn_20 (by decide) ?_
        refine lv_goto (tgt := 25) hx hb dX10_bytesIn_21 (by decide) ?_
        refine lv_iadd hx hb dX10_bytesIn_25 ?_
        refine lv_topi (fun y_86 ey_86 => ?_)
        obtain rfl : y_86 = 2 := ey_86.trans (by decide)
        refine lv_istore_n (lv' := [(1, .int 2), (2, .int 8), (0, .int p0)]) hx hb dX10_bytesIn_26 rfl hl (by decide) rfl (fun ls hl => ?_)
        refine lv_iinc (v := 0) (lv' := [(2, .int 0), (1, .int 2), (0, .int p0)]) hx hb dX10_bytesIn_27 hl (k := 1) rfl (by decide) (by decide) rfl (fun ls hl => ?_)
        refine lv_goto (tgt := 5) hx hb dX10_bytesIn_30 (by decide) ?_
        refine lv_iload_n hx hb dX10_bytesIn_5 rfl (lv_at hl 0 rfl) ?_
        refine lv_if_lt (tgt := 33) hx hb dX10_bytesIn_6 (by decide) (fun c_87 => absurd c_87 (by decide)) (fun c_87 => ?_)
        refine lv_iload_n hx hb dX10_bytesIn_9 rfl (lv_at hl 1 rfl) ?_
        refine lv_iload_n hx hb dX10_bytesIn_10 rfl (lv_at hl 2 rfl) ?_
        refine lv_iload_n hx hb dX10_bytesIn_11 rfl (lv_at hl 0 rfl) ?_
        refine lv_ishr hx hb dX10_bytesIn_12 ?_
        refine lv_topi (fun x_88 ex_88 => ?_)
        refine lv_sipush (v := 255) hx hb dX10_bytesIn_13 (by decide) ?_
        refine lv_iand hx hb dX10_bytesIn_16 ?_
        refine lv_topi (fun x_89 ex_89 => ?_)
        have hy_90 : kS p0 0 = x_89 := by rw [ex_89, ex_88]; rfl
        refine lv_if_eq (tgt := 24) hx hb dX10_bytesIn_17 (by decide) (fun c_91 => ?_) (fun c_91 => ?_)
        · refine lv_iconst (v := 0) hx hb dX10_bytesIn_24 (by decide) ?_
          refine lv_iadd hx hb dX10_bytesIn_25 ?_
          refine lv_topi (fun y_92 ey_92 => ?_)
          obtain rfl : y_92 = 2 := ey_92.trans (by decide)
          refine lv_istore_n (lv' := [(1, .int 2), (2, .int 0), (0, .int p0)]) hx hb dX10_bytesIn_26 rfl hl (by decide) rfl (fun ls hl => ?_)
          refine lv_iinc (v := (-8)) (lv' := [(2, .int (-8)), (1, .int 2), (0, .int p0)]) hx hb dX10_bytesIn_27 hl (k := 1) rfl (by decide) (by decide) rfl (fun ls hl => ?_)
          refine lv_goto (tgt := 5) hx hb dX10_bytesIn_30 (by decide) ?_
          refine lv_iload_n hx hb dX10_bytesIn_5 rfl (lv_at hl 0 rfl) ?_
          refine lv_if_lt (tgt := 33) hx hb dX10_bytesIn_6 (by decide) (fun c_93 => ?_) (fun c_93 => absurd (by decide) c_93)
          refine lv_iload_n hx hb dX10_bytesIn_33 rfl (lv_at hl 1 rfl) ?_
          have hk : kCnt p0 = 2 := by simp [kCnt, kC1, hy_4, hy_68, hy_74, hy_90, c_5, c_69, c_75, c_91]
          exact W.iret (v := 2) hx hb hr (fun t ht hW => ⟨2, rfl, (by rw [hk]; rfl), ht⟩) (fun _ h => nomatch h) dX10_bytesIn_34
        · refine lv_iconst (v := 1) hx hb dX10_bytesIn_20 (by decide) ?_
          refine lv_goto (tgt := 25) hx hb dX10_bytesIn_21 (by decide) ?_
          refine lv_iadd hx hb dX10_bytesIn_25 ?_
          refine lv_topi (fun y_94 ey_94 => ?_)
          obtain rfl : y_94 = 3 := ey_94.trans (by decide)
          refine lv_istore_n (lv' := [(1, .int 3), (2, .int 0), (0, .int p0)]) hx hb dX10_bytesIn_26 rfl hl (by decide) rfl (fun ls hl => ?_)
          refine lv_iinc (v := (-8)) (lv' := [(2, .int (-8)), (1, .int 3), (0, .int p0)]) hx hb dX10_bytesIn_27 hl (k := 1) rfl (by decide) (by decide) rfl (fun ls hl => ?_)
          refine lv_goto (tgt := 5) hx hb dX10_bytesIn_30 (by decide) ?_
          refine lv_iload_n hx hb dX10_bytesIn_5 rfl (lv_at hl 0 rfl) ?_
          refine lv_if_lt (tgt := 33) hx hb dX10_bytesIn_6 (by decide) (fun c_95 => ?_) (fun c_95 => absurd (by decide) c_95)
          refine lv_iload_n hx hb dX10_bytesIn_33 rfl (lv_at hl 1 rfl) ?_
          have hk : kCnt p0 = 3 := by simp [kCnt, kC1, hy_4, hy_68, hy_74, hy_90, c_5, c_69, c_75, c_91]
          exact W.iret (v := 3) hx hb hr (fun t ht hW => ⟨3, rfl, (by rw [hk]; rfl), ht⟩) (fun _ h => nomatch h) dX10_bytesIn_34
    · refine lv_iconst (v := 1) hx hb dX10_bytesIn_20 (by decide) ?_
      refine lv_goto (tgt := 25) hx hb dX10_bytesIn_21 (by decide) ?_
      refine lv_iadd hx hb dX10_bytesIn_25 ?_
      refine lv_topi (fun y_96 ey_96 => ?_)
      obtain rfl : y_96 = 2 := ey_96.trans (by decide)
      refine lv_istore_n (lv' := [(1, .int 2), (2, .int 16), (0, .int p0)]) hx hb dX10_bytesIn_26 rfl hl (by decide) rfl (fun ls hl => ?_)
      refine lv_iinc (v := 8) (lv' := [(2, .int 8), (1, .int 2), (0, .int p0)]) hx hb dX10_bytesIn_27 hl (k := 1) rfl (by decide) (by decide) rfl (fun ls hl => ?_)
      refine lv_goto (tgt := 5) hx hb dX10_bytesIn_30 (by decide) ?_
      refine lv_iload_n hx hb dX10_bytesIn_5 rfl (lv_at hl 0 rfl) ?_
      refine lv_if_lt (tgt := 33) hx hb dX10_bytesIn_6 (by decide) (fun c_97 => absurd c_97 (by decide)) (fun c_97 => ?_)
      refine lv_iload_n hx hb dX10_bytesIn_9 rfl (lv_at hl 1 rfl) ?_
      refine lv_iload_n hx hb dX10_bytesIn_10 rfl (lv_at hl 2 rfl) ?_
      refine lv_iload_n hx hb dX10_bytesIn_11 rfl (lv_at hl 0 rfl) ?_
      refine lv_ishr hx hb dX10_bytesIn_12 ?_
      refine lv_topi (fun x_98 ex_98 => ?_)
      refine lv_sipush (v := 255) hx hb dX10_bytesIn_13 (by decide) ?_
      refine lv_iand hx hb dX10_bytesIn_16 ?_
      refine lv_topi (fun x_99 ex_99 => ?_)
      have hy_100 : kS p0 8 = x_99 := by rw [ex_99, ex_98]; rfl
      refine lv_if_eq (tgt := 24) hx hb dX10_bytesIn_17 (by decide) (fun c_101 => ?_) (fun c_101 => ?_)
      · refine lv_iconst (v := 0) hx hb dX10_bytesIn_24 (by decide) ?_
        refine lv_iadd hx hb dX10_bytesIn_25 ?_
        refine lv_topi (fun y_102 ey_102 => ?_)
        obtain rfl : y_102 = 2 := ey_102.trans (by decide)
        refine lv_istore_n (lv' := [(1, .int 2), (2, .int 8), (0, .int p0)]) hx hb dX10_bytesIn_26 rfl hl (by decide) rfl (fun ls hl => ?_)
        refine lv_iinc (v := 0) (lv' := [(2, .int 0), (1, .int 2), (0, .int p0)]) hx hb dX10_bytesIn_27 hl (k := 1) rfl (by decide) (by decide) rfl (fun ls hl => ?_)
        refine lv_goto (tgt := 5) hx hb dX10_bytesIn_30 (by decide) ?_
        refine lv_iload_n hx hb dX10_bytesIn_5 rfl (lv_at hl 0 rfl) ?_
        refine lv_if_lt (tgt := 33) hx hb dX10_bytesIn_6 (by decide) (fun c_103 => absurd c_103 (by decide)) (fun c_103 => ?_)
        refine lv_iload_n hx hb dX10_bytesIn_9 rfl (lv_at hl 1 rfl) ?_
        refine lv_iload_n hx hb dX10_bytesIn_10 rfl (lv_at hl 2 rfl) ?_
        refine lv_iload_n hx hb dX10_bytesIn_11 rfl (lv_at hl 0 rfl) ?_
        refine lv_ishr hx hb dX10_bytesIn_12 ?_
        refine lv_topi (fun x_104 ex_104 => ?_)
        refine lv_sipush (v := 255) hx hb dX10_bytesIn_13 (by decide) ?_
        refine lv_iand hx hb dX10_bytesIn_16 ?_
        refine lv_topi (fun x_105 ex_105 => ?_)
        have hy_106 : kS p0 0 = x_105 := by rw [ex_105, ex_104]; rfl
        refine lv_if_eq (tgt := 24) hx hb dX10_bytesIn_17 (by decide) (fun c_107 => ?_) (fun c_107 => ?_)
        · refine lv_iconst (v := 0) hx hb dX10_bytesIn_24 (by decide) ?_
          refine lv_iadd hx hb dX10_bytesIn_25 ?_
          refine lv_topi (fun y_108 ey_108 => ?_)
          obtain rfl : y_108 = 2 := ey_108.trans (by decide)
          refine lv_istore_n (lv' := [(1, .int 2), (2, .int 0), (0, .int p0)]) hx hb dX10_bytesIn_26 rfl hl (by decide) rfl (fun ls hl => ?_)
          refine lv_iinc (v := (-8)) (lv' := [(2, .int (-8)), (1, .int 2), (0, .int p0)]) hx hb dX10_bytesIn_27 hl (k := 1) rfl (by decide) (by decide) rfl (fun ls hl => ?_)
          refine lv_goto (tgt := 5) hx hb dX10_bytesIn_30 (by decide) ?_
          refine lv_iload_n hx hb dX10_bytesIn_5 rfl (lv_at hl 0 rfl) ?_
          refine lv_if_lt (tgt := 33) hx hb dX10_bytesIn_6 (by decide) (fun c_109 => ?_) (fun c_109 => absurd (by decide) c_109)
          refine lv_iload_n hx hb dX10_bytesIn_33 rfl (lv_at hl 1 rfl) ?_
          have hk : kCnt p0 = 2 := by simp [kCnt, kC1, hy_4, hy_68, hy_100, hy_106, c_5, c_69, c_101, c_107]
          exact W.iret (v := 2) hx hb hr (fun t ht hW => ⟨2, rfl, (by rw [hk]; rfl), ht⟩) (fun _ h => nomatch h) dX10_bytesIn_34
        · refine lv_iconst (v := 1) hx hb dX10_bytesIn_20 (by decide) ?_
          refine lv_goto (tgt := 25) hx hb dX10_bytesIn_21 (by decide) ?_
          refine lv_iadd hx hb dX10_bytesIn_25 ?_
          refine lv_topi (fun y_110 ey_110 => ?_)
          obtain rfl : y_110 = 3 := ey_110.trans (by decide)
          refine lv_istore_n (lv' := [(1, .int 3), (2, .int 0), (0, .int p0)]) hx hb dX10_bytesIn_26 rfl hl (by decide) rfl (fun ls hl => ?_)
          refine lv_iinc (v := (-8)) (lv' := [(2, .int (-8)), (1, .int 3), (0, .int p0)]) hx hb dX10_bytesIn_27 hl (k := 1) rfl (by decide) (by decide) rfl (fun ls hl => ?_)
          refine lv_goto (tgt := 5) hx hb dX10_bytesIn_30 (by decide) ?_
          refine lv_iload_n hx hb dX10_bytesIn_5 rfl (lv_at hl 0 rfl) ?_
          refine lv_if_lt (tgt := 33) hx hb dX10_bytesIn_6 (by decide) (fun c_111 => ?_) (fun c_111 => absurd (by decide) c_111)
          refine lv_iload_n hx hb dX10_bytesIn_33 rfl (lv_at hl 1 rfl) ?_
          have hk : kCnt p0 = 3 := by simp [kCnt, kC1, hy_4, hy_68, hy_100, hy_106, c_5, c_69, c_101, c_107]
          exact W.iret (v := 3) hx hb hr (fun t ht hW => ⟨3, rfl, (by rw [hk]; rfl), ht⟩) (fun _ h => nomatch h) dX10_bytesIn_34
      · refine lv_iconst (v := 1) hx hb dX10_bytesIn_20 (by decide) ?_
        refine lv_goto (tgt := 25) hx hb dX10_bytesIn_21 (by decide) ?_
        refine lv_iadd hx hb dX10_bytesIn_25 ?_
        refine lv_topi (fun y_112 ey_112 => ?_)
        obtain rfl : y_112 = 3 := ey_112.trans (by decide)
        refine lv_istore_n (lv' := [(1, .int 3), (2, .int 8), (0, .int p0)]) hx hb dX10_bytesIn_26 rfl hl (by decide) rfl (fun ls hl => ?_)
        refine lv_iinc (v := 0) (lv' := [(2, .int 0), (1, .int 3), (0, .int p0)]) hx hb dX10_bytesIn_27 hl (k := 1) rfl (by decide) (by decide) rfl (fun ls hl => ?_)
        refine lv_goto (tgt := 5) hx hb dX10_bytesIn_30 (by decide) ?_
        refine lv_iload_n hx hb dX10_bytesIn_5 rfl (lv_at hl 0 rfl) ?_
        refine lv_if_lt (tgt := 33) hx hb dX10_bytesIn_6 (by decide) (fun c_113 => absurd c_113 (by decide)) (fun c_113 => ?_)
        refine lv_iload_n hx hb dX10_bytesIn_9 rfl (lv_at hl 1 rfl) ?_
        refine lv_iload_n hx hb dX10_bytesIn_10 rfl (lv_at hl 2 rfl) ?_
        refine lv_iload_n hx hb dX10_bytesIn_11 rfl (lv_at hl 0 rfl) ?_
        refine lv_ishr hx hb dX10_bytesIn_12 ?_
        refine lv_topi (fun x_114 ex_114 => ?_)
        refine lv_sipush (v := 255) hx hb dX10_bytesIn_13 (by decide) ?_
        refine lv_iand hx hb dX10_bytesIn_16 ?_
        refine lv_topi (fun x_115 ex_115 => ?_)
        have hy_116 : kS p0 0 = x_115 := by rw [ex_115, ex_114]; rfl
        refine lv_if_eq (tgt := 24) hx hb dX10_bytesIn_17 (by decide) (fun c_117 => ?_) (fun c_117 => ?_)
        · refine lv_iconst (v := 0) hx hb dX10_bytesIn_24 (by decide) ?_
          refine lv_iadd hx hb dX10_bytesIn_25 ?_
          refine lv_topi (fun y_118 ey_118 => ?_)
          obtain rfl : y_118 = 3 := ey_118.trans (by decide)
          refine lv_istore_n (lv' := [(1, .int 3), (2, .int 0), (0, .int p0)]) hx hb dX10_bytesIn_26 rfl hl (by decide) rfl (fun ls hl => ?_)
          refine lv_iinc (v := (-8)) (lv' := [(2, .int (-8)), (1, .int 3), (0, .int p0)]) hx hb dX10_bytesIn_27 hl (k := 1) rfl (by decide) (by decide) rfl (fun ls hl => ?_)
          refine lv_goto (tgt := 5) hx hb dX10_bytesIn_30 (by decide) ?_
          refine lv_iload_n hx hb dX10_bytesIn_5 rfl (lv_at hl 0 rfl) ?_
          refine lv_if_lt (tgt := 33) hx hb dX10_bytesIn_6 (by decide) (fun c_119 => ?_) (fun c_119 => absurd (by decide) c_119)
          refine lv_iload_n hx hb dX10_bytesIn_33 rfl (lv_at hl 1 rfl) ?_
          have hk : kCnt p0 = 3 := by simp [kCnt, kC1, hy_4, hy_68, hy_100, hy_116, c_5, c_69, c_101, c_117]
          exact W.iret (v := 3) hx hb hr (fun t ht hW => ⟨3, rfl, (by rw [hk]; rfl), ht⟩) (fun _ h => nomatch h) dX10_bytesIn_34
        · refine lv_iconst (v := 1) hx hb dX10_bytesIn_20 (by decide) ?_
          refine lv_goto (tgt := 25) hx hb dX10_bytesIn_21 (by decide) ?_
          refine lv_iadd hx hb dX10_bytesIn_25 ?_
          refine lv_topi (fun y_120 ey_120 => ?_)
          obtain rfl : y_120 = 4 := ey_120.trans (by decide)
          refine lv_istore_n (lv' := [(1, .int 4), (2, .int 0), (0, .int p0)]) hx hb dX10_bytesIn_26 rfl hl (by decide) rfl (fun ls hl => ?_)
          refine lv_iinc (v := (-8)) (lv' := [(2, .int (-8)), (1, .int 4), (0, .int p0)]) hx hb dX10_bytesIn_27 hl (k := 1) rfl (by decide) (by decide) rfl (fun ls hl => ?_)
          refine lv_goto (tgt := 5) hx hb dX10_bytesIn_30 (by decide) ?_
          refine lv_iload_n hx hb dX10_bytesIn_5 rfl (lv_at hl 0 rfl) ?_
          refine lv_if_lt (tgt := 33) hx hb dX10_bytesIn_6 (by decide) (fun c_121 => ?_) (fun c_121 => absurd (by decide) c_121)
          refine lv_iload_n hx hb dX10_bytesIn_33 rfl (lv_at hl 1 rfl) ?_
          have hk : kCnt p0 = 4 := by simp [kCnt, kC1, hy_4, hy_68, hy_100, hy_116, c_5, c_69, c_101, c_117]
          exact W.iret (v := 4) hx hb hr (fun t ht hW => ⟨4, rfl, (by rw [hk]; rfl), ht⟩) (fun _ h => nomatch h) dX10_bytesIn_34

def w_c_isLaw10 : List Cond := .code yX10_isLaw cX10_isLaw 2 (some .boolean) :: ([.fieldLink RX10 244 "NotEndedModel" "laws" "I"] ++ (wsX100))
theorem gw_c_isLaw10 : (w_c_isLaw10).all goodWord = true := by decide +kernel
set_option maxHeartbeats 4000000 in
set_option maxRecDepth 100000 in
theorem c_isLaw10 (l : Launch) (dC : Nat → ClassId) (dI : Nat → Nat → Nat) (h0 : Nat) (v0 : Value) (v1 : Value) (v2 : Value) (v3 : Value) (v4 : Value) (v5 : Value) (v6 : Value) (v8 : Value) (v9 : Value) (v10 : Value) (v11 : Value) (v12 : Value) (v13 : Value) (v14 : Value) (v15 : Value) (v16 : Value) (v17 : Value) (v18 : Value) (v19 : Value) (v20 : Value) (v21 : Value) (v22 : Value) (v23 : Value) (v24 : Value) (v25 : Value) (v26 : Value) (v27 : Value) (v28 : Value) (v29 : Value) (v30 : Value) (v31 : Value) (v32 : Value) (v33 : Value) (v34 : Value) (v35 : Value) (v36 : Value) (v37 : Value) (v38 : Value) (v39 : Value) (v40 : Value) (v41 : Value) (v42 : Value) (v43 : Value) (v44 : Value) (v45 : Value) (v46 : Value) (v47 : Value) (v48 : Value) (v49 : Value) (v50 : Value) (v51 : Value) (p0 : Int32) : Met l yX10_isLaw w_c_isLaw10 ({ frames := 1, cells := 0, slots := 0, locals := 60 }) (kR dC dI [.ref h0, .int p0] [(h0, .inr (10, [v0, v1, v2, v3, v4, v5, v6, .int 0, v8, v9, v10, v11, v12, v13, v14, v15, v16, v17, v18, v19, v20, v21, v22, v23, v24, v25, v26, v27, v28, v29, v30, v31, v32, v33, v34, v35, v36, v37, v38, v39, v40, v41, v42, v43, v44, v45, v46, v47, v48, v49, v50, v51]))] [] kT) (vp_Si (fun r : Int32 => r = 0)) 0 0 (fun _ => False) := by
  refine Met.ofW (cc := cX10_isLaw) (maxL := 2) (ret := (some .boolean)) (by decide) rfl ?_
  intro p e s m args below meth c s₁ B hml hv
  obtain ⟨rfl, hP, hK, hX⟩ := hv
  have hx := B.exec
  have hb := B.bytes
  have hr := B.returns
  have hts := atoms_spec (ws := w_c_isLaw10) B.pre
  have hown : s.vm.findClass RX10 = some m.cls := findClass_of_methodNamed B.named
  have hlocks := B.notSynchronized
  have hP : va_P (dC, dI) vwCl [(h0, .inr (10, [v0, v1, v2, v3, v4, v5, v6, .int 0, v8, v9, v10, v11, v12, v13, v14, v15, v16, v17, v18, v19, v20, v21, v22, v23, v24, v25, v26, v27, v28, v29, v30, v31, v32, v33, v34, v35, v36, v37, v38, v39, v40, v41, v42, v43, v44, v45, v46, v47, v48, v49, v50, v51]))] s.heap := hP
  have hl := lv_entry ([.ref h0, .int p0]) (n := 2) (Nat.le_of_ble_eq_true rfl)
  rw [lg_entry_eq]
  generalize (lg_sl ([.ref h0, .int p0]) ++ List.replicate (2 - (lg_sl ([.ref h0, .int p0])).length) Slot.unset).toArray = ls at hl ⊢
  have hl : lv_has ls 2 [(0, .ref h0), (1, .int p0)] := hl
  refine lv_iload_n hx hb dX10_isLaw_0 rfl (lv_at hl 1 rfl) ?_
  refine lv_if_lt (tgt := 16) hx hb dX10_isLaw_1 (by decide) (fun c_1 => ?_) (fun c_1 => ?_)
  · refine lv_iconst (v := 0) hx hb dX10_isLaw_16 (by decide) ?_
    exact W.zret (v := 0) hx hb hr rfl (fun t ht hW => ⟨0, rfl, rfl, ht⟩) (fun _ h => nomatch h) dX10_isLaw_17
  · refine lv_iload_n hx hb dX10_isLaw_4 rfl (lv_at hl 1 rfl) ?_
    refine lv_aload_n hx hb dX10_isLaw_5 rfl (lv_at hl 0 rfl) ?_
    refine va_get (D := (dC, dI)) (ci := 10) (v := .int 0) (C := RX10) (T := TX10) (N := 52) hx hb hts (fun _ h => List.mem_cons_of_mem _ (List.mem_append_right _ h)) hown hK hP 0 rfl rfl 7 (by decide) (hts (.fieldLink RX10 244 "NotEndedModel" "laws" "I") (List.mem_cons_of_mem _ (List.mem_append_left _ (List.mem_of_getElem? (i := 0) rfl)))) (fun _ h9 => h9) rfl dX10_isLaw_6 ?_
    refine lv_icmp_ge (tgt := 16) hx hb dX10_isLaw_9 (by decide) (fun c_2 => ?_) (fun c_2 => absurd (Int32.not_lt.mp c_1) c_2)
    refine lv_iconst (v := 0) hx hb dX10_isLaw_16 (by decide) ?_
    exact W.zret (v := 0) hx hb hr rfl (fun t ht hW => ⟨0, rfl, rfl, ht⟩) (fun _ h => nomatch h) dX10_isLaw_17

def w_c_isTurning10 : List Cond := .code yX10_isTurning cX10_isTurning 2 (some .boolean) :: ([.fieldLink RX10 247 "NotEndedModel" "turnings" "I"] ++ (wsX100))
theorem gw_c_isTurning10 : (w_c_isTurning10).all goodWord = true := by decide +kernel
set_option maxHeartbeats 4000000 in
set_option maxRecDepth 100000 in
theorem c_isTurning10 (l : Launch) (dC : Nat → ClassId) (dI : Nat → Nat → Nat) (h0 : Nat) (v0 : Value) (v1 : Value) (v2 : Value) (v3 : Value) (v4 : Value) (v5 : Value) (v6 : Value) (v7 : Value) (v9 : Value) (v10 : Value) (v11 : Value) (v12 : Value) (v13 : Value) (v14 : Value) (v15 : Value) (v16 : Value) (v17 : Value) (v18 : Value) (v19 : Value) (v20 : Value) (v21 : Value) (v22 : Value) (v23 : Value) (v24 : Value) (v25 : Value) (v26 : Value) (v27 : Value) (v28 : Value) (v29 : Value) (v30 : Value) (v31 : Value) (v32 : Value) (v33 : Value) (v34 : Value) (v35 : Value) (v36 : Value) (v37 : Value) (v38 : Value) (v39 : Value) (v40 : Value) (v41 : Value) (v42 : Value) (v43 : Value) (v44 : Value) (v45 : Value) (v46 : Value) (v47 : Value) (v48 : Value) (v49 : Value) (v50 : Value) (v51 : Value) (p0 : Int32) : Met l yX10_isTurning w_c_isTurning10 ({ frames := 1, cells := 0, slots := 0, locals := 60 }) (kR dC dI [.ref h0, .int p0] [(h0, .inr (10, [v0, v1, v2, v3, v4, v5, v6, v7, .int 0, v9, v10, v11, v12, v13, v14, v15, v16, v17, v18, v19, v20, v21, v22, v23, v24, v25, v26, v27, v28, v29, v30, v31, v32, v33, v34, v35, v36, v37, v38, v39, v40, v41, v42, v43, v44, v45, v46, v47, v48, v49, v50, v51]))] [] kT) (vp_Si (fun r : Int32 => r = 0)) 0 0 (fun _ => False) := by
  refine Met.ofW (cc := cX10_isTurning) (maxL := 2) (ret := (some .boolean)) (by decide) rfl ?_
  intro p e s m args below meth c s₁ B hml hv
  obtain ⟨rfl, hP, hK, hX⟩ := hv
  have hx := B.exec
  have hb := B.bytes
  have hr := B.returns
  have hts := atoms_spec (ws := w_c_isTurning10) B.pre
  have hown : s.vm.findClass RX10 = some m.cls := findClass_of_methodNamed B.named
  have hlocks := B.notSynchronized
  have hP : va_P (dC, dI) vwCl [(h0, .inr (10, [v0, v1, v2, v3, v4, v5, v6, v7, .int 0, v9, v10, v11, v12, v13, v14, v15, v16, v17, v18, v19, v20, v21, v22, v23, v24, v25, v26, v27, v28, v29, v30, v31, v32, v33, v34, v35, v36, v37, v38, v39, v40, v41, v42, v43, v44, v45, v46, v47, v48, v49, v50, v51]))] s.heap := hP
  have hl := lv_entry ([.ref h0, .int p0]) (n := 2) (Nat.le_of_ble_eq_true rfl)
  rw [lg_entry_eq]
  generalize (lg_sl ([.ref h0, .int p0]) ++ List.replicate (2 - (lg_sl ([.ref h0, .int p0])).length) Slot.unset).toArray = ls at hl ⊢
  have hl : lv_has ls 2 [(0, .ref h0), (1, .int p0)] := hl
  refine lv_iload_n hx hb dX10_isTurning_0 rfl (lv_at hl 1 rfl) ?_
  refine lv_if_lt (tgt := 16) hx hb dX10_isTurning_1 (by decide) (fun c_1 => ?_) (fun c_1 => ?_)
  · refine lv_iconst (v := 0) hx hb dX10_isTurning_16 (by decide) ?_
    exact W.zret (v := 0) hx hb hr rfl (fun t ht hW => ⟨0, rfl, rfl, ht⟩) (fun _ h => nomatch h) dX10_isTurning_17
  · refine lv_iload_n hx hb dX10_isTurning_4 rfl (lv_at hl 1 rfl) ?_
    refine lv_aload_n hx hb dX10_isTurning_5 rfl (lv_at hl 0 rfl) ?_
    refine va_get (D := (dC, dI)) (ci := 10) (v := .int 0) (C := RX10) (T := TX10) (N := 52) hx hb hts (fun _ h => List.mem_cons_of_mem _ (List.mem_append_right _ h)) hown hK hP 0 rfl rfl 8 (by decide) (hts (.fieldLink RX10 247 "NotEndedModel" "turnings" "I") (List.mem_cons_of_mem _ (List.mem_append_left _ (List.mem_of_getElem? (i := 0) rfl)))) (fun _ h9 => h9) rfl dX10_isTurning_6 ?_
    refine lv_icmp_ge (tgt := 16) hx hb dX10_isTurning_9 (by decide) (fun c_2 => ?_) (fun c_2 => absurd (Int32.not_lt.mp c_1) c_2)
    refine lv_iconst (v := 0) hx hb dX10_isTurning_16 (by decide) ?_
    exact W.zret (v := 0) hx hb hr rfl (fun t ht hW => ⟨0, rfl, rfl, ht⟩) (fun _ h => nomatch h) dX10_isTurning_17

def w_c_isPerson10 : List Cond := .code yX10_isPerson cX10_isPerson 2 (some .boolean) :: ([.fieldLink RX10 250 "NotEndedModel" "persons" "I"] ++ (wsX100))
theorem gw_c_isPerson10 : (w_c_isPerson10).all goodWord = true := by decide +kernel
set_option maxHeartbeats 4000000 in
set_option maxRecDepth 100000 in
theorem c_isPerson10 (l : Launch) (dC : Nat → ClassId) (dI : Nat → Nat → Nat) (h0 : Nat) (v0 : Value) (v1 : Value) (v2 : Value) (v3 : Value) (v4 : Value) (v5 : Value) (v6 : Value) (v7 : Value) (v8 : Value) (v9 : Value) (v10 : Value) (v11 : Value) (v12 : Value) (v13 : Value) (v14 : Value) (v15 : Value) (v16 : Value) (v17 : Value) (v18 : Value) (v19 : Value) (v20 : Value) (v21 : Value) (v22 : Value) (v23 : Value) (v24 : Value) (v25 : Value) (v27 : Value) (v28 : Value) (v29 : Value) (v30 : Value) (v31 : Value) (v32 : Value) (v33 : Value) (v34 : Value) (v35 : Value) (v36 : Value) (v37 : Value) (v38 : Value) (v39 : Value) (v40 : Value) (v41 : Value) (v42 : Value) (v43 : Value) (v44 : Value) (v45 : Value) (v46 : Value) (v47 : Value) (v48 : Value) (v49 : Value) (v50 : Value) (v51 : Value) (p0 : Int32) : Met l yX10_isPerson w_c_isPerson10 ({ frames := 1, cells := 0, slots := 0, locals := 60 }) (kR dC dI [.ref h0, .int p0] [(h0, .inr (10, [v0, v1, v2, v3, v4, v5, v6, v7, v8, v9, v10, v11, v12, v13, v14, v15, v16, v17, v18, v19, v20, v21, v22, v23, v24, v25, .int 0, v27, v28, v29, v30, v31, v32, v33, v34, v35, v36, v37, v38, v39, v40, v41, v42, v43, v44, v45, v46, v47, v48, v49, v50, v51]))] [] kT) (vp_Si (fun r : Int32 => r = 0)) 0 0 (fun _ => False) := by
  refine Met.ofW (cc := cX10_isPerson) (maxL := 2) (ret := (some .boolean)) (by decide) rfl ?_
  intro p e s m args below meth c s₁ B hml hv
  obtain ⟨rfl, hP, hK, hX⟩ := hv
  have hx := B.exec
  have hb := B.bytes
  have hr := B.returns
  have hts := atoms_spec (ws := w_c_isPerson10) B.pre
  have hown : s.vm.findClass RX10 = some m.cls := findClass_of_methodNamed B.named
  have hlocks := B.notSynchronized
  have hP : va_P (dC, dI) vwCl [(h0, .inr (10, [v0, v1, v2, v3, v4, v5, v6, v7, v8, v9, v10, v11, v12, v13, v14, v15, v16, v17, v18, v19, v20, v21, v22, v23, v24, v25, .int 0, v27, v28, v29, v30, v31, v32, v33, v34, v35, v36, v37, v38, v39, v40, v41, v42, v43, v44, v45, v46, v47, v48, v49, v50, v51]))] s.heap := hP
  have hl := lv_entry ([.ref h0, .int p0]) (n := 2) (Nat.le_of_ble_eq_true rfl)
  rw [lg_entry_eq]
  generalize (lg_sl ([.ref h0, .int p0]) ++ List.replicate (2 - (lg_sl ([.ref h0, .int p0])).length) Slot.unset).toArray = ls at hl ⊢
  have hl : lv_has ls 2 [(0, .ref h0), (1, .int p0)] := hl
  refine lv_iload_n hx hb dX10_isPerson_0 rfl (lv_at hl 1 rfl) ?_
  refine lv_if_lt (tgt := 16) hx hb dX10_isPerson_1 (by decide) (fun c_1 => ?_) (fun c_1 => ?_)
  · refine lv_iconst (v := 0) hx hb dX10_isPerson_16 (by decide) ?_
    exact W.zret (v := 0) hx hb hr rfl (fun t ht hW => ⟨0, rfl, rfl, ht⟩) (fun _ h => nomatch h) dX10_isPerson_17
  · refine lv_iload_n hx hb dX10_isPerson_4 rfl (lv_at hl 1 rfl) ?_
    refine lv_aload_n hx hb dX10_isPerson_5 rfl (lv_at hl 0 rfl) ?_
    refine va_get (D := (dC, dI)) (ci := 10) (v := .int 0) (C := RX10) (T := TX10) (N := 52) hx hb hts (fun _ h => List.mem_cons_of_mem _ (List.mem_append_right _ h)) hown hK hP 0 rfl rfl 26 (by decide) (hts (.fieldLink RX10 250 "NotEndedModel" "persons" "I") (List.mem_cons_of_mem _ (List.mem_append_left _ (List.mem_of_getElem? (i := 0) rfl)))) (fun _ h9 => h9) rfl dX10_isPerson_6 ?_
    refine lv_icmp_ge (tgt := 16) hx hb dX10_isPerson_9 (by decide) (fun c_2 => ?_) (fun c_2 => absurd (Int32.not_lt.mp c_1) c_2)
    refine lv_iconst (v := 0) hx hb dX10_isPerson_16 (by decide) ?_
    exact W.zret (v := 0) hx hb hr rfl (fun t ht hW => ⟨0, rfl, rfl, ht⟩) (fun _ h => nomatch h) dX10_isPerson_17

def w_c_isAsked10 : List Cond := .code yX10_isAsked cX10_isAsked 3 (some .boolean) :: ([.initialized RX10, .selects RX10 yX10_isLaw yX10_isLaw, .instanceMethod yX10_isLaw, .methodLink RX10 311 yX10_isLaw] ++ (w_c_isLaw10))
theorem gw_c_isAsked10 : (w_c_isAsked10).all goodWord = true := by decide +kernel
set_option maxHeartbeats 4000000 in
set_option maxRecDepth 100000 in
theorem c_isAsked10 (l : Launch) (dC : Nat → ClassId) (dI : Nat → Nat → Nat) (h0 : Nat) (v0 : Value) (v1 : Value) (v2 : Value) (v3 : Value) (v4 : Value) (v5 : Value) (v6 : Value) (v8 : Value) (v9 : Value) (v10 : Value) (v11 : Value) (v12 : Value) (v13 : Value) (v14 : Value) (v15 : Value) (v16 : Value) (v17 : Value) (v18 : Value) (v19 : Value) (v20 : Value) (v21 : Value) (v22 : Value) (v23 : Value) (v24 : Value) (v25 : Value) (v26 : Value) (v27 : Value) (v28 : Value) (v29 : Value) (v30 : Value) (v31 : Value) (v32 : Value) (v33 : Value) (v34 : Value) (v35 : Value) (v36 : Value) (v37 : Value) (v38 : Value) (v39 : Value) (v40 : Value) (v41 : Value) (v42 : Value) (v43 : Value) (v44 : Value) (v45 : Value) (v46 : Value) (v47 : Value) (v48 : Value) (v49 : Value) (v50 : Value) (v51 : Value) (p0 : Int32) (p1 : Int32) : Met l yX10_isAsked w_c_isAsked10 ({ frames := 2, cells := 0, slots := 0, locals := 120 }) (kR dC dI [.ref h0, .int p0, .int p1] [(h0, .inr (10, [v0, v1, v2, v3, v4, v5, v6, .int 0, v8, v9, v10, v11, v12, v13, v14, v15, v16, v17, v18, v19, v20, v21, v22, v23, v24, v25, v26, v27, v28, v29, v30, v31, v32, v33, v34, v35, v36, v37, v38, v39, v40, v41, v42, v43, v44, v45, v46, v47, v48, v49, v50, v51]))] [] kT) (vp_Si (fun r : Int32 => r = 0)) 0 0 (fun _ => False) := by
  refine Met.ofW (cc := cX10_isAsked) (maxL := 3) (ret := (some .boolean)) (by decide) rfl ?_
  intro p e s m args below meth c s₁ B hml hv
  obtain ⟨rfl, hP, hK, hX⟩ := hv
  have hx := B.exec
  have hb := B.bytes
  have hr := B.returns
  have hts := atoms_spec (ws := w_c_isAsked10) B.pre
  have hown : s.vm.findClass RX10 = some m.cls := findClass_of_methodNamed B.named
  have hlocks := B.notSynchronized
  have hP : va_P (dC, dI) vwCl [(h0, .inr (10, [v0, v1, v2, v3, v4, v5, v6, .int 0, v8, v9, v10, v11, v12, v13, v14, v15, v16, v17, v18, v19, v20, v21, v22, v23, v24, v25, v26, v27, v28, v29, v30, v31, v32, v33, v34, v35, v36, v37, v38, v39, v40, v41, v42, v43, v44, v45, v46, v47, v48, v49, v50, v51]))] s.heap := hP
  have hl := lv_entry ([.ref h0, .int p0, .int p1]) (n := 3) (Nat.le_of_ble_eq_true rfl)
  rw [lg_entry_eq]
  generalize (lg_sl ([.ref h0, .int p0, .int p1]) ++ List.replicate (3 - (lg_sl ([.ref h0, .int p0, .int p1])).length) Slot.unset).toArray = ls at hl ⊢
  have hl : lv_has ls 3 [(0, .ref h0), (1, .int p0), (2, .int p1)] := hl
  refine lv_aload_n hx hb dX10_isAsked_0 rfl (lv_at hl 0 rfl) ?_
  refine lv_iload_n hx hb dX10_isAsked_1 rfl (lv_at hl 1 rfl) ?_
  have hPc := hP.sub (ws' := [(h0, .inr (10, [v0, v1, v2, v3, v4, v5, v6, .int 0, v8, v9, v10, v11, v12, v13, v14, v15, v16, v17, v18, v19, v20, v21, v22, v23, v24, v25, v26, v27, v28, v29, v30, v31, v32, v33, v34, v35, v36, v37, v38, v39, v40, v41, v42, v43, v44, v45, v46, v47, v48, v49, v50, v51]))]) [0] rfl
  have hKc := hK.sub (tys' := []) [] rfl
  refine vp_callSi (va_runV (As := [.int p0]) (rest := []) ⟨hx, hb, hml, hown, hts⟩ (c_isLaw10 l dC dI h0 (v0 : Value) (v1 : Value) (v2 : Value) (v3 : Value) (v4 : Value) (v5 : Value) (v6 : Value) (v8 : Value) (v9 : Value) (v10 : Value) (v11 : Value) (v12 : Value) (v13 : Value) (v14 : Value) (v15 : Value) (v16 : Value) (v17 : Value) (v18 : Value) (v19 : Value) (v20 : Value) (v21 : Value) (v22 : Value) (v23 : Value) (v24 : Value) (v25 : Value) (v26 : Value) (v27 : Value) (v28 : Value) (v29 : Value) (v30 : Value) (v31 : Value) (v32 : Value) (v33 : Value) (v34 : Value) (v35 : Value) (v36 : Value) (v37 : Value) (v38 : Value) (v39 : Value) (v40 : Value) (v41 : Value) (v42 : Value) (v43 : Value) (v44 : Value) (v45 : Value) (v46 : Value) (v47 : Value) (v48 : Value) (v49 : Value) (v50 : Value) (v51 : Value) p0) (cwV 1 hts (kG (List.forall_mem_cons.mpr ⟨(List.mem_cons_of_mem _ (List.mem_append_left _ (List.mem_of_getElem? (i := 3) rfl))), (List.forall_mem_cons.mpr ⟨(List.mem_cons_of_mem _ (List.mem_append_left _ (List.mem_of_getElem? (i := 2) rfl))), (List.forall_mem_cons.mpr ⟨(List.mem_cons_of_mem _ (List.mem_append_left _ (List.mem_of_getElem? (i := 1) rfl))), (List.forall_mem_cons.mpr ⟨(List.mem_cons_of_mem _ (List.mem_append_left _ (List.mem_of_getElem? (i := 0) rfl))), (fun _ h => absurd h List.not_mem_nil)⟩)⟩)⟩)⟩) (by decide +kernel) (fun _ h => List.mem_cons_of_mem _ (List.mem_append_right _ h)) gw_c_isLaw10) rfl rfl rfl (by decide +kernel) ⟨(Nat.le_of_ble_eq_true rfl), (Nat.le_of_ble_eq_true rfl)⟩) (kR_V kT_blind kT_give (va_recv hKc hPc (ci := 10) (q0 := 0) rfl rfl) hPc hKc) rfl rfl hl.1 rfl (lv_room (Nat.le_of_ble_eq_true rfl)) dX10_isAsked_2 ⟨(Nat.le_of_ble_eq_true rfl), (Nat.le_of_ble_eq_true rfl)⟩).run (fun r_1 hw => ?_)
  obtain rfl : r_1 = 0 := hw
  refine lv_if_eq (tgt := 29) hx hb dX10_isAsked_5 (by decide) (fun c_2 => ?_) (fun c_2 => absurd (by decide) c_2)
  refine lv_iconst (v := 0) hx hb dX10_isAsked_29 (by decide) ?_
  exact W.zret (v := 0) hx hb hr rfl (fun t ht hW => ⟨0, rfl, rfl, ht⟩) (fun _ h => nomatch h) dX10_isAsked_30
end
section
def w_c_run9 : List Cond := .code yX9_run cX9_run 8 (some .int) :: ([.fieldLink RX9 37 "NotEnded" "laws" "LNotEnded$Shelf;", .initialized RX7, .selects RX7 yX7_at yX7_at, .instanceMethod yX7_at, .methodLink RX9 138 yX7_at] ++ (wsX90 ++ (w_c_at7)))
theorem gw_c_run9 : (w_c_run9).all goodWord = true := by decide +kernel
set_option maxHeartbeats 4000000 in
set_option maxRecDepth 100000 in
/-- X9_run of a new object -/
theorem c_run9 (l : Launch) (dC : Nat → ClassId) (dI : Nat → Nat → Nat) (h0 : Nat) (h1 : Nat) (v0 : Value) (v1 : Value) (v2 : Value) (v4 : Value) (v5 : Value) (v6 : Value) (v7 : Value) (v8 : Value) (v9 : Value) (u0 : Value) (p0 : Int32) (p1 : Int64) (p2 : Int32) (p3 : Int32) (p4 : Int32) : Met l yX9_run w_c_run9 ({ frames := 2, cells := 0, slots := 0, locals := 120 }) (kR dC dI [.ref h0, .int p0, .long p1, .int p2, .int p3, .int p4] [(h0, .inr (9, [v0, v1, v2, .ref h1, v4, v5, v6, v7, v8, v9])), (h1, .inr (7, [u0, .int 0]))] [] kT) (vp_Si (fun r : Int32 => r = (-1000))) 0 0 (fun _ => False) := by
  refine Met.ofW (cc := cX9_run) (maxL := 8) (ret := (some .int)) (by decide) rfl ?_
  intro p e s m args below meth c s₁ B hml hv
  obtain ⟨rfl, hP, hK, hX⟩ := hv
  have hx := B.exec
  have hb := B.bytes
  have hr := B.returns
  have hts := atoms_spec (ws := w_c_run9) B.pre
  have hown : s.vm.findClass RX9 = some m.cls := findClass_of_methodNamed B.named
  have hlocks := B.notSynchronized
  have hP : va_P (dC, dI) vwCl [(h0, .inr (9, [v0, v1, v2, .ref h1, v4, v5, v6, v7, v8, v9])), (h1, .inr (7, [u0, .int 0]))] s.heap := hP
  have hl := lv_entry ([.ref h0, .int p0, .long p1, .int p2, .int p3, .int p4]) (n := 8) (Nat.le_of_ble_eq_true rfl)
  rw [lg_entry_eq]
  generalize (lg_sl ([.ref h0, .int p0, .long p1, .int p2, .int p3, .int p4]) ++ List.replicate (8 - (lg_sl ([.ref h0, .int p0, .long p1, .int p2, .int p3, .int p4])).length) Slot.unset).toArray = ls at hl ⊢
  have hl : lv_has ls 8 [(0, .ref h0), (1, .int p0), (2, .long p1), (4, .int p2), (5, .int p3), (6, .int p4)] := hl
  refine lv_aload_n hx hb dX9_run_0 rfl (lv_at hl 0 rfl) ?_
  refine va_get (D := (dC, dI)) (ci := 9) (v := .ref h1) (C := RX9) (T := TX9) (N := 10) hx hb hts (fun _ h => List.mem_cons_of_mem _ (List.mem_append_right _ (List.mem_append_left _ h))) hown hK hP 0 rfl rfl 3 (by decide) (hts (.fieldLink RX9 37 "NotEnded" "laws" "LNotEnded$Shelf;") (List.mem_cons_of_mem _ (List.mem_append_left _ (List.mem_of_getElem? (i := 0) rfl)))) (fun _ h9 => h9) rfl dX9_run_1 ?_
  refine lv_iload_n hx hb dX9_run_4 rfl (lv_at hl 1 rfl) ?_
  have hPc := hP.sub (ws' := [(h1, .inr (7, [u0, .int 0]))]) [1] rfl
  have hKc := hK.sub (tys' := []) [] rfl
  refine va_csq (va_runV (As := [.int p0]) (rest := []) ⟨hx, hb, hml, hown, hts⟩ (c_at7 l dC dI h1 (u0 : Value) p0) (cwV 1 hts (kG (List.forall_mem_cons.mpr ⟨(List.mem_cons_of_mem _ (List.mem_append_left _ (List.mem_of_getElem? (i := 4) rfl))), (List.forall_mem_cons.mpr ⟨(List.mem_cons_of_mem _ (List.mem_append_left _ (List.mem_of_getElem? (i := 3) rfl))), (List.forall_mem_cons.mpr ⟨(List.mem_cons_of_mem _ (List.mem_append_left _ (List.mem_of_getElem? (i := 2) rfl))), (List.forall_mem_cons.mpr ⟨(List.mem_cons_of_mem _ (List.mem_append_left _ (List.mem_of_getElem? (i := 1) rfl))), (fun _ h => absurd h List.not_mem_nil)⟩)⟩)⟩)⟩) (by decide +kernel) (fun _ h => List.mem_cons_of_mem _ (List.mem_append_right _ (List.mem_append_right _ h))) gw_c_at7) rfl rfl rfl (by decide +kernel) ⟨(Nat.le_of_ble_eq_true rfl), (Nat.le_of_ble_eq_true rfl)⟩) (kR_V kT_blind kT_give (va_recv hKc hPc (ci := 7) (q0 := 0) rfl rfl) hPc hKc) rfl rfl hl.1 rfl (lv_room (Nat.le_of_ble_eq_true rfl)) dX9_run_5 ⟨(Nat.le_of_ble_eq_true rfl), (Nat.le_of_ble_eq_true rfl)⟩).run (fun r_1 hw => ?_)
  obtain rfl : r_1 = none := hw
  refine W.eq (g2 := F0 m 8 ls [.null]) rfl ?_
  refine lv_astoreN (lv' := [(7, .null), (0, .ref h0), (1, .int p0), (2, .long p1), (4, .int p2), (5, .int p3), (6, .int p4)]) hx hb dX9_run_8 hl (by decide) rfl (fun ls hl => ?_)
  refine lv_aloadN hx hb dX9_run_10 (lv_at hl 0 rfl) ?_
  refine lv_ifnullN (tgt := 48) hx hb dX9_run_12 (by decide) ?_
  refine lv_sipush (v := (-1000)) hx hb dX9_run_48 (by decide) ?_
  exact W.iret (v := (-1000)) hx hb hr (fun t ht hW => ⟨(-1000), rfl, rfl, ht⟩) (fun _ h => nomatch h) dX9_run_51

def w_c_all9 : List Cond := .code yX9_all cX9_all 7 (some .int) :: ([.fieldLink RX9 37 "NotEnded" "laws" "LNotEnded$Shelf;", .initialized RX7, .selects RX7 yX7_at yX7_at, .instanceMethod yX7_at, .methodLink RX9 138 yX7_at] ++ (wsX90 ++ (w_c_at7)))
theorem gw_c_all9 : (w_c_all9).all goodWord = true := by decide +kernel
set_option maxHeartbeats 4000000 in
set_option maxRecDepth 100000 in
/-- X9_all of a new object -/
theorem c_all9 (l : Launch) (dC : Nat → ClassId) (dI : Nat → Nat → Nat) (h0 : Nat) (h1 : Nat) (v0 : Value) (v1 : Value) (v2 : Value) (v4 : Value) (v5 : Value) (v6 : Value) (v7 : Value) (v8 : Value) (v9 : Value) (u0 : Value) (p0 : Int32) (p1 : Int64) (p2 : Int32) (p3 : Int32) : Met l yX9_all w_c_all9 ({ frames := 2, cells := 0, slots := 0, locals := 120 }) (kR dC dI [.ref h0, .int p0, .long p1, .int p2, .int p3] [(h0, .inr (9, [v0, v1, v2, .ref h1, v4, v5, v6, v7, v8, v9])), (h1, .inr (7, [u0, .int 0]))] [] kT) (vp_Si (fun r : Int32 => r = (-1))) 0 0 (fun _ => False) := by
  refine Met.ofW (cc := cX9_all) (maxL := 7) (ret := (some .int)) (by decide) rfl ?_
  intro p e s m args below meth c s₁ B hml hv
  obtain ⟨rfl, hP, hK, hX⟩ := hv
  have hx := B.exec
  have hb := B.bytes
  have hr := B.returns
  have hts := atoms_spec (ws := w_c_all9) B.pre
  have hown : s.vm.findClass RX9 = some m.cls := findClass_of_methodNamed B.named
  have hlocks := B.notSynchronized
  have hP : va_P (dC, dI) vwCl [(h0, .inr (9, [v0, v1, v2, .ref h1, v4, v5, v6, v7, v8, v9])), (h1, .inr (7, [u0, .int 0]))] s.heap := hP
  have hl := lv_entry ([.ref h0, .int p0, .long p1, .int p2, .int p3]) (n := 7) (Nat.le_of_ble_eq_true rfl)
  rw [lg_entry_eq]
  generalize (lg_sl ([.ref h0, .int p0, .long p1, .int p2, .int p3]) ++ List.replicate (7 - (lg_sl ([.ref h0, .int p0, .long p1, .int p2, .int p3])).length) Slot.unset).toArray = ls at hl ⊢
  have hl : lv_has ls 7 [(0, .ref h0), (1, .int p0), (2, .long p1), (4, .int p2), (5, .int p3)] := hl
  refine lv_aload_n hx hb dX9_all_0 rfl (lv_at hl 0 rfl) ?_
  refine va_get (D := (dC, dI)) (ci := 9) (v := .ref h1) (C := RX9) (T := TX9) (N := 10) hx hb hts (fun _ h => List.mem_cons_of_mem _ (List.mem_append_right _ (List.mem_append_left _ h))) hown hK hP 0 rfl rfl 3 (by decide) (hts (.fieldLink RX9 37 "NotEnded" "laws" "LNotEnded$Shelf;") (List.mem_cons_of_mem _ (List.mem_append_left _ (List.mem_of_getElem? (i := 0) rfl)))) (fun _ h9 => h9) rfl dX9_all_1 ?_
  refine lv_iload_n hx hb dX9_all_4 rfl (lv_at hl 1 rfl) ?_
  have hPc := hP.sub (ws' := [(h1, .inr (7, [u0, .int 0]))]) [1] rfl
  have hKc := hK.sub (tys' := []) [] rfl
  refine va_csq (va_runV (As := [.int p0]) (rest := []) ⟨hx, hb, hml, hown, hts⟩ (c_at7 l dC dI h1 (u0 : Value) p0) (cwV 1 hts (kG (List.forall_mem_cons.mpr ⟨(List.mem_cons_of_mem _ (List.mem_append_left _ (List.mem_of_getElem? (i := 4) rfl))), (List.forall_mem_cons.mpr ⟨(List.mem_cons_of_mem _ (List.mem_append_left _ (List.mem_of_getElem? (i := 3) rfl))), (List.forall_mem_cons.mpr ⟨(List.mem_cons_of_mem _ (List.mem_append_left _ (List.mem_of_getElem? (i := 2) rfl))), (List.forall_mem_cons.mpr ⟨(List.mem_cons_of_mem _ (List.mem_append_left _ (List.mem_of_getElem? (i := 1) rfl))), (fun _ h => absurd h List.not_mem_nil)⟩)⟩)⟩)⟩) (by decide +kernel) (fun _ h => List.mem_cons_of_mem _ (List.mem_append_right _ (List.mem_append_right _ h))) gw_c_at7) rfl rfl rfl (by decide +kernel) ⟨(Nat.le_of_ble_eq_true rfl), (Nat.le_of_ble_eq_true rfl)⟩) (kR_V kT_blind kT_give (va_recv hKc hPc (ci := 7) (q0 := 0) rfl rfl) hPc hKc) rfl rfl hl.1 rfl (lv_room (Nat.le_of_ble_eq_true rfl)) dX9_all_5 ⟨(Nat.le_of_ble_eq_true rfl), (Nat.le_of_ble_eq_true rfl)⟩).run (fun r_1 hw => ?_)
  obtain rfl : r_1 = none := hw
  refine W.eq (g2 := F0 m 8 ls [.null]) rfl ?_
  refine lv_astoreN (lv' := [(6, .null), (0, .ref h0), (1, .int p0), (2, .long p1), (4, .int p2), (5, .int p3)]) hx hb dX9_all_8 hl (by decide) rfl (fun ls hl => ?_)
  refine lv_aloadN hx hb dX9_all_10 (lv_at hl 0 rfl) ?_
  refine lv_ifnullN (tgt := 36) hx hb dX9_all_12 (by decide) ?_
  refine lv_iconst (v := (-1)) hx hb dX9_all_36 (by decide) ?_
  exact W.iret (v := (-1)) hx hb hr (fun t ht hW => ⟨(-1), rfl, rfl, ht⟩) (fun _ h => nomatch h) dX9_all_37

def w_c_without9 : List Cond := .code yX9_without cX9_without 7 (some .int) :: ([.fieldLink RX9 37 "NotEnded" "laws" "LNotEnded$Shelf;", .initialized RX7, .selects RX7 yX7_at yX7_at, .instanceMethod yX7_at, .methodLink RX9 138 yX7_at] ++ (wsX90 ++ (w_c_at7)))
theorem gw_c_without9 : (w_c_without9).all goodWord = true := by decide +kernel
set_option maxHeartbeats 4000000 in
set_option maxRecDepth 100000 in
/-- X9_without of a new object -/
theorem c_without9 (l : Launch) (dC : Nat → ClassId) (dI : Nat → Nat → Nat) (h0 : Nat) (h1 : Nat) (v0 : Value) (v1 : Value) (v2 : Value) (v4 : Value) (v5 : Value) (v6 : Value) (v7 : Value) (v8 : Value) (v9 : Value) (u0 : Value) (p0 : Int32) (p1 : Int64) (p2 : Int32) (p3 : Int32) : Met l yX9_without w_c_without9 ({ frames := 2, cells := 0, slots := 0, locals := 120 }) (kR dC dI [.ref h0, .int p0, .long p1, .int p2, .int p3] [(h0, .inr (9, [v0, v1, v2, .ref h1, v4, v5, v6, v7, v8, v9])), (h1, .inr (7, [u0, .int 0]))] [] kT) (vp_Si (fun r : Int32 => r = (-1000))) 0 0 (fun _ => False) := by
  refine Met.ofW (cc := cX9_without) (maxL := 7) (ret := (some .int)) (by decide) rfl ?_
  intro p e s m args below meth c s₁ B hml hv
  obtain ⟨rfl, hP, hK, hX⟩ := hv
  have hx := B.exec
  have hb := B.bytes
  have hr := B.returns
  have hts := atoms_spec (ws := w_c_without9) B.pre
  have hown : s.vm.findClass RX9 = some m.cls := findClass_of_methodNamed B.named
  have hlocks := B.notSynchronized
  have hP : va_P (dC, dI) vwCl [(h0, .inr (9, [v0, v1, v2, .ref h1, v4, v5, v6, v7, v8, v9])), (h1, .inr (7, [u0, .int 0]))] s.heap := hP
  have hl := lv_entry ([.ref h0, .int p0, .long p1, .int p2, .int p3]) (n := 7) (Nat.le_of_ble_eq_true rfl)
  rw [lg_entry_eq]
  generalize (lg_sl ([.ref h0, .int p0, .long p1, .int p2, .int p3]) ++ List.replicate (7 - (lg_sl ([.ref h0, .int p0, .long p1, .int p2, .int p3])).length) Slot.unset).toArray = ls at hl ⊢
  have hl : lv_has ls 7 [(0, .ref h0), (1, .int p0), (2, .long p1), (4, .int p2), (5, .int p3)] := hl
  refine lv_aload_n hx hb dX9_without_0 rfl (lv_at hl 0 rfl) ?_
  refine va_get (D := (dC, dI)) (ci := 9) (v := .ref h1) (C := RX9) (T := TX9) (N := 10) hx hb hts (fun _ h => List.mem_cons_of_mem _ (List.mem_append_right _ (List.mem_append_left _ h))) hown hK hP 0 rfl rfl 3 (by decide) (hts (.fieldLink RX9 37 "NotEnded" "laws" "LNotEnded$Shelf;") (List.mem_cons_of_mem _ (List.mem_append_left _ (List.mem_of_getElem? (i := 0) rfl)))) (fun _ h9 => h9) rfl dX9_without_1 ?_
  refine lv_iload_n hx hb dX9_without_4 rfl (lv_at hl 1 rfl) ?_
  have hPc := hP.sub (ws' := [(h1, .inr (7, [u0, .int 0]))]) [1] rfl
  have hKc := hK.sub (tys' := []) [] rfl
  refine va_csq (va_runV (As := [.int p0]) (rest := []) ⟨hx, hb, hml, hown, hts⟩ (c_at7 l dC dI h1 (u0 : Value) p0) (cwV 1 hts (kG (List.forall_mem_cons.mpr ⟨(List.mem_cons_of_mem _ (List.mem_append_left _ (List.mem_of_getElem? (i := 4) rfl))), (List.forall_mem_cons.mpr ⟨(List.mem_cons_of_mem _ (List.mem_append_left _ (List.mem_of_getElem? (i := 3) rfl))), (List.forall_mem_cons.mpr ⟨(List.mem_cons_of_mem _ (List.mem_append_left _ (List.mem_of_getElem? (i := 2) rfl))), (List.forall_mem_cons.mpr ⟨(List.mem_cons_of_mem _ (List.mem_append_left _ (List.mem_of_getElem? (i := 1) rfl))), (fun _ h => absurd h List.not_mem_nil)⟩)⟩)⟩)⟩) (by decide +kernel) (fun _ h => List.mem_cons_of_mem _ (List.mem_append_right _ (List.mem_append_right _ h))) gw_c_at7) rfl rfl rfl (by decide +kernel) ⟨(Nat.le_of_ble_eq_true rfl), (Nat.le_of_ble_eq_true rfl)⟩) (kR_V kT_blind kT_give (va_recv hKc hPc (ci := 7) (q0 := 0) rfl rfl) hPc hKc) rfl rfl hl.1 rfl (lv_room (Nat.le_of_ble_eq_true rfl)) dX9_without_5 ⟨(Nat.le_of_ble_eq_true rfl), (Nat.le_of_ble_eq_true rfl)⟩).run (fun r_1 hw => ?_)
  obtain rfl : r_1 = none := hw
  refine W.eq (g2 := F0 m 8 ls [.null]) rfl ?_
  refine lv_astoreN (lv' := [(6, .null), (0, .ref h0), (1, .int p0), (2, .long p1), (4, .int p2), (5, .int p3)]) hx hb dX9_without_8 hl (by decide) rfl (fun ls hl => ?_)
  refine lv_aloadN hx hb dX9_without_10 (lv_at hl 0 rfl) ?_
  refine lv_ifnullN (tgt := 49) hx hb dX9_without_12 (by decide) ?_
  refine lv_sipush (v := (-1000)) hx hb dX9_without_49 (by decide) ?_
  exact W.iret (v := (-1000)) hx hb hr (fun t ht hW => ⟨(-1000), rfl, rfl, ht⟩) (fun _ h => nomatch h) dX9_without_52

def w_c_did9 : List Cond := .code yX9_did cX9_did 6 (some .int) :: ([.fieldLink RX9 37 "NotEnded" "laws" "LNotEnded$Shelf;", .initialized RX7, .selects RX7 yX7_at yX7_at, .instanceMethod yX7_at, .methodLink RX9 138 yX7_at] ++ (wsX90 ++ (w_c_at7)))
theorem gw_c_did9 : (w_c_did9).all goodWord = true := by decide +kernel
set_option maxHeartbeats 4000000 in
set_option maxRecDepth 100000 in
/-- X9_did of a new object -/
theorem c_did9 (l : Launch) (dC : Nat → ClassId) (dI : Nat → Nat → Nat) (h0 : Nat) (h1 : Nat) (v0 : Value) (v1 : Value) (v2 : Value) (v4 : Value) (v5 : Value) (v6 : Value) (v7 : Value) (v8 : Value) (v9 : Value) (u0 : Value) (p0 : Int32) (p1 : Int64) (p2 : Int32) : Met l yX9_did w_c_did9 ({ frames := 2, cells := 0, slots := 0, locals := 120 }) (kR dC dI [.ref h0, .int p0, .long p1, .int p2] [(h0, .inr (9, [v0, v1, v2, .ref h1, v4, v5, v6, v7, v8, v9])), (h1, .inr (7, [u0, .int 0]))] [] kT) (vp_Si (fun r : Int32 => r = (-1000))) 0 0 (fun _ => False) := by
  refine Met.ofW (cc := cX9_did) (maxL := 6) (ret := (some .int)) (by decide) rfl ?_
  intro p e s m args below meth c s₁ B hml hv
  obtain ⟨rfl, hP, hK, hX⟩ := hv
  have hx := B.exec
  have hb := B.bytes
  have hr := B.returns
  have hts := atoms_spec (ws := w_c_did9) B.pre
  have hown : s.vm.findClass RX9 = some m.cls := findClass_of_methodNamed B.named
  have hlocks := B.notSynchronized
  have hP : va_P (dC, dI) vwCl [(h0, .inr (9, [v0, v1, v2, .ref h1, v4, v5, v6, v7, v8, v9])), (h1, .inr (7, [u0, .int 0]))] s.heap := hP
  have hl := lv_entry ([.ref h0, .int p0, .long p1, .int p2]) (n := 6) (Nat.le_of_ble_eq_true rfl)
  rw [lg_entry_eq]
  generalize (lg_sl ([.ref h0, .int p0, .long p1, .int p2]) ++ List.replicate (6 - (lg_sl ([.ref h0, .int p0, .long p1, .int p2])).length) Slot.unset).toArray = ls at hl ⊢
  have hl : lv_has ls 6 [(0, .ref h0), (1, .int p0), (2, .long p1), (4, .int p2)] := hl
  refine lv_aload_n hx hb dX9_did_0 rfl (lv_at hl 0 rfl) ?_
  refine va_get (D := (dC, dI)) (ci := 9) (v := .ref h1) (C := RX9) (T := TX9) (N := 10) hx hb hts (fun _ h => List.mem_cons_of_mem _ (List.mem_append_right _ (List.mem_append_left _ h))) hown hK hP 0 rfl rfl 3 (by decide) (hts (.fieldLink RX9 37 "NotEnded" "laws" "LNotEnded$Shelf;") (List.mem_cons_of_mem _ (List.mem_append_left _ (List.mem_of_getElem? (i := 0) rfl)))) (fun _ h9 => h9) rfl dX9_did_1 ?_
  refine lv_iload_n hx hb dX9_did_4 rfl (lv_at hl 1 rfl) ?_
  have hPc := hP.sub (ws' := [(h1, .inr (7, [u0, .int 0]))]) [1] rfl
  have hKc := hK.sub (tys' := []) [] rfl
  refine va_csq (va_runV (As := [.int p0]) (rest := []) ⟨hx, hb, hml, hown, hts⟩ (c_at7 l dC dI h1 (u0 : Value) p0) (cwV 1 hts (kG (List.forall_mem_cons.mpr ⟨(List.mem_cons_of_mem _ (List.mem_append_left _ (List.mem_of_getElem? (i := 4) rfl))), (List.forall_mem_cons.mpr ⟨(List.mem_cons_of_mem _ (List.mem_append_left _ (List.mem_of_getElem? (i := 3) rfl))), (List.forall_mem_cons.mpr ⟨(List.mem_cons_of_mem _ (List.mem_append_left _ (List.mem_of_getElem? (i := 2) rfl))), (List.forall_mem_cons.mpr ⟨(List.mem_cons_of_mem _ (List.mem_append_left _ (List.mem_of_getElem? (i := 1) rfl))), (fun _ h => absurd h List.not_mem_nil)⟩)⟩)⟩)⟩) (by decide +kernel) (fun _ h => List.mem_cons_of_mem _ (List.mem_append_right _ (List.mem_append_right _ h))) gw_c_at7) rfl rfl rfl (by decide +kernel) ⟨(Nat.le_of_ble_eq_true rfl), (Nat.le_of_ble_eq_true rfl)⟩) (kR_V kT_blind kT_give (va_recv hKc hPc (ci := 7) (q0 := 0) rfl rfl) hPc hKc) rfl rfl hl.1 rfl (lv_room (Nat.le_of_ble_eq_true rfl)) dX9_did_5 ⟨(Nat.le_of_ble_eq_true rfl), (Nat.le_of_ble_eq_true rfl)⟩).run (fun r_1 hw => ?_)
  obtain rfl : r_1 = none := hw
  refine W.eq (g2 := F0 m 8 ls [.null]) rfl ?_
  refine lv_astoreN (lv' := [(5, .null), (0, .ref h0), (1, .int p0), (2, .long p1), (4, .int p2)]) hx hb dX9_did_8 hl (by decide) rfl (fun ls hl => ?_)
  refine lv_aloadN hx hb dX9_did_10 (lv_at hl 0 rfl) ?_
  refine lv_ifnullN (tgt := 39) hx hb dX9_did_12 (by decide) ?_
  refine lv_sipush (v := (-1000)) hx hb dX9_did_39 (by decide) ?_
  exact W.iret (v := (-1000)) hx hb hr (fun t ht hW => ⟨(-1000), rfl, rfl, ht⟩) (fun _ h => nomatch h) dX9_did_42

def w_c_lean9 : List Cond := .code yX9_lean cX9_lean 8 (some .int) :: ([.fieldLink RX9 37 "NotEnded" "laws" "LNotEnded$Shelf;", .initialized RX7, .selects RX7 yX7_at yX7_at, .instanceMethod yX7_at, .methodLink RX9 138 yX7_at] ++ (wsX90 ++ (w_c_at7)))
theorem gw_c_lean9 : (w_c_lean9).all goodWord = true := by decide +kernel
set_option maxHeartbeats 4000000 in
set_option maxRecDepth 100000 in
/-- X9_lean of a new object -/
theorem c_lean9 (l : Launch) (dC : Nat → ClassId) (dI : Nat → Nat → Nat) (h0 : Nat) (h1 : Nat) (v0 : Value) (v1 : Value) (v2 : Value) (v4 : Value) (v5 : Value) (v6 : Value) (v7 : Value) (v8 : Value) (v9 : Value) (u0 : Value) (p0 : Int32) (p1 : Int64) (p2 : Int32) (p3 : Int32) : Met l yX9_lean w_c_lean9 ({ frames := 2, cells := 0, slots := 0, locals := 120 }) (kR dC dI [.ref h0, .int p0, .long p1, .int p2, .int p3] [(h0, .inr (9, [v0, v1, v2, .ref h1, v4, v5, v6, v7, v8, v9])), (h1, .inr (7, [u0, .int 0]))] [] kT) (vp_Si (fun r : Int32 => r = (-1000))) 0 0 (fun _ => False) := by
  refine Met.ofW (cc := cX9_lean) (maxL := 8) (ret := (some .int)) (by decide) rfl ?_
  intro p e s m args below meth c s₁ B hml hv
  obtain ⟨rfl, hP, hK, hX⟩ := hv
  have hx := B.exec
  have hb := B.bytes
  have hr := B.returns
  have hts := atoms_spec (ws := w_c_lean9) B.pre
  have hown : s.vm.findClass RX9 = some m.cls := findClass_of_methodNamed B.named
  have hlocks := B.notSynchronized
  have hP : va_P (dC, dI) vwCl [(h0, .inr (9, [v0, v1, v2, .ref h1, v4, v5, v6, v7, v8, v9])), (h1, .inr (7, [u0, .int 0]))] s.heap := hP
  have hl := lv_entry ([.ref h0, .int p0, .long p1, .int p2, .int p3]) (n := 8) (Nat.le_of_ble_eq_true rfl)
  rw [lg_entry_eq]
  generalize (lg_sl ([.ref h0, .int p0, .long p1, .int p2, .int p3]) ++ List.replicate (8 - (lg_sl ([.ref h0, .int p0, .long p1, .int p2, .int p3])).length) Slot.unset).toArray = ls at hl ⊢
  have hl : lv_has ls 8 [(0, .ref h0), (1, .int p0), (2, .long p1), (4, .int p2), (5, .int p3)] := hl
  refine lv_aload_n hx hb dX9_lean_0 rfl (lv_at hl 0 rfl) ?_
  refine va_get (D := (dC, dI)) (ci := 9) (v := .ref h1) (C := RX9) (T := TX9) (N := 10) hx hb hts (fun _ h => List.mem_cons_of_mem _ (List.mem_append_right _ (List.mem_append_left _ h))) hown hK hP 0 rfl rfl 3 (by decide) (hts (.fieldLink RX9 37 "NotEnded" "laws" "LNotEnded$Shelf;") (List.mem_cons_of_mem _ (List.mem_append_left _ (List.mem_of_getElem? (i := 0) rfl)))) (fun _ h9 => h9) rfl dX9_lean_1 ?_
  refine lv_iload_n hx hb dX9_lean_4 rfl (lv_at hl 1 rfl) ?_
  have hPc := hP.sub (ws' := [(h1, .inr (7, [u0, .int 0]))]) [1] rfl
  have hKc := hK.sub (tys' := []) [] rfl
  refine va_csq (va_runV (As := [.int p0]) (rest := []) ⟨hx, hb, hml, hown, hts⟩ (c_at7 l dC dI h1 (u0 : Value) p0) (cwV 1 hts (kG (List.forall_mem_cons.mpr ⟨(List.mem_cons_of_mem _ (List.mem_append_left _ (List.mem_of_getElem? (i := 4) rfl))), (List.forall_mem_cons.mpr ⟨(List.mem_cons_of_mem _ (List.mem_append_left _ (List.mem_of_getElem? (i := 3) rfl))), (List.forall_mem_cons.mpr ⟨(List.mem_cons_of_mem _ (List.mem_append_left _ (List.mem_of_getElem? (i := 2) rfl))), (List.forall_mem_cons.mpr ⟨(List.mem_cons_of_mem _ (List.mem_append_left _ (List.mem_of_getElem? (i := 1) rfl))), (fun _ h => absurd h List.not_mem_nil)⟩)⟩)⟩)⟩) (by decide +kernel) (fun _ h => List.mem_cons_of_mem _ (List.mem_append_right _ (List.mem_append_right _ h))) gw_c_at7) rfl rfl rfl (by decide +kernel) ⟨(Nat.le_of_ble_eq_true rfl), (Nat.le_of_ble_eq_true rfl)⟩) (kR_V kT_blind kT_give (va_recv hKc hPc (ci := 7) (q0 := 0) rfl rfl) hPc hKc) rfl rfl hl.1 rfl (lv_room (Nat.le_of_ble_eq_true rfl)) dX9_lean_5 ⟨(Nat.le_of_ble_eq_true rfl), (Nat.le_of_ble_eq_true rfl)⟩).run (fun r_1 hw => ?_)
  obtain rfl : r_1 = none := hw
  refine W.eq (g2 := F0 m 8 ls [.null]) rfl ?_
  refine lv_astoreN (lv' := [(6, .null), (0, .ref h0), (1, .int p0), (2, .long p1), (4, .int p2), (5, .int p3)]) hx hb dX9_lean_8 hl (by decide) rfl (fun ls hl => ?_)
  refine lv_aloadN hx hb dX9_lean_10 (lv_at hl 0 rfl) ?_
  refine lv_ifnullN (tgt := 49) hx hb dX9_lean_12 (by decide) ?_
  refine lv_sipush (v := (-1000)) hx hb dX9_lean_49 (by decide) ?_
  exact W.iret (v := (-1000)) hx hb hr (fun t ht hW => ⟨(-1000), rfl, rfl, ht⟩) (fun _ h => nomatch h) dX9_lean_52

def w_c_books9 : List Cond := .code yX9_books cX9_books 7 (some .int) :: ([.fieldLink RX9 37 "NotEnded" "laws" "LNotEnded$Shelf;", .initialized RX7, .selects RX7 yX7_at yX7_at, .instanceMethod yX7_at, .methodLink RX9 138 yX7_at] ++ (wsX90 ++ (w_c_at7)))
theorem gw_c_books9 : (w_c_books9).all goodWord = true := by decide +kernel
set_option maxHeartbeats 4000000 in
set_option maxRecDepth 100000 in
/-- X9_books of a new object -/
theorem c_books9 (l : Launch) (dC : Nat → ClassId) (dI : Nat → Nat → Nat) (h0 : Nat) (h1 : Nat) (v0 : Value) (v1 : Value) (v2 : Value) (v4 : Value) (v5 : Value) (v6 : Value) (v7 : Value) (v8 : Value) (v9 : Value) (u0 : Value) (p0 : Int32) (p1 : Int64) (p2 : Int32) : Met l yX9_books w_c_books9 ({ frames := 2, cells := 0, slots := 0, locals := 120 }) (kR dC dI [.ref h0, .int p0, .long p1, .int p2] [(h0, .inr (9, [v0, v1, v2, .ref h1, v4, v5, v6, v7, v8, v9])), (h1, .inr (7, [u0, .int 0]))] [] kT) (vp_Si (fun r : Int32 => r = (-1000))) 0 0 (fun _ => False) := by
  refine Met.ofW (cc := cX9_books) (maxL := 7) (ret := (some .int)) (by decide) rfl ?_
  intro p e s m args below meth c s₁ B hml hv
  obtain ⟨rfl, hP, hK, hX⟩ := hv
  have hx := B.exec
  have hb := B.bytes
  have hr := B.returns
  have hts := atoms_spec (ws := w_c_books9) B.pre
  have hown : s.vm.findClass RX9 = some m.cls := findClass_of_methodNamed B.named
  have hlocks := B.notSynchronized
  have hP : va_P (dC, dI) vwCl [(h0, .inr (9, [v0, v1, v2, .ref h1, v4, v5, v6, v7, v8, v9])), (h1, .inr (7, [u0, .int 0]))] s.heap := hP
  have hl := lv_entry ([.ref h0, .int p0, .long p1, .int p2]) (n := 7) (Nat.le_of_ble_eq_true rfl)
  rw [lg_entry_eq]
  generalize (lg_sl ([.ref h0, .int p0, .long p1, .int p2]) ++ List.replicate (7 - (lg_sl ([.ref h0, .int p0, .long p1, .int p2])).length) Slot.unset).toArray = ls at hl ⊢
  have hl : lv_has ls 7 [(0, .ref h0), (1, .int p0), (2, .long p1), (4, .int p2)] := hl
  refine lv_aload_n hx hb dX9_books_0 rfl (lv_at hl 0 rfl) ?_
  refine va_get (D := (dC, dI)) (ci := 9) (v := .ref h1) (C := RX9) (T := TX9) (N := 10) hx hb hts (fun _ h => List.mem_cons_of_mem _ (List.mem_append_right _ (List.mem_append_left _ h))) hown hK hP 0 rfl rfl 3 (by decide) (hts (.fieldLink RX9 37 "NotEnded" "laws" "LNotEnded$Shelf;") (List.mem_cons_of_mem _ (List.mem_append_left _ (List.mem_of_getElem? (i := 0) rfl)))) (fun _ h9 => h9) rfl dX9_books_1 ?_
  refine lv_iload_n hx hb dX9_books_4 rfl (lv_at hl 1 rfl) ?_
  have hPc := hP.sub (ws' := [(h1, .inr (7, [u0, .int 0]))]) [1] rfl
  have hKc := hK.sub (tys' := []) [] rfl
  refine va_csq (va_runV (As := [.int p0]) (rest := []) ⟨hx, hb, hml, hown, hts⟩ (c_at7 l dC dI h1 (u0 : Value) p0) (cwV 1 hts (kG (List.forall_mem_cons.mpr ⟨(List.mem_cons_of_mem _ (List.mem_append_left _ (List.mem_of_getElem? (i := 4) rfl))), (List.forall_mem_cons.mpr ⟨(List.mem_cons_of_mem _ (List.mem_append_left _ (List.mem_of_getElem? (i := 3) rfl))), (List.forall_mem_cons.mpr ⟨(List.mem_cons_of_mem _ (List.mem_append_left _ (List.mem_of_getElem? (i := 2) rfl))), (List.forall_mem_cons.mpr ⟨(List.mem_cons_of_mem _ (List.mem_append_left _ (List.mem_of_getElem? (i := 1) rfl))), (fun _ h => absurd h List.not_mem_nil)⟩)⟩)⟩)⟩) (by decide +kernel) (fun _ h => List.mem_cons_of_mem _ (List.mem_append_right _ (List.mem_append_right _ h))) gw_c_at7) rfl rfl rfl (by decide +kernel) ⟨(Nat.le_of_ble_eq_true rfl), (Nat.le_of_ble_eq_true rfl)⟩) (kR_V kT_blind kT_give (va_recv hKc hPc (ci := 7) (q0 := 0) rfl rfl) hPc hKc) rfl rfl hl.1 rfl (lv_room (Nat.le_of_ble_eq_true rfl)) dX9_books_5 ⟨(Nat.le_of_ble_eq_true rfl), (Nat.le_of_ble_eq_true rfl)⟩).run (fun r_1 hw => ?_)
  obtain rfl : r_1 = none := hw
  refine W.eq (g2 := F0 m 8 ls [.null]) rfl ?_
  refine lv_astoreN (lv' := [(5, .null), (0, .ref h0), (1, .int p0), (2, .long p1), (4, .int p2)]) hx hb dX9_books_8 hl (by decide) rfl (fun ls hl => ?_)
  refine lv_aloadN hx hb dX9_books_10 (lv_at hl 0 rfl) ?_
  refine lv_ifnullN (tgt := 25) hx hb dX9_books_12 (by decide) ?_
  refine lv_sipush (v := (-1000)) hx hb dX9_books_25 (by decide) ?_
  exact W.iret (v := (-1000)) hx hb hr (fun t ht hW => ⟨(-1000), rfl, rfl, ht⟩) (fun _ h => nomatch h) dX9_books_28

def w_c_stayed9 : List Cond := .code yX9_stayed cX9_stayed 9 (some .int) :: ([.fieldLink RX9 37 "NotEnded" "laws" "LNotEnded$Shelf;", .initialized RX7, .selects RX7 yX7_at yX7_at, .instanceMethod yX7_at, .methodLink RX9 138 yX7_at] ++ (wsX90 ++ (w_c_at7)))
theorem gw_c_stayed9 : (w_c_stayed9).all goodWord = true := by decide +kernel
set_option maxHeartbeats 4000000 in
set_option maxRecDepth 100000 in
/-- X9_stayed of a new object -/
theorem c_stayed9 (l : Launch) (dC : Nat → ClassId) (dI : Nat → Nat → Nat) (h0 : Nat) (h1 : Nat) (v0 : Value) (v1 : Value) (v2 : Value) (v4 : Value) (v5 : Value) (v6 : Value) (v7 : Value) (v8 : Value) (v9 : Value) (u0 : Value) (p0 : Int32) (p1 : Int64) (p2 : Int32) : Met l yX9_stayed w_c_stayed9 ({ frames := 2, cells := 0, slots := 0, locals := 120 }) (kR dC dI [.ref h0, .int p0, .long p1, .int p2] [(h0, .inr (9, [v0, v1, v2, .ref h1, v4, v5, v6, v7, v8, v9])), (h1, .inr (7, [u0, .int 0]))] [] kT) (vp_Si (fun r : Int32 => r = (-1))) 0 0 (fun _ => False) := by
  refine Met.ofW (cc := cX9_stayed) (maxL := 9) (ret := (some .int)) (by decide) rfl ?_
  intro p e s m args below meth c s₁ B hml hv
  obtain ⟨rfl, hP, hK, hX⟩ := hv
  have hx := B.exec
  have hb := B.bytes
  have hr := B.returns
  have hts := atoms_spec (ws := w_c_stayed9) B.pre
  have hown : s.vm.findClass RX9 = some m.cls := findClass_of_methodNamed B.named
  have hlocks := B.notSynchronized
  have hP : va_P (dC, dI) vwCl [(h0, .inr (9, [v0, v1, v2, .ref h1, v4, v5, v6, v7, v8, v9])), (h1, .inr (7, [u0, .int 0]))] s.heap := hP
  have hl := lv_entry ([.ref h0, .int p0, .long p1, .int p2]) (n := 9) (Nat.le_of_ble_eq_true rfl)
  rw [lg_entry_eq]
  generalize (lg_sl ([.ref h0, .int p0, .long p1, .int p2]) ++ List.replicate (9 - (lg_sl ([.ref h0, .int p0, .long p1, .int p2])).length) Slot.unset).toArray = ls at hl ⊢
  have hl : lv_has ls 9 [(0, .ref h0), (1, .int p0), (2, .long p1), (4, .int p2)] := hl
  refine lv_aload_n hx hb dX9_stayed_0 rfl (lv_at hl 0 rfl) ?_
  refine va_get (D := (dC, dI)) (ci := 9) (v := .ref h1) (C := RX9) (T := TX9) (N := 10) hx hb hts (fun _ h => List.mem_cons_of_mem _ (List.mem_append_right _ (List.mem_append_left _ h))) hown hK hP 0 rfl rfl 3 (by decide) (hts (.fieldLink RX9 37 "NotEnded" "laws" "LNotEnded$Shelf;") (List.mem_cons_of_mem _ (List.mem_append_left _ (List.mem_of_getElem? (i := 0) rfl)))) (fun _ h9 => h9) rfl dX9_stayed_1 ?_
  refine lv_iload_n hx hb dX9_stayed_4 rfl (lv_at hl 1 rfl) ?_
  have hPc := hP.sub (ws' := [(h1, .inr (7, [u0, .int 0]))]) [1] rfl
  have hKc := hK.sub (tys' := []) [] rfl
  refine va_csq (va_runV (As := [.int p0]) (rest := []) ⟨hx, hb, hml, hown, hts⟩ (c_at7 l dC dI h1 (u0 : Value) p0) (cwV 1 hts (kG (List.forall_mem_cons.mpr ⟨(List.mem_cons_of_mem _ (List.mem_append_left _ (List.mem_of_getElem? (i := 4) rfl))), (List.forall_mem_cons.mpr ⟨(List.mem_cons_of_mem _ (List.mem_append_left _ (List.mem_of_getElem? (i := 3) rfl))), (List.forall_mem_cons.mpr ⟨(List.mem_cons_of_mem _ (List.mem_append_left _ (List.mem_of_getElem? (i := 2) rfl))), (List.forall_mem_cons.mpr ⟨(List.mem_cons_of_mem _ (List.mem_append_left _ (List.mem_of_getElem? (i := 1) rfl))), (fun _ h => absurd h List.not_mem_nil)⟩)⟩)⟩)⟩) (by decide +kernel) (fun _ h => List.mem_cons_of_mem _ (List.mem_append_right _ (List.mem_append_right _ h))) gw_c_at7) rfl rfl rfl (by decide +kernel) ⟨(Nat.le_of_ble_eq_true rfl), (Nat.le_of_ble_eq_true rfl)⟩) (kR_V kT_blind kT_give (va_recv hKc hPc (ci := 7) (q0 := 0) rfl rfl) hPc hKc) rfl rfl hl.1 rfl (lv_room (Nat.le_of_ble_eq_true rfl)) dX9_stayed_5 ⟨(Nat.le_of_ble_eq_true rfl), (Nat.le_of_ble_eq_true rfl)⟩).run (fun r_1 hw => ?_)
  obtain rfl : r_1 = none := hw
  refine W.eq (g2 := F0 m 8 ls [.null]) rfl ?_
  refine lv_astoreN (lv' := [(5, .null), (0, .ref h0), (1, .int p0), (2, .long p1), (4, .int p2)]) hx hb dX9_stayed_8 hl (by decide) rfl (fun ls hl => ?_)
  refine lv_aloadN hx hb dX9_stayed_10 (lv_at hl 0 rfl) ?_
  refine lv_ifnullN (tgt := 23) hx hb dX9_stayed_12 (by decide) ?_
  refine lv_iconst (v := (-1)) hx hb dX9_stayed_23 (by decide) ?_
  exact W.iret (v := (-1)) hx hb hr (fun t ht hW => ⟨(-1), rfl, rfl, ht⟩) (fun _ h => nomatch h) dX9_stayed_24

def w_c_help9 : List Cond := .code yX9_help cX9_help 8 (some .int) :: ([.fieldLink RX9 37 "NotEnded" "laws" "LNotEnded$Shelf;", .initialized RX7, .selects RX7 yX7_at yX7_at, .instanceMethod yX7_at, .methodLink RX9 138 yX7_at] ++ (wsX90 ++ (w_c_at7)))
theorem gw_c_help9 : (w_c_help9).all goodWord = true := by decide +kernel
set_option maxHeartbeats 4000000 in
set_option maxRecDepth 100000 in
/-- X9_help of a new object -/
theorem c_help9 (l : Launch) (dC : Nat → ClassId) (dI : Nat → Nat → Nat) (h0 : Nat) (h1 : Nat) (v0 : Value) (v1 : Value) (v2 : Value) (v4 : Value) (v5 : Value) (v6 : Value) (v7 : Value) (v8 : Value) (v9 : Value) (u0 : Value) (p0 : Int32) (p1 : Int64) (p2 : Int32) (p3 : Int32) : Met l yX9_help w_c_help9 ({ frames := 2, cells := 0, slots := 0, locals := 120 }) (kR dC dI [.ref h0, .int p0, .long p1, .int p2, .int p3] [(h0, .inr (9, [v0, v1, v2, .ref h1, v4, v5, v6, v7, v8, v9])), (h1, .inr (7, [u0, .int 0]))] [] kT) (vp_Si (fun r : Int32 => r = (-1))) 0 0 (fun _ => False) := by
  refine Met.ofW (cc := cX9_help) (maxL := 8) (ret := (some .int)) (by decide) rfl ?_
  intro p e s m args below meth c s₁ B hml hv
  obtain ⟨rfl, hP, hK, hX⟩ := hv
  have hx := B.exec
  have hb := B.bytes
  have hr := B.returns
  have hts := atoms_spec (ws := w_c_help9) B.pre
  have hown : s.vm.findClass RX9 = some m.cls := findClass_of_methodNamed B.named
  have hlocks := B.notSynchronized
  have hP : va_P (dC, dI) vwCl [(h0, .inr (9, [v0, v1, v2, .ref h1, v4, v5, v6, v7, v8, v9])), (h1, .inr (7, [u0, .int 0]))] s.heap := hP
  have hl := lv_entry ([.ref h0, .int p0, .long p1, .int p2, .int p3]) (n := 8) (Nat.le_of_ble_eq_true rfl)
  rw [lg_entry_eq]
  generalize (lg_sl ([.ref h0, .int p0, .long p1, .int p2, .int p3]) ++ List.replicate (8 - (lg_sl ([.ref h0, .int p0, .long p1, .int p2, .int p3])).length) Slot.unset).toArray = ls at hl ⊢
  have hl : lv_has ls 8 [(0, .ref h0), (1, .int p0), (2, .long p1), (4, .int p2), (5, .int p3)] := hl
  refine lv_aload_n hx hb dX9_help_0 rfl (lv_at hl 0 rfl) ?_
  refine va_get (D := (dC, dI)) (ci := 9) (v := .ref h1) (C := RX9) (T := TX9) (N := 10) hx hb hts (fun _ h => List.mem_cons_of_mem _ (List.mem_append_right _ (List.mem_append_left _ h))) hown hK hP 0 rfl rfl 3 (by decide) (hts (.fieldLink RX9 37 "NotEnded" "laws" "LNotEnded$Shelf;") (List.mem_cons_of_mem _ (List.mem_append_left _ (List.mem_of_getElem? (i := 0) rfl)))) (fun _ h9 => h9) rfl dX9_help_1 ?_
  refine lv_iload_n hx hb dX9_help_4 rfl (lv_at hl 1 rfl) ?_
  have hPc := hP.sub (ws' := [(h1, .inr (7, [u0, .int 0]))]) [1] rfl
  have hKc := hK.sub (tys' := []) [] rfl
  refine va_csq (va_runV (As := [.int p0]) (rest := []) ⟨hx, hb, hml, hown, hts⟩ (c_at7 l dC dI h1 (u0 : Value) p0) (cwV 1 hts (kG (List.forall_mem_cons.mpr ⟨(List.mem_cons_of_mem _ (List.mem_append_left _ (List.mem_of_getElem? (i := 4) rfl))), (List.forall_mem_cons.mpr ⟨(List.mem_cons_of_mem _ (List.mem_append_left _ (List.mem_of_getElem? (i := 3) rfl))), (List.forall_mem_cons.mpr ⟨(List.mem_cons_of_mem _ (List.mem_append_left _ (List.mem_of_getElem? (i := 2) rfl))), (List.forall_mem_cons.mpr ⟨(List.mem_cons_of_mem _ (List.mem_append_left _ (List.mem_of_getElem? (i := 1) rfl))), (fun _ h => absurd h List.not_mem_nil)⟩)⟩)⟩)⟩) (by decide +kernel) (fun _ h => List.mem_cons_of_mem _ (List.mem_append_right _ (List.mem_append_right _ h))) gw_c_at7) rfl rfl rfl (by decide +kernel) ⟨(Nat.le_of_ble_eq_true rfl), (Nat.le_of_ble_eq_true rfl)⟩) (kR_V kT_blind kT_give (va_recv hKc hPc (ci := 7) (q0 := 0) rfl rfl) hPc hKc) rfl rfl hl.1 rfl (lv_room (Nat.le_of_ble_eq_true rfl)) dX9_help_5 ⟨(Nat.le_of_ble_eq_true rfl), (Nat.le_of_ble_eq_true rfl)⟩).run (fun r_1 hw => ?_)
  obtain rfl : r_1 = none := hw
  refine W.eq (g2 := F0 m 8 ls [.null]) rfl ?_
  refine lv_astoreN (lv' := [(6, .null), (0, .ref h0), (1, .int p0), (2, .long p1), (4, .int p2), (5, .int p3)]) hx hb dX9_help_8 hl (by decide) rfl (fun ls hl => ?_)
  refine lv_aloadN hx hb dX9_help_10 (lv_at hl 0 rfl) ?_
  refine lv_ifnullN (tgt := 37) hx hb dX9_help_12 (by decide) ?_
  refine lv_iconst (v := (-1)) hx hb dX9_help_37 (by decide) ?_
  exact W.iret (v := (-1)) hx hb hr (fun t ht hW => ⟨(-1), rfl, rfl, ht⟩) (fun _ h => nomatch h) dX9_help_38

def w_c_lookers9 : List Cond := .code yX9_lookers cX9_lookers 9 (some .int) :: ([.fieldLink RX9 37 "NotEnded" "laws" "LNotEnded$Shelf;", .initialized RX7, .selects RX7 yX7_at yX7_at, .instanceMethod yX7_at, .methodLink RX9 138 yX7_at] ++ (wsX90 ++ (w_c_at7)))
theorem gw_c_lookers9 : (w_c_lookers9).all goodWord = true := by decide +kernel
set_option maxHeartbeats 4000000 in
set_option maxRecDepth 100000 in
/-- X9_lookers of a new object -/
theorem c_lookers9 (l : Launch) (dC : Nat → ClassId) (dI : Nat → Nat → Nat) (h0 : Nat) (h1 : Nat) (v0 : Value) (v1 : Value) (v2 : Value) (v4 : Value) (v5 : Value) (v6 : Value) (v7 : Value) (v8 : Value) (v9 : Value) (u0 : Value) (p0 : Int32) (p1 : Int64) : Met l yX9_lookers w_c_lookers9 ({ frames := 2, cells := 0, slots := 0, locals := 120 }) (kR dC dI [.ref h0, .int p0, .long p1] [(h0, .inr (9, [v0, v1, v2, .ref h1, v4, v5, v6, v7, v8, v9])), (h1, .inr (7, [u0, .int 0]))] [] kT) (vp_Si (fun r : Int32 => r = (-1))) 0 0 (fun _ => False) := by
  refine Met.ofW (cc := cX9_lookers) (maxL := 9) (ret := (some .int)) (by decide) rfl ?_
  intro p e s m args below meth c s₁ B hml hv
  obtain ⟨rfl, hP, hK, hX⟩ := hv
  have hx := B.exec
  have hb := B.bytes
  have hr := B.returns
  have hts := atoms_spec (ws := w_c_lookers9) B.pre
  have hown : s.vm.findClass RX9 = some m.cls := findClass_of_methodNamed B.named
  have hlocks := B.notSynchronized
  have hP : va_P (dC, dI) vwCl [(h0, .inr (9, [v0, v1, v2, .ref h1, v4, v5, v6, v7, v8, v9])), (h1, .inr (7, [u0, .int 0]))] s.heap := hP
  have hl := lv_entry ([.ref h0, .int p0, .long p1]) (n := 9) (Nat.le_of_ble_eq_true rfl)
  rw [lg_entry_eq]
  generalize (lg_sl ([.ref h0, .int p0, .long p1]) ++ List.replicate (9 - (lg_sl ([.ref h0, .int p0, .long p1])).length) Slot.unset).toArray = ls at hl ⊢
  have hl : lv_has ls 9 [(0, .ref h0), (1, .int p0), (2, .long p1)] := hl
  refine lv_aload_n hx hb dX9_lookers_0 rfl (lv_at hl 0 rfl) ?_
  refine va_get (D := (dC, dI)) (ci := 9) (v := .ref h1) (C := RX9) (T := TX9) (N := 10) hx hb hts (fun _ h => List.mem_cons_of_mem _ (List.mem_append_right _ (List.mem_append_left _ h))) hown hK hP 0 rfl rfl 3 (by decide) (hts (.fieldLink RX9 37 "NotEnded" "laws" "LNotEnded$Shelf;") (List.mem_cons_of_mem _ (List.mem_append_left _ (List.mem_of_getElem? (i := 0) rfl)))) (fun _ h9 => h9) rfl dX9_lookers_1 ?_
  refine lv_iload_n hx hb dX9_lookers_4 rfl (lv_at hl 1 rfl) ?_
  have hPc := hP.sub (ws' := [(h1, .inr (7, [u0, .int 0]))]) [1] rfl
  have hKc := hK.sub (tys' := []) [] rfl
  refine va_csq (va_runV (As := [.int p0]) (rest := []) ⟨hx, hb, hml, hown, hts⟩ (c_at7 l dC dI h1 (u0 : Value) p0) (cwV 1 hts (kG (List.forall_mem_cons.mpr ⟨(List.mem_cons_of_mem _ (List.mem_append_left _ (List.mem_of_getElem? (i := 4) rfl))), (List.forall_mem_cons.mpr ⟨(List.mem_cons_of_mem _ (List.mem_append_left _ (List.mem_of_getElem? (i := 3) rfl))), (List.forall_mem_cons.mpr ⟨(List.mem_cons_of_mem _ (List.mem_append_left _ (List.mem_of_getElem? (i := 2) rfl))), (List.forall_mem_cons.mpr ⟨(List.mem_cons_of_mem _ (List.mem_append_left _ (List.mem_of_getElem? (i := 1) rfl))), (fun _ h => absurd h List.not_mem_nil)⟩)⟩)⟩)⟩) (by decide +kernel) (fun _ h => List.mem_cons_of_mem _ (List.mem_append_right _ (List.mem_append_right _ h))) gw_c_at7) rfl rfl rfl (by decide +kernel) ⟨(Nat.le_of_ble_eq_true rfl), (Nat.le_of_ble_eq_true rfl)⟩) (kR_V kT_blind kT_give (va_recv hKc hPc (ci := 7) (q0 := 0) rfl rfl) hPc hKc) rfl rfl hl.1 rfl (lv_room (Nat.le_of_ble_eq_true rfl)) dX9_lookers_5 ⟨(Nat.le_of_ble_eq_true rfl), (Nat.le_of_ble_eq_true rfl)⟩).run (fun r_1 hw => ?_)
  obtain rfl : r_1 = none := hw
  refine W.eq (g2 := F0 m 8 ls [.null]) rfl ?_
  refine lv_astoreN (lv' := [(4, .null), (0, .ref h0), (1, .int p0), (2, .long p1)]) hx hb dX9_lookers_8 hl (by decide) rfl (fun ls hl => ?_)
  refine lv_aloadN hx hb dX9_lookers_10 (lv_at hl 0 rfl) ?_
  refine lv_ifnonnullN hx hb dX9_lookers_12 ?_
  refine lv_iconst (v := (-1)) hx hb dX9_lookers_15 (by decide) ?_
  exact W.iret (v := (-1)) hx hb hr (fun t ht hW => ⟨(-1), rfl, rfl, ht⟩) (fun _ h => nomatch h) dX9_lookers_16

def w_c_odds9 : List Cond := .code yX9_odds cX9_odds 7 (some .long) :: ([.fieldLink RX9 37 "NotEnded" "laws" "LNotEnded$Shelf;", .initialized RX7, .selects RX7 yX7_at yX7_at, .instanceMethod yX7_at, .methodLink RX9 138 yX7_at, .constantLong RX9 217 (-1)] ++ (wsX90 ++ (w_c_at7)))
theorem gw_c_odds9 : (w_c_odds9).all goodWord = true := by decide +kernel
set_option maxHeartbeats 4000000 in
set_option maxRecDepth 100000 in
/-- X9_odds of a new object -/
theorem c_odds9 (l : Launch) (dC : Nat → ClassId) (dI : Nat → Nat → Nat) (h0 : Nat) (h1 : Nat) (v0 : Value) (v1 : Value) (v2 : Value) (v4 : Value) (v5 : Value) (v6 : Value) (v7 : Value) (v8 : Value) (v9 : Value) (u0 : Value) (p0 : Int32) (p1 : Int64) (p2 : Int32) (p3 : Int32) : Met l yX9_odds w_c_odds9 ({ frames := 2, cells := 0, slots := 0, locals := 120 }) (kR dC dI [.ref h0, .int p0, .long p1, .int p2, .int p3] [(h0, .inr (9, [v0, v1, v2, .ref h1, v4, v5, v6, v7, v8, v9])), (h1, .inr (7, [u0, .int 0]))] [] kT) (vp_Sl (fun r : Int64 => r = (-1))) 0 0 (fun _ => False) := by
  refine Met.ofW (cc := cX9_odds) (maxL := 7) (ret := (some .long)) (by decide) rfl ?_
  intro p e s m args below meth c s₁ B hml hv
  obtain ⟨rfl, hP, hK, hX⟩ := hv
  have hx := B.exec
  have hb := B.bytes
  have hr := B.returns
  have hts := atoms_spec (ws := w_c_odds9) B.pre
  have hown : s.vm.findClass RX9 = some m.cls := findClass_of_methodNamed B.named
  have hlocks := B.notSynchronized
  have hP : va_P (dC, dI) vwCl [(h0, .inr (9, [v0, v1, v2, .ref h1, v4, v5, v6, v7, v8, v9])), (h1, .inr (7, [u0, .int 0]))] s.heap := hP
  have hl := lv_entry ([.ref h0, .int p0, .long p1, .int p2, .int p3]) (n := 7) (Nat.le_of_ble_eq_true rfl)
  rw [lg_entry_eq]
  generalize (lg_sl ([.ref h0, .int p0, .long p1, .int p2, .int p3]) ++ List.replicate (7 - (lg_sl ([.ref h0, .int p0, .long p1, .int p2, .int p3])).length) Slot.unset).toArray = ls at hl ⊢
  have hl : lv_has ls 7 [(0, .ref h0), (1, .int p0), (2, .long p1), (4, .int p2), (5, .int p3)] := hl
  refine lv_aload_n hx hb dX9_odds_0 rfl (lv_at hl 0 rfl) ?_
  refine va_get (D := (dC, dI)) (ci := 9) (v := .ref h1) (C := RX9) (T := TX9) (N := 10) hx hb hts (fun _ h => List.mem_cons_of_mem _ (List.mem_append_right _ (List.mem_append_left _ h))) hown hK hP 0 rfl rfl 3 (by decide) (hts (.fieldLink RX9 37 "NotEnded" "laws" "LNotEnded$Shelf;") (List.mem_cons_of_mem _ (List.mem_append_left _ (List.mem_of_getElem? (i := 0) rfl)))) (fun _ h9 => h9) rfl dX9_odds_1 ?_
  refine lv_iload_n hx hb dX9_odds_4 rfl (lv_at hl 1 rfl) ?_
  have hPc := hP.sub (ws' := [(h1, .inr (7, [u0, .int 0]))]) [1] rfl
  have hKc := hK.sub (tys' := []) [] rfl
  refine va_csq (va_runV (As := [.int p0]) (rest := []) ⟨hx, hb, hml, hown, hts⟩ (c_at7 l dC dI h1 (u0 : Value) p0) (cwV 1 hts (kG (List.forall_mem_cons.mpr ⟨(List.mem_cons_of_mem _ (List.mem_append_left _ (List.mem_of_getElem? (i := 4) rfl))), (List.forall_mem_cons.mpr ⟨(List.mem_cons_of_mem _ (List.mem_append_left _ (List.mem_of_getElem? (i := 3) rfl))), (List.forall_mem_cons.mpr ⟨(List.mem_cons_of_mem _ (List.mem_append_left _ (List.mem_of_getElem? (i := 2) rfl))), (List.forall_mem_cons.mpr ⟨(List.mem_cons_of_mem _ (List.mem_append_left _ (List.mem_of_getElem? (i := 1) rfl))), (fun _ h => absurd h List.not_mem_nil)⟩)⟩)⟩)⟩) (by decide +kernel) (fun _ h => List.mem_cons_of_mem _ (List.mem_append_right _ (List.mem_append_right _ h))) gw_c_at7) rfl rfl rfl (by decide +kernel) ⟨(Nat.le_of_ble_eq_true rfl), (Nat.le_of_ble_eq_true rfl)⟩) (kR_V kT_blind kT_give (va_recv hKc hPc (ci := 7) (q0 := 0) rfl rfl) hPc hKc) rfl rfl hl.1 rfl (lv_room (Nat.le_of_ble_eq_true rfl)) dX9_odds_5 ⟨(Nat.le_of_ble_eq_true rfl), (Nat.le_of_ble_eq_true rfl)⟩).run (fun r_1 hw => ?_)
  obtain rfl : r_1 = none := hw
  refine W.eq (g2 := F0 m 8 ls [.null]) rfl ?_
  refine lv_astoreN (lv' := [(6, .null), (0, .ref h0), (1, .int p0), (2, .long p1), (4, .int p2), (5, .int p3)]) hx hb dX9_odds_8 hl (by decide) rfl (fun ls hl => ?_)
  refine lv_aloadN hx hb dX9_odds_10 (lv_at hl 0 rfl) ?_
  refine lv_ifnullN (tgt := 37) hx hb dX9_odds_12 (by decide) ?_
  refine lv_ldc2 (v := (-1)) hx hb hown (hts (.constantLong RX9 217 (-1)) (List.mem_cons_of_mem _ (List.mem_append_left _ (List.mem_of_getElem? (i := 5) rfl)))) dX9_odds_37 ?_
  exact W.lret (v := (-1)) hx hb hr (fun t ht hW => ⟨(-1), rfl, rfl, ht⟩) (fun _ h => nomatch h) dX9_odds_40

def w_c_lets9 : List Cond := .code yX9_lets cX9_lets 4 (some .int) :: ([.fieldLink RX9 41 "NotEnded" "turnings" "LNotEnded$Shelf;", .initialized RX7, .selects RX7 yX7_at yX7_at, .instanceMethod yX7_at, .methodLink RX9 138 yX7_at] ++ (wsX90 ++ (w_c_at7)))
theorem gw_c_lets9 : (w_c_lets9).all goodWord = true := by decide +kernel
set_option maxHeartbeats 4000000 in
set_option maxRecDepth 100000 in
/-- X9_lets of a new object -/
theorem c_lets9 (l : Launch) (dC : Nat → ClassId) (dI : Nat → Nat → Nat) (h0 : Nat) (h1 : Nat) (v0 : Value) (v1 : Value) (v2 : Value) (v3 : Value) (v5 : Value) (v6 : Value) (v7 : Value) (v8 : Value) (v9 : Value) (u0 : Value) (p0 : Int32) (p1 : Int32) : Met l yX9_lets w_c_lets9 ({ frames := 2, cells := 0, slots := 0, locals := 120 }) (kR dC dI [.ref h0, .int p0, .int p1] [(h0, .inr (9, [v0, v1, v2, v3, .ref h1, v5, v6, v7, v8, v9])), (h1, .inr (7, [u0, .int 0]))] [] kT) (vp_Si (fun r : Int32 => r = (-1))) 0 0 (fun _ => False) := by
  refine Met.ofW (cc := cX9_lets) (maxL := 4) (ret := (some .int)) (by decide) rfl ?_
  intro p e s m args below meth c s₁ B hml hv
  obtain ⟨rfl, hP, hK, hX⟩ := hv
  have hx := B.exec
  have hb := B.bytes
  have hr := B.returns
  have hts := atoms_spec (ws := w_c_lets9) B.pre
  have hown : s.vm.findClass RX9 = some m.cls := findClass_of_methodNamed B.named
  have hlocks := B.notSynchronized
  have hP : va_P (dC, dI) vwCl [(h0, .inr (9, [v0, v1, v2, v3, .ref h1, v5, v6, v7, v8, v9])), (h1, .inr (7, [u0, .int 0]))] s.heap := hP
  have hl := lv_entry ([.ref h0, .int p0, .int p1]) (n := 4) (Nat.le_of_ble_eq_true rfl)
  rw [lg_entry_eq]
  generalize (lg_sl ([.ref h0, .int p0, .int p1]) ++ List.replicate (4 - (lg_sl ([.ref h0, .int p0, .int p1])).length) Slot.unset).toArray = ls at hl ⊢
  have hl : lv_has ls 4 [(0, .ref h0), (1, .int p0), (2, .int p1)] := hl
  refine lv_aload_n hx hb dX9_lets_0 rfl (lv_at hl 0 rfl) ?_
  refine va_get (D := (dC, dI)) (ci := 9) (v := .ref h1) (C := RX9) (T := TX9) (N := 10) hx hb hts (fun _ h => List.mem_cons_of_mem _ (List.mem_append_right _ (List.mem_append_left _ h))) hown hK hP 0 rfl rfl 4 (by decide) (hts (.fieldLink RX9 41 "NotEnded" "turnings" "LNotEnded$Shelf;") (List.mem_cons_of_mem _ (List.mem_append_left _ (List.mem_of_getElem? (i := 0) rfl)))) (fun _ h9 => h9) rfl dX9_lets_1 ?_
  refine lv_iload_n hx hb dX9_lets_4 rfl (lv_at hl 1 rfl) ?_
  have hPc := hP.sub (ws' := [(h1, .inr (7, [u0, .int 0]))]) [1] rfl
  have hKc := hK.sub (tys' := []) [] rfl
  refine va_csq (va_runV (As := [.int p0]) (rest := []) ⟨hx, hb, hml, hown, hts⟩ (c_at7 l dC dI h1 (u0 : Value) p0) (cwV 1 hts (kG (List.forall_mem_cons.mpr ⟨(List.mem_cons_of_mem _ (List.mem_append_left _ (List.mem_of_getElem? (i := 4) rfl))), (List.forall_mem_cons.mpr ⟨(List.mem_cons_of_mem _ (List.mem_append_left _ (List.mem_of_getElem? (i := 3) rfl))), (List.forall_mem_cons.mpr ⟨(List.mem_cons_of_mem _ (List.mem_append_left _ (List.mem_of_getElem? (i := 2) rfl))), (List.forall_mem_cons.mpr ⟨(List.mem_cons_of_mem _ (List.mem_append_left _ (List.mem_of_getElem? (i := 1) rfl))), (fun _ h => absurd h List.not_mem_nil)⟩)⟩)⟩)⟩) (by decide +kernel) (fun _ h => List.mem_cons_of_mem _ (List.mem_append_right _ (List.mem_append_right _ h))) gw_c_at7) rfl rfl rfl (by decide +kernel) ⟨(Nat.le_of_ble_eq_true rfl), (Nat.le_of_ble_eq_true rfl)⟩) (kR_V kT_blind kT_give (va_recv hKc hPc (ci := 7) (q0 := 0) rfl rfl) hPc hKc) rfl rfl hl.1 rfl (lv_room (Nat.le_of_ble_eq_true rfl)) dX9_lets_5 ⟨(Nat.le_of_ble_eq_true rfl), (Nat.le_of_ble_eq_true rfl)⟩).run (fun r_1 hw => ?_)
  obtain rfl : r_1 = none := hw
  refine W.eq (g2 := F0 m 8 ls [.null]) rfl ?_
  refine lv_astore_nN (lv' := [(3, .null), (0, .ref h0), (1, .int p0), (2, .int p1)]) hx hb dX9_lets_8 rfl hl (by decide) rfl (fun ls hl => ?_)
  refine lv_aload_nN hx hb dX9_lets_9 rfl (lv_at hl 0 rfl) ?_
  refine lv_ifnullN (tgt := 20) hx hb dX9_lets_10 (by decide) ?_
  refine lv_iconst (v := (-1)) hx hb dX9_lets_20 (by decide) ?_
  exact W.iret (v := (-1)) hx hb hr (fun t ht hW => ⟨(-1), rfl, rfl, ht⟩) (fun _ h => nomatch h) dX9_lets_21

def w_c_bars9 : List Cond := .code yX9_bars cX9_bars 3 (some .int) :: ([.fieldLink RX9 41 "NotEnded" "turnings" "LNotEnded$Shelf;", .initialized RX7, .selects RX7 yX7_at yX7_at, .instanceMethod yX7_at, .methodLink RX9 138 yX7_at] ++ (wsX90 ++ (w_c_at7)))
theorem gw_c_bars9 : (w_c_bars9).all goodWord = true := by decide +kernel
set_option maxHeartbeats 4000000 in
set_option maxRecDepth 100000 in
/-- X9_bars of a new object -/
theorem c_bars9 (l : Launch) (dC : Nat → ClassId) (dI : Nat → Nat → Nat) (h0 : Nat) (h1 : Nat) (v0 : Value) (v1 : Value) (v2 : Value) (v3 : Value) (v5 : Value) (v6 : Value) (v7 : Value) (v8 : Value) (v9 : Value) (u0 : Value) (p0 : Int32) : Met l yX9_bars w_c_bars9 ({ frames := 2, cells := 0, slots := 0, locals := 120 }) (kR dC dI [.ref h0, .int p0] [(h0, .inr (9, [v0, v1, v2, v3, .ref h1, v5, v6, v7, v8, v9])), (h1, .inr (7, [u0, .int 0]))] [] kT) (vp_Si (fun r : Int32 => r = (-1))) 0 0 (fun _ => False) := by
  refine Met.ofW (cc := cX9_bars) (maxL := 3) (ret := (some .int)) (by decide) rfl ?_
  intro p e s m args below meth c s₁ B hml hv
  obtain ⟨rfl, hP, hK, hX⟩ := hv
  have hx := B.exec
  have hb := B.bytes
  have hr := B.returns
  have hts := atoms_spec (ws := w_c_bars9) B.pre
  have hown : s.vm.findClass RX9 = some m.cls := findClass_of_methodNamed B.named
  have hlocks := B.notSynchronized
  have hP : va_P (dC, dI) vwCl [(h0, .inr (9, [v0, v1, v2, v3, .ref h1, v5, v6, v7, v8, v9])), (h1, .inr (7, [u0, .int 0]))] s.heap := hP
  have hl := lv_entry ([.ref h0, .int p0]) (n := 3) (Nat.le_of_ble_eq_true rfl)
  rw [lg_entry_eq]
  generalize (lg_sl ([.ref h0, .int p0]) ++ List.replicate (3 - (lg_sl ([.ref h0, .int p0])).length) Slot.unset).toArray = ls at hl ⊢
  have hl : lv_has ls 3 [(0, .ref h0), (1, .int p0)] := hl
  refine lv_aload_n hx hb dX9_bars_0 rfl (lv_at hl 0 rfl) ?_
  refine va_get (D := (dC, dI)) (ci := 9) (v := .ref h1) (C := RX9) (T := TX9) (N := 10) hx hb hts (fun _ h => List.mem_cons_of_mem _ (List.mem_append_right _ (List.mem_append_left _ h))) hown hK hP 0 rfl rfl 4 (by decide) (hts (.fieldLink RX9 41 "NotEnded" "turnings" "LNotEnded$Shelf;") (List.mem_cons_of_mem _ (List.mem_append_left _ (List.mem_of_getElem? (i := 0) rfl)))) (fun _ h9 => h9) rfl dX9_bars_1 ?_
  refine lv_iload_n hx hb dX9_bars_4 rfl (lv_at hl 1 rfl) ?_
  have hPc := hP.sub (ws' := [(h1, .inr (7, [u0, .int 0]))]) [1] rfl
  have hKc := hK.sub (tys' := []) [] rfl
  refine va_csq (va_runV (As := [.int p0]) (rest := []) ⟨hx, hb, hml, hown, hts⟩ (c_at7 l dC dI h1 (u0 : Value) p0) (cwV 1 hts (kG (List.forall_mem_cons.mpr ⟨(List.mem_cons_of_mem _ (List.mem_append_left _ (List.mem_of_getElem? (i := 4) rfl))), (List.forall_mem_cons.mpr ⟨(List.mem_cons_of_mem _ (List.mem_append_left _ (List.mem_of_getElem? (i := 3) rfl))), (List.forall_mem_cons.mpr ⟨(List.mem_cons_of_mem _ (List.mem_append_left _ (List.mem_of_getElem? (i := 2) rfl))), (List.forall_mem_cons.mpr ⟨(List.mem_cons_of_mem _ (List.mem_append_left _ (List.mem_of_getElem? (i := 1) rfl))), (fun _ h => absurd h List.not_mem_nil)⟩)⟩)⟩)⟩) (by decide +kernel) (fun _ h => List.mem_cons_of_mem _ (List.mem_append_right _ (List.mem_append_right _ h))) gw_c_at7) rfl rfl rfl (by decide +kernel) ⟨(Nat.le_of_ble_eq_true rfl), (Nat.le_of_ble_eq_true rfl)⟩) (kR_V kT_blind kT_give (va_recv hKc hPc (ci := 7) (q0 := 0) rfl rfl) hPc hKc) rfl rfl hl.1 rfl (lv_room (Nat.le_of_ble_eq_true rfl)) dX9_bars_5 ⟨(Nat.le_of_ble_eq_true rfl), (Nat.le_of_ble_eq_true rfl)⟩).run (fun r_1 hw => ?_)
  obtain rfl : r_1 = none := hw
  refine W.eq (g2 := F0 m 8 ls [.null]) rfl ?_
  refine lv_astore_nN (lv' := [(2, .null), (0, .ref h0), (1, .int p0)]) hx hb dX9_bars_8 rfl hl (by decide) rfl (fun ls hl => ?_)
  refine lv_aload_nN hx hb dX9_bars_9 rfl (lv_at hl 0 rfl) ?_
  refine lv_ifnonnullN hx hb dX9_bars_10 ?_
  refine lv_iconst (v := (-1)) hx hb dX9_bars_13 (by decide) ?_
  refine lv_goto (tgt := 25) hx hb dX9_bars_14 (by decide) ?_
  exact W.iret (v := (-1)) hx hb hr (fun t ht hW => ⟨(-1), rfl, rfl, ht⟩) (fun _ h => nomatch h) dX9_bars_25

def w_c_bolder9 : List Cond := .code yX9_bolder cX9_bolder 7 (some .int) :: ([.fieldLink RX9 41 "NotEnded" "turnings" "LNotEnded$Shelf;", .initialized RX7, .selects RX7 yX7_at yX7_at, .instanceMethod yX7_at, .methodLink RX9 138 yX7_at] ++ (wsX90 ++ (w_c_at7)))
theorem gw_c_bolder9 : (w_c_bolder9).all goodWord = true := by decide +kernel
set_option maxHeartbeats 4000000 in
set_option maxRecDepth 100000 in
/-- X9_bolder of a new object -/
theorem c_bolder9 (l : Launch) (dC : Nat → ClassId) (dI : Nat → Nat → Nat) (h0 : Nat) (h1 : Nat) (v0 : Value) (v1 : Value) (v2 : Value) (v3 : Value) (v5 : Value) (v6 : Value) (v7 : Value) (v8 : Value) (v9 : Value) (u0 : Value) (p0 : Int32) (p1 : Int32) : Met l yX9_bolder w_c_bolder9 ({ frames := 2, cells := 0, slots := 0, locals := 120 }) (kR dC dI [.ref h0, .int p0, .int p1] [(h0, .inr (9, [v0, v1, v2, v3, .ref h1, v5, v6, v7, v8, v9])), (h1, .inr (7, [u0, .int 0]))] [] kT) (vp_Si (fun r : Int32 => r = (-1))) 0 0 (fun _ => False) := by
  refine Met.ofW (cc := cX9_bolder) (maxL := 7) (ret := (some .int)) (by decide) rfl ?_
  intro p e s m args below meth c s₁ B hml hv
  obtain ⟨rfl, hP, hK, hX⟩ := hv
  have hx := B.exec
  have hb := B.bytes
  have hr := B.returns
  have hts := atoms_spec (ws := w_c_bolder9) B.pre
  have hown : s.vm.findClass RX9 = some m.cls := findClass_of_methodNamed B.named
  have hlocks := B.notSynchronized
  have hP : va_P (dC, dI) vwCl [(h0, .inr (9, [v0, v1, v2, v3, .ref h1, v5, v6, v7, v8, v9])), (h1, .inr (7, [u0, .int 0]))] s.heap := hP
  have hl := lv_entry ([.ref h0, .int p0, .int p1]) (n := 7) (Nat.le_of_ble_eq_true rfl)
  rw [lg_entry_eq]
  generalize (lg_sl ([.ref h0, .int p0, .int p1]) ++ List.replicate (7 - (lg_sl ([.ref h0, .int p0, .int p1])).length) Slot.unset).toArray = ls at hl ⊢
  have hl : lv_has ls 7 [(0, .ref h0), (1, .int p0), (2, .int p1)] := hl
  refine lv_aload_n hx hb dX9_bolder_0 rfl (lv_at hl 0 rfl) ?_
  refine va_get (D := (dC, dI)) (ci := 9) (v := .ref h1) (C := RX9) (T := TX9) (N := 10) hx hb hts (fun _ h => List.mem_cons_of_mem _ (List.mem_append_right _ (List.mem_append_left _ h))) hown hK hP 0 rfl rfl 4 (by decide) (hts (.fieldLink RX9 41 "NotEnded" "turnings" "LNotEnded$Shelf;") (List.mem_cons_of_mem _ (List.mem_append_left _ (List.mem_of_getElem? (i := 0) rfl)))) (fun _ h9 => h9) rfl dX9_bolder_1 ?_
  refine lv_iload_n hx hb dX9_bolder_4 rfl (lv_at hl 1 rfl) ?_
  have hPc := hP.sub (ws' := [(h1, .inr (7, [u0, .int 0]))]) [1] rfl
  have hKc := hK.sub (tys' := []) [] rfl
  refine va_csq (va_runV (As := [.int p0]) (rest := []) ⟨hx, hb, hml, hown, hts⟩ (c_at7 l dC dI h1 (u0 : Value) p0) (cwV 1 hts (kG (List.forall_mem_cons.mpr ⟨(List.mem_cons_of_mem _ (List.mem_append_left _ (List.mem_of_getElem? (i := 4) rfl))), (List.forall_mem_cons.mpr ⟨(List.mem_cons_of_mem _ (List.mem_append_left _ (List.mem_of_getElem? (i := 3) rfl))), (List.forall_mem_cons.mpr ⟨(List.mem_cons_of_mem _ (List.mem_append_left _ (List.mem_of_getElem? (i := 2) rfl))), (List.forall_mem_cons.mpr ⟨(List.mem_cons_of_mem _ (List.mem_append_left _ (List.mem_of_getElem? (i := 1) rfl))), (fun _ h => absurd h List.not_mem_nil)⟩)⟩)⟩)⟩) (by decide +kernel) (fun _ h => List.mem_cons_of_mem _ (List.mem_append_right _ (List.mem_append_right _ h))) gw_c_at7) rfl rfl rfl (by decide +kernel) ⟨(Nat.le_of_ble_eq_true rfl), (Nat.le_of_ble_eq_true rfl)⟩) (kR_V kT_blind kT_give (va_recv hKc hPc (ci := 7) (q0 := 0) rfl rfl) hPc hKc) rfl rfl hl.1 rfl (lv_room (Nat.le_of_ble_eq_true rfl)) dX9_bolder_5 ⟨(Nat.le_of_ble_eq_true rfl), (Nat.le_of_ble_eq_true rfl)⟩).run (fun r_1 hw => ?_)
  obtain rfl : r_1 = none := hw
  refine W.eq (g2 := F0 m 8 ls [.null]) rfl ?_
  refine lv_astore_nN (lv' := [(3, .null), (0, .ref h0), (1, .int p0), (2, .int p1)]) hx hb dX9_bolder_8 rfl hl (by decide) rfl (fun ls hl => ?_)
  refine lv_aload_n hx hb dX9_bolder_9 rfl (lv_at hl 1 rfl) ?_
  refine va_get (D := (dC, dI)) (ci := 9) (v := .ref h1) (C := RX9) (T := TX9) (N := 10) hx hb hts (fun _ h => List.mem_cons_of_mem _ (List.mem_append_right _ (List.mem_append_left _ h))) hown hK hP 0 rfl rfl 4 (by decide) (hts (.fieldLink RX9 41 "NotEnded" "turnings" "LNotEnded$Shelf;") (List.mem_cons_of_mem _ (List.mem_append_left _ (List.mem_of_getElem? (i := 0) rfl)))) (fun _ h9 => h9) rfl dX9_bolder_10 ?_
  refine lv_iload_n hx hb dX9_bolder_13 rfl (lv_at hl 3 rfl) ?_
  have hPc := hP.sub (ws' := [(h1, .inr (7, [u0, .int 0]))]) [1] rfl
  have hKc := hK.sub (tys' := []) [] rfl
  refine va_csq (va_runV (As := [.int p1]) (rest := []) ⟨hx, hb, hml, hown, hts⟩ (c_at7 l dC dI h1 (u0 : Value) p1) (cwV 1 hts (kG (List.forall_mem_cons.mpr ⟨(List.mem_cons_of_mem _ (List.mem_append_left _ (List.mem_of_getElem? (i := 4) rfl))), (List.forall_mem_cons.mpr ⟨(List.mem_cons_of_mem _ (List.mem_append_left _ (List.mem_of_getElem? (i := 3) rfl))), (List.forall_mem_cons.mpr ⟨(List.mem_cons_of_mem _ (List.mem_append_left _ (List.mem_of_getElem? (i := 2) rfl))), (List.forall_mem_cons.mpr ⟨(List.mem_cons_of_mem _ (List.mem_append_left _ (List.mem_of_getElem? (i := 1) rfl))), (fun _ h => absurd h List.not_mem_nil)⟩)⟩)⟩)⟩) (by decide +kernel) (fun _ h => List.mem_cons_of_mem _ (List.mem_append_right _ (List.mem_append_right _ h))) gw_c_at7) rfl rfl rfl (by decide +kernel) ⟨(Nat.le_of_ble_eq_true rfl), (Nat.le_of_ble_eq_true rfl)⟩) (kR_V kT_blind kT_give (va_recv hKc hPc (ci := 7) (q0 := 0) rfl rfl) hPc hKc) rfl rfl hl.1 rfl (lv_room (Nat.le_of_ble_eq_true rfl)) dX9_bolder_14 ⟨(Nat.le_of_ble_eq_true rfl), (Nat.le_of_ble_eq_true rfl)⟩).run (fun r_2 hw => ?_)
  obtain rfl : r_2 = none := hw
  refine W.eq (g2 := F0 m 17 ls [.null]) rfl ?_
  refine lv_astoreN (lv' := [(4, .null), (3, .null), (0, .ref h0), (1, .int p0), (2, .int p1)]) hx hb dX9_bolder_17 hl (by decide) rfl (fun ls hl => ?_)
  refine lv_aload_nN hx hb dX9_bolder_19 rfl (lv_at hl 1 rfl) ?_
  refine lv_ifnullN (tgt := 28) hx hb dX9_bolder_20 (by decide) ?_
  refine lv_iconst (v := (-1)) hx hb dX9_bolder_28 (by decide) ?_
  exact W.iret (v := (-1)) hx hb hr (fun t ht hW => ⟨(-1), rfl, rfl, ht⟩) (fun _ h => nomatch h) dX9_bolder_29

def w_c_know9 : List Cond := .code yX9_know cX9_know 3 (some .boolean) :: ([.fieldLink RX9 47 "NotEnded" "folk" "LNotEnded$Folk;", .initialized RX2, .selects RX2 yX2_has yX2_has, .instanceMethod yX2_has, .methodLink RX9 128 yX2_has] ++ (wsX90 ++ (w_c_has2)))
theorem gw_c_know9 : (w_c_know9).all goodWord = true := by decide +kernel
set_option maxHeartbeats 4000000 in
set_option maxRecDepth 100000 in
/-- X9_know of a new object -/
theorem c_know9 (l : Launch) (dC : Nat → ClassId) (dI : Nat → Nat → Nat) (h0 : Nat) (h1 : Nat) (v0 : Value) (v1 : Value) (v2 : Value) (v3 : Value) (v4 : Value) (v6 : Value) (v7 : Value) (v8 : Value) (v9 : Value) (u0 : Value) (u1 : Value) (u2 : Value) (u3 : Value) (u4 : Value) (u5 : Value) (u7 : Value) (p0 : Int32) (p1 : Int32) : Met l yX9_know w_c_know9 ({ frames := 2, cells := 0, slots := 0, locals := 120 }) (kR dC dI [.ref h0, .int p0, .int p1] [(h0, .inr (9, [v0, v1, v2, v3, v4, .ref h1, v6, v7, v8, v9])), (h1, .inr (2, [u0, u1, u2, u3, u4, u5, .int 0, u7]))] [] kT) (vp_Si (fun r : Int32 => r = 0)) 0 0 (fun _ => False) := by
  refine Met.ofW (cc := cX9_know) (maxL := 3) (ret := (some .boolean)) (by decide) rfl ?_
  intro p e s m args below meth c s₁ B hml hv
  obtain ⟨rfl, hP, hK, hX⟩ := hv
  have hx := B.exec
  have hb := B.bytes
  have hr := B.returns
  have hts := atoms_spec (ws := w_c_know9) B.pre
  have hown : s.vm.findClass RX9 = some m.cls := findClass_of_methodNamed B.named
  have hlocks := B.notSynchronized
  have hP : va_P (dC, dI) vwCl [(h0, .inr (9, [v0, v1, v2, v3, v4, .ref h1, v6, v7, v8, v9])), (h1, .inr (2, [u0, u1, u2, u3, u4, u5, .int 0, u7]))] s.heap := hP
  have hl := lv_entry ([.ref h0, .int p0, .int p1]) (n := 3) (Nat.le_of_ble_eq_true rfl)
  rw [lg_entry_eq]
  generalize (lg_sl ([.ref h0, .int p0, .int p1]) ++ List.replicate (3 - (lg_sl ([.ref h0, .int p0, .int p1])).length) Slot.unset).toArray = ls at hl ⊢
  have hl : lv_has ls 3 [(0, .ref h0), (1, .int p0), (2, .int p1)] := hl
  refine lv_aload_n hx hb dX9_know_0 rfl (lv_at hl 0 rfl) ?_
  refine va_get (D := (dC, dI)) (ci := 9) (v := .ref h1) (C := RX9) (T := TX9) (N := 10) hx hb hts (fun _ h => List.mem_cons_of_mem _ (List.mem_append_right _ (List.mem_append_left _ h))) hown hK hP 0 rfl rfl 5 (by decide) (hts (.fieldLink RX9 47 "NotEnded" "folk" "LNotEnded$Folk;") (List.mem_cons_of_mem _ (List.mem_append_left _ (List.mem_of_getElem? (i := 0) rfl)))) (fun _ h9 => h9) rfl dX9_know_1 ?_
  refine lv_iload_n hx hb dX9_know_4 rfl (lv_at hl 1 rfl) ?_
  have hPc := hP.sub (ws' := [(h1, .inr (2, [u0, u1, u2, u3, u4, u5, .int 0, u7]))]) [1] rfl
  have hKc := hK.sub (tys' := []) [] rfl
  refine vp_callSi (va_runV (As := [.int p0]) (rest := []) ⟨hx, hb, hml, hown, hts⟩ (c_has2 l dC dI h1 (u0 : Value) (u1 : Value) (u2 : Value) (u3 : Value) (u4 : Value) (u5 : Value) (u7 : Value) p0) (cwV 1 hts (kG (List.forall_mem_cons.mpr ⟨(List.mem_cons_of_mem _ (List.mem_append_left _ (List.mem_of_getElem? (i := 4) rfl))), (List.forall_mem_cons.mpr ⟨(List.mem_cons_of_mem _ (List.mem_append_left _ (List.mem_of_getElem? (i := 3) rfl))), (List.forall_mem_cons.mpr ⟨(List.mem_cons_of_mem _ (List.mem_append_left _ (List.mem_of_getElem? (i := 2) rfl))), (List.forall_mem_cons.mpr ⟨(List.mem_cons_of_mem _ (List.mem_append_left _ (List.mem_of_getElem? (i := 1) rfl))), (fun _ h => absurd h List.not_mem_nil)⟩)⟩)⟩)⟩) (by decide +kernel) (fun _ h => List.mem_cons_of_mem _ (List.mem_append_right _ (List.mem_append_right _ h))) gw_c_has2) rfl rfl rfl (by decide +kernel) ⟨(Nat.le_of_ble_eq_true rfl), (Nat.le_of_ble_eq_true rfl)⟩) (kR_V kT_blind kT_give (va_recv hKc hPc (ci := 2) (q0 := 0) rfl rfl) hPc hKc) rfl rfl hl.1 rfl (lv_room (Nat.le_of_ble_eq_true rfl)) dX9_know_5 ⟨(Nat.le_of_ble_eq_true rfl), (Nat.le_of_ble_eq_true rfl)⟩).run (fun r_1 hw => ?_)
  obtain rfl : r_1 = 0 := hw
  refine lv_if_eq (tgt := 27) hx hb dX9_know_8 (by decide) (fun c_2 => ?_) (fun c_2 => absurd (by decide) c_2)
  refine lv_iconst (v := 0) hx hb dX9_know_27 (by decide) ?_
  exact W.zret (v := 0) hx hb hr rfl (fun t ht hW => ⟨0, rfl, rfl, ht⟩) (fun _ h => nomatch h) dX9_know_28

def w_c_note9 : List Cond := .code yX9_note cX9_note 8 (some .int) :: ([.fieldLink RX9 47 "NotEnded" "folk" "LNotEnded$Folk;", .initialized RX2, .selects RX2 yX2_has yX2_has, .instanceMethod yX2_has, .methodLink RX9 128 yX2_has] ++ (wsX90 ++ (w_c_has2)))
theorem gw_c_note9 : (w_c_note9).all goodWord = true := by decide +kernel
set_option maxHeartbeats 4000000 in
set_option maxRecDepth 100000 in
/-- X9_note of a new object -/
theorem c_note9 (l : Launch) (dC : Nat → ClassId) (dI : Nat → Nat → Nat) (h0 : Nat) (h1 : Nat) (v0 : Value) (v1 : Value) (v2 : Value) (v3 : Value) (v4 : Value) (v6 : Value) (v7 : Value) (v8 : Value) (v9 : Value) (u0 : Value) (u1 : Value) (u2 : Value) (u3 : Value) (u4 : Value) (u5 : Value) (u7 : Value) (p0 : Int32) (p1 : Int32) (p2 : Int32) (p3 : Int32) (p4 : Int32) : Met l yX9_note w_c_note9 ({ frames := 2, cells := 0, slots := 0, locals := 120 }) (kR dC dI [.ref h0, .int p0, .int p1, .int p2, .int p3, .int p4] [(h0, .inr (9, [v0, v1, v2, v3, v4, .ref h1, v6, v7, v8, v9])), (h1, .inr (2, [u0, u1, u2, u3, u4, u5, .int 0, u7]))] [] kT) (vp_Si (fun r : Int32 => r = (-1))) 0 0 (fun _ => False) := by
  refine Met.ofW (cc := cX9_note) (maxL := 8) (ret := (some .int)) (by decide) rfl ?_
  intro p e s m args below meth c s₁ B hml hv
  obtain ⟨rfl, hP, hK, hX⟩ := hv
  have hx := B.exec
  have hb := B.bytes
  have hr := B.returns
  have hts := atoms_spec (ws := w_c_note9) B.pre
  have hown : s.vm.findClass RX9 = some m.cls := findClass_of_methodNamed B.named
  have hlocks := B.notSynchronized
  have hP : va_P (dC, dI) vwCl [(h0, .inr (9, [v0, v1, v2, v3, v4, .ref h1, v6, v7, v8, v9])), (h1, .inr (2, [u0, u1, u2, u3, u4, u5, .int 0, u7]))] s.heap := hP
  have hl := lv_entry ([.ref h0, .int p0, .int p1, .int p2, .int p3, .int p4]) (n := 8) (Nat.le_of_ble_eq_true rfl)
  rw [lg_entry_eq]
  generalize (lg_sl ([.ref h0, .int p0, .int p1, .int p2, .int p3, .int p4]) ++ List.replicate (8 - (lg_sl ([.ref h0, .int p0, .int p1, .int p2, .int p3, .int p4])).length) Slot.unset).toArray = ls at hl ⊢
  have hl : lv_has ls 8 [(0, .ref h0), (1, .int p0), (2, .int p1), (3, .int p2), (4, .int p3), (5, .int p4)] := hl
  refine lv_aload_n hx hb dX9_note_0 rfl (lv_at hl 0 rfl) ?_
  refine va_get (D := (dC, dI)) (ci := 9) (v := .ref h1) (C := RX9) (T := TX9) (N := 10) hx hb hts (fun _ h => List.mem_cons_of_mem _ (List.mem_append_right _ (List.mem_append_left _ h))) hown hK hP 0 rfl rfl 5 (by decide) (hts (.fieldLink RX9 47 "NotEnded" "folk" "LNotEnded$Folk;") (List.mem_cons_of_mem _ (List.mem_append_left _ (List.mem_of_getElem? (i := 0) rfl)))) (fun _ h9 => h9) rfl dX9_note_1 ?_
  refine lv_iload_n hx hb dX9_note_4 rfl (lv_at hl 1 rfl) ?_
  have hPc := hP.sub (ws' := [(h1, .inr (2, [u0, u1, u2, u3, u4, u5, .int 0, u7]))]) [1] rfl
  have hKc := hK.sub (tys' := []) [] rfl
  refine vp_callSi (va_runV (As := [.int p0]) (rest := []) ⟨hx, hb, hml, hown, hts⟩ (c_has2 l dC dI h1 (u0 : Value) (u1 : Value) (u2 : Value) (u3 : Value) (u4 : Value) (u5 : Value) (u7 : Value) p0) (cwV 1 hts (kG (List.forall_mem_cons.mpr ⟨(List.mem_cons_of_mem _ (List.mem_append_left _ (List.mem_of_getElem? (i := 4) rfl))), (List.forall_mem_cons.mpr ⟨(List.mem_cons_of_mem _ (List.mem_append_left _ (List.mem_of_getElem? (i := 3) rfl))), (List.forall_mem_cons.mpr ⟨(List.mem_cons_of_mem _ (List.mem_append_left _ (List.mem_of_getElem? (i := 2) rfl))), (List.forall_mem_cons.mpr ⟨(List.mem_cons_of_mem _ (List.mem_append_left _ (List.mem_of_getElem? (i := 1) rfl))), (fun _ h => absurd h List.not_mem_nil)⟩)⟩)⟩)⟩) (by decide +kernel) (fun _ h => List.mem_cons_of_mem _ (List.mem_append_right _ (List.mem_append_right _ h))) gw_c_has2) rfl rfl rfl (by decide +kernel) ⟨(Nat.le_of_ble_eq_true rfl), (Nat.le_of_ble_eq_true rfl)⟩) (kR_V kT_blind kT_give (va_recv hKc hPc (ci := 2) (q0 := 0) rfl rfl) hPc hKc) rfl rfl hl.1 rfl (lv_room (Nat.le_of_ble_eq_true rfl)) dX9_note_5 ⟨(Nat.le_of_ble_eq_true rfl), (Nat.le_of_ble_eq_true rfl)⟩).run (fun r_1 hw => ?_)
  obtain rfl : r_1 = 0 := hw
  refine lv_if_eq (tgt := 21) hx hb dX9_note_8 (by decide) (fun c_2 => ?_) (fun c_2 => absurd (by decide) c_2)
  refine lv_iconst (v := (-1)) hx hb dX9_note_21 (by decide) ?_
  exact W.iret (v := (-1)) hx hb hr (fun t ht hW => ⟨(-1), rfl, rfl, ht⟩) (fun _ h => nomatch h) dX9_note_22

def w_c_say9 : List Cond := .code yX9_say cX9_say 3 (some .boolean) :: ([.fieldLink RX9 47 "NotEnded" "folk" "LNotEnded$Folk;", .initialized RX2, .selects RX2 yX2_has yX2_has, .instanceMethod yX2_has, .methodLink RX9 128 yX2_has] ++ (wsX90 ++ (w_c_has2)))
theorem gw_c_say9 : (w_c_say9).all goodWord = true := by decide +kernel
set_option maxHeartbeats 4000000 in
set_option maxRecDepth 100000 in
/-- X9_say of a new object -/
theorem c_say9 (l : Launch) (dC : Nat → ClassId) (dI : Nat → Nat → Nat) (h0 : Nat) (h1 : Nat) (v0 : Value) (v1 : Value) (v2 : Value) (v3 : Value) (v4 : Value) (v6 : Value) (v7 : Value) (v8 : Value) (v9 : Value) (u0 : Value) (u1 : Value) (u2 : Value) (u3 : Value) (u4 : Value) (u5 : Value) (u7 : Value) (p0 : Int32) (p1 : Int32) : Met l yX9_say w_c_say9 ({ frames := 2, cells := 0, slots := 0, locals := 120 }) (kR dC dI [.ref h0, .int p0, .int p1] [(h0, .inr (9, [v0, v1, v2, v3, v4, .ref h1, v6, v7, v8, v9])), (h1, .inr (2, [u0, u1, u2, u3, u4, u5, .int 0, u7]))] [] kT) (vp_Si (fun r : Int32 => r = 0)) 0 0 (fun _ => False) := by
  refine Met.ofW (cc := cX9_say) (maxL := 3) (ret := (some .boolean)) (by decide) rfl ?_
  intro p e s m args below meth c s₁ B hml hv
  obtain ⟨rfl, hP, hK, hX⟩ := hv
  have hx := B.exec
  have hb := B.bytes
  have hr := B.returns
  have hts := atoms_spec (ws := w_c_say9) B.pre
  have hown : s.vm.findClass RX9 = some m.cls := findClass_of_methodNamed B.named
  have hlocks := B.notSynchronized
  have hP : va_P (dC, dI) vwCl [(h0, .inr (9, [v0, v1, v2, v3, v4, .ref h1, v6, v7, v8, v9])), (h1, .inr (2, [u0, u1, u2, u3, u4, u5, .int 0, u7]))] s.heap := hP
  have hl := lv_entry ([.ref h0, .int p0, .int p1]) (n := 3) (Nat.le_of_ble_eq_true rfl)
  rw [lg_entry_eq]
  generalize (lg_sl ([.ref h0, .int p0, .int p1]) ++ List.replicate (3 - (lg_sl ([.ref h0, .int p0, .int p1])).length) Slot.unset).toArray = ls at hl ⊢
  have hl : lv_has ls 3 [(0, .ref h0), (1, .int p0), (2, .int p1)] := hl
  refine lv_aload_n hx hb dX9_say_0 rfl (lv_at hl 0 rfl) ?_
  refine va_get (D := (dC, dI)) (ci := 9) (v := .ref h1) (C := RX9) (T := TX9) (N := 10) hx hb hts (fun _ h => List.mem_cons_of_mem _ (List.mem_append_right _ (List.mem_append_left _ h))) hown hK hP 0 rfl rfl 5 (by decide) (hts (.fieldLink RX9 47 "NotEnded" "folk" "LNotEnded$Folk;") (List.mem_cons_of_mem _ (List.mem_append_left _ (List.mem_of_getElem? (i := 0) rfl)))) (fun _ h9 => h9) rfl dX9_say_1 ?_
  refine lv_iload_n hx hb dX9_say_4 rfl (lv_at hl 1 rfl) ?_
  have hPc := hP.sub (ws' := [(h1, .inr (2, [u0, u1, u2, u3, u4, u5, .int 0, u7]))]) [1] rfl
  have hKc := hK.sub (tys' := []) [] rfl
  refine vp_callSi (va_runV (As := [.int p0]) (rest := []) ⟨hx, hb, hml, hown, hts⟩ (c_has2 l dC dI h1 (u0 : Value) (u1 : Value) (u2 : Value) (u3 : Value) (u4 : Value) (u5 : Value) (u7 : Value) p0) (cwV 1 hts (kG (List.forall_mem_cons.mpr ⟨(List.mem_cons_of_mem _ (List.mem_append_left _ (List.mem_of_getElem? (i := 4) rfl))), (List.forall_mem_cons.mpr ⟨(List.mem_cons_of_mem _ (List.mem_append_left _ (List.mem_of_getElem? (i := 3) rfl))), (List.forall_mem_cons.mpr ⟨(List.mem_cons_of_mem _ (List.mem_append_left _ (List.mem_of_getElem? (i := 2) rfl))), (List.forall_mem_cons.mpr ⟨(List.mem_cons_of_mem _ (List.mem_append_left _ (List.mem_of_getElem? (i := 1) rfl))), (fun _ h => absurd h List.not_mem_nil)⟩)⟩)⟩)⟩) (by decide +kernel) (fun _ h => List.mem_cons_of_mem _ (List.mem_append_right _ (List.mem_append_right _ h))) gw_c_has2) rfl rfl rfl (by decide +kernel) ⟨(Nat.le_of_ble_eq_true rfl), (Nat.le_of_ble_eq_true rfl)⟩) (kR_V kT_blind kT_give (va_recv hKc hPc (ci := 2) (q0 := 0) rfl rfl) hPc hKc) rfl rfl hl.1 rfl (lv_room (Nat.le_of_ble_eq_true rfl)) dX9_say_5 ⟨(Nat.le_of_ble_eq_true rfl), (Nat.le_of_ble_eq_true rfl)⟩).run (fun r_1 hw => ?_)
  obtain rfl : r_1 = 0 := hw
  refine lv_if_eq (tgt := 27) hx hb dX9_say_8 (by decide) (fun c_2 => ?_) (fun c_2 => absurd (by decide) c_2)
  refine lv_iconst (v := 0) hx hb dX9_say_27 (by decide) ?_
  exact W.zret (v := 0) hx hb hr rfl (fun t ht hW => ⟨0, rfl, rfl, ht⟩) (fun _ h => nomatch h) dX9_say_28

def w_c_act9 : List Cond := .code yX9_act cX9_act 8 (some .int) :: ([.fieldLink RX9 47 "NotEnded" "folk" "LNotEnded$Folk;", .initialized RX2, .selects RX2 yX2_has yX2_has, .instanceMethod yX2_has, .methodLink RX9 128 yX2_has] ++ (wsX90 ++ (w_c_has2)))
theorem gw_c_act9 : (w_c_act9).all goodWord = true := by decide +kernel
set_option maxHeartbeats 4000000 in
set_option maxRecDepth 100000 in
/-- X9_act of a new object -/
theorem c_act9 (l : Launch) (dC : Nat → ClassId) (dI : Nat → Nat → Nat) (h0 : Nat) (h1 : Nat) (v0 : Value) (v1 : Value) (v2 : Value) (v3 : Value) (v4 : Value) (v6 : Value) (v7 : Value) (v8 : Value) (v9 : Value) (u0 : Value) (u1 : Value) (u2 : Value) (u3 : Value) (u4 : Value) (u5 : Value) (u7 : Value) (p0 : Int32) (p1 : Int32) (p2 : Int32) (p3 : Int32) : Met l yX9_act w_c_act9 ({ frames := 2, cells := 0, slots := 0, locals := 120 }) (kR dC dI [.ref h0, .int p0, .int p1, .int p2, .int p3] [(h0, .inr (9, [v0, v1, v2, v3, v4, .ref h1, v6, v7, v8, v9])), (h1, .inr (2, [u0, u1, u2, u3, u4, u5, .int 0, u7]))] [] kT) (vp_Si (fun r : Int32 => r = (-1))) 0 0 (fun _ => False) := by
  refine Met.ofW (cc := cX9_act) (maxL := 8) (ret := (some .int)) (by decide) rfl ?_
  intro p e s m args below meth c s₁ B hml hv
  obtain ⟨rfl, hP, hK, hX⟩ := hv
  have hx := B.exec
  have hb := B.bytes
  have hr := B.returns
  have hts := atoms_spec (ws := w_c_act9) B.pre
  have hown : s.vm.findClass RX9 = some m.cls := findClass_of_methodNamed B.named
  have hlocks := B.notSynchronized
  have hP : va_P (dC, dI) vwCl [(h0, .inr (9, [v0, v1, v2, v3, v4, .ref h1, v6, v7, v8, v9])), (h1, .inr (2, [u0, u1, u2, u3, u4, u5, .int 0, u7]))] s.heap := hP
  have hl := lv_entry ([.ref h0, .int p0, .int p1, .int p2, .int p3]) (n := 8) (Nat.le_of_ble_eq_true rfl)
  rw [lg_entry_eq]
  generalize (lg_sl ([.ref h0, .int p0, .int p1, .int p2, .int p3]) ++ List.replicate (8 - (lg_sl ([.ref h0, .int p0, .int p1, .int p2, .int p3])).length) Slot.unset).toArray = ls at hl ⊢
  have hl : lv_has ls 8 [(0, .ref h0), (1, .int p0), (2, .int p1), (3, .int p2), (4, .int p3)] := hl
  refine lv_aload_n hx hb dX9_act_0 rfl (lv_at hl 0 rfl) ?_
  refine va_get (D := (dC, dI)) (ci := 9) (v := .ref h1) (C := RX9) (T := TX9) (N := 10) hx hb hts (fun _ h => List.mem_cons_of_mem _ (List.mem_append_right _ (List.mem_append_left _ h))) hown hK hP 0 rfl rfl 5 (by decide) (hts (.fieldLink RX9 47 "NotEnded" "folk" "LNotEnded$Folk;") (List.mem_cons_of_mem _ (List.mem_append_left _ (List.mem_of_getElem? (i := 0) rfl)))) (fun _ h9 => h9) rfl dX9_act_1 ?_
  refine lv_iload_n hx hb dX9_act_4 rfl (lv_at hl 1 rfl) ?_
  have hPc := hP.sub (ws' := [(h1, .inr (2, [u0, u1, u2, u3, u4, u5, .int 0, u7]))]) [1] rfl
  have hKc := hK.sub (tys' := []) [] rfl
  refine vp_callSi (va_runV (As := [.int p0]) (rest := []) ⟨hx, hb, hml, hown, hts⟩ (c_has2 l dC dI h1 (u0 : Value) (u1 : Value) (u2 : Value) (u3 : Value) (u4 : Value) (u5 : Value) (u7 : Value) p0) (cwV 1 hts (kG (List.forall_mem_cons.mpr ⟨(List.mem_cons_of_mem _ (List.mem_append_left _ (List.mem_of_getElem? (i := 4) rfl))), (List.forall_mem_cons.mpr ⟨(List.mem_cons_of_mem _ (List.mem_append_left _ (List.mem_of_getElem? (i := 3) rfl))), (List.forall_mem_cons.mpr ⟨(List.mem_cons_of_mem _ (List.mem_append_left _ (List.mem_of_getElem? (i := 2) rfl))), (List.forall_mem_cons.mpr ⟨(List.mem_cons_of_mem _ (List.mem_append_left _ (List.mem_of_getElem? (i := 1) rfl))), (fun _ h => absurd h List.not_mem_nil)⟩)⟩)⟩)⟩) (by decide +kernel) (fun _ h => List.mem_cons_of_mem _ (List.mem_append_right _ (List.mem_append_right _ h))) gw_c_has2) rfl rfl rfl (by decide +kernel) ⟨(Nat.le_of_ble_eq_true rfl), (Nat.le_of_ble_eq_true rfl)⟩) (kR_V kT_blind kT_give (va_recv hKc hPc (ci := 2) (q0 := 0) rfl rfl) hPc hKc) rfl rfl hl.1 rfl (lv_room (Nat.le_of_ble_eq_true rfl)) dX9_act_5 ⟨(Nat.le_of_ble_eq_true rfl), (Nat.le_of_ble_eq_true rfl)⟩).run (fun r_1 hw => ?_)
  obtain rfl : r_1 = 0 := hw
  refine lv_if_eq (tgt := 33) hx hb dX9_act_8 (by decide) (fun c_2 => ?_) (fun c_2 => absurd (by decide) c_2)
  refine lv_iconst (v := (-1)) hx hb dX9_act_33 (by decide) ?_
  exact W.iret (v := (-1)) hx hb hr (fun t ht hW => ⟨(-1), rfl, rfl, ht⟩) (fun _ h => nomatch h) dX9_act_34
end
section
def w_c_run10 : List Cond := .code yX10_run cX10_run 7 (some .int) :: ([.fieldLink RX10 117 "NotEndedModel" "thrown" "I", .initialized RX10, .selects RX10 yX10_isLaw yX10_isLaw, .instanceMethod yX10_isLaw, .methodLink RX10 311 yX10_isLaw] ++ (wsX100 ++ (w_c_isLaw10)))
theorem gw_c_run10 : (w_c_run10).all goodWord = true := by decide +kernel
set_option maxHeartbeats 4000000 in
set_option maxRecDepth 100000 in
/-- X10_run of a new object -/
theorem c_run10 (l : Launch) (dC : Nat → ClassId) (dI : Nat → Nat → Nat) (h0 : Nat) (v0 : Value) (v1 : Value) (v2 : Value) (v3 : Value) (v4 : Value) (v5 : Value) (v6 : Value) (v8 : Value) (v9 : Value) (v10 : Value) (v11 : Value) (v12 : Value) (v13 : Value) (v14 : Value) (v15 : Value) (v16 : Value) (v17 : Value) (v18 : Value) (v19 : Value) (v20 : Value) (v21 : Value) (v22 : Value) (v23 : Value) (v24 : Value) (v25 : Value) (v26 : Value) (v27 : Value) (v28 : Value) (v29 : Value) (v30 : Value) (v31 : Value) (v32 : Value) (v33 : Value) (v34 : Value) (v35 : Value) (v36 : Value) (v37 : Value) (v38 : Value) (v39 : Value) (v40 : Value) (v41 : Value) (v42 : Value) (v43 : Value) (v44 : Value) (v45 : Value) (v46 : Value) (v47 : Value) (v48 : Value) (v49 : Value) (v50 : Value) (v51 : Value) (p0 : Int32) (p1 : Int64) (p2 : Int32) (p3 : Int32) (p4 : Int32) (sz : Nat) : Met l yX10_run w_c_run10 ({ frames := 3, cells := 0, slots := 0, locals := 180 }) (kW dC dI [.ref h0, .int p0, .long p1, .int p2, .int p3, .int p4] [(h0, .inr (10, [v0, v1, v2, v3, v4, v5, v6, .int 0, v8, v9, v10, v11, v12, v13, v14, v15, v16, v17, v18, v19, v20, v21, v22, v23, v24, v25, v26, v27, v28, v29, v30, v31, v32, v33, v34, v35, v36, v37, v38, v39, v40, v41, v42, v43, v44, v45, v46, v47, v48, v49, v50, v51]))] [] kT sz) (va_Qi (fun (r : Int32) (_ : Unit) => r = (-1000)) (fun _ _ => True) (va_A [(h0, .inr (10, [v0, v1, v2, v3, v4, v5, v6, .int 0, v8, v9, v10, v11, v12, v13, v14, v15, v16, v17, v18, v19, v20, v21, v22, v23, v24, v25, v26, v27, v28, v29, v30, v31, v32, v33, v34, v35, v36, v37, v38, v39, v40, v41, v42, v43, v44, v45, v46, v47, v48, v49, v50, v51]))] sz)) 0 0 (va_A [(h0, .inr (10, [v0, v1, v2, v3, v4, v5, v6, .int 0, v8, v9, v10, v11, v12, v13, v14, v15, v16, v17, v18, v19, v20, v21, v22, v23, v24, v25, v26, v27, v28, v29, v30, v31, v32, v33, v34, v35, v36, v37, v38, v39, v40, v41, v42, v43, v44, v45, v46, v47, v48, v49, v50, v51]))] sz) := by
  refine Met.ofW (cc := cX10_run) (maxL := 7) (ret := (some .int)) (by decide) rfl ?_
  intro p e s m args below meth c s₁ B hml hv
  obtain ⟨rfl, hsz, hP, hK, hD0, hX⟩ := hv
  have hx := B.exec
  have hb := B.bytes
  have hr := B.returns
  have hts := atoms_spec (ws := w_c_run10) B.pre
  have hown : s.vm.findClass RX10 = some m.cls := findClass_of_methodNamed B.named
  have hlocks := B.notSynchronized
  subst hsz
  have hD := hD0.self (sz := s.heap.size)
  generalize hAe : va_A [(h0, .inr (10, [v0, v1, v2, v3, v4, v5, v6, .int 0, v8, v9, v10, v11, v12, v13, v14, v15, v16, v17, v18, v19, v20, v21, v22, v23, v24, v25, v26, v27, v28, v29, v30, v31, v32, v33, v34, v35, v36, v37, v38, v39, v40, v41, v42, v43, v44, v45, v46, v47, v48, v49, v50, v51]))] s.heap.size = A at hD ⊢
  have hA : ∀ q : Nat, s.heap.size ≤ q → A q := fun q h => by rw [← hAe]; exact Or.inr h
  have hS : va_S A s.heap s.heap [] := va_S.rf
  have hP : va_P (dC, dI) vwCl [(h0, .inr (10, [v0, v1, v2, v3, v4, v5, v6, .int 0, v8, v9, v10, v11, v12, v13, v14, v15, v16, v17, v18, v19, v20, v21, v22, v23, v24, v25, v26, v27, v28, v29, v30, v31, v32, v33, v34, v35, v36, v37, v38, v39, v40, v41, v42, v43, v44, v45, v46, v47, v48, v49, v50, v51]))] s.heap := hP
  have hl := lv_entry ([.ref h0, .int p0, .long p1, .int p2, .int p3, .int p4]) (n := 7) (Nat.le_of_ble_eq_true rfl)
  rw [lg_entry_eq]
  generalize (lg_sl ([.ref h0, .int p0, .long p1, .int p2, .int p3, .int p4]) ++ List.replicate (7 - (lg_sl ([.ref h0, .int p0, .long p1, .int p2, .int p3, .int p4])).length) Slot.unset).toArray = ls at hl ⊢
  have hl : lv_has ls 7 [(0, .ref h0), (1, .int p0), (2, .long p1), (4, .int p2), (5, .int p3), (6, .int p4)] := hl
  refine lv_aload_n hx hb dX10_run_0 rfl (lv_at hl 0 rfl) ?_
  refine lv_iconst (v := 0) hx hb dX10_run_1 (by decide) ?_
  refine va_put (D := (dC, dI)) (ci := 10) (v := .int 0) (ty := tyX10 0) (C := RX10) (T := TX10) (N := 52) hx hb hts (fun _ h => List.mem_cons_of_mem _ (List.mem_append_right _ (List.mem_append_left _ h))) tyX10 tyX10_ok nmX10 hown hK hP hD hS 0 rfl rfl 0 (by decide) (hts (.fieldLink RX10 117 "NotEndedModel" "thrown" "I") (List.mem_cons_of_mem _ (List.mem_append_left _ (List.mem_of_getElem? (i := 0) rfl)))) (fun _ h9 => h9) rfl (tyX10_ok 0 (by decide)) rfl rfl (Nat.le_of_ble_eq_true rfl) dX10_run_2 (fun H locs hP hD hS => ?_)
  have hP : va_P (dC, dI) vwCl [(h0, .inr (10, [.int 0, v1, v2, v3, v4, v5, v6, .int 0, v8, v9, v10, v11, v12, v13, v14, v15, v16, v17, v18, v19, v20, v21, v22, v23, v24, v25, v26, v27, v28, v29, v30, v31, v32, v33, v34, v35, v36, v37, v38, v39, v40, v41, v42, v43, v44, v45, v46, v47, v48, v49, v50, v51]))] H := hP
  have hD : va_D A [(h0, .inr (10, [.int 0, v1, v2, v3, v4, v5, v6, .int 0, v8, v9, v10, v11, v12, v13, v14, v15, v16, v17, v18, v19, v20, v21, v22, v23, v24, v25, v26, v27, v28, v29, v30, v31, v32, v33, v34, v35, v36, v37, v38, v39, v40, v41, v42, v43, v44, v45, v46, v47, v48, v49, v50, v51]))] := hD
  refine lv_aload_n hx hb dX10_run_5 rfl (lv_at hl 0 rfl) ?_
  refine lv_iload_n hx hb dX10_run_6 rfl (lv_at hl 1 rfl) ?_
  have hPc := hP.sub (ws' := [(h0, .inr (10, [.int 0, v1, v2, v3, v4, v5, v6, .int 0, v8, v9, v10, v11, v12, v13, v14, v15, v16, v17, v18, v19, v20, v21, v22, v23, v24, v25, v26, v27, v28, v29, v30, v31, v32, v33, v34, v35, v36, v37, v38, v39, v40, v41, v42, v43, v44, v45, v46, v47, v48, v49, v50, v51]))]) [0] rfl
  have hKc := hK.sub (tys' := []) [] rfl
  refine vp_callSi (va_runV (As := [.int p0]) (rest := []) ⟨hx, hb, hml, hown, hts⟩ (c_isLaw10 l dC dI h0 (.int 0 : Value) (v1 : Value) (v2 : Value) (v3 : Value) (v4 : Value) (v5 : Value) (v6 : Value) (v8 : Value) (v9 : Value) (v10 : Value) (v11 : Value) (v12 : Value) (v13 : Value) (v14 : Value) (v15 : Value) (v16 : Value) (v17 : Value) (v18 : Value) (v19 : Value) (v20 : Value) (v21 : Value) (v22 : Value) (v23 : Value) (v24 : Value) (v25 : Value) (v26 : Value) (v27 : Value) (v28 : Value) (v29 : Value) (v30 : Value) (v31 : Value) (v32 : Value) (v33 : Value) (v34 : Value) (v35 : Value) (v36 : Value) (v37 : Value) (v38 : Value) (v39 : Value) (v40 : Value) (v41 : Value) (v42 : Value) (v43 : Value) (v44 : Value) (v45 : Value) (v46 : Value) (v47 : Value) (v48 : Value) (v49 : Value) (v50 : Value) (v51 : Value) p0) (cwV 1 hts (kG (List.forall_mem_cons.mpr ⟨(List.mem_cons_of_mem _ (List.mem_append_left _ (List.mem_of_getElem? (i := 4) rfl))), (List.forall_mem_cons.mpr ⟨(List.mem_cons_of_mem _ (List.mem_append_left _ (List.mem_of_getElem? (i := 3) rfl))), (List.forall_mem_cons.mpr ⟨(List.mem_cons_of_mem _ (List.mem_append_left _ (List.mem_of_getElem? (i := 2) rfl))), (List.forall_mem_cons.mpr ⟨(List.mem_cons_of_mem _ (List.mem_append_left _ (List.mem_of_getElem? (i := 1) rfl))), (fun _ h => absurd h List.not_mem_nil)⟩)⟩)⟩)⟩) (by decide +kernel) (fun _ h => List.mem_cons_of_mem _ (List.mem_append_right _ (List.mem_append_right _ h))) gw_c_isLaw10) rfl rfl rfl (by decide +kernel) ⟨(Nat.le_of_ble_eq_true rfl), (Nat.le_of_ble_eq_true rfl)⟩) (kR_V kT_blind kT_give (va_recv hKc hPc (ci := 10) (q0 := 0) rfl rfl) hPc hKc) rfl rfl hl.1 rfl (lv_room (Nat.le_of_ble_eq_true rfl)) dX10_run_7 ⟨(Nat.le_of_ble_eq_true rfl), (Nat.le_of_ble_eq_true rfl)⟩).run (fun r_1 hw => ?_)
  obtain rfl : r_1 = 0 := hw
  refine lv_if_eq (tgt := 43) hx hb dX10_run_10 (by decide) (fun c_2 => ?_) (fun c_2 => absurd (by decide) c_2)
  refine lv_sipush (v := (-1000)) hx hb dX10_run_43 (by decide) ?_
  exact W.iret (v := (-1000)) hx hb hr (fun t ht hW => ⟨⟨(-1000), (), rfl, rfl, trivial⟩, hS.F ht⟩) hS.2.2 dX10_run_46

def w_c_all10 : List Cond := .code yX10_all cX10_all 8 (some .int) :: ([.fieldLink RX10 117 "NotEndedModel" "thrown" "I", .initialized RX10, .selects RX10 yX10_isLaw yX10_isLaw, .instanceMethod yX10_isLaw, .methodLink RX10 311 yX10_isLaw] ++ (wsX100 ++ (w_c_isLaw10)))
theorem gw_c_all10 : (w_c_all10).all goodWord = true := by decide +kernel
set_option maxHeartbeats 4000000 in
set_option maxRecDepth 100000 in
/-- X10_all of a new object -/
theorem c_all10 (l : Launch) (dC : Nat → ClassId) (dI : Nat → Nat → Nat) (h0 : Nat) (v0 : Value) (v1 : Value) (v2 : Value) (v3 : Value) (v4 : Value) (v5 : Value) (v6 : Value) (v8 : Value) (v9 : Value) (v10 : Value) (v11 : Value) (v12 : Value) (v13 : Value) (v14 : Value) (v15 : Value) (v16 : Value) (v17 : Value) (v18 : Value) (v19 : Value) (v20 : Value) (v21 : Value) (v22 : Value) (v23 : Value) (v24 : Value) (v25 : Value) (v26 : Value) (v27 : Value) (v28 : Value) (v29 : Value) (v30 : Value) (v31 : Value) (v32 : Value) (v33 : Value) (v34 : Value) (v35 : Value) (v36 : Value) (v37 : Value) (v38 : Value) (v39 : Value) (v40 : Value) (v41 : Value) (v42 : Value) (v43 : Value) (v44 : Value) (v45 : Value) (v46 : Value) (v47 : Value) (v48 : Value) (v49 : Value) (v50 : Value) (v51 : Value) (p0 : Int32) (p1 : Int64) (p2 : Int32) (p3 : Int32) (sz : Nat) : Met l yX10_all w_c_all10 ({ frames := 3, cells := 0, slots := 0, locals := 180 }) (kW dC dI [.ref h0, .int p0, .long p1, .int p2, .int p3] [(h0, .inr (10, [v0, v1, v2, v3, v4, v5, v6, .int 0, v8, v9, v10, v11, v12, v13, v14, v15, v16, v17, v18, v19, v20, v21, v22, v23, v24, v25, v26, v27, v28, v29, v30, v31, v32, v33, v34, v35, v36, v37, v38, v39, v40, v41, v42, v43, v44, v45, v46, v47, v48, v49, v50, v51]))] [] kT sz) (va_Qi (fun (r : Int32) (_ : Unit) => r = (-1)) (fun _ _ => True) (va_A [(h0, .inr (10, [v0, v1, v2, v3, v4, v5, v6, .int 0, v8, v9, v10, v11, v12, v13, v14, v15, v16, v17, v18, v19, v20, v21, v22, v23, v24, v25, v26, v27, v28, v29, v30, v31, v32, v33, v34, v35, v36, v37, v38, v39, v40, v41, v42, v43, v44, v45, v46, v47, v48, v49, v50, v51]))] sz)) 0 0 (va_A [(h0, .inr (10, [v0, v1, v2, v3, v4, v5, v6, .int 0, v8, v9, v10, v11, v12, v13, v14, v15, v16, v17, v18, v19, v20, v21, v22, v23, v24, v25, v26, v27, v28, v29, v30, v31, v32, v33, v34, v35, v36, v37, v38, v39, v40, v41, v42, v43, v44, v45, v46, v47, v48, v49, v50, v51]))] sz) := by
  refine Met.ofW (cc := cX10_all) (maxL := 8) (ret := (some .int)) (by decide) rfl ?_
  intro p e s m args below meth c s₁ B hml hv
  obtain ⟨rfl, hsz, hP, hK, hD0, hX⟩ := hv
  have hx := B.exec
  have hb := B.bytes
  have hr := B.returns
  have hts := atoms_spec (ws := w_c_all10) B.pre
  have hown : s.vm.findClass RX10 = some m.cls := findClass_of_methodNamed B.named
  have hlocks := B.notSynchronized
  subst hsz
  have hD := hD0.self (sz := s.heap.size)
  generalize hAe : va_A [(h0, .inr (10, [v0, v1, v2, v3, v4, v5, v6, .int 0, v8, v9, v10, v11, v12, v13, v14, v15, v16, v17, v18, v19, v20, v21, v22, v23, v24, v25, v26, v27, v28, v29, v30, v31, v32, v33, v34, v35, v36, v37, v38, v39, v40, v41, v42, v43, v44, v45, v46, v47, v48, v49, v50, v51]))] s.heap.size = A at hD ⊢
  have hA : ∀ q : Nat, s.heap.size ≤ q → A q := fun q h => by rw [← hAe]; exact Or.inr h
  have hS : va_S A s.heap s.heap [] := va_S.rf
  have hP : va_P (dC, dI) vwCl [(h0, .inr (10, [v0, v1, v2, v3, v4, v5, v6, .int 0, v8, v9, v10, v11, v12, v13, v14, v15, v16, v17, v18, v19, v20, v21, v22, v23, v24, v25, v26, v27, v28, v29, v30, v31, v32, v33, v34, v35, v36, v37, v38, v39, v40, v41, v42, v43, v44, v45, v46, v47, v48, v49, v50, v51]))] s.heap := hP
  have hl := lv_entry ([.ref h0, .int p0, .long p1, .int p2, .int p3]) (n := 8) (Nat.le_of_ble_eq_true rfl)
  rw [lg_entry_eq]
  generalize (lg_sl ([.ref h0, .int p0, .long p1, .int p2, .int p3]) ++ List.replicate (8 - (lg_sl ([.ref h0, .int p0, .long p1, .int p2, .int p3])).length) Slot.unset).toArray = ls at hl ⊢
  have hl : lv_has ls 8 [(0, .ref h0), (1, .int p0), (2, .long p1), (4, .int p2), (5, .int p3)] := hl
  refine lv_aload_n hx hb dX10_all_0 rfl (lv_at hl 0 rfl) ?_
  refine lv_iconst (v := 0) hx hb dX10_all_1 (by decide) ?_
  refine va_put (D := (dC, dI)) (ci := 10) (v := .int 0) (ty := tyX10 0) (C := RX10) (T := TX10) (N := 52) hx hb hts (fun _ h => List.mem_cons_of_mem _ (List.mem_append_right _ (List.mem_append_left _ h))) tyX10 tyX10_ok nmX10 hown hK hP hD hS 0 rfl rfl 0 (by decide) (hts (.fieldLink RX10 117 "NotEndedModel" "thrown" "I") (List.mem_cons_of_mem _ (List.mem_append_left _ (List.mem_of_getElem? (i := 0) rfl)))) (fun _ h9 => h9) rfl (tyX10_ok 0 (by decide)) rfl rfl (Nat.le_of_ble_eq_true rfl) dX10_all_2 (fun H locs hP hD hS => ?_)
  have hP : va_P (dC, dI) vwCl [(h0, .inr (10, [.int 0, v1, v2, v3, v4, v5, v6, .int 0, v8, v9, v10, v11, v12, v13, v14, v15, v16, v17, v18, v19, v20, v21, v22, v23, v24, v25, v26, v27, v28, v29, v30, v31, v32, v33, v34, v35, v36, v37, v38, v39, v40, v41, v42, v43, v44, v45, v46, v47, v48, v49, v50, v51]))] H := hP
  have hD : va_D A [(h0, .inr (10, [.int 0, v1, v2, v3, v4, v5, v6, .int 0, v8, v9, v10, v11, v12, v13, v14, v15, v16, v17, v18, v19, v20, v21, v22, v23, v24, v25, v26, v27, v28, v29, v30, v31, v32, v33, v34, v35, v36, v37, v38, v39, v40, v41, v42, v43, v44, v45, v46, v47, v48, v49, v50, v51]))] := hD
  refine lv_aload_n hx hb dX10_all_5 rfl (lv_at hl 0 rfl) ?_
  refine lv_iload_n hx hb dX10_all_6 rfl (lv_at hl 1 rfl) ?_
  have hPc := hP.sub (ws' := [(h0, .inr (10, [.int 0, v1, v2, v3, v4, v5, v6, .int 0, v8, v9, v10, v11, v12, v13, v14, v15, v16, v17, v18, v19, v20, v21, v22, v23, v24, v25, v26, v27, v28, v29, v30, v31, v32, v33, v34, v35, v36, v37, v38, v39, v40, v41, v42, v43, v44, v45, v46, v47, v48, v49, v50, v51]))]) [0] rfl
  have hKc := hK.sub (tys' := []) [] rfl
  refine vp_callSi (va_runV (As := [.int p0]) (rest := []) ⟨hx, hb, hml, hown, hts⟩ (c_isLaw10 l dC dI h0 (.int 0 : Value) (v1 : Value) (v2 : Value) (v3 : Value) (v4 : Value) (v5 : Value) (v6 : Value) (v8 : Value) (v9 : Value) (v10 : Value) (v11 : Value) (v12 : Value) (v13 : Value) (v14 : Value) (v15 : Value) (v16 : Value) (v17 : Value) (v18 : Value) (v19 : Value) (v20 : Value) (v21 : Value) (v22 : Value) (v23 : Value) (v24 : Value) (v25 : Value) (v26 : Value) (v27 : Value) (v28 : Value) (v29 : Value) (v30 : Value) (v31 : Value) (v32 : Value) (v33 : Value) (v34 : Value) (v35 : Value) (v36 : Value) (v37 : Value) (v38 : Value) (v39 : Value) (v40 : Value) (v41 : Value) (v42 : Value) (v43 : Value) (v44 : Value) (v45 : Value) (v46 : Value) (v47 : Value) (v48 : Value) (v49 : Value) (v50 : Value) (v51 : Value) p0) (cwV 1 hts (kG (List.forall_mem_cons.mpr ⟨(List.mem_cons_of_mem _ (List.mem_append_left _ (List.mem_of_getElem? (i := 4) rfl))), (List.forall_mem_cons.mpr ⟨(List.mem_cons_of_mem _ (List.mem_append_left _ (List.mem_of_getElem? (i := 3) rfl))), (List.forall_mem_cons.mpr ⟨(List.mem_cons_of_mem _ (List.mem_append_left _ (List.mem_of_getElem? (i := 2) rfl))), (List.forall_mem_cons.mpr ⟨(List.mem_cons_of_mem _ (List.mem_append_left _ (List.mem_of_getElem? (i := 1) rfl))), (fun _ h => absurd h List.not_mem_nil)⟩)⟩)⟩)⟩) (by decide +kernel) (fun _ h => List.mem_cons_of_mem _ (List.mem_append_right _ (List.mem_append_right _ h))) gw_c_isLaw10) rfl rfl rfl (by decide +kernel) ⟨(Nat.le_of_ble_eq_true rfl), (Nat.le_of_ble_eq_true rfl)⟩) (kR_V kT_blind kT_give (va_recv hKc hPc (ci := 10) (q0 := 0) rfl rfl) hPc hKc) rfl rfl hl.1 rfl (lv_room (Nat.le_of_ble_eq_true rfl)) dX10_all_7 ⟨(Nat.le_of_ble_eq_true rfl), (Nat.le_of_ble_eq_true rfl)⟩).run (fun r_1 hw => ?_)
  obtain rfl : r_1 = 0 := hw
  refine lv_if_eq (tgt := 34) hx hb dX10_all_10 (by decide) (fun c_2 => ?_) (fun c_2 => absurd (by decide) c_2)
  refine lv_iconst (v := (-1)) hx hb dX10_all_34 (by decide) ?_
  exact W.iret (v := (-1)) hx hb hr (fun t ht hW => ⟨⟨(-1), (), rfl, rfl, trivial⟩, hS.F ht⟩) hS.2.2 dX10_all_35

def w_c_without10 : List Cond := .code yX10_without cX10_without 6 (some .int) :: ([.fieldLink RX10 117 "NotEndedModel" "thrown" "I", .initialized RX10, .selects RX10 yX10_isLaw yX10_isLaw, .instanceMethod yX10_isLaw, .methodLink RX10 311 yX10_isLaw] ++ (wsX100 ++ (w_c_isLaw10)))
theorem gw_c_without10 : (w_c_without10).all goodWord = true := by decide +kernel
set_option maxHeartbeats 4000000 in
set_option maxRecDepth 100000 in
/-- X10_without of a new object -/
theorem c_without10 (l : Launch) (dC : Nat → ClassId) (dI : Nat → Nat → Nat) (h0 : Nat) (v0 : Value) (v1 : Value) (v2 : Value) (v3 : Value) (v4 : Value) (v5 : Value) (v6 : Value) (v8 : Value) (v9 : Value) (v10 : Value) (v11 : Value) (v12 : Value) (v13 : Value) (v14 : Value) (v15 : Value) (v16 : Value) (v17 : Value) (v18 : Value) (v19 : Value) (v20 : Value) (v21 : Value) (v22 : Value) (v23 : Value) (v24 : Value) (v25 : Value) (v26 : Value) (v27 : Value) (v28 : Value) (v29 : Value) (v30 : Value) (v31 : Value) (v32 : Value) (v33 : Value) (v34 : Value) (v35 : Value) (v36 : Value) (v37 : Value) (v38 : Value) (v39 : Value) (v40 : Value) (v41 : Value) (v42 : Value) (v43 : Value) (v44 : Value) (v45 : Value) (v46 : Value) (v47 : Value) (v48 : Value) (v49 : Value) (v50 : Value) (v51 : Value) (p0 : Int32) (p1 : Int64) (p2 : Int32) (p3 : Int32) (sz : Nat) : Met l yX10_without w_c_without10 ({ frames := 3, cells := 0, slots := 0, locals := 180 }) (kW dC dI [.ref h0, .int p0, .long p1, .int p2, .int p3] [(h0, .inr (10, [v0, v1, v2, v3, v4, v5, v6, .int 0, v8, v9, v10, v11, v12, v13, v14, v15, v16, v17, v18, v19, v20, v21, v22, v23, v24, v25, v26, v27, v28, v29, v30, v31, v32, v33, v34, v35, v36, v37, v38, v39, v40, v41, v42, v43, v44, v45, v46, v47, v48, v49, v50, v51]))] [] kT sz) (va_Qi (fun (r : Int32) (_ : Unit) => r = (-1000)) (fun _ _ => True) (va_A [(h0, .inr (10, [v0, v1, v2, v3, v4, v5, v6, .int 0, v8, v9, v10, v11, v12, v13, v14, v15, v16, v17, v18, v19, v20, v21, v22, v23, v24, v25, v26, v27, v28, v29, v30, v31, v32, v33, v34, v35, v36, v37, v38, v39, v40, v41, v42, v43, v44, v45, v46, v47, v48, v49, v50, v51]))] sz)) 0 0 (va_A [(h0, .inr (10, [v0, v1, v2, v3, v4, v5, v6, .int 0, v8, v9, v10, v11, v12, v13, v14, v15, v16, v17, v18, v19, v20, v21, v22, v23, v24, v25, v26, v27, v28, v29, v30, v31, v32, v33, v34, v35, v36, v37, v38, v39, v40, v41, v42, v43, v44, v45, v46, v47, v48, v49, v50, v51]))] sz) := by
  refine Met.ofW (cc := cX10_without) (maxL := 6) (ret := (some .int)) (by decide) rfl ?_
  intro p e s m args below meth c s₁ B hml hv
  obtain ⟨rfl, hsz, hP, hK, hD0, hX⟩ := hv
  have hx := B.exec
  have hb := B.bytes
  have hr := B.returns
  have hts := atoms_spec (ws := w_c_without10) B.pre
  have hown : s.vm.findClass RX10 = some m.cls := findClass_of_methodNamed B.named
  have hlocks := B.notSynchronized
  subst hsz
  have hD := hD0.self (sz := s.heap.size)
  generalize hAe : va_A [(h0, .inr (10, [v0, v1, v2, v3, v4, v5, v6, .int 0, v8, v9, v10, v11, v12, v13, v14, v15, v16, v17, v18, v19, v20, v21, v22, v23, v24, v25, v26, v27, v28, v29, v30, v31, v32, v33, v34, v35, v36, v37, v38, v39, v40, v41, v42, v43, v44, v45, v46, v47, v48, v49, v50, v51]))] s.heap.size = A at hD ⊢
  have hA : ∀ q : Nat, s.heap.size ≤ q → A q := fun q h => by rw [← hAe]; exact Or.inr h
  have hS : va_S A s.heap s.heap [] := va_S.rf
  have hP : va_P (dC, dI) vwCl [(h0, .inr (10, [v0, v1, v2, v3, v4, v5, v6, .int 0, v8, v9, v10, v11, v12, v13, v14, v15, v16, v17, v18, v19, v20, v21, v22, v23, v24, v25, v26, v27, v28, v29, v30, v31, v32, v33, v34, v35, v36, v37, v38, v39, v40, v41, v42, v43, v44, v45, v46, v47, v48, v49, v50, v51]))] s.heap := hP
  have hl := lv_entry ([.ref h0, .int p0, .long p1, .int p2, .int p3]) (n := 6) (Nat.le_of_ble_eq_true rfl)
  rw [lg_entry_eq]
  generalize (lg_sl ([.ref h0, .int p0, .long p1, .int p2, .int p3]) ++ List.replicate (6 - (lg_sl ([.ref h0, .int p0, .long p1, .int p2, .int p3])).length) Slot.unset).toArray = ls at hl ⊢
  have hl : lv_has ls 6 [(0, .ref h0), (1, .int p0), (2, .long p1), (4, .int p2), (5, .int p3)] := hl
  refine lv_aload_n hx hb dX10_without_0 rfl (lv_at hl 0 rfl) ?_
  refine lv_iconst (v := 0) hx hb dX10_without_1 (by decide) ?_
  refine va_put (D := (dC, dI)) (ci := 10) (v := .int 0) (ty := tyX10 0) (C := RX10) (T := TX10) (N := 52) hx hb hts (fun _ h => List.mem_cons_of_mem _ (List.mem_append_right _ (List.mem_append_left _ h))) tyX10 tyX10_ok nmX10 hown hK hP hD hS 0 rfl rfl 0 (by decide) (hts (.fieldLink RX10 117 "NotEndedModel" "thrown" "I") (List.mem_cons_of_mem _ (List.mem_append_left _ (List.mem_of_getElem? (i := 0) rfl)))) (fun _ h9 => h9) rfl (tyX10_ok 0 (by decide)) rfl rfl (Nat.le_of_ble_eq_true rfl) dX10_without_2 (fun H locs hP hD hS => ?_)
  have hP : va_P (dC, dI) vwCl [(h0, .inr (10, [.int 0, v1, v2, v3, v4, v5, v6, .int 0, v8, v9, v10, v11, v12, v13, v14, v15, v16, v17, v18, v19, v20, v21, v22, v23, v24, v25, v26, v27, v28, v29, v30, v31, v32, v33, v34, v35, v36, v37, v38, v39, v40, v41, v42, v43, v44, v45, v46, v47, v48, v49, v50, v51]))] H := hP
  have hD : va_D A [(h0, .inr (10, [.int 0, v1, v2, v3, v4, v5, v6, .int 0, v8, v9, v10, v11, v12, v13, v14, v15, v16, v17, v18, v19, v20, v21, v22, v23, v24, v25, v26, v27, v28, v29, v30, v31, v32, v33, v34, v35, v36, v37, v38, v39, v40, v41, v42, v43, v44, v45, v46, v47, v48, v49, v50, v51]))] := hD
  refine lv_aload_n hx hb dX10_without_5 rfl (lv_at hl 0 rfl) ?_
  refine lv_iload_n hx hb dX10_without_6 rfl (lv_at hl 1 rfl) ?_
  have hPc := hP.sub (ws' := [(h0, .inr (10, [.int 0, v1, v2, v3, v4, v5, v6, .int 0, v8, v9, v10, v11, v12, v13, v14, v15, v16, v17, v18, v19, v20, v21, v22, v23, v24, v25, v26, v27, v28, v29, v30, v31, v32, v33, v34, v35, v36, v37, v38, v39, v40, v41, v42, v43, v44, v45, v46, v47, v48, v49, v50, v51]))]) [0] rfl
  have hKc := hK.sub (tys' := []) [] rfl
  refine vp_callSi (va_runV (As := [.int p0]) (rest := []) ⟨hx, hb, hml, hown, hts⟩ (c_isLaw10 l dC dI h0 (.int 0 : Value) (v1 : Value) (v2 : Value) (v3 : Value) (v4 : Value) (v5 : Value) (v6 : Value) (v8 : Value) (v9 : Value) (v10 : Value) (v11 : Value) (v12 : Value) (v13 : Value) (v14 : Value) (v15 : Value) (v16 : Value) (v17 : Value) (v18 : Value) (v19 : Value) (v20 : Value) (v21 : Value) (v22 : Value) (v23 : Value) (v24 : Value) (v25 : Value) (v26 : Value) (v27 : Value) (v28 : Value) (v29 : Value) (v30 : Value) (v31 : Value) (v32 : Value) (v33 : Value) (v34 : Value) (v35 : Value) (v36 : Value) (v37 : Value) (v38 : Value) (v39 : Value) (v40 : Value) (v41 : Value) (v42 : Value) (v43 : Value) (v44 : Value) (v45 : Value) (v46 : Value) (v47 : Value) (v48 : Value) (v49 : Value) (v50 : Value) (v51 : Value) p0) (cwV 1 hts (kG (List.forall_mem_cons.mpr ⟨(List.mem_cons_of_mem _ (List.mem_append_left _ (List.mem_of_getElem? (i := 4) rfl))), (List.forall_mem_cons.mpr ⟨(List.mem_cons_of_mem _ (List.mem_append_left _ (List.mem_of_getElem? (i := 3) rfl))), (List.forall_mem_cons.mpr ⟨(List.mem_cons_of_mem _ (List.mem_append_left _ (List.mem_of_getElem? (i := 2) rfl))), (List.forall_mem_cons.mpr ⟨(List.mem_cons_of_mem _ (List.mem_append_left _ (List.mem_of_getElem? (i := 1) rfl))), (fun _ h => absurd h List.not_mem_nil)⟩)⟩)⟩)⟩) (by decide +kernel) (fun _ h => List.mem_cons_of_mem _ (List.mem_append_right _ (List.mem_append_right _ h))) gw_c_isLaw10) rfl rfl rfl (by decide +kernel) ⟨(Nat.le_of_ble_eq_true rfl), (Nat.le_of_ble_eq_true rfl)⟩) (kR_V kT_blind kT_give (va_recv hKc hPc (ci := 10) (q0 := 0) rfl rfl) hPc hKc) rfl rfl hl.1 rfl (lv_room (Nat.le_of_ble_eq_true rfl)) dX10_without_7 ⟨(Nat.le_of_ble_eq_true rfl), (Nat.le_of_ble_eq_true rfl)⟩).run (fun r_1 hw => ?_)
  obtain rfl : r_1 = 0 := hw
  refine lv_if_eq (tgt := 46) hx hb dX10_without_10 (by decide) (fun c_2 => ?_) (fun c_2 => absurd (by decide) c_2)
  refine lv_sipush (v := (-1000)) hx hb dX10_without_46 (by decide) ?_
  exact W.iret (v := (-1000)) hx hb hr (fun t ht hW => ⟨⟨(-1000), (), rfl, rfl, trivial⟩, hS.F ht⟩) hS.2.2 dX10_without_49

def w_c_did10 : List Cond := .code yX10_did cX10_did 6 (some .int) :: ([.fieldLink RX10 117 "NotEndedModel" "thrown" "I", .initialized RX10, .selects RX10 yX10_isAsked yX10_isAsked, .instanceMethod yX10_isAsked, .methodLink RX10 325 yX10_isAsked] ++ (wsX100 ++ (w_c_isAsked10)))
theorem gw_c_did10 : (w_c_did10).all goodWord = true := by decide +kernel
set_option maxHeartbeats 4000000 in
set_option maxRecDepth 100000 in
/-- X10_did of a new object -/
theorem c_did10 (l : Launch) (dC : Nat → ClassId) (dI : Nat → Nat → Nat) (h0 : Nat) (v0 : Value) (v1 : Value) (v2 : Value) (v3 : Value) (v4 : Value) (v5 : Value) (v6 : Value) (v8 : Value) (v9 : Value) (v10 : Value) (v11 : Value) (v12 : Value) (v13 : Value) (v14 : Value) (v15 : Value) (v16 : Value) (v17 : Value) (v18 : Value) (v19 : Value) (v20 : Value) (v21 : Value) (v22 : Value) (v23 : Value) (v24 : Value) (v25 : Value) (v26 : Value) (v27 : Value) (v28 : Value) (v29 : Value) (v30 : Value) (v31 : Value) (v32 : Value) (v33 : Value) (v34 : Value) (v35 : Value) (v36 : Value) (v37 : Value) (v38 : Value) (v39 : Value) (v40 : Value) (v41 : Value) (v42 : Value) (v43 : Value) (v44 : Value) (v45 : Value) (v46 : Value) (v47 : Value) (v48 : Value) (v49 : Value) (v50 : Value) (v51 : Value) (p0 : Int32) (p1 : Int64) (p2 : Int32) (sz : Nat) : Met l yX10_did w_c_did10 ({ frames := 3, cells := 0, slots := 0, locals := 180 }) (kW dC dI [.ref h0, .int p0, .long p1, .int p2] [(h0, .inr (10, [v0, v1, v2, v3, v4, v5, v6, .int 0, v8, v9, v10, v11, v12, v13, v14, v15, v16, v17, v18, v19, v20, v21, v22, v23, v24, v25, v26, v27, v28, v29, v30, v31, v32, v33, v34, v35, v36, v37, v38, v39, v40, v41, v42, v43, v44, v45, v46, v47, v48, v49, v50, v51]))] [] kT sz) (va_Qi (fun (r : Int32) (_ : Unit) => r = (-1000)) (fun _ _ => True) (va_A [(h0, .inr (10, [v0, v1, v2, v3, v4, v5, v6, .int 0, v8, v9, v10, v11, v12, v13, v14, v15, v16, v17, v18, v19, v20, v21, v22, v23, v24, v25, v26, v27, v28, v29, v30, v31, v32, v33, v34, v35, v36, v37, v38, v39, v40, v41, v42, v43, v44, v45, v46, v47, v48, v49, v50, v51]))] sz)) 0 0 (va_A [(h0, .inr (10, [v0, v1, v2, v3, v4, v5, v6, .int 0, v8, v9, v10, v11, v12, v13, v14, v15, v16, v17, v18, v19, v20, v21, v22, v23, v24, v25, v26, v27, v28, v29, v30, v31, v32, v33, v34, v35, v36, v37, v38, v39, v40, v41, v42, v43, v44, v45, v46, v47, v48, v49, v50, v51]))] sz) := by
  refine Met.ofW (cc := cX10_did) (maxL := 6) (ret := (some .int)) (by decide) rfl ?_
  intro p e s m args below meth c s₁ B hml hv
  obtain ⟨rfl, hsz, hP, hK, hD0, hX⟩ := hv
  have hx := B.exec
  have hb := B.bytes
  have hr := B.returns
  have hts := atoms_spec (ws := w_c_did10) B.pre
  have hown : s.vm.findClass RX10 = some m.cls := findClass_of_methodNamed B.named
  have hlocks := B.notSynchronized
  subst hsz
  have hD := hD0.self (sz := s.heap.size)
  generalize hAe : va_A [(h0, .inr (10, [v0, v1, v2, v3, v4, v5, v6, .int 0, v8, v9, v10, v11, v12, v13, v14, v15, v16, v17, v18, v19, v20, v21, v22, v23, v24, v25, v26, v27, v28, v29, v30, v31, v32, v33, v34, v35, v36, v37, v38, v39, v40, v41, v42, v43, v44, v45, v46, v47, v48, v49, v50, v51]))] s.heap.size = A at hD ⊢
  have hA : ∀ q : Nat, s.heap.size ≤ q → A q := fun q h => by rw [← hAe]; exact Or.inr h
  have hS : va_S A s.heap s.heap [] := va_S.rf
  have hP : va_P (dC, dI) vwCl [(h0, .inr (10, [v0, v1, v2, v3, v4, v5, v6, .int 0, v8, v9, v10, v11, v12, v13, v14, v15, v16, v17, v18, v19, v20, v21, v22, v23, v24, v25, v26, v27, v28, v29, v30, v31, v32, v33, v34, v35, v36, v37, v38, v39, v40, v41, v42, v43, v44, v45, v46, v47, v48, v49, v50, v51]))] s.heap := hP
  have hl := lv_entry ([.ref h0, .int p0, .long p1, .int p2]) (n := 6) (Nat.le_of_ble_eq_true rfl)
  rw [lg_entry_eq]
  generalize (lg_sl ([.ref h0, .int p0, .long p1, .int p2]) ++ List.replicate (6 - (lg_sl ([.ref h0, .int p0, .long p1, .int p2])).length) Slot.unset).toArray = ls at hl ⊢
  have hl : lv_has ls 6 [(0, .ref h0), (1, .int p0), (2, .long p1), (4, .int p2)] := hl
  refine lv_aload_n hx hb dX10_did_0 rfl (lv_at hl 0 rfl) ?_
  refine lv_iconst (v := 0) hx hb dX10_did_1 (by decide) ?_
  refine va_put (D := (dC, dI)) (ci := 10) (v := .int 0) (ty := tyX10 0) (C := RX10) (T := TX10) (N := 52) hx hb hts (fun _ h => List.mem_cons_of_mem _ (List.mem_append_right _ (List.mem_append_left _ h))) tyX10 tyX10_ok nmX10 hown hK hP hD hS 0 rfl rfl 0 (by decide) (hts (.fieldLink RX10 117 "NotEndedModel" "thrown" "I") (List.mem_cons_of_mem _ (List.mem_append_left _ (List.mem_of_getElem? (i := 0) rfl)))) (fun _ h9 => h9) rfl (tyX10_ok 0 (by decide)) rfl rfl (Nat.le_of_ble_eq_true rfl) dX10_did_2 (fun H locs hP hD hS => ?_)
  have hP : va_P (dC, dI) vwCl [(h0, .inr (10, [.int 0, v1, v2, v3, v4, v5, v6, .int 0, v8, v9, v10, v11, v12, v13, v14, v15, v16, v17, v18, v19, v20, v21, v22, v23, v24, v25, v26, v27, v28, v29, v30, v31, v32, v33, v34, v35, v36, v37, v38, v39, v40, v41, v42, v43, v44, v45, v46, v47, v48, v49, v50, v51]))] H := hP
  have hD : va_D A [(h0, .inr (10, [.int 0, v1, v2, v3, v4, v5, v6, .int 0, v8, v9, v10, v11, v12, v13, v14, v15, v16, v17, v18, v19, v20, v21, v22, v23, v24, v25, v26, v27, v28, v29, v30, v31, v32, v33, v34, v35, v36, v37, v38, v39, v40, v41, v42, v43, v44, v45, v46, v47, v48, v49, v50, v51]))] := hD
  refine lv_aload_n hx hb dX10_did_5 rfl (lv_at hl 0 rfl) ?_
  refine lv_iload_n hx hb dX10_did_6 rfl (lv_at hl 1 rfl) ?_
  refine lv_iload hx hb dX10_did_7 (lv_at hl 3 rfl) ?_
  have hPc := hP.sub (ws' := [(h0, .inr (10, [.int 0, v1, v2, v3, v4, v5, v6, .int 0, v8, v9, v10, v11, v12, v13, v14, v15, v16, v17, v18, v19, v20, v21, v22, v23, v24, v25, v26, v27, v28, v29, v30, v31, v32, v33, v34, v35, v36, v37, v38, v39, v40, v41, v42, v43, v44, v45, v46, v47, v48, v49, v50, v51]))]) [0] rfl
  have hKc := hK.sub (tys' := []) [] rfl
  refine vp_callSi (va_runV (As := [.int p0, .int p2]) (rest := []) ⟨hx, hb, hml, hown, hts⟩ (c_isAsked10 l dC dI h0 (.int 0 : Value) (v1 : Value) (v2 : Value) (v3 : Value) (v4 : Value) (v5 : Value) (v6 : Value) (v8 : Value) (v9 : Value) (v10 : Value) (v11 : Value) (v12 : Value) (v13 : Value) (v14 : Value) (v15 : Value) (v16 : Value) (v17 : Value) (v18 : Value) (v19 : Value) (v20 : Value) (v21 : Value) (v22 : Value) (v23 : Value) (v24 : Value) (v25 : Value) (v26 : Value) (v27 : Value) (v28 : Value) (v29 : Value) (v30 : Value) (v31 : Value) (v32 : Value) (v33 : Value) (v34 : Value) (v35 : Value) (v36 : Value) (v37 : Value) (v38 : Value) (v39 : Value) (v40 : Value) (v41 : Value) (v42 : Value) (v43 : Value) (v44 : Value) (v45 : Value) (v46 : Value) (v47 : Value) (v48 : Value) (v49 : Value) (v50 : Value) (v51 : Value) p0 p2) (cwV 2 hts (kG (List.forall_mem_cons.mpr ⟨(List.mem_cons_of_mem _ (List.mem_append_left _ (List.mem_of_getElem? (i := 4) rfl))), (List.forall_mem_cons.mpr ⟨(List.mem_cons_of_mem _ (List.mem_append_left _ (List.mem_of_getElem? (i := 3) rfl))), (List.forall_mem_cons.mpr ⟨(List.mem_cons_of_mem _ (List.mem_append_left _ (List.mem_of_getElem? (i := 2) rfl))), (List.forall_mem_cons.mpr ⟨(List.mem_cons_of_mem _ (List.mem_append_left _ (List.mem_of_getElem? (i := 1) rfl))), (fun _ h => absurd h List.not_mem_nil)⟩)⟩)⟩)⟩) (by decide +kernel) (fun _ h => List.mem_cons_of_mem _ (List.mem_append_right _ (List.mem_append_right _ h))) gw_c_isAsked10) rfl rfl rfl (by decide +kernel) ⟨(Nat.le_of_ble_eq_true rfl), (Nat.le_of_ble_eq_true rfl)⟩) (kR_V kT_blind kT_give (va_recv hKc hPc (ci := 10) (q0 := 0) rfl rfl) hPc hKc) rfl rfl hl.1 rfl (lv_room (Nat.le_of_ble_eq_true rfl)) dX10_did_9 ⟨(Nat.le_of_ble_eq_true rfl), (Nat.le_of_ble_eq_true rfl)⟩).run (fun r_1 hw => ?_)
  obtain rfl : r_1 = 0 := hw
  refine lv_if_ne (tgt := 19) hx hb dX10_did_12 (by decide) (fun c_2 => absurd c_2 (by decide)) (fun c_2 => ?_)
  refine lv_sipush (v := (-1000)) hx hb dX10_did_15 (by decide) ?_
  exact W.iret (v := (-1000)) hx hb hr (fun t ht hW => ⟨⟨(-1000), (), rfl, rfl, trivial⟩, hS.F ht⟩) hS.2.2 dX10_did_18

def w_c_lean10 : List Cond := .code yX10_lean cX10_lean 7 (some .int) :: ([.fieldLink RX10 117 "NotEndedModel" "thrown" "I", .initialized RX10, .selects RX10 yX10_isAsked yX10_isAsked, .instanceMethod yX10_isAsked, .methodLink RX10 325 yX10_isAsked] ++ (wsX100 ++ (w_c_isAsked10)))
theorem gw_c_lean10 : (w_c_lean10).all goodWord = true := by decide +kernel
set_option maxHeartbeats 4000000 in
set_option maxRecDepth 100000 in
/-- X10_lean of a new object -/
theorem c_lean10 (l : Launch) (dC : Nat → ClassId) (dI : Nat → Nat → Nat) (h0 : Nat) (v0 : Value) (v1 : Value) (v2 : Value) (v3 : Value) (v4 : Value) (v5 : Value) (v6 : Value) (v8 : Value) (v9 : Value) (v10 : Value) (v11 : Value) (v12 : Value) (v13 : Value) (v14 : Value) (v15 : Value) (v16 : Value) (v17 : Value) (v18 : Value) (v19 : Value) (v20 : Value) (v21 : Value) (v22 : Value) (v23 : Value) (v24 : Value) (v25 : Value) (v26 : Value) (v27 : Value) (v28 : Value) (v29 : Value) (v30 : Value) (v31 : Value) (v32 : Value) (v33 : Value) (v34 : Value) (v35 : Value) (v36 : Value) (v37 : Value) (v38 : Value) (v39 : Value) (v40 : Value) (v41 : Value) (v42 : Value) (v43 : Value) (v44 : Value) (v45 : Value) (v46 : Value) (v47 : Value) (v48 : Value) (v49 : Value) (v50 : Value) (v51 : Value) (p0 : Int32) (p1 : Int64) (p2 : Int32) (p3 : Int32) (sz : Nat) : Met l yX10_lean w_c_lean10 ({ frames := 3, cells := 0, slots := 0, locals := 180 }) (kW dC dI [.ref h0, .int p0, .long p1, .int p2, .int p3] [(h0, .inr (10, [v0, v1, v2, v3, v4, v5, v6, .int 0, v8, v9, v10, v11, v12, v13, v14, v15, v16, v17, v18, v19, v20, v21, v22, v23, v24, v25, v26, v27, v28, v29, v30, v31, v32, v33, v34, v35, v36, v37, v38, v39, v40, v41, v42, v43, v44, v45, v46, v47, v48, v49, v50, v51]))] [] kT sz) (va_Qi (fun (r : Int32) (_ : Unit) => r = (-1000)) (fun _ _ => True) (va_A [(h0, .inr (10, [v0, v1, v2, v3, v4, v5, v6, .int 0, v8, v9, v10, v11, v12, v13, v14, v15, v16, v17, v18, v19, v20, v21, v22, v23, v24, v25, v26, v27, v28, v29, v30, v31, v32, v33, v34, v35, v36, v37, v38, v39, v40, v41, v42, v43, v44, v45, v46, v47, v48, v49, v50, v51]))] sz)) 0 0 (va_A [(h0, .inr (10, [v0, v1, v2, v3, v4, v5, v6, .int 0, v8, v9, v10, v11, v12, v13, v14, v15, v16, v17, v18, v19, v20, v21, v22, v23, v24, v25, v26, v27, v28, v29, v30, v31, v32, v33, v34, v35, v36, v37, v38, v39, v40, v41, v42, v43, v44, v45, v46, v47, v48, v49, v50, v51]))] sz) := by
  refine Met.ofW (cc := cX10_lean) (maxL := 7) (ret := (some .int)) (by decide) rfl ?_
  intro p e s m args below meth c s₁ B hml hv
  obtain ⟨rfl, hsz, hP, hK, hD0, hX⟩ := hv
  have hx := B.exec
  have hb := B.bytes
  have hr := B.returns
  have hts := atoms_spec (ws := w_c_lean10) B.pre
  have hown : s.vm.findClass RX10 = some m.cls := findClass_of_methodNamed B.named
  have hlocks := B.notSynchronized
  subst hsz
  have hD := hD0.self (sz := s.heap.size)
  generalize hAe : va_A [(h0, .inr (10, [v0, v1, v2, v3, v4, v5, v6, .int 0, v8, v9, v10, v11, v12, v13, v14, v15, v16, v17, v18, v19, v20, v21, v22, v23, v24, v25, v26, v27, v28, v29, v30, v31, v32, v33, v34, v35, v36, v37, v38, v39, v40, v41, v42, v43, v44, v45, v46, v47, v48, v49, v50, v51]))] s.heap.size = A at hD ⊢
  have hA : ∀ q : Nat, s.heap.size ≤ q → A q := fun q h => by rw [← hAe]; exact Or.inr h
  have hS : va_S A s.heap s.heap [] := va_S.rf
  have hP : va_P (dC, dI) vwCl [(h0, .inr (10, [v0, v1, v2, v3, v4, v5, v6, .int 0, v8, v9, v10, v11, v12, v13, v14, v15, v16, v17, v18, v19, v20, v21, v22, v23, v24, v25, v26, v27, v28, v29, v30, v31, v32, v33, v34, v35, v36, v37, v38, v39, v40, v41, v42, v43, v44, v45, v46, v47, v48, v49, v50, v51]))] s.heap := hP
  have hl := lv_entry ([.ref h0, .int p0, .long p1, .int p2, .int p3]) (n := 7) (Nat.le_of_ble_eq_true rfl)
  rw [lg_entry_eq]
  generalize (lg_sl ([.ref h0, .int p0, .long p1, .int p2, .int p3]) ++ List.replicate (7 - (lg_sl ([.ref h0, .int p0, .long p1, .int p2, .int p3])).length) Slot.unset).toArray = ls at hl ⊢
  have hl : lv_has ls 7 [(0, .ref h0), (1, .int p0), (2, .long p1), (4, .int p2), (5, .int p3)] := hl
  refine lv_aload_n hx hb dX10_lean_0 rfl (lv_at hl 0 rfl) ?_
  refine lv_iconst (v := 0) hx hb dX10_lean_1 (by decide) ?_
  refine va_put (D := (dC, dI)) (ci := 10) (v := .int 0) (ty := tyX10 0) (C := RX10) (T := TX10) (N := 52) hx hb hts (fun _ h => List.mem_cons_of_mem _ (List.mem_append_right _ (List.mem_append_left _ h))) tyX10 tyX10_ok nmX10 hown hK hP hD hS 0 rfl rfl 0 (by decide) (hts (.fieldLink RX10 117 "NotEndedModel" "thrown" "I") (List.mem_cons_of_mem _ (List.mem_append_left _ (List.mem_of_getElem? (i := 0) rfl)))) (fun _ h9 => h9) rfl (tyX10_ok 0 (by decide)) rfl rfl (Nat.le_of_ble_eq_true rfl) dX10_lean_2 (fun H locs hP hD hS => ?_)
  have hP : va_P (dC, dI) vwCl [(h0, .inr (10, [.int 0, v1, v2, v3, v4, v5, v6, .int 0, v8, v9, v10, v11, v12, v13, v14, v15, v16, v17, v18, v19, v20, v21, v22, v23, v24, v25, v26, v27, v28, v29, v30, v31, v32, v33, v34, v35, v36, v37, v38, v39, v40, v41, v42, v43, v44, v45, v46, v47, v48, v49, v50, v51]))] H := hP
  have hD : va_D A [(h0, .inr (10, [.int 0, v1, v2, v3, v4, v5, v6, .int 0, v8, v9, v10, v11, v12, v13, v14, v15, v16, v17, v18, v19, v20, v21, v22, v23, v24, v25, v26, v27, v28, v29, v30, v31, v32, v33, v34, v35, v36, v37, v38, v39, v40, v41, v42, v43, v44, v45, v46, v47, v48, v49, v50, v51]))] := hD
  refine lv_aload_n hx hb dX10_lean_5 rfl (lv_at hl 0 rfl) ?_
  refine lv_iload_n hx hb dX10_lean_6 rfl (lv_at hl 1 rfl) ?_
  refine lv_iload hx hb dX10_lean_7 (lv_at hl 3 rfl) ?_
  have hPc := hP.sub (ws' := [(h0, .inr (10, [.int 0, v1, v2, v3, v4, v5, v6, .int 0, v8, v9, v10, v11, v12, v13, v14, v15, v16, v17, v18, v19, v20, v21, v22, v23, v24, v25, v26, v27, v28, v29, v30, v31, v32, v33, v34, v35, v36, v37, v38, v39, v40, v41, v42, v43, v44, v45, v46, v47, v48, v49, v50, v51]))]) [0] rfl
  have hKc := hK.sub (tys' := []) [] rfl
  refine vp_callSi (va_runV (As := [.int p0, .int p2]) (rest := []) ⟨hx, hb, hml, hown, hts⟩ (c_isAsked10 l dC dI h0 (.int 0 : Value) (v1 : Value) (v2 : Value) (v3 : Value) (v4 : Value) (v5 : Value) (v6 : Value) (v8 : Value) (v9 : Value) (v10 : Value) (v11 : Value) (v12 : Value) (v13 : Value) (v14 : Value) (v15 : Value) (v16 : Value) (v17 : Value) (v18 : Value) (v19 : Value) (v20 : Value) (v21 : Value) (v22 : Value) (v23 : Value) (v24 : Value) (v25 : Value) (v26 : Value) (v27 : Value) (v28 : Value) (v29 : Value) (v30 : Value) (v31 : Value) (v32 : Value) (v33 : Value) (v34 : Value) (v35 : Value) (v36 : Value) (v37 : Value) (v38 : Value) (v39 : Value) (v40 : Value) (v41 : Value) (v42 : Value) (v43 : Value) (v44 : Value) (v45 : Value) (v46 : Value) (v47 : Value) (v48 : Value) (v49 : Value) (v50 : Value) (v51 : Value) p0 p2) (cwV 2 hts (kG (List.forall_mem_cons.mpr ⟨(List.mem_cons_of_mem _ (List.mem_append_left _ (List.mem_of_getElem? (i := 4) rfl))), (List.forall_mem_cons.mpr ⟨(List.mem_cons_of_mem _ (List.mem_append_left _ (List.mem_of_getElem? (i := 3) rfl))), (List.forall_mem_cons.mpr ⟨(List.mem_cons_of_mem _ (List.mem_append_left _ (List.mem_of_getElem? (i := 2) rfl))), (List.forall_mem_cons.mpr ⟨(List.mem_cons_of_mem _ (List.mem_append_left _ (List.mem_of_getElem? (i := 1) rfl))), (fun _ h => absurd h List.not_mem_nil)⟩)⟩)⟩)⟩) (by decide +kernel) (fun _ h => List.mem_cons_of_mem _ (List.mem_append_right _ (List.mem_append_right _ h))) gw_c_isAsked10) rfl rfl rfl (by decide +kernel) ⟨(Nat.le_of_ble_eq_true rfl), (Nat.le_of_ble_eq_true rfl)⟩) (kR_V kT_blind kT_give (va_recv hKc hPc (ci := 10) (q0 := 0) rfl rfl) hPc hKc) rfl rfl hl.1 rfl (lv_room (Nat.le_of_ble_eq_true rfl)) dX10_lean_9 ⟨(Nat.le_of_ble_eq_true rfl), (Nat.le_of_ble_eq_true rfl)⟩).run (fun r_1 hw => ?_)
  obtain rfl : r_1 = 0 := hw
  refine lv_if_eq (tgt := 25) hx hb dX10_lean_12 (by decide) (fun c_2 => ?_) (fun c_2 => absurd (by decide) c_2)
  refine lv_sipush (v := (-1000)) hx hb dX10_lean_25 (by decide) ?_
  exact W.iret (v := (-1000)) hx hb hr (fun t ht hW => ⟨⟨(-1000), (), rfl, rfl, trivial⟩, hS.F ht⟩) hS.2.2 dX10_lean_28

def w_c_books10 : List Cond := .code yX10_books cX10_books 11 (some .int) :: ([.fieldLink RX10 117 "NotEndedModel" "thrown" "I", .initialized RX10, .selects RX10 yX10_isLaw yX10_isLaw, .instanceMethod yX10_isLaw, .methodLink RX10 311 yX10_isLaw] ++ (wsX100 ++ (w_c_isLaw10)))
theorem gw_c_books10 : (w_c_books10).all goodWord = true := by decide +kernel
set_option maxHeartbeats 4000000 in
set_option maxRecDepth 100000 in
/-- X10_books of a new object -/
theorem c_books10 (l : Launch) (dC : Nat → ClassId) (dI : Nat → Nat → Nat) (h0 : Nat) (v0 : Value) (v1 : Value) (v2 : Value) (v3 : Value) (v4 : Value) (v5 : Value) (v6 : Value) (v8 : Value) (v9 : Value) (v10 : Value) (v11 : Value) (v12 : Value) (v13 : Value) (v14 : Value) (v15 : Value) (v16 : Value) (v17 : Value) (v18 : Value) (v19 : Value) (v20 : Value) (v21 : Value) (v22 : Value) (v23 : Value) (v24 : Value) (v25 : Value) (v26 : Value) (v27 : Value) (v28 : Value) (v29 : Value) (v30 : Value) (v31 : Value) (v32 : Value) (v33 : Value) (v34 : Value) (v35 : Value) (v36 : Value) (v37 : Value) (v38 : Value) (v39 : Value) (v40 : Value) (v41 : Value) (v42 : Value) (v43 : Value) (v44 : Value) (v45 : Value) (v46 : Value) (v47 : Value) (v48 : Value) (v49 : Value) (v50 : Value) (v51 : Value) (p0 : Int32) (p1 : Int64) (p2 : Int32) (sz : Nat) : Met l yX10_books w_c_books10 ({ frames := 3, cells := 0, slots := 0, locals := 180 }) (kW dC dI [.ref h0, .int p0, .long p1, .int p2] [(h0, .inr (10, [v0, v1, v2, v3, v4, v5, v6, .int 0, v8, v9, v10, v11, v12, v13, v14, v15, v16, v17, v18, v19, v20, v21, v22, v23, v24, v25, v26, v27, v28, v29, v30, v31, v32, v33, v34, v35, v36, v37, v38, v39, v40, v41, v42, v43, v44, v45, v46, v47, v48, v49, v50, v51]))] [] kT sz) (va_Qi (fun (r : Int32) (_ : Unit) => r = (-1000)) (fun _ _ => True) (va_A [(h0, .inr (10, [v0, v1, v2, v3, v4, v5, v6, .int 0, v8, v9, v10, v11, v12, v13, v14, v15, v16, v17, v18, v19, v20, v21, v22, v23, v24, v25, v26, v27, v28, v29, v30, v31, v32, v33, v34, v35, v36, v37, v38, v39, v40, v41, v42, v43, v44, v45, v46, v47, v48, v49, v50, v51]))] sz)) 0 0 (va_A [(h0, .inr (10, [v0, v1, v2, v3, v4, v5, v6, .int 0, v8, v9, v10, v11, v12, v13, v14, v15, v16, v17, v18, v19, v20, v21, v22, v23, v24, v25, v26, v27, v28, v29, v30, v31, v32, v33, v34, v35, v36, v37, v38, v39, v40, v41, v42, v43, v44, v45, v46, v47, v48, v49, v50, v51]))] sz) := by
  refine Met.ofW (cc := cX10_books) (maxL := 11) (ret := (some .int)) (by decide) rfl ?_
  intro p e s m args below meth c s₁ B hml hv
  obtain ⟨rfl, hsz, hP, hK, hD0, hX⟩ := hv
  have hx := B.exec
  have hb := B.bytes
  have hr := B.returns
  have hts := atoms_spec (ws := w_c_books10) B.pre
  have hown : s.vm.findClass RX10 = some m.cls := findClass_of_methodNamed B.named
  have hlocks := B.notSynchronized
  subst hsz
  have hD := hD0.self (sz := s.heap.size)
  generalize hAe : va_A [(h0, .inr (10, [v0, v1, v2, v3, v4, v5, v6, .int 0, v8, v9, v10, v11, v12, v13, v14, v15, v16, v17, v18, v19, v20, v21, v22, v23, v24, v25, v26, v27, v28, v29, v30, v31, v32, v33, v34, v35, v36, v37, v38, v39, v40, v41, v42, v43, v44, v45, v46, v47, v48, v49, v50, v51]))] s.heap.size = A at hD ⊢
  have hA : ∀ q : Nat, s.heap.size ≤ q → A q := fun q h => by rw [← hAe]; exact Or.inr h
  have hS : va_S A s.heap s.heap [] := va_S.rf
  have hP : va_P (dC, dI) vwCl [(h0, .inr (10, [v0, v1, v2, v3, v4, v5, v6, .int 0, v8, v9, v10, v11, v12, v13, v14, v15, v16, v17, v18, v19, v20, v21, v22, v23, v24, v25, v26, v27, v28, v29, v30, v31, v32, v33, v34, v35, v36, v37, v38, v39, v40, v41, v42, v43, v44, v45, v46, v47, v48, v49, v50, v51]))] s.heap := hP
  have hl := lv_entry ([.ref h0, .int p0, .long p1, .int p2]) (n := 11) (Nat.le_of_ble_eq_true rfl)
  rw [lg_entry_eq]
  generalize (lg_sl ([.ref h0, .int p0, .long p1, .int p2]) ++ List.replicate (11 - (lg_sl ([.ref h0, .int p0, .long p1, .int p2])).length) Slot.unset).toArray = ls at hl ⊢
  have hl : lv_has ls 11 [(0, .ref h0), (1, .int p0), (2, .long p1), (4, .int p2)] := hl
  refine lv_aload_n hx hb dX10_books_0 rfl (lv_at hl 0 rfl) ?_
  refine lv_iconst (v := 0) hx hb dX10_books_1 (by decide) ?_
  refine va_put (D := (dC, dI)) (ci := 10) (v := .int 0) (ty := tyX10 0) (C := RX10) (T := TX10) (N := 52) hx hb hts (fun _ h => List.mem_cons_of_mem _ (List.mem_append_right _ (List.mem_append_left _ h))) tyX10 tyX10_ok nmX10 hown hK hP hD hS 0 rfl rfl 0 (by decide) (hts (.fieldLink RX10 117 "NotEndedModel" "thrown" "I") (List.mem_cons_of_mem _ (List.mem_append_left _ (List.mem_of_getElem? (i := 0) rfl)))) (fun _ h9 => h9) rfl (tyX10_ok 0 (by decide)) rfl rfl (Nat.le_of_ble_eq_true rfl) dX10_books_2 (fun H locs hP hD hS => ?_)
  have hP : va_P (dC, dI) vwCl [(h0, .inr (10, [.int 0, v1, v2, v3, v4, v5, v6, .int 0, v8, v9, v10, v11, v12, v13, v14, v15, v16, v17, v18, v19, v20, v21, v22, v23, v24, v25, v26, v27, v28, v29, v30, v31, v32, v33, v34, v35, v36, v37, v38, v39, v40, v41, v42, v43, v44, v45, v46, v47, v48, v49, v50, v51]))] H := hP
  have hD : va_D A [(h0, .inr (10, [.int 0, v1, v2, v3, v4, v5, v6, .int 0, v8, v9, v10, v11, v12, v13, v14, v15, v16, v17, v18, v19, v20, v21, v22, v23, v24, v25, v26, v27, v28, v29, v30, v31, v32, v33, v34, v35, v36, v37, v38, v39, v40, v41, v42, v43, v44, v45, v46, v47, v48, v49, v50, v51]))] := hD
  refine lv_aload_n hx hb dX10_books_5 rfl (lv_at hl 0 rfl) ?_
  refine lv_iload_n hx hb dX10_books_6 rfl (lv_at hl 1 rfl) ?_
  have hPc := hP.sub (ws' := [(h0, .inr (10, [.int 0, v1, v2, v3, v4, v5, v6, .int 0, v8, v9, v10, v11, v12, v13, v14, v15, v16, v17, v18, v19, v20, v21, v22, v23, v24, v25, v26, v27, v28, v29, v30, v31, v32, v33, v34, v35, v36, v37, v38, v39, v40, v41, v42, v43, v44, v45, v46, v47, v48, v49, v50, v51]))]) [0] rfl
  have hKc := hK.sub (tys' := []) [] rfl
  refine vp_callSi (va_runV (As := [.int p0]) (rest := []) ⟨hx, hb, hml, hown, hts⟩ (c_isLaw10 l dC dI h0 (.int 0 : Value) (v1 : Value) (v2 : Value) (v3 : Value) (v4 : Value) (v5 : Value) (v6 : Value) (v8 : Value) (v9 : Value) (v10 : Value) (v11 : Value) (v12 : Value) (v13 : Value) (v14 : Value) (v15 : Value) (v16 : Value) (v17 : Value) (v18 : Value) (v19 : Value) (v20 : Value) (v21 : Value) (v22 : Value) (v23 : Value) (v24 : Value) (v25 : Value) (v26 : Value) (v27 : Value) (v28 : Value) (v29 : Value) (v30 : Value) (v31 : Value) (v32 : Value) (v33 : Value) (v34 : Value) (v35 : Value) (v36 : Value) (v37 : Value) (v38 : Value) (v39 : Value) (v40 : Value) (v41 : Value) (v42 : Value) (v43 : Value) (v44 : Value) (v45 : Value) (v46 : Value) (v47 : Value) (v48 : Value) (v49 : Value) (v50 : Value) (v51 : Value) p0) (cwV 1 hts (kG (List.forall_mem_cons.mpr ⟨(List.mem_cons_of_mem _ (List.mem_append_left _ (List.mem_of_getElem? (i := 4) rfl))), (List.forall_mem_cons.mpr ⟨(List.mem_cons_of_mem _ (List.mem_append_left _ (List.mem_of_getElem? (i := 3) rfl))), (List.forall_mem_cons.mpr ⟨(List.mem_cons_of_mem _ (List.mem_append_left _ (List.mem_of_getElem? (i := 2) rfl))), (List.forall_mem_cons.mpr ⟨(List.mem_cons_of_mem _ (List.mem_append_left _ (List.mem_of_getElem? (i := 1) rfl))), (fun _ h => absurd h List.not_mem_nil)⟩)⟩)⟩)⟩) (by decide +kernel) (fun _ h => List.mem_cons_of_mem _ (List.mem_append_right _ (List.mem_append_right _ h))) gw_c_isLaw10) rfl rfl rfl (by decide +kernel) ⟨(Nat.le_of_ble_eq_true rfl), (Nat.le_of_ble_eq_true rfl)⟩) (kR_V kT_blind kT_give (va_recv hKc hPc (ci := 10) (q0 := 0) rfl rfl) hPc hKc) rfl rfl hl.1 rfl (lv_room (Nat.le_of_ble_eq_true rfl)) dX10_books_7 ⟨(Nat.le_of_ble_eq_true rfl), (Nat.le_of_ble_eq_true rfl)⟩).run (fun r_1 hw => ?_)
  obtain rfl : r_1 = 0 := hw
  refine lv_if_eq (tgt := 23) hx hb dX10_books_10 (by decide) (fun c_2 => ?_) (fun c_2 => absurd (by decide) c_2)
  refine lv_sipush (v := (-1000)) hx hb dX10_books_23 (by decide) ?_
  exact W.iret (v := (-1000)) hx hb hr (fun t ht hW => ⟨⟨(-1000), (), rfl, rfl, trivial⟩, hS.F ht⟩) hS.2.2 dX10_books_26

def w_c_stayed10 : List Cond := .code yX10_stayed cX10_stayed 7 (some .int) :: ([.fieldLink RX10 117 "NotEndedModel" "thrown" "I", .initialized RX10, .selects RX10 yX10_isLaw yX10_isLaw, .instanceMethod yX10_isLaw, .methodLink RX10 311 yX10_isLaw] ++ (wsX100 ++ (w_c_isLaw10)))
theorem gw_c_stayed10 : (w_c_stayed10).all goodWord = true := by decide +kernel
set_option maxHeartbeats 4000000 in
set_option maxRecDepth 100000 in
/-- X10_stayed of a new object -/
theorem c_stayed10 (l : Launch) (dC : Nat → ClassId) (dI : Nat → Nat → Nat) (h0 : Nat) (v0 : Value) (v1 : Value) (v2 : Value) (v3 : Value) (v4 : Value) (v5 : Value) (v6 : Value) (v8 : Value) (v9 : Value) (v10 : Value) (v11 : Value) (v12 : Value) (v13 : Value) (v14 : Value) (v15 : Value) (v16 : Value) (v17 : Value) (v18 : Value) (v19 : Value) (v20 : Value) (v21 : Value) (v22 : Value) (v23 : Value) (v24 : Value) (v25 : Value) (v26 : Value) (v27 : Value) (v28 : Value) (v29 : Value) (v30 : Value) (v31 : Value) (v32 : Value) (v33 : Value) (v34 : Value) (v35 : Value) (v36 : Value) (v37 : Value) (v38 : Value) (v39 : Value) (v40 : Value) (v41 : Value) (v42 : Value) (v43 : Value) (v44 : Value) (v45 : Value) (v46 : Value) (v47 : Value) (v48 : Value) (v49 : Value) (v50 : Value) (v51 : Value) (p0 : Int32) (p1 : Int64) (p2 : Int32) (sz : Nat) : Met l yX10_stayed w_c_stayed10 ({ frames := 3, cells := 0, slots := 0, locals := 180 }) (kW dC dI [.ref h0, .int p0, .long p1, .int p2] [(h0, .inr (10, [v0, v1, v2, v3, v4, v5, v6, .int 0, v8, v9, v10, v11, v12, v13, v14, v15, v16, v17, v18, v19, v20, v21, v22, v23, v24, v25, v26, v27, v28, v29, v30, v31, v32, v33, v34, v35, v36, v37, v38, v39, v40, v41, v42, v43, v44, v45, v46, v47, v48, v49, v50, v51]))] [] kT sz) (va_Qi (fun (r : Int32) (_ : Unit) => r = (-1)) (fun _ _ => True) (va_A [(h0, .inr (10, [v0, v1, v2, v3, v4, v5, v6, .int 0, v8, v9, v10, v11, v12, v13, v14, v15, v16, v17, v18, v19, v20, v21, v22, v23, v24, v25, v26, v27, v28, v29, v30, v31, v32, v33, v34, v35, v36, v37, v38, v39, v40, v41, v42, v43, v44, v45, v46, v47, v48, v49, v50, v51]))] sz)) 0 0 (va_A [(h0, .inr (10, [v0, v1, v2, v3, v4, v5, v6, .int 0, v8, v9, v10, v11, v12, v13, v14, v15, v16, v17, v18, v19, v20, v21, v22, v23, v24, v25, v26, v27, v28, v29, v30, v31, v32, v33, v34, v35, v36, v37, v38, v39, v40, v41, v42, v43, v44, v45, v46, v47, v48, v49, v50, v51]))] sz) := by
  refine Met.ofW (cc := cX10_stayed) (maxL := 7) (ret := (some .int)) (by decide) rfl ?_
  intro p e s m args below meth c s₁ B hml hv
  obtain ⟨rfl, hsz, hP, hK, hD0, hX⟩ := hv
  have hx := B.exec
  have hb := B.bytes
  have hr := B.returns
  have hts := atoms_spec (ws := w_c_stayed10) B.pre
  have hown : s.vm.findClass RX10 = some m.cls := findClass_of_methodNamed B.named
  have hlocks := B.notSynchronized
  subst hsz
  have hD := hD0.self (sz := s.heap.size)
  generalize hAe : va_A [(h0, .inr (10, [v0, v1, v2, v3, v4, v5, v6, .int 0, v8, v9, v10, v11, v12, v13, v14, v15, v16, v17, v18, v19, v20, v21, v22, v23, v24, v25, v26, v27, v28, v29, v30, v31, v32, v33, v34, v35, v36, v37, v38, v39, v40, v41, v42, v43, v44, v45, v46, v47, v48, v49, v50, v51]))] s.heap.size = A at hD ⊢
  have hA : ∀ q : Nat, s.heap.size ≤ q → A q := fun q h => by rw [← hAe]; exact Or.inr h
  have hS : va_S A s.heap s.heap [] := va_S.rf
  have hP : va_P (dC, dI) vwCl [(h0, .inr (10, [v0, v1, v2, v3, v4, v5, v6, .int 0, v8, v9, v10, v11, v12, v13, v14, v15, v16, v17, v18, v19, v20, v21, v22, v23, v24, v25, v26, v27, v28, v29, v30, v31, v32, v33, v34, v35, v36, v37, v38, v39, v40, v41, v42, v43, v44, v45, v46, v47, v48, v49, v50, v51]))] s.heap := hP
  have hl := lv_entry ([.ref h0, .int p0, .long p1, .int p2]) (n := 7) (Nat.le_of_ble_eq_true rfl)
  rw [lg_entry_eq]
  generalize (lg_sl ([.ref h0, .int p0, .long p1, .int p2]) ++ List.replicate (7 - (lg_sl ([.ref h0, .int p0, .long p1, .int p2])).length) Slot.unset).toArray = ls at hl ⊢
  have hl : lv_has ls 7 [(0, .ref h0), (1, .int p0), (2, .long p1), (4, .int p2)] := hl
  refine lv_aload_n hx hb dX10_stayed_0 rfl (lv_at hl 0 rfl) ?_
  refine lv_iconst (v := 0) hx hb dX10_stayed_1 (by decide) ?_
  refine va_put (D := (dC, dI)) (ci := 10) (v := .int 0) (ty := tyX10 0) (C := RX10) (T := TX10) (N := 52) hx hb hts (fun _ h => List.mem_cons_of_mem _ (List.mem_append_right _ (List.mem_append_left _ h))) tyX10 tyX10_ok nmX10 hown hK hP hD hS 0 rfl rfl 0 (by decide) (hts (.fieldLink RX10 117 "NotEndedModel" "thrown" "I") (List.mem_cons_of_mem _ (List.mem_append_left _ (List.mem_of_getElem? (i := 0) rfl)))) (fun _ h9 => h9) rfl (tyX10_ok 0 (by decide)) rfl rfl (Nat.le_of_ble_eq_true rfl) dX10_stayed_2 (fun H locs hP hD hS => ?_)
  have hP : va_P (dC, dI) vwCl [(h0, .inr (10, [.int 0, v1, v2, v3, v4, v5, v6, .int 0, v8, v9, v10, v11, v12, v13, v14, v15, v16, v17, v18, v19, v20, v21, v22, v23, v24, v25, v26, v27, v28, v29, v30, v31, v32, v33, v34, v35, v36, v37, v38, v39, v40, v41, v42, v43, v44, v45, v46, v47, v48, v49, v50, v51]))] H := hP
  have hD : va_D A [(h0, .inr (10, [.int 0, v1, v2, v3, v4, v5, v6, .int 0, v8, v9, v10, v11, v12, v13, v14, v15, v16, v17, v18, v19, v20, v21, v22, v23, v24, v25, v26, v27, v28, v29, v30, v31, v32, v33, v34, v35, v36, v37, v38, v39, v40, v41, v42, v43, v44, v45, v46, v47, v48, v49, v50, v51]))] := hD
  refine lv_aload_n hx hb dX10_stayed_5 rfl (lv_at hl 0 rfl) ?_
  refine lv_iload_n hx hb dX10_stayed_6 rfl (lv_at hl 1 rfl) ?_
  have hPc := hP.sub (ws' := [(h0, .inr (10, [.int 0, v1, v2, v3, v4, v5, v6, .int 0, v8, v9, v10, v11, v12, v13, v14, v15, v16, v17, v18, v19, v20, v21, v22, v23, v24, v25, v26, v27, v28, v29, v30, v31, v32, v33, v34, v35, v36, v37, v38, v39, v40, v41, v42, v43, v44, v45, v46, v47, v48, v49, v50, v51]))]) [0] rfl
  have hKc := hK.sub (tys' := []) [] rfl
  refine vp_callSi (va_runV (As := [.int p0]) (rest := []) ⟨hx, hb, hml, hown, hts⟩ (c_isLaw10 l dC dI h0 (.int 0 : Value) (v1 : Value) (v2 : Value) (v3 : Value) (v4 : Value) (v5 : Value) (v6 : Value) (v8 : Value) (v9 : Value) (v10 : Value) (v11 : Value) (v12 : Value) (v13 : Value) (v14 : Value) (v15 : Value) (v16 : Value) (v17 : Value) (v18 : Value) (v19 : Value) (v20 : Value) (v21 : Value) (v22 : Value) (v23 : Value) (v24 : Value) (v25 : Value) (v26 : Value) (v27 : Value) (v28 : Value) (v29 : Value) (v30 : Value) (v31 : Value) (v32 : Value) (v33 : Value) (v34 : Value) (v35 : Value) (v36 : Value) (v37 : Value) (v38 : Value) (v39 : Value) (v40 : Value) (v41 : Value) (v42 : Value) (v43 : Value) (v44 : Value) (v45 : Value) (v46 : Value) (v47 : Value) (v48 : Value) (v49 : Value) (v50 : Value) (v51 : Value) p0) (cwV 1 hts (kG (List.forall_mem_cons.mpr ⟨(List.mem_cons_of_mem _ (List.mem_append_left _ (List.mem_of_getElem? (i := 4) rfl))), (List.forall_mem_cons.mpr ⟨(List.mem_cons_of_mem _ (List.mem_append_left _ (List.mem_of_getElem? (i := 3) rfl))), (List.forall_mem_cons.mpr ⟨(List.mem_cons_of_mem _ (List.mem_append_left _ (List.mem_of_getElem? (i := 2) rfl))), (List.forall_mem_cons.mpr ⟨(List.mem_cons_of_mem _ (List.mem_append_left _ (List.mem_of_getElem? (i := 1) rfl))), (fun _ h => absurd h List.not_mem_nil)⟩)⟩)⟩)⟩) (by decide +kernel) (fun _ h => List.mem_cons_of_mem _ (List.mem_append_right _ (List.mem_append_right _ h))) gw_c_isLaw10) rfl rfl rfl (by decide +kernel) ⟨(Nat.le_of_ble_eq_true rfl), (Nat.le_of_ble_eq_true rfl)⟩) (kR_V kT_blind kT_give (va_recv hKc hPc (ci := 10) (q0 := 0) rfl rfl) hPc hKc) rfl rfl hl.1 rfl (lv_room (Nat.le_of_ble_eq_true rfl)) dX10_stayed_7 ⟨(Nat.le_of_ble_eq_true rfl), (Nat.le_of_ble_eq_true rfl)⟩).run (fun r_1 hw => ?_)
  obtain rfl : r_1 = 0 := hw
  refine lv_if_eq (tgt := 21) hx hb dX10_stayed_10 (by decide) (fun c_2 => ?_) (fun c_2 => absurd (by decide) c_2)
  refine lv_iconst (v := (-1)) hx hb dX10_stayed_21 (by decide) ?_
  exact W.iret (v := (-1)) hx hb hr (fun t ht hW => ⟨⟨(-1), (), rfl, rfl, trivial⟩, hS.F ht⟩) hS.2.2 dX10_stayed_22

def w_c_help10 : List Cond := .code yX10_help cX10_help 9 (some .int) :: ([.fieldLink RX10 117 "NotEndedModel" "thrown" "I", .initialized RX10, .selects RX10 yX10_isAsked yX10_isAsked, .instanceMethod yX10_isAsked, .methodLink RX10 325 yX10_isAsked] ++ (wsX100 ++ (w_c_isAsked10)))
theorem gw_c_help10 : (w_c_help10).all goodWord = true := by decide +kernel
set_option maxHeartbeats 4000000 in
set_option maxRecDepth 100000 in
/-- X10_help of a new object -/
theorem c_help10 (l : Launch) (dC : Nat → ClassId) (dI : Nat → Nat → Nat) (h0 : Nat) (v0 : Value) (v1 : Value) (v2 : Value) (v3 : Value) (v4 : Value) (v5 : Value) (v6 : Value) (v8 : Value) (v9 : Value) (v10 : Value) (v11 : Value) (v12 : Value) (v13 : Value) (v14 : Value) (v15 : Value) (v16 : Value) (v17 : Value) (v18 : Value) (v19 : Value) (v20 : Value) (v21 : Value) (v22 : Value) (v23 : Value) (v24 : Value) (v25 : Value) (v26 : Value) (v27 : Value) (v28 : Value) (v29 : Value) (v30 : Value) (v31 : Value) (v32 : Value) (v33 : Value) (v34 : Value) (v35 : Value) (v36 : Value) (v37 : Value) (v38 : Value) (v39 : Value) (v40 : Value) (v41 : Value) (v42 : Value) (v43 : Value) (v44 : Value) (v45 : Value) (v46 : Value) (v47 : Value) (v48 : Value) (v49 : Value) (v50 : Value) (v51 : Value) (p0 : Int32) (p1 : Int64) (p2 : Int32) (p3 : Int32) (sz : Nat) : Met l yX10_help w_c_help10 ({ frames := 3, cells := 0, slots := 0, locals := 180 }) (kW dC dI [.ref h0, .int p0, .long p1, .int p2, .int p3] [(h0, .inr (10, [v0, v1, v2, v3, v4, v5, v6, .int 0, v8, v9, v10, v11, v12, v13, v14, v15, v16, v17, v18, v19, v20, v21, v22, v23, v24, v25, v26, v27, v28, v29, v30, v31, v32, v33, v34, v35, v36, v37, v38, v39, v40, v41, v42, v43, v44, v45, v46, v47, v48, v49, v50, v51]))] [] kT sz) (va_Qi (fun (r : Int32) (_ : Unit) => r = (-1)) (fun _ _ => True) (va_A [(h0, .inr (10, [v0, v1, v2, v3, v4, v5, v6, .int 0, v8, v9, v10, v11, v12, v13, v14, v15, v16, v17, v18, v19, v20, v21, v22, v23, v24, v25, v26, v27, v28, v29, v30, v31, v32, v33, v34, v35, v36, v37, v38, v39, v40, v41, v42, v43, v44, v45, v46, v47, v48, v49, v50, v51]))] sz)) 0 0 (va_A [(h0, .inr (10, [v0, v1, v2, v3, v4, v5, v6, .int 0, v8, v9, v10, v11, v12, v13, v14, v15, v16, v17, v18, v19, v20, v21, v22, v23, v24, v25, v26, v27, v28, v29, v30, v31, v32, v33, v34, v35, v36, v37, v38, v39, v40, v41, v42, v43, v44, v45, v46, v47, v48, v49, v50, v51]))] sz) := by
  refine Met.ofW (cc := cX10_help) (maxL := 9) (ret := (some .int)) (by decide) rfl ?_
  intro p e s m args below meth c s₁ B hml hv
  obtain ⟨rfl, hsz, hP, hK, hD0, hX⟩ := hv
  have hx := B.exec
  have hb := B.bytes
  have hr := B.returns
  have hts := atoms_spec (ws := w_c_help10) B.pre
  have hown : s.vm.findClass RX10 = some m.cls := findClass_of_methodNamed B.named
  have hlocks := B.notSynchronized
  subst hsz
  have hD := hD0.self (sz := s.heap.size)
  generalize hAe : va_A [(h0, .inr (10, [v0, v1, v2, v3, v4, v5, v6, .int 0, v8, v9, v10, v11, v12, v13, v14, v15, v16, v17, v18, v19, v20, v21, v22, v23, v24, v25, v26, v27, v28, v29, v30, v31, v32, v33, v34, v35, v36, v37, v38, v39, v40, v41, v42, v43, v44, v45, v46, v47, v48, v49, v50, v51]))] s.heap.size = A at hD ⊢
  have hA : ∀ q : Nat, s.heap.size ≤ q → A q := fun q h => by rw [← hAe]; exact Or.inr h
  have hS : va_S A s.heap s.heap [] := va_S.rf
  have hP : va_P (dC, dI) vwCl [(h0, .inr (10, [v0, v1, v2, v3, v4, v5, v6, .int 0, v8, v9, v10, v11, v12, v13, v14, v15, v16, v17, v18, v19, v20, v21, v22, v23, v24, v25, v26, v27, v28, v29, v30, v31, v32, v33, v34, v35, v36, v37, v38, v39, v40, v41, v42, v43, v44, v45, v46, v47, v48, v49, v50, v51]))] s.heap := hP
  have hl := lv_entry ([.ref h0, .int p0, .long p1, .int p2, .int p3]) (n := 9) (Nat.le_of_ble_eq_true rfl)
  rw [lg_entry_eq]
  generalize (lg_sl ([.ref h0, .int p0, .long p1, .int p2, .int p3]) ++ List.replicate (9 - (lg_sl ([.ref h0, .int p0, .long p1, .int p2, .int p3])).length) Slot.unset).toArray = ls at hl ⊢
  have hl : lv_has ls 9 [(0, .ref h0), (1, .int p0), (2, .long p1), (4, .int p2), (5, .int p3)] := hl
  refine lv_aload_n hx hb dX10_help_0 rfl (lv_at hl 0 rfl) ?_
  refine lv_iconst (v := 0) hx hb dX10_help_1 (by decide) ?_
  refine va_put (D := (dC, dI)) (ci := 10) (v := .int 0) (ty := tyX10 0) (C := RX10) (T := TX10) (N := 52) hx hb hts (fun _ h => List.mem_cons_of_mem _ (List.mem_append_right _ (List.mem_append_left _ h))) tyX10 tyX10_ok nmX10 hown hK hP hD hS 0 rfl rfl 0 (by decide) (hts (.fieldLink RX10 117 "NotEndedModel" "thrown" "I") (List.mem_cons_of_mem _ (List.mem_append_left _ (List.mem_of_getElem? (i := 0) rfl)))) (fun _ h9 => h9) rfl (tyX10_ok 0 (by decide)) rfl rfl (Nat.le_of_ble_eq_true rfl) dX10_help_2 (fun H locs hP hD hS => ?_)
  have hP : va_P (dC, dI) vwCl [(h0, .inr (10, [.int 0, v1, v2, v3, v4, v5, v6, .int 0, v8, v9, v10, v11, v12, v13, v14, v15, v16, v17, v18, v19, v20, v21, v22, v23, v24, v25, v26, v27, v28, v29, v30, v31, v32, v33, v34, v35, v36, v37, v38, v39, v40, v41, v42, v43, v44, v45, v46, v47, v48, v49, v50, v51]))] H := hP
  have hD : va_D A [(h0, .inr (10, [.int 0, v1, v2, v3, v4, v5, v6, .int 0, v8, v9, v10, v11, v12, v13, v14, v15, v16, v17, v18, v19, v20, v21, v22, v23, v24, v25, v26, v27, v28, v29, v30, v31, v32, v33, v34, v35, v36, v37, v38, v39, v40, v41, v42, v43, v44, v45, v46, v47, v48, v49, v50, v51]))] := hD
  refine lv_aload_n hx hb dX10_help_5 rfl (lv_at hl 0 rfl) ?_
  refine lv_iload_n hx hb dX10_help_6 rfl (lv_at hl 1 rfl) ?_
  refine lv_iload hx hb dX10_help_7 (lv_at hl 3 rfl) ?_
  have hPc := hP.sub (ws' := [(h0, .inr (10, [.int 0, v1, v2, v3, v4, v5, v6, .int 0, v8, v9, v10, v11, v12, v13, v14, v15, v16, v17, v18, v19, v20, v21, v22, v23, v24, v25, v26, v27, v28, v29, v30, v31, v32, v33, v34, v35, v36, v37, v38, v39, v40, v41, v42, v43, v44, v45, v46, v47, v48, v49, v50, v51]))]) [0] rfl
  have hKc := hK.sub (tys' := []) [] rfl
  refine vp_callSi (va_runV (As := [.int p0, .int p2]) (rest := []) ⟨hx, hb, hml, hown, hts⟩ (c_isAsked10 l dC dI h0 (.int 0 : Value) (v1 : Value) (v2 : Value) (v3 : Value) (v4 : Value) (v5 : Value) (v6 : Value) (v8 : Value) (v9 : Value) (v10 : Value) (v11 : Value) (v12 : Value) (v13 : Value) (v14 : Value) (v15 : Value) (v16 : Value) (v17 : Value) (v18 : Value) (v19 : Value) (v20 : Value) (v21 : Value) (v22 : Value) (v23 : Value) (v24 : Value) (v25 : Value) (v26 : Value) (v27 : Value) (v28 : Value) (v29 : Value) (v30 : Value) (v31 : Value) (v32 : Value) (v33 : Value) (v34 : Value) (v35 : Value) (v36 : Value) (v37 : Value) (v38 : Value) (v39 : Value) (v40 : Value) (v41 : Value) (v42 : Value) (v43 : Value) (v44 : Value) (v45 : Value) (v46 : Value) (v47 : Value) (v48 : Value) (v49 : Value) (v50 : Value) (v51 : Value) p0 p2) (cwV 2 hts (kG (List.forall_mem_cons.mpr ⟨(List.mem_cons_of_mem _ (List.mem_append_left _ (List.mem_of_getElem? (i := 4) rfl))), (List.forall_mem_cons.mpr ⟨(List.mem_cons_of_mem _ (List.mem_append_left _ (List.mem_of_getElem? (i := 3) rfl))), (List.forall_mem_cons.mpr ⟨(List.mem_cons_of_mem _ (List.mem_append_left _ (List.mem_of_getElem? (i := 2) rfl))), (List.forall_mem_cons.mpr ⟨(List.mem_cons_of_mem _ (List.mem_append_left _ (List.mem_of_getElem? (i := 1) rfl))), (fun _ h => absurd h List.not_mem_nil)⟩)⟩)⟩)⟩) (by decide +kernel) (fun _ h => List.mem_cons_of_mem _ (List.mem_append_right _ (List.mem_append_right _ h))) gw_c_isAsked10) rfl rfl rfl (by decide +kernel) ⟨(Nat.le_of_ble_eq_true rfl), (Nat.le_of_ble_eq_true rfl)⟩) (kR_V kT_blind kT_give (va_recv hKc hPc (ci := 10) (q0 := 0) rfl rfl) hPc hKc) rfl rfl hl.1 rfl (lv_room (Nat.le_of_ble_eq_true rfl)) dX10_help_9 ⟨(Nat.le_of_ble_eq_true rfl), (Nat.le_of_ble_eq_true rfl)⟩).run (fun r_1 hw => ?_)
  obtain rfl : r_1 = 0 := hw
  refine lv_if_eq (tgt := 25) hx hb dX10_help_12 (by decide) (fun c_2 => ?_) (fun c_2 => absurd (by decide) c_2)
  refine lv_iconst (v := (-1)) hx hb dX10_help_25 (by decide) ?_
  exact W.iret (v := (-1)) hx hb hr (fun t ht hW => ⟨⟨(-1), (), rfl, rfl, trivial⟩, hS.F ht⟩) hS.2.2 dX10_help_26

def w_c_lookers10 : List Cond := .code yX10_lookers cX10_lookers 8 (some .int) :: ([.fieldLink RX10 117 "NotEndedModel" "thrown" "I", .initialized RX10, .selects RX10 yX10_isLaw yX10_isLaw, .instanceMethod yX10_isLaw, .methodLink RX10 311 yX10_isLaw] ++ (wsX100 ++ (w_c_isLaw10)))
theorem gw_c_lookers10 : (w_c_lookers10).all goodWord = true := by decide +kernel
set_option maxHeartbeats 4000000 in
set_option maxRecDepth 100000 in
/-- X10_lookers of a new object -/
theorem c_lookers10 (l : Launch) (dC : Nat → ClassId) (dI : Nat → Nat → Nat) (h0 : Nat) (v0 : Value) (v1 : Value) (v2 : Value) (v3 : Value) (v4 : Value) (v5 : Value) (v6 : Value) (v8 : Value) (v9 : Value) (v10 : Value) (v11 : Value) (v12 : Value) (v13 : Value) (v14 : Value) (v15 : Value) (v16 : Value) (v17 : Value) (v18 : Value) (v19 : Value) (v20 : Value) (v21 : Value) (v22 : Value) (v23 : Value) (v24 : Value) (v25 : Value) (v26 : Value) (v27 : Value) (v28 : Value) (v29 : Value) (v30 : Value) (v31 : Value) (v32 : Value) (v33 : Value) (v34 : Value) (v35 : Value) (v36 : Value) (v37 : Value) (v38 : Value) (v39 : Value) (v40 : Value) (v41 : Value) (v42 : Value) (v43 : Value) (v44 : Value) (v45 : Value) (v46 : Value) (v47 : Value) (v48 : Value) (v49 : Value) (v50 : Value) (v51 : Value) (p0 : Int32) (p1 : Int64) (sz : Nat) : Met l yX10_lookers w_c_lookers10 ({ frames := 3, cells := 0, slots := 0, locals := 180 }) (kW dC dI [.ref h0, .int p0, .long p1] [(h0, .inr (10, [v0, v1, v2, v3, v4, v5, v6, .int 0, v8, v9, v10, v11, v12, v13, v14, v15, v16, v17, v18, v19, v20, v21, v22, v23, v24, v25, v26, v27, v28, v29, v30, v31, v32, v33, v34, v35, v36, v37, v38, v39, v40, v41, v42, v43, v44, v45, v46, v47, v48, v49, v50, v51]))] [] kT sz) (va_Qi (fun (r : Int32) (_ : Unit) => r = (-1)) (fun _ _ => True) (va_A [(h0, .inr (10, [v0, v1, v2, v3, v4, v5, v6, .int 0, v8, v9, v10, v11, v12, v13, v14, v15, v16, v17, v18, v19, v20, v21, v22, v23, v24, v25, v26, v27, v28, v29, v30, v31, v32, v33, v34, v35, v36, v37, v38, v39, v40, v41, v42, v43, v44, v45, v46, v47, v48, v49, v50, v51]))] sz)) 0 0 (va_A [(h0, .inr (10, [v0, v1, v2, v3, v4, v5, v6, .int 0, v8, v9, v10, v11, v12, v13, v14, v15, v16, v17, v18, v19, v20, v21, v22, v23, v24, v25, v26, v27, v28, v29, v30, v31, v32, v33, v34, v35, v36, v37, v38, v39, v40, v41, v42, v43, v44, v45, v46, v47, v48, v49, v50, v51]))] sz) := by
  refine Met.ofW (cc := cX10_lookers) (maxL := 8) (ret := (some .int)) (by decide) rfl ?_
  intro p e s m args below meth c s₁ B hml hv
  obtain ⟨rfl, hsz, hP, hK, hD0, hX⟩ := hv
  have hx := B.exec
  have hb := B.bytes
  have hr := B.returns
  have hts := atoms_spec (ws := w_c_lookers10) B.pre
  have hown : s.vm.findClass RX10 = some m.cls := findClass_of_methodNamed B.named
  have hlocks := B.notSynchronized
  subst hsz
  have hD := hD0.self (sz := s.heap.size)
  generalize hAe : va_A [(h0, .inr (10, [v0, v1, v2, v3, v4, v5, v6, .int 0, v8, v9, v10, v11, v12, v13, v14, v15, v16, v17, v18, v19, v20, v21, v22, v23, v24, v25, v26, v27, v28, v29, v30, v31, v32, v33, v34, v35, v36, v37, v38, v39, v40, v41, v42, v43, v44, v45, v46, v47, v48, v49, v50, v51]))] s.heap.size = A at hD ⊢
  have hA : ∀ q : Nat, s.heap.size ≤ q → A q := fun q h => by rw [← hAe]; exact Or.inr h
  have hS : va_S A s.heap s.heap [] := va_S.rf
  have hP : va_P (dC, dI) vwCl [(h0, .inr (10, [v0, v1, v2, v3, v4, v5, v6, .int 0, v8, v9, v10, v11, v12, v13, v14, v15, v16, v17, v18, v19, v20, v21, v22, v23, v24, v25, v26, v27, v28, v29, v30, v31, v32, v33, v34, v35, v36, v37, v38, v39, v40, v41, v42, v43, v44, v45, v46, v47, v48, v49, v50, v51]))] s.heap := hP
  have hl := lv_entry ([.ref h0, .int p0, .long p1]) (n := 8) (Nat.le_of_ble_eq_true rfl)
  rw [lg_entry_eq]
  generalize (lg_sl ([.ref h0, .int p0, .long p1]) ++ List.replicate (8 - (lg_sl ([.ref h0, .int p0, .long p1])).length) Slot.unset).toArray = ls at hl ⊢
  have hl : lv_has ls 8 [(0, .ref h0), (1, .int p0), (2, .long p1)] := hl
  refine lv_aload_n hx hb dX10_lookers_0 rfl (lv_at hl 0 rfl) ?_
  refine lv_iconst (v := 0) hx hb dX10_lookers_1 (by decide) ?_
  refine va_put (D := (dC, dI)) (ci := 10) (v := .int 0) (ty := tyX10 0) (C := RX10) (T := TX10) (N := 52) hx hb hts (fun _ h => List.mem_cons_of_mem _ (List.mem_append_right _ (List.mem_append_left _ h))) tyX10 tyX10_ok nmX10 hown hK hP hD hS 0 rfl rfl 0 (by decide) (hts (.fieldLink RX10 117 "NotEndedModel" "thrown" "I") (List.mem_cons_of_mem _ (List.mem_append_left _ (List.mem_of_getElem? (i := 0) rfl)))) (fun _ h9 => h9) rfl (tyX10_ok 0 (by decide)) rfl rfl (Nat.le_of_ble_eq_true rfl) dX10_lookers_2 (fun H locs hP hD hS => ?_)
  have hP : va_P (dC, dI) vwCl [(h0, .inr (10, [.int 0, v1, v2, v3, v4, v5, v6, .int 0, v8, v9, v10, v11, v12, v13, v14, v15, v16, v17, v18, v19, v20, v21, v22, v23, v24, v25, v26, v27, v28, v29, v30, v31, v32, v33, v34, v35, v36, v37, v38, v39, v40, v41, v42, v43, v44, v45, v46, v47, v48, v49, v50, v51]))] H := hP
  have hD : va_D A [(h0, .inr (10, [.int 0, v1, v2, v3, v4, v5, v6, .int 0, v8, v9, v10, v11, v12, v13, v14, v15, v16, v17, v18, v19, v20, v21, v22, v23, v24, v25, v26, v27, v28, v29, v30, v31, v32, v33, v34, v35, v36, v37, v38, v39, v40, v41, v42, v43, v44, v45, v46, v47, v48, v49, v50, v51]))] := hD
  refine lv_aload_n hx hb dX10_lookers_5 rfl (lv_at hl 0 rfl) ?_
  refine lv_iload_n hx hb dX10_lookers_6 rfl (lv_at hl 1 rfl) ?_
  have hPc := hP.sub (ws' := [(h0, .inr (10, [.int 0, v1, v2, v3, v4, v5, v6, .int 0, v8, v9, v10, v11, v12, v13, v14, v15, v16, v17, v18, v19, v20, v21, v22, v23, v24, v25, v26, v27, v28, v29, v30, v31, v32, v33, v34, v35, v36, v37, v38, v39, v40, v41, v42, v43, v44, v45, v46, v47, v48, v49, v50, v51]))]) [0] rfl
  have hKc := hK.sub (tys' := []) [] rfl
  refine vp_callSi (va_runV (As := [.int p0]) (rest := []) ⟨hx, hb, hml, hown, hts⟩ (c_isLaw10 l dC dI h0 (.int 0 : Value) (v1 : Value) (v2 : Value) (v3 : Value) (v4 : Value) (v5 : Value) (v6 : Value) (v8 : Value) (v9 : Value) (v10 : Value) (v11 : Value) (v12 : Value) (v13 : Value) (v14 : Value) (v15 : Value) (v16 : Value) (v17 : Value) (v18 : Value) (v19 : Value) (v20 : Value) (v21 : Value) (v22 : Value) (v23 : Value) (v24 : Value) (v25 : Value) (v26 : Value) (v27 : Value) (v28 : Value) (v29 : Value) (v30 : Value) (v31 : Value) (v32 : Value) (v33 : Value) (v34 : Value) (v35 : Value) (v36 : Value) (v37 : Value) (v38 : Value) (v39 : Value) (v40 : Value) (v41 : Value) (v42 : Value) (v43 : Value) (v44 : Value) (v45 : Value) (v46 : Value) (v47 : Value) (v48 : Value) (v49 : Value) (v50 : Value) (v51 : Value) p0) (cwV 1 hts (kG (List.forall_mem_cons.mpr ⟨(List.mem_cons_of_mem _ (List.mem_append_left _ (List.mem_of_getElem? (i := 4) rfl))), (List.forall_mem_cons.mpr ⟨(List.mem_cons_of_mem _ (List.mem_append_left _ (List.mem_of_getElem? (i := 3) rfl))), (List.forall_mem_cons.mpr ⟨(List.mem_cons_of_mem _ (List.mem_append_left _ (List.mem_of_getElem? (i := 2) rfl))), (List.forall_mem_cons.mpr ⟨(List.mem_cons_of_mem _ (List.mem_append_left _ (List.mem_of_getElem? (i := 1) rfl))), (fun _ h => absurd h List.not_mem_nil)⟩)⟩)⟩)⟩) (by decide +kernel) (fun _ h => List.mem_cons_of_mem _ (List.mem_append_right _ (List.mem_append_right _ h))) gw_c_isLaw10) rfl rfl rfl (by decide +kernel) ⟨(Nat.le_of_ble_eq_true rfl), (Nat.le_of_ble_eq_true rfl)⟩) (kR_V kT_blind kT_give (va_recv hKc hPc (ci := 10) (q0 := 0) rfl rfl) hPc hKc) rfl rfl hl.1 rfl (lv_room (Nat.le_of_ble_eq_true rfl)) dX10_lookers_7 ⟨(Nat.le_of_ble_eq_true rfl), (Nat.le_of_ble_eq_true rfl)⟩).run (fun r_1 hw => ?_)
  obtain rfl : r_1 = 0 := hw
  refine lv_if_ne (tgt := 15) hx hb dX10_lookers_10 (by decide) (fun c_2 => absurd c_2 (by decide)) (fun c_2 => ?_)
  refine lv_iconst (v := (-1)) hx hb dX10_lookers_13 (by decide) ?_
  exact W.iret (v := (-1)) hx hb hr (fun t ht hW => ⟨⟨(-1), (), rfl, rfl, trivial⟩, hS.F ht⟩) hS.2.2 dX10_lookers_14

def w_c_lets10 : List Cond := .code yX10_lets cX10_lets 3 (some .int) :: ([.fieldLink RX10 117 "NotEndedModel" "thrown" "I", .initialized RX10, .selects RX10 yX10_isTurning yX10_isTurning, .instanceMethod yX10_isTurning, .methodLink RX10 349 yX10_isTurning] ++ (wsX100 ++ (w_c_isTurning10)))
theorem gw_c_lets10 : (w_c_lets10).all goodWord = true := by decide +kernel
set_option maxHeartbeats 4000000 in
set_option maxRecDepth 100000 in
/-- X10_lets of a new object -/
theorem c_lets10 (l : Launch) (dC : Nat → ClassId) (dI : Nat → Nat → Nat) (h0 : Nat) (v0 : Value) (v1 : Value) (v2 : Value) (v3 : Value) (v4 : Value) (v5 : Value) (v6 : Value) (v7 : Value) (v9 : Value) (v10 : Value) (v11 : Value) (v12 : Value) (v13 : Value) (v14 : Value) (v15 : Value) (v16 : Value) (v17 : Value) (v18 : Value) (v19 : Value) (v20 : Value) (v21 : Value) (v22 : Value) (v23 : Value) (v24 : Value) (v25 : Value) (v26 : Value) (v27 : Value) (v28 : Value) (v29 : Value) (v30 : Value) (v31 : Value) (v32 : Value) (v33 : Value) (v34 : Value) (v35 : Value) (v36 : Value) (v37 : Value) (v38 : Value) (v39 : Value) (v40 : Value) (v41 : Value) (v42 : Value) (v43 : Value) (v44 : Value) (v45 : Value) (v46 : Value) (v47 : Value) (v48 : Value) (v49 : Value) (v50 : Value) (v51 : Value) (p0 : Int32) (p1 : Int32) (sz : Nat) : Met l yX10_lets w_c_lets10 ({ frames := 3, cells := 0, slots := 0, locals := 180 }) (kW dC dI [.ref h0, .int p0, .int p1] [(h0, .inr (10, [v0, v1, v2, v3, v4, v5, v6, v7, .int 0, v9, v10, v11, v12, v13, v14, v15, v16, v17, v18, v19, v20, v21, v22, v23, v24, v25, v26, v27, v28, v29, v30, v31, v32, v33, v34, v35, v36, v37, v38, v39, v40, v41, v42, v43, v44, v45, v46, v47, v48, v49, v50, v51]))] [] kT sz) (va_Qi (fun (r : Int32) (_ : Unit) => r = (-1)) (fun _ _ => True) (va_A [(h0, .inr (10, [v0, v1, v2, v3, v4, v5, v6, v7, .int 0, v9, v10, v11, v12, v13, v14, v15, v16, v17, v18, v19, v20, v21, v22, v23, v24, v25, v26, v27, v28, v29, v30, v31, v32, v33, v34, v35, v36, v37, v38, v39, v40, v41, v42, v43, v44, v45, v46, v47, v48, v49, v50, v51]))] sz)) 0 0 (va_A [(h0, .inr (10, [v0, v1, v2, v3, v4, v5, v6, v7, .int 0, v9, v10, v11, v12, v13, v14, v15, v16, v17, v18, v19, v20, v21, v22, v23, v24, v25, v26, v27, v28, v29, v30, v31, v32, v33, v34, v35, v36, v37, v38, v39, v40, v41, v42, v43, v44, v45, v46, v47, v48, v49, v50, v51]))] sz) := by
  refine Met.ofW (cc := cX10_lets) (maxL := 3) (ret := (some .int)) (by decide) rfl ?_
  intro p e s m args below meth c s₁ B hml hv
  obtain ⟨rfl, hsz, hP, hK, hD0, hX⟩ := hv
  have hx := B.exec
  have hb := B.bytes
  have hr := B.returns
  have hts := atoms_spec (ws := w_c_lets10) B.pre
  have hown : s.vm.findClass RX10 = some m.cls := findClass_of_methodNamed B.named
  have hlocks := B.notSynchronized
  subst hsz
  have hD := hD0.self (sz := s.heap.size)
  generalize hAe : va_A [(h0, .inr (10, [v0, v1, v2, v3, v4, v5, v6, v7, .int 0, v9, v10, v11, v12, v13, v14, v15, v16, v17, v18, v19, v20, v21, v22, v23, v24, v25, v26, v27, v28, v29, v30, v31, v32, v33, v34, v35, v36, v37, v38, v39, v40, v41, v42, v43, v44, v45, v46, v47, v48, v49, v50, v51]))] s.heap.size = A at hD ⊢
  have hA : ∀ q : Nat, s.heap.size ≤ q → A q := fun q h => by rw [← hAe]; exact Or.inr h
  have hS : va_S A s.heap s.heap [] := va_S.rf
  have hP : va_P (dC, dI) vwCl [(h0, .inr (10, [v0, v1, v2, v3, v4, v5, v6, v7, .int 0, v9, v10, v11, v12, v13, v14, v15, v16, v17, v18, v19, v20, v21, v22, v23, v24, v25, v26, v27, v28, v29, v30, v31, v32, v33, v34, v35, v36, v37, v38, v39, v40, v41, v42, v43, v44, v45, v46, v47, v48, v49, v50, v51]))] s.heap := hP
  have hl := lv_entry ([.ref h0, .int p0, .int p1]) (n := 3) (Nat.le_of_ble_eq_true rfl)
  rw [lg_entry_eq]
  generalize (lg_sl ([.ref h0, .int p0, .int p1]) ++ List.replicate (3 - (lg_sl ([.ref h0, .int p0, .int p1])).length) Slot.unset).toArray = ls at hl ⊢
  have hl : lv_has ls 3 [(0, .ref h0), (1, .int p0), (2, .int p1)] := hl
  refine lv_aload_n hx hb dX10_lets_0 rfl (lv_at hl 0 rfl) ?_
  refine lv_iconst (v := 0) hx hb dX10_lets_1 (by decide) ?_
  refine va_put (D := (dC, dI)) (ci := 10) (v := .int 0) (ty := tyX10 0) (C := RX10) (T := TX10) (N := 52) hx hb hts (fun _ h => List.mem_cons_of_mem _ (List.mem_append_right _ (List.mem_append_left _ h))) tyX10 tyX10_ok nmX10 hown hK hP hD hS 0 rfl rfl 0 (by decide) (hts (.fieldLink RX10 117 "NotEndedModel" "thrown" "I") (List.mem_cons_of_mem _ (List.mem_append_left _ (List.mem_of_getElem? (i := 0) rfl)))) (fun _ h9 => h9) rfl (tyX10_ok 0 (by decide)) rfl rfl (Nat.le_of_ble_eq_true rfl) dX10_lets_2 (fun H locs hP hD hS => ?_)
  have hP : va_P (dC, dI) vwCl [(h0, .inr (10, [.int 0, v1, v2, v3, v4, v5, v6, v7, .int 0, v9, v10, v11, v12, v13, v14, v15, v16, v17, v18, v19, v20, v21, v22, v23, v24, v25, v26, v27, v28, v29, v30, v31, v32, v33, v34, v35, v36, v37, v38, v39, v40, v41, v42, v43, v44, v45, v46, v47, v48, v49, v50, v51]))] H := hP
  have hD : va_D A [(h0, .inr (10, [.int 0, v1, v2, v3, v4, v5, v6, v7, .int 0, v9, v10, v11, v12, v13, v14, v15, v16, v17, v18, v19, v20, v21, v22, v23, v24, v25, v26, v27, v28, v29, v30, v31, v32, v33, v34, v35, v36, v37, v38, v39, v40, v41, v42, v43, v44, v45, v46, v47, v48, v49, v50, v51]))] := hD
  refine lv_aload_n hx hb dX10_lets_5 rfl (lv_at hl 0 rfl) ?_
  refine lv_iload_n hx hb dX10_lets_6 rfl (lv_at hl 1 rfl) ?_
  have hPc := hP.sub (ws' := [(h0, .inr (10, [.int 0, v1, v2, v3, v4, v5, v6, v7, .int 0, v9, v10, v11, v12, v13, v14, v15, v16, v17, v18, v19, v20, v21, v22, v23, v24, v25, v26, v27, v28, v29, v30, v31, v32, v33, v34, v35, v36, v37, v38, v39, v40, v41, v42, v43, v44, v45, v46, v47, v48, v49, v50, v51]))]) [0] rfl
  have hKc := hK.sub (tys' := []) [] rfl
  refine vp_callSi (va_runV (As := [.int p0]) (rest := []) ⟨hx, hb, hml, hown, hts⟩ (c_isTurning10 l dC dI h0 (.int 0 : Value) (v1 : Value) (v2 : Value) (v3 : Value) (v4 : Value) (v5 : Value) (v6 : Value) (v7 : Value) (v9 : Value) (v10 : Value) (v11 : Value) (v12 : Value) (v13 : Value) (v14 : Value) (v15 : Value) (v16 : Value) (v17 : Value) (v18 : Value) (v19 : Value) (v20 : Value) (v21 : Value) (v22 : Value) (v23 : Value) (v24 : Value) (v25 : Value) (v26 : Value) (v27 : Value) (v28 : Value) (v29 : Value) (v30 : Value) (v31 : Value) (v32 : Value) (v33 : Value) (v34 : Value) (v35 : Value) (v36 : Value) (v37 : Value) (v38 : Value) (v39 : Value) (v40 : Value) (v41 : Value) (v42 : Value) (v43 : Value) (v44 : Value) (v45 : Value) (v46 : Value) (v47 : Value) (v48 : Value) (v49 : Value) (v50 : Value) (v51 : Value) p0) (cwV 1 hts (kG (List.forall_mem_cons.mpr ⟨(List.mem_cons_of_mem _ (List.mem_append_left _ (List.mem_of_getElem? (i := 4) rfl))), (List.forall_mem_cons.mpr ⟨(List.mem_cons_of_mem _ (List.mem_append_left _ (List.mem_of_getElem? (i := 3) rfl))), (List.forall_mem_cons.mpr ⟨(List.mem_cons_of_mem _ (List.mem_append_left _ (List.mem_of_getElem? (i := 2) rfl))), (List.forall_mem_cons.mpr ⟨(List.mem_cons_of_mem _ (List.mem_append_left _ (List.mem_of_getElem? (i := 1) rfl))), (fun _ h => absurd h List.not_mem_nil)⟩)⟩)⟩)⟩) (by decide +kernel) (fun _ h => List.mem_cons_of_mem _ (List.mem_append_right _ (List.mem_append_right _ h))) gw_c_isTurning10) rfl rfl rfl (by decide +kernel) ⟨(Nat.le_of_ble_eq_true rfl), (Nat.le_of_ble_eq_true rfl)⟩) (kR_V kT_blind kT_give (va_recv hKc hPc (ci := 10) (q0 := 0) rfl rfl) hPc hKc) rfl rfl hl.1 rfl (lv_room (Nat.le_of_ble_eq_true rfl)) dX10_lets_7 ⟨(Nat.le_of_ble_eq_true rfl), (Nat.le_of_ble_eq_true rfl)⟩).run (fun r_1 hw => ?_)
  obtain rfl : r_1 = 0 := hw
  refine lv_if_eq (tgt := 20) hx hb dX10_lets_10 (by decide) (fun c_2 => ?_) (fun c_2 => absurd (by decide) c_2)
  refine lv_iconst (v := (-1)) hx hb dX10_lets_20 (by decide) ?_
  refine lv_goto (tgt := 38) hx hb dX10_lets_21 (by decide) ?_
  exact W.iret (v := (-1)) hx hb hr (fun t ht hW => ⟨⟨(-1), (), rfl, rfl, trivial⟩, hS.F ht⟩) hS.2.2 dX10_lets_38

def w_c_bars10 : List Cond := .code yX10_bars cX10_bars 2 (some .int) :: ([.fieldLink RX10 117 "NotEndedModel" "thrown" "I", .initialized RX10, .selects RX10 yX10_isTurning yX10_isTurning, .instanceMethod yX10_isTurning, .methodLink RX10 349 yX10_isTurning] ++ (wsX100 ++ (w_c_isTurning10)))
theorem gw_c_bars10 : (w_c_bars10).all goodWord = true := by decide +kernel
set_option maxHeartbeats 4000000 in
set_option maxRecDepth 100000 in
/-- X10_bars of a new object -/
theorem c_bars10 (l : Launch) (dC : Nat → ClassId) (dI : Nat → Nat → Nat) (h0 : Nat) (v0 : Value) (v1 : Value) (v2 : Value) (v3 : Value) (v4 : Value) (v5 : Value) (v6 : Value) (v7 : Value) (v9 : Value) (v10 : Value) (v11 : Value) (v12 : Value) (v13 : Value) (v14 : Value) (v15 : Value) (v16 : Value) (v17 : Value) (v18 : Value) (v19 : Value) (v20 : Value) (v21 : Value) (v22 : Value) (v23 : Value) (v24 : Value) (v25 : Value) (v26 : Value) (v27 : Value) (v28 : Value) (v29 : Value) (v30 : Value) (v31 : Value) (v32 : Value) (v33 : Value) (v34 : Value) (v35 : Value) (v36 : Value) (v37 : Value) (v38 : Value) (v39 : Value) (v40 : Value) (v41 : Value) (v42 : Value) (v43 : Value) (v44 : Value) (v45 : Value) (v46 : Value) (v47 : Value) (v48 : Value) (v49 : Value) (v50 : Value) (v51 : Value) (p0 : Int32) (sz : Nat) : Met l yX10_bars w_c_bars10 ({ frames := 3, cells := 0, slots := 0, locals := 180 }) (kW dC dI [.ref h0, .int p0] [(h0, .inr (10, [v0, v1, v2, v3, v4, v5, v6, v7, .int 0, v9, v10, v11, v12, v13, v14, v15, v16, v17, v18, v19, v20, v21, v22, v23, v24, v25, v26, v27, v28, v29, v30, v31, v32, v33, v34, v35, v36, v37, v38, v39, v40, v41, v42, v43, v44, v45, v46, v47, v48, v49, v50, v51]))] [] kT sz) (va_Qi (fun (r : Int32) (_ : Unit) => r = (-1)) (fun _ _ => True) (va_A [(h0, .inr (10, [v0, v1, v2, v3, v4, v5, v6, v7, .int 0, v9, v10, v11, v12, v13, v14, v15, v16, v17, v18, v19, v20, v21, v22, v23, v24, v25, v26, v27, v28, v29, v30, v31, v32, v33, v34, v35, v36, v37, v38, v39, v40, v41, v42, v43, v44, v45, v46, v47, v48, v49, v50, v51]))] sz)) 0 0 (va_A [(h0, .inr (10, [v0, v1, v2, v3, v4, v5, v6, v7, .int 0, v9, v10, v11, v12, v13, v14, v15, v16, v17, v18, v19, v20, v21, v22, v23, v24, v25, v26, v27, v28, v29, v30, v31, v32, v33, v34, v35, v36, v37, v38, v39, v40, v41, v42, v43, v44, v45, v46, v47, v48, v49, v50, v51]))] sz) := by
  refine Met.ofW (cc := cX10_bars) (maxL := 2) (ret := (some .int)) (by decide) rfl ?_
  intro p e s m args below meth c s₁ B hml hv
  obtain ⟨rfl, hsz, hP, hK, hD0, hX⟩ := hv
  have hx := B.exec
  have hb := B.bytes
  have hr := B.returns
  have hts := atoms_spec (ws := w_c_bars10) B.pre
  have hown : s.vm.findClass RX10 = some m.cls := findClass_of_methodNamed B.named
  have hlocks := B.notSynchronized
  subst hsz
  have hD := hD0.self (sz := s.heap.size)
  generalize hAe : va_A [(h0, .inr (10, [v0, v1, v2, v3, v4, v5, v6, v7, .int 0, v9, v10, v11, v12, v13, v14, v15, v16, v17, v18, v19, v20, v21, v22, v23, v24, v25, v26, v27, v28, v29, v30, v31, v32, v33, v34, v35, v36, v37, v38, v39, v40, v41, v42, v43, v44, v45, v46, v47, v48, v49, v50, v51]))] s.heap.size = A at hD ⊢
  have hA : ∀ q : Nat, s.heap.size ≤ q → A q := fun q h => by rw [← hAe]; exact Or.inr h
  have hS : va_S A s.heap s.heap [] := va_S.rf
  have hP : va_P (dC, dI) vwCl [(h0, .inr (10, [v0, v1, v2, v3, v4, v5, v6, v7, .int 0, v9, v10, v11, v12, v13, v14, v15, v16, v17, v18, v19, v20, v21, v22, v23, v24, v25, v26, v27, v28, v29, v30, v31, v32, v33, v34, v35, v36, v37, v38, v39, v40, v41, v42, v43, v44, v45, v46, v47, v48, v49, v50, v51]))] s.heap := hP
  have hl := lv_entry ([.ref h0, .int p0]) (n := 2) (Nat.le_of_ble_eq_true rfl)
  rw [lg_entry_eq]
  generalize (lg_sl ([.ref h0, .int p0]) ++ List.replicate (2 - (lg_sl ([.ref h0, .int p0])).length) Slot.unset).toArray = ls at hl ⊢
  have hl : lv_has ls 2 [(0, .ref h0), (1, .int p0)] := hl
  refine lv_aload_n hx hb dX10_bars_0 rfl (lv_at hl 0 rfl) ?_
  refine lv_iconst (v := 0) hx hb dX10_bars_1 (by decide) ?_
  refine va_put (D := (dC, dI)) (ci := 10) (v := .int 0) (ty := tyX10 0) (C := RX10) (T := TX10) (N := 52) hx hb hts (fun _ h => List.mem_cons_of_mem _ (List.mem_append_right _ (List.mem_append_left _ h))) tyX10 tyX10_ok nmX10 hown hK hP hD hS 0 rfl rfl 0 (by decide) (hts (.fieldLink RX10 117 "NotEndedModel" "thrown" "I") (List.mem_cons_of_mem _ (List.mem_append_left _ (List.mem_of_getElem? (i := 0) rfl)))) (fun _ h9 => h9) rfl (tyX10_ok 0 (by decide)) rfl rfl (Nat.le_of_ble_eq_true rfl) dX10_bars_2 (fun H locs hP hD hS => ?_)
  have hP : va_P (dC, dI) vwCl [(h0, .inr (10, [.int 0, v1, v2, v3, v4, v5, v6, v7, .int 0, v9, v10, v11, v12, v13, v14, v15, v16, v17, v18, v19, v20, v21, v22, v23, v24, v25, v26, v27, v28, v29, v30, v31, v32, v33, v34, v35, v36, v37, v38, v39, v40, v41, v42, v43, v44, v45, v46, v47, v48, v49, v50, v51]))] H := hP
  have hD : va_D A [(h0, .inr (10, [.int 0, v1, v2, v3, v4, v5, v6, v7, .int 0, v9, v10, v11, v12, v13, v14, v15, v16, v17, v18, v19, v20, v21, v22, v23, v24, v25, v26, v27, v28, v29, v30, v31, v32, v33, v34, v35, v36, v37, v38, v39, v40, v41, v42, v43, v44, v45, v46, v47, v48, v49, v50, v51]))] := hD
  refine lv_aload_n hx hb dX10_bars_5 rfl (lv_at hl 0 rfl) ?_
  refine lv_iload_n hx hb dX10_bars_6 rfl (lv_at hl 1 rfl) ?_
  have hPc := hP.sub (ws' := [(h0, .inr (10, [.int 0, v1, v2, v3, v4, v5, v6, v7, .int 0, v9, v10, v11, v12, v13, v14, v15, v16, v17, v18, v19, v20, v21, v22, v23, v24, v25, v26, v27, v28, v29, v30, v31, v32, v33, v34, v35, v36, v37, v38, v39, v40, v41, v42, v43, v44, v45, v46, v47, v48, v49, v50, v51]))]) [0] rfl
  have hKc := hK.sub (tys' := []) [] rfl
  refine vp_callSi (va_runV (As := [.int p0]) (rest := []) ⟨hx, hb, hml, hown, hts⟩ (c_isTurning10 l dC dI h0 (.int 0 : Value) (v1 : Value) (v2 : Value) (v3 : Value) (v4 : Value) (v5 : Value) (v6 : Value) (v7 : Value) (v9 : Value) (v10 : Value) (v11 : Value) (v12 : Value) (v13 : Value) (v14 : Value) (v15 : Value) (v16 : Value) (v17 : Value) (v18 : Value) (v19 : Value) (v20 : Value) (v21 : Value) (v22 : Value) (v23 : Value) (v24 : Value) (v25 : Value) (v26 : Value) (v27 : Value) (v28 : Value) (v29 : Value) (v30 : Value) (v31 : Value) (v32 : Value) (v33 : Value) (v34 : Value) (v35 : Value) (v36 : Value) (v37 : Value) (v38 : Value) (v39 : Value) (v40 : Value) (v41 : Value) (v42 : Value) (v43 : Value) (v44 : Value) (v45 : Value) (v46 : Value) (v47 : Value) (v48 : Value) (v49 : Value) (v50 : Value) (v51 : Value) p0) (cwV 1 hts (kG (List.forall_mem_cons.mpr ⟨(List.mem_cons_of_mem _ (List.mem_append_left _ (List.mem_of_getElem? (i := 4) rfl))), (List.forall_mem_cons.mpr ⟨(List.mem_cons_of_mem _ (List.mem_append_left _ (List.mem_of_getElem? (i := 3) rfl))), (List.forall_mem_cons.mpr ⟨(List.mem_cons_of_mem _ (List.mem_append_left _ (List.mem_of_getElem? (i := 2) rfl))), (List.forall_mem_cons.mpr ⟨(List.mem_cons_of_mem _ (List.mem_append_left _ (List.mem_of_getElem? (i := 1) rfl))), (fun _ h => absurd h List.not_mem_nil)⟩)⟩)⟩)⟩) (by decide +kernel) (fun _ h => List.mem_cons_of_mem _ (List.mem_append_right _ (List.mem_append_right _ h))) gw_c_isTurning10) rfl rfl rfl (by decide +kernel) ⟨(Nat.le_of_ble_eq_true rfl), (Nat.le_of_ble_eq_true rfl)⟩) (kR_V kT_blind kT_give (va_recv hKc hPc (ci := 10) (q0 := 0) rfl rfl) hPc hKc) rfl rfl hl.1 rfl (lv_room (Nat.le_of_ble_eq_true rfl)) dX10_bars_7 ⟨(Nat.le_of_ble_eq_true rfl), (Nat.le_of_ble_eq_true rfl)⟩).run (fun r_1 hw => ?_)
  obtain rfl : r_1 = 0 := hw
  refine lv_if_eq (tgt := 24) hx hb dX10_bars_10 (by decide) (fun c_2 => ?_) (fun c_2 => absurd (by decide) c_2)
  refine lv_iconst (v := (-1)) hx hb dX10_bars_24 (by decide) ?_
  exact W.iret (v := (-1)) hx hb hr (fun t ht hW => ⟨⟨(-1), (), rfl, rfl, trivial⟩, hS.F ht⟩) hS.2.2 dX10_bars_25

def w_c_bolder10 : List Cond := .code yX10_bolder cX10_bolder 7 (some .int) :: ([.fieldLink RX10 117 "NotEndedModel" "thrown" "I", .initialized RX10, .selects RX10 yX10_isTurning yX10_isTurning, .instanceMethod yX10_isTurning, .methodLink RX10 349 yX10_isTurning] ++ (wsX100 ++ (w_c_isTurning10)))
theorem gw_c_bolder10 : (w_c_bolder10).all goodWord = true := by decide +kernel
set_option maxHeartbeats 4000000 in
set_option maxRecDepth 100000 in
/-- X10_bolder of a new object -/
theorem c_bolder10 (l : Launch) (dC : Nat → ClassId) (dI : Nat → Nat → Nat) (h0 : Nat) (v0 : Value) (v1 : Value) (v2 : Value) (v3 : Value) (v4 : Value) (v5 : Value) (v6 : Value) (v7 : Value) (v9 : Value) (v10 : Value) (v11 : Value) (v12 : Value) (v13 : Value) (v14 : Value) (v15 : Value) (v16 : Value) (v17 : Value) (v18 : Value) (v19 : Value) (v20 : Value) (v21 : Value) (v22 : Value) (v23 : Value) (v24 : Value) (v25 : Value) (v26 : Value) (v27 : Value) (v28 : Value) (v29 : Value) (v30 : Value) (v31 : Value) (v32 : Value) (v33 : Value) (v34 : Value) (v35 : Value) (v36 : Value) (v37 : Value) (v38 : Value) (v39 : Value) (v40 : Value) (v41 : Value) (v42 : Value) (v43 : Value) (v44 : Value) (v45 : Value) (v46 : Value) (v47 : Value) (v48 : Value) (v49 : Value) (v50 : Value) (v51 : Value) (p0 : Int32) (p1 : Int32) (sz : Nat) : Met l yX10_bolder w_c_bolder10 ({ frames := 3, cells := 0, slots := 0, locals := 180 }) (kW dC dI [.ref h0, .int p0, .int p1] [(h0, .inr (10, [v0, v1, v2, v3, v4, v5, v6, v7, .int 0, v9, v10, v11, v12, v13, v14, v15, v16, v17, v18, v19, v20, v21, v22, v23, v24, v25, v26, v27, v28, v29, v30, v31, v32, v33, v34, v35, v36, v37, v38, v39, v40, v41, v42, v43, v44, v45, v46, v47, v48, v49, v50, v51]))] [] kT sz) (va_Qi (fun (r : Int32) (_ : Unit) => r = (-1)) (fun _ _ => True) (va_A [(h0, .inr (10, [v0, v1, v2, v3, v4, v5, v6, v7, .int 0, v9, v10, v11, v12, v13, v14, v15, v16, v17, v18, v19, v20, v21, v22, v23, v24, v25, v26, v27, v28, v29, v30, v31, v32, v33, v34, v35, v36, v37, v38, v39, v40, v41, v42, v43, v44, v45, v46, v47, v48, v49, v50, v51]))] sz)) 0 0 (va_A [(h0, .inr (10, [v0, v1, v2, v3, v4, v5, v6, v7, .int 0, v9, v10, v11, v12, v13, v14, v15, v16, v17, v18, v19, v20, v21, v22, v23, v24, v25, v26, v27, v28, v29, v30, v31, v32, v33, v34, v35, v36, v37, v38, v39, v40, v41, v42, v43, v44, v45, v46, v47, v48, v49, v50, v51]))] sz) := by
  refine Met.ofW (cc := cX10_bolder) (maxL := 7) (ret := (some .int)) (by decide) rfl ?_
  intro p e s m args below meth c s₁ B hml hv
  obtain ⟨rfl, hsz, hP, hK, hD0, hX⟩ := hv
  have hx := B.exec
  have hb := B.bytes
  have hr := B.returns
  have hts := atoms_spec (ws := w_c_bolder10) B.pre
  have hown : s.vm.findClass RX10 = some m.cls := findClass_of_methodNamed B.named
  have hlocks := B.notSynchronized
  subst hsz
  have hD := hD0.self (sz := s.heap.size)
  generalize hAe : va_A [(h0, .inr (10, [v0, v1, v2, v3, v4, v5, v6, v7, .int 0, v9, v10, v11, v12, v13, v14, v15, v16, v17, v18, v19, v20, v21, v22, v23, v24, v25, v26, v27, v28, v29, v30, v31, v32, v33, v34, v35, v36, v37, v38, v39, v40, v41, v42, v43, v44, v45, v46, v47, v48, v49, v50, v51]))] s.heap.size = A at hD ⊢
  have hA : ∀ q : Nat, s.heap.size ≤ q → A q := fun q h => by rw [← hAe]; exact Or.inr h
  have hS : va_S A s.heap s.heap [] := va_S.rf
  have hP : va_P (dC, dI) vwCl [(h0, .inr (10, [v0, v1, v2, v3, v4, v5, v6, v7, .int 0, v9, v10, v11, v12, v13, v14, v15, v16, v17, v18, v19, v20, v21, v22, v23, v24, v25, v26, v27, v28, v29, v30, v31, v32, v33, v34, v35, v36, v37, v38, v39, v40, v41, v42, v43, v44, v45, v46, v47, v48, v49, v50, v51]))] s.heap := hP
  have hl := lv_entry ([.ref h0, .int p0, .int p1]) (n := 7) (Nat.le_of_ble_eq_true rfl)
  rw [lg_entry_eq]
  generalize (lg_sl ([.ref h0, .int p0, .int p1]) ++ List.replicate (7 - (lg_sl ([.ref h0, .int p0, .int p1])).length) Slot.unset).toArray = ls at hl ⊢
  have hl : lv_has ls 7 [(0, .ref h0), (1, .int p0), (2, .int p1)] := hl
  refine lv_aload_n hx hb dX10_bolder_0 rfl (lv_at hl 0 rfl) ?_
  refine lv_iconst (v := 0) hx hb dX10_bolder_1 (by decide) ?_
  refine va_put (D := (dC, dI)) (ci := 10) (v := .int 0) (ty := tyX10 0) (C := RX10) (T := TX10) (N := 52) hx hb hts (fun _ h => List.mem_cons_of_mem _ (List.mem_append_right _ (List.mem_append_left _ h))) tyX10 tyX10_ok nmX10 hown hK hP hD hS 0 rfl rfl 0 (by decide) (hts (.fieldLink RX10 117 "NotEndedModel" "thrown" "I") (List.mem_cons_of_mem _ (List.mem_append_left _ (List.mem_of_getElem? (i := 0) rfl)))) (fun _ h9 => h9) rfl (tyX10_ok 0 (by decide)) rfl rfl (Nat.le_of_ble_eq_true rfl) dX10_bolder_2 (fun H locs hP hD hS => ?_)
  have hP : va_P (dC, dI) vwCl [(h0, .inr (10, [.int 0, v1, v2, v3, v4, v5, v6, v7, .int 0, v9, v10, v11, v12, v13, v14, v15, v16, v17, v18, v19, v20, v21, v22, v23, v24, v25, v26, v27, v28, v29, v30, v31, v32, v33, v34, v35, v36, v37, v38, v39, v40, v41, v42, v43, v44, v45, v46, v47, v48, v49, v50, v51]))] H := hP
  have hD : va_D A [(h0, .inr (10, [.int 0, v1, v2, v3, v4, v5, v6, v7, .int 0, v9, v10, v11, v12, v13, v14, v15, v16, v17, v18, v19, v20, v21, v22, v23, v24, v25, v26, v27, v28, v29, v30, v31, v32, v33, v34, v35, v36, v37, v38, v39, v40, v41, v42, v43, v44, v45, v46, v47, v48, v49, v50, v51]))] := hD
  refine lv_aload_n hx hb dX10_bolder_5 rfl (lv_at hl 0 rfl) ?_
  refine lv_iload_n hx hb dX10_bolder_6 rfl (lv_at hl 1 rfl) ?_
  have hPc := hP.sub (ws' := [(h0, .inr (10, [.int 0, v1, v2, v3, v4, v5, v6, v7, .int 0, v9, v10, v11, v12, v13, v14, v15, v16, v17, v18, v19, v20, v21, v22, v23, v24, v25, v26, v27, v28, v29, v30, v31, v32, v33, v34, v35, v36, v37, v38, v39, v40, v41, v42, v43, v44, v45, v46, v47, v48, v49, v50, v51]))]) [0] rfl
  have hKc := hK.sub (tys' := []) [] rfl
  refine vp_callSi (va_runV (As := [.int p0]) (rest := []) ⟨hx, hb, hml, hown, hts⟩ (c_isTurning10 l dC dI h0 (.int 0 : Value) (v1 : Value) (v2 : Value) (v3 : Value) (v4 : Value) (v5 : Value) (v6 : Value) (v7 : Value) (v9 : Value) (v10 : Value) (v11 : Value) (v12 : Value) (v13 : Value) (v14 : Value) (v15 : Value) (v16 : Value) (v17 : Value) (v18 : Value) (v19 : Value) (v20 : Value) (v21 : Value) (v22 : Value) (v23 : Value) (v24 : Value) (v25 : Value) (v26 : Value) (v27 : Value) (v28 : Value) (v29 : Value) (v30 : Value) (v31 : Value) (v32 : Value) (v33 : Value) (v34 : Value) (v35 : Value) (v36 : Value) (v37 : Value) (v38 : Value) (v39 : Value) (v40 : Value) (v41 : Value) (v42 : Value) (v43 : Value) (v44 : Value) (v45 : Value) (v46 : Value) (v47 : Value) (v48 : Value) (v49 : Value) (v50 : Value) (v51 : Value) p0) (cwV 1 hts (kG (List.forall_mem_cons.mpr ⟨(List.mem_cons_of_mem _ (List.mem_append_left _ (List.mem_of_getElem? (i := 4) rfl))), (List.forall_mem_cons.mpr ⟨(List.mem_cons_of_mem _ (List.mem_append_left _ (List.mem_of_getElem? (i := 3) rfl))), (List.forall_mem_cons.mpr ⟨(List.mem_cons_of_mem _ (List.mem_append_left _ (List.mem_of_getElem? (i := 2) rfl))), (List.forall_mem_cons.mpr ⟨(List.mem_cons_of_mem _ (List.mem_append_left _ (List.mem_of_getElem? (i := 1) rfl))), (fun _ h => absurd h List.not_mem_nil)⟩)⟩)⟩)⟩) (by decide +kernel) (fun _ h => List.mem_cons_of_mem _ (List.mem_append_right _ (List.mem_append_right _ h))) gw_c_isTurning10) rfl rfl rfl (by decide +kernel) ⟨(Nat.le_of_ble_eq_true rfl), (Nat.le_of_ble_eq_true rfl)⟩) (kR_V kT_blind kT_give (va_recv hKc hPc (ci := 10) (q0 := 0) rfl rfl) hPc hKc) rfl rfl hl.1 rfl (lv_room (Nat.le_of_ble_eq_true rfl)) dX10_bolder_7 ⟨(Nat.le_of_ble_eq_true rfl), (Nat.le_of_ble_eq_true rfl)⟩).run (fun r_1 hw => ?_)
  obtain rfl : r_1 = 0 := hw
  refine lv_if_eq (tgt := 21) hx hb dX10_bolder_10 (by decide) (fun c_2 => ?_) (fun c_2 => absurd (by decide) c_2)
  refine lv_iconst (v := (-1)) hx hb dX10_bolder_21 (by decide) ?_
  exact W.iret (v := (-1)) hx hb hr (fun t ht hW => ⟨⟨(-1), (), rfl, rfl, trivial⟩, hS.F ht⟩) hS.2.2 dX10_bolder_22

def w_c_know10 : List Cond := .code yX10_know cX10_know 3 (some .boolean) :: ([.fieldLink RX10 117 "NotEndedModel" "thrown" "I", .initialized RX10, .selects RX10 yX10_isPerson yX10_isPerson, .instanceMethod yX10_isPerson, .methodLink RX10 253 yX10_isPerson] ++ (wsX100 ++ (w_c_isPerson10)))
theorem gw_c_know10 : (w_c_know10).all goodWord = true := by decide +kernel
set_option maxHeartbeats 4000000 in
set_option maxRecDepth 100000 in
/-- X10_know of a new object -/
theorem c_know10 (l : Launch) (dC : Nat → ClassId) (dI : Nat → Nat → Nat) (h0 : Nat) (v0 : Value) (v1 : Value) (v2 : Value) (v3 : Value) (v4 : Value) (v5 : Value) (v6 : Value) (v7 : Value) (v8 : Value) (v9 : Value) (v10 : Value) (v11 : Value) (v12 : Value) (v13 : Value) (v14 : Value) (v15 : Value) (v16 : Value) (v17 : Value) (v18 : Value) (v19 : Value) (v20 : Value) (v21 : Value) (v22 : Value) (v23 : Value) (v24 : Value) (v25 : Value) (v27 : Value) (v28 : Value) (v29 : Value) (v30 : Value) (v31 : Value) (v32 : Value) (v33 : Value) (v34 : Value) (v35 : Value) (v36 : Value) (v37 : Value) (v38 : Value) (v39 : Value) (v40 : Value) (v41 : Value) (v42 : Value) (v43 : Value) (v44 : Value) (v45 : Value) (v46 : Value) (v47 : Value) (v48 : Value) (v49 : Value) (v50 : Value) (v51 : Value) (p0 : Int32) (p1 : Int32) (sz : Nat) : Met l yX10_know w_c_know10 ({ frames := 3, cells := 0, slots := 0, locals := 180 }) (kW dC dI [.ref h0, .int p0, .int p1] [(h0, .inr (10, [v0, v1, v2, v3, v4, v5, v6, v7, v8, v9, v10, v11, v12, v13, v14, v15, v16, v17, v18, v19, v20, v21, v22, v23, v24, v25, .int 0, v27, v28, v29, v30, v31, v32, v33, v34, v35, v36, v37, v38, v39, v40, v41, v42, v43, v44, v45, v46, v47, v48, v49, v50, v51]))] [] kT sz) (va_Qi (fun (r : Int32) (_ : Unit) => r = 0) (fun _ _ => True) (va_A [(h0, .inr (10, [v0, v1, v2, v3, v4, v5, v6, v7, v8, v9, v10, v11, v12, v13, v14, v15, v16, v17, v18, v19, v20, v21, v22, v23, v24, v25, .int 0, v27, v28, v29, v30, v31, v32, v33, v34, v35, v36, v37, v38, v39, v40, v41, v42, v43, v44, v45, v46, v47, v48, v49, v50, v51]))] sz)) 0 0 (va_A [(h0, .inr (10, [v0, v1, v2, v3, v4, v5, v6, v7, v8, v9, v10, v11, v12, v13, v14, v15, v16, v17, v18, v19, v20, v21, v22, v23, v24, v25, .int 0, v27, v28, v29, v30, v31, v32, v33, v34, v35, v36, v37, v38, v39, v40, v41, v42, v43, v44, v45, v46, v47, v48, v49, v50, v51]))] sz) := by
  refine Met.ofW (cc := cX10_know) (maxL := 3) (ret := (some .boolean)) (by decide) rfl ?_
  intro p e s m args below meth c s₁ B hml hv
  obtain ⟨rfl, hsz, hP, hK, hD0, hX⟩ := hv
  have hx := B.exec
  have hb := B.bytes
  have hr := B.returns
  have hts := atoms_spec (ws := w_c_know10) B.pre
  have hown : s.vm.findClass RX10 = some m.cls := findClass_of_methodNamed B.named
  have hlocks := B.notSynchronized
  subst hsz
  have hD := hD0.self (sz := s.heap.size)
  generalize hAe : va_A [(h0, .inr (10, [v0, v1, v2, v3, v4, v5, v6, v7, v8, v9, v10, v11, v12, v13, v14, v15, v16, v17, v18, v19, v20, v21, v22, v23, v24, v25, .int 0, v27, v28, v29, v30, v31, v32, v33, v34, v35, v36, v37, v38, v39, v40, v41, v42, v43, v44, v45, v46, v47, v48, v49, v50, v51]))] s.heap.size = A at hD ⊢
  have hA : ∀ q : Nat, s.heap.size ≤ q → A q := fun q h => by rw [← hAe]; exact Or.inr h
  have hS : va_S A s.heap s.heap [] := va_S.rf
  have hP : va_P (dC, dI) vwCl [(h0, .inr (10, [v0, v1, v2, v3, v4, v5, v6, v7, v8, v9, v10, v11, v12, v13, v14, v15, v16, v17, v18, v19, v20, v21, v22, v23, v24, v25, .int 0, v27, v28, v29, v30, v31, v32, v33, v34, v35, v36, v37, v38, v39, v40, v41, v42, v43, v44, v45, v46, v47, v48, v49, v50, v51]))] s.heap := hP
  have hl := lv_entry ([.ref h0, .int p0, .int p1]) (n := 3) (Nat.le_of_ble_eq_true rfl)
  rw [lg_entry_eq]
  generalize (lg_sl ([.ref h0, .int p0, .int p1]) ++ List.replicate (3 - (lg_sl ([.ref h0, .int p0, .int p1])).length) Slot.unset).toArray = ls at hl ⊢
  have hl : lv_has ls 3 [(0, .ref h0), (1, .int p0), (2, .int p1)] := hl
  refine lv_aload_n hx hb dX10_know_0 rfl (lv_at hl 0 rfl) ?_
  refine lv_iconst (v := 0) hx hb dX10_know_1 (by decide) ?_
  refine va_put (D := (dC, dI)) (ci := 10) (v := .int 0) (ty := tyX10 0) (C := RX10) (T := TX10) (N := 52) hx hb hts (fun _ h => List.mem_cons_of_mem _ (List.mem_append_right _ (List.mem_append_left _ h))) tyX10 tyX10_ok nmX10 hown hK hP hD hS 0 rfl rfl 0 (by decide) (hts (.fieldLink RX10 117 "NotEndedModel" "thrown" "I") (List.mem_cons_of_mem _ (List.mem_append_left _ (List.mem_of_getElem? (i := 0) rfl)))) (fun _ h9 => h9) rfl (tyX10_ok 0 (by decide)) rfl rfl (Nat.le_of_ble_eq_true rfl) dX10_know_2 (fun H locs hP hD hS => ?_)
  have hP : va_P (dC, dI) vwCl [(h0, .inr (10, [.int 0, v1, v2, v3, v4, v5, v6, v7, v8, v9, v10, v11, v12, v13, v14, v15, v16, v17, v18, v19, v20, v21, v22, v23, v24, v25, .int 0, v27, v28, v29, v30, v31, v32, v33, v34, v35, v36, v37, v38, v39, v40, v41, v42, v43, v44, v45, v46, v47, v48, v49, v50, v51]))] H := hP
  have hD : va_D A [(h0, .inr (10, [.int 0, v1, v2, v3, v4, v5, v6, v7, v8, v9, v10, v11, v12, v13, v14, v15, v16, v17, v18, v19, v20, v21, v22, v23, v24, v25, .int 0, v27, v28, v29, v30, v31, v32, v33, v34, v35, v36, v37, v38, v39, v40, v41, v42, v43, v44, v45, v46, v47, v48, v49, v50, v51]))] := hD
  refine lv_aload_n hx hb dX10_know_5 rfl (lv_at hl 0 rfl) ?_
  refine lv_iload_n hx hb dX10_know_6 rfl (lv_at hl 1 rfl) ?_
  have hPc := hP.sub (ws' := [(h0, .inr (10, [.int 0, v1, v2, v3, v4, v5, v6, v7, v8, v9, v10, v11, v12, v13, v14, v15, v16, v17, v18, v19, v20, v21, v22, v23, v24, v25, .int 0, v27, v28, v29, v30, v31, v32, v33, v34, v35, v36, v37, v38, v39, v40, v41, v42, v43, v44, v45, v46, v47, v48, v49, v50, v51]))]) [0] rfl
  have hKc := hK.sub (tys' := []) [] rfl
  refine vp_callSi (va_runV (As := [.int p0]) (rest := []) ⟨hx, hb, hml, hown, hts⟩ (c_isPerson10 l dC dI h0 (.int 0 : Value) (v1 : Value) (v2 : Value) (v3 : Value) (v4 : Value) (v5 : Value) (v6 : Value) (v7 : Value) (v8 : Value) (v9 : Value) (v10 : Value) (v11 : Value) (v12 : Value) (v13 : Value) (v14 : Value) (v15 : Value) (v16 : Value) (v17 : Value) (v18 : Value) (v19 : Value) (v20 : Value) (v21 : Value) (v22 : Value) (v23 : Value) (v24 : Value) (v25 : Value) (v27 : Value) (v28 : Value) (v29 : Value) (v30 : Value) (v31 : Value) (v32 : Value) (v33 : Value) (v34 : Value) (v35 : Value) (v36 : Value) (v37 : Value) (v38 : Value) (v39 : Value) (v40 : Value) (v41 : Value) (v42 : Value) (v43 : Value) (v44 : Value) (v45 : Value) (v46 : Value) (v47 : Value) (v48 : Value) (v49 : Value) (v50 : Value) (v51 : Value) p0) (cwV 1 hts (kG (List.forall_mem_cons.mpr ⟨(List.mem_cons_of_mem _ (List.mem_append_left _ (List.mem_of_getElem? (i := 4) rfl))), (List.forall_mem_cons.mpr ⟨(List.mem_cons_of_mem _ (List.mem_append_left _ (List.mem_of_getElem? (i := 3) rfl))), (List.forall_mem_cons.mpr ⟨(List.mem_cons_of_mem _ (List.mem_append_left _ (List.mem_of_getElem? (i := 2) rfl))), (List.forall_mem_cons.mpr ⟨(List.mem_cons_of_mem _ (List.mem_append_left _ (List.mem_of_getElem? (i := 1) rfl))), (fun _ h => absurd h List.not_mem_nil)⟩)⟩)⟩)⟩) (by decide +kernel) (fun _ h => List.mem_cons_of_mem _ (List.mem_append_right _ (List.mem_append_right _ h))) gw_c_isPerson10) rfl rfl rfl (by decide +kernel) ⟨(Nat.le_of_ble_eq_true rfl), (Nat.le_of_ble_eq_true rfl)⟩) (kR_V kT_blind kT_give (va_recv hKc hPc (ci := 10) (q0 := 0) rfl rfl) hPc hKc) rfl rfl hl.1 rfl (lv_room (Nat.le_of_ble_eq_true rfl)) dX10_know_7 ⟨(Nat.le_of_ble_eq_true rfl), (Nat.le_of_ble_eq_true rfl)⟩).run (fun r_1 hw => ?_)
  obtain rfl : r_1 = 0 := hw
  refine lv_if_eq (tgt := 26) hx hb dX10_know_10 (by decide) (fun c_2 => ?_) (fun c_2 => absurd (by decide) c_2)
  refine lv_iconst (v := 0) hx hb dX10_know_26 (by decide) ?_
  exact W.zret (v := 0) hx hb hr rfl (fun t ht hW => ⟨⟨0, (), rfl, rfl, trivial⟩, hS.F ht⟩) hS.2.2 dX10_know_27

def w_c_note10 : List Cond := .code yX10_note cX10_note 6 (some .int) :: ([.fieldLink RX10 117 "NotEndedModel" "thrown" "I", .fieldLink RX10 331 "NotEndedModel" "notes" "I", .initialized RX10, .selects RX10 yX10_isPerson yX10_isPerson, .instanceMethod yX10_isPerson, .methodLink RX10 253 yX10_isPerson] ++ (wsX100 ++ (w_c_isPerson10)))
theorem gw_c_note10 : (w_c_note10).all goodWord = true := by decide +kernel
set_option maxHeartbeats 4000000 in
set_option maxRecDepth 100000 in
/-- X10_note of a new object -/
theorem c_note10 (l : Launch) (dC : Nat → ClassId) (dI : Nat → Nat → Nat) (h0 : Nat) (v0 : Value) (v1 : Value) (v2 : Value) (v3 : Value) (v4 : Value) (v5 : Value) (v6 : Value) (v7 : Value) (v8 : Value) (v9 : Value) (v10 : Value) (v11 : Value) (v12 : Value) (v13 : Value) (v14 : Value) (v15 : Value) (v16 : Value) (v17 : Value) (v18 : Value) (v19 : Value) (v20 : Value) (v21 : Value) (v22 : Value) (v23 : Value) (v24 : Value) (v25 : Value) (v27 : Value) (v28 : Value) (v29 : Value) (v30 : Value) (v31 : Value) (v32 : Value) (v33 : Value) (v34 : Value) (v35 : Value) (v36 : Value) (v37 : Value) (v38 : Value) (v39 : Value) (v40 : Value) (v41 : Value) (v42 : Value) (v43 : Value) (v44 : Value) (v46 : Value) (v47 : Value) (v48 : Value) (v49 : Value) (v50 : Value) (v51 : Value) (p0 : Int32) (p1 : Int32) (p2 : Int32) (p3 : Int32) (p4 : Int32) (sz : Nat) : Met l yX10_note w_c_note10 ({ frames := 3, cells := 0, slots := 0, locals := 180 }) (kW dC dI [.ref h0, .int p0, .int p1, .int p2, .int p3, .int p4] [(h0, .inr (10, [v0, v1, v2, v3, v4, v5, v6, v7, v8, v9, v10, v11, v12, v13, v14, v15, v16, v17, v18, v19, v20, v21, v22, v23, v24, v25, .int 0, v27, v28, v29, v30, v31, v32, v33, v34, v35, v36, v37, v38, v39, v40, v41, v42, v43, v44, .int 0, v46, v47, v48, v49, v50, v51]))] [] kT sz) (va_Qi (fun (r : Int32) (_ : Unit) => r = (-1)) (fun _ _ => True) (va_A [(h0, .inr (10, [v0, v1, v2, v3, v4, v5, v6, v7, v8, v9, v10, v11, v12, v13, v14, v15, v16, v17, v18, v19, v20, v21, v22, v23, v24, v25, .int 0, v27, v28, v29, v30, v31, v32, v33, v34, v35, v36, v37, v38, v39, v40, v41, v42, v43, v44, .int 0, v46, v47, v48, v49, v50, v51]))] sz)) 0 0 (va_A [(h0, .inr (10, [v0, v1, v2, v3, v4, v5, v6, v7, v8, v9, v10, v11, v12, v13, v14, v15, v16, v17, v18, v19, v20, v21, v22, v23, v24, v25, .int 0, v27, v28, v29, v30, v31, v32, v33, v34, v35, v36, v37, v38, v39, v40, v41, v42, v43, v44, .int 0, v46, v47, v48, v49, v50, v51]))] sz) := by
  refine Met.ofW (cc := cX10_note) (maxL := 6) (ret := (some .int)) (by decide) rfl ?_
  intro p e s m args below meth c s₁ B hml hv
  obtain ⟨rfl, hsz, hP, hK, hD0, hX⟩ := hv
  have hx := B.exec
  have hb := B.bytes
  have hr := B.returns
  have hts := atoms_spec (ws := w_c_note10) B.pre
  have hown : s.vm.findClass RX10 = some m.cls := findClass_of_methodNamed B.named
  have hlocks := B.notSynchronized
  subst hsz
  have hD := hD0.self (sz := s.heap.size)
  generalize hAe : va_A [(h0, .inr (10, [v0, v1, v2, v3, v4, v5, v6, v7, v8, v9, v10, v11, v12, v13, v14, v15, v16, v17, v18, v19, v20, v21, v22, v23, v24, v25, .int 0, v27, v28, v29, v30, v31, v32, v33, v34, v35, v36, v37, v38, v39, v40, v41, v42, v43, v44, .int 0, v46, v47, v48, v49, v50, v51]))] s.heap.size = A at hD ⊢
  have hA : ∀ q : Nat, s.heap.size ≤ q → A q := fun q h => by rw [← hAe]; exact Or.inr h
  have hS : va_S A s.heap s.heap [] := va_S.rf
  have hP : va_P (dC, dI) vwCl [(h0, .inr (10, [v0, v1, v2, v3, v4, v5, v6, v7, v8, v9, v10, v11, v12, v13, v14, v15, v16, v17, v18, v19, v20, v21, v22, v23, v24, v25, .int 0, v27, v28, v29, v30, v31, v32, v33, v34, v35, v36, v37, v38, v39, v40, v41, v42, v43, v44, .int 0, v46, v47, v48, v49, v50, v51]))] s.heap := hP
  have hl := lv_entry ([.ref h0, .int p0, .int p1, .int p2, .int p3, .int p4]) (n := 6) (Nat.le_of_ble_eq_true rfl)
  rw [lg_entry_eq]
  generalize (lg_sl ([.ref h0, .int p0, .int p1, .int p2, .int p3, .int p4]) ++ List.replicate (6 - (lg_sl ([.ref h0, .int p0, .int p1, .int p2, .int p3, .int p4])).length) Slot.unset).toArray = ls at hl ⊢
  have hl : lv_has ls 6 [(0, .ref h0), (1, .int p0), (2, .int p1), (3, .int p2), (4, .int p3), (5, .int p4)] := hl
  refine lv_aload_n hx hb dX10_note_0 rfl (lv_at hl 0 rfl) ?_
  refine lv_iconst (v := 0) hx hb dX10_note_1 (by decide) ?_
  refine va_put (D := (dC, dI)) (ci := 10) (v := .int 0) (ty := tyX10 0) (C := RX10) (T := TX10) (N := 52) hx hb hts (fun _ h => List.mem_cons_of_mem _ (List.mem_append_right _ (List.mem_append_left _ h))) tyX10 tyX10_ok nmX10 hown hK hP hD hS 0 rfl rfl 0 (by decide) (hts (.fieldLink RX10 117 "NotEndedModel" "thrown" "I") (List.mem_cons_of_mem _ (List.mem_append_left _ (List.mem_of_getElem? (i := 0) rfl)))) (fun _ h9 => h9) rfl (tyX10_ok 0 (by decide)) rfl rfl (Nat.le_of_ble_eq_true rfl) dX10_note_2 (fun H locs hP hD hS => ?_)
  have hP : va_P (dC, dI) vwCl [(h0, .inr (10, [.int 0, v1, v2, v3, v4, v5, v6, v7, v8, v9, v10, v11, v12, v13, v14, v15, v16, v17, v18, v19, v20, v21, v22, v23, v24, v25, .int 0, v27, v28, v29, v30, v31, v32, v33, v34, v35, v36, v37, v38, v39, v40, v41, v42, v43, v44, .int 0, v46, v47, v48, v49, v50, v51]))] H := hP
  have hD : va_D A [(h0, .inr (10, [.int 0, v1, v2, v3, v4, v5, v6, v7, v8, v9, v10, v11, v12, v13, v14, v15, v16, v17, v18, v19, v20, v21, v22, v23, v24, v25, .int 0, v27, v28, v29, v30, v31, v32, v33, v34, v35, v36, v37, v38, v39, v40, v41, v42, v43, v44, .int 0, v46, v47, v48, v49, v50, v51]))] := hD
  refine lv_aload_n hx hb dX10_note_5 rfl (lv_at hl 0 rfl) ?_
  refine va_get (D := (dC, dI)) (ci := 10) (v := .int 0) (C := RX10) (T := TX10) (N := 52) hx hb hts (fun _ h => List.mem_cons_of_mem _ (List.mem_append_right _ (List.mem_append_left _ h))) hown hK hP 0 rfl rfl 45 (by decide) (hts (.fieldLink RX10 331 "NotEndedModel" "notes" "I") (List.mem_cons_of_mem _ (List.mem_append_left _ (List.mem_of_getElem? (i := 1) rfl)))) (fun _ h9 => h9) rfl dX10_note_6 ?_
  refine lv_bipush (v := 20) hx hb dX10_note_9 (by decide) ?_
  refine lv_icmp_eq (tgt := 41) hx hb dX10_note_11 (by decide) (fun c_1 => absurd c_1 (by decide)) (fun c_1 => ?_)
  refine lv_aload_n hx hb dX10_note_14 rfl (lv_at hl 0 rfl) ?_
  refine lv_iload_n hx hb dX10_note_15 rfl (lv_at hl 1 rfl) ?_
  have hPc := hP.sub (ws' := [(h0, .inr (10, [.int 0, v1, v2, v3, v4, v5, v6, v7, v8, v9, v10, v11, v12, v13, v14, v15, v16, v17, v18, v19, v20, v21, v22, v23, v24, v25, .int 0, v27, v28, v29, v30, v31, v32, v33, v34, v35, v36, v37, v38, v39, v40, v41, v42, v43, v44, .int 0, v46, v47, v48, v49, v50, v51]))]) [0] rfl
  have hKc := hK.sub (tys' := []) [] rfl
  refine vp_callSi (va_runV (As := [.int p0]) (rest := []) ⟨hx, hb, hml, hown, hts⟩ (c_isPerson10 l dC dI h0 (.int 0 : Value) (v1 : Value) (v2 : Value) (v3 : Value) (v4 : Value) (v5 : Value) (v6 : Value) (v7 : Value) (v8 : Value) (v9 : Value) (v10 : Value) (v11 : Value) (v12 : Value) (v13 : Value) (v14 : Value) (v15 : Value) (v16 : Value) (v17 : Value) (v18 : Value) (v19 : Value) (v20 : Value) (v21 : Value) (v22 : Value) (v23 : Value) (v24 : Value) (v25 : Value) (v27 : Value) (v28 : Value) (v29 : Value) (v30 : Value) (v31 : Value) (v32 : Value) (v33 : Value) (v34 : Value) (v35 : Value) (v36 : Value) (v37 : Value) (v38 : Value) (v39 : Value) (v40 : Value) (v41 : Value) (v42 : Value) (v43 : Value) (v44 : Value) (.int 0 : Value) (v46 : Value) (v47 : Value) (v48 : Value) (v49 : Value) (v50 : Value) (v51 : Value) p0) (cwV 1 hts (kG (List.forall_mem_cons.mpr ⟨(List.mem_cons_of_mem _ (List.mem_append_left _ (List.mem_of_getElem? (i := 5) rfl))), (List.forall_mem_cons.mpr ⟨(List.mem_cons_of_mem _ (List.mem_append_left _ (List.mem_of_getElem? (i := 4) rfl))), (List.forall_mem_cons.mpr ⟨(List.mem_cons_of_mem _ (List.mem_append_left _ (List.mem_of_getElem? (i := 3) rfl))), (List.forall_mem_cons.mpr ⟨(List.mem_cons_of_mem _ (List.mem_append_left _ (List.mem_of_getElem? (i := 2) rfl))), (fun _ h => absurd h List.not_mem_nil)⟩)⟩)⟩)⟩) (by decide +kernel) (fun _ h => List.mem_cons_of_mem _ (List.mem_append_right _ (List.mem_append_right _ h))) gw_c_isPerson10) rfl rfl rfl (by decide +kernel) ⟨(Nat.le_of_ble_eq_true rfl), (Nat.le_of_ble_eq_true rfl)⟩) (kR_V kT_blind kT_give (va_recv hKc hPc (ci := 10) (q0 := 0) rfl rfl) hPc hKc) rfl rfl hl.1 rfl (lv_room (Nat.le_of_ble_eq_true rfl)) dX10_note_16 ⟨(Nat.le_of_ble_eq_true rfl), (Nat.le_of_ble_eq_true rfl)⟩).run (fun r_2 hw => ?_)
  obtain rfl : r_2 = 0 := hw
  refine lv_if_eq (tgt := 41) hx hb dX10_note_19 (by decide) (fun c_3 => ?_) (fun c_3 => absurd (by decide) c_3)
  refine lv_iconst (v := (-1)) hx hb dX10_note_41 (by decide) ?_
  exact W.iret (v := (-1)) hx hb hr (fun t ht hW => ⟨⟨(-1), (), rfl, rfl, trivial⟩, hS.F ht⟩) hS.2.2 dX10_note_42

def w_c_say10 : List Cond := .code yX10_say cX10_say 3 (some .boolean) :: ([.fieldLink RX10 117 "NotEndedModel" "thrown" "I", .initialized RX10, .selects RX10 yX10_isPerson yX10_isPerson, .instanceMethod yX10_isPerson, .methodLink RX10 253 yX10_isPerson] ++ (wsX100 ++ (w_c_isPerson10)))
theorem gw_c_say10 : (w_c_say10).all goodWord = true := by decide +kernel
set_option maxHeartbeats 4000000 in
set_option maxRecDepth 100000 in
/-- X10_say of a new object -/
theorem c_say10 (l : Launch) (dC : Nat → ClassId) (dI : Nat → Nat → Nat) (h0 : Nat) (v0 : Value) (v1 : Value) (v2 : Value) (v3 : Value) (v4 : Value) (v5 : Value) (v6 : Value) (v7 : Value) (v8 : Value) (v9 : Value) (v10 : Value) (v11 : Value) (v12 : Value) (v13 : Value) (v14 : Value) (v15 : Value) (v16 : Value) (v17 : Value) (v18 : Value) (v19 : Value) (v20 : Value) (v21 : Value) (v22 : Value) (v23 : Value) (v24 : Value) (v25 : Value) (v27 : Value) (v28 : Value) (v29 : Value) (v30 : Value) (v31 : Value) (v32 : Value) (v33 : Value) (v34 : Value) (v35 : Value) (v36 : Value) (v37 : Value) (v38 : Value) (v39 : Value) (v40 : Value) (v41 : Value) (v42 : Value) (v43 : Value) (v44 : Value) (v45 : Value) (v46 : Value) (v47 : Value) (v48 : Value) (v49 : Value) (v50 : Value) (v51 : Value) (p0 : Int32) (p1 : Int32) (sz : Nat) : Met l yX10_say w_c_say10 ({ frames := 3, cells := 0, slots := 0, locals := 180 }) (kW dC dI [.ref h0, .int p0, .int p1] [(h0, .inr (10, [v0, v1, v2, v3, v4, v5, v6, v7, v8, v9, v10, v11, v12, v13, v14, v15, v16, v17, v18, v19, v20, v21, v22, v23, v24, v25, .int 0, v27, v28, v29, v30, v31, v32, v33, v34, v35, v36, v37, v38, v39, v40, v41, v42, v43, v44, v45, v46, v47, v48, v49, v50, v51]))] [] kT sz) (va_Qi (fun (r : Int32) (_ : Unit) => r = 0) (fun _ _ => True) (va_A [(h0, .inr (10, [v0, v1, v2, v3, v4, v5, v6, v7, v8, v9, v10, v11, v12, v13, v14, v15, v16, v17, v18, v19, v20, v21, v22, v23, v24, v25, .int 0, v27, v28, v29, v30, v31, v32, v33, v34, v35, v36, v37, v38, v39, v40, v41, v42, v43, v44, v45, v46, v47, v48, v49, v50, v51]))] sz)) 0 0 (va_A [(h0, .inr (10, [v0, v1, v2, v3, v4, v5, v6, v7, v8, v9, v10, v11, v12, v13, v14, v15, v16, v17, v18, v19, v20, v21, v22, v23, v24, v25, .int 0, v27, v28, v29, v30, v31, v32, v33, v34, v35, v36, v37, v38, v39, v40, v41, v42, v43, v44, v45, v46, v47, v48, v49, v50, v51]))] sz) := by
  refine Met.ofW (cc := cX10_say) (maxL := 3) (ret := (some .boolean)) (by decide) rfl ?_
  intro p e s m args below meth c s₁ B hml hv
  obtain ⟨rfl, hsz, hP, hK, hD0, hX⟩ := hv
  have hx := B.exec
  have hb := B.bytes
  have hr := B.returns
  have hts := atoms_spec (ws := w_c_say10) B.pre
  have hown : s.vm.findClass RX10 = some m.cls := findClass_of_methodNamed B.named
  have hlocks := B.notSynchronized
  subst hsz
  have hD := hD0.self (sz := s.heap.size)
  generalize hAe : va_A [(h0, .inr (10, [v0, v1, v2, v3, v4, v5, v6, v7, v8, v9, v10, v11, v12, v13, v14, v15, v16, v17, v18, v19, v20, v21, v22, v23, v24, v25, .int 0, v27, v28, v29, v30, v31, v32, v33, v34, v35, v36, v37, v38, v39, v40, v41, v42, v43, v44, v45, v46, v47, v48, v49, v50, v51]))] s.heap.size = A at hD ⊢
  have hA : ∀ q : Nat, s.heap.size ≤ q → A q := fun q h => by rw [← hAe]; exact Or.inr h
  have hS : va_S A s.heap s.heap [] := va_S.rf
  have hP : va_P (dC, dI) vwCl [(h0, .inr (10, [v0, v1, v2, v3, v4, v5, v6, v7, v8, v9, v10, v11, v12, v13, v14, v15, v16, v17, v18, v19, v20, v21, v22, v23, v24, v25, .int 0, v27, v28, v29, v30, v31, v32, v33, v34, v35, v36, v37, v38, v39, v40, v41, v42, v43, v44, v45, v46, v47, v48, v49, v50, v51]))] s.heap := hP
  have hl := lv_entry ([.ref h0, .int p0, .int p1]) (n := 3) (Nat.le_of_ble_eq_true rfl)
  rw [lg_entry_eq]
  generalize (lg_sl ([.ref h0, .int p0, .int p1]) ++ List.replicate (3 - (lg_sl ([.ref h0, .int p0, .int p1])).length) Slot.unset).toArray = ls at hl ⊢
  have hl : lv_has ls 3 [(0, .ref h0), (1, .int p0), (2, .int p1)] := hl
  refine lv_aload_n hx hb dX10_say_0 rfl (lv_at hl 0 rfl) ?_
  refine lv_iconst (v := 0) hx hb dX10_say_1 (by decide) ?_
  refine va_put (D := (dC, dI)) (ci := 10) (v := .int 0) (ty := tyX10 0) (C := RX10) (T := TX10) (N := 52) hx hb hts (fun _ h => List.mem_cons_of_mem _ (List.mem_append_right _ (List.mem_append_left _ h))) tyX10 tyX10_ok nmX10 hown hK hP hD hS 0 rfl rfl 0 (by decide) (hts (.fieldLink RX10 117 "NotEndedModel" "thrown" "I") (List.mem_cons_of_mem _ (List.mem_append_left _ (List.mem_of_getElem? (i := 0) rfl)))) (fun _ h9 => h9) rfl (tyX10_ok 0 (by decide)) rfl rfl (Nat.le_of_ble_eq_true rfl) dX10_say_2 (fun H locs hP hD hS => ?_)
  have hP : va_P (dC, dI) vwCl [(h0, .inr (10, [.int 0, v1, v2, v3, v4, v5, v6, v7, v8, v9, v10, v11, v12, v13, v14, v15, v16, v17, v18, v19, v20, v21, v22, v23, v24, v25, .int 0, v27, v28, v29, v30, v31, v32, v33, v34, v35, v36, v37, v38, v39, v40, v41, v42, v43, v44, v45, v46, v47, v48, v49, v50, v51]))] H := hP
  have hD : va_D A [(h0, .inr (10, [.int 0, v1, v2, v3, v4, v5, v6, v7, v8, v9, v10, v11, v12, v13, v14, v15, v16, v17, v18, v19, v20, v21, v22, v23, v24, v25, .int 0, v27, v28, v29, v30, v31, v32, v33, v34, v35, v36, v37, v38, v39, v40, v41, v42, v43, v44, v45, v46, v47, v48, v49, v50, v51]))] := hD
  refine lv_aload_n hx hb dX10_say_5 rfl (lv_at hl 0 rfl) ?_
  refine lv_iload_n hx hb dX10_say_6 rfl (lv_at hl 1 rfl) ?_
  have hPc := hP.sub (ws' := [(h0, .inr (10, [.int 0, v1, v2, v3, v4, v5, v6, v7, v8, v9, v10, v11, v12, v13, v14, v15, v16, v17, v18, v19, v20, v21, v22, v23, v24, v25, .int 0, v27, v28, v29, v30, v31, v32, v33, v34, v35, v36, v37, v38, v39, v40, v41, v42, v43, v44, v45, v46, v47, v48, v49, v50, v51]))]) [0] rfl
  have hKc := hK.sub (tys' := []) [] rfl
  refine vp_callSi (va_runV (As := [.int p0]) (rest := []) ⟨hx, hb, hml, hown, hts⟩ (c_isPerson10 l dC dI h0 (.int 0 : Value) (v1 : Value) (v2 : Value) (v3 : Value) (v4 : Value) (v5 : Value) (v6 : Value) (v7 : Value) (v8 : Value) (v9 : Value) (v10 : Value) (v11 : Value) (v12 : Value) (v13 : Value) (v14 : Value) (v15 : Value) (v16 : Value) (v17 : Value) (v18 : Value) (v19 : Value) (v20 : Value) (v21 : Value) (v22 : Value) (v23 : Value) (v24 : Value) (v25 : Value) (v27 : Value) (v28 : Value) (v29 : Value) (v30 : Value) (v31 : Value) (v32 : Value) (v33 : Value) (v34 : Value) (v35 : Value) (v36 : Value) (v37 : Value) (v38 : Value) (v39 : Value) (v40 : Value) (v41 : Value) (v42 : Value) (v43 : Value) (v44 : Value) (v45 : Value) (v46 : Value) (v47 : Value) (v48 : Value) (v49 : Value) (v50 : Value) (v51 : Value) p0) (cwV 1 hts (kG (List.forall_mem_cons.mpr ⟨(List.mem_cons_of_mem _ (List.mem_append_left _ (List.mem_of_getElem? (i := 4) rfl))), (List.forall_mem_cons.mpr ⟨(List.mem_cons_of_mem _ (List.mem_append_left _ (List.mem_of_getElem? (i := 3) rfl))), (List.forall_mem_cons.mpr ⟨(List.mem_cons_of_mem _ (List.mem_append_left _ (List.mem_of_getElem? (i := 2) rfl))), (List.forall_mem_cons.mpr ⟨(List.mem_cons_of_mem _ (List.mem_append_left _ (List.mem_of_getElem? (i := 1) rfl))), (fun _ h => absurd h List.not_mem_nil)⟩)⟩)⟩)⟩) (by decide +kernel) (fun _ h => List.mem_cons_of_mem _ (List.mem_append_right _ (List.mem_append_right _ h))) gw_c_isPerson10) rfl rfl rfl (by decide +kernel) ⟨(Nat.le_of_ble_eq_true rfl), (Nat.le_of_ble_eq_true rfl)⟩) (kR_V kT_blind kT_give (va_recv hKc hPc (ci := 10) (q0 := 0) rfl rfl) hPc hKc) rfl rfl hl.1 rfl (lv_room (Nat.le_of_ble_eq_true rfl)) dX10_say_7 ⟨(Nat.le_of_ble_eq_true rfl), (Nat.le_of_ble_eq_true rfl)⟩).run (fun r_1 hw => ?_)
  obtain rfl : r_1 = 0 := hw
  refine lv_if_eq (tgt := 26) hx hb dX10_say_10 (by decide) (fun c_2 => ?_) (fun c_2 => absurd (by decide) c_2)
  refine lv_iconst (v := 0) hx hb dX10_say_26 (by decide) ?_
  exact W.zret (v := 0) hx hb hr rfl (fun t ht hW => ⟨⟨0, (), rfl, rfl, trivial⟩, hS.F ht⟩) hS.2.2 dX10_say_27

def w_c_act10 : List Cond := .code yX10_act cX10_act 6 (some .int) :: ([.fieldLink RX10 117 "NotEndedModel" "thrown" "I", .fieldLink RX10 367 "NotEndedModel" "acts" "I", .initialized RX10, .selects RX10 yX10_isPerson yX10_isPerson, .instanceMethod yX10_isPerson, .methodLink RX10 253 yX10_isPerson] ++ (wsX100 ++ (w_c_isPerson10)))
theorem gw_c_act10 : (w_c_act10).all goodWord = true := by decide +kernel
set_option maxHeartbeats 4000000 in
set_option maxRecDepth 100000 in
/-- X10_act of a new object -/
theorem c_act10 (l : Launch) (dC : Nat → ClassId) (dI : Nat → Nat → Nat) (h0 : Nat) (v0 : Value) (v1 : Value) (v2 : Value) (v3 : Value) (v4 : Value) (v5 : Value) (v6 : Value) (v7 : Value) (v8 : Value) (v9 : Value) (v10 : Value) (v11 : Value) (v12 : Value) (v13 : Value) (v14 : Value) (v15 : Value) (v16 : Value) (v17 : Value) (v18 : Value) (v19 : Value) (v20 : Value) (v21 : Value) (v22 : Value) (v23 : Value) (v24 : Value) (v25 : Value) (v27 : Value) (v28 : Value) (v29 : Value) (v30 : Value) (v31 : Value) (v32 : Value) (v33 : Value) (v34 : Value) (v35 : Value) (v36 : Value) (v37 : Value) (v38 : Value) (v39 : Value) (v40 : Value) (v41 : Value) (v42 : Value) (v43 : Value) (v44 : Value) (v45 : Value) (v46 : Value) (v47 : Value) (v48 : Value) (v49 : Value) (v50 : Value) (p0 : Int32) (p1 : Int32) (p2 : Int32) (p3 : Int32) (sz : Nat) : Met l yX10_act w_c_act10 ({ frames := 3, cells := 0, slots := 0, locals := 180 }) (kW dC dI [.ref h0, .int p0, .int p1, .int p2, .int p3] [(h0, .inr (10, [v0, v1, v2, v3, v4, v5, v6, v7, v8, v9, v10, v11, v12, v13, v14, v15, v16, v17, v18, v19, v20, v21, v22, v23, v24, v25, .int 0, v27, v28, v29, v30, v31, v32, v33, v34, v35, v36, v37, v38, v39, v40, v41, v42, v43, v44, v45, v46, v47, v48, v49, v50, .int 0]))] [] kT sz) (va_Qi (fun (r : Int32) (_ : Unit) => r = (-1)) (fun _ _ => True) (va_A [(h0, .inr (10, [v0, v1, v2, v3, v4, v5, v6, v7, v8, v9, v10, v11, v12, v13, v14, v15, v16, v17, v18, v19, v20, v21, v22, v23, v24, v25, .int 0, v27, v28, v29, v30, v31, v32, v33, v34, v35, v36, v37, v38, v39, v40, v41, v42, v43, v44, v45, v46, v47, v48, v49, v50, .int 0]))] sz)) 0 0 (va_A [(h0, .inr (10, [v0, v1, v2, v3, v4, v5, v6, v7, v8, v9, v10, v11, v12, v13, v14, v15, v16, v17, v18, v19, v20, v21, v22, v23, v24, v25, .int 0, v27, v28, v29, v30, v31, v32, v33, v34, v35, v36, v37, v38, v39, v40, v41, v42, v43, v44, v45, v46, v47, v48, v49, v50, .int 0]))] sz) := by
  refine Met.ofW (cc := cX10_act) (maxL := 6) (ret := (some .int)) (by decide) rfl ?_
  intro p e s m args below meth c s₁ B hml hv
  obtain ⟨rfl, hsz, hP, hK, hD0, hX⟩ := hv
  have hx := B.exec
  have hb := B.bytes
  have hr := B.returns
  have hts := atoms_spec (ws := w_c_act10) B.pre
  have hown : s.vm.findClass RX10 = some m.cls := findClass_of_methodNamed B.named
  have hlocks := B.notSynchronized
  subst hsz
  have hD := hD0.self (sz := s.heap.size)
  generalize hAe : va_A [(h0, .inr (10, [v0, v1, v2, v3, v4, v5, v6, v7, v8, v9, v10, v11, v12, v13, v14, v15, v16, v17, v18, v19, v20, v21, v22, v23, v24, v25, .int 0, v27, v28, v29, v30, v31, v32, v33, v34, v35, v36, v37, v38, v39, v40, v41, v42, v43, v44, v45, v46, v47, v48, v49, v50, .int 0]))] s.heap.size = A at hD ⊢
  have hA : ∀ q : Nat, s.heap.size ≤ q → A q := fun q h => by rw [← hAe]; exact Or.inr h
  have hS : va_S A s.heap s.heap [] := va_S.rf
  have hP : va_P (dC, dI) vwCl [(h0, .inr (10, [v0, v1, v2, v3, v4, v5, v6, v7, v8, v9, v10, v11, v12, v13, v14, v15, v16, v17, v18, v19, v20, v21, v22, v23, v24, v25, .int 0, v27, v28, v29, v30, v31, v32, v33, v34, v35, v36, v37, v38, v39, v40, v41, v42, v43, v44, v45, v46, v47, v48, v49, v50, .int 0]))] s.heap := hP
  have hl := lv_entry ([.ref h0, .int p0, .int p1, .int p2, .int p3]) (n := 6) (Nat.le_of_ble_eq_true rfl)
  rw [lg_entry_eq]
  generalize (lg_sl ([.ref h0, .int p0, .int p1, .int p2, .int p3]) ++ List.replicate (6 - (lg_sl ([.ref h0, .int p0, .int p1, .int p2, .int p3])).length) Slot.unset).toArray = ls at hl ⊢
  have hl : lv_has ls 6 [(0, .ref h0), (1, .int p0), (2, .int p1), (3, .int p2), (4, .int p3)] := hl
  refine lv_aload_n hx hb dX10_act_0 rfl (lv_at hl 0 rfl) ?_
  refine lv_iconst (v := 0) hx hb dX10_act_1 (by decide) ?_
  refine va_put (D := (dC, dI)) (ci := 10) (v := .int 0) (ty := tyX10 0) (C := RX10) (T := TX10) (N := 52) hx hb hts (fun _ h => List.mem_cons_of_mem _ (List.mem_append_right _ (List.mem_append_left _ h))) tyX10 tyX10_ok nmX10 hown hK hP hD hS 0 rfl rfl 0 (by decide) (hts (.fieldLink RX10 117 "NotEndedModel" "thrown" "I") (List.mem_cons_of_mem _ (List.mem_append_left _ (List.mem_of_getElem? (i := 0) rfl)))) (fun _ h9 => h9) rfl (tyX10_ok 0 (by decide)) rfl rfl (Nat.le_of_ble_eq_true rfl) dX10_act_2 (fun H locs hP hD hS => ?_)
  have hP : va_P (dC, dI) vwCl [(h0, .inr (10, [.int 0, v1, v2, v3, v4, v5, v6, v7, v8, v9, v10, v11, v12, v13, v14, v15, v16, v17, v18, v19, v20, v21, v22, v23, v24, v25, .int 0, v27, v28, v29, v30, v31, v32, v33, v34, v35, v36, v37, v38, v39, v40, v41, v42, v43, v44, v45, v46, v47, v48, v49, v50, .int 0]))] H := hP
  have hD : va_D A [(h0, .inr (10, [.int 0, v1, v2, v3, v4, v5, v6, v7, v8, v9, v10, v11, v12, v13, v14, v15, v16, v17, v18, v19, v20, v21, v22, v23, v24, v25, .int 0, v27, v28, v29, v30, v31, v32, v33, v34, v35, v36, v37, v38, v39, v40, v41, v42, v43, v44, v45, v46, v47, v48, v49, v50, .int 0]))] := hD
  refine lv_aload_n hx hb dX10_act_5 rfl (lv_at hl 0 rfl) ?_
  refine va_get (D := (dC, dI)) (ci := 10) (v := .int 0) (C := RX10) (T := TX10) (N := 52) hx hb hts (fun _ h => List.mem_cons_of_mem _ (List.mem_append_right _ (List.mem_append_left _ h))) hown hK hP 0 rfl rfl 51 (by decide) (hts (.fieldLink RX10 367 "NotEndedModel" "acts" "I") (List.mem_cons_of_mem _ (List.mem_append_left _ (List.mem_of_getElem? (i := 1) rfl)))) (fun _ h9 => h9) rfl dX10_act_6 ?_
  refine lv_bipush (v := 6) hx hb dX10_act_9 (by decide) ?_
  refine lv_icmp_eq (tgt := 42) hx hb dX10_act_11 (by decide) (fun c_1 => absurd c_1 (by decide)) (fun c_1 => ?_)
  refine lv_aload_n hx hb dX10_act_14 rfl (lv_at hl 0 rfl) ?_
  refine lv_iload_n hx hb dX10_act_15 rfl (lv_at hl 1 rfl) ?_
  have hPc := hP.sub (ws' := [(h0, .inr (10, [.int 0, v1, v2, v3, v4, v5, v6, v7, v8, v9, v10, v11, v12, v13, v14, v15, v16, v17, v18, v19, v20, v21, v22, v23, v24, v25, .int 0, v27, v28, v29, v30, v31, v32, v33, v34, v35, v36, v37, v38, v39, v40, v41, v42, v43, v44, v45, v46, v47, v48, v49, v50, .int 0]))]) [0] rfl
  have hKc := hK.sub (tys' := []) [] rfl
  refine vp_callSi (va_runV (As := [.int p0]) (rest := []) ⟨hx, hb, hml, hown, hts⟩ (c_isPerson10 l dC dI h0 (.int 0 : Value) (v1 : Value) (v2 : Value) (v3 : Value) (v4 : Value) (v5 : Value) (v6 : Value) (v7 : Value) (v8 : Value) (v9 : Value) (v10 : Value) (v11 : Value) (v12 : Value) (v13 : Value) (v14 : Value) (v15 : Value) (v16 : Value) (v17 : Value) (v18 : Value) (v19 : Value) (v20 : Value) (v21 : Value) (v22 : Value) (v23 : Value) (v24 : Value) (v25 : Value) (v27 : Value) (v28 : Value) (v29 : Value) (v30 : Value) (v31 : Value) (v32 : Value) (v33 : Value) (v34 : Value) (v35 : Value) (v36 : Value) (v37 : Value) (v38 : Value) (v39 : Value) (v40 : Value) (v41 : Value) (v42 : Value) (v43 : Value) (v44 : Value) (v45 : Value) (v46 : Value) (v47 : Value) (v48 : Value) (v49 : Value) (v50 : Value) (.int 0 : Value) p0) (cwV 1 hts (kG (List.forall_mem_cons.mpr ⟨(List.mem_cons_of_mem _ (List.mem_append_left _ (List.mem_of_getElem? (i := 5) rfl))), (List.forall_mem_cons.mpr ⟨(List.mem_cons_of_mem _ (List.mem_append_left _ (List.mem_of_getElem? (i := 4) rfl))), (List.forall_mem_cons.mpr ⟨(List.mem_cons_of_mem _ (List.mem_append_left _ (List.mem_of_getElem? (i := 3) rfl))), (List.forall_mem_cons.mpr ⟨(List.mem_cons_of_mem _ (List.mem_append_left _ (List.mem_of_getElem? (i := 2) rfl))), (fun _ h => absurd h List.not_mem_nil)⟩)⟩)⟩)⟩) (by decide +kernel) (fun _ h => List.mem_cons_of_mem _ (List.mem_append_right _ (List.mem_append_right _ h))) gw_c_isPerson10) rfl rfl rfl (by decide +kernel) ⟨(Nat.le_of_ble_eq_true rfl), (Nat.le_of_ble_eq_true rfl)⟩) (kR_V kT_blind kT_give (va_recv hKc hPc (ci := 10) (q0 := 0) rfl rfl) hPc hKc) rfl rfl hl.1 rfl (lv_room (Nat.le_of_ble_eq_true rfl)) dX10_act_16 ⟨(Nat.le_of_ble_eq_true rfl), (Nat.le_of_ble_eq_true rfl)⟩).run (fun r_2 hw => ?_)
  obtain rfl : r_2 = 0 := hw
  refine lv_if_eq (tgt := 42) hx hb dX10_act_19 (by decide) (fun c_3 => ?_) (fun c_3 => absurd (by decide) c_3)
  refine lv_iconst (v := (-1)) hx hb dX10_act_42 (by decide) ?_
  exact W.iret (v := (-1)) hx hb hr (fun t ht hW => ⟨⟨(-1), (), rfl, rfl, trivial⟩, hS.F ht⟩) hS.2.2 dX10_act_43

def w_c_fits10 : List Cond := .code yX10_fits cX10_fits 6 (some .int) :: ([.fieldLink RX10 117 "NotEndedModel" "thrown" "I", .fieldLink RX10 244 "NotEndedModel" "laws" "I"] ++ (wsX100))
theorem gw_c_fits10 : (w_c_fits10).all goodWord = true := by decide +kernel
set_option maxHeartbeats 4000000 in
set_option maxRecDepth 100000 in
/-- X10_fits of a new object -/
theorem c_fits10 (l : Launch) (dC : Nat → ClassId) (dI : Nat → Nat → Nat) (h0 : Nat) (v0 : Value) (v1 : Value) (v2 : Value) (v3 : Value) (v4 : Value) (v5 : Value) (v6 : Value) (v8 : Value) (v9 : Value) (v10 : Value) (v11 : Value) (v12 : Value) (v13 : Value) (v14 : Value) (v15 : Value) (v16 : Value) (v17 : Value) (v18 : Value) (v19 : Value) (v20 : Value) (v21 : Value) (v22 : Value) (v23 : Value) (v24 : Value) (v25 : Value) (v26 : Value) (v27 : Value) (v28 : Value) (v29 : Value) (v30 : Value) (v31 : Value) (v32 : Value) (v33 : Value) (v34 : Value) (v35 : Value) (v36 : Value) (v37 : Value) (v38 : Value) (v39 : Value) (v40 : Value) (v41 : Value) (v42 : Value) (v43 : Value) (v44 : Value) (v45 : Value) (v46 : Value) (v47 : Value) (v48 : Value) (v49 : Value) (v50 : Value) (v51 : Value) (p0 : Int64) (p1 : Int32) (sz : Nat) : Met l yX10_fits w_c_fits10 ({ frames := 3, cells := 0, slots := 0, locals := 180 }) (kW dC dI [.ref h0, .long p0, .int p1] [(h0, .inr (10, [v0, v1, v2, v3, v4, v5, v6, .int 0, v8, v9, v10, v11, v12, v13, v14, v15, v16, v17, v18, v19, v20, v21, v22, v23, v24, v25, v26, v27, v28, v29, v30, v31, v32, v33, v34, v35, v36, v37, v38, v39, v40, v41, v42, v43, v44, v45, v46, v47, v48, v49, v50, v51]))] [] kT sz) (va_Qi (fun (r : Int32) (_ : Unit) => r = 0) (fun _ _ => True) (va_A [(h0, .inr (10, [v0, v1, v2, v3, v4, v5, v6, .int 0, v8, v9, v10, v11, v12, v13, v14, v15, v16, v17, v18, v19, v20, v21, v22, v23, v24, v25, v26, v27, v28, v29, v30, v31, v32, v33, v34, v35, v36, v37, v38, v39, v40, v41, v42, v43, v44, v45, v46, v47, v48, v49, v50, v51]))] sz)) 0 0 (va_A [(h0, .inr (10, [v0, v1, v2, v3, v4, v5, v6, .int 0, v8, v9, v10, v11, v12, v13, v14, v15, v16, v17, v18, v19, v20, v21, v22, v23, v24, v25, v26, v27, v28, v29, v30, v31, v32, v33, v34, v35, v36, v37, v38, v39, v40, v41, v42, v43, v44, v45, v46, v47, v48, v49, v50, v51]))] sz) := by
  refine Met.ofW (cc := cX10_fits) (maxL := 6) (ret := (some .int)) (by decide) rfl ?_
  intro p e s m args below meth c s₁ B hml hv
  obtain ⟨rfl, hsz, hP, hK, hD0, hX⟩ := hv
  have hx := B.exec
  have hb := B.bytes
  have hr := B.returns
  have hts := atoms_spec (ws := w_c_fits10) B.pre
  have hown : s.vm.findClass RX10 = some m.cls := findClass_of_methodNamed B.named
  have hlocks := B.notSynchronized
  subst hsz
  have hD := hD0.self (sz := s.heap.size)
  generalize hAe : va_A [(h0, .inr (10, [v0, v1, v2, v3, v4, v5, v6, .int 0, v8, v9, v10, v11, v12, v13, v14, v15, v16, v17, v18, v19, v20, v21, v22, v23, v24, v25, v26, v27, v28, v29, v30, v31, v32, v33, v34, v35, v36, v37, v38, v39, v40, v41, v42, v43, v44, v45, v46, v47, v48, v49, v50, v51]))] s.heap.size = A at hD ⊢
  have hA : ∀ q : Nat, s.heap.size ≤ q → A q := fun q h => by rw [← hAe]; exact Or.inr h
  have hS : va_S A s.heap s.heap [] := va_S.rf
  have hP : va_P (dC, dI) vwCl [(h0, .inr (10, [v0, v1, v2, v3, v4, v5, v6, .int 0, v8, v9, v10, v11, v12, v13, v14, v15, v16, v17, v18, v19, v20, v21, v22, v23, v24, v25, v26, v27, v28, v29, v30, v31, v32, v33, v34, v35, v36, v37, v38, v39, v40, v41, v42, v43, v44, v45, v46, v47, v48, v49, v50, v51]))] s.heap := hP
  have hl := lv_entry ([.ref h0, .long p0, .int p1]) (n := 6) (Nat.le_of_ble_eq_true rfl)
  rw [lg_entry_eq]
  generalize (lg_sl ([.ref h0, .long p0, .int p1]) ++ List.replicate (6 - (lg_sl ([.ref h0, .long p0, .int p1])).length) Slot.unset).toArray = ls at hl ⊢
  have hl : lv_has ls 6 [(0, .ref h0), (1, .long p0), (3, .int p1)] := hl
  refine lv_aload_n hx hb dX10_fits_0 rfl (lv_at hl 0 rfl) ?_
  refine lv_iconst (v := 0) hx hb dX10_fits_1 (by decide) ?_
  refine va_put (D := (dC, dI)) (ci := 10) (v := .int 0) (ty := tyX10 0) (C := RX10) (T := TX10) (N := 52) hx hb hts (fun _ h => List.mem_cons_of_mem _ (List.mem_append_right _ h)) tyX10 tyX10_ok nmX10 hown hK hP hD hS 0 rfl rfl 0 (by decide) (hts (.fieldLink RX10 117 "NotEndedModel" "thrown" "I") (List.mem_cons_of_mem _ (List.mem_append_left _ (List.mem_of_getElem? (i := 0) rfl)))) (fun _ h9 => h9) rfl (tyX10_ok 0 (by decide)) rfl rfl (Nat.le_of_ble_eq_true rfl) dX10_fits_2 (fun H locs hP hD hS => ?_)
  have hP : va_P (dC, dI) vwCl [(h0, .inr (10, [.int 0, v1, v2, v3, v4, v5, v6, .int 0, v8, v9, v10, v11, v12, v13, v14, v15, v16, v17, v18, v19, v20, v21, v22, v23, v24, v25, v26, v27, v28, v29, v30, v31, v32, v33, v34, v35, v36, v37, v38, v39, v40, v41, v42, v43, v44, v45, v46, v47, v48, v49, v50, v51]))] H := hP
  have hD : va_D A [(h0, .inr (10, [.int 0, v1, v2, v3, v4, v5, v6, .int 0, v8, v9, v10, v11, v12, v13, v14, v15, v16, v17, v18, v19, v20, v21, v22, v23, v24, v25, v26, v27, v28, v29, v30, v31, v32, v33, v34, v35, v36, v37, v38, v39, v40, v41, v42, v43, v44, v45, v46, v47, v48, v49, v50, v51]))] := hD
  refine lv_iconst (v := 0) hx hb dX10_fits_5 (by decide) ?_
  refine lv_istore (lv' := [(4, .int 0), (0, .ref h0), (1, .long p0), (3, .int p1)]) hx hb dX10_fits_6 hl (by decide) rfl (fun ls hl => ?_)
  refine lv_iconst (v := 0) hx hb dX10_fits_8 (by decide) ?_
  refine lv_istore (lv' := [(5, .int 0), (4, .int 0), (0, .ref h0), (1, .long p0), (3, .int p1)]) hx hb dX10_fits_9 hl (by decide) rfl (fun ls hl => ?_)
  refine lv_iload hx hb dX10_fits_11 (lv_at hl 0 rfl) ?_
  refine lv_aload_n hx hb dX10_fits_13 rfl (lv_at hl 2 rfl) ?_
  refine va_get (D := (dC, dI)) (ci := 10) (v := .int 0) (C := RX10) (T := TX10) (N := 52) hx hb hts (fun _ h => List.mem_cons_of_mem _ (List.mem_append_right _ h)) hown hK hP 0 rfl rfl 7 (by decide) (hts (.fieldLink RX10 244 "NotEndedModel" "laws" "I") (List.mem_cons_of_mem _ (List.mem_append_left _ (List.mem_of_getElem? (i := 1) rfl)))) (fun _ h9 => h9) rfl dX10_fits_14 ?_
  refine lv_icmp_ge (tgt := 50) hx hb dX10_fits_17 (by decide) (fun c_1 => ?_) (fun c_1 => absurd (by decide) c_1)
  refine lv_iload hx hb dX10_fits_50 (lv_at hl 1 rfl) ?_
  exact W.iret (v := 0) hx hb hr (fun t ht hW => ⟨⟨0, (), rfl, rfl, trivial⟩, hS.F ht⟩) hS.2.2 dX10_fits_52

def w_c_odds10 : List Cond := .code yX10_odds cX10_odds 11 (some .long) :: ([.fieldLink RX10 117 "NotEndedModel" "thrown" "I", .initialized RX10, .selects RX10 yX10_isLaw yX10_isLaw, .instanceMethod yX10_isLaw, .methodLink RX10 311 yX10_isLaw, .constantLong RX10 347 (-1)] ++ (wsX100 ++ (w_c_isLaw10)))
theorem gw_c_odds10 : (w_c_odds10).all goodWord = true := by decide +kernel
set_option maxHeartbeats 4000000 in
set_option maxRecDepth 100000 in
/-- X10_odds of a new object -/
theorem c_odds10 (l : Launch) (dC : Nat → ClassId) (dI : Nat → Nat → Nat) (h0 : Nat) (v0 : Value) (v1 : Value) (v2 : Value) (v3 : Value) (v4 : Value) (v5 : Value) (v6 : Value) (v8 : Value) (v9 : Value) (v10 : Value) (v11 : Value) (v12 : Value) (v13 : Value) (v14 : Value) (v15 : Value) (v16 : Value) (v17 : Value) (v18 : Value) (v19 : Value) (v20 : Value) (v21 : Value) (v22 : Value) (v23 : Value) (v24 : Value) (v25 : Value) (v26 : Value) (v27 : Value) (v28 : Value) (v29 : Value) (v30 : Value) (v31 : Value) (v32 : Value) (v33 : Value) (v34 : Value) (v35 : Value) (v36 : Value) (v37 : Value) (v38 : Value) (v39 : Value) (v40 : Value) (v41 : Value) (v42 : Value) (v43 : Value) (v44 : Value) (v45 : Value) (v46 : Value) (v47 : Value) (v48 : Value) (v49 : Value) (v50 : Value) (v51 : Value) (p0 : Int32) (p1 : Int64) (p2 : Int32) (p3 : Int32) (sz : Nat) : Met l yX10_odds w_c_odds10 ({ frames := 3, cells := 0, slots := 0, locals := 180 }) (kW dC dI [.ref h0, .int p0, .long p1, .int p2, .int p3] [(h0, .inr (10, [v0, v1, v2, v3, v4, v5, v6, .int 0, v8, v9, v10, v11, v12, v13, v14, v15, v16, v17, v18, v19, v20, v21, v22, v23, v24, v25, v26, v27, v28, v29, v30, v31, v32, v33, v34, v35, v36, v37, v38, v39, v40, v41, v42, v43, v44, v45, v46, v47, v48, v49, v50, v51]))] [] kT sz) (va_Ql (fun (r : Int64) (_ : Unit) => r = (-1)) (fun _ _ => True) (va_A [(h0, .inr (10, [v0, v1, v2, v3, v4, v5, v6, .int 0, v8, v9, v10, v11, v12, v13, v14, v15, v16, v17, v18, v19, v20, v21, v22, v23, v24, v25, v26, v27, v28, v29, v30, v31, v32, v33, v34, v35, v36, v37, v38, v39, v40, v41, v42, v43, v44, v45, v46, v47, v48, v49, v50, v51]))] sz)) 0 0 (va_A [(h0, .inr (10, [v0, v1, v2, v3, v4, v5, v6, .int 0, v8, v9, v10, v11, v12, v13, v14, v15, v16, v17, v18, v19, v20, v21, v22, v23, v24, v25, v26, v27, v28, v29, v30, v31, v32, v33, v34, v35, v36, v37, v38, v39, v40, v41, v42, v43, v44, v45, v46, v47, v48, v49, v50, v51]))] sz) := by
  refine Met.ofW (cc := cX10_odds) (maxL := 11) (ret := (some .long)) (by decide) rfl ?_
  intro p e s m args below meth c s₁ B hml hv
  obtain ⟨rfl, hsz, hP, hK, hD0, hX⟩ := hv
  have hx := B.exec
  have hb := B.bytes
  have hr := B.returns
  have hts := atoms_spec (ws := w_c_odds10) B.pre
  have hown : s.vm.findClass RX10 = some m.cls := findClass_of_methodNamed B.named
  have hlocks := B.notSynchronized
  subst hsz
  have hD := hD0.self (sz := s.heap.size)
  generalize hAe : va_A [(h0, .inr (10, [v0, v1, v2, v3, v4, v5, v6, .int 0, v8, v9, v10, v11, v12, v13, v14, v15, v16, v17, v18, v19, v20, v21, v22, v23, v24, v25, v26, v27, v28, v29, v30, v31, v32, v33, v34, v35, v36, v37, v38, v39, v40, v41, v42, v43, v44, v45, v46, v47, v48, v49, v50, v51]))] s.heap.size = A at hD ⊢
  have hA : ∀ q : Nat, s.heap.size ≤ q → A q := fun q h => by rw [← hAe]; exact Or.inr h
  have hS : va_S A s.heap s.heap [] := va_S.rf
  have hP : va_P (dC, dI) vwCl [(h0, .inr (10, [v0, v1, v2, v3, v4, v5, v6, .int 0, v8, v9, v10, v11, v12, v13, v14, v15, v16, v17, v18, v19, v20, v21, v22, v23, v24, v25, v26, v27, v28, v29, v30, v31, v32, v33, v34, v35, v36, v37, v38, v39, v40, v41, v42, v43, v44, v45, v46, v47, v48, v49, v50, v51]))] s.heap := hP
  have hl := lv_entry ([.ref h0, .int p0, .long p1, .int p2, .int p3]) (n := 11) (Nat.le_of_ble_eq_true rfl)
  rw [lg_entry_eq]
  generalize (lg_sl ([.ref h0, .int p0, .long p1, .int p2, .int p3]) ++ List.replicate (11 - (lg_sl ([.ref h0, .int p0, .long p1, .int p2, .int p3])).length) Slot.unset).toArray = ls at hl ⊢
  have hl : lv_has ls 11 [(0, .ref h0), (1, .int p0), (2, .long p1), (4, .int p2), (5, .int p3)] := hl
  refine lv_aload_n hx hb dX10_odds_0 rfl (lv_at hl 0 rfl) ?_
  refine lv_iconst (v := 0) hx hb dX10_odds_1 (by decide) ?_
  refine va_put (D := (dC, dI)) (ci := 10) (v := .int 0) (ty := tyX10 0) (C := RX10) (T := TX10) (N := 52) hx hb hts (fun _ h => List.mem_cons_of_mem _ (List.mem_append_right _ (List.mem_append_left _ h))) tyX10 tyX10_ok nmX10 hown hK hP hD hS 0 rfl rfl 0 (by decide) (hts (.fieldLink RX10 117 "NotEndedModel" "thrown" "I") (List.mem_cons_of_mem _ (List.mem_append_left _ (List.mem_of_getElem? (i := 0) rfl)))) (fun _ h9 => h9) rfl (tyX10_ok 0 (by decide)) rfl rfl (Nat.le_of_ble_eq_true rfl) dX10_odds_2 (fun H locs hP hD hS => ?_)
  have hP : va_P (dC, dI) vwCl [(h0, .inr (10, [.int 0, v1, v2, v3, v4, v5, v6, .int 0, v8, v9, v10, v11, v12, v13, v14, v15, v16, v17, v18, v19, v20, v21, v22, v23, v24, v25, v26, v27, v28, v29, v30, v31, v32, v33, v34, v35, v36, v37, v38, v39, v40, v41, v42, v43, v44, v45, v46, v47, v48, v49, v50, v51]))] H := hP
  have hD : va_D A [(h0, .inr (10, [.int 0, v1, v2, v3, v4, v5, v6, .int 0, v8, v9, v10, v11, v12, v13, v14, v15, v16, v17, v18, v19, v20, v21, v22, v23, v24, v25, v26, v27, v28, v29, v30, v31, v32, v33, v34, v35, v36, v37, v38, v39, v40, v41, v42, v43, v44, v45, v46, v47, v48, v49, v50, v51]))] := hD
  refine lv_aload_n hx hb dX10_odds_5 rfl (lv_at hl 0 rfl) ?_
  refine lv_iload_n hx hb dX10_odds_6 rfl (lv_at hl 1 rfl) ?_
  have hPc := hP.sub (ws' := [(h0, .inr (10, [.int 0, v1, v2, v3, v4, v5, v6, .int 0, v8, v9, v10, v11, v12, v13, v14, v15, v16, v17, v18, v19, v20, v21, v22, v23, v24, v25, v26, v27, v28, v29, v30, v31, v32, v33, v34, v35, v36, v37, v38, v39, v40, v41, v42, v43, v44, v45, v46, v47, v48, v49, v50, v51]))]) [0] rfl
  have hKc := hK.sub (tys' := []) [] rfl
  refine vp_callSi (va_runV (As := [.int p0]) (rest := []) ⟨hx, hb, hml, hown, hts⟩ (c_isLaw10 l dC dI h0 (.int 0 : Value) (v1 : Value) (v2 : Value) (v3 : Value) (v4 : Value) (v5 : Value) (v6 : Value) (v8 : Value) (v9 : Value) (v10 : Value) (v11 : Value) (v12 : Value) (v13 : Value) (v14 : Value) (v15 : Value) (v16 : Value) (v17 : Value) (v18 : Value) (v19 : Value) (v20 : Value) (v21 : Value) (v22 : Value) (v23 : Value) (v24 : Value) (v25 : Value) (v26 : Value) (v27 : Value) (v28 : Value) (v29 : Value) (v30 : Value) (v31 : Value) (v32 : Value) (v33 : Value) (v34 : Value) (v35 : Value) (v36 : Value) (v37 : Value) (v38 : Value) (v39 : Value) (v40 : Value) (v41 : Value) (v42 : Value) (v43 : Value) (v44 : Value) (v45 : Value) (v46 : Value) (v47 : Value) (v48 : Value) (v49 : Value) (v50 : Value) (v51 : Value) p0) (cwV 1 hts (kG (List.forall_mem_cons.mpr ⟨(List.mem_cons_of_mem _ (List.mem_append_left _ (List.mem_of_getElem? (i := 4) rfl))), (List.forall_mem_cons.mpr ⟨(List.mem_cons_of_mem _ (List.mem_append_left _ (List.mem_of_getElem? (i := 3) rfl))), (List.forall_mem_cons.mpr ⟨(List.mem_cons_of_mem _ (List.mem_append_left _ (List.mem_of_getElem? (i := 2) rfl))), (List.forall_mem_cons.mpr ⟨(List.mem_cons_of_mem _ (List.mem_append_left _ (List.mem_of_getElem? (i := 1) rfl))), (fun _ h => absurd h List.not_mem_nil)⟩)⟩)⟩)⟩) (by decide +kernel) (fun _ h => List.mem_cons_of_mem _ (List.mem_append_right _ (List.mem_append_right _ h))) gw_c_isLaw10) rfl rfl rfl (by decide +kernel) ⟨(Nat.le_of_ble_eq_true rfl), (Nat.le_of_ble_eq_true rfl)⟩) (kR_V kT_blind kT_give (va_recv hKc hPc (ci := 10) (q0 := 0) rfl rfl) hPc hKc) rfl rfl hl.1 rfl (lv_room (Nat.le_of_ble_eq_true rfl)) dX10_odds_7 ⟨(Nat.le_of_ble_eq_true rfl), (Nat.le_of_ble_eq_true rfl)⟩).run (fun r_1 hw => ?_)
  obtain rfl : r_1 = 0 := hw
  refine lv_if_eq (tgt := 35) hx hb dX10_odds_10 (by decide) (fun c_2 => ?_) (fun c_2 => absurd (by decide) c_2)
  refine lv_ldc2 (v := (-1)) hx hb hown (hts (.constantLong RX10 347 (-1)) (List.mem_cons_of_mem _ (List.mem_append_left _ (List.mem_of_getElem? (i := 5) rfl)))) dX10_odds_35 ?_
  exact W.lret (v := (-1)) hx hb hr (fun t ht hW => ⟨⟨(-1), (), rfl, rfl, trivial⟩, hS.F ht⟩) hS.2.2 dX10_odds_38

def w_c_count10 : List Cond := .code yX10_count cX10_count 2 (some .int) :: ([.fieldLink RX10 117 "NotEndedModel" "thrown" "I", .fieldLink RX10 244 "NotEndedModel" "laws" "I", .fieldLink RX10 247 "NotEndedModel" "turnings" "I", .fieldLink RX10 250 "NotEndedModel" "persons" "I", .fieldLink RX10 256 "NotEndedModel" "words" "I", .fieldLink RX10 331 "NotEndedModel" "notes" "I", .fieldLink RX10 367 "NotEndedModel" "acts" "I", .fieldLink RX10 131 "NotEndedModel" "length" "I"] ++ (wsX100))
theorem gw_c_count10 : (w_c_count10).all goodWord = true := by decide +kernel
set_option maxHeartbeats 4000000 in
set_option maxRecDepth 100000 in
/-- X10_count of a new object -/
theorem c_count10 (l : Launch) (dC : Nat → ClassId) (dI : Nat → Nat → Nat) (h0 : Nat) (v0 : Value) (v1 : Value) (v2 : Value) (v3 : Value) (v4 : Value) (v5 : Value) (v9 : Value) (v10 : Value) (v11 : Value) (v12 : Value) (v13 : Value) (v14 : Value) (v15 : Value) (v16 : Value) (v17 : Value) (v18 : Value) (v19 : Value) (v20 : Value) (v21 : Value) (v22 : Value) (v23 : Value) (v24 : Value) (v25 : Value) (v28 : Value) (v29 : Value) (v30 : Value) (v31 : Value) (v32 : Value) (v33 : Value) (v34 : Value) (v35 : Value) (v36 : Value) (v37 : Value) (v38 : Value) (v39 : Value) (v40 : Value) (v41 : Value) (v42 : Value) (v43 : Value) (v44 : Value) (v46 : Value) (v47 : Value) (v48 : Value) (v49 : Value) (v50 : Value) (p0 : Int32) (sz : Nat) : Met l yX10_count w_c_count10 ({ frames := 3, cells := 0, slots := 0, locals := 180 }) (kW dC dI [.ref h0, .int p0] [(h0, .inr (10, [v0, v1, v2, v3, v4, v5, .int 0, .int 0, .int 0, v9, v10, v11, v12, v13, v14, v15, v16, v17, v18, v19, v20, v21, v22, v23, v24, v25, .int 0, .int 0, v28, v29, v30, v31, v32, v33, v34, v35, v36, v37, v38, v39, v40, v41, v42, v43, v44, .int 0, v46, v47, v48, v49, v50, .int 0]))] [] kT sz) (va_Qi (fun (r : Int32) (_ : Unit) => r = kCount p0) (fun _ _ => True) (va_A [(h0, .inr (10, [v0, v1, v2, v3, v4, v5, .int 0, .int 0, .int 0, v9, v10, v11, v12, v13, v14, v15, v16, v17, v18, v19, v20, v21, v22, v23, v24, v25, .int 0, .int 0, v28, v29, v30, v31, v32, v33, v34, v35, v36, v37, v38, v39, v40, v41, v42, v43, v44, .int 0, v46, v47, v48, v49, v50, .int 0]))] sz)) 0 0 (va_A [(h0, .inr (10, [v0, v1, v2, v3, v4, v5, .int 0, .int 0, .int 0, v9, v10, v11, v12, v13, v14, v15, v16, v17, v18, v19, v20, v21, v22, v23, v24, v25, .int 0, .int 0, v28, v29, v30, v31, v32, v33, v34, v35, v36, v37, v38, v39, v40, v41, v42, v43, v44, .int 0, v46, v47, v48, v49, v50, .int 0]))] sz) := by
  refine Met.ofW (cc := cX10_count) (maxL := 2) (ret := (some .int)) (by decide) rfl ?_
  intro p e s m args below meth c s₁ B hml hv
  obtain ⟨rfl, hsz, hP, hK, hD0, hX⟩ := hv
  have hx := B.exec
  have hb := B.bytes
  have hr := B.returns
  have hts := atoms_spec (ws := w_c_count10) B.pre
  have hown : s.vm.findClass RX10 = some m.cls := findClass_of_methodNamed B.named
  have hlocks := B.notSynchronized
  subst hsz
  have hD := hD0.self (sz := s.heap.size)
  generalize hAe : va_A [(h0, .inr (10, [v0, v1, v2, v3, v4, v5, .int 0, .int 0, .int 0, v9, v10, v11, v12, v13, v14, v15, v16, v17, v18, v19, v20, v21, v22, v23, v24, v25, .int 0, .int 0, v28, v29, v30, v31, v32, v33, v34, v35, v36, v37, v38, v39, v40, v41, v42, v43, v44, .int 0, v46, v47, v48, v49, v50, .int 0]))] s.heap.size = A at hD ⊢
  have hA : ∀ q : Nat, s.heap.size ≤ q → A q := fun q h => by rw [← hAe]; exact Or.inr h
  have hS : va_S A s.heap s.heap [] := va_S.rf
  have hP : va_P (dC, dI) vwCl [(h0, .inr (10, [v0, v1, v2, v3, v4, v5, .int 0, .int 0, .int 0, v9, v10, v11, v12, v13, v14, v15, v16, v17, v18, v19, v20, v21, v22, v23, v24, v25, .int 0, .int 0, v28, v29, v30, v31, v32, v33, v34, v35, v36, v37, v38, v39, v40, v41, v42, v43, v44, .int 0, v46, v47, v48, v49, v50, .int 0]))] s.heap := hP
  have hl := lv_entry ([.ref h0, .int p0]) (n := 2) (Nat.le_of_ble_eq_true rfl)
  rw [lg_entry_eq]
  generalize (lg_sl ([.ref h0, .int p0]) ++ List.replicate (2 - (lg_sl ([.ref h0, .int p0])).length) Slot.unset).toArray = ls at hl ⊢
  have hl : lv_has ls 2 [(0, .ref h0), (1, .int p0)] := hl
  refine lv_aload_n hx hb dX10_count_0 rfl (lv_at hl 0 rfl) ?_
  refine lv_iconst (v := 0) hx hb dX10_count_1 (by decide) ?_
  refine va_put (D := (dC, dI)) (ci := 10) (v := .int 0) (ty := tyX10 0) (C := RX10) (T := TX10) (N := 52) hx hb hts (fun _ h => List.mem_cons_of_mem _ (List.mem_append_right _ h)) tyX10 tyX10_ok nmX10 hown hK hP hD hS 0 rfl rfl 0 (by decide) (hts (.fieldLink RX10 117 "NotEndedModel" "thrown" "I") (List.mem_cons_of_mem _ (List.mem_append_left _ (List.mem_of_getElem? (i := 0) rfl)))) (fun _ h9 => h9) rfl (tyX10_ok 0 (by decide)) rfl rfl (Nat.le_of_ble_eq_true rfl) dX10_count_2 (fun H locs hP hD hS => ?_)
  have hP : va_P (dC, dI) vwCl [(h0, .inr (10, [.int 0, v1, v2, v3, v4, v5, .int 0, .int 0, .int 0, v9, v10, v11, v12, v13, v14, v15, v16, v17, v18, v19, v20, v21, v22, v23, v24, v25, .int 0, .int 0, v28, v29, v30, v31, v32, v33, v34, v35, v36, v37, v38, v39, v40, v41, v42, v43, v44, .int 0, v46, v47, v48, v49, v50, .int 0]))] H := hP
  have hD : va_D A [(h0, .inr (10, [.int 0, v1, v2, v3, v4, v5, .int 0, .int 0, .int 0, v9, v10, v11, v12, v13, v14, v15, v16, v17, v18, v19, v20, v21, v22, v23, v24, v25, .int 0, .int 0, v28, v29, v30, v31, v32, v33, v34, v35, v36, v37, v38, v39, v40, v41, v42, v43, v44, .int 0, v46, v47, v48, v49, v50, .int 0]))] := hD
  refine lv_iload_n hx hb dX10_count_5 rfl (lv_at hl 1 rfl) ?_
  rcases kSw7 p0 with rfl | rfl | rfl | rfl | rfl | rfl | rfl | h_1
  · refine lv_tableIn (tgt := 48) hx hb dX10_count_6 (by decide) (by decide) rfl (by decide) ?_
    refine lv_aload_n hx hb dX10_count_48 rfl (lv_at hl 0 rfl) ?_
    refine va_get (D := (dC, dI)) (ci := 10) (v := .int 0) (C := RX10) (T := TX10) (N := 52) hx hb hts (fun _ h => List.mem_cons_of_mem _ (List.mem_append_right _ h)) hown hK hP 0 rfl rfl 7 (by decide) (hts (.fieldLink RX10 244 "NotEndedModel" "laws" "I") (List.mem_cons_of_mem _ (List.mem_append_left _ (List.mem_of_getElem? (i := 1) rfl)))) (fun _ h9 => h9) rfl dX10_count_49 ?_
    exact W.iret (v := 0) hx hb hr (fun t ht hW => ⟨⟨0, (), rfl, (by decide), trivial⟩, hS.F ht⟩) hS.2.2 dX10_count_52
  · refine lv_tableIn (tgt := 53) hx hb dX10_count_6 (by decide) (by decide) rfl (by decide) ?_
    refine lv_aload_n hx hb dX10_count_53 rfl (lv_at hl 0 rfl) ?_
    refine va_get (D := (dC, dI)) (ci := 10) (v := .int 0) (C := RX10) (T := TX10) (N := 52) hx hb hts (fun _ h => List.mem_cons_of_mem _ (List.mem_append_right _ h)) hown hK hP 0 rfl rfl 8 (by decide) (hts (.fieldLink RX10 247 "NotEndedModel" "turnings" "I") (List.mem_cons_of_mem _ (List.mem_append_left _ (List.mem_of_getElem? (i := 2) rfl)))) (fun _ h9 => h9) rfl dX10_count_54 ?_
    exact W.iret (v := 0) hx hb hr (fun t ht hW => ⟨⟨0, (), rfl, (by decide), trivial⟩, hS.F ht⟩) hS.2.2 dX10_count_57
  · refine lv_tableIn (tgt := 58) hx hb dX10_count_6 (by decide) (by decide) rfl (by decide) ?_
    refine lv_aload_n hx hb dX10_count_58 rfl (lv_at hl 0 rfl) ?_
    refine va_get (D := (dC, dI)) (ci := 10) (v := .int 0) (C := RX10) (T := TX10) (N := 52) hx hb hts (fun _ h => List.mem_cons_of_mem _ (List.mem_append_right _ h)) hown hK hP 0 rfl rfl 26 (by decide) (hts (.fieldLink RX10 250 "NotEndedModel" "persons" "I") (List.mem_cons_of_mem _ (List.mem_append_left _ (List.mem_of_getElem? (i := 3) rfl)))) (fun _ h9 => h9) rfl dX10_count_59 ?_
    exact W.iret (v := 0) hx hb hr (fun t ht hW => ⟨⟨0, (), rfl, (by decide), trivial⟩, hS.F ht⟩) hS.2.2 dX10_count_62
  · refine lv_tableIn (tgt := 63) hx hb dX10_count_6 (by decide) (by decide) rfl (by decide) ?_
    refine lv_aload_n hx hb dX10_count_63 rfl (lv_at hl 0 rfl) ?_
    refine va_get (D := (dC, dI)) (ci := 10) (v := .int 0) (C := RX10) (T := TX10) (N := 52) hx hb hts (fun _ h => List.mem_cons_of_mem _ (List.mem_append_right _ h)) hown hK hP 0 rfl rfl 27 (by decide) (hts (.fieldLink RX10 256 "NotEndedModel" "words" "I") (List.mem_cons_of_mem _ (List.mem_append_left _ (List.mem_of_getElem? (i := 4) rfl)))) (fun _ h9 => h9) rfl dX10_count_64 ?_
    exact W.iret (v := 0) hx hb hr (fun t ht hW => ⟨⟨0, (), rfl, (by decide), trivial⟩, hS.F ht⟩) hS.2.2 dX10_count_67
  · refine lv_tableIn (tgt := 68) hx hb dX10_count_6 (by decide) (by decide) rfl (by decide) ?_
    refine lv_aload_n hx hb dX10_count_68 rfl (lv_at hl 0 rfl) ?_
    refine va_get (D := (dC, dI)) (ci := 10) (v := .int 0) (C := RX10) (T := TX10) (N := 52) hx hb hts (fun _ h => List.mem_cons_of_mem _ (List.mem_append_right _ h)) hown hK hP 0 rfl rfl 45 (by decide) (hts (.fieldLink RX10 331 "NotEndedModel" "notes" "I") (List.mem_cons_of_mem _ (List.mem_append_left _ (List.mem_of_getElem? (i := 5) rfl)))) (fun _ h9 => h9) rfl dX10_count_69 ?_
    exact W.iret (v := 0) hx hb hr (fun t ht hW => ⟨⟨0, (), rfl, (by decide), trivial⟩, hS.F ht⟩) hS.2.2 dX10_count_72
  · refine lv_tableIn (tgt := 73) hx hb dX10_count_6 (by decide) (by decide) rfl (by decide) ?_
    refine lv_aload_n hx hb dX10_count_73 rfl (lv_at hl 0 rfl) ?_
    refine va_get (D := (dC, dI)) (ci := 10) (v := .int 0) (C := RX10) (T := TX10) (N := 52) hx hb hts (fun _ h => List.mem_cons_of_mem _ (List.mem_append_right _ h)) hown hK hP 0 rfl rfl 51 (by decide) (hts (.fieldLink RX10 367 "NotEndedModel" "acts" "I") (List.mem_cons_of_mem _ (List.mem_append_left _ (List.mem_of_getElem? (i := 6) rfl)))) (fun _ h9 => h9) rfl dX10_count_74 ?_
    exact W.iret (v := 0) hx hb hr (fun t ht hW => ⟨⟨0, (), rfl, (by decide), trivial⟩, hS.F ht⟩) hS.2.2 dX10_count_77
  · refine lv_tableIn (tgt := 78) hx hb dX10_count_6 (by decide) (by decide) rfl (by decide) ?_
    refine lv_aload_n hx hb dX10_count_78 rfl (lv_at hl 0 rfl) ?_
    refine va_get (D := (dC, dI)) (ci := 10) (v := .int 0) (C := RX10) (T := TX10) (N := 52) hx hb hts (fun _ h => List.mem_cons_of_mem _ (List.mem_append_right _ h)) hown hK hP 0 rfl rfl 6 (by decide) (hts (.fieldLink RX10 131 "NotEndedModel" "length" "I") (List.mem_cons_of_mem _ (List.mem_append_left _ (List.mem_of_getElem? (i := 7) rfl)))) (fun _ h9 => h9) rfl dX10_count_79 ?_
    exact W.iret (v := 0) hx hb hr (fun t ht hW => ⟨⟨0, (), rfl, (by decide), trivial⟩, hS.F ht⟩) hS.2.2 dX10_count_82
  · refine lv_tableOut (tgt := 83) hx hb dX10_count_6 h_1 (by decide) ?_
    refine lv_iconst (v := (-1)) hx hb dX10_count_83 (by decide) ?_
    exact W.iret (v := (-1)) hx hb hr (fun t ht hW => ⟨⟨(-1), (), rfl, (if_pos h_1).symm, trivial⟩, hS.F ht⟩) hS.2.2 dX10_count_84

def w_c_end10 : List Cond := .code yX10_end cX10_end 2 (some .boolean) :: ([.fieldLink RX10 117 "NotEndedModel" "thrown" "I", .fieldLink RX10 131 "NotEndedModel" "length" "I"] ++ (wsX100))
theorem gw_c_end10 : (w_c_end10).all goodWord = true := by decide +kernel
set_option maxHeartbeats 4000000 in
set_option maxRecDepth 100000 in
/-- X10_end of a new object -/
theorem c_end10 (l : Launch) (dC : Nat → ClassId) (dI : Nat → Nat → Nat) (h0 : Nat) (v0 : Value) (v1 : Value) (v2 : Value) (v3 : Value) (v4 : Value) (v5 : Value) (v7 : Value) (v8 : Value) (v9 : Value) (v10 : Value) (v11 : Value) (v12 : Value) (v13 : Value) (v14 : Value) (v15 : Value) (v16 : Value) (v17 : Value) (v18 : Value) (v19 : Value) (v20 : Value) (v21 : Value) (v22 : Value) (v23 : Value) (v24 : Value) (v25 : Value) (v26 : Value) (v27 : Value) (v28 : Value) (v29 : Value) (v30 : Value) (v31 : Value) (v32 : Value) (v33 : Value) (v34 : Value) (v35 : Value) (v36 : Value) (v37 : Value) (v38 : Value) (v39 : Value) (v40 : Value) (v41 : Value) (v42 : Value) (v43 : Value) (v44 : Value) (v45 : Value) (v46 : Value) (v47 : Value) (v48 : Value) (v49 : Value) (v50 : Value) (v51 : Value) (p0 : Int32) (sz : Nat) : Met l yX10_end w_c_end10 ({ frames := 3, cells := 0, slots := 0, locals := 180 }) (kW dC dI [.ref h0, .int p0] [(h0, .inr (10, [v0, v1, v2, v3, v4, v5, .int 0, v7, v8, v9, v10, v11, v12, v13, v14, v15, v16, v17, v18, v19, v20, v21, v22, v23, v24, v25, v26, v27, v28, v29, v30, v31, v32, v33, v34, v35, v36, v37, v38, v39, v40, v41, v42, v43, v44, v45, v46, v47, v48, v49, v50, v51]))] [] kT sz) (va_Qi (fun (r : Int32) (_ : Unit) => r = kEnd p0) (fun _ _ => True) (va_A [(h0, .inr (10, [v0, v1, v2, v3, v4, v5, .int 0, v7, v8, v9, v10, v11, v12, v13, v14, v15, v16, v17, v18, v19, v20, v21, v22, v23, v24, v25, v26, v27, v28, v29, v30, v31, v32, v33, v34, v35, v36, v37, v38, v39, v40, v41, v42, v43, v44, v45, v46, v47, v48, v49, v50, v51]))] sz)) 0 0 (va_A [(h0, .inr (10, [v0, v1, v2, v3, v4, v5, .int 0, v7, v8, v9, v10, v11, v12, v13, v14, v15, v16, v17, v18, v19, v20, v21, v22, v23, v24, v25, v26, v27, v28, v29, v30, v31, v32, v33, v34, v35, v36, v37, v38, v39, v40, v41, v42, v43, v44, v45, v46, v47, v48, v49, v50, v51]))] sz) := by
  refine Met.ofW (cc := cX10_end) (maxL := 2) (ret := (some .boolean)) (by decide) rfl ?_
  intro p e s m args below meth c s₁ B hml hv
  obtain ⟨rfl, hsz, hP, hK, hD0, hX⟩ := hv
  have hx := B.exec
  have hb := B.bytes
  have hr := B.returns
  have hts := atoms_spec (ws := w_c_end10) B.pre
  have hown : s.vm.findClass RX10 = some m.cls := findClass_of_methodNamed B.named
  have hlocks := B.notSynchronized
  subst hsz
  have hD := hD0.self (sz := s.heap.size)
  generalize hAe : va_A [(h0, .inr (10, [v0, v1, v2, v3, v4, v5, .int 0, v7, v8, v9, v10, v11, v12, v13, v14, v15, v16, v17, v18, v19, v20, v21, v22, v23, v24, v25, v26, v27, v28, v29, v30, v31, v32, v33, v34, v35, v36, v37, v38, v39, v40, v41, v42, v43, v44, v45, v46, v47, v48, v49, v50, v51]))] s.heap.size = A at hD ⊢
  have hA : ∀ q : Nat, s.heap.size ≤ q → A q := fun q h => by rw [← hAe]; exact Or.inr h
  have hS : va_S A s.heap s.heap [] := va_S.rf
  have hP : va_P (dC, dI) vwCl [(h0, .inr (10, [v0, v1, v2, v3, v4, v5, .int 0, v7, v8, v9, v10, v11, v12, v13, v14, v15, v16, v17, v18, v19, v20, v21, v22, v23, v24, v25, v26, v27, v28, v29, v30, v31, v32, v33, v34, v35, v36, v37, v38, v39, v40, v41, v42, v43, v44, v45, v46, v47, v48, v49, v50, v51]))] s.heap := hP
  have hl := lv_entry ([.ref h0, .int p0]) (n := 2) (Nat.le_of_ble_eq_true rfl)
  rw [lg_entry_eq]
  generalize (lg_sl ([.ref h0, .int p0]) ++ List.replicate (2 - (lg_sl ([.ref h0, .int p0])).length) Slot.unset).toArray = ls at hl ⊢
  have hl : lv_has ls 2 [(0, .ref h0), (1, .int p0)] := hl
  refine lv_aload_n hx hb dX10_end_0 rfl (lv_at hl 0 rfl) ?_
  refine lv_iconst (v := 0) hx hb dX10_end_1 (by decide) ?_
  refine va_put (D := (dC, dI)) (ci := 10) (v := .int 0) (ty := tyX10 0) (C := RX10) (T := TX10) (N := 52) hx hb hts (fun _ h => List.mem_cons_of_mem _ (List.mem_append_right _ h)) tyX10 tyX10_ok nmX10 hown hK hP hD hS 0 rfl rfl 0 (by decide) (hts (.fieldLink RX10 117 "NotEndedModel" "thrown" "I") (List.mem_cons_of_mem _ (List.mem_append_left _ (List.mem_of_getElem? (i := 0) rfl)))) (fun _ h9 => h9) rfl (tyX10_ok 0 (by decide)) rfl rfl (Nat.le_of_ble_eq_true rfl) dX10_end_2 (fun H locs hP hD hS => ?_)
  have hP : va_P (dC, dI) vwCl [(h0, .inr (10, [.int 0, v1, v2, v3, v4, v5, .int 0, v7, v8, v9, v10, v11, v12, v13, v14, v15, v16, v17, v18, v19, v20, v21, v22, v23, v24, v25, v26, v27, v28, v29, v30, v31, v32, v33, v34, v35, v36, v37, v38, v39, v40, v41, v42, v43, v44, v45, v46, v47, v48, v49, v50, v51]))] H := hP
  have hD : va_D A [(h0, .inr (10, [.int 0, v1, v2, v3, v4, v5, .int 0, v7, v8, v9, v10, v11, v12, v13, v14, v15, v16, v17, v18, v19, v20, v21, v22, v23, v24, v25, v26, v27, v28, v29, v30, v31, v32, v33, v34, v35, v36, v37, v38, v39, v40, v41, v42, v43, v44, v45, v46, v47, v48, v49, v50, v51]))] := hD
  refine lv_iload_n hx hb dX10_end_5 rfl (lv_at hl 1 rfl) ?_
  refine lv_if_lt (tgt := 17) hx hb dX10_end_6 (by decide) (fun c_1 => ?_) (fun c_1 => ?_)
  · refine lv_iconst (v := 0) hx hb dX10_end_17 (by decide) ?_
    exact W.zret (v := 0) hx hb hr rfl (fun t ht hW => ⟨⟨0, (), rfl, (by simp [kEnd, c_1]), trivial⟩, hS.F ht⟩) hS.2.2 dX10_end_18
  · refine lv_iload_n hx hb dX10_end_9 rfl (lv_at hl 1 rfl) ?_
    refine lv_aload_n hx hb dX10_end_10 rfl (lv_at hl 0 rfl) ?_
    refine va_get (D := (dC, dI)) (ci := 10) (v := .int 0) (C := RX10) (T := TX10) (N := 52) hx hb hts (fun _ h => List.mem_cons_of_mem _ (List.mem_append_right _ h)) hown hK hP 0 rfl rfl 6 (by decide) (hts (.fieldLink RX10 131 "NotEndedModel" "length" "I") (List.mem_cons_of_mem _ (List.mem_append_left _ (List.mem_of_getElem? (i := 1) rfl)))) (fun _ h9 => h9) rfl dX10_end_11 ?_
    refine lv_icmp_le (tgt := 19) hx hb dX10_end_14 (by decide) (fun c_2 => ?_) (fun c_2 => ?_)
    · refine lv_aload_n hx hb dX10_end_19 rfl (lv_at hl 0 rfl) ?_
      refine lv_iload_n hx hb dX10_end_20 rfl (lv_at hl 1 rfl) ?_
      refine va_put (D := (dC, dI)) (ci := 10) (v := .int p0) (ty := tyX10 6) (C := RX10) (T := TX10) (N := 52) hx hb hts (fun _ h => List.mem_cons_of_mem _ (List.mem_append_right _ h)) tyX10 tyX10_ok nmX10 hown hK hP hD hS 0 rfl rfl 6 (by decide) (hts (.fieldLink RX10 131 "NotEndedModel" "length" "I") (List.mem_cons_of_mem _ (List.mem_append_left _ (List.mem_of_getElem? (i := 1) rfl)))) (fun _ h9 => h9) rfl (tyX10_ok 6 (by decide)) rfl rfl (Nat.le_of_ble_eq_true rfl) dX10_end_21 (fun H locs hP hD hS => ?_)
      have hP : va_P (dC, dI) vwCl [(h0, .inr (10, [.int 0, v1, v2, v3, v4, v5, .int p0, v7, v8, v9, v10, v11, v12, v13, v14, v15, v16, v17, v18, v19, v20, v21, v22, v23, v24, v25, v26, v27, v28, v29, v30, v31, v32, v33, v34, v35, v36, v37, v38, v39, v40, v41, v42, v43, v44, v45, v46, v47, v48, v49, v50, v51]))] H := hP
      have hD : va_D A [(h0, .inr (10, [.int 0, v1, v2, v3, v4, v5, .int p0, v7, v8, v9, v10, v11, v12, v13, v14, v15, v16, v17, v18, v19, v20, v21, v22, v23, v24, v25, v26, v27, v28, v29, v30, v31, v32, v33, v34, v35, v36, v37, v38, v39, v40, v41, v42, v43, v44, v45, v46, v47, v48, v49, v50, v51]))] := hD
      refine lv_iconst (v := 1) hx hb dX10_end_24 (by decide) ?_
      exact W.zret (v := 1) hx hb hr rfl (fun t ht hW => ⟨⟨1, (), rfl, (by simp [kEnd, c_1, c_2]), trivial⟩, hS.F ht⟩) hS.2.2 dX10_end_25
    · refine lv_iconst (v := 0) hx hb dX10_end_17 (by decide) ?_
      exact W.zret (v := 0) hx hb hr rfl (fun t ht hW => ⟨⟨0, (), rfl, (by simp [kEnd, c_1, c_2]), trivial⟩, hS.F ht⟩) hS.2.2 dX10_end_18
end
