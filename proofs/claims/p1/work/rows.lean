section
-- ===== PART A: goes FIRST, ahead of the names: the tables' words, and 'selects' of the private methods out of them =====
/-- a private method of a class that the tables say can be made, by its rows of tables_1 -/
def lw_okq (q : MethodName × Nat) : Prop := (q.1.cls ≠ "java/lang/invoke/MethodHandle" ∧ q.1.cls ≠ "java/lang/invoke/VarHandle") ∧ Cond.instantiable q.1.cls q.2 ∈ tables_1 ∧ Cond.privateMethod q.1 ∈ tables_1 ∧ Cond.instanceMethod q.1 ∈ tables_1
theorem lw_p0 : lw_okq (⟨"NotEnded$Reader", "readClause", "()Z"⟩, 8) := ⟨⟨by decide +kernel, by decide +kernel⟩, List.mem_of_getElem? (i := 49) (by decide +kernel), List.mem_of_getElem? (i := 333) (by decide +kernel), List.mem_of_getElem? (i := 334) (by decide +kernel)⟩
theorem lw_p1 : lw_okq (⟨"NotEnded$Reader", "look", "()C"⟩, 8) := ⟨⟨by decide +kernel, by decide +kernel⟩, List.mem_of_getElem? (i := 49) (by decide +kernel), List.mem_of_getElem? (i := 337) (by decide +kernel), List.mem_of_getElem? (i := 338) (by decide +kernel)⟩
theorem lw_p2 : lw_okq (⟨"NotEnded$Reader", "take", "(C)Z"⟩, 8) := ⟨⟨by decide +kernel, by decide +kernel⟩, List.mem_of_getElem? (i := 49) (by decide +kernel), List.mem_of_getElem? (i := 431) (by decide +kernel), List.mem_of_getElem? (i := 432) (by decide +kernel)⟩
theorem lw_p3 : lw_okq (⟨"NotEnded$Reader", "readSum", "(I)Z"⟩, 8) := ⟨⟨by decide +kernel, by decide +kernel⟩, List.mem_of_getElem? (i := 49) (by decide +kernel), List.mem_of_getElem? (i := 435) (by decide +kernel), List.mem_of_getElem? (i := 436) (by decide +kernel)⟩
theorem lw_p4 : lw_okq (⟨"NotEnded$Reader", "readTerm", "(I)Z"⟩, 8) := ⟨⟨by decide +kernel, by decide +kernel⟩, List.mem_of_getElem? (i := 49) (by decide +kernel), List.mem_of_getElem? (i := 439) (by decide +kernel), List.mem_of_getElem? (i := 440) (by decide +kernel)⟩
theorem lw_p5 : lw_okq (⟨"NotEnded$Reader", "readAtom", "(I)Z"⟩, 8) := ⟨⟨by decide +kernel, by decide +kernel⟩, List.mem_of_getElem? (i := 49) (by decide +kernel), List.mem_of_getElem? (i := 443) (by decide +kernel), List.mem_of_getElem? (i := 444) (by decide +kernel)⟩
theorem lw_p6 : lw_okq (⟨"NotEnded$Reader", "opens", "(I)Z"⟩, 8) := ⟨⟨by decide +kernel, by decide +kernel⟩, List.mem_of_getElem? (i := 49) (by decide +kernel), List.mem_of_getElem? (i := 447) (by decide +kernel), List.mem_of_getElem? (i := 448) (by decide +kernel)⟩
theorem lw_p7 : lw_okq (⟨"NotEnded$Reader", "readNumber", "()Z"⟩, 8) := ⟨⟨by decide +kernel, by decide +kernel⟩, List.mem_of_getElem? (i := 49) (by decide +kernel), List.mem_of_getElem? (i := 454) (by decide +kernel), List.mem_of_getElem? (i := 455) (by decide +kernel)⟩
theorem lw_p8 : lw_okq (⟨"NotEnded$Reader", "write", "(I)Z"⟩, 8) := ⟨⟨by decide +kernel, by decide +kernel⟩, List.mem_of_getElem? (i := 49) (by decide +kernel), List.mem_of_getElem? (i := 458) (by decide +kernel), List.mem_of_getElem? (i := 459) (by decide +kernel)⟩
theorem lw_p9 : lw_okq (⟨"NotEnded$Reader", "keepClause", "(III)Z"⟩, 8) := ⟨⟨by decide +kernel, by decide +kernel⟩, List.mem_of_getElem? (i := 49) (by decide +kernel), List.mem_of_getElem? (i := 465) (by decide +kernel), List.mem_of_getElem? (i := 466) (by decide +kernel)⟩
theorem lw_p10 : lw_okq (⟨"NotEnded$Reader", "readCondition", "(IZ)Z"⟩, 8) := ⟨⟨by decide +kernel, by decide +kernel⟩, List.mem_of_getElem? (i := 49) (by decide +kernel), List.mem_of_getElem? (i := 469) (by decide +kernel), List.mem_of_getElem? (i := 470) (by decide +kernel)⟩
theorem lw_p11 : lw_okq (⟨"NotEnded$Reader", "readTruth", "(IZ)Z"⟩, 8) := ⟨⟨by decide +kernel, by decide +kernel⟩, List.mem_of_getElem? (i := 49) (by decide +kernel), List.mem_of_getElem? (i := 473) (by decide +kernel), List.mem_of_getElem? (i := 474) (by decide +kernel)⟩
theorem lw_p12 : lw_okq (⟨"NotEnded$Reader", "readUnit", "(IZ)Z"⟩, 8) := ⟨⟨by decide +kernel, by decide +kernel⟩, List.mem_of_getElem? (i := 49) (by decide +kernel), List.mem_of_getElem? (i := 477) (by decide +kernel), List.mem_of_getElem? (i := 478) (by decide +kernel)⟩
theorem lw_p13 : lw_okq (⟨"NotEnded$Course", "weigh", "()V"⟩, 19) := ⟨⟨by decide +kernel, by decide +kernel⟩, List.mem_of_getElem? (i := 146) (by decide +kernel), List.mem_of_getElem? (i := 590) (by decide +kernel), List.mem_of_getElem? (i := 591) (by decide +kernel)⟩
theorem lw_p14 : lw_okq (⟨"NotEnded$Course", "tallyHouses", "()V"⟩, 19) := ⟨⟨by decide +kernel, by decide +kernel⟩, List.mem_of_getElem? (i := 146) (by decide +kernel), List.mem_of_getElem? (i := 594) (by decide +kernel), List.mem_of_getElem? (i := 595) (by decide +kernel)⟩
theorem lw_p15 : lw_okq (⟨"NotEnded$Course", "setLettersOfHour", "()V"⟩, 19) := ⟨⟨by decide +kernel, by decide +kernel⟩, List.mem_of_getElem? (i := 146) (by decide +kernel), List.mem_of_getElem? (i := 608) (by decide +kernel), List.mem_of_getElem? (i := 609) (by decide +kernel)⟩
def lw_privs_1 : List (MethodName × Nat) := [(⟨"NotEnded$Reader", "readClause", "()Z"⟩, 8), (⟨"NotEnded$Reader", "look", "()C"⟩, 8), (⟨"NotEnded$Reader", "take", "(C)Z"⟩, 8), (⟨"NotEnded$Reader", "readSum", "(I)Z"⟩, 8), (⟨"NotEnded$Reader", "readTerm", "(I)Z"⟩, 8), (⟨"NotEnded$Reader", "readAtom", "(I)Z"⟩, 8), (⟨"NotEnded$Reader", "opens", "(I)Z"⟩, 8), (⟨"NotEnded$Reader", "readNumber", "()Z"⟩, 8), (⟨"NotEnded$Reader", "write", "(I)Z"⟩, 8), (⟨"NotEnded$Reader", "keepClause", "(III)Z"⟩, 8), (⟨"NotEnded$Reader", "readCondition", "(IZ)Z"⟩, 8), (⟨"NotEnded$Reader", "readTruth", "(IZ)Z"⟩, 8), (⟨"NotEnded$Reader", "readUnit", "(IZ)Z"⟩, 8), (⟨"NotEnded$Course", "weigh", "()V"⟩, 19), (⟨"NotEnded$Course", "tallyHouses", "()V"⟩, 19), (⟨"NotEnded$Course", "setLettersOfHour", "()V"⟩, 19)]
theorem lw_r1 : ∀ q ∈ lw_privs_1, lw_okq q := List.forall_mem_cons.mpr ⟨lw_p0, List.forall_mem_cons.mpr ⟨lw_p1, List.forall_mem_cons.mpr ⟨lw_p2, List.forall_mem_cons.mpr ⟨lw_p3, List.forall_mem_cons.mpr ⟨lw_p4, List.forall_mem_cons.mpr ⟨lw_p5, List.forall_mem_cons.mpr ⟨lw_p6, List.forall_mem_cons.mpr ⟨lw_p7, List.forall_mem_cons.mpr ⟨lw_p8, List.forall_mem_cons.mpr ⟨lw_p9, List.forall_mem_cons.mpr ⟨lw_p10, List.forall_mem_cons.mpr ⟨lw_p11, List.forall_mem_cons.mpr ⟨lw_p12, List.forall_mem_cons.mpr ⟨lw_p13, List.forall_mem_cons.mpr ⟨lw_p14, List.forall_mem_cons.mpr ⟨lw_p15, fun _ h => absurd h List.not_mem_nil⟩⟩⟩⟩⟩⟩⟩⟩⟩⟩⟩⟩⟩⟩⟩⟩
theorem lw_p16 : lw_okq (⟨"NotEnded$Course", "setLettersOf", "(I)V"⟩, 19) := ⟨⟨by decide +kernel, by decide +kernel⟩, List.mem_of_getElem? (i := 146) (by decide +kernel), List.mem_of_getElem? (i := 625) (by decide +kernel), List.mem_of_getElem? (i := 626) (by decide +kernel)⟩
theorem lw_p17 : lw_okq (⟨"NotEnded$Reckoner", "reckon", "([III)I"⟩, 2) := ⟨⟨by decide +kernel, by decide +kernel⟩, List.mem_of_getElem? (i := 83) (by decide +kernel), List.mem_of_getElem? (i := 634) (by decide +kernel), List.mem_of_getElem? (i := 635) (by decide +kernel)⟩
theorem lw_p18 : lw_okq (⟨"NotEnded$Reckoner", "valueOf", "(I)I"⟩, 2) := ⟨⟨by decide +kernel, by decide +kernel⟩, List.mem_of_getElem? (i := 83) (by decide +kernel), List.mem_of_getElem? (i := 639) (by decide +kernel), List.mem_of_getElem? (i := 640) (by decide +kernel)⟩
theorem lw_p19 : lw_okq (⟨"NotEnded$Course", "holdMore", "()V"⟩, 19) := ⟨⟨by decide +kernel, by decide +kernel⟩, List.mem_of_getElem? (i := 146) (by decide +kernel), List.mem_of_getElem? (i := 653) (by decide +kernel), List.mem_of_getElem? (i := 654) (by decide +kernel)⟩
theorem lw_p20 : lw_okq (⟨"NotEnded$Course", "tell", "()V"⟩, 19) := ⟨⟨by decide +kernel, by decide +kernel⟩, List.mem_of_getElem? (i := 146) (by decide +kernel), List.mem_of_getElem? (i := 658) (by decide +kernel), List.mem_of_getElem? (i := 659) (by decide +kernel)⟩
theorem lw_p21 : lw_okq (⟨"NotEnded$Course", "tellThoseKnown", "(I)V"⟩, 19) := ⟨⟨by decide +kernel, by decide +kernel⟩, List.mem_of_getElem? (i := 146) (by decide +kernel), List.mem_of_getElem? (i := 662) (by decide +kernel), List.mem_of_getElem? (i := 663) (by decide +kernel)⟩
theorem lw_p22 : lw_okq (⟨"NotEnded$Course", "goHome", "()V"⟩, 19) := ⟨⟨by decide +kernel, by decide +kernel⟩, List.mem_of_getElem? (i := 146) (by decide +kernel), List.mem_of_getElem? (i := 666) (by decide +kernel), List.mem_of_getElem? (i := 667) (by decide +kernel)⟩
theorem lw_p23 : lw_okq (⟨"NotEnded$Course", "mayGo", "(I)Z"⟩, 19) := ⟨⟨by decide +kernel, by decide +kernel⟩, List.mem_of_getElem? (i := 146) (by decide +kernel), List.mem_of_getElem? (i := 670) (by decide +kernel), List.mem_of_getElem? (i := 671) (by decide +kernel)⟩
theorem lw_p24 : lw_okq (⟨"NotEnded", "heldAtEnd", "(LNotEnded$Rule;JII)I"⟩, 10) := ⟨⟨by decide +kernel, by decide +kernel⟩, List.mem_of_getElem? (i := 27) (by decide +kernel), List.mem_of_getElem? (i := 711) (by decide +kernel), List.mem_of_getElem? (i := 712) (by decide +kernel)⟩
theorem lw_p25 : lw_okq (⟨"NotEnded", "isNoted", "(LNotEnded$Rule;JI)Z"⟩, 10) := ⟨⟨by decide +kernel, by decide +kernel⟩, List.mem_of_getElem? (i := 27) (by decide +kernel), List.mem_of_getElem? (i := 755) (by decide +kernel), List.mem_of_getElem? (i := 756) (by decide +kernel)⟩
theorem lw_p26 : lw_okq (⟨"NotEnded$Notebook", "isSo", "(LNotEnded$Course;I)Z"⟩, 6) := ⟨⟨by decide +kernel, by decide +kernel⟩, List.mem_of_getElem? (i := 211) (by decide +kernel), List.mem_of_getElem? (i := 764) (by decide +kernel), List.mem_of_getElem? (i := 765) (by decide +kernel)⟩
theorem lw_p27 : lw_okq (⟨"NotEnded$Course", "addOneWhoMay", "(II)V"⟩, 19) := ⟨⟨by decide +kernel, by decide +kernel⟩, List.mem_of_getElem? (i := 146) (by decide +kernel), List.mem_of_getElem? (i := 798) (by decide +kernel), List.mem_of_getElem? (i := 799) (by decide +kernel)⟩
theorem lw_p28 : lw_okq (⟨"NotEnded", "isLet", "(LNotEnded$Rule;I)Z"⟩, 10) := ⟨⟨by decide +kernel, by decide +kernel⟩, List.mem_of_getElem? (i := 27) (by decide +kernel), List.mem_of_getElem? (i := 810) (by decide +kernel), List.mem_of_getElem? (i := 811) (by decide +kernel)⟩
theorem lw_p29 : lw_okq (⟨"NotEnded", "barredBy", "(LNotEnded$Rule;)I"⟩, 10) := ⟨⟨by decide +kernel, by decide +kernel⟩, List.mem_of_getElem? (i := 27) (by decide +kernel), List.mem_of_getElem? (i := 820) (by decide +kernel), List.mem_of_getElem? (i := 821) (by decide +kernel)⟩
theorem lw_p30 : lw_okq (⟨"NotEnded", "leastHelp", "(LNotEnded$Rule;JI)I"⟩, 10) := ⟨⟨by decide +kernel, by decide +kernel⟩, List.mem_of_getElem? (i := 27) (by decide +kernel), List.mem_of_getElem? (i := 855) (by decide +kernel), List.mem_of_getElem? (i := 856) (by decide +kernel)⟩
theorem lw_p31 : lw_okq (⟨"NotEnded", "givesUpBy", "(LNotEnded$Rule;JII)Z"⟩, 10) := ⟨⟨by decide +kernel, by decide +kernel⟩, List.mem_of_getElem? (i := 27) (by decide +kernel), List.mem_of_getElem? (i := 879) (by decide +kernel), List.mem_of_getElem? (i := 880) (by decide +kernel)⟩
def lw_privs_2 : List (MethodName × Nat) := [(⟨"NotEnded$Course", "setLettersOf", "(I)V"⟩, 19), (⟨"NotEnded$Reckoner", "reckon", "([III)I"⟩, 2), (⟨"NotEnded$Reckoner", "valueOf", "(I)I"⟩, 2), (⟨"NotEnded$Course", "holdMore", "()V"⟩, 19), (⟨"NotEnded$Course", "tell", "()V"⟩, 19), (⟨"NotEnded$Course", "tellThoseKnown", "(I)V"⟩, 19), (⟨"NotEnded$Course", "goHome", "()V"⟩, 19), (⟨"NotEnded$Course", "mayGo", "(I)Z"⟩, 19), (⟨"NotEnded", "heldAtEnd", "(LNotEnded$Rule;JII)I"⟩, 10), (⟨"NotEnded", "isNoted", "(LNotEnded$Rule;JI)Z"⟩, 10), (⟨"NotEnded$Notebook", "isSo", "(LNotEnded$Course;I)Z"⟩, 6), (⟨"NotEnded$Course", "addOneWhoMay", "(II)V"⟩, 19), (⟨"NotEnded", "isLet", "(LNotEnded$Rule;I)Z"⟩, 10), (⟨"NotEnded", "barredBy", "(LNotEnded$Rule;)I"⟩, 10), (⟨"NotEnded", "leastHelp", "(LNotEnded$Rule;JI)I"⟩, 10), (⟨"NotEnded", "givesUpBy", "(LNotEnded$Rule;JII)Z"⟩, 10)]
theorem lw_r2 : ∀ q ∈ lw_privs_2, lw_okq q := List.forall_mem_cons.mpr ⟨lw_p16, List.forall_mem_cons.mpr ⟨lw_p17, List.forall_mem_cons.mpr ⟨lw_p18, List.forall_mem_cons.mpr ⟨lw_p19, List.forall_mem_cons.mpr ⟨lw_p20, List.forall_mem_cons.mpr ⟨lw_p21, List.forall_mem_cons.mpr ⟨lw_p22, List.forall_mem_cons.mpr ⟨lw_p23, List.forall_mem_cons.mpr ⟨lw_p24, List.forall_mem_cons.mpr ⟨lw_p25, List.forall_mem_cons.mpr ⟨lw_p26, List.forall_mem_cons.mpr ⟨lw_p27, List.forall_mem_cons.mpr ⟨lw_p28, List.forall_mem_cons.mpr ⟨lw_p29, List.forall_mem_cons.mpr ⟨lw_p30, List.forall_mem_cons.mpr ⟨lw_p31, fun _ h => absurd h List.not_mem_nil⟩⟩⟩⟩⟩⟩⟩⟩⟩⟩⟩⟩⟩⟩⟩⟩
theorem lw_p32 : lw_okq (⟨"NotEnded", "holdersWithout", "(LNotEnded$Rule;JI)I"⟩, 10) := ⟨⟨by decide +kernel, by decide +kernel⟩, List.mem_of_getElem? (i := 27) (by decide +kernel), List.mem_of_getElem? (i := 900) (by decide +kernel), List.mem_of_getElem? (i := 901) (by decide +kernel)⟩
theorem lw_p33 : lw_okq (⟨"NotEnded", "lookersOfSize", "(LNotEnded$Rule;JII)I"⟩, 10) := ⟨⟨by decide +kernel, by decide +kernel⟩, List.mem_of_getElem? (i := 27) (by decide +kernel), List.mem_of_getElem? (i := 908) (by decide +kernel), List.mem_of_getElem? (i := 909) (by decide +kernel)⟩
theorem lw_p34 : lw_okq (⟨"java/lang/Throwable", "fillInStackTrace", "(I)Ljava/lang/Throwable;"⟩, 6) := ⟨⟨by decide +kernel, by decide +kernel⟩, List.mem_of_getElem? (i := 973) (by decide +kernel), List.mem_of_getElem? (i := 971) (by decide +kernel), List.mem_of_getElem? (i := 972) (by decide +kernel)⟩
theorem lw_p35 : lw_okq (⟨"NotEndedModel", "put", "(I)V"⟩, 52) := ⟨⟨by decide +kernel, by decide +kernel⟩, List.mem_of_getElem? (i := 1002) (by decide +kernel), List.mem_of_getElem? (i := 1179) (by decide +kernel), List.mem_of_getElem? (i := 1180) (by decide +kernel)⟩
theorem lw_p36 : lw_okq (⟨"NotEndedModel", "goThrough", "([BIIZI)V"⟩, 52) := ⟨⟨by decide +kernel, by decide +kernel⟩, List.mem_of_getElem? (i := 1002) (by decide +kernel), List.mem_of_getElem? (i := 1194) (by decide +kernel), List.mem_of_getElem? (i := 1195) (by decide +kernel)⟩
theorem lw_p37 : lw_okq (⟨"NotEndedModel", "clause", "()V"⟩, 52) := ⟨⟨by decide +kernel, by decide +kernel⟩, List.mem_of_getElem? (i := 1002) (by decide +kernel), List.mem_of_getElem? (i := 1200) (by decide +kernel), List.mem_of_getElem? (i := 1201) (by decide +kernel)⟩
theorem lw_p38 : lw_okq (⟨"NotEndedModel", "look", "()I"⟩, 52) := ⟨⟨by decide +kernel, by decide +kernel⟩, List.mem_of_getElem? (i := 1002) (by decide +kernel), List.mem_of_getElem? (i := 1204) (by decide +kernel), List.mem_of_getElem? (i := 1205) (by decide +kernel)⟩
theorem lw_p39 : lw_okq (⟨"NotEndedModel", "fails", "()Z"⟩, 52) := ⟨⟨by decide +kernel, by decide +kernel⟩, List.mem_of_getElem? (i := 1002) (by decide +kernel), List.mem_of_getElem? (i := 1232) (by decide +kernel), List.mem_of_getElem? (i := 1233) (by decide +kernel)⟩
theorem lw_p40 : lw_okq (⟨"NotEndedModel", "takes", "(I)Z"⟩, 52) := ⟨⟨by decide +kernel, by decide +kernel⟩, List.mem_of_getElem? (i := 1002) (by decide +kernel), List.mem_of_getElem? (i := 1236) (by decide +kernel), List.mem_of_getElem? (i := 1237) (by decide +kernel)⟩
theorem lw_p41 : lw_okq (⟨"NotEndedModel", "condition", "(ZI)Z"⟩, 52) := ⟨⟨by decide +kernel, by decide +kernel⟩, List.mem_of_getElem? (i := 1002) (by decide +kernel), List.mem_of_getElem? (i := 1240) (by decide +kernel), List.mem_of_getElem? (i := 1241) (by decide +kernel)⟩
theorem lw_p42 : lw_okq (⟨"NotEndedModel", "part", "(ZI)Z"⟩, 52) := ⟨⟨by decide +kernel, by decide +kernel⟩, List.mem_of_getElem? (i := 1002) (by decide +kernel), List.mem_of_getElem? (i := 1244) (by decide +kernel), List.mem_of_getElem? (i := 1245) (by decide +kernel)⟩
theorem lw_p43 : lw_okq (⟨"NotEndedModel", "compares", "(ZI)Z"⟩, 52) := ⟨⟨by decide +kernel, by decide +kernel⟩, List.mem_of_getElem? (i := 1002) (by decide +kernel), List.mem_of_getElem? (i := 1248) (by decide +kernel), List.mem_of_getElem? (i := 1249) (by decide +kernel)⟩
theorem lw_p44 : lw_okq (⟨"NotEndedModel", "sum", "()I"⟩, 52) := ⟨⟨by decide +kernel, by decide +kernel⟩, List.mem_of_getElem? (i := 1002) (by decide +kernel), List.mem_of_getElem? (i := 1252) (by decide +kernel), List.mem_of_getElem? (i := 1253) (by decide +kernel)⟩
theorem lw_p45 : lw_okq (⟨"NotEndedModel", "term", "()I"⟩, 52) := ⟨⟨by decide +kernel, by decide +kernel⟩, List.mem_of_getElem? (i := 1002) (by decide +kernel), List.mem_of_getElem? (i := 1256) (by decide +kernel), List.mem_of_getElem? (i := 1257) (by decide +kernel)⟩
theorem lw_p46 : lw_okq (⟨"NotEndedModel", "atom", "()I"⟩, 52) := ⟨⟨by decide +kernel, by decide +kernel⟩, List.mem_of_getElem? (i := 1002) (by decide +kernel), List.mem_of_getElem? (i := 1260) (by decide +kernel), List.mem_of_getElem? (i := 1261) (by decide +kernel)⟩
theorem lw_p47 : lw_okq (⟨"NotEndedModel", "goesIn", "()Z"⟩, 52) := ⟨⟨by decide +kernel, by decide +kernel⟩, List.mem_of_getElem? (i := 1002) (by decide +kernel), List.mem_of_getElem? (i := 1264) (by decide +kernel), List.mem_of_getElem? (i := 1265) (by decide +kernel)⟩
def lw_privs_3 : List (MethodName × Nat) := [(⟨"NotEnded", "holdersWithout", "(LNotEnded$Rule;JI)I"⟩, 10), (⟨"NotEnded", "lookersOfSize", "(LNotEnded$Rule;JII)I"⟩, 10), (⟨"java/lang/Throwable", "fillInStackTrace", "(I)Ljava/lang/Throwable;"⟩, 6), (⟨"NotEndedModel", "put", "(I)V"⟩, 52), (⟨"NotEndedModel", "goThrough", "([BIIZI)V"⟩, 52), (⟨"NotEndedModel", "clause", "()V"⟩, 52), (⟨"NotEndedModel", "look", "()I"⟩, 52), (⟨"NotEndedModel", "fails", "()Z"⟩, 52), (⟨"NotEndedModel", "takes", "(I)Z"⟩, 52), (⟨"NotEndedModel", "condition", "(ZI)Z"⟩, 52), (⟨"NotEndedModel", "part", "(ZI)Z"⟩, 52), (⟨"NotEndedModel", "compares", "(ZI)Z"⟩, 52), (⟨"NotEndedModel", "sum", "()I"⟩, 52), (⟨"NotEndedModel", "term", "()I"⟩, 52), (⟨"NotEndedModel", "atom", "()I"⟩, 52), (⟨"NotEndedModel", "goesIn", "()Z"⟩, 52)]
theorem lw_r3 : ∀ q ∈ lw_privs_3, lw_okq q := List.forall_mem_cons.mpr ⟨lw_p32, List.forall_mem_cons.mpr ⟨lw_p33, List.forall_mem_cons.mpr ⟨lw_p34, List.forall_mem_cons.mpr ⟨lw_p35, List.forall_mem_cons.mpr ⟨lw_p36, List.forall_mem_cons.mpr ⟨lw_p37, List.forall_mem_cons.mpr ⟨lw_p38, List.forall_mem_cons.mpr ⟨lw_p39, List.forall_mem_cons.mpr ⟨lw_p40, List.forall_mem_cons.mpr ⟨lw_p41, List.forall_mem_cons.mpr ⟨lw_p42, List.forall_mem_cons.mpr ⟨lw_p43, List.forall_mem_cons.mpr ⟨lw_p44, List.forall_mem_cons.mpr ⟨lw_p45, List.forall_mem_cons.mpr ⟨lw_p46, List.forall_mem_cons.mpr ⟨lw_p47, fun _ h => absurd h List.not_mem_nil⟩⟩⟩⟩⟩⟩⟩⟩⟩⟩⟩⟩⟩⟩⟩⟩
theorem lw_p48 : lw_okq (⟨"NotEndedModel", "isDigit", "()Z"⟩, 52) := ⟨⟨by decide +kernel, by decide +kernel⟩, List.mem_of_getElem? (i := 1002) (by decide +kernel), List.mem_of_getElem? (i := 1268) (by decide +kernel), List.mem_of_getElem? (i := 1269) (by decide +kernel)⟩
theorem lw_p49 : lw_okq (⟨"NotEndedModel", "unit", "()Z"⟩, 52) := ⟨⟨by decide +kernel, by decide +kernel⟩, List.mem_of_getElem? (i := 1002) (by decide +kernel), List.mem_of_getElem? (i := 1286) (by decide +kernel), List.mem_of_getElem? (i := 1287) (by decide +kernel)⟩
theorem lw_p50 : lw_okq (⟨"NotEndedModel", "isPerson", "(I)Z"⟩, 52) := ⟨⟨by decide +kernel, by decide +kernel⟩, List.mem_of_getElem? (i := 1002) (by decide +kernel), List.mem_of_getElem? (i := 1302) (by decide +kernel), List.mem_of_getElem? (i := 1303) (by decide +kernel)⟩
theorem lw_p51 : lw_okq (⟨"NotEndedModel", "isLaw", "(I)Z"⟩, 52) := ⟨⟨by decide +kernel, by decide +kernel⟩, List.mem_of_getElem? (i := 1002) (by decide +kernel), List.mem_of_getElem? (i := 1314) (by decide +kernel), List.mem_of_getElem? (i := 1315) (by decide +kernel)⟩
theorem lw_p52 : lw_okq (⟨"NotEndedModel", "everybody", "()I"⟩, 52) := ⟨⟨by decide +kernel, by decide +kernel⟩, List.mem_of_getElem? (i := 1002) (by decide +kernel), List.mem_of_getElem? (i := 1318) (by decide +kernel), List.mem_of_getElem? (i := 1319) (by decide +kernel)⟩
theorem lw_p53 : lw_okq (⟨"NotEndedModel", "begin", "(IJ)V"⟩, 52) := ⟨⟨by decide +kernel, by decide +kernel⟩, List.mem_of_getElem? (i := 1002) (by decide +kernel), List.mem_of_getElem? (i := 1322) (by decide +kernel), List.mem_of_getElem? (i := 1323) (by decide +kernel)⟩
theorem lw_p54 : lw_okq (⟨"NotEndedModel", "layLetters", "(I)V"⟩, 52) := ⟨⟨by decide +kernel, by decide +kernel⟩, List.mem_of_getElem? (i := 1002) (by decide +kernel), List.mem_of_getElem? (i := 1326) (by decide +kernel), List.mem_of_getElem? (i := 1327) (by decide +kernel)⟩
theorem lw_p55 : lw_okq (⟨"NotEndedModel", "worthOf", "(IZI)I"⟩, 52) := ⟨⟨by decide +kernel, by decide +kernel⟩, List.mem_of_getElem? (i := 1002) (by decide +kernel), List.mem_of_getElem? (i := 1334) (by decide +kernel), List.mem_of_getElem? (i := 1335) (by decide +kernel)⟩
theorem lw_p56 : lw_okq (⟨"NotEndedModel", "runOf", "(IJII)V"⟩, 52) := ⟨⟨by decide +kernel, by decide +kernel⟩, List.mem_of_getElem? (i := 1002) (by decide +kernel), List.mem_of_getElem? (i := 1342) (by decide +kernel), List.mem_of_getElem? (i := 1343) (by decide +kernel)⟩
theorem lw_p57 : lw_okq (⟨"NotEndedModel", "goOn", "(II)V"⟩, 52) := ⟨⟨by decide +kernel, by decide +kernel⟩, List.mem_of_getElem? (i := 1002) (by decide +kernel), List.mem_of_getElem? (i := 1346) (by decide +kernel), List.mem_of_getElem? (i := 1347) (by decide +kernel)⟩
theorem lw_p58 : lw_okq (⟨"NotEndedModel", "goesBy", "(I)V"⟩, 52) := ⟨⟨by decide +kernel, by decide +kernel⟩, List.mem_of_getElem? (i := 1002) (by decide +kernel), List.mem_of_getElem? (i := 1350) (by decide +kernel), List.mem_of_getElem? (i := 1351) (by decide +kernel)⟩
theorem lw_p59 : lw_okq (⟨"NotEndedModel", "isFree", "(I)Z"⟩, 52) := ⟨⟨by decide +kernel, by decide +kernel⟩, List.mem_of_getElem? (i := 1002) (by decide +kernel), List.mem_of_getElem? (i := 1354) (by decide +kernel), List.mem_of_getElem? (i := 1355) (by decide +kernel)⟩
theorem lw_p60 : lw_okq (⟨"NotEndedModel", "isChanced", "(I)Z"⟩, 52) := ⟨⟨by decide +kernel, by decide +kernel⟩, List.mem_of_getElem? (i := 1002) (by decide +kernel), List.mem_of_getElem? (i := 1362) (by decide +kernel), List.mem_of_getElem? (i := 1363) (by decide +kernel)⟩
theorem lw_p61 : lw_okq (⟨"NotEndedModel", "endOf", "(IJII)I"⟩, 52) := ⟨⟨by decide +kernel, by decide +kernel⟩, List.mem_of_getElem? (i := 1002) (by decide +kernel), List.mem_of_getElem? (i := 1377) (by decide +kernel), List.mem_of_getElem? (i := 1378) (by decide +kernel)⟩
theorem lw_p62 : lw_okq (⟨"NotEndedModel", "isAsked", "(II)Z"⟩, 52) := ⟨⟨by decide +kernel, by decide +kernel⟩, List.mem_of_getElem? (i := 1002) (by decide +kernel), List.mem_of_getElem? (i := 1385) (by decide +kernel), List.mem_of_getElem? (i := 1386) (by decide +kernel)⟩
theorem lw_p63 : lw_okq (⟨"NotEndedModel", "allSent", "()I"⟩, 52) := ⟨⟨by decide +kernel, by decide +kernel⟩, List.mem_of_getElem? (i := 1002) (by decide +kernel), List.mem_of_getElem? (i := 1389) (by decide +kernel), List.mem_of_getElem? (i := 1390) (by decide +kernel)⟩
def lw_privs_4 : List (MethodName × Nat) := [(⟨"NotEndedModel", "isDigit", "()Z"⟩, 52), (⟨"NotEndedModel", "unit", "()Z"⟩, 52), (⟨"NotEndedModel", "isPerson", "(I)Z"⟩, 52), (⟨"NotEndedModel", "isLaw", "(I)Z"⟩, 52), (⟨"NotEndedModel", "everybody", "()I"⟩, 52), (⟨"NotEndedModel", "begin", "(IJ)V"⟩, 52), (⟨"NotEndedModel", "layLetters", "(I)V"⟩, 52), (⟨"NotEndedModel", "worthOf", "(IZI)I"⟩, 52), (⟨"NotEndedModel", "runOf", "(IJII)V"⟩, 52), (⟨"NotEndedModel", "goOn", "(II)V"⟩, 52), (⟨"NotEndedModel", "goesBy", "(I)V"⟩, 52), (⟨"NotEndedModel", "isFree", "(I)Z"⟩, 52), (⟨"NotEndedModel", "isChanced", "(I)Z"⟩, 52), (⟨"NotEndedModel", "endOf", "(IJII)I"⟩, 52), (⟨"NotEndedModel", "isAsked", "(II)Z"⟩, 52), (⟨"NotEndedModel", "allSent", "()I"⟩, 52)]
theorem lw_r4 : ∀ q ∈ lw_privs_4, lw_okq q := List.forall_mem_cons.mpr ⟨lw_p48, List.forall_mem_cons.mpr ⟨lw_p49, List.forall_mem_cons.mpr ⟨lw_p50, List.forall_mem_cons.mpr ⟨lw_p51, List.forall_mem_cons.mpr ⟨lw_p52, List.forall_mem_cons.mpr ⟨lw_p53, List.forall_mem_cons.mpr ⟨lw_p54, List.forall_mem_cons.mpr ⟨lw_p55, List.forall_mem_cons.mpr ⟨lw_p56, List.forall_mem_cons.mpr ⟨lw_p57, List.forall_mem_cons.mpr ⟨lw_p58, List.forall_mem_cons.mpr ⟨lw_p59, List.forall_mem_cons.mpr ⟨lw_p60, List.forall_mem_cons.mpr ⟨lw_p61, List.forall_mem_cons.mpr ⟨lw_p62, List.forall_mem_cons.mpr ⟨lw_p63, fun _ h => absurd h List.not_mem_nil⟩⟩⟩⟩⟩⟩⟩⟩⟩⟩⟩⟩⟩⟩⟩⟩
theorem lw_p64 : lw_okq (⟨"NotEndedModel", "fitsAll", "(IJZ)Z"⟩, 52) := ⟨⟨by decide +kernel, by decide +kernel⟩, List.mem_of_getElem? (i := 1002) (by decide +kernel), List.mem_of_getElem? (i := 1405) (by decide +kernel), List.mem_of_getElem? (i := 1406) (by decide +kernel)⟩
theorem lw_p65 : lw_okq (⟨"NotEndedModel", "isAlone", "(I)Z"⟩, 52) := ⟨⟨by decide +kernel, by decide +kernel⟩, List.mem_of_getElem? (i := 1002) (by decide +kernel), List.mem_of_getElem? (i := 1409) (by decide +kernel), List.mem_of_getElem? (i := 1410) (by decide +kernel)⟩
theorem lw_p66 : lw_okq (⟨"NotEndedModel", "isSo", "(I)Z"⟩, 52) := ⟨⟨by decide +kernel, by decide +kernel⟩, List.mem_of_getElem? (i := 1002) (by decide +kernel), List.mem_of_getElem? (i := 1413) (by decide +kernel), List.mem_of_getElem? (i := 1414) (by decide +kernel)⟩
theorem lw_p67 : lw_okq (⟨"NotEndedModel", "isTurning", "(I)Z"⟩, 52) := ⟨⟨by decide +kernel, by decide +kernel⟩, List.mem_of_getElem? (i := 1002) (by decide +kernel), List.mem_of_getElem? (i := 1431) (by decide +kernel), List.mem_of_getElem? (i := 1432) (by decide +kernel)⟩
theorem lw_p68 : lw_okq (⟨"NotEndedModel", "isLet", "(II)Z"⟩, 52) := ⟨⟨by decide +kernel, by decide +kernel⟩, List.mem_of_getElem? (i := 1002) (by decide +kernel), List.mem_of_getElem? (i := 1438) (by decide +kernel), List.mem_of_getElem? (i := 1439) (by decide +kernel)⟩
theorem lw_p69 : lw_okq (⟨"NotEndedModel", "barred", "(I)J"⟩, 52) := ⟨⟨by decide +kernel, by decide +kernel⟩, List.mem_of_getElem? (i := 1002) (by decide +kernel), List.mem_of_getElem? (i := 1446) (by decide +kernel), List.mem_of_getElem? (i := 1447) (by decide +kernel)⟩
theorem lw_p70 : lw_okq (⟨"NotEndedModel", "isBefore", "(II)Z"⟩, 52) := ⟨⟨by decide +kernel, by decide +kernel⟩, List.mem_of_getElem? (i := 1002) (by decide +kernel), List.mem_of_getElem? (i := 1476) (by decide +kernel), List.mem_of_getElem? (i := 1477) (by decide +kernel)⟩
theorem lw_p71 : lw_okq (⟨"NotEndedModel", "costOf", "(I)I"⟩, 52) := ⟨⟨by decide +kernel, by decide +kernel⟩, List.mem_of_getElem? (i := 1002) (by decide +kernel), List.mem_of_getElem? (i := 1480) (by decide +kernel), List.mem_of_getElem? (i := 1481) (by decide +kernel)⟩
theorem lw_p72 : lw_okq (⟨"NotEndedModel", "helps", "(IJII)Z"⟩, 52) := ⟨⟨by decide +kernel, by decide +kernel⟩, List.mem_of_getElem? (i := 1002) (by decide +kernel), List.mem_of_getElem? (i := 1488) (by decide +kernel), List.mem_of_getElem? (i := 1489) (by decide +kernel)⟩
theorem lw_p73 : lw_okq (⟨"NotEndedModel", "holders", "(IJI)I"⟩, 52) := ⟨⟨by decide +kernel, by decide +kernel⟩, List.mem_of_getElem? (i := 1002) (by decide +kernel), List.mem_of_getElem? (i := 1496) (by decide +kernel), List.mem_of_getElem? (i := 1497) (by decide +kernel)⟩
def lw_privs_5 : List (MethodName × Nat) := [(⟨"NotEndedModel", "fitsAll", "(IJZ)Z"⟩, 52), (⟨"NotEndedModel", "isAlone", "(I)Z"⟩, 52), (⟨"NotEndedModel", "isSo", "(I)Z"⟩, 52), (⟨"NotEndedModel", "isTurning", "(I)Z"⟩, 52), (⟨"NotEndedModel", "isLet", "(II)Z"⟩, 52), (⟨"NotEndedModel", "barred", "(I)J"⟩, 52), (⟨"NotEndedModel", "isBefore", "(II)Z"⟩, 52), (⟨"NotEndedModel", "costOf", "(I)I"⟩, 52), (⟨"NotEndedModel", "helps", "(IJII)Z"⟩, 52), (⟨"NotEndedModel", "holders", "(IJI)I"⟩, 52)]
theorem lw_r5 : ∀ q ∈ lw_privs_5, lw_okq q := List.forall_mem_cons.mpr ⟨lw_p64, List.forall_mem_cons.mpr ⟨lw_p65, List.forall_mem_cons.mpr ⟨lw_p66, List.forall_mem_cons.mpr ⟨lw_p67, List.forall_mem_cons.mpr ⟨lw_p68, List.forall_mem_cons.mpr ⟨lw_p69, List.forall_mem_cons.mpr ⟨lw_p70, List.forall_mem_cons.mpr ⟨lw_p71, List.forall_mem_cons.mpr ⟨lw_p72, List.forall_mem_cons.mpr ⟨lw_p73, fun _ h => absurd h List.not_mem_nil⟩⟩⟩⟩⟩⟩⟩⟩⟩⟩
def lw_privs : List (MethodName × Nat) := lw_privs_1 ++ (lw_privs_2 ++ (lw_privs_3 ++ (lw_privs_4 ++ (lw_privs_5))))
def lw_tbl : List Cond := k2_sels lw_privs ++ tables_1
theorem lw_privs_ok : ∀ q ∈ lw_privs, lw_okq q := by
  show ∀ q ∈ lw_privs_1 ++ (lw_privs_2 ++ (lw_privs_3 ++ (lw_privs_4 ++ (lw_privs_5)))), lw_okq q
  exact List.forall_mem_append.mpr ⟨lw_r1, List.forall_mem_append.mpr ⟨lw_r2, List.forall_mem_append.mpr ⟨lw_r3, List.forall_mem_append.mpr ⟨lw_r4, lw_r5⟩⟩⟩⟩
end
section
def RX0 : String := "NotEnded$Acts"
def TX0 : u_T := fun k => match k with
  | 0 => ("NotEnded$Acts", "persons", "[I", true)
  | 1 => ("NotEnded$Acts", "kinds", "[I", true)
  | 2 => ("NotEnded$Acts", "things", "[I", true)
  | 3 => ("NotEnded$Acts", "costs", "[I", true)
  | _ => ("NotEnded$Acts", "size", "I", false)
def tyX0 : Nat → FieldType := fun k => match k with
  | 0 => .array .int
  | 1 => .array .int
  | 2 => .array .int
  | 3 => .array .int
  | _ => .int
abbrev wsX00 : List Cond := u_ws RX0 TX0 5
theorem nmX0 : ∀ a, a < 5 → ∀ b, b < 5 → a ≠ b → (TX0 a).2.1 ≠ (TX0 b).2.1 := by decide +kernel
theorem tyX0_ok : ∀ k, k < 5 → parseFieldDescriptor (TX0 k).2.2.1 = some (tyX0 k) := by decide +kernel
def RX1 : String := "NotEnded$Course"
def TX1 : u_T := fun k => match k with
  | 0 => ("NotEnded$Course", "folk", "LNotEnded$Folk;", true)
  | 1 => ("NotEnded$Course", "reckoner", "LNotEnded$Reckoner;", true)
  | 2 => ("NotEnded$Course", "held", "[I", true)
  | 3 => ("NotEnded$Course", "putIn", "[I", true)
  | 4 => ("NotEnded$Course", "places", "[I", true)
  | 5 => ("NotEnded$Course", "tellsSince", "[I", true)
  | 6 => ("NotEnded$Course", "holdsMore", "[I", true)
  | 7 => ("NotEnded$Course", "passesOn", "[I", true)
  | 8 => ("NotEnded$Course", "goes", "[I", true)
  | 9 => ("NotEnded$Course", "hears", "[I", true)
  | 10 => ("NotEnded$Course", "manyIn", "[I", true)
  | 11 => ("NotEnded$Course", "heldIn", "[I", true)
  | 12 => ("NotEnded$Course", "sentIn", "[I", true)
  | 13 => ("NotEnded$Course", "ways", "[J", true)
  | 14 => ("NotEnded$Course", "law", "LNotEnded$Rule;", false)
  | 15 => ("NotEnded$Course", "drawn", "J", false)
  | 16 => ("NotEnded$Course", "present", "I", false)
  | 17 => ("NotEnded$Course", "moved", "I", false)
  | _ => ("NotEnded$Course", "hour", "I", false)
def tyX1 : Nat → FieldType := fun k => match k with
  | 0 => .object "NotEnded$Folk"
  | 1 => .object "NotEnded$Reckoner"
  | 2 => .array .int
  | 3 => .array .int
  | 4 => .array .int
  | 5 => .array .int
  | 6 => .array .int
  | 7 => .array .int
  | 8 => .array .int
  | 9 => .array .int
  | 10 => .array .int
  | 11 => .array .int
  | 12 => .array .int
  | 13 => .array .long
  | 14 => .object "NotEnded$Rule"
  | 15 => .long
  | 16 => .int
  | 17 => .int
  | _ => .int
abbrev wsX10 : List Cond := u_ws RX1 TX1 19
theorem nmX1 : ∀ a, a < 19 → ∀ b, b < 19 → a ≠ b → (TX1 a).2.1 ≠ (TX1 b).2.1 := by decide +kernel
theorem tyX1_ok : ∀ k, k < 19 → parseFieldDescriptor (TX1 k).2.2.1 = some (tyX1 k) := by decide +kernel
def RX2 : String := "NotEnded$Folk"
def TX2 : u_T := fun k => match k with
  | 0 => ("NotEnded$Folk", "holds", "[I", true)
  | 1 => ("NotEnded$Folk", "putIn", "[I", true)
  | 2 => ("NotEnded$Folk", "houses", "[I", true)
  | 3 => ("NotEnded$Folk", "knows", "[I", true)
  | 4 => ("NotEnded$Folk", "hours", "[I", true)
  | 5 => ("NotEnded$Folk", "sent", "I", false)
  | 6 => ("NotEnded$Folk", "size", "I", false)
  | _ => ("NotEnded$Folk", "words", "I", false)
def tyX2 : Nat → FieldType := fun k => match k with
  | 0 => .array .int
  | 1 => .array .int
  | 2 => .array .int
  | 3 => .array .int
  | 4 => .array .int
  | 5 => .int
  | 6 => .int
  | _ => .int
abbrev wsX20 : List Cond := u_ws RX2 TX2 8
theorem nmX2 : ∀ a, a < 8 → ∀ b, b < 8 → a ≠ b → (TX2 a).2.1 ≠ (TX2 b).2.1 := by decide +kernel
theorem tyX2_ok : ∀ k, k < 8 → parseFieldDescriptor (TX2 k).2.2.1 = some (tyX2 k) := by decide +kernel
def RX3 : String := "NotEnded$Notebook"
def TX3 : u_T := fun k => match k with
  | 0 => ("NotEnded$Notebook", "persons", "[I", true)
  | 1 => ("NotEnded$Notebook", "hours", "[I", true)
  | 2 => ("NotEnded$Notebook", "kinds", "[I", true)
  | 3 => ("NotEnded$Notebook", "values", "[I", true)
  | 4 => ("NotEnded$Notebook", "offs", "[I", true)
  | _ => ("NotEnded$Notebook", "size", "I", false)
def tyX3 : Nat → FieldType := fun k => match k with
  | 0 => .array .int
  | 1 => .array .int
  | 2 => .array .int
  | 3 => .array .int
  | 4 => .array .int
  | _ => .int
abbrev wsX30 : List Cond := u_ws RX3 TX3 6
theorem nmX3 : ∀ a, a < 6 → ∀ b, b < 6 → a ≠ b → (TX3 a).2.1 ≠ (TX3 b).2.1 := by decide +kernel
theorem tyX3_ok : ∀ k, k < 6 → parseFieldDescriptor (TX3 k).2.2.1 = some (tyX3 k) := by decide +kernel
def RX4 : String := "NotEnded$Reader"
def TX4 : u_T := fun k => match k with
  | 0 => ("NotEnded$Reader", "tape", "LNotEnded$Tape;", true)
  | 1 => ("NotEnded$Reader", "steps", "[I", true)
  | 2 => ("NotEnded$Reader", "clauses", "[I", true)
  | 3 => ("NotEnded$Reader", "written", "I", false)
  | 4 => ("NotEnded$Reader", "filled", "I", false)
  | 5 => ("NotEnded$Reader", "place", "I", false)
  | 6 => ("NotEnded$Reader", "labelSigns", "Ljava/lang/String;", false)
  | _ => ("NotEnded$Reader", "letterSigns", "Ljava/lang/String;", false)
def tyX4 : Nat → FieldType := fun k => match k with
  | 0 => .object "NotEnded$Tape"
  | 1 => .array .int
  | 2 => .array .int
  | 3 => .int
  | 4 => .int
  | 5 => .int
  | 6 => .object "java/lang/String"
  | _ => .object "java/lang/String"
abbrev wsX40 : List Cond := u_ws RX4 TX4 8
theorem nmX4 : ∀ a, a < 8 → ∀ b, b < 8 → a ≠ b → (TX4 a).2.1 ≠ (TX4 b).2.1 := by decide +kernel
theorem tyX4_ok : ∀ k, k < 8 → parseFieldDescriptor (TX4 k).2.2.1 = some (tyX4 k) := by decide +kernel
def RX5 : String := "NotEnded$Reckoner"
def TX5 : u_T := fun k => match k with
  | 0 => ("NotEnded$Reckoner", "letters", "[I", true)
  | _ => ("NotEnded$Reckoner", "open", "[I", true)
def tyX5 : Nat → FieldType := fun k => match k with
  | 0 => .array .int
  | _ => .array .int
abbrev wsX50 : List Cond := u_ws RX5 TX5 2
theorem nmX5 : ∀ a, a < 2 → ∀ b, b < 2 → a ≠ b → (TX5 a).2.1 ≠ (TX5 b).2.1 := by decide +kernel
theorem tyX5_ok : ∀ k, k < 2 → parseFieldDescriptor (TX5 k).2.2.1 = some (tyX5 k) := by decide +kernel
def RX6 : String := "NotEnded$Rule"
def TX6 : u_T := fun k => match k with
  | 0 => ("NotEnded$Rule", "steps", "[I", true)
  | _ => ("NotEnded$Rule", "clauses", "[I", true)
def tyX6 : Nat → FieldType := fun k => match k with
  | 0 => .array .int
  | _ => .array .int
abbrev wsX60 : List Cond := u_ws RX6 TX6 2
theorem nmX6 : ∀ a, a < 2 → ∀ b, b < 2 → a ≠ b → (TX6 a).2.1 ≠ (TX6 b).2.1 := by decide +kernel
theorem tyX6_ok : ∀ k, k < 2 → parseFieldDescriptor (TX6 k).2.2.1 = some (tyX6 k) := by decide +kernel
def RX7 : String := "NotEnded$Shelf"
def TX7 : u_T := fun k => match k with
  | 0 => ("NotEnded$Shelf", "rules", "[LNotEnded$Rule;", true)
  | _ => ("NotEnded$Shelf", "size", "I", false)
def tyX7 : Nat → FieldType := fun k => match k with
  | 0 => .array (.object "NotEnded$Rule")
  | _ => .int
abbrev wsX70 : List Cond := u_ws RX7 TX7 2
theorem nmX7 : ∀ a, a < 2 → ∀ b, b < 2 → a ≠ b → (TX7 a).2.1 ≠ (TX7 b).2.1 := by decide +kernel
theorem tyX7_ok : ∀ k, k < 2 → parseFieldDescriptor (TX7 k).2.2.1 = some (tyX7 k) := by decide +kernel
def RX8 : String := "NotEnded$Tape"
def TX8 : u_T := fun k => match k with
  | 0 => ("NotEnded$Tape", "signs", "[C", true)
  | _ => ("NotEnded$Tape", "length", "I", false)
def tyX8 : Nat → FieldType := fun k => match k with
  | 0 => .array .char
  | _ => .int
abbrev wsX80 : List Cond := u_ws RX8 TX8 2
theorem nmX8 : ∀ a, a < 2 → ∀ b, b < 2 → a ≠ b → (TX8 a).2.1 ≠ (TX8 b).2.1 := by decide +kernel
theorem tyX8_ok : ∀ k, k < 2 → parseFieldDescriptor (TX8 k).2.2.1 = some (tyX8 k) := by decide +kernel
def RX9 : String := "NotEnded"
def TX9 : u_T := fun k => match k with
  | 0 => ("NotEnded", "tape", "LNotEnded$Tape;", true)
  | 1 => ("NotEnded", "reader", "LNotEnded$Reader;", true)
  | 2 => ("NotEnded", "reckoner", "LNotEnded$Reckoner;", true)
  | 3 => ("NotEnded", "laws", "LNotEnded$Shelf;", true)
  | 4 => ("NotEnded", "turnings", "LNotEnded$Shelf;", true)
  | 5 => ("NotEnded", "folk", "LNotEnded$Folk;", true)
  | 6 => ("NotEnded", "course", "LNotEnded$Course;", true)
  | 7 => ("NotEnded", "notebook", "LNotEnded$Notebook;", true)
  | 8 => ("NotEnded", "acts", "LNotEnded$Acts;", true)
  | _ => ("NotEnded", "said", "[I", true)
def tyX9 : Nat → FieldType := fun k => match k with
  | 0 => .object "NotEnded$Tape"
  | 1 => .object "NotEnded$Reader"
  | 2 => .object "NotEnded$Reckoner"
  | 3 => .object "NotEnded$Shelf"
  | 4 => .object "NotEnded$Shelf"
  | 5 => .object "NotEnded$Folk"
  | 6 => .object "NotEnded$Course"
  | 7 => .object "NotEnded$Notebook"
  | 8 => .object "NotEnded$Acts"
  | _ => .array .int
abbrev wsX90 : List Cond := u_ws RX9 TX9 10
theorem nmX9 : ∀ a, a < 10 → ∀ b, b < 10 → a ≠ b → (TX9 a).2.1 ≠ (TX9 b).2.1 := by decide +kernel
theorem tyX9_ok : ∀ k, k < 10 → parseFieldDescriptor (TX9 k).2.2.1 = some (tyX9 k) := by decide +kernel
def RX10 : String := "NotEndedModel"
def TX10 : u_T := fun k => match k with
  | 0 => ("NotEndedModel", "thrown", "I", false)
  | 1 => ("NotEndedModel", "tape", "[B", true)
  | 2 => ("NotEndedModel", "texts", "[B", true)
  | 3 => ("NotEndedModel", "textLong", "[I", true)
  | 4 => ("NotEndedModel", "letters", "[I", true)
  | 5 => ("NotEndedModel", "text", "[B", false)
  | 6 => ("NotEndedModel", "length", "I", false)
  | 7 => ("NotEndedModel", "laws", "I", false)
  | 8 => ("NotEndedModel", "turnings", "I", false)
  | 9 => ("NotEndedModel", "begins", "I", false)
  | 10 => ("NotEndedModel", "ends", "I", false)
  | 11 => ("NotEndedModel", "at", "I", false)
  | 12 => ("NotEndedModel", "fault", "I", false)
  | 13 => ("NotEndedModel", "deep", "I", false)
  | 14 => ("NotEndedModel", "label", "I", false)
  | 15 => ("NotEndedModel", "found", "I", false)
  | 16 => ("NotEndedModel", "labels", "Ljava/lang/String;", false)
  | 17 => ("NotEndedModel", "allowed", "Ljava/lang/String;", false)
  | 18 => ("NotEndedModel", "hasFound", "Z", false)
  | 19 => ("NotEndedModel", "toldHolds", "[I", true)
  | 20 => ("NotEndedModel", "toldIn", "[I", true)
  | 21 => ("NotEndedModel", "toldHouse", "[I", true)
  | 22 => ("NotEndedModel", "knows", "[I", true)
  | 23 => ("NotEndedModel", "said", "[I", true)
  | 24 => ("NotEndedModel", "due", "[I", true)
  | 25 => ("NotEndedModel", "isSent", "[Z", true)
  | 26 => ("NotEndedModel", "persons", "I", false)
  | 27 => ("NotEndedModel", "words", "I", false)
  | 28 => ("NotEndedModel", "holds", "[I", true)
  | 29 => ("NotEndedModel", "putIn", "[I", true)
  | 30 => ("NotEndedModel", "house", "[I", true)
  | 31 => ("NotEndedModel", "since", "[I", true)
  | 32 => ("NotEndedModel", "more", "[I", true)
  | 33 => ("NotEndedModel", "goes", "[I", true)
  | 34 => ("NotEndedModel", "heard", "[I", true)
  | 35 => ("NotEndedModel", "tells", "[I", true)
  | 36 => ("NotEndedModel", "was", "[I", true)
  | 37 => ("NotEndedModel", "there", "I", false)
  | 38 => ("NotEndedModel", "hour", "I", false)
  | 39 => ("NotEndedModel", "x", "J", false)
  | 40 => ("NotEndedModel", "notePerson", "[I", true)
  | 41 => ("NotEndedModel", "noteHour", "[I", true)
  | 42 => ("NotEndedModel", "noteKind", "[I", true)
  | 43 => ("NotEndedModel", "noteValue", "[I", true)
  | 44 => ("NotEndedModel", "noteOff", "[I", true)
  | 45 => ("NotEndedModel", "notes", "I", false)
  | 46 => ("NotEndedModel", "ways", "[J", true)
  | 47 => ("NotEndedModel", "actOf", "[I", true)
  | 48 => ("NotEndedModel", "actKind", "[I", true)
  | 49 => ("NotEndedModel", "actX", "[I", true)
  | 50 => ("NotEndedModel", "actCost", "[I", true)
  | _ => ("NotEndedModel", "acts", "I", false)
def tyX10 : Nat → FieldType := fun k => match k with
  | 0 => .int
  | 1 => .array .byte
  | 2 => .array .byte
  | 3 => .array .int
  | 4 => .array .int
  | 5 => .array .byte
  | 6 => .int
  | 7 => .int
  | 8 => .int
  | 9 => .int
  | 10 => .int
  | 11 => .int
  | 12 => .int
  | 13 => .int
  | 14 => .int
  | 15 => .int
  | 16 => .object "java/lang/String"
  | 17 => .object "java/lang/String"
  | 18 => .boolean
  | 19 => .array .int
  | 20 => .array .int
  | 21 => .array .int
  | 22 => .array .int
  | 23 => .array .int
  | 24 => .array .int
  | 25 => .array .boolean
  | 26 => .int
  | 27 => .int
  | 28 => .array .int
  | 29 => .array .int
  | 30 => .array .int
  | 31 => .array .int
  | 32 => .array .int
  | 33 => .array .int
  | 34 => .array .int
  | 35 => .array .int
  | 36 => .array .int
  | 37 => .int
  | 38 => .int
  | 39 => .long
  | 40 => .array .int
  | 41 => .array .int
  | 42 => .array .int
  | 43 => .array .int
  | 44 => .array .int
  | 45 => .int
  | 46 => .array .long
  | 47 => .array .int
  | 48 => .array .int
  | 49 => .array .int
  | 50 => .array .int
  | _ => .int
abbrev wsX100 : List Cond := u_ws RX10 TX10 52
theorem nmX10 : ∀ a, a < 52 → ∀ b, b < 52 → a ≠ b → (TX10 a).2.1 ≠ (TX10 b).2.1 := by decide +kernel
theorem tyX10_ok : ∀ k, k < 52 → parseFieldDescriptor (TX10 k).2.2.1 = some (tyX10 k) := by decide +kernel
def RJx145de : String := "java/io/Serializable"
def TJx145de : u_T := fun k => match k with
  | _ => ("", "", "", false)
def tyJx145de : Nat → FieldType := fun k => match k with
  | _ => .int
abbrev wsJx145de0 : List Cond := u_ws RJx145de TJx145de 0
theorem nmJx145de : ∀ a, a < 0 → ∀ b, b < 0 → a ≠ b → (TJx145de a).2.1 ≠ (TJx145de b).2.1 := by decide +kernel
theorem tyJx145de_ok : ∀ k, k < 0 → parseFieldDescriptor (TJx145de k).2.2.1 = some (tyJx145de k) := by decide +kernel
def RJx9f9b0 : String := "java/lang/CharSequence"
def TJx9f9b0 : u_T := fun k => match k with
  | _ => ("", "", "", false)
def tyJx9f9b0 : Nat → FieldType := fun k => match k with
  | _ => .int
abbrev wsJx9f9b00 : List Cond := u_ws RJx9f9b0 TJx9f9b0 0
theorem nmJx9f9b0 : ∀ a, a < 0 → ∀ b, b < 0 → a ≠ b → (TJx9f9b0 a).2.1 ≠ (TJx9f9b0 b).2.1 := by decide +kernel
theorem tyJx9f9b0_ok : ∀ k, k < 0 → parseFieldDescriptor (TJx9f9b0 k).2.2.1 = some (tyJx9f9b0 k) := by decide +kernel
def RJ11 : String := "java/lang/Character"
def TJ11 : u_T := fun k => match k with
  | _ => ("", "", "", false)
def tyJ11 : Nat → FieldType := fun k => match k with
  | _ => .int
abbrev wsJ110 : List Cond := u_ws RJ11 TJ11 0
theorem nmJ11 : ∀ a, a < 0 → ∀ b, b < 0 → a ≠ b → (TJ11 a).2.1 ≠ (TJ11 b).2.1 := by decide +kernel
theorem tyJ11_ok : ∀ k, k < 0 → parseFieldDescriptor (TJ11 k).2.2.1 = some (tyJ11 k) := by decide +kernel
def RJx8e188 : String := "java/lang/Cloneable"
def TJx8e188 : u_T := fun k => match k with
  | _ => ("", "", "", false)
def tyJx8e188 : Nat → FieldType := fun k => match k with
  | _ => .int
abbrev wsJx8e1880 : List Cond := u_ws RJx8e188 TJx8e188 0
theorem nmJx8e188 : ∀ a, a < 0 → ∀ b, b < 0 → a ≠ b → (TJx8e188 a).2.1 ≠ (TJx8e188 b).2.1 := by decide +kernel
theorem tyJx8e188_ok : ∀ k, k < 0 → parseFieldDescriptor (TJx8e188 k).2.2.1 = some (tyJx8e188 k) := by decide +kernel
def RJxb160c : String := "java/lang/Comparable"
def TJxb160c : u_T := fun k => match k with
  | _ => ("", "", "", false)
def tyJxb160c : Nat → FieldType := fun k => match k with
  | _ => .int
abbrev wsJxb160c0 : List Cond := u_ws RJxb160c TJxb160c 0
theorem nmJxb160c : ∀ a, a < 0 → ∀ b, b < 0 → a ≠ b → (TJxb160c a).2.1 ≠ (TJxb160c b).2.1 := by decide +kernel
theorem tyJxb160c_ok : ∀ k, k < 0 → parseFieldDescriptor (TJxb160c k).2.2.1 = some (tyJxb160c k) := by decide +kernel
def RJ6 : String := "java/lang/Integer"
def TJ6 : u_T := fun k => match k with
  | _ => ("", "", "", false)
def tyJ6 : Nat → FieldType := fun k => match k with
  | _ => .int
abbrev wsJ60 : List Cond := u_ws RJ6 TJ6 0
theorem nmJ6 : ∀ a, a < 0 → ∀ b, b < 0 → a ≠ b → (TJ6 a).2.1 ≠ (TJ6 b).2.1 := by decide +kernel
theorem tyJ6_ok : ∀ k, k < 0 → parseFieldDescriptor (TJ6 k).2.2.1 = some (tyJ6 k) := by decide +kernel
def RJ13 : String := "java/lang/Long"
def TJ13 : u_T := fun k => match k with
  | _ => ("", "", "", false)
def tyJ13 : Nat → FieldType := fun k => match k with
  | _ => .int
abbrev wsJ130 : List Cond := u_ws RJ13 TJ13 0
theorem nmJ13 : ∀ a, a < 0 → ∀ b, b < 0 → a ≠ b → (TJ13 a).2.1 ≠ (TJ13 b).2.1 := by decide +kernel
theorem tyJ13_ok : ∀ k, k < 0 → parseFieldDescriptor (TJ13 k).2.2.1 = some (tyJ13 k) := by decide +kernel
def RJ9 : String := "java/lang/Math"
def TJ9 : u_T := fun k => match k with
  | _ => ("", "", "", false)
def tyJ9 : Nat → FieldType := fun k => match k with
  | _ => .int
abbrev wsJ90 : List Cond := u_ws RJ9 TJ9 0
theorem nmJ9 : ∀ a, a < 0 → ∀ b, b < 0 → a ≠ b → (TJ9 a).2.1 ≠ (TJ9 b).2.1 := by decide +kernel
theorem tyJ9_ok : ∀ k, k < 0 → parseFieldDescriptor (TJ9 k).2.2.1 = some (tyJ9 k) := by decide +kernel
def RJ0 : String := "java/lang/String"
def TJ0 : u_T := fun k => match k with
  | _ => ("", "", "", false)
def tyJ0 : Nat → FieldType := fun k => match k with
  | _ => .int
abbrev wsJ00 : List Cond := u_ws RJ0 TJ0 0
theorem nmJ0 : ∀ a, a < 0 → ∀ b, b < 0 → a ≠ b → (TJ0 a).2.1 ≠ (TJ0 b).2.1 := by decide +kernel
theorem tyJ0_ok : ∀ k, k < 0 → parseFieldDescriptor (TJ0 k).2.2.1 = some (tyJ0 k) := by decide +kernel
def RJ1 : String := "java/lang/StringLatin1"
def TJ1 : u_T := fun k => match k with
  | _ => ("", "", "", false)
def tyJ1 : Nat → FieldType := fun k => match k with
  | _ => .int
abbrev wsJ10 : List Cond := u_ws RJ1 TJ1 0
theorem nmJ1 : ∀ a, a < 0 → ∀ b, b < 0 → a ≠ b → (TJ1 a).2.1 ≠ (TJ1 b).2.1 := by decide +kernel
theorem tyJ1_ok : ∀ k, k < 0 → parseFieldDescriptor (TJ1 k).2.2.1 = some (tyJ1 k) := by decide +kernel
def RJ2 : String := "java/lang/StringUTF16"
def TJ2 : u_T := fun k => match k with
  | _ => ("", "", "", false)
def tyJ2 : Nat → FieldType := fun k => match k with
  | _ => .int
abbrev wsJ20 : List Cond := u_ws RJ2 TJ2 0
theorem nmJ2 : ∀ a, a < 0 → ∀ b, b < 0 → a ≠ b → (TJ2 a).2.1 ≠ (TJ2 b).2.1 := by decide +kernel
theorem tyJ2_ok : ∀ k, k < 0 → parseFieldDescriptor (TJ2 k).2.2.1 = some (tyJ2 k) := by decide +kernel
def RJ10 : String := "java/lang/System"
def TJ10 : u_T := fun k => match k with
  | _ => ("", "", "", false)
def tyJ10 : Nat → FieldType := fun k => match k with
  | _ => .int
abbrev wsJ100 : List Cond := u_ws RJ10 TJ10 0
theorem nmJ10 : ∀ a, a < 0 → ∀ b, b < 0 → a ≠ b → (TJ10 a).2.1 ≠ (TJ10 b).2.1 := by decide +kernel
theorem tyJ10_ok : ∀ k, k < 0 → parseFieldDescriptor (TJ10 k).2.2.1 = some (tyJ10 k) := by decide +kernel
def RJxfd54e : String := "java/lang/constant/Constable"
def TJxfd54e : u_T := fun k => match k with
  | _ => ("", "", "", false)
def tyJxfd54e : Nat → FieldType := fun k => match k with
  | _ => .int
abbrev wsJxfd54e0 : List Cond := u_ws RJxfd54e TJxfd54e 0
theorem nmJxfd54e : ∀ a, a < 0 → ∀ b, b < 0 → a ≠ b → (TJxfd54e a).2.1 ≠ (TJxfd54e b).2.1 := by decide +kernel
theorem tyJxfd54e_ok : ∀ k, k < 0 → parseFieldDescriptor (TJxfd54e k).2.2.1 = some (tyJxfd54e k) := by decide +kernel
def RJx3cf43 : String := "java/lang/constant/ConstantDesc"
def TJx3cf43 : u_T := fun k => match k with
  | _ => ("", "", "", false)
def tyJx3cf43 : Nat → FieldType := fun k => match k with
  | _ => .int
abbrev wsJx3cf430 : List Cond := u_ws RJx3cf43 TJx3cf43 0
theorem nmJx3cf43 : ∀ a, a < 0 → ∀ b, b < 0 → a ≠ b → (TJx3cf43 a).2.1 ≠ (TJx3cf43 b).2.1 := by decide +kernel
theorem tyJx3cf43_ok : ∀ k, k < 0 → parseFieldDescriptor (TJx3cf43 k).2.2.1 = some (tyJx3cf43 k) := by decide +kernel
def RJ7 : String := "java/util/Arrays"
def TJ7 : u_T := fun k => match k with
  | _ => ("", "", "", false)
def tyJ7 : Nat → FieldType := fun k => match k with
  | _ => .int
abbrev wsJ70 : List Cond := u_ws RJ7 TJ7 0
theorem nmJ7 : ∀ a, a < 0 → ∀ b, b < 0 → a ≠ b → (TJ7 a).2.1 ≠ (TJ7 b).2.1 := by decide +kernel
theorem tyJ7_ok : ∀ k, k < 0 → parseFieldDescriptor (TJ7 k).2.2.1 = some (tyJ7 k) := by decide +kernel
def RJ3 : String := "jdk/internal/util/Preconditions"
def TJ3 : u_T := fun k => match k with
  | _ => ("", "", "", false)
def tyJ3 : Nat → FieldType := fun k => match k with
  | _ => .int
abbrev wsJ30 : List Cond := u_ws RJ3 TJ3 0
theorem nmJ3 : ∀ a, a < 0 → ∀ b, b < 0 → a ≠ b → (TJ3 a).2.1 ≠ (TJ3 b).2.1 := by decide +kernel
theorem tyJ3_ok : ∀ k, k < 0 → parseFieldDescriptor (TJ3 k).2.2.1 = some (tyJ3 k) := by decide +kernel
def RL : String := "NotEndedLaw"
abbrev cX0_init : ByteArray := prog_2_method_1_code
def yX0_init : MethodName := ⟨RX0, "<init>", "()V"⟩
abbrev cX0_add : ByteArray := prog_2_method_2_code
def yX0_add : MethodName := ⟨RX0, "add", "(IIII)I"⟩
abbrev cX0_size : ByteArray := prog_2_method_3_code
def yX0_size : MethodName := ⟨RX0, "size", "()I"⟩
abbrev cX0_actsFor : ByteArray := prog_2_method_4_code
def yX0_actsFor : MethodName := ⟨RX0, "actsFor", "(I)I"⟩
abbrev cX0_costOf : ByteArray := prog_2_method_5_code
def yX0_costOf : MethodName := ⟨RX0, "costOf", "(I)I"⟩
abbrev cX0_givenBackBy : ByteArray := prog_2_method_6_code
def yX0_givenBackBy : MethodName := ⟨RX0, "givenBackBy", "(I)I"⟩
abbrev cX0_houseBy : ByteArray := prog_2_method_7_code
def yX0_houseBy : MethodName := ⟨RX0, "houseBy", "(I)I"⟩
abbrev cX0_goneBy : ByteArray := prog_2_method_8_code
def yX0_goneBy : MethodName := ⟨RX0, "goneBy", "(I)I"⟩
abbrev cX0_isLess : ByteArray := prog_2_method_9_code
def yX0_isLess : MethodName := ⟨RX0, "isLess", "(II)Z"⟩
abbrev cX1_init : ByteArray := prog_3_method_1_code
def yX1_init : MethodName := ⟨RX1, "<init>", "(LNotEnded$Folk;LNotEnded$Reckoner;)V"⟩
abbrev cX1_begin : ByteArray := prog_3_method_2_code
def yX1_begin : MethodName := ⟨RX1, "begin", "(LNotEnded$Rule;JI)V"⟩
abbrev cX1_giveBack : ByteArray := prog_3_method_3_code
def yX1_giveBack : MethodName := ⟨RX1, "giveBack", "(II)V"⟩
abbrev cX1_moveTo : ByteArray := prog_3_method_4_code
def yX1_moveTo : MethodName := ⟨RX1, "moveTo", "(II)V"⟩
abbrev cX1_go : ByteArray := prog_3_method_5_code
def yX1_go : MethodName := ⟨RX1, "go", "(I)V"⟩
abbrev cX1_heldBy : ByteArray := prog_3_method_6_code
def yX1_heldBy : MethodName := ⟨RX1, "heldBy", "(I)I"⟩
abbrev cX1_placeOf : ByteArray := prog_3_method_7_code
def yX1_placeOf : MethodName := ⟨RX1, "placeOf", "(I)I"⟩
abbrev cX1_tellsSince : ByteArray := prog_3_method_8_code
def yX1_tellsSince : MethodName := ⟨RX1, "tellsSince", "(I)I"⟩
abbrev cX1_howManyAreHome : ByteArray := prog_3_method_9_code
def yX1_howManyAreHome : MethodName := ⟨RX1, "howManyAreHome", "()I"⟩
abbrev cX1_whoGaveUp : ByteArray := prog_3_method_10_code
def yX1_whoGaveUp : MethodName := ⟨RX1, "whoGaveUp", "()I"⟩
abbrev cX1_whoHoldsOn : ByteArray := prog_3_method_11_code
def yX1_whoHoldsOn : MethodName := ⟨RX1, "whoHoldsOn", "()I"⟩
abbrev cX1_housesThatTold : ByteArray := prog_3_method_12_code
def yX1_housesThatTold : MethodName := ⟨RX1, "housesThatTold", "()I"⟩
abbrev cX1_meanHeldIn : ByteArray := prog_3_method_13_code
def yX1_meanHeldIn : MethodName := ⟨RX1, "meanHeldIn", "(I)I"⟩
abbrev cX1_worthNow : ByteArray := prog_3_method_14_code
def yX1_worthNow : MethodName := ⟨RX1, "worthNow", "(II)I"⟩
abbrev cX1_waysThatGo : ByteArray := prog_3_method_15_code
def yX1_waysThatGo : MethodName := ⟨RX1, "waysThatGo", "(I)J"⟩
abbrev cX1_addOneWhoMay : ByteArray := prog_3_method_16_code
def yX1_addOneWhoMay : MethodName := ⟨RX1, "addOneWhoMay", "(II)V"⟩
abbrev cX1_mayGo : ByteArray := prog_3_method_17_code
def yX1_mayGo : MethodName := ⟨RX1, "mayGo", "(I)Z"⟩
abbrev cX1_weigh : ByteArray := prog_3_method_18_code
def yX1_weigh : MethodName := ⟨RX1, "weigh", "()V"⟩
abbrev cX1_tallyHouses : ByteArray := prog_3_method_19_code
def yX1_tallyHouses : MethodName := ⟨RX1, "tallyHouses", "()V"⟩
abbrev cX1_setLettersOfHour : ByteArray := prog_3_method_20_code
def yX1_setLettersOfHour : MethodName := ⟨RX1, "setLettersOfHour", "()V"⟩
abbrev cX1_setLettersOf : ByteArray := prog_3_method_21_code
def yX1_setLettersOf : MethodName := ⟨RX1, "setLettersOf", "(I)V"⟩
abbrev cX1_holdMore : ByteArray := prog_3_method_22_code
def yX1_holdMore : MethodName := ⟨RX1, "holdMore", "()V"⟩
abbrev cX1_tell : ByteArray := prog_3_method_23_code
def yX1_tell : MethodName := ⟨RX1, "tell", "()V"⟩
abbrev cX1_tellThoseKnown : ByteArray := prog_3_method_24_code
def yX1_tellThoseKnown : MethodName := ⟨RX1, "tellThoseKnown", "(I)V"⟩
abbrev cX1_goHome : ByteArray := prog_3_method_25_code
def yX1_goHome : MethodName := ⟨RX1, "goHome", "()V"⟩
abbrev cX2_init : ByteArray := prog_4_method_1_code
def yX2_init : MethodName := ⟨RX2, "<init>", "()V"⟩
abbrev cX2_addPerson : ByteArray := prog_4_method_2_code
def yX2_addPerson : MethodName := ⟨RX2, "addPerson", "(IIIZ)I"⟩
abbrev cX2_acquaint : ByteArray := prog_4_method_3_code
def yX2_acquaint : MethodName := ⟨RX2, "acquaint", "(II)V"⟩
abbrev cX2_addWord : ByteArray := prog_4_method_4_code
def yX2_addWord : MethodName := ⟨RX2, "addWord", "(I)I"⟩
abbrev cX2_size : ByteArray := prog_4_method_5_code
def yX2_size : MethodName := ⟨RX2, "size", "()I"⟩
abbrev cX2_words : ByteArray := prog_4_method_6_code
def yX2_words : MethodName := ⟨RX2, "words", "()I"⟩
abbrev cX2_has : ByteArray := prog_4_method_7_code
def yX2_has : MethodName := ⟨RX2, "has", "(I)Z"⟩
abbrev cX2_hasAll : ByteArray := prog_4_method_8_code
def yX2_hasAll : MethodName := ⟨RX2, "hasAll", "(I)Z"⟩
abbrev cX2_everybody : ByteArray := prog_4_method_9_code
def yX2_everybody : MethodName := ⟨RX2, "everybody", "()I"⟩
abbrev cX2_sentOnes : ByteArray := prog_4_method_10_code
def yX2_sentOnes : MethodName := ⟨RX2, "sentOnes", "()I"⟩
abbrev cX2_isSent : ByteArray := prog_4_method_11_code
def yX2_isSent : MethodName := ⟨RX2, "isSent", "(I)Z"⟩
abbrev cX2_thoseAlone : ByteArray := prog_4_method_12_code
def yX2_thoseAlone : MethodName := ⟨RX2, "thoseAlone", "()I"⟩
abbrev cX2_wordsPast : ByteArray := prog_4_method_13_code
def yX2_wordsPast : MethodName := ⟨RX2, "wordsPast", "(I)I"⟩
abbrev cX2_hoursSinceWord : ByteArray := prog_4_method_14_code
def yX2_hoursSinceWord : MethodName := ⟨RX2, "hoursSinceWord", "(I)I"⟩
abbrev cX3_init : ByteArray := prog_5_method_1_code
def yX3_init : MethodName := ⟨RX3, "<init>", "()V"⟩
abbrev cX3_add : ByteArray := prog_5_method_2_code
def yX3_add : MethodName := ⟨RX3, "add", "(IIIII)I"⟩
abbrev cX3_size : ByteArray := prog_5_method_3_code
def yX3_size : MethodName := ⟨RX3, "size", "()I"⟩
abbrev cX3_agrees : ByteArray := prog_5_method_4_code
def yX3_agrees : MethodName := ⟨RX3, "agrees", "(LNotEnded$Course;II)Z"⟩
abbrev cX3_isSo : ByteArray := prog_5_method_5_code
def yX3_isSo : MethodName := ⟨RX3, "isSo", "(LNotEnded$Course;I)Z"⟩
abbrev cX4_init : ByteArray := prog_6_method_1_code
def yX4_init : MethodName := ⟨RX4, "<init>", "(LNotEnded$Tape;)V"⟩
abbrev cX4_read : ByteArray := prog_6_method_2_code
def yX4_read : MethodName := ⟨RX4, "read", "(I)I"⟩
abbrev cX4_rule : ByteArray := prog_6_method_3_code
def yX4_rule : MethodName := ⟨RX4, "rule", "()LNotEnded$Rule;"⟩
abbrev cX4_readClause : ByteArray := prog_6_method_4_code
def yX4_readClause : MethodName := ⟨RX4, "readClause", "()Z"⟩
abbrev cX4_keepClause : ByteArray := prog_6_method_5_code
def yX4_keepClause : MethodName := ⟨RX4, "keepClause", "(III)Z"⟩
abbrev cX4_readCondition : ByteArray := prog_6_method_6_code
def yX4_readCondition : MethodName := ⟨RX4, "readCondition", "(IZ)Z"⟩
abbrev cX4_readTruth : ByteArray := prog_6_method_7_code
def yX4_readTruth : MethodName := ⟨RX4, "readTruth", "(IZ)Z"⟩
abbrev cX4_readUnit : ByteArray := prog_6_method_8_code
def yX4_readUnit : MethodName := ⟨RX4, "readUnit", "(IZ)Z"⟩
abbrev cX4_readSum : ByteArray := prog_6_method_9_code
def yX4_readSum : MethodName := ⟨RX4, "readSum", "(I)Z"⟩
abbrev cX4_readTerm : ByteArray := prog_6_method_10_code
def yX4_readTerm : MethodName := ⟨RX4, "readTerm", "(I)Z"⟩
abbrev cX4_readAtom : ByteArray := prog_6_method_11_code
def yX4_readAtom : MethodName := ⟨RX4, "readAtom", "(I)Z"⟩
abbrev cX4_readNumber : ByteArray := prog_6_method_12_code
def yX4_readNumber : MethodName := ⟨RX4, "readNumber", "()Z"⟩
abbrev cX4_opens : ByteArray := prog_6_method_13_code
def yX4_opens : MethodName := ⟨RX4, "opens", "(I)Z"⟩
abbrev cX4_take : ByteArray := prog_6_method_14_code
def yX4_take : MethodName := ⟨RX4, "take", "(C)Z"⟩
abbrev cX4_look : ByteArray := prog_6_method_15_code
def yX4_look : MethodName := ⟨RX4, "look", "()C"⟩
abbrev cX4_write : ByteArray := prog_6_method_16_code
def yX4_write : MethodName := ⟨RX4, "write", "(I)Z"⟩
abbrev cX4_isDigit : ByteArray := prog_6_method_17_code
def yX4_isDigit : MethodName := ⟨RX4, "isDigit", "(C)Z"⟩
abbrev cX4_isComparison : ByteArray := prog_6_method_18_code
def yX4_isComparison : MethodName := ⟨RX4, "isComparison", "(C)Z"⟩
abbrev cX5_init : ByteArray := prog_7_method_1_code
def yX5_init : MethodName := ⟨RX5, "<init>", "()V"⟩
abbrev cX5_setLetter : ByteArray := prog_7_method_2_code
def yX5_setLetter : MethodName := ⟨RX5, "setLetter", "(II)V"⟩
abbrev cX5_worthOf : ByteArray := prog_7_method_3_code
def yX5_worthOf : MethodName := ⟨RX5, "worthOf", "(LNotEnded$Rule;I)I"⟩
abbrev cX5_reckon : ByteArray := prog_7_method_4_code
def yX5_reckon : MethodName := ⟨RX5, "reckon", "([III)I"⟩
abbrev cX5_valueOf : ByteArray := prog_7_method_5_code
def yX5_valueOf : MethodName := ⟨RX5, "valueOf", "(I)I"⟩
abbrev cX5_join : ByteArray := prog_7_method_6_code
def yX5_join : MethodName := ⟨RX5, "join", "(III)J"⟩
abbrev cX5_bounded : ByteArray := prog_7_method_7_code
def yX5_bounded : MethodName := ⟨RX5, "bounded", "(J)I"⟩
abbrev cX6_init : ByteArray := prog_8_method_1_code
def yX6_init : MethodName := ⟨RX6, "<init>", "([I[I)V"⟩
abbrev cX7_init : ByteArray := prog_9_method_1_code
def yX7_init : MethodName := ⟨RX7, "<init>", "(I)V"⟩
abbrev cX7_isFull : ByteArray := prog_9_method_2_code
def yX7_isFull : MethodName := ⟨RX7, "isFull", "()Z"⟩
abbrev cX7_put : ByteArray := prog_9_method_3_code
def yX7_put : MethodName := ⟨RX7, "put", "(LNotEnded$Rule;)I"⟩
abbrev cX7_size : ByteArray := prog_9_method_4_code
def yX7_size : MethodName := ⟨RX7, "size", "()I"⟩
abbrev cX7_at : ByteArray := prog_9_method_5_code
def yX7_at : MethodName := ⟨RX7, "at", "(I)LNotEnded$Rule;"⟩
abbrev cX8_init : ByteArray := prog_10_method_1_code
def yX8_init : MethodName := ⟨RX8, "<init>", "()V"⟩
abbrev cX8_bytesIn : ByteArray := prog_10_method_2_code
def yX8_bytesIn : MethodName := ⟨RX8, "bytesIn", "(I)I"⟩
abbrev cX8_append : ByteArray := prog_10_method_3_code
def yX8_append : MethodName := ⟨RX8, "append", "(I)V"⟩
abbrev cX8_cutTo : ByteArray := prog_10_method_4_code
def yX8_cutTo : MethodName := ⟨RX8, "cutTo", "(I)V"⟩
abbrev cX8_length : ByteArray := prog_10_method_5_code
def yX8_length : MethodName := ⟨RX8, "length", "()I"⟩
abbrev cX8_at : ByteArray := prog_10_method_6_code
def yX8_at : MethodName := ⟨RX8, "at", "(I)C"⟩
abbrev cX9_init : ByteArray := prog_1_method_1_code
def yX9_init : MethodName := ⟨RX9, "<init>", "()V"⟩
abbrev cX9_feed : ByteArray := prog_1_method_2_code
def yX9_feed : MethodName := ⟨RX9, "feed", "(IIIII)I"⟩
abbrev cX9_end : ByteArray := prog_1_method_3_code
def yX9_end : MethodName := ⟨RX9, "end", "(I)Z"⟩
abbrev cX9_fault : ByteArray := prog_1_method_4_code
def yX9_fault : MethodName := ⟨RX9, "fault", "(I)I"⟩
abbrev cX9_text : ByteArray := prog_1_method_5_code
def yX9_text : MethodName := ⟨RX9, "text", "(I)I"⟩
abbrev cX9_person : ByteArray := prog_1_method_6_code
def yX9_person : MethodName := ⟨RX9, "person", "(IIIZ)I"⟩
abbrev cX9_know : ByteArray := prog_1_method_7_code
def yX9_know : MethodName := ⟨RX9, "know", "(II)Z"⟩
abbrev cX9_word : ByteArray := prog_1_method_8_code
def yX9_word : MethodName := ⟨RX9, "word", "(I)I"⟩
abbrev cX9_worth : ByteArray := prog_1_method_9_code
def yX9_worth : MethodName := ⟨RX9, "worth", "(III)I"⟩
abbrev cX9_run : ByteArray := prog_1_method_10_code
def yX9_run : MethodName := ⟨RX9, "run", "(IJIII)I"⟩
abbrev cX9_all : ByteArray := prog_1_method_11_code
def yX9_all : MethodName := ⟨RX9, "all", "(IJII)I"⟩
abbrev cX9_without : ByteArray := prog_1_method_12_code
def yX9_without : MethodName := ⟨RX9, "without", "(IJII)I"⟩
abbrev cX9_did : ByteArray := prog_1_method_13_code
def yX9_did : MethodName := ⟨RX9, "did", "(IJI)I"⟩
abbrev cX9_lean : ByteArray := prog_1_method_14_code
def yX9_lean : MethodName := ⟨RX9, "lean", "(IJII)I"⟩
abbrev cX9_note : ByteArray := prog_1_method_15_code
def yX9_note : MethodName := ⟨RX9, "note", "(IIIII)I"⟩
abbrev cX9_fits : ByteArray := prog_1_method_16_code
def yX9_fits : MethodName := ⟨RX9, "fits", "(JZ)I"⟩
abbrev cX9_books : ByteArray := prog_1_method_17_code
def yX9_books : MethodName := ⟨RX9, "books", "(IJI)I"⟩
abbrev cX9_odds : ByteArray := prog_1_method_18_code
def yX9_odds : MethodName := ⟨RX9, "odds", "(IJII)J"⟩
abbrev cX9_lets : ByteArray := prog_1_method_19_code
def yX9_lets : MethodName := ⟨RX9, "lets", "(II)I"⟩
abbrev cX9_bars : ByteArray := prog_1_method_20_code
def yX9_bars : MethodName := ⟨RX9, "bars", "(I)I"⟩
abbrev cX9_bolder : ByteArray := prog_1_method_21_code
def yX9_bolder : MethodName := ⟨RX9, "bolder", "(II)I"⟩
abbrev cX9_say : ByteArray := prog_1_method_22_code
def yX9_say : MethodName := ⟨RX9, "say", "(II)Z"⟩
abbrev cX9_stayed : ByteArray := prog_1_method_23_code
def yX9_stayed : MethodName := ⟨RX9, "stayed", "(IJI)I"⟩
abbrev cX9_act : ByteArray := prog_1_method_24_code
def yX9_act : MethodName := ⟨RX9, "act", "(IIII)I"⟩
abbrev cX9_help : ByteArray := prog_1_method_25_code
def yX9_help : MethodName := ⟨RX9, "help", "(IJII)I"⟩
abbrev cX9_lookers : ByteArray := prog_1_method_26_code
def yX9_lookers : MethodName := ⟨RX9, "lookers", "(IJ)I"⟩
abbrev cX9_count : ByteArray := prog_1_method_27_code
def yX9_count : MethodName := ⟨RX9, "count", "(I)I"⟩
abbrev cX9_heldAtEnd : ByteArray := prog_1_method_28_code
def yX9_heldAtEnd : MethodName := ⟨RX9, "heldAtEnd", "(LNotEnded$Rule;JII)I"⟩
abbrev cX9_isNoted : ByteArray := prog_1_method_29_code
def yX9_isNoted : MethodName := ⟨RX9, "isNoted", "(LNotEnded$Rule;JI)Z"⟩
abbrev cX9_isLet : ByteArray := prog_1_method_30_code
def yX9_isLet : MethodName := ⟨RX9, "isLet", "(LNotEnded$Rule;I)Z"⟩
abbrev cX9_barredBy : ByteArray := prog_1_method_31_code
def yX9_barredBy : MethodName := ⟨RX9, "barredBy", "(LNotEnded$Rule;)I"⟩
abbrev cX9_leastHelp : ByteArray := prog_1_method_32_code
def yX9_leastHelp : MethodName := ⟨RX9, "leastHelp", "(LNotEnded$Rule;JI)I"⟩
abbrev cX9_givesUpBy : ByteArray := prog_1_method_33_code
def yX9_givesUpBy : MethodName := ⟨RX9, "givesUpBy", "(LNotEnded$Rule;JII)Z"⟩
abbrev cX9_holdersWithout : ByteArray := prog_1_method_34_code
def yX9_holdersWithout : MethodName := ⟨RX9, "holdersWithout", "(LNotEnded$Rule;JI)I"⟩
abbrev cX9_lookersOfSize : ByteArray := prog_1_method_35_code
def yX9_lookersOfSize : MethodName := ⟨RX9, "lookersOfSize", "(LNotEnded$Rule;JII)I"⟩
abbrev cX9_isSort : ByteArray := prog_1_method_36_code
def yX9_isSort : MethodName := ⟨RX9, "isSort", "(I)Z"⟩
abbrev cX9_isHouse : ByteArray := prog_1_method_37_code
def yX9_isHouse : MethodName := ⟨RX9, "isHouse", "(I)Z"⟩
abbrev cX9_isOutcome : ByteArray := prog_1_method_38_code
def yX9_isOutcome : MethodName := ⟨RX9, "isOutcome", "(I)Z"⟩
abbrev cX9_isIn : ByteArray := prog_1_method_39_code
def yX9_isIn : MethodName := ⟨RX9, "isIn", "(III)Z"⟩
abbrev cX9_isBit : ByteArray := prog_1_method_40_code
def yX9_isBit : MethodName := ⟨RX9, "isBit", "(II)Z"⟩
abbrev cX9_within : ByteArray := prog_1_method_41_code
def yX9_within : MethodName := ⟨RX9, "within", "(III)I"⟩
abbrev cX9_isLowerFirst : ByteArray := prog_1_method_42_code
def yX9_isLowerFirst : MethodName := ⟨RX9, "isLowerFirst", "(II)Z"⟩
abbrev cX10_init : ByteArray := prog_12_method_1_code
def yX10_init : MethodName := ⟨RX10, "<init>", "()V"⟩
abbrev cX10_thrown : ByteArray := prog_12_method_2_code
def yX10_thrown : MethodName := ⟨RX10, "thrown", "()I"⟩
abbrev cX10_isIn : ByteArray := prog_12_method_3_code
def yX10_isIn : MethodName := ⟨RX10, "isIn", "(III)Z"⟩
abbrev cX10_isAmong : ByteArray := prog_12_method_4_code
def yX10_isAmong : MethodName := ⟨RX10, "isAmong", "(Ljava/lang/String;I)Z"⟩
abbrev cX10_bytesIn : ByteArray := prog_12_method_5_code
def yX10_bytesIn : MethodName := ⟨RX10, "bytesIn", "(I)I"⟩
abbrev cX10_put : ByteArray := prog_12_method_6_code
def yX10_put : MethodName := ⟨RX10, "put", "(I)V"⟩
abbrev cX10_feed : ByteArray := prog_12_method_7_code
def yX10_feed : MethodName := ⟨RX10, "feed", "(IIIII)I"⟩
abbrev cX10_end : ByteArray := prog_12_method_8_code
def yX10_end : MethodName := ⟨RX10, "end", "(I)Z"⟩
abbrev cX10_look : ByteArray := prog_12_method_9_code
def yX10_look : MethodName := ⟨RX10, "look", "()I"⟩
abbrev cX10_fails : ByteArray := prog_12_method_10_code
def yX10_fails : MethodName := ⟨RX10, "fails", "()Z"⟩
abbrev cX10_goesIn : ByteArray := prog_12_method_11_code
def yX10_goesIn : MethodName := ⟨RX10, "goesIn", "()Z"⟩
abbrev cX10_takes : ByteArray := prog_12_method_12_code
def yX10_takes : MethodName := ⟨RX10, "takes", "(I)Z"⟩
abbrev cX10_isDigit : ByteArray := prog_12_method_13_code
def yX10_isDigit : MethodName := ⟨RX10, "isDigit", "()Z"⟩
abbrev cX10_within : ByteArray := prog_12_method_14_code
def yX10_within : MethodName := ⟨RX10, "within", "(J)I"⟩
abbrev cX10_atom : ByteArray := prog_12_method_15_code
def yX10_atom : MethodName := ⟨RX10, "atom", "()I"⟩
abbrev cX10_term : ByteArray := prog_12_method_16_code
def yX10_term : MethodName := ⟨RX10, "term", "()I"⟩
abbrev cX10_sum : ByteArray := prog_12_method_17_code
def yX10_sum : MethodName := ⟨RX10, "sum", "()I"⟩
abbrev cX10_isSign : ByteArray := prog_12_method_18_code
def yX10_isSign : MethodName := ⟨RX10, "isSign", "(I)Z"⟩
abbrev cX10_compares : ByteArray := prog_12_method_19_code
def yX10_compares : MethodName := ⟨RX10, "compares", "(ZI)Z"⟩
abbrev cX10_unit : ByteArray := prog_12_method_20_code
def yX10_unit : MethodName := ⟨RX10, "unit", "()Z"⟩
abbrev cX10_part : ByteArray := prog_12_method_21_code
def yX10_part : MethodName := ⟨RX10, "part", "(ZI)Z"⟩
abbrev cX10_condition : ByteArray := prog_12_method_22_code
def yX10_condition : MethodName := ⟨RX10, "condition", "(ZI)Z"⟩
abbrev cX10_clause : ByteArray := prog_12_method_23_code
def yX10_clause : MethodName := ⟨RX10, "clause", "()V"⟩
abbrev cX10_goThrough : ByteArray := prog_12_method_24_code
def yX10_goThrough : MethodName := ⟨RX10, "goThrough", "([BIIZI)V"⟩
abbrev cX10_fault : ByteArray := prog_12_method_25_code
def yX10_fault : MethodName := ⟨RX10, "fault", "(I)I"⟩
abbrev cX10_text : ByteArray := prog_12_method_26_code
def yX10_text : MethodName := ⟨RX10, "text", "(I)I"⟩
abbrev cX10_isLaw : ByteArray := prog_12_method_27_code
def yX10_isLaw : MethodName := ⟨RX10, "isLaw", "(I)Z"⟩
abbrev cX10_isTurning : ByteArray := prog_12_method_28_code
def yX10_isTurning : MethodName := ⟨RX10, "isTurning", "(I)Z"⟩
abbrev cX10_worthOf : ByteArray := prog_12_method_29_code
def yX10_worthOf : MethodName := ⟨RX10, "worthOf", "(IZI)I"⟩
abbrev cX10_isPerson : ByteArray := prog_12_method_30_code
def yX10_isPerson : MethodName := ⟨RX10, "isPerson", "(I)Z"⟩
abbrev cX10_person : ByteArray := prog_12_method_31_code
def yX10_person : MethodName := ⟨RX10, "person", "(IIIZ)I"⟩
abbrev cX10_know : ByteArray := prog_12_method_32_code
def yX10_know : MethodName := ⟨RX10, "know", "(II)Z"⟩
abbrev cX10_word : ByteArray := prog_12_method_33_code
def yX10_word : MethodName := ⟨RX10, "word", "(I)I"⟩
abbrev cX10_has : ByteArray := prog_12_method_34_code
def yX10_has : MethodName := ⟨RX10, "has", "(II)Z"⟩
abbrev cX10_everybody : ByteArray := prog_12_method_35_code
def yX10_everybody : MethodName := ⟨RX10, "everybody", "()I"⟩
abbrev cX10_allSent : ByteArray := prog_12_method_36_code
def yX10_allSent : MethodName := ⟨RX10, "allSent", "()I"⟩
abbrev cX10_begin : ByteArray := prog_12_method_37_code
def yX10_begin : MethodName := ⟨RX10, "begin", "(IJ)V"⟩
abbrev cX10_layLetters : ByteArray := prog_12_method_38_code
def yX10_layLetters : MethodName := ⟨RX10, "layLetters", "(I)V"⟩
abbrev cX10_isFree : ByteArray := prog_12_method_39_code
def yX10_isFree : MethodName := ⟨RX10, "isFree", "(I)Z"⟩
abbrev cX10_held : ByteArray := prog_12_method_40_code
def yX10_held : MethodName := ⟨RX10, "held", "(I)I"⟩
abbrev cX10_isChanced : ByteArray := prog_12_method_41_code
def yX10_isChanced : MethodName := ⟨RX10, "isChanced", "(I)Z"⟩
abbrev cX10_goesBy : ByteArray := prog_12_method_42_code
def yX10_goesBy : MethodName := ⟨RX10, "goesBy", "(I)V"⟩
abbrev cX10_goOn : ByteArray := prog_12_method_43_code
def yX10_goOn : MethodName := ⟨RX10, "goOn", "(II)V"⟩
abbrev cX10_runOf : ByteArray := prog_12_method_44_code
def yX10_runOf : MethodName := ⟨RX10, "runOf", "(IJII)V"⟩
abbrev cX10_worth : ByteArray := prog_12_method_45_code
def yX10_worth : MethodName := ⟨RX10, "worth", "(III)I"⟩
abbrev cX10_run : ByteArray := prog_12_method_46_code
def yX10_run : MethodName := ⟨RX10, "run", "(IJIII)I"⟩
abbrev cX10_all : ByteArray := prog_12_method_47_code
def yX10_all : MethodName := ⟨RX10, "all", "(IJII)I"⟩
abbrev cX10_endOf : ByteArray := prog_12_method_48_code
def yX10_endOf : MethodName := ⟨RX10, "endOf", "(IJII)I"⟩
abbrev cX10_without : ByteArray := prog_12_method_49_code
def yX10_without : MethodName := ⟨RX10, "without", "(IJII)I"⟩
abbrev cX10_isAsked : ByteArray := prog_12_method_50_code
def yX10_isAsked : MethodName := ⟨RX10, "isAsked", "(II)Z"⟩
abbrev cX10_did : ByteArray := prog_12_method_51_code
def yX10_did : MethodName := ⟨RX10, "did", "(IJI)I"⟩
abbrev cX10_lean : ByteArray := prog_12_method_52_code
def yX10_lean : MethodName := ⟨RX10, "lean", "(IJII)I"⟩
abbrev cX10_note : ByteArray := prog_12_method_53_code
def yX10_note : MethodName := ⟨RX10, "note", "(IIIII)I"⟩
abbrev cX10_isAlone : ByteArray := prog_12_method_54_code
def yX10_isAlone : MethodName := ⟨RX10, "isAlone", "(I)Z"⟩
abbrev cX10_isSo : ByteArray := prog_12_method_55_code
def yX10_isSo : MethodName := ⟨RX10, "isSo", "(I)Z"⟩
abbrev cX10_fitsAll : ByteArray := prog_12_method_56_code
def yX10_fitsAll : MethodName := ⟨RX10, "fitsAll", "(IJZ)Z"⟩
abbrev cX10_fits : ByteArray := prog_12_method_57_code
def yX10_fits : MethodName := ⟨RX10, "fits", "(JZ)I"⟩
abbrev cX10_books : ByteArray := prog_12_method_58_code
def yX10_books : MethodName := ⟨RX10, "books", "(IJI)I"⟩
abbrev cX10_odds : ByteArray := prog_12_method_59_code
def yX10_odds : MethodName := ⟨RX10, "odds", "(IJII)J"⟩
abbrev cX10_isLet : ByteArray := prog_12_method_60_code
def yX10_isLet : MethodName := ⟨RX10, "isLet", "(II)Z"⟩
abbrev cX10_isOutcome : ByteArray := prog_12_method_61_code
def yX10_isOutcome : MethodName := ⟨RX10, "isOutcome", "(I)Z"⟩
abbrev cX10_lets : ByteArray := prog_12_method_62_code
def yX10_lets : MethodName := ⟨RX10, "lets", "(II)I"⟩
abbrev cX10_barred : ByteArray := prog_12_method_63_code
def yX10_barred : MethodName := ⟨RX10, "barred", "(I)J"⟩
abbrev cX10_bars : ByteArray := prog_12_method_64_code
def yX10_bars : MethodName := ⟨RX10, "bars", "(I)I"⟩
abbrev cX10_bolder : ByteArray := prog_12_method_65_code
def yX10_bolder : MethodName := ⟨RX10, "bolder", "(II)I"⟩
abbrev cX10_say : ByteArray := prog_12_method_66_code
def yX10_say : MethodName := ⟨RX10, "say", "(II)Z"⟩
abbrev cX10_stayed : ByteArray := prog_12_method_67_code
def yX10_stayed : MethodName := ⟨RX10, "stayed", "(IJI)I"⟩
abbrev cX10_act : ByteArray := prog_12_method_68_code
def yX10_act : MethodName := ⟨RX10, "act", "(IIII)I"⟩
abbrev cX10_helps : ByteArray := prog_12_method_69_code
def yX10_helps : MethodName := ⟨RX10, "helps", "(IJII)Z"⟩
abbrev cX10_costOf : ByteArray := prog_12_method_70_code
def yX10_costOf : MethodName := ⟨RX10, "costOf", "(I)I"⟩
abbrev cX10_isLower : ByteArray := prog_12_method_71_code
def yX10_isLower : MethodName := ⟨RX10, "isLower", "(II)Z"⟩
abbrev cX10_isBefore : ByteArray := prog_12_method_72_code
def yX10_isBefore : MethodName := ⟨RX10, "isBefore", "(II)Z"⟩
abbrev cX10_help : ByteArray := prog_12_method_73_code
def yX10_help : MethodName := ⟨RX10, "help", "(IJII)I"⟩
abbrev cX10_holders : ByteArray := prog_12_method_74_code
def yX10_holders : MethodName := ⟨RX10, "holders", "(IJI)I"⟩
abbrev cX10_lookers : ByteArray := prog_12_method_75_code
def yX10_lookers : MethodName := ⟨RX10, "lookers", "(IJ)I"⟩
abbrev cX10_count : ByteArray := prog_12_method_76_code
def yX10_count : MethodName := ⟨RX10, "count", "(I)I"⟩
abbrev cJ11_isValidCodePoint_9a6ad : ByteArray := prog_15_method_11_code
def yJ11_isValidCodePoint_9a6ad : MethodName := ⟨RJ11, "isValidCodePoint", "(I)Z"⟩
abbrev cJ11_highSurrogate_5068e : ByteArray := prog_15_method_28_code
def yJ11_highSurrogate_5068e : MethodName := ⟨RJ11, "highSurrogate", "(I)C"⟩
abbrev cJ11_lowSurrogate_5068e : ByteArray := prog_15_method_29_code
def yJ11_lowSurrogate_5068e : MethodName := ⟨RJ11, "lowSurrogate", "(I)C"⟩
abbrev cJ6_compare_7cf53 : ByteArray := prog_19_method_40_code
def yJ6_compare_7cf53 : MethodName := ⟨RJ6, "compare", "(II)I"⟩
abbrev cJ6_bitCount_0f7a4 : ByteArray := prog_19_method_49_code
def yJ6_bitCount_0f7a4 : MethodName := ⟨RJ6, "bitCount", "(I)I"⟩
abbrev cJ13_bitCount_95d88 : ByteArray := prog_20_method_50_code
def yJ13_bitCount_95d88 : MethodName := ⟨RJ13, "bitCount", "(J)I"⟩
abbrev cJ9_abs_0f7a4 : ByteArray := prog_21_method_59_code
def yJ9_abs_0f7a4 : MethodName := ⟨RJ9, "abs", "(I)I"⟩
abbrev cJ9_max_7cf53 : ByteArray := prog_21_method_65_code
def yJ9_max_7cf53 : MethodName := ⟨RJ9, "max", "(II)I"⟩
abbrev cJ9_max_f86c9 : ByteArray := prog_21_method_66_code
def yJ9_max_f86c9 : MethodName := ⟨RJ9, "max", "(JJ)J"⟩
abbrev cJ9_min_7cf53 : ByteArray := prog_21_method_69_code
def yJ9_min_7cf53 : MethodName := ⟨RJ9, "min", "(II)I"⟩
abbrev cJ9_min_f86c9 : ByteArray := prog_21_method_70_code
def yJ9_min_f86c9 : MethodName := ⟨RJ9, "min", "(JJ)J"⟩
abbrev cJ0_length_8abf5 : ByteArray := prog_23_method_54_code
def yJ0_length_8abf5 : MethodName := ⟨RJ0, "length", "()I"⟩
abbrev cJ0_charAt_5068e : ByteArray := prog_23_method_56_code
def yJ0_charAt_5068e : MethodName := ⟨RJ0, "charAt", "(I)C"⟩
abbrev cJ0_indexOf_0f7a4 : ByteArray := prog_23_method_79_code
def yJ0_indexOf_0f7a4 : MethodName := ⟨RJ0, "indexOf", "(I)I"⟩
abbrev cJ0_indexOf_7cf53 : ByteArray := prog_23_method_80_code
def yJ0_indexOf_7cf53 : MethodName := ⟨RJ0, "indexOf", "(II)I"⟩
abbrev cJ0_coder_7d493 : ByteArray := prog_23_method_152_code
def yJ0_coder_7d493 : MethodName := ⟨RJ0, "coder", "()B"⟩
abbrev cJ0_isLatin1_aae02 : ByteArray := prog_23_method_154_code
def yJ0_isLatin1_aae02 : MethodName := ⟨RJ0, "isLatin1", "()Z"⟩
abbrev cJ0_checkIndex_df160 : ByteArray := prog_23_method_155_code
def yJ0_checkIndex_df160 : MethodName := ⟨RJ0, "checkIndex", "(II)V"⟩
abbrev cJ0_checkBoundsBeginEnd_23922 : ByteArray := prog_23_method_158_code
def yJ0_checkBoundsBeginEnd_23922 : MethodName := ⟨RJ0, "checkBoundsBeginEnd", "(III)V"⟩
abbrev cJ1_charAt_3b067 : ByteArray := prog_24_method_2_code
def yJ1_charAt_3b067 : MethodName := ⟨RJ1, "charAt", "([BI)C"⟩
abbrev cJ1_canEncode_9a6ad : ByteArray := prog_24_method_4_code
def yJ1_canEncode_9a6ad : MethodName := ⟨RJ1, "canEncode", "(I)Z"⟩
abbrev cJ1_indexOf_4cfef : ByteArray := prog_24_method_22_code
def yJ1_indexOf_4cfef : MethodName := ⟨RJ1, "indexOf", "([BIII)I"⟩
abbrev cJ1_indexOfChar_4cfef : ByteArray := prog_24_method_23_code
def yJ1_indexOfChar_4cfef : MethodName := ⟨RJ1, "indexOfChar", "([BIII)I"⟩
abbrev cJ2_getChar_3b067 : ByteArray := prog_25_method_5_code
def yJ2_getChar_3b067 : MethodName := ⟨RJ2, "getChar", "([BI)C"⟩
abbrev cJ2_length_9d52b : ByteArray := prog_25_method_6_code
def yJ2_length_9d52b : MethodName := ⟨RJ2, "length", "([B)I"⟩
abbrev cJ2_indexOf_4cfef : ByteArray := prog_25_method_40_code
def yJ2_indexOf_4cfef : MethodName := ⟨RJ2, "indexOf", "([BIII)I"⟩
abbrev cJ2_indexOfChar_4cfef : ByteArray := prog_25_method_47_code
def yJ2_indexOfChar_4cfef : MethodName := ⟨RJ2, "indexOfChar", "([BIII)I"⟩
abbrev cJ2_indexOfCharUnsafe_4cfef : ByteArray := prog_25_method_48_code
def yJ2_indexOfCharUnsafe_4cfef : MethodName := ⟨RJ2, "indexOfCharUnsafe", "([BIII)I"⟩
abbrev cJ2_indexOfSupplementary_4cfef : ByteArray := prog_25_method_49_code
def yJ2_indexOfSupplementary_4cfef : MethodName := ⟨RJ2, "indexOfSupplementary", "([BIII)I"⟩
abbrev cJ2_charAt_3b067 : ByteArray := prog_25_method_83_code
def yJ2_charAt_3b067 : MethodName := ⟨RJ2, "charAt", "([BI)C"⟩
abbrev cJ2_checkIndex_2214a : ByteArray := prog_25_method_91_code
def yJ2_checkIndex_2214a : MethodName := ⟨RJ2, "checkIndex", "(I[B)V"⟩
abbrev cJ2_checkBoundsBeginEnd_d044e : ByteArray := prog_25_method_93_code
def yJ2_checkBoundsBeginEnd_d044e : MethodName := ⟨RJ2, "checkBoundsBeginEnd", "(II[B)V"⟩
abbrev cJ7_fill_d0a16 : ByteArray := prog_30_method_101_code
def yJ7_fill_d0a16 : MethodName := ⟨RJ7, "fill", "([JJ)V"⟩
abbrev cJ7_fill_53178 : ByteArray := prog_30_method_103_code
def yJ7_fill_53178 : MethodName := ⟨RJ7, "fill", "([II)V"⟩
abbrev cJ7_copyOf_59c91 : ByteArray := prog_30_method_123_code
def yJ7_copyOf_59c91 : MethodName := ⟨RJ7, "copyOf", "([II)[I"⟩
abbrev cJ3_checkIndex_8e157 : ByteArray := prog_32_method_11_code
def yJ3_checkIndex_8e157 : MethodName := ⟨RJ3, "checkIndex", "(IILjava/util/function/BiFunction;)I"⟩
abbrev cJ3_checkFromToIndex_8c36e : ByteArray := prog_32_method_12_code
def yJ3_checkFromToIndex_8c36e : MethodName := ⟨RJ3, "checkFromToIndex", "(IIILjava/util/function/BiFunction;)I"⟩
abbrev cL_worth : ByteArray := method_3_code
def yL_worth : MethodName := ⟨RL, "worth", "(LNotEnded;III[J)I"⟩
abbrev cL_law : ByteArray := code
def yL_law : MethodName := ⟨RL, "law", "([I)Z"⟩
end
section
theorem dX9_isIn_0 : decode cX9_isIn 0 = .ok (.iload_n 0, 1) := by decide +kernel
theorem dX9_isIn_1 : decode cX9_isIn 1 = .ok (.iload_n 1, 1) := by decide +kernel
theorem dX9_isIn_2 : decode cX9_isIn 2 = .ok (.if_icmp .lt 12, 3) := by decide +kernel
theorem dX9_isIn_14 : decode cX9_isIn 14 = .ok (.iconst 0, 1) := by decide +kernel
theorem dX9_isIn_15 : decode cX9_isIn 15 = .ok (.ireturn, 1) := by decide +kernel
theorem dX9_isIn_5 : decode cX9_isIn 5 = .ok (.iload_n 0, 1) := by decide +kernel
theorem dX9_isIn_6 : decode cX9_isIn 6 = .ok (.iload_n 2, 1) := by decide +kernel
theorem dX9_isIn_7 : decode cX9_isIn 7 = .ok (.if_icmp .gt 7, 3) := by decide +kernel
theorem dX9_isIn_10 : decode cX9_isIn 10 = .ok (.iconst 1, 1) := by decide +kernel
theorem dX9_isIn_11 : decode cX9_isIn 11 = .ok (.goto 4, 3) := by decide +kernel
theorem dX10_isIn_0 : decode cX10_isIn 0 = .ok (.iload_n 0, 1) := by decide +kernel
theorem dX10_isIn_1 : decode cX10_isIn 1 = .ok (.iload_n 1, 1) := by decide +kernel
theorem dX10_isIn_2 : decode cX10_isIn 2 = .ok (.if_icmp .lt 12, 3) := by decide +kernel
theorem dX10_isIn_14 : decode cX10_isIn 14 = .ok (.iconst 0, 1) := by decide +kernel
theorem dX10_isIn_15 : decode cX10_isIn 15 = .ok (.ireturn, 1) := by decide +kernel
theorem dX10_isIn_5 : decode cX10_isIn 5 = .ok (.iload_n 0, 1) := by decide +kernel
theorem dX10_isIn_6 : decode cX10_isIn 6 = .ok (.iload_n 2, 1) := by decide +kernel
theorem dX10_isIn_7 : decode cX10_isIn 7 = .ok (.if_icmp .gt 7, 3) := by decide +kernel
theorem dX10_isIn_10 : decode cX10_isIn 10 = .ok (.iconst 1, 1) := by decide +kernel
theorem dX10_isIn_11 : decode cX10_isIn 11 = .ok (.goto 4, 3) := by decide +kernel
theorem dX7_at_0 : decode cX7_at 0 = .ok (.iload_n 1, 1) := by decide +kernel
theorem dX7_at_1 : decode cX7_at 1 = .ok (.ifCond .lt 29, 3) := by decide +kernel
theorem dX7_at_30 : decode cX7_at 30 = .ok (.aconst_null, 1) := by decide +kernel
theorem dX7_at_31 : decode cX7_at 31 = .ok (.areturn, 1) := by decide +kernel
theorem dX7_at_4 : decode cX7_at 4 = .ok (.iload_n 1, 1) := by decide +kernel
theorem dX7_at_5 : decode cX7_at 5 = .ok (.aload_n 0, 1) := by decide +kernel
theorem dX7_at_6 : decode cX7_at 6 = .ok (.getfield 9, 3) := by decide +kernel
theorem dX7_at_9 : decode cX7_at 9 = .ok (.if_icmp .ge 21, 3) := by decide +kernel
theorem dX2_has_0 : decode cX2_has 0 = .ok (.iload_n 1, 1) := by decide +kernel
theorem dX2_has_1 : decode cX2_has 1 = .ok (.ifCond .lt 21, 3) := by decide +kernel
theorem dX2_has_22 : decode cX2_has 22 = .ok (.iconst 0, 1) := by decide +kernel
theorem dX2_has_23 : decode cX2_has 23 = .ok (.ireturn, 1) := by decide +kernel
theorem dX2_has_4 : decode cX2_has 4 = .ok (.iload_n 1, 1) := by decide +kernel
theorem dX2_has_5 : decode cX2_has 5 = .ok (.aload_n 0, 1) := by decide +kernel
theorem dX2_has_6 : decode cX2_has 6 = .ok (.getfield 31, 3) := by decide +kernel
theorem dX2_has_9 : decode cX2_has 9 = .ok (.if_icmp .ge 13, 3) := by decide +kernel
theorem dX9_run_0 : decode cX9_run 0 = .ok (.aload_n 0, 1) := by decide +kernel
theorem dX9_run_1 : decode cX9_run 1 = .ok (.getfield 37, 3) := by decide +kernel
theorem dX9_run_4 : decode cX9_run 4 = .ok (.iload_n 1, 1) := by decide +kernel
theorem dX9_run_5 : decode cX9_run 5 = .ok (.invokevirtual 138, 3) := by decide +kernel
theorem dX9_run_8 : decode cX9_run 8 = .ok (.astore 7, 2) := by decide +kernel
theorem dX9_run_10 : decode cX9_run 10 = .ok (.aload 7, 2) := by decide +kernel
theorem dX9_run_12 : decode cX9_run 12 = .ok (.ifnull 36, 3) := by decide +kernel
theorem dX9_run_48 : decode cX9_run 48 = .ok (.sipush (-1000), 3) := by decide +kernel
theorem dX9_run_51 : decode cX9_run 51 = .ok (.ireturn, 1) := by decide +kernel
end
section
/-! Our own small kit: contracts' starts and ends in two forms. kR: nothing is written; kW: cells change or come. -/
theorem goodIn_sub {big ws : List Cond} (hm : ∀ w ∈ ws, w ∈ big) (h : ws.all goodWord = true) : GoodIn big ws := fun w hw => ⟨hm w hw, good_of_word (List.all_eq_true.mp h w hw)⟩
theorem kG {big a b : List Cond} (ha : ∀ w ∈ a, w ∈ big) (hga : a.all goodWord = true) (hb : ∀ w ∈ b, w ∈ big) (hgb : b.all goodWord = true) : GoodIn big (a ++ b) := fun w h => (List.mem_append.mp h).elim (goodIn_sub ha hga w) (goodIn_sub hb hgb w)
abbrev vwCl : List vw_C := [(RX0, TX0, 5), (RX1, TX1, 19), (RX2, TX2, 8), (RX3, TX3, 6), (RX4, TX4, 8), (RX5, TX5, 2), (RX6, TX6, 2), (RX7, TX7, 2), (RX8, TX8, 2), (RX9, TX9, 10), (RX10, TX10, 52)]
def kT : State → Prop := fun _ => True
theorem kT_blind : ∀ (U : State) (g : JFrame) (mk : MethodId) (a : Array Value), kT U → kT (U.calling g mk a) := fun _ _ _ _ _ => trivial
theorem kT_give {s : State} {H : Heap} : ∀ U : State, U.heap = H → s.WarmedH U.vm → kT U := fun _ _ _ => trivial
def kR (dC : Nat → ClassId) (dI : Nat → Nat → Nat) (av : List Value) (W : va_W) (T : List (ClassId × FieldType)) (X : State → Prop) : Array Value → State → Prop := fun v U => v = av.toArray ∧ va_P (dC, dI) vwCl W U.heap ∧ va_K (dC, dI) vwCl T U ∧ X U
def kW (dC : Nat → ClassId) (dI : Nat → Nat → Nat) (av : List Value) (W : va_W) (T : List (ClassId × FieldType)) (X : State → Prop) (sz : Nat) : Array Value → State → Prop := fun v U => v = av.toArray ∧ U.heap.size = sz ∧ va_P (dC, dI) vwCl W U.heap ∧ va_K (dC, dI) vwCl T U ∧ va_D (fun _ => True) W ∧ X U
def kB (dC : Nat → ClassId) (dI : Nat → Nat → Nat) (W : va_W) (T : List (ClassId × FieldType)) (A : Nat → Prop) (t : State) : Prop := va_P (dC, dI) vwCl W t.heap ∧ va_K (dC, dI) vwCl T t ∧ va_D A W
theorem kR_blind {dC : Nat → ClassId} {dI : Nat → Nat → Nat} {av : List Value} {W : va_W} {T : List (ClassId × FieldType)} {X : State → Prop} (hX : ∀ (U : State) (g : JFrame) (mk : MethodId) (a : Array Value), X U → X (U.calling g mk a)) : FrameBlind (kR dC dI av W T X) := fun a U g mk q => by
  obtain ⟨q0, qP, qK, qX⟩ := q
  exact ⟨q0, qP, va_K.moved (u := U) (U := U.calling g mk a) (Vm.Alike.refl U.vm) qK, hX _ _ _ _ qX⟩
theorem kW_blind {dC : Nat → ClassId} {dI : Nat → Nat → Nat} {av : List Value} {W : va_W} {T : List (ClassId × FieldType)} {X : State → Prop} {sz : Nat} (hX : ∀ (U : State) (g : JFrame) (mk : MethodId) (a : Array Value), X U → X (U.calling g mk a)) : FrameBlind (kW dC dI av W T X sz) := fun a U g mk q => by
  obtain ⟨q0, q1, qP, qK, qD, qX⟩ := q
  exact ⟨q0, q1, qP, va_K.moved (u := U) (U := U.calling g mk a) (Vm.Alike.refl U.vm) qK, qD, hX _ _ _ _ qX⟩
section KPre
variable {s : State} {H : Heap} {dC : Nat → ClassId} {dI : Nat → Nat → Nat} {av : List Value} {W : va_W} {T : List (ClassId × FieldType)} {X : State → Prop} {A : Nat → Prop} {C : String} {b : Addr}
theorem kR_S (hb : ∀ (U : State) (g : JFrame) (mk : MethodId) (a : Array Value), X U → X (U.calling g mk a)) (hX : ∀ U : State, U.heap = H → s.WarmedH U.vm → X U) (hP : va_P (dC, dI) vwCl W H) (hK : va_K (dC, dI) vwCl T s) : PreS s H (kR dC dI av W T X) av :=
  ⟨kR_blind hb, fun U hU hW => ⟨rfl, by rw [hU]; exact hP, va_K.moved hW.alike hK, hX U hU hW⟩⟩
theorem kR_V (hb : ∀ (U : State) (g : JFrame) (mk : MethodId) (a : Array Value), X U → X (U.calling g mk a)) (hX : ∀ U : State, U.heap = H → s.WarmedH U.vm → X U) (hc : ∃ cellB : Cell, H[b]? = some cellB ∧ cellB.vm.isStatics = false ∧ s.vm.findClass C = some cellB.cls) (hP : va_P (dC, dI) vwCl W H) (hK : va_K (dC, dI) vwCl T s) : PreV s H C b (kR dC dI (.ref b :: av) W T X) av :=
  ⟨kR_blind hb, hc, fun U hU hW => ⟨rfl, by rw [hU]; exact hP, va_K.moved hW.alike hK, hX U hU hW⟩⟩
theorem kW_S (hb : ∀ (U : State) (g : JFrame) (mk : MethodId) (a : Array Value), X U → X (U.calling g mk a)) (hX : ∀ U : State, U.heap = H → s.WarmedH U.vm → X U) (hP : va_P (dC, dI) vwCl W H) (hK : va_K (dC, dI) vwCl T s) (hD : va_D A W) : PreS s H (kW dC dI av W T X H.size) av :=
  ⟨kW_blind hb, fun U hU hW => ⟨rfl, by rw [hU], by rw [hU]; exact hP, va_K.moved hW.alike hK, hD.weaken (fun _ _ _ _ => trivial), hX U hU hW⟩⟩
theorem kW_V (hb : ∀ (U : State) (g : JFrame) (mk : MethodId) (a : Array Value), X U → X (U.calling g mk a)) (hX : ∀ U : State, U.heap = H → s.WarmedH U.vm → X U) (hc : ∃ cellB : Cell, H[b]? = some cellB ∧ cellB.vm.isStatics = false ∧ s.vm.findClass C = some cellB.cls) (hP : va_P (dC, dI) vwCl W H) (hK : va_K (dC, dI) vwCl T s) (hD : va_D A W) : PreV s H C b (kW dC dI (.ref b :: av) W T X H.size) av :=
  ⟨kW_blind hb, hc, fun U hU hW => ⟨rfl, by rw [hU], by rw [hU]; exact hP, va_K.moved hW.alike hK, hD.weaken (fun _ _ _ _ => trivial), hX U hU hW⟩⟩
end KPre
/-- a number within two bounds -/
def kIn (v lo hi : Int32) : Int32 := if v < lo then 0 else if hi < v then 0 else 1
end
section
def w_c_isIn9 : List Cond := .code yX9_isIn cX9_isIn 3 (some .boolean) :: ([])
theorem gw_c_isIn9 : (w_c_isIn9).all goodWord = true := by decide +kernel
set_option maxHeartbeats 4000000 in
set_option maxRecDepth 100000 in
/-- isIn of the class -/
theorem c_isIn9 (l : Launch) (dC : Nat → ClassId) (dI : Nat → Nat → Nat) (p0 : Int32) (p1 : Int32) (p2 : Int32) : Met l yX9_isIn w_c_isIn9 ({ frames := 1, cells := 0, slots := 0, locals := 60 }) (kR dC dI [.int p0, .int p1, .int p2] [] [] kT) (vp_Si (fun r : Int32 => r = kIn p0 p1 p2)) 0 0 (fun _ => False) := by
  refine Met.ofW (cc := cX9_isIn) (maxL := 3) (ret := (some .boolean)) (by decide) rfl ?_
  intro p e s m args below meth c s₁ B hml hv
  obtain ⟨rfl, hP, hK, hX⟩ := hv
  have hx := B.exec
  have hb := B.bytes
  have hr := B.returns
  have hts := atoms_spec (ws := w_c_isIn9) B.pre
  have hown : s.vm.findClass RX9 = some m.cls := findClass_of_methodNamed B.named
  have hlocks := B.notSynchronized
  have hP : va_P (dC, dI) vwCl [] s.heap := hP
  have hl := lv_entry ([.int p0, .int p1, .int p2]) (n := 3) (Nat.le_of_ble_eq_true rfl)
  rw [lg_entry_eq]
  generalize (lg_sl ([.int p0, .int p1, .int p2]) ++ List.replicate (3 - (lg_sl ([.int p0, .int p1, .int p2])).length) Slot.unset).toArray = ls at hl ⊢
  have hl : lv_has ls 3 [(0, .int p0), (1, .int p1), (2, .int p2)] := hl
  refine lv_iload_n hx hb dX9_isIn_0 rfl (lv_at hl 0 rfl) ?_
  refine lv_iload_n hx hb dX9_isIn_1 rfl (lv_at hl 1 rfl) ?_
  refine lv_icmp_lt (tgt := 14) hx hb dX9_isIn_2 (by decide) (fun c_1 => ?_) (fun c_1 => ?_)
  · refine lv_iconst (v := 0) hx hb dX9_isIn_14 (by decide) ?_
    exact W.zret (v := 0) hx hb hr rfl (fun t ht hW => ⟨0, rfl, (by simp [kIn, c_1]), ht⟩) (fun _ h => nomatch h) dX9_isIn_15
  · refine lv_iload_n hx hb dX9_isIn_5 rfl (lv_at hl 0 rfl) ?_
    refine lv_iload_n hx hb dX9_isIn_6 rfl (lv_at hl 2 rfl) ?_
    refine lv_icmp_gt (tgt := 14) hx hb dX9_isIn_7 (by decide) (fun c_2 => ?_) (fun c_2 => ?_)
    · refine lv_iconst (v := 0) hx hb dX9_isIn_14 (by decide) ?_
      exact W.zret (v := 0) hx hb hr rfl (fun t ht hW => ⟨0, rfl, (by simp [kIn, c_1, c_2]), ht⟩) (fun _ h => nomatch h) dX9_isIn_15
    · refine lv_iconst (v := 1) hx hb dX9_isIn_10 (by decide) ?_
      refine lv_goto (tgt := 15) hx hb dX9_isIn_11 (by decide) ?_
      exact W.zret (v := 1) hx hb hr rfl (fun t ht hW => ⟨1, rfl, (by simp [kIn, c_1, c_2]), ht⟩) (fun _ h => nomatch h) dX9_isIn_15

def w_c_isIn10 : List Cond := .code yX10_isIn cX10_isIn 3 (some .boolean) :: ([])
theorem gw_c_isIn10 : (w_c_isIn10).all goodWord = true := by decide +kernel
set_option maxHeartbeats 4000000 in
set_option maxRecDepth 100000 in
/-- isIn of the reference -/
theorem c_isIn10 (l : Launch) (dC : Nat → ClassId) (dI : Nat → Nat → Nat) (p0 : Int32) (p1 : Int32) (p2 : Int32) : Met l yX10_isIn w_c_isIn10 ({ frames := 1, cells := 0, slots := 0, locals := 60 }) (kR dC dI [.int p0, .int p1, .int p2] [] [] kT) (vp_Si (fun r : Int32 => r = kIn p0 p1 p2)) 0 0 (fun _ => False) := by
  refine Met.ofW (cc := cX10_isIn) (maxL := 3) (ret := (some .boolean)) (by decide) rfl ?_
  intro p e s m args below meth c s₁ B hml hv
  obtain ⟨rfl, hP, hK, hX⟩ := hv
  have hx := B.exec
  have hb := B.bytes
  have hr := B.returns
  have hts := atoms_spec (ws := w_c_isIn10) B.pre
  have hown : s.vm.findClass RX10 = some m.cls := findClass_of_methodNamed B.named
  have hlocks := B.notSynchronized
  have hP : va_P (dC, dI) vwCl [] s.heap := hP
  have hl := lv_entry ([.int p0, .int p1, .int p2]) (n := 3) (Nat.le_of_ble_eq_true rfl)
  rw [lg_entry_eq]
  generalize (lg_sl ([.int p0, .int p1, .int p2]) ++ List.replicate (3 - (lg_sl ([.int p0, .int p1, .int p2])).length) Slot.unset).toArray = ls at hl ⊢
  have hl : lv_has ls 3 [(0, .int p0), (1, .int p1), (2, .int p2)] := hl
  refine lv_iload_n hx hb dX10_isIn_0 rfl (lv_at hl 0 rfl) ?_
  refine lv_iload_n hx hb dX10_isIn_1 rfl (lv_at hl 1 rfl) ?_
  refine lv_icmp_lt (tgt := 14) hx hb dX10_isIn_2 (by decide) (fun c_1 => ?_) (fun c_1 => ?_)
  · refine lv_iconst (v := 0) hx hb dX10_isIn_14 (by decide) ?_
    exact W.zret (v := 0) hx hb hr rfl (fun t ht hW => ⟨0, rfl, (by simp [kIn, c_1]), ht⟩) (fun _ h => nomatch h) dX10_isIn_15
  · refine lv_iload_n hx hb dX10_isIn_5 rfl (lv_at hl 0 rfl) ?_
    refine lv_iload_n hx hb dX10_isIn_6 rfl (lv_at hl 2 rfl) ?_
    refine lv_icmp_gt (tgt := 14) hx hb dX10_isIn_7 (by decide) (fun c_2 => ?_) (fun c_2 => ?_)
    · refine lv_iconst (v := 0) hx hb dX10_isIn_14 (by decide) ?_
      exact W.zret (v := 0) hx hb hr rfl (fun t ht hW => ⟨0, rfl, (by simp [kIn, c_1, c_2]), ht⟩) (fun _ h => nomatch h) dX10_isIn_15
    · refine lv_iconst (v := 1) hx hb dX10_isIn_10 (by decide) ?_
      refine lv_goto (tgt := 15) hx hb dX10_isIn_11 (by decide) ?_
      exact W.zret (v := 1) hx hb hr rfl (fun t ht hW => ⟨1, rfl, (by simp [kIn, c_1, c_2]), ht⟩) (fun _ h => nomatch h) dX10_isIn_15

def w_c_at7 : List Cond := .code yX7_at cX7_at 2 (some (.object "NotEnded$Rule")) :: ([.fieldLink RX7 9 "NotEnded$Shelf" "size" "I"] ++ (wsX70))
theorem gw_c_at7 : (w_c_at7).all goodWord = true := by decide +kernel
set_option maxHeartbeats 4000000 in
set_option maxRecDepth 100000 in
/-- an empty shelf has no text -/
theorem c_at7 (l : Launch) (dC : Nat → ClassId) (dI : Nat → Nat → Nat) (h0 : Nat) (v0 : Value) (p0 : Int32) : Met l yX7_at w_c_at7 ({ frames := 1, cells := 0, slots := 0, locals := 60 }) (kR dC dI [.ref h0, .int p0] [(h0, .inr (7, [v0, .int 0]))] [] kT) (va_Sq (fun r : Option Nat => r = none)) 0 0 (fun _ => False) := by
  refine Met.ofW (cc := cX7_at) (maxL := 2) (ret := (some (.object "NotEnded$Rule"))) (by decide) rfl ?_
  intro p e s m args below meth c s₁ B hml hv
  obtain ⟨rfl, hP, hK, hX⟩ := hv
  have hx := B.exec
  have hb := B.bytes
  have hr := B.returns
  have hts := atoms_spec (ws := w_c_at7) B.pre
  have hown : s.vm.findClass RX7 = some m.cls := findClass_of_methodNamed B.named
  have hlocks := B.notSynchronized
  have hP : va_P (dC, dI) vwCl [(h0, .inr (7, [v0, .int 0]))] s.heap := hP
  have hl := lv_entry ([.ref h0, .int p0]) (n := 2) (Nat.le_of_ble_eq_true rfl)
  rw [lg_entry_eq]
  generalize (lg_sl ([.ref h0, .int p0]) ++ List.replicate (2 - (lg_sl ([.ref h0, .int p0])).length) Slot.unset).toArray = ls at hl ⊢
  have hl : lv_has ls 2 [(0, .ref h0), (1, .int p0)] := hl
  refine lv_iload_n hx hb dX7_at_0 rfl (lv_at hl 1 rfl) ?_
  refine lv_if_lt (tgt := 30) hx hb dX7_at_1 (by decide) (fun c_1 => ?_) (fun c_1 => ?_)
  · refine lv_null hx hb dX7_at_30 ?_
    exact W.aret hx hb hr (Or.inl ⟨_, rfl⟩) (Or.inl rfl) (fun t ht hW => ⟨none, rfl, rfl, ht⟩) (fun _ h => nomatch h) dX7_at_31
  · refine lv_iload_n hx hb dX7_at_4 rfl (lv_at hl 1 rfl) ?_
    refine lv_aload_n hx hb dX7_at_5 rfl (lv_at hl 0 rfl) ?_
    refine va_get (D := (dC, dI)) (ci := 7) (v := .int 0) (C := RX7) (T := TX7) (N := 2) hx hb hts (fun _ h => List.mem_cons_of_mem _ (List.mem_append_right _ h)) hown hK hP 0 rfl rfl 1 (by decide) (hts (.fieldLink RX7 9 "NotEnded$Shelf" "size" "I") (List.mem_cons_of_mem _ (List.mem_append_left _ (List.mem_of_getElem? (i := 0) rfl)))) (fun _ h9 => h9) rfl dX7_at_6 ?_
    refine lv_icmp_ge (tgt := 30) hx hb dX7_at_9 (by decide) (fun c_2 => ?_) (fun c_2 => absurd (Int32.not_lt.mp c_1) c_2)
    refine lv_null hx hb dX7_at_30 ?_
    exact W.aret hx hb hr (Or.inl ⟨_, rfl⟩) (Or.inl rfl) (fun t ht hW => ⟨none, rfl, rfl, ht⟩) (fun _ h => nomatch h) dX7_at_31

def w_c_has2 : List Cond := .code yX2_has cX2_has 2 (some .boolean) :: ([.fieldLink RX2 31 "NotEnded$Folk" "size" "I"] ++ (wsX20))
theorem gw_c_has2 : (w_c_has2).all goodWord = true := by decide +kernel
set_option maxHeartbeats 4000000 in
set_option maxRecDepth 100000 in
/-- nobody is there -/
theorem c_has2 (l : Launch) (dC : Nat → ClassId) (dI : Nat → Nat → Nat) (h0 : Nat) (v0 : Value) (v1 : Value) (v2 : Value) (v3 : Value) (v4 : Value) (v5 : Value) (v7 : Value) (p0 : Int32) : Met l yX2_has w_c_has2 ({ frames := 1, cells := 0, slots := 0, locals := 60 }) (kR dC dI [.ref h0, .int p0] [(h0, .inr (2, [v0, v1, v2, v3, v4, v5, .int 0, v7]))] [] kT) (vp_Si (fun r : Int32 => r = 0)) 0 0 (fun _ => False) := by
  refine Met.ofW (cc := cX2_has) (maxL := 2) (ret := (some .boolean)) (by decide) rfl ?_
  intro p e s m args below meth c s₁ B hml hv
  obtain ⟨rfl, hP, hK, hX⟩ := hv
  have hx := B.exec
  have hb := B.bytes
  have hr := B.returns
  have hts := atoms_spec (ws := w_c_has2) B.pre
  have hown : s.vm.findClass RX2 = some m.cls := findClass_of_methodNamed B.named
  have hlocks := B.notSynchronized
  have hP : va_P (dC, dI) vwCl [(h0, .inr (2, [v0, v1, v2, v3, v4, v5, .int 0, v7]))] s.heap := hP
  have hl := lv_entry ([.ref h0, .int p0]) (n := 2) (Nat.le_of_ble_eq_true rfl)
  rw [lg_entry_eq]
  generalize (lg_sl ([.ref h0, .int p0]) ++ List.replicate (2 - (lg_sl ([.ref h0, .int p0])).length) Slot.unset).toArray = ls at hl ⊢
  have hl : lv_has ls 2 [(0, .ref h0), (1, .int p0)] := hl
  refine lv_iload_n hx hb dX2_has_0 rfl (lv_at hl 1 rfl) ?_
  refine lv_if_lt (tgt := 22) hx hb dX2_has_1 (by decide) (fun c_1 => ?_) (fun c_1 => ?_)
  · refine lv_iconst (v := 0) hx hb dX2_has_22 (by decide) ?_
    exact W.zret (v := 0) hx hb hr rfl (fun t ht hW => ⟨0, rfl, rfl, ht⟩) (fun _ h => nomatch h) dX2_has_23
  · refine lv_iload_n hx hb dX2_has_4 rfl (lv_at hl 1 rfl) ?_
    refine lv_aload_n hx hb dX2_has_5 rfl (lv_at hl 0 rfl) ?_
    refine va_get (D := (dC, dI)) (ci := 2) (v := .int 0) (C := RX2) (T := TX2) (N := 8) hx hb hts (fun _ h => List.mem_cons_of_mem _ (List.mem_append_right _ h)) hown hK hP 0 rfl rfl 6 (by decide) (hts (.fieldLink RX2 31 "NotEnded$Folk" "size" "I") (List.mem_cons_of_mem _ (List.mem_append_left _ (List.mem_of_getElem? (i := 0) rfl)))) (fun _ h9 => h9) rfl dX2_has_6 ?_
    refine lv_icmp_ge (tgt := 22) hx hb dX2_has_9 (by decide) (fun c_2 => ?_) (fun c_2 => absurd (Int32.not_lt.mp c_1) c_2)
    refine lv_iconst (v := 0) hx hb dX2_has_22 (by decide) ?_
    exact W.zret (v := 0) hx hb hr rfl (fun t ht hW => ⟨0, rfl, rfl, ht⟩) (fun _ h => nomatch h) dX2_has_23
end
section
def w_c_run9 : List Cond := .code yX9_run cX9_run 8 (some .int) :: ([.fieldLink RX9 37 "NotEnded" "laws" "LNotEnded$Shelf;", .initialized RX7, .selects RX7 yX7_at yX7_at, .instanceMethod yX7_at, .methodLink RX9 138 yX7_at] ++ (wsX90 ++ (w_c_at7)))
theorem gw_c_run9 : (w_c_run9).all goodWord = true := by decide +kernel
set_option maxHeartbeats 4000000 in
set_option maxRecDepth 100000 in
/-- run: no law, so HIDDEN -/
theorem c_run9 (l : Launch) (dC : Nat → ClassId) (dI : Nat → Nat → Nat) (h0 : Nat) (h1 : Nat) (v0 : Value) (v1 : Value) (v2 : Value) (v4 : Value) (v5 : Value) (v6 : Value) (v7 : Value) (v8 : Value) (v9 : Value) (u0 : Value) (p0 : Int32) (p1 : Int64) (p2 : Int32) (p3 : Int32) (p4 : Int32) : Met l yX9_run w_c_run9 ({ frames := 2, cells := 0, slots := 0, locals := 120 }) (kR dC dI [.ref h0, .int p0, .long p1, .int p2, .int p3, .int p4] [(h0, .inr (9, [v0, v1, v2, .ref h1, v4, v5, v6, v7, v8, v9])), (h1, .inr (7, [u0, .int 0]))] [] kT) (vp_Si (fun r : Int32 => r = (-1000))) 0 0 (fun _ => False) := by
  refine Met.ofW (cc := cX9_run) (maxL := 8) (ret := (some .int)) (by decide) rfl ?_
  intro p e s m args below meth c s₁ B hml hv
  obtain ⟨rfl, hP, hK, hX⟩ := hv
  have hx := B.exec
  have hb := B.bytes
  have hr := B.returns
  have hts := atoms_spec (ws := w_c_run9) B.pre
  have hown : s.vm.findClass RX9 = some m.cls := findClass_of_methodNamed B.named
  have hlocks := B.notSynchronized
  have hP : va_P (dC, dI) vwCl [(h0, .inr (9, [v0, v1, v2, .ref h1, v4, v5, v6, v7, v8, v9])), (h1, .inr (7, [u0, .int 0]))] s.heap := hP
  have hl := lv_entry ([.ref h0, .int p0, .long p1, .int p2, .int p3, .int p4]) (n := 8) (Nat.le_of_ble_eq_true rfl)
  rw [lg_entry_eq]
  generalize (lg_sl ([.ref h0, .int p0, .long p1, .int p2, .int p3, .int p4]) ++ List.replicate (8 - (lg_sl ([.ref h0, .int p0, .long p1, .int p2, .int p3, .int p4])).length) Slot.unset).toArray = ls at hl ⊢
  have hl : lv_has ls 8 [(0, .ref h0), (1, .int p0), (2, .long p1), (4, .int p2), (5, .int p3), (6, .int p4)] := hl
  refine lv_aload_n hx hb dX9_run_0 rfl (lv_at hl 0 rfl) ?_
  refine va_get (D := (dC, dI)) (ci := 9) (v := .ref h1) (C := RX9) (T := TX9) (N := 10) hx hb hts (fun _ h => List.mem_cons_of_mem _ (List.mem_append_right _ (List.mem_append_left _ h))) hown hK hP 0 rfl rfl 3 (by decide) (hts (.fieldLink RX9 37 "NotEnded" "laws" "LNotEnded$Shelf;") (List.mem_cons_of_mem _ (List.mem_append_left _ (List.mem_of_getElem? (i := 0) rfl)))) (fun _ h9 => h9) rfl dX9_run_1 ?_
  refine lv_iload_n hx hb dX9_run_4 rfl (lv_at hl 1 rfl) ?_
  have hPc := hP.sub (ws' := [(h1, .inr (7, [u0, .int 0]))]) [1] rfl
  have hKc := hK.sub (tys' := []) [] rfl
  refine va_csq (va_runV (As := [.int p0]) (rest := []) ⟨hx, hb, hml, hown, hts⟩ (c_at7 l dC dI h1 (u0 : Value) p0) (cwV 1 hts (kG (List.forall_mem_cons.mpr ⟨(List.mem_cons_of_mem _ (List.mem_append_left _ (List.mem_of_getElem? (i := 4) rfl))), (List.forall_mem_cons.mpr ⟨(List.mem_cons_of_mem _ (List.mem_append_left _ (List.mem_of_getElem? (i := 3) rfl))), (List.forall_mem_cons.mpr ⟨(List.mem_cons_of_mem _ (List.mem_append_left _ (List.mem_of_getElem? (i := 2) rfl))), (List.forall_mem_cons.mpr ⟨(List.mem_cons_of_mem _ (List.mem_append_left _ (List.mem_of_getElem? (i := 1) rfl))), (fun _ h => absurd h List.not_mem_nil)⟩)⟩)⟩)⟩) (by decide +kernel) (fun _ h => List.mem_cons_of_mem _ (List.mem_append_right _ (List.mem_append_right _ h))) gw_c_at7) rfl rfl rfl (by decide +kernel) ⟨(Nat.le_of_ble_eq_true rfl), (Nat.le_of_ble_eq_true rfl)⟩) (kR_V kT_blind kT_give (va_recv hKc hPc (ci := 7) (q0 := 0) rfl rfl) hPc hKc) rfl rfl hl.1 rfl (lv_room (Nat.le_of_ble_eq_true rfl)) dX9_run_5 ⟨(Nat.le_of_ble_eq_true rfl), (Nat.le_of_ble_eq_true rfl)⟩).run (fun r_1 hw => ?_)
  obtain rfl : r_1 = none := hw
  refine W.eq (g2 := F0 m 8 ls [.null]) rfl ?_
  refine lv_astoreN (lv' := [(7, .null), (0, .ref h0), (1, .int p0), (2, .long p1), (4, .int p2), (5, .int p3), (6, .int p4)]) hx hb dX9_run_8 hl (by decide) rfl (fun ls hl => ?_)
  refine lv_aloadN hx hb dX9_run_10 (lv_at hl 0 rfl) ?_
  refine lv_ifnullN (tgt := 48) hx hb dX9_run_12 (by decide) ?_
  refine lv_sipush (v := (-1000)) hx hb dX9_run_48 (by decide) ?_
  exact W.iret (v := (-1000)) hx hb hr (fun t ht hW => ⟨(-1000), rfl, rfl, ht⟩) (fun _ h => nomatch h) dX9_run_51
end
