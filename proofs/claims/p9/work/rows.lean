section
-- ===== PART A: goes FIRST, ahead of the names: the tables' words, and 'selects' of the private methods out of them =====
/-- a private method of a class that the tables say can be made, by its rows of tables_1 -/
def lw_okq (q : MethodName × Nat) : Prop := (q.1.cls ≠ "java/lang/invoke/MethodHandle" ∧ q.1.cls ≠ "java/lang/invoke/VarHandle") ∧ Cond.instantiable q.1.cls q.2 ∈ tables_1 ∧ Cond.privateMethod q.1 ∈ tables_1 ∧ Cond.instanceMethod q.1 ∈ tables_1
theorem lw_p0 : lw_okq (⟨"NotEnded$Reader", "readClause", "()Z"⟩, 8) := ⟨⟨by decide +kernel, by decide +kernel⟩, List.mem_of_getElem? (i := 49) (by decide +kernel), List.mem_of_getElem? (i := 333) (by decide +kernel), List.mem_of_getElem? (i := 334) (by decide +kernel)⟩
theorem lw_p1 : lw_okq (⟨"NotEnded$Reader", "look", "()C"⟩, 8) := ⟨⟨by decide +kernel, by decide +kernel⟩, List.mem_of_getElem? (i := 49) (by decide +kernel), List.mem_of_getElem? (i := 337) (by decide +kernel), List.mem_of_getElem? (i := 338) (by decide +kernel)⟩
theorem lw_p2 : lw_okq (⟨"NotEnded$Reader", "take", "(C)Z"⟩, 8) := ⟨⟨by decide +kernel, by decide +kernel⟩, List.mem_of_getElem? (i := 49) (by decide +kernel), List.mem_of_getElem? (i := 431) (by decide +kernel), List.mem_of_getElem? (i := 432) (by decide +kernel)⟩
theorem lw_p3 : lw_okq (⟨"NotEnded$Reader", "readSum", "(I)Z"⟩, 8) := ⟨⟨by decide +kernel, by decide +kernel⟩, List.mem_of_getElem? (i := 49) (by decide +kernel), List.mem_of_getElem? (i := 435) (by decide +kernel), List.mem_of_getElem? (i := 436) (by decide +kernel)⟩
theorem lw_p4 : lw_okq (⟨"NotEnded$Reader", "readTerm", "(I)Z"⟩, 8) := ⟨⟨by decide +kernel, by decide +kernel⟩, List.mem_of_getElem? (i := 49) (by decide +kernel), List.mem_of_getElem? (i := 439) (by decide +kernel), List.mem_of_getElem? (i := 440) (by decide +kernel)⟩
theorem lw_p5 : lw_okq (⟨"NotEnded$Reader", "readAtom", "(I)Z"⟩, 8) := ⟨⟨by decide +kernel, by decide +kernel⟩, List.mem_of_getElem? (i := 49) (by decide +kernel), List.mem_of_getElem? (i := 443) (by decide +kernel), List.mem_of_getElem? (i := 444) (by decide +kernel)⟩
theorem lw_p6 : lw_okq (⟨"NotEnded$Reader", "opens", "(I)Z"⟩, 8) := ⟨⟨by decide +kernel, by decide +kernel⟩, List.mem_of_getElem? (i := 49) (by decide +kernel), List.mem_of_getElem? (i := 447) (by decide +kernel), List.mem_of_getElem? (i := 448) (by decide +kernel)⟩
theorem lw_p7 : lw_okq (⟨"NotEnded$Reader", "readNumber", "()Z"⟩, 8) := ⟨⟨by decide +kernel, by decide +kernel⟩, List.mem_of_getElem? (i := 49) (by decide +kernel), List.mem_of_getElem? (i := 454) (by decide +kernel), List.mem_of_getElem? (i := 455) (by decide +kernel)⟩
theorem lw_p8 : lw_okq (⟨"NotEnded$Reader", "write", "(I)Z"⟩, 8) := ⟨⟨by decide +kernel, by decide +kernel⟩, List.mem_of_getElem? (i := 49) (by decide +kernel), List.mem_of_getElem? (i := 458) (by decide +kernel), List.mem_of_getElem? (i := 459) (by decide +kernel)⟩
theorem lw_p9 : lw_okq (⟨"NotEnded$Reader", "keepClause", "(III)Z"⟩, 8) := ⟨⟨by decide +kernel, by decide +kernel⟩, List.mem_of_getElem? (i := 49) (by decide +kernel), List.mem_of_getElem? (i := 465) (by decide +kernel), List.mem_of_getElem? (i := 466) (by decide +kernel)⟩
theorem lw_p10 : lw_okq (⟨"NotEnded$Reader", "readCondition", "(IZ)Z"⟩, 8) := ⟨⟨by decide +kernel, by decide +kernel⟩, List.mem_of_getElem? (i := 49) (by decide +kernel), List.mem_of_getElem? (i := 469) (by decide +kernel), List.mem_of_getElem? (i := 470) (by decide +kernel)⟩
theorem lw_p11 : lw_okq (⟨"NotEnded$Reader", "readTruth", "(IZ)Z"⟩, 8) := ⟨⟨by decide +kernel, by decide +kernel⟩, List.mem_of_getElem? (i := 49) (by decide +kernel), List.mem_of_getElem? (i := 473) (by decide +kernel), List.mem_of_getElem? (i := 474) (by decide +kernel)⟩
theorem lw_p12 : lw_okq (⟨"NotEnded$Reader", "readUnit", "(IZ)Z"⟩, 8) := ⟨⟨by decide +kernel, by decide +kernel⟩, List.mem_of_getElem? (i := 49) (by decide +kernel), List.mem_of_getElem? (i := 477) (by decide +kernel), List.mem_of_getElem? (i := 478) (by decide +kernel)⟩
theorem lw_p13 : lw_okq (⟨"NotEnded$Course", "weigh", "()V"⟩, 19) := ⟨⟨by decide +kernel, by decide +kernel⟩, List.mem_of_getElem? (i := 146) (by decide +kernel), List.mem_of_getElem? (i := 590) (by decide +kernel), List.mem_of_getElem? (i := 591) (by decide +kernel)⟩
theorem lw_p14 : lw_okq (⟨"NotEnded$Course", "tallyHouses", "()V"⟩, 19) := ⟨⟨by decide +kernel, by decide +kernel⟩, List.mem_of_getElem? (i := 146) (by decide +kernel), List.mem_of_getElem? (i := 594) (by decide +kernel), List.mem_of_getElem? (i := 595) (by decide +kernel)⟩
theorem lw_p15 : lw_okq (⟨"NotEnded$Course", "setLettersOfHour", "()V"⟩, 19) := ⟨⟨by decide +kernel, by decide +kernel⟩, List.mem_of_getElem? (i := 146) (by decide +kernel), List.mem_of_getElem? (i := 608) (by decide +kernel), List.mem_of_getElem? (i := 609) (by decide +kernel)⟩
def lw_privs_1 : List (MethodName × Nat) := [(⟨"NotEnded$Reader", "readClause", "()Z"⟩, 8), (⟨"NotEnded$Reader", "look", "()C"⟩, 8), (⟨"NotEnded$Reader", "take", "(C)Z"⟩, 8), (⟨"NotEnded$Reader", "readSum", "(I)Z"⟩, 8), (⟨"NotEnded$Reader", "readTerm", "(I)Z"⟩, 8), (⟨"NotEnded$Reader", "readAtom", "(I)Z"⟩, 8), (⟨"NotEnded$Reader", "opens", "(I)Z"⟩, 8), (⟨"NotEnded$Reader", "readNumber", "()Z"⟩, 8), (⟨"NotEnded$Reader", "write", "(I)Z"⟩, 8), (⟨"NotEnded$Reader", "keepClause", "(III)Z"⟩, 8), (⟨"NotEnded$Reader", "readCondition", "(IZ)Z"⟩, 8), (⟨"NotEnded$Reader", "readTruth", "(IZ)Z"⟩, 8), (⟨"NotEnded$Reader", "readUnit", "(IZ)Z"⟩, 8), (⟨"NotEnded$Course", "weigh", "()V"⟩, 19), (⟨"NotEnded$Course", "tallyHouses", "()V"⟩, 19), (⟨"NotEnded$Course", "setLettersOfHour", "()V"⟩, 19)]
theorem lw_r1 : ∀ q ∈ lw_privs_1, lw_okq q := List.forall_mem_cons.mpr ⟨lw_p0, List.forall_mem_cons.mpr ⟨lw_p1, List.forall_mem_cons.mpr ⟨lw_p2, List.forall_mem_cons.mpr ⟨lw_p3, List.forall_mem_cons.mpr ⟨lw_p4, List.forall_mem_cons.mpr ⟨lw_p5, List.forall_mem_cons.mpr ⟨lw_p6, List.forall_mem_cons.mpr ⟨lw_p7, List.forall_mem_cons.mpr ⟨lw_p8, List.forall_mem_cons.mpr ⟨lw_p9, List.forall_mem_cons.mpr ⟨lw_p10, List.forall_mem_cons.mpr ⟨lw_p11, List.forall_mem_cons.mpr ⟨lw_p12, List.forall_mem_cons.mpr ⟨lw_p13, List.forall_mem_cons.mpr ⟨lw_p14, List.forall_mem_cons.mpr ⟨lw_p15, fun _ h => absurd h List.not_mem_nil⟩⟩⟩⟩⟩⟩⟩⟩⟩⟩⟩⟩⟩⟩⟩⟩
theorem lw_p16 : lw_okq (⟨"NotEnded$Course", "setLettersOf", "(I)V"⟩, 19) := ⟨⟨by decide +kernel, by decide +kernel⟩, List.mem_of_getElem? (i := 146) (by decide +kernel), List.mem_of_getElem? (i := 625) (by decide +kernel), List.mem_of_getElem? (i := 626) (by decide +kernel)⟩
theorem lw_p17 : lw_okq (⟨"NotEnded$Reckoner", "reckon", "([III)I"⟩, 2) := ⟨⟨by decide +kernel, by decide +kernel⟩, List.mem_of_getElem? (i := 83) (by decide +kernel), List.mem_of_getElem? (i := 634) (by decide +kernel), List.mem_of_getElem? (i := 635) (by decide +kernel)⟩
theorem lw_p18 : lw_okq (⟨"NotEnded$Reckoner", "valueOf", "(I)I"⟩, 2) := ⟨⟨by decide +kernel, by decide +kernel⟩, List.mem_of_getElem? (i := 83) (by decide +kernel), List.mem_of_getElem? (i := 639) (by decide +kernel), List.mem_of_getElem? (i := 640) (by decide +kernel)⟩
theorem lw_p19 : lw_okq (⟨"NotEnded$Course", "holdMore", "()V"⟩, 19) := ⟨⟨by decide +kernel, by decide +kernel⟩, List.mem_of_getElem? (i := 146) (by decide +kernel), List.mem_of_getElem? (i := 653) (by decide +kernel), List.mem_of_getElem? (i := 654) (by decide +kernel)⟩
theorem lw_p20 : lw_okq (⟨"NotEnded$Course", "tell", "()V"⟩, 19) := ⟨⟨by decide +kernel, by decide +kernel⟩, List.mem_of_getElem? (i := 146) (by decide +kernel), List.mem_of_getElem? (i := 658) (by decide +kernel), List.mem_of_getElem? (i := 659) (by decide +kernel)⟩
theorem lw_p21 : lw_okq (⟨"NotEnded$Course", "tellThoseKnown", "(I)V"⟩, 19) := ⟨⟨by decide +kernel, by decide +kernel⟩, List.mem_of_getElem? (i := 146) (by decide +kernel), List.mem_of_getElem? (i := 662) (by decide +kernel), List.mem_of_getElem? (i := 663) (by decide +kernel)⟩
theorem lw_p22 : lw_okq (⟨"NotEnded$Course", "goHome", "()V"⟩, 19) := ⟨⟨by decide +kernel, by decide +kernel⟩, List.mem_of_getElem? (i := 146) (by decide +kernel), List.mem_of_getElem? (i := 666) (by decide +kernel), List.mem_of_getElem? (i := 667) (by decide +kernel)⟩
theorem lw_p23 : lw_okq (⟨"NotEnded$Course", "mayGo", "(I)Z"⟩, 19) := ⟨⟨by decide +kernel, by decide +kernel⟩, List.mem_of_getElem? (i := 146) (by decide +kernel), List.mem_of_getElem? (i := 670) (by decide +kernel), List.mem_of_getElem? (i := 671) (by decide +kernel)⟩
theorem lw_p24 : lw_okq (⟨"NotEnded", "heldAtEnd", "(LNotEnded$Rule;JII)I"⟩, 10) := ⟨⟨by decide +kernel, by decide +kernel⟩, List.mem_of_getElem? (i := 27) (by decide +kernel), List.mem_of_getElem? (i := 711) (by decide +kernel), List.mem_of_getElem? (i := 712) (by decide +kernel)⟩
theorem lw_p25 : lw_okq (⟨"NotEnded", "isNoted", "(LNotEnded$Rule;JI)Z"⟩, 10) := ⟨⟨by decide +kernel, by decide +kernel⟩, List.mem_of_getElem? (i := 27) (by decide +kernel), List.mem_of_getElem? (i := 755) (by decide +kernel), List.mem_of_getElem? (i := 756) (by decide +kernel)⟩
theorem lw_p26 : lw_okq (⟨"NotEnded$Notebook", "isSo", "(LNotEnded$Course;I)Z"⟩, 6) := ⟨⟨by decide +kernel, by decide +kernel⟩, List.mem_of_getElem? (i := 211) (by decide +kernel), List.mem_of_getElem? (i := 764) (by decide +kernel), List.mem_of_getElem? (i := 765) (by decide +kernel)⟩
theorem lw_p27 : lw_okq (⟨"NotEnded$Course", "addOneWhoMay", "(II)V"⟩, 19) := ⟨⟨by decide +kernel, by decide +kernel⟩, List.mem_of_getElem? (i := 146) (by decide +kernel), List.mem_of_getElem? (i := 798) (by decide +kernel), List.mem_of_getElem? (i := 799) (by decide +kernel)⟩
theorem lw_p28 : lw_okq (⟨"NotEnded", "isLet", "(LNotEnded$Rule;I)Z"⟩, 10) := ⟨⟨by decide +kernel, by decide +kernel⟩, List.mem_of_getElem? (i := 27) (by decide +kernel), List.mem_of_getElem? (i := 810) (by decide +kernel), List.mem_of_getElem? (i := 811) (by decide +kernel)⟩
theorem lw_p29 : lw_okq (⟨"NotEnded", "barredBy", "(LNotEnded$Rule;)I"⟩, 10) := ⟨⟨by decide +kernel, by decide +kernel⟩, List.mem_of_getElem? (i := 27) (by decide +kernel), List.mem_of_getElem? (i := 820) (by decide +kernel), List.mem_of_getElem? (i := 821) (by decide +kernel)⟩
theorem lw_p30 : lw_okq (⟨"NotEnded", "leastHelp", "(LNotEnded$Rule;JI)I"⟩, 10) := ⟨⟨by decide +kernel, by decide +kernel⟩, List.mem_of_getElem? (i := 27) (by decide +kernel), List.mem_of_getElem? (i := 855) (by decide +kernel), List.mem_of_getElem? (i := 856) (by decide +kernel)⟩
theorem lw_p31 : lw_okq (⟨"NotEnded", "givesUpBy", "(LNotEnded$Rule;JII)Z"⟩, 10) := ⟨⟨by decide +kernel, by decide +kernel⟩, List.mem_of_getElem? (i := 27) (by decide +kernel), List.mem_of_getElem? (i := 879) (by decide +kernel), List.mem_of_getElem? (i := 880) (by decide +kernel)⟩
def lw_privs_2 : List (MethodName × Nat) := [(⟨"NotEnded$Course", "setLettersOf", "(I)V"⟩, 19), (⟨"NotEnded$Reckoner", "reckon", "([III)I"⟩, 2), (⟨"NotEnded$Reckoner", "valueOf", "(I)I"⟩, 2), (⟨"NotEnded$Course", "holdMore", "()V"⟩, 19), (⟨"NotEnded$Course", "tell", "()V"⟩, 19), (⟨"NotEnded$Course", "tellThoseKnown", "(I)V"⟩, 19), (⟨"NotEnded$Course", "goHome", "()V"⟩, 19), (⟨"NotEnded$Course", "mayGo", "(I)Z"⟩, 19), (⟨"NotEnded", "heldAtEnd", "(LNotEnded$Rule;JII)I"⟩, 10), (⟨"NotEnded", "isNoted", "(LNotEnded$Rule;JI)Z"⟩, 10), (⟨"NotEnded$Notebook", "isSo", "(LNotEnded$Course;I)Z"⟩, 6), (⟨"NotEnded$Course", "addOneWhoMay", "(II)V"⟩, 19), (⟨"NotEnded", "isLet", "(LNotEnded$Rule;I)Z"⟩, 10), (⟨"NotEnded", "barredBy", "(LNotEnded$Rule;)I"⟩, 10), (⟨"NotEnded", "leastHelp", "(LNotEnded$Rule;JI)I"⟩, 10), (⟨"NotEnded", "givesUpBy", "(LNotEnded$Rule;JII)Z"⟩, 10)]
theorem lw_r2 : ∀ q ∈ lw_privs_2, lw_okq q := List.forall_mem_cons.mpr ⟨lw_p16, List.forall_mem_cons.mpr ⟨lw_p17, List.forall_mem_cons.mpr ⟨lw_p18, List.forall_mem_cons.mpr ⟨lw_p19, List.forall_mem_cons.mpr ⟨lw_p20, List.forall_mem_cons.mpr ⟨lw_p21, List.forall_mem_cons.mpr ⟨lw_p22, List.forall_mem_cons.mpr ⟨lw_p23, List.forall_mem_cons.mpr ⟨lw_p24, List.forall_mem_cons.mpr ⟨lw_p25, List.forall_mem_cons.mpr ⟨lw_p26, List.forall_mem_cons.mpr ⟨lw_p27, List.forall_mem_cons.mpr ⟨lw_p28, List.forall_mem_cons.mpr ⟨lw_p29, List.forall_mem_cons.mpr ⟨lw_p30, List.forall_mem_cons.mpr ⟨lw_p31, fun _ h => absurd h List.not_mem_nil⟩⟩⟩⟩⟩⟩⟩⟩⟩⟩⟩⟩⟩⟩⟩⟩
theorem lw_p32 : lw_okq (⟨"NotEnded", "holdersWithout", "(LNotEnded$Rule;JI)I"⟩, 10) := ⟨⟨by decide +kernel, by decide +kernel⟩, List.mem_of_getElem? (i := 27) (by decide +kernel), List.mem_of_getElem? (i := 900) (by decide +kernel), List.mem_of_getElem? (i := 901) (by decide +kernel)⟩
theorem lw_p33 : lw_okq (⟨"NotEnded", "lookersOfSize", "(LNotEnded$Rule;JII)I"⟩, 10) := ⟨⟨by decide +kernel, by decide +kernel⟩, List.mem_of_getElem? (i := 27) (by decide +kernel), List.mem_of_getElem? (i := 908) (by decide +kernel), List.mem_of_getElem? (i := 909) (by decide +kernel)⟩
theorem lw_p34 : lw_okq (⟨"java/lang/Throwable", "fillInStackTrace", "(I)Ljava/lang/Throwable;"⟩, 6) := ⟨⟨by decide +kernel, by decide +kernel⟩, List.mem_of_getElem? (i := 973) (by decide +kernel), List.mem_of_getElem? (i := 971) (by decide +kernel), List.mem_of_getElem? (i := 972) (by decide +kernel)⟩
theorem lw_p35 : lw_okq (⟨"NotEndedModel", "put", "(I)V"⟩, 52) := ⟨⟨by decide +kernel, by decide +kernel⟩, List.mem_of_getElem? (i := 1002) (by decide +kernel), List.mem_of_getElem? (i := 1179) (by decide +kernel), List.mem_of_getElem? (i := 1180) (by decide +kernel)⟩
theorem lw_p36 : lw_okq (⟨"NotEndedModel", "goThrough", "([BIIZI)V"⟩, 52) := ⟨⟨by decide +kernel, by decide +kernel⟩, List.mem_of_getElem? (i := 1002) (by decide +kernel), List.mem_of_getElem? (i := 1194) (by decide +kernel), List.mem_of_getElem? (i := 1195) (by decide +kernel)⟩
theorem lw_p37 : lw_okq (⟨"NotEndedModel", "clause", "()V"⟩, 52) := ⟨⟨by decide +kernel, by decide +kernel⟩, List.mem_of_getElem? (i := 1002) (by decide +kernel), List.mem_of_getElem? (i := 1200) (by decide +kernel), List.mem_of_getElem? (i := 1201) (by decide +kernel)⟩
theorem lw_p38 : lw_okq (⟨"NotEndedModel", "look", "()I"⟩, 52) := ⟨⟨by decide +kernel, by decide +kernel⟩, List.mem_of_getElem? (i := 1002) (by decide +kernel), List.mem_of_getElem? (i := 1204) (by decide +kernel), List.mem_of_getElem? (i := 1205) (by decide +kernel)⟩
theorem lw_p39 : lw_okq (⟨"NotEndedModel", "fails", "()Z"⟩, 52) := ⟨⟨by decide +kernel, by decide +kernel⟩, List.mem_of_getElem? (i := 1002) (by decide +kernel), List.mem_of_getElem? (i := 1232) (by decide +kernel), List.mem_of_getElem? (i := 1233) (by decide +kernel)⟩
theorem lw_p40 : lw_okq (⟨"NotEndedModel", "takes", "(I)Z"⟩, 52) := ⟨⟨by decide +kernel, by decide +kernel⟩, List.mem_of_getElem? (i := 1002) (by decide +kernel), List.mem_of_getElem? (i := 1236) (by decide +kernel), List.mem_of_getElem? (i := 1237) (by decide +kernel)⟩
theorem lw_p41 : lw_okq (⟨"NotEndedModel", "condition", "(ZI)Z"⟩, 52) := ⟨⟨by decide +kernel, by decide +kernel⟩, List.mem_of_getElem? (i := 1002) (by decide +kernel), List.mem_of_getElem? (i := 1240) (by decide +kernel), List.mem_of_getElem? (i := 1241) (by decide +kernel)⟩
theorem lw_p42 : lw_okq (⟨"NotEndedModel", "part", "(ZI)Z"⟩, 52) := ⟨⟨by decide +kernel, by decide +kernel⟩, List.mem_of_getElem? (i := 1002) (by decide +kernel), List.mem_of_getElem? (i := 1244) (by decide +kernel), List.mem_of_getElem? (i := 1245) (by decide +kernel)⟩
theorem lw_p43 : lw_okq (⟨"NotEndedModel", "compares", "(ZI)Z"⟩, 52) := ⟨⟨by decide +kernel, by decide +kernel⟩, List.mem_of_getElem? (i := 1002) (by decide +kernel), List.mem_of_getElem? (i := 1248) (by decide +kernel), List.mem_of_getElem? (i := 1249) (by decide +kernel)⟩
theorem lw_p44 : lw_okq (⟨"NotEndedModel", "sum", "()I"⟩, 52) := ⟨⟨by decide +kernel, by decide +kernel⟩, List.mem_of_getElem? (i := 1002) (by decide +kernel), List.mem_of_getElem? (i := 1252) (by decide +kernel), List.mem_of_getElem? (i := 1253) (by decide +kernel)⟩
theorem lw_p45 : lw_okq (⟨"NotEndedModel", "term", "()I"⟩, 52) := ⟨⟨by decide +kernel, by decide +kernel⟩, List.mem_of_getElem? (i := 1002) (by decide +kernel), List.mem_of_getElem? (i := 1256) (by decide +kernel), List.mem_of_getElem? (i := 1257) (by decide +kernel)⟩
theorem lw_p46 : lw_okq (⟨"NotEndedModel", "atom", "()I"⟩, 52) := ⟨⟨by decide +kernel, by decide +kernel⟩, List.mem_of_getElem? (i := 1002) (by decide +kernel), List.mem_of_getElem? (i := 1260) (by decide +kernel), List.mem_of_getElem? (i := 1261) (by decide +kernel)⟩
theorem lw_p47 : lw_okq (⟨"NotEndedModel", "goesIn", "()Z"⟩, 52) := ⟨⟨by decide +kernel, by decide +kernel⟩, List.mem_of_getElem? (i := 1002) (by decide +kernel), List.mem_of_getElem? (i := 1264) (by decide +kernel), List.mem_of_getElem? (i := 1265) (by decide +kernel)⟩
def lw_privs_3 : List (MethodName × Nat) := [(⟨"NotEnded", "holdersWithout", "(LNotEnded$Rule;JI)I"⟩, 10), (⟨"NotEnded", "lookersOfSize", "(LNotEnded$Rule;JII)I"⟩, 10), (⟨"java/lang/Throwable", "fillInStackTrace", "(I)Ljava/lang/Throwable;"⟩, 6), (⟨"NotEndedModel", "put", "(I)V"⟩, 52), (⟨"NotEndedModel", "goThrough", "([BIIZI)V"⟩, 52), (⟨"NotEndedModel", "clause", "()V"⟩, 52), (⟨"NotEndedModel", "look", "()I"⟩, 52), (⟨"NotEndedModel", "fails", "()Z"⟩, 52), (⟨"NotEndedModel", "takes", "(I)Z"⟩, 52), (⟨"NotEndedModel", "condition", "(ZI)Z"⟩, 52), (⟨"NotEndedModel", "part", "(ZI)Z"⟩, 52), (⟨"NotEndedModel", "compares", "(ZI)Z"⟩, 52), (⟨"NotEndedModel", "sum", "()I"⟩, 52), (⟨"NotEndedModel", "term", "()I"⟩, 52), (⟨"NotEndedModel", "atom", "()I"⟩, 52), (⟨"NotEndedModel", "goesIn", "()Z"⟩, 52)]
theorem lw_r3 : ∀ q ∈ lw_privs_3, lw_okq q := List.forall_mem_cons.mpr ⟨lw_p32, List.forall_mem_cons.mpr ⟨lw_p33, List.forall_mem_cons.mpr ⟨lw_p34, List.forall_mem_cons.mpr ⟨lw_p35, List.forall_mem_cons.mpr ⟨lw_p36, List.forall_mem_cons.mpr ⟨lw_p37, List.forall_mem_cons.mpr ⟨lw_p38, List.forall_mem_cons.mpr ⟨lw_p39, List.forall_mem_cons.mpr ⟨lw_p40, List.forall_mem_cons.mpr ⟨lw_p41, List.forall_mem_cons.mpr ⟨lw_p42, List.forall_mem_cons.mpr ⟨lw_p43, List.forall_mem_cons.mpr ⟨lw_p44, List.forall_mem_cons.mpr ⟨lw_p45, List.forall_mem_cons.mpr ⟨lw_p46, List.forall_mem_cons.mpr ⟨lw_p47, fun _ h => absurd h List.not_mem_nil⟩⟩⟩⟩⟩⟩⟩⟩⟩⟩⟩⟩⟩⟩⟩⟩
theorem lw_p48 : lw_okq (⟨"NotEndedModel", "isDigit", "()Z"⟩, 52) := ⟨⟨by decide +kernel, by decide +kernel⟩, List.mem_of_getElem? (i := 1002) (by decide +kernel), List.mem_of_getElem? (i := 1268) (by decide +kernel), List.mem_of_getElem? (i := 1269) (by decide +kernel)⟩
theorem lw_p49 : lw_okq (⟨"NotEndedModel", "unit", "()Z"⟩, 52) := ⟨⟨by decide +kernel, by decide +kernel⟩, List.mem_of_getElem? (i := 1002) (by decide +kernel), List.mem_of_getElem? (i := 1286) (by decide +kernel), List.mem_of_getElem? (i := 1287) (by decide +kernel)⟩
theorem lw_p50 : lw_okq (⟨"NotEndedModel", "isPerson", "(I)Z"⟩, 52) := ⟨⟨by decide +kernel, by decide +kernel⟩, List.mem_of_getElem? (i := 1002) (by decide +kernel), List.mem_of_getElem? (i := 1302) (by decide +kernel), List.mem_of_getElem? (i := 1303) (by decide +kernel)⟩
theorem lw_p51 : lw_okq (⟨"NotEndedModel", "isLaw", "(I)Z"⟩, 52) := ⟨⟨by decide +kernel, by decide +kernel⟩, List.mem_of_getElem? (i := 1002) (by decide +kernel), List.mem_of_getElem? (i := 1314) (by decide +kernel), List.mem_of_getElem? (i := 1315) (by decide +kernel)⟩
theorem lw_p52 : lw_okq (⟨"NotEndedModel", "everybody", "()I"⟩, 52) := ⟨⟨by decide +kernel, by decide +kernel⟩, List.mem_of_getElem? (i := 1002) (by decide +kernel), List.mem_of_getElem? (i := 1318) (by decide +kernel), List.mem_of_getElem? (i := 1319) (by decide +kernel)⟩
theorem lw_p53 : lw_okq (⟨"NotEndedModel", "begin", "(IJ)V"⟩, 52) := ⟨⟨by decide +kernel, by decide +kernel⟩, List.mem_of_getElem? (i := 1002) (by decide +kernel), List.mem_of_getElem? (i := 1322) (by decide +kernel), List.mem_of_getElem? (i := 1323) (by decide +kernel)⟩
theorem lw_p54 : lw_okq (⟨"NotEndedModel", "layLetters", "(I)V"⟩, 52) := ⟨⟨by decide +kernel, by decide +kernel⟩, List.mem_of_getElem? (i := 1002) (by decide +kernel), List.mem_of_getElem? (i := 1326) (by decide +kernel), List.mem_of_getElem? (i := 1327) (by decide +kernel)⟩
theorem lw_p55 : lw_okq (⟨"NotEndedModel", "worthOf", "(IZI)I"⟩, 52) := ⟨⟨by decide +kernel, by decide +kernel⟩, List.mem_of_getElem? (i := 1002) (by decide +kernel), List.mem_of_getElem? (i := 1334) (by decide +kernel), List.mem_of_getElem? (i := 1335) (by decide +kernel)⟩
theorem lw_p56 : lw_okq (⟨"NotEndedModel", "runOf", "(IJII)V"⟩, 52) := ⟨⟨by decide +kernel, by decide +kernel⟩, List.mem_of_getElem? (i := 1002) (by decide +kernel), List.mem_of_getElem? (i := 1342) (by decide +kernel), List.mem_of_getElem? (i := 1343) (by decide +kernel)⟩
theorem lw_p57 : lw_okq (⟨"NotEndedModel", "goOn", "(II)V"⟩, 52) := ⟨⟨by decide +kernel, by decide +kernel⟩, List.mem_of_getElem? (i := 1002) (by decide +kernel), List.mem_of_getElem? (i := 1346) (by decide +kernel), List.mem_of_getElem? (i := 1347) (by decide +kernel)⟩
theorem lw_p58 : lw_okq (⟨"NotEndedModel", "goesBy", "(I)V"⟩, 52) := ⟨⟨by decide +kernel, by decide +kernel⟩, List.mem_of_getElem? (i := 1002) (by decide +kernel), List.mem_of_getElem? (i := 1350) (by decide +kernel), List.mem_of_getElem? (i := 1351) (by decide +kernel)⟩
theorem lw_p59 : lw_okq (⟨"NotEndedModel", "isFree", "(I)Z"⟩, 52) := ⟨⟨by decide +kernel, by decide +kernel⟩, List.mem_of_getElem? (i := 1002) (by decide +kernel), List.mem_of_getElem? (i := 1354) (by decide +kernel), List.mem_of_getElem? (i := 1355) (by decide +kernel)⟩
theorem lw_p60 : lw_okq (⟨"NotEndedModel", "isChanced", "(I)Z"⟩, 52) := ⟨⟨by decide +kernel, by decide +kernel⟩, List.mem_of_getElem? (i := 1002) (by decide +kernel), List.mem_of_getElem? (i := 1362) (by decide +kernel), List.mem_of_getElem? (i := 1363) (by decide +kernel)⟩
theorem lw_p61 : lw_okq (⟨"NotEndedModel", "endOf", "(IJII)I"⟩, 52) := ⟨⟨by decide +kernel, by decide +kernel⟩, List.mem_of_getElem? (i := 1002) (by decide +kernel), List.mem_of_getElem? (i := 1377) (by decide +kernel), List.mem_of_getElem? (i := 1378) (by decide +kernel)⟩
theorem lw_p62 : lw_okq (⟨"NotEndedModel", "isAsked", "(II)Z"⟩, 52) := ⟨⟨by decide +kernel, by decide +kernel⟩, List.mem_of_getElem? (i := 1002) (by decide +kernel), List.mem_of_getElem? (i := 1385) (by decide +kernel), List.mem_of_getElem? (i := 1386) (by decide +kernel)⟩
theorem lw_p63 : lw_okq (⟨"NotEndedModel", "allSent", "()I"⟩, 52) := ⟨⟨by decide +kernel, by decide +kernel⟩, List.mem_of_getElem? (i := 1002) (by decide +kernel), List.mem_of_getElem? (i := 1389) (by decide +kernel), List.mem_of_getElem? (i := 1390) (by decide +kernel)⟩
def lw_privs_4 : List (MethodName × Nat) := [(⟨"NotEndedModel", "isDigit", "()Z"⟩, 52), (⟨"NotEndedModel", "unit", "()Z"⟩, 52), (⟨"NotEndedModel", "isPerson", "(I)Z"⟩, 52), (⟨"NotEndedModel", "isLaw", "(I)Z"⟩, 52), (⟨"NotEndedModel", "everybody", "()I"⟩, 52), (⟨"NotEndedModel", "begin", "(IJ)V"⟩, 52), (⟨"NotEndedModel", "layLetters", "(I)V"⟩, 52), (⟨"NotEndedModel", "worthOf", "(IZI)I"⟩, 52), (⟨"NotEndedModel", "runOf", "(IJII)V"⟩, 52), (⟨"NotEndedModel", "goOn", "(II)V"⟩, 52), (⟨"NotEndedModel", "goesBy", "(I)V"⟩, 52), (⟨"NotEndedModel", "isFree", "(I)Z"⟩, 52), (⟨"NotEndedModel", "isChanced", "(I)Z"⟩, 52), (⟨"NotEndedModel", "endOf", "(IJII)I"⟩, 52), (⟨"NotEndedModel", "isAsked", "(II)Z"⟩, 52), (⟨"NotEndedModel", "allSent", "()I"⟩, 52)]
theorem lw_r4 : ∀ q ∈ lw_privs_4, lw_okq q := List.forall_mem_cons.mpr ⟨lw_p48, List.forall_mem_cons.mpr ⟨lw_p49, List.forall_mem_cons.mpr ⟨lw_p50, List.forall_mem_cons.mpr ⟨lw_p51, List.forall_mem_cons.mpr ⟨lw_p52, List.forall_mem_cons.mpr ⟨lw_p53, List.forall_mem_cons.mpr ⟨lw_p54, List.forall_mem_cons.mpr ⟨lw_p55, List.forall_mem_cons.mpr ⟨lw_p56, List.forall_mem_cons.mpr ⟨lw_p57, List.forall_mem_cons.mpr ⟨lw_p58, List.forall_mem_cons.mpr ⟨lw_p59, List.forall_mem_cons.mpr ⟨lw_p60, List.forall_mem_cons.mpr ⟨lw_p61, List.forall_mem_cons.mpr ⟨lw_p62, List.forall_mem_cons.mpr ⟨lw_p63, fun _ h => absurd h List.not_mem_nil⟩⟩⟩⟩⟩⟩⟩⟩⟩⟩⟩⟩⟩⟩⟩⟩
theorem lw_p64 : lw_okq (⟨"NotEndedModel", "fitsAll", "(IJZ)Z"⟩, 52) := ⟨⟨by decide +kernel, by decide +kernel⟩, List.mem_of_getElem? (i := 1002) (by decide +kernel), List.mem_of_getElem? (i := 1405) (by decide +kernel), List.mem_of_getElem? (i := 1406) (by decide +kernel)⟩
theorem lw_p65 : lw_okq (⟨"NotEndedModel", "isAlone", "(I)Z"⟩, 52) := ⟨⟨by decide +kernel, by decide +kernel⟩, List.mem_of_getElem? (i := 1002) (by decide +kernel), List.mem_of_getElem? (i := 1409) (by decide +kernel), List.mem_of_getElem? (i := 1410) (by decide +kernel)⟩
theorem lw_p66 : lw_okq (⟨"NotEndedModel", "isSo", "(I)Z"⟩, 52) := ⟨⟨by decide +kernel, by decide +kernel⟩, List.mem_of_getElem? (i := 1002) (by decide +kernel), List.mem_of_getElem? (i := 1413) (by decide +kernel), List.mem_of_getElem? (i := 1414) (by decide +kernel)⟩
theorem lw_p67 : lw_okq (⟨"NotEndedModel", "isTurning", "(I)Z"⟩, 52) := ⟨⟨by decide +kernel, by decide +kernel⟩, List.mem_of_getElem? (i := 1002) (by decide +kernel), List.mem_of_getElem? (i := 1431) (by decide +kernel), List.mem_of_getElem? (i := 1432) (by decide +kernel)⟩
theorem lw_p68 : lw_okq (⟨"NotEndedModel", "isLet", "(II)Z"⟩, 52) := ⟨⟨by decide +kernel, by decide +kernel⟩, List.mem_of_getElem? (i := 1002) (by decide +kernel), List.mem_of_getElem? (i := 1438) (by decide +kernel), List.mem_of_getElem? (i := 1439) (by decide +kernel)⟩
theorem lw_p69 : lw_okq (⟨"NotEndedModel", "barred", "(I)J"⟩, 52) := ⟨⟨by decide +kernel, by decide +kernel⟩, List.mem_of_getElem? (i := 1002) (by decide +kernel), List.mem_of_getElem? (i := 1446) (by decide +kernel), List.mem_of_getElem? (i := 1447) (by decide +kernel)⟩
theorem lw_p70 : lw_okq (⟨"NotEndedModel", "isBefore", "(II)Z"⟩, 52) := ⟨⟨by decide +kernel, by decide +kernel⟩, List.mem_of_getElem? (i := 1002) (by decide +kernel), List.mem_of_getElem? (i := 1476) (by decide +kernel), List.mem_of_getElem? (i := 1477) (by decide +kernel)⟩
theorem lw_p71 : lw_okq (⟨"NotEndedModel", "costOf", "(I)I"⟩, 52) := ⟨⟨by decide +kernel, by decide +kernel⟩, List.mem_of_getElem? (i := 1002) (by decide +kernel), List.mem_of_getElem? (i := 1480) (by decide +kernel), List.mem_of_getElem? (i := 1481) (by decide +kernel)⟩
theorem lw_p72 : lw_okq (⟨"NotEndedModel", "helps", "(IJII)Z"⟩, 52) := ⟨⟨by decide +kernel, by decide +kernel⟩, List.mem_of_getElem? (i := 1002) (by decide +kernel), List.mem_of_getElem? (i := 1488) (by decide +kernel), List.mem_of_getElem? (i := 1489) (by decide +kernel)⟩
theorem lw_p73 : lw_okq (⟨"NotEndedModel", "holders", "(IJI)I"⟩, 52) := ⟨⟨by decide +kernel, by decide +kernel⟩, List.mem_of_getElem? (i := 1002) (by decide +kernel), List.mem_of_getElem? (i := 1496) (by decide +kernel), List.mem_of_getElem? (i := 1497) (by decide +kernel)⟩
def lw_privs_5 : List (MethodName × Nat) := [(⟨"NotEndedModel", "fitsAll", "(IJZ)Z"⟩, 52), (⟨"NotEndedModel", "isAlone", "(I)Z"⟩, 52), (⟨"NotEndedModel", "isSo", "(I)Z"⟩, 52), (⟨"NotEndedModel", "isTurning", "(I)Z"⟩, 52), (⟨"NotEndedModel", "isLet", "(II)Z"⟩, 52), (⟨"NotEndedModel", "barred", "(I)J"⟩, 52), (⟨"NotEndedModel", "isBefore", "(II)Z"⟩, 52), (⟨"NotEndedModel", "costOf", "(I)I"⟩, 52), (⟨"NotEndedModel", "helps", "(IJII)Z"⟩, 52), (⟨"NotEndedModel", "holders", "(IJI)I"⟩, 52)]
theorem lw_r5 : ∀ q ∈ lw_privs_5, lw_okq q := List.forall_mem_cons.mpr ⟨lw_p64, List.forall_mem_cons.mpr ⟨lw_p65, List.forall_mem_cons.mpr ⟨lw_p66, List.forall_mem_cons.mpr ⟨lw_p67, List.forall_mem_cons.mpr ⟨lw_p68, List.forall_mem_cons.mpr ⟨lw_p69, List.forall_mem_cons.mpr ⟨lw_p70, List.forall_mem_cons.mpr ⟨lw_p71, List.forall_mem_cons.mpr ⟨lw_p72, List.forall_mem_cons.mpr ⟨lw_p73, fun _ h => absurd h List.not_mem_nil⟩⟩⟩⟩⟩⟩⟩⟩⟩⟩
def lw_privs : List (MethodName × Nat) := lw_privs_1 ++ (lw_privs_2 ++ (lw_privs_3 ++ (lw_privs_4 ++ (lw_privs_5))))
def lw_tbl : List Cond := k2_sels lw_privs ++ tables_1
theorem lw_privs_ok : ∀ q ∈ lw_privs, lw_okq q := by
  show ∀ q ∈ lw_privs_1 ++ (lw_privs_2 ++ (lw_privs_3 ++ (lw_privs_4 ++ (lw_privs_5)))), lw_okq q
  exact List.forall_mem_append.mpr ⟨lw_r1, List.forall_mem_append.mpr ⟨lw_r2, List.forall_mem_append.mpr ⟨lw_r3, List.forall_mem_append.mpr ⟨lw_r4, lw_r5⟩⟩⟩⟩
end
section
def RX0 : String := "NotEnded$Acts"
def TX0 : u_T := fun k => match k with
  | 0 => ("NotEnded$Acts", "persons", "[I", true)
  | 1 => ("NotEnded$Acts", "kinds", "[I", true)
  | 2 => ("NotEnded$Acts", "things", "[I", true)
  | 3 => ("NotEnded$Acts", "costs", "[I", true)
  | _ => ("NotEnded$Acts", "size", "I", false)
abbrev wsX00 : List Cond := u_ws RX0 TX0 5
def RX1 : String := "NotEnded$Course"
def TX1 : u_T := fun k => match k with
  | 0 => ("NotEnded$Course", "folk", "LNotEnded$Folk;", true)
  | 1 => ("NotEnded$Course", "reckoner", "LNotEnded$Reckoner;", true)
  | 2 => ("NotEnded$Course", "held", "[I", true)
  | 3 => ("NotEnded$Course", "putIn", "[I", true)
  | 4 => ("NotEnded$Course", "places", "[I", true)
  | 5 => ("NotEnded$Course", "tellsSince", "[I", true)
  | 6 => ("NotEnded$Course", "holdsMore", "[I", true)
  | 7 => ("NotEnded$Course", "passesOn", "[I", true)
  | 8 => ("NotEnded$Course", "goes", "[I", true)
  | 9 => ("NotEnded$Course", "hears", "[I", true)
  | 10 => ("NotEnded$Course", "manyIn", "[I", true)
  | 11 => ("NotEnded$Course", "heldIn", "[I", true)
  | 12 => ("NotEnded$Course", "sentIn", "[I", true)
  | 13 => ("NotEnded$Course", "ways", "[J", true)
  | 14 => ("NotEnded$Course", "law", "LNotEnded$Rule;", false)
  | 15 => ("NotEnded$Course", "drawn", "J", false)
  | 16 => ("NotEnded$Course", "present", "I", false)
  | 17 => ("NotEnded$Course", "moved", "I", false)
  | _ => ("NotEnded$Course", "hour", "I", false)
abbrev wsX10 : List Cond := u_ws RX1 TX1 19
def RX2 : String := "NotEnded$Folk"
def TX2 : u_T := fun k => match k with
  | 0 => ("NotEnded$Folk", "holds", "[I", true)
  | 1 => ("NotEnded$Folk", "putIn", "[I", true)
  | 2 => ("NotEnded$Folk", "houses", "[I", true)
  | 3 => ("NotEnded$Folk", "knows", "[I", true)
  | 4 => ("NotEnded$Folk", "hours", "[I", true)
  | 5 => ("NotEnded$Folk", "sent", "I", false)
  | 6 => ("NotEnded$Folk", "size", "I", false)
  | _ => ("NotEnded$Folk", "words", "I", false)
abbrev wsX20 : List Cond := u_ws RX2 TX2 8
def RX3 : String := "NotEnded$Notebook"
def TX3 : u_T := fun k => match k with
  | 0 => ("NotEnded$Notebook", "persons", "[I", true)
  | 1 => ("NotEnded$Notebook", "hours", "[I", true)
  | 2 => ("NotEnded$Notebook", "kinds", "[I", true)
  | 3 => ("NotEnded$Notebook", "values", "[I", true)
  | 4 => ("NotEnded$Notebook", "offs", "[I", true)
  | _ => ("NotEnded$Notebook", "size", "I", false)
abbrev wsX30 : List Cond := u_ws RX3 TX3 6
def RX4 : String := "NotEnded$Reader"
def TX4 : u_T := fun k => match k with
  | 0 => ("NotEnded$Reader", "tape", "LNotEnded$Tape;", true)
  | 1 => ("NotEnded$Reader", "steps", "[I", true)
  | 2 => ("NotEnded$Reader", "clauses", "[I", true)
  | 3 => ("NotEnded$Reader", "written", "I", false)
  | 4 => ("NotEnded$Reader", "filled", "I", false)
  | 5 => ("NotEnded$Reader", "place", "I", false)
  | 6 => ("NotEnded$Reader", "labelSigns", "Ljava/lang/String;", false)
  | _ => ("NotEnded$Reader", "letterSigns", "Ljava/lang/String;", false)
def tyX4 : Nat → FieldType := fun k => match k with
  | 0 => .object "NotEnded$Tape"
  | 1 => .array .int
  | 2 => .array .int
  | 3 => .int
  | 4 => .int
  | 5 => .int
  | 6 => .object "java/lang/String"
  | _ => .object "java/lang/String"
abbrev wsX40 : List Cond := u_ws RX4 TX4 8
theorem nmX4 : ∀ a, a < 8 → ∀ b, b < 8 → a ≠ b → (TX4 a).2.1 ≠ (TX4 b).2.1 := by decide +kernel
theorem tyX4_ok : ∀ k, k < 8 → parseFieldDescriptor (TX4 k).2.2.1 = some (tyX4 k) := by decide +kernel
def RX5 : String := "NotEnded$Reckoner"
def TX5 : u_T := fun k => match k with
  | 0 => ("NotEnded$Reckoner", "letters", "[I", true)
  | _ => ("NotEnded$Reckoner", "open", "[I", true)
abbrev wsX50 : List Cond := u_ws RX5 TX5 2
def RX6 : String := "NotEnded$Rule"
def TX6 : u_T := fun k => match k with
  | 0 => ("NotEnded$Rule", "steps", "[I", true)
  | _ => ("NotEnded$Rule", "clauses", "[I", true)
abbrev wsX60 : List Cond := u_ws RX6 TX6 2
def RX7 : String := "NotEnded$Shelf"
def TX7 : u_T := fun k => match k with
  | 0 => ("NotEnded$Shelf", "rules", "[LNotEnded$Rule;", true)
  | _ => ("NotEnded$Shelf", "size", "I", false)
abbrev wsX70 : List Cond := u_ws RX7 TX7 2
def RX8 : String := "NotEnded$Tape"
def TX8 : u_T := fun k => match k with
  | 0 => ("NotEnded$Tape", "signs", "[C", true)
  | _ => ("NotEnded$Tape", "length", "I", false)
abbrev wsX80 : List Cond := u_ws RX8 TX8 2
def RX9 : String := "NotEnded"
def TX9 : u_T := fun k => match k with
  | 0 => ("NotEnded", "tape", "LNotEnded$Tape;", true)
  | 1 => ("NotEnded", "reader", "LNotEnded$Reader;", true)
  | 2 => ("NotEnded", "reckoner", "LNotEnded$Reckoner;", true)
  | 3 => ("NotEnded", "laws", "LNotEnded$Shelf;", true)
  | 4 => ("NotEnded", "turnings", "LNotEnded$Shelf;", true)
  | 5 => ("NotEnded", "folk", "LNotEnded$Folk;", true)
  | 6 => ("NotEnded", "course", "LNotEnded$Course;", true)
  | 7 => ("NotEnded", "notebook", "LNotEnded$Notebook;", true)
  | 8 => ("NotEnded", "acts", "LNotEnded$Acts;", true)
  | _ => ("NotEnded", "said", "[I", true)
abbrev wsX90 : List Cond := u_ws RX9 TX9 10
def RX10 : String := "NotEndedModel"
def TX10 : u_T := fun k => match k with
  | 0 => ("NotEndedModel", "thrown", "I", false)
  | 1 => ("NotEndedModel", "tape", "[B", true)
  | 2 => ("NotEndedModel", "texts", "[B", true)
  | 3 => ("NotEndedModel", "textLong", "[I", true)
  | 4 => ("NotEndedModel", "letters", "[I", true)
  | 5 => ("NotEndedModel", "text", "[B", false)
  | 6 => ("NotEndedModel", "length", "I", false)
  | 7 => ("NotEndedModel", "laws", "I", false)
  | 8 => ("NotEndedModel", "turnings", "I", false)
  | 9 => ("NotEndedModel", "begins", "I", false)
  | 10 => ("NotEndedModel", "ends", "I", false)
  | 11 => ("NotEndedModel", "at", "I", false)
  | 12 => ("NotEndedModel", "fault", "I", false)
  | 13 => ("NotEndedModel", "deep", "I", false)
  | 14 => ("NotEndedModel", "label", "I", false)
  | 15 => ("NotEndedModel", "found", "I", false)
  | 16 => ("NotEndedModel", "labels", "Ljava/lang/String;", false)
  | 17 => ("NotEndedModel", "allowed", "Ljava/lang/String;", false)
  | 18 => ("NotEndedModel", "hasFound", "Z", false)
  | 19 => ("NotEndedModel", "toldHolds", "[I", true)
  | 20 => ("NotEndedModel", "toldIn", "[I", true)
  | 21 => ("NotEndedModel", "toldHouse", "[I", true)
  | 22 => ("NotEndedModel", "knows", "[I", true)
  | 23 => ("NotEndedModel", "said", "[I", true)
  | 24 => ("NotEndedModel", "due", "[I", true)
  | 25 => ("NotEndedModel", "isSent", "[Z", true)
  | 26 => ("NotEndedModel", "persons", "I", false)
  | 27 => ("NotEndedModel", "words", "I", false)
  | 28 => ("NotEndedModel", "holds", "[I", true)
  | 29 => ("NotEndedModel", "putIn", "[I", true)
  | 30 => ("NotEndedModel", "house", "[I", true)
  | 31 => ("NotEndedModel", "since", "[I", true)
  | 32 => ("NotEndedModel", "more", "[I", true)
  | 33 => ("NotEndedModel", "goes", "[I", true)
  | 34 => ("NotEndedModel", "heard", "[I", true)
  | 35 => ("NotEndedModel", "tells", "[I", true)
  | 36 => ("NotEndedModel", "was", "[I", true)
  | 37 => ("NotEndedModel", "there", "I", false)
  | 38 => ("NotEndedModel", "hour", "I", false)
  | 39 => ("NotEndedModel", "x", "J", false)
  | 40 => ("NotEndedModel", "notePerson", "[I", true)
  | 41 => ("NotEndedModel", "noteHour", "[I", true)
  | 42 => ("NotEndedModel", "noteKind", "[I", true)
  | 43 => ("NotEndedModel", "noteValue", "[I", true)
  | 44 => ("NotEndedModel", "noteOff", "[I", true)
  | 45 => ("NotEndedModel", "notes", "I", false)
  | 46 => ("NotEndedModel", "ways", "[J", true)
  | 47 => ("NotEndedModel", "actOf", "[I", true)
  | 48 => ("NotEndedModel", "actKind", "[I", true)
  | 49 => ("NotEndedModel", "actX", "[I", true)
  | 50 => ("NotEndedModel", "actCost", "[I", true)
  | _ => ("NotEndedModel", "acts", "I", false)
abbrev wsX100 : List Cond := u_ws RX10 TX10 52
def RJ9 : String := "java/lang/Math"
def RJ0 : String := "java/lang/String"
def RJ1 : String := "java/lang/StringLatin1"
def yX0_init : MethodName := ⟨RX0, "<init>", "()V"⟩
def yX2_init : MethodName := ⟨RX2, "<init>", "()V"⟩
def yX3_init : MethodName := ⟨RX3, "<init>", "()V"⟩
abbrev cX4_readClause : ByteArray := prog_6_method_4_code
def yX4_readClause : MethodName := ⟨RX4, "readClause", "()Z"⟩
abbrev cX4_keepClause : ByteArray := prog_6_method_5_code
def yX4_keepClause : MethodName := ⟨RX4, "keepClause", "(III)Z"⟩
abbrev cX4_readCondition : ByteArray := prog_6_method_6_code
def yX4_readCondition : MethodName := ⟨RX4, "readCondition", "(IZ)Z"⟩
abbrev cX4_readTruth : ByteArray := prog_6_method_7_code
def yX4_readTruth : MethodName := ⟨RX4, "readTruth", "(IZ)Z"⟩
abbrev cX4_readUnit : ByteArray := prog_6_method_8_code
def yX4_readUnit : MethodName := ⟨RX4, "readUnit", "(IZ)Z"⟩
abbrev cX4_readSum : ByteArray := prog_6_method_9_code
def yX4_readSum : MethodName := ⟨RX4, "readSum", "(I)Z"⟩
abbrev cX4_readTerm : ByteArray := prog_6_method_10_code
def yX4_readTerm : MethodName := ⟨RX4, "readTerm", "(I)Z"⟩
abbrev cX4_readAtom : ByteArray := prog_6_method_11_code
def yX4_readAtom : MethodName := ⟨RX4, "readAtom", "(I)Z"⟩
abbrev cX4_readNumber : ByteArray := prog_6_method_12_code
def yX4_readNumber : MethodName := ⟨RX4, "readNumber", "()Z"⟩
abbrev cX4_opens : ByteArray := prog_6_method_13_code
def yX4_opens : MethodName := ⟨RX4, "opens", "(I)Z"⟩
abbrev cX4_take : ByteArray := prog_6_method_14_code
def yX4_take : MethodName := ⟨RX4, "take", "(C)Z"⟩
abbrev cX4_look : ByteArray := prog_6_method_15_code
def yX4_look : MethodName := ⟨RX4, "look", "()C"⟩
abbrev cX4_write : ByteArray := prog_6_method_16_code
def yX4_write : MethodName := ⟨RX4, "write", "(I)Z"⟩
abbrev cX4_isDigit : ByteArray := prog_6_method_17_code
def yX4_isDigit : MethodName := ⟨RX4, "isDigit", "(C)Z"⟩
abbrev cX4_isComparison : ByteArray := prog_6_method_18_code
def yX4_isComparison : MethodName := ⟨RX4, "isComparison", "(C)Z"⟩
def yX5_init : MethodName := ⟨RX5, "<init>", "()V"⟩
def yX8_init : MethodName := ⟨RX8, "<init>", "()V"⟩
abbrev cX8_at : ByteArray := prog_10_method_6_code
def yX8_at : MethodName := ⟨RX8, "at", "(I)C"⟩
def yX9_isHouse : MethodName := ⟨RX9, "isHouse", "(I)Z"⟩
def yX9_isBit : MethodName := ⟨RX9, "isBit", "(II)Z"⟩
def yX9_within : MethodName := ⟨RX9, "within", "(III)I"⟩
def yX9_isLowerFirst : MethodName := ⟨RX9, "isLowerFirst", "(II)Z"⟩
abbrev cJ0_length_8abf5 : ByteArray := prog_23_method_54_code
def yJ0_length_8abf5 : MethodName := ⟨RJ0, "length", "()I"⟩
abbrev cJ0_indexOf_0f7a4 : ByteArray := prog_23_method_79_code
def yJ0_indexOf_0f7a4 : MethodName := ⟨RJ0, "indexOf", "(I)I"⟩
abbrev cJ0_indexOf_7cf53 : ByteArray := prog_23_method_80_code
def yJ0_indexOf_7cf53 : MethodName := ⟨RJ0, "indexOf", "(II)I"⟩
abbrev cJ0_coder_7d493 : ByteArray := prog_23_method_152_code
def yJ0_coder_7d493 : MethodName := ⟨RJ0, "coder", "()B"⟩
abbrev cJ0_isLatin1_aae02 : ByteArray := prog_23_method_154_code
def yJ0_isLatin1_aae02 : MethodName := ⟨RJ0, "isLatin1", "()Z"⟩
abbrev cJ1_canEncode_9a6ad : ByteArray := prog_24_method_4_code
def yJ1_canEncode_9a6ad : MethodName := ⟨RJ1, "canEncode", "(I)Z"⟩
abbrev cJ1_indexOf_4cfef : ByteArray := prog_24_method_22_code
def yJ1_indexOf_4cfef : MethodName := ⟨RJ1, "indexOf", "([BIII)I"⟩
abbrev cJ1_indexOfChar_4cfef : ByteArray := prog_24_method_23_code
def yJ1_indexOfChar_4cfef : MethodName := ⟨RJ1, "indexOfChar", "([BIII)I"⟩
end
section
/-! Our own small kit: contracts' starts and ends in two forms. kR: nothing is written; kW: cells change or come. -/
theorem goodIn_sub {big ws : List Cond} (hm : ∀ w ∈ ws, w ∈ big) (h : ws.all goodWord = true) : GoodIn big ws := fun w hw => ⟨hm w hw, good_of_word (List.all_eq_true.mp h w hw)⟩
theorem kG {big a b : List Cond} (ha : ∀ w ∈ a, w ∈ big) (hga : a.all goodWord = true) (hb : ∀ w ∈ b, w ∈ big) (hgb : b.all goodWord = true) : GoodIn big (a ++ b) := fun w h => (List.mem_append.mp h).elim (goodIn_sub ha hga w) (goodIn_sub hb hgb w)
abbrev vwCl : List vw_C := [(RX0, TX0, 5), (RX1, TX1, 19), (RX2, TX2, 8), (RX3, TX3, 6), (RX4, TX4, 8), (RX5, TX5, 2), (RX6, TX6, 2), (RX7, TX7, 2), (RX8, TX8, 2), (RX9, TX9, 10), (RX10, TX10, 52)]
def kT : State → Prop := fun _ => True
theorem kT_blind : ∀ (U : State) (g : JFrame) (mk : MethodId) (a : Array Value), kT U → kT (U.calling g mk a) := fun _ _ _ _ _ => trivial
theorem kT_give {s : State} {H : Heap} : ∀ U : State, U.heap = H → s.WarmedH U.vm → kT U := fun _ _ _ => trivial
def kR (dC : Nat → ClassId) (dI : Nat → Nat → Nat) (av : List Value) (W : va_W) (T : List (ClassId × FieldType)) (X : State → Prop) : Array Value → State → Prop := fun v U => v = av.toArray ∧ va_P (dC, dI) vwCl W U.heap ∧ va_K (dC, dI) vwCl T U ∧ X U
def kW (dC : Nat → ClassId) (dI : Nat → Nat → Nat) (av : List Value) (W : va_W) (T : List (ClassId × FieldType)) (X : State → Prop) (sz : Nat) : Array Value → State → Prop := fun v U => v = av.toArray ∧ U.heap.size = sz ∧ va_P (dC, dI) vwCl W U.heap ∧ va_K (dC, dI) vwCl T U ∧ va_D (fun _ => True) W ∧ X U
def kB (dC : Nat → ClassId) (dI : Nat → Nat → Nat) (W : va_W) (T : List (ClassId × FieldType)) (A : Nat → Prop) (t : State) : Prop := va_P (dC, dI) vwCl W t.heap ∧ va_K (dC, dI) vwCl T t ∧ va_D A W
theorem kR_blind {dC : Nat → ClassId} {dI : Nat → Nat → Nat} {av : List Value} {W : va_W} {T : List (ClassId × FieldType)} {X : State → Prop} (hX : ∀ (U : State) (g : JFrame) (mk : MethodId) (a : Array Value), X U → X (U.calling g mk a)) : FrameBlind (kR dC dI av W T X) := fun a U g mk q => by
  obtain ⟨q0, qP, qK, qX⟩ := q
  exact ⟨q0, qP, va_K.moved (u := U) (U := U.calling g mk a) (Vm.Alike.refl U.vm) qK, hX _ _ _ _ qX⟩
theorem kW_blind {dC : Nat → ClassId} {dI : Nat → Nat → Nat} {av : List Value} {W : va_W} {T : List (ClassId × FieldType)} {X : State → Prop} {sz : Nat} (hX : ∀ (U : State) (g : JFrame) (mk : MethodId) (a : Array Value), X U → X (U.calling g mk a)) : FrameBlind (kW dC dI av W T X sz) := fun a U g mk q => by
  obtain ⟨q0, q1, qP, qK, qD, qX⟩ := q
  exact ⟨q0, q1, qP, va_K.moved (u := U) (U := U.calling g mk a) (Vm.Alike.refl U.vm) qK, qD, hX _ _ _ _ qX⟩
section KPre
variable {s : State} {H : Heap} {dC : Nat → ClassId} {dI : Nat → Nat → Nat} {av : List Value} {W : va_W} {T : List (ClassId × FieldType)} {X : State → Prop} {A : Nat → Prop} {C : String} {b : Addr}
theorem kR_S (hb : ∀ (U : State) (g : JFrame) (mk : MethodId) (a : Array Value), X U → X (U.calling g mk a)) (hX : ∀ U : State, U.heap = H → s.WarmedH U.vm → X U) (hP : va_P (dC, dI) vwCl W H) (hK : va_K (dC, dI) vwCl T s) : PreS s H (kR dC dI av W T X) av :=
  ⟨kR_blind hb, fun U hU hW => ⟨rfl, by rw [hU]; exact hP, va_K.moved hW.alike hK, hX U hU hW⟩⟩
theorem kR_V (hb : ∀ (U : State) (g : JFrame) (mk : MethodId) (a : Array Value), X U → X (U.calling g mk a)) (hX : ∀ U : State, U.heap = H → s.WarmedH U.vm → X U) (hc : ∃ cellB : Cell, H[b]? = some cellB ∧ cellB.vm.isStatics = false ∧ s.vm.findClass C = some cellB.cls) (hP : va_P (dC, dI) vwCl W H) (hK : va_K (dC, dI) vwCl T s) : PreV s H C b (kR dC dI (.ref b :: av) W T X) av :=
  ⟨kR_blind hb, hc, fun U hU hW => ⟨rfl, by rw [hU]; exact hP, va_K.moved hW.alike hK, hX U hU hW⟩⟩
theorem kW_S (hb : ∀ (U : State) (g : JFrame) (mk : MethodId) (a : Array Value), X U → X (U.calling g mk a)) (hX : ∀ U : State, U.heap = H → s.WarmedH U.vm → X U) (hP : va_P (dC, dI) vwCl W H) (hK : va_K (dC, dI) vwCl T s) (hD : va_D A W) : PreS s H (kW dC dI av W T X H.size) av :=
  ⟨kW_blind hb, fun U hU hW => ⟨rfl, by rw [hU], by rw [hU]; exact hP, va_K.moved hW.alike hK, hD.weaken (fun _ _ _ _ => trivial), hX U hU hW⟩⟩
theorem kW_V (hb : ∀ (U : State) (g : JFrame) (mk : MethodId) (a : Array Value), X U → X (U.calling g mk a)) (hX : ∀ U : State, U.heap = H → s.WarmedH U.vm → X U) (hc : ∃ cellB : Cell, H[b]? = some cellB ∧ cellB.vm.isStatics = false ∧ s.vm.findClass C = some cellB.cls) (hP : va_P (dC, dI) vwCl W H) (hK : va_K (dC, dI) vwCl T s) (hD : va_D A W) : PreV s H C b (kW dC dI (.ref b :: av) W T X H.size) av :=
  ⟨kW_blind hb, hc, fun U hU hW => ⟨rfl, by rw [hU], by rw [hU]; exact hP, va_K.moved hW.alike hK, hD.weaken (fun _ _ _ _ => trivial), hX U hU hW⟩⟩
end KPre
/-- a number within two bounds -/
def kIn (v lo hi : Int32) : Int32 := if v < lo then 0 else if hi < v then 0 else 1
theorem kTo (x : List (Nat × Value)) : x = x := rfl
theorem va_P.sb {D : va_G} {cl : List vw_C} {ws ws2 : va_W} {H : Heap} (h : va_P D cl ws H) (is : List Nat) (hs : is.filterMap (fun i => ws[i]?) = ws2) : va_P D cl ws2 H := h.sub is hs
theorem va_D.sb {A : Nat → Prop} {ws ws2 : va_W} (hD : va_D A ws) (is : List Nat) (hn : va_nd is = true) (hs : is.map (fun i => ws[i]?) = ws2.map some) : va_D A ws2 := hD.sub is hn hs
theorem va_K.sb {D : va_G} {cl : List vw_C} {tys tys2 : List (ClassId × FieldType)} {U : State} (h : va_K D cl tys U) (is : List Nat) (hs : is.filterMap (fun i => tys[i]?) = tys2) : va_K D cl tys2 U := h.sub is hs
theorem kGc {c : Cond} {ws : List Cond} (h : goodWord c = true) (g : ws.all goodWord = true) : (c :: ws).all goodWord = true := by rw [List.all_cons, h, g]; rfl
theorem kGa {a b : List Cond} (h : a.all goodWord = true) (g : b.all goodWord = true) : (a ++ b).all goodWord = true := by rw [List.all_append, h, g]; rfl
theorem kGn : ([] : List Cond).all goodWord = true := rfl
theorem kGV (o : String) (i : Nat) (C : String) (y : MethodName) : ([.methodLink o i y, .instanceMethod y, .selects C y y, .initialized C] : List Cond).all goodWord = true := rfl
theorem kGS (o : String) (i : Nat) (y : MethodName) : ([.methodLink o i y, .static y, .initialized y.cls] : List Cond).all goodWord = true := rfl
theorem gw_wsX00 : (wsX00).all goodWord = true := by decide +kernel
theorem gw_wsX10 : (wsX10).all goodWord = true := by decide +kernel
theorem gw_wsX20 : (wsX20).all goodWord = true := by decide +kernel
theorem gw_wsX30 : (wsX30).all goodWord = true := by decide +kernel
theorem gw_wsX40 : (wsX40).all goodWord = true := by decide +kernel
theorem gw_wsX50 : (wsX50).all goodWord = true := by decide +kernel
theorem gw_wsX60 : (wsX60).all goodWord = true := by decide +kernel
theorem gw_wsX70 : (wsX70).all goodWord = true := by decide +kernel
theorem gw_wsX80 : (wsX80).all goodWord = true := by decide +kernel
theorem gw_wsX90 : (wsX90).all goodWord = true := by decide +kernel
theorem gw_wsX100 : (wsX100).all goodWord = true := by decide +kernel
theorem kQ {p : Program} {l : Launch} {e : Env} {R : Room} {s : State} {m : MethodId} {args : Array Value} {below : List Frame} {meth : Method} {c : Code} {H : Heap} {locs : List Loc} {cells slots : Nat} {Q : State → Prop} {g : JFrame} (h : ∀ Q2 : State → Prop, Q2 = Q → W p l e R s m args below meth c H locs cells slots Q2 g) : W p l e R s m args below meth c H locs cells slots Q g := h Q rfl
abbrev kPD (dC : Nat → ClassId) (dI : Nat → Nat → Nat) (A : Nat → Prop) (W : va_W) (H : Heap) : Prop := va_P (dC, dI) vwCl W H ∧ va_D A W
theorem kCut {A : Nat → Prop} {D : va_G} {cl : List vw_C} {ws wc : va_W} {H0 H : Heap} {locs : List Loc} (hP : va_P D cl ws H) (hD : va_D A ws) (hS : va_S A H0 H locs) (hA : ∀ q, H0.size ≤ q → A q) (is : List Nat) (h1 : is.filterMap (fun i => ws[i]?) = wc) (hn : va_nd is = true) (h2 : is.map (fun i => ws[i]?) = wc.map some) : va_P D cl wc H ∧ va_D A wc ∧ ∀ q, va_A wc H.size q → A q := ⟨hP.sub is h1, hD.sub is hn h2, va_free hD hS hA is h2⟩
theorem kJoin {A : Nat → Prop} {D : va_G} {cl : List vw_C} {ws wc w1 w2 : va_W} {H H1 : Heap} (hP : va_P D cl ws H) (hD : va_D A ws) (isC isR : List Nat) (hC : isC.map (fun i => ws[i]?) = wc.map some) (hR : isR.map (fun i => ws[i]?) = (isR.filterMap (fun i => ws[i]?)).map some) (hn : va_nd isR = true) (hdis : ∀ i ∈ isR, i ∉ isC) (hk : ∀ q : Nat, q < H.size → ¬ va_A wc H.size q → H1[q]? = H[q]?) (hF : ∀ q, va_A wc H.size q → A q) (hP1 : va_P D cl w1 H1) (hD1 : va_D (va_A wc H.size) w1) (h2 : isR.filterMap (fun i => ws[i]?) ++ w1 = w2) : va_P D cl w2 H1 ∧ va_D A w2 := h2 ▸ va_join hP hD isC isR hC hR hn hdis hk hF hP1 hD1
def kNi (k : Nat) : List Nat → Bool
  | [] => true
  | i :: is => !(Nat.beq i k) && kNi k is
def kCk (isC : List Nat) : Nat → List (Option Nat) → Bool
  | _, [] => true
  | k, some j :: cs => (match isC[j]? with | some i => Nat.beq i k | none => false) && kCk isC (k + 1) cs
  | k, none :: cs => kNi k isC && kCk isC (k + 1) cs
def kMg (w1 : va_W) : va_W → List (Option Nat) → List (Option (Nat × va_E))
  | _ :: ws, some j :: cs => w1[j]? :: kMg w1 ws cs
  | z :: ws, none :: cs => some z :: kMg w1 ws cs
  | _, _ => []
theorem kNi_n {k : Nat} : ∀ {is : List Nat}, kNi k is = true → ¬ k ∈ is := by
  intro is
  induction is with
  | nil => intro _; exact List.not_mem_nil
  | cons i is ih =>
    intro h z
    unfold kNi at h
    rw [Bool.and_eq_true, Bool.not_eq_true'] at h
    rcases List.mem_cons.mp z with e | e
    · subst e; rw [Nat.beq_refl] at h; exact absurd h.1 (by decide)
    · exact ih h.2 e
theorem kMg_s {isC : List Nat} {w1 : va_W} : ∀ (cs : List (Option Nat)) (ws w2 : va_W) (k0 : Nat), kCk isC k0 cs = true → kMg w1 ws cs = w2.map some → ∀ (k : Nat) (q : Nat × va_E), w2[k]? = some q → (∃ m : Nat, isC[m]? = some (k0 + k) ∧ w1[m]? = some q) ∨ (ws[k]? = some q ∧ ¬ (k0 + k) ∈ isC) := by
  intro cs
  induction cs with
  | nil =>
    intro ws w2 k0 _ h2 k q hq
    cases w2 with
    | nil => simp at hq
    | cons z w2 => cases ws <;> simp [kMg] at h2
  | cons c cs ih =>
    intro ws w2 k0 h1 h2 k q hq
    cases w2 with
    | nil => simp at hq
    | cons z w2 =>
      cases ws with
      | nil => simp [kMg] at h2
      | cons y ws =>
        cases c with
        | some j =>
          unfold kCk at h1
          unfold kMg at h2
          rw [Bool.and_eq_true] at h1
          rw [List.map_cons] at h2
          obtain ⟨h3, h4⟩ := List.cons.inj h2
          cases k with
          | zero =>
            left
            refine ⟨j, ?_, ?_⟩
            · have h5 := h1.1
              cases hj : isC[j]? with
              | none => rw [hj] at h5; exact Bool.noConfusion h5
              | some i => rw [hj] at h5; rw [Nat.eq_of_beq_eq_true h5]; rfl
            · rw [h3]; exact hq
          | succ k =>
            rcases ih ws w2 (k0 + 1) h1.2 h4 k q hq with ⟨m, h5, h6⟩ | ⟨h5, h6⟩
            · exact Or.inl ⟨m, by rw [h5]; congr 1; omega, h6⟩
            · exact Or.inr ⟨h5, by rw [show k0 + (k + 1) = k0 + 1 + k by omega]; exact h6⟩
        | none =>
          unfold kCk at h1
          unfold kMg at h2
          rw [Bool.and_eq_true] at h1
          rw [List.map_cons] at h2
          obtain ⟨h3, h4⟩ := List.cons.inj h2
          cases k with
          | zero => exact Or.inr ⟨by rw [← hq]; show some y = some z; exact h3, kNi_n h1.1⟩
          | succ k =>
            rcases ih ws w2 (k0 + 1) h1.2 h4 k q hq with ⟨m, h5, h6⟩ | ⟨h5, h6⟩
            · exact Or.inl ⟨m, by rw [h5]; congr 1; omega, h6⟩
            · exact Or.inr ⟨h5, by rw [show k0 + (k + 1) = k0 + 1 + k by omega]; exact h6⟩
theorem kMapS {α β : Type} {is : List α} {f : α → Option β} {w : List β} (h : is.map f = w.map some) {m : Nat} {c : β} (hc : w[m]? = some c) : ∃ i, is[m]? = some i ∧ f i = some c := by
  have h1 : (is.map f)[m]? = some (some c) := by rw [h, List.getElem?_map, hc]; rfl
  rw [List.getElem?_map] at h1
  cases hi : is[m]? with
  | none => rw [hi] at h1; cases h1
  | some i => rw [hi] at h1; exact ⟨i, rfl, Option.some.inj h1⟩
theorem kMapR {α β : Type} {is : List α} {f : α → Option β} {w : List β} (h : is.map f = w.map some) {m : Nat} {i : α} (hi : is[m]? = some i) : ∃ c, w[m]? = some c ∧ f i = some c := by
  have h1 : (w.map some)[m]? = some (f i) := by rw [← h, List.getElem?_map, hi]; rfl
  rw [List.getElem?_map] at h1
  cases hc : w[m]? with
  | none => rw [hc] at h1; cases h1
  | some c => rw [hc] at h1; exact ⟨c, rfl, (Option.some.inj h1).symm⟩
theorem kJoinI {A : Nat → Prop} {D : va_G} {cl : List vw_C} {ws wc w1 w2 : va_W} {H H1 : Heap} (hP : va_P D cl ws H) (hD : va_D A ws) (isC : List Nat) (hC : isC.map (fun i => ws[i]?) = wc.map some) (hk : ∀ q : Nat, q < H.size → ¬ va_A wc H.size q → H1[q]? = H[q]?) (_hF : ∀ q, va_A wc H.size q → A q) (hP1 : va_P D cl w1 H1) (_hD1 : va_D (va_A wc H.size) w1) (ha : w1.map (fun z => z.1) = wc.map (fun z => z.1)) (cs : List (Option Nat)) (hc : kCk isC 0 cs = true) (h2 : kMg w1 ws cs = w2.map some) : va_P D cl w2 H1 ∧ va_D A w2 := by
  have hs := kMg_s cs ws w2 0 hc h2
  simp only [Nat.zero_add] at hs
  have adr : ∀ (k : Nat) (q : Nat × va_E), w2[k]? = some q → ∃ q0 : Nat × va_E, ws[k]? = some q0 ∧ q0.1 = q.1 := by
    intro k q hq
    rcases hs k q hq with ⟨m, h3, h4⟩ | ⟨h3, -⟩
    · obtain ⟨c, h5, h6⟩ := kMapR hC h3
      refine ⟨c, h6, ?_⟩
      have h7 : (w1.map (fun z => z.1))[m]? = some q.1 := by rw [List.getElem?_map, h4]; rfl
      rw [ha, List.getElem?_map, h5] at h7
      exact Option.some.inj h7
    · exact ⟨q, h3, rfl⟩
  refine ⟨fun k q hq => ?_, fun i j p q hi hj e => ?_, fun k q hq => ?_⟩
  · rcases hs k q hq with ⟨m, h3, h4⟩ | ⟨h3, h4⟩
    · exact hP1 m q h4
    · have hl := (hP k q h3).lt
      refine (hP k q h3).kept (hk q.1 hl (fun z => ?_))
      rcases z with ⟨j, e, hj⟩ | z
      · obtain ⟨i, h5, h6⟩ := kMapS hC hj
        have h7 := hD.1 k i q (q.1, e) h3 h6 rfl
        subst h7
        exact h4 (List.mem_of_getElem? h5)
      · omega
  · obtain ⟨p0, h3, h4⟩ := adr i p hi
    obtain ⟨q0, h5, h6⟩ := adr j q hj
    exact hD.1 i j p0 q0 h3 h5 (by rw [h4, h6, e])
  · obtain ⟨q0, h3, h4⟩ := adr k q hq
    rw [← h4]; exact hD.2 k q0 h3
theorem kJoinX {A : Nat → Prop} {D : va_G} {cl : List vw_C} {ws wc w1 w2 : va_W} {H H1 H2 : Heap} (hP : va_P D cl ws H) (hD : va_D A ws) (isC : List Nat) (hC : isC.map (fun i => ws[i]?) = wc.map some) (hk : ∀ q : Nat, q < H.size → ¬ va_A wc H.size q → H1[q]? = H[q]?) (hF : ∀ q, va_A wc H.size q → A q) (hP1 : va_P D cl w1 H2) (ht : H2 = H1) (hD1 : va_D (va_A wc H.size) w1) (ha : w1.map (fun z => z.1) = wc.map (fun z => z.1)) (cs : List (Option Nat)) (hc : kCk isC 0 cs = true) (h2 : kMg w1 ws cs = w2.map some) : va_P D cl w2 H1 ∧ va_D A w2 := kJoinI hP hD isC hC hk hF (ht ▸ hP1) hD1 ha cs hc h2
theorem kU2 {T0 T1 : Type} {P : T0 × T1 → Prop} (h : ∀ a0 a1, P (a0, a1)) : ∀ u, P u := fun u => h u.1 u.2
theorem kU3 {T0 T1 T2 : Type} {P : T0 × T1 × T2 → Prop} (h : ∀ a0 a1 a2, P (a0, a1, a2)) : ∀ u, P u := fun u => h u.1 u.2.1 u.2.2
theorem kU4 {T0 T1 T2 T3 : Type} {P : T0 × T1 × T2 × T3 → Prop} (h : ∀ a0 a1 a2 a3, P (a0, a1, a2, a3)) : ∀ u, P u := fun u => h u.1 u.2.1 u.2.2.1 u.2.2.2
theorem kU5 {T0 T1 T2 T3 T4 : Type} {P : T0 × T1 × T2 × T3 × T4 → Prop} (h : ∀ a0 a1 a2 a3 a4, P (a0, a1, a2, a3, a4)) : ∀ u, P u := fun u => h u.1 u.2.1 u.2.2.1 u.2.2.2.1 u.2.2.2.2
theorem kU6 {T0 T1 T2 T3 T4 T5 : Type} {P : T0 × T1 × T2 × T3 × T4 × T5 → Prop} (h : ∀ a0 a1 a2 a3 a4 a5, P (a0, a1, a2, a3, a4, a5)) : ∀ u, P u := fun u => h u.1 u.2.1 u.2.2.1 u.2.2.2.1 u.2.2.2.2.1 u.2.2.2.2.2
theorem kU7 {T0 T1 T2 T3 T4 T5 T6 : Type} {P : T0 × T1 × T2 × T3 × T4 × T5 × T6 → Prop} (h : ∀ a0 a1 a2 a3 a4 a5 a6, P (a0, a1, a2, a3, a4, a5, a6)) : ∀ u, P u := fun u => h u.1 u.2.1 u.2.2.1 u.2.2.2.1 u.2.2.2.2.1 u.2.2.2.2.2.1 u.2.2.2.2.2.2
theorem kU8 {T0 T1 T2 T3 T4 T5 T6 T7 : Type} {P : T0 × T1 × T2 × T3 × T4 × T5 × T6 × T7 → Prop} (h : ∀ a0 a1 a2 a3 a4 a5 a6 a7, P (a0, a1, a2, a3, a4, a5, a6, a7)) : ∀ u, P u := fun u => h u.1 u.2.1 u.2.2.1 u.2.2.2.1 u.2.2.2.2.1 u.2.2.2.2.2.1 u.2.2.2.2.2.2.1 u.2.2.2.2.2.2.2
theorem kU9 {T0 T1 T2 T3 T4 T5 T6 T7 T8 : Type} {P : T0 × T1 × T2 × T3 × T4 × T5 × T6 × T7 × T8 → Prop} (h : ∀ a0 a1 a2 a3 a4 a5 a6 a7 a8, P (a0, a1, a2, a3, a4, a5, a6, a7, a8)) : ∀ u, P u := fun u => h u.1 u.2.1 u.2.2.1 u.2.2.2.1 u.2.2.2.2.1 u.2.2.2.2.2.1 u.2.2.2.2.2.2.1 u.2.2.2.2.2.2.2.1 u.2.2.2.2.2.2.2.2
theorem kU10 {T0 T1 T2 T3 T4 T5 T6 T7 T8 T9 : Type} {P : T0 × T1 × T2 × T3 × T4 × T5 × T6 × T7 × T8 × T9 → Prop} (h : ∀ a0 a1 a2 a3 a4 a5 a6 a7 a8 a9, P (a0, a1, a2, a3, a4, a5, a6, a7, a8, a9)) : ∀ u, P u := fun u => h u.1 u.2.1 u.2.2.1 u.2.2.2.1 u.2.2.2.2.1 u.2.2.2.2.2.1 u.2.2.2.2.2.2.1 u.2.2.2.2.2.2.2.1 u.2.2.2.2.2.2.2.2.1 u.2.2.2.2.2.2.2.2.2
theorem kU11 {T0 T1 T2 T3 T4 T5 T6 T7 T8 T9 T10 : Type} {P : T0 × T1 × T2 × T3 × T4 × T5 × T6 × T7 × T8 × T9 × T10 → Prop} (h : ∀ a0 a1 a2 a3 a4 a5 a6 a7 a8 a9 a10, P (a0, a1, a2, a3, a4, a5, a6, a7, a8, a9, a10)) : ∀ u, P u := fun u => h u.1 u.2.1 u.2.2.1 u.2.2.2.1 u.2.2.2.2.1 u.2.2.2.2.2.1 u.2.2.2.2.2.2.1 u.2.2.2.2.2.2.2.1 u.2.2.2.2.2.2.2.2.1 u.2.2.2.2.2.2.2.2.2.1 u.2.2.2.2.2.2.2.2.2.2
theorem kU12 {T0 T1 T2 T3 T4 T5 T6 T7 T8 T9 T10 T11 : Type} {P : T0 × T1 × T2 × T3 × T4 × T5 × T6 × T7 × T8 × T9 × T10 × T11 → Prop} (h : ∀ a0 a1 a2 a3 a4 a5 a6 a7 a8 a9 a10 a11, P (a0, a1, a2, a3, a4, a5, a6, a7, a8, a9, a10, a11)) : ∀ u, P u := fun u => h u.1 u.2.1 u.2.2.1 u.2.2.2.1 u.2.2.2.2.1 u.2.2.2.2.2.1 u.2.2.2.2.2.2.1 u.2.2.2.2.2.2.2.1 u.2.2.2.2.2.2.2.2.1 u.2.2.2.2.2.2.2.2.2.1 u.2.2.2.2.2.2.2.2.2.2.1 u.2.2.2.2.2.2.2.2.2.2.2
theorem kU13 {T0 T1 T2 T3 T4 T5 T6 T7 T8 T9 T10 T11 T12 : Type} {P : T0 × T1 × T2 × T3 × T4 × T5 × T6 × T7 × T8 × T9 × T10 × T11 × T12 → Prop} (h : ∀ a0 a1 a2 a3 a4 a5 a6 a7 a8 a9 a10 a11 a12, P (a0, a1, a2, a3, a4, a5, a6, a7, a8, a9, a10, a11, a12)) : ∀ u, P u := fun u => h u.1 u.2.1 u.2.2.1 u.2.2.2.1 u.2.2.2.2.1 u.2.2.2.2.2.1 u.2.2.2.2.2.2.1 u.2.2.2.2.2.2.2.1 u.2.2.2.2.2.2.2.2.1 u.2.2.2.2.2.2.2.2.2.1 u.2.2.2.2.2.2.2.2.2.2.1 u.2.2.2.2.2.2.2.2.2.2.2.1 u.2.2.2.2.2.2.2.2.2.2.2.2
theorem kU14 {T0 T1 T2 T3 T4 T5 T6 T7 T8 T9 T10 T11 T12 T13 : Type} {P : T0 × T1 × T2 × T3 × T4 × T5 × T6 × T7 × T8 × T9 × T10 × T11 × T12 × T13 → Prop} (h : ∀ a0 a1 a2 a3 a4 a5 a6 a7 a8 a9 a10 a11 a12 a13, P (a0, a1, a2, a3, a4, a5, a6, a7, a8, a9, a10, a11, a12, a13)) : ∀ u, P u := fun u => h u.1 u.2.1 u.2.2.1 u.2.2.2.1 u.2.2.2.2.1 u.2.2.2.2.2.1 u.2.2.2.2.2.2.1 u.2.2.2.2.2.2.2.1 u.2.2.2.2.2.2.2.2.1 u.2.2.2.2.2.2.2.2.2.1 u.2.2.2.2.2.2.2.2.2.2.1 u.2.2.2.2.2.2.2.2.2.2.2.1 u.2.2.2.2.2.2.2.2.2.2.2.2.1 u.2.2.2.2.2.2.2.2.2.2.2.2.2
theorem kU15 {T0 T1 T2 T3 T4 T5 T6 T7 T8 T9 T10 T11 T12 T13 T14 : Type} {P : T0 × T1 × T2 × T3 × T4 × T5 × T6 × T7 × T8 × T9 × T10 × T11 × T12 × T13 × T14 → Prop} (h : ∀ a0 a1 a2 a3 a4 a5 a6 a7 a8 a9 a10 a11 a12 a13 a14, P (a0, a1, a2, a3, a4, a5, a6, a7, a8, a9, a10, a11, a12, a13, a14)) : ∀ u, P u := fun u => h u.1 u.2.1 u.2.2.1 u.2.2.2.1 u.2.2.2.2.1 u.2.2.2.2.2.1 u.2.2.2.2.2.2.1 u.2.2.2.2.2.2.2.1 u.2.2.2.2.2.2.2.2.1 u.2.2.2.2.2.2.2.2.2.1 u.2.2.2.2.2.2.2.2.2.2.1 u.2.2.2.2.2.2.2.2.2.2.2.1 u.2.2.2.2.2.2.2.2.2.2.2.2.1 u.2.2.2.2.2.2.2.2.2.2.2.2.2.1 u.2.2.2.2.2.2.2.2.2.2.2.2.2.2
theorem kU16 {T0 T1 T2 T3 T4 T5 T6 T7 T8 T9 T10 T11 T12 T13 T14 T15 : Type} {P : T0 × T1 × T2 × T3 × T4 × T5 × T6 × T7 × T8 × T9 × T10 × T11 × T12 × T13 × T14 × T15 → Prop} (h : ∀ a0 a1 a2 a3 a4 a5 a6 a7 a8 a9 a10 a11 a12 a13 a14 a15, P (a0, a1, a2, a3, a4, a5, a6, a7, a8, a9, a10, a11, a12, a13, a14, a15)) : ∀ u, P u := fun u => h u.1 u.2.1 u.2.2.1 u.2.2.2.1 u.2.2.2.2.1 u.2.2.2.2.2.1 u.2.2.2.2.2.2.1 u.2.2.2.2.2.2.2.1 u.2.2.2.2.2.2.2.2.1 u.2.2.2.2.2.2.2.2.2.1 u.2.2.2.2.2.2.2.2.2.2.1 u.2.2.2.2.2.2.2.2.2.2.2.1 u.2.2.2.2.2.2.2.2.2.2.2.2.1 u.2.2.2.2.2.2.2.2.2.2.2.2.2.1 u.2.2.2.2.2.2.2.2.2.2.2.2.2.2.1 u.2.2.2.2.2.2.2.2.2.2.2.2.2.2.2
theorem kU17 {T0 T1 T2 T3 T4 T5 T6 T7 T8 T9 T10 T11 T12 T13 T14 T15 T16 : Type} {P : T0 × T1 × T2 × T3 × T4 × T5 × T6 × T7 × T8 × T9 × T10 × T11 × T12 × T13 × T14 × T15 × T16 → Prop} (h : ∀ a0 a1 a2 a3 a4 a5 a6 a7 a8 a9 a10 a11 a12 a13 a14 a15 a16, P (a0, a1, a2, a3, a4, a5, a6, a7, a8, a9, a10, a11, a12, a13, a14, a15, a16)) : ∀ u, P u := fun u => h u.1 u.2.1 u.2.2.1 u.2.2.2.1 u.2.2.2.2.1 u.2.2.2.2.2.1 u.2.2.2.2.2.2.1 u.2.2.2.2.2.2.2.1 u.2.2.2.2.2.2.2.2.1 u.2.2.2.2.2.2.2.2.2.1 u.2.2.2.2.2.2.2.2.2.2.1 u.2.2.2.2.2.2.2.2.2.2.2.1 u.2.2.2.2.2.2.2.2.2.2.2.2.1 u.2.2.2.2.2.2.2.2.2.2.2.2.2.1 u.2.2.2.2.2.2.2.2.2.2.2.2.2.2.1 u.2.2.2.2.2.2.2.2.2.2.2.2.2.2.2.1 u.2.2.2.2.2.2.2.2.2.2.2.2.2.2.2.2
theorem kU18 {T0 T1 T2 T3 T4 T5 T6 T7 T8 T9 T10 T11 T12 T13 T14 T15 T16 T17 : Type} {P : T0 × T1 × T2 × T3 × T4 × T5 × T6 × T7 × T8 × T9 × T10 × T11 × T12 × T13 × T14 × T15 × T16 × T17 → Prop} (h : ∀ a0 a1 a2 a3 a4 a5 a6 a7 a8 a9 a10 a11 a12 a13 a14 a15 a16 a17, P (a0, a1, a2, a3, a4, a5, a6, a7, a8, a9, a10, a11, a12, a13, a14, a15, a16, a17)) : ∀ u, P u := fun u => h u.1 u.2.1 u.2.2.1 u.2.2.2.1 u.2.2.2.2.1 u.2.2.2.2.2.1 u.2.2.2.2.2.2.1 u.2.2.2.2.2.2.2.1 u.2.2.2.2.2.2.2.2.1 u.2.2.2.2.2.2.2.2.2.1 u.2.2.2.2.2.2.2.2.2.2.1 u.2.2.2.2.2.2.2.2.2.2.2.1 u.2.2.2.2.2.2.2.2.2.2.2.2.1 u.2.2.2.2.2.2.2.2.2.2.2.2.2.1 u.2.2.2.2.2.2.2.2.2.2.2.2.2.2.1 u.2.2.2.2.2.2.2.2.2.2.2.2.2.2.2.1 u.2.2.2.2.2.2.2.2.2.2.2.2.2.2.2.2.1 u.2.2.2.2.2.2.2.2.2.2.2.2.2.2.2.2.2
theorem kU19 {T0 T1 T2 T3 T4 T5 T6 T7 T8 T9 T10 T11 T12 T13 T14 T15 T16 T17 T18 : Type} {P : T0 × T1 × T2 × T3 × T4 × T5 × T6 × T7 × T8 × T9 × T10 × T11 × T12 × T13 × T14 × T15 × T16 × T17 × T18 → Prop} (h : ∀ a0 a1 a2 a3 a4 a5 a6 a7 a8 a9 a10 a11 a12 a13 a14 a15 a16 a17 a18, P (a0, a1, a2, a3, a4, a5, a6, a7, a8, a9, a10, a11, a12, a13, a14, a15, a16, a17, a18)) : ∀ u, P u := fun u => h u.1 u.2.1 u.2.2.1 u.2.2.2.1 u.2.2.2.2.1 u.2.2.2.2.2.1 u.2.2.2.2.2.2.1 u.2.2.2.2.2.2.2.1 u.2.2.2.2.2.2.2.2.1 u.2.2.2.2.2.2.2.2.2.1 u.2.2.2.2.2.2.2.2.2.2.1 u.2.2.2.2.2.2.2.2.2.2.2.1 u.2.2.2.2.2.2.2.2.2.2.2.2.1 u.2.2.2.2.2.2.2.2.2.2.2.2.2.1 u.2.2.2.2.2.2.2.2.2.2.2.2.2.2.1 u.2.2.2.2.2.2.2.2.2.2.2.2.2.2.2.1 u.2.2.2.2.2.2.2.2.2.2.2.2.2.2.2.2.1 u.2.2.2.2.2.2.2.2.2.2.2.2.2.2.2.2.2.1 u.2.2.2.2.2.2.2.2.2.2.2.2.2.2.2.2.2.2
theorem kU20 {T0 T1 T2 T3 T4 T5 T6 T7 T8 T9 T10 T11 T12 T13 T14 T15 T16 T17 T18 T19 : Type} {P : T0 × T1 × T2 × T3 × T4 × T5 × T6 × T7 × T8 × T9 × T10 × T11 × T12 × T13 × T14 × T15 × T16 × T17 × T18 × T19 → Prop} (h : ∀ a0 a1 a2 a3 a4 a5 a6 a7 a8 a9 a10 a11 a12 a13 a14 a15 a16 a17 a18 a19, P (a0, a1, a2, a3, a4, a5, a6, a7, a8, a9, a10, a11, a12, a13, a14, a15, a16, a17, a18, a19)) : ∀ u, P u := fun u => h u.1 u.2.1 u.2.2.1 u.2.2.2.1 u.2.2.2.2.1 u.2.2.2.2.2.1 u.2.2.2.2.2.2.1 u.2.2.2.2.2.2.2.1 u.2.2.2.2.2.2.2.2.1 u.2.2.2.2.2.2.2.2.2.1 u.2.2.2.2.2.2.2.2.2.2.1 u.2.2.2.2.2.2.2.2.2.2.2.1 u.2.2.2.2.2.2.2.2.2.2.2.2.1 u.2.2.2.2.2.2.2.2.2.2.2.2.2.1 u.2.2.2.2.2.2.2.2.2.2.2.2.2.2.1 u.2.2.2.2.2.2.2.2.2.2.2.2.2.2.2.1 u.2.2.2.2.2.2.2.2.2.2.2.2.2.2.2.2.1 u.2.2.2.2.2.2.2.2.2.2.2.2.2.2.2.2.2.1 u.2.2.2.2.2.2.2.2.2.2.2.2.2.2.2.2.2.2.1 u.2.2.2.2.2.2.2.2.2.2.2.2.2.2.2.2.2.2.2
theorem kU21 {T0 T1 T2 T3 T4 T5 T6 T7 T8 T9 T10 T11 T12 T13 T14 T15 T16 T17 T18 T19 T20 : Type} {P : T0 × T1 × T2 × T3 × T4 × T5 × T6 × T7 × T8 × T9 × T10 × T11 × T12 × T13 × T14 × T15 × T16 × T17 × T18 × T19 × T20 → Prop} (h : ∀ a0 a1 a2 a3 a4 a5 a6 a7 a8 a9 a10 a11 a12 a13 a14 a15 a16 a17 a18 a19 a20, P (a0, a1, a2, a3, a4, a5, a6, a7, a8, a9, a10, a11, a12, a13, a14, a15, a16, a17, a18, a19, a20)) : ∀ u, P u := fun u => h u.1 u.2.1 u.2.2.1 u.2.2.2.1 u.2.2.2.2.1 u.2.2.2.2.2.1 u.2.2.2.2.2.2.1 u.2.2.2.2.2.2.2.1 u.2.2.2.2.2.2.2.2.1 u.2.2.2.2.2.2.2.2.2.1 u.2.2.2.2.2.2.2.2.2.2.1 u.2.2.2.2.2.2.2.2.2.2.2.1 u.2.2.2.2.2.2.2.2.2.2.2.2.1 u.2.2.2.2.2.2.2.2.2.2.2.2.2.1 u.2.2.2.2.2.2.2.2.2.2.2.2.2.2.1 u.2.2.2.2.2.2.2.2.2.2.2.2.2.2.2.1 u.2.2.2.2.2.2.2.2.2.2.2.2.2.2.2.2.1 u.2.2.2.2.2.2.2.2.2.2.2.2.2.2.2.2.2.1 u.2.2.2.2.2.2.2.2.2.2.2.2.2.2.2.2.2.2.1 u.2.2.2.2.2.2.2.2.2.2.2.2.2.2.2.2.2.2.2.1 u.2.2.2.2.2.2.2.2.2.2.2.2.2.2.2.2.2.2.2.2
theorem kU22 {T0 T1 T2 T3 T4 T5 T6 T7 T8 T9 T10 T11 T12 T13 T14 T15 T16 T17 T18 T19 T20 T21 : Type} {P : T0 × T1 × T2 × T3 × T4 × T5 × T6 × T7 × T8 × T9 × T10 × T11 × T12 × T13 × T14 × T15 × T16 × T17 × T18 × T19 × T20 × T21 → Prop} (h : ∀ a0 a1 a2 a3 a4 a5 a6 a7 a8 a9 a10 a11 a12 a13 a14 a15 a16 a17 a18 a19 a20 a21, P (a0, a1, a2, a3, a4, a5, a6, a7, a8, a9, a10, a11, a12, a13, a14, a15, a16, a17, a18, a19, a20, a21)) : ∀ u, P u := fun u => h u.1 u.2.1 u.2.2.1 u.2.2.2.1 u.2.2.2.2.1 u.2.2.2.2.2.1 u.2.2.2.2.2.2.1 u.2.2.2.2.2.2.2.1 u.2.2.2.2.2.2.2.2.1 u.2.2.2.2.2.2.2.2.2.1 u.2.2.2.2.2.2.2.2.2.2.1 u.2.2.2.2.2.2.2.2.2.2.2.1 u.2.2.2.2.2.2.2.2.2.2.2.2.1 u.2.2.2.2.2.2.2.2.2.2.2.2.2.1 u.2.2.2.2.2.2.2.2.2.2.2.2.2.2.1 u.2.2.2.2.2.2.2.2.2.2.2.2.2.2.2.1 u.2.2.2.2.2.2.2.2.2.2.2.2.2.2.2.2.1 u.2.2.2.2.2.2.2.2.2.2.2.2.2.2.2.2.2.1 u.2.2.2.2.2.2.2.2.2.2.2.2.2.2.2.2.2.2.1 u.2.2.2.2.2.2.2.2.2.2.2.2.2.2.2.2.2.2.2.1 u.2.2.2.2.2.2.2.2.2.2.2.2.2.2.2.2.2.2.2.2.1 u.2.2.2.2.2.2.2.2.2.2.2.2.2.2.2.2.2.2.2.2.2
theorem kU23 {T0 T1 T2 T3 T4 T5 T6 T7 T8 T9 T10 T11 T12 T13 T14 T15 T16 T17 T18 T19 T20 T21 T22 : Type} {P : T0 × T1 × T2 × T3 × T4 × T5 × T6 × T7 × T8 × T9 × T10 × T11 × T12 × T13 × T14 × T15 × T16 × T17 × T18 × T19 × T20 × T21 × T22 → Prop} (h : ∀ a0 a1 a2 a3 a4 a5 a6 a7 a8 a9 a10 a11 a12 a13 a14 a15 a16 a17 a18 a19 a20 a21 a22, P (a0, a1, a2, a3, a4, a5, a6, a7, a8, a9, a10, a11, a12, a13, a14, a15, a16, a17, a18, a19, a20, a21, a22)) : ∀ u, P u := fun u => h u.1 u.2.1 u.2.2.1 u.2.2.2.1 u.2.2.2.2.1 u.2.2.2.2.2.1 u.2.2.2.2.2.2.1 u.2.2.2.2.2.2.2.1 u.2.2.2.2.2.2.2.2.1 u.2.2.2.2.2.2.2.2.2.1 u.2.2.2.2.2.2.2.2.2.2.1 u.2.2.2.2.2.2.2.2.2.2.2.1 u.2.2.2.2.2.2.2.2.2.2.2.2.1 u.2.2.2.2.2.2.2.2.2.2.2.2.2.1 u.2.2.2.2.2.2.2.2.2.2.2.2.2.2.1 u.2.2.2.2.2.2.2.2.2.2.2.2.2.2.2.1 u.2.2.2.2.2.2.2.2.2.2.2.2.2.2.2.2.1 u.2.2.2.2.2.2.2.2.2.2.2.2.2.2.2.2.2.1 u.2.2.2.2.2.2.2.2.2.2.2.2.2.2.2.2.2.2.1 u.2.2.2.2.2.2.2.2.2.2.2.2.2.2.2.2.2.2.2.1 u.2.2.2.2.2.2.2.2.2.2.2.2.2.2.2.2.2.2.2.2.1 u.2.2.2.2.2.2.2.2.2.2.2.2.2.2.2.2.2.2.2.2.2.1 u.2.2.2.2.2.2.2.2.2.2.2.2.2.2.2.2.2.2.2.2.2.2
theorem kU24 {T0 T1 T2 T3 T4 T5 T6 T7 T8 T9 T10 T11 T12 T13 T14 T15 T16 T17 T18 T19 T20 T21 T22 T23 : Type} {P : T0 × T1 × T2 × T3 × T4 × T5 × T6 × T7 × T8 × T9 × T10 × T11 × T12 × T13 × T14 × T15 × T16 × T17 × T18 × T19 × T20 × T21 × T22 × T23 → Prop} (h : ∀ a0 a1 a2 a3 a4 a5 a6 a7 a8 a9 a10 a11 a12 a13 a14 a15 a16 a17 a18 a19 a20 a21 a22 a23, P (a0, a1, a2, a3, a4, a5, a6, a7, a8, a9, a10, a11, a12, a13, a14, a15, a16, a17, a18, a19, a20, a21, a22, a23)) : ∀ u, P u := fun u => h u.1 u.2.1 u.2.2.1 u.2.2.2.1 u.2.2.2.2.1 u.2.2.2.2.2.1 u.2.2.2.2.2.2.1 u.2.2.2.2.2.2.2.1 u.2.2.2.2.2.2.2.2.1 u.2.2.2.2.2.2.2.2.2.1 u.2.2.2.2.2.2.2.2.2.2.1 u.2.2.2.2.2.2.2.2.2.2.2.1 u.2.2.2.2.2.2.2.2.2.2.2.2.1 u.2.2.2.2.2.2.2.2.2.2.2.2.2.1 u.2.2.2.2.2.2.2.2.2.2.2.2.2.2.1 u.2.2.2.2.2.2.2.2.2.2.2.2.2.2.2.1 u.2.2.2.2.2.2.2.2.2.2.2.2.2.2.2.2.1 u.2.2.2.2.2.2.2.2.2.2.2.2.2.2.2.2.2.1 u.2.2.2.2.2.2.2.2.2.2.2.2.2.2.2.2.2.2.1 u.2.2.2.2.2.2.2.2.2.2.2.2.2.2.2.2.2.2.2.1 u.2.2.2.2.2.2.2.2.2.2.2.2.2.2.2.2.2.2.2.2.1 u.2.2.2.2.2.2.2.2.2.2.2.2.2.2.2.2.2.2.2.2.2.1 u.2.2.2.2.2.2.2.2.2.2.2.2.2.2.2.2.2.2.2.2.2.2.1 u.2.2.2.2.2.2.2.2.2.2.2.2.2.2.2.2.2.2.2.2.2.2.2
theorem kU25 {T0 T1 T2 T3 T4 T5 T6 T7 T8 T9 T10 T11 T12 T13 T14 T15 T16 T17 T18 T19 T20 T21 T22 T23 T24 : Type} {P : T0 × T1 × T2 × T3 × T4 × T5 × T6 × T7 × T8 × T9 × T10 × T11 × T12 × T13 × T14 × T15 × T16 × T17 × T18 × T19 × T20 × T21 × T22 × T23 × T24 → Prop} (h : ∀ a0 a1 a2 a3 a4 a5 a6 a7 a8 a9 a10 a11 a12 a13 a14 a15 a16 a17 a18 a19 a20 a21 a22 a23 a24, P (a0, a1, a2, a3, a4, a5, a6, a7, a8, a9, a10, a11, a12, a13, a14, a15, a16, a17, a18, a19, a20, a21, a22, a23, a24)) : ∀ u, P u := fun u => h u.1 u.2.1 u.2.2.1 u.2.2.2.1 u.2.2.2.2.1 u.2.2.2.2.2.1 u.2.2.2.2.2.2.1 u.2.2.2.2.2.2.2.1 u.2.2.2.2.2.2.2.2.1 u.2.2.2.2.2.2.2.2.2.1 u.2.2.2.2.2.2.2.2.2.2.1 u.2.2.2.2.2.2.2.2.2.2.2.1 u.2.2.2.2.2.2.2.2.2.2.2.2.1 u.2.2.2.2.2.2.2.2.2.2.2.2.2.1 u.2.2.2.2.2.2.2.2.2.2.2.2.2.2.1 u.2.2.2.2.2.2.2.2.2.2.2.2.2.2.2.1 u.2.2.2.2.2.2.2.2.2.2.2.2.2.2.2.2.1 u.2.2.2.2.2.2.2.2.2.2.2.2.2.2.2.2.2.1 u.2.2.2.2.2.2.2.2.2.2.2.2.2.2.2.2.2.2.1 u.2.2.2.2.2.2.2.2.2.2.2.2.2.2.2.2.2.2.2.1 u.2.2.2.2.2.2.2.2.2.2.2.2.2.2.2.2.2.2.2.2.1 u.2.2.2.2.2.2.2.2.2.2.2.2.2.2.2.2.2.2.2.2.2.1 u.2.2.2.2.2.2.2.2.2.2.2.2.2.2.2.2.2.2.2.2.2.2.1 u.2.2.2.2.2.2.2.2.2.2.2.2.2.2.2.2.2.2.2.2.2.2.2.1 u.2.2.2.2.2.2.2.2.2.2.2.2.2.2.2.2.2.2.2.2.2.2.2.2
theorem kIn_nar (a b c : Int32) : narrow .boolean (.int (kIn a b c)) = .int (kIn a b c) := by
  unfold kIn
  split
  · rfl
  · split <;> rfl
theorem kIn_ix {p M : Int32} {n : Nat} (hM : M.toInt = n) (h : ¬ kIn p 0 M = 0) : ∃ j : Nat, j < n + 1 ∧ p = nI j := by
  unfold kIn at h
  by_cases h1 : p < 0
  · rw [if_pos h1] at h; exact absurd rfl h
  · by_cases h2 : M < p
    · rw [if_neg h1, if_pos h2] at h; exact absurd rfl h
    · obtain ⟨j, hj, e⟩ := nI_of2 hM h1 (Int32.not_lt.mp h2)
      exact ⟨j, by omega, e⟩
theorem kB01 {r : Int32} (h : r = 0 ∨ r = 1) : narrow .boolean (.int r) = .int r := by rcases h with rfl | rfl <;> rfl
theorem klt {a b : Nat} (ha : a < 2 ^ 31) (hb : b < 2 ^ 31) (h : nI a < nI b) : a < b := (nI_ltI ha hb).mp h
theorem knlt {a b : Nat} (ha : a < 2 ^ 31) (hb : b < 2 ^ 31) (h : ¬ nI a < nI b) : b ≤ a := Nat.not_lt.mp (fun z => h ((nI_ltI ha hb).mpr z))
theorem kle {a b : Nat} (ha : a < 2 ^ 31) (hb : b < 2 ^ 31) (h : nI a ≤ nI b) : a ≤ b := (nI_leI ha hb).mp h
theorem knle {a b : Nat} (ha : a < 2 ^ 31) (hb : b < 2 ^ 31) (h : ¬ nI a ≤ nI b) : b < a := Nat.not_le.mp (fun z => h ((nI_leI ha hb).mpr z))
theorem keq {a b : Nat} (ha : a < 2 ^ 31) (hb : b < 2 ^ 31) (h : nI a = nI b) : a = b := (nI_eq ha hb).mp h
theorem kneq {a b : Nat} (ha : a < 2 ^ 31) (hb : b < 2 ^ 31) (h : ¬ nI a = nI b) : a ≠ b := fun z => h ((nI_eq ha hb).mpr z)
theorem kInc (a n : Nat) : nI a + Int32.ofInt (n : Int) = nI (a + n) := by
  rw [← nI_add]; congr 1
theorem kDec {a : Nat} (n : Nat) (h : n ≤ a) : nI a + Int32.ofInt (-(n : Int)) = nI (a - n) := by
  rw [← pk_sub h, Int32.ofInt_neg, Int32.sub_eq_add_neg]; congr 2
theorem kSw38 (x : Int32) : x = 38 ∨ x = 39 ∨ x = 40 ∨ x = 41 ∨ x = 42 ∨ x = 43 ∨ x = 44 ∨ x = 45 ∨ x = 46 ∨ x = 47 ∨ x = 48 ∨ x = 49 ∨ x = 50 ∨ x = 51 ∨ x = 52 ∨ x = 53 ∨ x = 54 ∨ x = 55 ∨ x = 56 ∨ x = 57 ∨ x = 58 ∨ x = 59 ∨ x = 60 ∨ x = 61 ∨ x = 62 ∨ (x.toInt < 38 ∨ 62 < x.toInt) := by
  by_cases h : x.toInt < 38 ∨ 62 < x.toInt
  · simp [h]
  · have h9 : x.toInt = 38 ∨ x.toInt = 39 ∨ x.toInt = 40 ∨ x.toInt = 41 ∨ x.toInt = 42 ∨ x.toInt = 43 ∨ x.toInt = 44 ∨ x.toInt = 45 ∨ x.toInt = 46 ∨ x.toInt = 47 ∨ x.toInt = 48 ∨ x.toInt = 49 ∨ x.toInt = 50 ∨ x.toInt = 51 ∨ x.toInt = 52 ∨ x.toInt = 53 ∨ x.toInt = 54 ∨ x.toInt = 55 ∨ x.toInt = 56 ∨ x.toInt = 57 ∨ x.toInt = 58 ∨ x.toInt = 59 ∨ x.toInt = 60 ∨ x.toInt = 61 ∨ x.toInt = 62 := by omega
    rcases h9 with e | e | e | e | e | e | e | e | e | e | e | e | e | e | e | e | e | e | e | e | e | e | e | e | e
    · exact (Or.inl (Int32.toInt_inj.mp e))
    · exact (Or.inr (Or.inl (Int32.toInt_inj.mp e)))
    · exact (Or.inr (Or.inr (Or.inl (Int32.toInt_inj.mp e))))
    · exact (Or.inr (Or.inr (Or.inr (Or.inl (Int32.toInt_inj.mp e)))))
    · exact (Or.inr (Or.inr (Or.inr (Or.inr (Or.inl (Int32.toInt_inj.mp e))))))
    · exact (Or.inr (Or.inr (Or.inr (Or.inr (Or.inr (Or.inl (Int32.toInt_inj.mp e)))))))
    · exact (Or.inr (Or.inr (Or.inr (Or.inr (Or.inr (Or.inr (Or.inl (Int32.toInt_inj.mp e))))))))
    · exact (Or.inr (Or.inr (Or.inr (Or.inr (Or.inr (Or.inr (Or.inr (Or.inl (Int32.toInt_inj.mp e)))))))))
    · exact (Or.inr (Or.inr (Or.inr (Or.inr (Or.inr (Or.inr (Or.inr (Or.inr (Or.inl (Int32.toInt_inj.mp e))))))))))
    · exact (Or.inr (Or.inr (Or.inr (Or.inr (Or.inr (Or.inr (Or.inr (Or.inr (Or.inr (Or.inl (Int32.toInt_inj.mp e)))))))))))
    · exact (Or.inr (Or.inr (Or.inr (Or.inr (Or.inr (Or.inr (Or.inr (Or.inr (Or.inr (Or.inr (Or.inl (Int32.toInt_inj.mp e))))))))))))
    · exact (Or.inr (Or.inr (Or.inr (Or.inr (Or.inr (Or.inr (Or.inr (Or.inr (Or.inr (Or.inr (Or.inr (Or.inl (Int32.toInt_inj.mp e)))))))))))))
    · exact (Or.inr (Or.inr (Or.inr (Or.inr (Or.inr (Or.inr (Or.inr (Or.inr (Or.inr (Or.inr (Or.inr (Or.inr (Or.inl (Int32.toInt_inj.mp e))))))))))))))
    · exact (Or.inr (Or.inr (Or.inr (Or.inr (Or.inr (Or.inr (Or.inr (Or.inr (Or.inr (Or.inr (Or.inr (Or.inr (Or.inr (Or.inl (Int32.toInt_inj.mp e)))))))))))))))
    · exact (Or.inr (Or.inr (Or.inr (Or.inr (Or.inr (Or.inr (Or.inr (Or.inr (Or.inr (Or.inr (Or.inr (Or.inr (Or.inr (Or.inr (Or.inl (Int32.toInt_inj.mp e))))))))))))))))
    · exact (Or.inr (Or.inr (Or.inr (Or.inr (Or.inr (Or.inr (Or.inr (Or.inr (Or.inr (Or.inr (Or.inr (Or.inr (Or.inr (Or.inr (Or.inr (Or.inl (Int32.toInt_inj.mp e)))))))))))))))))
    · exact (Or.inr (Or.inr (Or.inr (Or.inr (Or.inr (Or.inr (Or.inr (Or.inr (Or.inr (Or.inr (Or.inr (Or.inr (Or.inr (Or.inr (Or.inr (Or.inr (Or.inl (Int32.toInt_inj.mp e))))))))))))))))))
    · exact (Or.inr (Or.inr (Or.inr (Or.inr (Or.inr (Or.inr (Or.inr (Or.inr (Or.inr (Or.inr (Or.inr (Or.inr (Or.inr (Or.inr (Or.inr (Or.inr (Or.inr (Or.inl (Int32.toInt_inj.mp e)))))))))))))))))))
    · exact (Or.inr (Or.inr (Or.inr (Or.inr (Or.inr (Or.inr (Or.inr (Or.inr (Or.inr (Or.inr (Or.inr (Or.inr (Or.inr (Or.inr (Or.inr (Or.inr (Or.inr (Or.inr (Or.inl (Int32.toInt_inj.mp e))))))))))))))))))))
    · exact (Or.inr (Or.inr (Or.inr (Or.inr (Or.inr (Or.inr (Or.inr (Or.inr (Or.inr (Or.inr (Or.inr (Or.inr (Or.inr (Or.inr (Or.inr (Or.inr (Or.inr (Or.inr (Or.inr (Or.inl (Int32.toInt_inj.mp e)))))))))))))))))))))
    · exact (Or.inr (Or.inr (Or.inr (Or.inr (Or.inr (Or.inr (Or.inr (Or.inr (Or.inr (Or.inr (Or.inr (Or.inr (Or.inr (Or.inr (Or.inr (Or.inr (Or.inr (Or.inr (Or.inr (Or.inr (Or.inl (Int32.toInt_inj.mp e))))))))))))))))))))))
    · exact (Or.inr (Or.inr (Or.inr (Or.inr (Or.inr (Or.inr (Or.inr (Or.inr (Or.inr (Or.inr (Or.inr (Or.inr (Or.inr (Or.inr (Or.inr (Or.inr (Or.inr (Or.inr (Or.inr (Or.inr (Or.inr (Or.inl (Int32.toInt_inj.mp e)))))))))))))))))))))))
    · exact (Or.inr (Or.inr (Or.inr (Or.inr (Or.inr (Or.inr (Or.inr (Or.inr (Or.inr (Or.inr (Or.inr (Or.inr (Or.inr (Or.inr (Or.inr (Or.inr (Or.inr (Or.inr (Or.inr (Or.inr (Or.inr (Or.inr (Or.inl (Int32.toInt_inj.mp e))))))))))))))))))))))))
    · exact (Or.inr (Or.inr (Or.inr (Or.inr (Or.inr (Or.inr (Or.inr (Or.inr (Or.inr (Or.inr (Or.inr (Or.inr (Or.inr (Or.inr (Or.inr (Or.inr (Or.inr (Or.inr (Or.inr (Or.inr (Or.inr (Or.inr (Or.inr (Or.inl (Int32.toInt_inj.mp e)))))))))))))))))))))))))
    · exact (Or.inr (Or.inr (Or.inr (Or.inr (Or.inr (Or.inr (Or.inr (Or.inr (Or.inr (Or.inr (Or.inr (Or.inr (Or.inr (Or.inr (Or.inr (Or.inr (Or.inr (Or.inr (Or.inr (Or.inr (Or.inr (Or.inr (Or.inr (Or.inr (Or.inl (Int32.toInt_inj.mp e))))))))))))))))))))))))))
theorem kPosNe {x : Int32} (h : ¬ x ≤ 0) : ¬ x = 0 := fun z => h (by rw [z]; decide)
theorem kMin8 {n : Nat} (hn : n ≤ 20) {x : Int32} (e : x = if (8 : Int32) < nI n then 8 else nI n) : ∃ j : Nat, (j ≤ 8 ∧ j ≤ n) ∧ x = nI j := by
  by_cases h : (8 : Int32) < nI n
  · rw [if_pos h] at e
    have h2 := klt (a := 8) (b := n) (by omega) (by omega) h
    exact ⟨8, ⟨by omega, by omega⟩, e⟩
  · rw [if_neg h] at e
    have h2 := knlt (a := 8) (b := n) (by omega) (by omega) h
    exact ⟨n, ⟨by omega, by omega⟩, e⟩
theorem kMax0 {p x : Int32} (e : x = if p < 0 then 0 else p) : ∃ j : Nat, j < 2147483648 ∧ x = nI j := by
  by_cases h : p < 0
  · rw [if_pos h] at e; exact ⟨0, by omega, e⟩
  · rw [if_neg h] at e
    obtain ⟨j, hj, e2⟩ := nI_of h
    exact ⟨j, by omega, e.trans e2⟩
/-- the links between nest mates -/
def kNLl : List Cond := [.methodLinkNest RX9 11 yX8_init RX9, .methodLinkNest RX9 27 yX5_init RX9, .methodLinkNest RX9 46 yX2_init RX9, .fieldLinkNest RX1 87 "NotEnded$Folk" "holds" "[I" RX9, .fieldLinkNest RX1 90 "NotEnded$Folk" "putIn" "[I" RX9, .fieldLinkNest RX1 91 "NotEnded$Folk" "houses" "[I" RX9, .fieldLinkNest RX1 158 "NotEnded$Folk" "knows" "[I" RX9, .methodLinkNest RX9 62 yX3_init RX9, .methodLinkNest RX9 69 yX0_init RX9, .methodLinkNest RX8 19 yX9_within RX9, .fieldLinkNest RX5 23 "NotEnded$Rule" "steps" "[I" RX9, .fieldLinkNest RX5 18 "NotEnded$Rule" "clauses" "[I" RX9, .methodLinkNest RX1 116 yX9_isBit RX9, .methodLinkNest RX1 164 yX9_isHouse RX9, .methodLinkNest RX2 45 yX9_isBit RX9, .methodLinkNest RX1 147 yX9_within RX9, .methodLinkNest RX3 31 yX9_isBit RX9, .methodLinkNest RX0 28 yX9_isBit RX9, .methodLinkNest RX0 45 yX9_isLowerFirst RX9]
def kNL (U : State) : Prop := ∀ w ∈ kNLl, va_Nw w U
theorem kNL_ok : ∀ w ∈ kNLl, w.onTables = true := by decide +kernel
theorem kNL_blind : ∀ (U : State) (g : JFrame) (mk : MethodId) (a : Array Value), kNL U → kNL (U.calling g mk a) := fun U _ _ _ h w hw => va_Nw.same (u := U) (kNL_ok w hw) rfl (h w hw)
theorem kNL_give {s : State} {H : Heap} (h : kNL s) : ∀ U : State, U.heap = H → s.WarmedH U.vm → kNL U := fun U _ hW => by
  have h9 := h
  unfold kNL kNLl at h9 ⊢
  simp only [List.forall_mem_cons] at h9 ⊢
  obtain ⟨n0, n1, n2, n3, n4, n5, n6, n7, n8, n9, n10, n11, n12, n13, n14, n15, n16, n17, n18, -⟩ := h9
  exact ⟨va_Nw.warmM hW n0, va_Nw.warmM hW n1, va_Nw.warmM hW n2, va_Nw.warmF hW n3, va_Nw.warmF hW n4, va_Nw.warmF hW n5, va_Nw.warmF hW n6, va_Nw.warmM hW n7, va_Nw.warmM hW n8, va_Nw.warmM hW n9, va_Nw.warmF hW n10, va_Nw.warmF hW n11, va_Nw.warmM hW n12, va_Nw.warmM hW n13, va_Nw.warmM hW n14, va_Nw.warmM hW n15, va_Nw.warmM hW n16, va_Nw.warmM hW n17, va_Nw.warmM hW n18, fun _ z => absurd z List.not_mem_nil⟩
/-- frozen cells: they lie in the heap, none of them may be written; and the nest mates' links -/
def kNF (dC : Nat → ClassId) (dI : Nat → Nat → Nat) (R : va_W) (A : Nat → Prop) (U : State) : Prop := (va_P (dC, dI) vwCl R U.heap ∧ ∀ (k : Nat) (q : Nat × va_E), R[k]? = some q → ¬ A q.1) ∧ kNL U
theorem kFz_at {dC : Nat → ClassId} {dI : Nat → Nat → Nat} {R : va_W} {A : Nat → Prop} {s : State} {H : Heap} {locs : List Loc} (h : va_P (dC, dI) vwCl R s.heap ∧ ∀ (k : Nat) (q : Nat × va_E), R[k]? = some q → ¬ A q.1) (hS : va_S A s.heap H locs) : va_P (dC, dI) vwCl R H := h.1.kept (fun k q hk => hS.2.1 q.1 (h.1 k q hk).lt (h.2 k q hk))
theorem kNF_blind {dC : Nat → ClassId} {dI : Nat → Nat → Nat} {R : va_W} {A : Nat → Prop} : ∀ (U : State) (g : JFrame) (mk : MethodId) (a : Array Value), kNF dC dI R A U → kNF dC dI R A (U.calling g mk a) := fun U g mk a h => ⟨h.1, kNL_blind U g mk a h.2⟩
theorem kNF_give {dC : Nat → ClassId} {dI : Nat → Nat → Nat} {R : va_W} {A B : Nat → Prop} {s : State} {H : Heap} {locs : List Loc} (h : kNF dC dI R A s) (hS : va_S A s.heap H locs) (hB : ∀ q, B q → A q) : ∀ U : State, U.heap = H → s.WarmedH U.vm → kNF dC dI R B U := fun U hU hW => ⟨⟨by rw [hU]; exact kFz_at h.1 hS, fun k q hk z => h.1.2 k q hk (hB _ z)⟩, kNL_give h.2 U hU hW⟩
/-- the bytes of a text -/
def kTx (l : List Int32) : Nat → Int32 := fun j => l.getD j 0
/-- what the library's text methods read beside a text -/
def kJ (A : Nat → Prop) (U : State) : Prop := va_Z "java/lang/String" "COMPACT_STRINGS" "Z" (.int 1) A U U.heap ∧ va_Zq "jdk/internal/util/Preconditions" "SIOOBE_FORMATTER" "Ljava/util/function/BiFunction;" A U U.heap
/-- a constant text at q, its n bytes g at b, none of these cells in A -/
def kSt (q b n : Nat) (g : Nat → Int32) (A : Nat → Prop) (U : State) : Prop := va_O "java/lang/String" q A U U.heap ∧ va_OF "java/lang/String" "coder" "B" (.int 0) q A U U.heap ∧ va_OF "java/lang/String" "value" "[B" (.ref b) q A U U.heap ∧ va_T .byte b n (fun j => .int (g j)) A U U.heap ∧ kJ A U
theorem kJ_to {A B : Nat → Prop} {u U : State} (hvm : u.vm.Alike U.vm) (hq : ∀ a : Nat, a < u.heap.size → ¬ A a → U.heap[a]? = u.heap[a]?) (hB : ∀ q, B q → A q) (h : kJ A u) : kJ B U :=
  ⟨va_Z.narrow (va_Z.moved hvm (h.1.kept hq)) hB, va_Zq.narrow (va_Zq.moved hvm (h.2.kept hq)) hB⟩
theorem kSt_to {q b n : Nat} {g : Nat → Int32} {A B : Nat → Prop} {u U : State} (hvm : u.vm.Alike U.vm) (hq : ∀ a : Nat, a < u.heap.size → ¬ A a → U.heap[a]? = u.heap[a]?) (hB : ∀ q, B q → A q) (h : kSt q b n g A u) : kSt q b n g B U :=
  ⟨va_O.narrow (va_O.moved hvm (h.1.kept hq)) hB, va_OF.narrow (va_OF.moved hvm (h.2.1.kept hq)) hB, va_OF.narrow (va_OF.moved hvm (h.2.2.1.kept hq)) hB, va_T.narrow (va_T.moved hvm (h.2.2.2.1.kept hq)) hB, kJ_to hvm hq hB h.2.2.2.2⟩
theorem kSt_blind {q b n : Nat} {g : Nat → Int32} {A : Nat → Prop} : ∀ (U : State) (k : JFrame) (mk : MethodId) (a : Array Value), kSt q b n g A U → kSt q b n g A (U.calling k mk a) := fun U _ _ _ h => kSt_to (u := U) (Vm.Alike.refl U.vm) (fun _ _ _ => rfl) (fun _ h => h) h
theorem kSt_give {q b n : Nat} {g : Nat → Int32} {A : Nat → Prop} {s : State} {H : Heap} {locs : List Loc} (h : kSt q b n g A s) (hS : va_S A s.heap H locs) : ∀ U : State, U.heap = H → s.WarmedH U.vm → kSt q b n g A U := fun U hU hW => kSt_to hW.alike (fun a h1 h2 => by rw [hU]; exact hS.2.1 a h1 h2) (fun _ h => h) h
theorem kSt_giveB {q b n : Nat} {g : Nat → Int32} {A B : Nat → Prop} {s : State} {H : Heap} {locs : List Loc} (h : kSt q b n g A s) (hS : va_S A s.heap H locs) (hB : ∀ q, B q → A q) : ∀ U : State, U.heap = H → s.WarmedH U.vm → kSt q b n g B U := fun U hU hW => kSt_to hW.alike (fun a h1 h2 => by rw [hU]; exact hS.2.1 a h1 h2) hB h
theorem kSt_recv {q b n : Nat} {g : Nat → Int32} {A : Nat → Prop} {s : State} {H : Heap} {locs : List Loc} (h : kSt q b n g A s) (hS : va_S A s.heap H locs) : ∃ cell : Cell, H[q]? = some cell ∧ cell.vm.isStatics = false ∧ s.vm.findClass "java/lang/String" = some cell.cls := by
  obtain ⟨cell, h1, h2, h3, -⟩ := h.1.kept hS.2.1
  exact ⟨cell, h1, h2, h3⟩
/-- two texts -/
def kS2 (q6 b6 n6 : Nat) (g6 : Nat → Int32) (q7 b7 n7 : Nat) (g7 : Nat → Int32) (A : Nat → Prop) (U : State) : Prop := kSt q6 b6 n6 g6 A U ∧ kSt q7 b7 n7 g7 A U
theorem kS2_blind {q6 b6 n6 : Nat} {g6 : Nat → Int32} {q7 b7 n7 : Nat} {g7 : Nat → Int32} {A : Nat → Prop} : ∀ (U : State) (k : JFrame) (mk : MethodId) (a : Array Value), kS2 q6 b6 n6 g6 q7 b7 n7 g7 A U → kS2 q6 b6 n6 g6 q7 b7 n7 g7 A (U.calling k mk a) := fun U k mk a h => ⟨kSt_blind U k mk a h.1, kSt_blind U k mk a h.2⟩
theorem kS2_give {q6 b6 n6 : Nat} {g6 : Nat → Int32} {q7 b7 n7 : Nat} {g7 : Nat → Int32} {A B : Nat → Prop} {s : State} {H : Heap} {locs : List Loc} (h : kS2 q6 b6 n6 g6 q7 b7 n7 g7 A s) (hS : va_S A s.heap H locs) (hB : ∀ q, B q → A q) : ∀ U : State, U.heap = H → s.WarmedH U.vm → kS2 q6 b6 n6 g6 q7 b7 n7 g7 B U := fun U hU hW => ⟨kSt_giveB h.1 hS hB U hU hW, kSt_giveB h.2 hS hB U hU hW⟩
theorem kNarU {f f1 : Nat → Int32} {k : Nat} {x : Int32} (e : f1 = upd f k (vp_nar .char x)) (h : ∀ j : Nat, narrow .char (.int (f j)) = .int (f j)) : ∀ j : Nat, narrow .char (.int (f1 j)) = .int (f1 j) := by
  intro j
  rw [e]
  by_cases hj : j = k
  · rw [hj, pk_us, vp_nar_char]
    exact pk_nc x
  · rw [pk_un hj]; exact h j
end
section
theorem kc_l_6_8 : 6 < 8 := by decide
theorem kc_l_7_8 : 7 < 8 := by decide
theorem kc_i_1 : Int32.ofInt (1) = 1 := by decide
theorem kc_l_5_8 : 5 < 8 := by decide
theorem kc_i_0 : Int32.ofInt (0) = 0 := by decide
theorem kc_l_2_4 : 2 < 4 := by decide
theorem kc_l_3_4 : 3 < 4 := by decide
theorem kc_t_41_7 : ((41 : Nat) : Int) + (7) = ((48 : Nat) : Int) := by decide
theorem kc_t_6_5 : ((6 : Nat) : Int) + (5) = ((11 : Nat) : Int) := by decide
theorem kc_t_5_5 : ((5 : Nat) : Int) + (5) = ((10 : Nat) : Int) := by decide
theorem kc_l_3_8 : 3 < 8 := by decide
theorem kc_l_4_5 : 4 < 5 := by decide
theorem kc_l_1_5 : 1 < 5 := by decide
theorem kc_l_2_5 : 2 < 5 := by decide
theorem kc_l_3_5 : 3 < 5 := by decide
theorem kc_t_39_4 : ((39 : Nat) : Int) + (4) = ((43 : Nat) : Int) := by decide
theorem kc_s_10000 : (Int16.ofInt (10000)).toInt32 = 10000 := by decide
theorem kc_s_20000 : (Int16.ofInt (20000)).toInt32 = 20000 := by decide
theorem kc_s_20033 : (Int16.ofInt (20033)).toInt32 = 20033 := by decide
theorem kc_t_35_7 : ((35 : Nat) : Int) + (7) = ((42 : Nat) : Int) := by decide
theorem kc_b_33 : (Int8.ofInt (33)).toInt32 = 33 := by decide
theorem kc_b_63 : (Int8.ofInt (63)).toInt32 = 63 := by decide
theorem kc_31_120 : 120 < 2 ^ 31 := by decide
theorem kc_b_120 : (Int8.ofInt (120)).toInt32 = 120 := by decide
theorem kc_nd_311 : va_nd [0, 1, 2, 3, 4] = true := by decide
theorem kc_31_124 : 124 < 2 ^ 31 := by decide
theorem kc_b_91 : (Int8.ofInt (91)).toInt32 = 91 := by decide
theorem kc_t_8_36 : ((8 : Nat) : Int) + (36) = ((44 : Nat) : Int) := by decide
theorem kc_31_91 : 91 < 2 ^ 31 := by decide
theorem kc_t_48_8 : ((48 : Nat) : Int) + (8) = ((56 : Nat) : Int) := by decide
theorem kc_t_66_5 : ((66 : Nat) : Int) + (5) = ((71 : Nat) : Int) := by decide
theorem kc_t_16_26 : ((16 : Nat) : Int) + (26) = ((42 : Nat) : Int) := by decide
theorem kc_t_15_64 : ((15 : Nat) : Int) + (64) = ((79 : Nat) : Int) := by decide
theorem kc_b_42 : (Int8.ofInt (42)).toInt32 = 42 := by decide
theorem kc_t_24_12 : ((24 : Nat) : Int) + (12) = ((36 : Nat) : Int) := by decide
theorem kc_31_42 : 42 < 2 ^ 31 := by decide
theorem kc_t_56_15 : ((56 : Nat) : Int) + (15) = ((71 : Nat) : Int) := by decide
theorem kc_t_68_5 : ((68 : Nat) : Int) + (5) = ((73 : Nat) : Int) := by decide
theorem kc_t_76_m64 : ((76 : Nat) : Int) + (-64) = ((12 : Nat) : Int) := by decide
theorem kc_b_47 : (Int8.ofInt (47)).toInt32 = 47 := by decide
theorem kc_t_33_46 : ((33 : Nat) : Int) + (46) = ((79 : Nat) : Int) := by decide
theorem kc_31_47 : 47 < 2 ^ 31 := by decide
theorem kc_b_43 : (Int8.ofInt (43)).toInt32 = 43 := by decide
theorem kc_31_43 : 43 < 2 ^ 31 := by decide
theorem kc_b_45 : (Int8.ofInt (45)).toInt32 = 45 := by decide
theorem kc_31_45 : 45 < 2 ^ 31 := by decide
theorem kc_t_1_99 : ((1 : Nat) : Int) + (99) = ((100 : Nat) : Int) := by decide
theorem kc_t_12_38 : ((12 : Nat) : Int) + (38) = ((50 : Nat) : Int) := by decide
theorem kc_31_33 : 33 < 2 ^ 31 := by decide
theorem kc_b_40 : (Int8.ofInt (40)).toInt32 = 40 := by decide
theorem kc_t_53_37 : ((53 : Nat) : Int) + (37) = ((90 : Nat) : Int) := by decide
theorem kc_31_40 : 40 < 2 ^ 31 := by decide
theorem kc_t_95_5 : ((95 : Nat) : Int) + (5) = ((100 : Nat) : Int) := by decide
theorem kc_t_109_5 : ((109 : Nat) : Int) + (5) = ((114 : Nat) : Int) := by decide
theorem kc_t_129_19 : ((129 : Nat) : Int) + (19) = ((148 : Nat) : Int) := by decide
theorem kc_t_141_7 : ((141 : Nat) : Int) + (7) = ((148 : Nat) : Int) := by decide
theorem kc_t_145_4 : ((145 : Nat) : Int) + (4) = ((149 : Nat) : Int) := by decide
theorem kc_t_61_27 : ((61 : Nat) : Int) + (27) = ((88 : Nat) : Int) := by decide
theorem kc_t_20_28 : ((20 : Nat) : Int) + (28) = ((48 : Nat) : Int) := by decide
theorem kc_t_16_49 : ((16 : Nat) : Int) + (49) = ((65 : Nat) : Int) := by decide
theorem kc_b_38 : (Int8.ofInt (38)).toInt32 = 38 := by decide
theorem kc_t_25_40 : ((25 : Nat) : Int) + (40) = ((65 : Nat) : Int) := by decide
theorem kc_31_38 : 38 < 2 ^ 31 := by decide
theorem kc_t_44_13 : ((44 : Nat) : Int) + (13) = ((57 : Nat) : Int) := by decide
theorem kc_s_20038 : (Int16.ofInt (20038)).toInt32 = 20038 := by decide
theorem kc_t_54_5 : ((54 : Nat) : Int) + (5) = ((59 : Nat) : Int) := by decide
theorem kc_t_62_m49 : ((62 : Nat) : Int) + (-49) = ((13 : Nat) : Int) := by decide
theorem kc_b_124 : (Int8.ofInt (124)).toInt32 = 124 := by decide
theorem kc_s_20124 : (Int16.ofInt (20124)).toInt32 = 20124 := by decide
theorem kc_t_26_16 : ((26 : Nat) : Int) + (16) = ((42 : Nat) : Int) := by decide
theorem kc_b_93 : (Int8.ofInt (93)).toInt32 = 93 := by decide
theorem kc_t_72_16 : ((72 : Nat) : Int) + (16) = ((88 : Nat) : Int) := by decide
theorem kc_b_41 : (Int8.ofInt (41)).toInt32 = 41 := by decide
theorem kc_t_81_7 : ((81 : Nat) : Int) + (7) = ((88 : Nat) : Int) := by decide
theorem kc_t_85_4 : ((85 : Nat) : Int) + (4) = ((89 : Nat) : Int) := by decide
theorem kc_t_31_17 : ((31 : Nat) : Int) + (17) = ((48 : Nat) : Int) := by decide
theorem kc_t_45_4 : ((45 : Nat) : Int) + (4) = ((49 : Nat) : Int) := by decide
theorem kc_t_13_5 : ((13 : Nat) : Int) + (5) = ((18 : Nat) : Int) := by decide
theorem kc_b_58 : (Int8.ofInt (58)).toInt32 = 58 := by decide
theorem kc_t_34_5 : ((34 : Nat) : Int) + (5) = ((39 : Nat) : Int) := by decide
theorem kc_t_50_12 : ((50 : Nat) : Int) + (12) = ((62 : Nat) : Int) := by decide
theorem kc_t_63_4 : ((63 : Nat) : Int) + (4) = ((67 : Nat) : Int) := by decide
theorem kc_t_69_31 : ((69 : Nat) : Int) + (31) = ((100 : Nat) : Int) := by decide
theorem kc_t_103_7 : ((103 : Nat) : Int) + (7) = ((110 : Nat) : Int) := by decide
theorem kc_t_114_5 : ((114 : Nat) : Int) + (5) = ((119 : Nat) : Int) := by decide
theorem kc_t_131_26 : ((131 : Nat) : Int) + (26) = ((157 : Nat) : Int) := by decide
theorem kc_t_139_18 : ((139 : Nat) : Int) + (18) = ((157 : Nat) : Int) := by decide
theorem kc_t_150_7 : ((150 : Nat) : Int) + (7) = ((157 : Nat) : Int) := by decide
theorem kc_t_154_4 : ((154 : Nat) : Int) + (4) = ((158 : Nat) : Int) := by decide
theorem kc_t_59_7 : ((59 : Nat) : Int) + (7) = ((66 : Nat) : Int) := by decide
theorem kc_t_77_5 : ((77 : Nat) : Int) + (5) = ((82 : Nat) : Int) := by decide
theorem kc_t_89_11 : ((89 : Nat) : Int) + (11) = ((100 : Nat) : Int) := by decide
theorem kc_t_107_4 : ((107 : Nat) : Int) + (4) = ((111 : Nat) : Int) := by decide
end
section
def w_s_t_latin : List Cond := .code yJ0_isLatin1_aae02 cJ0_isLatin1_aae02 1 (some .boolean) :: ([.fieldLink RJ0 38 "java/lang/String" "COMPACT_STRINGS" "Z", .fieldLink RJ0 15 "java/lang/String" "coder" "B"] ++ [])
theorem gw_s_t_latin : (w_s_t_latin).all goodWord = true := kGc rfl (kGa (by decide +kernel) kGn)
def w_s_t_coder : List Cond := .code yJ0_coder_7d493 cJ0_coder_7d493 1 (some .byte) :: ([.fieldLink RJ0 38 "java/lang/String" "COMPACT_STRINGS" "Z", .fieldLink RJ0 15 "java/lang/String" "coder" "B"] ++ [])
theorem gw_s_t_coder : (w_s_t_coder).all goodWord = true := kGc rfl (kGa (by decide +kernel) kGn)
def w_s_t_length : List Cond := .code yJ0_length_8abf5 cJ0_length_8abf5 1 (some .int) :: ([.fieldLink RJ0 9 "java/lang/String" "value" "[B", .initialized RJ0, .selects RJ0 yJ0_coder_7d493 yJ0_coder_7d493, .instanceMethod yJ0_coder_7d493, .methodLink RJ0 335 yJ0_coder_7d493] ++ (w_s_t_coder))
theorem gw_s_t_length : (w_s_t_length).all goodWord = true := kGc rfl (kGa (by decide +kernel) gw_s_t_coder)
theorem hd_J0_indexOf_0f7a4 : yJ0_indexOf_0f7a4.cls ≠ "java/lang/invoke/MethodHandle" ∧ yJ0_indexOf_0f7a4.cls ≠ "java/lang/invoke/VarHandle" ∧ (parseMethodDescriptor yJ0_indexOf_0f7a4.desc).map (fun d => d.parameters.length) = some 1 := by decide +kernel
end
section
theorem hd_X4_look : yX4_look.cls ≠ "java/lang/invoke/MethodHandle" ∧ yX4_look.cls ≠ "java/lang/invoke/VarHandle" ∧ (parseMethodDescriptor yX4_look.desc).map (fun d => d.parameters.length) = some 0 := by decide +kernel
theorem hd_X4_opens : yX4_opens.cls ≠ "java/lang/invoke/MethodHandle" ∧ yX4_opens.cls ≠ "java/lang/invoke/VarHandle" ∧ (parseMethodDescriptor yX4_opens.desc).map (fun d => d.parameters.length) = some 1 := by decide +kernel
theorem hd_X4_write : yX4_write.cls ≠ "java/lang/invoke/MethodHandle" ∧ yX4_write.cls ≠ "java/lang/invoke/VarHandle" ∧ (parseMethodDescriptor yX4_write.desc).map (fun d => d.parameters.length) = some 1 := by decide +kernel
theorem hd_X4_take : yX4_take.cls ≠ "java/lang/invoke/MethodHandle" ∧ yX4_take.cls ≠ "java/lang/invoke/VarHandle" ∧ (parseMethodDescriptor yX4_take.desc).map (fun d => d.parameters.length) = some 1 := by decide +kernel
theorem hd_X4_keepClause : yX4_keepClause.cls ≠ "java/lang/invoke/MethodHandle" ∧ yX4_keepClause.cls ≠ "java/lang/invoke/VarHandle" ∧ (parseMethodDescriptor yX4_keepClause.desc).map (fun d => d.parameters.length) = some 3 := by decide +kernel
theorem hd_X4_isDigit : yX4_isDigit.cls ≠ "java/lang/invoke/MethodHandle" ∧ yX4_isDigit.cls ≠ "java/lang/invoke/VarHandle" ∧ (parseMethodDescriptor yX4_isDigit.desc).map (fun d => d.parameters.length) = some 1 := by decide +kernel
theorem hd_X4_isComparison : yX4_isComparison.cls ≠ "java/lang/invoke/MethodHandle" ∧ yX4_isComparison.cls ≠ "java/lang/invoke/VarHandle" ∧ (parseMethodDescriptor yX4_isComparison.desc).map (fun d => d.parameters.length) = some 1 := by decide +kernel
theorem hd_X4_readNumber : yX4_readNumber.cls ≠ "java/lang/invoke/MethodHandle" ∧ yX4_readNumber.cls ≠ "java/lang/invoke/VarHandle" ∧ (parseMethodDescriptor yX4_readNumber.desc).map (fun d => d.parameters.length) = some 0 := by decide +kernel
end
section
theorem kFam {c : Cond} {ws : List Cond} {b : Cond} (h : c ∈ b :: ws) : ∀ w ∈ c :: ws, w ∈ b :: ws := fun w hw => (List.mem_cons.mp hw).elim (fun e => by rw [e]; exact h) (fun hw => List.mem_cons_of_mem _ hw)
theorem kFamG {c : Cond} {ws : List Cond} (h : goodWord c = true) (g : ws.all goodWord = true) : (c :: ws).all goodWord = true := by rw [List.all_cons, h, g]; rfl
end
section
/-- a byte at a place, 0 behind the end -/
def kAt (b : Nat → Nat) (n p : Nat) : Nat := if p < n then b p else 0
/-- over blanks, so many at most -/
def kSk (b : Nat → Nat) (n : Nat) : Nat → Nat → Nat
  | 0, p => p
  | f + 1, p => if kAt b n p = 32 then kSk b n f (p + 1) else p
def kSp (b : Nat → Nat) (n p : Nat) : Nat := kSk b n 120 p
def kLk (b : Nat → Nat) (n p : Nat) : Nat := kAt b n (kSp b n p)
theorem kAt_lt {b : Nat → Nat} {n p : Nat} (h : ¬ kAt b n p = 0) : p < n := by
  unfold kAt at h
  by_cases z : p < n
  · exact z
  · rw [if_neg z] at h; exact absurd rfl h
theorem kAt_ge {b : Nat → Nat} {n p : Nat} (h : n ≤ p) : kAt b n p = 0 := by unfold kAt; rw [if_neg (by omega)]
theorem kSk_ge (b : Nat → Nat) (n : Nat) : ∀ f p, p ≤ kSk b n f p := by
  intro f
  induction f with
  | zero => intro p; exact Nat.le_refl p
  | succ f ih =>
    intro p
    unfold kSk
    split
    · exact Nat.le_trans (Nat.le_succ p) (ih (p + 1))
    · exact Nat.le_refl p
theorem kSk_le {b : Nat → Nat} {n : Nat} : ∀ {f p}, p ≤ n → kSk b n f p ≤ n := by
  intro f
  induction f with
  | zero => intro p h; exact h
  | succ f ih =>
    intro p h
    unfold kSk
    by_cases z : kAt b n p = 32
    · rw [if_pos z]
      have := kAt_lt (b := b) (n := n) (p := p) (by rw [z]; decide)
      exact ih (by omega)
    · rw [if_neg z]; exact h
theorem kSk_stop {b : Nat → Nat} {n : Nat} : ∀ {f p}, n ≤ p + f → ¬ kAt b n (kSk b n f p) = 32 := by
  intro f
  induction f with
  | zero => intro p h; show ¬ kAt b n p = 32; rw [kAt_ge (by omega)]; decide
  | succ f ih =>
    intro p h
    unfold kSk
    by_cases z : kAt b n p = 32
    · rw [if_pos z]; exact ih (by omega)
    · rw [if_neg z]; exact z
theorem kSk_id {b : Nat → Nat} {n f p : Nat} (h : ¬ kAt b n p = 32) : kSk b n f p = p := by
  cases f with
  | zero => rfl
  | succ f => unfold kSk; rw [if_neg h]
theorem kSp_ge (b : Nat → Nat) (n p : Nat) : p ≤ kSp b n p := kSk_ge b n 120 p
theorem kSp_le {b : Nat → Nat} {n p : Nat} (h : p ≤ n) : kSp b n p ≤ n := kSk_le h
theorem kLk_n {b : Nat → Nat} {n p : Nat} (hn : n ≤ 120) : ¬ kLk b n p = 32 := kSk_stop (by omega)
theorem kSp_id {b : Nat → Nat} {n p : Nat} (h : ¬ kAt b n p = 32) : kSp b n p = p := kSk_id h
theorem kSp_sp {b : Nat → Nat} {n p : Nat} (hn : n ≤ 120) : kSp b n (kSp b n p) = kSp b n p := kSp_id (kLk_n hn)
theorem kLk_sp {b : Nat → Nat} {n p : Nat} (hn : n ≤ 120) : kLk b n (kSp b n p) = kLk b n p := by unfold kLk; rw [kSp_sp hn]
theorem kLk_lt {b : Nat → Nat} {n p : Nat} (h : ¬ kLk b n p = 0) : kSp b n p < n := kAt_lt h
/-- ok, where it stands, what was written -/
abbrev kRes : Type := Bool × Nat × List Int32
def kBo (x : Bool) : Int32 := if x then 1 else 0
theorem kBo_t {x : Bool} (h : ¬ kBo x = 0) : x = true := by cases x with
  | true => rfl
  | false => exact absurd rfl h
theorem kBo_f {x : Bool} (h : kBo x = 0) : x = false := by cases x with
  | true => exact absurd h (by decide)
  | false => rfl
theorem kBo_nar (x : Bool) : narrow .boolean (.int (kBo x)) = .int (kBo x) := by cases x <;> rfl
def kTh (r : kRes) (k : Nat → List Int32 → kRes) : kRes := if r.1 then k r.2.1 r.2.2 else (false, r.2.1, [])
theorem kTh_t (p : Nat) (l : List Int32) (k : Nat → List Int32 → kRes) : kTh (true, p, l) k = k p l := rfl
def kTk (b : Nat → Nat) (n c p : Nat) (l : List Int32) : kRes := if kLk b n p = c then (true, kSp b n p + 1, l) else (false, kSp b n p, [])
def kDg (c : Nat) : Bool := Nat.ble 48 c && Nat.ble c 57
theorem kDg_t {c : Nat} : kDg c = true ↔ 48 ≤ c ∧ c ≤ 57 := by
  unfold kDg
  rw [Bool.and_eq_true, Nat.ble_eq, Nat.ble_eq]
/-- up to so many digits -/
def kNumL (b : Nat → Nat) (n : Nat) : Nat → Nat → Nat → Nat × Nat
  | 0, p, v => (p, v)
  | f + 1, p, v => if kDg (kAt b n p) then kNumL b n f (p + 1) (v * 10 + (kAt b n p - 48)) else (p, v)
def kNum (b : Nat → Nat) (n p : Nat) : kRes := if kDg (kAt b n (kNumL b n 4 p 0).1) then (false, (kNumL b n 4 p 0).1, []) else (true, (kNumL b n 4 p 0).1, [nI (kNumL b n 4 p 0).2])
/-- where a sign stands in a text of n; n: nowhere -/
def kFd (g : Nat → Int32) (c : Int32) : Nat → Nat → Nat
  | 0, j => j
  | f + 1, j => if g j = c then j else kFd g c f (j + 1)
def kIx (g : Nat → Int32) (n : Nat) (c : Int32) : Nat := kFd g c n 0
def kAtomF (b : Nat → Nat) (n : Nat) (g : Nat → Int32) (m : Nat) (op : Bool) (sm : Nat → kRes) (p : Nat) : kRes :=
  if kLk b n p = 91 then (if op then kTh (sm (kSp b n p + 1)) (fun q l => kTk b n 93 q l) else (false, kSp b n p, []))
  else if kDg (kLk b n p) then kNum b n (kSp b n p)
  else if kIx g m (nI (kLk b n p)) < m then (true, kSp b n p + 1, [nI (10000 + kIx g m (nI (kLk b n p)))]) else (false, kSp b n p, [])
/-- while one of two signs stands there -/
def kLoop (b : Nat → Nat) (n c1 c2 : Nat) (a : Nat → kRes) : Nat → Nat → List Int32 → kRes
  | 0, p, l => (true, p, l)
  | f + 1, p, l => if kLk b n p = c1 ∨ kLk b n p = c2 then kTh (a (kSp b n p + 1)) (fun q m => kLoop b n c1 c2 a f q (l ++ m ++ [nI (20000 + kLk b n p)])) else (true, kSp b n p, l)
def kMany (b : Nat → Nat) (n c1 c2 : Nat) (a z : Nat → kRes) (p : Nat) : kRes := kTh (z p) (fun q l => kLoop b n c1 c2 a 120 q l)
def kSumF (b : Nat → Nat) (n : Nat) (a : Nat → kRes) (p : Nat) : kRes := kMany b n 43 45 (kMany b n 42 47 a a) (kMany b n 42 47 a a) p
def kAtomD (b : Nat → Nat) (n : Nat) (g : Nat → Int32) (m : Nat) : Nat → Nat → kRes
  | 0 => kAtomF b n g m false (fun p => (false, p, []))
  | e + 1 => kAtomF b n g m true (kSumF b n (kAtomD b n g m e))
def kTermD (b : Nat → Nat) (n : Nat) (g : Nat → Int32) (m e p : Nat) : kRes := kMany b n 42 47 (kAtomD b n g m e) (kAtomD b n g m e) p
def kSumD (b : Nat → Nat) (n : Nat) (g : Nat → Int32) (m e p : Nat) : kRes := kMany b n 43 45 (kTermD b n g m e) (kTermD b n g m e) p
def kCmp (b : Nat → Nat) (n : Nat) (g : Nat → Int32) (m e p : Nat) (l : List Int32) : kRes :=
  if kLk b n p = 61 ∨ kLk b n p = 60 ∨ kLk b n p = 62 then kTh (kSumD b n g m e (kSp b n p + 1)) (fun q k => (true, q, l ++ k ++ [nI (20000 + kLk b n p)])) else (false, kSp b n p, [])
def kUnitF (b : Nat → Nat) (n : Nat) (g : Nat → Int32) (m e : Nat) (op : Bool) (u c : Nat → kRes) (p : Nat) : kRes :=
  if kLk b n p = 33 then (if op then kTh (u (kSp b n p + 1)) (fun q l => (true, q, l ++ [20033])) else (false, kSp b n p, []))
  else if kLk b n p = 40 then (if op then kTh (c (kSp b n p + 1)) (fun q l => kTk b n 41 q l) else (false, kSp b n p, []))
  else kTh (kSumD b n g m e (kSp b n p)) (fun q l => kCmp b n g m e q l)
def kTruF (b : Nat → Nat) (n : Nat) (u z : Nat → kRes) (p : Nat) : kRes := kMany b n 38 38 u z p
def kConF (b : Nat → Nat) (n : Nat) (t z : Nat → kRes) (p : Nat) : kRes := kMany b n 124 124 t z p
def kUnitD (b : Nat → Nat) (n : Nat) (g : Nat → Int32) (m : Nat) : Nat → Nat → kRes
  | 0 => kUnitF b n g m 0 false (fun p => (false, p, [])) (fun p => (false, p, []))
  | e + 1 => kUnitF b n g m (e + 1) true (kUnitD b n g m e) (kConF b n (kTruF b n (kUnitD b n g m e) (kUnitD b n g m e)) (kTruF b n (kUnitD b n g m e) (kUnitD b n g m e)))
def kTruD (b : Nat → Nat) (n : Nat) (g : Nat → Int32) (m e p : Nat) : kRes := kTruF b n (kUnitD b n g m e) (kUnitD b n g m e) p
def kConD (b : Nat → Nat) (n : Nat) (g : Nat → Int32) (m e p : Nat) : kRes := kConF b n (kTruD b n g m e) (kTruD b n g m e) p
/-- the same where the first sum is read -/
def kUnitZ (b : Nat → Nat) (n : Nat) (g : Nat → Int32) (m e p : Nat) : kRes := kCmp b n g m e p []
def kTruZ (b : Nat → Nat) (n : Nat) (g : Nat → Int32) (m e p : Nat) : kRes := kTruF b n (kUnitD b n g m e) (kUnitZ b n g m e) p
def kConZ (b : Nat → Nat) (n : Nat) (g : Nat → Int32) (m e p : Nat) : kRes := kConF b n (kTruD b n g m e) (kTruZ b n g m e) p
/-- what is written, into a row -/
def kWrt (s : Nat → Int32) : Nat → List Int32 → Nat → Int32
  | _, [] => s
  | k, x :: l => kWrt (upd s k x) (k + 1) l
theorem kWrt_app (l2 : List Int32) : ∀ (l1 : List Int32) (s : Nat → Int32) (k : Nat), kWrt (kWrt s k l1) (k + l1.length) l2 = kWrt s k (l1 ++ l2) := by
  intro l1
  induction l1 with
  | nil => intro s k; rfl
  | cons x l1 ih =>
    intro s k
    show kWrt (kWrt (upd s k x) (k + 1) l1) (k + (l1.length + 1)) l2 = kWrt (upd s k x) (k + 1) (l1 ++ l2)
    rw [show k + (l1.length + 1) = k + 1 + l1.length by omega]
    exact ih (upd s k x) (k + 1)
theorem kWrt_one (s : Nat → Int32) (k : Nat) (x : Int32) : kWrt s k [x] = upd s k x := rfl
/-- a reading that goes on and stays within -/
def kGood (n : Nat) (a : Nat → kRes) : Prop := ∀ p, p ≤ n → (a p).2.1 ≤ n ∧ ((a p).1 = true → p + (a p).2.2.length ≤ (a p).2.1 ∧ p < (a p).2.1)
theorem kNumL_b {b : Nat → Nat} {n : Nat} : ∀ (f p v : Nat), p ≤ n → p ≤ (kNumL b n f p v).1 ∧ (kNumL b n f p v).1 ≤ n := by
  intro f
  induction f with
  | zero => intro p v h; exact ⟨Nat.le_refl p, h⟩
  | succ f ih =>
    intro p v h
    unfold kNumL
    by_cases z : kDg (kAt b n p) = true
    · rw [if_pos z]
      have hz := kDg_t.mp z
      have hp := kAt_lt (b := b) (n := n) (p := p) (by omega)
      have := ih (p + 1) (v * 10 + (kAt b n p - 48)) (by omega)
      omega
    · rw [if_neg z]; exact ⟨Nat.le_refl p, h⟩
theorem kNum_good {b : Nat → Nat} {n p : Nat} (h : p ≤ n) (hd : kDg (kAt b n p) = true) : (kNum b n p).2.1 ≤ n ∧ ((kNum b n p).1 = true → p + (kNum b n p).2.2.length ≤ (kNum b n p).2.1 ∧ p < (kNum b n p).2.1) := by
  have hz := kDg_t.mp hd
  have hp := kAt_lt (b := b) (n := n) (p := p) (by omega)
  have h1 : (kNumL b n 4 p 0) = kNumL b n 3 (p + 1) (0 * 10 + (kAt b n p - 48)) := by
    show (if kDg (kAt b n p) then kNumL b n 3 (p + 1) (0 * 10 + (kAt b n p - 48)) else (p, 0)) = _
    rw [if_pos hd]
  have h2 := kNumL_b (b := b) (n := n) 3 (p + 1) (0 * 10 + (kAt b n p - 48)) (by omega)
  rw [← h1] at h2
  unfold kNum
  split
  · exact ⟨h2.2, fun z => (Bool.false_ne_true z).elim⟩
  · exact ⟨h2.2, fun _ => ⟨by show p + 1 ≤ (kNumL b n 4 p 0).1; omega, by show p < (kNumL b n 4 p 0).1; omega⟩⟩
theorem kTh_good {n p : Nat} {r : kRes} {k : Nat → List Int32 → kRes} (hr : r.2.1 ≤ n) (hk : r.1 = true → (k r.2.1 r.2.2).2.1 ≤ n ∧ ((k r.2.1 r.2.2).1 = true → p + (k r.2.1 r.2.2).2.2.length ≤ (k r.2.1 r.2.2).2.1 ∧ p < (k r.2.1 r.2.2).2.1)) : (kTh r k).2.1 ≤ n ∧ ((kTh r k).1 = true → p + (kTh r k).2.2.length ≤ (kTh r k).2.1 ∧ p < (kTh r k).2.1) := by
  unfold kTh
  by_cases z : r.1 = true
  · rw [if_pos z]; exact hk z
  · rw [if_neg z]; exact ⟨hr, fun h => (Bool.false_ne_true h).elim⟩
theorem kTk_good {b : Nat → Nat} {n c p q : Nat} {l : List Int32} (hc : ¬ c = 0) (hq : q ≤ n) (hl : p + l.length ≤ q) : (kTk b n c q l).2.1 ≤ n ∧ ((kTk b n c q l).1 = true → p + (kTk b n c q l).2.2.length ≤ (kTk b n c q l).2.1 ∧ p < (kTk b n c q l).2.1) := by
  unfold kTk
  have h1 := kSp_ge b n q
  by_cases z : kLk b n q = c
  · rw [if_pos z]
    have h2 := kLk_lt (b := b) (n := n) (p := q) (by rw [z]; exact hc)
    exact ⟨by show kSp b n q + 1 ≤ n; omega, fun _ => ⟨by show p + l.length ≤ kSp b n q + 1; omega, by show p < kSp b n q + 1; omega⟩⟩
  · rw [if_neg z]; exact ⟨kSp_le hq, fun h => (Bool.false_ne_true h).elim⟩
theorem kAtomF_good {b : Nat → Nat} {n : Nat} {g : Nat → Int32} {m : Nat} {op : Bool} {sm : Nat → kRes} (hs : kGood n sm) (hg : kIx g m (nI 0) = m) : kGood n (kAtomF b n g m op sm) := by
  intro p hp
  have h1 := kSp_ge b n p
  have h0 := kSp_le (b := b) hp
  unfold kAtomF
  by_cases z : kLk b n p = 91
  · rw [if_pos z]
    have h2 := kLk_lt (b := b) (n := n) (p := p) (by rw [z]; decide)
    cases op with
    | false => exact ⟨h0, fun h => (Bool.false_ne_true h).elim⟩
    | true =>
      have h3 := hs (kSp b n p + 1) (by omega)
      exact kTh_good h3.1 (fun e => kTk_good (by decide) h3.1 (by have := (h3.2 e).1; omega))
  · rw [if_neg z]
    by_cases y : kDg (kLk b n p) = true
    · rw [if_pos y]
      have h3 := kNum_good (b := b) h0 y
      exact ⟨h3.1, fun e => ⟨by have := (h3.2 e).1; omega, by have := (h3.2 e).2; omega⟩⟩
    · rw [if_neg y]
      by_cases x : kIx g m (nI (kLk b n p)) < m
      · rw [if_pos x]
        have h2 := kLk_lt (b := b) (n := n) (p := p) (fun e => by rw [e, hg] at x; omega)
        exact ⟨by show kSp b n p + 1 ≤ n; omega, fun _ => ⟨by show p + 1 ≤ kSp b n p + 1; omega, by show p < kSp b n p + 1; omega⟩⟩
      · rw [if_neg x]; exact ⟨h0, fun h => (Bool.false_ne_true h).elim⟩
theorem kLoop_good {b : Nat → Nat} {n c1 c2 : Nat} {a : Nat → kRes} (hc1 : ¬ c1 = 0) (hc2 : ¬ c2 = 0) (ha : kGood n a) {p : Nat} : ∀ (f q : Nat) (l : List Int32), q ≤ n → p + l.length ≤ q → p < q → (kLoop b n c1 c2 a f q l).2.1 ≤ n ∧ ((kLoop b n c1 c2 a f q l).1 = true → p + (kLoop b n c1 c2 a f q l).2.2.length ≤ (kLoop b n c1 c2 a f q l).2.1 ∧ p < (kLoop b n c1 c2 a f q l).2.1) := by
  intro f
  induction f with
  | zero => intro q l h1 h2 h3; exact ⟨h1, fun _ => ⟨h2, h3⟩⟩
  | succ f ih =>
    intro q l h1 h2 h3
    have h4 := kSp_ge b n q
    have h5 := kSp_le (b := b) h1
    unfold kLoop
    by_cases z : kLk b n q = c1 ∨ kLk b n q = c2
    · rw [if_pos z]
      have h6 := kLk_lt (b := b) (n := n) (p := q) (fun e => by rcases z with z | z <;> (rw [e] at z; omega))
      have h7 := ha (kSp b n q + 1) (by omega)
      refine kTh_good h7.1 (fun e => ih _ _ h7.1 ?_ ?_)
      · have := (h7.2 e).1
        simp only [List.length_append, List.length_cons, List.length_nil]
        omega
      · have := (h7.2 e).2; omega
    · rw [if_neg z]; exact ⟨h5, fun _ => ⟨by show p + l.length ≤ kSp b n q; omega, by show p < kSp b n q; omega⟩⟩
theorem kMany_good {b : Nat → Nat} {n c1 c2 : Nat} {a z : Nat → kRes} (hc1 : ¬ c1 = 0) (hc2 : ¬ c2 = 0) (ha : kGood n a) (hz : kGood n z) : kGood n (kMany b n c1 c2 a z) := by
  intro p hp
  have h := hz p hp
  exact kTh_good h.1 (fun e => kLoop_good hc1 hc2 ha 120 _ _ h.1 (h.2 e).1 (h.2 e).2)
theorem kSumF_good {b : Nat → Nat} {n : Nat} {a : Nat → kRes} (ha : kGood n a) : kGood n (kSumF b n a) :=
  kMany_good (by decide) (by decide) (kMany_good (by decide) (by decide) ha ha) (kMany_good (by decide) (by decide) ha ha)
theorem kFail_good (n : Nat) : kGood n (fun p => (false, p, [])) := fun _ hp => ⟨hp, fun h => (Bool.false_ne_true h).elim⟩
theorem kAtomD_good {b : Nat → Nat} {n : Nat} {g : Nat → Int32} {m : Nat} (hg : kIx g m (nI 0) = m) : ∀ e, kGood n (kAtomD b n g m e) := by
  intro e
  induction e with
  | zero => exact kAtomF_good (kFail_good n) hg
  | succ e ih => exact kAtomF_good (kSumF_good ih) hg
theorem kTermD_good {b : Nat → Nat} {n : Nat} {g : Nat → Int32} {m : Nat} (hg : kIx g m (nI 0) = m) (e : Nat) : kGood n (kTermD b n g m e) := kMany_good (by decide) (by decide) (kAtomD_good hg e) (kAtomD_good hg e)
theorem kSumD_good {b : Nat → Nat} {n : Nat} {g : Nat → Int32} {m : Nat} (hg : kIx g m (nI 0) = m) (e : Nat) : kGood n (kSumD b n g m e) := kMany_good (by decide) (by decide) (kTermD_good hg e) (kTermD_good hg e)
theorem kCmp_good {b : Nat → Nat} {n : Nat} {g : Nat → Int32} {m : Nat} (hg : kIx g m (nI 0) = m) (e : Nat) {p q : Nat} {l : List Int32} (hq : q ≤ n) (hl : p + l.length ≤ q) : (kCmp b n g m e q l).2.1 ≤ n ∧ ((kCmp b n g m e q l).1 = true → p + (kCmp b n g m e q l).2.2.length ≤ (kCmp b n g m e q l).2.1 ∧ p < (kCmp b n g m e q l).2.1) := by
  have h4 := kSp_ge b n q
  unfold kCmp
  by_cases z : kLk b n q = 61 ∨ kLk b n q = 60 ∨ kLk b n q = 62
  · rw [if_pos z]
    have h6 := kLk_lt (b := b) (n := n) (p := q) (by omega)
    have h7 := kSumD_good (b := b) (n := n) hg e (kSp b n q + 1) (by omega)
    refine kTh_good (k := fun q2 k => (true, q2, l ++ k ++ [nI (20000 + kLk b n q)])) h7.1 (fun e => ⟨h7.1, fun _ => ⟨?_, ?_⟩⟩)
    · have := (h7.2 e).1
      show p + (l ++ _ ++ [_]).length ≤ _
      simp only [List.length_append, List.length_cons, List.length_nil]
      omega
    · have := (h7.2 e).2
      dsimp only
      omega
  · rw [if_neg z]; exact ⟨kSp_le hq, fun h => (Bool.false_ne_true h).elim⟩
theorem kUnitF_good {b : Nat → Nat} {n : Nat} {g : Nat → Int32} {m : Nat} (hg : kIx g m (nI 0) = m) {e : Nat} {op : Bool} {u c : Nat → kRes} (hu : kGood n u) (hc : kGood n c) : kGood n (kUnitF b n g m e op u c) := by
  intro p hp
  have h1 := kSp_ge b n p
  have h0 := kSp_le (b := b) hp
  unfold kUnitF
  by_cases z : kLk b n p = 33
  · rw [if_pos z]
    have h2 := kLk_lt (b := b) (n := n) (p := p) (by rw [z]; decide)
    cases op with
    | false => exact ⟨h0, fun h => (Bool.false_ne_true h).elim⟩
    | true =>
      have h3 := hu (kSp b n p + 1) (by omega)
      refine kTh_good (k := fun q l => (true, q, l ++ [20033])) h3.1 (fun e => ⟨h3.1, fun _ => ⟨?_, ?_⟩⟩)
      · have := (h3.2 e).1
        show p + (_ ++ [_]).length ≤ _
        simp only [List.length_append, List.length_cons, List.length_nil]
        omega
      · have := (h3.2 e).2
        dsimp only
        omega
  · rw [if_neg z]
    by_cases y : kLk b n p = 40
    · rw [if_pos y]
      have h2 := kLk_lt (b := b) (n := n) (p := p) (by rw [y]; decide)
      cases op with
      | false => exact ⟨h0, fun h => (Bool.false_ne_true h).elim⟩
      | true =>
        have h3 := hc (kSp b n p + 1) (by omega)
        exact kTh_good h3.1 (fun e => kTk_good (by decide) h3.1 (by have := (h3.2 e).1; omega))
    · rw [if_neg y]
      have h3 := kSumD_good (b := b) hg e (kSp b n p) h0
      exact kTh_good h3.1 (fun e => kCmp_good hg _ h3.1 (by have := (h3.2 e).1; omega))
theorem kUnitD_good {b : Nat → Nat} {n : Nat} {g : Nat → Int32} {m : Nat} (hg : kIx g m (nI 0) = m) : ∀ e, kGood n (kUnitD b n g m e) := by
  intro e
  induction e with
  | zero => exact kUnitF_good hg (kFail_good n) (kFail_good n)
  | succ e ih =>
    have ht : kGood n (kTruF b n (kUnitD b n g m e) (kUnitD b n g m e)) := kMany_good (by decide) (by decide) ih ih
    exact kUnitF_good hg ih (kMany_good (by decide) (by decide) ht ht)
theorem kTruD_good {b : Nat → Nat} {n : Nat} {g : Nat → Int32} {m : Nat} (hg : kIx g m (nI 0) = m) (e : Nat) : kGood n (kTruD b n g m e) := kMany_good (by decide) (by decide) (kUnitD_good hg e) (kUnitD_good hg e)
theorem kConD_good {b : Nat → Nat} {n : Nat} {g : Nat → Int32} {m : Nat} (hg : kIx g m (nI 0) = m) (e : Nat) : kGood n (kConD b n g m e) := kMany_good (by decide) (by decide) (kTruD_good hg e) (kTruD_good hg e)
theorem kUnitZ_good {b : Nat → Nat} {n : Nat} {g : Nat → Int32} {m : Nat} (hg : kIx g m (nI 0) = m) (e : Nat) : kGood n (kUnitZ b n g m e) := fun p hp => kCmp_good hg e hp (Nat.le_refl p)
theorem kTruZ_good {b : Nat → Nat} {n : Nat} {g : Nat → Int32} {m : Nat} (hg : kIx g m (nI 0) = m) (e : Nat) : kGood n (kTruZ b n g m e) := kMany_good (by decide) (by decide) (kUnitD_good hg e) (kUnitZ_good hg e)
theorem kConZ_good {b : Nat → Nat} {n : Nat} {g : Nat → Int32} {m : Nat} (hg : kIx g m (nI 0) = m) (e : Nat) : kGood n (kConZ b n g m e) := kMany_good (by decide) (by decide) (kTruD_good hg e) (kTruZ_good hg e)
theorem kTk_l {b : Nat → Nat} {n c q P : Nat} (l : List Int32) (h : kTk b n c q [] = (true, P, [])) : kTk b n c q l = (true, P, l) := by
  unfold kTk at h ⊢
  by_cases z : kLk b n q = c
  · rw [if_pos z] at h ⊢
    have := (Prod.mk.inj (Prod.mk.inj h).2).1
    rw [this]
  · rw [if_neg z] at h; exact absurd (Prod.mk.inj h).1 (by decide)
theorem kTk_n {b : Nat → Nat} {n c q P : Nat} (l : List Int32) (h : kTk b n c q [] = (false, P, [])) : kTk b n c q l = (false, P, []) := by
  unfold kTk at h ⊢
  by_cases z : kLk b n q = c
  · rw [if_pos z] at h; exact absurd (Prod.mk.inj h).1 (by decide)
  · rw [if_neg z] at h ⊢; exact h
/-- what a reading method says of its reading -/
def kPR (X : kRes) (pn kt wr : Nat) (s1 : Nat → Int32) (xo : Bool) (P : Nat) (xl : List Int32) (W : Nat) (S : Nat → Int32) : Prop := X = (xo, P, xl) ∧ P ≤ kt ∧ (xo = true → W = wr + xl.length ∧ S = kWrt s1 wr xl ∧ pn + xl.length ≤ P ∧ pn < P)
theorem kPR_f {X : kRes} {pn kt wr P W : Nat} {s1 S : Nat → Int32} (h : X = (false, P, [])) (hP : P ≤ kt) : kPR X pn kt wr s1 false P [] W S := ⟨h, hP, fun z => (Bool.false_ne_true z).elim⟩
theorem kPR_t {X : kRes} {n pn wr P W : Nat} {s1 S : Nat → Int32} {xl : List Int32} {a : Nat → kRes} (hX : X = a pn) (hg : kGood n a) (hp : pn ≤ n) (h : X = (true, P, xl)) (hW : W = wr + xl.length) (hS : S = kWrt s1 wr xl) : kPR X pn n wr s1 true P xl W S := by
  have h1 := hg pn hp
  rw [← hX, h] at h1
  exact ⟨h, h1.1, fun _ => ⟨hW, hS, (h1.2 rfl).1, (h1.2 rfl).2⟩⟩
theorem kLoop_e {b : Nat → Nat} {n c1 c2 : Nat} {a : Nat → kRes} {f p : Nat} {l : List Int32} (h : ¬ (kLk b n p = c1 ∨ kLk b n p = c2)) : kLoop b n c1 c2 a (f + 1) p l = (true, kSp b n p, l) := if_neg h
theorem kLoop_f {b : Nat → Nat} {n c1 c2 : Nat} {a : Nat → kRes} {f p q : Nat} {l m : List Int32} (h : kLk b n p = c1 ∨ kLk b n p = c2) (ha : a (kSp b n p + 1) = (false, q, m)) : kLoop b n c1 c2 a (f + 1) p l = (false, q, []) := (if_pos h).trans (by rw [ha]; rfl)
theorem kLoop_t {b : Nat → Nat} {n c1 c2 : Nat} {a : Nat → kRes} {f p q : Nat} {l m : List Int32} (h : kLk b n p = c1 ∨ kLk b n p = c2) (ha : a (kSp b n p + 1) = (true, q, m)) : kLoop b n c1 c2 a (f + 1) p l = kLoop b n c1 c2 a f q (l ++ m ++ [nI (20000 + kLk b n p)]) := (if_pos h).trans (by rw [ha]; rfl)
theorem kMany_f {b : Nat → Nat} {n c1 c2 : Nat} {a z : Nat → kRes} {p q : Nat} {l : List Int32} (h : z p = (false, q, l)) : kMany b n c1 c2 a z p = (false, q, []) := by unfold kMany; rw [h]; rfl
theorem kMany_t {b : Nat → Nat} {n c1 c2 : Nat} {a z : Nat → kRes} {p q : Nat} {l : List Int32} (h : z p = (true, q, l)) : kMany b n c1 c2 a z p = kLoop b n c1 c2 a 120 q l := by unfold kMany; rw [h]; rfl
/-- a clause: ok, place, its steps, the label's number, how long the condition is -/
abbrev kClR : Type := Bool × Nat × List Int32 × Nat × Nat
def kThC (r : kRes) (k : Nat → List Int32 → kClR) : kClR := if r.1 then k r.2.1 r.2.2 else (false, r.2.1, [], 0, 0)
theorem kThC_t (p : Nat) (l : List Int32) (k : Nat → List Int32 → kClR) : kThC (true, p, l) k = k p l := rfl
/-- behind a condition: '?' and the sum -/
def kCla2 (b : Nat → Nat) (n : Nat) (g : Nat → Int32) (m j p : Nat) (l : List Int32) : kClR :=
  kThC (kTk b n 63 p []) (fun q _ => kThC (kSumD b n g m 6 q) (fun q2 k => (true, q2, l ++ k, j, l.length)))
/-- behind the label -/
def kCla1 (b : Nat → Nat) (n : Nat) (g : Nat → Int32) (m j p : Nat) : kClR :=
  if kLk b n p = 33 ∨ kLk b n p = 40 then kThC (kConD b n g m 6 (kSp b n p)) (fun q l => kCla2 b n g m j q l)
  else kThC (kSumD b n g m 6 (kSp b n p)) (fun q l =>
    if kLk b n q = 61 ∨ kLk b n q = 60 ∨ kLk b n q = 62 then kThC (kConZ b n g m 6 (kSp b n q)) (fun q2 k => kCla2 b n g m j q2 (l ++ k))
    else (true, kSp b n q, l, j, 0))
def kCla (b : Nat → Nat) (n : Nat) (g6 : Nat → Int32) (n6 : Nat) (g : Nat → Int32) (m p : Nat) : kClR :=
  if kIx g6 n6 (nI (kLk b n p)) < n6 then kThC (kTk b n 58 (kSp b n p + 1) []) (fun q _ => kCla1 b n g m (kIx g6 n6 (nI (kLk b n p))) q)
  else (false, kSp b n p, [], 0, 0)
theorem kKeep {S2 s2 : Nat → Int32} {fi j wr a b x y : Nat} (h : S2 = kWrt s2 fi [nI j, nI wr, nI a, nI b]) (ha : a = x) (hb : b = y) : S2 = kWrt s2 fi [nI j, nI wr, nI x, nI y] := by subst ha; subst hb; exact h
theorem kAtomD_s {b : Nat → Nat} {n : Nat} {g : Nat → Int32} {m : Nat} (e p : Nat) : kAtomD b n g m (e + 1) p = kAtomF b n g m true (kSumD b n g m e) p := rfl
theorem kUnitD_s {b : Nat → Nat} {n : Nat} {g : Nat → Int32} {m : Nat} (e p : Nat) : kUnitD b n g m (e + 1) p = kUnitF b n g m (e + 1) true (kUnitD b n g m e) (kConD b n g m e) p := rfl
theorem kPR_up {X Y : kRes} {pn p2 kt wr P W : Nat} {s1 S : Nat → Int32} {xo : Bool} {xl : List Int32} (hX : X = Y) (h : kPR Y p2 kt wr s1 xo P xl W S) (hp : pn ≤ p2) : kPR X pn kt wr s1 xo P xl W S := ⟨hX.trans h.1, h.2.1, fun z => ⟨(h.2.2 z).1, (h.2.2 z).2.1, by have := (h.2.2 z).2.2.1; omega, by have := (h.2.2 z).2.2.2; omega⟩⟩
theorem kWrt3 {s1 xs1 S1 S2 : Nat → Int32} {wr xwr W1 : Nat} {xl m : List Int32} {x : Int32} (h5 : xs1 = kWrt s1 wr xl) (h4 : xwr = wr + xl.length) (hS : S1 = kWrt xs1 xwr m) (hW : W1 = xwr + m.length) (hw : S2 = upd S1 W1 x) : S2 = kWrt s1 wr (xl ++ m ++ [x]) := by
  subst h5; subst h4; subst hS; subst hW; subst hw
  rw [kWrt_app]
  rw [← kWrt_app [x] (xl ++ m) s1 wr, kWrt_one, List.length_append, Nat.add_assoc]
theorem kWrt2 {s1 S1 S2 : Nat → Int32} {wr W1 : Nat} {m : List Int32} {x : Int32} (hS : S1 = kWrt s1 wr m) (hW : W1 = wr + m.length) (hw : S2 = upd S1 W1 x) : S2 = kWrt s1 wr (m ++ [x]) := by
  subst hS; subst hW; subst hw
  rw [← kWrt_app [x] m s1 wr, kWrt_one]
theorem kWrtC {s1 xs1 S1 : Nat → Int32} {wr xwr : Nat} {xl m : List Int32} (h5 : xs1 = kWrt s1 wr xl) (h4 : xwr = wr + xl.length) (hS : S1 = kWrt xs1 xwr m) : S1 = kWrt s1 wr (xl ++ m) := by
  subst h5; subst h4; subst hS
  rw [kWrt_app]
end
section
def w_s_at8x : List Cond := .code yX8_at cX8_at 2 (some .char) :: ([.fieldLink RX8 15 "NotEnded$Tape" "length" "I", .fieldLink RX8 9 "NotEnded$Tape" "signs" "[C"] ++ (wsX80))
theorem gw_s_at8x : (w_s_at8x).all goodWord = true := kGc rfl (kGa (by decide +kernel) gw_wsX80)
def w_s_look4x : List Cond := .code yX4_look cX4_look 2 (some .char) :: ([.fieldLink RX4 37 "NotEnded$Reader" "tape" "LNotEnded$Tape;", .fieldLink RX4 25 "NotEnded$Reader" "place" "I", .initialized RX8, .selects RX8 yX8_at yX8_at, .instanceMethod yX8_at, .methodLink RX4 117 yX8_at] ++ (wsX40 ++ (w_s_at8x)))
theorem gw_s_look4x : (w_s_look4x).all goodWord = true := kGc rfl (kGa (by decide +kernel) (kGa gw_wsX40 gw_s_at8x))
set_option maxHeartbeats 4000000 in
set_option maxRecDepth 100000 in
theorem s_look4x (l : Launch) (dC : Nat → ClassId) (dI : Nat → Nat → Nat) (jT : Nat) (t0 : Nat) (cC : ClassId) (gT : Nat → Int32) (kt : Nat) (hkt : kt ≤ 120) (hgT : ∀ j : Nat, narrow .char (.int (gT j)) = .int (gT j)) (bt : Nat → Nat) (hbt : ∀ j : Nat, gT j = nI (bt j)) (hb8 : ∀ j : Nat, bt j < 256) (jR : Nat) (r1 : Nat) (r2 : Nat) (c1 : ClassId) (c2 : ClassId) (s1 : Nat → Int32) (s2 : Nat → Int32) (wr : Nat) (fi : Nat) (q6 : Nat) (q7 : Nat) (hwr : wr ≤ 120) (hfi : fi ≤ 124) (pn : Nat) (hpn : pn ≤ kt) (sz : Nat) : Met l yX4_look w_s_look4x ({ frames := 2, cells := 0, slots := 0, locals := 120 }) (kW dC dI [.ref jR] [(jR, .inr (4, [.ref jT, .ref r1, .ref r2, .int (nI (wr)), .int (nI (fi)), .int (nI (pn)), .ref q6, .ref q7])), (r1, .inl (c1, 120, .inl s1)), (r2, .inl (c2, 124, .inl s2)), (jT, .inr (8, [.ref t0, .int (nI (kt))])), (t0, .inl (cC, 120, .inl gT))] [(c1, .int), (c2, .int), (cC, .char)] kT sz) (va_Qi (fun (r : Int32) (u : Nat × Nat) => match u with | (Pn, ch) => (r = nI ch ∧ ch = kLk bt kt pn ∧ Pn = kSp bt kt pn ∧ ch < 256 ∧ pn ≤ Pn ∧ Pn ≤ kt ∧ (ch = 0 ∨ Pn < kt) ∧ kAt bt kt Pn = ch)) (fun (u : Nat × Nat) => match u with | (Pn, ch) => fun t : State => kB dC dI [(jR, .inr (4, [.ref jT, .ref r1, .ref r2, .int (nI (wr)), .int (nI (fi)), .int (nI (Pn)), .ref q6, .ref q7])), (r1, .inl (c1, 120, .inl s1)), (r2, .inl (c2, 124, .inl s2)), (jT, .inr (8, [.ref t0, .int (nI (kt))])), (t0, .inl (cC, 120, .inl gT))] [(c1, .int), (c2, .int), (cC, .char)] (va_A [(jR, .inr (4, [.ref jT, .ref r1, .ref r2, .int (nI (wr)), .int (nI (fi)), .int (nI (pn)), .ref q6, .ref q7])), (r1, .inl (c1, 120, .inl s1)), (r2, .inl (c2, 124, .inl s2)), (jT, .inr (8, [.ref t0, .int (nI (kt))])), (t0, .inl (cC, 120, .inl gT))] sz) t) (va_A [(jR, .inr (4, [.ref jT, .ref r1, .ref r2, .int (nI (wr)), .int (nI (fi)), .int (nI (pn)), .ref q6, .ref q7])), (r1, .inl (c1, 120, .inl s1)), (r2, .inl (c2, 124, .inl s2)), (jT, .inr (8, [.ref t0, .int (nI (kt))])), (t0, .inl (cC, 120, .inl gT))] sz)) 0 0 (va_A [(jR, .inr (4, [.ref jT, .ref r1, .ref r2, .int (nI (wr)), .int (nI (fi)), .int (nI (pn)), .ref q6, .ref q7])), (r1, .inl (c1, 120, .inl s1)), (r2, .inl (c2, 124, .inl s2)), (jT, .inr (8, [.ref t0, .int (nI (kt))])), (t0, .inl (cC, 120, .inl gT))] sz) := by
  sorry

def w_s_take4_58 : List Cond := .code yX4_take cX4_take 2 (some .boolean) :: ([.initialized RX4, .selects RX4 yX4_look yX4_look, .instanceMethod yX4_look, .methodLink RX4 53 yX4_look, .fieldLink RX4 25 "NotEnded$Reader" "place" "I"] ++ (w_s_look4x ++ (wsX40)))
theorem gw_s_take4_58 : (w_s_take4_58).all goodWord = true := kGc rfl (kGa (by decide +kernel) (kGa gw_s_look4x gw_wsX40))
set_option maxHeartbeats 4000000 in
set_option maxRecDepth 100000 in
theorem s_take4_58 (l : Launch) (dC : Nat → ClassId) (dI : Nat → Nat → Nat) (jT : Nat) (t0 : Nat) (cC : ClassId) (gT : Nat → Int32) (kt : Nat) (hkt : kt ≤ 120) (hgT : ∀ j : Nat, narrow .char (.int (gT j)) = .int (gT j)) (bt : Nat → Nat) (hbt : ∀ j : Nat, gT j = nI (bt j)) (hb8 : ∀ j : Nat, bt j < 256) (jR : Nat) (r1 : Nat) (r2 : Nat) (c1 : ClassId) (c2 : ClassId) (s1 : Nat → Int32) (s2 : Nat → Int32) (wr : Nat) (fi : Nat) (q6 : Nat) (q7 : Nat) (hwr : wr ≤ 120) (hfi : fi ≤ 124) (pn : Nat) (hpn : pn ≤ kt) (sz : Nat) : Met l yX4_take w_s_take4_58 ({ frames := 3, cells := 0, slots := 0, locals := 180 }) (kW dC dI [.ref jR, .int 58] [(jR, .inr (4, [.ref jT, .ref r1, .ref r2, .int (nI (wr)), .int (nI (fi)), .int (nI (pn)), .ref q6, .ref q7])), (r1, .inl (c1, 120, .inl s1)), (r2, .inl (c2, 124, .inl s2)), (jT, .inr (8, [.ref t0, .int (nI (kt))])), (t0, .inl (cC, 120, .inl gT))] [(c1, .int), (c2, .int), (cC, .char)] kT sz) (va_Qi (fun (r : Int32) (u : Nat × Bool) => match u with | (Pn, xo) => (r = kBo xo ∧ kTk bt kt 58 pn [] = (xo, Pn, []) ∧ pn ≤ Pn ∧ Pn ≤ kt ∧ (xo = true → pn < Pn))) (fun (u : Nat × Bool) => match u with | (Pn, xo) => fun t : State => kB dC dI [(jR, .inr (4, [.ref jT, .ref r1, .ref r2, .int (nI (wr)), .int (nI (fi)), .int (nI (Pn)), .ref q6, .ref q7])), (r1, .inl (c1, 120, .inl s1)), (r2, .inl (c2, 124, .inl s2)), (jT, .inr (8, [.ref t0, .int (nI (kt))])), (t0, .inl (cC, 120, .inl gT))] [(c1, .int), (c2, .int), (cC, .char)] (va_A [(jR, .inr (4, [.ref jT, .ref r1, .ref r2, .int (nI (wr)), .int (nI (fi)), .int (nI (pn)), .ref q6, .ref q7])), (r1, .inl (c1, 120, .inl s1)), (r2, .inl (c2, 124, .inl s2)), (jT, .inr (8, [.ref t0, .int (nI (kt))])), (t0, .inl (cC, 120, .inl gT))] sz) t) (va_A [(jR, .inr (4, [.ref jT, .ref r1, .ref r2, .int (nI (wr)), .int (nI (fi)), .int (nI (pn)), .ref q6, .ref q7])), (r1, .inl (c1, 120, .inl s1)), (r2, .inl (c2, 124, .inl s2)), (jT, .inr (8, [.ref t0, .int (nI (kt))])), (t0, .inl (cC, 120, .inl gT))] sz)) 0 0 (va_A [(jR, .inr (4, [.ref jT, .ref r1, .ref r2, .int (nI (wr)), .int (nI (fi)), .int (nI (pn)), .ref q6, .ref q7])), (r1, .inl (c1, 120, .inl s1)), (r2, .inl (c2, 124, .inl s2)), (jT, .inr (8, [.ref t0, .int (nI (kt))])), (t0, .inl (cC, 120, .inl gT))] sz) := by
  sorry

def w_s_take4_63 : List Cond := .code yX4_take cX4_take 2 (some .boolean) :: ([.initialized RX4, .selects RX4 yX4_look yX4_look, .instanceMethod yX4_look, .methodLink RX4 53 yX4_look, .fieldLink RX4 25 "NotEnded$Reader" "place" "I"] ++ (w_s_look4x ++ (wsX40)))
theorem gw_s_take4_63 : (w_s_take4_63).all goodWord = true := kGc rfl (kGa (by decide +kernel) (kGa gw_s_look4x gw_wsX40))
set_option maxHeartbeats 4000000 in
set_option maxRecDepth 100000 in
theorem s_take4_63 (l : Launch) (dC : Nat → ClassId) (dI : Nat → Nat → Nat) (jT : Nat) (t0 : Nat) (cC : ClassId) (gT : Nat → Int32) (kt : Nat) (hkt : kt ≤ 120) (hgT : ∀ j : Nat, narrow .char (.int (gT j)) = .int (gT j)) (bt : Nat → Nat) (hbt : ∀ j : Nat, gT j = nI (bt j)) (hb8 : ∀ j : Nat, bt j < 256) (jR : Nat) (r1 : Nat) (r2 : Nat) (c1 : ClassId) (c2 : ClassId) (s1 : Nat → Int32) (s2 : Nat → Int32) (wr : Nat) (fi : Nat) (q6 : Nat) (q7 : Nat) (hwr : wr ≤ 120) (hfi : fi ≤ 124) (pn : Nat) (hpn : pn ≤ kt) (sz : Nat) : Met l yX4_take w_s_take4_63 ({ frames := 3, cells := 0, slots := 0, locals := 180 }) (kW dC dI [.ref jR, .int 63] [(jR, .inr (4, [.ref jT, .ref r1, .ref r2, .int (nI (wr)), .int (nI (fi)), .int (nI (pn)), .ref q6, .ref q7])), (r1, .inl (c1, 120, .inl s1)), (r2, .inl (c2, 124, .inl s2)), (jT, .inr (8, [.ref t0, .int (nI (kt))])), (t0, .inl (cC, 120, .inl gT))] [(c1, .int), (c2, .int), (cC, .char)] kT sz) (va_Qi (fun (r : Int32) (u : Nat × Bool) => match u with | (Pn, xo) => (r = kBo xo ∧ kTk bt kt 63 pn [] = (xo, Pn, []) ∧ pn ≤ Pn ∧ Pn ≤ kt ∧ (xo = true → pn < Pn))) (fun (u : Nat × Bool) => match u with | (Pn, xo) => fun t : State => kB dC dI [(jR, .inr (4, [.ref jT, .ref r1, .ref r2, .int (nI (wr)), .int (nI (fi)), .int (nI (Pn)), .ref q6, .ref q7])), (r1, .inl (c1, 120, .inl s1)), (r2, .inl (c2, 124, .inl s2)), (jT, .inr (8, [.ref t0, .int (nI (kt))])), (t0, .inl (cC, 120, .inl gT))] [(c1, .int), (c2, .int), (cC, .char)] (va_A [(jR, .inr (4, [.ref jT, .ref r1, .ref r2, .int (nI (wr)), .int (nI (fi)), .int (nI (pn)), .ref q6, .ref q7])), (r1, .inl (c1, 120, .inl s1)), (r2, .inl (c2, 124, .inl s2)), (jT, .inr (8, [.ref t0, .int (nI (kt))])), (t0, .inl (cC, 120, .inl gT))] sz) t) (va_A [(jR, .inr (4, [.ref jT, .ref r1, .ref r2, .int (nI (wr)), .int (nI (fi)), .int (nI (pn)), .ref q6, .ref q7])), (r1, .inl (c1, 120, .inl s1)), (r2, .inl (c2, 124, .inl s2)), (jT, .inr (8, [.ref t0, .int (nI (kt))])), (t0, .inl (cC, 120, .inl gT))] sz)) 0 0 (va_A [(jR, .inr (4, [.ref jT, .ref r1, .ref r2, .int (nI (wr)), .int (nI (fi)), .int (nI (pn)), .ref q6, .ref q7])), (r1, .inl (c1, 120, .inl s1)), (r2, .inl (c2, 124, .inl s2)), (jT, .inr (8, [.ref t0, .int (nI (kt))])), (t0, .inl (cC, 120, .inl gT))] sz) := by
  sorry

def w_s_take4_41 : List Cond := .code yX4_take cX4_take 2 (some .boolean) :: ([.initialized RX4, .selects RX4 yX4_look yX4_look, .instanceMethod yX4_look, .methodLink RX4 53 yX4_look, .fieldLink RX4 25 "NotEnded$Reader" "place" "I"] ++ (w_s_look4x ++ (wsX40)))
theorem gw_s_take4_41 : (w_s_take4_41).all goodWord = true := kGc rfl (kGa (by decide +kernel) (kGa gw_s_look4x gw_wsX40))
set_option maxHeartbeats 4000000 in
set_option maxRecDepth 100000 in
theorem s_take4_41 (l : Launch) (dC : Nat → ClassId) (dI : Nat → Nat → Nat) (jT : Nat) (t0 : Nat) (cC : ClassId) (gT : Nat → Int32) (kt : Nat) (hkt : kt ≤ 120) (hgT : ∀ j : Nat, narrow .char (.int (gT j)) = .int (gT j)) (bt : Nat → Nat) (hbt : ∀ j : Nat, gT j = nI (bt j)) (hb8 : ∀ j : Nat, bt j < 256) (jR : Nat) (r1 : Nat) (r2 : Nat) (c1 : ClassId) (c2 : ClassId) (s1 : Nat → Int32) (s2 : Nat → Int32) (wr : Nat) (fi : Nat) (q6 : Nat) (q7 : Nat) (hwr : wr ≤ 120) (hfi : fi ≤ 124) (pn : Nat) (hpn : pn ≤ kt) (sz : Nat) : Met l yX4_take w_s_take4_41 ({ frames := 3, cells := 0, slots := 0, locals := 180 }) (kW dC dI [.ref jR, .int 41] [(jR, .inr (4, [.ref jT, .ref r1, .ref r2, .int (nI (wr)), .int (nI (fi)), .int (nI (pn)), .ref q6, .ref q7])), (r1, .inl (c1, 120, .inl s1)), (r2, .inl (c2, 124, .inl s2)), (jT, .inr (8, [.ref t0, .int (nI (kt))])), (t0, .inl (cC, 120, .inl gT))] [(c1, .int), (c2, .int), (cC, .char)] kT sz) (va_Qi (fun (r : Int32) (u : Nat × Bool) => match u with | (Pn, xo) => (r = kBo xo ∧ kTk bt kt 41 pn [] = (xo, Pn, []) ∧ pn ≤ Pn ∧ Pn ≤ kt ∧ (xo = true → pn < Pn))) (fun (u : Nat × Bool) => match u with | (Pn, xo) => fun t : State => kB dC dI [(jR, .inr (4, [.ref jT, .ref r1, .ref r2, .int (nI (wr)), .int (nI (fi)), .int (nI (Pn)), .ref q6, .ref q7])), (r1, .inl (c1, 120, .inl s1)), (r2, .inl (c2, 124, .inl s2)), (jT, .inr (8, [.ref t0, .int (nI (kt))])), (t0, .inl (cC, 120, .inl gT))] [(c1, .int), (c2, .int), (cC, .char)] (va_A [(jR, .inr (4, [.ref jT, .ref r1, .ref r2, .int (nI (wr)), .int (nI (fi)), .int (nI (pn)), .ref q6, .ref q7])), (r1, .inl (c1, 120, .inl s1)), (r2, .inl (c2, 124, .inl s2)), (jT, .inr (8, [.ref t0, .int (nI (kt))])), (t0, .inl (cC, 120, .inl gT))] sz) t) (va_A [(jR, .inr (4, [.ref jT, .ref r1, .ref r2, .int (nI (wr)), .int (nI (fi)), .int (nI (pn)), .ref q6, .ref q7])), (r1, .inl (c1, 120, .inl s1)), (r2, .inl (c2, 124, .inl s2)), (jT, .inr (8, [.ref t0, .int (nI (kt))])), (t0, .inl (cC, 120, .inl gT))] sz)) 0 0 (va_A [(jR, .inr (4, [.ref jT, .ref r1, .ref r2, .int (nI (wr)), .int (nI (fi)), .int (nI (pn)), .ref q6, .ref q7])), (r1, .inl (c1, 120, .inl s1)), (r2, .inl (c2, 124, .inl s2)), (jT, .inr (8, [.ref t0, .int (nI (kt))])), (t0, .inl (cC, 120, .inl gT))] sz) := by
  sorry

def w_s_take4_93 : List Cond := .code yX4_take cX4_take 2 (some .boolean) :: ([.initialized RX4, .selects RX4 yX4_look yX4_look, .instanceMethod yX4_look, .methodLink RX4 53 yX4_look, .fieldLink RX4 25 "NotEnded$Reader" "place" "I"] ++ (w_s_look4x ++ (wsX40)))
theorem gw_s_take4_93 : (w_s_take4_93).all goodWord = true := kGc rfl (kGa (by decide +kernel) (kGa gw_s_look4x gw_wsX40))
set_option maxHeartbeats 4000000 in
set_option maxRecDepth 100000 in
theorem s_take4_93 (l : Launch) (dC : Nat → ClassId) (dI : Nat → Nat → Nat) (jT : Nat) (t0 : Nat) (cC : ClassId) (gT : Nat → Int32) (kt : Nat) (hkt : kt ≤ 120) (hgT : ∀ j : Nat, narrow .char (.int (gT j)) = .int (gT j)) (bt : Nat → Nat) (hbt : ∀ j : Nat, gT j = nI (bt j)) (hb8 : ∀ j : Nat, bt j < 256) (jR : Nat) (r1 : Nat) (r2 : Nat) (c1 : ClassId) (c2 : ClassId) (s1 : Nat → Int32) (s2 : Nat → Int32) (wr : Nat) (fi : Nat) (q6 : Nat) (q7 : Nat) (hwr : wr ≤ 120) (hfi : fi ≤ 124) (pn : Nat) (hpn : pn ≤ kt) (sz : Nat) : Met l yX4_take w_s_take4_93 ({ frames := 3, cells := 0, slots := 0, locals := 180 }) (kW dC dI [.ref jR, .int 93] [(jR, .inr (4, [.ref jT, .ref r1, .ref r2, .int (nI (wr)), .int (nI (fi)), .int (nI (pn)), .ref q6, .ref q7])), (r1, .inl (c1, 120, .inl s1)), (r2, .inl (c2, 124, .inl s2)), (jT, .inr (8, [.ref t0, .int (nI (kt))])), (t0, .inl (cC, 120, .inl gT))] [(c1, .int), (c2, .int), (cC, .char)] kT sz) (va_Qi (fun (r : Int32) (u : Nat × Bool) => match u with | (Pn, xo) => (r = kBo xo ∧ kTk bt kt 93 pn [] = (xo, Pn, []) ∧ pn ≤ Pn ∧ Pn ≤ kt ∧ (xo = true → pn < Pn))) (fun (u : Nat × Bool) => match u with | (Pn, xo) => fun t : State => kB dC dI [(jR, .inr (4, [.ref jT, .ref r1, .ref r2, .int (nI (wr)), .int (nI (fi)), .int (nI (Pn)), .ref q6, .ref q7])), (r1, .inl (c1, 120, .inl s1)), (r2, .inl (c2, 124, .inl s2)), (jT, .inr (8, [.ref t0, .int (nI (kt))])), (t0, .inl (cC, 120, .inl gT))] [(c1, .int), (c2, .int), (cC, .char)] (va_A [(jR, .inr (4, [.ref jT, .ref r1, .ref r2, .int (nI (wr)), .int (nI (fi)), .int (nI (pn)), .ref q6, .ref q7])), (r1, .inl (c1, 120, .inl s1)), (r2, .inl (c2, 124, .inl s2)), (jT, .inr (8, [.ref t0, .int (nI (kt))])), (t0, .inl (cC, 120, .inl gT))] sz) t) (va_A [(jR, .inr (4, [.ref jT, .ref r1, .ref r2, .int (nI (wr)), .int (nI (fi)), .int (nI (pn)), .ref q6, .ref q7])), (r1, .inl (c1, 120, .inl s1)), (r2, .inl (c2, 124, .inl s2)), (jT, .inr (8, [.ref t0, .int (nI (kt))])), (t0, .inl (cC, 120, .inl gT))] sz)) 0 0 (va_A [(jR, .inr (4, [.ref jT, .ref r1, .ref r2, .int (nI (wr)), .int (nI (fi)), .int (nI (pn)), .ref q6, .ref q7])), (r1, .inl (c1, 120, .inl s1)), (r2, .inl (c2, 124, .inl s2)), (jT, .inr (8, [.ref t0, .int (nI (kt))])), (t0, .inl (cC, 120, .inl gT))] sz) := by
  sorry

def w_s_opens4_6 : List Cond := .code yX4_opens cX4_opens 2 (some .boolean) :: ([])
def w_s_write4x : List Cond := .code yX4_write cX4_write 2 (some .boolean) :: ([.fieldLink RX4 18 "NotEnded$Reader" "written" "I", .fieldLink RX4 9 "NotEnded$Reader" "steps" "[I"] ++ (wsX40))
theorem gw_s_write4x : (w_s_write4x).all goodWord = true := kGc rfl (kGa (by decide +kernel) gw_wsX40)
set_option maxHeartbeats 4000000 in
set_option maxRecDepth 100000 in
theorem s_write4x (l : Launch) (dC : Nat → ClassId) (dI : Nat → Nat → Nat) (jT : Nat) (t0 : Nat) (cC : ClassId) (gT : Nat → Int32) (kt : Nat) (hkt : kt ≤ 120) (hgT : ∀ j : Nat, narrow .char (.int (gT j)) = .int (gT j)) (bt : Nat → Nat) (hbt : ∀ j : Nat, gT j = nI (bt j)) (hb8 : ∀ j : Nat, bt j < 256) (jR : Nat) (r1 : Nat) (r2 : Nat) (c1 : ClassId) (c2 : ClassId) (s1 : Nat → Int32) (s2 : Nat → Int32) (wr : Nat) (fi : Nat) (q6 : Nat) (q7 : Nat) (hwr : wr ≤ 120) (hfi : fi ≤ 124) (pn : Nat) (hpn : pn ≤ kt) (p0 : Int32) (hw9 : wr < 120) (sz : Nat) : Met l yX4_write w_s_write4x ({ frames := 1, cells := 0, slots := 0, locals := 60 }) (kW dC dI [.ref jR, .int p0] [(jR, .inr (4, [.ref jT, .ref r1, .ref r2, .int (nI (wr)), .int (nI (fi)), .int (nI (pn)), .ref q6, .ref q7])), (r1, .inl (c1, 120, .inl s1)), (r2, .inl (c2, 124, .inl s2)), (jT, .inr (8, [.ref t0, .int (nI (kt))])), (t0, .inl (cC, 120, .inl gT))] [(c1, .int), (c2, .int), (cC, .char)] kT sz) (va_Qi (fun (r : Int32) (u : (Nat → Int32) × Nat) => match u with | (S1, Wr) => (r = 1 ∧ Wr = wr + 1 ∧ S1 = upd s1 wr p0)) (fun (u : (Nat → Int32) × Nat) => match u with | (S1, Wr) => fun t : State => kB dC dI [(jR, .inr (4, [.ref jT, .ref r1, .ref r2, .int (nI (Wr)), .int (nI (fi)), .int (nI (pn)), .ref q6, .ref q7])), (r1, .inl (c1, 120, .inl S1)), (r2, .inl (c2, 124, .inl s2)), (jT, .inr (8, [.ref t0, .int (nI (kt))])), (t0, .inl (cC, 120, .inl gT))] [(c1, .int), (c2, .int), (cC, .char)] (va_A [(jR, .inr (4, [.ref jT, .ref r1, .ref r2, .int (nI (wr)), .int (nI (fi)), .int (nI (pn)), .ref q6, .ref q7])), (r1, .inl (c1, 120, .inl s1)), (r2, .inl (c2, 124, .inl s2)), (jT, .inr (8, [.ref t0, .int (nI (kt))])), (t0, .inl (cC, 120, .inl gT))] sz) t) (va_A [(jR, .inr (4, [.ref jT, .ref r1, .ref r2, .int (nI (wr)), .int (nI (fi)), .int (nI (pn)), .ref q6, .ref q7])), (r1, .inl (c1, 120, .inl s1)), (r2, .inl (c2, 124, .inl s2)), (jT, .inr (8, [.ref t0, .int (nI (kt))])), (t0, .inl (cC, 120, .inl gT))] sz)) 0 0 (va_A [(jR, .inr (4, [.ref jT, .ref r1, .ref r2, .int (nI (wr)), .int (nI (fi)), .int (nI (pn)), .ref q6, .ref q7])), (r1, .inl (c1, 120, .inl s1)), (r2, .inl (c2, 124, .inl s2)), (jT, .inr (8, [.ref t0, .int (nI (kt))])), (t0, .inl (cC, 120, .inl gT))] sz) := by
  sorry

def w_s_digit4x : List Cond := .code yX4_isDigit cX4_isDigit 1 (some .boolean) :: ([])
theorem gw_s_digit4x : (w_s_digit4x).all goodWord = true := kGc rfl kGn
set_option maxHeartbeats 4000000 in
set_option maxRecDepth 100000 in
theorem s_digit4x (l : Launch) (dC : Nat → ClassId) (dI : Nat → Nat → Nat) (pc : Nat) (hpc : pc < 256) : Met l yX4_isDigit w_s_digit4x ({ frames := 1, cells := 0, slots := 0, locals := 60 }) (kR dC dI [.int (nI (pc))] [] [] kT) (vp_Si (fun r : Int32 => ((¬ r = 0 ↔ 48 ≤ pc ∧ pc ≤ 57)))) 0 0 (fun _ => False) := by
  sorry

def w_s_comp4x : List Cond := .code yX4_isComparison cX4_isComparison 1 (some .boolean) :: ([])
theorem gw_s_comp4x : (w_s_comp4x).all goodWord = true := kGc rfl kGn
set_option maxHeartbeats 4000000 in
set_option maxRecDepth 100000 in
theorem s_comp4x (l : Launch) (dC : Nat → ClassId) (dI : Nat → Nat → Nat) (pc : Nat) (hpc : pc < 256) : Met l yX4_isComparison w_s_comp4x ({ frames := 1, cells := 0, slots := 0, locals := 60 }) (kR dC dI [.int (nI (pc))] [] [] kT) (vp_Si (fun r : Int32 => ((¬ r = 0 ↔ pc = 61 ∨ pc = 60 ∨ pc = 62)))) 0 0 (fun _ => False) := by
  sorry

def w_s_t_ixcx : List Cond := .code yJ1_indexOfChar_4cfef cJ1_indexOfChar_4cfef 6 (some .int) :: ([])
theorem gw_s_t_ixcx : (w_s_t_ixcx).all goodWord = true := kGc rfl kGn
def w_s_can1x : List Cond := .code yJ1_canEncode_9a6ad cJ1_canEncode_9a6ad 1 (some .boolean) :: ([])
theorem gw_s_can1x : (w_s_can1x).all goodWord = true := kGc rfl kGn
def w_s_t_ix1x : List Cond := .code yJ1_indexOf_4cfef cJ1_indexOf_4cfef 4 (some .int) :: ([.initialized RJ1, .static yJ1_canEncode_9a6ad, .methodLink RJ1 88 yJ1_canEncode_9a6ad, .methodLink RJ1 92 Lib.Math.max.name, .static Lib.Math.max.name, .initialized RJ9, .code Lib.Math.max.name Lib.Math.max.code 2 (some .int), .methodLink RJ1 38 Lib.Math.min.name, .static Lib.Math.min.name, .code Lib.Math.min.name Lib.Math.min.code 2 (some .int), .static yJ1_indexOfChar_4cfef, .methodLink RJ1 95 yJ1_indexOfChar_4cfef] ++ (w_s_can1x ++ (w_s_t_ixcx)))
theorem gw_s_t_ix1x : (w_s_t_ix1x).all goodWord = true := kGc rfl (kGa (by decide +kernel) (kGa gw_s_can1x gw_s_t_ixcx))
def w_s_t_ix2x : List Cond := .code yJ0_indexOf_7cf53 cJ0_indexOf_7cf53 3 (some .int) :: ([.initialized RJ0, .selects RJ0 yJ0_isLatin1_aae02 yJ0_isLatin1_aae02, .instanceMethod yJ0_isLatin1_aae02, .methodLink RJ0 492 yJ0_isLatin1_aae02, .fieldLink RJ0 9 "java/lang/String" "value" "[B", .selects RJ0 yJ0_length_8abf5 yJ0_length_8abf5, .instanceMethod yJ0_length_8abf5, .methodLink RJ0 505 yJ0_length_8abf5, .initialized RJ1, .static yJ1_indexOf_4cfef, .methodLink RJ0 637 yJ1_indexOf_4cfef] ++ (w_s_t_latin ++ (w_s_t_length ++ (w_s_t_ix1x))))
theorem gw_s_t_ix2x : (w_s_t_ix2x).all goodWord = true := kGc rfl (kGa (by decide +kernel) (kGa gw_s_t_latin (kGa gw_s_t_length gw_s_t_ix1x)))
def w_s_t_ixx : List Cond := .code yJ0_indexOf_0f7a4 cJ0_indexOf_0f7a4 2 (some .int) :: ([.initialized RJ0, .selects RJ0 yJ0_indexOf_7cf53 yJ0_indexOf_7cf53, .instanceMethod yJ0_indexOf_7cf53, .methodLink RJ0 633 yJ0_indexOf_7cf53] ++ (w_s_t_ix2x))
theorem gw_s_t_ixx : (w_s_t_ixx).all goodWord = true := kGc rfl (kGa (by decide +kernel) gw_s_t_ix2x)
set_option maxHeartbeats 4000000 in
set_option maxRecDepth 100000 in
theorem s_t_ixx (l : Launch) (dC : Nat → ClassId) (dI : Nat → Nat → Nat) (q : Nat) (b : Nat) (n : Nat) (g : Nat → Int32) (hn : n ≤ 8) (A : Nat → Prop) (gn : ∀ k : Nat, ∃ v : Nat, v < 128 ∧ g k = nI v) (pc : Nat) (hpc : pc < 256) : Met l yJ0_indexOf_0f7a4 w_s_t_ixx ({ frames := 4, cells := 0, slots := 0, locals := 240 }) (kR dC dI [.ref q, .int (nI (pc))] [] [] (kSt q b n g A)) (vp_Si (fun r : Int32 => ((r = -1 ∧ kIx g n (nI pc) = n) ∨ ∃ j : Nat, j < n ∧ r = nI j ∧ kIx g n (nI pc) = j))) 0 0 (fun _ => False) := by
  sorry

def w_s_number4x : List Cond := .code yX4_readNumber cX4_readNumber 3 (some .boolean) :: ([.fieldLink RX4 37 "NotEnded$Reader" "tape" "LNotEnded$Tape;", .fieldLink RX4 25 "NotEnded$Reader" "place" "I", .initialized RX8, .selects RX8 yX8_at yX8_at, .instanceMethod yX8_at, .methodLink RX4 117 yX8_at, .initialized RX4, .static yX4_isDigit, .methodLink RX4 111 yX4_isDigit, .selects RX4 yX4_write yX4_write, .instanceMethod yX4_write, .methodLink RX4 96 yX4_write] ++ (wsX40 ++ (w_s_at8x ++ (w_s_digit4x ++ (w_s_write4x)))))
theorem gw_s_number4x : (w_s_number4x).all goodWord = true := kGc rfl (kGa (by decide +kernel) (kGa gw_wsX40 (kGa gw_s_at8x (kGa gw_s_digit4x gw_s_write4x))))
set_option maxHeartbeats 4000000 in
set_option maxRecDepth 100000 in
theorem s_number4x (l : Launch) (dC : Nat → ClassId) (dI : Nat → Nat → Nat) (jT : Nat) (t0 : Nat) (cC : ClassId) (gT : Nat → Int32) (kt : Nat) (hkt : kt ≤ 120) (hgT : ∀ j : Nat, narrow .char (.int (gT j)) = .int (gT j)) (bt : Nat → Nat) (hbt : ∀ j : Nat, gT j = nI (bt j)) (hb8 : ∀ j : Nat, bt j < 256) (jR : Nat) (r1 : Nat) (r2 : Nat) (c1 : ClassId) (c2 : ClassId) (s1 : Nat → Int32) (s2 : Nat → Int32) (wr : Nat) (fi : Nat) (q6 : Nat) (q7 : Nat) (hwr : wr ≤ 120) (hfi : fi ≤ 124) (pn : Nat) (hpn : pn ≤ kt) (hwp : wr ≤ pn) (hd9 : 48 ≤ kAt bt kt pn ∧ kAt bt kt pn ≤ 57) (sz : Nat) : Met l yX4_readNumber w_s_number4x ({ frames := 3, cells := 0, slots := 0, locals := 180 }) (kW dC dI [.ref jR] [(jR, .inr (4, [.ref jT, .ref r1, .ref r2, .int (nI (wr)), .int (nI (fi)), .int (nI (pn)), .ref q6, .ref q7])), (r1, .inl (c1, 120, .inl s1)), (r2, .inl (c2, 124, .inl s2)), (jT, .inr (8, [.ref t0, .int (nI (kt))])), (t0, .inl (cC, 120, .inl gT))] [(c1, .int), (c2, .int), (cC, .char)] kT sz) (va_Qi (fun (r : Int32) (u : (Nat → Int32) × Nat × Nat × Bool × (List Int32)) => match u with | (S1, Wr, Pn, xo, xl) => (r = kBo xo ∧ kPR (kNum bt kt pn) pn kt wr s1 xo Pn xl Wr S1 ∧ Wr ≤ 120)) (fun (u : (Nat → Int32) × Nat × Nat × Bool × (List Int32)) => match u with | (S1, Wr, Pn, xo, xl) => fun t : State => kB dC dI [(jR, .inr (4, [.ref jT, .ref r1, .ref r2, .int (nI (Wr)), .int (nI (fi)), .int (nI (Pn)), .ref q6, .ref q7])), (r1, .inl (c1, 120, .inl S1)), (r2, .inl (c2, 124, .inl s2)), (jT, .inr (8, [.ref t0, .int (nI (kt))])), (t0, .inl (cC, 120, .inl gT))] [(c1, .int), (c2, .int), (cC, .char)] (va_A [(jR, .inr (4, [.ref jT, .ref r1, .ref r2, .int (nI (wr)), .int (nI (fi)), .int (nI (pn)), .ref q6, .ref q7])), (r1, .inl (c1, 120, .inl s1)), (r2, .inl (c2, 124, .inl s2)), (jT, .inr (8, [.ref t0, .int (nI (kt))])), (t0, .inl (cC, 120, .inl gT))] sz) t) (va_A [(jR, .inr (4, [.ref jT, .ref r1, .ref r2, .int (nI (wr)), .int (nI (fi)), .int (nI (pn)), .ref q6, .ref q7])), (r1, .inl (c1, 120, .inl s1)), (r2, .inl (c2, 124, .inl s2)), (jT, .inr (8, [.ref t0, .int (nI (kt))])), (t0, .inl (cC, 120, .inl gT))] sz)) 0 0 (va_A [(jR, .inr (4, [.ref jT, .ref r1, .ref r2, .int (nI (wr)), .int (nI (fi)), .int (nI (pn)), .ref q6, .ref q7])), (r1, .inl (c1, 120, .inl s1)), (r2, .inl (c2, 124, .inl s2)), (jT, .inr (8, [.ref t0, .int (nI (kt))])), (t0, .inl (cC, 120, .inl gT))] sz) := by
  sorry

def w_s_opens4_g : List Cond := .code yX4_opens cX4_opens 2 (some .boolean) :: ([.fieldLink RX4 25 "NotEnded$Reader" "place" "I"] ++ (wsX40))
theorem gw_s_opens4_g : (w_s_opens4_g).all goodWord = true := kGc rfl (kGa (by decide +kernel) gw_wsX40)
set_option maxHeartbeats 4000000 in
set_option maxRecDepth 100000 in
theorem s_opens4_g (l : Launch) (dC : Nat → ClassId) (dI : Nat → Nat → Nat) (jT : Nat) (t0 : Nat) (cC : ClassId) (gT : Nat → Int32) (kt : Nat) (hkt : kt ≤ 120) (hgT : ∀ j : Nat, narrow .char (.int (gT j)) = .int (gT j)) (bt : Nat → Nat) (hbt : ∀ j : Nat, gT j = nI (bt j)) (hb8 : ∀ j : Nat, bt j < 256) (jR : Nat) (r1 : Nat) (r2 : Nat) (c1 : ClassId) (c2 : ClassId) (s1 : Nat → Int32) (s2 : Nat → Int32) (wr : Nat) (fi : Nat) (q6 : Nat) (q7 : Nat) (hwr : wr ≤ 120) (hfi : fi ≤ 124) (pn : Nat) (hpn : pn ≤ kt) (hq9 : pn < kt) (dd : Nat) (hd6 : dd < 6) (sz : Nat) : Met l yX4_opens w_s_opens4_g ({ frames := 1, cells := 0, slots := 0, locals := 60 }) (kW dC dI [.ref jR, .int (nI (dd))] [(jR, .inr (4, [.ref jT, .ref r1, .ref r2, .int (nI (wr)), .int (nI (fi)), .int (nI (pn)), .ref q6, .ref q7])), (r1, .inl (c1, 120, .inl s1)), (r2, .inl (c2, 124, .inl s2)), (jT, .inr (8, [.ref t0, .int (nI (kt))])), (t0, .inl (cC, 120, .inl gT))] [(c1, .int), (c2, .int), (cC, .char)] kT sz) (va_Qi (fun (r : Int32) (Pn : Nat) => (r = 1 ∧ Pn = pn + 1)) (fun (Pn : Nat) => fun t : State => kB dC dI [(jR, .inr (4, [.ref jT, .ref r1, .ref r2, .int (nI (wr)), .int (nI (fi)), .int (nI (Pn)), .ref q6, .ref q7])), (r1, .inl (c1, 120, .inl s1)), (r2, .inl (c2, 124, .inl s2)), (jT, .inr (8, [.ref t0, .int (nI (kt))])), (t0, .inl (cC, 120, .inl gT))] [(c1, .int), (c2, .int), (cC, .char)] (va_A [(jR, .inr (4, [.ref jT, .ref r1, .ref r2, .int (nI (wr)), .int (nI (fi)), .int (nI (pn)), .ref q6, .ref q7])), (r1, .inl (c1, 120, .inl s1)), (r2, .inl (c2, 124, .inl s2)), (jT, .inr (8, [.ref t0, .int (nI (kt))])), (t0, .inl (cC, 120, .inl gT))] sz) t) (va_A [(jR, .inr (4, [.ref jT, .ref r1, .ref r2, .int (nI (wr)), .int (nI (fi)), .int (nI (pn)), .ref q6, .ref q7])), (r1, .inl (c1, 120, .inl s1)), (r2, .inl (c2, 124, .inl s2)), (jT, .inr (8, [.ref t0, .int (nI (kt))])), (t0, .inl (cC, 120, .inl gT))] sz)) 0 0 (va_A [(jR, .inr (4, [.ref jT, .ref r1, .ref r2, .int (nI (wr)), .int (nI (fi)), .int (nI (pn)), .ref q6, .ref q7])), (r1, .inl (c1, 120, .inl s1)), (r2, .inl (c2, 124, .inl s2)), (jT, .inr (8, [.ref t0, .int (nI (kt))])), (t0, .inl (cC, 120, .inl gT))] sz) := by
  sorry

def w_s_keep4x : List Cond := .code yX4_keepClause cX4_keepClause 4 (some .boolean) :: ([.fieldLink RX4 22 "NotEnded$Reader" "filled" "I", .fieldLink RX4 15 "NotEnded$Reader" "clauses" "[I", .fieldLink RX4 18 "NotEnded$Reader" "written" "I"] ++ (wsX40))
theorem gw_s_keep4x : (w_s_keep4x).all goodWord = true := kGc rfl (kGa (by decide +kernel) gw_wsX40)
set_option maxHeartbeats 4000000 in
set_option maxRecDepth 100000 in
theorem s_keep4x (l : Launch) (dC : Nat → ClassId) (dI : Nat → Nat → Nat) (jT : Nat) (t0 : Nat) (cC : ClassId) (gT : Nat → Int32) (kt : Nat) (hkt : kt ≤ 120) (hgT : ∀ j : Nat, narrow .char (.int (gT j)) = .int (gT j)) (bt : Nat → Nat) (hbt : ∀ j : Nat, gT j = nI (bt j)) (hb8 : ∀ j : Nat, bt j < 256) (jR : Nat) (r1 : Nat) (r2 : Nat) (c1 : ClassId) (c2 : ClassId) (s1 : Nat → Int32) (s2 : Nat → Int32) (wr : Nat) (fi : Nat) (q6 : Nat) (q7 : Nat) (hwr : wr ≤ 120) (hfi : fi ≤ 124) (pn : Nat) (hpn : pn ≤ kt) (pj : Nat) (pa : Nat) (pb : Nat) (hf9 : fi ≤ 120) (sz : Nat) : Met l yX4_keepClause w_s_keep4x ({ frames := 1, cells := 0, slots := 0, locals := 60 }) (kW dC dI [.ref jR, .int (nI (pj)), .int (nI (pa)), .int (nI (pb))] [(jR, .inr (4, [.ref jT, .ref r1, .ref r2, .int (nI (wr)), .int (nI (fi)), .int (nI (pn)), .ref q6, .ref q7])), (r1, .inl (c1, 120, .inl s1)), (r2, .inl (c2, 124, .inl s2)), (jT, .inr (8, [.ref t0, .int (nI (kt))])), (t0, .inl (cC, 120, .inl gT))] [(c1, .int), (c2, .int), (cC, .char)] kT sz) (va_Qi (fun (r : Int32) (u : (Nat → Int32) × Nat) => match u with | (S2, Fi) => (r = 1 ∧ Fi = fi + 4 ∧ S2 = kWrt s2 fi [nI pj, nI pa, nI pb, nI wr])) (fun (u : (Nat → Int32) × Nat) => match u with | (S2, Fi) => fun t : State => kB dC dI [(jR, .inr (4, [.ref jT, .ref r1, .ref r2, .int (nI (wr)), .int (nI (Fi)), .int (nI (pn)), .ref q6, .ref q7])), (r1, .inl (c1, 120, .inl s1)), (r2, .inl (c2, 124, .inl S2)), (jT, .inr (8, [.ref t0, .int (nI (kt))])), (t0, .inl (cC, 120, .inl gT))] [(c1, .int), (c2, .int), (cC, .char)] (va_A [(jR, .inr (4, [.ref jT, .ref r1, .ref r2, .int (nI (wr)), .int (nI (fi)), .int (nI (pn)), .ref q6, .ref q7])), (r1, .inl (c1, 120, .inl s1)), (r2, .inl (c2, 124, .inl s2)), (jT, .inr (8, [.ref t0, .int (nI (kt))])), (t0, .inl (cC, 120, .inl gT))] sz) t) (va_A [(jR, .inr (4, [.ref jT, .ref r1, .ref r2, .int (nI (wr)), .int (nI (fi)), .int (nI (pn)), .ref q6, .ref q7])), (r1, .inl (c1, 120, .inl s1)), (r2, .inl (c2, 124, .inl s2)), (jT, .inr (8, [.ref t0, .int (nI (kt))])), (t0, .inl (cC, 120, .inl gT))] sz)) 0 0 (va_A [(jR, .inr (4, [.ref jT, .ref r1, .ref r2, .int (nI (wr)), .int (nI (fi)), .int (nI (pn)), .ref q6, .ref q7])), (r1, .inl (c1, 120, .inl s1)), (r2, .inl (c2, 124, .inl s2)), (jT, .inr (8, [.ref t0, .int (nI (kt))])), (t0, .inl (cC, 120, .inl gT))] sz) := by
  sorry
end
section
def wf_rq : List Cond := [.initialized RX4, .selects RX4 yX4_look yX4_look, .instanceMethod yX4_look, .methodLink RX4 53 yX4_look, .static yX4_isDigit, .methodLink RX4 111 yX4_isDigit, .fieldLink RX4 34 "NotEnded$Reader" "letterSigns" "Ljava/lang/String;", .initialized RJ0, .selects RJ0 yJ0_indexOf_0f7a4 yJ0_indexOf_0f7a4, .instanceMethod yJ0_indexOf_0f7a4, .methodLink RX4 72 yJ0_indexOf_0f7a4, .fieldLink RX4 25 "NotEnded$Reader" "place" "I", .selects RX4 yX4_write yX4_write, .instanceMethod yX4_write, .methodLink RX4 96 yX4_write, .selects RX4 yX4_readNumber yX4_readNumber, .instanceMethod yX4_readNumber, .methodLink RX4 114 yX4_readNumber, .selects RX4 yX4_opens yX4_opens, .instanceMethod yX4_opens, .methodLink RX4 102 yX4_opens, .code yX4_readAtom cX4_readAtom 4 (some .boolean), .selects RX4 yX4_readAtom yX4_readAtom, .instanceMethod yX4_readAtom, .methodLink RX4 108 yX4_readAtom, .code yX4_readTerm cX4_readTerm 4 (some .boolean), .selects RX4 yX4_readTerm yX4_readTerm, .instanceMethod yX4_readTerm, .methodLink RX4 105 yX4_readTerm, .code yX4_readSum cX4_readSum 4 (some .boolean), .selects RX4 yX4_readSum yX4_readSum, .instanceMethod yX4_readSum, .methodLink RX4 78 yX4_readSum, .static yX4_isComparison, .methodLink RX4 82 yX4_isComparison, .code yX4_readUnit cX4_readUnit 4 (some .boolean), .selects RX4 yX4_readUnit yX4_readUnit, .instanceMethod yX4_readUnit, .methodLink RX4 99 yX4_readUnit, .code yX4_readTruth cX4_readTruth 4 (some .boolean), .selects RX4 yX4_readTruth yX4_readTruth, .instanceMethod yX4_readTruth, .methodLink RX4 93 yX4_readTruth, .selects RX4 yX4_take yX4_take, .instanceMethod yX4_take, .methodLink RX4 57 yX4_take, .code yX4_readCondition cX4_readCondition 4 (some .boolean), .selects RX4 yX4_readCondition yX4_readCondition, .instanceMethod yX4_readCondition, .methodLink RX4 89 yX4_readCondition, .fieldLink RX4 30 "NotEnded$Reader" "labelSigns" "Ljava/lang/String;", .fieldLink RX4 18 "NotEnded$Reader" "written" "I", .selects RX4 yX4_keepClause yX4_keepClause, .instanceMethod yX4_keepClause, .methodLink RX4 85 yX4_keepClause] ++ (w_s_look4x ++ (w_s_digit4x ++ (wsX40 ++ (w_s_t_ixx ++ (w_s_write4x ++ (w_s_number4x ++ (w_s_opens4_6 ++ (w_s_comp4x ++ (w_s_opens4_g ++ (w_s_take4_93 ++ (w_s_take4_41 ++ (w_s_take4_58 ++ (w_s_take4_63 ++ (w_s_keep4x))))))))))))))
theorem gf_rq : (wf_rq).all goodWord = true := by decide +kernel
end
section
theorem kNz9 {r E : Int32} (h : r = E) (c : ¬ r = 0) : ¬ E = 0 := fun z => c (h.trans z)
theorem kZr9 {r E : Int32} (h : r = E) (c : r = 0) : E = 0 := h.symm.trans c
end
section
theorem dX4_readAtom_0 : decode cX4_readAtom 0 = .ok (.aload_n 0, 1) := by decide +kernel
theorem dX4_readAtom_1 : decode cX4_readAtom 1 = .ok (.invokevirtual 53, 3) := by decide +kernel
theorem dX4_readAtom_4 : decode cX4_readAtom 4 = .ok (.istore_n 2, 1) := by decide +kernel
theorem dX4_readAtom_5 : decode cX4_readAtom 5 = .ok (.iload_n 2, 1) := by decide +kernel
theorem dX4_readAtom_6 : decode cX4_readAtom 6 = .ok (.bipush 91, 2) := by decide +kernel
theorem dX4_readAtom_8 : decode cX4_readAtom 8 = .ok (.if_icmp .ne 36, 3) := by decide +kernel
theorem dX4_readAtom_44 : decode cX4_readAtom 44 = .ok (.iload_n 2, 1) := by decide +kernel
theorem dX4_readAtom_45 : decode cX4_readAtom 45 = .ok (.invokestatic 111, 3) := by decide +kernel
theorem dX4_readAtom_48 : decode cX4_readAtom 48 = .ok (.ifCond .eq 8, 3) := by decide +kernel
theorem dX4_readAtom_56 : decode cX4_readAtom 56 = .ok (.aload_n 0, 1) := by decide +kernel
theorem dX4_readAtom_57 : decode cX4_readAtom 57 = .ok (.getfield 34, 3) := by decide +kernel
theorem dX4_readAtom_60 : decode cX4_readAtom 60 = .ok (.iload_n 2, 1) := by decide +kernel
theorem dX4_readAtom_61 : decode cX4_readAtom 61 = .ok (.invokevirtual 72, 3) := by decide +kernel
theorem dX4_readAtom_64 : decode cX4_readAtom 64 = .ok (.istore_n 3, 1) := by decide +kernel
theorem dX4_readAtom_65 : decode cX4_readAtom 65 = .ok (.iload_n 3, 1) := by decide +kernel
theorem dX4_readAtom_66 : decode cX4_readAtom 66 = .ok (.ifCond .ge 5, 3) := by decide +kernel
theorem dX4_readAtom_69 : decode cX4_readAtom 69 = .ok (.iconst 0, 1) := by decide +kernel
theorem dX4_readAtom_70 : decode cX4_readAtom 70 = .ok (.ireturn, 1) := by decide +kernel
theorem dX4_readAtom_71 : decode cX4_readAtom 71 = .ok (.aload_n 0, 1) := by decide +kernel
theorem dX4_readAtom_72 : decode cX4_readAtom 72 = .ok (.dup, 1) := by decide +kernel
theorem dX4_readAtom_73 : decode cX4_readAtom 73 = .ok (.getfield 25, 3) := by decide +kernel
theorem dX4_readAtom_76 : decode cX4_readAtom 76 = .ok (.iconst 1, 1) := by decide +kernel
theorem dX4_readAtom_77 : decode cX4_readAtom 77 = .ok (.iadd, 1) := by decide +kernel
theorem dX4_readAtom_78 : decode cX4_readAtom 78 = .ok (.putfield 25, 3) := by decide +kernel
theorem dX4_readAtom_81 : decode cX4_readAtom 81 = .ok (.aload_n 0, 1) := by decide +kernel
theorem dX4_readAtom_82 : decode cX4_readAtom 82 = .ok (.sipush 10000, 3) := by decide +kernel
theorem dX4_readAtom_85 : decode cX4_readAtom 85 = .ok (.iload_n 3, 1) := by decide +kernel
theorem dX4_readAtom_86 : decode cX4_readAtom 86 = .ok (.iadd, 1) := by decide +kernel
theorem dX4_readAtom_87 : decode cX4_readAtom 87 = .ok (.invokevirtual 96, 3) := by decide +kernel
theorem dX4_readAtom_90 : decode cX4_readAtom 90 = .ok (.ireturn, 1) := by decide +kernel
theorem dX4_readAtom_51 : decode cX4_readAtom 51 = .ok (.aload_n 0, 1) := by decide +kernel
theorem dX4_readAtom_52 : decode cX4_readAtom 52 = .ok (.invokevirtual 114, 3) := by decide +kernel
theorem dX4_readAtom_55 : decode cX4_readAtom 55 = .ok (.ireturn, 1) := by decide +kernel
theorem dX4_readAtom_11 : decode cX4_readAtom 11 = .ok (.aload_n 0, 1) := by decide +kernel
theorem dX4_readAtom_12 : decode cX4_readAtom 12 = .ok (.iload_n 1, 1) := by decide +kernel
theorem dX4_readAtom_13 : decode cX4_readAtom 13 = .ok (.invokevirtual 102, 3) := by decide +kernel
theorem dX4_readAtom_16 : decode cX4_readAtom 16 = .ok (.ifCond .eq 26, 3) := by decide +kernel
theorem dX4_readAtom_42 : decode cX4_readAtom 42 = .ok (.iconst 0, 1) := by decide +kernel
theorem dX4_readAtom_43 : decode cX4_readAtom 43 = .ok (.ireturn, 1) := by decide +kernel
theorem hd_X4_readAtom : yX4_readAtom.cls ≠ "java/lang/invoke/MethodHandle" ∧ yX4_readAtom.cls ≠ "java/lang/invoke/VarHandle" ∧ (parseMethodDescriptor yX4_readAtom.desc).map (fun d => d.parameters.length) = some 1 := by decide +kernel
theorem dX4_readTerm_0 : decode cX4_readTerm 0 = .ok (.aload_n 0, 1) := by decide +kernel
theorem dX4_readTerm_1 : decode cX4_readTerm 1 = .ok (.iload_n 1, 1) := by decide +kernel
theorem dX4_readTerm_2 : decode cX4_readTerm 2 = .ok (.invokevirtual 108, 3) := by decide +kernel
theorem dX4_readTerm_5 : decode cX4_readTerm 5 = .ok (.ifCond .ne 5, 3) := by decide +kernel
theorem dX4_readTerm_10 : decode cX4_readTerm 10 = .ok (.iconst 0, 1) := by decide +kernel
theorem dX4_readTerm_11 : decode cX4_readTerm 11 = .ok (.istore_n 2, 1) := by decide +kernel
theorem dX4_readTerm_12 : decode cX4_readTerm 12 = .ok (.iload_n 2, 1) := by decide +kernel
theorem dX4_readTerm_13 : decode cX4_readTerm 13 = .ok (.bipush 120, 2) := by decide +kernel
theorem dX4_readTerm_15 : decode cX4_readTerm 15 = .ok (.if_icmp .ge 64, 3) := by decide +kernel
theorem dX4_readTerm_79 : decode cX4_readTerm 79 = .ok (.iconst 1, 1) := by decide +kernel
theorem dX4_readTerm_80 : decode cX4_readTerm 80 = .ok (.ireturn, 1) := by decide +kernel
theorem dX4_readTerm_18 : decode cX4_readTerm 18 = .ok (.aload_n 0, 1) := by decide +kernel
theorem dX4_readTerm_19 : decode cX4_readTerm 19 = .ok (.invokevirtual 53, 3) := by decide +kernel
theorem dX4_readTerm_22 : decode cX4_readTerm 22 = .ok (.bipush 42, 2) := by decide +kernel
theorem dX4_readTerm_24 : decode cX4_readTerm 24 = .ok (.if_icmp .eq 12, 3) := by decide +kernel
theorem dX4_readTerm_36 : decode cX4_readTerm 36 = .ok (.aload_n 0, 1) := by decide +kernel
theorem dX4_readTerm_37 : decode cX4_readTerm 37 = .ok (.invokevirtual 53, 3) := by decide +kernel
theorem dX4_readTerm_40 : decode cX4_readTerm 40 = .ok (.istore_n 3, 1) := by decide +kernel
theorem dX4_readTerm_41 : decode cX4_readTerm 41 = .ok (.aload_n 0, 1) := by decide +kernel
theorem dX4_readTerm_42 : decode cX4_readTerm 42 = .ok (.dup, 1) := by decide +kernel
theorem dX4_readTerm_43 : decode cX4_readTerm 43 = .ok (.getfield 25, 3) := by decide +kernel
theorem dX4_readTerm_46 : decode cX4_readTerm 46 = .ok (.iconst 1, 1) := by decide +kernel
theorem dX4_readTerm_47 : decode cX4_readTerm 47 = .ok (.iadd, 1) := by decide +kernel
theorem dX4_readTerm_48 : decode cX4_readTerm 48 = .ok (.putfield 25, 3) := by decide +kernel
theorem dX4_readTerm_51 : decode cX4_readTerm 51 = .ok (.aload_n 0, 1) := by decide +kernel
theorem dX4_readTerm_52 : decode cX4_readTerm 52 = .ok (.iload_n 1, 1) := by decide +kernel
theorem dX4_readTerm_53 : decode cX4_readTerm 53 = .ok (.invokevirtual 108, 3) := by decide +kernel
theorem dX4_readTerm_56 : decode cX4_readTerm 56 = .ok (.ifCond .eq 15, 3) := by decide +kernel
theorem dX4_readTerm_71 : decode cX4_readTerm 71 = .ok (.iconst 0, 1) := by decide +kernel
theorem dX4_readTerm_72 : decode cX4_readTerm 72 = .ok (.ireturn, 1) := by decide +kernel
theorem dX4_readTerm_59 : decode cX4_readTerm 59 = .ok (.aload_n 0, 1) := by decide +kernel
theorem dX4_readTerm_60 : decode cX4_readTerm 60 = .ok (.sipush 20000, 3) := by decide +kernel
theorem dX4_readTerm_63 : decode cX4_readTerm 63 = .ok (.iload_n 3, 1) := by decide +kernel
theorem dX4_readTerm_64 : decode cX4_readTerm 64 = .ok (.iadd, 1) := by decide +kernel
theorem dX4_readTerm_65 : decode cX4_readTerm 65 = .ok (.invokevirtual 96, 3) := by decide +kernel
theorem dX4_readTerm_68 : decode cX4_readTerm 68 = .ok (.ifCond .ne 5, 3) := by decide +kernel
theorem dX4_readTerm_73 : decode cX4_readTerm 73 = .ok (.iinc 2 1, 3) := by decide +kernel
theorem dX4_readTerm_76 : decode cX4_readTerm 76 = .ok (.goto (-64), 3) := by decide +kernel
theorem dX4_readTerm_27 : decode cX4_readTerm 27 = .ok (.aload_n 0, 1) := by decide +kernel
theorem dX4_readTerm_28 : decode cX4_readTerm 28 = .ok (.invokevirtual 53, 3) := by decide +kernel
theorem dX4_readTerm_31 : decode cX4_readTerm 31 = .ok (.bipush 47, 2) := by decide +kernel
theorem dX4_readTerm_33 : decode cX4_readTerm 33 = .ok (.if_icmp .ne 46, 3) := by decide +kernel
theorem dX4_readTerm_8 : decode cX4_readTerm 8 = .ok (.iconst 0, 1) := by decide +kernel
theorem dX4_readTerm_9 : decode cX4_readTerm 9 = .ok (.ireturn, 1) := by decide +kernel
theorem hd_X4_readTerm : yX4_readTerm.cls ≠ "java/lang/invoke/MethodHandle" ∧ yX4_readTerm.cls ≠ "java/lang/invoke/VarHandle" ∧ (parseMethodDescriptor yX4_readTerm.desc).map (fun d => d.parameters.length) = some 1 := by decide +kernel
theorem dX4_readSum_0 : decode cX4_readSum 0 = .ok (.aload_n 0, 1) := by decide +kernel
theorem dX4_readSum_1 : decode cX4_readSum 1 = .ok (.iload_n 1, 1) := by decide +kernel
theorem dX4_readSum_2 : decode cX4_readSum 2 = .ok (.invokevirtual 105, 3) := by decide +kernel
theorem dX4_readSum_5 : decode cX4_readSum 5 = .ok (.ifCond .ne 5, 3) := by decide +kernel
theorem dX4_readSum_10 : decode cX4_readSum 10 = .ok (.iconst 0, 1) := by decide +kernel
theorem dX4_readSum_11 : decode cX4_readSum 11 = .ok (.istore_n 2, 1) := by decide +kernel
theorem dX4_readSum_12 : decode cX4_readSum 12 = .ok (.iload_n 2, 1) := by decide +kernel
theorem dX4_readSum_13 : decode cX4_readSum 13 = .ok (.bipush 120, 2) := by decide +kernel
theorem dX4_readSum_15 : decode cX4_readSum 15 = .ok (.if_icmp .ge 64, 3) := by decide +kernel
theorem dX4_readSum_79 : decode cX4_readSum 79 = .ok (.iconst 1, 1) := by decide +kernel
theorem dX4_readSum_80 : decode cX4_readSum 80 = .ok (.ireturn, 1) := by decide +kernel
theorem dX4_readSum_18 : decode cX4_readSum 18 = .ok (.aload_n 0, 1) := by decide +kernel
theorem dX4_readSum_19 : decode cX4_readSum 19 = .ok (.invokevirtual 53, 3) := by decide +kernel
theorem dX4_readSum_22 : decode cX4_readSum 22 = .ok (.bipush 43, 2) := by decide +kernel
theorem dX4_readSum_24 : decode cX4_readSum 24 = .ok (.if_icmp .eq 12, 3) := by decide +kernel
theorem dX4_readSum_36 : decode cX4_readSum 36 = .ok (.aload_n 0, 1) := by decide +kernel
theorem dX4_readSum_37 : decode cX4_readSum 37 = .ok (.invokevirtual 53, 3) := by decide +kernel
theorem dX4_readSum_40 : decode cX4_readSum 40 = .ok (.istore_n 3, 1) := by decide +kernel
theorem dX4_readSum_41 : decode cX4_readSum 41 = .ok (.aload_n 0, 1) := by decide +kernel
theorem dX4_readSum_42 : decode cX4_readSum 42 = .ok (.dup, 1) := by decide +kernel
theorem dX4_readSum_43 : decode cX4_readSum 43 = .ok (.getfield 25, 3) := by decide +kernel
theorem dX4_readSum_46 : decode cX4_readSum 46 = .ok (.iconst 1, 1) := by decide +kernel
theorem dX4_readSum_47 : decode cX4_readSum 47 = .ok (.iadd, 1) := by decide +kernel
theorem dX4_readSum_48 : decode cX4_readSum 48 = .ok (.putfield 25, 3) := by decide +kernel
theorem dX4_readSum_51 : decode cX4_readSum 51 = .ok (.aload_n 0, 1) := by decide +kernel
theorem dX4_readSum_52 : decode cX4_readSum 52 = .ok (.iload_n 1, 1) := by decide +kernel
theorem dX4_readSum_53 : decode cX4_readSum 53 = .ok (.invokevirtual 105, 3) := by decide +kernel
theorem dX4_readSum_56 : decode cX4_readSum 56 = .ok (.ifCond .eq 15, 3) := by decide +kernel
theorem dX4_readSum_71 : decode cX4_readSum 71 = .ok (.iconst 0, 1) := by decide +kernel
theorem dX4_readSum_72 : decode cX4_readSum 72 = .ok (.ireturn, 1) := by decide +kernel
theorem dX4_readSum_59 : decode cX4_readSum 59 = .ok (.aload_n 0, 1) := by decide +kernel
theorem dX4_readSum_60 : decode cX4_readSum 60 = .ok (.sipush 20000, 3) := by decide +kernel
theorem dX4_readSum_63 : decode cX4_readSum 63 = .ok (.iload_n 3, 1) := by decide +kernel
theorem dX4_readSum_64 : decode cX4_readSum 64 = .ok (.iadd, 1) := by decide +kernel
theorem dX4_readSum_65 : decode cX4_readSum 65 = .ok (.invokevirtual 96, 3) := by decide +kernel
theorem dX4_readSum_68 : decode cX4_readSum 68 = .ok (.ifCond .ne 5, 3) := by decide +kernel
theorem dX4_readSum_73 : decode cX4_readSum 73 = .ok (.iinc 2 1, 3) := by decide +kernel
theorem dX4_readSum_76 : decode cX4_readSum 76 = .ok (.goto (-64), 3) := by decide +kernel
theorem dX4_readSum_27 : decode cX4_readSum 27 = .ok (.aload_n 0, 1) := by decide +kernel
theorem dX4_readSum_28 : decode cX4_readSum 28 = .ok (.invokevirtual 53, 3) := by decide +kernel
theorem dX4_readSum_31 : decode cX4_readSum 31 = .ok (.bipush 45, 2) := by decide +kernel
theorem dX4_readSum_33 : decode cX4_readSum 33 = .ok (.if_icmp .ne 46, 3) := by decide +kernel
theorem dX4_readSum_8 : decode cX4_readSum 8 = .ok (.iconst 0, 1) := by decide +kernel
theorem dX4_readSum_9 : decode cX4_readSum 9 = .ok (.ireturn, 1) := by decide +kernel
def w_s_sum4x_6 : List Cond := .code yX4_readSum cX4_readSum 4 (some .boolean) :: wf_rq
theorem hd_X4_readSum : yX4_readSum.cls ≠ "java/lang/invoke/MethodHandle" ∧ yX4_readSum.cls ≠ "java/lang/invoke/VarHandle" ∧ (parseMethodDescriptor yX4_readSum.desc).map (fun d => d.parameters.length) = some 1 := by decide +kernel
set_option maxHeartbeats 4000000 in
set_option maxRecDepth 100000 in
theorem s_sum4x_6 (l : Launch) (dC : Nat → ClassId) (dI : Nat → Nat → Nat) (jT : Nat) (t0 : Nat) (cC : ClassId) (gT : Nat → Int32) (kt : Nat) (hkt : kt ≤ 120) (hgT : ∀ j : Nat, narrow .char (.int (gT j)) = .int (gT j)) (bt : Nat → Nat) (hbt : ∀ j : Nat, gT j = nI (bt j)) (hb8 : ∀ j : Nat, bt j < 256) (jR : Nat) (r1 : Nat) (r2 : Nat) (c1 : ClassId) (c2 : ClassId) (s1 : Nat → Int32) (s2 : Nat → Int32) (wr : Nat) (fi : Nat) (q6 : Nat) (q7 : Nat) (hwr : wr ≤ 120) (hfi : fi ≤ 124) (pn : Nat) (hpn : pn ≤ kt) (hwp : wr ≤ pn) (b6 : Nat) (n6 : Nat) (g6 : Nat → Int32) (hn6 : n6 ≤ 8) (b7 : Nat) (n7 : Nat) (g7 : Nat → Int32) (hn7 : n7 ≤ 8) (gn6 : ∀ k : Nat, ∃ v : Nat, v < 128 ∧ g6 k = nI v) (hz6 : kIx g6 n6 (nI 0) = n6) (gn7 : ∀ k : Nat, ∃ v : Nat, v < 128 ∧ g7 k = nI v) (hz7 : kIx g7 n7 (nI 0) = n7) (sz : Nat) : Met l yX4_readSum w_s_sum4x_6 ({ frames := 8, cells := 0, slots := 0, locals := 480 }) (kW dC dI [.ref jR, .int 6] [(jR, .inr (4, [.ref jT, .ref r1, .ref r2, .int (nI (wr)), .int (nI (fi)), .int (nI (pn)), .ref q6, .ref q7])), (r1, .inl (c1, 120, .inl s1)), (r2, .inl (c2, 124, .inl s2)), (jT, .inr (8, [.ref t0, .int (nI (kt))])), (t0, .inl (cC, 120, .inl gT))] [(c1, .int), (c2, .int), (cC, .char)] (kS2 q6 b6 n6 g6 q7 b7 n7 g7 (va_A [(jR, .inr (4, [.ref jT, .ref r1, .ref r2, .int (nI (wr)), .int (nI (fi)), .int (nI (pn)), .ref q6, .ref q7])), (r1, .inl (c1, 120, .inl s1)), (r2, .inl (c2, 124, .inl s2)), (jT, .inr (8, [.ref t0, .int (nI (kt))])), (t0, .inl (cC, 120, .inl gT))] sz)) sz) (va_Qi (fun (r : Int32) (u : (Nat → Int32) × Nat × Nat × Bool × (List Int32)) => match u with | (S1, Wr, Pn, xo, xl) => (r = kBo xo ∧ kPR (kSumD bt kt g7 n7 0 pn) pn kt wr s1 xo Pn xl Wr S1 ∧ Wr ≤ 120)) (fun (u : (Nat → Int32) × Nat × Nat × Bool × (List Int32)) => match u with | (S1, Wr, Pn, xo, xl) => fun t : State => kB dC dI [(jR, .inr (4, [.ref jT, .ref r1, .ref r2, .int (nI (Wr)), .int (nI (fi)), .int (nI (Pn)), .ref q6, .ref q7])), (r1, .inl (c1, 120, .inl S1)), (r2, .inl (c2, 124, .inl s2)), (jT, .inr (8, [.ref t0, .int (nI (kt))])), (t0, .inl (cC, 120, .inl gT))] [(c1, .int), (c2, .int), (cC, .char)] (va_A [(jR, .inr (4, [.ref jT, .ref r1, .ref r2, .int (nI (wr)), .int (nI (fi)), .int (nI (pn)), .ref q6, .ref q7])), (r1, .inl (c1, 120, .inl s1)), (r2, .inl (c2, 124, .inl s2)), (jT, .inr (8, [.ref t0, .int (nI (kt))])), (t0, .inl (cC, 120, .inl gT))] sz) t) (va_A [(jR, .inr (4, [.ref jT, .ref r1, .ref r2, .int (nI (wr)), .int (nI (fi)), .int (nI (pn)), .ref q6, .ref q7])), (r1, .inl (c1, 120, .inl s1)), (r2, .inl (c2, 124, .inl s2)), (jT, .inr (8, [.ref t0, .int (nI (kt))])), (t0, .inl (cC, 120, .inl gT))] sz)) 0 0 (va_A [(jR, .inr (4, [.ref jT, .ref r1, .ref r2, .int (nI (wr)), .int (nI (fi)), .int (nI (pn)), .ref q6, .ref q7])), (r1, .inl (c1, 120, .inl s1)), (r2, .inl (c2, 124, .inl s2)), (jT, .inr (8, [.ref t0, .int (nI (kt))])), (t0, .inl (cC, 120, .inl gT))] sz) := by
  sorry

theorem dX4_readUnit_0 : decode cX4_readUnit 0 = .ok (.iload_n 2, 1) := by decide +kernel
theorem dX4_readUnit_1 : decode cX4_readUnit 1 = .ok (.ifCond .ne 99, 3) := by decide +kernel
theorem dX4_readUnit_4 : decode cX4_readUnit 4 = .ok (.aload_n 0, 1) := by decide +kernel
theorem dX4_readUnit_5 : decode cX4_readUnit 5 = .ok (.invokevirtual 53, 3) := by decide +kernel
theorem dX4_readUnit_8 : decode cX4_readUnit 8 = .ok (.istore_n 3, 1) := by decide +kernel
theorem dX4_readUnit_9 : decode cX4_readUnit 9 = .ok (.iload_n 3, 1) := by decide +kernel
theorem dX4_readUnit_10 : decode cX4_readUnit 10 = .ok (.bipush 33, 2) := by decide +kernel
theorem dX4_readUnit_12 : decode cX4_readUnit 12 = .ok (.if_icmp .ne 38, 3) := by decide +kernel
theorem dX4_readUnit_50 : decode cX4_readUnit 50 = .ok (.iload_n 3, 1) := by decide +kernel
theorem dX4_readUnit_51 : decode cX4_readUnit 51 = .ok (.bipush 40, 2) := by decide +kernel
theorem dX4_readUnit_53 : decode cX4_readUnit 53 = .ok (.if_icmp .ne 37, 3) := by decide +kernel
theorem dX4_readUnit_90 : decode cX4_readUnit 90 = .ok (.aload_n 0, 1) := by decide +kernel
theorem dX4_readUnit_91 : decode cX4_readUnit 91 = .ok (.iload_n 1, 1) := by decide +kernel
theorem dX4_readUnit_92 : decode cX4_readUnit 92 = .ok (.invokevirtual 78, 3) := by decide +kernel
theorem dX4_readUnit_95 : decode cX4_readUnit 95 = .ok (.ifCond .ne 5, 3) := by decide +kernel
theorem dX4_readUnit_100 : decode cX4_readUnit 100 = .ok (.aload_n 0, 1) := by decide +kernel
theorem dX4_readUnit_101 : decode cX4_readUnit 101 = .ok (.invokevirtual 53, 3) := by decide +kernel
theorem dX4_readUnit_104 : decode cX4_readUnit 104 = .ok (.istore_n 3, 1) := by decide +kernel
theorem dX4_readUnit_105 : decode cX4_readUnit 105 = .ok (.iload_n 3, 1) := by decide +kernel
theorem dX4_readUnit_106 : decode cX4_readUnit 106 = .ok (.invokestatic 82, 3) := by decide +kernel
theorem dX4_readUnit_109 : decode cX4_readUnit 109 = .ok (.ifCond .ne 5, 3) := by decide +kernel
theorem dX4_readUnit_114 : decode cX4_readUnit 114 = .ok (.aload_n 0, 1) := by decide +kernel
theorem dX4_readUnit_115 : decode cX4_readUnit 115 = .ok (.dup, 1) := by decide +kernel
theorem dX4_readUnit_116 : decode cX4_readUnit 116 = .ok (.getfield 25, 3) := by decide +kernel
theorem dX4_readUnit_119 : decode cX4_readUnit 119 = .ok (.iconst 1, 1) := by decide +kernel
theorem dX4_readUnit_120 : decode cX4_readUnit 120 = .ok (.iadd, 1) := by decide +kernel
theorem dX4_readUnit_121 : decode cX4_readUnit 121 = .ok (.putfield 25, 3) := by decide +kernel
theorem dX4_readUnit_124 : decode cX4_readUnit 124 = .ok (.aload_n 0, 1) := by decide +kernel
theorem dX4_readUnit_125 : decode cX4_readUnit 125 = .ok (.iload_n 1, 1) := by decide +kernel
theorem dX4_readUnit_126 : decode cX4_readUnit 126 = .ok (.invokevirtual 78, 3) := by decide +kernel
theorem dX4_readUnit_129 : decode cX4_readUnit 129 = .ok (.ifCond .eq 19, 3) := by decide +kernel
theorem dX4_readUnit_148 : decode cX4_readUnit 148 = .ok (.iconst 0, 1) := by decide +kernel
theorem dX4_readUnit_149 : decode cX4_readUnit 149 = .ok (.ireturn, 1) := by decide +kernel
theorem dX4_readUnit_132 : decode cX4_readUnit 132 = .ok (.aload_n 0, 1) := by decide +kernel
theorem dX4_readUnit_133 : decode cX4_readUnit 133 = .ok (.sipush 20000, 3) := by decide +kernel
theorem dX4_readUnit_136 : decode cX4_readUnit 136 = .ok (.iload_n 3, 1) := by decide +kernel
theorem dX4_readUnit_137 : decode cX4_readUnit 137 = .ok (.iadd, 1) := by decide +kernel
theorem dX4_readUnit_138 : decode cX4_readUnit 138 = .ok (.invokevirtual 96, 3) := by decide +kernel
theorem dX4_readUnit_141 : decode cX4_readUnit 141 = .ok (.ifCond .eq 7, 3) := by decide +kernel
theorem dX4_readUnit_144 : decode cX4_readUnit 144 = .ok (.iconst 1, 1) := by decide +kernel
theorem dX4_readUnit_145 : decode cX4_readUnit 145 = .ok (.goto 4, 3) := by decide +kernel
theorem dX4_readUnit_112 : decode cX4_readUnit 112 = .ok (.iconst 0, 1) := by decide +kernel
theorem dX4_readUnit_113 : decode cX4_readUnit 113 = .ok (.ireturn, 1) := by decide +kernel
theorem dX4_readUnit_98 : decode cX4_readUnit 98 = .ok (.iconst 0, 1) := by decide +kernel
theorem dX4_readUnit_99 : decode cX4_readUnit 99 = .ok (.ireturn, 1) := by decide +kernel
theorem dX4_readUnit_56 : decode cX4_readUnit 56 = .ok (.aload_n 0, 1) := by decide +kernel
theorem dX4_readUnit_57 : decode cX4_readUnit 57 = .ok (.iload_n 1, 1) := by decide +kernel
theorem dX4_readUnit_58 : decode cX4_readUnit 58 = .ok (.invokevirtual 102, 3) := by decide +kernel
theorem dX4_readUnit_61 : decode cX4_readUnit 61 = .ok (.ifCond .eq 27, 3) := by decide +kernel
theorem dX4_readUnit_88 : decode cX4_readUnit 88 = .ok (.iconst 0, 1) := by decide +kernel
theorem dX4_readUnit_89 : decode cX4_readUnit 89 = .ok (.ireturn, 1) := by decide +kernel
theorem dX4_readUnit_15 : decode cX4_readUnit 15 = .ok (.aload_n 0, 1) := by decide +kernel
theorem dX4_readUnit_16 : decode cX4_readUnit 16 = .ok (.iload_n 1, 1) := by decide +kernel
theorem dX4_readUnit_17 : decode cX4_readUnit 17 = .ok (.invokevirtual 102, 3) := by decide +kernel
theorem dX4_readUnit_20 : decode cX4_readUnit 20 = .ok (.ifCond .eq 28, 3) := by decide +kernel
theorem dX4_readUnit_48 : decode cX4_readUnit 48 = .ok (.iconst 0, 1) := by decide +kernel
theorem dX4_readUnit_49 : decode cX4_readUnit 49 = .ok (.ireturn, 1) := by decide +kernel
def w_s_unit4x_6_0 : List Cond := .code yX4_readUnit cX4_readUnit 4 (some .boolean) :: wf_rq
theorem hd_X4_readUnit : yX4_readUnit.cls ≠ "java/lang/invoke/MethodHandle" ∧ yX4_readUnit.cls ≠ "java/lang/invoke/VarHandle" ∧ (parseMethodDescriptor yX4_readUnit.desc).map (fun d => d.parameters.length) = some 2 := by decide +kernel
set_option maxHeartbeats 4000000 in
set_option maxRecDepth 100000 in
theorem s_unit4x_6_0 (l : Launch) (dC : Nat → ClassId) (dI : Nat → Nat → Nat) (jT : Nat) (t0 : Nat) (cC : ClassId) (gT : Nat → Int32) (kt : Nat) (hkt : kt ≤ 120) (hgT : ∀ j : Nat, narrow .char (.int (gT j)) = .int (gT j)) (bt : Nat → Nat) (hbt : ∀ j : Nat, gT j = nI (bt j)) (hb8 : ∀ j : Nat, bt j < 256) (jR : Nat) (r1 : Nat) (r2 : Nat) (c1 : ClassId) (c2 : ClassId) (s1 : Nat → Int32) (s2 : Nat → Int32) (wr : Nat) (fi : Nat) (q6 : Nat) (q7 : Nat) (hwr : wr ≤ 120) (hfi : fi ≤ 124) (pn : Nat) (hpn : pn ≤ kt) (hwp : wr ≤ pn) (b6 : Nat) (n6 : Nat) (g6 : Nat → Int32) (hn6 : n6 ≤ 8) (b7 : Nat) (n7 : Nat) (g7 : Nat → Int32) (hn7 : n7 ≤ 8) (gn6 : ∀ k : Nat, ∃ v : Nat, v < 128 ∧ g6 k = nI v) (hz6 : kIx g6 n6 (nI 0) = n6) (gn7 : ∀ k : Nat, ∃ v : Nat, v < 128 ∧ g7 k = nI v) (hz7 : kIx g7 n7 (nI 0) = n7) (sz : Nat) : Met l yX4_readUnit w_s_unit4x_6_0 ({ frames := 9, cells := 0, slots := 0, locals := 540 }) (kW dC dI [.ref jR, .int 6, .int 0] [(jR, .inr (4, [.ref jT, .ref r1, .ref r2, .int (nI (wr)), .int (nI (fi)), .int (nI (pn)), .ref q6, .ref q7])), (r1, .inl (c1, 120, .inl s1)), (r2, .inl (c2, 124, .inl s2)), (jT, .inr (8, [.ref t0, .int (nI (kt))])), (t0, .inl (cC, 120, .inl gT))] [(c1, .int), (c2, .int), (cC, .char)] (kS2 q6 b6 n6 g6 q7 b7 n7 g7 (va_A [(jR, .inr (4, [.ref jT, .ref r1, .ref r2, .int (nI (wr)), .int (nI (fi)), .int (nI (pn)), .ref q6, .ref q7])), (r1, .inl (c1, 120, .inl s1)), (r2, .inl (c2, 124, .inl s2)), (jT, .inr (8, [.ref t0, .int (nI (kt))])), (t0, .inl (cC, 120, .inl gT))] sz)) sz) (va_Qi (fun (r : Int32) (u : (Nat → Int32) × Nat × Nat × Bool × (List Int32)) => match u with | (S1, Wr, Pn, xo, xl) => (r = kBo xo ∧ kPR (kUnitD bt kt g7 n7 0 pn) pn kt wr s1 xo Pn xl Wr S1 ∧ Wr ≤ 120)) (fun (u : (Nat → Int32) × Nat × Nat × Bool × (List Int32)) => match u with | (S1, Wr, Pn, xo, xl) => fun t : State => kB dC dI [(jR, .inr (4, [.ref jT, .ref r1, .ref r2, .int (nI (Wr)), .int (nI (fi)), .int (nI (Pn)), .ref q6, .ref q7])), (r1, .inl (c1, 120, .inl S1)), (r2, .inl (c2, 124, .inl s2)), (jT, .inr (8, [.ref t0, .int (nI (kt))])), (t0, .inl (cC, 120, .inl gT))] [(c1, .int), (c2, .int), (cC, .char)] (va_A [(jR, .inr (4, [.ref jT, .ref r1, .ref r2, .int (nI (wr)), .int (nI (fi)), .int (nI (pn)), .ref q6, .ref q7])), (r1, .inl (c1, 120, .inl s1)), (r2, .inl (c2, 124, .inl s2)), (jT, .inr (8, [.ref t0, .int (nI (kt))])), (t0, .inl (cC, 120, .inl gT))] sz) t) (va_A [(jR, .inr (4, [.ref jT, .ref r1, .ref r2, .int (nI (wr)), .int (nI (fi)), .int (nI (pn)), .ref q6, .ref q7])), (r1, .inl (c1, 120, .inl s1)), (r2, .inl (c2, 124, .inl s2)), (jT, .inr (8, [.ref t0, .int (nI (kt))])), (t0, .inl (cC, 120, .inl gT))] sz)) 0 0 (va_A [(jR, .inr (4, [.ref jT, .ref r1, .ref r2, .int (nI (wr)), .int (nI (fi)), .int (nI (pn)), .ref q6, .ref q7])), (r1, .inl (c1, 120, .inl s1)), (r2, .inl (c2, 124, .inl s2)), (jT, .inr (8, [.ref t0, .int (nI (kt))])), (t0, .inl (cC, 120, .inl gT))] sz) := by
  sorry

theorem dX4_readTruth_0 : decode cX4_readTruth 0 = .ok (.aload_n 0, 1) := by decide +kernel
theorem dX4_readTruth_1 : decode cX4_readTruth 1 = .ok (.iload_n 1, 1) := by decide +kernel
theorem dX4_readTruth_2 : decode cX4_readTruth 2 = .ok (.iload_n 2, 1) := by decide +kernel
theorem dX4_readTruth_3 : decode cX4_readTruth 3 = .ok (.invokevirtual 99, 3) := by decide +kernel
theorem dX4_readTruth_6 : decode cX4_readTruth 6 = .ok (.ifCond .ne 5, 3) := by decide +kernel
theorem dX4_readTruth_11 : decode cX4_readTruth 11 = .ok (.iconst 0, 1) := by decide +kernel
theorem dX4_readTruth_12 : decode cX4_readTruth 12 = .ok (.istore_n 3, 1) := by decide +kernel
theorem dX4_readTruth_13 : decode cX4_readTruth 13 = .ok (.iload_n 3, 1) := by decide +kernel
theorem dX4_readTruth_14 : decode cX4_readTruth 14 = .ok (.bipush 120, 2) := by decide +kernel
theorem dX4_readTruth_16 : decode cX4_readTruth 16 = .ok (.if_icmp .ge 49, 3) := by decide +kernel
theorem dX4_readTruth_65 : decode cX4_readTruth 65 = .ok (.iconst 1, 1) := by decide +kernel
theorem dX4_readTruth_66 : decode cX4_readTruth 66 = .ok (.ireturn, 1) := by decide +kernel
theorem dX4_readTruth_19 : decode cX4_readTruth 19 = .ok (.aload_n 0, 1) := by decide +kernel
theorem dX4_readTruth_20 : decode cX4_readTruth 20 = .ok (.invokevirtual 53, 3) := by decide +kernel
theorem dX4_readTruth_23 : decode cX4_readTruth 23 = .ok (.bipush 38, 2) := by decide +kernel
theorem dX4_readTruth_25 : decode cX4_readTruth 25 = .ok (.if_icmp .ne 40, 3) := by decide +kernel
theorem dX4_readTruth_28 : decode cX4_readTruth 28 = .ok (.aload_n 0, 1) := by decide +kernel
theorem dX4_readTruth_29 : decode cX4_readTruth 29 = .ok (.dup, 1) := by decide +kernel
theorem dX4_readTruth_30 : decode cX4_readTruth 30 = .ok (.getfield 25, 3) := by decide +kernel
theorem dX4_readTruth_33 : decode cX4_readTruth 33 = .ok (.iconst 1, 1) := by decide +kernel
theorem dX4_readTruth_34 : decode cX4_readTruth 34 = .ok (.iadd, 1) := by decide +kernel
theorem dX4_readTruth_35 : decode cX4_readTruth 35 = .ok (.putfield 25, 3) := by decide +kernel
theorem dX4_readTruth_38 : decode cX4_readTruth 38 = .ok (.aload_n 0, 1) := by decide +kernel
theorem dX4_readTruth_39 : decode cX4_readTruth 39 = .ok (.iload_n 1, 1) := by decide +kernel
theorem dX4_readTruth_40 : decode cX4_readTruth 40 = .ok (.iconst 0, 1) := by decide +kernel
theorem dX4_readTruth_41 : decode cX4_readTruth 41 = .ok (.invokevirtual 99, 3) := by decide +kernel
theorem dX4_readTruth_44 : decode cX4_readTruth 44 = .ok (.ifCond .eq 13, 3) := by decide +kernel
theorem dX4_readTruth_57 : decode cX4_readTruth 57 = .ok (.iconst 0, 1) := by decide +kernel
theorem dX4_readTruth_58 : decode cX4_readTruth 58 = .ok (.ireturn, 1) := by decide +kernel
theorem dX4_readTruth_47 : decode cX4_readTruth 47 = .ok (.aload_n 0, 1) := by decide +kernel
theorem dX4_readTruth_48 : decode cX4_readTruth 48 = .ok (.sipush 20038, 3) := by decide +kernel
theorem dX4_readTruth_51 : decode cX4_readTruth 51 = .ok (.invokevirtual 96, 3) := by decide +kernel
theorem dX4_readTruth_54 : decode cX4_readTruth 54 = .ok (.ifCond .ne 5, 3) := by decide +kernel
theorem dX4_readTruth_59 : decode cX4_readTruth 59 = .ok (.iinc 3 1, 3) := by decide +kernel
theorem dX4_readTruth_62 : decode cX4_readTruth 62 = .ok (.goto (-49), 3) := by decide +kernel
theorem dX4_readTruth_9 : decode cX4_readTruth 9 = .ok (.iconst 0, 1) := by decide +kernel
theorem dX4_readTruth_10 : decode cX4_readTruth 10 = .ok (.ireturn, 1) := by decide +kernel
theorem hd_X4_readTruth : yX4_readTruth.cls ≠ "java/lang/invoke/MethodHandle" ∧ yX4_readTruth.cls ≠ "java/lang/invoke/VarHandle" ∧ (parseMethodDescriptor yX4_readTruth.desc).map (fun d => d.parameters.length) = some 2 := by decide +kernel
theorem dX4_readCondition_0 : decode cX4_readCondition 0 = .ok (.aload_n 0, 1) := by decide +kernel
theorem dX4_readCondition_1 : decode cX4_readCondition 1 = .ok (.iload_n 1, 1) := by decide +kernel
theorem dX4_readCondition_2 : decode cX4_readCondition 2 = .ok (.iload_n 2, 1) := by decide +kernel
theorem dX4_readCondition_3 : decode cX4_readCondition 3 = .ok (.invokevirtual 93, 3) := by decide +kernel
theorem dX4_readCondition_6 : decode cX4_readCondition 6 = .ok (.ifCond .ne 5, 3) := by decide +kernel
theorem dX4_readCondition_11 : decode cX4_readCondition 11 = .ok (.iconst 0, 1) := by decide +kernel
theorem dX4_readCondition_12 : decode cX4_readCondition 12 = .ok (.istore_n 3, 1) := by decide +kernel
theorem dX4_readCondition_13 : decode cX4_readCondition 13 = .ok (.iload_n 3, 1) := by decide +kernel
theorem dX4_readCondition_14 : decode cX4_readCondition 14 = .ok (.bipush 120, 2) := by decide +kernel
theorem dX4_readCondition_16 : decode cX4_readCondition 16 = .ok (.if_icmp .ge 49, 3) := by decide +kernel
theorem dX4_readCondition_65 : decode cX4_readCondition 65 = .ok (.iconst 1, 1) := by decide +kernel
theorem dX4_readCondition_66 : decode cX4_readCondition 66 = .ok (.ireturn, 1) := by decide +kernel
theorem dX4_readCondition_19 : decode cX4_readCondition 19 = .ok (.aload_n 0, 1) := by decide +kernel
theorem dX4_readCondition_20 : decode cX4_readCondition 20 = .ok (.invokevirtual 53, 3) := by decide +kernel
theorem dX4_readCondition_23 : decode cX4_readCondition 23 = .ok (.bipush 124, 2) := by decide +kernel
theorem dX4_readCondition_25 : decode cX4_readCondition 25 = .ok (.if_icmp .ne 40, 3) := by decide +kernel
theorem dX4_readCondition_28 : decode cX4_readCondition 28 = .ok (.aload_n 0, 1) := by decide +kernel
theorem dX4_readCondition_29 : decode cX4_readCondition 29 = .ok (.dup, 1) := by decide +kernel
theorem dX4_readCondition_30 : decode cX4_readCondition 30 = .ok (.getfield 25, 3) := by decide +kernel
theorem dX4_readCondition_33 : decode cX4_readCondition 33 = .ok (.iconst 1, 1) := by decide +kernel
theorem dX4_readCondition_34 : decode cX4_readCondition 34 = .ok (.iadd, 1) := by decide +kernel
theorem dX4_readCondition_35 : decode cX4_readCondition 35 = .ok (.putfield 25, 3) := by decide +kernel
theorem dX4_readCondition_38 : decode cX4_readCondition 38 = .ok (.aload_n 0, 1) := by decide +kernel
theorem dX4_readCondition_39 : decode cX4_readCondition 39 = .ok (.iload_n 1, 1) := by decide +kernel
theorem dX4_readCondition_40 : decode cX4_readCondition 40 = .ok (.iconst 0, 1) := by decide +kernel
theorem dX4_readCondition_41 : decode cX4_readCondition 41 = .ok (.invokevirtual 93, 3) := by decide +kernel
theorem dX4_readCondition_44 : decode cX4_readCondition 44 = .ok (.ifCond .eq 13, 3) := by decide +kernel
theorem dX4_readCondition_57 : decode cX4_readCondition 57 = .ok (.iconst 0, 1) := by decide +kernel
theorem dX4_readCondition_58 : decode cX4_readCondition 58 = .ok (.ireturn, 1) := by decide +kernel
theorem dX4_readCondition_47 : decode cX4_readCondition 47 = .ok (.aload_n 0, 1) := by decide +kernel
theorem dX4_readCondition_48 : decode cX4_readCondition 48 = .ok (.sipush 20124, 3) := by decide +kernel
theorem dX4_readCondition_51 : decode cX4_readCondition 51 = .ok (.invokevirtual 96, 3) := by decide +kernel
theorem dX4_readCondition_54 : decode cX4_readCondition 54 = .ok (.ifCond .ne 5, 3) := by decide +kernel
theorem dX4_readCondition_59 : decode cX4_readCondition 59 = .ok (.iinc 3 1, 3) := by decide +kernel
theorem dX4_readCondition_62 : decode cX4_readCondition 62 = .ok (.goto (-49), 3) := by decide +kernel
theorem dX4_readCondition_9 : decode cX4_readCondition 9 = .ok (.iconst 0, 1) := by decide +kernel
theorem dX4_readCondition_10 : decode cX4_readCondition 10 = .ok (.ireturn, 1) := by decide +kernel
def w_s_cond4x_6_0 : List Cond := .code yX4_readCondition cX4_readCondition 4 (some .boolean) :: wf_rq
theorem hd_X4_readCondition : yX4_readCondition.cls ≠ "java/lang/invoke/MethodHandle" ∧ yX4_readCondition.cls ≠ "java/lang/invoke/VarHandle" ∧ (parseMethodDescriptor yX4_readCondition.desc).map (fun d => d.parameters.length) = some 2 := by decide +kernel
set_option maxHeartbeats 4000000 in
set_option maxRecDepth 100000 in
theorem s_cond4x_6_0 (l : Launch) (dC : Nat → ClassId) (dI : Nat → Nat → Nat) (jT : Nat) (t0 : Nat) (cC : ClassId) (gT : Nat → Int32) (kt : Nat) (hkt : kt ≤ 120) (hgT : ∀ j : Nat, narrow .char (.int (gT j)) = .int (gT j)) (bt : Nat → Nat) (hbt : ∀ j : Nat, gT j = nI (bt j)) (hb8 : ∀ j : Nat, bt j < 256) (jR : Nat) (r1 : Nat) (r2 : Nat) (c1 : ClassId) (c2 : ClassId) (s1 : Nat → Int32) (s2 : Nat → Int32) (wr : Nat) (fi : Nat) (q6 : Nat) (q7 : Nat) (hwr : wr ≤ 120) (hfi : fi ≤ 124) (pn : Nat) (hpn : pn ≤ kt) (hwp : wr ≤ pn) (b6 : Nat) (n6 : Nat) (g6 : Nat → Int32) (hn6 : n6 ≤ 8) (b7 : Nat) (n7 : Nat) (g7 : Nat → Int32) (hn7 : n7 ≤ 8) (gn6 : ∀ k : Nat, ∃ v : Nat, v < 128 ∧ g6 k = nI v) (hz6 : kIx g6 n6 (nI 0) = n6) (gn7 : ∀ k : Nat, ∃ v : Nat, v < 128 ∧ g7 k = nI v) (hz7 : kIx g7 n7 (nI 0) = n7) (sz : Nat) : Met l yX4_readCondition w_s_cond4x_6_0 ({ frames := 11, cells := 0, slots := 0, locals := 660 }) (kW dC dI [.ref jR, .int 6, .int 0] [(jR, .inr (4, [.ref jT, .ref r1, .ref r2, .int (nI (wr)), .int (nI (fi)), .int (nI (pn)), .ref q6, .ref q7])), (r1, .inl (c1, 120, .inl s1)), (r2, .inl (c2, 124, .inl s2)), (jT, .inr (8, [.ref t0, .int (nI (kt))])), (t0, .inl (cC, 120, .inl gT))] [(c1, .int), (c2, .int), (cC, .char)] (kS2 q6 b6 n6 g6 q7 b7 n7 g7 (va_A [(jR, .inr (4, [.ref jT, .ref r1, .ref r2, .int (nI (wr)), .int (nI (fi)), .int (nI (pn)), .ref q6, .ref q7])), (r1, .inl (c1, 120, .inl s1)), (r2, .inl (c2, 124, .inl s2)), (jT, .inr (8, [.ref t0, .int (nI (kt))])), (t0, .inl (cC, 120, .inl gT))] sz)) sz) (va_Qi (fun (r : Int32) (u : (Nat → Int32) × Nat × Nat × Bool × (List Int32)) => match u with | (S1, Wr, Pn, xo, xl) => (r = kBo xo ∧ kPR (kConD bt kt g7 n7 0 pn) pn kt wr s1 xo Pn xl Wr S1 ∧ Wr ≤ 120)) (fun (u : (Nat → Int32) × Nat × Nat × Bool × (List Int32)) => match u with | (S1, Wr, Pn, xo, xl) => fun t : State => kB dC dI [(jR, .inr (4, [.ref jT, .ref r1, .ref r2, .int (nI (Wr)), .int (nI (fi)), .int (nI (Pn)), .ref q6, .ref q7])), (r1, .inl (c1, 120, .inl S1)), (r2, .inl (c2, 124, .inl s2)), (jT, .inr (8, [.ref t0, .int (nI (kt))])), (t0, .inl (cC, 120, .inl gT))] [(c1, .int), (c2, .int), (cC, .char)] (va_A [(jR, .inr (4, [.ref jT, .ref r1, .ref r2, .int (nI (wr)), .int (nI (fi)), .int (nI (pn)), .ref q6, .ref q7])), (r1, .inl (c1, 120, .inl s1)), (r2, .inl (c2, 124, .inl s2)), (jT, .inr (8, [.ref t0, .int (nI (kt))])), (t0, .inl (cC, 120, .inl gT))] sz) t) (va_A [(jR, .inr (4, [.ref jT, .ref r1, .ref r2, .int (nI (wr)), .int (nI (fi)), .int (nI (pn)), .ref q6, .ref q7])), (r1, .inl (c1, 120, .inl s1)), (r2, .inl (c2, 124, .inl s2)), (jT, .inr (8, [.ref t0, .int (nI (kt))])), (t0, .inl (cC, 120, .inl gT))] sz)) 0 0 (va_A [(jR, .inr (4, [.ref jT, .ref r1, .ref r2, .int (nI (wr)), .int (nI (fi)), .int (nI (pn)), .ref q6, .ref q7])), (r1, .inl (c1, 120, .inl s1)), (r2, .inl (c2, 124, .inl s2)), (jT, .inr (8, [.ref t0, .int (nI (kt))])), (t0, .inl (cC, 120, .inl gT))] sz) := by
  sorry
end
section
def w_s_sum4x_I : List Cond := .code yX4_readSum cX4_readSum 4 (some .boolean) :: wf_rq
theorem gw_s_sum4x_I : (w_s_sum4x_I).all goodWord = true := kFamG rfl gf_rq
/-- one depth deeper -/
def kQsum (e1 : Nat) : Prop := ∀ (l : Launch) (dC : Nat → ClassId) (dI : Nat → Nat → Nat) (jT : Nat) (t0 : Nat) (cC : ClassId) (gT : Nat → Int32) (kt : Nat) (hkt : kt ≤ 120) (hgT : ∀ j : Nat, narrow .char (.int (gT j)) = .int (gT j)) (bt : Nat → Nat) (hbt : ∀ j : Nat, gT j = nI (bt j)) (hb8 : ∀ j : Nat, bt j < 256) (jR : Nat) (r1 : Nat) (r2 : Nat) (c1 : ClassId) (c2 : ClassId) (s1 : Nat → Int32) (s2 : Nat → Int32) (wr : Nat) (fi : Nat) (q6 : Nat) (q7 : Nat) (hwr : wr ≤ 120) (hfi : fi ≤ 124) (pn : Nat) (hpn : pn ≤ kt) (hwp : wr ≤ pn) (b6 : Nat) (n6 : Nat) (g6 : Nat → Int32) (hn6 : n6 ≤ 8) (b7 : Nat) (n7 : Nat) (g7 : Nat → Int32) (hn7 : n7 ≤ 8) (gn6 : ∀ k : Nat, ∃ v : Nat, v < 128 ∧ g6 k = nI v) (hz6 : kIx g6 n6 (nI 0) = n6) (gn7 : ∀ k : Nat, ∃ v : Nat, v < 128 ∧ g7 k = nI v) (hz7 : kIx g7 n7 (nI 0) = n7) (dd : Nat) (hde : dd + e1 = 6) (sz : Nat), Met l yX4_readSum w_s_sum4x_I ({ frames := (8 + 6 * e1), cells := 0, slots := 0, locals := 60 * (8 + 6 * e1) }) (kW dC dI [.ref jR, .int (nI (dd))] [(jR, .inr (4, [.ref jT, .ref r1, .ref r2, .int (nI (wr)), .int (nI (fi)), .int (nI (pn)), .ref q6, .ref q7])), (r1, .inl (c1, 120, .inl s1)), (r2, .inl (c2, 124, .inl s2)), (jT, .inr (8, [.ref t0, .int (nI (kt))])), (t0, .inl (cC, 120, .inl gT))] [(c1, .int), (c2, .int), (cC, .char)] (kS2 q6 b6 n6 g6 q7 b7 n7 g7 (va_A [(jR, .inr (4, [.ref jT, .ref r1, .ref r2, .int (nI (wr)), .int (nI (fi)), .int (nI (pn)), .ref q6, .ref q7])), (r1, .inl (c1, 120, .inl s1)), (r2, .inl (c2, 124, .inl s2)), (jT, .inr (8, [.ref t0, .int (nI (kt))])), (t0, .inl (cC, 120, .inl gT))] sz)) sz) (va_Qi (fun (r : Int32) (u : (Nat → Int32) × Nat × Nat × Bool × (List Int32)) => match u with | (S1, Wr, Pn, xo, xl) => (r = kBo xo ∧ kPR (kSumD bt kt g7 n7 e1 pn) pn kt wr s1 xo Pn xl Wr S1 ∧ Wr ≤ 120)) (fun (u : (Nat → Int32) × Nat × Nat × Bool × (List Int32)) => match u with | (S1, Wr, Pn, xo, xl) => fun t : State => kB dC dI [(jR, .inr (4, [.ref jT, .ref r1, .ref r2, .int (nI (Wr)), .int (nI (fi)), .int (nI (Pn)), .ref q6, .ref q7])), (r1, .inl (c1, 120, .inl S1)), (r2, .inl (c2, 124, .inl s2)), (jT, .inr (8, [.ref t0, .int (nI (kt))])), (t0, .inl (cC, 120, .inl gT))] [(c1, .int), (c2, .int), (cC, .char)] (va_A [(jR, .inr (4, [.ref jT, .ref r1, .ref r2, .int (nI (wr)), .int (nI (fi)), .int (nI (pn)), .ref q6, .ref q7])), (r1, .inl (c1, 120, .inl s1)), (r2, .inl (c2, 124, .inl s2)), (jT, .inr (8, [.ref t0, .int (nI (kt))])), (t0, .inl (cC, 120, .inl gT))] sz) t) (va_A [(jR, .inr (4, [.ref jT, .ref r1, .ref r2, .int (nI (wr)), .int (nI (fi)), .int (nI (pn)), .ref q6, .ref q7])), (r1, .inl (c1, 120, .inl s1)), (r2, .inl (c2, 124, .inl s2)), (jT, .inr (8, [.ref t0, .int (nI (kt))])), (t0, .inl (cC, 120, .inl gT))] sz)) 0 0 (va_A [(jR, .inr (4, [.ref jT, .ref r1, .ref r2, .int (nI (wr)), .int (nI (fi)), .int (nI (pn)), .ref q6, .ref q7])), (r1, .inl (c1, 120, .inl s1)), (r2, .inl (c2, 124, .inl s2)), (jT, .inr (8, [.ref t0, .int (nI (kt))])), (t0, .inl (cC, 120, .inl gT))] sz)

def w_s_unit4x_I_0 : List Cond := .code yX4_readUnit cX4_readUnit 4 (some .boolean) :: wf_rq
theorem gw_s_unit4x_I_0 : (w_s_unit4x_I_0).all goodWord = true := kFamG rfl gf_rq
/-- one depth deeper -/
def kQunit (e1 : Nat) : Prop := ∀ (l : Launch) (dC : Nat → ClassId) (dI : Nat → Nat → Nat) (jT : Nat) (t0 : Nat) (cC : ClassId) (gT : Nat → Int32) (kt : Nat) (hkt : kt ≤ 120) (hgT : ∀ j : Nat, narrow .char (.int (gT j)) = .int (gT j)) (bt : Nat → Nat) (hbt : ∀ j : Nat, gT j = nI (bt j)) (hb8 : ∀ j : Nat, bt j < 256) (jR : Nat) (r1 : Nat) (r2 : Nat) (c1 : ClassId) (c2 : ClassId) (s1 : Nat → Int32) (s2 : Nat → Int32) (wr : Nat) (fi : Nat) (q6 : Nat) (q7 : Nat) (hwr : wr ≤ 120) (hfi : fi ≤ 124) (pn : Nat) (hpn : pn ≤ kt) (hwp : wr ≤ pn) (b6 : Nat) (n6 : Nat) (g6 : Nat → Int32) (hn6 : n6 ≤ 8) (b7 : Nat) (n7 : Nat) (g7 : Nat → Int32) (hn7 : n7 ≤ 8) (gn6 : ∀ k : Nat, ∃ v : Nat, v < 128 ∧ g6 k = nI v) (hz6 : kIx g6 n6 (nI 0) = n6) (gn7 : ∀ k : Nat, ∃ v : Nat, v < 128 ∧ g7 k = nI v) (hz7 : kIx g7 n7 (nI 0) = n7) (dd : Nat) (hde : dd + e1 = 6) (sz : Nat), Met l yX4_readUnit w_s_unit4x_I_0 ({ frames := (9 + 6 * e1), cells := 0, slots := 0, locals := 60 * (9 + 6 * e1) }) (kW dC dI [.ref jR, .int (nI (dd)), .int 0] [(jR, .inr (4, [.ref jT, .ref r1, .ref r2, .int (nI (wr)), .int (nI (fi)), .int (nI (pn)), .ref q6, .ref q7])), (r1, .inl (c1, 120, .inl s1)), (r2, .inl (c2, 124, .inl s2)), (jT, .inr (8, [.ref t0, .int (nI (kt))])), (t0, .inl (cC, 120, .inl gT))] [(c1, .int), (c2, .int), (cC, .char)] (kS2 q6 b6 n6 g6 q7 b7 n7 g7 (va_A [(jR, .inr (4, [.ref jT, .ref r1, .ref r2, .int (nI (wr)), .int (nI (fi)), .int (nI (pn)), .ref q6, .ref q7])), (r1, .inl (c1, 120, .inl s1)), (r2, .inl (c2, 124, .inl s2)), (jT, .inr (8, [.ref t0, .int (nI (kt))])), (t0, .inl (cC, 120, .inl gT))] sz)) sz) (va_Qi (fun (r : Int32) (u : (Nat → Int32) × Nat × Nat × Bool × (List Int32)) => match u with | (S1, Wr, Pn, xo, xl) => (r = kBo xo ∧ kPR (kUnitD bt kt g7 n7 e1 pn) pn kt wr s1 xo Pn xl Wr S1 ∧ Wr ≤ 120)) (fun (u : (Nat → Int32) × Nat × Nat × Bool × (List Int32)) => match u with | (S1, Wr, Pn, xo, xl) => fun t : State => kB dC dI [(jR, .inr (4, [.ref jT, .ref r1, .ref r2, .int (nI (Wr)), .int (nI (fi)), .int (nI (Pn)), .ref q6, .ref q7])), (r1, .inl (c1, 120, .inl S1)), (r2, .inl (c2, 124, .inl s2)), (jT, .inr (8, [.ref t0, .int (nI (kt))])), (t0, .inl (cC, 120, .inl gT))] [(c1, .int), (c2, .int), (cC, .char)] (va_A [(jR, .inr (4, [.ref jT, .ref r1, .ref r2, .int (nI (wr)), .int (nI (fi)), .int (nI (pn)), .ref q6, .ref q7])), (r1, .inl (c1, 120, .inl s1)), (r2, .inl (c2, 124, .inl s2)), (jT, .inr (8, [.ref t0, .int (nI (kt))])), (t0, .inl (cC, 120, .inl gT))] sz) t) (va_A [(jR, .inr (4, [.ref jT, .ref r1, .ref r2, .int (nI (wr)), .int (nI (fi)), .int (nI (pn)), .ref q6, .ref q7])), (r1, .inl (c1, 120, .inl s1)), (r2, .inl (c2, 124, .inl s2)), (jT, .inr (8, [.ref t0, .int (nI (kt))])), (t0, .inl (cC, 120, .inl gT))] sz)) 0 0 (va_A [(jR, .inr (4, [.ref jT, .ref r1, .ref r2, .int (nI (wr)), .int (nI (fi)), .int (nI (pn)), .ref q6, .ref q7])), (r1, .inl (c1, 120, .inl s1)), (r2, .inl (c2, 124, .inl s2)), (jT, .inr (8, [.ref t0, .int (nI (kt))])), (t0, .inl (cC, 120, .inl gT))] sz)

def w_s_cond4x_I_0 : List Cond := .code yX4_readCondition cX4_readCondition 4 (some .boolean) :: wf_rq
theorem gw_s_cond4x_I_0 : (w_s_cond4x_I_0).all goodWord = true := kFamG rfl gf_rq
/-- one depth deeper -/
def kQcond (e1 : Nat) : Prop := ∀ (l : Launch) (dC : Nat → ClassId) (dI : Nat → Nat → Nat) (jT : Nat) (t0 : Nat) (cC : ClassId) (gT : Nat → Int32) (kt : Nat) (hkt : kt ≤ 120) (hgT : ∀ j : Nat, narrow .char (.int (gT j)) = .int (gT j)) (bt : Nat → Nat) (hbt : ∀ j : Nat, gT j = nI (bt j)) (hb8 : ∀ j : Nat, bt j < 256) (jR : Nat) (r1 : Nat) (r2 : Nat) (c1 : ClassId) (c2 : ClassId) (s1 : Nat → Int32) (s2 : Nat → Int32) (wr : Nat) (fi : Nat) (q6 : Nat) (q7 : Nat) (hwr : wr ≤ 120) (hfi : fi ≤ 124) (pn : Nat) (hpn : pn ≤ kt) (hwp : wr ≤ pn) (b6 : Nat) (n6 : Nat) (g6 : Nat → Int32) (hn6 : n6 ≤ 8) (b7 : Nat) (n7 : Nat) (g7 : Nat → Int32) (hn7 : n7 ≤ 8) (gn6 : ∀ k : Nat, ∃ v : Nat, v < 128 ∧ g6 k = nI v) (hz6 : kIx g6 n6 (nI 0) = n6) (gn7 : ∀ k : Nat, ∃ v : Nat, v < 128 ∧ g7 k = nI v) (hz7 : kIx g7 n7 (nI 0) = n7) (dd : Nat) (hde : dd + e1 = 6) (sz : Nat), Met l yX4_readCondition w_s_cond4x_I_0 ({ frames := (11 + 6 * e1), cells := 0, slots := 0, locals := 60 * (11 + 6 * e1) }) (kW dC dI [.ref jR, .int (nI (dd)), .int 0] [(jR, .inr (4, [.ref jT, .ref r1, .ref r2, .int (nI (wr)), .int (nI (fi)), .int (nI (pn)), .ref q6, .ref q7])), (r1, .inl (c1, 120, .inl s1)), (r2, .inl (c2, 124, .inl s2)), (jT, .inr (8, [.ref t0, .int (nI (kt))])), (t0, .inl (cC, 120, .inl gT))] [(c1, .int), (c2, .int), (cC, .char)] (kS2 q6 b6 n6 g6 q7 b7 n7 g7 (va_A [(jR, .inr (4, [.ref jT, .ref r1, .ref r2, .int (nI (wr)), .int (nI (fi)), .int (nI (pn)), .ref q6, .ref q7])), (r1, .inl (c1, 120, .inl s1)), (r2, .inl (c2, 124, .inl s2)), (jT, .inr (8, [.ref t0, .int (nI (kt))])), (t0, .inl (cC, 120, .inl gT))] sz)) sz) (va_Qi (fun (r : Int32) (u : (Nat → Int32) × Nat × Nat × Bool × (List Int32)) => match u with | (S1, Wr, Pn, xo, xl) => (r = kBo xo ∧ kPR (kConD bt kt g7 n7 e1 pn) pn kt wr s1 xo Pn xl Wr S1 ∧ Wr ≤ 120)) (fun (u : (Nat → Int32) × Nat × Nat × Bool × (List Int32)) => match u with | (S1, Wr, Pn, xo, xl) => fun t : State => kB dC dI [(jR, .inr (4, [.ref jT, .ref r1, .ref r2, .int (nI (Wr)), .int (nI (fi)), .int (nI (Pn)), .ref q6, .ref q7])), (r1, .inl (c1, 120, .inl S1)), (r2, .inl (c2, 124, .inl s2)), (jT, .inr (8, [.ref t0, .int (nI (kt))])), (t0, .inl (cC, 120, .inl gT))] [(c1, .int), (c2, .int), (cC, .char)] (va_A [(jR, .inr (4, [.ref jT, .ref r1, .ref r2, .int (nI (wr)), .int (nI (fi)), .int (nI (pn)), .ref q6, .ref q7])), (r1, .inl (c1, 120, .inl s1)), (r2, .inl (c2, 124, .inl s2)), (jT, .inr (8, [.ref t0, .int (nI (kt))])), (t0, .inl (cC, 120, .inl gT))] sz) t) (va_A [(jR, .inr (4, [.ref jT, .ref r1, .ref r2, .int (nI (wr)), .int (nI (fi)), .int (nI (pn)), .ref q6, .ref q7])), (r1, .inl (c1, 120, .inl s1)), (r2, .inl (c2, 124, .inl s2)), (jT, .inr (8, [.ref t0, .int (nI (kt))])), (t0, .inl (cC, 120, .inl gT))] sz)) 0 0 (va_A [(jR, .inr (4, [.ref jT, .ref r1, .ref r2, .int (nI (wr)), .int (nI (fi)), .int (nI (pn)), .ref q6, .ref q7])), (r1, .inl (c1, 120, .inl s1)), (r2, .inl (c2, 124, .inl s2)), (jT, .inr (8, [.ref t0, .int (nI (kt))])), (t0, .inl (cC, 120, .inl gT))] sz)

def kIHq (e1 : Nat) : Prop := kQsum e1 ∧ kQunit e1 ∧ kQcond e1

theorem dX4_readAtom_19 : decode cX4_readAtom 19 = .ok (.aload_n 0, 1) := by decide +kernel
theorem dX4_readAtom_20 : decode cX4_readAtom 20 = .ok (.iload_n 1, 1) := by decide +kernel
theorem dX4_readAtom_21 : decode cX4_readAtom 21 = .ok (.iconst 1, 1) := by decide +kernel
theorem dX4_readAtom_22 : decode cX4_readAtom 22 = .ok (.iadd, 1) := by decide +kernel
theorem dX4_readAtom_23 : decode cX4_readAtom 23 = .ok (.invokevirtual 78, 3) := by decide +kernel
theorem dX4_readAtom_26 : decode cX4_readAtom 26 = .ok (.ifCond .eq 16, 3) := by decide +kernel
theorem dX4_readAtom_29 : decode cX4_readAtom 29 = .ok (.aload_n 0, 1) := by decide +kernel
theorem dX4_readAtom_30 : decode cX4_readAtom 30 = .ok (.bipush 93, 2) := by decide +kernel
theorem dX4_readAtom_32 : decode cX4_readAtom 32 = .ok (.invokevirtual 57, 3) := by decide +kernel
theorem dX4_readAtom_35 : decode cX4_readAtom 35 = .ok (.ifCond .eq 7, 3) := by decide +kernel
theorem dX4_readAtom_38 : decode cX4_readAtom 38 = .ok (.iconst 1, 1) := by decide +kernel
theorem dX4_readAtom_39 : decode cX4_readAtom 39 = .ok (.goto 4, 3) := by decide +kernel
def w_s_atom4x_g : List Cond := .code yX4_readAtom cX4_readAtom 4 (some .boolean) :: wf_rq
theorem gw_s_atom4x_g : (w_s_atom4x_g).all goodWord = true := kFamG rfl gf_rq
set_option maxHeartbeats 4000000 in
set_option maxRecDepth 100000 in
theorem s_atom4x_g (l : Launch) (dC : Nat → ClassId) (dI : Nat → Nat → Nat) (jT : Nat) (t0 : Nat) (cC : ClassId) (gT : Nat → Int32) (kt : Nat) (hkt : kt ≤ 120) (hgT : ∀ j : Nat, narrow .char (.int (gT j)) = .int (gT j)) (bt : Nat → Nat) (hbt : ∀ j : Nat, gT j = nI (bt j)) (hb8 : ∀ j : Nat, bt j < 256) (jR : Nat) (r1 : Nat) (r2 : Nat) (c1 : ClassId) (c2 : ClassId) (s1 : Nat → Int32) (s2 : Nat → Int32) (wr : Nat) (fi : Nat) (q6 : Nat) (q7 : Nat) (hwr : wr ≤ 120) (hfi : fi ≤ 124) (pn : Nat) (hpn : pn ≤ kt) (hwp : wr ≤ pn) (b6 : Nat) (n6 : Nat) (g6 : Nat → Int32) (hn6 : n6 ≤ 8) (b7 : Nat) (n7 : Nat) (g7 : Nat → Int32) (hn7 : n7 ≤ 8) (gn6 : ∀ k : Nat, ∃ v : Nat, v < 128 ∧ g6 k = nI v) (hz6 : kIx g6 n6 (nI 0) = n6) (gn7 : ∀ k : Nat, ∃ v : Nat, v < 128 ∧ g7 k = nI v) (hz7 : kIx g7 n7 (nI 0) = n7) (e1 : Nat) (dd : Nat) (hdd : dd + e1 = 5) (ih : kIHq e1) (sz : Nat) : Met l yX4_readAtom w_s_atom4x_g ({ frames := (6 + 6 * (e1 + 1)), cells := 0, slots := 0, locals := 60 * (6 + 6 * (e1 + 1)) }) (kW dC dI [.ref jR, .int (nI (dd))] [(jR, .inr (4, [.ref jT, .ref r1, .ref r2, .int (nI (wr)), .int (nI (fi)), .int (nI (pn)), .ref q6, .ref q7])), (r1, .inl (c1, 120, .inl s1)), (r2, .inl (c2, 124, .inl s2)), (jT, .inr (8, [.ref t0, .int (nI (kt))])), (t0, .inl (cC, 120, .inl gT))] [(c1, .int), (c2, .int), (cC, .char)] (kS2 q6 b6 n6 g6 q7 b7 n7 g7 (va_A [(jR, .inr (4, [.ref jT, .ref r1, .ref r2, .int (nI (wr)), .int (nI (fi)), .int (nI (pn)), .ref q6, .ref q7])), (r1, .inl (c1, 120, .inl s1)), (r2, .inl (c2, 124, .inl s2)), (jT, .inr (8, [.ref t0, .int (nI (kt))])), (t0, .inl (cC, 120, .inl gT))] sz)) sz) (va_Qi (fun (r : Int32) (u : (Nat → Int32) × Nat × Nat × Bool × (List Int32)) => match u with | (S1, Wr, Pn, xo, xl) => (r = kBo xo ∧ kPR (kAtomD bt kt g7 n7 (e1 + 1) pn) pn kt wr s1 xo Pn xl Wr S1 ∧ Wr ≤ 120)) (fun (u : (Nat → Int32) × Nat × Nat × Bool × (List Int32)) => match u with | (S1, Wr, Pn, xo, xl) => fun t : State => kB dC dI [(jR, .inr (4, [.ref jT, .ref r1, .ref r2, .int (nI (Wr)), .int (nI (fi)), .int (nI (Pn)), .ref q6, .ref q7])), (r1, .inl (c1, 120, .inl S1)), (r2, .inl (c2, 124, .inl s2)), (jT, .inr (8, [.ref t0, .int (nI (kt))])), (t0, .inl (cC, 120, .inl gT))] [(c1, .int), (c2, .int), (cC, .char)] (va_A [(jR, .inr (4, [.ref jT, .ref r1, .ref r2, .int (nI (wr)), .int (nI (fi)), .int (nI (pn)), .ref q6, .ref q7])), (r1, .inl (c1, 120, .inl s1)), (r2, .inl (c2, 124, .inl s2)), (jT, .inr (8, [.ref t0, .int (nI (kt))])), (t0, .inl (cC, 120, .inl gT))] sz) t) (va_A [(jR, .inr (4, [.ref jT, .ref r1, .ref r2, .int (nI (wr)), .int (nI (fi)), .int (nI (pn)), .ref q6, .ref q7])), (r1, .inl (c1, 120, .inl s1)), (r2, .inl (c2, 124, .inl s2)), (jT, .inr (8, [.ref t0, .int (nI (kt))])), (t0, .inl (cC, 120, .inl gT))] sz)) 0 0 (va_A [(jR, .inr (4, [.ref jT, .ref r1, .ref r2, .int (nI (wr)), .int (nI (fi)), .int (nI (pn)), .ref q6, .ref q7])), (r1, .inl (c1, 120, .inl s1)), (r2, .inl (c2, 124, .inl s2)), (jT, .inr (8, [.ref t0, .int (nI (kt))])), (t0, .inl (cC, 120, .inl gT))] sz) := by
  refine Met.ofW (cc := cX4_readAtom) (maxL := 4) (ret := (some .boolean)) (by decide) rfl ?_
  intro p e s m args below meth c s₁ B hml hv
  obtain ⟨rfl, hsz, hP, hK, hD0, hX⟩ := hv
  have hx := B.exec
  have hb := B.bytes
  have hr := B.returns
  have hts := atoms_spec (ws := w_s_atom4x_g) B.pre
  have hown : s.vm.findClass RX4 = some m.cls := findClass_of_methodNamed B.named
  have hlocks := B.notSynchronized
  subst hsz
  have hD := hD0.self (sz := s.heap.size)
  generalize hAe : va_A [(jR, .inr (4, [.ref jT, .ref r1, .ref r2, .int (nI (wr)), .int (nI (fi)), .int (nI (pn)), .ref q6, .ref q7])), (r1, .inl (c1, 120, .inl s1)), (r2, .inl (c2, 124, .inl s2)), (jT, .inr (8, [.ref t0, .int (nI (kt))])), (t0, .inl (cC, 120, .inl gT))] s.heap.size = A at hD hX ⊢
  have hA : ∀ q : Nat, s.heap.size ≤ q → A q := fun q h => by rw [← hAe]; exact Or.inr h
  have hS : va_S A s.heap s.heap [] := va_S.rf
  have hP : va_P (dC, dI) vwCl [(jR, .inr (4, [.ref jT, .ref r1, .ref r2, .int (nI (wr)), .int (nI (fi)), .int (nI (pn)), .ref q6, .ref q7])), (r1, .inl (c1, 120, .inl s1)), (r2, .inl (c2, 124, .inl s2)), (jT, .inr (8, [.ref t0, .int (nI (kt))])), (t0, .inl (cC, 120, .inl gT))] s.heap := hP
  have hl := lv_entry ([.ref jR, .int (nI (dd))]) (n := 4) (Nat.le_of_ble_eq_true rfl)
  rw [lg_entry_eq]
  generalize (lg_sl ([.ref jR, .int (nI (dd))]) ++ List.replicate (4 - (lg_sl ([.ref jR, .int (nI (dd))])).length) Slot.unset).toArray = ls at hl ⊢
  have hl : lv_has ls 4 [(0, .ref jR), (1, .int (nI (dd)))] := hl
  refine kQ (fun Q hQ => ?_)
  refine lv_aload_n hx hb dX4_readAtom_0 rfl (lv_at hl 0 rfl) ?_
  have hCu := kCut (wc := [(jR, .inr (4, [.ref jT, .ref r1, .ref r2, .int (nI (wr)), .int (nI (fi)), .int (nI (pn)), .ref q6, .ref q7])), (r1, .inl (c1, 120, .inl s1)), (r2, .inl (c2, 124, .inl s2)), (jT, .inr (8, [.ref t0, .int (nI (kt))])), (t0, .inl (cC, 120, .inl gT))]) hP hD hS hA [0, 1, 2, 3, 4] rfl kc_nd_311 rfl
  have hPc := hCu.1
  have hDc := hCu.2.1
  have hFc := hCu.2.2
  have hKc := hK.sb (tys2 := [(c1, .int), (c2, .int), (cC, .char)]) [0, 1, 2] rfl
  refine va_calli (va_runV (As := []) (rest := []) ⟨hx, hb, hml, hown, hts⟩ (s_look4x l dC dI jT t0 cC gT kt hkt hgT bt hbt hb8 jR r1 r2 c1 c2 s1 s2 wr fi q6 q7 hwr hfi pn hpn s.heap.size) (cwV 0 hts (kG (List.forall_mem_cons.mpr ⟨(List.mem_cons_of_mem _ (List.mem_append_left _ (List.mem_of_getElem? (i := 3) rfl))), (List.forall_mem_cons.mpr ⟨(List.mem_cons_of_mem _ (List.mem_append_left _ (List.mem_of_getElem? (i := 2) rfl))), (List.forall_mem_cons.mpr ⟨(List.mem_cons_of_mem _ (List.mem_append_left _ (List.mem_of_getElem? (i := 1) rfl))), (List.forall_mem_cons.mpr ⟨(List.mem_cons_of_mem _ (List.mem_append_left _ (List.mem_of_getElem? (i := 0) rfl))), (fun _ h => absurd h List.not_mem_nil)⟩)⟩)⟩)⟩) (kGV _ _ _ _) (fun _ h => List.mem_cons_of_mem _ (List.mem_append_right _ (List.mem_append_left _ h))) gw_s_look4x) rfl rfl rfl ⟨rfl, hd_X4_look⟩ ⟨(show 2 + 1 ≤ (6 + 6 * (e1 + 1)) from by omega), (show 8 + (2 + 11) + 60 * 2 ≤ 60 * (6 + 6 * (e1 + 1)) from by omega)⟩) (kW_V kT_blind kT_give (va_recv hKc hPc (ci := 4) (q0 := 0) rfl rfl) hPc hKc hDc) rfl rfl hl.1 rfl (lv_room (Nat.le_of_ble_eq_true rfl)) dX4_readAtom_1 ⟨(Nat.le_of_ble_eq_true rfl), (Nat.le_of_ble_eq_true rfl)⟩) hS (fun q _ h => hFc q h) hFc (fun r_1 => kU2 (fun Pn_2 ch_3 t H_4 locs ht hvm hw hB hz1 hk1 hS => ?_))
  try dsimp only at hw
  have hPD : kPD dC dI A [(jR, .inr (4, [.ref jT, .ref r1, .ref r2, .int (nI (wr)), .int (nI (fi)), .int (nI (Pn_2)), .ref q6, .ref q7])), (r1, .inl (c1, 120, .inl s1)), (r2, .inl (c2, 124, .inl s2)), (jT, .inr (8, [.ref t0, .int (nI (kt))])), (t0, .inl (cC, 120, .inl gT))] H_4 := kJoinX hP hD [0, 1, 2, 3, 4] rfl hk1 hFc hB.1 ht hB.2.2 rfl [some 0, some 1, some 2, some 3, some 4] rfl rfl
  have hP := hPD.1
  have hD := hPD.2
  obtain ⟨rfl, hw_5_0, hw_5_1, hw_5_2, hw_5_3, hw_5_4, hw_5_5, hw_5_6⟩ := hw
  refine lv_istore_n hx hb dX4_readAtom_4 rfl hl kc_l_2_4 (kTo [(2, .int (nI (ch_3))), (0, .ref jR), (1, .int (nI (dd)))]) (fun ls hl => ?_)
  refine lv_iload_n hx hb dX4_readAtom_5 rfl (lv_at hl 0 rfl) ?_
  refine lv_bipush (v := 91) hx hb dX4_readAtom_6 kc_b_91 ?_
  refine lv_icmp_ne (tgt := 44) hx hb dX4_readAtom_8 kc_t_8_36 (fun c_6 => ?_) (fun c_6 => ?_)
  · have bd_8 : ch_3 < 2147483648 := by omega
    have hn_7 := kneq (a := ch_3) (b := 91) bd_8 kc_31_91 c_6
    refine lv_iload_n hx hb dX4_readAtom_44 rfl (lv_at hl 0 rfl) ?_
    have bd_9 : ch_3 < 256 := by omega
    have hPc := hP.sb (ws2 := []) [] rfl
    have hKc := hK.sb (tys2 := []) [] rfl
    refine vp_callSi (va_runS (As := [.int (nI (ch_3))]) (rest := []) ⟨hx, hb, hml, hown, hts⟩ (s_digit4x l dC dI ch_3 bd_9) (va_cwS 1 hts (kG (List.forall_mem_cons.mpr ⟨(List.mem_cons_of_mem _ (List.mem_append_left _ (List.mem_of_getElem? (i := 5) rfl))), (List.forall_mem_cons.mpr ⟨(List.mem_cons_of_mem _ (List.mem_append_left _ (List.mem_of_getElem? (i := 4) rfl))), (List.forall_mem_cons.mpr ⟨(List.mem_cons_of_mem _ (List.mem_append_left _ (List.mem_of_getElem? (i := 0) rfl))), (fun _ h => absurd h List.not_mem_nil)⟩)⟩)⟩) (kGS _ _ _) (fun _ h => List.mem_cons_of_mem _ (List.mem_append_right _ (List.mem_append_right _ (List.mem_append_left _ h)))) gw_s_digit4x) rfl rfl rfl hd_X4_isDigit ⟨(show 1 + 1 ≤ (6 + 6 * (e1 + 1)) from by omega), (show 8 + (1 + 11) + 60 * 1 ≤ 60 * (6 + 6 * (e1 + 1)) from by omega)⟩) (kR_S kT_blind kT_give hPc hKc) rfl rfl hl.1 rfl (lv_room (Nat.le_of_ble_eq_true rfl)) dX4_readAtom_45 ⟨(Nat.le_of_ble_eq_true rfl), (Nat.le_of_ble_eq_true rfl)⟩).run (fun r_10 hw => ?_)
    have hw_11 := hw
    refine lv_if_eq (tgt := 56) hx hb dX4_readAtom_48 kc_t_48_8 (fun c_12 => ?_) (fun c_12 => ?_)
    · have hdg_13 : ¬ (48 ≤ ch_3 ∧ ch_3 ≤ 57) := fun z9 => hw_11.mpr z9 c_12
      refine lv_aload_n hx hb dX4_readAtom_56 rfl (lv_at hl 1 rfl) ?_
      refine va_get (D := (dC, dI)) (ci := 4) (v := .ref q7) (C := RX4) (T := TX4) (N := 8) hx hb hts (fun _ h => List.mem_cons_of_mem _ (List.mem_append_right _ (List.mem_append_right _ (List.mem_append_right _ (List.mem_append_left _ h))))) hown hK hP 0 rfl rfl 7 kc_l_7_8 (hts (.fieldLink RX4 34 "NotEnded$Reader" "letterSigns" "Ljava/lang/String;") (List.mem_cons_of_mem _ (List.mem_append_left _ (List.mem_of_getElem? (i := 6) rfl)))) (fun _ h9 => h9) rfl dX4_readAtom_57 ?_
      refine lv_iload_n hx hb dX4_readAtom_60 rfl (lv_at hl 0 rfl) ?_
      have hPc := hP.sb (ws2 := []) [] rfl
      have hKc := hK.sb (tys2 := []) [] rfl
      refine vp_callSi (va_runV (As := [.int (nI (ch_3))]) (rest := []) ⟨hx, hb, hml, hown, hts⟩ (s_t_ixx l dC dI q7 b7 n7 g7 hn7 A gn7 ch_3 bd_9) (cwV 1 hts (kG (List.forall_mem_cons.mpr ⟨(List.mem_cons_of_mem _ (List.mem_append_left _ (List.mem_of_getElem? (i := 10) rfl))), (List.forall_mem_cons.mpr ⟨(List.mem_cons_of_mem _ (List.mem_append_left _ (List.mem_of_getElem? (i := 9) rfl))), (List.forall_mem_cons.mpr ⟨(List.mem_cons_of_mem _ (List.mem_append_left _ (List.mem_of_getElem? (i := 8) rfl))), (List.forall_mem_cons.mpr ⟨(List.mem_cons_of_mem _ (List.mem_append_left _ (List.mem_of_getElem? (i := 7) rfl))), (fun _ h => absurd h List.not_mem_nil)⟩)⟩)⟩)⟩) (kGV _ _ _ _) (fun _ h => List.mem_cons_of_mem _ (List.mem_append_right _ (List.mem_append_right _ (List.mem_append_right _ (List.mem_append_right _ (List.mem_append_left _ h)))))) gw_s_t_ixx) rfl rfl rfl ⟨rfl, hd_J0_indexOf_0f7a4⟩ ⟨(show 4 + 1 ≤ (6 + 6 * (e1 + 1)) from by omega), (show 8 + (2 + 11) + 60 * 4 ≤ 60 * (6 + 6 * (e1 + 1)) from by omega)⟩) (kR_V kSt_blind (kSt_give hX.2 hS) (kSt_recv hX.2 hS) hPc hKc) rfl rfl hl.1 rfl (lv_room (Nat.le_of_ble_eq_true rfl)) dX4_readAtom_61 ⟨(Nat.le_of_ble_eq_true rfl), (Nat.le_of_ble_eq_true rfl)⟩).run (fun r_14 hw => ?_)
      have hw_15 := hw
      rcases hw_15 with ⟨rfl, hj_17⟩ | ⟨j_16, hj_17_1, rfl, hj_17⟩
      · refine lv_istore_n hx hb dX4_readAtom_64 rfl hl kc_l_3_4 (kTo [(3, .int (-1)), (2, .int (nI (ch_3))), (0, .ref jR), (1, .int (nI (dd)))]) (fun ls hl => ?_)
        refine lv_iload_n hx hb dX4_readAtom_65 rfl (lv_at hl 0 rfl) ?_
        refine lv_if_ge (tgt := 71) hx hb dX4_readAtom_66 kc_t_66_5 (fun c_18 => absurd c_18 (by decide)) (fun c_18 => ?_)
        refine lv_iconst (v := 0) hx hb dX4_readAtom_69 kc_i_0 ?_
        have hP9 := hP
        have hD9 := hD
        have hK9 := hK
        rw [hQ]
        exact W.zret (v := 0) hx hb hr rfl (fun t ht hW => ⟨⟨0, (s1, wr, Pn_2, false, ([])), rfl, ⟨rfl, kPR_f ((kAtomD_s e1 pn).trans (by unfold kAtomF; rw [← hw_5_0, ← hw_5_1]; rw [if_neg (by omega), if_neg (fun z9 => by have := kDg_t.mp z9; omega), if_neg (by omega)])) (by omega), by omega⟩,  by rw [ht]; exact hP9, va_K.moved hW.alike hK9, hD9⟩, hS.F ht⟩) hS.2.2 dX4_readAtom_70
      · have hlt9 : Pn_2 < kt := by rcases (show ch_3 = 0 ∨ Pn_2 < kt by assumption) with z | z; (exfalso; rw [z, hz7] at hj_17; omega); exact z
        refine lv_istore_n hx hb dX4_readAtom_64 rfl hl kc_l_3_4 (kTo [(3, .int (nI (j_16))), (2, .int (nI (ch_3))), (0, .ref jR), (1, .int (nI (dd)))]) (fun ls hl => ?_)
        refine lv_iload_n hx hb dX4_readAtom_65 rfl (lv_at hl 0 rfl) ?_
        have bd_19 : j_16 < 2147483648 := by omega
        refine lv_if_ge (tgt := 71) hx hb dX4_readAtom_66 kc_t_66_5 (fun c_20 => ?_) (fun c_20 => absurd (nI_pos' (n := j_16) bd_19) c_20)
        refine lv_aload_n hx hb dX4_readAtom_71 rfl (lv_at hl 2 rfl) ?_
        refine lv_dup hx hb dX4_readAtom_72 rfl ?_
        refine va_get (D := (dC, dI)) (ci := 4) (v := .int (nI (Pn_2))) (C := RX4) (T := TX4) (N := 8) hx hb hts (fun _ h => List.mem_cons_of_mem _ (List.mem_append_right _ (List.mem_append_right _ (List.mem_append_right _ (List.mem_append_left _ h))))) hown hK hP 0 rfl rfl 5 kc_l_5_8 (hts (.fieldLink RX4 25 "NotEnded$Reader" "place" "I") (List.mem_cons_of_mem _ (List.mem_append_left _ (List.mem_of_getElem? (i := 11) rfl)))) (fun _ h9 => h9) rfl dX4_readAtom_73 ?_
        refine lv_iconst (v := 1) hx hb dX4_readAtom_76 kc_i_1 ?_
        refine lv_iadd hx hb dX4_readAtom_77 ?_
        refine lv_topi (fun y_21 ey_21 => ?_)
        obtain rfl : y_21 = nI (Pn_2 + 1) := ey_21.trans (nI_add (Pn_2) (1))
        refine va_put (D := (dC, dI)) (ci := 4) (v := .int (nI (Pn_2 + 1))) (ty := tyX4 5) (C := RX4) (T := TX4) (N := 8) hx hb hts (fun _ h => List.mem_cons_of_mem _ (List.mem_append_right _ (List.mem_append_right _ (List.mem_append_right _ (List.mem_append_left _ h))))) tyX4 tyX4_ok nmX4 hown hK hP hD hS 0 rfl rfl 5 kc_l_5_8 (hts (.fieldLink RX4 25 "NotEnded$Reader" "place" "I") (List.mem_cons_of_mem _ (List.mem_append_left _ (List.mem_of_getElem? (i := 11) rfl)))) (fun _ h9 => h9) rfl (tyX4_ok 5 kc_l_5_8) rfl rfl (Nat.le_of_ble_eq_true rfl) dX4_readAtom_78 (fun H locs hP hD hS => ?_)
        have hPD : kPD dC dI A [(jR, .inr (4, [.ref jT, .ref r1, .ref r2, .int (nI (wr)), .int (nI (fi)), .int (nI (Pn_2 + 1)), .ref q6, .ref q7])), (r1, .inl (c1, 120, .inl s1)), (r2, .inl (c2, 124, .inl s2)), (jT, .inr (8, [.ref t0, .int (nI (kt))])), (t0, .inl (cC, 120, .inl gT))] H := ⟨hP, hD⟩
        have hP := hPD.1
        have hD := hPD.2
        refine lv_aload_n hx hb dX4_readAtom_81 rfl (lv_at hl 2 rfl) ?_
        refine lv_sipush (v := 10000) hx hb dX4_readAtom_82 kc_s_10000 ?_
        refine lv_iload_n hx hb dX4_readAtom_85 rfl (lv_at hl 0 rfl) ?_
        refine lv_iadd hx hb dX4_readAtom_86 ?_
        refine lv_topi (fun y_22 ey_22 => ?_)
        obtain rfl : y_22 = nI (10000 + j_16) := ey_22.trans (nI_add (10000) (j_16))
        have bd_23 : (Pn_2 + 1) ≤ kt := by omega
        have bd_24 : wr < 120 := by omega
        have hCu := kCut (wc := [(jR, .inr (4, [.ref jT, .ref r1, .ref r2, .int (nI (wr)), .int (nI (fi)), .int (nI (Pn_2 + 1)), .ref q6, .ref q7])), (r1, .inl (c1, 120, .inl s1)), (r2, .inl (c2, 124, .inl s2)), (jT, .inr (8, [.ref t0, .int (nI (kt))])), (t0, .inl (cC, 120, .inl gT))]) hP hD hS hA [0, 1, 2, 3, 4] rfl kc_nd_311 rfl
        have hPc := hCu.1
        have hDc := hCu.2.1
        have hFc := hCu.2.2
        have hKc := hK.sb (tys2 := [(c1, .int), (c2, .int), (cC, .char)]) [0, 1, 2] rfl
        refine va_calli (va_runV (As := [.int (nI (10000 + j_16))]) (rest := []) ⟨hx, hb, hml, hown, hts⟩ (s_write4x l dC dI jT t0 cC gT kt hkt hgT bt hbt hb8 jR r1 r2 c1 c2 s1 s2 wr fi q6 q7 hwr hfi (Pn_2 + 1) bd_23 (nI (10000 + j_16)) bd_24 H.size) (cwV 1 hts (kG (List.forall_mem_cons.mpr ⟨(List.mem_cons_of_mem _ (List.mem_append_left _ (List.mem_of_getElem? (i := 14) rfl))), (List.forall_mem_cons.mpr ⟨(List.mem_cons_of_mem _ (List.mem_append_left _ (List.mem_of_getElem? (i := 13) rfl))), (List.forall_mem_cons.mpr ⟨(List.mem_cons_of_mem _ (List.mem_append_left _ (List.mem_of_getElem? (i := 12) rfl))), (List.forall_mem_cons.mpr ⟨(List.mem_cons_of_mem _ (List.mem_append_left _ (List.mem_of_getElem? (i := 0) rfl))), (fun _ h => absurd h List.not_mem_nil)⟩)⟩)⟩)⟩) (kGV _ _ _ _) (fun _ h => List.mem_cons_of_mem _ (List.mem_append_right _ (List.mem_append_right _ (List.mem_append_right _ (List.mem_append_right _ (List.mem_append_right _ (List.mem_append_left _ h))))))) gw_s_write4x) rfl rfl rfl ⟨rfl, hd_X4_write⟩ ⟨(show 1 + 1 ≤ (6 + 6 * (e1 + 1)) from by omega), (show 8 + (2 + 11) + 60 * 1 ≤ 60 * (6 + 6 * (e1 + 1)) from by omega)⟩) (kW_V kT_blind kT_give (va_recv hKc hPc (ci := 4) (q0 := 0) rfl rfl) hPc hKc hDc) rfl rfl hl.1 rfl (lv_room (Nat.le_of_ble_eq_true rfl)) dX4_readAtom_87 ⟨(Nat.le_of_ble_eq_true rfl), (Nat.le_of_ble_eq_true rfl)⟩) hS (fun q _ h => hFc q h) hFc (fun r_25 => kU2 (fun S1_26 Wr_27 t H_28 locs ht hvm hw hB hz1 hk1 hS => ?_))
        try dsimp only at hw
        have hPD : kPD dC dI A [(jR, .inr (4, [.ref jT, .ref r1, .ref r2, .int (nI (Wr_27)), .int (nI (fi)), .int (nI (Pn_2 + 1)), .ref q6, .ref q7])), (r1, .inl (c1, 120, .inl S1_26)), (r2, .inl (c2, 124, .inl s2)), (jT, .inr (8, [.ref t0, .int (nI (kt))])), (t0, .inl (cC, 120, .inl gT))] H_28 := kJoinX hP hD [0, 1, 2, 3, 4] rfl hk1 hFc hB.1 ht hB.2.2 rfl [some 0, some 1, some 2, some 3, some 4] rfl rfl
        have hP := hPD.1
        have hD := hPD.2
        obtain ⟨rfl, hw_29⟩ := hw
        have hP9 := hP
        have hD9 := hD
        have hK9 := hK
        rw [hQ]
        exact W.zret (v := 1) hx hb hr rfl (fun t ht hW => ⟨⟨1, (S1_26, Wr_27, (Pn_2 + 1), true, ([nI (10000 + j_16)])), rfl, ⟨rfl, kPR_t (a := kAtomD bt kt g7 n7 (e1 + 1)) rfl (kAtomD_good hz7 (e1 + 1)) (by omega) ((kAtomD_s e1 pn).trans (by unfold kAtomF; rw [← hw_5_0, ← hw_5_1]; rw [if_neg (by omega), if_neg (fun z9 => by have := kDg_t.mp z9; omega), if_pos (by omega), hj_17])) (by rw [hw_29.1]; rfl) (by rw [hw_29.2]; rfl), by omega⟩,  by rw [ht]; exact hP9, va_K.moved hW.alike hK9, hD9⟩, hS.F ht⟩) hS.2.2 dX4_readAtom_90
    · have hdg_30 := hw_11.mp c_12
      refine lv_aload_n hx hb dX4_readAtom_51 rfl (lv_at hl 1 rfl) ?_
      have bd_31 : Pn_2 ≤ kt := by omega
      have bd_32 : wr ≤ Pn_2 := by omega
      have bd_33 : 48 ≤ kAt bt kt Pn_2 ∧ kAt bt kt Pn_2 ≤ 57 := by omega
      have hCu := kCut (wc := [(jR, .inr (4, [.ref jT, .ref r1, .ref r2, .int (nI (wr)), .int (nI (fi)), .int (nI (Pn_2)), .ref q6, .ref q7])), (r1, .inl (c1, 120, .inl s1)), (r2, .inl (c2, 124, .inl s2)), (jT, .inr (8, [.ref t0, .int (nI (kt))])), (t0, .inl (cC, 120, .inl gT))]) hP hD hS hA [0, 1, 2, 3, 4] rfl kc_nd_311 rfl
      have hPc := hCu.1
      have hDc := hCu.2.1
      have hFc := hCu.2.2
      have hKc := hK.sb (tys2 := [(c1, .int), (c2, .int), (cC, .char)]) [0, 1, 2] rfl
      refine va_calli (va_runV (As := []) (rest := []) ⟨hx, hb, hml, hown, hts⟩ (s_number4x l dC dI jT t0 cC gT kt hkt hgT bt hbt hb8 jR r1 r2 c1 c2 s1 s2 wr fi q6 q7 hwr hfi Pn_2 bd_31 bd_32 bd_33 H_4.size) (cwV 0 hts (kG (List.forall_mem_cons.mpr ⟨(List.mem_cons_of_mem _ (List.mem_append_left _ (List.mem_of_getElem? (i := 17) rfl))), (List.forall_mem_cons.mpr ⟨(List.mem_cons_of_mem _ (List.mem_append_left _ (List.mem_of_getElem? (i := 16) rfl))), (List.forall_mem_cons.mpr ⟨(List.mem_cons_of_mem _ (List.mem_append_left _ (List.mem_of_getElem? (i := 15) rfl))), (List.forall_mem_cons.mpr ⟨(List.mem_cons_of_mem _ (List.mem_append_left _ (List.mem_of_getElem? (i := 0) rfl))), (fun _ h => absurd h List.not_mem_nil)⟩)⟩)⟩)⟩) (kGV _ _ _ _) (fun _ h => List.mem_cons_of_mem _ (List.mem_append_right _ (List.mem_append_right _ (List.mem_append_right _ (List.mem_append_right _ (List.mem_append_right _ (List.mem_append_right _ (List.mem_append_left _ h)))))))) gw_s_number4x) rfl rfl rfl ⟨rfl, hd_X4_readNumber⟩ ⟨(show 3 + 1 ≤ (6 + 6 * (e1 + 1)) from by omega), (show 8 + (3 + 11) + 60 * 3 ≤ 60 * (6 + 6 * (e1 + 1)) from by omega)⟩) (kW_V kT_blind kT_give (va_recv hKc hPc (ci := 4) (q0 := 0) rfl rfl) hPc hKc hDc) rfl rfl hl.1 rfl (lv_room (Nat.le_of_ble_eq_true rfl)) dX4_readAtom_52 ⟨(Nat.le_of_ble_eq_true rfl), (Nat.le_of_ble_eq_true rfl)⟩) hS (fun q _ h => hFc q h) hFc (fun r_34 => kU5 (fun S1_35 Wr_36 Pn_37 xo_38 xl_39 t H_40 locs ht hvm hw hB hz1 hk1 hS => ?_))
      try dsimp only at hw
      have hPD : kPD dC dI A [(jR, .inr (4, [.ref jT, .ref r1, .ref r2, .int (nI (Wr_36)), .int (nI (fi)), .int (nI (Pn_37)), .ref q6, .ref q7])), (r1, .inl (c1, 120, .inl S1_35)), (r2, .inl (c2, 124, .inl s2)), (jT, .inr (8, [.ref t0, .int (nI (kt))])), (t0, .inl (cC, 120, .inl gT))] H_40 := kJoinX hP hD [0, 1, 2, 3, 4] rfl hk1 hFc hB.1 ht hB.2.2 rfl [some 0, some 1, some 2, some 3, some 4] rfl rfl
      have hP := hPD.1
      have hD := hPD.2
      have hw_41 := hw
      have hP9 := hP
      have hD9 := hD
      have hK9 := hK
      rw [hQ]
      exact W.zret (v := r_34) hx hb hr (by rw [hw_41.1]; exact kBo_nar _) (fun t ht hW => ⟨⟨r_34, (S1_35, Wr_36, Pn_37, xo_38, xl_39), rfl, ⟨hw_41.1, kPR_up ((kAtomD_s e1 pn).trans (by unfold kAtomF; rw [← hw_5_0, ← hw_5_1]; rw [if_neg (by omega), if_pos (kDg_t.mpr (by omega))])) hw_41.2.1 (by omega), hw_41.2.2⟩,  by rw [ht]; exact hP9, va_K.moved hW.alike hK9, hD9⟩, hS.F ht⟩) hS.2.2 dX4_readAtom_55
  · have bd_43 : ch_3 < 2147483648 := by omega
    have hn_42 := keq (a := ch_3) (b := 91) bd_43 kc_31_91 c_6
    refine lv_aload_n hx hb dX4_readAtom_11 rfl (lv_at hl 1 rfl) ?_
    refine lv_iload_n hx hb dX4_readAtom_12 rfl (lv_at hl 2 rfl) ?_
    have bd_44 : Pn_2 ≤ kt := by omega
    have bd_45 : Pn_2 < kt := by omega
    have bd_46 : dd < 6 := by omega
    have hCu := kCut (wc := [(jR, .inr (4, [.ref jT, .ref r1, .ref r2, .int (nI (wr)), .int (nI (fi)), .int (nI (Pn_2)), .ref q6, .ref q7])), (r1, .inl (c1, 120, .inl s1)), (r2, .inl (c2, 124, .inl s2)), (jT, .inr (8, [.ref t0, .int (nI (kt))])), (t0, .inl (cC, 120, .inl gT))]) hP hD hS hA [0, 1, 2, 3, 4] rfl kc_nd_311 rfl
    have hPc := hCu.1
    have hDc := hCu.2.1
    have hFc := hCu.2.2
    have hKc := hK.sb (tys2 := [(c1, .int), (c2, .int), (cC, .char)]) [0, 1, 2] rfl
    refine va_calli (va_runV (As := [.int (nI (dd))]) (rest := []) ⟨hx, hb, hml, hown, hts⟩ (s_opens4_g l dC dI jT t0 cC gT kt hkt hgT bt hbt hb8 jR r1 r2 c1 c2 s1 s2 wr fi q6 q7 hwr hfi Pn_2 bd_44 bd_45 dd bd_46 H_4.size) (cwV 1 hts (kG (List.forall_mem_cons.mpr ⟨(List.mem_cons_of_mem _ (List.mem_append_left _ (List.mem_of_getElem? (i := 20) rfl))), (List.forall_mem_cons.mpr ⟨(List.mem_cons_of_mem _ (List.mem_append_left _ (List.mem_of_getElem? (i := 19) rfl))), (List.forall_mem_cons.mpr ⟨(List.mem_cons_of_mem _ (List.mem_append_left _ (List.mem_of_getElem? (i := 18) rfl))), (List.forall_mem_cons.mpr ⟨(List.mem_cons_of_mem _ (List.mem_append_left _ (List.mem_of_getElem? (i := 0) rfl))), (fun _ h => absurd h List.not_mem_nil)⟩)⟩)⟩)⟩) (kGV _ _ _ _) (fun _ h => List.mem_cons_of_mem _ (List.mem_append_right _ (List.mem_append_right _ (List.mem_append_right _ (List.mem_append_right _ (List.mem_append_right _ (List.mem_append_right _ (List.mem_append_right _ (List.mem_append_right _ (List.mem_append_right _ (List.mem_append_left _ h))))))))))) gw_s_opens4_g) rfl rfl rfl ⟨rfl, hd_X4_opens⟩ ⟨(show 1 + 1 ≤ (6 + 6 * (e1 + 1)) from by omega), (show 8 + (2 + 11) + 60 * 1 ≤ 60 * (6 + 6 * (e1 + 1)) from by omega)⟩) (kW_V kT_blind kT_give (va_recv hKc hPc (ci := 4) (q0 := 0) rfl rfl) hPc hKc hDc) rfl rfl hl.1 rfl (lv_room (Nat.le_of_ble_eq_true rfl)) dX4_readAtom_13 ⟨(Nat.le_of_ble_eq_true rfl), (Nat.le_of_ble_eq_true rfl)⟩) hS (fun q _ h => hFc q h) hFc (fun r_47 Pn_48 t H_49 locs ht hvm hw hB hz1 hk1 hS => ?_)
    try dsimp only at hw
    have hPD : kPD dC dI A [(jR, .inr (4, [.ref jT, .ref r1, .ref r2, .int (nI (wr)), .int (nI (fi)), .int (nI (Pn_48)), .ref q6, .ref q7])), (r1, .inl (c1, 120, .inl s1)), (r2, .inl (c2, 124, .inl s2)), (jT, .inr (8, [.ref t0, .int (nI (kt))])), (t0, .inl (cC, 120, .inl gT))] H_49 := kJoinX hP hD [0, 1, 2, 3, 4] rfl hk1 hFc hB.1 ht hB.2.2 rfl [some 0, some 1, some 2, some 3, some 4] rfl rfl
    have hP := hPD.1
    have hD := hPD.2
    obtain ⟨rfl, hw_50⟩ := hw
    subst hw_50
    refine lv_if_eq (tgt := 42) hx hb dX4_readAtom_16 kc_t_16_26 (fun c_51 => absurd c_51 (by decide)) (fun c_51 => ?_)
    refine lv_aload_n hx hb dX4_readAtom_19 rfl (lv_at hl 1 rfl) ?_
    refine lv_iload_n hx hb dX4_readAtom_20 rfl (lv_at hl 2 rfl) ?_
    refine lv_iconst (v := 1) hx hb dX4_readAtom_21 kc_i_1 ?_
    refine lv_iadd hx hb dX4_readAtom_22 ?_
    refine lv_topi (fun y_52 ey_52 => ?_)
    obtain rfl : y_52 = nI (dd + 1) := ey_52.trans (nI_add (dd) (1))
    have bd_53 : (Pn_2 + 1) ≤ kt := by omega
    have bd_54 : wr ≤ (Pn_2 + 1) := by omega
    have bd_55 : (dd + 1) + e1 = 6 := by omega
    have hCu := kCut (wc := [(jR, .inr (4, [.ref jT, .ref r1, .ref r2, .int (nI (wr)), .int (nI (fi)), .int (nI ((Pn_2 + 1))), .ref q6, .ref q7])), (r1, .inl (c1, 120, .inl s1)), (r2, .inl (c2, 124, .inl s2)), (jT, .inr (8, [.ref t0, .int (nI (kt))])), (t0, .inl (cC, 120, .inl gT))]) hP hD hS hA [0, 1, 2, 3, 4] rfl kc_nd_311 rfl
    have hPc := hCu.1
    have hDc := hCu.2.1
    have hFc := hCu.2.2
    have hKc := hK.sb (tys2 := [(c1, .int), (c2, .int), (cC, .char)]) [0, 1, 2] rfl
    refine va_calli (va_runV (As := [.int (nI (dd + 1))]) (rest := []) ⟨hx, hb, hml, hown, hts⟩ (ih.1 l dC dI jT t0 cC gT kt hkt hgT bt hbt hb8 jR r1 r2 c1 c2 s1 s2 wr fi q6 q7 hwr hfi (Pn_2 + 1) bd_53 bd_54 b6 n6 g6 hn6 b7 n7 g7 hn7 gn6 hz6 gn7 hz7 (dd + 1) bd_55 H_49.size) (cwV 1 hts (kG (List.forall_mem_cons.mpr ⟨(List.mem_cons_of_mem _ (List.mem_append_left _ (List.mem_of_getElem? (i := 32) rfl))), (List.forall_mem_cons.mpr ⟨(List.mem_cons_of_mem _ (List.mem_append_left _ (List.mem_of_getElem? (i := 31) rfl))), (List.forall_mem_cons.mpr ⟨(List.mem_cons_of_mem _ (List.mem_append_left _ (List.mem_of_getElem? (i := 30) rfl))), (List.forall_mem_cons.mpr ⟨(List.mem_cons_of_mem _ (List.mem_append_left _ (List.mem_of_getElem? (i := 0) rfl))), (fun _ h => absurd h List.not_mem_nil)⟩)⟩)⟩)⟩) (kGV _ _ _ _) (kFam (List.mem_cons_of_mem _ (List.mem_append_left _ (List.mem_of_getElem? (i := 29) rfl)))) gw_s_sum4x_I) rfl rfl rfl ⟨rfl, hd_X4_readSum⟩ ⟨(show (8 + 6 * e1) + 1 ≤ (6 + 6 * (e1 + 1)) from by omega), (show 8 + (4 + 11) + 60 * (8 + 6 * e1) ≤ 60 * (6 + 6 * (e1 + 1)) from by omega)⟩) (kW_V kS2_blind (kS2_give hX hS hFc) (va_recv hKc hPc (ci := 4) (q0 := 0) rfl rfl) hPc hKc hDc) rfl rfl hl.1 rfl (lv_room (Nat.le_of_ble_eq_true rfl)) dX4_readAtom_23 ⟨(Nat.le_of_ble_eq_true rfl), (Nat.le_of_ble_eq_true rfl)⟩) hS (fun q _ h => hFc q h) hFc (fun r_56 => kU5 (fun S1_57 Wr_58 Pn_59 xo_60 xl_61 t H_62 locs ht hvm hw hB hz1 hk1 hS => ?_))
    try dsimp only at hw
    have hPD : kPD dC dI A [(jR, .inr (4, [.ref jT, .ref r1, .ref r2, .int (nI (Wr_58)), .int (nI (fi)), .int (nI (Pn_59)), .ref q6, .ref q7])), (r1, .inl (c1, 120, .inl S1_57)), (r2, .inl (c2, 124, .inl s2)), (jT, .inr (8, [.ref t0, .int (nI (kt))])), (t0, .inl (cC, 120, .inl gT))] H_62 := kJoinX hP hD [0, 1, 2, 3, 4] rfl hk1 hFc hB.1 ht hB.2.2 rfl [some 0, some 1, some 2, some 3, some 4] rfl rfl
    have hP := hPD.1
    have hD := hPD.2
    have hw_63 := hw
    refine lv_if_eq (tgt := 42) hx hb dX4_readAtom_26 kc_t_26_16 (fun c_64 => ?_) (fun c_64 => ?_)
    · obtain rfl : xo_60 = false := kBo_f (kZr9 hw_63.1 c_64)
      have hw_63_k := hw_63.2.1.2.1
      refine lv_iconst (v := 0) hx hb dX4_readAtom_42 kc_i_0 ?_
      have hP9 := hP
      have hD9 := hD
      have hK9 := hK
      rw [hQ]
      exact W.zret (v := 0) hx hb hr rfl (fun t ht hW => ⟨⟨0, (S1_57, Wr_58, Pn_59, false, ([])), rfl, ⟨rfl, kPR_f ((kAtomD_s e1 pn).trans (by unfold kAtomF; rw [← hw_5_0, ← hw_5_1]; rw [if_pos (by omega), if_pos rfl, hw_63.2.1.1]; rfl)) (by omega), by omega⟩,  by rw [ht]; exact hP9, va_K.moved hW.alike hK9, hD9⟩, hS.F ht⟩) hS.2.2 dX4_readAtom_43
    · obtain rfl : xo_60 = true := kBo_t (kNz9 hw_63.1 c_64)
      obtain ⟨hw_63_W, hw_63_S, hw_63_l, hw_63_p⟩ := hw_63.2.1.2.2 rfl
      have hw_63_k := hw_63.2.1.2.1
      refine lv_aload_n hx hb dX4_readAtom_29 rfl (lv_at hl 1 rfl) ?_
      refine lv_bipush (v := 93) hx hb dX4_readAtom_30 kc_b_93 ?_
      have bd_65 : Wr_58 ≤ 120 := by omega
      have bd_66 : Pn_59 ≤ kt := by omega
      have hCu := kCut (wc := [(jR, .inr (4, [.ref jT, .ref r1, .ref r2, .int (nI (Wr_58)), .int (nI (fi)), .int (nI (Pn_59)), .ref q6, .ref q7])), (r1, .inl (c1, 120, .inl S1_57)), (r2, .inl (c2, 124, .inl s2)), (jT, .inr (8, [.ref t0, .int (nI (kt))])), (t0, .inl (cC, 120, .inl gT))]) hP hD hS hA [0, 1, 2, 3, 4] rfl kc_nd_311 rfl
      have hPc := hCu.1
      have hDc := hCu.2.1
      have hFc := hCu.2.2
      have hKc := hK.sb (tys2 := [(c1, .int), (c2, .int), (cC, .char)]) [0, 1, 2] rfl
      refine va_calli (va_runV (As := [.int 93]) (rest := []) ⟨hx, hb, hml, hown, hts⟩ (s_take4_93 l dC dI jT t0 cC gT kt hkt hgT bt hbt hb8 jR r1 r2 c1 c2 S1_57 s2 Wr_58 fi q6 q7 bd_65 hfi Pn_59 bd_66 H_62.size) (cwV 1 hts (kG (List.forall_mem_cons.mpr ⟨(List.mem_cons_of_mem _ (List.mem_append_left _ (List.mem_of_getElem? (i := 45) rfl))), (List.forall_mem_cons.mpr ⟨(List.mem_cons_of_mem _ (List.mem_append_left _ (List.mem_of_getElem? (i := 44) rfl))), (List.forall_mem_cons.mpr ⟨(List.mem_cons_of_mem _ (List.mem_append_left _ (List.mem_of_getElem? (i := 43) rfl))), (List.forall_mem_cons.mpr ⟨(List.mem_cons_of_mem _ (List.mem_append_left _ (List.mem_of_getElem? (i := 0) rfl))), (fun _ h => absurd h List.not_mem_nil)⟩)⟩)⟩)⟩) (kGV _ _ _ _) (fun _ h => List.mem_cons_of_mem _ (List.mem_append_right _ (List.mem_append_right _ (List.mem_append_right _ (List.mem_append_right _ (List.mem_append_right _ (List.mem_append_right _ (List.mem_append_right _ (List.mem_append_right _ (List.mem_append_right _ (List.mem_append_right _ (List.mem_append_left _ h)))))))))))) gw_s_take4_93) rfl rfl rfl ⟨rfl, hd_X4_take⟩ ⟨(show 3 + 1 ≤ (6 + 6 * (e1 + 1)) from by omega), (show 8 + (2 + 11) + 60 * 3 ≤ 60 * (6 + 6 * (e1 + 1)) from by omega)⟩) (kW_V kT_blind kT_give (va_recv hKc hPc (ci := 4) (q0 := 0) rfl rfl) hPc hKc hDc) rfl rfl hl.1 rfl (lv_room (Nat.le_of_ble_eq_true rfl)) dX4_readAtom_32 ⟨(Nat.le_of_ble_eq_true rfl), (Nat.le_of_ble_eq_true rfl)⟩) hS (fun q _ h => hFc q h) hFc (fun r_67 => kU2 (fun Pn_68 xo_69 t H_70 locs ht hvm hw hB hz1 hk1 hS => ?_))
      try dsimp only at hw
      have hPD : kPD dC dI A [(jR, .inr (4, [.ref jT, .ref r1, .ref r2, .int (nI (Wr_58)), .int (nI (fi)), .int (nI (Pn_68)), .ref q6, .ref q7])), (r1, .inl (c1, 120, .inl S1_57)), (r2, .inl (c2, 124, .inl s2)), (jT, .inr (8, [.ref t0, .int (nI (kt))])), (t0, .inl (cC, 120, .inl gT))] H_70 := kJoinX hP hD [0, 1, 2, 3, 4] rfl hk1 hFc hB.1 ht hB.2.2 rfl [some 0, some 1, some 2, some 3, some 4] rfl rfl
      have hP := hPD.1
      have hD := hPD.2
      have hw_71 := hw
      refine lv_if_eq (tgt := 42) hx hb dX4_readAtom_35 kc_t_35_7 (fun c_72 => ?_) (fun c_72 => ?_)
      · obtain rfl : xo_69 = false := kBo_f (kZr9 hw_71.1 c_72)
        have hw_71_k := hw_71.2.2.2.1
        refine lv_iconst (v := 0) hx hb dX4_readAtom_42 kc_i_0 ?_
        have hP9 := hP
        have hD9 := hD
        have hK9 := hK
        rw [hQ]
        exact W.zret (v := 0) hx hb hr rfl (fun t ht hW => ⟨⟨0, (S1_57, Wr_58, Pn_68, false, ([])), rfl, ⟨rfl, kPR_f ((kAtomD_s e1 pn).trans (by unfold kAtomF; rw [← hw_5_0, ← hw_5_1]; rw [if_pos (by omega), if_pos rfl, hw_63.2.1.1, kTh_t]; exact kTk_n _ hw_71.2.1)) (by omega), by omega⟩,  by rw [ht]; exact hP9, va_K.moved hW.alike hK9, hD9⟩, hS.F ht⟩) hS.2.2 dX4_readAtom_43
      · obtain rfl : xo_69 = true := kBo_t (kNz9 hw_71.1 c_72)
        have hw_71_p := hw_71.2.2.2.2 rfl
        have hw_71_k := hw_71.2.2.2.1
        refine lv_iconst (v := 1) hx hb dX4_readAtom_38 kc_i_1 ?_
        refine lv_goto (tgt := 43) hx hb dX4_readAtom_39 kc_t_39_4 ?_
        have hP9 := hP
        have hD9 := hD
        have hK9 := hK
        rw [hQ]
        exact W.zret (v := 1) hx hb hr rfl (fun t ht hW => ⟨⟨1, (S1_57, Wr_58, Pn_68, true, xl_61), rfl, ⟨rfl, kPR_t (a := kAtomD bt kt g7 n7 (e1 + 1)) rfl (kAtomD_good hz7 (e1 + 1)) (by omega) ((kAtomD_s e1 pn).trans (by unfold kAtomF; rw [← hw_5_0, ← hw_5_1]; rw [if_pos (by omega), if_pos rfl, hw_63.2.1.1, kTh_t]; exact kTk_l _ hw_71.2.1)) hw_63_W hw_63_S, by omega⟩,  by rw [ht]; exact hP9, va_K.moved hW.alike hK9, hD9⟩, hS.F ht⟩) hS.2.2 dX4_readAtom_43

def w_s_term4x_g : List Cond := .code yX4_readTerm cX4_readTerm 4 (some .boolean) :: wf_rq
theorem gw_s_term4x_g : (w_s_term4x_g).all goodWord = true := kFamG rfl gf_rq
set_option maxHeartbeats 4000000 in
set_option maxRecDepth 100000 in
theorem s_term4x_g (l : Launch) (dC : Nat → ClassId) (dI : Nat → Nat → Nat) (jT : Nat) (t0 : Nat) (cC : ClassId) (gT : Nat → Int32) (kt : Nat) (hkt : kt ≤ 120) (hgT : ∀ j : Nat, narrow .char (.int (gT j)) = .int (gT j)) (bt : Nat → Nat) (hbt : ∀ j : Nat, gT j = nI (bt j)) (hb8 : ∀ j : Nat, bt j < 256) (jR : Nat) (r1 : Nat) (r2 : Nat) (c1 : ClassId) (c2 : ClassId) (s1 : Nat → Int32) (s2 : Nat → Int32) (wr : Nat) (fi : Nat) (q6 : Nat) (q7 : Nat) (hwr : wr ≤ 120) (hfi : fi ≤ 124) (pn : Nat) (hpn : pn ≤ kt) (hwp : wr ≤ pn) (b6 : Nat) (n6 : Nat) (g6 : Nat → Int32) (hn6 : n6 ≤ 8) (b7 : Nat) (n7 : Nat) (g7 : Nat → Int32) (hn7 : n7 ≤ 8) (gn6 : ∀ k : Nat, ∃ v : Nat, v < 128 ∧ g6 k = nI v) (hz6 : kIx g6 n6 (nI 0) = n6) (gn7 : ∀ k : Nat, ∃ v : Nat, v < 128 ∧ g7 k = nI v) (hz7 : kIx g7 n7 (nI 0) = n7) (e1 : Nat) (dd : Nat) (hdd : dd + e1 = 5) (ih : kIHq e1) (sz : Nat) : Met l yX4_readTerm w_s_term4x_g ({ frames := (7 + 6 * (e1 + 1)), cells := 0, slots := 0, locals := 60 * (7 + 6 * (e1 + 1)) }) (kW dC dI [.ref jR, .int (nI (dd))] [(jR, .inr (4, [.ref jT, .ref r1, .ref r2, .int (nI (wr)), .int (nI (fi)), .int (nI (pn)), .ref q6, .ref q7])), (r1, .inl (c1, 120, .inl s1)), (r2, .inl (c2, 124, .inl s2)), (jT, .inr (8, [.ref t0, .int (nI (kt))])), (t0, .inl (cC, 120, .inl gT))] [(c1, .int), (c2, .int), (cC, .char)] (kS2 q6 b6 n6 g6 q7 b7 n7 g7 (va_A [(jR, .inr (4, [.ref jT, .ref r1, .ref r2, .int (nI (wr)), .int (nI (fi)), .int (nI (pn)), .ref q6, .ref q7])), (r1, .inl (c1, 120, .inl s1)), (r2, .inl (c2, 124, .inl s2)), (jT, .inr (8, [.ref t0, .int (nI (kt))])), (t0, .inl (cC, 120, .inl gT))] sz)) sz) (va_Qi (fun (r : Int32) (u : (Nat → Int32) × Nat × Nat × Bool × (List Int32)) => match u with | (S1, Wr, Pn, xo, xl) => (r = kBo xo ∧ kPR (kTermD bt kt g7 n7 (e1 + 1) pn) pn kt wr s1 xo Pn xl Wr S1 ∧ Wr ≤ 120)) (fun (u : (Nat → Int32) × Nat × Nat × Bool × (List Int32)) => match u with | (S1, Wr, Pn, xo, xl) => fun t : State => kB dC dI [(jR, .inr (4, [.ref jT, .ref r1, .ref r2, .int (nI (Wr)), .int (nI (fi)), .int (nI (Pn)), .ref q6, .ref q7])), (r1, .inl (c1, 120, .inl S1)), (r2, .inl (c2, 124, .inl s2)), (jT, .inr (8, [.ref t0, .int (nI (kt))])), (t0, .inl (cC, 120, .inl gT))] [(c1, .int), (c2, .int), (cC, .char)] (va_A [(jR, .inr (4, [.ref jT, .ref r1, .ref r2, .int (nI (wr)), .int (nI (fi)), .int (nI (pn)), .ref q6, .ref q7])), (r1, .inl (c1, 120, .inl s1)), (r2, .inl (c2, 124, .inl s2)), (jT, .inr (8, [.ref t0, .int (nI (kt))])), (t0, .inl (cC, 120, .inl gT))] sz) t) (va_A [(jR, .inr (4, [.ref jT, .ref r1, .ref r2, .int (nI (wr)), .int (nI (fi)), .int (nI (pn)), .ref q6, .ref q7])), (r1, .inl (c1, 120, .inl s1)), (r2, .inl (c2, 124, .inl s2)), (jT, .inr (8, [.ref t0, .int (nI (kt))])), (t0, .inl (cC, 120, .inl gT))] sz)) 0 0 (va_A [(jR, .inr (4, [.ref jT, .ref r1, .ref r2, .int (nI (wr)), .int (nI (fi)), .int (nI (pn)), .ref q6, .ref q7])), (r1, .inl (c1, 120, .inl s1)), (r2, .inl (c2, 124, .inl s2)), (jT, .inr (8, [.ref t0, .int (nI (kt))])), (t0, .inl (cC, 120, .inl gT))] sz) := by
  refine Met.ofW (cc := cX4_readTerm) (maxL := 4) (ret := (some .boolean)) (by decide) rfl ?_
  intro p e s m args below meth c s₁ B hml hv
  obtain ⟨rfl, hsz, hP, hK, hD0, hX⟩ := hv
  have hx := B.exec
  have hb := B.bytes
  have hr := B.returns
  have hts := atoms_spec (ws := w_s_term4x_g) B.pre
  have hown : s.vm.findClass RX4 = some m.cls := findClass_of_methodNamed B.named
  have hlocks := B.notSynchronized
  subst hsz
  have hD := hD0.self (sz := s.heap.size)
  generalize hAe : va_A [(jR, .inr (4, [.ref jT, .ref r1, .ref r2, .int (nI (wr)), .int (nI (fi)), .int (nI (pn)), .ref q6, .ref q7])), (r1, .inl (c1, 120, .inl s1)), (r2, .inl (c2, 124, .inl s2)), (jT, .inr (8, [.ref t0, .int (nI (kt))])), (t0, .inl (cC, 120, .inl gT))] s.heap.size = A at hD hX ⊢
  have hA : ∀ q : Nat, s.heap.size ≤ q → A q := fun q h => by rw [← hAe]; exact Or.inr h
  have hS : va_S A s.heap s.heap [] := va_S.rf
  have hP : va_P (dC, dI) vwCl [(jR, .inr (4, [.ref jT, .ref r1, .ref r2, .int (nI (wr)), .int (nI (fi)), .int (nI (pn)), .ref q6, .ref q7])), (r1, .inl (c1, 120, .inl s1)), (r2, .inl (c2, 124, .inl s2)), (jT, .inr (8, [.ref t0, .int (nI (kt))])), (t0, .inl (cC, 120, .inl gT))] s.heap := hP
  have hl := lv_entry ([.ref jR, .int (nI (dd))]) (n := 4) (Nat.le_of_ble_eq_true rfl)
  rw [lg_entry_eq]
  generalize (lg_sl ([.ref jR, .int (nI (dd))]) ++ List.replicate (4 - (lg_sl ([.ref jR, .int (nI (dd))])).length) Slot.unset).toArray = ls at hl ⊢
  have hl : lv_has ls 4 [(0, .ref jR), (1, .int (nI (dd)))] := hl
  refine kQ (fun Q hQ => ?_)
  refine lv_aload_n hx hb dX4_readTerm_0 rfl (lv_at hl 0 rfl) ?_
  refine lv_iload_n hx hb dX4_readTerm_1 rfl (lv_at hl 1 rfl) ?_
  have bd_1 : dd + e1 = 5 := by omega
  have hCu := kCut (wc := [(jR, .inr (4, [.ref jT, .ref r1, .ref r2, .int (nI (wr)), .int (nI (fi)), .int (nI (pn)), .ref q6, .ref q7])), (r1, .inl (c1, 120, .inl s1)), (r2, .inl (c2, 124, .inl s2)), (jT, .inr (8, [.ref t0, .int (nI (kt))])), (t0, .inl (cC, 120, .inl gT))]) hP hD hS hA [0, 1, 2, 3, 4] rfl kc_nd_311 rfl
  have hPc := hCu.1
  have hDc := hCu.2.1
  have hFc := hCu.2.2
  have hKc := hK.sb (tys2 := [(c1, .int), (c2, .int), (cC, .char)]) [0, 1, 2] rfl
  refine va_calli (va_runV (As := [.int (nI (dd))]) (rest := []) ⟨hx, hb, hml, hown, hts⟩ (s_atom4x_g l dC dI jT t0 cC gT kt hkt hgT bt hbt hb8 jR r1 r2 c1 c2 s1 s2 wr fi q6 q7 hwr hfi pn hpn hwp b6 n6 g6 hn6 b7 n7 g7 hn7 gn6 hz6 gn7 hz7 e1 dd bd_1 ih s.heap.size) (cwV 1 hts (kG (List.forall_mem_cons.mpr ⟨(List.mem_cons_of_mem _ (List.mem_append_left _ (List.mem_of_getElem? (i := 24) rfl))), (List.forall_mem_cons.mpr ⟨(List.mem_cons_of_mem _ (List.mem_append_left _ (List.mem_of_getElem? (i := 23) rfl))), (List.forall_mem_cons.mpr ⟨(List.mem_cons_of_mem _ (List.mem_append_left _ (List.mem_of_getElem? (i := 22) rfl))), (List.forall_mem_cons.mpr ⟨(List.mem_cons_of_mem _ (List.mem_append_left _ (List.mem_of_getElem? (i := 0) rfl))), (fun _ h => absurd h List.not_mem_nil)⟩)⟩)⟩)⟩) (kGV _ _ _ _) (kFam (List.mem_cons_of_mem _ (List.mem_append_left _ (List.mem_of_getElem? (i := 21) rfl)))) gw_s_atom4x_g) rfl rfl rfl ⟨rfl, hd_X4_readAtom⟩ ⟨(show (6 + 6 * (e1 + 1)) + 1 ≤ (7 + 6 * (e1 + 1)) from by omega), (show 8 + (4 + 11) + 60 * (6 + 6 * (e1 + 1)) ≤ 60 * (7 + 6 * (e1 + 1)) from by omega)⟩) (kW_V kS2_blind (kS2_give hX hS hFc) (va_recv hKc hPc (ci := 4) (q0 := 0) rfl rfl) hPc hKc hDc) rfl rfl hl.1 rfl (lv_room (Nat.le_of_ble_eq_true rfl)) dX4_readTerm_2 ⟨(Nat.le_of_ble_eq_true rfl), (Nat.le_of_ble_eq_true rfl)⟩) hS (fun q _ h => hFc q h) hFc (fun r_2 => kU5 (fun S1_3 Wr_4 Pn_5 xo_6 xl_7 t H_8 locs ht hvm hw hB hz1 hk1 hS => ?_))
  try dsimp only at hw
  have hPD : kPD dC dI A [(jR, .inr (4, [.ref jT, .ref r1, .ref r2, .int (nI (Wr_4)), .int (nI (fi)), .int (nI (Pn_5)), .ref q6, .ref q7])), (r1, .inl (c1, 120, .inl S1_3)), (r2, .inl (c2, 124, .inl s2)), (jT, .inr (8, [.ref t0, .int (nI (kt))])), (t0, .inl (cC, 120, .inl gT))] H_8 := kJoinX hP hD [0, 1, 2, 3, 4] rfl hk1 hFc hB.1 ht hB.2.2 rfl [some 0, some 1, some 2, some 3, some 4] rfl rfl
  have hP := hPD.1
  have hD := hPD.2
  have hw_9 := hw
  refine lv_if_ne (tgt := 10) hx hb dX4_readTerm_5 kc_t_5_5 (fun c_10 => ?_) (fun c_10 => ?_)
  · obtain rfl : xo_6 = true := kBo_t (kNz9 hw_9.1 c_10)
    obtain ⟨hw_9_W, hw_9_S, hw_9_l, hw_9_p⟩ := hw_9.2.1.2.2 rfl
    have hw_9_k := hw_9.2.1.2.1
    refine lv_iconst (v := 0) hx hb dX4_readTerm_10 kc_i_0 ?_
    refine lv_istore_n hx hb dX4_readTerm_11 rfl hl kc_l_2_4 (kTo [(2, .int 0), (0, .ref jR), (1, .int (nI (dd)))]) (fun ls hl => ?_)
    have lp_k_11 : ∀ (n9 : Nat) (i : Nat) (xs1 : Nat → Int32) (xpn : Nat) (xwr : Nat) (xl : List Int32) (ivk_11_0 : i ≤ 120) (ivk_11_1 : xwr ≤ 120) (ivk_11_2 : xpn ≤ kt) (ivk_11_3 : kLoop bt kt 42 47 (kAtomD bt kt g7 n7 (e1 + 1)) (120 - i) xpn xl = kTermD bt kt g7 n7 (e1 + 1) pn) (ivk_11_4 : xwr = wr + xl.length) (ivk_11_5 : xs1 = kWrt s1 wr xl) (ivk_11_6 : pn + xl.length ≤ xpn) (ivk_11_7 : pn < xpn) (H : Heap) (locs : List Loc) (_ : va_P (dC, dI) vwCl [(jR, .inr (4, [.ref jT, .ref r1, .ref r2, .int (nI (xwr)), .int (nI (fi)), .int (nI (xpn)), .ref q6, .ref q7])), (r1, .inl (c1, 120, .inl xs1)), (r2, .inl (c2, 124, .inl s2)), (jT, .inr (8, [.ref t0, .int (nI (kt))])), (t0, .inl (cC, 120, .inl gT))] H) (_ : va_D A [(jR, .inr (4, [.ref jT, .ref r1, .ref r2, .int (nI (xwr)), .int (nI (fi)), .int (nI (xpn)), .ref q6, .ref q7])), (r1, .inl (c1, 120, .inl xs1)), (r2, .inl (c2, 124, .inl s2)), (jT, .inr (8, [.ref t0, .int (nI (kt))])), (t0, .inl (cC, 120, .inl gT))]) (_ : va_S A s.heap H locs) (ls : Array Slot) (_ : lv_has ls 4 [(2, .int (nI (i))), (0, .ref jR), (1, .int (nI (dd)))]) (_ : 120 - i < n9), W p l e (headSpec w_s_term4x_g ({ frames := (7 + 6 * (e1 + 1)), cells := 0, slots := 0, locals := 60 * (7 + 6 * (e1 + 1)) })).room s m (#[.ref jR, .int (nI (dd))] : Array Value) below meth c H locs 0 0 Q (F0 m 12 ls []) := by
      intro n9
      induction n9 with
      | zero => intro i xs1 xpn xwr xl ivk_11_0 ivk_11_1 ivk_11_2 ivk_11_3 ivk_11_4 ivk_11_5 ivk_11_6 ivk_11_7 H locs hP hD hS ls hl hm9; exact absurd hm9 (Nat.not_lt_zero _)
      | succ n9 ih_k_11 =>
        intro i xs1 xpn xwr xl ivk_11_0 ivk_11_1 ivk_11_2 ivk_11_3 ivk_11_4 ivk_11_5 ivk_11_6 ivk_11_7 H locs hP hD hS ls hl hm9
        refine lv_iload_n hx hb dX4_readTerm_12 rfl (lv_at hl 0 rfl) ?_
        refine lv_bipush (v := 120) hx hb dX4_readTerm_13 kc_b_120 ?_
        refine lv_icmp_ge (tgt := 79) hx hb dX4_readTerm_15 kc_t_15_64 (fun c_12 => ?_) (fun c_12 => ?_)
        · have bd_14 : i < 2147483648 := by omega
          have hn_13 := kle (a := 120) (b := i) kc_31_120 bd_14 c_12
          refine lv_iconst (v := 1) hx hb dX4_readTerm_79 kc_i_1 ?_
          have hP9 := hP
          have hD9 := hD
          have hK9 := hK
          rw [hQ]
          exact W.zret (v := 1) hx hb hr rfl (fun t ht hW => ⟨⟨1, (xs1, xwr, xpn, true, xl), rfl, ⟨rfl, kPR_t (a := kTermD bt kt g7 n7 (e1 + 1)) rfl (kTermD_good hz7 (e1 + 1)) (by omega) (by rw [← ivk_11_3, show 120 - i = 0 by omega]; rfl) ivk_11_4 ivk_11_5, by omega⟩,  by rw [ht]; exact hP9, va_K.moved hW.alike hK9, hD9⟩, hS.F ht⟩) hS.2.2 dX4_readTerm_80
        · have bd_16 : i < 2147483648 := by omega
          have hn_15 := knle (a := 120) (b := i) kc_31_120 bd_16 c_12
          refine lv_aload_n hx hb dX4_readTerm_18 rfl (lv_at hl 1 rfl) ?_
          have bd_17 : xwr ≤ 120 := by omega
          have bd_18 : xpn ≤ kt := by omega
          have hCu := kCut (wc := [(jR, .inr (4, [.ref jT, .ref r1, .ref r2, .int (nI (xwr)), .int (nI (fi)), .int (nI (xpn)), .ref q6, .ref q7])), (r1, .inl (c1, 120, .inl xs1)), (r2, .inl (c2, 124, .inl s2)), (jT, .inr (8, [.ref t0, .int (nI (kt))])), (t0, .inl (cC, 120, .inl gT))]) hP hD hS hA [0, 1, 2, 3, 4] rfl kc_nd_311 rfl
          have hPc := hCu.1
          have hDc := hCu.2.1
          have hFc := hCu.2.2
          have hKc := hK.sb (tys2 := [(c1, .int), (c2, .int), (cC, .char)]) [0, 1, 2] rfl
          refine va_calli (va_runV (As := []) (rest := []) ⟨hx, hb, hml, hown, hts⟩ (s_look4x l dC dI jT t0 cC gT kt hkt hgT bt hbt hb8 jR r1 r2 c1 c2 xs1 s2 xwr fi q6 q7 bd_17 hfi xpn bd_18 H.size) (cwV 0 hts (kG (List.forall_mem_cons.mpr ⟨(List.mem_cons_of_mem _ (List.mem_append_left _ (List.mem_of_getElem? (i := 3) rfl))), (List.forall_mem_cons.mpr ⟨(List.mem_cons_of_mem _ (List.mem_append_left _ (List.mem_of_getElem? (i := 2) rfl))), (List.forall_mem_cons.mpr ⟨(List.mem_cons_of_mem _ (List.mem_append_left _ (List.mem_of_getElem? (i := 1) rfl))), (List.forall_mem_cons.mpr ⟨(List.mem_cons_of_mem _ (List.mem_append_left _ (List.mem_of_getElem? (i := 0) rfl))), (fun _ h => absurd h List.not_mem_nil)⟩)⟩)⟩)⟩) (kGV _ _ _ _) (fun _ h => List.mem_cons_of_mem _ (List.mem_append_right _ (List.mem_append_left _ h))) gw_s_look4x) rfl rfl rfl ⟨rfl, hd_X4_look⟩ ⟨(show 2 + 1 ≤ (7 + 6 * (e1 + 1)) from by omega), (show 8 + (2 + 11) + 60 * 2 ≤ 60 * (7 + 6 * (e1 + 1)) from by omega)⟩) (kW_V kT_blind kT_give (va_recv hKc hPc (ci := 4) (q0 := 0) rfl rfl) hPc hKc hDc) rfl rfl hl.1 rfl (lv_room (Nat.le_of_ble_eq_true rfl)) dX4_readTerm_19 ⟨(Nat.le_of_ble_eq_true rfl), (Nat.le_of_ble_eq_true rfl)⟩) hS (fun q _ h => hFc q h) hFc (fun r_19 => kU2 (fun Pn_20 ch_21 t H_22 locs ht hvm hw hB hz1 hk1 hS => ?_))
          try dsimp only at hw
          have hPD : kPD dC dI A [(jR, .inr (4, [.ref jT, .ref r1, .ref r2, .int (nI (xwr)), .int (nI (fi)), .int (nI (Pn_20)), .ref q6, .ref q7])), (r1, .inl (c1, 120, .inl xs1)), (r2, .inl (c2, 124, .inl s2)), (jT, .inr (8, [.ref t0, .int (nI (kt))])), (t0, .inl (cC, 120, .inl gT))] H_22 := kJoinX hP hD [0, 1, 2, 3, 4] rfl hk1 hFc hB.1 ht hB.2.2 rfl [some 0, some 1, some 2, some 3, some 4] rfl rfl
          have hP := hPD.1
          have hD := hPD.2
          obtain ⟨rfl, hw_23_0, hw_23_1, hw_23_2, hw_23_3, hw_23_4, hw_23_5, hw_23_6⟩ := hw
          refine lv_bipush (v := 42) hx hb dX4_readTerm_22 kc_b_42 ?_
          refine lv_icmp_eq (tgt := 36) hx hb dX4_readTerm_24 kc_t_24_12 (fun c_24 => ?_) (fun c_24 => ?_)
          · have bd_26 : ch_21 < 2147483648 := by omega
            have hn_25 := keq (a := ch_21) (b := 42) bd_26 kc_31_42 c_24
            refine lv_aload_n hx hb dX4_readTerm_36 rfl (lv_at hl 1 rfl) ?_
            have bd_27 : Pn_20 ≤ kt := by omega
            have hCu := kCut (wc := [(jR, .inr (4, [.ref jT, .ref r1, .ref r2, .int (nI (xwr)), .int (nI (fi)), .int (nI (Pn_20)), .ref q6, .ref q7])), (r1, .inl (c1, 120, .inl xs1)), (r2, .inl (c2, 124, .inl s2)), (jT, .inr (8, [.ref t0, .int (nI (kt))])), (t0, .inl (cC, 120, .inl gT))]) hP hD hS hA [0, 1, 2, 3, 4] rfl kc_nd_311 rfl
            have hPc := hCu.1
            have hDc := hCu.2.1
            have hFc := hCu.2.2
            have hKc := hK.sb (tys2 := [(c1, .int), (c2, .int), (cC, .char)]) [0, 1, 2] rfl
            refine va_calli (va_runV (As := []) (rest := []) ⟨hx, hb, hml, hown, hts⟩ (s_look4x l dC dI jT t0 cC gT kt hkt hgT bt hbt hb8 jR r1 r2 c1 c2 xs1 s2 xwr fi q6 q7 bd_17 hfi Pn_20 bd_27 H_22.size) (cwV 0 hts (kG (List.forall_mem_cons.mpr ⟨(List.mem_cons_of_mem _ (List.mem_append_left _ (List.mem_of_getElem? (i := 3) rfl))), (List.forall_mem_cons.mpr ⟨(List.mem_cons_of_mem _ (List.mem_append_left _ (List.mem_of_getElem? (i := 2) rfl))), (List.forall_mem_cons.mpr ⟨(List.mem_cons_of_mem _ (List.mem_append_left _ (List.mem_of_getElem? (i := 1) rfl))), (List.forall_mem_cons.mpr ⟨(List.mem_cons_of_mem _ (List.mem_append_left _ (List.mem_of_getElem? (i := 0) rfl))), (fun _ h => absurd h List.not_mem_nil)⟩)⟩)⟩)⟩) (kGV _ _ _ _) (fun _ h => List.mem_cons_of_mem _ (List.mem_append_right _ (List.mem_append_left _ h))) gw_s_look4x) rfl rfl rfl ⟨rfl, hd_X4_look⟩ ⟨(show 2 + 1 ≤ (7 + 6 * (e1 + 1)) from by omega), (show 8 + (2 + 11) + 60 * 2 ≤ 60 * (7 + 6 * (e1 + 1)) from by omega)⟩) (kW_V kT_blind kT_give (va_recv hKc hPc (ci := 4) (q0 := 0) rfl rfl) hPc hKc hDc) rfl rfl hl.1 rfl (lv_room (Nat.le_of_ble_eq_true rfl)) dX4_readTerm_37 ⟨(Nat.le_of_ble_eq_true rfl), (Nat.le_of_ble_eq_true rfl)⟩) hS (fun q _ h => hFc q h) hFc (fun r_28 => kU2 (fun Pn_29 ch_30 t H_31 locs ht hvm hw hB hz1 hk1 hS => ?_))
            try dsimp only at hw
            have hPD : kPD dC dI A [(jR, .inr (4, [.ref jT, .ref r1, .ref r2, .int (nI (xwr)), .int (nI (fi)), .int (nI (Pn_29)), .ref q6, .ref q7])), (r1, .inl (c1, 120, .inl xs1)), (r2, .inl (c2, 124, .inl s2)), (jT, .inr (8, [.ref t0, .int (nI (kt))])), (t0, .inl (cC, 120, .inl gT))] H_31 := kJoinX hP hD [0, 1, 2, 3, 4] rfl hk1 hFc hB.1 ht hB.2.2 rfl [some 0, some 1, some 2, some 3, some 4] rfl rfl
            have hP := hPD.1
            have hD := hPD.2
            obtain ⟨rfl, hw_32_0, hw_32_1, hw_32_2, hw_32_3, hw_32_4, hw_32_5, hw_32_6⟩ := hw
            have e9 : Pn_20 = Pn_29 := by rw [hw_32_1, hw_23_1]; exact (kSp_sp (by omega)).symm
            have e8 : ch_21 = ch_30 := by rw [hw_32_0, hw_23_0, hw_23_1]; exact (kLk_sp (by omega)).symm
            subst e9
            subst e8
            refine lv_istore_n hx hb dX4_readTerm_40 rfl hl kc_l_3_4 (kTo [(3, .int (nI (ch_21))), (2, .int (nI (i))), (0, .ref jR), (1, .int (nI (dd)))]) (fun ls hl => ?_)
            refine lv_aload_n hx hb dX4_readTerm_41 rfl (lv_at hl 2 rfl) ?_
            refine lv_dup hx hb dX4_readTerm_42 rfl ?_
            refine va_get (D := (dC, dI)) (ci := 4) (v := .int (nI (Pn_20))) (C := RX4) (T := TX4) (N := 8) hx hb hts (fun _ h => List.mem_cons_of_mem _ (List.mem_append_right _ (List.mem_append_right _ (List.mem_append_right _ (List.mem_append_left _ h))))) hown hK hP 0 rfl rfl 5 kc_l_5_8 (hts (.fieldLink RX4 25 "NotEnded$Reader" "place" "I") (List.mem_cons_of_mem _ (List.mem_append_left _ (List.mem_of_getElem? (i := 11) rfl)))) (fun _ h9 => h9) rfl dX4_readTerm_43 ?_
            refine lv_iconst (v := 1) hx hb dX4_readTerm_46 kc_i_1 ?_
            refine lv_iadd hx hb dX4_readTerm_47 ?_
            refine lv_topi (fun y_33 ey_33 => ?_)
            obtain rfl : y_33 = nI (Pn_20 + 1) := ey_33.trans (nI_add (Pn_20) (1))
            refine va_put (D := (dC, dI)) (ci := 4) (v := .int (nI (Pn_20 + 1))) (ty := tyX4 5) (C := RX4) (T := TX4) (N := 8) hx hb hts (fun _ h => List.mem_cons_of_mem _ (List.mem_append_right _ (List.mem_append_right _ (List.mem_append_right _ (List.mem_append_left _ h))))) tyX4 tyX4_ok nmX4 hown hK hP hD hS 0 rfl rfl 5 kc_l_5_8 (hts (.fieldLink RX4 25 "NotEnded$Reader" "place" "I") (List.mem_cons_of_mem _ (List.mem_append_left _ (List.mem_of_getElem? (i := 11) rfl)))) (fun _ h9 => h9) rfl (tyX4_ok 5 kc_l_5_8) rfl rfl (Nat.le_of_ble_eq_true rfl) dX4_readTerm_48 (fun H locs hP hD hS => ?_)
            have hPD : kPD dC dI A [(jR, .inr (4, [.ref jT, .ref r1, .ref r2, .int (nI (xwr)), .int (nI (fi)), .int (nI (Pn_20 + 1)), .ref q6, .ref q7])), (r1, .inl (c1, 120, .inl xs1)), (r2, .inl (c2, 124, .inl s2)), (jT, .inr (8, [.ref t0, .int (nI (kt))])), (t0, .inl (cC, 120, .inl gT))] H := ⟨hP, hD⟩
            have hP := hPD.1
            have hD := hPD.2
            refine lv_aload_n hx hb dX4_readTerm_51 rfl (lv_at hl 2 rfl) ?_
            refine lv_iload_n hx hb dX4_readTerm_52 rfl (lv_at hl 3 rfl) ?_
            have bd_34 : (Pn_20 + 1) ≤ kt := by omega
            have bd_35 : xwr ≤ (Pn_20 + 1) := by omega
            have hCu := kCut (wc := [(jR, .inr (4, [.ref jT, .ref r1, .ref r2, .int (nI (xwr)), .int (nI (fi)), .int (nI (Pn_20 + 1)), .ref q6, .ref q7])), (r1, .inl (c1, 120, .inl xs1)), (r2, .inl (c2, 124, .inl s2)), (jT, .inr (8, [.ref t0, .int (nI (kt))])), (t0, .inl (cC, 120, .inl gT))]) hP hD hS hA [0, 1, 2, 3, 4] rfl kc_nd_311 rfl
            have hPc := hCu.1
            have hDc := hCu.2.1
            have hFc := hCu.2.2
            have hKc := hK.sb (tys2 := [(c1, .int), (c2, .int), (cC, .char)]) [0, 1, 2] rfl
            refine va_calli (va_runV (As := [.int (nI (dd))]) (rest := []) ⟨hx, hb, hml, hown, hts⟩ (s_atom4x_g l dC dI jT t0 cC gT kt hkt hgT bt hbt hb8 jR r1 r2 c1 c2 xs1 s2 xwr fi q6 q7 bd_17 hfi (Pn_20 + 1) bd_34 bd_35 b6 n6 g6 hn6 b7 n7 g7 hn7 gn6 hz6 gn7 hz7 e1 dd bd_1 ih H.size) (cwV 1 hts (kG (List.forall_mem_cons.mpr ⟨(List.mem_cons_of_mem _ (List.mem_append_left _ (List.mem_of_getElem? (i := 24) rfl))), (List.forall_mem_cons.mpr ⟨(List.mem_cons_of_mem _ (List.mem_append_left _ (List.mem_of_getElem? (i := 23) rfl))), (List.forall_mem_cons.mpr ⟨(List.mem_cons_of_mem _ (List.mem_append_left _ (List.mem_of_getElem? (i := 22) rfl))), (List.forall_mem_cons.mpr ⟨(List.mem_cons_of_mem _ (List.mem_append_left _ (List.mem_of_getElem? (i := 0) rfl))), (fun _ h => absurd h List.not_mem_nil)⟩)⟩)⟩)⟩) (kGV _ _ _ _) (kFam (List.mem_cons_of_mem _ (List.mem_append_left _ (List.mem_of_getElem? (i := 21) rfl)))) gw_s_atom4x_g) rfl rfl rfl ⟨rfl, hd_X4_readAtom⟩ ⟨(show (6 + 6 * (e1 + 1)) + 1 ≤ (7 + 6 * (e1 + 1)) from by omega), (show 8 + (4 + 11) + 60 * (6 + 6 * (e1 + 1)) ≤ 60 * (7 + 6 * (e1 + 1)) from by omega)⟩) (kW_V kS2_blind (kS2_give hX hS hFc) (va_recv hKc hPc (ci := 4) (q0 := 0) rfl rfl) hPc hKc hDc) rfl rfl hl.1 rfl (lv_room (Nat.le_of_ble_eq_true rfl)) dX4_readTerm_53 ⟨(Nat.le_of_ble_eq_true rfl), (Nat.le_of_ble_eq_true rfl)⟩) hS (fun q _ h => hFc q h) hFc (fun r_36 => kU5 (fun S1_37 Wr_38 Pn_39 xo_40 xl_41 t H_42 locs ht hvm hw hB hz1 hk1 hS => ?_))
            try dsimp only at hw
            have hPD : kPD dC dI A [(jR, .inr (4, [.ref jT, .ref r1, .ref r2, .int (nI (Wr_38)), .int (nI (fi)), .int (nI (Pn_39)), .ref q6, .ref q7])), (r1, .inl (c1, 120, .inl S1_37)), (r2, .inl (c2, 124, .inl s2)), (jT, .inr (8, [.ref t0, .int (nI (kt))])), (t0, .inl (cC, 120, .inl gT))] H_42 := kJoinX hP hD [0, 1, 2, 3, 4] rfl hk1 hFc hB.1 ht hB.2.2 rfl [some 0, some 1, some 2, some 3, some 4] rfl rfl
            have hP := hPD.1
            have hD := hPD.2
            have hw_43 := hw
            refine lv_if_eq (tgt := 71) hx hb dX4_readTerm_56 kc_t_56_15 (fun c_44 => ?_) (fun c_44 => ?_)
            · obtain rfl : xo_40 = false := kBo_f (kZr9 hw_43.1 c_44)
              have hw_43_k := hw_43.2.1.2.1
              refine lv_iconst (v := 0) hx hb dX4_readTerm_71 kc_i_0 ?_
              have hP9 := hP
              have hD9 := hD
              have hK9 := hK
              rw [hQ]
              exact W.zret (v := 0) hx hb hr rfl (fun t ht hW => ⟨⟨0, (S1_37, Wr_38, Pn_39, false, ([])), rfl, ⟨rfl, kPR_f (by rw [← ivk_11_3, show 120 - i = (119 - i) + 1 by omega]; exact kLoop_f (by rw [← hw_23_0]; omega) (by rw [← hw_23_1]; exact hw_43.2.1.1)) (by omega), by omega⟩,  by rw [ht]; exact hP9, va_K.moved hW.alike hK9, hD9⟩, hS.F ht⟩) hS.2.2 dX4_readTerm_72
            · obtain rfl : xo_40 = true := kBo_t (kNz9 hw_43.1 c_44)
              obtain ⟨hw_43_W, hw_43_S, hw_43_l, hw_43_p⟩ := hw_43.2.1.2.2 rfl
              have hw_43_k := hw_43.2.1.2.1
              refine lv_aload_n hx hb dX4_readTerm_59 rfl (lv_at hl 2 rfl) ?_
              refine lv_sipush (v := 20000) hx hb dX4_readTerm_60 kc_s_20000 ?_
              refine lv_iload_n hx hb dX4_readTerm_63 rfl (lv_at hl 0 rfl) ?_
              refine lv_iadd hx hb dX4_readTerm_64 ?_
              refine lv_topi (fun y_45 ey_45 => ?_)
              obtain rfl : y_45 = nI (20000 + ch_21) := ey_45.trans (nI_add (20000) (ch_21))
              have bd_46 : Wr_38 ≤ 120 := by omega
              have bd_47 : Pn_39 ≤ kt := by omega
              have bd_48 : Wr_38 < 120 := by omega
              have hCu := kCut (wc := [(jR, .inr (4, [.ref jT, .ref r1, .ref r2, .int (nI (Wr_38)), .int (nI (fi)), .int (nI (Pn_39)), .ref q6, .ref q7])), (r1, .inl (c1, 120, .inl S1_37)), (r2, .inl (c2, 124, .inl s2)), (jT, .inr (8, [.ref t0, .int (nI (kt))])), (t0, .inl (cC, 120, .inl gT))]) hP hD hS hA [0, 1, 2, 3, 4] rfl kc_nd_311 rfl
              have hPc := hCu.1
              have hDc := hCu.2.1
              have hFc := hCu.2.2
              have hKc := hK.sb (tys2 := [(c1, .int), (c2, .int), (cC, .char)]) [0, 1, 2] rfl
              refine va_calli (va_runV (As := [.int (nI (20000 + ch_21))]) (rest := []) ⟨hx, hb, hml, hown, hts⟩ (s_write4x l dC dI jT t0 cC gT kt hkt hgT bt hbt hb8 jR r1 r2 c1 c2 S1_37 s2 Wr_38 fi q6 q7 bd_46 hfi Pn_39 bd_47 (nI (20000 + ch_21)) bd_48 H_42.size) (cwV 1 hts (kG (List.forall_mem_cons.mpr ⟨(List.mem_cons_of_mem _ (List.mem_append_left _ (List.mem_of_getElem? (i := 14) rfl))), (List.forall_mem_cons.mpr ⟨(List.mem_cons_of_mem _ (List.mem_append_left _ (List.mem_of_getElem? (i := 13) rfl))), (List.forall_mem_cons.mpr ⟨(List.mem_cons_of_mem _ (List.mem_append_left _ (List.mem_of_getElem? (i := 12) rfl))), (List.forall_mem_cons.mpr ⟨(List.mem_cons_of_mem _ (List.mem_append_left _ (List.mem_of_getElem? (i := 0) rfl))), (fun _ h => absurd h List.not_mem_nil)⟩)⟩)⟩)⟩) (kGV _ _ _ _) (fun _ h => List.mem_cons_of_mem _ (List.mem_append_right _ (List.mem_append_right _ (List.mem_append_right _ (List.mem_append_right _ (List.mem_append_right _ (List.mem_append_left _ h))))))) gw_s_write4x) rfl rfl rfl ⟨rfl, hd_X4_write⟩ ⟨(show 1 + 1 ≤ (7 + 6 * (e1 + 1)) from by omega), (show 8 + (2 + 11) + 60 * 1 ≤ 60 * (7 + 6 * (e1 + 1)) from by omega)⟩) (kW_V kT_blind kT_give (va_recv hKc hPc (ci := 4) (q0 := 0) rfl rfl) hPc hKc hDc) rfl rfl hl.1 rfl (lv_room (Nat.le_of_ble_eq_true rfl)) dX4_readTerm_65 ⟨(Nat.le_of_ble_eq_true rfl), (Nat.le_of_ble_eq_true rfl)⟩) hS (fun q _ h => hFc q h) hFc (fun r_49 => kU2 (fun S1_50 Wr_51 t H_52 locs ht hvm hw hB hz1 hk1 hS => ?_))
              try dsimp only at hw
              have hPD : kPD dC dI A [(jR, .inr (4, [.ref jT, .ref r1, .ref r2, .int (nI (Wr_51)), .int (nI (fi)), .int (nI (Pn_39)), .ref q6, .ref q7])), (r1, .inl (c1, 120, .inl S1_50)), (r2, .inl (c2, 124, .inl s2)), (jT, .inr (8, [.ref t0, .int (nI (kt))])), (t0, .inl (cC, 120, .inl gT))] H_52 := kJoinX hP hD [0, 1, 2, 3, 4] rfl hk1 hFc hB.1 ht hB.2.2 rfl [some 0, some 1, some 2, some 3, some 4] rfl rfl
              have hP := hPD.1
              have hD := hPD.2
              obtain ⟨rfl, hw_53⟩ := hw
              refine lv_if_ne (tgt := 73) hx hb dX4_readTerm_68 kc_t_68_5 (fun c_54 => ?_) (fun c_54 => absurd c_54 (by decide))
              refine lv_iinc (v := nI (i + 1)) hx hb dX4_readTerm_73 hl (k := 1) rfl (kInc _ 1) kc_l_2_4 (kTo [(2, .int (nI (i + 1))), (3, .int (nI (ch_21))), (0, .ref jR), (1, .int (nI (dd)))]) (fun ls hl => ?_)
              refine lv_goto (tgt := 12) hx hb dX4_readTerm_76 kc_t_76_m64 ?_
              exact ih_k_11 (i + 1) S1_50 Pn_39 Wr_51 (xl ++ xl_41 ++ [nI (20000 + ch_21)]) (by omega) (by omega) (by omega) (by have e9 := kLoop_t (b := bt) (n := kt) (c1 := 42) (c2 := 47) (a := kAtomD bt kt g7 n7 (e1 + 1)) (f := 120 - (i + 1)) (p := xpn) (l := xl) (by rw [← hw_23_0]; omega) (by rw [← hw_23_1]; exact hw_43.2.1.1); rw [← hw_23_0] at e9; rw [← e9, show (120 - (i + 1)) + 1 = 120 - i by omega]; exact ivk_11_3) (by simp only [List.length_append, List.length_cons, List.length_nil]; omega) (kWrt3 ivk_11_5 ivk_11_4 hw_43_S hw_43_W hw_53.2) (by simp only [List.length_append, List.length_cons, List.length_nil]; omega) (by omega) _ _ hP hD hS ls (lv_sub hl [0, 2, 3] rfl) (by omega)
          · have bd_56 : ch_21 < 2147483648 := by omega
            have hn_55 := kneq (a := ch_21) (b := 42) bd_56 kc_31_42 c_24
            refine lv_aload_n hx hb dX4_readTerm_27 rfl (lv_at hl 1 rfl) ?_
            have bd_57 : Pn_20 ≤ kt := by omega
            have hCu := kCut (wc := [(jR, .inr (4, [.ref jT, .ref r1, .ref r2, .int (nI (xwr)), .int (nI (fi)), .int (nI (Pn_20)), .ref q6, .ref q7])), (r1, .inl (c1, 120, .inl xs1)), (r2, .inl (c2, 124, .inl s2)), (jT, .inr (8, [.ref t0, .int (nI (kt))])), (t0, .inl (cC, 120, .inl gT))]) hP hD hS hA [0, 1, 2, 3, 4] rfl kc_nd_311 rfl
            have hPc := hCu.1
            have hDc := hCu.2.1
            have hFc := hCu.2.2
            have hKc := hK.sb (tys2 := [(c1, .int), (c2, .int), (cC, .char)]) [0, 1, 2] rfl
            refine va_calli (va_runV (As := []) (rest := []) ⟨hx, hb, hml, hown, hts⟩ (s_look4x l dC dI jT t0 cC gT kt hkt hgT bt hbt hb8 jR r1 r2 c1 c2 xs1 s2 xwr fi q6 q7 bd_17 hfi Pn_20 bd_57 H_22.size) (cwV 0 hts (kG (List.forall_mem_cons.mpr ⟨(List.mem_cons_of_mem _ (List.mem_append_left _ (List.mem_of_getElem? (i := 3) rfl))), (List.forall_mem_cons.mpr ⟨(List.mem_cons_of_mem _ (List.mem_append_left _ (List.mem_of_getElem? (i := 2) rfl))), (List.forall_mem_cons.mpr ⟨(List.mem_cons_of_mem _ (List.mem_append_left _ (List.mem_of_getElem? (i := 1) rfl))), (List.forall_mem_cons.mpr ⟨(List.mem_cons_of_mem _ (List.mem_append_left _ (List.mem_of_getElem? (i := 0) rfl))), (fun _ h => absurd h List.not_mem_nil)⟩)⟩)⟩)⟩) (kGV _ _ _ _) (fun _ h => List.mem_cons_of_mem _ (List.mem_append_right _ (List.mem_append_left _ h))) gw_s_look4x) rfl rfl rfl ⟨rfl, hd_X4_look⟩ ⟨(show 2 + 1 ≤ (7 + 6 * (e1 + 1)) from by omega), (show 8 + (2 + 11) + 60 * 2 ≤ 60 * (7 + 6 * (e1 + 1)) from by omega)⟩) (kW_V kT_blind kT_give (va_recv hKc hPc (ci := 4) (q0 := 0) rfl rfl) hPc hKc hDc) rfl rfl hl.1 rfl (lv_room (Nat.le_of_ble_eq_true rfl)) dX4_readTerm_28 ⟨(Nat.le_of_ble_eq_true rfl), (Nat.le_of_ble_eq_true rfl)⟩) hS (fun q _ h => hFc q h) hFc (fun r_58 => kU2 (fun Pn_59 ch_60 t H_61 locs ht hvm hw hB hz1 hk1 hS => ?_))
            try dsimp only at hw
            have hPD : kPD dC dI A [(jR, .inr (4, [.ref jT, .ref r1, .ref r2, .int (nI (xwr)), .int (nI (fi)), .int (nI (Pn_59)), .ref q6, .ref q7])), (r1, .inl (c1, 120, .inl xs1)), (r2, .inl (c2, 124, .inl s2)), (jT, .inr (8, [.ref t0, .int (nI (kt))])), (t0, .inl (cC, 120, .inl gT))] H_61 := kJoinX hP hD [0, 1, 2, 3, 4] rfl hk1 hFc hB.1 ht hB.2.2 rfl [some 0, some 1, some 2, some 3, some 4] rfl rfl
            have hP := hPD.1
            have hD := hPD.2
            obtain ⟨rfl, hw_62_0, hw_62_1, hw_62_2, hw_62_3, hw_62_4, hw_62_5, hw_62_6⟩ := hw
            have e9 : Pn_20 = Pn_59 := by rw [hw_62_1, hw_23_1]; exact (kSp_sp (by omega)).symm
            have e8 : ch_21 = ch_60 := by rw [hw_62_0, hw_23_0, hw_23_1]; exact (kLk_sp (by omega)).symm
            subst e9
            subst e8
            refine lv_bipush (v := 47) hx hb dX4_readTerm_31 kc_b_47 ?_
            refine lv_icmp_ne (tgt := 79) hx hb dX4_readTerm_33 kc_t_33_46 (fun c_63 => ?_) (fun c_63 => ?_)
            · have hn_64 := kneq (a := ch_21) (b := 47) bd_56 kc_31_47 c_63
              refine lv_iconst (v := 1) hx hb dX4_readTerm_79 kc_i_1 ?_
              have hP9 := hP
              have hD9 := hD
              have hK9 := hK
              rw [hQ]
              exact W.zret (v := 1) hx hb hr rfl (fun t ht hW => ⟨⟨1, (xs1, xwr, Pn_20, true, xl), rfl, ⟨rfl, kPR_t (a := kTermD bt kt g7 n7 (e1 + 1)) rfl (kTermD_good hz7 (e1 + 1)) (by omega) (by rw [← ivk_11_3, show 120 - i = (119 - i) + 1 by omega, kLoop_e (by rw [← hw_23_0]; omega), ← hw_23_1]) ivk_11_4 ivk_11_5, by omega⟩,  by rw [ht]; exact hP9, va_K.moved hW.alike hK9, hD9⟩, hS.F ht⟩) hS.2.2 dX4_readTerm_80
            · have hn_65 := keq (a := ch_21) (b := 47) bd_56 kc_31_47 c_63
              refine lv_aload_n hx hb dX4_readTerm_36 rfl (lv_at hl 1 rfl) ?_
              have hCu := kCut (wc := [(jR, .inr (4, [.ref jT, .ref r1, .ref r2, .int (nI (xwr)), .int (nI (fi)), .int (nI (Pn_20)), .ref q6, .ref q7])), (r1, .inl (c1, 120, .inl xs1)), (r2, .inl (c2, 124, .inl s2)), (jT, .inr (8, [.ref t0, .int (nI (kt))])), (t0, .inl (cC, 120, .inl gT))]) hP hD hS hA [0, 1, 2, 3, 4] rfl kc_nd_311 rfl
              have hPc := hCu.1
              have hDc := hCu.2.1
              have hFc := hCu.2.2
              have hKc := hK.sb (tys2 := [(c1, .int), (c2, .int), (cC, .char)]) [0, 1, 2] rfl
              refine va_calli (va_runV (As := []) (rest := []) ⟨hx, hb, hml, hown, hts⟩ (s_look4x l dC dI jT t0 cC gT kt hkt hgT bt hbt hb8 jR r1 r2 c1 c2 xs1 s2 xwr fi q6 q7 bd_17 hfi Pn_20 bd_57 H_61.size) (cwV 0 hts (kG (List.forall_mem_cons.mpr ⟨(List.mem_cons_of_mem _ (List.mem_append_left _ (List.mem_of_getElem? (i := 3) rfl))), (List.forall_mem_cons.mpr ⟨(List.mem_cons_of_mem _ (List.mem_append_left _ (List.mem_of_getElem? (i := 2) rfl))), (List.forall_mem_cons.mpr ⟨(List.mem_cons_of_mem _ (List.mem_append_left _ (List.mem_of_getElem? (i := 1) rfl))), (List.forall_mem_cons.mpr ⟨(List.mem_cons_of_mem _ (List.mem_append_left _ (List.mem_of_getElem? (i := 0) rfl))), (fun _ h => absurd h List.not_mem_nil)⟩)⟩)⟩)⟩) (kGV _ _ _ _) (fun _ h => List.mem_cons_of_mem _ (List.mem_append_right _ (List.mem_append_left _ h))) gw_s_look4x) rfl rfl rfl ⟨rfl, hd_X4_look⟩ ⟨(show 2 + 1 ≤ (7 + 6 * (e1 + 1)) from by omega), (show 8 + (2 + 11) + 60 * 2 ≤ 60 * (7 + 6 * (e1 + 1)) from by omega)⟩) (kW_V kT_blind kT_give (va_recv hKc hPc (ci := 4) (q0 := 0) rfl rfl) hPc hKc hDc) rfl rfl hl.1 rfl (lv_room (Nat.le_of_ble_eq_true rfl)) dX4_readTerm_37 ⟨(Nat.le_of_ble_eq_true rfl), (Nat.le_of_ble_eq_true rfl)⟩) hS (fun q _ h => hFc q h) hFc (fun r_66 => kU2 (fun Pn_67 ch_68 t H_69 locs ht hvm hw hB hz1 hk1 hS => ?_))
              try dsimp only at hw
              have hPD : kPD dC dI A [(jR, .inr (4, [.ref jT, .ref r1, .ref r2, .int (nI (xwr)), .int (nI (fi)), .int (nI (Pn_67)), .ref q6, .ref q7])), (r1, .inl (c1, 120, .inl xs1)), (r2, .inl (c2, 124, .inl s2)), (jT, .inr (8, [.ref t0, .int (nI (kt))])), (t0, .inl (cC, 120, .inl gT))] H_69 := kJoinX hP hD [0, 1, 2, 3, 4] rfl hk1 hFc hB.1 ht hB.2.2 rfl [some 0, some 1, some 2, some 3, some 4] rfl rfl
              have hP := hPD.1
              have hD := hPD.2
              obtain ⟨rfl, hw_70_0, hw_70_1, hw_70_2, hw_70_3, hw_70_4, hw_70_5, hw_70_6⟩ := hw
              have e9 : Pn_20 = Pn_67 := by rw [hw_70_1, hw_23_1]; exact (kSp_sp (by omega)).symm
              have e8 : ch_21 = ch_68 := by rw [hw_70_0, hw_23_0, hw_23_1]; exact (kLk_sp (by omega)).symm
              subst e9
              subst e8
              refine lv_istore_n hx hb dX4_readTerm_40 rfl hl kc_l_3_4 (kTo [(3, .int (nI (ch_21))), (2, .int (nI (i))), (0, .ref jR), (1, .int (nI (dd)))]) (fun ls hl => ?_)
              refine lv_aload_n hx hb dX4_readTerm_41 rfl (lv_at hl 2 rfl) ?_
              refine lv_dup hx hb dX4_readTerm_42 rfl ?_
              refine va_get (D := (dC, dI)) (ci := 4) (v := .int (nI (Pn_20))) (C := RX4) (T := TX4) (N := 8) hx hb hts (fun _ h => List.mem_cons_of_mem _ (List.mem_append_right _ (List.mem_append_right _ (List.mem_append_right _ (List.mem_append_left _ h))))) hown hK hP 0 rfl rfl 5 kc_l_5_8 (hts (.fieldLink RX4 25 "NotEnded$Reader" "place" "I") (List.mem_cons_of_mem _ (List.mem_append_left _ (List.mem_of_getElem? (i := 11) rfl)))) (fun _ h9 => h9) rfl dX4_readTerm_43 ?_
              refine lv_iconst (v := 1) hx hb dX4_readTerm_46 kc_i_1 ?_
              refine lv_iadd hx hb dX4_readTerm_47 ?_
              refine lv_topi (fun y_71 ey_71 => ?_)
              obtain rfl : y_71 = nI (Pn_20 + 1) := ey_71.trans (nI_add (Pn_20) (1))
              refine va_put (D := (dC, dI)) (ci := 4) (v := .int (nI (Pn_20 + 1))) (ty := tyX4 5) (C := RX4) (T := TX4) (N := 8) hx hb hts (fun _ h => List.mem_cons_of_mem _ (List.mem_append_right _ (List.mem_append_right _ (List.mem_append_right _ (List.mem_append_left _ h))))) tyX4 tyX4_ok nmX4 hown hK hP hD hS 0 rfl rfl 5 kc_l_5_8 (hts (.fieldLink RX4 25 "NotEnded$Reader" "place" "I") (List.mem_cons_of_mem _ (List.mem_append_left _ (List.mem_of_getElem? (i := 11) rfl)))) (fun _ h9 => h9) rfl (tyX4_ok 5 kc_l_5_8) rfl rfl (Nat.le_of_ble_eq_true rfl) dX4_readTerm_48 (fun H locs hP hD hS => ?_)
              have hPD : kPD dC dI A [(jR, .inr (4, [.ref jT, .ref r1, .ref r2, .int (nI (xwr)), .int (nI (fi)), .int (nI (Pn_20 + 1)), .ref q6, .ref q7])), (r1, .inl (c1, 120, .inl xs1)), (r2, .inl (c2, 124, .inl s2)), (jT, .inr (8, [.ref t0, .int (nI (kt))])), (t0, .inl (cC, 120, .inl gT))] H := ⟨hP, hD⟩
              have hP := hPD.1
              have hD := hPD.2
              refine lv_aload_n hx hb dX4_readTerm_51 rfl (lv_at hl 2 rfl) ?_
              refine lv_iload_n hx hb dX4_readTerm_52 rfl (lv_at hl 3 rfl) ?_
              have bd_72 : (Pn_20 + 1) ≤ kt := by omega
              have bd_73 : xwr ≤ (Pn_20 + 1) := by omega
              have hCu := kCut (wc := [(jR, .inr (4, [.ref jT, .ref r1, .ref r2, .int (nI (xwr)), .int (nI (fi)), .int (nI (Pn_20 + 1)), .ref q6, .ref q7])), (r1, .inl (c1, 120, .inl xs1)), (r2, .inl (c2, 124, .inl s2)), (jT, .inr (8, [.ref t0, .int (nI (kt))])), (t0, .inl (cC, 120, .inl gT))]) hP hD hS hA [0, 1, 2, 3, 4] rfl kc_nd_311 rfl
              have hPc := hCu.1
              have hDc := hCu.2.1
              have hFc := hCu.2.2
              have hKc := hK.sb (tys2 := [(c1, .int), (c2, .int), (cC, .char)]) [0, 1, 2] rfl
              refine va_calli (va_runV (As := [.int (nI (dd))]) (rest := []) ⟨hx, hb, hml, hown, hts⟩ (s_atom4x_g l dC dI jT t0 cC gT kt hkt hgT bt hbt hb8 jR r1 r2 c1 c2 xs1 s2 xwr fi q6 q7 bd_17 hfi (Pn_20 + 1) bd_72 bd_73 b6 n6 g6 hn6 b7 n7 g7 hn7 gn6 hz6 gn7 hz7 e1 dd bd_1 ih H.size) (cwV 1 hts (kG (List.forall_mem_cons.mpr ⟨(List.mem_cons_of_mem _ (List.mem_append_left _ (List.mem_of_getElem? (i := 24) rfl))), (List.forall_mem_cons.mpr ⟨(List.mem_cons_of_mem _ (List.mem_append_left _ (List.mem_of_getElem? (i := 23) rfl))), (List.forall_mem_cons.mpr ⟨(List.mem_cons_of_mem _ (List.mem_append_left _ (List.mem_of_getElem? (i := 22) rfl))), (List.forall_mem_cons.mpr ⟨(List.mem_cons_of_mem _ (List.mem_append_left _ (List.mem_of_getElem? (i := 0) rfl))), (fun _ h => absurd h List.not_mem_nil)⟩)⟩)⟩)⟩) (kGV _ _ _ _) (kFam (List.mem_cons_of_mem _ (List.mem_append_left _ (List.mem_of_getElem? (i := 21) rfl)))) gw_s_atom4x_g) rfl rfl rfl ⟨rfl, hd_X4_readAtom⟩ ⟨(show (6 + 6 * (e1 + 1)) + 1 ≤ (7 + 6 * (e1 + 1)) from by omega), (show 8 + (4 + 11) + 60 * (6 + 6 * (e1 + 1)) ≤ 60 * (7 + 6 * (e1 + 1)) from by omega)⟩) (kW_V kS2_blind (kS2_give hX hS hFc) (va_recv hKc hPc (ci := 4) (q0 := 0) rfl rfl) hPc hKc hDc) rfl rfl hl.1 rfl (lv_room (Nat.le_of_ble_eq_true rfl)) dX4_readTerm_53 ⟨(Nat.le_of_ble_eq_true rfl), (Nat.le_of_ble_eq_true rfl)⟩) hS (fun q _ h => hFc q h) hFc (fun r_74 => kU5 (fun S1_75 Wr_76 Pn_77 xo_78 xl_79 t H_80 locs ht hvm hw hB hz1 hk1 hS => ?_))
              try dsimp only at hw
              have hPD : kPD dC dI A [(jR, .inr (4, [.ref jT, .ref r1, .ref r2, .int (nI (Wr_76)), .int (nI (fi)), .int (nI (Pn_77)), .ref q6, .ref q7])), (r1, .inl (c1, 120, .inl S1_75)), (r2, .inl (c2, 124, .inl s2)), (jT, .inr (8, [.ref t0, .int (nI (kt))])), (t0, .inl (cC, 120, .inl gT))] H_80 := kJoinX hP hD [0, 1, 2, 3, 4] rfl hk1 hFc hB.1 ht hB.2.2 rfl [some 0, some 1, some 2, some 3, some 4] rfl rfl
              have hP := hPD.1
              have hD := hPD.2
              have hw_81 := hw
              refine lv_if_eq (tgt := 71) hx hb dX4_readTerm_56 kc_t_56_15 (fun c_82 => ?_) (fun c_82 => ?_)
              · obtain rfl : xo_78 = false := kBo_f (kZr9 hw_81.1 c_82)
                have hw_81_k := hw_81.2.1.2.1
                refine lv_iconst (v := 0) hx hb dX4_readTerm_71 kc_i_0 ?_
                have hP9 := hP
                have hD9 := hD
                have hK9 := hK
                rw [hQ]
                exact W.zret (v := 0) hx hb hr rfl (fun t ht hW => ⟨⟨0, (S1_75, Wr_76, Pn_77, false, ([])), rfl, ⟨rfl, kPR_f (by rw [← ivk_11_3, show 120 - i = (119 - i) + 1 by omega]; exact kLoop_f (by rw [← hw_23_0]; omega) (by rw [← hw_23_1]; exact hw_81.2.1.1)) (by omega), by omega⟩,  by rw [ht]; exact hP9, va_K.moved hW.alike hK9, hD9⟩, hS.F ht⟩) hS.2.2 dX4_readTerm_72
              · obtain rfl : xo_78 = true := kBo_t (kNz9 hw_81.1 c_82)
                obtain ⟨hw_81_W, hw_81_S, hw_81_l, hw_81_p⟩ := hw_81.2.1.2.2 rfl
                have hw_81_k := hw_81.2.1.2.1
                refine lv_aload_n hx hb dX4_readTerm_59 rfl (lv_at hl 2 rfl) ?_
                refine lv_sipush (v := 20000) hx hb dX4_readTerm_60 kc_s_20000 ?_
                refine lv_iload_n hx hb dX4_readTerm_63 rfl (lv_at hl 0 rfl) ?_
                refine lv_iadd hx hb dX4_readTerm_64 ?_
                refine lv_topi (fun y_83 ey_83 => ?_)
                obtain rfl : y_83 = nI (20000 + ch_21) := ey_83.trans (nI_add (20000) (ch_21))
                have bd_84 : Wr_76 ≤ 120 := by omega
                have bd_85 : Pn_77 ≤ kt := by omega
                have bd_86 : Wr_76 < 120 := by omega
                have hCu := kCut (wc := [(jR, .inr (4, [.ref jT, .ref r1, .ref r2, .int (nI (Wr_76)), .int (nI (fi)), .int (nI (Pn_77)), .ref q6, .ref q7])), (r1, .inl (c1, 120, .inl S1_75)), (r2, .inl (c2, 124, .inl s2)), (jT, .inr (8, [.ref t0, .int (nI (kt))])), (t0, .inl (cC, 120, .inl gT))]) hP hD hS hA [0, 1, 2, 3, 4] rfl kc_nd_311 rfl
                have hPc := hCu.1
                have hDc := hCu.2.1
                have hFc := hCu.2.2
                have hKc := hK.sb (tys2 := [(c1, .int), (c2, .int), (cC, .char)]) [0, 1, 2] rfl
                refine va_calli (va_runV (As := [.int (nI (20000 + ch_21))]) (rest := []) ⟨hx, hb, hml, hown, hts⟩ (s_write4x l dC dI jT t0 cC gT kt hkt hgT bt hbt hb8 jR r1 r2 c1 c2 S1_75 s2 Wr_76 fi q6 q7 bd_84 hfi Pn_77 bd_85 (nI (20000 + ch_21)) bd_86 H_80.size) (cwV 1 hts (kG (List.forall_mem_cons.mpr ⟨(List.mem_cons_of_mem _ (List.mem_append_left _ (List.mem_of_getElem? (i := 14) rfl))), (List.forall_mem_cons.mpr ⟨(List.mem_cons_of_mem _ (List.mem_append_left _ (List.mem_of_getElem? (i := 13) rfl))), (List.forall_mem_cons.mpr ⟨(List.mem_cons_of_mem _ (List.mem_append_left _ (List.mem_of_getElem? (i := 12) rfl))), (List.forall_mem_cons.mpr ⟨(List.mem_cons_of_mem _ (List.mem_append_left _ (List.mem_of_getElem? (i := 0) rfl))), (fun _ h => absurd h List.not_mem_nil)⟩)⟩)⟩)⟩) (kGV _ _ _ _) (fun _ h => List.mem_cons_of_mem _ (List.mem_append_right _ (List.mem_append_right _ (List.mem_append_right _ (List.mem_append_right _ (List.mem_append_right _ (List.mem_append_left _ h))))))) gw_s_write4x) rfl rfl rfl ⟨rfl, hd_X4_write⟩ ⟨(show 1 + 1 ≤ (7 + 6 * (e1 + 1)) from by omega), (show 8 + (2 + 11) + 60 * 1 ≤ 60 * (7 + 6 * (e1 + 1)) from by omega)⟩) (kW_V kT_blind kT_give (va_recv hKc hPc (ci := 4) (q0 := 0) rfl rfl) hPc hKc hDc) rfl rfl hl.1 rfl (lv_room (Nat.le_of_ble_eq_true rfl)) dX4_readTerm_65 ⟨(Nat.le_of_ble_eq_true rfl), (Nat.le_of_ble_eq_true rfl)⟩) hS (fun q _ h => hFc q h) hFc (fun r_87 => kU2 (fun S1_88 Wr_89 t H_90 locs ht hvm hw hB hz1 hk1 hS => ?_))
                try dsimp only at hw
                have hPD : kPD dC dI A [(jR, .inr (4, [.ref jT, .ref r1, .ref r2, .int (nI (Wr_89)), .int (nI (fi)), .int (nI (Pn_77)), .ref q6, .ref q7])), (r1, .inl (c1, 120, .inl S1_88)), (r2, .inl (c2, 124, .inl s2)), (jT, .inr (8, [.ref t0, .int (nI (kt))])), (t0, .inl (cC, 120, .inl gT))] H_90 := kJoinX hP hD [0, 1, 2, 3, 4] rfl hk1 hFc hB.1 ht hB.2.2 rfl [some 0, some 1, some 2, some 3, some 4] rfl rfl
                have hP := hPD.1
                have hD := hPD.2
                obtain ⟨rfl, hw_91⟩ := hw
                refine lv_if_ne (tgt := 73) hx hb dX4_readTerm_68 kc_t_68_5 (fun c_92 => ?_) (fun c_92 => absurd c_92 (by decide))
                refine lv_iinc (v := nI (i + 1)) hx hb dX4_readTerm_73 hl (k := 1) rfl (kInc _ 1) kc_l_2_4 (kTo [(2, .int (nI (i + 1))), (3, .int (nI (ch_21))), (0, .ref jR), (1, .int (nI (dd)))]) (fun ls hl => ?_)
                refine lv_goto (tgt := 12) hx hb dX4_readTerm_76 kc_t_76_m64 ?_
                exact ih_k_11 (i + 1) S1_88 Pn_77 Wr_89 (xl ++ xl_79 ++ [nI (20000 + ch_21)]) (by omega) (by omega) (by omega) (by have e9 := kLoop_t (b := bt) (n := kt) (c1 := 42) (c2 := 47) (a := kAtomD bt kt g7 n7 (e1 + 1)) (f := 120 - (i + 1)) (p := xpn) (l := xl) (by rw [← hw_23_0]; omega) (by rw [← hw_23_1]; exact hw_81.2.1.1); rw [← hw_23_0] at e9; rw [← e9, show (120 - (i + 1)) + 1 = 120 - i by omega]; exact ivk_11_3) (by simp only [List.length_append, List.length_cons, List.length_nil]; omega) (kWrt3 ivk_11_5 ivk_11_4 hw_81_S hw_81_W hw_91.2) (by simp only [List.length_append, List.length_cons, List.length_nil]; omega) (by omega) _ _ hP hD hS ls (lv_sub hl [0, 2, 3] rfl) (by omega)
    exact lp_k_11 (120 - 0 + 1) 0 S1_3 Pn_5 Wr_4 xl_7 (by omega) (by omega) (by omega) (kMany_t hw_9.2.1.1).symm hw_9_W hw_9_S hw_9_l hw_9_p _ _ hP hD hS ls (lv_sub hl [0, 1, 2] rfl) (by omega)
  · obtain rfl : xo_6 = false := kBo_f (kZr9 hw_9.1 c_10)
    have hw_9_k := hw_9.2.1.2.1
    refine lv_iconst (v := 0) hx hb dX4_readTerm_8 kc_i_0 ?_
    have hP9 := hP
    have hD9 := hD
    have hK9 := hK
    rw [hQ]
    exact W.zret (v := 0) hx hb hr rfl (fun t ht hW => ⟨⟨0, (S1_3, Wr_4, Pn_5, false, ([])), rfl, ⟨rfl, kPR_f (kMany_f hw_9.2.1.1) (by omega), by omega⟩,  by rw [ht]; exact hP9, va_K.moved hW.alike hK9, hD9⟩, hS.F ht⟩) hS.2.2 dX4_readTerm_9

def w_s_sum4x_g : List Cond := .code yX4_readSum cX4_readSum 4 (some .boolean) :: wf_rq
theorem gw_s_sum4x_g : (w_s_sum4x_g).all goodWord = true := kFamG rfl gf_rq
set_option maxHeartbeats 4000000 in
set_option maxRecDepth 100000 in
theorem s_sum4x_g (l : Launch) (dC : Nat → ClassId) (dI : Nat → Nat → Nat) (jT : Nat) (t0 : Nat) (cC : ClassId) (gT : Nat → Int32) (kt : Nat) (hkt : kt ≤ 120) (hgT : ∀ j : Nat, narrow .char (.int (gT j)) = .int (gT j)) (bt : Nat → Nat) (hbt : ∀ j : Nat, gT j = nI (bt j)) (hb8 : ∀ j : Nat, bt j < 256) (jR : Nat) (r1 : Nat) (r2 : Nat) (c1 : ClassId) (c2 : ClassId) (s1 : Nat → Int32) (s2 : Nat → Int32) (wr : Nat) (fi : Nat) (q6 : Nat) (q7 : Nat) (hwr : wr ≤ 120) (hfi : fi ≤ 124) (pn : Nat) (hpn : pn ≤ kt) (hwp : wr ≤ pn) (b6 : Nat) (n6 : Nat) (g6 : Nat → Int32) (hn6 : n6 ≤ 8) (b7 : Nat) (n7 : Nat) (g7 : Nat → Int32) (hn7 : n7 ≤ 8) (gn6 : ∀ k : Nat, ∃ v : Nat, v < 128 ∧ g6 k = nI v) (hz6 : kIx g6 n6 (nI 0) = n6) (gn7 : ∀ k : Nat, ∃ v : Nat, v < 128 ∧ g7 k = nI v) (hz7 : kIx g7 n7 (nI 0) = n7) (e1 : Nat) (dd : Nat) (hdd : dd + e1 = 5) (ih : kIHq e1) (sz : Nat) : Met l yX4_readSum w_s_sum4x_g ({ frames := (8 + 6 * (e1 + 1)), cells := 0, slots := 0, locals := 60 * (8 + 6 * (e1 + 1)) }) (kW dC dI [.ref jR, .int (nI (dd))] [(jR, .inr (4, [.ref jT, .ref r1, .ref r2, .int (nI (wr)), .int (nI (fi)), .int (nI (pn)), .ref q6, .ref q7])), (r1, .inl (c1, 120, .inl s1)), (r2, .inl (c2, 124, .inl s2)), (jT, .inr (8, [.ref t0, .int (nI (kt))])), (t0, .inl (cC, 120, .inl gT))] [(c1, .int), (c2, .int), (cC, .char)] (kS2 q6 b6 n6 g6 q7 b7 n7 g7 (va_A [(jR, .inr (4, [.ref jT, .ref r1, .ref r2, .int (nI (wr)), .int (nI (fi)), .int (nI (pn)), .ref q6, .ref q7])), (r1, .inl (c1, 120, .inl s1)), (r2, .inl (c2, 124, .inl s2)), (jT, .inr (8, [.ref t0, .int (nI (kt))])), (t0, .inl (cC, 120, .inl gT))] sz)) sz) (va_Qi (fun (r : Int32) (u : (Nat → Int32) × Nat × Nat × Bool × (List Int32)) => match u with | (S1, Wr, Pn, xo, xl) => (r = kBo xo ∧ kPR (kSumD bt kt g7 n7 (e1 + 1) pn) pn kt wr s1 xo Pn xl Wr S1 ∧ Wr ≤ 120)) (fun (u : (Nat → Int32) × Nat × Nat × Bool × (List Int32)) => match u with | (S1, Wr, Pn, xo, xl) => fun t : State => kB dC dI [(jR, .inr (4, [.ref jT, .ref r1, .ref r2, .int (nI (Wr)), .int (nI (fi)), .int (nI (Pn)), .ref q6, .ref q7])), (r1, .inl (c1, 120, .inl S1)), (r2, .inl (c2, 124, .inl s2)), (jT, .inr (8, [.ref t0, .int (nI (kt))])), (t0, .inl (cC, 120, .inl gT))] [(c1, .int), (c2, .int), (cC, .char)] (va_A [(jR, .inr (4, [.ref jT, .ref r1, .ref r2, .int (nI (wr)), .int (nI (fi)), .int (nI (pn)), .ref q6, .ref q7])), (r1, .inl (c1, 120, .inl s1)), (r2, .inl (c2, 124, .inl s2)), (jT, .inr (8, [.ref t0, .int (nI (kt))])), (t0, .inl (cC, 120, .inl gT))] sz) t) (va_A [(jR, .inr (4, [.ref jT, .ref r1, .ref r2, .int (nI (wr)), .int (nI (fi)), .int (nI (pn)), .ref q6, .ref q7])), (r1, .inl (c1, 120, .inl s1)), (r2, .inl (c2, 124, .inl s2)), (jT, .inr (8, [.ref t0, .int (nI (kt))])), (t0, .inl (cC, 120, .inl gT))] sz)) 0 0 (va_A [(jR, .inr (4, [.ref jT, .ref r1, .ref r2, .int (nI (wr)), .int (nI (fi)), .int (nI (pn)), .ref q6, .ref q7])), (r1, .inl (c1, 120, .inl s1)), (r2, .inl (c2, 124, .inl s2)), (jT, .inr (8, [.ref t0, .int (nI (kt))])), (t0, .inl (cC, 120, .inl gT))] sz) := by
  refine Met.ofW (cc := cX4_readSum) (maxL := 4) (ret := (some .boolean)) (by decide) rfl ?_
  intro p e s m args below meth c s₁ B hml hv
  obtain ⟨rfl, hsz, hP, hK, hD0, hX⟩ := hv
  have hx := B.exec
  have hb := B.bytes
  have hr := B.returns
  have hts := atoms_spec (ws := w_s_sum4x_g) B.pre
  have hown : s.vm.findClass RX4 = some m.cls := findClass_of_methodNamed B.named
  have hlocks := B.notSynchronized
  subst hsz
  have hD := hD0.self (sz := s.heap.size)
  generalize hAe : va_A [(jR, .inr (4, [.ref jT, .ref r1, .ref r2, .int (nI (wr)), .int (nI (fi)), .int (nI (pn)), .ref q6, .ref q7])), (r1, .inl (c1, 120, .inl s1)), (r2, .inl (c2, 124, .inl s2)), (jT, .inr (8, [.ref t0, .int (nI (kt))])), (t0, .inl (cC, 120, .inl gT))] s.heap.size = A at hD hX ⊢
  have hA : ∀ q : Nat, s.heap.size ≤ q → A q := fun q h => by rw [← hAe]; exact Or.inr h
  have hS : va_S A s.heap s.heap [] := va_S.rf
  have hP : va_P (dC, dI) vwCl [(jR, .inr (4, [.ref jT, .ref r1, .ref r2, .int (nI (wr)), .int (nI (fi)), .int (nI (pn)), .ref q6, .ref q7])), (r1, .inl (c1, 120, .inl s1)), (r2, .inl (c2, 124, .inl s2)), (jT, .inr (8, [.ref t0, .int (nI (kt))])), (t0, .inl (cC, 120, .inl gT))] s.heap := hP
  have hl := lv_entry ([.ref jR, .int (nI (dd))]) (n := 4) (Nat.le_of_ble_eq_true rfl)
  rw [lg_entry_eq]
  generalize (lg_sl ([.ref jR, .int (nI (dd))]) ++ List.replicate (4 - (lg_sl ([.ref jR, .int (nI (dd))])).length) Slot.unset).toArray = ls at hl ⊢
  have hl : lv_has ls 4 [(0, .ref jR), (1, .int (nI (dd)))] := hl
  refine kQ (fun Q hQ => ?_)
  refine lv_aload_n hx hb dX4_readSum_0 rfl (lv_at hl 0 rfl) ?_
  refine lv_iload_n hx hb dX4_readSum_1 rfl (lv_at hl 1 rfl) ?_
  have bd_1 : dd + e1 = 5 := by omega
  have hCu := kCut (wc := [(jR, .inr (4, [.ref jT, .ref r1, .ref r2, .int (nI (wr)), .int (nI (fi)), .int (nI (pn)), .ref q6, .ref q7])), (r1, .inl (c1, 120, .inl s1)), (r2, .inl (c2, 124, .inl s2)), (jT, .inr (8, [.ref t0, .int (nI (kt))])), (t0, .inl (cC, 120, .inl gT))]) hP hD hS hA [0, 1, 2, 3, 4] rfl kc_nd_311 rfl
  have hPc := hCu.1
  have hDc := hCu.2.1
  have hFc := hCu.2.2
  have hKc := hK.sb (tys2 := [(c1, .int), (c2, .int), (cC, .char)]) [0, 1, 2] rfl
  refine va_calli (va_runV (As := [.int (nI (dd))]) (rest := []) ⟨hx, hb, hml, hown, hts⟩ (s_term4x_g l dC dI jT t0 cC gT kt hkt hgT bt hbt hb8 jR r1 r2 c1 c2 s1 s2 wr fi q6 q7 hwr hfi pn hpn hwp b6 n6 g6 hn6 b7 n7 g7 hn7 gn6 hz6 gn7 hz7 e1 dd bd_1 ih s.heap.size) (cwV 1 hts (kG (List.forall_mem_cons.mpr ⟨(List.mem_cons_of_mem _ (List.mem_append_left _ (List.mem_of_getElem? (i := 28) rfl))), (List.forall_mem_cons.mpr ⟨(List.mem_cons_of_mem _ (List.mem_append_left _ (List.mem_of_getElem? (i := 27) rfl))), (List.forall_mem_cons.mpr ⟨(List.mem_cons_of_mem _ (List.mem_append_left _ (List.mem_of_getElem? (i := 26) rfl))), (List.forall_mem_cons.mpr ⟨(List.mem_cons_of_mem _ (List.mem_append_left _ (List.mem_of_getElem? (i := 0) rfl))), (fun _ h => absurd h List.not_mem_nil)⟩)⟩)⟩)⟩) (kGV _ _ _ _) (kFam (List.mem_cons_of_mem _ (List.mem_append_left _ (List.mem_of_getElem? (i := 25) rfl)))) gw_s_term4x_g) rfl rfl rfl ⟨rfl, hd_X4_readTerm⟩ ⟨(show (7 + 6 * (e1 + 1)) + 1 ≤ (8 + 6 * (e1 + 1)) from by omega), (show 8 + (4 + 11) + 60 * (7 + 6 * (e1 + 1)) ≤ 60 * (8 + 6 * (e1 + 1)) from by omega)⟩) (kW_V kS2_blind (kS2_give hX hS hFc) (va_recv hKc hPc (ci := 4) (q0 := 0) rfl rfl) hPc hKc hDc) rfl rfl hl.1 rfl (lv_room (Nat.le_of_ble_eq_true rfl)) dX4_readSum_2 ⟨(Nat.le_of_ble_eq_true rfl), (Nat.le_of_ble_eq_true rfl)⟩) hS (fun q _ h => hFc q h) hFc (fun r_2 => kU5 (fun S1_3 Wr_4 Pn_5 xo_6 xl_7 t H_8 locs ht hvm hw hB hz1 hk1 hS => ?_))
  try dsimp only at hw
  have hPD : kPD dC dI A [(jR, .inr (4, [.ref jT, .ref r1, .ref r2, .int (nI (Wr_4)), .int (nI (fi)), .int (nI (Pn_5)), .ref q6, .ref q7])), (r1, .inl (c1, 120, .inl S1_3)), (r2, .inl (c2, 124, .inl s2)), (jT, .inr (8, [.ref t0, .int (nI (kt))])), (t0, .inl (cC, 120, .inl gT))] H_8 := kJoinX hP hD [0, 1, 2, 3, 4] rfl hk1 hFc hB.1 ht hB.2.2 rfl [some 0, some 1, some 2, some 3, some 4] rfl rfl
  have hP := hPD.1
  have hD := hPD.2
  have hw_9 := hw
  refine lv_if_ne (tgt := 10) hx hb dX4_readSum_5 kc_t_5_5 (fun c_10 => ?_) (fun c_10 => ?_)
  · obtain rfl : xo_6 = true := kBo_t (kNz9 hw_9.1 c_10)
    obtain ⟨hw_9_W, hw_9_S, hw_9_l, hw_9_p⟩ := hw_9.2.1.2.2 rfl
    have hw_9_k := hw_9.2.1.2.1
    refine lv_iconst (v := 0) hx hb dX4_readSum_10 kc_i_0 ?_
    refine lv_istore_n hx hb dX4_readSum_11 rfl hl kc_l_2_4 (kTo [(2, .int 0), (0, .ref jR), (1, .int (nI (dd)))]) (fun ls hl => ?_)
    have lp_k_11 : ∀ (n9 : Nat) (i : Nat) (xs1 : Nat → Int32) (xpn : Nat) (xwr : Nat) (xl : List Int32) (ivk_11_0 : i ≤ 120) (ivk_11_1 : xwr ≤ 120) (ivk_11_2 : xpn ≤ kt) (ivk_11_3 : kLoop bt kt 43 45 (kTermD bt kt g7 n7 (e1 + 1)) (120 - i) xpn xl = kSumD bt kt g7 n7 (e1 + 1) pn) (ivk_11_4 : xwr = wr + xl.length) (ivk_11_5 : xs1 = kWrt s1 wr xl) (ivk_11_6 : pn + xl.length ≤ xpn) (ivk_11_7 : pn < xpn) (H : Heap) (locs : List Loc) (_ : va_P (dC, dI) vwCl [(jR, .inr (4, [.ref jT, .ref r1, .ref r2, .int (nI (xwr)), .int (nI (fi)), .int (nI (xpn)), .ref q6, .ref q7])), (r1, .inl (c1, 120, .inl xs1)), (r2, .inl (c2, 124, .inl s2)), (jT, .inr (8, [.ref t0, .int (nI (kt))])), (t0, .inl (cC, 120, .inl gT))] H) (_ : va_D A [(jR, .inr (4, [.ref jT, .ref r1, .ref r2, .int (nI (xwr)), .int (nI (fi)), .int (nI (xpn)), .ref q6, .ref q7])), (r1, .inl (c1, 120, .inl xs1)), (r2, .inl (c2, 124, .inl s2)), (jT, .inr (8, [.ref t0, .int (nI (kt))])), (t0, .inl (cC, 120, .inl gT))]) (_ : va_S A s.heap H locs) (ls : Array Slot) (_ : lv_has ls 4 [(2, .int (nI (i))), (0, .ref jR), (1, .int (nI (dd)))]) (_ : 120 - i < n9), W p l e (headSpec w_s_sum4x_g ({ frames := (8 + 6 * (e1 + 1)), cells := 0, slots := 0, locals := 60 * (8 + 6 * (e1 + 1)) })).room s m (#[.ref jR, .int (nI (dd))] : Array Value) below meth c H locs 0 0 Q (F0 m 12 ls []) := by
      intro n9
      induction n9 with
      | zero => intro i xs1 xpn xwr xl ivk_11_0 ivk_11_1 ivk_11_2 ivk_11_3 ivk_11_4 ivk_11_5 ivk_11_6 ivk_11_7 H locs hP hD hS ls hl hm9; exact absurd hm9 (Nat.not_lt_zero _)
      | succ n9 ih_k_11 =>
        intro i xs1 xpn xwr xl ivk_11_0 ivk_11_1 ivk_11_2 ivk_11_3 ivk_11_4 ivk_11_5 ivk_11_6 ivk_11_7 H locs hP hD hS ls hl hm9
        refine lv_iload_n hx hb dX4_readSum_12 rfl (lv_at hl 0 rfl) ?_
        refine lv_bipush (v := 120) hx hb dX4_readSum_13 kc_b_120 ?_
        refine lv_icmp_ge (tgt := 79) hx hb dX4_readSum_15 kc_t_15_64 (fun c_12 => ?_) (fun c_12 => ?_)
        · have bd_14 : i < 2147483648 := by omega
          have hn_13 := kle (a := 120) (b := i) kc_31_120 bd_14 c_12
          refine lv_iconst (v := 1) hx hb dX4_readSum_79 kc_i_1 ?_
          have hP9 := hP
          have hD9 := hD
          have hK9 := hK
          rw [hQ]
          exact W.zret (v := 1) hx hb hr rfl (fun t ht hW => ⟨⟨1, (xs1, xwr, xpn, true, xl), rfl, ⟨rfl, kPR_t (a := kSumD bt kt g7 n7 (e1 + 1)) rfl (kSumD_good hz7 (e1 + 1)) (by omega) (by rw [← ivk_11_3, show 120 - i = 0 by omega]; rfl) ivk_11_4 ivk_11_5, by omega⟩,  by rw [ht]; exact hP9, va_K.moved hW.alike hK9, hD9⟩, hS.F ht⟩) hS.2.2 dX4_readSum_80
        · have bd_16 : i < 2147483648 := by omega
          have hn_15 := knle (a := 120) (b := i) kc_31_120 bd_16 c_12
          refine lv_aload_n hx hb dX4_readSum_18 rfl (lv_at hl 1 rfl) ?_
          have bd_17 : xwr ≤ 120 := by omega
          have bd_18 : xpn ≤ kt := by omega
          have hCu := kCut (wc := [(jR, .inr (4, [.ref jT, .ref r1, .ref r2, .int (nI (xwr)), .int (nI (fi)), .int (nI (xpn)), .ref q6, .ref q7])), (r1, .inl (c1, 120, .inl xs1)), (r2, .inl (c2, 124, .inl s2)), (jT, .inr (8, [.ref t0, .int (nI (kt))])), (t0, .inl (cC, 120, .inl gT))]) hP hD hS hA [0, 1, 2, 3, 4] rfl kc_nd_311 rfl
          have hPc := hCu.1
          have hDc := hCu.2.1
          have hFc := hCu.2.2
          have hKc := hK.sb (tys2 := [(c1, .int), (c2, .int), (cC, .char)]) [0, 1, 2] rfl
          refine va_calli (va_runV (As := []) (rest := []) ⟨hx, hb, hml, hown, hts⟩ (s_look4x l dC dI jT t0 cC gT kt hkt hgT bt hbt hb8 jR r1 r2 c1 c2 xs1 s2 xwr fi q6 q7 bd_17 hfi xpn bd_18 H.size) (cwV 0 hts (kG (List.forall_mem_cons.mpr ⟨(List.mem_cons_of_mem _ (List.mem_append_left _ (List.mem_of_getElem? (i := 3) rfl))), (List.forall_mem_cons.mpr ⟨(List.mem_cons_of_mem _ (List.mem_append_left _ (List.mem_of_getElem? (i := 2) rfl))), (List.forall_mem_cons.mpr ⟨(List.mem_cons_of_mem _ (List.mem_append_left _ (List.mem_of_getElem? (i := 1) rfl))), (List.forall_mem_cons.mpr ⟨(List.mem_cons_of_mem _ (List.mem_append_left _ (List.mem_of_getElem? (i := 0) rfl))), (fun _ h => absurd h List.not_mem_nil)⟩)⟩)⟩)⟩) (kGV _ _ _ _) (fun _ h => List.mem_cons_of_mem _ (List.mem_append_right _ (List.mem_append_left _ h))) gw_s_look4x) rfl rfl rfl ⟨rfl, hd_X4_look⟩ ⟨(show 2 + 1 ≤ (8 + 6 * (e1 + 1)) from by omega), (show 8 + (2 + 11) + 60 * 2 ≤ 60 * (8 + 6 * (e1 + 1)) from by omega)⟩) (kW_V kT_blind kT_give (va_recv hKc hPc (ci := 4) (q0 := 0) rfl rfl) hPc hKc hDc) rfl rfl hl.1 rfl (lv_room (Nat.le_of_ble_eq_true rfl)) dX4_readSum_19 ⟨(Nat.le_of_ble_eq_true rfl), (Nat.le_of_ble_eq_true rfl)⟩) hS (fun q _ h => hFc q h) hFc (fun r_19 => kU2 (fun Pn_20 ch_21 t H_22 locs ht hvm hw hB hz1 hk1 hS => ?_))
          try dsimp only at hw
          have hPD : kPD dC dI A [(jR, .inr (4, [.ref jT, .ref r1, .ref r2, .int (nI (xwr)), .int (nI (fi)), .int (nI (Pn_20)), .ref q6, .ref q7])), (r1, .inl (c1, 120, .inl xs1)), (r2, .inl (c2, 124, .inl s2)), (jT, .inr (8, [.ref t0, .int (nI (kt))])), (t0, .inl (cC, 120, .inl gT))] H_22 := kJoinX hP hD [0, 1, 2, 3, 4] rfl hk1 hFc hB.1 ht hB.2.2 rfl [some 0, some 1, some 2, some 3, some 4] rfl rfl
          have hP := hPD.1
          have hD := hPD.2
          obtain ⟨rfl, hw_23_0, hw_23_1, hw_23_2, hw_23_3, hw_23_4, hw_23_5, hw_23_6⟩ := hw
          refine lv_bipush (v := 43) hx hb dX4_readSum_22 kc_b_43 ?_
          refine lv_icmp_eq (tgt := 36) hx hb dX4_readSum_24 kc_t_24_12 (fun c_24 => ?_) (fun c_24 => ?_)
          · have bd_26 : ch_21 < 2147483648 := by omega
            have hn_25 := keq (a := ch_21) (b := 43) bd_26 kc_31_43 c_24
            refine lv_aload_n hx hb dX4_readSum_36 rfl (lv_at hl 1 rfl) ?_
            have bd_27 : Pn_20 ≤ kt := by omega
            have hCu := kCut (wc := [(jR, .inr (4, [.ref jT, .ref r1, .ref r2, .int (nI (xwr)), .int (nI (fi)), .int (nI (Pn_20)), .ref q6, .ref q7])), (r1, .inl (c1, 120, .inl xs1)), (r2, .inl (c2, 124, .inl s2)), (jT, .inr (8, [.ref t0, .int (nI (kt))])), (t0, .inl (cC, 120, .inl gT))]) hP hD hS hA [0, 1, 2, 3, 4] rfl kc_nd_311 rfl
            have hPc := hCu.1
            have hDc := hCu.2.1
            have hFc := hCu.2.2
            have hKc := hK.sb (tys2 := [(c1, .int), (c2, .int), (cC, .char)]) [0, 1, 2] rfl
            refine va_calli (va_runV (As := []) (rest := []) ⟨hx, hb, hml, hown, hts⟩ (s_look4x l dC dI jT t0 cC gT kt hkt hgT bt hbt hb8 jR r1 r2 c1 c2 xs1 s2 xwr fi q6 q7 bd_17 hfi Pn_20 bd_27 H_22.size) (cwV 0 hts (kG (List.forall_mem_cons.mpr ⟨(List.mem_cons_of_mem _ (List.mem_append_left _ (List.mem_of_getElem? (i := 3) rfl))), (List.forall_mem_cons.mpr ⟨(List.mem_cons_of_mem _ (List.mem_append_left _ (List.mem_of_getElem? (i := 2) rfl))), (List.forall_mem_cons.mpr ⟨(List.mem_cons_of_mem _ (List.mem_append_left _ (List.mem_of_getElem? (i := 1) rfl))), (List.forall_mem_cons.mpr ⟨(List.mem_cons_of_mem _ (List.mem_append_left _ (List.mem_of_getElem? (i := 0) rfl))), (fun _ h => absurd h List.not_mem_nil)⟩)⟩)⟩)⟩) (kGV _ _ _ _) (fun _ h => List.mem_cons_of_mem _ (List.mem_append_right _ (List.mem_append_left _ h))) gw_s_look4x) rfl rfl rfl ⟨rfl, hd_X4_look⟩ ⟨(show 2 + 1 ≤ (8 + 6 * (e1 + 1)) from by omega), (show 8 + (2 + 11) + 60 * 2 ≤ 60 * (8 + 6 * (e1 + 1)) from by omega)⟩) (kW_V kT_blind kT_give (va_recv hKc hPc (ci := 4) (q0 := 0) rfl rfl) hPc hKc hDc) rfl rfl hl.1 rfl (lv_room (Nat.le_of_ble_eq_true rfl)) dX4_readSum_37 ⟨(Nat.le_of_ble_eq_true rfl), (Nat.le_of_ble_eq_true rfl)⟩) hS (fun q _ h => hFc q h) hFc (fun r_28 => kU2 (fun Pn_29 ch_30 t H_31 locs ht hvm hw hB hz1 hk1 hS => ?_))
            try dsimp only at hw
            have hPD : kPD dC dI A [(jR, .inr (4, [.ref jT, .ref r1, .ref r2, .int (nI (xwr)), .int (nI (fi)), .int (nI (Pn_29)), .ref q6, .ref q7])), (r1, .inl (c1, 120, .inl xs1)), (r2, .inl (c2, 124, .inl s2)), (jT, .inr (8, [.ref t0, .int (nI (kt))])), (t0, .inl (cC, 120, .inl gT))] H_31 := kJoinX hP hD [0, 1, 2, 3, 4] rfl hk1 hFc hB.1 ht hB.2.2 rfl [some 0, some 1, some 2, some 3, some 4] rfl rfl
            have hP := hPD.1
            have hD := hPD.2
            obtain ⟨rfl, hw_32_0, hw_32_1, hw_32_2, hw_32_3, hw_32_4, hw_32_5, hw_32_6⟩ := hw
            have e9 : Pn_20 = Pn_29 := by rw [hw_32_1, hw_23_1]; exact (kSp_sp (by omega)).symm
            have e8 : ch_21 = ch_30 := by rw [hw_32_0, hw_23_0, hw_23_1]; exact (kLk_sp (by omega)).symm
            subst e9
            subst e8
            refine lv_istore_n hx hb dX4_readSum_40 rfl hl kc_l_3_4 (kTo [(3, .int (nI (ch_21))), (2, .int (nI (i))), (0, .ref jR), (1, .int (nI (dd)))]) (fun ls hl => ?_)
            refine lv_aload_n hx hb dX4_readSum_41 rfl (lv_at hl 2 rfl) ?_
            refine lv_dup hx hb dX4_readSum_42 rfl ?_
            refine va_get (D := (dC, dI)) (ci := 4) (v := .int (nI (Pn_20))) (C := RX4) (T := TX4) (N := 8) hx hb hts (fun _ h => List.mem_cons_of_mem _ (List.mem_append_right _ (List.mem_append_right _ (List.mem_append_right _ (List.mem_append_left _ h))))) hown hK hP 0 rfl rfl 5 kc_l_5_8 (hts (.fieldLink RX4 25 "NotEnded$Reader" "place" "I") (List.mem_cons_of_mem _ (List.mem_append_left _ (List.mem_of_getElem? (i := 11) rfl)))) (fun _ h9 => h9) rfl dX4_readSum_43 ?_
            refine lv_iconst (v := 1) hx hb dX4_readSum_46 kc_i_1 ?_
            refine lv_iadd hx hb dX4_readSum_47 ?_
            refine lv_topi (fun y_33 ey_33 => ?_)
            obtain rfl : y_33 = nI (Pn_20 + 1) := ey_33.trans (nI_add (Pn_20) (1))
            refine va_put (D := (dC, dI)) (ci := 4) (v := .int (nI (Pn_20 + 1))) (ty := tyX4 5) (C := RX4) (T := TX4) (N := 8) hx hb hts (fun _ h => List.mem_cons_of_mem _ (List.mem_append_right _ (List.mem_append_right _ (List.mem_append_right _ (List.mem_append_left _ h))))) tyX4 tyX4_ok nmX4 hown hK hP hD hS 0 rfl rfl 5 kc_l_5_8 (hts (.fieldLink RX4 25 "NotEnded$Reader" "place" "I") (List.mem_cons_of_mem _ (List.mem_append_left _ (List.mem_of_getElem? (i := 11) rfl)))) (fun _ h9 => h9) rfl (tyX4_ok 5 kc_l_5_8) rfl rfl (Nat.le_of_ble_eq_true rfl) dX4_readSum_48 (fun H locs hP hD hS => ?_)
            have hPD : kPD dC dI A [(jR, .inr (4, [.ref jT, .ref r1, .ref r2, .int (nI (xwr)), .int (nI (fi)), .int (nI (Pn_20 + 1)), .ref q6, .ref q7])), (r1, .inl (c1, 120, .inl xs1)), (r2, .inl (c2, 124, .inl s2)), (jT, .inr (8, [.ref t0, .int (nI (kt))])), (t0, .inl (cC, 120, .inl gT))] H := ⟨hP, hD⟩
            have hP := hPD.1
            have hD := hPD.2
            refine lv_aload_n hx hb dX4_readSum_51 rfl (lv_at hl 2 rfl) ?_
            refine lv_iload_n hx hb dX4_readSum_52 rfl (lv_at hl 3 rfl) ?_
            have bd_34 : (Pn_20 + 1) ≤ kt := by omega
            have bd_35 : xwr ≤ (Pn_20 + 1) := by omega
            have hCu := kCut (wc := [(jR, .inr (4, [.ref jT, .ref r1, .ref r2, .int (nI (xwr)), .int (nI (fi)), .int (nI (Pn_20 + 1)), .ref q6, .ref q7])), (r1, .inl (c1, 120, .inl xs1)), (r2, .inl (c2, 124, .inl s2)), (jT, .inr (8, [.ref t0, .int (nI (kt))])), (t0, .inl (cC, 120, .inl gT))]) hP hD hS hA [0, 1, 2, 3, 4] rfl kc_nd_311 rfl
            have hPc := hCu.1
            have hDc := hCu.2.1
            have hFc := hCu.2.2
            have hKc := hK.sb (tys2 := [(c1, .int), (c2, .int), (cC, .char)]) [0, 1, 2] rfl
            refine va_calli (va_runV (As := [.int (nI (dd))]) (rest := []) ⟨hx, hb, hml, hown, hts⟩ (s_term4x_g l dC dI jT t0 cC gT kt hkt hgT bt hbt hb8 jR r1 r2 c1 c2 xs1 s2 xwr fi q6 q7 bd_17 hfi (Pn_20 + 1) bd_34 bd_35 b6 n6 g6 hn6 b7 n7 g7 hn7 gn6 hz6 gn7 hz7 e1 dd bd_1 ih H.size) (cwV 1 hts (kG (List.forall_mem_cons.mpr ⟨(List.mem_cons_of_mem _ (List.mem_append_left _ (List.mem_of_getElem? (i := 28) rfl))), (List.forall_mem_cons.mpr ⟨(List.mem_cons_of_mem _ (List.mem_append_left _ (List.mem_of_getElem? (i := 27) rfl))), (List.forall_mem_cons.mpr ⟨(List.mem_cons_of_mem _ (List.mem_append_left _ (List.mem_of_getElem? (i := 26) rfl))), (List.forall_mem_cons.mpr ⟨(List.mem_cons_of_mem _ (List.mem_append_left _ (List.mem_of_getElem? (i := 0) rfl))), (fun _ h => absurd h List.not_mem_nil)⟩)⟩)⟩)⟩) (kGV _ _ _ _) (kFam (List.mem_cons_of_mem _ (List.mem_append_left _ (List.mem_of_getElem? (i := 25) rfl)))) gw_s_term4x_g) rfl rfl rfl ⟨rfl, hd_X4_readTerm⟩ ⟨(show (7 + 6 * (e1 + 1)) + 1 ≤ (8 + 6 * (e1 + 1)) from by omega), (show 8 + (4 + 11) + 60 * (7 + 6 * (e1 + 1)) ≤ 60 * (8 + 6 * (e1 + 1)) from by omega)⟩) (kW_V kS2_blind (kS2_give hX hS hFc) (va_recv hKc hPc (ci := 4) (q0 := 0) rfl rfl) hPc hKc hDc) rfl rfl hl.1 rfl (lv_room (Nat.le_of_ble_eq_true rfl)) dX4_readSum_53 ⟨(Nat.le_of_ble_eq_true rfl), (Nat.le_of_ble_eq_true rfl)⟩) hS (fun q _ h => hFc q h) hFc (fun r_36 => kU5 (fun S1_37 Wr_38 Pn_39 xo_40 xl_41 t H_42 locs ht hvm hw hB hz1 hk1 hS => ?_))
            try dsimp only at hw
            have hPD : kPD dC dI A [(jR, .inr (4, [.ref jT, .ref r1, .ref r2, .int (nI (Wr_38)), .int (nI (fi)), .int (nI (Pn_39)), .ref q6, .ref q7])), (r1, .inl (c1, 120, .inl S1_37)), (r2, .inl (c2, 124, .inl s2)), (jT, .inr (8, [.ref t0, .int (nI (kt))])), (t0, .inl (cC, 120, .inl gT))] H_42 := kJoinX hP hD [0, 1, 2, 3, 4] rfl hk1 hFc hB.1 ht hB.2.2 rfl [some 0, some 1, some 2, some 3, some 4] rfl rfl
            have hP := hPD.1
            have hD := hPD.2
            have hw_43 := hw
            refine lv_if_eq (tgt := 71) hx hb dX4_readSum_56 kc_t_56_15 (fun c_44 => ?_) (fun c_44 => ?_)
            · obtain rfl : xo_40 = false := kBo_f (kZr9 hw_43.1 c_44)
              have hw_43_k := hw_43.2.1.2.1
              refine lv_iconst (v := 0) hx hb dX4_readSum_71 kc_i_0 ?_
              have hP9 := hP
              have hD9 := hD
              have hK9 := hK
              rw [hQ]
              exact W.zret (v := 0) hx hb hr rfl (fun t ht hW => ⟨⟨0, (S1_37, Wr_38, Pn_39, false, ([])), rfl, ⟨rfl, kPR_f (by rw [← ivk_11_3, show 120 - i = (119 - i) + 1 by omega]; exact kLoop_f (by rw [← hw_23_0]; omega) (by rw [← hw_23_1]; exact hw_43.2.1.1)) (by omega), by omega⟩,  by rw [ht]; exact hP9, va_K.moved hW.alike hK9, hD9⟩, hS.F ht⟩) hS.2.2 dX4_readSum_72
            · obtain rfl : xo_40 = true := kBo_t (kNz9 hw_43.1 c_44)
              obtain ⟨hw_43_W, hw_43_S, hw_43_l, hw_43_p⟩ := hw_43.2.1.2.2 rfl
              have hw_43_k := hw_43.2.1.2.1
              refine lv_aload_n hx hb dX4_readSum_59 rfl (lv_at hl 2 rfl) ?_
              refine lv_sipush (v := 20000) hx hb dX4_readSum_60 kc_s_20000 ?_
              refine lv_iload_n hx hb dX4_readSum_63 rfl (lv_at hl 0 rfl) ?_
              refine lv_iadd hx hb dX4_readSum_64 ?_
              refine lv_topi (fun y_45 ey_45 => ?_)
              obtain rfl : y_45 = nI (20000 + ch_21) := ey_45.trans (nI_add (20000) (ch_21))
              have bd_46 : Wr_38 ≤ 120 := by omega
              have bd_47 : Pn_39 ≤ kt := by omega
              have bd_48 : Wr_38 < 120 := by omega
              have hCu := kCut (wc := [(jR, .inr (4, [.ref jT, .ref r1, .ref r2, .int (nI (Wr_38)), .int (nI (fi)), .int (nI (Pn_39)), .ref q6, .ref q7])), (r1, .inl (c1, 120, .inl S1_37)), (r2, .inl (c2, 124, .inl s2)), (jT, .inr (8, [.ref t0, .int (nI (kt))])), (t0, .inl (cC, 120, .inl gT))]) hP hD hS hA [0, 1, 2, 3, 4] rfl kc_nd_311 rfl
              have hPc := hCu.1
              have hDc := hCu.2.1
              have hFc := hCu.2.2
              have hKc := hK.sb (tys2 := [(c1, .int), (c2, .int), (cC, .char)]) [0, 1, 2] rfl
              refine va_calli (va_runV (As := [.int (nI (20000 + ch_21))]) (rest := []) ⟨hx, hb, hml, hown, hts⟩ (s_write4x l dC dI jT t0 cC gT kt hkt hgT bt hbt hb8 jR r1 r2 c1 c2 S1_37 s2 Wr_38 fi q6 q7 bd_46 hfi Pn_39 bd_47 (nI (20000 + ch_21)) bd_48 H_42.size) (cwV 1 hts (kG (List.forall_mem_cons.mpr ⟨(List.mem_cons_of_mem _ (List.mem_append_left _ (List.mem_of_getElem? (i := 14) rfl))), (List.forall_mem_cons.mpr ⟨(List.mem_cons_of_mem _ (List.mem_append_left _ (List.mem_of_getElem? (i := 13) rfl))), (List.forall_mem_cons.mpr ⟨(List.mem_cons_of_mem _ (List.mem_append_left _ (List.mem_of_getElem? (i := 12) rfl))), (List.forall_mem_cons.mpr ⟨(List.mem_cons_of_mem _ (List.mem_append_left _ (List.mem_of_getElem? (i := 0) rfl))), (fun _ h => absurd h List.not_mem_nil)⟩)⟩)⟩)⟩) (kGV _ _ _ _) (fun _ h => List.mem_cons_of_mem _ (List.mem_append_right _ (List.mem_append_right _ (List.mem_append_right _ (List.mem_append_right _ (List.mem_append_right _ (List.mem_append_left _ h))))))) gw_s_write4x) rfl rfl rfl ⟨rfl, hd_X4_write⟩ ⟨(show 1 + 1 ≤ (8 + 6 * (e1 + 1)) from by omega), (show 8 + (2 + 11) + 60 * 1 ≤ 60 * (8 + 6 * (e1 + 1)) from by omega)⟩) (kW_V kT_blind kT_give (va_recv hKc hPc (ci := 4) (q0 := 0) rfl rfl) hPc hKc hDc) rfl rfl hl.1 rfl (lv_room (Nat.le_of_ble_eq_true rfl)) dX4_readSum_65 ⟨(Nat.le_of_ble_eq_true rfl), (Nat.le_of_ble_eq_true rfl)⟩) hS (fun q _ h => hFc q h) hFc (fun r_49 => kU2 (fun S1_50 Wr_51 t H_52 locs ht hvm hw hB hz1 hk1 hS => ?_))
              try dsimp only at hw
              have hPD : kPD dC dI A [(jR, .inr (4, [.ref jT, .ref r1, .ref r2, .int (nI (Wr_51)), .int (nI (fi)), .int (nI (Pn_39)), .ref q6, .ref q7])), (r1, .inl (c1, 120, .inl S1_50)), (r2, .inl (c2, 124, .inl s2)), (jT, .inr (8, [.ref t0, .int (nI (kt))])), (t0, .inl (cC, 120, .inl gT))] H_52 := kJoinX hP hD [0, 1, 2, 3, 4] rfl hk1 hFc hB.1 ht hB.2.2 rfl [some 0, some 1, some 2, some 3, some 4] rfl rfl
              have hP := hPD.1
              have hD := hPD.2
              obtain ⟨rfl, hw_53⟩ := hw
              refine lv_if_ne (tgt := 73) hx hb dX4_readSum_68 kc_t_68_5 (fun c_54 => ?_) (fun c_54 => absurd c_54 (by decide))
              refine lv_iinc (v := nI (i + 1)) hx hb dX4_readSum_73 hl (k := 1) rfl (kInc _ 1) kc_l_2_4 (kTo [(2, .int (nI (i + 1))), (3, .int (nI (ch_21))), (0, .ref jR), (1, .int (nI (dd)))]) (fun ls hl => ?_)
              refine lv_goto (tgt := 12) hx hb dX4_readSum_76 kc_t_76_m64 ?_
              exact ih_k_11 (i + 1) S1_50 Pn_39 Wr_51 (xl ++ xl_41 ++ [nI (20000 + ch_21)]) (by omega) (by omega) (by omega) (by have e9 := kLoop_t (b := bt) (n := kt) (c1 := 43) (c2 := 45) (a := kTermD bt kt g7 n7 (e1 + 1)) (f := 120 - (i + 1)) (p := xpn) (l := xl) (by rw [← hw_23_0]; omega) (by rw [← hw_23_1]; exact hw_43.2.1.1); rw [← hw_23_0] at e9; rw [← e9, show (120 - (i + 1)) + 1 = 120 - i by omega]; exact ivk_11_3) (by simp only [List.length_append, List.length_cons, List.length_nil]; omega) (kWrt3 ivk_11_5 ivk_11_4 hw_43_S hw_43_W hw_53.2) (by simp only [List.length_append, List.length_cons, List.length_nil]; omega) (by omega) _ _ hP hD hS ls (lv_sub hl [0, 2, 3] rfl) (by omega)
          · have bd_56 : ch_21 < 2147483648 := by omega
            have hn_55 := kneq (a := ch_21) (b := 43) bd_56 kc_31_43 c_24
            refine lv_aload_n hx hb dX4_readSum_27 rfl (lv_at hl 1 rfl) ?_
            have bd_57 : Pn_20 ≤ kt := by omega
            have hCu := kCut (wc := [(jR, .inr (4, [.ref jT, .ref r1, .ref r2, .int (nI (xwr)), .int (nI (fi)), .int (nI (Pn_20)), .ref q6, .ref q7])), (r1, .inl (c1, 120, .inl xs1)), (r2, .inl (c2, 124, .inl s2)), (jT, .inr (8, [.ref t0, .int (nI (kt))])), (t0, .inl (cC, 120, .inl gT))]) hP hD hS hA [0, 1, 2, 3, 4] rfl kc_nd_311 rfl
            have hPc := hCu.1
            have hDc := hCu.2.1
            have hFc := hCu.2.2
            have hKc := hK.sb (tys2 := [(c1, .int), (c2, .int), (cC, .char)]) [0, 1, 2] rfl
            refine va_calli (va_runV (As := []) (rest := []) ⟨hx, hb, hml, hown, hts⟩ (s_look4x l dC dI jT t0 cC gT kt hkt hgT bt hbt hb8 jR r1 r2 c1 c2 xs1 s2 xwr fi q6 q7 bd_17 hfi Pn_20 bd_57 H_22.size) (cwV 0 hts (kG (List.forall_mem_cons.mpr ⟨(List.mem_cons_of_mem _ (List.mem_append_left _ (List.mem_of_getElem? (i := 3) rfl))), (List.forall_mem_cons.mpr ⟨(List.mem_cons_of_mem _ (List.mem_append_left _ (List.mem_of_getElem? (i := 2) rfl))), (List.forall_mem_cons.mpr ⟨(List.mem_cons_of_mem _ (List.mem_append_left _ (List.mem_of_getElem? (i := 1) rfl))), (List.forall_mem_cons.mpr ⟨(List.mem_cons_of_mem _ (List.mem_append_left _ (List.mem_of_getElem? (i := 0) rfl))), (fun _ h => absurd h List.not_mem_nil)⟩)⟩)⟩)⟩) (kGV _ _ _ _) (fun _ h => List.mem_cons_of_mem _ (List.mem_append_right _ (List.mem_append_left _ h))) gw_s_look4x) rfl rfl rfl ⟨rfl, hd_X4_look⟩ ⟨(show 2 + 1 ≤ (8 + 6 * (e1 + 1)) from by omega), (show 8 + (2 + 11) + 60 * 2 ≤ 60 * (8 + 6 * (e1 + 1)) from by omega)⟩) (kW_V kT_blind kT_give (va_recv hKc hPc (ci := 4) (q0 := 0) rfl rfl) hPc hKc hDc) rfl rfl hl.1 rfl (lv_room (Nat.le_of_ble_eq_true rfl)) dX4_readSum_28 ⟨(Nat.le_of_ble_eq_true rfl), (Nat.le_of_ble_eq_true rfl)⟩) hS (fun q _ h => hFc q h) hFc (fun r_58 => kU2 (fun Pn_59 ch_60 t H_61 locs ht hvm hw hB hz1 hk1 hS => ?_))
            try dsimp only at hw
            have hPD : kPD dC dI A [(jR, .inr (4, [.ref jT, .ref r1, .ref r2, .int (nI (xwr)), .int (nI (fi)), .int (nI (Pn_59)), .ref q6, .ref q7])), (r1, .inl (c1, 120, .inl xs1)), (r2, .inl (c2, 124, .inl s2)), (jT, .inr (8, [.ref t0, .int (nI (kt))])), (t0, .inl (cC, 120, .inl gT))] H_61 := kJoinX hP hD [0, 1, 2, 3, 4] rfl hk1 hFc hB.1 ht hB.2.2 rfl [some 0, some 1, some 2, some 3, some 4] rfl rfl
            have hP := hPD.1
            have hD := hPD.2
            obtain ⟨rfl, hw_62_0, hw_62_1, hw_62_2, hw_62_3, hw_62_4, hw_62_5, hw_62_6⟩ := hw
            have e9 : Pn_20 = Pn_59 := by rw [hw_62_1, hw_23_1]; exact (kSp_sp (by omega)).symm
            have e8 : ch_21 = ch_60 := by rw [hw_62_0, hw_23_0, hw_23_1]; exact (kLk_sp (by omega)).symm
            subst e9
            subst e8
            refine lv_bipush (v := 45) hx hb dX4_readSum_31 kc_b_45 ?_
            refine lv_icmp_ne (tgt := 79) hx hb dX4_readSum_33 kc_t_33_46 (fun c_63 => ?_) (fun c_63 => ?_)
            · have hn_64 := kneq (a := ch_21) (b := 45) bd_56 kc_31_45 c_63
              refine lv_iconst (v := 1) hx hb dX4_readSum_79 kc_i_1 ?_
              have hP9 := hP
              have hD9 := hD
              have hK9 := hK
              rw [hQ]
              exact W.zret (v := 1) hx hb hr rfl (fun t ht hW => ⟨⟨1, (xs1, xwr, Pn_20, true, xl), rfl, ⟨rfl, kPR_t (a := kSumD bt kt g7 n7 (e1 + 1)) rfl (kSumD_good hz7 (e1 + 1)) (by omega) (by rw [← ivk_11_3, show 120 - i = (119 - i) + 1 by omega, kLoop_e (by rw [← hw_23_0]; omega), ← hw_23_1]) ivk_11_4 ivk_11_5, by omega⟩,  by rw [ht]; exact hP9, va_K.moved hW.alike hK9, hD9⟩, hS.F ht⟩) hS.2.2 dX4_readSum_80
            · have hn_65 := keq (a := ch_21) (b := 45) bd_56 kc_31_45 c_63
              refine lv_aload_n hx hb dX4_readSum_36 rfl (lv_at hl 1 rfl) ?_
              have hCu := kCut (wc := [(jR, .inr (4, [.ref jT, .ref r1, .ref r2, .int (nI (xwr)), .int (nI (fi)), .int (nI (Pn_20)), .ref q6, .ref q7])), (r1, .inl (c1, 120, .inl xs1)), (r2, .inl (c2, 124, .inl s2)), (jT, .inr (8, [.ref t0, .int (nI (kt))])), (t0, .inl (cC, 120, .inl gT))]) hP hD hS hA [0, 1, 2, 3, 4] rfl kc_nd_311 rfl
              have hPc := hCu.1
              have hDc := hCu.2.1
              have hFc := hCu.2.2
              have hKc := hK.sb (tys2 := [(c1, .int), (c2, .int), (cC, .char)]) [0, 1, 2] rfl
              refine va_calli (va_runV (As := []) (rest := []) ⟨hx, hb, hml, hown, hts⟩ (s_look4x l dC dI jT t0 cC gT kt hkt hgT bt hbt hb8 jR r1 r2 c1 c2 xs1 s2 xwr fi q6 q7 bd_17 hfi Pn_20 bd_57 H_61.size) (cwV 0 hts (kG (List.forall_mem_cons.mpr ⟨(List.mem_cons_of_mem _ (List.mem_append_left _ (List.mem_of_getElem? (i := 3) rfl))), (List.forall_mem_cons.mpr ⟨(List.mem_cons_of_mem _ (List.mem_append_left _ (List.mem_of_getElem? (i := 2) rfl))), (List.forall_mem_cons.mpr ⟨(List.mem_cons_of_mem _ (List.mem_append_left _ (List.mem_of_getElem? (i := 1) rfl))), (List.forall_mem_cons.mpr ⟨(List.mem_cons_of_mem _ (List.mem_append_left _ (List.mem_of_getElem? (i := 0) rfl))), (fun _ h => absurd h List.not_mem_nil)⟩)⟩)⟩)⟩) (kGV _ _ _ _) (fun _ h => List.mem_cons_of_mem _ (List.mem_append_right _ (List.mem_append_left _ h))) gw_s_look4x) rfl rfl rfl ⟨rfl, hd_X4_look⟩ ⟨(show 2 + 1 ≤ (8 + 6 * (e1 + 1)) from by omega), (show 8 + (2 + 11) + 60 * 2 ≤ 60 * (8 + 6 * (e1 + 1)) from by omega)⟩) (kW_V kT_blind kT_give (va_recv hKc hPc (ci := 4) (q0 := 0) rfl rfl) hPc hKc hDc) rfl rfl hl.1 rfl (lv_room (Nat.le_of_ble_eq_true rfl)) dX4_readSum_37 ⟨(Nat.le_of_ble_eq_true rfl), (Nat.le_of_ble_eq_true rfl)⟩) hS (fun q _ h => hFc q h) hFc (fun r_66 => kU2 (fun Pn_67 ch_68 t H_69 locs ht hvm hw hB hz1 hk1 hS => ?_))
              try dsimp only at hw
              have hPD : kPD dC dI A [(jR, .inr (4, [.ref jT, .ref r1, .ref r2, .int (nI (xwr)), .int (nI (fi)), .int (nI (Pn_67)), .ref q6, .ref q7])), (r1, .inl (c1, 120, .inl xs1)), (r2, .inl (c2, 124, .inl s2)), (jT, .inr (8, [.ref t0, .int (nI (kt))])), (t0, .inl (cC, 120, .inl gT))] H_69 := kJoinX hP hD [0, 1, 2, 3, 4] rfl hk1 hFc hB.1 ht hB.2.2 rfl [some 0, some 1, some 2, some 3, some 4] rfl rfl
              have hP := hPD.1
              have hD := hPD.2
              obtain ⟨rfl, hw_70_0, hw_70_1, hw_70_2, hw_70_3, hw_70_4, hw_70_5, hw_70_6⟩ := hw
              have e9 : Pn_20 = Pn_67 := by rw [hw_70_1, hw_23_1]; exact (kSp_sp (by omega)).symm
              have e8 : ch_21 = ch_68 := by rw [hw_70_0, hw_23_0, hw_23_1]; exact (kLk_sp (by omega)).symm
              subst e9
              subst e8
              refine lv_istore_n hx hb dX4_readSum_40 rfl hl kc_l_3_4 (kTo [(3, .int (nI (ch_21))), (2, .int (nI (i))), (0, .ref jR), (1, .int (nI (dd)))]) (fun ls hl => ?_)
              refine lv_aload_n hx hb dX4_readSum_41 rfl (lv_at hl 2 rfl) ?_
              refine lv_dup hx hb dX4_readSum_42 rfl ?_
              refine va_get (D := (dC, dI)) (ci := 4) (v := .int (nI (Pn_20))) (C := RX4) (T := TX4) (N := 8) hx hb hts (fun _ h => List.mem_cons_of_mem _ (List.mem_append_right _ (List.mem_append_right _ (List.mem_append_right _ (List.mem_append_left _ h))))) hown hK hP 0 rfl rfl 5 kc_l_5_8 (hts (.fieldLink RX4 25 "NotEnded$Reader" "place" "I") (List.mem_cons_of_mem _ (List.mem_append_left _ (List.mem_of_getElem? (i := 11) rfl)))) (fun _ h9 => h9) rfl dX4_readSum_43 ?_
              refine lv_iconst (v := 1) hx hb dX4_readSum_46 kc_i_1 ?_
              refine lv_iadd hx hb dX4_readSum_47 ?_
              refine lv_topi (fun y_71 ey_71 => ?_)
              obtain rfl : y_71 = nI (Pn_20 + 1) := ey_71.trans (nI_add (Pn_20) (1))
              refine va_put (D := (dC, dI)) (ci := 4) (v := .int (nI (Pn_20 + 1))) (ty := tyX4 5) (C := RX4) (T := TX4) (N := 8) hx hb hts (fun _ h => List.mem_cons_of_mem _ (List.mem_append_right _ (List.mem_append_right _ (List.mem_append_right _ (List.mem_append_left _ h))))) tyX4 tyX4_ok nmX4 hown hK hP hD hS 0 rfl rfl 5 kc_l_5_8 (hts (.fieldLink RX4 25 "NotEnded$Reader" "place" "I") (List.mem_cons_of_mem _ (List.mem_append_left _ (List.mem_of_getElem? (i := 11) rfl)))) (fun _ h9 => h9) rfl (tyX4_ok 5 kc_l_5_8) rfl rfl (Nat.le_of_ble_eq_true rfl) dX4_readSum_48 (fun H locs hP hD hS => ?_)
              have hPD : kPD dC dI A [(jR, .inr (4, [.ref jT, .ref r1, .ref r2, .int (nI (xwr)), .int (nI (fi)), .int (nI (Pn_20 + 1)), .ref q6, .ref q7])), (r1, .inl (c1, 120, .inl xs1)), (r2, .inl (c2, 124, .inl s2)), (jT, .inr (8, [.ref t0, .int (nI (kt))])), (t0, .inl (cC, 120, .inl gT))] H := ⟨hP, hD⟩
              have hP := hPD.1
              have hD := hPD.2
              refine lv_aload_n hx hb dX4_readSum_51 rfl (lv_at hl 2 rfl) ?_
              refine lv_iload_n hx hb dX4_readSum_52 rfl (lv_at hl 3 rfl) ?_
              have bd_72 : (Pn_20 + 1) ≤ kt := by omega
              have bd_73 : xwr ≤ (Pn_20 + 1) := by omega
              have hCu := kCut (wc := [(jR, .inr (4, [.ref jT, .ref r1, .ref r2, .int (nI (xwr)), .int (nI (fi)), .int (nI (Pn_20 + 1)), .ref q6, .ref q7])), (r1, .inl (c1, 120, .inl xs1)), (r2, .inl (c2, 124, .inl s2)), (jT, .inr (8, [.ref t0, .int (nI (kt))])), (t0, .inl (cC, 120, .inl gT))]) hP hD hS hA [0, 1, 2, 3, 4] rfl kc_nd_311 rfl
              have hPc := hCu.1
              have hDc := hCu.2.1
              have hFc := hCu.2.2
              have hKc := hK.sb (tys2 := [(c1, .int), (c2, .int), (cC, .char)]) [0, 1, 2] rfl
              refine va_calli (va_runV (As := [.int (nI (dd))]) (rest := []) ⟨hx, hb, hml, hown, hts⟩ (s_term4x_g l dC dI jT t0 cC gT kt hkt hgT bt hbt hb8 jR r1 r2 c1 c2 xs1 s2 xwr fi q6 q7 bd_17 hfi (Pn_20 + 1) bd_72 bd_73 b6 n6 g6 hn6 b7 n7 g7 hn7 gn6 hz6 gn7 hz7 e1 dd bd_1 ih H.size) (cwV 1 hts (kG (List.forall_mem_cons.mpr ⟨(List.mem_cons_of_mem _ (List.mem_append_left _ (List.mem_of_getElem? (i := 28) rfl))), (List.forall_mem_cons.mpr ⟨(List.mem_cons_of_mem _ (List.mem_append_left _ (List.mem_of_getElem? (i := 27) rfl))), (List.forall_mem_cons.mpr ⟨(List.mem_cons_of_mem _ (List.mem_append_left _ (List.mem_of_getElem? (i := 26) rfl))), (List.forall_mem_cons.mpr ⟨(List.mem_cons_of_mem _ (List.mem_append_left _ (List.mem_of_getElem? (i := 0) rfl))), (fun _ h => absurd h List.not_mem_nil)⟩)⟩)⟩)⟩) (kGV _ _ _ _) (kFam (List.mem_cons_of_mem _ (List.mem_append_left _ (List.mem_of_getElem? (i := 25) rfl)))) gw_s_term4x_g) rfl rfl rfl ⟨rfl, hd_X4_readTerm⟩ ⟨(show (7 + 6 * (e1 + 1)) + 1 ≤ (8 + 6 * (e1 + 1)) from by omega), (show 8 + (4 + 11) + 60 * (7 + 6 * (e1 + 1)) ≤ 60 * (8 + 6 * (e1 + 1)) from by omega)⟩) (kW_V kS2_blind (kS2_give hX hS hFc) (va_recv hKc hPc (ci := 4) (q0 := 0) rfl rfl) hPc hKc hDc) rfl rfl hl.1 rfl (lv_room (Nat.le_of_ble_eq_true rfl)) dX4_readSum_53 ⟨(Nat.le_of_ble_eq_true rfl), (Nat.le_of_ble_eq_true rfl)⟩) hS (fun q _ h => hFc q h) hFc (fun r_74 => kU5 (fun S1_75 Wr_76 Pn_77 xo_78 xl_79 t H_80 locs ht hvm hw hB hz1 hk1 hS => ?_))
              try dsimp only at hw
              have hPD : kPD dC dI A [(jR, .inr (4, [.ref jT, .ref r1, .ref r2, .int (nI (Wr_76)), .int (nI (fi)), .int (nI (Pn_77)), .ref q6, .ref q7])), (r1, .inl (c1, 120, .inl S1_75)), (r2, .inl (c2, 124, .inl s2)), (jT, .inr (8, [.ref t0, .int (nI (kt))])), (t0, .inl (cC, 120, .inl gT))] H_80 := kJoinX hP hD [0, 1, 2, 3, 4] rfl hk1 hFc hB.1 ht hB.2.2 rfl [some 0, some 1, some 2, some 3, some 4] rfl rfl
              have hP := hPD.1
              have hD := hPD.2
              have hw_81 := hw
              refine lv_if_eq (tgt := 71) hx hb dX4_readSum_56 kc_t_56_15 (fun c_82 => ?_) (fun c_82 => ?_)
              · obtain rfl : xo_78 = false := kBo_f (kZr9 hw_81.1 c_82)
                have hw_81_k := hw_81.2.1.2.1
                refine lv_iconst (v := 0) hx hb dX4_readSum_71 kc_i_0 ?_
                have hP9 := hP
                have hD9 := hD
                have hK9 := hK
                rw [hQ]
                exact W.zret (v := 0) hx hb hr rfl (fun t ht hW => ⟨⟨0, (S1_75, Wr_76, Pn_77, false, ([])), rfl, ⟨rfl, kPR_f (by rw [← ivk_11_3, show 120 - i = (119 - i) + 1 by omega]; exact kLoop_f (by rw [← hw_23_0]; omega) (by rw [← hw_23_1]; exact hw_81.2.1.1)) (by omega), by omega⟩,  by rw [ht]; exact hP9, va_K.moved hW.alike hK9, hD9⟩, hS.F ht⟩) hS.2.2 dX4_readSum_72
              · obtain rfl : xo_78 = true := kBo_t (kNz9 hw_81.1 c_82)
                obtain ⟨hw_81_W, hw_81_S, hw_81_l, hw_81_p⟩ := hw_81.2.1.2.2 rfl
                have hw_81_k := hw_81.2.1.2.1
                refine lv_aload_n hx hb dX4_readSum_59 rfl (lv_at hl 2 rfl) ?_
                refine lv_sipush (v := 20000) hx hb dX4_readSum_60 kc_s_20000 ?_
                refine lv_iload_n hx hb dX4_readSum_63 rfl (lv_at hl 0 rfl) ?_
                refine lv_iadd hx hb dX4_readSum_64 ?_
                refine lv_topi (fun y_83 ey_83 => ?_)
                obtain rfl : y_83 = nI (20000 + ch_21) := ey_83.trans (nI_add (20000) (ch_21))
                have bd_84 : Wr_76 ≤ 120 := by omega
                have bd_85 : Pn_77 ≤ kt := by omega
                have bd_86 : Wr_76 < 120 := by omega
                have hCu := kCut (wc := [(jR, .inr (4, [.ref jT, .ref r1, .ref r2, .int (nI (Wr_76)), .int (nI (fi)), .int (nI (Pn_77)), .ref q6, .ref q7])), (r1, .inl (c1, 120, .inl S1_75)), (r2, .inl (c2, 124, .inl s2)), (jT, .inr (8, [.ref t0, .int (nI (kt))])), (t0, .inl (cC, 120, .inl gT))]) hP hD hS hA [0, 1, 2, 3, 4] rfl kc_nd_311 rfl
                have hPc := hCu.1
                have hDc := hCu.2.1
                have hFc := hCu.2.2
                have hKc := hK.sb (tys2 := [(c1, .int), (c2, .int), (cC, .char)]) [0, 1, 2] rfl
                refine va_calli (va_runV (As := [.int (nI (20000 + ch_21))]) (rest := []) ⟨hx, hb, hml, hown, hts⟩ (s_write4x l dC dI jT t0 cC gT kt hkt hgT bt hbt hb8 jR r1 r2 c1 c2 S1_75 s2 Wr_76 fi q6 q7 bd_84 hfi Pn_77 bd_85 (nI (20000 + ch_21)) bd_86 H_80.size) (cwV 1 hts (kG (List.forall_mem_cons.mpr ⟨(List.mem_cons_of_mem _ (List.mem_append_left _ (List.mem_of_getElem? (i := 14) rfl))), (List.forall_mem_cons.mpr ⟨(List.mem_cons_of_mem _ (List.mem_append_left _ (List.mem_of_getElem? (i := 13) rfl))), (List.forall_mem_cons.mpr ⟨(List.mem_cons_of_mem _ (List.mem_append_left _ (List.mem_of_getElem? (i := 12) rfl))), (List.forall_mem_cons.mpr ⟨(List.mem_cons_of_mem _ (List.mem_append_left _ (List.mem_of_getElem? (i := 0) rfl))), (fun _ h => absurd h List.not_mem_nil)⟩)⟩)⟩)⟩) (kGV _ _ _ _) (fun _ h => List.mem_cons_of_mem _ (List.mem_append_right _ (List.mem_append_right _ (List.mem_append_right _ (List.mem_append_right _ (List.mem_append_right _ (List.mem_append_left _ h))))))) gw_s_write4x) rfl rfl rfl ⟨rfl, hd_X4_write⟩ ⟨(show 1 + 1 ≤ (8 + 6 * (e1 + 1)) from by omega), (show 8 + (2 + 11) + 60 * 1 ≤ 60 * (8 + 6 * (e1 + 1)) from by omega)⟩) (kW_V kT_blind kT_give (va_recv hKc hPc (ci := 4) (q0 := 0) rfl rfl) hPc hKc hDc) rfl rfl hl.1 rfl (lv_room (Nat.le_of_ble_eq_true rfl)) dX4_readSum_65 ⟨(Nat.le_of_ble_eq_true rfl), (Nat.le_of_ble_eq_true rfl)⟩) hS (fun q _ h => hFc q h) hFc (fun r_87 => kU2 (fun S1_88 Wr_89 t H_90 locs ht hvm hw hB hz1 hk1 hS => ?_))
                try dsimp only at hw
                have hPD : kPD dC dI A [(jR, .inr (4, [.ref jT, .ref r1, .ref r2, .int (nI (Wr_89)), .int (nI (fi)), .int (nI (Pn_77)), .ref q6, .ref q7])), (r1, .inl (c1, 120, .inl S1_88)), (r2, .inl (c2, 124, .inl s2)), (jT, .inr (8, [.ref t0, .int (nI (kt))])), (t0, .inl (cC, 120, .inl gT))] H_90 := kJoinX hP hD [0, 1, 2, 3, 4] rfl hk1 hFc hB.1 ht hB.2.2 rfl [some 0, some 1, some 2, some 3, some 4] rfl rfl
                have hP := hPD.1
                have hD := hPD.2
                obtain ⟨rfl, hw_91⟩ := hw
                refine lv_if_ne (tgt := 73) hx hb dX4_readSum_68 kc_t_68_5 (fun c_92 => ?_) (fun c_92 => absurd c_92 (by decide))
                refine lv_iinc (v := nI (i + 1)) hx hb dX4_readSum_73 hl (k := 1) rfl (kInc _ 1) kc_l_2_4 (kTo [(2, .int (nI (i + 1))), (3, .int (nI (ch_21))), (0, .ref jR), (1, .int (nI (dd)))]) (fun ls hl => ?_)
                refine lv_goto (tgt := 12) hx hb dX4_readSum_76 kc_t_76_m64 ?_
                exact ih_k_11 (i + 1) S1_88 Pn_77 Wr_89 (xl ++ xl_79 ++ [nI (20000 + ch_21)]) (by omega) (by omega) (by omega) (by have e9 := kLoop_t (b := bt) (n := kt) (c1 := 43) (c2 := 45) (a := kTermD bt kt g7 n7 (e1 + 1)) (f := 120 - (i + 1)) (p := xpn) (l := xl) (by rw [← hw_23_0]; omega) (by rw [← hw_23_1]; exact hw_81.2.1.1); rw [← hw_23_0] at e9; rw [← e9, show (120 - (i + 1)) + 1 = 120 - i by omega]; exact ivk_11_3) (by simp only [List.length_append, List.length_cons, List.length_nil]; omega) (kWrt3 ivk_11_5 ivk_11_4 hw_81_S hw_81_W hw_91.2) (by simp only [List.length_append, List.length_cons, List.length_nil]; omega) (by omega) _ _ hP hD hS ls (lv_sub hl [0, 2, 3] rfl) (by omega)
    exact lp_k_11 (120 - 0 + 1) 0 S1_3 Pn_5 Wr_4 xl_7 (by omega) (by omega) (by omega) (kMany_t hw_9.2.1.1).symm hw_9_W hw_9_S hw_9_l hw_9_p _ _ hP hD hS ls (lv_sub hl [0, 1, 2] rfl) (by omega)
  · obtain rfl : xo_6 = false := kBo_f (kZr9 hw_9.1 c_10)
    have hw_9_k := hw_9.2.1.2.1
    refine lv_iconst (v := 0) hx hb dX4_readSum_8 kc_i_0 ?_
    have hP9 := hP
    have hD9 := hD
    have hK9 := hK
    rw [hQ]
    exact W.zret (v := 0) hx hb hr rfl (fun t ht hW => ⟨⟨0, (S1_3, Wr_4, Pn_5, false, ([])), rfl, ⟨rfl, kPR_f (kMany_f hw_9.2.1.1) (by omega), by omega⟩,  by rw [ht]; exact hP9, va_K.moved hW.alike hK9, hD9⟩, hS.F ht⟩) hS.2.2 dX4_readSum_9

theorem dX4_readUnit_64 : decode cX4_readUnit 64 = .ok (.aload_n 0, 1) := by decide +kernel
theorem dX4_readUnit_65 : decode cX4_readUnit 65 = .ok (.iload_n 1, 1) := by decide +kernel
theorem dX4_readUnit_66 : decode cX4_readUnit 66 = .ok (.iconst 1, 1) := by decide +kernel
theorem dX4_readUnit_67 : decode cX4_readUnit 67 = .ok (.iadd, 1) := by decide +kernel
theorem dX4_readUnit_68 : decode cX4_readUnit 68 = .ok (.iconst 0, 1) := by decide +kernel
theorem dX4_readUnit_69 : decode cX4_readUnit 69 = .ok (.invokevirtual 89, 3) := by decide +kernel
theorem dX4_readUnit_72 : decode cX4_readUnit 72 = .ok (.ifCond .eq 16, 3) := by decide +kernel
theorem dX4_readUnit_75 : decode cX4_readUnit 75 = .ok (.aload_n 0, 1) := by decide +kernel
theorem dX4_readUnit_76 : decode cX4_readUnit 76 = .ok (.bipush 41, 2) := by decide +kernel
theorem dX4_readUnit_78 : decode cX4_readUnit 78 = .ok (.invokevirtual 57, 3) := by decide +kernel
theorem dX4_readUnit_81 : decode cX4_readUnit 81 = .ok (.ifCond .eq 7, 3) := by decide +kernel
theorem dX4_readUnit_84 : decode cX4_readUnit 84 = .ok (.iconst 1, 1) := by decide +kernel
theorem dX4_readUnit_85 : decode cX4_readUnit 85 = .ok (.goto 4, 3) := by decide +kernel
theorem dX4_readUnit_23 : decode cX4_readUnit 23 = .ok (.aload_n 0, 1) := by decide +kernel
theorem dX4_readUnit_24 : decode cX4_readUnit 24 = .ok (.iload_n 1, 1) := by decide +kernel
theorem dX4_readUnit_25 : decode cX4_readUnit 25 = .ok (.iconst 1, 1) := by decide +kernel
theorem dX4_readUnit_26 : decode cX4_readUnit 26 = .ok (.iadd, 1) := by decide +kernel
theorem dX4_readUnit_27 : decode cX4_readUnit 27 = .ok (.iconst 0, 1) := by decide +kernel
theorem dX4_readUnit_28 : decode cX4_readUnit 28 = .ok (.invokevirtual 99, 3) := by decide +kernel
theorem dX4_readUnit_31 : decode cX4_readUnit 31 = .ok (.ifCond .eq 17, 3) := by decide +kernel
theorem dX4_readUnit_34 : decode cX4_readUnit 34 = .ok (.aload_n 0, 1) := by decide +kernel
theorem dX4_readUnit_35 : decode cX4_readUnit 35 = .ok (.sipush 20033, 3) := by decide +kernel
theorem dX4_readUnit_38 : decode cX4_readUnit 38 = .ok (.invokevirtual 96, 3) := by decide +kernel
theorem dX4_readUnit_41 : decode cX4_readUnit 41 = .ok (.ifCond .eq 7, 3) := by decide +kernel
theorem dX4_readUnit_44 : decode cX4_readUnit 44 = .ok (.iconst 1, 1) := by decide +kernel
theorem dX4_readUnit_45 : decode cX4_readUnit 45 = .ok (.goto 4, 3) := by decide +kernel
def w_s_unit4x_g_0 : List Cond := .code yX4_readUnit cX4_readUnit 4 (some .boolean) :: wf_rq
theorem gw_s_unit4x_g_0 : (w_s_unit4x_g_0).all goodWord = true := kFamG rfl gf_rq
set_option maxHeartbeats 4000000 in
set_option maxRecDepth 100000 in
theorem s_unit4x_g_0 (l : Launch) (dC : Nat → ClassId) (dI : Nat → Nat → Nat) (jT : Nat) (t0 : Nat) (cC : ClassId) (gT : Nat → Int32) (kt : Nat) (hkt : kt ≤ 120) (hgT : ∀ j : Nat, narrow .char (.int (gT j)) = .int (gT j)) (bt : Nat → Nat) (hbt : ∀ j : Nat, gT j = nI (bt j)) (hb8 : ∀ j : Nat, bt j < 256) (jR : Nat) (r1 : Nat) (r2 : Nat) (c1 : ClassId) (c2 : ClassId) (s1 : Nat → Int32) (s2 : Nat → Int32) (wr : Nat) (fi : Nat) (q6 : Nat) (q7 : Nat) (hwr : wr ≤ 120) (hfi : fi ≤ 124) (pn : Nat) (hpn : pn ≤ kt) (hwp : wr ≤ pn) (b6 : Nat) (n6 : Nat) (g6 : Nat → Int32) (hn6 : n6 ≤ 8) (b7 : Nat) (n7 : Nat) (g7 : Nat → Int32) (hn7 : n7 ≤ 8) (gn6 : ∀ k : Nat, ∃ v : Nat, v < 128 ∧ g6 k = nI v) (hz6 : kIx g6 n6 (nI 0) = n6) (gn7 : ∀ k : Nat, ∃ v : Nat, v < 128 ∧ g7 k = nI v) (hz7 : kIx g7 n7 (nI 0) = n7) (e1 : Nat) (dd : Nat) (hdd : dd + e1 = 5) (ih : kIHq e1) (sz : Nat) : Met l yX4_readUnit w_s_unit4x_g_0 ({ frames := (9 + 6 * (e1 + 1)), cells := 0, slots := 0, locals := 60 * (9 + 6 * (e1 + 1)) }) (kW dC dI [.ref jR, .int (nI (dd)), .int 0] [(jR, .inr (4, [.ref jT, .ref r1, .ref r2, .int (nI (wr)), .int (nI (fi)), .int (nI (pn)), .ref q6, .ref q7])), (r1, .inl (c1, 120, .inl s1)), (r2, .inl (c2, 124, .inl s2)), (jT, .inr (8, [.ref t0, .int (nI (kt))])), (t0, .inl (cC, 120, .inl gT))] [(c1, .int), (c2, .int), (cC, .char)] (kS2 q6 b6 n6 g6 q7 b7 n7 g7 (va_A [(jR, .inr (4, [.ref jT, .ref r1, .ref r2, .int (nI (wr)), .int (nI (fi)), .int (nI (pn)), .ref q6, .ref q7])), (r1, .inl (c1, 120, .inl s1)), (r2, .inl (c2, 124, .inl s2)), (jT, .inr (8, [.ref t0, .int (nI (kt))])), (t0, .inl (cC, 120, .inl gT))] sz)) sz) (va_Qi (fun (r : Int32) (u : (Nat → Int32) × Nat × Nat × Bool × (List Int32)) => match u with | (S1, Wr, Pn, xo, xl) => (r = kBo xo ∧ kPR (kUnitD bt kt g7 n7 (e1 + 1) pn) pn kt wr s1 xo Pn xl Wr S1 ∧ Wr ≤ 120)) (fun (u : (Nat → Int32) × Nat × Nat × Bool × (List Int32)) => match u with | (S1, Wr, Pn, xo, xl) => fun t : State => kB dC dI [(jR, .inr (4, [.ref jT, .ref r1, .ref r2, .int (nI (Wr)), .int (nI (fi)), .int (nI (Pn)), .ref q6, .ref q7])), (r1, .inl (c1, 120, .inl S1)), (r2, .inl (c2, 124, .inl s2)), (jT, .inr (8, [.ref t0, .int (nI (kt))])), (t0, .inl (cC, 120, .inl gT))] [(c1, .int), (c2, .int), (cC, .char)] (va_A [(jR, .inr (4, [.ref jT, .ref r1, .ref r2, .int (nI (wr)), .int (nI (fi)), .int (nI (pn)), .ref q6, .ref q7])), (r1, .inl (c1, 120, .inl s1)), (r2, .inl (c2, 124, .inl s2)), (jT, .inr (8, [.ref t0, .int (nI (kt))])), (t0, .inl (cC, 120, .inl gT))] sz) t) (va_A [(jR, .inr (4, [.ref jT, .ref r1, .ref r2, .int (nI (wr)), .int (nI (fi)), .int (nI (pn)), .ref q6, .ref q7])), (r1, .inl (c1, 120, .inl s1)), (r2, .inl (c2, 124, .inl s2)), (jT, .inr (8, [.ref t0, .int (nI (kt))])), (t0, .inl (cC, 120, .inl gT))] sz)) 0 0 (va_A [(jR, .inr (4, [.ref jT, .ref r1, .ref r2, .int (nI (wr)), .int (nI (fi)), .int (nI (pn)), .ref q6, .ref q7])), (r1, .inl (c1, 120, .inl s1)), (r2, .inl (c2, 124, .inl s2)), (jT, .inr (8, [.ref t0, .int (nI (kt))])), (t0, .inl (cC, 120, .inl gT))] sz) := by
  refine Met.ofW (cc := cX4_readUnit) (maxL := 4) (ret := (some .boolean)) (by decide) rfl ?_
  intro p e s m args below meth c s₁ B hml hv
  obtain ⟨rfl, hsz, hP, hK, hD0, hX⟩ := hv
  have hx := B.exec
  have hb := B.bytes
  have hr := B.returns
  have hts := atoms_spec (ws := w_s_unit4x_g_0) B.pre
  have hown : s.vm.findClass RX4 = some m.cls := findClass_of_methodNamed B.named
  have hlocks := B.notSynchronized
  subst hsz
  have hD := hD0.self (sz := s.heap.size)
  generalize hAe : va_A [(jR, .inr (4, [.ref jT, .ref r1, .ref r2, .int (nI (wr)), .int (nI (fi)), .int (nI (pn)), .ref q6, .ref q7])), (r1, .inl (c1, 120, .inl s1)), (r2, .inl (c2, 124, .inl s2)), (jT, .inr (8, [.ref t0, .int (nI (kt))])), (t0, .inl (cC, 120, .inl gT))] s.heap.size = A at hD hX ⊢
  have hA : ∀ q : Nat, s.heap.size ≤ q → A q := fun q h => by rw [← hAe]; exact Or.inr h
  have hS : va_S A s.heap s.heap [] := va_S.rf
  have hP : va_P (dC, dI) vwCl [(jR, .inr (4, [.ref jT, .ref r1, .ref r2, .int (nI (wr)), .int (nI (fi)), .int (nI (pn)), .ref q6, .ref q7])), (r1, .inl (c1, 120, .inl s1)), (r2, .inl (c2, 124, .inl s2)), (jT, .inr (8, [.ref t0, .int (nI (kt))])), (t0, .inl (cC, 120, .inl gT))] s.heap := hP
  have hl := lv_entry ([.ref jR, .int (nI (dd)), .int 0]) (n := 4) (Nat.le_of_ble_eq_true rfl)
  rw [lg_entry_eq]
  generalize (lg_sl ([.ref jR, .int (nI (dd)), .int 0]) ++ List.replicate (4 - (lg_sl ([.ref jR, .int (nI (dd)), .int 0])).length) Slot.unset).toArray = ls at hl ⊢
  have hl : lv_has ls 4 [(0, .ref jR), (1, .int (nI (dd))), (2, .int 0)] := hl
  refine kQ (fun Q hQ => ?_)
  refine lv_iload_n hx hb dX4_readUnit_0 rfl (lv_at hl 2 rfl) ?_
  refine lv_if_ne (tgt := 100) hx hb dX4_readUnit_1 kc_t_1_99 (fun c_1 => absurd (by decide) c_1) (fun c_1 => ?_)
  refine lv_aload_n hx hb dX4_readUnit_4 rfl (lv_at hl 0 rfl) ?_
  have hCu := kCut (wc := [(jR, .inr (4, [.ref jT, .ref r1, .ref r2, .int (nI (wr)), .int (nI (fi)), .int (nI (pn)), .ref q6, .ref q7])), (r1, .inl (c1, 120, .inl s1)), (r2, .inl (c2, 124, .inl s2)), (jT, .inr (8, [.ref t0, .int (nI (kt))])), (t0, .inl (cC, 120, .inl gT))]) hP hD hS hA [0, 1, 2, 3, 4] rfl kc_nd_311 rfl
  have hPc := hCu.1
  have hDc := hCu.2.1
  have hFc := hCu.2.2
  have hKc := hK.sb (tys2 := [(c1, .int), (c2, .int), (cC, .char)]) [0, 1, 2] rfl
  refine va_calli (va_runV (As := []) (rest := []) ⟨hx, hb, hml, hown, hts⟩ (s_look4x l dC dI jT t0 cC gT kt hkt hgT bt hbt hb8 jR r1 r2 c1 c2 s1 s2 wr fi q6 q7 hwr hfi pn hpn s.heap.size) (cwV 0 hts (kG (List.forall_mem_cons.mpr ⟨(List.mem_cons_of_mem _ (List.mem_append_left _ (List.mem_of_getElem? (i := 3) rfl))), (List.forall_mem_cons.mpr ⟨(List.mem_cons_of_mem _ (List.mem_append_left _ (List.mem_of_getElem? (i := 2) rfl))), (List.forall_mem_cons.mpr ⟨(List.mem_cons_of_mem _ (List.mem_append_left _ (List.mem_of_getElem? (i := 1) rfl))), (List.forall_mem_cons.mpr ⟨(List.mem_cons_of_mem _ (List.mem_append_left _ (List.mem_of_getElem? (i := 0) rfl))), (fun _ h => absurd h List.not_mem_nil)⟩)⟩)⟩)⟩) (kGV _ _ _ _) (fun _ h => List.mem_cons_of_mem _ (List.mem_append_right _ (List.mem_append_left _ h))) gw_s_look4x) rfl rfl rfl ⟨rfl, hd_X4_look⟩ ⟨(show 2 + 1 ≤ (9 + 6 * (e1 + 1)) from by omega), (show 8 + (2 + 11) + 60 * 2 ≤ 60 * (9 + 6 * (e1 + 1)) from by omega)⟩) (kW_V kT_blind kT_give (va_recv hKc hPc (ci := 4) (q0 := 0) rfl rfl) hPc hKc hDc) rfl rfl hl.1 rfl (lv_room (Nat.le_of_ble_eq_true rfl)) dX4_readUnit_5 ⟨(Nat.le_of_ble_eq_true rfl), (Nat.le_of_ble_eq_true rfl)⟩) hS (fun q _ h => hFc q h) hFc (fun r_2 => kU2 (fun Pn_3 ch_4 t H_5 locs ht hvm hw hB hz1 hk1 hS => ?_))
  try dsimp only at hw
  have hPD : kPD dC dI A [(jR, .inr (4, [.ref jT, .ref r1, .ref r2, .int (nI (wr)), .int (nI (fi)), .int (nI (Pn_3)), .ref q6, .ref q7])), (r1, .inl (c1, 120, .inl s1)), (r2, .inl (c2, 124, .inl s2)), (jT, .inr (8, [.ref t0, .int (nI (kt))])), (t0, .inl (cC, 120, .inl gT))] H_5 := kJoinX hP hD [0, 1, 2, 3, 4] rfl hk1 hFc hB.1 ht hB.2.2 rfl [some 0, some 1, some 2, some 3, some 4] rfl rfl
  have hP := hPD.1
  have hD := hPD.2
  obtain ⟨rfl, hw_6_0, hw_6_1, hw_6_2, hw_6_3, hw_6_4, hw_6_5, hw_6_6⟩ := hw
  refine lv_istore_n hx hb dX4_readUnit_8 rfl hl kc_l_3_4 (kTo [(3, .int (nI (ch_4))), (0, .ref jR), (1, .int (nI (dd))), (2, .int 0)]) (fun ls hl => ?_)
  refine lv_iload_n hx hb dX4_readUnit_9 rfl (lv_at hl 0 rfl) ?_
  refine lv_bipush (v := 33) hx hb dX4_readUnit_10 kc_b_33 ?_
  refine lv_icmp_ne (tgt := 50) hx hb dX4_readUnit_12 kc_t_12_38 (fun c_7 => ?_) (fun c_7 => ?_)
  · have bd_9 : ch_4 < 2147483648 := by omega
    have hn_8 := kneq (a := ch_4) (b := 33) bd_9 kc_31_33 c_7
    refine lv_iload_n hx hb dX4_readUnit_50 rfl (lv_at hl 0 rfl) ?_
    refine lv_bipush (v := 40) hx hb dX4_readUnit_51 kc_b_40 ?_
    refine lv_icmp_ne (tgt := 90) hx hb dX4_readUnit_53 kc_t_53_37 (fun c_10 => ?_) (fun c_10 => ?_)
    · have hn_11 := kneq (a := ch_4) (b := 40) bd_9 kc_31_40 c_10
      refine lv_aload_n hx hb dX4_readUnit_90 rfl (lv_at hl 1 rfl) ?_
      refine lv_iload_n hx hb dX4_readUnit_91 rfl (lv_at hl 2 rfl) ?_
      have bd_12 : Pn_3 ≤ kt := by omega
      have bd_13 : wr ≤ Pn_3 := by omega
      have bd_14 : dd + e1 = 5 := by omega
      have hCu := kCut (wc := [(jR, .inr (4, [.ref jT, .ref r1, .ref r2, .int (nI (wr)), .int (nI (fi)), .int (nI (Pn_3)), .ref q6, .ref q7])), (r1, .inl (c1, 120, .inl s1)), (r2, .inl (c2, 124, .inl s2)), (jT, .inr (8, [.ref t0, .int (nI (kt))])), (t0, .inl (cC, 120, .inl gT))]) hP hD hS hA [0, 1, 2, 3, 4] rfl kc_nd_311 rfl
      have hPc := hCu.1
      have hDc := hCu.2.1
      have hFc := hCu.2.2
      have hKc := hK.sb (tys2 := [(c1, .int), (c2, .int), (cC, .char)]) [0, 1, 2] rfl
      refine va_calli (va_runV (As := [.int (nI (dd))]) (rest := []) ⟨hx, hb, hml, hown, hts⟩ (s_sum4x_g l dC dI jT t0 cC gT kt hkt hgT bt hbt hb8 jR r1 r2 c1 c2 s1 s2 wr fi q6 q7 hwr hfi Pn_3 bd_12 bd_13 b6 n6 g6 hn6 b7 n7 g7 hn7 gn6 hz6 gn7 hz7 e1 dd bd_14 ih H_5.size) (cwV 1 hts (kG (List.forall_mem_cons.mpr ⟨(List.mem_cons_of_mem _ (List.mem_append_left _ (List.mem_of_getElem? (i := 32) rfl))), (List.forall_mem_cons.mpr ⟨(List.mem_cons_of_mem _ (List.mem_append_left _ (List.mem_of_getElem? (i := 31) rfl))), (List.forall_mem_cons.mpr ⟨(List.mem_cons_of_mem _ (List.mem_append_left _ (List.mem_of_getElem? (i := 30) rfl))), (List.forall_mem_cons.mpr ⟨(List.mem_cons_of_mem _ (List.mem_append_left _ (List.mem_of_getElem? (i := 0) rfl))), (fun _ h => absurd h List.not_mem_nil)⟩)⟩)⟩)⟩) (kGV _ _ _ _) (kFam (List.mem_cons_of_mem _ (List.mem_append_left _ (List.mem_of_getElem? (i := 29) rfl)))) gw_s_sum4x_g) rfl rfl rfl ⟨rfl, hd_X4_readSum⟩ ⟨(show (8 + 6 * (e1 + 1)) + 1 ≤ (9 + 6 * (e1 + 1)) from by omega), (show 8 + (4 + 11) + 60 * (8 + 6 * (e1 + 1)) ≤ 60 * (9 + 6 * (e1 + 1)) from by omega)⟩) (kW_V kS2_blind (kS2_give hX hS hFc) (va_recv hKc hPc (ci := 4) (q0 := 0) rfl rfl) hPc hKc hDc) rfl rfl hl.1 rfl (lv_room (Nat.le_of_ble_eq_true rfl)) dX4_readUnit_92 ⟨(Nat.le_of_ble_eq_true rfl), (Nat.le_of_ble_eq_true rfl)⟩) hS (fun q _ h => hFc q h) hFc (fun r_15 => kU5 (fun S1_16 Wr_17 Pn_18 xo_19 xl_20 t H_21 locs ht hvm hw hB hz1 hk1 hS => ?_))
      try dsimp only at hw
      have hPD : kPD dC dI A [(jR, .inr (4, [.ref jT, .ref r1, .ref r2, .int (nI (Wr_17)), .int (nI (fi)), .int (nI (Pn_18)), .ref q6, .ref q7])), (r1, .inl (c1, 120, .inl S1_16)), (r2, .inl (c2, 124, .inl s2)), (jT, .inr (8, [.ref t0, .int (nI (kt))])), (t0, .inl (cC, 120, .inl gT))] H_21 := kJoinX hP hD [0, 1, 2, 3, 4] rfl hk1 hFc hB.1 ht hB.2.2 rfl [some 0, some 1, some 2, some 3, some 4] rfl rfl
      have hP := hPD.1
      have hD := hPD.2
      have hw_22 := hw
      refine lv_if_ne (tgt := 100) hx hb dX4_readUnit_95 kc_t_95_5 (fun c_23 => ?_) (fun c_23 => ?_)
      · obtain rfl : xo_19 = true := kBo_t (kNz9 hw_22.1 c_23)
        obtain ⟨hw_22_W, hw_22_S, hw_22_l, hw_22_p⟩ := hw_22.2.1.2.2 rfl
        have hw_22_k := hw_22.2.1.2.1
        refine lv_aload_n hx hb dX4_readUnit_100 rfl (lv_at hl 1 rfl) ?_
        have bd_24 : Wr_17 ≤ 120 := by omega
        have bd_25 : Pn_18 ≤ kt := by omega
        have hCu := kCut (wc := [(jR, .inr (4, [.ref jT, .ref r1, .ref r2, .int (nI (Wr_17)), .int (nI (fi)), .int (nI (Pn_18)), .ref q6, .ref q7])), (r1, .inl (c1, 120, .inl S1_16)), (r2, .inl (c2, 124, .inl s2)), (jT, .inr (8, [.ref t0, .int (nI (kt))])), (t0, .inl (cC, 120, .inl gT))]) hP hD hS hA [0, 1, 2, 3, 4] rfl kc_nd_311 rfl
        have hPc := hCu.1
        have hDc := hCu.2.1
        have hFc := hCu.2.2
        have hKc := hK.sb (tys2 := [(c1, .int), (c2, .int), (cC, .char)]) [0, 1, 2] rfl
        refine va_calli (va_runV (As := []) (rest := []) ⟨hx, hb, hml, hown, hts⟩ (s_look4x l dC dI jT t0 cC gT kt hkt hgT bt hbt hb8 jR r1 r2 c1 c2 S1_16 s2 Wr_17 fi q6 q7 bd_24 hfi Pn_18 bd_25 H_21.size) (cwV 0 hts (kG (List.forall_mem_cons.mpr ⟨(List.mem_cons_of_mem _ (List.mem_append_left _ (List.mem_of_getElem? (i := 3) rfl))), (List.forall_mem_cons.mpr ⟨(List.mem_cons_of_mem _ (List.mem_append_left _ (List.mem_of_getElem? (i := 2) rfl))), (List.forall_mem_cons.mpr ⟨(List.mem_cons_of_mem _ (List.mem_append_left _ (List.mem_of_getElem? (i := 1) rfl))), (List.forall_mem_cons.mpr ⟨(List.mem_cons_of_mem _ (List.mem_append_left _ (List.mem_of_getElem? (i := 0) rfl))), (fun _ h => absurd h List.not_mem_nil)⟩)⟩)⟩)⟩) (kGV _ _ _ _) (fun _ h => List.mem_cons_of_mem _ (List.mem_append_right _ (List.mem_append_left _ h))) gw_s_look4x) rfl rfl rfl ⟨rfl, hd_X4_look⟩ ⟨(show 2 + 1 ≤ (9 + 6 * (e1 + 1)) from by omega), (show 8 + (2 + 11) + 60 * 2 ≤ 60 * (9 + 6 * (e1 + 1)) from by omega)⟩) (kW_V kT_blind kT_give (va_recv hKc hPc (ci := 4) (q0 := 0) rfl rfl) hPc hKc hDc) rfl rfl hl.1 rfl (lv_room (Nat.le_of_ble_eq_true rfl)) dX4_readUnit_101 ⟨(Nat.le_of_ble_eq_true rfl), (Nat.le_of_ble_eq_true rfl)⟩) hS (fun q _ h => hFc q h) hFc (fun r_26 => kU2 (fun Pn_27 ch_28 t H_29 locs ht hvm hw hB hz1 hk1 hS => ?_))
        try dsimp only at hw
        have hPD : kPD dC dI A [(jR, .inr (4, [.ref jT, .ref r1, .ref r2, .int (nI (Wr_17)), .int (nI (fi)), .int (nI (Pn_27)), .ref q6, .ref q7])), (r1, .inl (c1, 120, .inl S1_16)), (r2, .inl (c2, 124, .inl s2)), (jT, .inr (8, [.ref t0, .int (nI (kt))])), (t0, .inl (cC, 120, .inl gT))] H_29 := kJoinX hP hD [0, 1, 2, 3, 4] rfl hk1 hFc hB.1 ht hB.2.2 rfl [some 0, some 1, some 2, some 3, some 4] rfl rfl
        have hP := hPD.1
        have hD := hPD.2
        obtain ⟨rfl, hw_30_0, hw_30_1, hw_30_2, hw_30_3, hw_30_4, hw_30_5, hw_30_6⟩ := hw
        refine lv_istore_n hx hb dX4_readUnit_104 rfl hl kc_l_3_4 (kTo [(3, .int (nI (ch_28))), (0, .ref jR), (1, .int (nI (dd))), (2, .int 0)]) (fun ls hl => ?_)
        refine lv_iload_n hx hb dX4_readUnit_105 rfl (lv_at hl 0 rfl) ?_
        have bd_31 : ch_28 < 256 := by omega
        have hPc := hP.sb (ws2 := []) [] rfl
        have hKc := hK.sb (tys2 := []) [] rfl
        refine vp_callSi (va_runS (As := [.int (nI (ch_28))]) (rest := []) ⟨hx, hb, hml, hown, hts⟩ (s_comp4x l dC dI ch_28 bd_31) (va_cwS 1 hts (kG (List.forall_mem_cons.mpr ⟨(List.mem_cons_of_mem _ (List.mem_append_left _ (List.mem_of_getElem? (i := 34) rfl))), (List.forall_mem_cons.mpr ⟨(List.mem_cons_of_mem _ (List.mem_append_left _ (List.mem_of_getElem? (i := 33) rfl))), (List.forall_mem_cons.mpr ⟨(List.mem_cons_of_mem _ (List.mem_append_left _ (List.mem_of_getElem? (i := 0) rfl))), (fun _ h => absurd h List.not_mem_nil)⟩)⟩)⟩) (kGS _ _ _) (fun _ h => List.mem_cons_of_mem _ (List.mem_append_right _ (List.mem_append_right _ (List.mem_append_right _ (List.mem_append_right _ (List.mem_append_right _ (List.mem_append_right _ (List.mem_append_right _ (List.mem_append_right _ (List.mem_append_left _ h)))))))))) gw_s_comp4x) rfl rfl rfl hd_X4_isComparison ⟨(show 1 + 1 ≤ (9 + 6 * (e1 + 1)) from by omega), (show 8 + (1 + 11) + 60 * 1 ≤ 60 * (9 + 6 * (e1 + 1)) from by omega)⟩) (kR_S kT_blind kT_give hPc hKc) rfl rfl hl.1 rfl (lv_room (Nat.le_of_ble_eq_true rfl)) dX4_readUnit_106 ⟨(Nat.le_of_ble_eq_true rfl), (Nat.le_of_ble_eq_true rfl)⟩).run (fun r_32 hw => ?_)
        have hw_33 := hw
        refine lv_if_ne (tgt := 114) hx hb dX4_readUnit_109 kc_t_109_5 (fun c_34 => ?_) (fun c_34 => ?_)
        · have hcp := hw_33.mp c_34
          refine lv_aload_n hx hb dX4_readUnit_114 rfl (lv_at hl 1 rfl) ?_
          refine lv_dup hx hb dX4_readUnit_115 rfl ?_
          refine va_get (D := (dC, dI)) (ci := 4) (v := .int (nI (Pn_27))) (C := RX4) (T := TX4) (N := 8) hx hb hts (fun _ h => List.mem_cons_of_mem _ (List.mem_append_right _ (List.mem_append_right _ (List.mem_append_right _ (List.mem_append_left _ h))))) hown hK hP 0 rfl rfl 5 kc_l_5_8 (hts (.fieldLink RX4 25 "NotEnded$Reader" "place" "I") (List.mem_cons_of_mem _ (List.mem_append_left _ (List.mem_of_getElem? (i := 11) rfl)))) (fun _ h9 => h9) rfl dX4_readUnit_116 ?_
          refine lv_iconst (v := 1) hx hb dX4_readUnit_119 kc_i_1 ?_
          refine lv_iadd hx hb dX4_readUnit_120 ?_
          refine lv_topi (fun y_35 ey_35 => ?_)
          obtain rfl : y_35 = nI (Pn_27 + 1) := ey_35.trans (nI_add (Pn_27) (1))
          refine va_put (D := (dC, dI)) (ci := 4) (v := .int (nI (Pn_27 + 1))) (ty := tyX4 5) (C := RX4) (T := TX4) (N := 8) hx hb hts (fun _ h => List.mem_cons_of_mem _ (List.mem_append_right _ (List.mem_append_right _ (List.mem_append_right _ (List.mem_append_left _ h))))) tyX4 tyX4_ok nmX4 hown hK hP hD hS 0 rfl rfl 5 kc_l_5_8 (hts (.fieldLink RX4 25 "NotEnded$Reader" "place" "I") (List.mem_cons_of_mem _ (List.mem_append_left _ (List.mem_of_getElem? (i := 11) rfl)))) (fun _ h9 => h9) rfl (tyX4_ok 5 kc_l_5_8) rfl rfl (Nat.le_of_ble_eq_true rfl) dX4_readUnit_121 (fun H locs hP hD hS => ?_)
          have hPD : kPD dC dI A [(jR, .inr (4, [.ref jT, .ref r1, .ref r2, .int (nI (Wr_17)), .int (nI (fi)), .int (nI (Pn_27 + 1)), .ref q6, .ref q7])), (r1, .inl (c1, 120, .inl S1_16)), (r2, .inl (c2, 124, .inl s2)), (jT, .inr (8, [.ref t0, .int (nI (kt))])), (t0, .inl (cC, 120, .inl gT))] H := ⟨hP, hD⟩
          have hP := hPD.1
          have hD := hPD.2
          refine lv_aload_n hx hb dX4_readUnit_124 rfl (lv_at hl 1 rfl) ?_
          refine lv_iload_n hx hb dX4_readUnit_125 rfl (lv_at hl 2 rfl) ?_
          have bd_36 : (Pn_27 + 1) ≤ kt := by omega
          have bd_37 : Wr_17 ≤ (Pn_27 + 1) := by omega
          have hCu := kCut (wc := [(jR, .inr (4, [.ref jT, .ref r1, .ref r2, .int (nI (Wr_17)), .int (nI (fi)), .int (nI (Pn_27 + 1)), .ref q6, .ref q7])), (r1, .inl (c1, 120, .inl S1_16)), (r2, .inl (c2, 124, .inl s2)), (jT, .inr (8, [.ref t0, .int (nI (kt))])), (t0, .inl (cC, 120, .inl gT))]) hP hD hS hA [0, 1, 2, 3, 4] rfl kc_nd_311 rfl
          have hPc := hCu.1
          have hDc := hCu.2.1
          have hFc := hCu.2.2
          have hKc := hK.sb (tys2 := [(c1, .int), (c2, .int), (cC, .char)]) [0, 1, 2] rfl
          refine va_calli (va_runV (As := [.int (nI (dd))]) (rest := []) ⟨hx, hb, hml, hown, hts⟩ (s_sum4x_g l dC dI jT t0 cC gT kt hkt hgT bt hbt hb8 jR r1 r2 c1 c2 S1_16 s2 Wr_17 fi q6 q7 bd_24 hfi (Pn_27 + 1) bd_36 bd_37 b6 n6 g6 hn6 b7 n7 g7 hn7 gn6 hz6 gn7 hz7 e1 dd bd_14 ih H.size) (cwV 1 hts (kG (List.forall_mem_cons.mpr ⟨(List.mem_cons_of_mem _ (List.mem_append_left _ (List.mem_of_getElem? (i := 32) rfl))), (List.forall_mem_cons.mpr ⟨(List.mem_cons_of_mem _ (List.mem_append_left _ (List.mem_of_getElem? (i := 31) rfl))), (List.forall_mem_cons.mpr ⟨(List.mem_cons_of_mem _ (List.mem_append_left _ (List.mem_of_getElem? (i := 30) rfl))), (List.forall_mem_cons.mpr ⟨(List.mem_cons_of_mem _ (List.mem_append_left _ (List.mem_of_getElem? (i := 0) rfl))), (fun _ h => absurd h List.not_mem_nil)⟩)⟩)⟩)⟩) (kGV _ _ _ _) (kFam (List.mem_cons_of_mem _ (List.mem_append_left _ (List.mem_of_getElem? (i := 29) rfl)))) gw_s_sum4x_g) rfl rfl rfl ⟨rfl, hd_X4_readSum⟩ ⟨(show (8 + 6 * (e1 + 1)) + 1 ≤ (9 + 6 * (e1 + 1)) from by omega), (show 8 + (4 + 11) + 60 * (8 + 6 * (e1 + 1)) ≤ 60 * (9 + 6 * (e1 + 1)) from by omega)⟩) (kW_V kS2_blind (kS2_give hX hS hFc) (va_recv hKc hPc (ci := 4) (q0 := 0) rfl rfl) hPc hKc hDc) rfl rfl hl.1 rfl (lv_room (Nat.le_of_ble_eq_true rfl)) dX4_readUnit_126 ⟨(Nat.le_of_ble_eq_true rfl), (Nat.le_of_ble_eq_true rfl)⟩) hS (fun q _ h => hFc q h) hFc (fun r_38 => kU5 (fun S1_39 Wr_40 Pn_41 xo_42 xl_43 t H_44 locs ht hvm hw hB hz1 hk1 hS => ?_))
          try dsimp only at hw
          have hPD : kPD dC dI A [(jR, .inr (4, [.ref jT, .ref r1, .ref r2, .int (nI (Wr_40)), .int (nI (fi)), .int (nI (Pn_41)), .ref q6, .ref q7])), (r1, .inl (c1, 120, .inl S1_39)), (r2, .inl (c2, 124, .inl s2)), (jT, .inr (8, [.ref t0, .int (nI (kt))])), (t0, .inl (cC, 120, .inl gT))] H_44 := kJoinX hP hD [0, 1, 2, 3, 4] rfl hk1 hFc hB.1 ht hB.2.2 rfl [some 0, some 1, some 2, some 3, some 4] rfl rfl
          have hP := hPD.1
          have hD := hPD.2
          have hw_45 := hw
          refine lv_if_eq (tgt := 148) hx hb dX4_readUnit_129 kc_t_129_19 (fun c_46 => ?_) (fun c_46 => ?_)
          · obtain rfl : xo_42 = false := kBo_f (kZr9 hw_45.1 c_46)
            have hw_45_k := hw_45.2.1.2.1
            refine lv_iconst (v := 0) hx hb dX4_readUnit_148 kc_i_0 ?_
            have hP9 := hP
            have hD9 := hD
            have hK9 := hK
            rw [hQ]
            exact W.zret (v := 0) hx hb hr rfl (fun t ht hW => ⟨⟨0, (S1_39, Wr_40, Pn_41, false, ([])), rfl, ⟨rfl, kPR_f ((kUnitD_s e1 pn).trans (by unfold kUnitF; rw [← hw_6_0, ← hw_6_1]; rw [if_neg (by omega), if_neg (by omega), hw_22.2.1.1, kTh_t]; unfold kCmp; rw [← hw_30_0, ← hw_30_1, if_pos (by omega), hw_45.2.1.1]; rfl)) (by omega), by omega⟩,  by rw [ht]; exact hP9, va_K.moved hW.alike hK9, hD9⟩, hS.F ht⟩) hS.2.2 dX4_readUnit_149
          · obtain rfl : xo_42 = true := kBo_t (kNz9 hw_45.1 c_46)
            obtain ⟨hw_45_W, hw_45_S, hw_45_l, hw_45_p⟩ := hw_45.2.1.2.2 rfl
            have hw_45_k := hw_45.2.1.2.1
            refine lv_aload_n hx hb dX4_readUnit_132 rfl (lv_at hl 1 rfl) ?_
            refine lv_sipush (v := 20000) hx hb dX4_readUnit_133 kc_s_20000 ?_
            refine lv_iload_n hx hb dX4_readUnit_136 rfl (lv_at hl 0 rfl) ?_
            refine lv_iadd hx hb dX4_readUnit_137 ?_
            refine lv_topi (fun y_47 ey_47 => ?_)
            obtain rfl : y_47 = nI (20000 + ch_28) := ey_47.trans (nI_add (20000) (ch_28))
            have bd_48 : Wr_40 ≤ 120 := by omega
            have bd_49 : Pn_41 ≤ kt := by omega
            have bd_50 : Wr_40 < 120 := by omega
            have hCu := kCut (wc := [(jR, .inr (4, [.ref jT, .ref r1, .ref r2, .int (nI (Wr_40)), .int (nI (fi)), .int (nI (Pn_41)), .ref q6, .ref q7])), (r1, .inl (c1, 120, .inl S1_39)), (r2, .inl (c2, 124, .inl s2)), (jT, .inr (8, [.ref t0, .int (nI (kt))])), (t0, .inl (cC, 120, .inl gT))]) hP hD hS hA [0, 1, 2, 3, 4] rfl kc_nd_311 rfl
            have hPc := hCu.1
            have hDc := hCu.2.1
            have hFc := hCu.2.2
            have hKc := hK.sb (tys2 := [(c1, .int), (c2, .int), (cC, .char)]) [0, 1, 2] rfl
            refine va_calli (va_runV (As := [.int (nI (20000 + ch_28))]) (rest := []) ⟨hx, hb, hml, hown, hts⟩ (s_write4x l dC dI jT t0 cC gT kt hkt hgT bt hbt hb8 jR r1 r2 c1 c2 S1_39 s2 Wr_40 fi q6 q7 bd_48 hfi Pn_41 bd_49 (nI (20000 + ch_28)) bd_50 H_44.size) (cwV 1 hts (kG (List.forall_mem_cons.mpr ⟨(List.mem_cons_of_mem _ (List.mem_append_left _ (List.mem_of_getElem? (i := 14) rfl))), (List.forall_mem_cons.mpr ⟨(List.mem_cons_of_mem _ (List.mem_append_left _ (List.mem_of_getElem? (i := 13) rfl))), (List.forall_mem_cons.mpr ⟨(List.mem_cons_of_mem _ (List.mem_append_left _ (List.mem_of_getElem? (i := 12) rfl))), (List.forall_mem_cons.mpr ⟨(List.mem_cons_of_mem _ (List.mem_append_left _ (List.mem_of_getElem? (i := 0) rfl))), (fun _ h => absurd h List.not_mem_nil)⟩)⟩)⟩)⟩) (kGV _ _ _ _) (fun _ h => List.mem_cons_of_mem _ (List.mem_append_right _ (List.mem_append_right _ (List.mem_append_right _ (List.mem_append_right _ (List.mem_append_right _ (List.mem_append_left _ h))))))) gw_s_write4x) rfl rfl rfl ⟨rfl, hd_X4_write⟩ ⟨(show 1 + 1 ≤ (9 + 6 * (e1 + 1)) from by omega), (show 8 + (2 + 11) + 60 * 1 ≤ 60 * (9 + 6 * (e1 + 1)) from by omega)⟩) (kW_V kT_blind kT_give (va_recv hKc hPc (ci := 4) (q0 := 0) rfl rfl) hPc hKc hDc) rfl rfl hl.1 rfl (lv_room (Nat.le_of_ble_eq_true rfl)) dX4_readUnit_138 ⟨(Nat.le_of_ble_eq_true rfl), (Nat.le_of_ble_eq_true rfl)⟩) hS (fun q _ h => hFc q h) hFc (fun r_51 => kU2 (fun S1_52 Wr_53 t H_54 locs ht hvm hw hB hz1 hk1 hS => ?_))
            try dsimp only at hw
            have hPD : kPD dC dI A [(jR, .inr (4, [.ref jT, .ref r1, .ref r2, .int (nI (Wr_53)), .int (nI (fi)), .int (nI (Pn_41)), .ref q6, .ref q7])), (r1, .inl (c1, 120, .inl S1_52)), (r2, .inl (c2, 124, .inl s2)), (jT, .inr (8, [.ref t0, .int (nI (kt))])), (t0, .inl (cC, 120, .inl gT))] H_54 := kJoinX hP hD [0, 1, 2, 3, 4] rfl hk1 hFc hB.1 ht hB.2.2 rfl [some 0, some 1, some 2, some 3, some 4] rfl rfl
            have hP := hPD.1
            have hD := hPD.2
            obtain ⟨rfl, hw_55⟩ := hw
            refine lv_if_eq (tgt := 148) hx hb dX4_readUnit_141 kc_t_141_7 (fun c_56 => absurd c_56 (by decide)) (fun c_56 => ?_)
            refine lv_iconst (v := 1) hx hb dX4_readUnit_144 kc_i_1 ?_
            refine lv_goto (tgt := 149) hx hb dX4_readUnit_145 kc_t_145_4 ?_
            have hP9 := hP
            have hD9 := hD
            have hK9 := hK
            rw [hQ]
            exact W.zret (v := 1) hx hb hr rfl (fun t ht hW => ⟨⟨1, (S1_52, Wr_53, Pn_41, true, (xl_20 ++ xl_43 ++ [nI (20000 + ch_28)])), rfl, ⟨rfl, kPR_t (a := kUnitD bt kt g7 n7 (e1 + 1)) rfl (kUnitD_good hz7 (e1 + 1)) (by omega) ((kUnitD_s e1 pn).trans (by unfold kUnitF; rw [← hw_6_0, ← hw_6_1]; rw [if_neg (by omega), if_neg (by omega), hw_22.2.1.1, kTh_t]; unfold kCmp; rw [← hw_30_0, ← hw_30_1, if_pos (by omega), hw_45.2.1.1, kTh_t])) (by simp only [List.length_append, List.length_cons, List.length_nil]; omega) (kWrt3 hw_22_S hw_22_W hw_45_S hw_45_W hw_55.2), by omega⟩,  by rw [ht]; exact hP9, va_K.moved hW.alike hK9, hD9⟩, hS.F ht⟩) hS.2.2 dX4_readUnit_149
        · have hcp : ¬ (ch_28 = 61 ∨ ch_28 = 60 ∨ ch_28 = 62) := fun z9 => hw_33.mpr z9 c_34
          refine lv_iconst (v := 0) hx hb dX4_readUnit_112 kc_i_0 ?_
          have hP9 := hP
          have hD9 := hD
          have hK9 := hK
          rw [hQ]
          exact W.zret (v := 0) hx hb hr rfl (fun t ht hW => ⟨⟨0, (S1_16, Wr_17, Pn_27, false, ([])), rfl, ⟨rfl, kPR_f ((kUnitD_s e1 pn).trans (by unfold kUnitF; rw [← hw_6_0, ← hw_6_1]; rw [if_neg (by omega), if_neg (by omega), hw_22.2.1.1, kTh_t]; unfold kCmp; rw [← hw_30_0, ← hw_30_1, if_neg (by omega)])) (by omega), by omega⟩,  by rw [ht]; exact hP9, va_K.moved hW.alike hK9, hD9⟩, hS.F ht⟩) hS.2.2 dX4_readUnit_113
      · obtain rfl : xo_19 = false := kBo_f (kZr9 hw_22.1 c_23)
        have hw_22_k := hw_22.2.1.2.1
        refine lv_iconst (v := 0) hx hb dX4_readUnit_98 kc_i_0 ?_
        have hP9 := hP
        have hD9 := hD
        have hK9 := hK
        rw [hQ]
        exact W.zret (v := 0) hx hb hr rfl (fun t ht hW => ⟨⟨0, (S1_16, Wr_17, Pn_18, false, ([])), rfl, ⟨rfl, kPR_f ((kUnitD_s e1 pn).trans (by unfold kUnitF; rw [← hw_6_0, ← hw_6_1]; rw [if_neg (by omega), if_neg (by omega), hw_22.2.1.1]; rfl)) (by omega), by omega⟩,  by rw [ht]; exact hP9, va_K.moved hW.alike hK9, hD9⟩, hS.F ht⟩) hS.2.2 dX4_readUnit_99
    · have hn_57 := keq (a := ch_4) (b := 40) bd_9 kc_31_40 c_10
      refine lv_aload_n hx hb dX4_readUnit_56 rfl (lv_at hl 1 rfl) ?_
      refine lv_iload_n hx hb dX4_readUnit_57 rfl (lv_at hl 2 rfl) ?_
      have bd_58 : Pn_3 ≤ kt := by omega
      have bd_59 : Pn_3 < kt := by omega
      have bd_60 : dd < 6 := by omega
      have hCu := kCut (wc := [(jR, .inr (4, [.ref jT, .ref r1, .ref r2, .int (nI (wr)), .int (nI (fi)), .int (nI (Pn_3)), .ref q6, .ref q7])), (r1, .inl (c1, 120, .inl s1)), (r2, .inl (c2, 124, .inl s2)), (jT, .inr (8, [.ref t0, .int (nI (kt))])), (t0, .inl (cC, 120, .inl gT))]) hP hD hS hA [0, 1, 2, 3, 4] rfl kc_nd_311 rfl
      have hPc := hCu.1
      have hDc := hCu.2.1
      have hFc := hCu.2.2
      have hKc := hK.sb (tys2 := [(c1, .int), (c2, .int), (cC, .char)]) [0, 1, 2] rfl
      refine va_calli (va_runV (As := [.int (nI (dd))]) (rest := []) ⟨hx, hb, hml, hown, hts⟩ (s_opens4_g l dC dI jT t0 cC gT kt hkt hgT bt hbt hb8 jR r1 r2 c1 c2 s1 s2 wr fi q6 q7 hwr hfi Pn_3 bd_58 bd_59 dd bd_60 H_5.size) (cwV 1 hts (kG (List.forall_mem_cons.mpr ⟨(List.mem_cons_of_mem _ (List.mem_append_left _ (List.mem_of_getElem? (i := 20) rfl))), (List.forall_mem_cons.mpr ⟨(List.mem_cons_of_mem _ (List.mem_append_left _ (List.mem_of_getElem? (i := 19) rfl))), (List.forall_mem_cons.mpr ⟨(List.mem_cons_of_mem _ (List.mem_append_left _ (List.mem_of_getElem? (i := 18) rfl))), (List.forall_mem_cons.mpr ⟨(List.mem_cons_of_mem _ (List.mem_append_left _ (List.mem_of_getElem? (i := 0) rfl))), (fun _ h => absurd h List.not_mem_nil)⟩)⟩)⟩)⟩) (kGV _ _ _ _) (fun _ h => List.mem_cons_of_mem _ (List.mem_append_right _ (List.mem_append_right _ (List.mem_append_right _ (List.mem_append_right _ (List.mem_append_right _ (List.mem_append_right _ (List.mem_append_right _ (List.mem_append_right _ (List.mem_append_right _ (List.mem_append_left _ h))))))))))) gw_s_opens4_g) rfl rfl rfl ⟨rfl, hd_X4_opens⟩ ⟨(show 1 + 1 ≤ (9 + 6 * (e1 + 1)) from by omega), (show 8 + (2 + 11) + 60 * 1 ≤ 60 * (9 + 6 * (e1 + 1)) from by omega)⟩) (kW_V kT_blind kT_give (va_recv hKc hPc (ci := 4) (q0 := 0) rfl rfl) hPc hKc hDc) rfl rfl hl.1 rfl (lv_room (Nat.le_of_ble_eq_true rfl)) dX4_readUnit_58 ⟨(Nat.le_of_ble_eq_true rfl), (Nat.le_of_ble_eq_true rfl)⟩) hS (fun q _ h => hFc q h) hFc (fun r_61 Pn_62 t H_63 locs ht hvm hw hB hz1 hk1 hS => ?_)
      try dsimp only at hw
      have hPD : kPD dC dI A [(jR, .inr (4, [.ref jT, .ref r1, .ref r2, .int (nI (wr)), .int (nI (fi)), .int (nI (Pn_62)), .ref q6, .ref q7])), (r1, .inl (c1, 120, .inl s1)), (r2, .inl (c2, 124, .inl s2)), (jT, .inr (8, [.ref t0, .int (nI (kt))])), (t0, .inl (cC, 120, .inl gT))] H_63 := kJoinX hP hD [0, 1, 2, 3, 4] rfl hk1 hFc hB.1 ht hB.2.2 rfl [some 0, some 1, some 2, some 3, some 4] rfl rfl
      have hP := hPD.1
      have hD := hPD.2
      obtain ⟨rfl, hw_64⟩ := hw
      subst hw_64
      refine lv_if_eq (tgt := 88) hx hb dX4_readUnit_61 kc_t_61_27 (fun c_65 => absurd c_65 (by decide)) (fun c_65 => ?_)
      refine lv_aload_n hx hb dX4_readUnit_64 rfl (lv_at hl 1 rfl) ?_
      refine lv_iload_n hx hb dX4_readUnit_65 rfl (lv_at hl 2 rfl) ?_
      refine lv_iconst (v := 1) hx hb dX4_readUnit_66 kc_i_1 ?_
      refine lv_iadd hx hb dX4_readUnit_67 ?_
      refine lv_topi (fun y_66 ey_66 => ?_)
      obtain rfl : y_66 = nI (dd + 1) := ey_66.trans (nI_add (dd) (1))
      refine lv_iconst (v := 0) hx hb dX4_readUnit_68 kc_i_0 ?_
      have bd_67 : (Pn_3 + 1) ≤ kt := by omega
      have bd_68 : wr ≤ (Pn_3 + 1) := by omega
      have bd_69 : (dd + 1) + e1 = 6 := by omega
      have hCu := kCut (wc := [(jR, .inr (4, [.ref jT, .ref r1, .ref r2, .int (nI (wr)), .int (nI (fi)), .int (nI ((Pn_3 + 1))), .ref q6, .ref q7])), (r1, .inl (c1, 120, .inl s1)), (r2, .inl (c2, 124, .inl s2)), (jT, .inr (8, [.ref t0, .int (nI (kt))])), (t0, .inl (cC, 120, .inl gT))]) hP hD hS hA [0, 1, 2, 3, 4] rfl kc_nd_311 rfl
      have hPc := hCu.1
      have hDc := hCu.2.1
      have hFc := hCu.2.2
      have hKc := hK.sb (tys2 := [(c1, .int), (c2, .int), (cC, .char)]) [0, 1, 2] rfl
      refine va_calli (va_runV (As := [.int (nI (dd + 1)), .int 0]) (rest := []) ⟨hx, hb, hml, hown, hts⟩ (ih.2.2 l dC dI jT t0 cC gT kt hkt hgT bt hbt hb8 jR r1 r2 c1 c2 s1 s2 wr fi q6 q7 hwr hfi (Pn_3 + 1) bd_67 bd_68 b6 n6 g6 hn6 b7 n7 g7 hn7 gn6 hz6 gn7 hz7 (dd + 1) bd_69 H_63.size) (cwV 2 hts (kG (List.forall_mem_cons.mpr ⟨(List.mem_cons_of_mem _ (List.mem_append_left _ (List.mem_of_getElem? (i := 49) rfl))), (List.forall_mem_cons.mpr ⟨(List.mem_cons_of_mem _ (List.mem_append_left _ (List.mem_of_getElem? (i := 48) rfl))), (List.forall_mem_cons.mpr ⟨(List.mem_cons_of_mem _ (List.mem_append_left _ (List.mem_of_getElem? (i := 47) rfl))), (List.forall_mem_cons.mpr ⟨(List.mem_cons_of_mem _ (List.mem_append_left _ (List.mem_of_getElem? (i := 0) rfl))), (fun _ h => absurd h List.not_mem_nil)⟩)⟩)⟩)⟩) (kGV _ _ _ _) (kFam (List.mem_cons_of_mem _ (List.mem_append_left _ (List.mem_of_getElem? (i := 46) rfl)))) gw_s_cond4x_I_0) rfl rfl rfl ⟨rfl, hd_X4_readCondition⟩ ⟨(show (11 + 6 * e1) + 1 ≤ (9 + 6 * (e1 + 1)) from by omega), (show 8 + (4 + 11) + 60 * (11 + 6 * e1) ≤ 60 * (9 + 6 * (e1 + 1)) from by omega)⟩) (kW_V kS2_blind (kS2_give hX hS hFc) (va_recv hKc hPc (ci := 4) (q0 := 0) rfl rfl) hPc hKc hDc) rfl rfl hl.1 rfl (lv_room (Nat.le_of_ble_eq_true rfl)) dX4_readUnit_69 ⟨(Nat.le_of_ble_eq_true rfl), (Nat.le_of_ble_eq_true rfl)⟩) hS (fun q _ h => hFc q h) hFc (fun r_70 => kU5 (fun S1_71 Wr_72 Pn_73 xo_74 xl_75 t H_76 locs ht hvm hw hB hz1 hk1 hS => ?_))
      try dsimp only at hw
      have hPD : kPD dC dI A [(jR, .inr (4, [.ref jT, .ref r1, .ref r2, .int (nI (Wr_72)), .int (nI (fi)), .int (nI (Pn_73)), .ref q6, .ref q7])), (r1, .inl (c1, 120, .inl S1_71)), (r2, .inl (c2, 124, .inl s2)), (jT, .inr (8, [.ref t0, .int (nI (kt))])), (t0, .inl (cC, 120, .inl gT))] H_76 := kJoinX hP hD [0, 1, 2, 3, 4] rfl hk1 hFc hB.1 ht hB.2.2 rfl [some 0, some 1, some 2, some 3, some 4] rfl rfl
      have hP := hPD.1
      have hD := hPD.2
      have hw_77 := hw
      refine lv_if_eq (tgt := 88) hx hb dX4_readUnit_72 kc_t_72_16 (fun c_78 => ?_) (fun c_78 => ?_)
      · obtain rfl : xo_74 = false := kBo_f (kZr9 hw_77.1 c_78)
        have hw_77_k := hw_77.2.1.2.1
        refine lv_iconst (v := 0) hx hb dX4_readUnit_88 kc_i_0 ?_
        have hP9 := hP
        have hD9 := hD
        have hK9 := hK
        rw [hQ]
        exact W.zret (v := 0) hx hb hr rfl (fun t ht hW => ⟨⟨0, (S1_71, Wr_72, Pn_73, false, ([])), rfl, ⟨rfl, kPR_f ((kUnitD_s e1 pn).trans (by unfold kUnitF; rw [← hw_6_0, ← hw_6_1]; rw [if_neg (by omega), if_pos (by omega), if_pos rfl, hw_77.2.1.1]; rfl)) (by omega), by omega⟩,  by rw [ht]; exact hP9, va_K.moved hW.alike hK9, hD9⟩, hS.F ht⟩) hS.2.2 dX4_readUnit_89
      · obtain rfl : xo_74 = true := kBo_t (kNz9 hw_77.1 c_78)
        obtain ⟨hw_77_W, hw_77_S, hw_77_l, hw_77_p⟩ := hw_77.2.1.2.2 rfl
        have hw_77_k := hw_77.2.1.2.1
        refine lv_aload_n hx hb dX4_readUnit_75 rfl (lv_at hl 1 rfl) ?_
        refine lv_bipush (v := 41) hx hb dX4_readUnit_76 kc_b_41 ?_
        have bd_79 : Wr_72 ≤ 120 := by omega
        have bd_80 : Pn_73 ≤ kt := by omega
        have hCu := kCut (wc := [(jR, .inr (4, [.ref jT, .ref r1, .ref r2, .int (nI (Wr_72)), .int (nI (fi)), .int (nI (Pn_73)), .ref q6, .ref q7])), (r1, .inl (c1, 120, .inl S1_71)), (r2, .inl (c2, 124, .inl s2)), (jT, .inr (8, [.ref t0, .int (nI (kt))])), (t0, .inl (cC, 120, .inl gT))]) hP hD hS hA [0, 1, 2, 3, 4] rfl kc_nd_311 rfl
        have hPc := hCu.1
        have hDc := hCu.2.1
        have hFc := hCu.2.2
        have hKc := hK.sb (tys2 := [(c1, .int), (c2, .int), (cC, .char)]) [0, 1, 2] rfl
        refine va_calli (va_runV (As := [.int 41]) (rest := []) ⟨hx, hb, hml, hown, hts⟩ (s_take4_41 l dC dI jT t0 cC gT kt hkt hgT bt hbt hb8 jR r1 r2 c1 c2 S1_71 s2 Wr_72 fi q6 q7 bd_79 hfi Pn_73 bd_80 H_76.size) (cwV 1 hts (kG (List.forall_mem_cons.mpr ⟨(List.mem_cons_of_mem _ (List.mem_append_left _ (List.mem_of_getElem? (i := 45) rfl))), (List.forall_mem_cons.mpr ⟨(List.mem_cons_of_mem _ (List.mem_append_left _ (List.mem_of_getElem? (i := 44) rfl))), (List.forall_mem_cons.mpr ⟨(List.mem_cons_of_mem _ (List.mem_append_left _ (List.mem_of_getElem? (i := 43) rfl))), (List.forall_mem_cons.mpr ⟨(List.mem_cons_of_mem _ (List.mem_append_left _ (List.mem_of_getElem? (i := 0) rfl))), (fun _ h => absurd h List.not_mem_nil)⟩)⟩)⟩)⟩) (kGV _ _ _ _) (fun _ h => List.mem_cons_of_mem _ (List.mem_append_right _ (List.mem_append_right _ (List.mem_append_right _ (List.mem_append_right _ (List.mem_append_right _ (List.mem_append_right _ (List.mem_append_right _ (List.mem_append_right _ (List.mem_append_right _ (List.mem_append_right _ (List.mem_append_right _ (List.mem_append_left _ h))))))))))))) gw_s_take4_41) rfl rfl rfl ⟨rfl, hd_X4_take⟩ ⟨(show 3 + 1 ≤ (9 + 6 * (e1 + 1)) from by omega), (show 8 + (2 + 11) + 60 * 3 ≤ 60 * (9 + 6 * (e1 + 1)) from by omega)⟩) (kW_V kT_blind kT_give (va_recv hKc hPc (ci := 4) (q0 := 0) rfl rfl) hPc hKc hDc) rfl rfl hl.1 rfl (lv_room (Nat.le_of_ble_eq_true rfl)) dX4_readUnit_78 ⟨(Nat.le_of_ble_eq_true rfl), (Nat.le_of_ble_eq_true rfl)⟩) hS (fun q _ h => hFc q h) hFc (fun r_81 => kU2 (fun Pn_82 xo_83 t H_84 locs ht hvm hw hB hz1 hk1 hS => ?_))
        try dsimp only at hw
        have hPD : kPD dC dI A [(jR, .inr (4, [.ref jT, .ref r1, .ref r2, .int (nI (Wr_72)), .int (nI (fi)), .int (nI (Pn_82)), .ref q6, .ref q7])), (r1, .inl (c1, 120, .inl S1_71)), (r2, .inl (c2, 124, .inl s2)), (jT, .inr (8, [.ref t0, .int (nI (kt))])), (t0, .inl (cC, 120, .inl gT))] H_84 := kJoinX hP hD [0, 1, 2, 3, 4] rfl hk1 hFc hB.1 ht hB.2.2 rfl [some 0, some 1, some 2, some 3, some 4] rfl rfl
        have hP := hPD.1
        have hD := hPD.2
        have hw_85 := hw
        refine lv_if_eq (tgt := 88) hx hb dX4_readUnit_81 kc_t_81_7 (fun c_86 => ?_) (fun c_86 => ?_)
        · obtain rfl : xo_83 = false := kBo_f (kZr9 hw_85.1 c_86)
          have hw_85_k := hw_85.2.2.2.1
          refine lv_iconst (v := 0) hx hb dX4_readUnit_88 kc_i_0 ?_
          have hP9 := hP
          have hD9 := hD
          have hK9 := hK
          rw [hQ]
          exact W.zret (v := 0) hx hb hr rfl (fun t ht hW => ⟨⟨0, (S1_71, Wr_72, Pn_82, false, ([])), rfl, ⟨rfl, kPR_f ((kUnitD_s e1 pn).trans (by unfold kUnitF; rw [← hw_6_0, ← hw_6_1]; rw [if_neg (by omega), if_pos (by omega), if_pos rfl, hw_77.2.1.1, kTh_t]; exact kTk_n _ hw_85.2.1)) (by omega), by omega⟩,  by rw [ht]; exact hP9, va_K.moved hW.alike hK9, hD9⟩, hS.F ht⟩) hS.2.2 dX4_readUnit_89
        · obtain rfl : xo_83 = true := kBo_t (kNz9 hw_85.1 c_86)
          have hw_85_p := hw_85.2.2.2.2 rfl
          have hw_85_k := hw_85.2.2.2.1
          refine lv_iconst (v := 1) hx hb dX4_readUnit_84 kc_i_1 ?_
          refine lv_goto (tgt := 89) hx hb dX4_readUnit_85 kc_t_85_4 ?_
          have hP9 := hP
          have hD9 := hD
          have hK9 := hK
          rw [hQ]
          exact W.zret (v := 1) hx hb hr rfl (fun t ht hW => ⟨⟨1, (S1_71, Wr_72, Pn_82, true, xl_75), rfl, ⟨rfl, kPR_t (a := kUnitD bt kt g7 n7 (e1 + 1)) rfl (kUnitD_good hz7 (e1 + 1)) (by omega) ((kUnitD_s e1 pn).trans (by unfold kUnitF; rw [← hw_6_0, ← hw_6_1]; rw [if_neg (by omega), if_pos (by omega), if_pos rfl, hw_77.2.1.1, kTh_t]; exact kTk_l _ hw_85.2.1)) hw_77_W hw_77_S, by omega⟩,  by rw [ht]; exact hP9, va_K.moved hW.alike hK9, hD9⟩, hS.F ht⟩) hS.2.2 dX4_readUnit_89
  · have bd_88 : ch_4 < 2147483648 := by omega
    have hn_87 := keq (a := ch_4) (b := 33) bd_88 kc_31_33 c_7
    refine lv_aload_n hx hb dX4_readUnit_15 rfl (lv_at hl 1 rfl) ?_
    refine lv_iload_n hx hb dX4_readUnit_16 rfl (lv_at hl 2 rfl) ?_
    have bd_89 : Pn_3 ≤ kt := by omega
    have bd_90 : Pn_3 < kt := by omega
    have bd_91 : dd < 6 := by omega
    have hCu := kCut (wc := [(jR, .inr (4, [.ref jT, .ref r1, .ref r2, .int (nI (wr)), .int (nI (fi)), .int (nI (Pn_3)), .ref q6, .ref q7])), (r1, .inl (c1, 120, .inl s1)), (r2, .inl (c2, 124, .inl s2)), (jT, .inr (8, [.ref t0, .int (nI (kt))])), (t0, .inl (cC, 120, .inl gT))]) hP hD hS hA [0, 1, 2, 3, 4] rfl kc_nd_311 rfl
    have hPc := hCu.1
    have hDc := hCu.2.1
    have hFc := hCu.2.2
    have hKc := hK.sb (tys2 := [(c1, .int), (c2, .int), (cC, .char)]) [0, 1, 2] rfl
    refine va_calli (va_runV (As := [.int (nI (dd))]) (rest := []) ⟨hx, hb, hml, hown, hts⟩ (s_opens4_g l dC dI jT t0 cC gT kt hkt hgT bt hbt hb8 jR r1 r2 c1 c2 s1 s2 wr fi q6 q7 hwr hfi Pn_3 bd_89 bd_90 dd bd_91 H_5.size) (cwV 1 hts (kG (List.forall_mem_cons.mpr ⟨(List.mem_cons_of_mem _ (List.mem_append_left _ (List.mem_of_getElem? (i := 20) rfl))), (List.forall_mem_cons.mpr ⟨(List.mem_cons_of_mem _ (List.mem_append_left _ (List.mem_of_getElem? (i := 19) rfl))), (List.forall_mem_cons.mpr ⟨(List.mem_cons_of_mem _ (List.mem_append_left _ (List.mem_of_getElem? (i := 18) rfl))), (List.forall_mem_cons.mpr ⟨(List.mem_cons_of_mem _ (List.mem_append_left _ (List.mem_of_getElem? (i := 0) rfl))), (fun _ h => absurd h List.not_mem_nil)⟩)⟩)⟩)⟩) (kGV _ _ _ _) (fun _ h => List.mem_cons_of_mem _ (List.mem_append_right _ (List.mem_append_right _ (List.mem_append_right _ (List.mem_append_right _ (List.mem_append_right _ (List.mem_append_right _ (List.mem_append_right _ (List.mem_append_right _ (List.mem_append_right _ (List.mem_append_left _ h))))))))))) gw_s_opens4_g) rfl rfl rfl ⟨rfl, hd_X4_opens⟩ ⟨(show 1 + 1 ≤ (9 + 6 * (e1 + 1)) from by omega), (show 8 + (2 + 11) + 60 * 1 ≤ 60 * (9 + 6 * (e1 + 1)) from by omega)⟩) (kW_V kT_blind kT_give (va_recv hKc hPc (ci := 4) (q0 := 0) rfl rfl) hPc hKc hDc) rfl rfl hl.1 rfl (lv_room (Nat.le_of_ble_eq_true rfl)) dX4_readUnit_17 ⟨(Nat.le_of_ble_eq_true rfl), (Nat.le_of_ble_eq_true rfl)⟩) hS (fun q _ h => hFc q h) hFc (fun r_92 Pn_93 t H_94 locs ht hvm hw hB hz1 hk1 hS => ?_)
    try dsimp only at hw
    have hPD : kPD dC dI A [(jR, .inr (4, [.ref jT, .ref r1, .ref r2, .int (nI (wr)), .int (nI (fi)), .int (nI (Pn_93)), .ref q6, .ref q7])), (r1, .inl (c1, 120, .inl s1)), (r2, .inl (c2, 124, .inl s2)), (jT, .inr (8, [.ref t0, .int (nI (kt))])), (t0, .inl (cC, 120, .inl gT))] H_94 := kJoinX hP hD [0, 1, 2, 3, 4] rfl hk1 hFc hB.1 ht hB.2.2 rfl [some 0, some 1, some 2, some 3, some 4] rfl rfl
    have hP := hPD.1
    have hD := hPD.2
    obtain ⟨rfl, hw_95⟩ := hw
    subst hw_95
    refine lv_if_eq (tgt := 48) hx hb dX4_readUnit_20 kc_t_20_28 (fun c_96 => absurd c_96 (by decide)) (fun c_96 => ?_)
    refine lv_aload_n hx hb dX4_readUnit_23 rfl (lv_at hl 1 rfl) ?_
    refine lv_iload_n hx hb dX4_readUnit_24 rfl (lv_at hl 2 rfl) ?_
    refine lv_iconst (v := 1) hx hb dX4_readUnit_25 kc_i_1 ?_
    refine lv_iadd hx hb dX4_readUnit_26 ?_
    refine lv_topi (fun y_97 ey_97 => ?_)
    obtain rfl : y_97 = nI (dd + 1) := ey_97.trans (nI_add (dd) (1))
    refine lv_iconst (v := 0) hx hb dX4_readUnit_27 kc_i_0 ?_
    have bd_98 : (Pn_3 + 1) ≤ kt := by omega
    have bd_99 : wr ≤ (Pn_3 + 1) := by omega
    have bd_100 : (dd + 1) + e1 = 6 := by omega
    have hCu := kCut (wc := [(jR, .inr (4, [.ref jT, .ref r1, .ref r2, .int (nI (wr)), .int (nI (fi)), .int (nI ((Pn_3 + 1))), .ref q6, .ref q7])), (r1, .inl (c1, 120, .inl s1)), (r2, .inl (c2, 124, .inl s2)), (jT, .inr (8, [.ref t0, .int (nI (kt))])), (t0, .inl (cC, 120, .inl gT))]) hP hD hS hA [0, 1, 2, 3, 4] rfl kc_nd_311 rfl
    have hPc := hCu.1
    have hDc := hCu.2.1
    have hFc := hCu.2.2
    have hKc := hK.sb (tys2 := [(c1, .int), (c2, .int), (cC, .char)]) [0, 1, 2] rfl
    refine va_calli (va_runV (As := [.int (nI (dd + 1)), .int 0]) (rest := []) ⟨hx, hb, hml, hown, hts⟩ (ih.2.1 l dC dI jT t0 cC gT kt hkt hgT bt hbt hb8 jR r1 r2 c1 c2 s1 s2 wr fi q6 q7 hwr hfi (Pn_3 + 1) bd_98 bd_99 b6 n6 g6 hn6 b7 n7 g7 hn7 gn6 hz6 gn7 hz7 (dd + 1) bd_100 H_94.size) (cwV 2 hts (kG (List.forall_mem_cons.mpr ⟨(List.mem_cons_of_mem _ (List.mem_append_left _ (List.mem_of_getElem? (i := 38) rfl))), (List.forall_mem_cons.mpr ⟨(List.mem_cons_of_mem _ (List.mem_append_left _ (List.mem_of_getElem? (i := 37) rfl))), (List.forall_mem_cons.mpr ⟨(List.mem_cons_of_mem _ (List.mem_append_left _ (List.mem_of_getElem? (i := 36) rfl))), (List.forall_mem_cons.mpr ⟨(List.mem_cons_of_mem _ (List.mem_append_left _ (List.mem_of_getElem? (i := 0) rfl))), (fun _ h => absurd h List.not_mem_nil)⟩)⟩)⟩)⟩) (kGV _ _ _ _) (kFam (List.mem_cons_of_mem _ (List.mem_append_left _ (List.mem_of_getElem? (i := 35) rfl)))) gw_s_unit4x_I_0) rfl rfl rfl ⟨rfl, hd_X4_readUnit⟩ ⟨(show (9 + 6 * e1) + 1 ≤ (9 + 6 * (e1 + 1)) from by omega), (show 8 + (4 + 11) + 60 * (9 + 6 * e1) ≤ 60 * (9 + 6 * (e1 + 1)) from by omega)⟩) (kW_V kS2_blind (kS2_give hX hS hFc) (va_recv hKc hPc (ci := 4) (q0 := 0) rfl rfl) hPc hKc hDc) rfl rfl hl.1 rfl (lv_room (Nat.le_of_ble_eq_true rfl)) dX4_readUnit_28 ⟨(Nat.le_of_ble_eq_true rfl), (Nat.le_of_ble_eq_true rfl)⟩) hS (fun q _ h => hFc q h) hFc (fun r_101 => kU5 (fun S1_102 Wr_103 Pn_104 xo_105 xl_106 t H_107 locs ht hvm hw hB hz1 hk1 hS => ?_))
    try dsimp only at hw
    have hPD : kPD dC dI A [(jR, .inr (4, [.ref jT, .ref r1, .ref r2, .int (nI (Wr_103)), .int (nI (fi)), .int (nI (Pn_104)), .ref q6, .ref q7])), (r1, .inl (c1, 120, .inl S1_102)), (r2, .inl (c2, 124, .inl s2)), (jT, .inr (8, [.ref t0, .int (nI (kt))])), (t0, .inl (cC, 120, .inl gT))] H_107 := kJoinX hP hD [0, 1, 2, 3, 4] rfl hk1 hFc hB.1 ht hB.2.2 rfl [some 0, some 1, some 2, some 3, some 4] rfl rfl
    have hP := hPD.1
    have hD := hPD.2
    have hw_108 := hw
    refine lv_if_eq (tgt := 48) hx hb dX4_readUnit_31 kc_t_31_17 (fun c_109 => ?_) (fun c_109 => ?_)
    · obtain rfl : xo_105 = false := kBo_f (kZr9 hw_108.1 c_109)
      have hw_108_k := hw_108.2.1.2.1
      refine lv_iconst (v := 0) hx hb dX4_readUnit_48 kc_i_0 ?_
      have hP9 := hP
      have hD9 := hD
      have hK9 := hK
      rw [hQ]
      exact W.zret (v := 0) hx hb hr rfl (fun t ht hW => ⟨⟨0, (S1_102, Wr_103, Pn_104, false, ([])), rfl, ⟨rfl, kPR_f ((kUnitD_s e1 pn).trans (by unfold kUnitF; rw [← hw_6_0, ← hw_6_1]; rw [if_pos (by omega), if_pos rfl, hw_108.2.1.1]; rfl)) (by omega), by omega⟩,  by rw [ht]; exact hP9, va_K.moved hW.alike hK9, hD9⟩, hS.F ht⟩) hS.2.2 dX4_readUnit_49
    · obtain rfl : xo_105 = true := kBo_t (kNz9 hw_108.1 c_109)
      obtain ⟨hw_108_W, hw_108_S, hw_108_l, hw_108_p⟩ := hw_108.2.1.2.2 rfl
      have hw_108_k := hw_108.2.1.2.1
      refine lv_aload_n hx hb dX4_readUnit_34 rfl (lv_at hl 1 rfl) ?_
      refine lv_sipush (v := 20033) hx hb dX4_readUnit_35 kc_s_20033 ?_
      have bd_110 : Wr_103 ≤ 120 := by omega
      have bd_111 : Pn_104 ≤ kt := by omega
      have bd_112 : Wr_103 < 120 := by omega
      have hCu := kCut (wc := [(jR, .inr (4, [.ref jT, .ref r1, .ref r2, .int (nI (Wr_103)), .int (nI (fi)), .int (nI (Pn_104)), .ref q6, .ref q7])), (r1, .inl (c1, 120, .inl S1_102)), (r2, .inl (c2, 124, .inl s2)), (jT, .inr (8, [.ref t0, .int (nI (kt))])), (t0, .inl (cC, 120, .inl gT))]) hP hD hS hA [0, 1, 2, 3, 4] rfl kc_nd_311 rfl
      have hPc := hCu.1
      have hDc := hCu.2.1
      have hFc := hCu.2.2
      have hKc := hK.sb (tys2 := [(c1, .int), (c2, .int), (cC, .char)]) [0, 1, 2] rfl
      refine va_calli (va_runV (As := [.int 20033]) (rest := []) ⟨hx, hb, hml, hown, hts⟩ (s_write4x l dC dI jT t0 cC gT kt hkt hgT bt hbt hb8 jR r1 r2 c1 c2 S1_102 s2 Wr_103 fi q6 q7 bd_110 hfi Pn_104 bd_111 20033 bd_112 H_107.size) (cwV 1 hts (kG (List.forall_mem_cons.mpr ⟨(List.mem_cons_of_mem _ (List.mem_append_left _ (List.mem_of_getElem? (i := 14) rfl))), (List.forall_mem_cons.mpr ⟨(List.mem_cons_of_mem _ (List.mem_append_left _ (List.mem_of_getElem? (i := 13) rfl))), (List.forall_mem_cons.mpr ⟨(List.mem_cons_of_mem _ (List.mem_append_left _ (List.mem_of_getElem? (i := 12) rfl))), (List.forall_mem_cons.mpr ⟨(List.mem_cons_of_mem _ (List.mem_append_left _ (List.mem_of_getElem? (i := 0) rfl))), (fun _ h => absurd h List.not_mem_nil)⟩)⟩)⟩)⟩) (kGV _ _ _ _) (fun _ h => List.mem_cons_of_mem _ (List.mem_append_right _ (List.mem_append_right _ (List.mem_append_right _ (List.mem_append_right _ (List.mem_append_right _ (List.mem_append_left _ h))))))) gw_s_write4x) rfl rfl rfl ⟨rfl, hd_X4_write⟩ ⟨(show 1 + 1 ≤ (9 + 6 * (e1 + 1)) from by omega), (show 8 + (2 + 11) + 60 * 1 ≤ 60 * (9 + 6 * (e1 + 1)) from by omega)⟩) (kW_V kT_blind kT_give (va_recv hKc hPc (ci := 4) (q0 := 0) rfl rfl) hPc hKc hDc) rfl rfl hl.1 rfl (lv_room (Nat.le_of_ble_eq_true rfl)) dX4_readUnit_38 ⟨(Nat.le_of_ble_eq_true rfl), (Nat.le_of_ble_eq_true rfl)⟩) hS (fun q _ h => hFc q h) hFc (fun r_113 => kU2 (fun S1_114 Wr_115 t H_116 locs ht hvm hw hB hz1 hk1 hS => ?_))
      try dsimp only at hw
      have hPD : kPD dC dI A [(jR, .inr (4, [.ref jT, .ref r1, .ref r2, .int (nI (Wr_115)), .int (nI (fi)), .int (nI (Pn_104)), .ref q6, .ref q7])), (r1, .inl (c1, 120, .inl S1_114)), (r2, .inl (c2, 124, .inl s2)), (jT, .inr (8, [.ref t0, .int (nI (kt))])), (t0, .inl (cC, 120, .inl gT))] H_116 := kJoinX hP hD [0, 1, 2, 3, 4] rfl hk1 hFc hB.1 ht hB.2.2 rfl [some 0, some 1, some 2, some 3, some 4] rfl rfl
      have hP := hPD.1
      have hD := hPD.2
      obtain ⟨rfl, hw_117⟩ := hw
      refine lv_if_eq (tgt := 48) hx hb dX4_readUnit_41 kc_t_41_7 (fun c_118 => absurd c_118 (by decide)) (fun c_118 => ?_)
      refine lv_iconst (v := 1) hx hb dX4_readUnit_44 kc_i_1 ?_
      refine lv_goto (tgt := 49) hx hb dX4_readUnit_45 kc_t_45_4 ?_
      have hP9 := hP
      have hD9 := hD
      have hK9 := hK
      rw [hQ]
      exact W.zret (v := 1) hx hb hr rfl (fun t ht hW => ⟨⟨1, (S1_114, Wr_115, Pn_104, true, (xl_106 ++ [20033])), rfl, ⟨rfl, kPR_t (a := kUnitD bt kt g7 n7 (e1 + 1)) rfl (kUnitD_good hz7 (e1 + 1)) (by omega) ((kUnitD_s e1 pn).trans (by unfold kUnitF; rw [← hw_6_0, ← hw_6_1]; rw [if_pos (by omega), if_pos rfl, hw_108.2.1.1, kTh_t])) (by simp only [List.length_append, List.length_cons, List.length_nil]; omega) (kWrt2 hw_108_S hw_108_W hw_117.2), by omega⟩,  by rw [ht]; exact hP9, va_K.moved hW.alike hK9, hD9⟩, hS.F ht⟩) hS.2.2 dX4_readUnit_49

def w_s_unit4x_g_1 : List Cond := .code yX4_readUnit cX4_readUnit 4 (some .boolean) :: wf_rq
theorem gw_s_unit4x_g_1 : (w_s_unit4x_g_1).all goodWord = true := kFamG rfl gf_rq
set_option maxHeartbeats 4000000 in
set_option maxRecDepth 100000 in
theorem s_unit4x_g_1 (l : Launch) (dC : Nat → ClassId) (dI : Nat → Nat → Nat) (jT : Nat) (t0 : Nat) (cC : ClassId) (gT : Nat → Int32) (kt : Nat) (hkt : kt ≤ 120) (hgT : ∀ j : Nat, narrow .char (.int (gT j)) = .int (gT j)) (bt : Nat → Nat) (hbt : ∀ j : Nat, gT j = nI (bt j)) (hb8 : ∀ j : Nat, bt j < 256) (jR : Nat) (r1 : Nat) (r2 : Nat) (c1 : ClassId) (c2 : ClassId) (s1 : Nat → Int32) (s2 : Nat → Int32) (wr : Nat) (fi : Nat) (q6 : Nat) (q7 : Nat) (hwr : wr ≤ 120) (hfi : fi ≤ 124) (pn : Nat) (hpn : pn ≤ kt) (hwp : wr ≤ pn) (b6 : Nat) (n6 : Nat) (g6 : Nat → Int32) (hn6 : n6 ≤ 8) (b7 : Nat) (n7 : Nat) (g7 : Nat → Int32) (hn7 : n7 ≤ 8) (gn6 : ∀ k : Nat, ∃ v : Nat, v < 128 ∧ g6 k = nI v) (hz6 : kIx g6 n6 (nI 0) = n6) (gn7 : ∀ k : Nat, ∃ v : Nat, v < 128 ∧ g7 k = nI v) (hz7 : kIx g7 n7 (nI 0) = n7) (e1 : Nat) (dd : Nat) (hdd : dd + e1 = 5) (ih : kIHq e1) (sz : Nat) : Met l yX4_readUnit w_s_unit4x_g_1 ({ frames := (9 + 6 * (e1 + 1)), cells := 0, slots := 0, locals := 60 * (9 + 6 * (e1 + 1)) }) (kW dC dI [.ref jR, .int (nI (dd)), .int 1] [(jR, .inr (4, [.ref jT, .ref r1, .ref r2, .int (nI (wr)), .int (nI (fi)), .int (nI (pn)), .ref q6, .ref q7])), (r1, .inl (c1, 120, .inl s1)), (r2, .inl (c2, 124, .inl s2)), (jT, .inr (8, [.ref t0, .int (nI (kt))])), (t0, .inl (cC, 120, .inl gT))] [(c1, .int), (c2, .int), (cC, .char)] (kS2 q6 b6 n6 g6 q7 b7 n7 g7 (va_A [(jR, .inr (4, [.ref jT, .ref r1, .ref r2, .int (nI (wr)), .int (nI (fi)), .int (nI (pn)), .ref q6, .ref q7])), (r1, .inl (c1, 120, .inl s1)), (r2, .inl (c2, 124, .inl s2)), (jT, .inr (8, [.ref t0, .int (nI (kt))])), (t0, .inl (cC, 120, .inl gT))] sz)) sz) (va_Qi (fun (r : Int32) (u : (Nat → Int32) × Nat × Nat × Bool × (List Int32)) => match u with | (S1, Wr, Pn, xo, xl) => (r = kBo xo ∧ kPR (kUnitZ bt kt g7 n7 (e1 + 1) pn) pn kt wr s1 xo Pn xl Wr S1 ∧ Wr ≤ 120)) (fun (u : (Nat → Int32) × Nat × Nat × Bool × (List Int32)) => match u with | (S1, Wr, Pn, xo, xl) => fun t : State => kB dC dI [(jR, .inr (4, [.ref jT, .ref r1, .ref r2, .int (nI (Wr)), .int (nI (fi)), .int (nI (Pn)), .ref q6, .ref q7])), (r1, .inl (c1, 120, .inl S1)), (r2, .inl (c2, 124, .inl s2)), (jT, .inr (8, [.ref t0, .int (nI (kt))])), (t0, .inl (cC, 120, .inl gT))] [(c1, .int), (c2, .int), (cC, .char)] (va_A [(jR, .inr (4, [.ref jT, .ref r1, .ref r2, .int (nI (wr)), .int (nI (fi)), .int (nI (pn)), .ref q6, .ref q7])), (r1, .inl (c1, 120, .inl s1)), (r2, .inl (c2, 124, .inl s2)), (jT, .inr (8, [.ref t0, .int (nI (kt))])), (t0, .inl (cC, 120, .inl gT))] sz) t) (va_A [(jR, .inr (4, [.ref jT, .ref r1, .ref r2, .int (nI (wr)), .int (nI (fi)), .int (nI (pn)), .ref q6, .ref q7])), (r1, .inl (c1, 120, .inl s1)), (r2, .inl (c2, 124, .inl s2)), (jT, .inr (8, [.ref t0, .int (nI (kt))])), (t0, .inl (cC, 120, .inl gT))] sz)) 0 0 (va_A [(jR, .inr (4, [.ref jT, .ref r1, .ref r2, .int (nI (wr)), .int (nI (fi)), .int (nI (pn)), .ref q6, .ref q7])), (r1, .inl (c1, 120, .inl s1)), (r2, .inl (c2, 124, .inl s2)), (jT, .inr (8, [.ref t0, .int (nI (kt))])), (t0, .inl (cC, 120, .inl gT))] sz) := by
  refine Met.ofW (cc := cX4_readUnit) (maxL := 4) (ret := (some .boolean)) (by decide) rfl ?_
  intro p e s m args below meth c s₁ B hml hv
  obtain ⟨rfl, hsz, hP, hK, hD0, hX⟩ := hv
  have hx := B.exec
  have hb := B.bytes
  have hr := B.returns
  have hts := atoms_spec (ws := w_s_unit4x_g_1) B.pre
  have hown : s.vm.findClass RX4 = some m.cls := findClass_of_methodNamed B.named
  have hlocks := B.notSynchronized
  subst hsz
  have hD := hD0.self (sz := s.heap.size)
  generalize hAe : va_A [(jR, .inr (4, [.ref jT, .ref r1, .ref r2, .int (nI (wr)), .int (nI (fi)), .int (nI (pn)), .ref q6, .ref q7])), (r1, .inl (c1, 120, .inl s1)), (r2, .inl (c2, 124, .inl s2)), (jT, .inr (8, [.ref t0, .int (nI (kt))])), (t0, .inl (cC, 120, .inl gT))] s.heap.size = A at hD hX ⊢
  have hA : ∀ q : Nat, s.heap.size ≤ q → A q := fun q h => by rw [← hAe]; exact Or.inr h
  have hS : va_S A s.heap s.heap [] := va_S.rf
  have hP : va_P (dC, dI) vwCl [(jR, .inr (4, [.ref jT, .ref r1, .ref r2, .int (nI (wr)), .int (nI (fi)), .int (nI (pn)), .ref q6, .ref q7])), (r1, .inl (c1, 120, .inl s1)), (r2, .inl (c2, 124, .inl s2)), (jT, .inr (8, [.ref t0, .int (nI (kt))])), (t0, .inl (cC, 120, .inl gT))] s.heap := hP
  have hl := lv_entry ([.ref jR, .int (nI (dd)), .int 1]) (n := 4) (Nat.le_of_ble_eq_true rfl)
  rw [lg_entry_eq]
  generalize (lg_sl ([.ref jR, .int (nI (dd)), .int 1]) ++ List.replicate (4 - (lg_sl ([.ref jR, .int (nI (dd)), .int 1])).length) Slot.unset).toArray = ls at hl ⊢
  have hl : lv_has ls 4 [(0, .ref jR), (1, .int (nI (dd))), (2, .int 1)] := hl
  refine kQ (fun Q hQ => ?_)
  refine lv_iload_n hx hb dX4_readUnit_0 rfl (lv_at hl 2 rfl) ?_
  refine lv_if_ne (tgt := 100) hx hb dX4_readUnit_1 kc_t_1_99 (fun c_1 => ?_) (fun c_1 => absurd c_1 (by decide))
  refine lv_aload_n hx hb dX4_readUnit_100 rfl (lv_at hl 0 rfl) ?_
  have hCu := kCut (wc := [(jR, .inr (4, [.ref jT, .ref r1, .ref r2, .int (nI (wr)), .int (nI (fi)), .int (nI (pn)), .ref q6, .ref q7])), (r1, .inl (c1, 120, .inl s1)), (r2, .inl (c2, 124, .inl s2)), (jT, .inr (8, [.ref t0, .int (nI (kt))])), (t0, .inl (cC, 120, .inl gT))]) hP hD hS hA [0, 1, 2, 3, 4] rfl kc_nd_311 rfl
  have hPc := hCu.1
  have hDc := hCu.2.1
  have hFc := hCu.2.2
  have hKc := hK.sb (tys2 := [(c1, .int), (c2, .int), (cC, .char)]) [0, 1, 2] rfl
  refine va_calli (va_runV (As := []) (rest := []) ⟨hx, hb, hml, hown, hts⟩ (s_look4x l dC dI jT t0 cC gT kt hkt hgT bt hbt hb8 jR r1 r2 c1 c2 s1 s2 wr fi q6 q7 hwr hfi pn hpn s.heap.size) (cwV 0 hts (kG (List.forall_mem_cons.mpr ⟨(List.mem_cons_of_mem _ (List.mem_append_left _ (List.mem_of_getElem? (i := 3) rfl))), (List.forall_mem_cons.mpr ⟨(List.mem_cons_of_mem _ (List.mem_append_left _ (List.mem_of_getElem? (i := 2) rfl))), (List.forall_mem_cons.mpr ⟨(List.mem_cons_of_mem _ (List.mem_append_left _ (List.mem_of_getElem? (i := 1) rfl))), (List.forall_mem_cons.mpr ⟨(List.mem_cons_of_mem _ (List.mem_append_left _ (List.mem_of_getElem? (i := 0) rfl))), (fun _ h => absurd h List.not_mem_nil)⟩)⟩)⟩)⟩) (kGV _ _ _ _) (fun _ h => List.mem_cons_of_mem _ (List.mem_append_right _ (List.mem_append_left _ h))) gw_s_look4x) rfl rfl rfl ⟨rfl, hd_X4_look⟩ ⟨(show 2 + 1 ≤ (9 + 6 * (e1 + 1)) from by omega), (show 8 + (2 + 11) + 60 * 2 ≤ 60 * (9 + 6 * (e1 + 1)) from by omega)⟩) (kW_V kT_blind kT_give (va_recv hKc hPc (ci := 4) (q0 := 0) rfl rfl) hPc hKc hDc) rfl rfl hl.1 rfl (lv_room (Nat.le_of_ble_eq_true rfl)) dX4_readUnit_101 ⟨(Nat.le_of_ble_eq_true rfl), (Nat.le_of_ble_eq_true rfl)⟩) hS (fun q _ h => hFc q h) hFc (fun r_2 => kU2 (fun Pn_3 ch_4 t H_5 locs ht hvm hw hB hz1 hk1 hS => ?_))
  try dsimp only at hw
  have hPD : kPD dC dI A [(jR, .inr (4, [.ref jT, .ref r1, .ref r2, .int (nI (wr)), .int (nI (fi)), .int (nI (Pn_3)), .ref q6, .ref q7])), (r1, .inl (c1, 120, .inl s1)), (r2, .inl (c2, 124, .inl s2)), (jT, .inr (8, [.ref t0, .int (nI (kt))])), (t0, .inl (cC, 120, .inl gT))] H_5 := kJoinX hP hD [0, 1, 2, 3, 4] rfl hk1 hFc hB.1 ht hB.2.2 rfl [some 0, some 1, some 2, some 3, some 4] rfl rfl
  have hP := hPD.1
  have hD := hPD.2
  obtain ⟨rfl, hw_6_0, hw_6_1, hw_6_2, hw_6_3, hw_6_4, hw_6_5, hw_6_6⟩ := hw
  refine lv_istore_n hx hb dX4_readUnit_104 rfl hl kc_l_3_4 (kTo [(3, .int (nI (ch_4))), (0, .ref jR), (1, .int (nI (dd))), (2, .int 1)]) (fun ls hl => ?_)
  refine lv_iload_n hx hb dX4_readUnit_105 rfl (lv_at hl 0 rfl) ?_
  have bd_7 : ch_4 < 256 := by omega
  have hPc := hP.sb (ws2 := []) [] rfl
  have hKc := hK.sb (tys2 := []) [] rfl
  refine vp_callSi (va_runS (As := [.int (nI (ch_4))]) (rest := []) ⟨hx, hb, hml, hown, hts⟩ (s_comp4x l dC dI ch_4 bd_7) (va_cwS 1 hts (kG (List.forall_mem_cons.mpr ⟨(List.mem_cons_of_mem _ (List.mem_append_left _ (List.mem_of_getElem? (i := 34) rfl))), (List.forall_mem_cons.mpr ⟨(List.mem_cons_of_mem _ (List.mem_append_left _ (List.mem_of_getElem? (i := 33) rfl))), (List.forall_mem_cons.mpr ⟨(List.mem_cons_of_mem _ (List.mem_append_left _ (List.mem_of_getElem? (i := 0) rfl))), (fun _ h => absurd h List.not_mem_nil)⟩)⟩)⟩) (kGS _ _ _) (fun _ h => List.mem_cons_of_mem _ (List.mem_append_right _ (List.mem_append_right _ (List.mem_append_right _ (List.mem_append_right _ (List.mem_append_right _ (List.mem_append_right _ (List.mem_append_right _ (List.mem_append_right _ (List.mem_append_left _ h)))))))))) gw_s_comp4x) rfl rfl rfl hd_X4_isComparison ⟨(show 1 + 1 ≤ (9 + 6 * (e1 + 1)) from by omega), (show 8 + (1 + 11) + 60 * 1 ≤ 60 * (9 + 6 * (e1 + 1)) from by omega)⟩) (kR_S kT_blind kT_give hPc hKc) rfl rfl hl.1 rfl (lv_room (Nat.le_of_ble_eq_true rfl)) dX4_readUnit_106 ⟨(Nat.le_of_ble_eq_true rfl), (Nat.le_of_ble_eq_true rfl)⟩).run (fun r_8 hw => ?_)
  have hw_9 := hw
  refine lv_if_ne (tgt := 114) hx hb dX4_readUnit_109 kc_t_109_5 (fun c_10 => ?_) (fun c_10 => ?_)
  · have hcp := hw_9.mp c_10
    refine lv_aload_n hx hb dX4_readUnit_114 rfl (lv_at hl 1 rfl) ?_
    refine lv_dup hx hb dX4_readUnit_115 rfl ?_
    refine va_get (D := (dC, dI)) (ci := 4) (v := .int (nI (Pn_3))) (C := RX4) (T := TX4) (N := 8) hx hb hts (fun _ h => List.mem_cons_of_mem _ (List.mem_append_right _ (List.mem_append_right _ (List.mem_append_right _ (List.mem_append_left _ h))))) hown hK hP 0 rfl rfl 5 kc_l_5_8 (hts (.fieldLink RX4 25 "NotEnded$Reader" "place" "I") (List.mem_cons_of_mem _ (List.mem_append_left _ (List.mem_of_getElem? (i := 11) rfl)))) (fun _ h9 => h9) rfl dX4_readUnit_116 ?_
    refine lv_iconst (v := 1) hx hb dX4_readUnit_119 kc_i_1 ?_
    refine lv_iadd hx hb dX4_readUnit_120 ?_
    refine lv_topi (fun y_11 ey_11 => ?_)
    obtain rfl : y_11 = nI (Pn_3 + 1) := ey_11.trans (nI_add (Pn_3) (1))
    refine va_put (D := (dC, dI)) (ci := 4) (v := .int (nI (Pn_3 + 1))) (ty := tyX4 5) (C := RX4) (T := TX4) (N := 8) hx hb hts (fun _ h => List.mem_cons_of_mem _ (List.mem_append_right _ (List.mem_append_right _ (List.mem_append_right _ (List.mem_append_left _ h))))) tyX4 tyX4_ok nmX4 hown hK hP hD hS 0 rfl rfl 5 kc_l_5_8 (hts (.fieldLink RX4 25 "NotEnded$Reader" "place" "I") (List.mem_cons_of_mem _ (List.mem_append_left _ (List.mem_of_getElem? (i := 11) rfl)))) (fun _ h9 => h9) rfl (tyX4_ok 5 kc_l_5_8) rfl rfl (Nat.le_of_ble_eq_true rfl) dX4_readUnit_121 (fun H locs hP hD hS => ?_)
    have hPD : kPD dC dI A [(jR, .inr (4, [.ref jT, .ref r1, .ref r2, .int (nI (wr)), .int (nI (fi)), .int (nI (Pn_3 + 1)), .ref q6, .ref q7])), (r1, .inl (c1, 120, .inl s1)), (r2, .inl (c2, 124, .inl s2)), (jT, .inr (8, [.ref t0, .int (nI (kt))])), (t0, .inl (cC, 120, .inl gT))] H := ⟨hP, hD⟩
    have hP := hPD.1
    have hD := hPD.2
    refine lv_aload_n hx hb dX4_readUnit_124 rfl (lv_at hl 1 rfl) ?_
    refine lv_iload_n hx hb dX4_readUnit_125 rfl (lv_at hl 2 rfl) ?_
    have bd_12 : (Pn_3 + 1) ≤ kt := by omega
    have bd_13 : wr ≤ (Pn_3 + 1) := by omega
    have bd_14 : dd + e1 = 5 := by omega
    have hCu := kCut (wc := [(jR, .inr (4, [.ref jT, .ref r1, .ref r2, .int (nI (wr)), .int (nI (fi)), .int (nI (Pn_3 + 1)), .ref q6, .ref q7])), (r1, .inl (c1, 120, .inl s1)), (r2, .inl (c2, 124, .inl s2)), (jT, .inr (8, [.ref t0, .int (nI (kt))])), (t0, .inl (cC, 120, .inl gT))]) hP hD hS hA [0, 1, 2, 3, 4] rfl kc_nd_311 rfl
    have hPc := hCu.1
    have hDc := hCu.2.1
    have hFc := hCu.2.2
    have hKc := hK.sb (tys2 := [(c1, .int), (c2, .int), (cC, .char)]) [0, 1, 2] rfl
    refine va_calli (va_runV (As := [.int (nI (dd))]) (rest := []) ⟨hx, hb, hml, hown, hts⟩ (s_sum4x_g l dC dI jT t0 cC gT kt hkt hgT bt hbt hb8 jR r1 r2 c1 c2 s1 s2 wr fi q6 q7 hwr hfi (Pn_3 + 1) bd_12 bd_13 b6 n6 g6 hn6 b7 n7 g7 hn7 gn6 hz6 gn7 hz7 e1 dd bd_14 ih H.size) (cwV 1 hts (kG (List.forall_mem_cons.mpr ⟨(List.mem_cons_of_mem _ (List.mem_append_left _ (List.mem_of_getElem? (i := 32) rfl))), (List.forall_mem_cons.mpr ⟨(List.mem_cons_of_mem _ (List.mem_append_left _ (List.mem_of_getElem? (i := 31) rfl))), (List.forall_mem_cons.mpr ⟨(List.mem_cons_of_mem _ (List.mem_append_left _ (List.mem_of_getElem? (i := 30) rfl))), (List.forall_mem_cons.mpr ⟨(List.mem_cons_of_mem _ (List.mem_append_left _ (List.mem_of_getElem? (i := 0) rfl))), (fun _ h => absurd h List.not_mem_nil)⟩)⟩)⟩)⟩) (kGV _ _ _ _) (kFam (List.mem_cons_of_mem _ (List.mem_append_left _ (List.mem_of_getElem? (i := 29) rfl)))) gw_s_sum4x_g) rfl rfl rfl ⟨rfl, hd_X4_readSum⟩ ⟨(show (8 + 6 * (e1 + 1)) + 1 ≤ (9 + 6 * (e1 + 1)) from by omega), (show 8 + (4 + 11) + 60 * (8 + 6 * (e1 + 1)) ≤ 60 * (9 + 6 * (e1 + 1)) from by omega)⟩) (kW_V kS2_blind (kS2_give hX hS hFc) (va_recv hKc hPc (ci := 4) (q0 := 0) rfl rfl) hPc hKc hDc) rfl rfl hl.1 rfl (lv_room (Nat.le_of_ble_eq_true rfl)) dX4_readUnit_126 ⟨(Nat.le_of_ble_eq_true rfl), (Nat.le_of_ble_eq_true rfl)⟩) hS (fun q _ h => hFc q h) hFc (fun r_15 => kU5 (fun S1_16 Wr_17 Pn_18 xo_19 xl_20 t H_21 locs ht hvm hw hB hz1 hk1 hS => ?_))
    try dsimp only at hw
    have hPD : kPD dC dI A [(jR, .inr (4, [.ref jT, .ref r1, .ref r2, .int (nI (Wr_17)), .int (nI (fi)), .int (nI (Pn_18)), .ref q6, .ref q7])), (r1, .inl (c1, 120, .inl S1_16)), (r2, .inl (c2, 124, .inl s2)), (jT, .inr (8, [.ref t0, .int (nI (kt))])), (t0, .inl (cC, 120, .inl gT))] H_21 := kJoinX hP hD [0, 1, 2, 3, 4] rfl hk1 hFc hB.1 ht hB.2.2 rfl [some 0, some 1, some 2, some 3, some 4] rfl rfl
    have hP := hPD.1
    have hD := hPD.2
    have hw_22 := hw
    refine lv_if_eq (tgt := 148) hx hb dX4_readUnit_129 kc_t_129_19 (fun c_23 => ?_) (fun c_23 => ?_)
    · obtain rfl : xo_19 = false := kBo_f (kZr9 hw_22.1 c_23)
      have hw_22_k := hw_22.2.1.2.1
      refine lv_iconst (v := 0) hx hb dX4_readUnit_148 kc_i_0 ?_
      have hP9 := hP
      have hD9 := hD
      have hK9 := hK
      rw [hQ]
      exact W.zret (v := 0) hx hb hr rfl (fun t ht hW => ⟨⟨0, (S1_16, Wr_17, Pn_18, false, ([])), rfl, ⟨rfl, kPR_f (by show kCmp bt kt g7 n7 (e1 + 1) pn [] = _; unfold kCmp; rw [← hw_6_0, ← hw_6_1, if_pos (by omega), hw_22.2.1.1]; rfl) (by omega), by omega⟩,  by rw [ht]; exact hP9, va_K.moved hW.alike hK9, hD9⟩, hS.F ht⟩) hS.2.2 dX4_readUnit_149
    · obtain rfl : xo_19 = true := kBo_t (kNz9 hw_22.1 c_23)
      obtain ⟨hw_22_W, hw_22_S, hw_22_l, hw_22_p⟩ := hw_22.2.1.2.2 rfl
      have hw_22_k := hw_22.2.1.2.1
      refine lv_aload_n hx hb dX4_readUnit_132 rfl (lv_at hl 1 rfl) ?_
      refine lv_sipush (v := 20000) hx hb dX4_readUnit_133 kc_s_20000 ?_
      refine lv_iload_n hx hb dX4_readUnit_136 rfl (lv_at hl 0 rfl) ?_
      refine lv_iadd hx hb dX4_readUnit_137 ?_
      refine lv_topi (fun y_24 ey_24 => ?_)
      obtain rfl : y_24 = nI (20000 + ch_4) := ey_24.trans (nI_add (20000) (ch_4))
      have bd_25 : Wr_17 ≤ 120 := by omega
      have bd_26 : Pn_18 ≤ kt := by omega
      have bd_27 : Wr_17 < 120 := by omega
      have hCu := kCut (wc := [(jR, .inr (4, [.ref jT, .ref r1, .ref r2, .int (nI (Wr_17)), .int (nI (fi)), .int (nI (Pn_18)), .ref q6, .ref q7])), (r1, .inl (c1, 120, .inl S1_16)), (r2, .inl (c2, 124, .inl s2)), (jT, .inr (8, [.ref t0, .int (nI (kt))])), (t0, .inl (cC, 120, .inl gT))]) hP hD hS hA [0, 1, 2, 3, 4] rfl kc_nd_311 rfl
      have hPc := hCu.1
      have hDc := hCu.2.1
      have hFc := hCu.2.2
      have hKc := hK.sb (tys2 := [(c1, .int), (c2, .int), (cC, .char)]) [0, 1, 2] rfl
      refine va_calli (va_runV (As := [.int (nI (20000 + ch_4))]) (rest := []) ⟨hx, hb, hml, hown, hts⟩ (s_write4x l dC dI jT t0 cC gT kt hkt hgT bt hbt hb8 jR r1 r2 c1 c2 S1_16 s2 Wr_17 fi q6 q7 bd_25 hfi Pn_18 bd_26 (nI (20000 + ch_4)) bd_27 H_21.size) (cwV 1 hts (kG (List.forall_mem_cons.mpr ⟨(List.mem_cons_of_mem _ (List.mem_append_left _ (List.mem_of_getElem? (i := 14) rfl))), (List.forall_mem_cons.mpr ⟨(List.mem_cons_of_mem _ (List.mem_append_left _ (List.mem_of_getElem? (i := 13) rfl))), (List.forall_mem_cons.mpr ⟨(List.mem_cons_of_mem _ (List.mem_append_left _ (List.mem_of_getElem? (i := 12) rfl))), (List.forall_mem_cons.mpr ⟨(List.mem_cons_of_mem _ (List.mem_append_left _ (List.mem_of_getElem? (i := 0) rfl))), (fun _ h => absurd h List.not_mem_nil)⟩)⟩)⟩)⟩) (kGV _ _ _ _) (fun _ h => List.mem_cons_of_mem _ (List.mem_append_right _ (List.mem_append_right _ (List.mem_append_right _ (List.mem_append_right _ (List.mem_append_right _ (List.mem_append_left _ h))))))) gw_s_write4x) rfl rfl rfl ⟨rfl, hd_X4_write⟩ ⟨(show 1 + 1 ≤ (9 + 6 * (e1 + 1)) from by omega), (show 8 + (2 + 11) + 60 * 1 ≤ 60 * (9 + 6 * (e1 + 1)) from by omega)⟩) (kW_V kT_blind kT_give (va_recv hKc hPc (ci := 4) (q0 := 0) rfl rfl) hPc hKc hDc) rfl rfl hl.1 rfl (lv_room (Nat.le_of_ble_eq_true rfl)) dX4_readUnit_138 ⟨(Nat.le_of_ble_eq_true rfl), (Nat.le_of_ble_eq_true rfl)⟩) hS (fun q _ h => hFc q h) hFc (fun r_28 => kU2 (fun S1_29 Wr_30 t H_31 locs ht hvm hw hB hz1 hk1 hS => ?_))
      try dsimp only at hw
      have hPD : kPD dC dI A [(jR, .inr (4, [.ref jT, .ref r1, .ref r2, .int (nI (Wr_30)), .int (nI (fi)), .int (nI (Pn_18)), .ref q6, .ref q7])), (r1, .inl (c1, 120, .inl S1_29)), (r2, .inl (c2, 124, .inl s2)), (jT, .inr (8, [.ref t0, .int (nI (kt))])), (t0, .inl (cC, 120, .inl gT))] H_31 := kJoinX hP hD [0, 1, 2, 3, 4] rfl hk1 hFc hB.1 ht hB.2.2 rfl [some 0, some 1, some 2, some 3, some 4] rfl rfl
      have hP := hPD.1
      have hD := hPD.2
      obtain ⟨rfl, hw_32⟩ := hw
      refine lv_if_eq (tgt := 148) hx hb dX4_readUnit_141 kc_t_141_7 (fun c_33 => absurd c_33 (by decide)) (fun c_33 => ?_)
      refine lv_iconst (v := 1) hx hb dX4_readUnit_144 kc_i_1 ?_
      refine lv_goto (tgt := 149) hx hb dX4_readUnit_145 kc_t_145_4 ?_
      have hP9 := hP
      have hD9 := hD
      have hK9 := hK
      rw [hQ]
      exact W.zret (v := 1) hx hb hr rfl (fun t ht hW => ⟨⟨1, (S1_29, Wr_30, Pn_18, true, ([] ++ xl_20 ++ [nI (20000 + ch_4)])), rfl, ⟨rfl, kPR_t (a := kUnitZ bt kt g7 n7 (e1 + 1)) rfl (kUnitZ_good hz7 (e1 + 1)) (by omega) (by show kCmp bt kt g7 n7 (e1 + 1) pn [] = _; unfold kCmp; rw [← hw_6_0, ← hw_6_1, if_pos (by omega), hw_22.2.1.1, kTh_t]) (by simp only [List.length_append, List.length_cons, List.length_nil]; omega) (kWrt2 hw_22_S hw_22_W hw_32.2), by omega⟩,  by rw [ht]; exact hP9, va_K.moved hW.alike hK9, hD9⟩, hS.F ht⟩) hS.2.2 dX4_readUnit_149
  · have hcp : ¬ (ch_4 = 61 ∨ ch_4 = 60 ∨ ch_4 = 62) := fun z9 => hw_9.mpr z9 c_10
    refine lv_iconst (v := 0) hx hb dX4_readUnit_112 kc_i_0 ?_
    have hP9 := hP
    have hD9 := hD
    have hK9 := hK
    rw [hQ]
    exact W.zret (v := 0) hx hb hr rfl (fun t ht hW => ⟨⟨0, (s1, wr, Pn_3, false, ([])), rfl, ⟨rfl, kPR_f (by show kCmp bt kt g7 n7 (e1 + 1) pn [] = _; unfold kCmp; rw [← hw_6_0, ← hw_6_1, if_neg (by omega)]) (by omega), by omega⟩,  by rw [ht]; exact hP9, va_K.moved hW.alike hK9, hD9⟩, hS.F ht⟩) hS.2.2 dX4_readUnit_113

def w_s_truth4x_g_0 : List Cond := .code yX4_readTruth cX4_readTruth 4 (some .boolean) :: wf_rq
theorem gw_s_truth4x_g_0 : (w_s_truth4x_g_0).all goodWord = true := kFamG rfl gf_rq
set_option maxHeartbeats 4000000 in
set_option maxRecDepth 100000 in
theorem s_truth4x_g_0 (l : Launch) (dC : Nat → ClassId) (dI : Nat → Nat → Nat) (jT : Nat) (t0 : Nat) (cC : ClassId) (gT : Nat → Int32) (kt : Nat) (hkt : kt ≤ 120) (hgT : ∀ j : Nat, narrow .char (.int (gT j)) = .int (gT j)) (bt : Nat → Nat) (hbt : ∀ j : Nat, gT j = nI (bt j)) (hb8 : ∀ j : Nat, bt j < 256) (jR : Nat) (r1 : Nat) (r2 : Nat) (c1 : ClassId) (c2 : ClassId) (s1 : Nat → Int32) (s2 : Nat → Int32) (wr : Nat) (fi : Nat) (q6 : Nat) (q7 : Nat) (hwr : wr ≤ 120) (hfi : fi ≤ 124) (pn : Nat) (hpn : pn ≤ kt) (hwp : wr ≤ pn) (b6 : Nat) (n6 : Nat) (g6 : Nat → Int32) (hn6 : n6 ≤ 8) (b7 : Nat) (n7 : Nat) (g7 : Nat → Int32) (hn7 : n7 ≤ 8) (gn6 : ∀ k : Nat, ∃ v : Nat, v < 128 ∧ g6 k = nI v) (hz6 : kIx g6 n6 (nI 0) = n6) (gn7 : ∀ k : Nat, ∃ v : Nat, v < 128 ∧ g7 k = nI v) (hz7 : kIx g7 n7 (nI 0) = n7) (e1 : Nat) (dd : Nat) (hdd : dd + e1 = 5) (ih : kIHq e1) (sz : Nat) : Met l yX4_readTruth w_s_truth4x_g_0 ({ frames := (10 + 6 * (e1 + 1)), cells := 0, slots := 0, locals := 60 * (10 + 6 * (e1 + 1)) }) (kW dC dI [.ref jR, .int (nI (dd)), .int 0] [(jR, .inr (4, [.ref jT, .ref r1, .ref r2, .int (nI (wr)), .int (nI (fi)), .int (nI (pn)), .ref q6, .ref q7])), (r1, .inl (c1, 120, .inl s1)), (r2, .inl (c2, 124, .inl s2)), (jT, .inr (8, [.ref t0, .int (nI (kt))])), (t0, .inl (cC, 120, .inl gT))] [(c1, .int), (c2, .int), (cC, .char)] (kS2 q6 b6 n6 g6 q7 b7 n7 g7 (va_A [(jR, .inr (4, [.ref jT, .ref r1, .ref r2, .int (nI (wr)), .int (nI (fi)), .int (nI (pn)), .ref q6, .ref q7])), (r1, .inl (c1, 120, .inl s1)), (r2, .inl (c2, 124, .inl s2)), (jT, .inr (8, [.ref t0, .int (nI (kt))])), (t0, .inl (cC, 120, .inl gT))] sz)) sz) (va_Qi (fun (r : Int32) (u : (Nat → Int32) × Nat × Nat × Bool × (List Int32)) => match u with | (S1, Wr, Pn, xo, xl) => (r = kBo xo ∧ kPR (kTruD bt kt g7 n7 (e1 + 1) pn) pn kt wr s1 xo Pn xl Wr S1 ∧ Wr ≤ 120)) (fun (u : (Nat → Int32) × Nat × Nat × Bool × (List Int32)) => match u with | (S1, Wr, Pn, xo, xl) => fun t : State => kB dC dI [(jR, .inr (4, [.ref jT, .ref r1, .ref r2, .int (nI (Wr)), .int (nI (fi)), .int (nI (Pn)), .ref q6, .ref q7])), (r1, .inl (c1, 120, .inl S1)), (r2, .inl (c2, 124, .inl s2)), (jT, .inr (8, [.ref t0, .int (nI (kt))])), (t0, .inl (cC, 120, .inl gT))] [(c1, .int), (c2, .int), (cC, .char)] (va_A [(jR, .inr (4, [.ref jT, .ref r1, .ref r2, .int (nI (wr)), .int (nI (fi)), .int (nI (pn)), .ref q6, .ref q7])), (r1, .inl (c1, 120, .inl s1)), (r2, .inl (c2, 124, .inl s2)), (jT, .inr (8, [.ref t0, .int (nI (kt))])), (t0, .inl (cC, 120, .inl gT))] sz) t) (va_A [(jR, .inr (4, [.ref jT, .ref r1, .ref r2, .int (nI (wr)), .int (nI (fi)), .int (nI (pn)), .ref q6, .ref q7])), (r1, .inl (c1, 120, .inl s1)), (r2, .inl (c2, 124, .inl s2)), (jT, .inr (8, [.ref t0, .int (nI (kt))])), (t0, .inl (cC, 120, .inl gT))] sz)) 0 0 (va_A [(jR, .inr (4, [.ref jT, .ref r1, .ref r2, .int (nI (wr)), .int (nI (fi)), .int (nI (pn)), .ref q6, .ref q7])), (r1, .inl (c1, 120, .inl s1)), (r2, .inl (c2, 124, .inl s2)), (jT, .inr (8, [.ref t0, .int (nI (kt))])), (t0, .inl (cC, 120, .inl gT))] sz) := by
  refine Met.ofW (cc := cX4_readTruth) (maxL := 4) (ret := (some .boolean)) (by decide) rfl ?_
  intro p e s m args below meth c s₁ B hml hv
  obtain ⟨rfl, hsz, hP, hK, hD0, hX⟩ := hv
  have hx := B.exec
  have hb := B.bytes
  have hr := B.returns
  have hts := atoms_spec (ws := w_s_truth4x_g_0) B.pre
  have hown : s.vm.findClass RX4 = some m.cls := findClass_of_methodNamed B.named
  have hlocks := B.notSynchronized
  subst hsz
  have hD := hD0.self (sz := s.heap.size)
  generalize hAe : va_A [(jR, .inr (4, [.ref jT, .ref r1, .ref r2, .int (nI (wr)), .int (nI (fi)), .int (nI (pn)), .ref q6, .ref q7])), (r1, .inl (c1, 120, .inl s1)), (r2, .inl (c2, 124, .inl s2)), (jT, .inr (8, [.ref t0, .int (nI (kt))])), (t0, .inl (cC, 120, .inl gT))] s.heap.size = A at hD hX ⊢
  have hA : ∀ q : Nat, s.heap.size ≤ q → A q := fun q h => by rw [← hAe]; exact Or.inr h
  have hS : va_S A s.heap s.heap [] := va_S.rf
  have hP : va_P (dC, dI) vwCl [(jR, .inr (4, [.ref jT, .ref r1, .ref r2, .int (nI (wr)), .int (nI (fi)), .int (nI (pn)), .ref q6, .ref q7])), (r1, .inl (c1, 120, .inl s1)), (r2, .inl (c2, 124, .inl s2)), (jT, .inr (8, [.ref t0, .int (nI (kt))])), (t0, .inl (cC, 120, .inl gT))] s.heap := hP
  have hl := lv_entry ([.ref jR, .int (nI (dd)), .int 0]) (n := 4) (Nat.le_of_ble_eq_true rfl)
  rw [lg_entry_eq]
  generalize (lg_sl ([.ref jR, .int (nI (dd)), .int 0]) ++ List.replicate (4 - (lg_sl ([.ref jR, .int (nI (dd)), .int 0])).length) Slot.unset).toArray = ls at hl ⊢
  have hl : lv_has ls 4 [(0, .ref jR), (1, .int (nI (dd))), (2, .int 0)] := hl
  refine kQ (fun Q hQ => ?_)
  refine lv_aload_n hx hb dX4_readTruth_0 rfl (lv_at hl 0 rfl) ?_
  refine lv_iload_n hx hb dX4_readTruth_1 rfl (lv_at hl 1 rfl) ?_
  refine lv_iload_n hx hb dX4_readTruth_2 rfl (lv_at hl 2 rfl) ?_
  have bd_1 : dd + e1 = 5 := by omega
  have hCu := kCut (wc := [(jR, .inr (4, [.ref jT, .ref r1, .ref r2, .int (nI (wr)), .int (nI (fi)), .int (nI (pn)), .ref q6, .ref q7])), (r1, .inl (c1, 120, .inl s1)), (r2, .inl (c2, 124, .inl s2)), (jT, .inr (8, [.ref t0, .int (nI (kt))])), (t0, .inl (cC, 120, .inl gT))]) hP hD hS hA [0, 1, 2, 3, 4] rfl kc_nd_311 rfl
  have hPc := hCu.1
  have hDc := hCu.2.1
  have hFc := hCu.2.2
  have hKc := hK.sb (tys2 := [(c1, .int), (c2, .int), (cC, .char)]) [0, 1, 2] rfl
  refine va_calli (va_runV (As := [.int (nI (dd)), .int 0]) (rest := []) ⟨hx, hb, hml, hown, hts⟩ (s_unit4x_g_0 l dC dI jT t0 cC gT kt hkt hgT bt hbt hb8 jR r1 r2 c1 c2 s1 s2 wr fi q6 q7 hwr hfi pn hpn hwp b6 n6 g6 hn6 b7 n7 g7 hn7 gn6 hz6 gn7 hz7 e1 dd bd_1 ih s.heap.size) (cwV 2 hts (kG (List.forall_mem_cons.mpr ⟨(List.mem_cons_of_mem _ (List.mem_append_left _ (List.mem_of_getElem? (i := 38) rfl))), (List.forall_mem_cons.mpr ⟨(List.mem_cons_of_mem _ (List.mem_append_left _ (List.mem_of_getElem? (i := 37) rfl))), (List.forall_mem_cons.mpr ⟨(List.mem_cons_of_mem _ (List.mem_append_left _ (List.mem_of_getElem? (i := 36) rfl))), (List.forall_mem_cons.mpr ⟨(List.mem_cons_of_mem _ (List.mem_append_left _ (List.mem_of_getElem? (i := 0) rfl))), (fun _ h => absurd h List.not_mem_nil)⟩)⟩)⟩)⟩) (kGV _ _ _ _) (kFam (List.mem_cons_of_mem _ (List.mem_append_left _ (List.mem_of_getElem? (i := 35) rfl)))) gw_s_unit4x_g_0) rfl rfl rfl ⟨rfl, hd_X4_readUnit⟩ ⟨(show (9 + 6 * (e1 + 1)) + 1 ≤ (10 + 6 * (e1 + 1)) from by omega), (show 8 + (4 + 11) + 60 * (9 + 6 * (e1 + 1)) ≤ 60 * (10 + 6 * (e1 + 1)) from by omega)⟩) (kW_V kS2_blind (kS2_give hX hS hFc) (va_recv hKc hPc (ci := 4) (q0 := 0) rfl rfl) hPc hKc hDc) rfl rfl hl.1 rfl (lv_room (Nat.le_of_ble_eq_true rfl)) dX4_readTruth_3 ⟨(Nat.le_of_ble_eq_true rfl), (Nat.le_of_ble_eq_true rfl)⟩) hS (fun q _ h => hFc q h) hFc (fun r_2 => kU5 (fun S1_3 Wr_4 Pn_5 xo_6 xl_7 t H_8 locs ht hvm hw hB hz1 hk1 hS => ?_))
  try dsimp only at hw
  have hPD : kPD dC dI A [(jR, .inr (4, [.ref jT, .ref r1, .ref r2, .int (nI (Wr_4)), .int (nI (fi)), .int (nI (Pn_5)), .ref q6, .ref q7])), (r1, .inl (c1, 120, .inl S1_3)), (r2, .inl (c2, 124, .inl s2)), (jT, .inr (8, [.ref t0, .int (nI (kt))])), (t0, .inl (cC, 120, .inl gT))] H_8 := kJoinX hP hD [0, 1, 2, 3, 4] rfl hk1 hFc hB.1 ht hB.2.2 rfl [some 0, some 1, some 2, some 3, some 4] rfl rfl
  have hP := hPD.1
  have hD := hPD.2
  have hw_9 := hw
  refine lv_if_ne (tgt := 11) hx hb dX4_readTruth_6 kc_t_6_5 (fun c_10 => ?_) (fun c_10 => ?_)
  · obtain rfl : xo_6 = true := kBo_t (kNz9 hw_9.1 c_10)
    obtain ⟨hw_9_W, hw_9_S, hw_9_l, hw_9_p⟩ := hw_9.2.1.2.2 rfl
    have hw_9_k := hw_9.2.1.2.1
    refine lv_iconst (v := 0) hx hb dX4_readTruth_11 kc_i_0 ?_
    refine lv_istore_n hx hb dX4_readTruth_12 rfl hl kc_l_3_4 (kTo [(3, .int 0), (0, .ref jR), (1, .int (nI (dd))), (2, .int 0)]) (fun ls hl => ?_)
    have lp_k_11 : ∀ (n9 : Nat) (i : Nat) (xs1 : Nat → Int32) (xpn : Nat) (xwr : Nat) (xl : List Int32) (ivk_11_0 : i ≤ 120) (ivk_11_1 : xwr ≤ 120) (ivk_11_2 : xpn ≤ kt) (ivk_11_3 : kLoop bt kt 38 38 (kUnitD bt kt g7 n7 (e1 + 1)) (120 - i) xpn xl = kTruD bt kt g7 n7 (e1 + 1) pn) (ivk_11_4 : xwr = wr + xl.length) (ivk_11_5 : xs1 = kWrt s1 wr xl) (ivk_11_6 : pn + xl.length ≤ xpn) (ivk_11_7 : pn < xpn) (H : Heap) (locs : List Loc) (_ : va_P (dC, dI) vwCl [(jR, .inr (4, [.ref jT, .ref r1, .ref r2, .int (nI (xwr)), .int (nI (fi)), .int (nI (xpn)), .ref q6, .ref q7])), (r1, .inl (c1, 120, .inl xs1)), (r2, .inl (c2, 124, .inl s2)), (jT, .inr (8, [.ref t0, .int (nI (kt))])), (t0, .inl (cC, 120, .inl gT))] H) (_ : va_D A [(jR, .inr (4, [.ref jT, .ref r1, .ref r2, .int (nI (xwr)), .int (nI (fi)), .int (nI (xpn)), .ref q6, .ref q7])), (r1, .inl (c1, 120, .inl xs1)), (r2, .inl (c2, 124, .inl s2)), (jT, .inr (8, [.ref t0, .int (nI (kt))])), (t0, .inl (cC, 120, .inl gT))]) (_ : va_S A s.heap H locs) (ls : Array Slot) (_ : lv_has ls 4 [(3, .int (nI (i))), (0, .ref jR), (1, .int (nI (dd))), (2, .int 0)]) (_ : 120 - i < n9), W p l e (headSpec w_s_truth4x_g_0 ({ frames := (10 + 6 * (e1 + 1)), cells := 0, slots := 0, locals := 60 * (10 + 6 * (e1 + 1)) })).room s m (#[.ref jR, .int (nI (dd)), .int 0] : Array Value) below meth c H locs 0 0 Q (F0 m 13 ls []) := by
      intro n9
      induction n9 with
      | zero => intro i xs1 xpn xwr xl ivk_11_0 ivk_11_1 ivk_11_2 ivk_11_3 ivk_11_4 ivk_11_5 ivk_11_6 ivk_11_7 H locs hP hD hS ls hl hm9; exact absurd hm9 (Nat.not_lt_zero _)
      | succ n9 ih_k_11 =>
        intro i xs1 xpn xwr xl ivk_11_0 ivk_11_1 ivk_11_2 ivk_11_3 ivk_11_4 ivk_11_5 ivk_11_6 ivk_11_7 H locs hP hD hS ls hl hm9
        refine lv_iload_n hx hb dX4_readTruth_13 rfl (lv_at hl 0 rfl) ?_
        refine lv_bipush (v := 120) hx hb dX4_readTruth_14 kc_b_120 ?_
        refine lv_icmp_ge (tgt := 65) hx hb dX4_readTruth_16 kc_t_16_49 (fun c_12 => ?_) (fun c_12 => ?_)
        · have bd_14 : i < 2147483648 := by omega
          have hn_13 := kle (a := 120) (b := i) kc_31_120 bd_14 c_12
          refine lv_iconst (v := 1) hx hb dX4_readTruth_65 kc_i_1 ?_
          have hP9 := hP
          have hD9 := hD
          have hK9 := hK
          rw [hQ]
          exact W.zret (v := 1) hx hb hr rfl (fun t ht hW => ⟨⟨1, (xs1, xwr, xpn, true, xl), rfl, ⟨rfl, kPR_t (a := kTruD bt kt g7 n7 (e1 + 1)) rfl (kTruD_good hz7 (e1 + 1)) (by omega) (by rw [← ivk_11_3, show 120 - i = 0 by omega]; rfl) ivk_11_4 ivk_11_5, by omega⟩,  by rw [ht]; exact hP9, va_K.moved hW.alike hK9, hD9⟩, hS.F ht⟩) hS.2.2 dX4_readTruth_66
        · have bd_16 : i < 2147483648 := by omega
          have hn_15 := knle (a := 120) (b := i) kc_31_120 bd_16 c_12
          refine lv_aload_n hx hb dX4_readTruth_19 rfl (lv_at hl 1 rfl) ?_
          have bd_17 : xwr ≤ 120 := by omega
          have bd_18 : xpn ≤ kt := by omega
          have hCu := kCut (wc := [(jR, .inr (4, [.ref jT, .ref r1, .ref r2, .int (nI (xwr)), .int (nI (fi)), .int (nI (xpn)), .ref q6, .ref q7])), (r1, .inl (c1, 120, .inl xs1)), (r2, .inl (c2, 124, .inl s2)), (jT, .inr (8, [.ref t0, .int (nI (kt))])), (t0, .inl (cC, 120, .inl gT))]) hP hD hS hA [0, 1, 2, 3, 4] rfl kc_nd_311 rfl
          have hPc := hCu.1
          have hDc := hCu.2.1
          have hFc := hCu.2.2
          have hKc := hK.sb (tys2 := [(c1, .int), (c2, .int), (cC, .char)]) [0, 1, 2] rfl
          refine va_calli (va_runV (As := []) (rest := []) ⟨hx, hb, hml, hown, hts⟩ (s_look4x l dC dI jT t0 cC gT kt hkt hgT bt hbt hb8 jR r1 r2 c1 c2 xs1 s2 xwr fi q6 q7 bd_17 hfi xpn bd_18 H.size) (cwV 0 hts (kG (List.forall_mem_cons.mpr ⟨(List.mem_cons_of_mem _ (List.mem_append_left _ (List.mem_of_getElem? (i := 3) rfl))), (List.forall_mem_cons.mpr ⟨(List.mem_cons_of_mem _ (List.mem_append_left _ (List.mem_of_getElem? (i := 2) rfl))), (List.forall_mem_cons.mpr ⟨(List.mem_cons_of_mem _ (List.mem_append_left _ (List.mem_of_getElem? (i := 1) rfl))), (List.forall_mem_cons.mpr ⟨(List.mem_cons_of_mem _ (List.mem_append_left _ (List.mem_of_getElem? (i := 0) rfl))), (fun _ h => absurd h List.not_mem_nil)⟩)⟩)⟩)⟩) (kGV _ _ _ _) (fun _ h => List.mem_cons_of_mem _ (List.mem_append_right _ (List.mem_append_left _ h))) gw_s_look4x) rfl rfl rfl ⟨rfl, hd_X4_look⟩ ⟨(show 2 + 1 ≤ (10 + 6 * (e1 + 1)) from by omega), (show 8 + (2 + 11) + 60 * 2 ≤ 60 * (10 + 6 * (e1 + 1)) from by omega)⟩) (kW_V kT_blind kT_give (va_recv hKc hPc (ci := 4) (q0 := 0) rfl rfl) hPc hKc hDc) rfl rfl hl.1 rfl (lv_room (Nat.le_of_ble_eq_true rfl)) dX4_readTruth_20 ⟨(Nat.le_of_ble_eq_true rfl), (Nat.le_of_ble_eq_true rfl)⟩) hS (fun q _ h => hFc q h) hFc (fun r_19 => kU2 (fun Pn_20 ch_21 t H_22 locs ht hvm hw hB hz1 hk1 hS => ?_))
          try dsimp only at hw
          have hPD : kPD dC dI A [(jR, .inr (4, [.ref jT, .ref r1, .ref r2, .int (nI (xwr)), .int (nI (fi)), .int (nI (Pn_20)), .ref q6, .ref q7])), (r1, .inl (c1, 120, .inl xs1)), (r2, .inl (c2, 124, .inl s2)), (jT, .inr (8, [.ref t0, .int (nI (kt))])), (t0, .inl (cC, 120, .inl gT))] H_22 := kJoinX hP hD [0, 1, 2, 3, 4] rfl hk1 hFc hB.1 ht hB.2.2 rfl [some 0, some 1, some 2, some 3, some 4] rfl rfl
          have hP := hPD.1
          have hD := hPD.2
          obtain ⟨rfl, hw_23_0, hw_23_1, hw_23_2, hw_23_3, hw_23_4, hw_23_5, hw_23_6⟩ := hw
          refine lv_bipush (v := 38) hx hb dX4_readTruth_23 kc_b_38 ?_
          refine lv_icmp_ne (tgt := 65) hx hb dX4_readTruth_25 kc_t_25_40 (fun c_24 => ?_) (fun c_24 => ?_)
          · have bd_26 : ch_21 < 2147483648 := by omega
            have hn_25 := kneq (a := ch_21) (b := 38) bd_26 kc_31_38 c_24
            refine lv_iconst (v := 1) hx hb dX4_readTruth_65 kc_i_1 ?_
            have hP9 := hP
            have hD9 := hD
            have hK9 := hK
            rw [hQ]
            exact W.zret (v := 1) hx hb hr rfl (fun t ht hW => ⟨⟨1, (xs1, xwr, Pn_20, true, xl), rfl, ⟨rfl, kPR_t (a := kTruD bt kt g7 n7 (e1 + 1)) rfl (kTruD_good hz7 (e1 + 1)) (by omega) (by rw [← ivk_11_3, show 120 - i = (119 - i) + 1 by omega, kLoop_e (by rw [← hw_23_0]; omega), ← hw_23_1]) ivk_11_4 ivk_11_5, by omega⟩,  by rw [ht]; exact hP9, va_K.moved hW.alike hK9, hD9⟩, hS.F ht⟩) hS.2.2 dX4_readTruth_66
          · have bd_28 : ch_21 < 2147483648 := by omega
            have hn_27 := keq (a := ch_21) (b := 38) bd_28 kc_31_38 c_24
            refine lv_aload_n hx hb dX4_readTruth_28 rfl (lv_at hl 1 rfl) ?_
            refine lv_dup hx hb dX4_readTruth_29 rfl ?_
            refine va_get (D := (dC, dI)) (ci := 4) (v := .int (nI (Pn_20))) (C := RX4) (T := TX4) (N := 8) hx hb hts (fun _ h => List.mem_cons_of_mem _ (List.mem_append_right _ (List.mem_append_right _ (List.mem_append_right _ (List.mem_append_left _ h))))) hown hK hP 0 rfl rfl 5 kc_l_5_8 (hts (.fieldLink RX4 25 "NotEnded$Reader" "place" "I") (List.mem_cons_of_mem _ (List.mem_append_left _ (List.mem_of_getElem? (i := 11) rfl)))) (fun _ h9 => h9) rfl dX4_readTruth_30 ?_
            refine lv_iconst (v := 1) hx hb dX4_readTruth_33 kc_i_1 ?_
            refine lv_iadd hx hb dX4_readTruth_34 ?_
            refine lv_topi (fun y_29 ey_29 => ?_)
            obtain rfl : y_29 = nI (Pn_20 + 1) := ey_29.trans (nI_add (Pn_20) (1))
            refine va_put (D := (dC, dI)) (ci := 4) (v := .int (nI (Pn_20 + 1))) (ty := tyX4 5) (C := RX4) (T := TX4) (N := 8) hx hb hts (fun _ h => List.mem_cons_of_mem _ (List.mem_append_right _ (List.mem_append_right _ (List.mem_append_right _ (List.mem_append_left _ h))))) tyX4 tyX4_ok nmX4 hown hK hP hD hS 0 rfl rfl 5 kc_l_5_8 (hts (.fieldLink RX4 25 "NotEnded$Reader" "place" "I") (List.mem_cons_of_mem _ (List.mem_append_left _ (List.mem_of_getElem? (i := 11) rfl)))) (fun _ h9 => h9) rfl (tyX4_ok 5 kc_l_5_8) rfl rfl (Nat.le_of_ble_eq_true rfl) dX4_readTruth_35 (fun H locs hP hD hS => ?_)
            have hPD : kPD dC dI A [(jR, .inr (4, [.ref jT, .ref r1, .ref r2, .int (nI (xwr)), .int (nI (fi)), .int (nI (Pn_20 + 1)), .ref q6, .ref q7])), (r1, .inl (c1, 120, .inl xs1)), (r2, .inl (c2, 124, .inl s2)), (jT, .inr (8, [.ref t0, .int (nI (kt))])), (t0, .inl (cC, 120, .inl gT))] H := ⟨hP, hD⟩
            have hP := hPD.1
            have hD := hPD.2
            refine lv_aload_n hx hb dX4_readTruth_38 rfl (lv_at hl 1 rfl) ?_
            refine lv_iload_n hx hb dX4_readTruth_39 rfl (lv_at hl 2 rfl) ?_
            refine lv_iconst (v := 0) hx hb dX4_readTruth_40 kc_i_0 ?_
            have bd_30 : (Pn_20 + 1) ≤ kt := by omega
            have bd_31 : xwr ≤ (Pn_20 + 1) := by omega
            have hCu := kCut (wc := [(jR, .inr (4, [.ref jT, .ref r1, .ref r2, .int (nI (xwr)), .int (nI (fi)), .int (nI (Pn_20 + 1)), .ref q6, .ref q7])), (r1, .inl (c1, 120, .inl xs1)), (r2, .inl (c2, 124, .inl s2)), (jT, .inr (8, [.ref t0, .int (nI (kt))])), (t0, .inl (cC, 120, .inl gT))]) hP hD hS hA [0, 1, 2, 3, 4] rfl kc_nd_311 rfl
            have hPc := hCu.1
            have hDc := hCu.2.1
            have hFc := hCu.2.2
            have hKc := hK.sb (tys2 := [(c1, .int), (c2, .int), (cC, .char)]) [0, 1, 2] rfl
            refine va_calli (va_runV (As := [.int (nI (dd)), .int 0]) (rest := []) ⟨hx, hb, hml, hown, hts⟩ (s_unit4x_g_0 l dC dI jT t0 cC gT kt hkt hgT bt hbt hb8 jR r1 r2 c1 c2 xs1 s2 xwr fi q6 q7 bd_17 hfi (Pn_20 + 1) bd_30 bd_31 b6 n6 g6 hn6 b7 n7 g7 hn7 gn6 hz6 gn7 hz7 e1 dd bd_1 ih H.size) (cwV 2 hts (kG (List.forall_mem_cons.mpr ⟨(List.mem_cons_of_mem _ (List.mem_append_left _ (List.mem_of_getElem? (i := 38) rfl))), (List.forall_mem_cons.mpr ⟨(List.mem_cons_of_mem _ (List.mem_append_left _ (List.mem_of_getElem? (i := 37) rfl))), (List.forall_mem_cons.mpr ⟨(List.mem_cons_of_mem _ (List.mem_append_left _ (List.mem_of_getElem? (i := 36) rfl))), (List.forall_mem_cons.mpr ⟨(List.mem_cons_of_mem _ (List.mem_append_left _ (List.mem_of_getElem? (i := 0) rfl))), (fun _ h => absurd h List.not_mem_nil)⟩)⟩)⟩)⟩) (kGV _ _ _ _) (kFam (List.mem_cons_of_mem _ (List.mem_append_left _ (List.mem_of_getElem? (i := 35) rfl)))) gw_s_unit4x_g_0) rfl rfl rfl ⟨rfl, hd_X4_readUnit⟩ ⟨(show (9 + 6 * (e1 + 1)) + 1 ≤ (10 + 6 * (e1 + 1)) from by omega), (show 8 + (4 + 11) + 60 * (9 + 6 * (e1 + 1)) ≤ 60 * (10 + 6 * (e1 + 1)) from by omega)⟩) (kW_V kS2_blind (kS2_give hX hS hFc) (va_recv hKc hPc (ci := 4) (q0 := 0) rfl rfl) hPc hKc hDc) rfl rfl hl.1 rfl (lv_room (Nat.le_of_ble_eq_true rfl)) dX4_readTruth_41 ⟨(Nat.le_of_ble_eq_true rfl), (Nat.le_of_ble_eq_true rfl)⟩) hS (fun q _ h => hFc q h) hFc (fun r_32 => kU5 (fun S1_33 Wr_34 Pn_35 xo_36 xl_37 t H_38 locs ht hvm hw hB hz1 hk1 hS => ?_))
            try dsimp only at hw
            have hPD : kPD dC dI A [(jR, .inr (4, [.ref jT, .ref r1, .ref r2, .int (nI (Wr_34)), .int (nI (fi)), .int (nI (Pn_35)), .ref q6, .ref q7])), (r1, .inl (c1, 120, .inl S1_33)), (r2, .inl (c2, 124, .inl s2)), (jT, .inr (8, [.ref t0, .int (nI (kt))])), (t0, .inl (cC, 120, .inl gT))] H_38 := kJoinX hP hD [0, 1, 2, 3, 4] rfl hk1 hFc hB.1 ht hB.2.2 rfl [some 0, some 1, some 2, some 3, some 4] rfl rfl
            have hP := hPD.1
            have hD := hPD.2
            have hw_39 := hw
            refine lv_if_eq (tgt := 57) hx hb dX4_readTruth_44 kc_t_44_13 (fun c_40 => ?_) (fun c_40 => ?_)
            · obtain rfl : xo_36 = false := kBo_f (kZr9 hw_39.1 c_40)
              have hw_39_k := hw_39.2.1.2.1
              refine lv_iconst (v := 0) hx hb dX4_readTruth_57 kc_i_0 ?_
              have hP9 := hP
              have hD9 := hD
              have hK9 := hK
              rw [hQ]
              exact W.zret (v := 0) hx hb hr rfl (fun t ht hW => ⟨⟨0, (S1_33, Wr_34, Pn_35, false, ([])), rfl, ⟨rfl, kPR_f (by rw [← ivk_11_3, show 120 - i = (119 - i) + 1 by omega]; exact kLoop_f (by rw [← hw_23_0]; omega) (by rw [← hw_23_1]; exact hw_39.2.1.1)) (by omega), by omega⟩,  by rw [ht]; exact hP9, va_K.moved hW.alike hK9, hD9⟩, hS.F ht⟩) hS.2.2 dX4_readTruth_58
            · obtain rfl : xo_36 = true := kBo_t (kNz9 hw_39.1 c_40)
              obtain ⟨hw_39_W, hw_39_S, hw_39_l, hw_39_p⟩ := hw_39.2.1.2.2 rfl
              have hw_39_k := hw_39.2.1.2.1
              refine lv_aload_n hx hb dX4_readTruth_47 rfl (lv_at hl 1 rfl) ?_
              refine lv_sipush (v := 20038) hx hb dX4_readTruth_48 kc_s_20038 ?_
              have bd_41 : Wr_34 ≤ 120 := by omega
              have bd_42 : Pn_35 ≤ kt := by omega
              have bd_43 : Wr_34 < 120 := by omega
              have hCu := kCut (wc := [(jR, .inr (4, [.ref jT, .ref r1, .ref r2, .int (nI (Wr_34)), .int (nI (fi)), .int (nI (Pn_35)), .ref q6, .ref q7])), (r1, .inl (c1, 120, .inl S1_33)), (r2, .inl (c2, 124, .inl s2)), (jT, .inr (8, [.ref t0, .int (nI (kt))])), (t0, .inl (cC, 120, .inl gT))]) hP hD hS hA [0, 1, 2, 3, 4] rfl kc_nd_311 rfl
              have hPc := hCu.1
              have hDc := hCu.2.1
              have hFc := hCu.2.2
              have hKc := hK.sb (tys2 := [(c1, .int), (c2, .int), (cC, .char)]) [0, 1, 2] rfl
              refine va_calli (va_runV (As := [.int 20038]) (rest := []) ⟨hx, hb, hml, hown, hts⟩ (s_write4x l dC dI jT t0 cC gT kt hkt hgT bt hbt hb8 jR r1 r2 c1 c2 S1_33 s2 Wr_34 fi q6 q7 bd_41 hfi Pn_35 bd_42 20038 bd_43 H_38.size) (cwV 1 hts (kG (List.forall_mem_cons.mpr ⟨(List.mem_cons_of_mem _ (List.mem_append_left _ (List.mem_of_getElem? (i := 14) rfl))), (List.forall_mem_cons.mpr ⟨(List.mem_cons_of_mem _ (List.mem_append_left _ (List.mem_of_getElem? (i := 13) rfl))), (List.forall_mem_cons.mpr ⟨(List.mem_cons_of_mem _ (List.mem_append_left _ (List.mem_of_getElem? (i := 12) rfl))), (List.forall_mem_cons.mpr ⟨(List.mem_cons_of_mem _ (List.mem_append_left _ (List.mem_of_getElem? (i := 0) rfl))), (fun _ h => absurd h List.not_mem_nil)⟩)⟩)⟩)⟩) (kGV _ _ _ _) (fun _ h => List.mem_cons_of_mem _ (List.mem_append_right _ (List.mem_append_right _ (List.mem_append_right _ (List.mem_append_right _ (List.mem_append_right _ (List.mem_append_left _ h))))))) gw_s_write4x) rfl rfl rfl ⟨rfl, hd_X4_write⟩ ⟨(show 1 + 1 ≤ (10 + 6 * (e1 + 1)) from by omega), (show 8 + (2 + 11) + 60 * 1 ≤ 60 * (10 + 6 * (e1 + 1)) from by omega)⟩) (kW_V kT_blind kT_give (va_recv hKc hPc (ci := 4) (q0 := 0) rfl rfl) hPc hKc hDc) rfl rfl hl.1 rfl (lv_room (Nat.le_of_ble_eq_true rfl)) dX4_readTruth_51 ⟨(Nat.le_of_ble_eq_true rfl), (Nat.le_of_ble_eq_true rfl)⟩) hS (fun q _ h => hFc q h) hFc (fun r_44 => kU2 (fun S1_45 Wr_46 t H_47 locs ht hvm hw hB hz1 hk1 hS => ?_))
              try dsimp only at hw
              have hPD : kPD dC dI A [(jR, .inr (4, [.ref jT, .ref r1, .ref r2, .int (nI (Wr_46)), .int (nI (fi)), .int (nI (Pn_35)), .ref q6, .ref q7])), (r1, .inl (c1, 120, .inl S1_45)), (r2, .inl (c2, 124, .inl s2)), (jT, .inr (8, [.ref t0, .int (nI (kt))])), (t0, .inl (cC, 120, .inl gT))] H_47 := kJoinX hP hD [0, 1, 2, 3, 4] rfl hk1 hFc hB.1 ht hB.2.2 rfl [some 0, some 1, some 2, some 3, some 4] rfl rfl
              have hP := hPD.1
              have hD := hPD.2
              obtain ⟨rfl, hw_48⟩ := hw
              refine lv_if_ne (tgt := 59) hx hb dX4_readTruth_54 kc_t_54_5 (fun c_49 => ?_) (fun c_49 => absurd c_49 (by decide))
              refine lv_iinc (v := nI (i + 1)) hx hb dX4_readTruth_59 hl (k := 0) rfl (kInc _ 1) kc_l_3_4 (kTo [(3, .int (nI (i + 1))), (0, .ref jR), (1, .int (nI (dd))), (2, .int 0)]) (fun ls hl => ?_)
              refine lv_goto (tgt := 13) hx hb dX4_readTruth_62 kc_t_62_m49 ?_
              exact ih_k_11 (i + 1) S1_45 Pn_35 Wr_46 (xl ++ xl_37 ++ [nI (20000 + 38)]) (by omega) (by omega) (by omega) (by have e9 := kLoop_t (b := bt) (n := kt) (c1 := 38) (c2 := 38) (a := kUnitD bt kt g7 n7 (e1 + 1)) (f := 120 - (i + 1)) (p := xpn) (l := xl) (by rw [← hw_23_0]; omega) (by rw [← hw_23_1]; exact hw_39.2.1.1); rw [← hw_23_0] at e9; rw [show ch_21 = 38 by omega] at e9; rw [← e9, show (120 - (i + 1)) + 1 = 120 - i by omega]; exact ivk_11_3) (by simp only [List.length_append, List.length_cons, List.length_nil]; omega) (kWrt3 ivk_11_5 ivk_11_4 hw_39_S hw_39_W hw_48.2) (by simp only [List.length_append, List.length_cons, List.length_nil]; omega) (by omega) _ _ hP hD hS ls (lv_sub hl [0, 1, 2, 3] rfl) (by omega)
    exact lp_k_11 (120 - 0 + 1) 0 S1_3 Pn_5 Wr_4 xl_7 (by omega) (by omega) (by omega) (kMany_t hw_9.2.1.1).symm hw_9_W hw_9_S hw_9_l hw_9_p _ _ hP hD hS ls (lv_sub hl [0, 1, 2, 3] rfl) (by omega)
  · obtain rfl : xo_6 = false := kBo_f (kZr9 hw_9.1 c_10)
    have hw_9_k := hw_9.2.1.2.1
    refine lv_iconst (v := 0) hx hb dX4_readTruth_9 kc_i_0 ?_
    have hP9 := hP
    have hD9 := hD
    have hK9 := hK
    rw [hQ]
    exact W.zret (v := 0) hx hb hr rfl (fun t ht hW => ⟨⟨0, (S1_3, Wr_4, Pn_5, false, ([])), rfl, ⟨rfl, kPR_f (kMany_f hw_9.2.1.1) (by omega), by omega⟩,  by rw [ht]; exact hP9, va_K.moved hW.alike hK9, hD9⟩, hS.F ht⟩) hS.2.2 dX4_readTruth_10

def w_s_truth4x_g_1 : List Cond := .code yX4_readTruth cX4_readTruth 4 (some .boolean) :: wf_rq
theorem gw_s_truth4x_g_1 : (w_s_truth4x_g_1).all goodWord = true := kFamG rfl gf_rq
set_option maxHeartbeats 4000000 in
set_option maxRecDepth 100000 in
theorem s_truth4x_g_1 (l : Launch) (dC : Nat → ClassId) (dI : Nat → Nat → Nat) (jT : Nat) (t0 : Nat) (cC : ClassId) (gT : Nat → Int32) (kt : Nat) (hkt : kt ≤ 120) (hgT : ∀ j : Nat, narrow .char (.int (gT j)) = .int (gT j)) (bt : Nat → Nat) (hbt : ∀ j : Nat, gT j = nI (bt j)) (hb8 : ∀ j : Nat, bt j < 256) (jR : Nat) (r1 : Nat) (r2 : Nat) (c1 : ClassId) (c2 : ClassId) (s1 : Nat → Int32) (s2 : Nat → Int32) (wr : Nat) (fi : Nat) (q6 : Nat) (q7 : Nat) (hwr : wr ≤ 120) (hfi : fi ≤ 124) (pn : Nat) (hpn : pn ≤ kt) (hwp : wr ≤ pn) (b6 : Nat) (n6 : Nat) (g6 : Nat → Int32) (hn6 : n6 ≤ 8) (b7 : Nat) (n7 : Nat) (g7 : Nat → Int32) (hn7 : n7 ≤ 8) (gn6 : ∀ k : Nat, ∃ v : Nat, v < 128 ∧ g6 k = nI v) (hz6 : kIx g6 n6 (nI 0) = n6) (gn7 : ∀ k : Nat, ∃ v : Nat, v < 128 ∧ g7 k = nI v) (hz7 : kIx g7 n7 (nI 0) = n7) (e1 : Nat) (dd : Nat) (hdd : dd + e1 = 5) (ih : kIHq e1) (sz : Nat) : Met l yX4_readTruth w_s_truth4x_g_1 ({ frames := (10 + 6 * (e1 + 1)), cells := 0, slots := 0, locals := 60 * (10 + 6 * (e1 + 1)) }) (kW dC dI [.ref jR, .int (nI (dd)), .int 1] [(jR, .inr (4, [.ref jT, .ref r1, .ref r2, .int (nI (wr)), .int (nI (fi)), .int (nI (pn)), .ref q6, .ref q7])), (r1, .inl (c1, 120, .inl s1)), (r2, .inl (c2, 124, .inl s2)), (jT, .inr (8, [.ref t0, .int (nI (kt))])), (t0, .inl (cC, 120, .inl gT))] [(c1, .int), (c2, .int), (cC, .char)] (kS2 q6 b6 n6 g6 q7 b7 n7 g7 (va_A [(jR, .inr (4, [.ref jT, .ref r1, .ref r2, .int (nI (wr)), .int (nI (fi)), .int (nI (pn)), .ref q6, .ref q7])), (r1, .inl (c1, 120, .inl s1)), (r2, .inl (c2, 124, .inl s2)), (jT, .inr (8, [.ref t0, .int (nI (kt))])), (t0, .inl (cC, 120, .inl gT))] sz)) sz) (va_Qi (fun (r : Int32) (u : (Nat → Int32) × Nat × Nat × Bool × (List Int32)) => match u with | (S1, Wr, Pn, xo, xl) => (r = kBo xo ∧ kPR (kTruZ bt kt g7 n7 (e1 + 1) pn) pn kt wr s1 xo Pn xl Wr S1 ∧ Wr ≤ 120)) (fun (u : (Nat → Int32) × Nat × Nat × Bool × (List Int32)) => match u with | (S1, Wr, Pn, xo, xl) => fun t : State => kB dC dI [(jR, .inr (4, [.ref jT, .ref r1, .ref r2, .int (nI (Wr)), .int (nI (fi)), .int (nI (Pn)), .ref q6, .ref q7])), (r1, .inl (c1, 120, .inl S1)), (r2, .inl (c2, 124, .inl s2)), (jT, .inr (8, [.ref t0, .int (nI (kt))])), (t0, .inl (cC, 120, .inl gT))] [(c1, .int), (c2, .int), (cC, .char)] (va_A [(jR, .inr (4, [.ref jT, .ref r1, .ref r2, .int (nI (wr)), .int (nI (fi)), .int (nI (pn)), .ref q6, .ref q7])), (r1, .inl (c1, 120, .inl s1)), (r2, .inl (c2, 124, .inl s2)), (jT, .inr (8, [.ref t0, .int (nI (kt))])), (t0, .inl (cC, 120, .inl gT))] sz) t) (va_A [(jR, .inr (4, [.ref jT, .ref r1, .ref r2, .int (nI (wr)), .int (nI (fi)), .int (nI (pn)), .ref q6, .ref q7])), (r1, .inl (c1, 120, .inl s1)), (r2, .inl (c2, 124, .inl s2)), (jT, .inr (8, [.ref t0, .int (nI (kt))])), (t0, .inl (cC, 120, .inl gT))] sz)) 0 0 (va_A [(jR, .inr (4, [.ref jT, .ref r1, .ref r2, .int (nI (wr)), .int (nI (fi)), .int (nI (pn)), .ref q6, .ref q7])), (r1, .inl (c1, 120, .inl s1)), (r2, .inl (c2, 124, .inl s2)), (jT, .inr (8, [.ref t0, .int (nI (kt))])), (t0, .inl (cC, 120, .inl gT))] sz) := by
  refine Met.ofW (cc := cX4_readTruth) (maxL := 4) (ret := (some .boolean)) (by decide) rfl ?_
  intro p e s m args below meth c s₁ B hml hv
  obtain ⟨rfl, hsz, hP, hK, hD0, hX⟩ := hv
  have hx := B.exec
  have hb := B.bytes
  have hr := B.returns
  have hts := atoms_spec (ws := w_s_truth4x_g_1) B.pre
  have hown : s.vm.findClass RX4 = some m.cls := findClass_of_methodNamed B.named
  have hlocks := B.notSynchronized
  subst hsz
  have hD := hD0.self (sz := s.heap.size)
  generalize hAe : va_A [(jR, .inr (4, [.ref jT, .ref r1, .ref r2, .int (nI (wr)), .int (nI (fi)), .int (nI (pn)), .ref q6, .ref q7])), (r1, .inl (c1, 120, .inl s1)), (r2, .inl (c2, 124, .inl s2)), (jT, .inr (8, [.ref t0, .int (nI (kt))])), (t0, .inl (cC, 120, .inl gT))] s.heap.size = A at hD hX ⊢
  have hA : ∀ q : Nat, s.heap.size ≤ q → A q := fun q h => by rw [← hAe]; exact Or.inr h
  have hS : va_S A s.heap s.heap [] := va_S.rf
  have hP : va_P (dC, dI) vwCl [(jR, .inr (4, [.ref jT, .ref r1, .ref r2, .int (nI (wr)), .int (nI (fi)), .int (nI (pn)), .ref q6, .ref q7])), (r1, .inl (c1, 120, .inl s1)), (r2, .inl (c2, 124, .inl s2)), (jT, .inr (8, [.ref t0, .int (nI (kt))])), (t0, .inl (cC, 120, .inl gT))] s.heap := hP
  have hl := lv_entry ([.ref jR, .int (nI (dd)), .int 1]) (n := 4) (Nat.le_of_ble_eq_true rfl)
  rw [lg_entry_eq]
  generalize (lg_sl ([.ref jR, .int (nI (dd)), .int 1]) ++ List.replicate (4 - (lg_sl ([.ref jR, .int (nI (dd)), .int 1])).length) Slot.unset).toArray = ls at hl ⊢
  have hl : lv_has ls 4 [(0, .ref jR), (1, .int (nI (dd))), (2, .int 1)] := hl
  refine kQ (fun Q hQ => ?_)
  refine lv_aload_n hx hb dX4_readTruth_0 rfl (lv_at hl 0 rfl) ?_
  refine lv_iload_n hx hb dX4_readTruth_1 rfl (lv_at hl 1 rfl) ?_
  refine lv_iload_n hx hb dX4_readTruth_2 rfl (lv_at hl 2 rfl) ?_
  have bd_1 : dd + e1 = 5 := by omega
  have hCu := kCut (wc := [(jR, .inr (4, [.ref jT, .ref r1, .ref r2, .int (nI (wr)), .int (nI (fi)), .int (nI (pn)), .ref q6, .ref q7])), (r1, .inl (c1, 120, .inl s1)), (r2, .inl (c2, 124, .inl s2)), (jT, .inr (8, [.ref t0, .int (nI (kt))])), (t0, .inl (cC, 120, .inl gT))]) hP hD hS hA [0, 1, 2, 3, 4] rfl kc_nd_311 rfl
  have hPc := hCu.1
  have hDc := hCu.2.1
  have hFc := hCu.2.2
  have hKc := hK.sb (tys2 := [(c1, .int), (c2, .int), (cC, .char)]) [0, 1, 2] rfl
  refine va_calli (va_runV (As := [.int (nI (dd)), .int 1]) (rest := []) ⟨hx, hb, hml, hown, hts⟩ (s_unit4x_g_1 l dC dI jT t0 cC gT kt hkt hgT bt hbt hb8 jR r1 r2 c1 c2 s1 s2 wr fi q6 q7 hwr hfi pn hpn hwp b6 n6 g6 hn6 b7 n7 g7 hn7 gn6 hz6 gn7 hz7 e1 dd bd_1 ih s.heap.size) (cwV 2 hts (kG (List.forall_mem_cons.mpr ⟨(List.mem_cons_of_mem _ (List.mem_append_left _ (List.mem_of_getElem? (i := 38) rfl))), (List.forall_mem_cons.mpr ⟨(List.mem_cons_of_mem _ (List.mem_append_left _ (List.mem_of_getElem? (i := 37) rfl))), (List.forall_mem_cons.mpr ⟨(List.mem_cons_of_mem _ (List.mem_append_left _ (List.mem_of_getElem? (i := 36) rfl))), (List.forall_mem_cons.mpr ⟨(List.mem_cons_of_mem _ (List.mem_append_left _ (List.mem_of_getElem? (i := 0) rfl))), (fun _ h => absurd h List.not_mem_nil)⟩)⟩)⟩)⟩) (kGV _ _ _ _) (kFam (List.mem_cons_of_mem _ (List.mem_append_left _ (List.mem_of_getElem? (i := 35) rfl)))) gw_s_unit4x_g_1) rfl rfl rfl ⟨rfl, hd_X4_readUnit⟩ ⟨(show (9 + 6 * (e1 + 1)) + 1 ≤ (10 + 6 * (e1 + 1)) from by omega), (show 8 + (4 + 11) + 60 * (9 + 6 * (e1 + 1)) ≤ 60 * (10 + 6 * (e1 + 1)) from by omega)⟩) (kW_V kS2_blind (kS2_give hX hS hFc) (va_recv hKc hPc (ci := 4) (q0 := 0) rfl rfl) hPc hKc hDc) rfl rfl hl.1 rfl (lv_room (Nat.le_of_ble_eq_true rfl)) dX4_readTruth_3 ⟨(Nat.le_of_ble_eq_true rfl), (Nat.le_of_ble_eq_true rfl)⟩) hS (fun q _ h => hFc q h) hFc (fun r_2 => kU5 (fun S1_3 Wr_4 Pn_5 xo_6 xl_7 t H_8 locs ht hvm hw hB hz1 hk1 hS => ?_))
  try dsimp only at hw
  have hPD : kPD dC dI A [(jR, .inr (4, [.ref jT, .ref r1, .ref r2, .int (nI (Wr_4)), .int (nI (fi)), .int (nI (Pn_5)), .ref q6, .ref q7])), (r1, .inl (c1, 120, .inl S1_3)), (r2, .inl (c2, 124, .inl s2)), (jT, .inr (8, [.ref t0, .int (nI (kt))])), (t0, .inl (cC, 120, .inl gT))] H_8 := kJoinX hP hD [0, 1, 2, 3, 4] rfl hk1 hFc hB.1 ht hB.2.2 rfl [some 0, some 1, some 2, some 3, some 4] rfl rfl
  have hP := hPD.1
  have hD := hPD.2
  have hw_9 := hw
  refine lv_if_ne (tgt := 11) hx hb dX4_readTruth_6 kc_t_6_5 (fun c_10 => ?_) (fun c_10 => ?_)
  · obtain rfl : xo_6 = true := kBo_t (kNz9 hw_9.1 c_10)
    obtain ⟨hw_9_W, hw_9_S, hw_9_l, hw_9_p⟩ := hw_9.2.1.2.2 rfl
    have hw_9_k := hw_9.2.1.2.1
    refine lv_iconst (v := 0) hx hb dX4_readTruth_11 kc_i_0 ?_
    refine lv_istore_n hx hb dX4_readTruth_12 rfl hl kc_l_3_4 (kTo [(3, .int 0), (0, .ref jR), (1, .int (nI (dd))), (2, .int 1)]) (fun ls hl => ?_)
    have lp_k_11 : ∀ (n9 : Nat) (i : Nat) (xs1 : Nat → Int32) (xpn : Nat) (xwr : Nat) (xl : List Int32) (ivk_11_0 : i ≤ 120) (ivk_11_1 : xwr ≤ 120) (ivk_11_2 : xpn ≤ kt) (ivk_11_3 : kLoop bt kt 38 38 (kUnitD bt kt g7 n7 (e1 + 1)) (120 - i) xpn xl = kTruZ bt kt g7 n7 (e1 + 1) pn) (ivk_11_4 : xwr = wr + xl.length) (ivk_11_5 : xs1 = kWrt s1 wr xl) (ivk_11_6 : pn + xl.length ≤ xpn) (ivk_11_7 : pn < xpn) (H : Heap) (locs : List Loc) (_ : va_P (dC, dI) vwCl [(jR, .inr (4, [.ref jT, .ref r1, .ref r2, .int (nI (xwr)), .int (nI (fi)), .int (nI (xpn)), .ref q6, .ref q7])), (r1, .inl (c1, 120, .inl xs1)), (r2, .inl (c2, 124, .inl s2)), (jT, .inr (8, [.ref t0, .int (nI (kt))])), (t0, .inl (cC, 120, .inl gT))] H) (_ : va_D A [(jR, .inr (4, [.ref jT, .ref r1, .ref r2, .int (nI (xwr)), .int (nI (fi)), .int (nI (xpn)), .ref q6, .ref q7])), (r1, .inl (c1, 120, .inl xs1)), (r2, .inl (c2, 124, .inl s2)), (jT, .inr (8, [.ref t0, .int (nI (kt))])), (t0, .inl (cC, 120, .inl gT))]) (_ : va_S A s.heap H locs) (ls : Array Slot) (_ : lv_has ls 4 [(3, .int (nI (i))), (0, .ref jR), (1, .int (nI (dd))), (2, .int 1)]) (_ : 120 - i < n9), W p l e (headSpec w_s_truth4x_g_1 ({ frames := (10 + 6 * (e1 + 1)), cells := 0, slots := 0, locals := 60 * (10 + 6 * (e1 + 1)) })).room s m (#[.ref jR, .int (nI (dd)), .int 1] : Array Value) below meth c H locs 0 0 Q (F0 m 13 ls []) := by
      intro n9
      induction n9 with
      | zero => intro i xs1 xpn xwr xl ivk_11_0 ivk_11_1 ivk_11_2 ivk_11_3 ivk_11_4 ivk_11_5 ivk_11_6 ivk_11_7 H locs hP hD hS ls hl hm9; exact absurd hm9 (Nat.not_lt_zero _)
      | succ n9 ih_k_11 =>
        intro i xs1 xpn xwr xl ivk_11_0 ivk_11_1 ivk_11_2 ivk_11_3 ivk_11_4 ivk_11_5 ivk_11_6 ivk_11_7 H locs hP hD hS ls hl hm9
        refine lv_iload_n hx hb dX4_readTruth_13 rfl (lv_at hl 0 rfl) ?_
        refine lv_bipush (v := 120) hx hb dX4_readTruth_14 kc_b_120 ?_
        refine lv_icmp_ge (tgt := 65) hx hb dX4_readTruth_16 kc_t_16_49 (fun c_12 => ?_) (fun c_12 => ?_)
        · have bd_14 : i < 2147483648 := by omega
          have hn_13 := kle (a := 120) (b := i) kc_31_120 bd_14 c_12
          refine lv_iconst (v := 1) hx hb dX4_readTruth_65 kc_i_1 ?_
          have hP9 := hP
          have hD9 := hD
          have hK9 := hK
          rw [hQ]
          exact W.zret (v := 1) hx hb hr rfl (fun t ht hW => ⟨⟨1, (xs1, xwr, xpn, true, xl), rfl, ⟨rfl, kPR_t (a := kTruZ bt kt g7 n7 (e1 + 1)) rfl (kTruZ_good hz7 (e1 + 1)) (by omega) (by rw [← ivk_11_3, show 120 - i = 0 by omega]; rfl) ivk_11_4 ivk_11_5, by omega⟩,  by rw [ht]; exact hP9, va_K.moved hW.alike hK9, hD9⟩, hS.F ht⟩) hS.2.2 dX4_readTruth_66
        · have bd_16 : i < 2147483648 := by omega
          have hn_15 := knle (a := 120) (b := i) kc_31_120 bd_16 c_12
          refine lv_aload_n hx hb dX4_readTruth_19 rfl (lv_at hl 1 rfl) ?_
          have bd_17 : xwr ≤ 120 := by omega
          have bd_18 : xpn ≤ kt := by omega
          have hCu := kCut (wc := [(jR, .inr (4, [.ref jT, .ref r1, .ref r2, .int (nI (xwr)), .int (nI (fi)), .int (nI (xpn)), .ref q6, .ref q7])), (r1, .inl (c1, 120, .inl xs1)), (r2, .inl (c2, 124, .inl s2)), (jT, .inr (8, [.ref t0, .int (nI (kt))])), (t0, .inl (cC, 120, .inl gT))]) hP hD hS hA [0, 1, 2, 3, 4] rfl kc_nd_311 rfl
          have hPc := hCu.1
          have hDc := hCu.2.1
          have hFc := hCu.2.2
          have hKc := hK.sb (tys2 := [(c1, .int), (c2, .int), (cC, .char)]) [0, 1, 2] rfl
          refine va_calli (va_runV (As := []) (rest := []) ⟨hx, hb, hml, hown, hts⟩ (s_look4x l dC dI jT t0 cC gT kt hkt hgT bt hbt hb8 jR r1 r2 c1 c2 xs1 s2 xwr fi q6 q7 bd_17 hfi xpn bd_18 H.size) (cwV 0 hts (kG (List.forall_mem_cons.mpr ⟨(List.mem_cons_of_mem _ (List.mem_append_left _ (List.mem_of_getElem? (i := 3) rfl))), (List.forall_mem_cons.mpr ⟨(List.mem_cons_of_mem _ (List.mem_append_left _ (List.mem_of_getElem? (i := 2) rfl))), (List.forall_mem_cons.mpr ⟨(List.mem_cons_of_mem _ (List.mem_append_left _ (List.mem_of_getElem? (i := 1) rfl))), (List.forall_mem_cons.mpr ⟨(List.mem_cons_of_mem _ (List.mem_append_left _ (List.mem_of_getElem? (i := 0) rfl))), (fun _ h => absurd h List.not_mem_nil)⟩)⟩)⟩)⟩) (kGV _ _ _ _) (fun _ h => List.mem_cons_of_mem _ (List.mem_append_right _ (List.mem_append_left _ h))) gw_s_look4x) rfl rfl rfl ⟨rfl, hd_X4_look⟩ ⟨(show 2 + 1 ≤ (10 + 6 * (e1 + 1)) from by omega), (show 8 + (2 + 11) + 60 * 2 ≤ 60 * (10 + 6 * (e1 + 1)) from by omega)⟩) (kW_V kT_blind kT_give (va_recv hKc hPc (ci := 4) (q0 := 0) rfl rfl) hPc hKc hDc) rfl rfl hl.1 rfl (lv_room (Nat.le_of_ble_eq_true rfl)) dX4_readTruth_20 ⟨(Nat.le_of_ble_eq_true rfl), (Nat.le_of_ble_eq_true rfl)⟩) hS (fun q _ h => hFc q h) hFc (fun r_19 => kU2 (fun Pn_20 ch_21 t H_22 locs ht hvm hw hB hz1 hk1 hS => ?_))
          try dsimp only at hw
          have hPD : kPD dC dI A [(jR, .inr (4, [.ref jT, .ref r1, .ref r2, .int (nI (xwr)), .int (nI (fi)), .int (nI (Pn_20)), .ref q6, .ref q7])), (r1, .inl (c1, 120, .inl xs1)), (r2, .inl (c2, 124, .inl s2)), (jT, .inr (8, [.ref t0, .int (nI (kt))])), (t0, .inl (cC, 120, .inl gT))] H_22 := kJoinX hP hD [0, 1, 2, 3, 4] rfl hk1 hFc hB.1 ht hB.2.2 rfl [some 0, some 1, some 2, some 3, some 4] rfl rfl
          have hP := hPD.1
          have hD := hPD.2
          obtain ⟨rfl, hw_23_0, hw_23_1, hw_23_2, hw_23_3, hw_23_4, hw_23_5, hw_23_6⟩ := hw
          refine lv_bipush (v := 38) hx hb dX4_readTruth_23 kc_b_38 ?_
          refine lv_icmp_ne (tgt := 65) hx hb dX4_readTruth_25 kc_t_25_40 (fun c_24 => ?_) (fun c_24 => ?_)
          · have bd_26 : ch_21 < 2147483648 := by omega
            have hn_25 := kneq (a := ch_21) (b := 38) bd_26 kc_31_38 c_24
            refine lv_iconst (v := 1) hx hb dX4_readTruth_65 kc_i_1 ?_
            have hP9 := hP
            have hD9 := hD
            have hK9 := hK
            rw [hQ]
            exact W.zret (v := 1) hx hb hr rfl (fun t ht hW => ⟨⟨1, (xs1, xwr, Pn_20, true, xl), rfl, ⟨rfl, kPR_t (a := kTruZ bt kt g7 n7 (e1 + 1)) rfl (kTruZ_good hz7 (e1 + 1)) (by omega) (by rw [← ivk_11_3, show 120 - i = (119 - i) + 1 by omega, kLoop_e (by rw [← hw_23_0]; omega), ← hw_23_1]) ivk_11_4 ivk_11_5, by omega⟩,  by rw [ht]; exact hP9, va_K.moved hW.alike hK9, hD9⟩, hS.F ht⟩) hS.2.2 dX4_readTruth_66
          · have bd_28 : ch_21 < 2147483648 := by omega
            have hn_27 := keq (a := ch_21) (b := 38) bd_28 kc_31_38 c_24
            refine lv_aload_n hx hb dX4_readTruth_28 rfl (lv_at hl 1 rfl) ?_
            refine lv_dup hx hb dX4_readTruth_29 rfl ?_
            refine va_get (D := (dC, dI)) (ci := 4) (v := .int (nI (Pn_20))) (C := RX4) (T := TX4) (N := 8) hx hb hts (fun _ h => List.mem_cons_of_mem _ (List.mem_append_right _ (List.mem_append_right _ (List.mem_append_right _ (List.mem_append_left _ h))))) hown hK hP 0 rfl rfl 5 kc_l_5_8 (hts (.fieldLink RX4 25 "NotEnded$Reader" "place" "I") (List.mem_cons_of_mem _ (List.mem_append_left _ (List.mem_of_getElem? (i := 11) rfl)))) (fun _ h9 => h9) rfl dX4_readTruth_30 ?_
            refine lv_iconst (v := 1) hx hb dX4_readTruth_33 kc_i_1 ?_
            refine lv_iadd hx hb dX4_readTruth_34 ?_
            refine lv_topi (fun y_29 ey_29 => ?_)
            obtain rfl : y_29 = nI (Pn_20 + 1) := ey_29.trans (nI_add (Pn_20) (1))
            refine va_put (D := (dC, dI)) (ci := 4) (v := .int (nI (Pn_20 + 1))) (ty := tyX4 5) (C := RX4) (T := TX4) (N := 8) hx hb hts (fun _ h => List.mem_cons_of_mem _ (List.mem_append_right _ (List.mem_append_right _ (List.mem_append_right _ (List.mem_append_left _ h))))) tyX4 tyX4_ok nmX4 hown hK hP hD hS 0 rfl rfl 5 kc_l_5_8 (hts (.fieldLink RX4 25 "NotEnded$Reader" "place" "I") (List.mem_cons_of_mem _ (List.mem_append_left _ (List.mem_of_getElem? (i := 11) rfl)))) (fun _ h9 => h9) rfl (tyX4_ok 5 kc_l_5_8) rfl rfl (Nat.le_of_ble_eq_true rfl) dX4_readTruth_35 (fun H locs hP hD hS => ?_)
            have hPD : kPD dC dI A [(jR, .inr (4, [.ref jT, .ref r1, .ref r2, .int (nI (xwr)), .int (nI (fi)), .int (nI (Pn_20 + 1)), .ref q6, .ref q7])), (r1, .inl (c1, 120, .inl xs1)), (r2, .inl (c2, 124, .inl s2)), (jT, .inr (8, [.ref t0, .int (nI (kt))])), (t0, .inl (cC, 120, .inl gT))] H := ⟨hP, hD⟩
            have hP := hPD.1
            have hD := hPD.2
            refine lv_aload_n hx hb dX4_readTruth_38 rfl (lv_at hl 1 rfl) ?_
            refine lv_iload_n hx hb dX4_readTruth_39 rfl (lv_at hl 2 rfl) ?_
            refine lv_iconst (v := 0) hx hb dX4_readTruth_40 kc_i_0 ?_
            have bd_30 : (Pn_20 + 1) ≤ kt := by omega
            have bd_31 : xwr ≤ (Pn_20 + 1) := by omega
            have hCu := kCut (wc := [(jR, .inr (4, [.ref jT, .ref r1, .ref r2, .int (nI (xwr)), .int (nI (fi)), .int (nI (Pn_20 + 1)), .ref q6, .ref q7])), (r1, .inl (c1, 120, .inl xs1)), (r2, .inl (c2, 124, .inl s2)), (jT, .inr (8, [.ref t0, .int (nI (kt))])), (t0, .inl (cC, 120, .inl gT))]) hP hD hS hA [0, 1, 2, 3, 4] rfl kc_nd_311 rfl
            have hPc := hCu.1
            have hDc := hCu.2.1
            have hFc := hCu.2.2
            have hKc := hK.sb (tys2 := [(c1, .int), (c2, .int), (cC, .char)]) [0, 1, 2] rfl
            refine va_calli (va_runV (As := [.int (nI (dd)), .int 0]) (rest := []) ⟨hx, hb, hml, hown, hts⟩ (s_unit4x_g_0 l dC dI jT t0 cC gT kt hkt hgT bt hbt hb8 jR r1 r2 c1 c2 xs1 s2 xwr fi q6 q7 bd_17 hfi (Pn_20 + 1) bd_30 bd_31 b6 n6 g6 hn6 b7 n7 g7 hn7 gn6 hz6 gn7 hz7 e1 dd bd_1 ih H.size) (cwV 2 hts (kG (List.forall_mem_cons.mpr ⟨(List.mem_cons_of_mem _ (List.mem_append_left _ (List.mem_of_getElem? (i := 38) rfl))), (List.forall_mem_cons.mpr ⟨(List.mem_cons_of_mem _ (List.mem_append_left _ (List.mem_of_getElem? (i := 37) rfl))), (List.forall_mem_cons.mpr ⟨(List.mem_cons_of_mem _ (List.mem_append_left _ (List.mem_of_getElem? (i := 36) rfl))), (List.forall_mem_cons.mpr ⟨(List.mem_cons_of_mem _ (List.mem_append_left _ (List.mem_of_getElem? (i := 0) rfl))), (fun _ h => absurd h List.not_mem_nil)⟩)⟩)⟩)⟩) (kGV _ _ _ _) (kFam (List.mem_cons_of_mem _ (List.mem_append_left _ (List.mem_of_getElem? (i := 35) rfl)))) gw_s_unit4x_g_0) rfl rfl rfl ⟨rfl, hd_X4_readUnit⟩ ⟨(show (9 + 6 * (e1 + 1)) + 1 ≤ (10 + 6 * (e1 + 1)) from by omega), (show 8 + (4 + 11) + 60 * (9 + 6 * (e1 + 1)) ≤ 60 * (10 + 6 * (e1 + 1)) from by omega)⟩) (kW_V kS2_blind (kS2_give hX hS hFc) (va_recv hKc hPc (ci := 4) (q0 := 0) rfl rfl) hPc hKc hDc) rfl rfl hl.1 rfl (lv_room (Nat.le_of_ble_eq_true rfl)) dX4_readTruth_41 ⟨(Nat.le_of_ble_eq_true rfl), (Nat.le_of_ble_eq_true rfl)⟩) hS (fun q _ h => hFc q h) hFc (fun r_32 => kU5 (fun S1_33 Wr_34 Pn_35 xo_36 xl_37 t H_38 locs ht hvm hw hB hz1 hk1 hS => ?_))
            try dsimp only at hw
            have hPD : kPD dC dI A [(jR, .inr (4, [.ref jT, .ref r1, .ref r2, .int (nI (Wr_34)), .int (nI (fi)), .int (nI (Pn_35)), .ref q6, .ref q7])), (r1, .inl (c1, 120, .inl S1_33)), (r2, .inl (c2, 124, .inl s2)), (jT, .inr (8, [.ref t0, .int (nI (kt))])), (t0, .inl (cC, 120, .inl gT))] H_38 := kJoinX hP hD [0, 1, 2, 3, 4] rfl hk1 hFc hB.1 ht hB.2.2 rfl [some 0, some 1, some 2, some 3, some 4] rfl rfl
            have hP := hPD.1
            have hD := hPD.2
            have hw_39 := hw
            refine lv_if_eq (tgt := 57) hx hb dX4_readTruth_44 kc_t_44_13 (fun c_40 => ?_) (fun c_40 => ?_)
            · obtain rfl : xo_36 = false := kBo_f (kZr9 hw_39.1 c_40)
              have hw_39_k := hw_39.2.1.2.1
              refine lv_iconst (v := 0) hx hb dX4_readTruth_57 kc_i_0 ?_
              have hP9 := hP
              have hD9 := hD
              have hK9 := hK
              rw [hQ]
              exact W.zret (v := 0) hx hb hr rfl (fun t ht hW => ⟨⟨0, (S1_33, Wr_34, Pn_35, false, ([])), rfl, ⟨rfl, kPR_f (by rw [← ivk_11_3, show 120 - i = (119 - i) + 1 by omega]; exact kLoop_f (by rw [← hw_23_0]; omega) (by rw [← hw_23_1]; exact hw_39.2.1.1)) (by omega), by omega⟩,  by rw [ht]; exact hP9, va_K.moved hW.alike hK9, hD9⟩, hS.F ht⟩) hS.2.2 dX4_readTruth_58
            · obtain rfl : xo_36 = true := kBo_t (kNz9 hw_39.1 c_40)
              obtain ⟨hw_39_W, hw_39_S, hw_39_l, hw_39_p⟩ := hw_39.2.1.2.2 rfl
              have hw_39_k := hw_39.2.1.2.1
              refine lv_aload_n hx hb dX4_readTruth_47 rfl (lv_at hl 1 rfl) ?_
              refine lv_sipush (v := 20038) hx hb dX4_readTruth_48 kc_s_20038 ?_
              have bd_41 : Wr_34 ≤ 120 := by omega
              have bd_42 : Pn_35 ≤ kt := by omega
              have bd_43 : Wr_34 < 120 := by omega
              have hCu := kCut (wc := [(jR, .inr (4, [.ref jT, .ref r1, .ref r2, .int (nI (Wr_34)), .int (nI (fi)), .int (nI (Pn_35)), .ref q6, .ref q7])), (r1, .inl (c1, 120, .inl S1_33)), (r2, .inl (c2, 124, .inl s2)), (jT, .inr (8, [.ref t0, .int (nI (kt))])), (t0, .inl (cC, 120, .inl gT))]) hP hD hS hA [0, 1, 2, 3, 4] rfl kc_nd_311 rfl
              have hPc := hCu.1
              have hDc := hCu.2.1
              have hFc := hCu.2.2
              have hKc := hK.sb (tys2 := [(c1, .int), (c2, .int), (cC, .char)]) [0, 1, 2] rfl
              refine va_calli (va_runV (As := [.int 20038]) (rest := []) ⟨hx, hb, hml, hown, hts⟩ (s_write4x l dC dI jT t0 cC gT kt hkt hgT bt hbt hb8 jR r1 r2 c1 c2 S1_33 s2 Wr_34 fi q6 q7 bd_41 hfi Pn_35 bd_42 20038 bd_43 H_38.size) (cwV 1 hts (kG (List.forall_mem_cons.mpr ⟨(List.mem_cons_of_mem _ (List.mem_append_left _ (List.mem_of_getElem? (i := 14) rfl))), (List.forall_mem_cons.mpr ⟨(List.mem_cons_of_mem _ (List.mem_append_left _ (List.mem_of_getElem? (i := 13) rfl))), (List.forall_mem_cons.mpr ⟨(List.mem_cons_of_mem _ (List.mem_append_left _ (List.mem_of_getElem? (i := 12) rfl))), (List.forall_mem_cons.mpr ⟨(List.mem_cons_of_mem _ (List.mem_append_left _ (List.mem_of_getElem? (i := 0) rfl))), (fun _ h => absurd h List.not_mem_nil)⟩)⟩)⟩)⟩) (kGV _ _ _ _) (fun _ h => List.mem_cons_of_mem _ (List.mem_append_right _ (List.mem_append_right _ (List.mem_append_right _ (List.mem_append_right _ (List.mem_append_right _ (List.mem_append_left _ h))))))) gw_s_write4x) rfl rfl rfl ⟨rfl, hd_X4_write⟩ ⟨(show 1 + 1 ≤ (10 + 6 * (e1 + 1)) from by omega), (show 8 + (2 + 11) + 60 * 1 ≤ 60 * (10 + 6 * (e1 + 1)) from by omega)⟩) (kW_V kT_blind kT_give (va_recv hKc hPc (ci := 4) (q0 := 0) rfl rfl) hPc hKc hDc) rfl rfl hl.1 rfl (lv_room (Nat.le_of_ble_eq_true rfl)) dX4_readTruth_51 ⟨(Nat.le_of_ble_eq_true rfl), (Nat.le_of_ble_eq_true rfl)⟩) hS (fun q _ h => hFc q h) hFc (fun r_44 => kU2 (fun S1_45 Wr_46 t H_47 locs ht hvm hw hB hz1 hk1 hS => ?_))
              try dsimp only at hw
              have hPD : kPD dC dI A [(jR, .inr (4, [.ref jT, .ref r1, .ref r2, .int (nI (Wr_46)), .int (nI (fi)), .int (nI (Pn_35)), .ref q6, .ref q7])), (r1, .inl (c1, 120, .inl S1_45)), (r2, .inl (c2, 124, .inl s2)), (jT, .inr (8, [.ref t0, .int (nI (kt))])), (t0, .inl (cC, 120, .inl gT))] H_47 := kJoinX hP hD [0, 1, 2, 3, 4] rfl hk1 hFc hB.1 ht hB.2.2 rfl [some 0, some 1, some 2, some 3, some 4] rfl rfl
              have hP := hPD.1
              have hD := hPD.2
              obtain ⟨rfl, hw_48⟩ := hw
              refine lv_if_ne (tgt := 59) hx hb dX4_readTruth_54 kc_t_54_5 (fun c_49 => ?_) (fun c_49 => absurd c_49 (by decide))
              refine lv_iinc (v := nI (i + 1)) hx hb dX4_readTruth_59 hl (k := 0) rfl (kInc _ 1) kc_l_3_4 (kTo [(3, .int (nI (i + 1))), (0, .ref jR), (1, .int (nI (dd))), (2, .int 1)]) (fun ls hl => ?_)
              refine lv_goto (tgt := 13) hx hb dX4_readTruth_62 kc_t_62_m49 ?_
              exact ih_k_11 (i + 1) S1_45 Pn_35 Wr_46 (xl ++ xl_37 ++ [nI (20000 + 38)]) (by omega) (by omega) (by omega) (by have e9 := kLoop_t (b := bt) (n := kt) (c1 := 38) (c2 := 38) (a := kUnitD bt kt g7 n7 (e1 + 1)) (f := 120 - (i + 1)) (p := xpn) (l := xl) (by rw [← hw_23_0]; omega) (by rw [← hw_23_1]; exact hw_39.2.1.1); rw [← hw_23_0] at e9; rw [show ch_21 = 38 by omega] at e9; rw [← e9, show (120 - (i + 1)) + 1 = 120 - i by omega]; exact ivk_11_3) (by simp only [List.length_append, List.length_cons, List.length_nil]; omega) (kWrt3 ivk_11_5 ivk_11_4 hw_39_S hw_39_W hw_48.2) (by simp only [List.length_append, List.length_cons, List.length_nil]; omega) (by omega) _ _ hP hD hS ls (lv_sub hl [0, 1, 2, 3] rfl) (by omega)
    exact lp_k_11 (120 - 0 + 1) 0 S1_3 Pn_5 Wr_4 xl_7 (by omega) (by omega) (by omega) (kMany_t hw_9.2.1.1).symm hw_9_W hw_9_S hw_9_l hw_9_p _ _ hP hD hS ls (lv_sub hl [0, 1, 2, 3] rfl) (by omega)
  · obtain rfl : xo_6 = false := kBo_f (kZr9 hw_9.1 c_10)
    have hw_9_k := hw_9.2.1.2.1
    refine lv_iconst (v := 0) hx hb dX4_readTruth_9 kc_i_0 ?_
    have hP9 := hP
    have hD9 := hD
    have hK9 := hK
    rw [hQ]
    exact W.zret (v := 0) hx hb hr rfl (fun t ht hW => ⟨⟨0, (S1_3, Wr_4, Pn_5, false, ([])), rfl, ⟨rfl, kPR_f (kMany_f hw_9.2.1.1) (by omega), by omega⟩,  by rw [ht]; exact hP9, va_K.moved hW.alike hK9, hD9⟩, hS.F ht⟩) hS.2.2 dX4_readTruth_10

def w_s_cond4x_g_0 : List Cond := .code yX4_readCondition cX4_readCondition 4 (some .boolean) :: wf_rq
theorem gw_s_cond4x_g_0 : (w_s_cond4x_g_0).all goodWord = true := kFamG rfl gf_rq
set_option maxHeartbeats 4000000 in
set_option maxRecDepth 100000 in
theorem s_cond4x_g_0 (l : Launch) (dC : Nat → ClassId) (dI : Nat → Nat → Nat) (jT : Nat) (t0 : Nat) (cC : ClassId) (gT : Nat → Int32) (kt : Nat) (hkt : kt ≤ 120) (hgT : ∀ j : Nat, narrow .char (.int (gT j)) = .int (gT j)) (bt : Nat → Nat) (hbt : ∀ j : Nat, gT j = nI (bt j)) (hb8 : ∀ j : Nat, bt j < 256) (jR : Nat) (r1 : Nat) (r2 : Nat) (c1 : ClassId) (c2 : ClassId) (s1 : Nat → Int32) (s2 : Nat → Int32) (wr : Nat) (fi : Nat) (q6 : Nat) (q7 : Nat) (hwr : wr ≤ 120) (hfi : fi ≤ 124) (pn : Nat) (hpn : pn ≤ kt) (hwp : wr ≤ pn) (b6 : Nat) (n6 : Nat) (g6 : Nat → Int32) (hn6 : n6 ≤ 8) (b7 : Nat) (n7 : Nat) (g7 : Nat → Int32) (hn7 : n7 ≤ 8) (gn6 : ∀ k : Nat, ∃ v : Nat, v < 128 ∧ g6 k = nI v) (hz6 : kIx g6 n6 (nI 0) = n6) (gn7 : ∀ k : Nat, ∃ v : Nat, v < 128 ∧ g7 k = nI v) (hz7 : kIx g7 n7 (nI 0) = n7) (e1 : Nat) (dd : Nat) (hdd : dd + e1 = 5) (ih : kIHq e1) (sz : Nat) : Met l yX4_readCondition w_s_cond4x_g_0 ({ frames := (11 + 6 * (e1 + 1)), cells := 0, slots := 0, locals := 60 * (11 + 6 * (e1 + 1)) }) (kW dC dI [.ref jR, .int (nI (dd)), .int 0] [(jR, .inr (4, [.ref jT, .ref r1, .ref r2, .int (nI (wr)), .int (nI (fi)), .int (nI (pn)), .ref q6, .ref q7])), (r1, .inl (c1, 120, .inl s1)), (r2, .inl (c2, 124, .inl s2)), (jT, .inr (8, [.ref t0, .int (nI (kt))])), (t0, .inl (cC, 120, .inl gT))] [(c1, .int), (c2, .int), (cC, .char)] (kS2 q6 b6 n6 g6 q7 b7 n7 g7 (va_A [(jR, .inr (4, [.ref jT, .ref r1, .ref r2, .int (nI (wr)), .int (nI (fi)), .int (nI (pn)), .ref q6, .ref q7])), (r1, .inl (c1, 120, .inl s1)), (r2, .inl (c2, 124, .inl s2)), (jT, .inr (8, [.ref t0, .int (nI (kt))])), (t0, .inl (cC, 120, .inl gT))] sz)) sz) (va_Qi (fun (r : Int32) (u : (Nat → Int32) × Nat × Nat × Bool × (List Int32)) => match u with | (S1, Wr, Pn, xo, xl) => (r = kBo xo ∧ kPR (kConD bt kt g7 n7 (e1 + 1) pn) pn kt wr s1 xo Pn xl Wr S1 ∧ Wr ≤ 120)) (fun (u : (Nat → Int32) × Nat × Nat × Bool × (List Int32)) => match u with | (S1, Wr, Pn, xo, xl) => fun t : State => kB dC dI [(jR, .inr (4, [.ref jT, .ref r1, .ref r2, .int (nI (Wr)), .int (nI (fi)), .int (nI (Pn)), .ref q6, .ref q7])), (r1, .inl (c1, 120, .inl S1)), (r2, .inl (c2, 124, .inl s2)), (jT, .inr (8, [.ref t0, .int (nI (kt))])), (t0, .inl (cC, 120, .inl gT))] [(c1, .int), (c2, .int), (cC, .char)] (va_A [(jR, .inr (4, [.ref jT, .ref r1, .ref r2, .int (nI (wr)), .int (nI (fi)), .int (nI (pn)), .ref q6, .ref q7])), (r1, .inl (c1, 120, .inl s1)), (r2, .inl (c2, 124, .inl s2)), (jT, .inr (8, [.ref t0, .int (nI (kt))])), (t0, .inl (cC, 120, .inl gT))] sz) t) (va_A [(jR, .inr (4, [.ref jT, .ref r1, .ref r2, .int (nI (wr)), .int (nI (fi)), .int (nI (pn)), .ref q6, .ref q7])), (r1, .inl (c1, 120, .inl s1)), (r2, .inl (c2, 124, .inl s2)), (jT, .inr (8, [.ref t0, .int (nI (kt))])), (t0, .inl (cC, 120, .inl gT))] sz)) 0 0 (va_A [(jR, .inr (4, [.ref jT, .ref r1, .ref r2, .int (nI (wr)), .int (nI (fi)), .int (nI (pn)), .ref q6, .ref q7])), (r1, .inl (c1, 120, .inl s1)), (r2, .inl (c2, 124, .inl s2)), (jT, .inr (8, [.ref t0, .int (nI (kt))])), (t0, .inl (cC, 120, .inl gT))] sz) := by
  refine Met.ofW (cc := cX4_readCondition) (maxL := 4) (ret := (some .boolean)) (by decide) rfl ?_
  intro p e s m args below meth c s₁ B hml hv
  obtain ⟨rfl, hsz, hP, hK, hD0, hX⟩ := hv
  have hx := B.exec
  have hb := B.bytes
  have hr := B.returns
  have hts := atoms_spec (ws := w_s_cond4x_g_0) B.pre
  have hown : s.vm.findClass RX4 = some m.cls := findClass_of_methodNamed B.named
  have hlocks := B.notSynchronized
  subst hsz
  have hD := hD0.self (sz := s.heap.size)
  generalize hAe : va_A [(jR, .inr (4, [.ref jT, .ref r1, .ref r2, .int (nI (wr)), .int (nI (fi)), .int (nI (pn)), .ref q6, .ref q7])), (r1, .inl (c1, 120, .inl s1)), (r2, .inl (c2, 124, .inl s2)), (jT, .inr (8, [.ref t0, .int (nI (kt))])), (t0, .inl (cC, 120, .inl gT))] s.heap.size = A at hD hX ⊢
  have hA : ∀ q : Nat, s.heap.size ≤ q → A q := fun q h => by rw [← hAe]; exact Or.inr h
  have hS : va_S A s.heap s.heap [] := va_S.rf
  have hP : va_P (dC, dI) vwCl [(jR, .inr (4, [.ref jT, .ref r1, .ref r2, .int (nI (wr)), .int (nI (fi)), .int (nI (pn)), .ref q6, .ref q7])), (r1, .inl (c1, 120, .inl s1)), (r2, .inl (c2, 124, .inl s2)), (jT, .inr (8, [.ref t0, .int (nI (kt))])), (t0, .inl (cC, 120, .inl gT))] s.heap := hP
  have hl := lv_entry ([.ref jR, .int (nI (dd)), .int 0]) (n := 4) (Nat.le_of_ble_eq_true rfl)
  rw [lg_entry_eq]
  generalize (lg_sl ([.ref jR, .int (nI (dd)), .int 0]) ++ List.replicate (4 - (lg_sl ([.ref jR, .int (nI (dd)), .int 0])).length) Slot.unset).toArray = ls at hl ⊢
  have hl : lv_has ls 4 [(0, .ref jR), (1, .int (nI (dd))), (2, .int 0)] := hl
  refine kQ (fun Q hQ => ?_)
  refine lv_aload_n hx hb dX4_readCondition_0 rfl (lv_at hl 0 rfl) ?_
  refine lv_iload_n hx hb dX4_readCondition_1 rfl (lv_at hl 1 rfl) ?_
  refine lv_iload_n hx hb dX4_readCondition_2 rfl (lv_at hl 2 rfl) ?_
  have bd_1 : dd + e1 = 5 := by omega
  have hCu := kCut (wc := [(jR, .inr (4, [.ref jT, .ref r1, .ref r2, .int (nI (wr)), .int (nI (fi)), .int (nI (pn)), .ref q6, .ref q7])), (r1, .inl (c1, 120, .inl s1)), (r2, .inl (c2, 124, .inl s2)), (jT, .inr (8, [.ref t0, .int (nI (kt))])), (t0, .inl (cC, 120, .inl gT))]) hP hD hS hA [0, 1, 2, 3, 4] rfl kc_nd_311 rfl
  have hPc := hCu.1
  have hDc := hCu.2.1
  have hFc := hCu.2.2
  have hKc := hK.sb (tys2 := [(c1, .int), (c2, .int), (cC, .char)]) [0, 1, 2] rfl
  refine va_calli (va_runV (As := [.int (nI (dd)), .int 0]) (rest := []) ⟨hx, hb, hml, hown, hts⟩ (s_truth4x_g_0 l dC dI jT t0 cC gT kt hkt hgT bt hbt hb8 jR r1 r2 c1 c2 s1 s2 wr fi q6 q7 hwr hfi pn hpn hwp b6 n6 g6 hn6 b7 n7 g7 hn7 gn6 hz6 gn7 hz7 e1 dd bd_1 ih s.heap.size) (cwV 2 hts (kG (List.forall_mem_cons.mpr ⟨(List.mem_cons_of_mem _ (List.mem_append_left _ (List.mem_of_getElem? (i := 42) rfl))), (List.forall_mem_cons.mpr ⟨(List.mem_cons_of_mem _ (List.mem_append_left _ (List.mem_of_getElem? (i := 41) rfl))), (List.forall_mem_cons.mpr ⟨(List.mem_cons_of_mem _ (List.mem_append_left _ (List.mem_of_getElem? (i := 40) rfl))), (List.forall_mem_cons.mpr ⟨(List.mem_cons_of_mem _ (List.mem_append_left _ (List.mem_of_getElem? (i := 0) rfl))), (fun _ h => absurd h List.not_mem_nil)⟩)⟩)⟩)⟩) (kGV _ _ _ _) (kFam (List.mem_cons_of_mem _ (List.mem_append_left _ (List.mem_of_getElem? (i := 39) rfl)))) gw_s_truth4x_g_0) rfl rfl rfl ⟨rfl, hd_X4_readTruth⟩ ⟨(show (10 + 6 * (e1 + 1)) + 1 ≤ (11 + 6 * (e1 + 1)) from by omega), (show 8 + (4 + 11) + 60 * (10 + 6 * (e1 + 1)) ≤ 60 * (11 + 6 * (e1 + 1)) from by omega)⟩) (kW_V kS2_blind (kS2_give hX hS hFc) (va_recv hKc hPc (ci := 4) (q0 := 0) rfl rfl) hPc hKc hDc) rfl rfl hl.1 rfl (lv_room (Nat.le_of_ble_eq_true rfl)) dX4_readCondition_3 ⟨(Nat.le_of_ble_eq_true rfl), (Nat.le_of_ble_eq_true rfl)⟩) hS (fun q _ h => hFc q h) hFc (fun r_2 => kU5 (fun S1_3 Wr_4 Pn_5 xo_6 xl_7 t H_8 locs ht hvm hw hB hz1 hk1 hS => ?_))
  try dsimp only at hw
  have hPD : kPD dC dI A [(jR, .inr (4, [.ref jT, .ref r1, .ref r2, .int (nI (Wr_4)), .int (nI (fi)), .int (nI (Pn_5)), .ref q6, .ref q7])), (r1, .inl (c1, 120, .inl S1_3)), (r2, .inl (c2, 124, .inl s2)), (jT, .inr (8, [.ref t0, .int (nI (kt))])), (t0, .inl (cC, 120, .inl gT))] H_8 := kJoinX hP hD [0, 1, 2, 3, 4] rfl hk1 hFc hB.1 ht hB.2.2 rfl [some 0, some 1, some 2, some 3, some 4] rfl rfl
  have hP := hPD.1
  have hD := hPD.2
  have hw_9 := hw
  refine lv_if_ne (tgt := 11) hx hb dX4_readCondition_6 kc_t_6_5 (fun c_10 => ?_) (fun c_10 => ?_)
  · obtain rfl : xo_6 = true := kBo_t (kNz9 hw_9.1 c_10)
    obtain ⟨hw_9_W, hw_9_S, hw_9_l, hw_9_p⟩ := hw_9.2.1.2.2 rfl
    have hw_9_k := hw_9.2.1.2.1
    refine lv_iconst (v := 0) hx hb dX4_readCondition_11 kc_i_0 ?_
    refine lv_istore_n hx hb dX4_readCondition_12 rfl hl kc_l_3_4 (kTo [(3, .int 0), (0, .ref jR), (1, .int (nI (dd))), (2, .int 0)]) (fun ls hl => ?_)
    have lp_k_11 : ∀ (n9 : Nat) (i : Nat) (xs1 : Nat → Int32) (xpn : Nat) (xwr : Nat) (xl : List Int32) (ivk_11_0 : i ≤ 120) (ivk_11_1 : xwr ≤ 120) (ivk_11_2 : xpn ≤ kt) (ivk_11_3 : kLoop bt kt 124 124 (kTruD bt kt g7 n7 (e1 + 1)) (120 - i) xpn xl = kConD bt kt g7 n7 (e1 + 1) pn) (ivk_11_4 : xwr = wr + xl.length) (ivk_11_5 : xs1 = kWrt s1 wr xl) (ivk_11_6 : pn + xl.length ≤ xpn) (ivk_11_7 : pn < xpn) (H : Heap) (locs : List Loc) (_ : va_P (dC, dI) vwCl [(jR, .inr (4, [.ref jT, .ref r1, .ref r2, .int (nI (xwr)), .int (nI (fi)), .int (nI (xpn)), .ref q6, .ref q7])), (r1, .inl (c1, 120, .inl xs1)), (r2, .inl (c2, 124, .inl s2)), (jT, .inr (8, [.ref t0, .int (nI (kt))])), (t0, .inl (cC, 120, .inl gT))] H) (_ : va_D A [(jR, .inr (4, [.ref jT, .ref r1, .ref r2, .int (nI (xwr)), .int (nI (fi)), .int (nI (xpn)), .ref q6, .ref q7])), (r1, .inl (c1, 120, .inl xs1)), (r2, .inl (c2, 124, .inl s2)), (jT, .inr (8, [.ref t0, .int (nI (kt))])), (t0, .inl (cC, 120, .inl gT))]) (_ : va_S A s.heap H locs) (ls : Array Slot) (_ : lv_has ls 4 [(3, .int (nI (i))), (0, .ref jR), (1, .int (nI (dd))), (2, .int 0)]) (_ : 120 - i < n9), W p l e (headSpec w_s_cond4x_g_0 ({ frames := (11 + 6 * (e1 + 1)), cells := 0, slots := 0, locals := 60 * (11 + 6 * (e1 + 1)) })).room s m (#[.ref jR, .int (nI (dd)), .int 0] : Array Value) below meth c H locs 0 0 Q (F0 m 13 ls []) := by
      intro n9
      induction n9 with
      | zero => intro i xs1 xpn xwr xl ivk_11_0 ivk_11_1 ivk_11_2 ivk_11_3 ivk_11_4 ivk_11_5 ivk_11_6 ivk_11_7 H locs hP hD hS ls hl hm9; exact absurd hm9 (Nat.not_lt_zero _)
      | succ n9 ih_k_11 =>
        intro i xs1 xpn xwr xl ivk_11_0 ivk_11_1 ivk_11_2 ivk_11_3 ivk_11_4 ivk_11_5 ivk_11_6 ivk_11_7 H locs hP hD hS ls hl hm9
        refine lv_iload_n hx hb dX4_readCondition_13 rfl (lv_at hl 0 rfl) ?_
        refine lv_bipush (v := 120) hx hb dX4_readCondition_14 kc_b_120 ?_
        refine lv_icmp_ge (tgt := 65) hx hb dX4_readCondition_16 kc_t_16_49 (fun c_12 => ?_) (fun c_12 => ?_)
        · have bd_14 : i < 2147483648 := by omega
          have hn_13 := kle (a := 120) (b := i) kc_31_120 bd_14 c_12
          refine lv_iconst (v := 1) hx hb dX4_readCondition_65 kc_i_1 ?_
          have hP9 := hP
          have hD9 := hD
          have hK9 := hK
          rw [hQ]
          exact W.zret (v := 1) hx hb hr rfl (fun t ht hW => ⟨⟨1, (xs1, xwr, xpn, true, xl), rfl, ⟨rfl, kPR_t (a := kConD bt kt g7 n7 (e1 + 1)) rfl (kConD_good hz7 (e1 + 1)) (by omega) (by rw [← ivk_11_3, show 120 - i = 0 by omega]; rfl) ivk_11_4 ivk_11_5, by omega⟩,  by rw [ht]; exact hP9, va_K.moved hW.alike hK9, hD9⟩, hS.F ht⟩) hS.2.2 dX4_readCondition_66
        · have bd_16 : i < 2147483648 := by omega
          have hn_15 := knle (a := 120) (b := i) kc_31_120 bd_16 c_12
          refine lv_aload_n hx hb dX4_readCondition_19 rfl (lv_at hl 1 rfl) ?_
          have bd_17 : xwr ≤ 120 := by omega
          have bd_18 : xpn ≤ kt := by omega
          have hCu := kCut (wc := [(jR, .inr (4, [.ref jT, .ref r1, .ref r2, .int (nI (xwr)), .int (nI (fi)), .int (nI (xpn)), .ref q6, .ref q7])), (r1, .inl (c1, 120, .inl xs1)), (r2, .inl (c2, 124, .inl s2)), (jT, .inr (8, [.ref t0, .int (nI (kt))])), (t0, .inl (cC, 120, .inl gT))]) hP hD hS hA [0, 1, 2, 3, 4] rfl kc_nd_311 rfl
          have hPc := hCu.1
          have hDc := hCu.2.1
          have hFc := hCu.2.2
          have hKc := hK.sb (tys2 := [(c1, .int), (c2, .int), (cC, .char)]) [0, 1, 2] rfl
          refine va_calli (va_runV (As := []) (rest := []) ⟨hx, hb, hml, hown, hts⟩ (s_look4x l dC dI jT t0 cC gT kt hkt hgT bt hbt hb8 jR r1 r2 c1 c2 xs1 s2 xwr fi q6 q7 bd_17 hfi xpn bd_18 H.size) (cwV 0 hts (kG (List.forall_mem_cons.mpr ⟨(List.mem_cons_of_mem _ (List.mem_append_left _ (List.mem_of_getElem? (i := 3) rfl))), (List.forall_mem_cons.mpr ⟨(List.mem_cons_of_mem _ (List.mem_append_left _ (List.mem_of_getElem? (i := 2) rfl))), (List.forall_mem_cons.mpr ⟨(List.mem_cons_of_mem _ (List.mem_append_left _ (List.mem_of_getElem? (i := 1) rfl))), (List.forall_mem_cons.mpr ⟨(List.mem_cons_of_mem _ (List.mem_append_left _ (List.mem_of_getElem? (i := 0) rfl))), (fun _ h => absurd h List.not_mem_nil)⟩)⟩)⟩)⟩) (kGV _ _ _ _) (fun _ h => List.mem_cons_of_mem _ (List.mem_append_right _ (List.mem_append_left _ h))) gw_s_look4x) rfl rfl rfl ⟨rfl, hd_X4_look⟩ ⟨(show 2 + 1 ≤ (11 + 6 * (e1 + 1)) from by omega), (show 8 + (2 + 11) + 60 * 2 ≤ 60 * (11 + 6 * (e1 + 1)) from by omega)⟩) (kW_V kT_blind kT_give (va_recv hKc hPc (ci := 4) (q0 := 0) rfl rfl) hPc hKc hDc) rfl rfl hl.1 rfl (lv_room (Nat.le_of_ble_eq_true rfl)) dX4_readCondition_20 ⟨(Nat.le_of_ble_eq_true rfl), (Nat.le_of_ble_eq_true rfl)⟩) hS (fun q _ h => hFc q h) hFc (fun r_19 => kU2 (fun Pn_20 ch_21 t H_22 locs ht hvm hw hB hz1 hk1 hS => ?_))
          try dsimp only at hw
          have hPD : kPD dC dI A [(jR, .inr (4, [.ref jT, .ref r1, .ref r2, .int (nI (xwr)), .int (nI (fi)), .int (nI (Pn_20)), .ref q6, .ref q7])), (r1, .inl (c1, 120, .inl xs1)), (r2, .inl (c2, 124, .inl s2)), (jT, .inr (8, [.ref t0, .int (nI (kt))])), (t0, .inl (cC, 120, .inl gT))] H_22 := kJoinX hP hD [0, 1, 2, 3, 4] rfl hk1 hFc hB.1 ht hB.2.2 rfl [some 0, some 1, some 2, some 3, some 4] rfl rfl
          have hP := hPD.1
          have hD := hPD.2
          obtain ⟨rfl, hw_23_0, hw_23_1, hw_23_2, hw_23_3, hw_23_4, hw_23_5, hw_23_6⟩ := hw
          refine lv_bipush (v := 124) hx hb dX4_readCondition_23 kc_b_124 ?_
          refine lv_icmp_ne (tgt := 65) hx hb dX4_readCondition_25 kc_t_25_40 (fun c_24 => ?_) (fun c_24 => ?_)
          · have bd_26 : ch_21 < 2147483648 := by omega
            have hn_25 := kneq (a := ch_21) (b := 124) bd_26 kc_31_124 c_24
            refine lv_iconst (v := 1) hx hb dX4_readCondition_65 kc_i_1 ?_
            have hP9 := hP
            have hD9 := hD
            have hK9 := hK
            rw [hQ]
            exact W.zret (v := 1) hx hb hr rfl (fun t ht hW => ⟨⟨1, (xs1, xwr, Pn_20, true, xl), rfl, ⟨rfl, kPR_t (a := kConD bt kt g7 n7 (e1 + 1)) rfl (kConD_good hz7 (e1 + 1)) (by omega) (by rw [← ivk_11_3, show 120 - i = (119 - i) + 1 by omega, kLoop_e (by rw [← hw_23_0]; omega), ← hw_23_1]) ivk_11_4 ivk_11_5, by omega⟩,  by rw [ht]; exact hP9, va_K.moved hW.alike hK9, hD9⟩, hS.F ht⟩) hS.2.2 dX4_readCondition_66
          · have bd_28 : ch_21 < 2147483648 := by omega
            have hn_27 := keq (a := ch_21) (b := 124) bd_28 kc_31_124 c_24
            refine lv_aload_n hx hb dX4_readCondition_28 rfl (lv_at hl 1 rfl) ?_
            refine lv_dup hx hb dX4_readCondition_29 rfl ?_
            refine va_get (D := (dC, dI)) (ci := 4) (v := .int (nI (Pn_20))) (C := RX4) (T := TX4) (N := 8) hx hb hts (fun _ h => List.mem_cons_of_mem _ (List.mem_append_right _ (List.mem_append_right _ (List.mem_append_right _ (List.mem_append_left _ h))))) hown hK hP 0 rfl rfl 5 kc_l_5_8 (hts (.fieldLink RX4 25 "NotEnded$Reader" "place" "I") (List.mem_cons_of_mem _ (List.mem_append_left _ (List.mem_of_getElem? (i := 11) rfl)))) (fun _ h9 => h9) rfl dX4_readCondition_30 ?_
            refine lv_iconst (v := 1) hx hb dX4_readCondition_33 kc_i_1 ?_
            refine lv_iadd hx hb dX4_readCondition_34 ?_
            refine lv_topi (fun y_29 ey_29 => ?_)
            obtain rfl : y_29 = nI (Pn_20 + 1) := ey_29.trans (nI_add (Pn_20) (1))
            refine va_put (D := (dC, dI)) (ci := 4) (v := .int (nI (Pn_20 + 1))) (ty := tyX4 5) (C := RX4) (T := TX4) (N := 8) hx hb hts (fun _ h => List.mem_cons_of_mem _ (List.mem_append_right _ (List.mem_append_right _ (List.mem_append_right _ (List.mem_append_left _ h))))) tyX4 tyX4_ok nmX4 hown hK hP hD hS 0 rfl rfl 5 kc_l_5_8 (hts (.fieldLink RX4 25 "NotEnded$Reader" "place" "I") (List.mem_cons_of_mem _ (List.mem_append_left _ (List.mem_of_getElem? (i := 11) rfl)))) (fun _ h9 => h9) rfl (tyX4_ok 5 kc_l_5_8) rfl rfl (Nat.le_of_ble_eq_true rfl) dX4_readCondition_35 (fun H locs hP hD hS => ?_)
            have hPD : kPD dC dI A [(jR, .inr (4, [.ref jT, .ref r1, .ref r2, .int (nI (xwr)), .int (nI (fi)), .int (nI (Pn_20 + 1)), .ref q6, .ref q7])), (r1, .inl (c1, 120, .inl xs1)), (r2, .inl (c2, 124, .inl s2)), (jT, .inr (8, [.ref t0, .int (nI (kt))])), (t0, .inl (cC, 120, .inl gT))] H := ⟨hP, hD⟩
            have hP := hPD.1
            have hD := hPD.2
            refine lv_aload_n hx hb dX4_readCondition_38 rfl (lv_at hl 1 rfl) ?_
            refine lv_iload_n hx hb dX4_readCondition_39 rfl (lv_at hl 2 rfl) ?_
            refine lv_iconst (v := 0) hx hb dX4_readCondition_40 kc_i_0 ?_
            have bd_30 : (Pn_20 + 1) ≤ kt := by omega
            have bd_31 : xwr ≤ (Pn_20 + 1) := by omega
            have hCu := kCut (wc := [(jR, .inr (4, [.ref jT, .ref r1, .ref r2, .int (nI (xwr)), .int (nI (fi)), .int (nI (Pn_20 + 1)), .ref q6, .ref q7])), (r1, .inl (c1, 120, .inl xs1)), (r2, .inl (c2, 124, .inl s2)), (jT, .inr (8, [.ref t0, .int (nI (kt))])), (t0, .inl (cC, 120, .inl gT))]) hP hD hS hA [0, 1, 2, 3, 4] rfl kc_nd_311 rfl
            have hPc := hCu.1
            have hDc := hCu.2.1
            have hFc := hCu.2.2
            have hKc := hK.sb (tys2 := [(c1, .int), (c2, .int), (cC, .char)]) [0, 1, 2] rfl
            refine va_calli (va_runV (As := [.int (nI (dd)), .int 0]) (rest := []) ⟨hx, hb, hml, hown, hts⟩ (s_truth4x_g_0 l dC dI jT t0 cC gT kt hkt hgT bt hbt hb8 jR r1 r2 c1 c2 xs1 s2 xwr fi q6 q7 bd_17 hfi (Pn_20 + 1) bd_30 bd_31 b6 n6 g6 hn6 b7 n7 g7 hn7 gn6 hz6 gn7 hz7 e1 dd bd_1 ih H.size) (cwV 2 hts (kG (List.forall_mem_cons.mpr ⟨(List.mem_cons_of_mem _ (List.mem_append_left _ (List.mem_of_getElem? (i := 42) rfl))), (List.forall_mem_cons.mpr ⟨(List.mem_cons_of_mem _ (List.mem_append_left _ (List.mem_of_getElem? (i := 41) rfl))), (List.forall_mem_cons.mpr ⟨(List.mem_cons_of_mem _ (List.mem_append_left _ (List.mem_of_getElem? (i := 40) rfl))), (List.forall_mem_cons.mpr ⟨(List.mem_cons_of_mem _ (List.mem_append_left _ (List.mem_of_getElem? (i := 0) rfl))), (fun _ h => absurd h List.not_mem_nil)⟩)⟩)⟩)⟩) (kGV _ _ _ _) (kFam (List.mem_cons_of_mem _ (List.mem_append_left _ (List.mem_of_getElem? (i := 39) rfl)))) gw_s_truth4x_g_0) rfl rfl rfl ⟨rfl, hd_X4_readTruth⟩ ⟨(show (10 + 6 * (e1 + 1)) + 1 ≤ (11 + 6 * (e1 + 1)) from by omega), (show 8 + (4 + 11) + 60 * (10 + 6 * (e1 + 1)) ≤ 60 * (11 + 6 * (e1 + 1)) from by omega)⟩) (kW_V kS2_blind (kS2_give hX hS hFc) (va_recv hKc hPc (ci := 4) (q0 := 0) rfl rfl) hPc hKc hDc) rfl rfl hl.1 rfl (lv_room (Nat.le_of_ble_eq_true rfl)) dX4_readCondition_41 ⟨(Nat.le_of_ble_eq_true rfl), (Nat.le_of_ble_eq_true rfl)⟩) hS (fun q _ h => hFc q h) hFc (fun r_32 => kU5 (fun S1_33 Wr_34 Pn_35 xo_36 xl_37 t H_38 locs ht hvm hw hB hz1 hk1 hS => ?_))
            try dsimp only at hw
            have hPD : kPD dC dI A [(jR, .inr (4, [.ref jT, .ref r1, .ref r2, .int (nI (Wr_34)), .int (nI (fi)), .int (nI (Pn_35)), .ref q6, .ref q7])), (r1, .inl (c1, 120, .inl S1_33)), (r2, .inl (c2, 124, .inl s2)), (jT, .inr (8, [.ref t0, .int (nI (kt))])), (t0, .inl (cC, 120, .inl gT))] H_38 := kJoinX hP hD [0, 1, 2, 3, 4] rfl hk1 hFc hB.1 ht hB.2.2 rfl [some 0, some 1, some 2, some 3, some 4] rfl rfl
            have hP := hPD.1
            have hD := hPD.2
            have hw_39 := hw
            refine lv_if_eq (tgt := 57) hx hb dX4_readCondition_44 kc_t_44_13 (fun c_40 => ?_) (fun c_40 => ?_)
            · obtain rfl : xo_36 = false := kBo_f (kZr9 hw_39.1 c_40)
              have hw_39_k := hw_39.2.1.2.1
              refine lv_iconst (v := 0) hx hb dX4_readCondition_57 kc_i_0 ?_
              have hP9 := hP
              have hD9 := hD
              have hK9 := hK
              rw [hQ]
              exact W.zret (v := 0) hx hb hr rfl (fun t ht hW => ⟨⟨0, (S1_33, Wr_34, Pn_35, false, ([])), rfl, ⟨rfl, kPR_f (by rw [← ivk_11_3, show 120 - i = (119 - i) + 1 by omega]; exact kLoop_f (by rw [← hw_23_0]; omega) (by rw [← hw_23_1]; exact hw_39.2.1.1)) (by omega), by omega⟩,  by rw [ht]; exact hP9, va_K.moved hW.alike hK9, hD9⟩, hS.F ht⟩) hS.2.2 dX4_readCondition_58
            · obtain rfl : xo_36 = true := kBo_t (kNz9 hw_39.1 c_40)
              obtain ⟨hw_39_W, hw_39_S, hw_39_l, hw_39_p⟩ := hw_39.2.1.2.2 rfl
              have hw_39_k := hw_39.2.1.2.1
              refine lv_aload_n hx hb dX4_readCondition_47 rfl (lv_at hl 1 rfl) ?_
              refine lv_sipush (v := 20124) hx hb dX4_readCondition_48 kc_s_20124 ?_
              have bd_41 : Wr_34 ≤ 120 := by omega
              have bd_42 : Pn_35 ≤ kt := by omega
              have bd_43 : Wr_34 < 120 := by omega
              have hCu := kCut (wc := [(jR, .inr (4, [.ref jT, .ref r1, .ref r2, .int (nI (Wr_34)), .int (nI (fi)), .int (nI (Pn_35)), .ref q6, .ref q7])), (r1, .inl (c1, 120, .inl S1_33)), (r2, .inl (c2, 124, .inl s2)), (jT, .inr (8, [.ref t0, .int (nI (kt))])), (t0, .inl (cC, 120, .inl gT))]) hP hD hS hA [0, 1, 2, 3, 4] rfl kc_nd_311 rfl
              have hPc := hCu.1
              have hDc := hCu.2.1
              have hFc := hCu.2.2
              have hKc := hK.sb (tys2 := [(c1, .int), (c2, .int), (cC, .char)]) [0, 1, 2] rfl
              refine va_calli (va_runV (As := [.int 20124]) (rest := []) ⟨hx, hb, hml, hown, hts⟩ (s_write4x l dC dI jT t0 cC gT kt hkt hgT bt hbt hb8 jR r1 r2 c1 c2 S1_33 s2 Wr_34 fi q6 q7 bd_41 hfi Pn_35 bd_42 20124 bd_43 H_38.size) (cwV 1 hts (kG (List.forall_mem_cons.mpr ⟨(List.mem_cons_of_mem _ (List.mem_append_left _ (List.mem_of_getElem? (i := 14) rfl))), (List.forall_mem_cons.mpr ⟨(List.mem_cons_of_mem _ (List.mem_append_left _ (List.mem_of_getElem? (i := 13) rfl))), (List.forall_mem_cons.mpr ⟨(List.mem_cons_of_mem _ (List.mem_append_left _ (List.mem_of_getElem? (i := 12) rfl))), (List.forall_mem_cons.mpr ⟨(List.mem_cons_of_mem _ (List.mem_append_left _ (List.mem_of_getElem? (i := 0) rfl))), (fun _ h => absurd h List.not_mem_nil)⟩)⟩)⟩)⟩) (kGV _ _ _ _) (fun _ h => List.mem_cons_of_mem _ (List.mem_append_right _ (List.mem_append_right _ (List.mem_append_right _ (List.mem_append_right _ (List.mem_append_right _ (List.mem_append_left _ h))))))) gw_s_write4x) rfl rfl rfl ⟨rfl, hd_X4_write⟩ ⟨(show 1 + 1 ≤ (11 + 6 * (e1 + 1)) from by omega), (show 8 + (2 + 11) + 60 * 1 ≤ 60 * (11 + 6 * (e1 + 1)) from by omega)⟩) (kW_V kT_blind kT_give (va_recv hKc hPc (ci := 4) (q0 := 0) rfl rfl) hPc hKc hDc) rfl rfl hl.1 rfl (lv_room (Nat.le_of_ble_eq_true rfl)) dX4_readCondition_51 ⟨(Nat.le_of_ble_eq_true rfl), (Nat.le_of_ble_eq_true rfl)⟩) hS (fun q _ h => hFc q h) hFc (fun r_44 => kU2 (fun S1_45 Wr_46 t H_47 locs ht hvm hw hB hz1 hk1 hS => ?_))
              try dsimp only at hw
              have hPD : kPD dC dI A [(jR, .inr (4, [.ref jT, .ref r1, .ref r2, .int (nI (Wr_46)), .int (nI (fi)), .int (nI (Pn_35)), .ref q6, .ref q7])), (r1, .inl (c1, 120, .inl S1_45)), (r2, .inl (c2, 124, .inl s2)), (jT, .inr (8, [.ref t0, .int (nI (kt))])), (t0, .inl (cC, 120, .inl gT))] H_47 := kJoinX hP hD [0, 1, 2, 3, 4] rfl hk1 hFc hB.1 ht hB.2.2 rfl [some 0, some 1, some 2, some 3, some 4] rfl rfl
              have hP := hPD.1
              have hD := hPD.2
              obtain ⟨rfl, hw_48⟩ := hw
              refine lv_if_ne (tgt := 59) hx hb dX4_readCondition_54 kc_t_54_5 (fun c_49 => ?_) (fun c_49 => absurd c_49 (by decide))
              refine lv_iinc (v := nI (i + 1)) hx hb dX4_readCondition_59 hl (k := 0) rfl (kInc _ 1) kc_l_3_4 (kTo [(3, .int (nI (i + 1))), (0, .ref jR), (1, .int (nI (dd))), (2, .int 0)]) (fun ls hl => ?_)
              refine lv_goto (tgt := 13) hx hb dX4_readCondition_62 kc_t_62_m49 ?_
              exact ih_k_11 (i + 1) S1_45 Pn_35 Wr_46 (xl ++ xl_37 ++ [nI (20000 + 124)]) (by omega) (by omega) (by omega) (by have e9 := kLoop_t (b := bt) (n := kt) (c1 := 124) (c2 := 124) (a := kTruD bt kt g7 n7 (e1 + 1)) (f := 120 - (i + 1)) (p := xpn) (l := xl) (by rw [← hw_23_0]; omega) (by rw [← hw_23_1]; exact hw_39.2.1.1); rw [← hw_23_0] at e9; rw [show ch_21 = 124 by omega] at e9; rw [← e9, show (120 - (i + 1)) + 1 = 120 - i by omega]; exact ivk_11_3) (by simp only [List.length_append, List.length_cons, List.length_nil]; omega) (kWrt3 ivk_11_5 ivk_11_4 hw_39_S hw_39_W hw_48.2) (by simp only [List.length_append, List.length_cons, List.length_nil]; omega) (by omega) _ _ hP hD hS ls (lv_sub hl [0, 1, 2, 3] rfl) (by omega)
    exact lp_k_11 (120 - 0 + 1) 0 S1_3 Pn_5 Wr_4 xl_7 (by omega) (by omega) (by omega) (kMany_t hw_9.2.1.1).symm hw_9_W hw_9_S hw_9_l hw_9_p _ _ hP hD hS ls (lv_sub hl [0, 1, 2, 3] rfl) (by omega)
  · obtain rfl : xo_6 = false := kBo_f (kZr9 hw_9.1 c_10)
    have hw_9_k := hw_9.2.1.2.1
    refine lv_iconst (v := 0) hx hb dX4_readCondition_9 kc_i_0 ?_
    have hP9 := hP
    have hD9 := hD
    have hK9 := hK
    rw [hQ]
    exact W.zret (v := 0) hx hb hr rfl (fun t ht hW => ⟨⟨0, (S1_3, Wr_4, Pn_5, false, ([])), rfl, ⟨rfl, kPR_f (kMany_f hw_9.2.1.1) (by omega), by omega⟩,  by rw [ht]; exact hP9, va_K.moved hW.alike hK9, hD9⟩, hS.F ht⟩) hS.2.2 dX4_readCondition_10

def w_s_cond4x_g_1 : List Cond := .code yX4_readCondition cX4_readCondition 4 (some .boolean) :: wf_rq
theorem gw_s_cond4x_g_1 : (w_s_cond4x_g_1).all goodWord = true := kFamG rfl gf_rq
set_option maxHeartbeats 4000000 in
set_option maxRecDepth 100000 in
theorem s_cond4x_g_1 (l : Launch) (dC : Nat → ClassId) (dI : Nat → Nat → Nat) (jT : Nat) (t0 : Nat) (cC : ClassId) (gT : Nat → Int32) (kt : Nat) (hkt : kt ≤ 120) (hgT : ∀ j : Nat, narrow .char (.int (gT j)) = .int (gT j)) (bt : Nat → Nat) (hbt : ∀ j : Nat, gT j = nI (bt j)) (hb8 : ∀ j : Nat, bt j < 256) (jR : Nat) (r1 : Nat) (r2 : Nat) (c1 : ClassId) (c2 : ClassId) (s1 : Nat → Int32) (s2 : Nat → Int32) (wr : Nat) (fi : Nat) (q6 : Nat) (q7 : Nat) (hwr : wr ≤ 120) (hfi : fi ≤ 124) (pn : Nat) (hpn : pn ≤ kt) (hwp : wr ≤ pn) (b6 : Nat) (n6 : Nat) (g6 : Nat → Int32) (hn6 : n6 ≤ 8) (b7 : Nat) (n7 : Nat) (g7 : Nat → Int32) (hn7 : n7 ≤ 8) (gn6 : ∀ k : Nat, ∃ v : Nat, v < 128 ∧ g6 k = nI v) (hz6 : kIx g6 n6 (nI 0) = n6) (gn7 : ∀ k : Nat, ∃ v : Nat, v < 128 ∧ g7 k = nI v) (hz7 : kIx g7 n7 (nI 0) = n7) (e1 : Nat) (dd : Nat) (hdd : dd + e1 = 5) (ih : kIHq e1) (sz : Nat) : Met l yX4_readCondition w_s_cond4x_g_1 ({ frames := (11 + 6 * (e1 + 1)), cells := 0, slots := 0, locals := 60 * (11 + 6 * (e1 + 1)) }) (kW dC dI [.ref jR, .int (nI (dd)), .int 1] [(jR, .inr (4, [.ref jT, .ref r1, .ref r2, .int (nI (wr)), .int (nI (fi)), .int (nI (pn)), .ref q6, .ref q7])), (r1, .inl (c1, 120, .inl s1)), (r2, .inl (c2, 124, .inl s2)), (jT, .inr (8, [.ref t0, .int (nI (kt))])), (t0, .inl (cC, 120, .inl gT))] [(c1, .int), (c2, .int), (cC, .char)] (kS2 q6 b6 n6 g6 q7 b7 n7 g7 (va_A [(jR, .inr (4, [.ref jT, .ref r1, .ref r2, .int (nI (wr)), .int (nI (fi)), .int (nI (pn)), .ref q6, .ref q7])), (r1, .inl (c1, 120, .inl s1)), (r2, .inl (c2, 124, .inl s2)), (jT, .inr (8, [.ref t0, .int (nI (kt))])), (t0, .inl (cC, 120, .inl gT))] sz)) sz) (va_Qi (fun (r : Int32) (u : (Nat → Int32) × Nat × Nat × Bool × (List Int32)) => match u with | (S1, Wr, Pn, xo, xl) => (r = kBo xo ∧ kPR (kConZ bt kt g7 n7 (e1 + 1) pn) pn kt wr s1 xo Pn xl Wr S1 ∧ Wr ≤ 120)) (fun (u : (Nat → Int32) × Nat × Nat × Bool × (List Int32)) => match u with | (S1, Wr, Pn, xo, xl) => fun t : State => kB dC dI [(jR, .inr (4, [.ref jT, .ref r1, .ref r2, .int (nI (Wr)), .int (nI (fi)), .int (nI (Pn)), .ref q6, .ref q7])), (r1, .inl (c1, 120, .inl S1)), (r2, .inl (c2, 124, .inl s2)), (jT, .inr (8, [.ref t0, .int (nI (kt))])), (t0, .inl (cC, 120, .inl gT))] [(c1, .int), (c2, .int), (cC, .char)] (va_A [(jR, .inr (4, [.ref jT, .ref r1, .ref r2, .int (nI (wr)), .int (nI (fi)), .int (nI (pn)), .ref q6, .ref q7])), (r1, .inl (c1, 120, .inl s1)), (r2, .inl (c2, 124, .inl s2)), (jT, .inr (8, [.ref t0, .int (nI (kt))])), (t0, .inl (cC, 120, .inl gT))] sz) t) (va_A [(jR, .inr (4, [.ref jT, .ref r1, .ref r2, .int (nI (wr)), .int (nI (fi)), .int (nI (pn)), .ref q6, .ref q7])), (r1, .inl (c1, 120, .inl s1)), (r2, .inl (c2, 124, .inl s2)), (jT, .inr (8, [.ref t0, .int (nI (kt))])), (t0, .inl (cC, 120, .inl gT))] sz)) 0 0 (va_A [(jR, .inr (4, [.ref jT, .ref r1, .ref r2, .int (nI (wr)), .int (nI (fi)), .int (nI (pn)), .ref q6, .ref q7])), (r1, .inl (c1, 120, .inl s1)), (r2, .inl (c2, 124, .inl s2)), (jT, .inr (8, [.ref t0, .int (nI (kt))])), (t0, .inl (cC, 120, .inl gT))] sz) := by
  refine Met.ofW (cc := cX4_readCondition) (maxL := 4) (ret := (some .boolean)) (by decide) rfl ?_
  intro p e s m args below meth c s₁ B hml hv
  obtain ⟨rfl, hsz, hP, hK, hD0, hX⟩ := hv
  have hx := B.exec
  have hb := B.bytes
  have hr := B.returns
  have hts := atoms_spec (ws := w_s_cond4x_g_1) B.pre
  have hown : s.vm.findClass RX4 = some m.cls := findClass_of_methodNamed B.named
  have hlocks := B.notSynchronized
  subst hsz
  have hD := hD0.self (sz := s.heap.size)
  generalize hAe : va_A [(jR, .inr (4, [.ref jT, .ref r1, .ref r2, .int (nI (wr)), .int (nI (fi)), .int (nI (pn)), .ref q6, .ref q7])), (r1, .inl (c1, 120, .inl s1)), (r2, .inl (c2, 124, .inl s2)), (jT, .inr (8, [.ref t0, .int (nI (kt))])), (t0, .inl (cC, 120, .inl gT))] s.heap.size = A at hD hX ⊢
  have hA : ∀ q : Nat, s.heap.size ≤ q → A q := fun q h => by rw [← hAe]; exact Or.inr h
  have hS : va_S A s.heap s.heap [] := va_S.rf
  have hP : va_P (dC, dI) vwCl [(jR, .inr (4, [.ref jT, .ref r1, .ref r2, .int (nI (wr)), .int (nI (fi)), .int (nI (pn)), .ref q6, .ref q7])), (r1, .inl (c1, 120, .inl s1)), (r2, .inl (c2, 124, .inl s2)), (jT, .inr (8, [.ref t0, .int (nI (kt))])), (t0, .inl (cC, 120, .inl gT))] s.heap := hP
  have hl := lv_entry ([.ref jR, .int (nI (dd)), .int 1]) (n := 4) (Nat.le_of_ble_eq_true rfl)
  rw [lg_entry_eq]
  generalize (lg_sl ([.ref jR, .int (nI (dd)), .int 1]) ++ List.replicate (4 - (lg_sl ([.ref jR, .int (nI (dd)), .int 1])).length) Slot.unset).toArray = ls at hl ⊢
  have hl : lv_has ls 4 [(0, .ref jR), (1, .int (nI (dd))), (2, .int 1)] := hl
  refine kQ (fun Q hQ => ?_)
  refine lv_aload_n hx hb dX4_readCondition_0 rfl (lv_at hl 0 rfl) ?_
  refine lv_iload_n hx hb dX4_readCondition_1 rfl (lv_at hl 1 rfl) ?_
  refine lv_iload_n hx hb dX4_readCondition_2 rfl (lv_at hl 2 rfl) ?_
  have bd_1 : dd + e1 = 5 := by omega
  have hCu := kCut (wc := [(jR, .inr (4, [.ref jT, .ref r1, .ref r2, .int (nI (wr)), .int (nI (fi)), .int (nI (pn)), .ref q6, .ref q7])), (r1, .inl (c1, 120, .inl s1)), (r2, .inl (c2, 124, .inl s2)), (jT, .inr (8, [.ref t0, .int (nI (kt))])), (t0, .inl (cC, 120, .inl gT))]) hP hD hS hA [0, 1, 2, 3, 4] rfl kc_nd_311 rfl
  have hPc := hCu.1
  have hDc := hCu.2.1
  have hFc := hCu.2.2
  have hKc := hK.sb (tys2 := [(c1, .int), (c2, .int), (cC, .char)]) [0, 1, 2] rfl
  refine va_calli (va_runV (As := [.int (nI (dd)), .int 1]) (rest := []) ⟨hx, hb, hml, hown, hts⟩ (s_truth4x_g_1 l dC dI jT t0 cC gT kt hkt hgT bt hbt hb8 jR r1 r2 c1 c2 s1 s2 wr fi q6 q7 hwr hfi pn hpn hwp b6 n6 g6 hn6 b7 n7 g7 hn7 gn6 hz6 gn7 hz7 e1 dd bd_1 ih s.heap.size) (cwV 2 hts (kG (List.forall_mem_cons.mpr ⟨(List.mem_cons_of_mem _ (List.mem_append_left _ (List.mem_of_getElem? (i := 42) rfl))), (List.forall_mem_cons.mpr ⟨(List.mem_cons_of_mem _ (List.mem_append_left _ (List.mem_of_getElem? (i := 41) rfl))), (List.forall_mem_cons.mpr ⟨(List.mem_cons_of_mem _ (List.mem_append_left _ (List.mem_of_getElem? (i := 40) rfl))), (List.forall_mem_cons.mpr ⟨(List.mem_cons_of_mem _ (List.mem_append_left _ (List.mem_of_getElem? (i := 0) rfl))), (fun _ h => absurd h List.not_mem_nil)⟩)⟩)⟩)⟩) (kGV _ _ _ _) (kFam (List.mem_cons_of_mem _ (List.mem_append_left _ (List.mem_of_getElem? (i := 39) rfl)))) gw_s_truth4x_g_1) rfl rfl rfl ⟨rfl, hd_X4_readTruth⟩ ⟨(show (10 + 6 * (e1 + 1)) + 1 ≤ (11 + 6 * (e1 + 1)) from by omega), (show 8 + (4 + 11) + 60 * (10 + 6 * (e1 + 1)) ≤ 60 * (11 + 6 * (e1 + 1)) from by omega)⟩) (kW_V kS2_blind (kS2_give hX hS hFc) (va_recv hKc hPc (ci := 4) (q0 := 0) rfl rfl) hPc hKc hDc) rfl rfl hl.1 rfl (lv_room (Nat.le_of_ble_eq_true rfl)) dX4_readCondition_3 ⟨(Nat.le_of_ble_eq_true rfl), (Nat.le_of_ble_eq_true rfl)⟩) hS (fun q _ h => hFc q h) hFc (fun r_2 => kU5 (fun S1_3 Wr_4 Pn_5 xo_6 xl_7 t H_8 locs ht hvm hw hB hz1 hk1 hS => ?_))
  try dsimp only at hw
  have hPD : kPD dC dI A [(jR, .inr (4, [.ref jT, .ref r1, .ref r2, .int (nI (Wr_4)), .int (nI (fi)), .int (nI (Pn_5)), .ref q6, .ref q7])), (r1, .inl (c1, 120, .inl S1_3)), (r2, .inl (c2, 124, .inl s2)), (jT, .inr (8, [.ref t0, .int (nI (kt))])), (t0, .inl (cC, 120, .inl gT))] H_8 := kJoinX hP hD [0, 1, 2, 3, 4] rfl hk1 hFc hB.1 ht hB.2.2 rfl [some 0, some 1, some 2, some 3, some 4] rfl rfl
  have hP := hPD.1
  have hD := hPD.2
  have hw_9 := hw
  refine lv_if_ne (tgt := 11) hx hb dX4_readCondition_6 kc_t_6_5 (fun c_10 => ?_) (fun c_10 => ?_)
  · obtain rfl : xo_6 = true := kBo_t (kNz9 hw_9.1 c_10)
    obtain ⟨hw_9_W, hw_9_S, hw_9_l, hw_9_p⟩ := hw_9.2.1.2.2 rfl
    have hw_9_k := hw_9.2.1.2.1
    refine lv_iconst (v := 0) hx hb dX4_readCondition_11 kc_i_0 ?_
    refine lv_istore_n hx hb dX4_readCondition_12 rfl hl kc_l_3_4 (kTo [(3, .int 0), (0, .ref jR), (1, .int (nI (dd))), (2, .int 1)]) (fun ls hl => ?_)
    have lp_k_11 : ∀ (n9 : Nat) (i : Nat) (xs1 : Nat → Int32) (xpn : Nat) (xwr : Nat) (xl : List Int32) (ivk_11_0 : i ≤ 120) (ivk_11_1 : xwr ≤ 120) (ivk_11_2 : xpn ≤ kt) (ivk_11_3 : kLoop bt kt 124 124 (kTruD bt kt g7 n7 (e1 + 1)) (120 - i) xpn xl = kConZ bt kt g7 n7 (e1 + 1) pn) (ivk_11_4 : xwr = wr + xl.length) (ivk_11_5 : xs1 = kWrt s1 wr xl) (ivk_11_6 : pn + xl.length ≤ xpn) (ivk_11_7 : pn < xpn) (H : Heap) (locs : List Loc) (_ : va_P (dC, dI) vwCl [(jR, .inr (4, [.ref jT, .ref r1, .ref r2, .int (nI (xwr)), .int (nI (fi)), .int (nI (xpn)), .ref q6, .ref q7])), (r1, .inl (c1, 120, .inl xs1)), (r2, .inl (c2, 124, .inl s2)), (jT, .inr (8, [.ref t0, .int (nI (kt))])), (t0, .inl (cC, 120, .inl gT))] H) (_ : va_D A [(jR, .inr (4, [.ref jT, .ref r1, .ref r2, .int (nI (xwr)), .int (nI (fi)), .int (nI (xpn)), .ref q6, .ref q7])), (r1, .inl (c1, 120, .inl xs1)), (r2, .inl (c2, 124, .inl s2)), (jT, .inr (8, [.ref t0, .int (nI (kt))])), (t0, .inl (cC, 120, .inl gT))]) (_ : va_S A s.heap H locs) (ls : Array Slot) (_ : lv_has ls 4 [(3, .int (nI (i))), (0, .ref jR), (1, .int (nI (dd))), (2, .int 1)]) (_ : 120 - i < n9), W p l e (headSpec w_s_cond4x_g_1 ({ frames := (11 + 6 * (e1 + 1)), cells := 0, slots := 0, locals := 60 * (11 + 6 * (e1 + 1)) })).room s m (#[.ref jR, .int (nI (dd)), .int 1] : Array Value) below meth c H locs 0 0 Q (F0 m 13 ls []) := by
      intro n9
      induction n9 with
      | zero => intro i xs1 xpn xwr xl ivk_11_0 ivk_11_1 ivk_11_2 ivk_11_3 ivk_11_4 ivk_11_5 ivk_11_6 ivk_11_7 H locs hP hD hS ls hl hm9; exact absurd hm9 (Nat.not_lt_zero _)
      | succ n9 ih_k_11 =>
        intro i xs1 xpn xwr xl ivk_11_0 ivk_11_1 ivk_11_2 ivk_11_3 ivk_11_4 ivk_11_5 ivk_11_6 ivk_11_7 H locs hP hD hS ls hl hm9
        refine lv_iload_n hx hb dX4_readCondition_13 rfl (lv_at hl 0 rfl) ?_
        refine lv_bipush (v := 120) hx hb dX4_readCondition_14 kc_b_120 ?_
        refine lv_icmp_ge (tgt := 65) hx hb dX4_readCondition_16 kc_t_16_49 (fun c_12 => ?_) (fun c_12 => ?_)
        · have bd_14 : i < 2147483648 := by omega
          have hn_13 := kle (a := 120) (b := i) kc_31_120 bd_14 c_12
          refine lv_iconst (v := 1) hx hb dX4_readCondition_65 kc_i_1 ?_
          have hP9 := hP
          have hD9 := hD
          have hK9 := hK
          rw [hQ]
          exact W.zret (v := 1) hx hb hr rfl (fun t ht hW => ⟨⟨1, (xs1, xwr, xpn, true, xl), rfl, ⟨rfl, kPR_t (a := kConZ bt kt g7 n7 (e1 + 1)) rfl (kConZ_good hz7 (e1 + 1)) (by omega) (by rw [← ivk_11_3, show 120 - i = 0 by omega]; rfl) ivk_11_4 ivk_11_5, by omega⟩,  by rw [ht]; exact hP9, va_K.moved hW.alike hK9, hD9⟩, hS.F ht⟩) hS.2.2 dX4_readCondition_66
        · have bd_16 : i < 2147483648 := by omega
          have hn_15 := knle (a := 120) (b := i) kc_31_120 bd_16 c_12
          refine lv_aload_n hx hb dX4_readCondition_19 rfl (lv_at hl 1 rfl) ?_
          have bd_17 : xwr ≤ 120 := by omega
          have bd_18 : xpn ≤ kt := by omega
          have hCu := kCut (wc := [(jR, .inr (4, [.ref jT, .ref r1, .ref r2, .int (nI (xwr)), .int (nI (fi)), .int (nI (xpn)), .ref q6, .ref q7])), (r1, .inl (c1, 120, .inl xs1)), (r2, .inl (c2, 124, .inl s2)), (jT, .inr (8, [.ref t0, .int (nI (kt))])), (t0, .inl (cC, 120, .inl gT))]) hP hD hS hA [0, 1, 2, 3, 4] rfl kc_nd_311 rfl
          have hPc := hCu.1
          have hDc := hCu.2.1
          have hFc := hCu.2.2
          have hKc := hK.sb (tys2 := [(c1, .int), (c2, .int), (cC, .char)]) [0, 1, 2] rfl
          refine va_calli (va_runV (As := []) (rest := []) ⟨hx, hb, hml, hown, hts⟩ (s_look4x l dC dI jT t0 cC gT kt hkt hgT bt hbt hb8 jR r1 r2 c1 c2 xs1 s2 xwr fi q6 q7 bd_17 hfi xpn bd_18 H.size) (cwV 0 hts (kG (List.forall_mem_cons.mpr ⟨(List.mem_cons_of_mem _ (List.mem_append_left _ (List.mem_of_getElem? (i := 3) rfl))), (List.forall_mem_cons.mpr ⟨(List.mem_cons_of_mem _ (List.mem_append_left _ (List.mem_of_getElem? (i := 2) rfl))), (List.forall_mem_cons.mpr ⟨(List.mem_cons_of_mem _ (List.mem_append_left _ (List.mem_of_getElem? (i := 1) rfl))), (List.forall_mem_cons.mpr ⟨(List.mem_cons_of_mem _ (List.mem_append_left _ (List.mem_of_getElem? (i := 0) rfl))), (fun _ h => absurd h List.not_mem_nil)⟩)⟩)⟩)⟩) (kGV _ _ _ _) (fun _ h => List.mem_cons_of_mem _ (List.mem_append_right _ (List.mem_append_left _ h))) gw_s_look4x) rfl rfl rfl ⟨rfl, hd_X4_look⟩ ⟨(show 2 + 1 ≤ (11 + 6 * (e1 + 1)) from by omega), (show 8 + (2 + 11) + 60 * 2 ≤ 60 * (11 + 6 * (e1 + 1)) from by omega)⟩) (kW_V kT_blind kT_give (va_recv hKc hPc (ci := 4) (q0 := 0) rfl rfl) hPc hKc hDc) rfl rfl hl.1 rfl (lv_room (Nat.le_of_ble_eq_true rfl)) dX4_readCondition_20 ⟨(Nat.le_of_ble_eq_true rfl), (Nat.le_of_ble_eq_true rfl)⟩) hS (fun q _ h => hFc q h) hFc (fun r_19 => kU2 (fun Pn_20 ch_21 t H_22 locs ht hvm hw hB hz1 hk1 hS => ?_))
          try dsimp only at hw
          have hPD : kPD dC dI A [(jR, .inr (4, [.ref jT, .ref r1, .ref r2, .int (nI (xwr)), .int (nI (fi)), .int (nI (Pn_20)), .ref q6, .ref q7])), (r1, .inl (c1, 120, .inl xs1)), (r2, .inl (c2, 124, .inl s2)), (jT, .inr (8, [.ref t0, .int (nI (kt))])), (t0, .inl (cC, 120, .inl gT))] H_22 := kJoinX hP hD [0, 1, 2, 3, 4] rfl hk1 hFc hB.1 ht hB.2.2 rfl [some 0, some 1, some 2, some 3, some 4] rfl rfl
          have hP := hPD.1
          have hD := hPD.2
          obtain ⟨rfl, hw_23_0, hw_23_1, hw_23_2, hw_23_3, hw_23_4, hw_23_5, hw_23_6⟩ := hw
          refine lv_bipush (v := 124) hx hb dX4_readCondition_23 kc_b_124 ?_
          refine lv_icmp_ne (tgt := 65) hx hb dX4_readCondition_25 kc_t_25_40 (fun c_24 => ?_) (fun c_24 => ?_)
          · have bd_26 : ch_21 < 2147483648 := by omega
            have hn_25 := kneq (a := ch_21) (b := 124) bd_26 kc_31_124 c_24
            refine lv_iconst (v := 1) hx hb dX4_readCondition_65 kc_i_1 ?_
            have hP9 := hP
            have hD9 := hD
            have hK9 := hK
            rw [hQ]
            exact W.zret (v := 1) hx hb hr rfl (fun t ht hW => ⟨⟨1, (xs1, xwr, Pn_20, true, xl), rfl, ⟨rfl, kPR_t (a := kConZ bt kt g7 n7 (e1 + 1)) rfl (kConZ_good hz7 (e1 + 1)) (by omega) (by rw [← ivk_11_3, show 120 - i = (119 - i) + 1 by omega, kLoop_e (by rw [← hw_23_0]; omega), ← hw_23_1]) ivk_11_4 ivk_11_5, by omega⟩,  by rw [ht]; exact hP9, va_K.moved hW.alike hK9, hD9⟩, hS.F ht⟩) hS.2.2 dX4_readCondition_66
          · have bd_28 : ch_21 < 2147483648 := by omega
            have hn_27 := keq (a := ch_21) (b := 124) bd_28 kc_31_124 c_24
            refine lv_aload_n hx hb dX4_readCondition_28 rfl (lv_at hl 1 rfl) ?_
            refine lv_dup hx hb dX4_readCondition_29 rfl ?_
            refine va_get (D := (dC, dI)) (ci := 4) (v := .int (nI (Pn_20))) (C := RX4) (T := TX4) (N := 8) hx hb hts (fun _ h => List.mem_cons_of_mem _ (List.mem_append_right _ (List.mem_append_right _ (List.mem_append_right _ (List.mem_append_left _ h))))) hown hK hP 0 rfl rfl 5 kc_l_5_8 (hts (.fieldLink RX4 25 "NotEnded$Reader" "place" "I") (List.mem_cons_of_mem _ (List.mem_append_left _ (List.mem_of_getElem? (i := 11) rfl)))) (fun _ h9 => h9) rfl dX4_readCondition_30 ?_
            refine lv_iconst (v := 1) hx hb dX4_readCondition_33 kc_i_1 ?_
            refine lv_iadd hx hb dX4_readCondition_34 ?_
            refine lv_topi (fun y_29 ey_29 => ?_)
            obtain rfl : y_29 = nI (Pn_20 + 1) := ey_29.trans (nI_add (Pn_20) (1))
            refine va_put (D := (dC, dI)) (ci := 4) (v := .int (nI (Pn_20 + 1))) (ty := tyX4 5) (C := RX4) (T := TX4) (N := 8) hx hb hts (fun _ h => List.mem_cons_of_mem _ (List.mem_append_right _ (List.mem_append_right _ (List.mem_append_right _ (List.mem_append_left _ h))))) tyX4 tyX4_ok nmX4 hown hK hP hD hS 0 rfl rfl 5 kc_l_5_8 (hts (.fieldLink RX4 25 "NotEnded$Reader" "place" "I") (List.mem_cons_of_mem _ (List.mem_append_left _ (List.mem_of_getElem? (i := 11) rfl)))) (fun _ h9 => h9) rfl (tyX4_ok 5 kc_l_5_8) rfl rfl (Nat.le_of_ble_eq_true rfl) dX4_readCondition_35 (fun H locs hP hD hS => ?_)
            have hPD : kPD dC dI A [(jR, .inr (4, [.ref jT, .ref r1, .ref r2, .int (nI (xwr)), .int (nI (fi)), .int (nI (Pn_20 + 1)), .ref q6, .ref q7])), (r1, .inl (c1, 120, .inl xs1)), (r2, .inl (c2, 124, .inl s2)), (jT, .inr (8, [.ref t0, .int (nI (kt))])), (t0, .inl (cC, 120, .inl gT))] H := ⟨hP, hD⟩
            have hP := hPD.1
            have hD := hPD.2
            refine lv_aload_n hx hb dX4_readCondition_38 rfl (lv_at hl 1 rfl) ?_
            refine lv_iload_n hx hb dX4_readCondition_39 rfl (lv_at hl 2 rfl) ?_
            refine lv_iconst (v := 0) hx hb dX4_readCondition_40 kc_i_0 ?_
            have bd_30 : (Pn_20 + 1) ≤ kt := by omega
            have bd_31 : xwr ≤ (Pn_20 + 1) := by omega
            have hCu := kCut (wc := [(jR, .inr (4, [.ref jT, .ref r1, .ref r2, .int (nI (xwr)), .int (nI (fi)), .int (nI (Pn_20 + 1)), .ref q6, .ref q7])), (r1, .inl (c1, 120, .inl xs1)), (r2, .inl (c2, 124, .inl s2)), (jT, .inr (8, [.ref t0, .int (nI (kt))])), (t0, .inl (cC, 120, .inl gT))]) hP hD hS hA [0, 1, 2, 3, 4] rfl kc_nd_311 rfl
            have hPc := hCu.1
            have hDc := hCu.2.1
            have hFc := hCu.2.2
            have hKc := hK.sb (tys2 := [(c1, .int), (c2, .int), (cC, .char)]) [0, 1, 2] rfl
            refine va_calli (va_runV (As := [.int (nI (dd)), .int 0]) (rest := []) ⟨hx, hb, hml, hown, hts⟩ (s_truth4x_g_0 l dC dI jT t0 cC gT kt hkt hgT bt hbt hb8 jR r1 r2 c1 c2 xs1 s2 xwr fi q6 q7 bd_17 hfi (Pn_20 + 1) bd_30 bd_31 b6 n6 g6 hn6 b7 n7 g7 hn7 gn6 hz6 gn7 hz7 e1 dd bd_1 ih H.size) (cwV 2 hts (kG (List.forall_mem_cons.mpr ⟨(List.mem_cons_of_mem _ (List.mem_append_left _ (List.mem_of_getElem? (i := 42) rfl))), (List.forall_mem_cons.mpr ⟨(List.mem_cons_of_mem _ (List.mem_append_left _ (List.mem_of_getElem? (i := 41) rfl))), (List.forall_mem_cons.mpr ⟨(List.mem_cons_of_mem _ (List.mem_append_left _ (List.mem_of_getElem? (i := 40) rfl))), (List.forall_mem_cons.mpr ⟨(List.mem_cons_of_mem _ (List.mem_append_left _ (List.mem_of_getElem? (i := 0) rfl))), (fun _ h => absurd h List.not_mem_nil)⟩)⟩)⟩)⟩) (kGV _ _ _ _) (kFam (List.mem_cons_of_mem _ (List.mem_append_left _ (List.mem_of_getElem? (i := 39) rfl)))) gw_s_truth4x_g_0) rfl rfl rfl ⟨rfl, hd_X4_readTruth⟩ ⟨(show (10 + 6 * (e1 + 1)) + 1 ≤ (11 + 6 * (e1 + 1)) from by omega), (show 8 + (4 + 11) + 60 * (10 + 6 * (e1 + 1)) ≤ 60 * (11 + 6 * (e1 + 1)) from by omega)⟩) (kW_V kS2_blind (kS2_give hX hS hFc) (va_recv hKc hPc (ci := 4) (q0 := 0) rfl rfl) hPc hKc hDc) rfl rfl hl.1 rfl (lv_room (Nat.le_of_ble_eq_true rfl)) dX4_readCondition_41 ⟨(Nat.le_of_ble_eq_true rfl), (Nat.le_of_ble_eq_true rfl)⟩) hS (fun q _ h => hFc q h) hFc (fun r_32 => kU5 (fun S1_33 Wr_34 Pn_35 xo_36 xl_37 t H_38 locs ht hvm hw hB hz1 hk1 hS => ?_))
            try dsimp only at hw
            have hPD : kPD dC dI A [(jR, .inr (4, [.ref jT, .ref r1, .ref r2, .int (nI (Wr_34)), .int (nI (fi)), .int (nI (Pn_35)), .ref q6, .ref q7])), (r1, .inl (c1, 120, .inl S1_33)), (r2, .inl (c2, 124, .inl s2)), (jT, .inr (8, [.ref t0, .int (nI (kt))])), (t0, .inl (cC, 120, .inl gT))] H_38 := kJoinX hP hD [0, 1, 2, 3, 4] rfl hk1 hFc hB.1 ht hB.2.2 rfl [some 0, some 1, some 2, some 3, some 4] rfl rfl
            have hP := hPD.1
            have hD := hPD.2
            have hw_39 := hw
            refine lv_if_eq (tgt := 57) hx hb dX4_readCondition_44 kc_t_44_13 (fun c_40 => ?_) (fun c_40 => ?_)
            · obtain rfl : xo_36 = false := kBo_f (kZr9 hw_39.1 c_40)
              have hw_39_k := hw_39.2.1.2.1
              refine lv_iconst (v := 0) hx hb dX4_readCondition_57 kc_i_0 ?_
              have hP9 := hP
              have hD9 := hD
              have hK9 := hK
              rw [hQ]
              exact W.zret (v := 0) hx hb hr rfl (fun t ht hW => ⟨⟨0, (S1_33, Wr_34, Pn_35, false, ([])), rfl, ⟨rfl, kPR_f (by rw [← ivk_11_3, show 120 - i = (119 - i) + 1 by omega]; exact kLoop_f (by rw [← hw_23_0]; omega) (by rw [← hw_23_1]; exact hw_39.2.1.1)) (by omega), by omega⟩,  by rw [ht]; exact hP9, va_K.moved hW.alike hK9, hD9⟩, hS.F ht⟩) hS.2.2 dX4_readCondition_58
            · obtain rfl : xo_36 = true := kBo_t (kNz9 hw_39.1 c_40)
              obtain ⟨hw_39_W, hw_39_S, hw_39_l, hw_39_p⟩ := hw_39.2.1.2.2 rfl
              have hw_39_k := hw_39.2.1.2.1
              refine lv_aload_n hx hb dX4_readCondition_47 rfl (lv_at hl 1 rfl) ?_
              refine lv_sipush (v := 20124) hx hb dX4_readCondition_48 kc_s_20124 ?_
              have bd_41 : Wr_34 ≤ 120 := by omega
              have bd_42 : Pn_35 ≤ kt := by omega
              have bd_43 : Wr_34 < 120 := by omega
              have hCu := kCut (wc := [(jR, .inr (4, [.ref jT, .ref r1, .ref r2, .int (nI (Wr_34)), .int (nI (fi)), .int (nI (Pn_35)), .ref q6, .ref q7])), (r1, .inl (c1, 120, .inl S1_33)), (r2, .inl (c2, 124, .inl s2)), (jT, .inr (8, [.ref t0, .int (nI (kt))])), (t0, .inl (cC, 120, .inl gT))]) hP hD hS hA [0, 1, 2, 3, 4] rfl kc_nd_311 rfl
              have hPc := hCu.1
              have hDc := hCu.2.1
              have hFc := hCu.2.2
              have hKc := hK.sb (tys2 := [(c1, .int), (c2, .int), (cC, .char)]) [0, 1, 2] rfl
              refine va_calli (va_runV (As := [.int 20124]) (rest := []) ⟨hx, hb, hml, hown, hts⟩ (s_write4x l dC dI jT t0 cC gT kt hkt hgT bt hbt hb8 jR r1 r2 c1 c2 S1_33 s2 Wr_34 fi q6 q7 bd_41 hfi Pn_35 bd_42 20124 bd_43 H_38.size) (cwV 1 hts (kG (List.forall_mem_cons.mpr ⟨(List.mem_cons_of_mem _ (List.mem_append_left _ (List.mem_of_getElem? (i := 14) rfl))), (List.forall_mem_cons.mpr ⟨(List.mem_cons_of_mem _ (List.mem_append_left _ (List.mem_of_getElem? (i := 13) rfl))), (List.forall_mem_cons.mpr ⟨(List.mem_cons_of_mem _ (List.mem_append_left _ (List.mem_of_getElem? (i := 12) rfl))), (List.forall_mem_cons.mpr ⟨(List.mem_cons_of_mem _ (List.mem_append_left _ (List.mem_of_getElem? (i := 0) rfl))), (fun _ h => absurd h List.not_mem_nil)⟩)⟩)⟩)⟩) (kGV _ _ _ _) (fun _ h => List.mem_cons_of_mem _ (List.mem_append_right _ (List.mem_append_right _ (List.mem_append_right _ (List.mem_append_right _ (List.mem_append_right _ (List.mem_append_left _ h))))))) gw_s_write4x) rfl rfl rfl ⟨rfl, hd_X4_write⟩ ⟨(show 1 + 1 ≤ (11 + 6 * (e1 + 1)) from by omega), (show 8 + (2 + 11) + 60 * 1 ≤ 60 * (11 + 6 * (e1 + 1)) from by omega)⟩) (kW_V kT_blind kT_give (va_recv hKc hPc (ci := 4) (q0 := 0) rfl rfl) hPc hKc hDc) rfl rfl hl.1 rfl (lv_room (Nat.le_of_ble_eq_true rfl)) dX4_readCondition_51 ⟨(Nat.le_of_ble_eq_true rfl), (Nat.le_of_ble_eq_true rfl)⟩) hS (fun q _ h => hFc q h) hFc (fun r_44 => kU2 (fun S1_45 Wr_46 t H_47 locs ht hvm hw hB hz1 hk1 hS => ?_))
              try dsimp only at hw
              have hPD : kPD dC dI A [(jR, .inr (4, [.ref jT, .ref r1, .ref r2, .int (nI (Wr_46)), .int (nI (fi)), .int (nI (Pn_35)), .ref q6, .ref q7])), (r1, .inl (c1, 120, .inl S1_45)), (r2, .inl (c2, 124, .inl s2)), (jT, .inr (8, [.ref t0, .int (nI (kt))])), (t0, .inl (cC, 120, .inl gT))] H_47 := kJoinX hP hD [0, 1, 2, 3, 4] rfl hk1 hFc hB.1 ht hB.2.2 rfl [some 0, some 1, some 2, some 3, some 4] rfl rfl
              have hP := hPD.1
              have hD := hPD.2
              obtain ⟨rfl, hw_48⟩ := hw
              refine lv_if_ne (tgt := 59) hx hb dX4_readCondition_54 kc_t_54_5 (fun c_49 => ?_) (fun c_49 => absurd c_49 (by decide))
              refine lv_iinc (v := nI (i + 1)) hx hb dX4_readCondition_59 hl (k := 0) rfl (kInc _ 1) kc_l_3_4 (kTo [(3, .int (nI (i + 1))), (0, .ref jR), (1, .int (nI (dd))), (2, .int 1)]) (fun ls hl => ?_)
              refine lv_goto (tgt := 13) hx hb dX4_readCondition_62 kc_t_62_m49 ?_
              exact ih_k_11 (i + 1) S1_45 Pn_35 Wr_46 (xl ++ xl_37 ++ [nI (20000 + 124)]) (by omega) (by omega) (by omega) (by have e9 := kLoop_t (b := bt) (n := kt) (c1 := 124) (c2 := 124) (a := kTruD bt kt g7 n7 (e1 + 1)) (f := 120 - (i + 1)) (p := xpn) (l := xl) (by rw [← hw_23_0]; omega) (by rw [← hw_23_1]; exact hw_39.2.1.1); rw [← hw_23_0] at e9; rw [show ch_21 = 124 by omega] at e9; rw [← e9, show (120 - (i + 1)) + 1 = 120 - i by omega]; exact ivk_11_3) (by simp only [List.length_append, List.length_cons, List.length_nil]; omega) (kWrt3 ivk_11_5 ivk_11_4 hw_39_S hw_39_W hw_48.2) (by simp only [List.length_append, List.length_cons, List.length_nil]; omega) (by omega) _ _ hP hD hS ls (lv_sub hl [0, 1, 2, 3] rfl) (by omega)
    exact lp_k_11 (120 - 0 + 1) 0 S1_3 Pn_5 Wr_4 xl_7 (by omega) (by omega) (by omega) (kMany_t hw_9.2.1.1).symm hw_9_W hw_9_S hw_9_l hw_9_p _ _ hP hD hS ls (lv_sub hl [0, 1, 2, 3] rfl) (by omega)
  · obtain rfl : xo_6 = false := kBo_f (kZr9 hw_9.1 c_10)
    have hw_9_k := hw_9.2.1.2.1
    refine lv_iconst (v := 0) hx hb dX4_readCondition_9 kc_i_0 ?_
    have hP9 := hP
    have hD9 := hD
    have hK9 := hK
    rw [hQ]
    exact W.zret (v := 0) hx hb hr rfl (fun t ht hW => ⟨⟨0, (S1_3, Wr_4, Pn_5, false, ([])), rfl, ⟨rfl, kPR_f (kMany_f hw_9.2.1.1) (by omega), by omega⟩,  by rw [ht]; exact hP9, va_K.moved hW.alike hK9, hD9⟩, hS.F ht⟩) hS.2.2 dX4_readCondition_10

set_option maxHeartbeats 4000000 in
set_option maxRecDepth 100000 in
theorem kIHq_all : ∀ n : Nat, n ≤ 6 → kIHq n := by
  intro n
  induction n with
  | zero =>
    intro _
    refine ⟨fun l dC dI jT t0 cC gT kt hkt hgT bt hbt hb8 jR r1 r2 c1 c2 s1 s2 wr fi q6 q7 hwr hfi pn hpn hwp b6 n6 g6 hn6 b7 n7 g7 hn7 gn6 hz6 gn7 hz7 dd hde sz => ?_, fun l dC dI jT t0 cC gT kt hkt hgT bt hbt hb8 jR r1 r2 c1 c2 s1 s2 wr fi q6 q7 hwr hfi pn hpn hwp b6 n6 g6 hn6 b7 n7 g7 hn7 gn6 hz6 gn7 hz7 dd hde sz => ?_, fun l dC dI jT t0 cC gT kt hkt hgT bt hbt hb8 jR r1 r2 c1 c2 s1 s2 wr fi q6 q7 hwr hfi pn hpn hwp b6 n6 g6 hn6 b7 n7 g7 hn7 gn6 hz6 gn7 hz7 dd hde sz => ?_⟩
    · obtain rfl : dd = 6 := by omega
      exact s_sum4x_6 l dC dI jT t0 cC gT kt hkt hgT bt hbt hb8 jR r1 r2 c1 c2 s1 s2 wr fi q6 q7 hwr hfi pn hpn hwp b6 n6 g6 hn6 b7 n7 g7 hn7 gn6 hz6 gn7 hz7 sz
    · obtain rfl : dd = 6 := by omega
      exact s_unit4x_6_0 l dC dI jT t0 cC gT kt hkt hgT bt hbt hb8 jR r1 r2 c1 c2 s1 s2 wr fi q6 q7 hwr hfi pn hpn hwp b6 n6 g6 hn6 b7 n7 g7 hn7 gn6 hz6 gn7 hz7 sz
    · obtain rfl : dd = 6 := by omega
      exact s_cond4x_6_0 l dC dI jT t0 cC gT kt hkt hgT bt hbt hb8 jR r1 r2 c1 c2 s1 s2 wr fi q6 q7 hwr hfi pn hpn hwp b6 n6 g6 hn6 b7 n7 g7 hn7 gn6 hz6 gn7 hz7 sz
  | succ n ih =>
    intro hn
    have ih := ih (by omega)
    exact ⟨fun l dC dI jT t0 cC gT kt hkt hgT bt hbt hb8 jR r1 r2 c1 c2 s1 s2 wr fi q6 q7 hwr hfi pn hpn hwp b6 n6 g6 hn6 b7 n7 g7 hn7 gn6 hz6 gn7 hz7 dd hde sz => s_sum4x_g l dC dI jT t0 cC gT kt hkt hgT bt hbt hb8 jR r1 r2 c1 c2 s1 s2 wr fi q6 q7 hwr hfi pn hpn hwp b6 n6 g6 hn6 b7 n7 g7 hn7 gn6 hz6 gn7 hz7 n dd (by omega) ih sz, fun l dC dI jT t0 cC gT kt hkt hgT bt hbt hb8 jR r1 r2 c1 c2 s1 s2 wr fi q6 q7 hwr hfi pn hpn hwp b6 n6 g6 hn6 b7 n7 g7 hn7 gn6 hz6 gn7 hz7 dd hde sz => s_unit4x_g_0 l dC dI jT t0 cC gT kt hkt hgT bt hbt hb8 jR r1 r2 c1 c2 s1 s2 wr fi q6 q7 hwr hfi pn hpn hwp b6 n6 g6 hn6 b7 n7 g7 hn7 gn6 hz6 gn7 hz7 n dd (by omega) ih sz, fun l dC dI jT t0 cC gT kt hkt hgT bt hbt hb8 jR r1 r2 c1 c2 s1 s2 wr fi q6 q7 hwr hfi pn hpn hwp b6 n6 g6 hn6 b7 n7 g7 hn7 gn6 hz6 gn7 hz7 dd hde sz => s_cond4x_g_0 l dC dI jT t0 cC gT kt hkt hgT bt hbt hb8 jR r1 r2 c1 c2 s1 s2 wr fi q6 q7 hwr hfi pn hpn hwp b6 n6 g6 hn6 b7 n7 g7 hn7 gn6 hz6 gn7 hz7 n dd (by omega) ih sz⟩

def w_s_sum4x_0 : List Cond := .code yX4_readSum cX4_readSum 4 (some .boolean) :: wf_rq
theorem gw_s_sum4x_0 : (w_s_sum4x_0).all goodWord = true := kFamG rfl gf_rq
set_option maxHeartbeats 4000000 in
set_option maxRecDepth 100000 in
theorem s_sum4x_0 (l : Launch) (dC : Nat → ClassId) (dI : Nat → Nat → Nat) (jT : Nat) (t0 : Nat) (cC : ClassId) (gT : Nat → Int32) (kt : Nat) (hkt : kt ≤ 120) (hgT : ∀ j : Nat, narrow .char (.int (gT j)) = .int (gT j)) (bt : Nat → Nat) (hbt : ∀ j : Nat, gT j = nI (bt j)) (hb8 : ∀ j : Nat, bt j < 256) (jR : Nat) (r1 : Nat) (r2 : Nat) (c1 : ClassId) (c2 : ClassId) (s1 : Nat → Int32) (s2 : Nat → Int32) (wr : Nat) (fi : Nat) (q6 : Nat) (q7 : Nat) (hwr : wr ≤ 120) (hfi : fi ≤ 124) (pn : Nat) (hpn : pn ≤ kt) (hwp : wr ≤ pn) (b6 : Nat) (n6 : Nat) (g6 : Nat → Int32) (hn6 : n6 ≤ 8) (b7 : Nat) (n7 : Nat) (g7 : Nat → Int32) (hn7 : n7 ≤ 8) (gn6 : ∀ k : Nat, ∃ v : Nat, v < 128 ∧ g6 k = nI v) (hz6 : kIx g6 n6 (nI 0) = n6) (gn7 : ∀ k : Nat, ∃ v : Nat, v < 128 ∧ g7 k = nI v) (hz7 : kIx g7 n7 (nI 0) = n7) (sz : Nat) : Met l yX4_readSum w_s_sum4x_0 ({ frames := 44, cells := 0, slots := 0, locals := 2640 }) (kW dC dI [.ref jR, .int 0] [(jR, .inr (4, [.ref jT, .ref r1, .ref r2, .int (nI (wr)), .int (nI (fi)), .int (nI (pn)), .ref q6, .ref q7])), (r1, .inl (c1, 120, .inl s1)), (r2, .inl (c2, 124, .inl s2)), (jT, .inr (8, [.ref t0, .int (nI (kt))])), (t0, .inl (cC, 120, .inl gT))] [(c1, .int), (c2, .int), (cC, .char)] (kS2 q6 b6 n6 g6 q7 b7 n7 g7 (va_A [(jR, .inr (4, [.ref jT, .ref r1, .ref r2, .int (nI (wr)), .int (nI (fi)), .int (nI (pn)), .ref q6, .ref q7])), (r1, .inl (c1, 120, .inl s1)), (r2, .inl (c2, 124, .inl s2)), (jT, .inr (8, [.ref t0, .int (nI (kt))])), (t0, .inl (cC, 120, .inl gT))] sz)) sz) (va_Qi (fun (r : Int32) (u : (Nat → Int32) × Nat × Nat × Bool × (List Int32)) => match u with | (S1, Wr, Pn, xo, xl) => (r = kBo xo ∧ kPR (kSumD bt kt g7 n7 6 pn) pn kt wr s1 xo Pn xl Wr S1 ∧ Wr ≤ 120)) (fun (u : (Nat → Int32) × Nat × Nat × Bool × (List Int32)) => match u with | (S1, Wr, Pn, xo, xl) => fun t : State => kB dC dI [(jR, .inr (4, [.ref jT, .ref r1, .ref r2, .int (nI (Wr)), .int (nI (fi)), .int (nI (Pn)), .ref q6, .ref q7])), (r1, .inl (c1, 120, .inl S1)), (r2, .inl (c2, 124, .inl s2)), (jT, .inr (8, [.ref t0, .int (nI (kt))])), (t0, .inl (cC, 120, .inl gT))] [(c1, .int), (c2, .int), (cC, .char)] (va_A [(jR, .inr (4, [.ref jT, .ref r1, .ref r2, .int (nI (wr)), .int (nI (fi)), .int (nI (pn)), .ref q6, .ref q7])), (r1, .inl (c1, 120, .inl s1)), (r2, .inl (c2, 124, .inl s2)), (jT, .inr (8, [.ref t0, .int (nI (kt))])), (t0, .inl (cC, 120, .inl gT))] sz) t) (va_A [(jR, .inr (4, [.ref jT, .ref r1, .ref r2, .int (nI (wr)), .int (nI (fi)), .int (nI (pn)), .ref q6, .ref q7])), (r1, .inl (c1, 120, .inl s1)), (r2, .inl (c2, 124, .inl s2)), (jT, .inr (8, [.ref t0, .int (nI (kt))])), (t0, .inl (cC, 120, .inl gT))] sz)) 0 0 (va_A [(jR, .inr (4, [.ref jT, .ref r1, .ref r2, .int (nI (wr)), .int (nI (fi)), .int (nI (pn)), .ref q6, .ref q7])), (r1, .inl (c1, 120, .inl s1)), (r2, .inl (c2, 124, .inl s2)), (jT, .inr (8, [.ref t0, .int (nI (kt))])), (t0, .inl (cC, 120, .inl gT))] sz) := by
  exact (kIHq_all 6 (by decide)).1 l dC dI jT t0 cC gT kt hkt hgT bt hbt hb8 jR r1 r2 c1 c2 s1 s2 wr fi q6 q7 hwr hfi pn hpn hwp b6 n6 g6 hn6 b7 n7 g7 hn7 gn6 hz6 gn7 hz7 0 rfl sz

def w_s_cond4x_0_0 : List Cond := .code yX4_readCondition cX4_readCondition 4 (some .boolean) :: wf_rq
theorem gw_s_cond4x_0_0 : (w_s_cond4x_0_0).all goodWord = true := kFamG rfl gf_rq
set_option maxHeartbeats 4000000 in
set_option maxRecDepth 100000 in
theorem s_cond4x_0_0 (l : Launch) (dC : Nat → ClassId) (dI : Nat → Nat → Nat) (jT : Nat) (t0 : Nat) (cC : ClassId) (gT : Nat → Int32) (kt : Nat) (hkt : kt ≤ 120) (hgT : ∀ j : Nat, narrow .char (.int (gT j)) = .int (gT j)) (bt : Nat → Nat) (hbt : ∀ j : Nat, gT j = nI (bt j)) (hb8 : ∀ j : Nat, bt j < 256) (jR : Nat) (r1 : Nat) (r2 : Nat) (c1 : ClassId) (c2 : ClassId) (s1 : Nat → Int32) (s2 : Nat → Int32) (wr : Nat) (fi : Nat) (q6 : Nat) (q7 : Nat) (hwr : wr ≤ 120) (hfi : fi ≤ 124) (pn : Nat) (hpn : pn ≤ kt) (hwp : wr ≤ pn) (b6 : Nat) (n6 : Nat) (g6 : Nat → Int32) (hn6 : n6 ≤ 8) (b7 : Nat) (n7 : Nat) (g7 : Nat → Int32) (hn7 : n7 ≤ 8) (gn6 : ∀ k : Nat, ∃ v : Nat, v < 128 ∧ g6 k = nI v) (hz6 : kIx g6 n6 (nI 0) = n6) (gn7 : ∀ k : Nat, ∃ v : Nat, v < 128 ∧ g7 k = nI v) (hz7 : kIx g7 n7 (nI 0) = n7) (sz : Nat) : Met l yX4_readCondition w_s_cond4x_0_0 ({ frames := 47, cells := 0, slots := 0, locals := 2820 }) (kW dC dI [.ref jR, .int 0, .int 0] [(jR, .inr (4, [.ref jT, .ref r1, .ref r2, .int (nI (wr)), .int (nI (fi)), .int (nI (pn)), .ref q6, .ref q7])), (r1, .inl (c1, 120, .inl s1)), (r2, .inl (c2, 124, .inl s2)), (jT, .inr (8, [.ref t0, .int (nI (kt))])), (t0, .inl (cC, 120, .inl gT))] [(c1, .int), (c2, .int), (cC, .char)] (kS2 q6 b6 n6 g6 q7 b7 n7 g7 (va_A [(jR, .inr (4, [.ref jT, .ref r1, .ref r2, .int (nI (wr)), .int (nI (fi)), .int (nI (pn)), .ref q6, .ref q7])), (r1, .inl (c1, 120, .inl s1)), (r2, .inl (c2, 124, .inl s2)), (jT, .inr (8, [.ref t0, .int (nI (kt))])), (t0, .inl (cC, 120, .inl gT))] sz)) sz) (va_Qi (fun (r : Int32) (u : (Nat → Int32) × Nat × Nat × Bool × (List Int32)) => match u with | (S1, Wr, Pn, xo, xl) => (r = kBo xo ∧ kPR (kConD bt kt g7 n7 6 pn) pn kt wr s1 xo Pn xl Wr S1 ∧ Wr ≤ 120)) (fun (u : (Nat → Int32) × Nat × Nat × Bool × (List Int32)) => match u with | (S1, Wr, Pn, xo, xl) => fun t : State => kB dC dI [(jR, .inr (4, [.ref jT, .ref r1, .ref r2, .int (nI (Wr)), .int (nI (fi)), .int (nI (Pn)), .ref q6, .ref q7])), (r1, .inl (c1, 120, .inl S1)), (r2, .inl (c2, 124, .inl s2)), (jT, .inr (8, [.ref t0, .int (nI (kt))])), (t0, .inl (cC, 120, .inl gT))] [(c1, .int), (c2, .int), (cC, .char)] (va_A [(jR, .inr (4, [.ref jT, .ref r1, .ref r2, .int (nI (wr)), .int (nI (fi)), .int (nI (pn)), .ref q6, .ref q7])), (r1, .inl (c1, 120, .inl s1)), (r2, .inl (c2, 124, .inl s2)), (jT, .inr (8, [.ref t0, .int (nI (kt))])), (t0, .inl (cC, 120, .inl gT))] sz) t) (va_A [(jR, .inr (4, [.ref jT, .ref r1, .ref r2, .int (nI (wr)), .int (nI (fi)), .int (nI (pn)), .ref q6, .ref q7])), (r1, .inl (c1, 120, .inl s1)), (r2, .inl (c2, 124, .inl s2)), (jT, .inr (8, [.ref t0, .int (nI (kt))])), (t0, .inl (cC, 120, .inl gT))] sz)) 0 0 (va_A [(jR, .inr (4, [.ref jT, .ref r1, .ref r2, .int (nI (wr)), .int (nI (fi)), .int (nI (pn)), .ref q6, .ref q7])), (r1, .inl (c1, 120, .inl s1)), (r2, .inl (c2, 124, .inl s2)), (jT, .inr (8, [.ref t0, .int (nI (kt))])), (t0, .inl (cC, 120, .inl gT))] sz) := by
  exact (kIHq_all 6 (by decide)).2.2 l dC dI jT t0 cC gT kt hkt hgT bt hbt hb8 jR r1 r2 c1 c2 s1 s2 wr fi q6 q7 hwr hfi pn hpn hwp b6 n6 g6 hn6 b7 n7 g7 hn7 gn6 hz6 gn7 hz7 0 rfl sz

def w_s_cond4x_0_1 : List Cond := .code yX4_readCondition cX4_readCondition 4 (some .boolean) :: wf_rq
theorem gw_s_cond4x_0_1 : (w_s_cond4x_0_1).all goodWord = true := kFamG rfl gf_rq
set_option maxHeartbeats 4000000 in
set_option maxRecDepth 100000 in
theorem s_cond4x_0_1 (l : Launch) (dC : Nat → ClassId) (dI : Nat → Nat → Nat) (jT : Nat) (t0 : Nat) (cC : ClassId) (gT : Nat → Int32) (kt : Nat) (hkt : kt ≤ 120) (hgT : ∀ j : Nat, narrow .char (.int (gT j)) = .int (gT j)) (bt : Nat → Nat) (hbt : ∀ j : Nat, gT j = nI (bt j)) (hb8 : ∀ j : Nat, bt j < 256) (jR : Nat) (r1 : Nat) (r2 : Nat) (c1 : ClassId) (c2 : ClassId) (s1 : Nat → Int32) (s2 : Nat → Int32) (wr : Nat) (fi : Nat) (q6 : Nat) (q7 : Nat) (hwr : wr ≤ 120) (hfi : fi ≤ 124) (pn : Nat) (hpn : pn ≤ kt) (hwp : wr ≤ pn) (b6 : Nat) (n6 : Nat) (g6 : Nat → Int32) (hn6 : n6 ≤ 8) (b7 : Nat) (n7 : Nat) (g7 : Nat → Int32) (hn7 : n7 ≤ 8) (gn6 : ∀ k : Nat, ∃ v : Nat, v < 128 ∧ g6 k = nI v) (hz6 : kIx g6 n6 (nI 0) = n6) (gn7 : ∀ k : Nat, ∃ v : Nat, v < 128 ∧ g7 k = nI v) (hz7 : kIx g7 n7 (nI 0) = n7) (sz : Nat) : Met l yX4_readCondition w_s_cond4x_0_1 ({ frames := 47, cells := 0, slots := 0, locals := 2820 }) (kW dC dI [.ref jR, .int 0, .int 1] [(jR, .inr (4, [.ref jT, .ref r1, .ref r2, .int (nI (wr)), .int (nI (fi)), .int (nI (pn)), .ref q6, .ref q7])), (r1, .inl (c1, 120, .inl s1)), (r2, .inl (c2, 124, .inl s2)), (jT, .inr (8, [.ref t0, .int (nI (kt))])), (t0, .inl (cC, 120, .inl gT))] [(c1, .int), (c2, .int), (cC, .char)] (kS2 q6 b6 n6 g6 q7 b7 n7 g7 (va_A [(jR, .inr (4, [.ref jT, .ref r1, .ref r2, .int (nI (wr)), .int (nI (fi)), .int (nI (pn)), .ref q6, .ref q7])), (r1, .inl (c1, 120, .inl s1)), (r2, .inl (c2, 124, .inl s2)), (jT, .inr (8, [.ref t0, .int (nI (kt))])), (t0, .inl (cC, 120, .inl gT))] sz)) sz) (va_Qi (fun (r : Int32) (u : (Nat → Int32) × Nat × Nat × Bool × (List Int32)) => match u with | (S1, Wr, Pn, xo, xl) => (r = kBo xo ∧ kPR (kConZ bt kt g7 n7 6 pn) pn kt wr s1 xo Pn xl Wr S1 ∧ Wr ≤ 120)) (fun (u : (Nat → Int32) × Nat × Nat × Bool × (List Int32)) => match u with | (S1, Wr, Pn, xo, xl) => fun t : State => kB dC dI [(jR, .inr (4, [.ref jT, .ref r1, .ref r2, .int (nI (Wr)), .int (nI (fi)), .int (nI (Pn)), .ref q6, .ref q7])), (r1, .inl (c1, 120, .inl S1)), (r2, .inl (c2, 124, .inl s2)), (jT, .inr (8, [.ref t0, .int (nI (kt))])), (t0, .inl (cC, 120, .inl gT))] [(c1, .int), (c2, .int), (cC, .char)] (va_A [(jR, .inr (4, [.ref jT, .ref r1, .ref r2, .int (nI (wr)), .int (nI (fi)), .int (nI (pn)), .ref q6, .ref q7])), (r1, .inl (c1, 120, .inl s1)), (r2, .inl (c2, 124, .inl s2)), (jT, .inr (8, [.ref t0, .int (nI (kt))])), (t0, .inl (cC, 120, .inl gT))] sz) t) (va_A [(jR, .inr (4, [.ref jT, .ref r1, .ref r2, .int (nI (wr)), .int (nI (fi)), .int (nI (pn)), .ref q6, .ref q7])), (r1, .inl (c1, 120, .inl s1)), (r2, .inl (c2, 124, .inl s2)), (jT, .inr (8, [.ref t0, .int (nI (kt))])), (t0, .inl (cC, 120, .inl gT))] sz)) 0 0 (va_A [(jR, .inr (4, [.ref jT, .ref r1, .ref r2, .int (nI (wr)), .int (nI (fi)), .int (nI (pn)), .ref q6, .ref q7])), (r1, .inl (c1, 120, .inl s1)), (r2, .inl (c2, 124, .inl s2)), (jT, .inr (8, [.ref t0, .int (nI (kt))])), (t0, .inl (cC, 120, .inl gT))] sz) := by
  exact s_cond4x_g_1 l dC dI jT t0 cC gT kt hkt hgT bt hbt hb8 jR r1 r2 c1 c2 s1 s2 wr fi q6 q7 hwr hfi pn hpn hwp b6 n6 g6 hn6 b7 n7 g7 hn7 gn6 hz6 gn7 hz7 5 0 rfl (kIHq_all 5 (by decide)) sz
end
section
theorem dX4_readClause_0 : decode cX4_readClause 0 = .ok (.aload_n 0, 1) := by decide +kernel
theorem dX4_readClause_1 : decode cX4_readClause 1 = .ok (.getfield 30, 3) := by decide +kernel
theorem dX4_readClause_4 : decode cX4_readClause 4 = .ok (.aload_n 0, 1) := by decide +kernel
theorem dX4_readClause_5 : decode cX4_readClause 5 = .ok (.invokevirtual 53, 3) := by decide +kernel
theorem dX4_readClause_8 : decode cX4_readClause 8 = .ok (.invokevirtual 72, 3) := by decide +kernel
theorem dX4_readClause_11 : decode cX4_readClause 11 = .ok (.istore_n 1, 1) := by decide +kernel
theorem dX4_readClause_12 : decode cX4_readClause 12 = .ok (.iload_n 1, 1) := by decide +kernel
theorem dX4_readClause_13 : decode cX4_readClause 13 = .ok (.ifCond .ge 5, 3) := by decide +kernel
theorem dX4_readClause_16 : decode cX4_readClause 16 = .ok (.iconst 0, 1) := by decide +kernel
theorem dX4_readClause_17 : decode cX4_readClause 17 = .ok (.ireturn, 1) := by decide +kernel
theorem dX4_readClause_18 : decode cX4_readClause 18 = .ok (.aload_n 0, 1) := by decide +kernel
theorem dX4_readClause_19 : decode cX4_readClause 19 = .ok (.dup, 1) := by decide +kernel
theorem dX4_readClause_20 : decode cX4_readClause 20 = .ok (.getfield 25, 3) := by decide +kernel
theorem dX4_readClause_23 : decode cX4_readClause 23 = .ok (.iconst 1, 1) := by decide +kernel
theorem dX4_readClause_24 : decode cX4_readClause 24 = .ok (.iadd, 1) := by decide +kernel
theorem dX4_readClause_25 : decode cX4_readClause 25 = .ok (.putfield 25, 3) := by decide +kernel
theorem dX4_readClause_28 : decode cX4_readClause 28 = .ok (.aload_n 0, 1) := by decide +kernel
theorem dX4_readClause_29 : decode cX4_readClause 29 = .ok (.bipush 58, 2) := by decide +kernel
theorem dX4_readClause_31 : decode cX4_readClause 31 = .ok (.invokevirtual 57, 3) := by decide +kernel
theorem dX4_readClause_34 : decode cX4_readClause 34 = .ok (.ifCond .ne 5, 3) := by decide +kernel
theorem dX4_readClause_39 : decode cX4_readClause 39 = .ok (.aload_n 0, 1) := by decide +kernel
theorem dX4_readClause_40 : decode cX4_readClause 40 = .ok (.getfield 18, 3) := by decide +kernel
theorem dX4_readClause_43 : decode cX4_readClause 43 = .ok (.istore_n 2, 1) := by decide +kernel
theorem dX4_readClause_44 : decode cX4_readClause 44 = .ok (.aload_n 0, 1) := by decide +kernel
theorem dX4_readClause_45 : decode cX4_readClause 45 = .ok (.invokevirtual 53, 3) := by decide +kernel
theorem dX4_readClause_48 : decode cX4_readClause 48 = .ok (.bipush 33, 2) := by decide +kernel
theorem dX4_readClause_50 : decode cX4_readClause 50 = .ok (.if_icmp .eq 12, 3) := by decide +kernel
theorem dX4_readClause_62 : decode cX4_readClause 62 = .ok (.iconst 1, 1) := by decide +kernel
theorem dX4_readClause_63 : decode cX4_readClause 63 = .ok (.goto 4, 3) := by decide +kernel
theorem dX4_readClause_67 : decode cX4_readClause 67 = .ok (.istore_n 3, 1) := by decide +kernel
theorem dX4_readClause_68 : decode cX4_readClause 68 = .ok (.iload_n 3, 1) := by decide +kernel
theorem dX4_readClause_69 : decode cX4_readClause 69 = .ok (.ifCond .ne 31, 3) := by decide +kernel
theorem dX4_readClause_100 : decode cX4_readClause 100 = .ok (.aload_n 0, 1) := by decide +kernel
theorem dX4_readClause_101 : decode cX4_readClause 101 = .ok (.iconst 0, 1) := by decide +kernel
theorem dX4_readClause_102 : decode cX4_readClause 102 = .ok (.iload_n 3, 1) := by decide +kernel
theorem dX4_readClause_103 : decode cX4_readClause 103 = .ok (.ifCond .ne 7, 3) := by decide +kernel
theorem dX4_readClause_110 : decode cX4_readClause 110 = .ok (.iconst 0, 1) := by decide +kernel
theorem dX4_readClause_111 : decode cX4_readClause 111 = .ok (.invokevirtual 89, 3) := by decide +kernel
theorem dX4_readClause_114 : decode cX4_readClause 114 = .ok (.ifCond .ne 5, 3) := by decide +kernel
theorem dX4_readClause_119 : decode cX4_readClause 119 = .ok (.aload_n 0, 1) := by decide +kernel
theorem dX4_readClause_120 : decode cX4_readClause 120 = .ok (.getfield 18, 3) := by decide +kernel
theorem dX4_readClause_123 : decode cX4_readClause 123 = .ok (.istore 4, 2) := by decide +kernel
theorem dX4_readClause_125 : decode cX4_readClause 125 = .ok (.aload_n 0, 1) := by decide +kernel
theorem dX4_readClause_126 : decode cX4_readClause 126 = .ok (.bipush 63, 2) := by decide +kernel
theorem dX4_readClause_128 : decode cX4_readClause 128 = .ok (.invokevirtual 57, 3) := by decide +kernel
theorem dX4_readClause_131 : decode cX4_readClause 131 = .ok (.ifCond .eq 26, 3) := by decide +kernel
theorem dX4_readClause_157 : decode cX4_readClause 157 = .ok (.iconst 0, 1) := by decide +kernel
theorem dX4_readClause_158 : decode cX4_readClause 158 = .ok (.ireturn, 1) := by decide +kernel
theorem dX4_readClause_134 : decode cX4_readClause 134 = .ok (.aload_n 0, 1) := by decide +kernel
theorem dX4_readClause_135 : decode cX4_readClause 135 = .ok (.iconst 0, 1) := by decide +kernel
theorem dX4_readClause_136 : decode cX4_readClause 136 = .ok (.invokevirtual 78, 3) := by decide +kernel
theorem dX4_readClause_139 : decode cX4_readClause 139 = .ok (.ifCond .eq 18, 3) := by decide +kernel
theorem dX4_readClause_142 : decode cX4_readClause 142 = .ok (.aload_n 0, 1) := by decide +kernel
theorem dX4_readClause_143 : decode cX4_readClause 143 = .ok (.iload_n 1, 1) := by decide +kernel
theorem dX4_readClause_144 : decode cX4_readClause 144 = .ok (.iload_n 2, 1) := by decide +kernel
theorem dX4_readClause_145 : decode cX4_readClause 145 = .ok (.iload 4, 2) := by decide +kernel
theorem dX4_readClause_147 : decode cX4_readClause 147 = .ok (.invokevirtual 85, 3) := by decide +kernel
theorem dX4_readClause_150 : decode cX4_readClause 150 = .ok (.ifCond .eq 7, 3) := by decide +kernel
theorem dX4_readClause_153 : decode cX4_readClause 153 = .ok (.iconst 1, 1) := by decide +kernel
theorem dX4_readClause_154 : decode cX4_readClause 154 = .ok (.goto 4, 3) := by decide +kernel
theorem dX4_readClause_117 : decode cX4_readClause 117 = .ok (.iconst 0, 1) := by decide +kernel
theorem dX4_readClause_118 : decode cX4_readClause 118 = .ok (.ireturn, 1) := by decide +kernel
theorem dX4_readClause_53 : decode cX4_readClause 53 = .ok (.aload_n 0, 1) := by decide +kernel
theorem dX4_readClause_54 : decode cX4_readClause 54 = .ok (.invokevirtual 53, 3) := by decide +kernel
theorem dX4_readClause_57 : decode cX4_readClause 57 = .ok (.bipush 40, 2) := by decide +kernel
theorem dX4_readClause_59 : decode cX4_readClause 59 = .ok (.if_icmp .ne 7, 3) := by decide +kernel
theorem dX4_readClause_66 : decode cX4_readClause 66 = .ok (.iconst 0, 1) := by decide +kernel
theorem dX4_readClause_72 : decode cX4_readClause 72 = .ok (.aload_n 0, 1) := by decide +kernel
theorem dX4_readClause_73 : decode cX4_readClause 73 = .ok (.iconst 0, 1) := by decide +kernel
theorem dX4_readClause_74 : decode cX4_readClause 74 = .ok (.invokevirtual 78, 3) := by decide +kernel
theorem dX4_readClause_77 : decode cX4_readClause 77 = .ok (.ifCond .ne 5, 3) := by decide +kernel
theorem dX4_readClause_82 : decode cX4_readClause 82 = .ok (.aload_n 0, 1) := by decide +kernel
theorem dX4_readClause_83 : decode cX4_readClause 83 = .ok (.invokevirtual 53, 3) := by decide +kernel
theorem dX4_readClause_86 : decode cX4_readClause 86 = .ok (.invokestatic 82, 3) := by decide +kernel
theorem dX4_readClause_89 : decode cX4_readClause 89 = .ok (.ifCond .ne 11, 3) := by decide +kernel
theorem dX4_readClause_106 : decode cX4_readClause 106 = .ok (.iconst 1, 1) := by decide +kernel
theorem dX4_readClause_107 : decode cX4_readClause 107 = .ok (.goto 4, 3) := by decide +kernel
theorem dX4_readClause_92 : decode cX4_readClause 92 = .ok (.aload_n 0, 1) := by decide +kernel
theorem dX4_readClause_93 : decode cX4_readClause 93 = .ok (.iload_n 1, 1) := by decide +kernel
theorem dX4_readClause_94 : decode cX4_readClause 94 = .ok (.iload_n 2, 1) := by decide +kernel
theorem dX4_readClause_95 : decode cX4_readClause 95 = .ok (.iload_n 2, 1) := by decide +kernel
theorem dX4_readClause_96 : decode cX4_readClause 96 = .ok (.invokevirtual 85, 3) := by decide +kernel
theorem dX4_readClause_99 : decode cX4_readClause 99 = .ok (.ireturn, 1) := by decide +kernel
theorem dX4_readClause_80 : decode cX4_readClause 80 = .ok (.iconst 0, 1) := by decide +kernel
theorem dX4_readClause_81 : decode cX4_readClause 81 = .ok (.ireturn, 1) := by decide +kernel
theorem dX4_readClause_37 : decode cX4_readClause 37 = .ok (.iconst 0, 1) := by decide +kernel
theorem dX4_readClause_38 : decode cX4_readClause 38 = .ok (.ireturn, 1) := by decide +kernel
def w_s_clause4x : List Cond := .code yX4_readClause cX4_readClause 5 (some .boolean) :: wf_rq
theorem gw_s_clause4x : (w_s_clause4x).all goodWord = true := kFamG rfl gf_rq
theorem hd_X4_readClause : yX4_readClause.cls ≠ "java/lang/invoke/MethodHandle" ∧ yX4_readClause.cls ≠ "java/lang/invoke/VarHandle" ∧ (parseMethodDescriptor yX4_readClause.desc).map (fun d => d.parameters.length) = some 0 := by decide +kernel
set_option maxHeartbeats 4000000 in
set_option maxRecDepth 100000 in
theorem s_clause4x (l : Launch) (dC : Nat → ClassId) (dI : Nat → Nat → Nat) (jT : Nat) (t0 : Nat) (cC : ClassId) (gT : Nat → Int32) (kt : Nat) (hkt : kt ≤ 120) (hgT : ∀ j : Nat, narrow .char (.int (gT j)) = .int (gT j)) (bt : Nat → Nat) (hbt : ∀ j : Nat, gT j = nI (bt j)) (hb8 : ∀ j : Nat, bt j < 256) (jR : Nat) (r1 : Nat) (r2 : Nat) (c1 : ClassId) (c2 : ClassId) (s1 : Nat → Int32) (s2 : Nat → Int32) (wr : Nat) (fi : Nat) (q6 : Nat) (q7 : Nat) (hwr : wr ≤ 120) (hfi : fi ≤ 124) (pn : Nat) (hpn : pn ≤ kt) (hwp : wr ≤ pn) (b6 : Nat) (n6 : Nat) (g6 : Nat → Int32) (hn6 : n6 ≤ 8) (b7 : Nat) (n7 : Nat) (g7 : Nat → Int32) (hn7 : n7 ≤ 8) (gn6 : ∀ k : Nat, ∃ v : Nat, v < 128 ∧ g6 k = nI v) (hz6 : kIx g6 n6 (nI 0) = n6) (gn7 : ∀ k : Nat, ∃ v : Nat, v < 128 ∧ g7 k = nI v) (hz7 : kIx g7 n7 (nI 0) = n7) (hf9 : fi ≤ 120) (sz : Nat) : Met l yX4_readClause w_s_clause4x ({ frames := 48, cells := 0, slots := 0, locals := 2880 }) (kW dC dI [.ref jR] [(jR, .inr (4, [.ref jT, .ref r1, .ref r2, .int (nI (wr)), .int (nI (fi)), .int (nI (pn)), .ref q6, .ref q7])), (r1, .inl (c1, 120, .inl s1)), (r2, .inl (c2, 124, .inl s2)), (jT, .inr (8, [.ref t0, .int (nI (kt))])), (t0, .inl (cC, 120, .inl gT))] [(c1, .int), (c2, .int), (cC, .char)] (kS2 q6 b6 n6 g6 q7 b7 n7 g7 (va_A [(jR, .inr (4, [.ref jT, .ref r1, .ref r2, .int (nI (wr)), .int (nI (fi)), .int (nI (pn)), .ref q6, .ref q7])), (r1, .inl (c1, 120, .inl s1)), (r2, .inl (c2, 124, .inl s2)), (jT, .inr (8, [.ref t0, .int (nI (kt))])), (t0, .inl (cC, 120, .inl gT))] sz)) sz) (va_Qi (fun (r : Int32) (u : (Nat → Int32) × (Nat → Int32) × Nat × Nat × Nat × Bool × (List Int32) × Nat × Nat) => match u with | (S1, S2, Wr, Fi, Pn, xo, xl, xj, xk) => (r = kBo xo ∧ kCla bt kt g6 n6 g7 n7 pn = (xo, Pn, xl, xj, xk) ∧ Pn ≤ kt ∧ Wr ≤ 120 ∧ Fi ≤ 124 ∧ (xo = true → Wr = wr + xl.length ∧ S1 = kWrt s1 wr xl ∧ Fi = fi + 4 ∧ S2 = kWrt s2 fi [nI xj, nI wr, nI (wr + xk), nI (wr + xl.length)] ∧ pn + xl.length ≤ Pn ∧ pn + 3 ≤ Pn))) (fun (u : (Nat → Int32) × (Nat → Int32) × Nat × Nat × Nat × Bool × (List Int32) × Nat × Nat) => match u with | (S1, S2, Wr, Fi, Pn, xo, xl, xj, xk) => fun t : State => kB dC dI [(jR, .inr (4, [.ref jT, .ref r1, .ref r2, .int (nI (Wr)), .int (nI (Fi)), .int (nI (Pn)), .ref q6, .ref q7])), (r1, .inl (c1, 120, .inl S1)), (r2, .inl (c2, 124, .inl S2)), (jT, .inr (8, [.ref t0, .int (nI (kt))])), (t0, .inl (cC, 120, .inl gT))] [(c1, .int), (c2, .int), (cC, .char)] (va_A [(jR, .inr (4, [.ref jT, .ref r1, .ref r2, .int (nI (wr)), .int (nI (fi)), .int (nI (pn)), .ref q6, .ref q7])), (r1, .inl (c1, 120, .inl s1)), (r2, .inl (c2, 124, .inl s2)), (jT, .inr (8, [.ref t0, .int (nI (kt))])), (t0, .inl (cC, 120, .inl gT))] sz) t) (va_A [(jR, .inr (4, [.ref jT, .ref r1, .ref r2, .int (nI (wr)), .int (nI (fi)), .int (nI (pn)), .ref q6, .ref q7])), (r1, .inl (c1, 120, .inl s1)), (r2, .inl (c2, 124, .inl s2)), (jT, .inr (8, [.ref t0, .int (nI (kt))])), (t0, .inl (cC, 120, .inl gT))] sz)) 0 0 (va_A [(jR, .inr (4, [.ref jT, .ref r1, .ref r2, .int (nI (wr)), .int (nI (fi)), .int (nI (pn)), .ref q6, .ref q7])), (r1, .inl (c1, 120, .inl s1)), (r2, .inl (c2, 124, .inl s2)), (jT, .inr (8, [.ref t0, .int (nI (kt))])), (t0, .inl (cC, 120, .inl gT))] sz) := by
  refine Met.ofW (cc := cX4_readClause) (maxL := 5) (ret := (some .boolean)) (by decide) rfl ?_
  intro p e s m args below meth c s₁ B hml hv
  obtain ⟨rfl, hsz, hP, hK, hD0, hX⟩ := hv
  have hx := B.exec
  have hb := B.bytes
  have hr := B.returns
  have hts := atoms_spec (ws := w_s_clause4x) B.pre
  have hown : s.vm.findClass RX4 = some m.cls := findClass_of_methodNamed B.named
  have hlocks := B.notSynchronized
  subst hsz
  have hD := hD0.self (sz := s.heap.size)
  generalize hAe : va_A [(jR, .inr (4, [.ref jT, .ref r1, .ref r2, .int (nI (wr)), .int (nI (fi)), .int (nI (pn)), .ref q6, .ref q7])), (r1, .inl (c1, 120, .inl s1)), (r2, .inl (c2, 124, .inl s2)), (jT, .inr (8, [.ref t0, .int (nI (kt))])), (t0, .inl (cC, 120, .inl gT))] s.heap.size = A at hD hX ⊢
  have hA : ∀ q : Nat, s.heap.size ≤ q → A q := fun q h => by rw [← hAe]; exact Or.inr h
  have hS : va_S A s.heap s.heap [] := va_S.rf
  have hP : va_P (dC, dI) vwCl [(jR, .inr (4, [.ref jT, .ref r1, .ref r2, .int (nI (wr)), .int (nI (fi)), .int (nI (pn)), .ref q6, .ref q7])), (r1, .inl (c1, 120, .inl s1)), (r2, .inl (c2, 124, .inl s2)), (jT, .inr (8, [.ref t0, .int (nI (kt))])), (t0, .inl (cC, 120, .inl gT))] s.heap := hP
  have hl := lv_entry ([.ref jR]) (n := 5) (Nat.le_of_ble_eq_true rfl)
  rw [lg_entry_eq]
  generalize (lg_sl ([.ref jR]) ++ List.replicate (5 - (lg_sl ([.ref jR])).length) Slot.unset).toArray = ls at hl ⊢
  have hl : lv_has ls 5 [(0, .ref jR)] := hl
  refine kQ (fun Q hQ => ?_)
  refine lv_aload_n hx hb dX4_readClause_0 rfl (lv_at hl 0 rfl) ?_
  refine va_get (D := (dC, dI)) (ci := 4) (v := .ref q6) (C := RX4) (T := TX4) (N := 8) hx hb hts (fun _ h => List.mem_cons_of_mem _ (List.mem_append_right _ (List.mem_append_right _ (List.mem_append_right _ (List.mem_append_left _ h))))) hown hK hP 0 rfl rfl 6 kc_l_6_8 (hts (.fieldLink RX4 30 "NotEnded$Reader" "labelSigns" "Ljava/lang/String;") (List.mem_cons_of_mem _ (List.mem_append_left _ (List.mem_of_getElem? (i := 50) rfl)))) (fun _ h9 => h9) rfl dX4_readClause_1 ?_
  refine lv_aload_n hx hb dX4_readClause_4 rfl (lv_at hl 0 rfl) ?_
  have hCu := kCut (wc := [(jR, .inr (4, [.ref jT, .ref r1, .ref r2, .int (nI (wr)), .int (nI (fi)), .int (nI (pn)), .ref q6, .ref q7])), (r1, .inl (c1, 120, .inl s1)), (r2, .inl (c2, 124, .inl s2)), (jT, .inr (8, [.ref t0, .int (nI (kt))])), (t0, .inl (cC, 120, .inl gT))]) hP hD hS hA [0, 1, 2, 3, 4] rfl kc_nd_311 rfl
  have hPc := hCu.1
  have hDc := hCu.2.1
  have hFc := hCu.2.2
  have hKc := hK.sb (tys2 := [(c1, .int), (c2, .int), (cC, .char)]) [0, 1, 2] rfl
  refine va_calli (va_runV (As := []) (rest := [.ref q6]) ⟨hx, hb, hml, hown, hts⟩ (s_look4x l dC dI jT t0 cC gT kt hkt hgT bt hbt hb8 jR r1 r2 c1 c2 s1 s2 wr fi q6 q7 hwr hfi pn hpn s.heap.size) (cwV 0 hts (kG (List.forall_mem_cons.mpr ⟨(List.mem_cons_of_mem _ (List.mem_append_left _ (List.mem_of_getElem? (i := 3) rfl))), (List.forall_mem_cons.mpr ⟨(List.mem_cons_of_mem _ (List.mem_append_left _ (List.mem_of_getElem? (i := 2) rfl))), (List.forall_mem_cons.mpr ⟨(List.mem_cons_of_mem _ (List.mem_append_left _ (List.mem_of_getElem? (i := 1) rfl))), (List.forall_mem_cons.mpr ⟨(List.mem_cons_of_mem _ (List.mem_append_left _ (List.mem_of_getElem? (i := 0) rfl))), (fun _ h => absurd h List.not_mem_nil)⟩)⟩)⟩)⟩) (kGV _ _ _ _) (fun _ h => List.mem_cons_of_mem _ (List.mem_append_right _ (List.mem_append_left _ h))) gw_s_look4x) rfl rfl rfl ⟨rfl, hd_X4_look⟩ ⟨(Nat.le_of_ble_eq_true rfl), (Nat.le_of_ble_eq_true rfl)⟩) (kW_V kT_blind kT_give (va_recv hKc hPc (ci := 4) (q0 := 0) rfl rfl) hPc hKc hDc) rfl rfl hl.1 rfl (lv_room (Nat.le_of_ble_eq_true rfl)) dX4_readClause_5 ⟨(Nat.le_of_ble_eq_true rfl), (Nat.le_of_ble_eq_true rfl)⟩) hS (fun q _ h => hFc q h) hFc (fun r_1 => kU2 (fun Pn_2 ch_3 t H_4 locs ht hvm hw hB hz1 hk1 hS => ?_))
  try dsimp only at hw
  have hPD : kPD dC dI A [(jR, .inr (4, [.ref jT, .ref r1, .ref r2, .int (nI (wr)), .int (nI (fi)), .int (nI (Pn_2)), .ref q6, .ref q7])), (r1, .inl (c1, 120, .inl s1)), (r2, .inl (c2, 124, .inl s2)), (jT, .inr (8, [.ref t0, .int (nI (kt))])), (t0, .inl (cC, 120, .inl gT))] H_4 := kJoinX hP hD [0, 1, 2, 3, 4] rfl hk1 hFc hB.1 ht hB.2.2 rfl [some 0, some 1, some 2, some 3, some 4] rfl rfl
  have hP := hPD.1
  have hD := hPD.2
  obtain ⟨rfl, hw_5_0, hw_5_1, hw_5_2, hw_5_3, hw_5_4, hw_5_5, hw_5_6⟩ := hw
  have bd_6 : ch_3 < 256 := by omega
  have hPc := hP.sb (ws2 := []) [] rfl
  have hKc := hK.sb (tys2 := []) [] rfl
  refine vp_callSi (va_runV (As := [.int (nI (ch_3))]) (rest := []) ⟨hx, hb, hml, hown, hts⟩ (s_t_ixx l dC dI q6 b6 n6 g6 hn6 A gn6 ch_3 bd_6) (cwV 1 hts (kG (List.forall_mem_cons.mpr ⟨(List.mem_cons_of_mem _ (List.mem_append_left _ (List.mem_of_getElem? (i := 10) rfl))), (List.forall_mem_cons.mpr ⟨(List.mem_cons_of_mem _ (List.mem_append_left _ (List.mem_of_getElem? (i := 9) rfl))), (List.forall_mem_cons.mpr ⟨(List.mem_cons_of_mem _ (List.mem_append_left _ (List.mem_of_getElem? (i := 8) rfl))), (List.forall_mem_cons.mpr ⟨(List.mem_cons_of_mem _ (List.mem_append_left _ (List.mem_of_getElem? (i := 7) rfl))), (fun _ h => absurd h List.not_mem_nil)⟩)⟩)⟩)⟩) (kGV _ _ _ _) (fun _ h => List.mem_cons_of_mem _ (List.mem_append_right _ (List.mem_append_right _ (List.mem_append_right _ (List.mem_append_right _ (List.mem_append_left _ h)))))) gw_s_t_ixx) rfl rfl rfl ⟨rfl, hd_J0_indexOf_0f7a4⟩ ⟨(Nat.le_of_ble_eq_true rfl), (Nat.le_of_ble_eq_true rfl)⟩) (kR_V kSt_blind (kSt_give hX.1 hS) (kSt_recv hX.1 hS) hPc hKc) rfl rfl hl.1 rfl (lv_room (Nat.le_of_ble_eq_true rfl)) dX4_readClause_8 ⟨(Nat.le_of_ble_eq_true rfl), (Nat.le_of_ble_eq_true rfl)⟩).run (fun r_7 hw => ?_)
  have hw_8 := hw
  rcases hw_8 with ⟨rfl, hj_10⟩ | ⟨j_9, hj_10_1, rfl, hj_10⟩
  · refine lv_istore_n hx hb dX4_readClause_11 rfl hl kc_l_1_5 (kTo [(1, .int (-1)), (0, .ref jR)]) (fun ls hl => ?_)
    refine lv_iload_n hx hb dX4_readClause_12 rfl (lv_at hl 0 rfl) ?_
    refine lv_if_ge (tgt := 18) hx hb dX4_readClause_13 kc_t_13_5 (fun c_11 => absurd c_11 (by decide)) (fun c_11 => ?_)
    refine lv_iconst (v := 0) hx hb dX4_readClause_16 kc_i_0 ?_
    have hP9 := hP
    have hD9 := hD
    have hK9 := hK
    rw [hQ]
    exact W.zret (v := 0) hx hb hr rfl (fun t ht hW => ⟨⟨0, (s1, s2, wr, fi, Pn_2, false, ([]), 0, 0), rfl, ⟨rfl, (by unfold kCla; rw [← hw_5_0, ← hw_5_1]; rw [if_neg (by omega)]), by omega, by omega, by omega, fun z => absurd z (by decide)⟩,  by rw [ht]; exact hP9, va_K.moved hW.alike hK9, hD9⟩, hS.F ht⟩) hS.2.2 dX4_readClause_17
  · have hlt9 : Pn_2 < kt := by rcases (show ch_3 = 0 ∨ Pn_2 < kt by assumption) with z | z; (exfalso; rw [z, hz6] at hj_10; omega); exact z
    refine lv_istore_n hx hb dX4_readClause_11 rfl hl kc_l_1_5 (kTo [(1, .int (nI (j_9))), (0, .ref jR)]) (fun ls hl => ?_)
    refine lv_iload_n hx hb dX4_readClause_12 rfl (lv_at hl 0 rfl) ?_
    have bd_12 : j_9 < 2147483648 := by omega
    refine lv_if_ge (tgt := 18) hx hb dX4_readClause_13 kc_t_13_5 (fun c_13 => ?_) (fun c_13 => absurd (nI_pos' (n := j_9) bd_12) c_13)
    refine lv_aload_n hx hb dX4_readClause_18 rfl (lv_at hl 1 rfl) ?_
    refine lv_dup hx hb dX4_readClause_19 rfl ?_
    refine va_get (D := (dC, dI)) (ci := 4) (v := .int (nI (Pn_2))) (C := RX4) (T := TX4) (N := 8) hx hb hts (fun _ h => List.mem_cons_of_mem _ (List.mem_append_right _ (List.mem_append_right _ (List.mem_append_right _ (List.mem_append_left _ h))))) hown hK hP 0 rfl rfl 5 kc_l_5_8 (hts (.fieldLink RX4 25 "NotEnded$Reader" "place" "I") (List.mem_cons_of_mem _ (List.mem_append_left _ (List.mem_of_getElem? (i := 11) rfl)))) (fun _ h9 => h9) rfl dX4_readClause_20 ?_
    refine lv_iconst (v := 1) hx hb dX4_readClause_23 kc_i_1 ?_
    refine lv_iadd hx hb dX4_readClause_24 ?_
    refine lv_topi (fun y_14 ey_14 => ?_)
    obtain rfl : y_14 = nI (Pn_2 + 1) := ey_14.trans (nI_add (Pn_2) (1))
    refine va_put (D := (dC, dI)) (ci := 4) (v := .int (nI (Pn_2 + 1))) (ty := tyX4 5) (C := RX4) (T := TX4) (N := 8) hx hb hts (fun _ h => List.mem_cons_of_mem _ (List.mem_append_right _ (List.mem_append_right _ (List.mem_append_right _ (List.mem_append_left _ h))))) tyX4 tyX4_ok nmX4 hown hK hP hD hS 0 rfl rfl 5 kc_l_5_8 (hts (.fieldLink RX4 25 "NotEnded$Reader" "place" "I") (List.mem_cons_of_mem _ (List.mem_append_left _ (List.mem_of_getElem? (i := 11) rfl)))) (fun _ h9 => h9) rfl (tyX4_ok 5 kc_l_5_8) rfl rfl (Nat.le_of_ble_eq_true rfl) dX4_readClause_25 (fun H locs hP hD hS => ?_)
    have hPD : kPD dC dI A [(jR, .inr (4, [.ref jT, .ref r1, .ref r2, .int (nI (wr)), .int (nI (fi)), .int (nI (Pn_2 + 1)), .ref q6, .ref q7])), (r1, .inl (c1, 120, .inl s1)), (r2, .inl (c2, 124, .inl s2)), (jT, .inr (8, [.ref t0, .int (nI (kt))])), (t0, .inl (cC, 120, .inl gT))] H := ⟨hP, hD⟩
    have hP := hPD.1
    have hD := hPD.2
    refine lv_aload_n hx hb dX4_readClause_28 rfl (lv_at hl 1 rfl) ?_
    refine lv_bipush (v := 58) hx hb dX4_readClause_29 kc_b_58 ?_
    have bd_15 : (Pn_2 + 1) ≤ kt := by omega
    have hCu := kCut (wc := [(jR, .inr (4, [.ref jT, .ref r1, .ref r2, .int (nI (wr)), .int (nI (fi)), .int (nI (Pn_2 + 1)), .ref q6, .ref q7])), (r1, .inl (c1, 120, .inl s1)), (r2, .inl (c2, 124, .inl s2)), (jT, .inr (8, [.ref t0, .int (nI (kt))])), (t0, .inl (cC, 120, .inl gT))]) hP hD hS hA [0, 1, 2, 3, 4] rfl kc_nd_311 rfl
    have hPc := hCu.1
    have hDc := hCu.2.1
    have hFc := hCu.2.2
    have hKc := hK.sb (tys2 := [(c1, .int), (c2, .int), (cC, .char)]) [0, 1, 2] rfl
    refine va_calli (va_runV (As := [.int 58]) (rest := []) ⟨hx, hb, hml, hown, hts⟩ (s_take4_58 l dC dI jT t0 cC gT kt hkt hgT bt hbt hb8 jR r1 r2 c1 c2 s1 s2 wr fi q6 q7 hwr hfi (Pn_2 + 1) bd_15 H.size) (cwV 1 hts (kG (List.forall_mem_cons.mpr ⟨(List.mem_cons_of_mem _ (List.mem_append_left _ (List.mem_of_getElem? (i := 45) rfl))), (List.forall_mem_cons.mpr ⟨(List.mem_cons_of_mem _ (List.mem_append_left _ (List.mem_of_getElem? (i := 44) rfl))), (List.forall_mem_cons.mpr ⟨(List.mem_cons_of_mem _ (List.mem_append_left _ (List.mem_of_getElem? (i := 43) rfl))), (List.forall_mem_cons.mpr ⟨(List.mem_cons_of_mem _ (List.mem_append_left _ (List.mem_of_getElem? (i := 0) rfl))), (fun _ h => absurd h List.not_mem_nil)⟩)⟩)⟩)⟩) (kGV _ _ _ _) (fun _ h => List.mem_cons_of_mem _ (List.mem_append_right _ (List.mem_append_right _ (List.mem_append_right _ (List.mem_append_right _ (List.mem_append_right _ (List.mem_append_right _ (List.mem_append_right _ (List.mem_append_right _ (List.mem_append_right _ (List.mem_append_right _ (List.mem_append_right _ (List.mem_append_right _ (List.mem_append_left _ h)))))))))))))) gw_s_take4_58) rfl rfl rfl ⟨rfl, hd_X4_take⟩ ⟨(Nat.le_of_ble_eq_true rfl), (Nat.le_of_ble_eq_true rfl)⟩) (kW_V kT_blind kT_give (va_recv hKc hPc (ci := 4) (q0 := 0) rfl rfl) hPc hKc hDc) rfl rfl hl.1 rfl (lv_room (Nat.le_of_ble_eq_true rfl)) dX4_readClause_31 ⟨(Nat.le_of_ble_eq_true rfl), (Nat.le_of_ble_eq_true rfl)⟩) hS (fun q _ h => hFc q h) hFc (fun r_16 => kU2 (fun Pn_17 xo_18 t H_19 locs ht hvm hw hB hz1 hk1 hS => ?_))
    try dsimp only at hw
    have hPD : kPD dC dI A [(jR, .inr (4, [.ref jT, .ref r1, .ref r2, .int (nI (wr)), .int (nI (fi)), .int (nI (Pn_17)), .ref q6, .ref q7])), (r1, .inl (c1, 120, .inl s1)), (r2, .inl (c2, 124, .inl s2)), (jT, .inr (8, [.ref t0, .int (nI (kt))])), (t0, .inl (cC, 120, .inl gT))] H_19 := kJoinX hP hD [0, 1, 2, 3, 4] rfl hk1 hFc hB.1 ht hB.2.2 rfl [some 0, some 1, some 2, some 3, some 4] rfl rfl
    have hP := hPD.1
    have hD := hPD.2
    have hw_20 := hw
    refine lv_if_ne (tgt := 39) hx hb dX4_readClause_34 kc_t_34_5 (fun c_21 => ?_) (fun c_21 => ?_)
    · obtain rfl : xo_18 = true := kBo_t (kNz9 hw_20.1 c_21)
      have hw_20_p := hw_20.2.2.2.2 rfl
      have hw_20_k := hw_20.2.2.2.1
      refine lv_aload_n hx hb dX4_readClause_39 rfl (lv_at hl 1 rfl) ?_
      refine va_get (D := (dC, dI)) (ci := 4) (v := .int (nI (wr))) (C := RX4) (T := TX4) (N := 8) hx hb hts (fun _ h => List.mem_cons_of_mem _ (List.mem_append_right _ (List.mem_append_right _ (List.mem_append_right _ (List.mem_append_left _ h))))) hown hK hP 0 rfl rfl 3 kc_l_3_8 (hts (.fieldLink RX4 18 "NotEnded$Reader" "written" "I") (List.mem_cons_of_mem _ (List.mem_append_left _ (List.mem_of_getElem? (i := 51) rfl)))) (fun _ h9 => h9) rfl dX4_readClause_40 ?_
      refine lv_istore_n hx hb dX4_readClause_43 rfl hl kc_l_2_5 (kTo [(2, .int (nI (wr))), (1, .int (nI (j_9))), (0, .ref jR)]) (fun ls hl => ?_)
      refine lv_aload_n hx hb dX4_readClause_44 rfl (lv_at hl 2 rfl) ?_
      have bd_22 : Pn_17 ≤ kt := by omega
      have hCu := kCut (wc := [(jR, .inr (4, [.ref jT, .ref r1, .ref r2, .int (nI (wr)), .int (nI (fi)), .int (nI (Pn_17)), .ref q6, .ref q7])), (r1, .inl (c1, 120, .inl s1)), (r2, .inl (c2, 124, .inl s2)), (jT, .inr (8, [.ref t0, .int (nI (kt))])), (t0, .inl (cC, 120, .inl gT))]) hP hD hS hA [0, 1, 2, 3, 4] rfl kc_nd_311 rfl
      have hPc := hCu.1
      have hDc := hCu.2.1
      have hFc := hCu.2.2
      have hKc := hK.sb (tys2 := [(c1, .int), (c2, .int), (cC, .char)]) [0, 1, 2] rfl
      refine va_calli (va_runV (As := []) (rest := []) ⟨hx, hb, hml, hown, hts⟩ (s_look4x l dC dI jT t0 cC gT kt hkt hgT bt hbt hb8 jR r1 r2 c1 c2 s1 s2 wr fi q6 q7 hwr hfi Pn_17 bd_22 H_19.size) (cwV 0 hts (kG (List.forall_mem_cons.mpr ⟨(List.mem_cons_of_mem _ (List.mem_append_left _ (List.mem_of_getElem? (i := 3) rfl))), (List.forall_mem_cons.mpr ⟨(List.mem_cons_of_mem _ (List.mem_append_left _ (List.mem_of_getElem? (i := 2) rfl))), (List.forall_mem_cons.mpr ⟨(List.mem_cons_of_mem _ (List.mem_append_left _ (List.mem_of_getElem? (i := 1) rfl))), (List.forall_mem_cons.mpr ⟨(List.mem_cons_of_mem _ (List.mem_append_left _ (List.mem_of_getElem? (i := 0) rfl))), (fun _ h => absurd h List.not_mem_nil)⟩)⟩)⟩)⟩) (kGV _ _ _ _) (fun _ h => List.mem_cons_of_mem _ (List.mem_append_right _ (List.mem_append_left _ h))) gw_s_look4x) rfl rfl rfl ⟨rfl, hd_X4_look⟩ ⟨(Nat.le_of_ble_eq_true rfl), (Nat.le_of_ble_eq_true rfl)⟩) (kW_V kT_blind kT_give (va_recv hKc hPc (ci := 4) (q0 := 0) rfl rfl) hPc hKc hDc) rfl rfl hl.1 rfl (lv_room (Nat.le_of_ble_eq_true rfl)) dX4_readClause_45 ⟨(Nat.le_of_ble_eq_true rfl), (Nat.le_of_ble_eq_true rfl)⟩) hS (fun q _ h => hFc q h) hFc (fun r_23 => kU2 (fun Pn_24 ch_25 t H_26 locs ht hvm hw hB hz1 hk1 hS => ?_))
      try dsimp only at hw
      have hPD : kPD dC dI A [(jR, .inr (4, [.ref jT, .ref r1, .ref r2, .int (nI (wr)), .int (nI (fi)), .int (nI (Pn_24)), .ref q6, .ref q7])), (r1, .inl (c1, 120, .inl s1)), (r2, .inl (c2, 124, .inl s2)), (jT, .inr (8, [.ref t0, .int (nI (kt))])), (t0, .inl (cC, 120, .inl gT))] H_26 := kJoinX hP hD [0, 1, 2, 3, 4] rfl hk1 hFc hB.1 ht hB.2.2 rfl [some 0, some 1, some 2, some 3, some 4] rfl rfl
      have hP := hPD.1
      have hD := hPD.2
      obtain ⟨rfl, hw_27_0, hw_27_1, hw_27_2, hw_27_3, hw_27_4, hw_27_5, hw_27_6⟩ := hw
      refine lv_bipush (v := 33) hx hb dX4_readClause_48 kc_b_33 ?_
      refine lv_icmp_eq (tgt := 62) hx hb dX4_readClause_50 kc_t_50_12 (fun c_28 => ?_) (fun c_28 => ?_)
      · have bd_30 : ch_25 < 2147483648 := by omega
        have hn_29 := keq (a := ch_25) (b := 33) bd_30 kc_31_33 c_28
        refine lv_iconst (v := 1) hx hb dX4_readClause_62 kc_i_1 ?_
        refine lv_goto (tgt := 67) hx hb dX4_readClause_63 kc_t_63_4 ?_
        refine lv_istore_n hx hb dX4_readClause_67 rfl hl kc_l_3_5 (kTo [(3, .int 1), (2, .int (nI (wr))), (1, .int (nI (j_9))), (0, .ref jR)]) (fun ls hl => ?_)
        refine lv_iload_n hx hb dX4_readClause_68 rfl (lv_at hl 0 rfl) ?_
        refine lv_if_ne (tgt := 100) hx hb dX4_readClause_69 kc_t_69_31 (fun c_31 => ?_) (fun c_31 => absurd c_31 (by decide))
        refine lv_aload_n hx hb dX4_readClause_100 rfl (lv_at hl 3 rfl) ?_
        refine lv_iconst (v := 0) hx hb dX4_readClause_101 kc_i_0 ?_
        refine lv_iload_n hx hb dX4_readClause_102 rfl (lv_at hl 0 rfl) ?_
        refine lv_if_ne (tgt := 110) hx hb dX4_readClause_103 kc_t_103_7 (fun c_32 => ?_) (fun c_32 => absurd c_32 (by decide))
        refine lv_iconst (v := 0) hx hb dX4_readClause_110 kc_i_0 ?_
        have bd_33 : Pn_24 ≤ kt := by omega
        have bd_34 : wr ≤ Pn_24 := by omega
        have hCu := kCut (wc := [(jR, .inr (4, [.ref jT, .ref r1, .ref r2, .int (nI (wr)), .int (nI (fi)), .int (nI (Pn_24)), .ref q6, .ref q7])), (r1, .inl (c1, 120, .inl s1)), (r2, .inl (c2, 124, .inl s2)), (jT, .inr (8, [.ref t0, .int (nI (kt))])), (t0, .inl (cC, 120, .inl gT))]) hP hD hS hA [0, 1, 2, 3, 4] rfl kc_nd_311 rfl
        have hPc := hCu.1
        have hDc := hCu.2.1
        have hFc := hCu.2.2
        have hKc := hK.sb (tys2 := [(c1, .int), (c2, .int), (cC, .char)]) [0, 1, 2] rfl
        refine va_calli (va_runV (As := [.int 0, .int 0]) (rest := []) ⟨hx, hb, hml, hown, hts⟩ (s_cond4x_0_0 l dC dI jT t0 cC gT kt hkt hgT bt hbt hb8 jR r1 r2 c1 c2 s1 s2 wr fi q6 q7 hwr hfi Pn_24 bd_33 bd_34 b6 n6 g6 hn6 b7 n7 g7 hn7 gn6 hz6 gn7 hz7 H_26.size) (cwV 2 hts (kG (List.forall_mem_cons.mpr ⟨(List.mem_cons_of_mem _ (List.mem_append_left _ (List.mem_of_getElem? (i := 49) rfl))), (List.forall_mem_cons.mpr ⟨(List.mem_cons_of_mem _ (List.mem_append_left _ (List.mem_of_getElem? (i := 48) rfl))), (List.forall_mem_cons.mpr ⟨(List.mem_cons_of_mem _ (List.mem_append_left _ (List.mem_of_getElem? (i := 47) rfl))), (List.forall_mem_cons.mpr ⟨(List.mem_cons_of_mem _ (List.mem_append_left _ (List.mem_of_getElem? (i := 0) rfl))), (fun _ h => absurd h List.not_mem_nil)⟩)⟩)⟩)⟩) (kGV _ _ _ _) (kFam (List.mem_cons_of_mem _ (List.mem_append_left _ (List.mem_of_getElem? (i := 46) rfl)))) gw_s_cond4x_0_0) rfl rfl rfl ⟨rfl, hd_X4_readCondition⟩ ⟨(Nat.le_of_ble_eq_true rfl), (Nat.le_of_ble_eq_true rfl)⟩) (kW_V kS2_blind (kS2_give hX hS hFc) (va_recv hKc hPc (ci := 4) (q0 := 0) rfl rfl) hPc hKc hDc) rfl rfl hl.1 rfl (lv_room (Nat.le_of_ble_eq_true rfl)) dX4_readClause_111 ⟨(Nat.le_of_ble_eq_true rfl), (Nat.le_of_ble_eq_true rfl)⟩) hS (fun q _ h => hFc q h) hFc (fun r_35 => kU5 (fun S1_36 Wr_37 Pn_38 xo_39 xl_40 t H_41 locs ht hvm hw hB hz1 hk1 hS => ?_))
        try dsimp only at hw
        have hPD : kPD dC dI A [(jR, .inr (4, [.ref jT, .ref r1, .ref r2, .int (nI (Wr_37)), .int (nI (fi)), .int (nI (Pn_38)), .ref q6, .ref q7])), (r1, .inl (c1, 120, .inl S1_36)), (r2, .inl (c2, 124, .inl s2)), (jT, .inr (8, [.ref t0, .int (nI (kt))])), (t0, .inl (cC, 120, .inl gT))] H_41 := kJoinX hP hD [0, 1, 2, 3, 4] rfl hk1 hFc hB.1 ht hB.2.2 rfl [some 0, some 1, some 2, some 3, some 4] rfl rfl
        have hP := hPD.1
        have hD := hPD.2
        have hw_42 := hw
        refine lv_if_ne (tgt := 119) hx hb dX4_readClause_114 kc_t_114_5 (fun c_43 => ?_) (fun c_43 => ?_)
        · obtain rfl : xo_39 = true := kBo_t (kNz9 hw_42.1 c_43)
          obtain ⟨hw_42_W, hw_42_S, hw_42_l, hw_42_p⟩ := hw_42.2.1.2.2 rfl
          have hw_42_k := hw_42.2.1.2.1
          refine lv_aload_n hx hb dX4_readClause_119 rfl (lv_at hl 3 rfl) ?_
          refine va_get (D := (dC, dI)) (ci := 4) (v := .int (nI (Wr_37))) (C := RX4) (T := TX4) (N := 8) hx hb hts (fun _ h => List.mem_cons_of_mem _ (List.mem_append_right _ (List.mem_append_right _ (List.mem_append_right _ (List.mem_append_left _ h))))) hown hK hP 0 rfl rfl 3 kc_l_3_8 (hts (.fieldLink RX4 18 "NotEnded$Reader" "written" "I") (List.mem_cons_of_mem _ (List.mem_append_left _ (List.mem_of_getElem? (i := 51) rfl)))) (fun _ h9 => h9) rfl dX4_readClause_120 ?_
          refine lv_istore hx hb dX4_readClause_123 hl kc_l_4_5 (kTo [(4, .int (nI (Wr_37))), (3, .int 1), (2, .int (nI (wr))), (1, .int (nI (j_9))), (0, .ref jR)]) (fun ls hl => ?_)
          refine lv_aload_n hx hb dX4_readClause_125 rfl (lv_at hl 4 rfl) ?_
          refine lv_bipush (v := 63) hx hb dX4_readClause_126 kc_b_63 ?_
          have bd_44 : Wr_37 ≤ 120 := by omega
          have bd_45 : Pn_38 ≤ kt := by omega
          have hCu := kCut (wc := [(jR, .inr (4, [.ref jT, .ref r1, .ref r2, .int (nI (Wr_37)), .int (nI (fi)), .int (nI (Pn_38)), .ref q6, .ref q7])), (r1, .inl (c1, 120, .inl S1_36)), (r2, .inl (c2, 124, .inl s2)), (jT, .inr (8, [.ref t0, .int (nI (kt))])), (t0, .inl (cC, 120, .inl gT))]) hP hD hS hA [0, 1, 2, 3, 4] rfl kc_nd_311 rfl
          have hPc := hCu.1
          have hDc := hCu.2.1
          have hFc := hCu.2.2
          have hKc := hK.sb (tys2 := [(c1, .int), (c2, .int), (cC, .char)]) [0, 1, 2] rfl
          refine va_calli (va_runV (As := [.int 63]) (rest := []) ⟨hx, hb, hml, hown, hts⟩ (s_take4_63 l dC dI jT t0 cC gT kt hkt hgT bt hbt hb8 jR r1 r2 c1 c2 S1_36 s2 Wr_37 fi q6 q7 bd_44 hfi Pn_38 bd_45 H_41.size) (cwV 1 hts (kG (List.forall_mem_cons.mpr ⟨(List.mem_cons_of_mem _ (List.mem_append_left _ (List.mem_of_getElem? (i := 45) rfl))), (List.forall_mem_cons.mpr ⟨(List.mem_cons_of_mem _ (List.mem_append_left _ (List.mem_of_getElem? (i := 44) rfl))), (List.forall_mem_cons.mpr ⟨(List.mem_cons_of_mem _ (List.mem_append_left _ (List.mem_of_getElem? (i := 43) rfl))), (List.forall_mem_cons.mpr ⟨(List.mem_cons_of_mem _ (List.mem_append_left _ (List.mem_of_getElem? (i := 0) rfl))), (fun _ h => absurd h List.not_mem_nil)⟩)⟩)⟩)⟩) (kGV _ _ _ _) (fun _ h => List.mem_cons_of_mem _ (List.mem_append_right _ (List.mem_append_right _ (List.mem_append_right _ (List.mem_append_right _ (List.mem_append_right _ (List.mem_append_right _ (List.mem_append_right _ (List.mem_append_right _ (List.mem_append_right _ (List.mem_append_right _ (List.mem_append_right _ (List.mem_append_right _ (List.mem_append_right _ (List.mem_append_left _ h))))))))))))))) gw_s_take4_63) rfl rfl rfl ⟨rfl, hd_X4_take⟩ ⟨(Nat.le_of_ble_eq_true rfl), (Nat.le_of_ble_eq_true rfl)⟩) (kW_V kT_blind kT_give (va_recv hKc hPc (ci := 4) (q0 := 0) rfl rfl) hPc hKc hDc) rfl rfl hl.1 rfl (lv_room (Nat.le_of_ble_eq_true rfl)) dX4_readClause_128 ⟨(Nat.le_of_ble_eq_true rfl), (Nat.le_of_ble_eq_true rfl)⟩) hS (fun q _ h => hFc q h) hFc (fun r_46 => kU2 (fun Pn_47 xo_48 t H_49 locs ht hvm hw hB hz1 hk1 hS => ?_))
          try dsimp only at hw
          have hPD : kPD dC dI A [(jR, .inr (4, [.ref jT, .ref r1, .ref r2, .int (nI (Wr_37)), .int (nI (fi)), .int (nI (Pn_47)), .ref q6, .ref q7])), (r1, .inl (c1, 120, .inl S1_36)), (r2, .inl (c2, 124, .inl s2)), (jT, .inr (8, [.ref t0, .int (nI (kt))])), (t0, .inl (cC, 120, .inl gT))] H_49 := kJoinX hP hD [0, 1, 2, 3, 4] rfl hk1 hFc hB.1 ht hB.2.2 rfl [some 0, some 1, some 2, some 3, some 4] rfl rfl
          have hP := hPD.1
          have hD := hPD.2
          have hw_50 := hw
          refine lv_if_eq (tgt := 157) hx hb dX4_readClause_131 kc_t_131_26 (fun c_51 => ?_) (fun c_51 => ?_)
          · obtain rfl : xo_48 = false := kBo_f (kZr9 hw_50.1 c_51)
            have hw_50_k := hw_50.2.2.2.1
            refine lv_iconst (v := 0) hx hb dX4_readClause_157 kc_i_0 ?_
            have hP9 := hP
            have hD9 := hD
            have hK9 := hK
            rw [hQ]
            exact W.zret (v := 0) hx hb hr rfl (fun t ht hW => ⟨⟨0, (S1_36, s2, Wr_37, fi, Pn_47, false, ([]), 0, 0), rfl, ⟨rfl, (by unfold kCla; rw [← hw_5_0, ← hw_5_1]; rw [hj_10, if_pos (by omega), hw_20.2.1, kThC_t]; unfold kCla1; rw [← hw_27_0, ← hw_27_1, if_pos (by omega), hw_42.2.1.1, kThC_t]; unfold kCla2; rw [hw_50.2.1]; rfl), by omega, by omega, by omega, fun z => absurd z (by decide)⟩,  by rw [ht]; exact hP9, va_K.moved hW.alike hK9, hD9⟩, hS.F ht⟩) hS.2.2 dX4_readClause_158
          · obtain rfl : xo_48 = true := kBo_t (kNz9 hw_50.1 c_51)
            have hw_50_p := hw_50.2.2.2.2 rfl
            have hw_50_k := hw_50.2.2.2.1
            refine lv_aload_n hx hb dX4_readClause_134 rfl (lv_at hl 4 rfl) ?_
            refine lv_iconst (v := 0) hx hb dX4_readClause_135 kc_i_0 ?_
            have bd_52 : Pn_47 ≤ kt := by omega
            have bd_53 : Wr_37 ≤ Pn_47 := by omega
            have hCu := kCut (wc := [(jR, .inr (4, [.ref jT, .ref r1, .ref r2, .int (nI (Wr_37)), .int (nI (fi)), .int (nI (Pn_47)), .ref q6, .ref q7])), (r1, .inl (c1, 120, .inl S1_36)), (r2, .inl (c2, 124, .inl s2)), (jT, .inr (8, [.ref t0, .int (nI (kt))])), (t0, .inl (cC, 120, .inl gT))]) hP hD hS hA [0, 1, 2, 3, 4] rfl kc_nd_311 rfl
            have hPc := hCu.1
            have hDc := hCu.2.1
            have hFc := hCu.2.2
            have hKc := hK.sb (tys2 := [(c1, .int), (c2, .int), (cC, .char)]) [0, 1, 2] rfl
            refine va_calli (va_runV (As := [.int 0]) (rest := []) ⟨hx, hb, hml, hown, hts⟩ (s_sum4x_0 l dC dI jT t0 cC gT kt hkt hgT bt hbt hb8 jR r1 r2 c1 c2 S1_36 s2 Wr_37 fi q6 q7 bd_44 hfi Pn_47 bd_52 bd_53 b6 n6 g6 hn6 b7 n7 g7 hn7 gn6 hz6 gn7 hz7 H_49.size) (cwV 1 hts (kG (List.forall_mem_cons.mpr ⟨(List.mem_cons_of_mem _ (List.mem_append_left _ (List.mem_of_getElem? (i := 32) rfl))), (List.forall_mem_cons.mpr ⟨(List.mem_cons_of_mem _ (List.mem_append_left _ (List.mem_of_getElem? (i := 31) rfl))), (List.forall_mem_cons.mpr ⟨(List.mem_cons_of_mem _ (List.mem_append_left _ (List.mem_of_getElem? (i := 30) rfl))), (List.forall_mem_cons.mpr ⟨(List.mem_cons_of_mem _ (List.mem_append_left _ (List.mem_of_getElem? (i := 0) rfl))), (fun _ h => absurd h List.not_mem_nil)⟩)⟩)⟩)⟩) (kGV _ _ _ _) (kFam (List.mem_cons_of_mem _ (List.mem_append_left _ (List.mem_of_getElem? (i := 29) rfl)))) gw_s_sum4x_0) rfl rfl rfl ⟨rfl, hd_X4_readSum⟩ ⟨(Nat.le_of_ble_eq_true rfl), (Nat.le_of_ble_eq_true rfl)⟩) (kW_V kS2_blind (kS2_give hX hS hFc) (va_recv hKc hPc (ci := 4) (q0 := 0) rfl rfl) hPc hKc hDc) rfl rfl hl.1 rfl (lv_room (Nat.le_of_ble_eq_true rfl)) dX4_readClause_136 ⟨(Nat.le_of_ble_eq_true rfl), (Nat.le_of_ble_eq_true rfl)⟩) hS (fun q _ h => hFc q h) hFc (fun r_54 => kU5 (fun S1_55 Wr_56 Pn_57 xo_58 xl_59 t H_60 locs ht hvm hw hB hz1 hk1 hS => ?_))
            try dsimp only at hw
            have hPD : kPD dC dI A [(jR, .inr (4, [.ref jT, .ref r1, .ref r2, .int (nI (Wr_56)), .int (nI (fi)), .int (nI (Pn_57)), .ref q6, .ref q7])), (r1, .inl (c1, 120, .inl S1_55)), (r2, .inl (c2, 124, .inl s2)), (jT, .inr (8, [.ref t0, .int (nI (kt))])), (t0, .inl (cC, 120, .inl gT))] H_60 := kJoinX hP hD [0, 1, 2, 3, 4] rfl hk1 hFc hB.1 ht hB.2.2 rfl [some 0, some 1, some 2, some 3, some 4] rfl rfl
            have hP := hPD.1
            have hD := hPD.2
            have hw_61 := hw
            refine lv_if_eq (tgt := 157) hx hb dX4_readClause_139 kc_t_139_18 (fun c_62 => ?_) (fun c_62 => ?_)
            · obtain rfl : xo_58 = false := kBo_f (kZr9 hw_61.1 c_62)
              have hw_61_k := hw_61.2.1.2.1
              refine lv_iconst (v := 0) hx hb dX4_readClause_157 kc_i_0 ?_
              have hP9 := hP
              have hD9 := hD
              have hK9 := hK
              rw [hQ]
              exact W.zret (v := 0) hx hb hr rfl (fun t ht hW => ⟨⟨0, (S1_55, s2, Wr_56, fi, Pn_57, false, ([]), 0, 0), rfl, ⟨rfl, (by unfold kCla; rw [← hw_5_0, ← hw_5_1]; rw [hj_10, if_pos (by omega), hw_20.2.1, kThC_t]; unfold kCla1; rw [← hw_27_0, ← hw_27_1, if_pos (by omega), hw_42.2.1.1, kThC_t]; unfold kCla2; rw [hw_50.2.1, kThC_t, hw_61.2.1.1]; rfl), by omega, by omega, by omega, fun z => absurd z (by decide)⟩,  by rw [ht]; exact hP9, va_K.moved hW.alike hK9, hD9⟩, hS.F ht⟩) hS.2.2 dX4_readClause_158
            · obtain rfl : xo_58 = true := kBo_t (kNz9 hw_61.1 c_62)
              obtain ⟨hw_61_W, hw_61_S, hw_61_l, hw_61_p⟩ := hw_61.2.1.2.2 rfl
              have hw_61_k := hw_61.2.1.2.1
              refine lv_aload_n hx hb dX4_readClause_142 rfl (lv_at hl 4 rfl) ?_
              refine lv_iload_n hx hb dX4_readClause_143 rfl (lv_at hl 3 rfl) ?_
              refine lv_iload_n hx hb dX4_readClause_144 rfl (lv_at hl 2 rfl) ?_
              refine lv_iload hx hb dX4_readClause_145 (lv_at hl 0 rfl) ?_
              have bd_63 : Wr_56 ≤ 120 := by omega
              have bd_64 : Pn_57 ≤ kt := by omega
              have hCu := kCut (wc := [(jR, .inr (4, [.ref jT, .ref r1, .ref r2, .int (nI (Wr_56)), .int (nI (fi)), .int (nI (Pn_57)), .ref q6, .ref q7])), (r1, .inl (c1, 120, .inl S1_55)), (r2, .inl (c2, 124, .inl s2)), (jT, .inr (8, [.ref t0, .int (nI (kt))])), (t0, .inl (cC, 120, .inl gT))]) hP hD hS hA [0, 1, 2, 3, 4] rfl kc_nd_311 rfl
              have hPc := hCu.1
              have hDc := hCu.2.1
              have hFc := hCu.2.2
              have hKc := hK.sb (tys2 := [(c1, .int), (c2, .int), (cC, .char)]) [0, 1, 2] rfl
              refine va_calli (va_runV (As := [.int (nI (j_9)), .int (nI (wr)), .int (nI (Wr_37))]) (rest := []) ⟨hx, hb, hml, hown, hts⟩ (s_keep4x l dC dI jT t0 cC gT kt hkt hgT bt hbt hb8 jR r1 r2 c1 c2 S1_55 s2 Wr_56 fi q6 q7 bd_63 hfi Pn_57 bd_64 j_9 wr Wr_37 hf9 H_60.size) (cwV 3 hts (kG (List.forall_mem_cons.mpr ⟨(List.mem_cons_of_mem _ (List.mem_append_left _ (List.mem_of_getElem? (i := 54) rfl))), (List.forall_mem_cons.mpr ⟨(List.mem_cons_of_mem _ (List.mem_append_left _ (List.mem_of_getElem? (i := 53) rfl))), (List.forall_mem_cons.mpr ⟨(List.mem_cons_of_mem _ (List.mem_append_left _ (List.mem_of_getElem? (i := 52) rfl))), (List.forall_mem_cons.mpr ⟨(List.mem_cons_of_mem _ (List.mem_append_left _ (List.mem_of_getElem? (i := 0) rfl))), (fun _ h => absurd h List.not_mem_nil)⟩)⟩)⟩)⟩) (kGV _ _ _ _) (fun _ h => List.mem_cons_of_mem _ (List.mem_append_right _ (List.mem_append_right _ (List.mem_append_right _ (List.mem_append_right _ (List.mem_append_right _ (List.mem_append_right _ (List.mem_append_right _ (List.mem_append_right _ (List.mem_append_right _ (List.mem_append_right _ (List.mem_append_right _ (List.mem_append_right _ (List.mem_append_right _ (List.mem_append_right _ h))))))))))))))) gw_s_keep4x) rfl rfl rfl ⟨rfl, hd_X4_keepClause⟩ ⟨(Nat.le_of_ble_eq_true rfl), (Nat.le_of_ble_eq_true rfl)⟩) (kW_V kT_blind kT_give (va_recv hKc hPc (ci := 4) (q0 := 0) rfl rfl) hPc hKc hDc) rfl rfl hl.1 rfl (lv_room (Nat.le_of_ble_eq_true rfl)) dX4_readClause_147 ⟨(Nat.le_of_ble_eq_true rfl), (Nat.le_of_ble_eq_true rfl)⟩) hS (fun q _ h => hFc q h) hFc (fun r_65 => kU2 (fun S2_66 Fi_67 t H_68 locs ht hvm hw hB hz1 hk1 hS => ?_))
              try dsimp only at hw
              have hPD : kPD dC dI A [(jR, .inr (4, [.ref jT, .ref r1, .ref r2, .int (nI (Wr_56)), .int (nI (Fi_67)), .int (nI (Pn_57)), .ref q6, .ref q7])), (r1, .inl (c1, 120, .inl S1_55)), (r2, .inl (c2, 124, .inl S2_66)), (jT, .inr (8, [.ref t0, .int (nI (kt))])), (t0, .inl (cC, 120, .inl gT))] H_68 := kJoinX hP hD [0, 1, 2, 3, 4] rfl hk1 hFc hB.1 ht hB.2.2 rfl [some 0, some 1, some 2, some 3, some 4] rfl rfl
              have hP := hPD.1
              have hD := hPD.2
              obtain ⟨rfl, hw_69⟩ := hw
              refine lv_if_eq (tgt := 157) hx hb dX4_readClause_150 kc_t_150_7 (fun c_70 => absurd c_70 (by decide)) (fun c_70 => ?_)
              refine lv_iconst (v := 1) hx hb dX4_readClause_153 kc_i_1 ?_
              refine lv_goto (tgt := 158) hx hb dX4_readClause_154 kc_t_154_4 ?_
              have hP9 := hP
              have hD9 := hD
              have hK9 := hK
              rw [hQ]
              exact W.zret (v := 1) hx hb hr rfl (fun t ht hW => ⟨⟨1, (S1_55, S2_66, Wr_56, Fi_67, Pn_57, true, (xl_40 ++ xl_59), j_9, ((xl_40).length)), rfl, ⟨rfl, (by unfold kCla; rw [← hw_5_0, ← hw_5_1]; rw [hj_10, if_pos (by omega), hw_20.2.1, kThC_t]; unfold kCla1; rw [← hw_27_0, ← hw_27_1, if_pos (by omega), hw_42.2.1.1, kThC_t]; unfold kCla2; rw [hw_50.2.1, kThC_t, hw_61.2.1.1, kThC_t]), by omega, by omega, by omega, fun _ => ⟨(by first | omega | (simp only [List.length_append]; omega)), (kWrtC hw_42_S hw_42_W hw_61_S), hw_69.1, kKeep hw_69.2 (by first | omega | (simp only [List.length_append]; omega)) (by first | omega | (simp only [List.length_append]; omega)), (by first | omega | (simp only [List.length_append]; omega)), by omega⟩⟩,  by rw [ht]; exact hP9, va_K.moved hW.alike hK9, hD9⟩, hS.F ht⟩) hS.2.2 dX4_readClause_158
        · obtain rfl : xo_39 = false := kBo_f (kZr9 hw_42.1 c_43)
          have hw_42_k := hw_42.2.1.2.1
          refine lv_iconst (v := 0) hx hb dX4_readClause_117 kc_i_0 ?_
          have hP9 := hP
          have hD9 := hD
          have hK9 := hK
          rw [hQ]
          exact W.zret (v := 0) hx hb hr rfl (fun t ht hW => ⟨⟨0, (S1_36, s2, Wr_37, fi, Pn_38, false, ([]), 0, 0), rfl, ⟨rfl, (by unfold kCla; rw [← hw_5_0, ← hw_5_1]; rw [hj_10, if_pos (by omega), hw_20.2.1, kThC_t]; unfold kCla1; rw [← hw_27_0, ← hw_27_1, if_pos (by omega), hw_42.2.1.1]; rfl), by omega, by omega, by omega, fun z => absurd z (by decide)⟩,  by rw [ht]; exact hP9, va_K.moved hW.alike hK9, hD9⟩, hS.F ht⟩) hS.2.2 dX4_readClause_118
      · have bd_72 : ch_25 < 2147483648 := by omega
        have hn_71 := kneq (a := ch_25) (b := 33) bd_72 kc_31_33 c_28
        refine lv_aload_n hx hb dX4_readClause_53 rfl (lv_at hl 2 rfl) ?_
        have bd_73 : Pn_24 ≤ kt := by omega
        have hCu := kCut (wc := [(jR, .inr (4, [.ref jT, .ref r1, .ref r2, .int (nI (wr)), .int (nI (fi)), .int (nI (Pn_24)), .ref q6, .ref q7])), (r1, .inl (c1, 120, .inl s1)), (r2, .inl (c2, 124, .inl s2)), (jT, .inr (8, [.ref t0, .int (nI (kt))])), (t0, .inl (cC, 120, .inl gT))]) hP hD hS hA [0, 1, 2, 3, 4] rfl kc_nd_311 rfl
        have hPc := hCu.1
        have hDc := hCu.2.1
        have hFc := hCu.2.2
        have hKc := hK.sb (tys2 := [(c1, .int), (c2, .int), (cC, .char)]) [0, 1, 2] rfl
        refine va_calli (va_runV (As := []) (rest := []) ⟨hx, hb, hml, hown, hts⟩ (s_look4x l dC dI jT t0 cC gT kt hkt hgT bt hbt hb8 jR r1 r2 c1 c2 s1 s2 wr fi q6 q7 hwr hfi Pn_24 bd_73 H_26.size) (cwV 0 hts (kG (List.forall_mem_cons.mpr ⟨(List.mem_cons_of_mem _ (List.mem_append_left _ (List.mem_of_getElem? (i := 3) rfl))), (List.forall_mem_cons.mpr ⟨(List.mem_cons_of_mem _ (List.mem_append_left _ (List.mem_of_getElem? (i := 2) rfl))), (List.forall_mem_cons.mpr ⟨(List.mem_cons_of_mem _ (List.mem_append_left _ (List.mem_of_getElem? (i := 1) rfl))), (List.forall_mem_cons.mpr ⟨(List.mem_cons_of_mem _ (List.mem_append_left _ (List.mem_of_getElem? (i := 0) rfl))), (fun _ h => absurd h List.not_mem_nil)⟩)⟩)⟩)⟩) (kGV _ _ _ _) (fun _ h => List.mem_cons_of_mem _ (List.mem_append_right _ (List.mem_append_left _ h))) gw_s_look4x) rfl rfl rfl ⟨rfl, hd_X4_look⟩ ⟨(Nat.le_of_ble_eq_true rfl), (Nat.le_of_ble_eq_true rfl)⟩) (kW_V kT_blind kT_give (va_recv hKc hPc (ci := 4) (q0 := 0) rfl rfl) hPc hKc hDc) rfl rfl hl.1 rfl (lv_room (Nat.le_of_ble_eq_true rfl)) dX4_readClause_54 ⟨(Nat.le_of_ble_eq_true rfl), (Nat.le_of_ble_eq_true rfl)⟩) hS (fun q _ h => hFc q h) hFc (fun r_74 => kU2 (fun Pn_75 ch_76 t H_77 locs ht hvm hw hB hz1 hk1 hS => ?_))
        try dsimp only at hw
        have hPD : kPD dC dI A [(jR, .inr (4, [.ref jT, .ref r1, .ref r2, .int (nI (wr)), .int (nI (fi)), .int (nI (Pn_75)), .ref q6, .ref q7])), (r1, .inl (c1, 120, .inl s1)), (r2, .inl (c2, 124, .inl s2)), (jT, .inr (8, [.ref t0, .int (nI (kt))])), (t0, .inl (cC, 120, .inl gT))] H_77 := kJoinX hP hD [0, 1, 2, 3, 4] rfl hk1 hFc hB.1 ht hB.2.2 rfl [some 0, some 1, some 2, some 3, some 4] rfl rfl
        have hP := hPD.1
        have hD := hPD.2
        obtain ⟨rfl, hw_78_0, hw_78_1, hw_78_2, hw_78_3, hw_78_4, hw_78_5, hw_78_6⟩ := hw
        have e9 : Pn_24 = Pn_75 := by rw [hw_78_1, hw_27_1]; exact (kSp_sp (by omega)).symm
        have e8 : ch_25 = ch_76 := by rw [hw_78_0, hw_27_0, hw_27_1]; exact (kLk_sp (by omega)).symm
        subst e9
        subst e8
        refine lv_bipush (v := 40) hx hb dX4_readClause_57 kc_b_40 ?_
        refine lv_icmp_ne (tgt := 66) hx hb dX4_readClause_59 kc_t_59_7 (fun c_79 => ?_) (fun c_79 => ?_)
        · have hn_80 := kneq (a := ch_25) (b := 40) bd_72 kc_31_40 c_79
          refine lv_iconst (v := 0) hx hb dX4_readClause_66 kc_i_0 ?_
          refine lv_istore_n hx hb dX4_readClause_67 rfl hl kc_l_3_5 (kTo [(3, .int 0), (2, .int (nI (wr))), (1, .int (nI (j_9))), (0, .ref jR)]) (fun ls hl => ?_)
          refine lv_iload_n hx hb dX4_readClause_68 rfl (lv_at hl 0 rfl) ?_
          refine lv_if_ne (tgt := 100) hx hb dX4_readClause_69 kc_t_69_31 (fun c_81 => absurd (by decide) c_81) (fun c_81 => ?_)
          refine lv_aload_n hx hb dX4_readClause_72 rfl (lv_at hl 3 rfl) ?_
          refine lv_iconst (v := 0) hx hb dX4_readClause_73 kc_i_0 ?_
          have bd_82 : wr ≤ Pn_24 := by omega
          have hCu := kCut (wc := [(jR, .inr (4, [.ref jT, .ref r1, .ref r2, .int (nI (wr)), .int (nI (fi)), .int (nI (Pn_24)), .ref q6, .ref q7])), (r1, .inl (c1, 120, .inl s1)), (r2, .inl (c2, 124, .inl s2)), (jT, .inr (8, [.ref t0, .int (nI (kt))])), (t0, .inl (cC, 120, .inl gT))]) hP hD hS hA [0, 1, 2, 3, 4] rfl kc_nd_311 rfl
          have hPc := hCu.1
          have hDc := hCu.2.1
          have hFc := hCu.2.2
          have hKc := hK.sb (tys2 := [(c1, .int), (c2, .int), (cC, .char)]) [0, 1, 2] rfl
          refine va_calli (va_runV (As := [.int 0]) (rest := []) ⟨hx, hb, hml, hown, hts⟩ (s_sum4x_0 l dC dI jT t0 cC gT kt hkt hgT bt hbt hb8 jR r1 r2 c1 c2 s1 s2 wr fi q6 q7 hwr hfi Pn_24 bd_73 bd_82 b6 n6 g6 hn6 b7 n7 g7 hn7 gn6 hz6 gn7 hz7 H_77.size) (cwV 1 hts (kG (List.forall_mem_cons.mpr ⟨(List.mem_cons_of_mem _ (List.mem_append_left _ (List.mem_of_getElem? (i := 32) rfl))), (List.forall_mem_cons.mpr ⟨(List.mem_cons_of_mem _ (List.mem_append_left _ (List.mem_of_getElem? (i := 31) rfl))), (List.forall_mem_cons.mpr ⟨(List.mem_cons_of_mem _ (List.mem_append_left _ (List.mem_of_getElem? (i := 30) rfl))), (List.forall_mem_cons.mpr ⟨(List.mem_cons_of_mem _ (List.mem_append_left _ (List.mem_of_getElem? (i := 0) rfl))), (fun _ h => absurd h List.not_mem_nil)⟩)⟩)⟩)⟩) (kGV _ _ _ _) (kFam (List.mem_cons_of_mem _ (List.mem_append_left _ (List.mem_of_getElem? (i := 29) rfl)))) gw_s_sum4x_0) rfl rfl rfl ⟨rfl, hd_X4_readSum⟩ ⟨(Nat.le_of_ble_eq_true rfl), (Nat.le_of_ble_eq_true rfl)⟩) (kW_V kS2_blind (kS2_give hX hS hFc) (va_recv hKc hPc (ci := 4) (q0 := 0) rfl rfl) hPc hKc hDc) rfl rfl hl.1 rfl (lv_room (Nat.le_of_ble_eq_true rfl)) dX4_readClause_74 ⟨(Nat.le_of_ble_eq_true rfl), (Nat.le_of_ble_eq_true rfl)⟩) hS (fun q _ h => hFc q h) hFc (fun r_83 => kU5 (fun S1_84 Wr_85 Pn_86 xo_87 xl_88 t H_89 locs ht hvm hw hB hz1 hk1 hS => ?_))
          try dsimp only at hw
          have hPD : kPD dC dI A [(jR, .inr (4, [.ref jT, .ref r1, .ref r2, .int (nI (Wr_85)), .int (nI (fi)), .int (nI (Pn_86)), .ref q6, .ref q7])), (r1, .inl (c1, 120, .inl S1_84)), (r2, .inl (c2, 124, .inl s2)), (jT, .inr (8, [.ref t0, .int (nI (kt))])), (t0, .inl (cC, 120, .inl gT))] H_89 := kJoinX hP hD [0, 1, 2, 3, 4] rfl hk1 hFc hB.1 ht hB.2.2 rfl [some 0, some 1, some 2, some 3, some 4] rfl rfl
          have hP := hPD.1
          have hD := hPD.2
          have hw_90 := hw
          refine lv_if_ne (tgt := 82) hx hb dX4_readClause_77 kc_t_77_5 (fun c_91 => ?_) (fun c_91 => ?_)
          · obtain rfl : xo_87 = true := kBo_t (kNz9 hw_90.1 c_91)
            obtain ⟨hw_90_W, hw_90_S, hw_90_l, hw_90_p⟩ := hw_90.2.1.2.2 rfl
            have hw_90_k := hw_90.2.1.2.1
            refine lv_aload_n hx hb dX4_readClause_82 rfl (lv_at hl 3 rfl) ?_
            have bd_92 : Wr_85 ≤ 120 := by omega
            have bd_93 : Pn_86 ≤ kt := by omega
            have hCu := kCut (wc := [(jR, .inr (4, [.ref jT, .ref r1, .ref r2, .int (nI (Wr_85)), .int (nI (fi)), .int (nI (Pn_86)), .ref q6, .ref q7])), (r1, .inl (c1, 120, .inl S1_84)), (r2, .inl (c2, 124, .inl s2)), (jT, .inr (8, [.ref t0, .int (nI (kt))])), (t0, .inl (cC, 120, .inl gT))]) hP hD hS hA [0, 1, 2, 3, 4] rfl kc_nd_311 rfl
            have hPc := hCu.1
            have hDc := hCu.2.1
            have hFc := hCu.2.2
            have hKc := hK.sb (tys2 := [(c1, .int), (c2, .int), (cC, .char)]) [0, 1, 2] rfl
            refine va_calli (va_runV (As := []) (rest := []) ⟨hx, hb, hml, hown, hts⟩ (s_look4x l dC dI jT t0 cC gT kt hkt hgT bt hbt hb8 jR r1 r2 c1 c2 S1_84 s2 Wr_85 fi q6 q7 bd_92 hfi Pn_86 bd_93 H_89.size) (cwV 0 hts (kG (List.forall_mem_cons.mpr ⟨(List.mem_cons_of_mem _ (List.mem_append_left _ (List.mem_of_getElem? (i := 3) rfl))), (List.forall_mem_cons.mpr ⟨(List.mem_cons_of_mem _ (List.mem_append_left _ (List.mem_of_getElem? (i := 2) rfl))), (List.forall_mem_cons.mpr ⟨(List.mem_cons_of_mem _ (List.mem_append_left _ (List.mem_of_getElem? (i := 1) rfl))), (List.forall_mem_cons.mpr ⟨(List.mem_cons_of_mem _ (List.mem_append_left _ (List.mem_of_getElem? (i := 0) rfl))), (fun _ h => absurd h List.not_mem_nil)⟩)⟩)⟩)⟩) (kGV _ _ _ _) (fun _ h => List.mem_cons_of_mem _ (List.mem_append_right _ (List.mem_append_left _ h))) gw_s_look4x) rfl rfl rfl ⟨rfl, hd_X4_look⟩ ⟨(Nat.le_of_ble_eq_true rfl), (Nat.le_of_ble_eq_true rfl)⟩) (kW_V kT_blind kT_give (va_recv hKc hPc (ci := 4) (q0 := 0) rfl rfl) hPc hKc hDc) rfl rfl hl.1 rfl (lv_room (Nat.le_of_ble_eq_true rfl)) dX4_readClause_83 ⟨(Nat.le_of_ble_eq_true rfl), (Nat.le_of_ble_eq_true rfl)⟩) hS (fun q _ h => hFc q h) hFc (fun r_94 => kU2 (fun Pn_95 ch_96 t H_97 locs ht hvm hw hB hz1 hk1 hS => ?_))
            try dsimp only at hw
            have hPD : kPD dC dI A [(jR, .inr (4, [.ref jT, .ref r1, .ref r2, .int (nI (Wr_85)), .int (nI (fi)), .int (nI (Pn_95)), .ref q6, .ref q7])), (r1, .inl (c1, 120, .inl S1_84)), (r2, .inl (c2, 124, .inl s2)), (jT, .inr (8, [.ref t0, .int (nI (kt))])), (t0, .inl (cC, 120, .inl gT))] H_97 := kJoinX hP hD [0, 1, 2, 3, 4] rfl hk1 hFc hB.1 ht hB.2.2 rfl [some 0, some 1, some 2, some 3, some 4] rfl rfl
            have hP := hPD.1
            have hD := hPD.2
            obtain ⟨rfl, hw_98_0, hw_98_1, hw_98_2, hw_98_3, hw_98_4, hw_98_5, hw_98_6⟩ := hw
            have bd_99 : ch_96 < 256 := by omega
            have hPc := hP.sb (ws2 := []) [] rfl
            have hKc := hK.sb (tys2 := []) [] rfl
            refine vp_callSi (va_runS (As := [.int (nI (ch_96))]) (rest := []) ⟨hx, hb, hml, hown, hts⟩ (s_comp4x l dC dI ch_96 bd_99) (va_cwS 1 hts (kG (List.forall_mem_cons.mpr ⟨(List.mem_cons_of_mem _ (List.mem_append_left _ (List.mem_of_getElem? (i := 34) rfl))), (List.forall_mem_cons.mpr ⟨(List.mem_cons_of_mem _ (List.mem_append_left _ (List.mem_of_getElem? (i := 33) rfl))), (List.forall_mem_cons.mpr ⟨(List.mem_cons_of_mem _ (List.mem_append_left _ (List.mem_of_getElem? (i := 0) rfl))), (fun _ h => absurd h List.not_mem_nil)⟩)⟩)⟩) (kGS _ _ _) (fun _ h => List.mem_cons_of_mem _ (List.mem_append_right _ (List.mem_append_right _ (List.mem_append_right _ (List.mem_append_right _ (List.mem_append_right _ (List.mem_append_right _ (List.mem_append_right _ (List.mem_append_right _ (List.mem_append_left _ h)))))))))) gw_s_comp4x) rfl rfl rfl hd_X4_isComparison ⟨(Nat.le_of_ble_eq_true rfl), (Nat.le_of_ble_eq_true rfl)⟩) (kR_S kT_blind kT_give hPc hKc) rfl rfl hl.1 rfl (lv_room (Nat.le_of_ble_eq_true rfl)) dX4_readClause_86 ⟨(Nat.le_of_ble_eq_true rfl), (Nat.le_of_ble_eq_true rfl)⟩).run (fun r_100 hw => ?_)
            have hw_101 := hw
            refine lv_if_ne (tgt := 100) hx hb dX4_readClause_89 kc_t_89_11 (fun c_102 => ?_) (fun c_102 => ?_)
            · have hcp := hw_101.mp c_102
              refine lv_aload_n hx hb dX4_readClause_100 rfl (lv_at hl 3 rfl) ?_
              refine lv_iconst (v := 0) hx hb dX4_readClause_101 kc_i_0 ?_
              refine lv_iload_n hx hb dX4_readClause_102 rfl (lv_at hl 0 rfl) ?_
              refine lv_if_ne (tgt := 110) hx hb dX4_readClause_103 kc_t_103_7 (fun c_103 => absurd (by decide) c_103) (fun c_103 => ?_)
              refine lv_iconst (v := 1) hx hb dX4_readClause_106 kc_i_1 ?_
              refine lv_goto (tgt := 111) hx hb dX4_readClause_107 kc_t_107_4 ?_
              have bd_104 : Pn_95 ≤ kt := by omega
              have bd_105 : Wr_85 ≤ Pn_95 := by omega
              have hCu := kCut (wc := [(jR, .inr (4, [.ref jT, .ref r1, .ref r2, .int (nI (Wr_85)), .int (nI (fi)), .int (nI (Pn_95)), .ref q6, .ref q7])), (r1, .inl (c1, 120, .inl S1_84)), (r2, .inl (c2, 124, .inl s2)), (jT, .inr (8, [.ref t0, .int (nI (kt))])), (t0, .inl (cC, 120, .inl gT))]) hP hD hS hA [0, 1, 2, 3, 4] rfl kc_nd_311 rfl
              have hPc := hCu.1
              have hDc := hCu.2.1
              have hFc := hCu.2.2
              have hKc := hK.sb (tys2 := [(c1, .int), (c2, .int), (cC, .char)]) [0, 1, 2] rfl
              refine va_calli (va_runV (As := [.int 0, .int 1]) (rest := []) ⟨hx, hb, hml, hown, hts⟩ (s_cond4x_0_1 l dC dI jT t0 cC gT kt hkt hgT bt hbt hb8 jR r1 r2 c1 c2 S1_84 s2 Wr_85 fi q6 q7 bd_92 hfi Pn_95 bd_104 bd_105 b6 n6 g6 hn6 b7 n7 g7 hn7 gn6 hz6 gn7 hz7 H_97.size) (cwV 2 hts (kG (List.forall_mem_cons.mpr ⟨(List.mem_cons_of_mem _ (List.mem_append_left _ (List.mem_of_getElem? (i := 49) rfl))), (List.forall_mem_cons.mpr ⟨(List.mem_cons_of_mem _ (List.mem_append_left _ (List.mem_of_getElem? (i := 48) rfl))), (List.forall_mem_cons.mpr ⟨(List.mem_cons_of_mem _ (List.mem_append_left _ (List.mem_of_getElem? (i := 47) rfl))), (List.forall_mem_cons.mpr ⟨(List.mem_cons_of_mem _ (List.mem_append_left _ (List.mem_of_getElem? (i := 0) rfl))), (fun _ h => absurd h List.not_mem_nil)⟩)⟩)⟩)⟩) (kGV _ _ _ _) (kFam (List.mem_cons_of_mem _ (List.mem_append_left _ (List.mem_of_getElem? (i := 46) rfl)))) gw_s_cond4x_0_1) rfl rfl rfl ⟨rfl, hd_X4_readCondition⟩ ⟨(Nat.le_of_ble_eq_true rfl), (Nat.le_of_ble_eq_true rfl)⟩) (kW_V kS2_blind (kS2_give hX hS hFc) (va_recv hKc hPc (ci := 4) (q0 := 0) rfl rfl) hPc hKc hDc) rfl rfl hl.1 rfl (lv_room (Nat.le_of_ble_eq_true rfl)) dX4_readClause_111 ⟨(Nat.le_of_ble_eq_true rfl), (Nat.le_of_ble_eq_true rfl)⟩) hS (fun q _ h => hFc q h) hFc (fun r_106 => kU5 (fun S1_107 Wr_108 Pn_109 xo_110 xl_111 t H_112 locs ht hvm hw hB hz1 hk1 hS => ?_))
              try dsimp only at hw
              have hPD : kPD dC dI A [(jR, .inr (4, [.ref jT, .ref r1, .ref r2, .int (nI (Wr_108)), .int (nI (fi)), .int (nI (Pn_109)), .ref q6, .ref q7])), (r1, .inl (c1, 120, .inl S1_107)), (r2, .inl (c2, 124, .inl s2)), (jT, .inr (8, [.ref t0, .int (nI (kt))])), (t0, .inl (cC, 120, .inl gT))] H_112 := kJoinX hP hD [0, 1, 2, 3, 4] rfl hk1 hFc hB.1 ht hB.2.2 rfl [some 0, some 1, some 2, some 3, some 4] rfl rfl
              have hP := hPD.1
              have hD := hPD.2
              have hw_113 := hw
              refine lv_if_ne (tgt := 119) hx hb dX4_readClause_114 kc_t_114_5 (fun c_114 => ?_) (fun c_114 => ?_)
              · obtain rfl : xo_110 = true := kBo_t (kNz9 hw_113.1 c_114)
                obtain ⟨hw_113_W, hw_113_S, hw_113_l, hw_113_p⟩ := hw_113.2.1.2.2 rfl
                have hw_113_k := hw_113.2.1.2.1
                refine lv_aload_n hx hb dX4_readClause_119 rfl (lv_at hl 3 rfl) ?_
                refine va_get (D := (dC, dI)) (ci := 4) (v := .int (nI (Wr_108))) (C := RX4) (T := TX4) (N := 8) hx hb hts (fun _ h => List.mem_cons_of_mem _ (List.mem_append_right _ (List.mem_append_right _ (List.mem_append_right _ (List.mem_append_left _ h))))) hown hK hP 0 rfl rfl 3 kc_l_3_8 (hts (.fieldLink RX4 18 "NotEnded$Reader" "written" "I") (List.mem_cons_of_mem _ (List.mem_append_left _ (List.mem_of_getElem? (i := 51) rfl)))) (fun _ h9 => h9) rfl dX4_readClause_120 ?_
                refine lv_istore hx hb dX4_readClause_123 hl kc_l_4_5 (kTo [(4, .int (nI (Wr_108))), (3, .int 0), (2, .int (nI (wr))), (1, .int (nI (j_9))), (0, .ref jR)]) (fun ls hl => ?_)
                refine lv_aload_n hx hb dX4_readClause_125 rfl (lv_at hl 4 rfl) ?_
                refine lv_bipush (v := 63) hx hb dX4_readClause_126 kc_b_63 ?_
                have bd_115 : Wr_108 ≤ 120 := by omega
                have bd_116 : Pn_109 ≤ kt := by omega
                have hCu := kCut (wc := [(jR, .inr (4, [.ref jT, .ref r1, .ref r2, .int (nI (Wr_108)), .int (nI (fi)), .int (nI (Pn_109)), .ref q6, .ref q7])), (r1, .inl (c1, 120, .inl S1_107)), (r2, .inl (c2, 124, .inl s2)), (jT, .inr (8, [.ref t0, .int (nI (kt))])), (t0, .inl (cC, 120, .inl gT))]) hP hD hS hA [0, 1, 2, 3, 4] rfl kc_nd_311 rfl
                have hPc := hCu.1
                have hDc := hCu.2.1
                have hFc := hCu.2.2
                have hKc := hK.sb (tys2 := [(c1, .int), (c2, .int), (cC, .char)]) [0, 1, 2] rfl
                refine va_calli (va_runV (As := [.int 63]) (rest := []) ⟨hx, hb, hml, hown, hts⟩ (s_take4_63 l dC dI jT t0 cC gT kt hkt hgT bt hbt hb8 jR r1 r2 c1 c2 S1_107 s2 Wr_108 fi q6 q7 bd_115 hfi Pn_109 bd_116 H_112.size) (cwV 1 hts (kG (List.forall_mem_cons.mpr ⟨(List.mem_cons_of_mem _ (List.mem_append_left _ (List.mem_of_getElem? (i := 45) rfl))), (List.forall_mem_cons.mpr ⟨(List.mem_cons_of_mem _ (List.mem_append_left _ (List.mem_of_getElem? (i := 44) rfl))), (List.forall_mem_cons.mpr ⟨(List.mem_cons_of_mem _ (List.mem_append_left _ (List.mem_of_getElem? (i := 43) rfl))), (List.forall_mem_cons.mpr ⟨(List.mem_cons_of_mem _ (List.mem_append_left _ (List.mem_of_getElem? (i := 0) rfl))), (fun _ h => absurd h List.not_mem_nil)⟩)⟩)⟩)⟩) (kGV _ _ _ _) (fun _ h => List.mem_cons_of_mem _ (List.mem_append_right _ (List.mem_append_right _ (List.mem_append_right _ (List.mem_append_right _ (List.mem_append_right _ (List.mem_append_right _ (List.mem_append_right _ (List.mem_append_right _ (List.mem_append_right _ (List.mem_append_right _ (List.mem_append_right _ (List.mem_append_right _ (List.mem_append_right _ (List.mem_append_left _ h))))))))))))))) gw_s_take4_63) rfl rfl rfl ⟨rfl, hd_X4_take⟩ ⟨(Nat.le_of_ble_eq_true rfl), (Nat.le_of_ble_eq_true rfl)⟩) (kW_V kT_blind kT_give (va_recv hKc hPc (ci := 4) (q0 := 0) rfl rfl) hPc hKc hDc) rfl rfl hl.1 rfl (lv_room (Nat.le_of_ble_eq_true rfl)) dX4_readClause_128 ⟨(Nat.le_of_ble_eq_true rfl), (Nat.le_of_ble_eq_true rfl)⟩) hS (fun q _ h => hFc q h) hFc (fun r_117 => kU2 (fun Pn_118 xo_119 t H_120 locs ht hvm hw hB hz1 hk1 hS => ?_))
                try dsimp only at hw
                have hPD : kPD dC dI A [(jR, .inr (4, [.ref jT, .ref r1, .ref r2, .int (nI (Wr_108)), .int (nI (fi)), .int (nI (Pn_118)), .ref q6, .ref q7])), (r1, .inl (c1, 120, .inl S1_107)), (r2, .inl (c2, 124, .inl s2)), (jT, .inr (8, [.ref t0, .int (nI (kt))])), (t0, .inl (cC, 120, .inl gT))] H_120 := kJoinX hP hD [0, 1, 2, 3, 4] rfl hk1 hFc hB.1 ht hB.2.2 rfl [some 0, some 1, some 2, some 3, some 4] rfl rfl
                have hP := hPD.1
                have hD := hPD.2
                have hw_121 := hw
                refine lv_if_eq (tgt := 157) hx hb dX4_readClause_131 kc_t_131_26 (fun c_122 => ?_) (fun c_122 => ?_)
                · obtain rfl : xo_119 = false := kBo_f (kZr9 hw_121.1 c_122)
                  have hw_121_k := hw_121.2.2.2.1
                  refine lv_iconst (v := 0) hx hb dX4_readClause_157 kc_i_0 ?_
                  have hP9 := hP
                  have hD9 := hD
                  have hK9 := hK
                  rw [hQ]
                  exact W.zret (v := 0) hx hb hr rfl (fun t ht hW => ⟨⟨0, (S1_107, s2, Wr_108, fi, Pn_118, false, ([]), 0, 0), rfl, ⟨rfl, (by unfold kCla; rw [← hw_5_0, ← hw_5_1]; rw [hj_10, if_pos (by omega), hw_20.2.1, kThC_t]; unfold kCla1; rw [← hw_27_0, ← hw_27_1, if_neg (by omega), hw_90.2.1.1, kThC_t, ← hw_98_0, ← hw_98_1, if_pos (by omega), hw_113.2.1.1, kThC_t]; unfold kCla2; rw [hw_121.2.1]; rfl), by omega, by omega, by omega, fun z => absurd z (by decide)⟩,  by rw [ht]; exact hP9, va_K.moved hW.alike hK9, hD9⟩, hS.F ht⟩) hS.2.2 dX4_readClause_158
                · obtain rfl : xo_119 = true := kBo_t (kNz9 hw_121.1 c_122)
                  have hw_121_p := hw_121.2.2.2.2 rfl
                  have hw_121_k := hw_121.2.2.2.1
                  refine lv_aload_n hx hb dX4_readClause_134 rfl (lv_at hl 4 rfl) ?_
                  refine lv_iconst (v := 0) hx hb dX4_readClause_135 kc_i_0 ?_
                  have bd_123 : Pn_118 ≤ kt := by omega
                  have bd_124 : Wr_108 ≤ Pn_118 := by omega
                  have hCu := kCut (wc := [(jR, .inr (4, [.ref jT, .ref r1, .ref r2, .int (nI (Wr_108)), .int (nI (fi)), .int (nI (Pn_118)), .ref q6, .ref q7])), (r1, .inl (c1, 120, .inl S1_107)), (r2, .inl (c2, 124, .inl s2)), (jT, .inr (8, [.ref t0, .int (nI (kt))])), (t0, .inl (cC, 120, .inl gT))]) hP hD hS hA [0, 1, 2, 3, 4] rfl kc_nd_311 rfl
                  have hPc := hCu.1
                  have hDc := hCu.2.1
                  have hFc := hCu.2.2
                  have hKc := hK.sb (tys2 := [(c1, .int), (c2, .int), (cC, .char)]) [0, 1, 2] rfl
                  refine va_calli (va_runV (As := [.int 0]) (rest := []) ⟨hx, hb, hml, hown, hts⟩ (s_sum4x_0 l dC dI jT t0 cC gT kt hkt hgT bt hbt hb8 jR r1 r2 c1 c2 S1_107 s2 Wr_108 fi q6 q7 bd_115 hfi Pn_118 bd_123 bd_124 b6 n6 g6 hn6 b7 n7 g7 hn7 gn6 hz6 gn7 hz7 H_120.size) (cwV 1 hts (kG (List.forall_mem_cons.mpr ⟨(List.mem_cons_of_mem _ (List.mem_append_left _ (List.mem_of_getElem? (i := 32) rfl))), (List.forall_mem_cons.mpr ⟨(List.mem_cons_of_mem _ (List.mem_append_left _ (List.mem_of_getElem? (i := 31) rfl))), (List.forall_mem_cons.mpr ⟨(List.mem_cons_of_mem _ (List.mem_append_left _ (List.mem_of_getElem? (i := 30) rfl))), (List.forall_mem_cons.mpr ⟨(List.mem_cons_of_mem _ (List.mem_append_left _ (List.mem_of_getElem? (i := 0) rfl))), (fun _ h => absurd h List.not_mem_nil)⟩)⟩)⟩)⟩) (kGV _ _ _ _) (kFam (List.mem_cons_of_mem _ (List.mem_append_left _ (List.mem_of_getElem? (i := 29) rfl)))) gw_s_sum4x_0) rfl rfl rfl ⟨rfl, hd_X4_readSum⟩ ⟨(Nat.le_of_ble_eq_true rfl), (Nat.le_of_ble_eq_true rfl)⟩) (kW_V kS2_blind (kS2_give hX hS hFc) (va_recv hKc hPc (ci := 4) (q0 := 0) rfl rfl) hPc hKc hDc) rfl rfl hl.1 rfl (lv_room (Nat.le_of_ble_eq_true rfl)) dX4_readClause_136 ⟨(Nat.le_of_ble_eq_true rfl), (Nat.le_of_ble_eq_true rfl)⟩) hS (fun q _ h => hFc q h) hFc (fun r_125 => kU5 (fun S1_126 Wr_127 Pn_128 xo_129 xl_130 t H_131 locs ht hvm hw hB hz1 hk1 hS => ?_))
                  try dsimp only at hw
                  have hPD : kPD dC dI A [(jR, .inr (4, [.ref jT, .ref r1, .ref r2, .int (nI (Wr_127)), .int (nI (fi)), .int (nI (Pn_128)), .ref q6, .ref q7])), (r1, .inl (c1, 120, .inl S1_126)), (r2, .inl (c2, 124, .inl s2)), (jT, .inr (8, [.ref t0, .int (nI (kt))])), (t0, .inl (cC, 120, .inl gT))] H_131 := kJoinX hP hD [0, 1, 2, 3, 4] rfl hk1 hFc hB.1 ht hB.2.2 rfl [some 0, some 1, some 2, some 3, some 4] rfl rfl
                  have hP := hPD.1
                  have hD := hPD.2
                  have hw_132 := hw
                  refine lv_if_eq (tgt := 157) hx hb dX4_readClause_139 kc_t_139_18 (fun c_133 => ?_) (fun c_133 => ?_)
                  · obtain rfl : xo_129 = false := kBo_f (kZr9 hw_132.1 c_133)
                    have hw_132_k := hw_132.2.1.2.1
                    refine lv_iconst (v := 0) hx hb dX4_readClause_157 kc_i_0 ?_
                    have hP9 := hP
                    have hD9 := hD
                    have hK9 := hK
                    rw [hQ]
                    exact W.zret (v := 0) hx hb hr rfl (fun t ht hW => ⟨⟨0, (S1_126, s2, Wr_127, fi, Pn_128, false, ([]), 0, 0), rfl, ⟨rfl, (by unfold kCla; rw [← hw_5_0, ← hw_5_1]; rw [hj_10, if_pos (by omega), hw_20.2.1, kThC_t]; unfold kCla1; rw [← hw_27_0, ← hw_27_1, if_neg (by omega), hw_90.2.1.1, kThC_t, ← hw_98_0, ← hw_98_1, if_pos (by omega), hw_113.2.1.1, kThC_t]; unfold kCla2; rw [hw_121.2.1, kThC_t, hw_132.2.1.1]; rfl), by omega, by omega, by omega, fun z => absurd z (by decide)⟩,  by rw [ht]; exact hP9, va_K.moved hW.alike hK9, hD9⟩, hS.F ht⟩) hS.2.2 dX4_readClause_158
                  · obtain rfl : xo_129 = true := kBo_t (kNz9 hw_132.1 c_133)
                    obtain ⟨hw_132_W, hw_132_S, hw_132_l, hw_132_p⟩ := hw_132.2.1.2.2 rfl
                    have hw_132_k := hw_132.2.1.2.1
                    refine lv_aload_n hx hb dX4_readClause_142 rfl (lv_at hl 4 rfl) ?_
                    refine lv_iload_n hx hb dX4_readClause_143 rfl (lv_at hl 3 rfl) ?_
                    refine lv_iload_n hx hb dX4_readClause_144 rfl (lv_at hl 2 rfl) ?_
                    refine lv_iload hx hb dX4_readClause_145 (lv_at hl 0 rfl) ?_
                    have bd_134 : Wr_127 ≤ 120 := by omega
                    have bd_135 : Pn_128 ≤ kt := by omega
                    have hCu := kCut (wc := [(jR, .inr (4, [.ref jT, .ref r1, .ref r2, .int (nI (Wr_127)), .int (nI (fi)), .int (nI (Pn_128)), .ref q6, .ref q7])), (r1, .inl (c1, 120, .inl S1_126)), (r2, .inl (c2, 124, .inl s2)), (jT, .inr (8, [.ref t0, .int (nI (kt))])), (t0, .inl (cC, 120, .inl gT))]) hP hD hS hA [0, 1, 2, 3, 4] rfl kc_nd_311 rfl
                    have hPc := hCu.1
                    have hDc := hCu.2.1
                    have hFc := hCu.2.2
                    have hKc := hK.sb (tys2 := [(c1, .int), (c2, .int), (cC, .char)]) [0, 1, 2] rfl
                    refine va_calli (va_runV (As := [.int (nI (j_9)), .int (nI (wr)), .int (nI (Wr_108))]) (rest := []) ⟨hx, hb, hml, hown, hts⟩ (s_keep4x l dC dI jT t0 cC gT kt hkt hgT bt hbt hb8 jR r1 r2 c1 c2 S1_126 s2 Wr_127 fi q6 q7 bd_134 hfi Pn_128 bd_135 j_9 wr Wr_108 hf9 H_131.size) (cwV 3 hts (kG (List.forall_mem_cons.mpr ⟨(List.mem_cons_of_mem _ (List.mem_append_left _ (List.mem_of_getElem? (i := 54) rfl))), (List.forall_mem_cons.mpr ⟨(List.mem_cons_of_mem _ (List.mem_append_left _ (List.mem_of_getElem? (i := 53) rfl))), (List.forall_mem_cons.mpr ⟨(List.mem_cons_of_mem _ (List.mem_append_left _ (List.mem_of_getElem? (i := 52) rfl))), (List.forall_mem_cons.mpr ⟨(List.mem_cons_of_mem _ (List.mem_append_left _ (List.mem_of_getElem? (i := 0) rfl))), (fun _ h => absurd h List.not_mem_nil)⟩)⟩)⟩)⟩) (kGV _ _ _ _) (fun _ h => List.mem_cons_of_mem _ (List.mem_append_right _ (List.mem_append_right _ (List.mem_append_right _ (List.mem_append_right _ (List.mem_append_right _ (List.mem_append_right _ (List.mem_append_right _ (List.mem_append_right _ (List.mem_append_right _ (List.mem_append_right _ (List.mem_append_right _ (List.mem_append_right _ (List.mem_append_right _ (List.mem_append_right _ h))))))))))))))) gw_s_keep4x) rfl rfl rfl ⟨rfl, hd_X4_keepClause⟩ ⟨(Nat.le_of_ble_eq_true rfl), (Nat.le_of_ble_eq_true rfl)⟩) (kW_V kT_blind kT_give (va_recv hKc hPc (ci := 4) (q0 := 0) rfl rfl) hPc hKc hDc) rfl rfl hl.1 rfl (lv_room (Nat.le_of_ble_eq_true rfl)) dX4_readClause_147 ⟨(Nat.le_of_ble_eq_true rfl), (Nat.le_of_ble_eq_true rfl)⟩) hS (fun q _ h => hFc q h) hFc (fun r_136 => kU2 (fun S2_137 Fi_138 t H_139 locs ht hvm hw hB hz1 hk1 hS => ?_))
                    try dsimp only at hw
                    have hPD : kPD dC dI A [(jR, .inr (4, [.ref jT, .ref r1, .ref r2, .int (nI (Wr_127)), .int (nI (Fi_138)), .int (nI (Pn_128)), .ref q6, .ref q7])), (r1, .inl (c1, 120, .inl S1_126)), (r2, .inl (c2, 124, .inl S2_137)), (jT, .inr (8, [.ref t0, .int (nI (kt))])), (t0, .inl (cC, 120, .inl gT))] H_139 := kJoinX hP hD [0, 1, 2, 3, 4] rfl hk1 hFc hB.1 ht hB.2.2 rfl [some 0, some 1, some 2, some 3, some 4] rfl rfl
                    have hP := hPD.1
                    have hD := hPD.2
                    obtain ⟨rfl, hw_140⟩ := hw
                    refine lv_if_eq (tgt := 157) hx hb dX4_readClause_150 kc_t_150_7 (fun c_141 => absurd c_141 (by decide)) (fun c_141 => ?_)
                    refine lv_iconst (v := 1) hx hb dX4_readClause_153 kc_i_1 ?_
                    refine lv_goto (tgt := 158) hx hb dX4_readClause_154 kc_t_154_4 ?_
                    have hP9 := hP
                    have hD9 := hD
                    have hK9 := hK
                    rw [hQ]
                    exact W.zret (v := 1) hx hb hr rfl (fun t ht hW => ⟨⟨1, (S1_126, S2_137, Wr_127, Fi_138, Pn_128, true, (xl_88 ++ xl_111 ++ xl_130), j_9, ((xl_88 ++ xl_111).length)), rfl, ⟨rfl, (by unfold kCla; rw [← hw_5_0, ← hw_5_1]; rw [hj_10, if_pos (by omega), hw_20.2.1, kThC_t]; unfold kCla1; rw [← hw_27_0, ← hw_27_1, if_neg (by omega), hw_90.2.1.1, kThC_t, ← hw_98_0, ← hw_98_1, if_pos (by omega), hw_113.2.1.1, kThC_t]; unfold kCla2; rw [hw_121.2.1, kThC_t, hw_132.2.1.1, kThC_t]), by omega, by omega, by omega, fun _ => ⟨(by first | omega | (simp only [List.length_append]; omega)), (kWrtC (kWrtC hw_90_S hw_90_W hw_113_S) (by first | omega | (simp only [List.length_append]; omega)) hw_132_S), hw_140.1, kKeep hw_140.2 (by first | omega | (simp only [List.length_append]; omega)) (by first | omega | (simp only [List.length_append]; omega)), (by first | omega | (simp only [List.length_append]; omega)), by omega⟩⟩,  by rw [ht]; exact hP9, va_K.moved hW.alike hK9, hD9⟩, hS.F ht⟩) hS.2.2 dX4_readClause_158
              · obtain rfl : xo_110 = false := kBo_f (kZr9 hw_113.1 c_114)
                have hw_113_k := hw_113.2.1.2.1
                refine lv_iconst (v := 0) hx hb dX4_readClause_117 kc_i_0 ?_
                have hP9 := hP
                have hD9 := hD
                have hK9 := hK
                rw [hQ]
                exact W.zret (v := 0) hx hb hr rfl (fun t ht hW => ⟨⟨0, (S1_107, s2, Wr_108, fi, Pn_109, false, ([]), 0, 0), rfl, ⟨rfl, (by unfold kCla; rw [← hw_5_0, ← hw_5_1]; rw [hj_10, if_pos (by omega), hw_20.2.1, kThC_t]; unfold kCla1; rw [← hw_27_0, ← hw_27_1, if_neg (by omega), hw_90.2.1.1, kThC_t, ← hw_98_0, ← hw_98_1, if_pos (by omega), hw_113.2.1.1]; rfl), by omega, by omega, by omega, fun z => absurd z (by decide)⟩,  by rw [ht]; exact hP9, va_K.moved hW.alike hK9, hD9⟩, hS.F ht⟩) hS.2.2 dX4_readClause_118
            · have hcp : ¬ (ch_96 = 61 ∨ ch_96 = 60 ∨ ch_96 = 62) := fun z9 => hw_101.mpr z9 c_102
              refine lv_aload_n hx hb dX4_readClause_92 rfl (lv_at hl 3 rfl) ?_
              refine lv_iload_n hx hb dX4_readClause_93 rfl (lv_at hl 2 rfl) ?_
              refine lv_iload_n hx hb dX4_readClause_94 rfl (lv_at hl 1 rfl) ?_
              refine lv_iload_n hx hb dX4_readClause_95 rfl (lv_at hl 1 rfl) ?_
              have bd_142 : Pn_95 ≤ kt := by omega
              have hCu := kCut (wc := [(jR, .inr (4, [.ref jT, .ref r1, .ref r2, .int (nI (Wr_85)), .int (nI (fi)), .int (nI (Pn_95)), .ref q6, .ref q7])), (r1, .inl (c1, 120, .inl S1_84)), (r2, .inl (c2, 124, .inl s2)), (jT, .inr (8, [.ref t0, .int (nI (kt))])), (t0, .inl (cC, 120, .inl gT))]) hP hD hS hA [0, 1, 2, 3, 4] rfl kc_nd_311 rfl
              have hPc := hCu.1
              have hDc := hCu.2.1
              have hFc := hCu.2.2
              have hKc := hK.sb (tys2 := [(c1, .int), (c2, .int), (cC, .char)]) [0, 1, 2] rfl
              refine va_calli (va_runV (As := [.int (nI (j_9)), .int (nI (wr)), .int (nI (wr))]) (rest := []) ⟨hx, hb, hml, hown, hts⟩ (s_keep4x l dC dI jT t0 cC gT kt hkt hgT bt hbt hb8 jR r1 r2 c1 c2 S1_84 s2 Wr_85 fi q6 q7 bd_92 hfi Pn_95 bd_142 j_9 wr wr hf9 H_97.size) (cwV 3 hts (kG (List.forall_mem_cons.mpr ⟨(List.mem_cons_of_mem _ (List.mem_append_left _ (List.mem_of_getElem? (i := 54) rfl))), (List.forall_mem_cons.mpr ⟨(List.mem_cons_of_mem _ (List.mem_append_left _ (List.mem_of_getElem? (i := 53) rfl))), (List.forall_mem_cons.mpr ⟨(List.mem_cons_of_mem _ (List.mem_append_left _ (List.mem_of_getElem? (i := 52) rfl))), (List.forall_mem_cons.mpr ⟨(List.mem_cons_of_mem _ (List.mem_append_left _ (List.mem_of_getElem? (i := 0) rfl))), (fun _ h => absurd h List.not_mem_nil)⟩)⟩)⟩)⟩) (kGV _ _ _ _) (fun _ h => List.mem_cons_of_mem _ (List.mem_append_right _ (List.mem_append_right _ (List.mem_append_right _ (List.mem_append_right _ (List.mem_append_right _ (List.mem_append_right _ (List.mem_append_right _ (List.mem_append_right _ (List.mem_append_right _ (List.mem_append_right _ (List.mem_append_right _ (List.mem_append_right _ (List.mem_append_right _ (List.mem_append_right _ h))))))))))))))) gw_s_keep4x) rfl rfl rfl ⟨rfl, hd_X4_keepClause⟩ ⟨(Nat.le_of_ble_eq_true rfl), (Nat.le_of_ble_eq_true rfl)⟩) (kW_V kT_blind kT_give (va_recv hKc hPc (ci := 4) (q0 := 0) rfl rfl) hPc hKc hDc) rfl rfl hl.1 rfl (lv_room (Nat.le_of_ble_eq_true rfl)) dX4_readClause_96 ⟨(Nat.le_of_ble_eq_true rfl), (Nat.le_of_ble_eq_true rfl)⟩) hS (fun q _ h => hFc q h) hFc (fun r_143 => kU2 (fun S2_144 Fi_145 t H_146 locs ht hvm hw hB hz1 hk1 hS => ?_))
              try dsimp only at hw
              have hPD : kPD dC dI A [(jR, .inr (4, [.ref jT, .ref r1, .ref r2, .int (nI (Wr_85)), .int (nI (Fi_145)), .int (nI (Pn_95)), .ref q6, .ref q7])), (r1, .inl (c1, 120, .inl S1_84)), (r2, .inl (c2, 124, .inl S2_144)), (jT, .inr (8, [.ref t0, .int (nI (kt))])), (t0, .inl (cC, 120, .inl gT))] H_146 := kJoinX hP hD [0, 1, 2, 3, 4] rfl hk1 hFc hB.1 ht hB.2.2 rfl [some 0, some 1, some 2, some 3, some 4] rfl rfl
              have hP := hPD.1
              have hD := hPD.2
              obtain ⟨rfl, hw_147⟩ := hw
              have hP9 := hP
              have hD9 := hD
              have hK9 := hK
              rw [hQ]
              exact W.zret (v := 1) hx hb hr rfl (fun t ht hW => ⟨⟨1, (S1_84, S2_144, Wr_85, Fi_145, Pn_95, true, (xl_88), j_9, 0), rfl, ⟨rfl, (by unfold kCla; rw [← hw_5_0, ← hw_5_1]; rw [hj_10, if_pos (by omega), hw_20.2.1, kThC_t]; unfold kCla1; rw [← hw_27_0, ← hw_27_1, if_neg (by omega), hw_90.2.1.1, kThC_t, ← hw_98_0, ← hw_98_1, if_neg (by omega)]), by omega, by omega, by omega, fun _ => ⟨(by first | omega | (simp only [List.length_append]; omega)), hw_90_S, hw_147.1, kKeep hw_147.2 (by first | omega | (simp only [List.length_append]; omega)) (by first | omega | (simp only [List.length_append]; omega)), (by first | omega | (simp only [List.length_append]; omega)), by omega⟩⟩,  by rw [ht]; exact hP9, va_K.moved hW.alike hK9, hD9⟩, hS.F ht⟩) hS.2.2 dX4_readClause_99
          · obtain rfl : xo_87 = false := kBo_f (kZr9 hw_90.1 c_91)
            have hw_90_k := hw_90.2.1.2.1
            refine lv_iconst (v := 0) hx hb dX4_readClause_80 kc_i_0 ?_
            have hP9 := hP
            have hD9 := hD
            have hK9 := hK
            rw [hQ]
            exact W.zret (v := 0) hx hb hr rfl (fun t ht hW => ⟨⟨0, (S1_84, s2, Wr_85, fi, Pn_86, false, ([]), 0, 0), rfl, ⟨rfl, (by unfold kCla; rw [← hw_5_0, ← hw_5_1]; rw [hj_10, if_pos (by omega), hw_20.2.1, kThC_t]; unfold kCla1; rw [← hw_27_0, ← hw_27_1, if_neg (by omega), hw_90.2.1.1]; rfl), by omega, by omega, by omega, fun z => absurd z (by decide)⟩,  by rw [ht]; exact hP9, va_K.moved hW.alike hK9, hD9⟩, hS.F ht⟩) hS.2.2 dX4_readClause_81
        · have hn_148 := keq (a := ch_25) (b := 40) bd_72 kc_31_40 c_79
          refine lv_iconst (v := 1) hx hb dX4_readClause_62 kc_i_1 ?_
          refine lv_goto (tgt := 67) hx hb dX4_readClause_63 kc_t_63_4 ?_
          refine lv_istore_n hx hb dX4_readClause_67 rfl hl kc_l_3_5 (kTo [(3, .int 1), (2, .int (nI (wr))), (1, .int (nI (j_9))), (0, .ref jR)]) (fun ls hl => ?_)
          refine lv_iload_n hx hb dX4_readClause_68 rfl (lv_at hl 0 rfl) ?_
          refine lv_if_ne (tgt := 100) hx hb dX4_readClause_69 kc_t_69_31 (fun c_149 => ?_) (fun c_149 => absurd c_149 (by decide))
          refine lv_aload_n hx hb dX4_readClause_100 rfl (lv_at hl 3 rfl) ?_
          refine lv_iconst (v := 0) hx hb dX4_readClause_101 kc_i_0 ?_
          refine lv_iload_n hx hb dX4_readClause_102 rfl (lv_at hl 0 rfl) ?_
          refine lv_if_ne (tgt := 110) hx hb dX4_readClause_103 kc_t_103_7 (fun c_150 => ?_) (fun c_150 => absurd c_150 (by decide))
          refine lv_iconst (v := 0) hx hb dX4_readClause_110 kc_i_0 ?_
          have bd_151 : wr ≤ Pn_24 := by omega
          have hCu := kCut (wc := [(jR, .inr (4, [.ref jT, .ref r1, .ref r2, .int (nI (wr)), .int (nI (fi)), .int (nI (Pn_24)), .ref q6, .ref q7])), (r1, .inl (c1, 120, .inl s1)), (r2, .inl (c2, 124, .inl s2)), (jT, .inr (8, [.ref t0, .int (nI (kt))])), (t0, .inl (cC, 120, .inl gT))]) hP hD hS hA [0, 1, 2, 3, 4] rfl kc_nd_311 rfl
          have hPc := hCu.1
          have hDc := hCu.2.1
          have hFc := hCu.2.2
          have hKc := hK.sb (tys2 := [(c1, .int), (c2, .int), (cC, .char)]) [0, 1, 2] rfl
          refine va_calli (va_runV (As := [.int 0, .int 0]) (rest := []) ⟨hx, hb, hml, hown, hts⟩ (s_cond4x_0_0 l dC dI jT t0 cC gT kt hkt hgT bt hbt hb8 jR r1 r2 c1 c2 s1 s2 wr fi q6 q7 hwr hfi Pn_24 bd_73 bd_151 b6 n6 g6 hn6 b7 n7 g7 hn7 gn6 hz6 gn7 hz7 H_77.size) (cwV 2 hts (kG (List.forall_mem_cons.mpr ⟨(List.mem_cons_of_mem _ (List.mem_append_left _ (List.mem_of_getElem? (i := 49) rfl))), (List.forall_mem_cons.mpr ⟨(List.mem_cons_of_mem _ (List.mem_append_left _ (List.mem_of_getElem? (i := 48) rfl))), (List.forall_mem_cons.mpr ⟨(List.mem_cons_of_mem _ (List.mem_append_left _ (List.mem_of_getElem? (i := 47) rfl))), (List.forall_mem_cons.mpr ⟨(List.mem_cons_of_mem _ (List.mem_append_left _ (List.mem_of_getElem? (i := 0) rfl))), (fun _ h => absurd h List.not_mem_nil)⟩)⟩)⟩)⟩) (kGV _ _ _ _) (kFam (List.mem_cons_of_mem _ (List.mem_append_left _ (List.mem_of_getElem? (i := 46) rfl)))) gw_s_cond4x_0_0) rfl rfl rfl ⟨rfl, hd_X4_readCondition⟩ ⟨(Nat.le_of_ble_eq_true rfl), (Nat.le_of_ble_eq_true rfl)⟩) (kW_V kS2_blind (kS2_give hX hS hFc) (va_recv hKc hPc (ci := 4) (q0 := 0) rfl rfl) hPc hKc hDc) rfl rfl hl.1 rfl (lv_room (Nat.le_of_ble_eq_true rfl)) dX4_readClause_111 ⟨(Nat.le_of_ble_eq_true rfl), (Nat.le_of_ble_eq_true rfl)⟩) hS (fun q _ h => hFc q h) hFc (fun r_152 => kU5 (fun S1_153 Wr_154 Pn_155 xo_156 xl_157 t H_158 locs ht hvm hw hB hz1 hk1 hS => ?_))
          try dsimp only at hw
          have hPD : kPD dC dI A [(jR, .inr (4, [.ref jT, .ref r1, .ref r2, .int (nI (Wr_154)), .int (nI (fi)), .int (nI (Pn_155)), .ref q6, .ref q7])), (r1, .inl (c1, 120, .inl S1_153)), (r2, .inl (c2, 124, .inl s2)), (jT, .inr (8, [.ref t0, .int (nI (kt))])), (t0, .inl (cC, 120, .inl gT))] H_158 := kJoinX hP hD [0, 1, 2, 3, 4] rfl hk1 hFc hB.1 ht hB.2.2 rfl [some 0, some 1, some 2, some 3, some 4] rfl rfl
          have hP := hPD.1
          have hD := hPD.2
          have hw_159 := hw
          refine lv_if_ne (tgt := 119) hx hb dX4_readClause_114 kc_t_114_5 (fun c_160 => ?_) (fun c_160 => ?_)
          · obtain rfl : xo_156 = true := kBo_t (kNz9 hw_159.1 c_160)
            obtain ⟨hw_159_W, hw_159_S, hw_159_l, hw_159_p⟩ := hw_159.2.1.2.2 rfl
            have hw_159_k := hw_159.2.1.2.1
            refine lv_aload_n hx hb dX4_readClause_119 rfl (lv_at hl 3 rfl) ?_
            refine va_get (D := (dC, dI)) (ci := 4) (v := .int (nI (Wr_154))) (C := RX4) (T := TX4) (N := 8) hx hb hts (fun _ h => List.mem_cons_of_mem _ (List.mem_append_right _ (List.mem_append_right _ (List.mem_append_right _ (List.mem_append_left _ h))))) hown hK hP 0 rfl rfl 3 kc_l_3_8 (hts (.fieldLink RX4 18 "NotEnded$Reader" "written" "I") (List.mem_cons_of_mem _ (List.mem_append_left _ (List.mem_of_getElem? (i := 51) rfl)))) (fun _ h9 => h9) rfl dX4_readClause_120 ?_
            refine lv_istore hx hb dX4_readClause_123 hl kc_l_4_5 (kTo [(4, .int (nI (Wr_154))), (3, .int 1), (2, .int (nI (wr))), (1, .int (nI (j_9))), (0, .ref jR)]) (fun ls hl => ?_)
            refine lv_aload_n hx hb dX4_readClause_125 rfl (lv_at hl 4 rfl) ?_
            refine lv_bipush (v := 63) hx hb dX4_readClause_126 kc_b_63 ?_
            have bd_161 : Wr_154 ≤ 120 := by omega
            have bd_162 : Pn_155 ≤ kt := by omega
            have hCu := kCut (wc := [(jR, .inr (4, [.ref jT, .ref r1, .ref r2, .int (nI (Wr_154)), .int (nI (fi)), .int (nI (Pn_155)), .ref q6, .ref q7])), (r1, .inl (c1, 120, .inl S1_153)), (r2, .inl (c2, 124, .inl s2)), (jT, .inr (8, [.ref t0, .int (nI (kt))])), (t0, .inl (cC, 120, .inl gT))]) hP hD hS hA [0, 1, 2, 3, 4] rfl kc_nd_311 rfl
            have hPc := hCu.1
            have hDc := hCu.2.1
            have hFc := hCu.2.2
            have hKc := hK.sb (tys2 := [(c1, .int), (c2, .int), (cC, .char)]) [0, 1, 2] rfl
            refine va_calli (va_runV (As := [.int 63]) (rest := []) ⟨hx, hb, hml, hown, hts⟩ (s_take4_63 l dC dI jT t0 cC gT kt hkt hgT bt hbt hb8 jR r1 r2 c1 c2 S1_153 s2 Wr_154 fi q6 q7 bd_161 hfi Pn_155 bd_162 H_158.size) (cwV 1 hts (kG (List.forall_mem_cons.mpr ⟨(List.mem_cons_of_mem _ (List.mem_append_left _ (List.mem_of_getElem? (i := 45) rfl))), (List.forall_mem_cons.mpr ⟨(List.mem_cons_of_mem _ (List.mem_append_left _ (List.mem_of_getElem? (i := 44) rfl))), (List.forall_mem_cons.mpr ⟨(List.mem_cons_of_mem _ (List.mem_append_left _ (List.mem_of_getElem? (i := 43) rfl))), (List.forall_mem_cons.mpr ⟨(List.mem_cons_of_mem _ (List.mem_append_left _ (List.mem_of_getElem? (i := 0) rfl))), (fun _ h => absurd h List.not_mem_nil)⟩)⟩)⟩)⟩) (kGV _ _ _ _) (fun _ h => List.mem_cons_of_mem _ (List.mem_append_right _ (List.mem_append_right _ (List.mem_append_right _ (List.mem_append_right _ (List.mem_append_right _ (List.mem_append_right _ (List.mem_append_right _ (List.mem_append_right _ (List.mem_append_right _ (List.mem_append_right _ (List.mem_append_right _ (List.mem_append_right _ (List.mem_append_right _ (List.mem_append_left _ h))))))))))))))) gw_s_take4_63) rfl rfl rfl ⟨rfl, hd_X4_take⟩ ⟨(Nat.le_of_ble_eq_true rfl), (Nat.le_of_ble_eq_true rfl)⟩) (kW_V kT_blind kT_give (va_recv hKc hPc (ci := 4) (q0 := 0) rfl rfl) hPc hKc hDc) rfl rfl hl.1 rfl (lv_room (Nat.le_of_ble_eq_true rfl)) dX4_readClause_128 ⟨(Nat.le_of_ble_eq_true rfl), (Nat.le_of_ble_eq_true rfl)⟩) hS (fun q _ h => hFc q h) hFc (fun r_163 => kU2 (fun Pn_164 xo_165 t H_166 locs ht hvm hw hB hz1 hk1 hS => ?_))
            try dsimp only at hw
            have hPD : kPD dC dI A [(jR, .inr (4, [.ref jT, .ref r1, .ref r2, .int (nI (Wr_154)), .int (nI (fi)), .int (nI (Pn_164)), .ref q6, .ref q7])), (r1, .inl (c1, 120, .inl S1_153)), (r2, .inl (c2, 124, .inl s2)), (jT, .inr (8, [.ref t0, .int (nI (kt))])), (t0, .inl (cC, 120, .inl gT))] H_166 := kJoinX hP hD [0, 1, 2, 3, 4] rfl hk1 hFc hB.1 ht hB.2.2 rfl [some 0, some 1, some 2, some 3, some 4] rfl rfl
            have hP := hPD.1
            have hD := hPD.2
            have hw_167 := hw
            refine lv_if_eq (tgt := 157) hx hb dX4_readClause_131 kc_t_131_26 (fun c_168 => ?_) (fun c_168 => ?_)
            · obtain rfl : xo_165 = false := kBo_f (kZr9 hw_167.1 c_168)
              have hw_167_k := hw_167.2.2.2.1
              refine lv_iconst (v := 0) hx hb dX4_readClause_157 kc_i_0 ?_
              have hP9 := hP
              have hD9 := hD
              have hK9 := hK
              rw [hQ]
              exact W.zret (v := 0) hx hb hr rfl (fun t ht hW => ⟨⟨0, (S1_153, s2, Wr_154, fi, Pn_164, false, ([]), 0, 0), rfl, ⟨rfl, (by unfold kCla; rw [← hw_5_0, ← hw_5_1]; rw [hj_10, if_pos (by omega), hw_20.2.1, kThC_t]; unfold kCla1; rw [← hw_27_0, ← hw_27_1, if_pos (by omega), hw_159.2.1.1, kThC_t]; unfold kCla2; rw [hw_167.2.1]; rfl), by omega, by omega, by omega, fun z => absurd z (by decide)⟩,  by rw [ht]; exact hP9, va_K.moved hW.alike hK9, hD9⟩, hS.F ht⟩) hS.2.2 dX4_readClause_158
            · obtain rfl : xo_165 = true := kBo_t (kNz9 hw_167.1 c_168)
              have hw_167_p := hw_167.2.2.2.2 rfl
              have hw_167_k := hw_167.2.2.2.1
              refine lv_aload_n hx hb dX4_readClause_134 rfl (lv_at hl 4 rfl) ?_
              refine lv_iconst (v := 0) hx hb dX4_readClause_135 kc_i_0 ?_
              have bd_169 : Pn_164 ≤ kt := by omega
              have bd_170 : Wr_154 ≤ Pn_164 := by omega
              have hCu := kCut (wc := [(jR, .inr (4, [.ref jT, .ref r1, .ref r2, .int (nI (Wr_154)), .int (nI (fi)), .int (nI (Pn_164)), .ref q6, .ref q7])), (r1, .inl (c1, 120, .inl S1_153)), (r2, .inl (c2, 124, .inl s2)), (jT, .inr (8, [.ref t0, .int (nI (kt))])), (t0, .inl (cC, 120, .inl gT))]) hP hD hS hA [0, 1, 2, 3, 4] rfl kc_nd_311 rfl
              have hPc := hCu.1
              have hDc := hCu.2.1
              have hFc := hCu.2.2
              have hKc := hK.sb (tys2 := [(c1, .int), (c2, .int), (cC, .char)]) [0, 1, 2] rfl
              refine va_calli (va_runV (As := [.int 0]) (rest := []) ⟨hx, hb, hml, hown, hts⟩ (s_sum4x_0 l dC dI jT t0 cC gT kt hkt hgT bt hbt hb8 jR r1 r2 c1 c2 S1_153 s2 Wr_154 fi q6 q7 bd_161 hfi Pn_164 bd_169 bd_170 b6 n6 g6 hn6 b7 n7 g7 hn7 gn6 hz6 gn7 hz7 H_166.size) (cwV 1 hts (kG (List.forall_mem_cons.mpr ⟨(List.mem_cons_of_mem _ (List.mem_append_left _ (List.mem_of_getElem? (i := 32) rfl))), (List.forall_mem_cons.mpr ⟨(List.mem_cons_of_mem _ (List.mem_append_left _ (List.mem_of_getElem? (i := 31) rfl))), (List.forall_mem_cons.mpr ⟨(List.mem_cons_of_mem _ (List.mem_append_left _ (List.mem_of_getElem? (i := 30) rfl))), (List.forall_mem_cons.mpr ⟨(List.mem_cons_of_mem _ (List.mem_append_left _ (List.mem_of_getElem? (i := 0) rfl))), (fun _ h => absurd h List.not_mem_nil)⟩)⟩)⟩)⟩) (kGV _ _ _ _) (kFam (List.mem_cons_of_mem _ (List.mem_append_left _ (List.mem_of_getElem? (i := 29) rfl)))) gw_s_sum4x_0) rfl rfl rfl ⟨rfl, hd_X4_readSum⟩ ⟨(Nat.le_of_ble_eq_true rfl), (Nat.le_of_ble_eq_true rfl)⟩) (kW_V kS2_blind (kS2_give hX hS hFc) (va_recv hKc hPc (ci := 4) (q0 := 0) rfl rfl) hPc hKc hDc) rfl rfl hl.1 rfl (lv_room (Nat.le_of_ble_eq_true rfl)) dX4_readClause_136 ⟨(Nat.le_of_ble_eq_true rfl), (Nat.le_of_ble_eq_true rfl)⟩) hS (fun q _ h => hFc q h) hFc (fun r_171 => kU5 (fun S1_172 Wr_173 Pn_174 xo_175 xl_176 t H_177 locs ht hvm hw hB hz1 hk1 hS => ?_))
              try dsimp only at hw
              have hPD : kPD dC dI A [(jR, .inr (4, [.ref jT, .ref r1, .ref r2, .int (nI (Wr_173)), .int (nI (fi)), .int (nI (Pn_174)), .ref q6, .ref q7])), (r1, .inl (c1, 120, .inl S1_172)), (r2, .inl (c2, 124, .inl s2)), (jT, .inr (8, [.ref t0, .int (nI (kt))])), (t0, .inl (cC, 120, .inl gT))] H_177 := kJoinX hP hD [0, 1, 2, 3, 4] rfl hk1 hFc hB.1 ht hB.2.2 rfl [some 0, some 1, some 2, some 3, some 4] rfl rfl
              have hP := hPD.1
              have hD := hPD.2
              have hw_178 := hw
              refine lv_if_eq (tgt := 157) hx hb dX4_readClause_139 kc_t_139_18 (fun c_179 => ?_) (fun c_179 => ?_)
              · obtain rfl : xo_175 = false := kBo_f (kZr9 hw_178.1 c_179)
                have hw_178_k := hw_178.2.1.2.1
                refine lv_iconst (v := 0) hx hb dX4_readClause_157 kc_i_0 ?_
                have hP9 := hP
                have hD9 := hD
                have hK9 := hK
                rw [hQ]
                exact W.zret (v := 0) hx hb hr rfl (fun t ht hW => ⟨⟨0, (S1_172, s2, Wr_173, fi, Pn_174, false, ([]), 0, 0), rfl, ⟨rfl, (by unfold kCla; rw [← hw_5_0, ← hw_5_1]; rw [hj_10, if_pos (by omega), hw_20.2.1, kThC_t]; unfold kCla1; rw [← hw_27_0, ← hw_27_1, if_pos (by omega), hw_159.2.1.1, kThC_t]; unfold kCla2; rw [hw_167.2.1, kThC_t, hw_178.2.1.1]; rfl), by omega, by omega, by omega, fun z => absurd z (by decide)⟩,  by rw [ht]; exact hP9, va_K.moved hW.alike hK9, hD9⟩, hS.F ht⟩) hS.2.2 dX4_readClause_158
              · obtain rfl : xo_175 = true := kBo_t (kNz9 hw_178.1 c_179)
                obtain ⟨hw_178_W, hw_178_S, hw_178_l, hw_178_p⟩ := hw_178.2.1.2.2 rfl
                have hw_178_k := hw_178.2.1.2.1
                refine lv_aload_n hx hb dX4_readClause_142 rfl (lv_at hl 4 rfl) ?_
                refine lv_iload_n hx hb dX4_readClause_143 rfl (lv_at hl 3 rfl) ?_
                refine lv_iload_n hx hb dX4_readClause_144 rfl (lv_at hl 2 rfl) ?_
                refine lv_iload hx hb dX4_readClause_145 (lv_at hl 0 rfl) ?_
                have bd_180 : Wr_173 ≤ 120 := by omega
                have bd_181 : Pn_174 ≤ kt := by omega
                have hCu := kCut (wc := [(jR, .inr (4, [.ref jT, .ref r1, .ref r2, .int (nI (Wr_173)), .int (nI (fi)), .int (nI (Pn_174)), .ref q6, .ref q7])), (r1, .inl (c1, 120, .inl S1_172)), (r2, .inl (c2, 124, .inl s2)), (jT, .inr (8, [.ref t0, .int (nI (kt))])), (t0, .inl (cC, 120, .inl gT))]) hP hD hS hA [0, 1, 2, 3, 4] rfl kc_nd_311 rfl
                have hPc := hCu.1
                have hDc := hCu.2.1
                have hFc := hCu.2.2
                have hKc := hK.sb (tys2 := [(c1, .int), (c2, .int), (cC, .char)]) [0, 1, 2] rfl
                refine va_calli (va_runV (As := [.int (nI (j_9)), .int (nI (wr)), .int (nI (Wr_154))]) (rest := []) ⟨hx, hb, hml, hown, hts⟩ (s_keep4x l dC dI jT t0 cC gT kt hkt hgT bt hbt hb8 jR r1 r2 c1 c2 S1_172 s2 Wr_173 fi q6 q7 bd_180 hfi Pn_174 bd_181 j_9 wr Wr_154 hf9 H_177.size) (cwV 3 hts (kG (List.forall_mem_cons.mpr ⟨(List.mem_cons_of_mem _ (List.mem_append_left _ (List.mem_of_getElem? (i := 54) rfl))), (List.forall_mem_cons.mpr ⟨(List.mem_cons_of_mem _ (List.mem_append_left _ (List.mem_of_getElem? (i := 53) rfl))), (List.forall_mem_cons.mpr ⟨(List.mem_cons_of_mem _ (List.mem_append_left _ (List.mem_of_getElem? (i := 52) rfl))), (List.forall_mem_cons.mpr ⟨(List.mem_cons_of_mem _ (List.mem_append_left _ (List.mem_of_getElem? (i := 0) rfl))), (fun _ h => absurd h List.not_mem_nil)⟩)⟩)⟩)⟩) (kGV _ _ _ _) (fun _ h => List.mem_cons_of_mem _ (List.mem_append_right _ (List.mem_append_right _ (List.mem_append_right _ (List.mem_append_right _ (List.mem_append_right _ (List.mem_append_right _ (List.mem_append_right _ (List.mem_append_right _ (List.mem_append_right _ (List.mem_append_right _ (List.mem_append_right _ (List.mem_append_right _ (List.mem_append_right _ (List.mem_append_right _ h))))))))))))))) gw_s_keep4x) rfl rfl rfl ⟨rfl, hd_X4_keepClause⟩ ⟨(Nat.le_of_ble_eq_true rfl), (Nat.le_of_ble_eq_true rfl)⟩) (kW_V kT_blind kT_give (va_recv hKc hPc (ci := 4) (q0 := 0) rfl rfl) hPc hKc hDc) rfl rfl hl.1 rfl (lv_room (Nat.le_of_ble_eq_true rfl)) dX4_readClause_147 ⟨(Nat.le_of_ble_eq_true rfl), (Nat.le_of_ble_eq_true rfl)⟩) hS (fun q _ h => hFc q h) hFc (fun r_182 => kU2 (fun S2_183 Fi_184 t H_185 locs ht hvm hw hB hz1 hk1 hS => ?_))
                try dsimp only at hw
                have hPD : kPD dC dI A [(jR, .inr (4, [.ref jT, .ref r1, .ref r2, .int (nI (Wr_173)), .int (nI (Fi_184)), .int (nI (Pn_174)), .ref q6, .ref q7])), (r1, .inl (c1, 120, .inl S1_172)), (r2, .inl (c2, 124, .inl S2_183)), (jT, .inr (8, [.ref t0, .int (nI (kt))])), (t0, .inl (cC, 120, .inl gT))] H_185 := kJoinX hP hD [0, 1, 2, 3, 4] rfl hk1 hFc hB.1 ht hB.2.2 rfl [some 0, some 1, some 2, some 3, some 4] rfl rfl
                have hP := hPD.1
                have hD := hPD.2
                obtain ⟨rfl, hw_186⟩ := hw
                refine lv_if_eq (tgt := 157) hx hb dX4_readClause_150 kc_t_150_7 (fun c_187 => absurd c_187 (by decide)) (fun c_187 => ?_)
                refine lv_iconst (v := 1) hx hb dX4_readClause_153 kc_i_1 ?_
                refine lv_goto (tgt := 158) hx hb dX4_readClause_154 kc_t_154_4 ?_
                have hP9 := hP
                have hD9 := hD
                have hK9 := hK
                rw [hQ]
                exact W.zret (v := 1) hx hb hr rfl (fun t ht hW => ⟨⟨1, (S1_172, S2_183, Wr_173, Fi_184, Pn_174, true, (xl_157 ++ xl_176), j_9, ((xl_157).length)), rfl, ⟨rfl, (by unfold kCla; rw [← hw_5_0, ← hw_5_1]; rw [hj_10, if_pos (by omega), hw_20.2.1, kThC_t]; unfold kCla1; rw [← hw_27_0, ← hw_27_1, if_pos (by omega), hw_159.2.1.1, kThC_t]; unfold kCla2; rw [hw_167.2.1, kThC_t, hw_178.2.1.1, kThC_t]), by omega, by omega, by omega, fun _ => ⟨(by first | omega | (simp only [List.length_append]; omega)), (kWrtC hw_159_S hw_159_W hw_178_S), hw_186.1, kKeep hw_186.2 (by first | omega | (simp only [List.length_append]; omega)) (by first | omega | (simp only [List.length_append]; omega)), (by first | omega | (simp only [List.length_append]; omega)), by omega⟩⟩,  by rw [ht]; exact hP9, va_K.moved hW.alike hK9, hD9⟩, hS.F ht⟩) hS.2.2 dX4_readClause_158
          · obtain rfl : xo_156 = false := kBo_f (kZr9 hw_159.1 c_160)
            have hw_159_k := hw_159.2.1.2.1
            refine lv_iconst (v := 0) hx hb dX4_readClause_117 kc_i_0 ?_
            have hP9 := hP
            have hD9 := hD
            have hK9 := hK
            rw [hQ]
            exact W.zret (v := 0) hx hb hr rfl (fun t ht hW => ⟨⟨0, (S1_153, s2, Wr_154, fi, Pn_155, false, ([]), 0, 0), rfl, ⟨rfl, (by unfold kCla; rw [← hw_5_0, ← hw_5_1]; rw [hj_10, if_pos (by omega), hw_20.2.1, kThC_t]; unfold kCla1; rw [← hw_27_0, ← hw_27_1, if_pos (by omega), hw_159.2.1.1]; rfl), by omega, by omega, by omega, fun z => absurd z (by decide)⟩,  by rw [ht]; exact hP9, va_K.moved hW.alike hK9, hD9⟩, hS.F ht⟩) hS.2.2 dX4_readClause_118
    · obtain rfl : xo_18 = false := kBo_f (kZr9 hw_20.1 c_21)
      have hw_20_k := hw_20.2.2.2.1
      refine lv_iconst (v := 0) hx hb dX4_readClause_37 kc_i_0 ?_
      have hP9 := hP
      have hD9 := hD
      have hK9 := hK
      rw [hQ]
      exact W.zret (v := 0) hx hb hr rfl (fun t ht hW => ⟨⟨0, (s1, s2, wr, fi, Pn_17, false, ([]), 0, 0), rfl, ⟨rfl, (by unfold kCla; rw [← hw_5_0, ← hw_5_1]; rw [hj_10, if_pos (by omega), hw_20.2.1]; rfl), by omega, by omega, by omega, fun z => absurd z (by decide)⟩,  by rw [ht]; exact hP9, va_K.moved hW.alike hK9, hD9⟩, hS.F ht⟩) hS.2.2 dX4_readClause_38
end
section
section VXA
/-- where a method has thrown q: the class by its name, the cell, what was written, the world -/
def vx_T (XC : String → State → State → Prop) (st : State) (q : Addr) (t : State) (mc ms : Nat) (free : Addr → Prop) : Prop :=
  ∃ (E : String) (ce : Cell) (L : List Loc), XC E st t ∧ t.heap[q]? = some ce ∧ ce.vm = .none ∧ st.vm.findClass E = some ce.cls ∧ st.WarmedH t.vm ∧ st.sameButNew ({ t with vm := st.vm } : State) L mc ms ∧ ∀ z ∈ L, free z.base
def vx_Q (Qc : Array Value → State → Outcome → State → Prop) (XC : String → State → State → Prop) (mc ms : Nat) (free : Addr → Prop) : Array Value → State → Outcome → State → Prop := fun a st o t =>
  (Qc a st o t ∧ ∃ L, FrameEnd st o t L mc ms ∧ ∀ q ∈ L, free q.base) ∨ ∃ q, o = .threw q ∧ vx_T XC st q t mc ms free
/-- a callee that returns or throws -/
def vx_Met (l : Launch) (y : MethodName) (ws : List Cond) (rm : Room) (Pc : Array Value → State → Prop) (Qc : Array Value → State → Outcome → State → Prop) (XC : String → State → State → Prop) (mc ms : Nat) (free : Addr → Prop) : Prop :=
  MetFree l y (headSpec ws rm) Pc (fun _ _ _ _ _ => True) (vx_Q Qc XC mc ms free)
def vx_Post (XC : String → State → State → Prop) (mc ms : Nat) (free : Addr → Prop) : Pt → Array Value → Addr → Pt → Prop := fun A a q B =>
  ∃ (g : JFrame) (mk : MethodId) (t : State) (L : List Loc) (E : String) (ce : Cell), B.U.heap = t.heap ∧ B.U.vm = t.vm ∧ XC E (A.U.calling g mk a) t ∧ t.heap[q]? = some ce ∧ ce.vm = .none ∧ A.U.vm.findClass E = some ce.cls ∧ B.locs = A.locs ++ L ∧ (∀ z ∈ L, free z.base) ∧ B.cells = A.cells + mc ∧ B.slots = A.slots + ms
def vx_Back (l : Launch) (R : Room) (p : Program) (e : Env) (below : List Frame) (s : State) (sargs : Array Value) (y : MethodName) (len W9 : Nat)
    (Pre : Pt → Array Value → Prop) (Post : Pt → Array Value → Option Value → Pt → Prop) (PostX : Pt → Array Value → Addr → Pt → Prop) : Prop :=
  ∀ (m : MethodId) (meth : Method) (c : Code) (A : Pt) (g : JFrame) (ig : Instr) (mk : MethodId) (a : Array Value),
    Stand p l e R s m sargs below meth c A.U A.locs A.cells A.slots → g.method = m → g.locals.size = c.maxLocals → decode c.code g.pc = .ok (ig, len) →
    2 * g.monitorRoom + (g.stack.map fun v => v.category).sum ≤ W9 → A.U.methodNamed? y = some mk → Pre A a →
    (∃ (v : Option Value) (B : Pt), Stand p l e R s m sargs below meth c B.U B.locs B.cells B.slots ∧ Post A a v B ∧
      Steps p.tables e below (doInvoke e (A.U.setTop g) [] mk a).1 (B.U.setTop { g with pc := g.pc + len, stack := v.toList ++ g.stack })) ∨
    (∃ (q : Addr) (B : Pt), Stand p l e R s m sargs below meth c B.U B.locs B.cells B.slots ∧ PostX A a q B ∧
      Steps p.tables e below (doInvoke e (A.U.setTop g) [] mk a).1 ((B.U.setTop g).pushFrame (.throwing q)))
section Payer
variable {l : Launch} {R : Room} {p : Program} {e : Env} {below : List Frame} {s : State} {sargs : Array Value} {y : MethodName} {len W9 : Nat}
theorem vx_back {ws : List Cond} {rm : Room} {Pc : Array Value → State → Prop} {Qc : Array Value → State → Outcome → State → Prop} {XC : String → State → State → Prop} {mc ms : Nat} {free : Addr → Prop} {bytes : ByteArray} {maxL : Nat} {ret : Option FieldType}
    (hM : vx_Met l y ws rm Pc Qc XC mc ms free) (hblind : FrameBlind Pc) (hrc : rm.cells = mc) (hrs : rm.slots = ms)
    (hframes : rm.frames + 1 ≤ R.frames) (hlocals : W9 + (maxL + 11) + rm.locals ≤ R.locals)
    (hws : ∀ w ∈ ws, ∀ a' U, s.WarmedH U.vm → w.before a' U = true) (hcode : Cond.code y bytes maxL ret ∈ ws) (hinit : ∀ a' U, s.WarmedH U.vm → (Cond.initialized y.cls).before a' U = true) :
    vx_Back l R p e below s sargs y len W9 (PreOf R mc ms Pc) (PostOf Qc mc ms free) (vx_Post XC mc ms free) := by
  intro m meth c A g ig mk a X hg hsize hdg hW hn hp
  have h1 : (headSpec ws rm).pre.before a A.U = true := atoms_intro fun w hw => hws w hw _ _ X.warmed
  have h2 : (Cond.code y bytes maxL ret).before a A.U = true := hws _ hcode _ _ X.warmed
  have h3 : (Cond.initialized y.cls).before a A.U = true := hinit _ _ X.warmed
  have h4 : A.cells + (headSpec ws rm).room.cells ≤ R.cells := by rw [show (headSpec ws rm).room.cells = mc from hrc]; exact hp.1
  have h5 : A.slots + (headSpec ws rm).room.slots ≤ R.slots := by rw [show (headSpec ws rm).room.slots = ms from hrs]; exact hp.2.1
  have hPc : Pc a (A.U.calling g mk a) := hblind _ _ _ _ hp.2.2
  obtain ⟨U, Ls, c0, s0⟩ := A
  dsimp only [Pt.U, Pt.locs, Pt.cells, Pt.slots] at h1 h2 h3 h4 h5 X hn hPc ⊢
  obtain ⟨methY, cY, hmY, hcY, -, hlY, -, -, -, -⟩ := Cond.code_spec hn h2
  obtain ⟨kY, hkY, -⟩ := className_of_methodNamed hn
  have hinitY : kY.init = .initialized := Cond.initialized_spec (findClass_of_methodNamed hn) hkY h3
  have h : At U g.method c below := by rw [hg]; exact X.here
  have hlocals9 : W9 + (maxL + 11) + (headSpec ws rm).room.locals ≤ R.locals := hlocals
  have happ : (headSpec ws rm).appliesLoose y e.platform (U.calling g mk a) = true :=
    Spec.appliesLoose_calling (g := g) h hdg hn hkY hinitY
      (X.room_calling (g := g) (R' := (headSpec ws rm).room) hsize hmY hcY hframes (by rw [hlY]; omega) h4 h5) h1
  obtain ⟨mid, hmid⟩ := h.above
  have hfr : (U.setTop g).frames = (.java g :: mid) ++ below := by rw [State.frames_setTop' g h.top, hmid]; rfl
  obtain ⟨o, s₂, hsteps, -, hend, hq⟩ := Steps.callFree hM p X.admits X.cas X.clock (acts := []) hfr happ hPc trivial
  have hq' : vx_Q Qc XC mc ms free a (U.calling g mk a) o s₂ := hq
  rw [State.frames_setTop' g h.top] at hend
  obtain ⟨g₀, hg0⟩ := Option.isSome_iff_exists.mp h.top
  obtain ⟨r, hr⟩ := State.topJava?_eq_some.mp hg0
  have hr' : (({ U with heap := s₂.heap, slotsUsed := s₂.slotsUsed } : State).setVm s₂.vm).frames = .java g₀ :: r := hr
  rcases hq' with ⟨hqc, L, hfe, hL⟩ | ⟨q, rfl, E, ce, L, hx, hce, hcv, hcl, hW₂, hsm, hL⟩
  · obtain ⟨⟨v, rfl⟩, hW₂, e2, q2, q3, q4, q5, q6⟩ := id hfe
    have e3 : s₂ = ({ (U.calling g mk a).setFrames s₂.frames with heap := s₂.heap, slotsUsed := s₂.slotsUsed } : State).setVm s₂.vm := by
      have : s₂ = ({ s₂ with vm := (U.calling g mk a).vm } : State).setVm s₂.vm := rfl
      rw [e2] at this
      exact this
    obtain ⟨c₂, i₂, len₂, hc₂, hd₂, hf₂⟩ := hend
    have hW' : U.WarmedH s₂.vm := hW₂
    have hcc : c₂ = c := by
      have h1 : s₂.code? g.method = U.code? g.method := by
        rw [State.code?_eq, State.code?_eq, hW'.alike.method?]
      exact Option.some.inj (hc₂.symm.trans (h1.trans h.code))
    subst hcc
    have hlen : len₂ = len := by rw [hdg] at hd₂; cases hd₂; rfl
    subst hlen
    have hs₂ : s₂ = (({ U with heap := s₂.heap, slotsUsed := s₂.slotsUsed } : State).setVm s₂.vm).setTop { g with pc := g.pc + len₂, stack := v.toList ++ g.stack } := by
      refine e3.trans ?_
      rw [hf₂, State.calling_eq h.top, State.setFrames_setFrames, State.setTop_of_frames _ hr', hr]
      rfl
    have hsame : U.sameButNew ({ U with heap := s₂.heap, slotsUsed := s₂.slotsUsed } : State) L mc ms := by
      refine ⟨?_, q2, q3, q4, q5, q6⟩
      obtain ⟨t, ht, -⟩ := State.frames_cons hr
      show ({ U with heap := s₂.heap, slotsUsed := s₂.slotsUsed } : State) = { U.setFrames U.frames with heap := s₂.heap, slotsUsed := s₂.slotsUsed }
      rw [State.setFrames_self ht]
    subst hg
    refine Or.inl ⟨v, ⟨(({ U with heap := s₂.heap, slotsUsed := s₂.slotsUsed } : State).setVm s₂.vm), Ls ++ L, c0 + mc, s0 + ms⟩,
      ⟨X.admits, X.cas, X.clock, X.frames, X.room, X.hears, X.method, X.code, (X.here.setHeapUsed s₂.heap s₂.slotsUsed).setVm hW'.alike, X.tail, State.WarmedH.trans X.warmed hW', X.limits, X.bytes, X.same.trans (hsame.setVm s.vm)⟩,
      ⟨g, mk, s₂, L, rfl, rfl, hqc, rfl, hL, rfl, rfl⟩, ?_⟩
    show Steps p.tables e below _ ((({ U with heap := s₂.heap, slotsUsed := s₂.slotsUsed } : State).setVm s₂.vm).setTop { g with pc := g.pc + len₂, stack := v.toList ++ g.stack })
    rw [← hs₂]
    exact hsteps
  · obtain ⟨e2, q2, q3, q4, q5, q6⟩ := id hsm
    have e3 : s₂ = ({ (U.calling g mk a).setFrames s₂.frames with heap := s₂.heap, slotsUsed := s₂.slotsUsed } : State).setVm s₂.vm := by
      have : s₂ = ({ s₂ with vm := (U.calling g mk a).vm } : State).setVm s₂.vm := rfl
      rw [e2] at this
      exact this
    have hf₂ : s₂.frames = .throwing q :: .java g :: U.frames.tail := hend
    have hW' : U.WarmedH s₂.vm := hW₂
    have hs₂ : s₂ = ((({ U with heap := s₂.heap, slotsUsed := s₂.slotsUsed } : State).setVm s₂.vm).setTop g).pushFrame (.throwing q) := by
      refine e3.trans ?_
      rw [hf₂, State.calling_eq h.top, State.setFrames_setFrames, State.pushFrame, State.frames_setTop _ hr', State.setTop_of_frames _ hr', State.setFrames_setFrames, hr]
      rfl
    have hsame : U.sameButNew ({ U with heap := s₂.heap, slotsUsed := s₂.slotsUsed } : State) L mc ms := by
      refine ⟨?_, q2, q3, q4, q5, q6⟩
      obtain ⟨t, ht, -⟩ := State.frames_cons hr
      show ({ U with heap := s₂.heap, slotsUsed := s₂.slotsUsed } : State) = { U.setFrames U.frames with heap := s₂.heap, slotsUsed := s₂.slotsUsed }
      rw [State.setFrames_self ht]
    subst hg
    refine Or.inr ⟨q, ⟨(({ U with heap := s₂.heap, slotsUsed := s₂.slotsUsed } : State).setVm s₂.vm), Ls ++ L, c0 + mc, s0 + ms⟩,
      ⟨X.admits, X.cas, X.clock, X.frames, X.room, X.hears, X.method, X.code, (X.here.setHeapUsed s₂.heap s₂.slotsUsed).setVm hW'.alike, X.tail, State.WarmedH.trans X.warmed hW', X.limits, X.bytes, X.same.trans (hsame.setVm s.vm)⟩,
      ⟨g, mk, s₂, L, E, ce, rfl, rfl, hx, hce, hcv, hcl, rfl, hL, rfl, rfl⟩, ?_⟩
    show Steps p.tables e below _ (((({ U with heap := s₂.heap, slotsUsed := s₂.slotsUsed } : State).setVm s₂.vm).setTop g).pushFrame (.throwing q))
    rw [← hs₂]
    exact hsteps
end Payer
section Calls
variable {p : Program} {l : Launch} {e : Env} {R : Room} {s : State} {m : MethodId} {args : Array Value} {below : List Frame} {meth : Method} {c : Code} {T : State} {locs : List Loc} {cells slots : Nat}
theorem vx_callV (X : Stand p l e R s m args below meth c T locs cells slots) (hexec : p.tables.exec = Jvm.exec) {own C : String} {index : Nat} {y : MethodName} {bytes : ByteArray} {maxL : Nat} {ret : Option FieldType}
    (hown : s.vm.findClass own = some m.cls) (hlink : (Cond.methodLink own index y).before args s = true) (hinst : (Cond.instanceMethod y).before args s = true) (hsel : (Cond.selects C y y).before args s = true)
    (hcode : (Cond.code y bytes maxL ret).before args s = true) (hy : y.cls ≠ "java/lang/invoke/MethodHandle" ∧ y.cls ≠ "java/lang/invoke/VarHandle")
    {W9 : Nat} {Pre : Pt → Array Value → Prop} {Post : Pt → Array Value → Option Value → Pt → Prop} {PostX : Pt → Array Value → Addr → Pt → Prop} (hK : vx_Back l R p e below s args y 3 W9 Pre Post PostX)
    {b : Addr} {cellB : Cell} (hcell : T.heap[b]? = some cellB) (hobj : cellB.vm.isStatics = false) (hcls : s.vm.findClass C = some cellB.cls)
    {g : JFrame} (hg : g.method = m) (hsize : g.locals.size = c.maxLocals) {argsL rest : List Value} (hlen : ∀ sig, parseMethodDescriptor y.desc = some sig → argsL.length = sig.parameters.length)
    (hstack : g.stack = argsL.reverse ++ .ref b :: rest) (hW : 2 * g.monitorRoom + (rest.map fun v => v.category).sum ≤ W9) (hdg : decode c.code g.pc = .ok (.invokevirtual index, 3))
    (hpre : ∀ vm₁, s.WarmedH vm₁ → Pre ⟨T.setVm vm₁, locs, cells, slots⟩ (Value.ref b :: argsL).toArray) :
    (∃ (v : Option Value) (vm₁ : Vm) (B : Pt), s.WarmedH vm₁ ∧ Stand p l e R s m args below meth c B.U B.locs B.cells B.slots ∧ Post ⟨T.setVm vm₁, locs, cells, slots⟩ (Value.ref b :: argsL).toArray v B ∧
      ∀ target, Steps p.tables e below (B.U.setTop { g with pc := g.pc + 3, stack := v.toList ++ rest }) target → Steps p.tables e below (T.setTop g) target) ∨
    (∃ (q : Addr) (vm₁ : Vm) (B : Pt), s.WarmedH vm₁ ∧ Stand p l e R s m args below meth c B.U B.locs B.cells B.slots ∧ PostX ⟨T.setVm vm₁, locs, cells, slots⟩ (Value.ref b :: argsL).toArray q B ∧
      Steps p.tables e below (T.setTop g) ((B.U.setTop { g with stack := rest }).pushFrame (.throwing q))) := by
  obtain ⟨mk, methM, hnamed, hmethM, hstM, habM⟩ := Cond.instanceMethod_spec hinst
  obtain ⟨methM', cM, hmethM', -, -, -, -, -, -, hsigM⟩ := Cond.code_spec hnamed hcode
  cases hmethM.symm.trans hmethM'
  obtain ⟨c2, r2, m2, q1, q2, q3, q4, kP, hkP, hkPi⟩ := Cond.selects_spec hsel
  cases hcls.symm.trans q1
  cases (State.methodFound?_of_named hnamed hy).symm.trans q2
  cases hnamed.symm.trans q3
  have hselP : selectMethod e.platform s.vm cellB.cls mk = .method mk := by rw [Launch.admits_selectMethod X.admits]; exact q4
  obtain ⟨vm₁, X₁, hstep₁⟩ := X.invokevirtual hexec hown hlink hnamed hmethM hstM hkP hkPi hy (a := b) (cell := cellB) hcell
    (fun z h => by rw [h] at hobj; cases hobj) hselP hmethM habM hkP hkPi (g := g) hg (argsL := argsL) (rest := rest) (hlen _ hsigM) hstack hdg
  rcases hK m meth c ⟨T.setVm vm₁, locs, cells, slots⟩ { g with stack := rest } (.invokevirtual index) mk (Value.ref b :: argsL).toArray X₁ hg hsize hdg hW (X₁.named hnamed) (hpre vm₁ X₁.warmed) with ⟨v, B, X', hpost, hsteps⟩ | ⟨q, B, X', hpost, hsteps⟩
  · exact Or.inl ⟨v, vm₁, B, X₁.warmed, X', hpost, fun target h => hstep₁ _ fun acts => by rw [doInvoke_state]; exact hsteps.trans h⟩
  · exact Or.inr ⟨q, vm₁, B, X₁.warmed, X', hpost, hstep₁ _ fun acts => by rw [doInvoke_state]; exact hsteps⟩
end Calls
theorem vx_cls {s : State} {T : State} {vm₁ : Vm} {E : String} {k : ClassId} (hW : s.WarmedH vm₁) (h : (T.setVm vm₁).vm.findClass E = some k) : s.vm.findClass E = some k := by
  have h1 : vm₁.findClass E = some k := h
  rw [hW.alike.findClass] at h1
  exact h1
/-- the method's frame g, with q thrown over it -/
def vx_W (p : Program) (l : Launch) (e : Env) (R : Room) (s : State) (m : MethodId) (args : Array Value) (below : List Frame) (meth : Method) (c : Code) (H : Heap) (locs : List Loc) (cells slots : Nat) (Q : State → Prop) (g : JFrame) (q : Addr) : Prop :=
  ∀ T : State, T.heap = H → Stand p l e R s m args below meth c T locs cells slots → ∃ t, Steps p.tables e below ((T.setTop g).pushFrame (.throwing q)) t ∧ Q t
def vx_Run (p : Program) (l : Launch) (e : Env) (R : Room) (s : State) (m : MethodId) (args : Array Value) (below : List Frame) (meth : Method) (c : Code) (H : Heap) (locs : List Loc) (cells slots mc ms : Nat) (g : JFrame) (rest : List Value) (Qa : State → Outcome → State → Prop) (XC : String → State → State → Prop) (free : Addr → Prop) : Prop :=
  ∀ T : State, T.heap = H → Stand p l e R s m args below meth c T locs cells slots →
    (∃ (v : Option Value) (st₀ t T' : State) (L : List Loc), st₀.heap = H ∧ Stand p l e R s m args below meth c T' (locs ++ L) (cells + mc) (slots + ms) ∧ (∀ q ∈ L, free q.base) ∧ T'.heap = t.heap ∧ T'.vm = t.vm ∧ Qa st₀ (.returned v) t ∧
      Goes p e below T g T' { g with pc := g.pc + 3, stack := v.toList ++ rest }) ∨
    (∃ (q : Addr) (st₀ t T' : State) (L : List Loc) (E : String) (ce : Cell), st₀.heap = H ∧ Stand p l e R s m args below meth c T' (locs ++ L) (cells + mc) (slots + ms) ∧ (∀ z ∈ L, free z.base) ∧ T'.heap = t.heap ∧ T'.vm = t.vm ∧ XC E st₀ t ∧ t.heap[q]? = some ce ∧ ce.vm = .none ∧ s.vm.findClass E = some ce.cls ∧
      Steps p.tables e below (T.setTop g) ((T'.setTop { g with stack := rest }).pushFrame (.throwing q)))
def vx_X {S : Type} (px : S → Prop) (B : String → S → State → Prop) (A : Nat → Prop) : String → State → State → Prop := fun E st t => ∃ u : S, px u ∧ B E u t ∧ va_F A st t
section Runs
variable {p : Program} {l : Launch} {e : Env} {R : Room} {s : State} {m : MethodId} {args : Array Value} {below : List Frame} {meth : Method} {c : Code} {H : Heap} {locs : List Loc} {cells slots : Nat}
variable {y : MethodName} {bytes cc : ByteArray} {maxL nL mc ms n index : Nat} {ret : Option FieldType} {ws : List Cond} {rm : Room} {Pc : Array Value → State → Prop} {Qc : Array Value → State → Outcome → State → Prop} {XC : String → State → State → Prop} {free : Addr → Prop} {Ts : List Cond} {own C : String} {b : Addr} {As rest : List Value} {g : JFrame}
theorem vx_callBack (cb : CallB R s args own index y bytes maxL ret ws rm mc ms n) (hM : vx_Met l y ws rm Pc Qc XC mc ms free) (hbl : FrameBlind Pc) : vx_Back l R p e below s args y 3 8 (PreOf R mc ms Pc) (PostOf Qc mc ms free) (vx_Post XC mc ms free) := by
  obtain ⟨hrc, hrs, hfr, hlo, hws, hcw, -, hini, -⟩ := cb
  exact vx_back (bytes := bytes) (maxL := maxL) (ret := ret) hM hbl hrc hrs hfr hlo hws hcw (fun a' U hW => word_at hW (Or.inl (by first | rfl | simp [Cond.onTables, Cond.keeps, Cond.steady])) hini)
theorem vx_runV (S : CallFix p m c cc nL s args Ts own) (hM : vx_Met l y ws rm Pc Qc XC mc ms free) (cw : CallW R s args own C index y bytes maxL ret ws rm mc ms n) (hp : PreV s H C b Pc As)
    (hg : g.method = m) (hn : As.length = n) (hsize : g.locals.size = nL) (hstack : g.stack = As.reverse ++ .ref b :: rest) (hW : 2 * g.monitorRoom + (rest.map fun v => v.category).sum ≤ 8) (hdg : decode cc g.pc = .ok (.invokevirtual index, 3)) (hf : cells + mc ≤ R.cells ∧ slots + ms ≤ R.slots) :
    vx_Run p l e R s m args below meth c H locs cells slots mc ms g rest (Qc (Value.ref b :: As).toArray) XC free := by
  have hK : vx_Back l R p e below s args y 3 8 (PreOf R mc ms Pc) (PostOf Qc mc ms free) (vx_Post XC mc ms free) := vx_callBack cw.1 hM hp.1
  obtain ⟨⟨-, -, -, -, -, -, hcode, -, hy, hlen, hl⟩, hin, hse⟩ := cw
  obtain ⟨hx, hb, hml, ho, -⟩ := S
  obtain ⟨-, ⟨cellB, hcB, hoB, hclB⟩, hPc⟩ := hp
  intro T hT X
  rcases vx_callV X hx (C := C) (bytes := bytes) (maxL := maxL) (ret := ret) ho hl hin hse hcode hy hK (by rw [hT]; exact hcB) hoB hclB hg (hsize.trans hml.symm) (argsL := As) (rest := rest) (fun sig h => hn.trans (hlen sig h)) hstack hW (by rw [hb]; exact hdg)
    (fun vm₁ hW₁ => ⟨hf.1, hf.2, hPc (T.setVm vm₁) hT hW₁⟩) with ⟨v, vm₁, ⟨U', l2, c2, s2⟩, hW₁, X', ⟨g', mk, t, L, e1, e2, hq, h1, hL, h2, h3⟩, st⟩ | ⟨q, vm₁, ⟨U', l2, c2, s2⟩, hW₁, X', ⟨g', mk, t, L, E, ce, e1, e2, hq, hce, hcv, hcl, h1, hL, h2, h3⟩, st⟩
  · dsimp only [Pt.U, Pt.locs, Pt.cells, Pt.slots] at X' e1 e2 h1 h2 h3 st
    subst h1; subst h2; subst h3
    exact Or.inl ⟨v, (T.setVm vm₁).calling g' mk (Value.ref b :: As).toArray, t, U', L, hT, X', hL, e1, e2, hq, st⟩
  · dsimp only [Pt.U, Pt.locs, Pt.cells, Pt.slots] at X' e1 e2 h1 h2 h3 st hcl
    subst h1; subst h2; subst h3
    exact Or.inr ⟨q, (T.setVm vm₁).calling g' mk (Value.ref b :: As).toArray, t, U', L, E, ce, hT, X', hL, e1, e2, hq, hce, hcv, vx_cls hW₁ hcl, st⟩
end Runs
section Rows
variable {p : Program} {l : Launch} {e : Env} {R : Room} {s : State} {m : MethodId} {args : Array Value} {below : List Frame} {meth : Method} {c : Code} {H : Heap} {locs : List Loc} {cells slots : Nat} {Q : State → Prop}
variable {mc ms : Nat} {free : Addr → Prop} {A0 A1 : Nat → Prop} {H0 : Heap} {a : Array Value} {pc : Nat} {ls : Array Slot} {st0 rest : List Value}
theorem vx_keep {st₀ t T' : State} {L : List Loc} (h0 : st₀.heap = H) (e1 : T'.heap = t.heap) (hS : va_S A0 H0 H locs) (hA : ∀ q, q < H.size → A1 q → A0 q) (hf : ∀ q, free q → A0 q) (hL : ∀ q ∈ L, free q.base) (hF : va_F A1 st₀ t) :
    H.size ≤ T'.heap.size ∧ (∀ q : Nat, q < H.size → ¬ A1 q → T'.heap[q]? = H[q]?) ∧ va_S A0 H0 T'.heap (locs ++ L) := by
  obtain ⟨hz, hk⟩ := hF
  rw [h0] at hz hk
  exact ⟨by rw [e1]; exact hz, fun q h1 h2 => by rw [e1]; exact hk q h1 h2,
    ⟨Nat.le_trans hS.1 (by rw [e1]; exact hz), fun q h1 h2 => by rw [e1, hk q (Nat.lt_of_lt_of_le h1 hS.1) (fun z => h2 (hA q (Nat.lt_of_lt_of_le h1 hS.1) z))]; exact hS.2.1 q h1 h2, fun q hq => by
      rcases List.mem_append.mp hq with h | h
      · exact hS.2.2 q h
      · exact hf _ (hL q h)⟩⟩
theorem vx_calli {S SX : Type} {post : Int32 → S → Prop} {px : SX → Prop} {B : S → State → Prop} {BX : String → SX → State → Prop} {AX : Nat → Prop} (hr : vx_Run p l e R s m args below meth c H locs cells slots mc ms (F0 m pc ls st0) rest (va_Qi post B A1 a) (vx_X px BX AX) free) (hS : va_S A0 H0 H locs) (hA : ∀ q, q < H.size → A1 q → A0 q) (hf : ∀ q, free q → A0 q) (hAX : ∀ q, q < H.size → AX q → A0 q)
    (kx : ∀ (E : String) (ce : Cell) (q9 : Addr) (u : SX) (t : State) (H1 : Heap) (locs1 : List Loc), t.heap = H1 → s.vm.Alike t.vm → px u → BX E u t → H.size ≤ H1.size → (∀ q : Nat, q < H.size → ¬ AX q → H1[q]? = H[q]?) → va_S A0 H0 H1 locs1 → H1[q9]? = some ce → ce.vm = .none → s.vm.findClass E = some ce.cls → vx_W p l e R s m args below meth c H1 locs1 (cells + mc) (slots + ms) Q (F0 m pc ls rest) q9)
    (kk : ∀ (r : Int32) (u : S) (t : State) (H1 : Heap) (locs1 : List Loc), t.heap = H1 → s.vm.Alike t.vm → post r u → B u t → H.size ≤ H1.size → (∀ q : Nat, q < H.size → ¬ A1 q → H1[q]? = H[q]?) → va_S A0 H0 H1 locs1 → W p l e R s m args below meth c H1 locs1 (cells + mc) (slots + ms) Q (F0 m (pc + 3) ls (.int r :: rest))) : W p l e R s m args below meth c H locs cells slots Q (F0 m pc ls st0) := by
  intro T hT X
  rcases hr T hT X with ⟨v, st₀, t, T', L, h0, X', hL, e1, e2, ⟨⟨r, u, hv, hp, hb⟩, hF⟩, st⟩ | ⟨q, st₀, t, T', L, E, ce, h0, X', hL, e1, e2, ⟨u, hp, hb, hF⟩, hce, hcv, hcl, st⟩
  · cases hv
    obtain ⟨k1, k2, k3⟩ := vx_keep h0 e1 hS hA hf hL hF
    obtain ⟨t2, a1, b1⟩ := kk r u t T'.heap (locs ++ L) e1.symm (by rw [← e2]; exact X'.warmed.alike) hp hb k1 k2 k3 T' rfl X'
    exact ⟨t2, st t2 a1, b1⟩
  · obtain ⟨k1, k2, k3⟩ := vx_keep h0 e1 hS hAX hf hL hF
    obtain ⟨t2, a1, b1⟩ := kx E ce q u t T'.heap (locs ++ L) e1.symm (by rw [← e2]; exact X'.warmed.alike) hp hb k1 k2 k3 (by rw [e1]; exact hce) hcv hcl T' rfl X'
    exact ⟨t2, st.trans a1, b1⟩
end Rows
section Ends
variable {p : Program} {l : Launch} {e : Env} {R : Room} {s : State} {m : MethodId} {args : Array Value} {below : List Frame} {meth : Method} {c : Code} {H : Heap} {locs : List Loc} {cells slots : Nat} {Q : State → Prop}
variable {mc ms : Nat} {free : Addr → Prop} {A0 A1 : Nat → Prop} {H0 : Heap} {a : Array Value} {ls : Array Slot} {st0 rest : List Value}
variable {Qc : Array Value → State → Outcome → State → Prop} {XC : String → State → State → Prop}
/-- what a body that may throw owes at its end -/
def vx_MQ (below : List Frame) (Qc : Array Value → State → Outcome → State → Prop) (XC : String → State → State → Prop) (a : Array Value) (s : State) (mc ms : Nat) (free : Addr → Prop) : State → Prop := fun t =>
  ∃ o, t.status = .running ∧ Ended t below o ∧ vx_Q Qc XC mc ms free a s o t
theorem vx_ret {g : JFrame} {mc ms : Nat} (k : W p l e R s m args below meth c H locs cells slots (MQ below Qc args s mc ms free) g) : W p l e R s m args below meth c H locs cells slots (vx_MQ below Qc XC args s mc ms free) g := by
  intro T hT X
  obtain ⟨t, a1, o, b1, b2, b3, b4⟩ := k T hT X
  exact ⟨t, a1, o, b1, b2, Or.inl ⟨b3, b4⟩⟩
/-- not caught here: it goes on to the caller -/
theorem vx_widen {g : JFrame} {q : Addr} {k n : Nat} (h1 : cells ≤ k) (h2 : slots ≤ n) (kk : vx_W p l e R s m args below meth c H locs k n Q g q) : vx_W p l e R s m args below meth c H locs cells slots Q g q := fun T hT X => kk T hT (stand_widen X h1 h2)
theorem vx_out {pc : Nat} {E : String} {ce : Cell} {q : Addr} {mc ms : Nat} (hout : ∀ x ∈ c.exceptionTable.toList, covers x pc = false) (hlocks : meth.locks = false) (hcell : H[q]? = some ce) (hv : ce.vm = .none) (hcl : s.vm.findClass E = some ce.cls)
    (hx : ∀ t : State, t.heap = H → s.vm.Alike t.vm → XC E s t) (hf : ∀ z ∈ locs, free z.base) (hc : cells ≤ mc) (hs : slots ≤ ms) :
    vx_W p l e R s m args below meth c H locs cells slots (vx_MQ below Qc XC args s mc ms free) (F0 m pc ls rest) q := by
  intro T hT X
  obtain ⟨st1, hrun, hend, hW, hsm⟩ := X.leaveThrown q (g := F0 m pc ls rest) rfl rfl rfl hout hlocks
  have hcell9 : (T.setFrames (.throwing q :: below)).heap[q]? = some ce := by
    show T.heap[q]? = some ce
    rw [hT]; exact hcell
  exact ⟨_, st1, .threw q, hrun, hend, Or.inr ⟨q, rfl, E, ce, locs, hx _ hT hW.alike, hcell9, hv, hcl, hW, hsm.mono hc hs, hf⟩⟩
theorem vx_frame {U : State} {k n : Nat} (h : s.sameButNew ({ U with vm := s.vm } : State) locs k n) : s.heap.size ≤ U.heap.size ∧ ∀ q : Nat, q < s.heap.size → (∀ z ∈ locs, z.base ≠ q) → U.heap[q]? = s.heap[q]? := by
  obtain ⟨-, h2, -, -, -, h6⟩ := h
  refine ⟨h2, fun q hq hz => ?_⟩
  obtain ⟨c9, e1, e2, e3, e4⟩ := h6 q _ (Array.getElem?_eq_getElem hq)
  have hs : c9.slots = (s.heap[q]).slots := Array.ext_getElem? fun i => e4 i fun hm => hz _ hm rfl
  have h9 : c9 = s.heap[q] := by
    rw [hs] at e2
    exact e2
  have e5 : U.heap[q]? = some c9 := e1
  rw [e5, h9, Array.getElem?_eq_getElem hq]
/-- the words of a throw but the four that speak of the heap -/
def vx_no (w : Cond) : Bool := decide (w ≠ .isRef (.static Bundle.tN "UNASSIGNED_STACK" Bundle.steD)) && decide (w ≠ .isRef (.static Bundle.tN "SUPPRESSED_SENTINEL" Bundle.listD)) && decide (w ≠ .laysStatic Bundle.tN "UNASSIGNED_STACK" Bundle.steD) && decide (w ≠ .laysStatic Bundle.tN "SUPPRESSED_SENTINEL" Bundle.listD)
def vx_at0 (own : String) (ic : Nat) (X : String) (names : List String) : List Cond := (Bundle.ownAtoms0 own ic X names).filter vx_no
/-- a word that the tables alone decide, or a good one -/
def vx_ot (w : Cond) : Bool := w.onTables || goodWord w
theorem vx_ot_at {args a' : Array Value} {s U : State} {w : Cond} (hW : s.WarmedH U.vm) (hvm : s.vm = U.vm) (hg : vx_ot w = true) (h : w.before args s = true) : w.before a' U = true := by
  simp only [vx_ot, Bool.or_eq_true] at hg
  rcases hg with hg | hg
  · exact va_tabs hg hvm h
  · exact word_at hW (good_of_word hg) h
/-- a list's words: the good ones out of the method's own list, the others by premises of their own -/
theorem vx_hat {args : Array Value} {s : State} {L B : List Cond} (h1 : ∀ w ∈ L.filter goodWord, w.before args s = true) (h2 : ∀ w ∈ L.filter (fun w => !goodWord w), w ∈ B) (h3 : ∀ w ∈ B, w.before args s = true) : ∀ w ∈ L, w.before args s = true := by
  intro w hw
  by_cases g : goodWord w = true
  · exact h1 w (List.mem_filter.mpr ⟨hw, g⟩)
  · refine h3 w (h2 w (List.mem_filter.mpr ⟨hw, ?_⟩))
    show (!goodWord w) = true
    cases hgw : goodWord w
    · rfl
    · exact absurd hgw g
theorem vx_c {args : Array Value} {s : State} {w : Cond} {B : List Cond} (h : w.before args s = true) (t : ∀ w ∈ B, w.before args s = true) : ∀ w' ∈ w :: B, w'.before args s = true := fun w' h' => (List.mem_cons.mp h').elim (fun e => by rw [e]; exact h) (t w')
theorem vx_n {args : Array Value} {s : State} : ∀ w ∈ ([] : List Cond), w.before args s = true := fun _ h => nomatch h
theorem vx_own {args : Array Value} {s : State} {L : List Cond} (h1 : ∀ w ∈ L.filter vx_no, w.before args s = true)
    (hU : (Cond.isRef (.static Bundle.tN "UNASSIGNED_STACK" Bundle.steD)).before args s = true) (hN : (Cond.isRef (.static Bundle.tN "SUPPRESSED_SENTINEL" Bundle.listD)).before args s = true)
    (lU : (Cond.laysStatic Bundle.tN "UNASSIGNED_STACK" Bundle.steD).before args s = true) (lN : (Cond.laysStatic Bundle.tN "SUPPRESSED_SENTINEL" Bundle.listD).before args s = true) : ∀ w ∈ L, w.before args s = true := by
  intro w hw
  by_cases e1 : w = .isRef (.static Bundle.tN "UNASSIGNED_STACK" Bundle.steD)
  · rw [e1]; exact hU
  · by_cases e2 : w = .isRef (.static Bundle.tN "SUPPRESSED_SENTINEL" Bundle.listD)
    · rw [e2]; exact hN
    · by_cases e3 : w = .laysStatic Bundle.tN "UNASSIGNED_STACK" Bundle.steD
      · rw [e3]; exact lU
      · by_cases e4 : w = .laysStatic Bundle.tN "SUPPRESSED_SENTINEL" Bundle.listD
        · rw [e4]; exact lN
        · exact h1 w (List.mem_filter.mpr ⟨hw, by unfold vx_no; rw [decide_eq_true e1, decide_eq_true e2, decide_eq_true e3, decide_eq_true e4]; rfl⟩)
/-- where a static field lies, its class's statics cell in H -/
def vx_L (C n d : String) (A : Nat → Prop) (U : State) (H : Heap) : Prop := ∃ (c : ClassId) (k : Class) (i : Nat) (f : Field) (a : Nat) (cell : Cell), U.vm.findClass C = some c ∧ U.fieldFound? C n d = some (c, k, i, f) ∧ f.isStatic = true ∧ k.statics = some a ∧ H[a]? = some cell ∧ cell.vm.isStatics = true ∧ cell.cls = c ∧ f.slot < cell.slots.size ∧ k.staticTypes[f.slot]? = some f.type ∧ ¬ A a
theorem vx_L.moved {C n d : String} {A : Nat → Prop} {u U : State} {H : Heap} (hvm : u.vm.Alike U.vm) (h : vx_L C n d A u H) : vx_L C n d A U H := by
  obtain ⟨c, k, i, f, a, cell, h1, h2, h3, h4, h5, h6, h7, h8, h9, h10⟩ := h
  obtain ⟨k', hi', he⟩ := State.fieldFound?_setVm hvm h2
  exact ⟨c, k', i, f, a, cell, by rw [hvm.findClass]; exact h1, hi', h3, by rw [he]; exact h4, h5, h6, h7, h8, by rw [he]; exact h9, h10⟩
theorem vx_L.kept {C n d : String} {A : Nat → Prop} {U : State} {H H1 : Heap} (h : vx_L C n d A U H) (hq : ∀ a : Nat, a < H.size → ¬ A a → H1[a]? = H[a]?) : vx_L C n d A U H1 := by
  obtain ⟨c, k, i, f, a, cell, h1, h2, h3, h4, h5, h6, h7, h8, h9, h10⟩ := h
  exact ⟨c, k, i, f, a, cell, h1, h2, h3, h4, by rw [hq a (Array.getElem?_eq_some_iff.mp h5).1 h10]; exact h5, h6, h7, h8, h9, h10⟩
theorem vx_L.narrow {C n d : String} {A B : Nat → Prop} {U : State} {H : Heap} (h : vx_L C n d A U H) (hAB : ∀ q, B q → A q) : vx_L C n d B U H := by
  obtain ⟨c, k, i, f, a, cell, h1, h2, h3, h4, h5, h6, h7, h8, h9, h10⟩ := h
  exact ⟨c, k, i, f, a, cell, h1, h2, h3, h4, h5, h6, h7, h8, h9, fun z => h10 (hAB _ z)⟩
theorem vx_L.word {C n d : String} {A : Nat → Prop} {s : State} {args : Array Value} (h : vx_L C n d A s s.heap) : (Cond.laysStatic C n d).before args s = true := by
  obtain ⟨c, k, i, f, a, cell, h1, h2, h3, h4, h5, h6, h7, h8, h9, -⟩ := h
  show (Cond.laysStatic C n d).holds args s none s [] = true
  exact Cond.laysStatic_of h1 h2 h3 h4 h5 h6 h7 h8 h9
/-- .. and what it holds: null or some reference -/
def vx_Zq (C n d : String) (A : Nat → Prop) (U : State) (H : Heap) : Prop := va_Zq C n d A U H ∧ vx_L C n d A U H
theorem vx_Zq.moved {C n d : String} {A : Nat → Prop} {u U : State} {H : Heap} (hvm : u.vm.Alike U.vm) (h : vx_Zq C n d A u H) : vx_Zq C n d A U H := ⟨va_Zq.moved hvm h.1, vx_L.moved hvm h.2⟩
theorem vx_Zq.kept {C n d : String} {A : Nat → Prop} {U : State} {H H1 : Heap} (h : vx_Zq C n d A U H) (hq : ∀ a : Nat, a < H.size → ¬ A a → H1[a]? = H[a]?) : vx_Zq C n d A U H1 := ⟨va_Zq.kept h.1 hq, vx_L.kept h.2 hq⟩
theorem vx_Zq.narrow {C n d : String} {A B : Nat → Prop} {U : State} {H : Heap} (h : vx_Zq C n d A U H) (hAB : ∀ q, B q → A q) : vx_Zq C n d B U H := ⟨va_Zq.narrow h.1 hAB, vx_L.narrow h.2 hAB⟩
theorem vx_Zqof {args : Array Value} {s : State} {C n d : String} {A : Nat → Prop} (hl : (Cond.laysStatic C n d).before args s = true) (hini : (Cond.initialized C).before args s = true) (h : (Cond.isRef (.static C n d)).before args s = true) (hA : ∀ a : Nat, a < s.heap.size → ¬ A a) : vx_Zq C n d A s s.heap := by
  refine ⟨va_Zqof hl hini h hA, ?_⟩
  obtain ⟨c, k, i, f, a, cell, h1, h2, h3, h4, h5, h6, h7, h8, h9⟩ := Cond.laysStatic_spec hl
  exact ⟨c, k, i, f, a, cell, h1, h2, h3, h4, h5, h6, h7, h8, h9, hA a (Array.getElem?_eq_some_iff.mp h5).1⟩
theorem vx_isRef {C n d : String} {v : Value} {A : Nat → Prop} {s : State} {args : Array Value} (h : va_Z C n d v A s s.heap) (hv : v.isRef = true) : (Cond.isRef (.static C n d)).before args s = true := by
  obtain ⟨cf, kf, fi, f, a, cell, h1, h2, h3, h4, h5, h6, h7, -⟩ := h
  have he : (Term.static C n d).eval args s none [] s = some v := by
    simp [Term.eval, State.fieldNamed?, h1, h2, h4, h5, h6, h7]
  simp only [Cond.before, Cond.holds, Cond.value, he]
  cases v <;> simp_all [Value.isRef]
theorem vx_isRefq {C n d : String} {A : Nat → Prop} {s : State} {args : Array Value} (h : va_Zq C n d A s s.heap) : (Cond.isRef (.static C n d)).before args s = true := by
  rcases h with h | ⟨t, h⟩
  · exact vx_isRef h rfl
  · exact vx_isRef h rfl
/-- the same frame, seen from here: as if the method were called anew in this heap -/
theorem vx_rebase {T : State} (X : Stand p l e R s m args below meth c T locs cells slots) {R' : Room} (hf : R'.frames ≤ R.frames) (hl : R'.locals ≤ R.locals) (hc : cells + R'.cells ≤ R.cells) (hs : slots + R'.slots ≤ R.slots) :
    Stand p l e R' ((T.setVm s.vm).setFrames (.invoking m args :: below)) m args below meth c T [] 0 0 := by
  have htop : (T.setVm s.vm).topJava?.isSome := X.here.top
  have hF : ((T.setVm s.vm).setFrames (.invoking m args :: below)).frames = .invoking m args :: below := State.frames_setFrames _ (State.cur_lt_of_top htop)
  obtain ⟨g₀, hg0⟩ := Option.isSome_iff_exists.mp htop
  obtain ⟨r, hr⟩ := State.topJava?_eq_some.mp hg0
  have hl9 : e.platform.stackLimits (T.setVm s.vm).me = e.platform.stackLimits s.me := X.limits
  have hb9 : (T.setVm s.vm).me.stackBytes = s.me.stackBytes := X.bytes
  refine ⟨X.admits, X.cas, X.clock, hF, ?_, X.hears, X.method, X.code, X.here, X.tail, X.warmed, ?_, ?_, ?_⟩
  · have h := X.room
    have hU : ((T.setVm s.vm).setFrames (.invoking m args :: below)).localsInUse = s.localsInUse := by
      rw [State.localsInUse_invoking hF (meth := meth) (c := c) X.method X.code, State.localsInUse_invoking X.frames X.method X.code]
    simp only [State.hasRoom, Bool.and_eq_true, decide_eq_true_eq] at h ⊢
    obtain ⟨⟨⟨⟨h1, h2, h3, h4, h5, h6⟩, h7⟩, h8⟩, h9⟩ := h
    rw [X.frames, List.length_cons] at h2 h3
    have q1 := X.heapSize
    have q2 := X.used
    simp only [hF, hU, List.length_cons, State.stackLimits_setFrames, State.stackBytes_setFrames, hl9, hb9]
    refine ⟨⟨⟨⟨by omega, by omega, by omega, by omega, by omega, h6⟩, ?_⟩, ?_⟩, X.book⟩
    · show T.heap.size + R'.cells ≤ e.platform.maxCells
      omega
    · show T.slotsUsed + R'.slots ≤ e.platform.maxSlots
      omega
  · rw [State.stackLimits_setFrames]; rfl
  · rw [State.stackBytes_setFrames]; rfl
  · refine ⟨?_, Nat.le_refl _, Nat.le_refl _, ?_, ?_, fun a c9 h9 => ⟨c9, h9, rfl, rfl, fun _ _ => rfl⟩⟩
    · obtain ⟨t, ht, -⟩ := State.frames_cons hr
      show T.setVm s.vm = { ((T.setVm s.vm).setFrames (.invoking m args :: below)).setFrames (T.setVm s.vm).frames with heap := T.heap, slotsUsed := T.slotsUsed }
      rw [State.setFrames_setFrames, State.setFrames_self ht]
      rfl
    · show T.slotsUsed = T.slotsUsed + ((T.heap.toList.drop T.heap.size).map (·.slots.size)).sum
      rw [List.drop_eq_nil_of_le (Nat.le_of_eq Array.length_toList)]
      rfl
    · show ((T.heap.toList.drop T.heap.size).map (·.slots.size)).sum ≤ 0
      rw [List.drop_eq_nil_of_le (Nat.le_of_eq Array.length_toList)]
      exact Nat.le_refl _
/-- 'throw new E()': new; dup; invokespecial; athrow -/
theorem vx_throw0 {cc : ByteArray} {pc : Nat} (hexec : p.tables.exec = Jvm.exec) (hb : c.code = cc) (hl : l.stackTraces = false) {own cls : String} {names : List String} {ik ic mc ms : Nat} {A : Nat → Prop}
    (hown : s.vm.findClass own = some m.cls) (hcls : Bundle.fit cls = true) (hnames : ∀ n ∈ names, Bundle.fit n = true)
    (hk : (Cond.classLink own ik cls).before args s = true) (hini : (Cond.initialized cls).before args s = true) (hat : ∀ w ∈ vx_at0 own ic cls names, w.before args s = true)
    (hgood : ∀ w ∈ Cond.classLink own ik cls :: Cond.initialized cls :: vx_at0 own ic cls names, vx_ot w = true)
    (hU : vx_Zq Bundle.tN "UNASSIGNED_STACK" Bundle.steD A s s.heap) (hN : vx_Zq Bundle.tN "SUPPRESSED_SENTINEL" Bundle.listD A s s.heap) (hS : va_S A s.heap H locs) (hsize : ls.size = c.maxLocals)
    (d0 : decode cc pc = .ok (.new ik, 3)) (d3 : decode cc (pc + 3) = .ok (.dup, 1)) (d4 : decode cc (pc + 4) = .ok (.invokespecial ic, 3)) (d7 : decode cc (pc + 7) = .ok (.athrow, 1))
    (hout : ∀ x ∈ c.exceptionTable.toList, covers x (pc + 7) = false)
    (hRframes : names.length + 3 < R.frames) (hRlocals : (rest.map fun v => v.category).sum + (13 * (names.length + 1) + 42) ≤ R.locals) (hRcells : cells + 1 ≤ R.cells) (hRslots : slots + 6 ≤ R.slots) (hlocks : meth.locks = false)
    (hx : ∀ t : State, s.vm.Alike t.vm → H.size ≤ t.heap.size → (∀ q : Nat, q < H.size → t.heap[q]? = H[q]?) → XC cls s t)
    (hf : ∀ z ∈ locs, free z.base) (hc : cells + 1 ≤ mc) (hs : slots + 6 ≤ ms) :
    W p l e R s m args below meth c H locs cells slots (vx_MQ below Qc XC args s mc ms free) (F0 m pc ls rest) := by
  intro T hT X
  have htr : e.platform.stackTraces = false := (show e.platform.stackTraces = l.stackTraces by rw [X.admits.platform]).trans hl
  have Y := vx_rebase X (R' := { frames := R.frames, locals := R.locals, cells := 1, slots := 6 }) (Nat.le_refl _) (Nat.le_refl _) hRcells hRslots
  obtain ⟨s', hA⟩ : ∃ z, z = (T.setVm s.vm).setFrames (.invoking m args :: below) := ⟨_, rfl⟩
  rw [← hA] at Y
  have hvm : s'.vm = s.vm := by rw [hA]; rfl
  have hhp : s'.heap = H := by rw [hA]; exact hT
  have hW0 : s.WarmedH s'.vm := by rw [hvm]; exact State.WarmedH.refl s
  have hat' : ∀ w ∈ vx_at0 own ic cls names, w.before args s' = true := fun w hw => vx_ot_at hW0 hvm.symm (hgood w (List.mem_cons_of_mem _ (List.mem_cons_of_mem _ hw))) (hat w hw)
  have hk' : (Cond.classLink own ik cls).before args s' = true := vx_ot_at hW0 hvm.symm (hgood _ List.mem_cons_self) hk
  have hini' : (Cond.initialized cls).before args s' = true := vx_ot_at hW0 hvm.symm (hgood _ (List.mem_cons_of_mem _ List.mem_cons_self)) hini
  have hU' : vx_Zq Bundle.tN "UNASSIGNED_STACK" Bundle.steD A s' s'.heap := by rw [hhp]; exact vx_Zq.moved hW0.alike (hU.kept hS.2.1)
  have hN' : vx_Zq Bundle.tN "SUPPRESSED_SENTINEL" Bundle.listD A s' s'.heap := by rw [hhp]; exact vx_Zq.moved hW0.alike (hN.kept hS.2.1)
  have h : ∀ w ∈ Bundle.ownAtoms0 own ic cls names, w.before args s' = true := vx_own hat' (vx_isRefq hU'.1) (vx_isRefq hN'.1) hU'.2.word hN'.2.word
  have hown' : s'.vm.findClass own = some m.cls := by rw [hvm]; exact hown
  have hins : (Cond.instantiable cls 6).before args s' = true := h _ (by simp [Bundle.ownAtoms0])
  obtain ⟨vm₁, cX, kX, hfX, hkX, -, -, X₁, st1⟩ := Y.newCold hexec (own := own) (C := cls) (index := ik) (n := 6) hown' hk' hins hini'
    (g := F0 m pc ls rest) rfl (by rw [hb]; exact d0) (Nat.le_refl _) (Nat.le_refl _)
  generalize hT1 : (T.setVm vm₁).pushCell { cls := cX, slots := kX.instanceTypes.map defaultValue, vm := .none } = T1 at X₁ st1
  have hcat : (Value.ref T.heap.size).category = 1 := rfl
  have hcellA : T1.heap[T.heap.size]? = some (freshCell cX kX) := by rw [← hT1]; exact State.heap_pushCell_size _ _
  have d3' : decode c.code (pc + 3) = .ok (.dup, 1) := by rw [hb]; exact d3
  obtain ⟨U, hsteps, hrun, hend, hW, hsame, ce, hce, hO⟩ := X₁.ctorThrow0 hexec htr (own := own) (cls := cls) (names := names) (ic := ic) hown' hcls hnames h (fun x hx => nomatch hx) hfX hkX hcellA (by rw [hhp, hT]; exact Nat.le_refl _)
    (g := { method := m, pc := pc + 4, locals := ls, stack := .ref T.heap.size :: .ref T.heap.size :: rest, locked := none }) rfl hsize rfl rfl (rest := rest) rfl
    (by rw [hb]; exact d4) (by rw [hb]; exact d7) hout hRframes (by simp only [List.map_cons, List.sum_cons, hcat]; omega) hlocks
  obtain ⟨f1, f2⟩ := vx_frame hsame
  rw [hhp] at f1 f2
  have hWs : s.WarmedH U.vm := State.WarmedH.trans hW0 hW
  have hcl : s.vm.findClass cls = some ce.cls := by
    have h9 := hO.cls
    rw [hvm] at h9
    exact h9
  have hall : s.sameButNew ({ U with vm := s.vm } : State) locs mc ms := by
    subst hA
    obtain ⟨e1, e2⟩ := hsame
    rw [State.setFrames_setFrames] at e1
    have h2 : (T.setVm s.vm).sameButNew ({ U with vm := s.vm } : State) [] (0 + 1) (0 + 6) := ⟨e1, e2⟩
    have h3 := X.same.trans h2
    rw [List.append_nil] at h3
    exact h3.mono hc hs
  refine ⟨U, ?_, .threw T.heap.size, hrun, hend, Or.inr ⟨T.heap.size, rfl, cls, ce, locs, hx U hWs.alike f1 (fun q hq => f2 q hq (fun z hz => nomatch hz)), hce, hO.vm, hcl, hWs, hall, hf⟩⟩
  refine st1 _ ?_
  show Steps p.tables e below (T1.setTop { method := m, pc := pc + 3, locals := ls, stack := .ref T.heap.size :: rest, locked := none }) _
  jvm_step X₁.here [X₁.here.top, hexec, d3', Value.category]
  exact hsteps
end Ends
section Bodies
variable {l : Launch}
theorem vx_ofW {y : MethodName} {ws ws' : List Cond} {rm : Room} {Pc : Array Value → State → Prop} {Qc : Array Value → State → Outcome → State → Prop} {XC : String → State → State → Prop} {mc ms : Nat} {free : Addr → Prop} {cc : ByteArray} {maxL : Nat} {ret : Option FieldType}
    (hy : plainName y.cls = true) (hw : ws = Cond.code y cc maxL ret :: ws')
    (body : ∀ p e s m args below meth c s₁, BodyLoose p l y (headSpec ws rm) cc maxL ret e s m args below meth c s₁ → c.maxLocals = maxL → (∀ x ∈ c.exceptionTable.toList, False) → Pc args s →
      W p l e (headSpec ws rm).room s m args below meth c s.heap [] 0 0 (vx_MQ below Qc XC args s mc ms free) (entryFrame m args maxL)) : vx_Met l y ws rm Pc Qc XC mc ms free := by
  refine MetFree.of_bodyS (code := cc) (maxLocals := maxL) (ret := ret) hy ?_ ?_
  · intro args s m h hn
    obtain ⟨meth, c, h1, h2, h3, h4, h5, h6, -, -⟩ := Cond.code_spec hn (atoms_spec (ws := ws) h _ (by rw [hw]; exact List.mem_cons_self))
    exact ⟨meth, c, h1, h2, h3, h4, h5, h6⟩
  · intro p e s m args below meth c s₁ B hml hP _
    have hh0 : s₁.heap = s.heap := by rw [B.state]; rfl
    have ht : ∀ x ∈ c.exceptionTable.toList, False := by
      obtain ⟨meth9, c9, h1, h2, -, -, -, -, h7, -⟩ := Cond.code_spec B.named (atoms_spec (ws := ws) B.pre _ (by rw [hw]; exact List.mem_cons_self))
      cases Option.some.inj (h1.symm.trans B.method)
      cases Option.some.inj (h2.symm.trans (Stand.of_body B).code)
      intro x hx
      rw [Array.isEmpty_iff.mp h7] at hx
      cases hx
    obtain ⟨t, a1, o, b1, b2, b3⟩ := body p e s m args below meth c s₁ B hml ht hP s₁ hh0 (Stand.of_body B)
    exact ⟨t, o, a1, b1, b2, b3⟩
/-- the table of a body with handlers -/
theorem vx_table {p : Program} {x y : MethodName} {S : Spec} {cc bytes : ByteArray} {maxL maxL' : Nat} {ret ret' : Option FieldType} {e : Env} {s s₁ : State} {m : MethodId} {args : Array Value} {below : List Frame} {meth : Method} {c : Code} {hh : List (Nat × Nat × Nat × Nat)}
    (B : BodyLoose p l y S cc maxL ret e s m args below meth c s₁) (h : (Cond.codeWith y bytes maxL' ret' hh).before args s = true) : c.exceptionTable.toList = tableOf hh := by
  obtain ⟨m9, meth9, c9, hn9, h1, h2, -, -, h6, -⟩ := Cond.codeWith_spec h
  cases Option.some.inj (hn9.symm.trans B.named)
  cases Option.some.inj (h1.symm.trans B.method)
  cases Option.some.inj (h2.symm.trans (Stand.of_body B).code)
  rw [← h6, table_eq]
end Bodies
end VXA
section VXS
variable {p : Program} {l : Launch} {e : Env} {R : Room} {s : State} {m : MethodId} {args : Array Value} {below : List Frame} {meth : Method} {c : Code} {T : State} {H : Heap} {locs : List Loc} {cells slots : Nat}
abbrev vx_CSW (R : Room) (s : State) (args : Array Value) (own : String) (index : Nat) (y : MethodName) (bytes : ByteArray) (maxL : Nat) (ret : Option FieldType) (hh : List (Nat × Nat × Nat × Nat)) (ws : List Cond) (rm : Room) (mc ms n : Nat) : Prop :=
  (rm.cells = mc ∧ rm.slots = ms ∧ rm.frames + 1 ≤ R.frames ∧ 8 + (maxL + 11) + rm.locals ≤ R.locals ∧ (∀ w ∈ ws, ∀ (a' : Array Value) (U : State), s.WarmedH U.vm → w.before a' U = true) ∧ Cond.codeWith y bytes maxL ret hh ∈ ws) ∧
  (Cond.codeWith y bytes maxL ret hh).before args s = true ∧ (Cond.initialized y.cls).before args s = true ∧ (y.cls ≠ "java/lang/invoke/MethodHandle" ∧ y.cls ≠ "java/lang/invoke/VarHandle") ∧
  (∀ sig, parseMethodDescriptor y.desc = some sig → n = sig.parameters.length) ∧ (Cond.methodLink own index y).before args s = true ∧ (Cond.static y).before args s = true
theorem vx_cwSW {own : String} {index maxL mc ms : Nat} {y : MethodName} {bytes : ByteArray} {ret : Option FieldType} {hh : List (Nat × Nat × Nat × Nat)} {Ts ws ws' : List Cond} {rm : Room} (n : Nat) (ht : ∀ w ∈ Ts, w.before args s = true) (hT : GoodIn Ts (va_wsS own index y ws)) (hw : ws = Cond.codeWith y bytes maxL ret hh :: ws') (hrc : rm.cells = mc) (hrs : rm.slots = ms)
    (hd : y.cls ≠ "java/lang/invoke/MethodHandle" ∧ y.cls ≠ "java/lang/invoke/VarHandle" ∧ (parseMethodDescriptor y.desc).map (fun d => d.parameters.length) = some n) (hR : rm.frames + 1 ≤ R.frames ∧ 8 + (maxL + 11) + rm.locals ≤ R.locals) :
    vx_CSW R s args own index y bytes maxL ret hh ws rm mc ms n := by
  have ok : ∀ w ∈ va_wsS own index y ws, w.before args s = true := fun w h => ht w (hT w h).1
  have hG : GoodIn Ts ws := fun w h => hT w (by unfold va_wsS; exact List.mem_append_right _ h)
  have hc : Cond.codeWith y bytes maxL ret hh ∈ ws := by rw [hw]; exact List.mem_cons_self
  refine ⟨⟨hrc, hrs, hR.1, hR.2, pay_in ht hG, hc⟩, ht _ (hG _ hc).1, ok _ (by simp [va_wsS]), ⟨hd.1, hd.2.1⟩, fun sig h => ?_, ok _ (by simp [va_wsS]), ok _ (by simp [va_wsS])⟩
  have h2 := hd.2.2
  rw [h] at h2
  exact (Option.some.inj h2).symm
theorem vx_callSW (X : Stand p l e R s m args below meth c T locs cells slots) (hexec : p.tables.exec = Jvm.exec) {own : String} {index : Nat} {y : MethodName} {bytes : ByteArray} {maxL : Nat} {ret : Option FieldType} {hh : List (Nat × Nat × Nat × Nat)}
    (hown : s.vm.findClass own = some m.cls) (hlink : (Cond.methodLink own index y).before args s = true) (hstat : (Cond.static y).before args s = true) (hinit : (Cond.initialized y.cls).before args s = true)
    (hcode : (Cond.codeWith y bytes maxL ret hh).before args s = true) (hy : y.cls ≠ "java/lang/invoke/MethodHandle" ∧ y.cls ≠ "java/lang/invoke/VarHandle")
    {W9 : Nat} {Pre : Pt → Array Value → Prop} {Post : Pt → Array Value → Option Value → Pt → Prop} (hK : Back l R p e below s args y 3 W9 Pre Post)
    {g : JFrame} (hg : g.method = m) (hsize : g.locals.size = c.maxLocals) {argsL rest : List Value} (hlen : ∀ sig, parseMethodDescriptor y.desc = some sig → argsL.length = sig.parameters.length)
    (hstack : g.stack = argsL.reverse ++ rest) (hW : 2 * g.monitorRoom + (rest.map fun v => v.category).sum ≤ W9) (hdg : decode c.code g.pc = .ok (.invokestatic index, 3))
    (hpre : ∀ vm₁, s.WarmedH vm₁ → Pre ⟨T.setVm vm₁, locs, cells, slots⟩ argsL.toArray) :
    ∃ (v : Option Value) (vm₁ : Vm) (B : Pt), s.WarmedH vm₁ ∧ Stand p l e R s m args below meth c B.U B.locs B.cells B.slots ∧ Post ⟨T.setVm vm₁, locs, cells, slots⟩ argsL.toArray v B ∧
      ∀ target, Steps p.tables e below (B.U.setTop { g with pc := g.pc + 3, stack := v.toList ++ rest }) target → Steps p.tables e below (T.setTop g) target := by
  obtain ⟨mk, methM, cM, hnamed, hmethM, -, -, -, -, -, -, hsigM⟩ := Cond.codeWith_spec hcode
  have hstatic : methM.isStatic = true := Cond.static_spec hnamed hmethM hstat
  obtain ⟨kP, hkP, -⟩ := className_of_methodNamed hnamed
  have hinitP : kP.init = .initialized := Cond.initialized_spec (findClass_of_methodNamed hnamed) hkP hinit
  obtain ⟨vm₁, X₁, hstep₁⟩ := X.invokestatic hexec hown hlink hnamed hmethM hstatic hkP hinitP hy (g := g) hg (argsL := argsL) (rest := rest) (hlen _ hsigM) hstack hdg
  obtain ⟨v, B, X', hpost, hsteps⟩ := hK m meth c ⟨T.setVm vm₁, locs, cells, slots⟩ { g with stack := rest } (.invokestatic index) mk argsL.toArray X₁ hg hsize hdg hW (X₁.named hnamed) (hpre vm₁ X₁.warmed)
  exact ⟨v, vm₁, B, X₁.warmed, X', hpost, fun target h => hstep₁ _ fun acts => by rw [doInvoke_state]; exact hsteps.trans h⟩
theorem vx_runSW {y : MethodName} {bytes cc : ByteArray} {maxL nL mc ms n index : Nat} {ret : Option FieldType} {hh : List (Nat × Nat × Nat × Nat)} {ws : List Cond} {rm : Room} {Pc : Array Value → State → Prop} {Qc : Array Value → State → Outcome → State → Prop} {free : Addr → Prop} {Ts : List Cond} {own : String} {As rest : List Value} {g : JFrame}
    (S : CallFix p m c cc nL s args Ts own) (hM : Met l y ws rm Pc Qc mc ms free) (cw : vx_CSW R s args own index y bytes maxL ret hh ws rm mc ms n) (hp : PreS s H Pc As)
    (hg : g.method = m) (hn : As.length = n) (hsize : g.locals.size = nL) (hstack : g.stack = As.reverse ++ rest) (hW : 2 * g.monitorRoom + (rest.map fun v => v.category).sum ≤ 8) (hdg : decode cc g.pc = .ok (.invokestatic index, 3)) (hf : cells + mc ≤ R.cells ∧ slots + ms ≤ R.slots) :
    va_Run p l e R s m args below meth c H locs cells slots mc ms g rest (Qc As.toArray) (free) := by
  obtain ⟨⟨hrc, hrs, hfr, hlo, hws, hcw⟩, hcode, hini, hy, hlen, hl, hstt⟩ := cw
  have hK : Back l R p e below s args y 3 8 (PreOf R mc ms Pc) (PostOf Qc mc ms free) := va_backW (hh := hh) (bytes := bytes) (maxL := maxL) (ret := ret) hM hp.1 hrc hrs hfr hlo hws hcw (fun a' U hW => word_at hW (Or.inl (by first | rfl | simp [Cond.onTables, Cond.keeps, Cond.steady])) hini)
  obtain ⟨hx, hb, hml, ho, -⟩ := S
  intro T hT X
  obtain ⟨v, vm₁, ⟨U', l2, c2, s2⟩, hW₁, X', ⟨g', mk, t, L, e1, e2, hq, h1, hL, h2, h3⟩, st⟩ := vx_callSW X hx (hh := hh) (bytes := bytes) (maxL := maxL) (ret := ret) ho hl hstt hini hcode hy hK hg (hsize.trans hml.symm) (argsL := As) (rest := rest) (fun sig h => hn.trans (hlen sig h)) hstack hW (by rw [hb]; exact hdg)
    (fun vm₁ hW₁ => ⟨hf.1, hf.2, hp.2 (T.setVm vm₁) hT hW₁⟩)
  dsimp only [Pt.U, Pt.locs, Pt.cells, Pt.slots] at X' e1 e2 h1 h2 h3 st
  subst h1; subst h2; subst h3
  exact ⟨v, (T.setVm vm₁).calling g' mk As.toArray, t, U', L, hT, X', hL, e1, e2, hq, st⟩
end VXS
end
section
/-- thrown over a frame of a method whose table has one row: that row covers the place and names a class that takes it, so the walk goes on at its handler. (Our own row: the printed one names a law that rounds don't have.) -/
theorem kCatch {p : Program} {l : Launch} {e : Env} {R : Room} {s : State} {m : MethodId} {args : Array Value} {below : List Frame} {meth : Method} {c : Code} {H : Heap} {locs : List Loc} {cells slots : Nat} {Q : State → Prop} {ls : Array Slot} {rest : List Value} {pc : Nat}
    {own name E : String} {ce : Cell} {q : Addr} {x : ExceptionTableEntry} (hown : s.vm.findClass own = some m.cls) (hone : c.exceptionTable.toList = [x]) (hcov : covers x pc = true) (h0 : x.catchType ≠ 0)
    (hlink : (Cond.classLink own x.catchType name).before args s = true) (hcast : (Cond.castable E name).before args s = true) (hcell : H[q]? = some ce) (hv : ce.vm = .none) (hcl : s.vm.findClass E = some ce.cls)
    (kk : W p l e R s m args below meth c H locs cells slots Q (F0 m x.handlerPc ls [.ref q])) : vx_W p l e R s m args below meth c H locs cells slots Q (F0 m pc ls rest) q := by
  intro T hT X
  have hpl : e.platform.magicAccessors = ({} : Platform).magicAccessors := by rw [X.admits.platform]
  obtain ⟨cE, cN, hE, hN, hasg⟩ := Cond.castable_spec hcast
  obtain ⟨cL, hL, hlk⟩ := Cond.classLink_spec hown hlink e.platform hpl
  cases Option.some.inj (hE.symm.trans hcl)
  cases Option.some.inj (hN.symm.trans hL)
  obtain ⟨S, hSe⟩ : ∃ S : State, S = (T.setTop (F0 m pc ls rest)).pushFrame (.throwing q) := ⟨_, rfl⟩
  have hSv : S.vm = T.vm := by rw [hSe]; rfl
  have hSh : S.heap[q]? = some ce := by rw [hSe]; show T.heap[q]? = some ce; rw [hT]; exact hcell
  have hWS : s.WarmedH S.vm := by rw [hSv]; exact X.warmed
  have hlS : S.vm.ClassLinks e.platform m.cls x.catchType cN := hWS.classLinks hlk
  obtain ⟨hr1, hr2⟩ := (resolveClass_links e.toSetting hlS).op (op := VmOp.resolveClass m.cls x.catchType) rfl
  obtain ⟨vm1, hvm1⟩ : ∃ v : Vm, v = S.vm.noted m.cls x.catchType (.cls cN) := ⟨_, rfl⟩
  have hal : s.vm.Alike vm1 := by rw [hvm1]; exact hWS.alike.noted _ _ _
  obtain ⟨k1, hk1⟩ := Vm.classAt_of_findClass hcl
  obtain ⟨k2, hk2⟩ := Vm.classAt_of_findClass hL
  obtain ⟨k1', hk1', -⟩ := hal.2.2 _ _ hk1
  obtain ⟨k2', hk2', -⟩ := hal.2.2 _ _ hk2
  have hfit : vm1.assignable ce.cls cN = true := by rw [hal.assignable]; exact hasg
  have hns : ∀ k, ce.vm ≠ .statics k := fun k h => by rw [hv] at h; cases h
  have hcv : (decide (x.startPc ≤ pc) && decide (pc < x.endPc)) = true := hcov
  have hm : S.vm.method? m = some meth := by rw [hSv]; exact X.method'
  have hfind : ∀ (Q : Handler → Pre) (E : CtlPost) (d : Bool) (acts : List Action), wp (findHandler (F0 m pc ls rest) q) Q E e d acts S ↔ Q (.found x.handlerPc) d acts (S.setVm vm1) := by
    intro Q E d acts
    rw [W.findHandler_eq (f := F0 m pc ls rest) hm X.code, hone]
    have hcv1 : x.startPc ≤ pc ∧ pc < x.endPc := by simpa using hcv
    rw [hvm1] at hk1' hk2' hfit ⊢
    simp [findHandler.go, F0, hcv1.1, hcv1.2, h0, hr1, hr2, hSh, hns, hk1', hk2', hfit, VmOp.dirties, VmOp.acts]
  obtain ⟨dk, z1, z2, kt, hd, z3, z4, z5, z6, hkt, z7, hop⟩ := hlk.here
  have X' := X.noted (vm' := vm1) (by
    rw [hvm1, hSv]
    exact X.warmed.noted hd hop (State.rightAt_cls hlk))
  obtain ⟨t, st, hq⟩ := kk (T.setVm vm1) hT X'
  refine ⟨t, ?_, hq⟩
  obtain ⟨hgo, hwi⟩ := X.here.throwing (g := F0 m pc ls rest) q
  refine Steps.head hgo hwi ?_
  rw [stepThread_throwing (frames_entered X.here.top _)]
  have hstep : (stepThrowing e S q (.java (F0 m pc ls rest) :: T.frames.tail)).Is ((S.setVm vm1).setFrames (.java { F0 m pc ls rest with pc := x.handlerPc, stack := [.ref q] } :: T.frames.tail)) [] := by
    simp only [stepThrowing, searchFrame, vmDo]
    generalize hgo9 : Sem.go _ e false [] S = res
    obtain ⟨as, rfl, has⟩ := Sem.eq_ok_of hgo9 (a := Handler.found x.handlerPc) (s' := S.setVm vm1) (acts' := []) (by simp [hfind _ _ _ _])
    exact ⟨rfl, has⟩
  rw [← hSe, hstep.1]
  obtain ⟨g₀, hg⟩ := Option.isSome_iff_exists.mp X.here.top
  obtain ⟨r, hr⟩ := State.topJava?_eq_some.mp hg
  have hr' : (T.setVm vm1).frames = .java g₀ :: r := hr
  rw [State.setTop_of_frames _ hr'] at st
  have e1 : (S.setVm vm1).setFrames (.java { F0 m pc ls rest with pc := x.handlerPc, stack := [.ref q] } :: T.frames.tail) = (T.setVm vm1).setFrames (.java (F0 m x.handlerPc ls [.ref q]) :: r) := by
    rw [hSe, State.pushFrame, State.setTop_of_frames _ hr, hr]
    have e2 : ∀ (u : State) (F G : List Frame), ((u.setFrames F).setVm vm1).setFrames G = (u.setVm vm1).setFrames G := fun u F G => by
      rw [show (u.setFrames F).setVm vm1 = (u.setVm vm1).setFrames F from rfl, State.setFrames_setFrames]
    rw [e2, e2]
    rfl
  rw [e1]
  exact st
abbrev kNS : String := "java/util/NoSuchElementException"
abbrev kNs : List String := ["java/lang/RuntimeException", "java/lang/Exception"]
/-- what a throw needs beside the tables' good words: three declared makers, a cast, two statics of Throwable -/
def kThr (A : Nat → Prop) (U : State) : Prop := va_Nw (.declares (Bundle.init0 "java/lang/RuntimeException")) U ∧ va_Nw (.declares (Bundle.init0 "java/lang/Exception")) U ∧ va_Nw (.declares (Bundle.init0 Bundle.tN)) U ∧ va_Nw (.castable kNS kNS) U ∧ vx_Zq Bundle.tN "UNASSIGNED_STACK" Bundle.steD A U U.heap ∧ vx_Zq Bundle.tN "SUPPRESSED_SENTINEL" Bundle.listD A U U.heap
theorem kThr_blind {A : Nat → Prop} : ∀ (U : State) (g : JFrame) (mk : MethodId) (a : Array Value), kThr A U → kThr A (U.calling g mk a) := fun U _ _ _ h => by
  obtain ⟨h1, h2, h3, h4, h5, h6⟩ := h
  exact ⟨va_Nw.same (u := U) rfl rfl h1, va_Nw.same (u := U) rfl rfl h2, va_Nw.same (u := U) rfl rfl h3, va_Nw.same (u := U) rfl rfl h4, vx_Zq.moved (u := U) (Vm.Alike.refl U.vm) h5, vx_Zq.moved (u := U) (Vm.Alike.refl U.vm) h6⟩
theorem kThr_give {A : Nat → Prop} {s : State} {H : Heap} {locs : List Loc} (h : kThr A s) (hS : va_S A s.heap H locs) : ∀ U : State, U.heap = H → s.WarmedH U.vm → kThr A U := fun U hU hW => by
  obtain ⟨h1, h2, h3, h4, h5, h6⟩ := h
  have hq : ∀ a : Nat, a < s.heap.size → ¬ A a → U.heap[a]? = s.heap[a]? := fun a z1 z2 => by rw [hU]; exact hS.2.1 a z1 z2
  exact ⟨va_Nw.warmD hW h1, va_Nw.warmD hW h2, va_Nw.warmD hW h3, va_Nw.warmC hW h4, vx_Zq.moved hW.alike (h5.kept hq), vx_Zq.moved hW.alike (h6.kept hq)⟩
def kBadL : List Cond := [.declares (Bundle.init0 "java/lang/RuntimeException"), .declares (Bundle.init0 "java/lang/Exception"), .declares (Bundle.init0 Bundle.tN), .castable kNS kNS]
theorem kBadL_in : ∀ w ∈ (vx_at0 RX9 144 kNS kNs).filter (fun w => !goodWord w), w ∈ kBadL := by decide +kernel
theorem kThr_bad {A : Nat → Prop} {s : State} {args : Array Value} (h : kThr A s) : ∀ w ∈ kBadL, w.before args s = true := by
  obtain ⟨h1, h2, h3, h4, -, -⟩ := h
  exact vx_c (va_Nw.use rfl h1) (vx_c (va_Nw.use rfl h2) (vx_c (va_Nw.use rfl h3) (vx_c (va_Nw.use rfl h4) vx_n)))
theorem kThr_ot : ∀ w ∈ Cond.classLink RX9 142 kNS :: Cond.initialized kNS :: vx_at0 RX9 144 kNS kNs, vx_ot w = true := by decide +kernel
theorem kAtGood : ((vx_at0 RX9 144 kNS kNs).filter goodWord).all goodWord = true := by decide +kernel
end
