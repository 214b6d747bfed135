section
-- ===== PART A: goes FIRST, ahead of the names: the tables' words, and 'selects' of the private methods out of them =====
/-- a private method of a class that the tables say can be made, by its rows of tables_1 -/
def lw_okq (q : MethodName × Nat) : Prop := (q.1.cls ≠ "java/lang/invoke/MethodHandle" ∧ q.1.cls ≠ "java/lang/invoke/VarHandle") ∧ Cond.instantiable q.1.cls q.2 ∈ tables_1 ∧ Cond.privateMethod q.1 ∈ tables_1 ∧ Cond.instanceMethod q.1 ∈ tables_1
theorem lw_p0 : lw_okq (⟨"NotEnded$Reader", "readClause", "()Z"⟩, 8) := ⟨⟨by decide +kernel, by decide +kernel⟩, List.mem_of_getElem? (i := 49) (by decide +kernel), List.mem_of_getElem? (i := 333) (by decide +kernel), List.mem_of_getElem? (i := 334) (by decide +kernel)⟩
theorem lw_p1 : lw_okq (⟨"NotEnded$Reader", "look", "()C"⟩, 8) := ⟨⟨by decide +kernel, by decide +kernel⟩, List.mem_of_getElem? (i := 49) (by decide +kernel), List.mem_of_getElem? (i := 337) (by decide +kernel), List.mem_of_getElem? (i := 338) (by decide +kernel)⟩
theorem lw_p2 : lw_okq (⟨"NotEnded$Reader", "take", "(C)Z"⟩, 8) := ⟨⟨by decide +kernel, by decide +kernel⟩, List.mem_of_getElem? (i := 49) (by decide +kernel), List.mem_of_getElem? (i := 431) (by decide +kernel), List.mem_of_getElem? (i := 432) (by decide +kernel)⟩
theorem lw_p3 : lw_okq (⟨"NotEnded$Reader", "readSum", "(I)Z"⟩, 8) := ⟨⟨by decide +kernel, by decide +kernel⟩, List.mem_of_getElem? (i := 49) (by decide +kernel), List.mem_of_getElem? (i := 435) (by decide +kernel), List.mem_of_getElem? (i := 436) (by decide +kernel)⟩
theorem lw_p4 : lw_okq (⟨"NotEnded$Reader", "readTerm", "(I)Z"⟩, 8) := ⟨⟨by decide +kernel, by decide +kernel⟩, List.mem_of_getElem? (i := 49) (by decide +kernel), List.mem_of_getElem? (i := 439) (by decide +kernel), List.mem_of_getElem? (i := 440) (by decide +kernel)⟩
theorem lw_p5 : lw_okq (⟨"NotEnded$Reader", "readAtom", "(I)Z"⟩, 8) := ⟨⟨by decide +kernel, by decide +kernel⟩, List.mem_of_getElem? (i := 49) (by decide +kernel), List.mem_of_getElem? (i := 443) (by decide +kernel), List.mem_of_getElem? (i := 444) (by decide +kernel)⟩
theorem lw_p6 : lw_okq (⟨"NotEnded$Reader", "opens", "(I)Z"⟩, 8) := ⟨⟨by decide +kernel, by decide +kernel⟩, List.mem_of_getElem? (i := 49) (by decide +kernel), List.mem_of_getElem? (i := 447) (by decide +kernel), List.mem_of_getElem? (i := 448) (by decide +kernel)⟩
theorem lw_p7 : lw_okq (⟨"NotEnded$Reader", "readNumber", "()Z"⟩, 8) := ⟨⟨by decide +kernel, by decide +kernel⟩, List.mem_of_getElem? (i := 49) (by decide +kernel), List.mem_of_getElem? (i := 454) (by decide +kernel), List.mem_of_getElem? (i := 455) (by decide +kernel)⟩
theorem lw_p8 : lw_okq (⟨"NotEnded$Reader", "write", "(I)Z"⟩, 8) := ⟨⟨by decide +kernel, by decide +kernel⟩, List.mem_of_getElem? (i := 49) (by decide +kernel), List.mem_of_getElem? (i := 458) (by decide +kernel), List.mem_of_getElem? (i := 459) (by decide +kernel)⟩
theorem lw_p9 : lw_okq (⟨"NotEnded$Reader", "keepClause", "(III)Z"⟩, 8) := ⟨⟨by decide +kernel, by decide +kernel⟩, List.mem_of_getElem? (i := 49) (by decide +kernel), List.mem_of_getElem? (i := 465) (by decide +kernel), List.mem_of_getElem? (i := 466) (by decide +kernel)⟩
theorem lw_p10 : lw_okq (⟨"NotEnded$Reader", "readCondition", "(IZ)Z"⟩, 8) := ⟨⟨by decide +kernel, by decide +kernel⟩, List.mem_of_getElem? (i := 49) (by decide +kernel), List.mem_of_getElem? (i := 469) (by decide +kernel), List.mem_of_getElem? (i := 470) (by decide +kernel)⟩
theorem lw_p11 : lw_okq (⟨"NotEnded$Reader", "readTruth", "(IZ)Z"⟩, 8) := ⟨⟨by decide +kernel, by decide +kernel⟩, List.mem_of_getElem? (i := 49) (by decide +kernel), List.mem_of_getElem? (i := 473) (by decide +kernel), List.mem_of_getElem? (i := 474) (by decide +kernel)⟩
theorem lw_p12 : lw_okq (⟨"NotEnded$Reader", "readUnit", "(IZ)Z"⟩, 8) := ⟨⟨by decide +kernel, by decide +kernel⟩, List.mem_of_getElem? (i := 49) (by decide +kernel), List.mem_of_getElem? (i := 477) (by decide +kernel), List.mem_of_getElem? (i := 478) (by decide +kernel)⟩
theorem lw_p13 : lw_okq (⟨"NotEnded$Course", "weigh", "()V"⟩, 19) := ⟨⟨by decide +kernel, by decide +kernel⟩, List.mem_of_getElem? (i := 146) (by decide +kernel), List.mem_of_getElem? (i := 590) (by decide +kernel), List.mem_of_getElem? (i := 591) (by decide +kernel)⟩
theorem lw_p14 : lw_okq (⟨"NotEnded$Course", "tallyHouses", "()V"⟩, 19) := ⟨⟨by decide +kernel, by decide +kernel⟩, List.mem_of_getElem? (i := 146) (by decide +kernel), List.mem_of_getElem? (i := 594) (by decide +kernel), List.mem_of_getElem? (i := 595) (by decide +kernel)⟩
theorem lw_p15 : lw_okq (⟨"NotEnded$Course", "setLettersOfHour", "()V"⟩, 19) := ⟨⟨by decide +kernel, by decide +kernel⟩, List.mem_of_getElem? (i := 146) (by decide +kernel), List.mem_of_getElem? (i := 608) (by decide +kernel), List.mem_of_getElem? (i := 609) (by decide +kernel)⟩
def lw_privs_1 : List (MethodName × Nat) := [(⟨"NotEnded$Reader", "readClause", "()Z"⟩, 8), (⟨"NotEnded$Reader", "look", "()C"⟩, 8), (⟨"NotEnded$Reader", "take", "(C)Z"⟩, 8), (⟨"NotEnded$Reader", "readSum", "(I)Z"⟩, 8), (⟨"NotEnded$Reader", "readTerm", "(I)Z"⟩, 8), (⟨"NotEnded$Reader", "readAtom", "(I)Z"⟩, 8), (⟨"NotEnded$Reader", "opens", "(I)Z"⟩, 8), (⟨"NotEnded$Reader", "readNumber", "()Z"⟩, 8), (⟨"NotEnded$Reader", "write", "(I)Z"⟩, 8), (⟨"NotEnded$Reader", "keepClause", "(III)Z"⟩, 8), (⟨"NotEnded$Reader", "readCondition", "(IZ)Z"⟩, 8), (⟨"NotEnded$Reader", "readTruth", "(IZ)Z"⟩, 8), (⟨"NotEnded$Reader", "readUnit", "(IZ)Z"⟩, 8), (⟨"NotEnded$Course", "weigh", "()V"⟩, 19), (⟨"NotEnded$Course", "tallyHouses", "()V"⟩, 19), (⟨"NotEnded$Course", "setLettersOfHour", "()V"⟩, 19)]
theorem lw_r1 : ∀ q ∈ lw_privs_1, lw_okq q := List.forall_mem_cons.mpr ⟨lw_p0, List.forall_mem_cons.mpr ⟨lw_p1, List.forall_mem_cons.mpr ⟨lw_p2, List.forall_mem_cons.mpr ⟨lw_p3, List.forall_mem_cons.mpr ⟨lw_p4, List.forall_mem_cons.mpr ⟨lw_p5, List.forall_mem_cons.mpr ⟨lw_p6, List.forall_mem_cons.mpr ⟨lw_p7, List.forall_mem_cons.mpr ⟨lw_p8, List.forall_mem_cons.mpr ⟨lw_p9, List.forall_mem_cons.mpr ⟨lw_p10, List.forall_mem_cons.mpr ⟨lw_p11, List.forall_mem_cons.mpr ⟨lw_p12, List.forall_mem_cons.mpr ⟨lw_p13, List.forall_mem_cons.mpr ⟨lw_p14, List.forall_mem_cons.mpr ⟨lw_p15, fun _ h => absurd h List.not_mem_nil⟩⟩⟩⟩⟩⟩⟩⟩⟩⟩⟩⟩⟩⟩⟩⟩
theorem lw_p16 : lw_okq (⟨"NotEnded$Course", "setLettersOf", "(I)V"⟩, 19) := ⟨⟨by decide +kernel, by decide +kernel⟩, List.mem_of_getElem? (i := 146) (by decide +kernel), List.mem_of_getElem? (i := 625) (by decide +kernel), List.mem_of_getElem? (i := 626) (by decide +kernel)⟩
theorem lw_p17 : lw_okq (⟨"NotEnded$Reckoner", "reckon", "([III)I"⟩, 2) := ⟨⟨by decide +kernel, by decide +kernel⟩, List.mem_of_getElem? (i := 83) (by decide +kernel), List.mem_of_getElem? (i := 634) (by decide +kernel), List.mem_of_getElem? (i := 635) (by decide +kernel)⟩
theorem lw_p18 : lw_okq (⟨"NotEnded$Reckoner", "valueOf", "(I)I"⟩, 2) := ⟨⟨by decide +kernel, by decide +kernel⟩, List.mem_of_getElem? (i := 83) (by decide +kernel), List.mem_of_getElem? (i := 639) (by decide +kernel), List.mem_of_getElem? (i := 640) (by decide +kernel)⟩
theorem lw_p19 : lw_okq (⟨"NotEnded$Course", "holdMore", "()V"⟩, 19) := ⟨⟨by decide +kernel, by decide +kernel⟩, List.mem_of_getElem? (i := 146) (by decide +kernel), List.mem_of_getElem? (i := 653) (by decide +kernel), List.mem_of_getElem? (i := 654) (by decide +kernel)⟩
theorem lw_p20 : lw_okq (⟨"NotEnded$Course", "tell", "()V"⟩, 19) := ⟨⟨by decide +kernel, by decide +kernel⟩, List.mem_of_getElem? (i := 146) (by decide +kernel), List.mem_of_getElem? (i := 658) (by decide +kernel), List.mem_of_getElem? (i := 659) (by decide +kernel)⟩
theorem lw_p21 : lw_okq (⟨"NotEnded$Course", "tellThoseKnown", "(I)V"⟩, 19) := ⟨⟨by decide +kernel, by decide +kernel⟩, List.mem_of_getElem? (i := 146) (by decide +kernel), List.mem_of_getElem? (i := 662) (by decide +kernel), List.mem_of_getElem? (i := 663) (by decide +kernel)⟩
theorem lw_p22 : lw_okq (⟨"NotEnded$Course", "goHome", "()V"⟩, 19) := ⟨⟨by decide +kernel, by decide +kernel⟩, List.mem_of_getElem? (i := 146) (by decide +kernel), List.mem_of_getElem? (i := 666) (by decide +kernel), List.mem_of_getElem? (i := 667) (by decide +kernel)⟩
theorem lw_p23 : lw_okq (⟨"NotEnded$Course", "mayGo", "(I)Z"⟩, 19) := ⟨⟨by decide +kernel, by decide +kernel⟩, List.mem_of_getElem? (i := 146) (by decide +kernel), List.mem_of_getElem? (i := 670) (by decide +kernel), List.mem_of_getElem? (i := 671) (by decide +kernel)⟩
theorem lw_p24 : lw_okq (⟨"NotEnded", "heldAtEnd", "(LNotEnded$Rule;JII)I"⟩, 10) := ⟨⟨by decide +kernel, by decide +kernel⟩, List.mem_of_getElem? (i := 27) (by decide +kernel), List.mem_of_getElem? (i := 711) (by decide +kernel), List.mem_of_getElem? (i := 712) (by decide +kernel)⟩
theorem lw_p25 : lw_okq (⟨"NotEnded", "isNoted", "(LNotEnded$Rule;JI)Z"⟩, 10) := ⟨⟨by decide +kernel, by decide +kernel⟩, List.mem_of_getElem? (i := 27) (by decide +kernel), List.mem_of_getElem? (i := 755) (by decide +kernel), List.mem_of_getElem? (i := 756) (by decide +kernel)⟩
theorem lw_p26 : lw_okq (⟨"NotEnded$Notebook", "isSo", "(LNotEnded$Course;I)Z"⟩, 6) := ⟨⟨by decide +kernel, by decide +kernel⟩, List.mem_of_getElem? (i := 211) (by decide +kernel), List.mem_of_getElem? (i := 764) (by decide +kernel), List.mem_of_getElem? (i := 765) (by decide +kernel)⟩
theorem lw_p27 : lw_okq (⟨"NotEnded$Course", "addOneWhoMay", "(II)V"⟩, 19) := ⟨⟨by decide +kernel, by decide +kernel⟩, List.mem_of_getElem? (i := 146) (by decide +kernel), List.mem_of_getElem? (i := 798) (by decide +kernel), List.mem_of_getElem? (i := 799) (by decide +kernel)⟩
theorem lw_p28 : lw_okq (⟨"NotEnded", "isLet", "(LNotEnded$Rule;I)Z"⟩, 10) := ⟨⟨by decide +kernel, by decide +kernel⟩, List.mem_of_getElem? (i := 27) (by decide +kernel), List.mem_of_getElem? (i := 810) (by decide +kernel), List.mem_of_getElem? (i := 811) (by decide +kernel)⟩
theorem lw_p29 : lw_okq (⟨"NotEnded", "barredBy", "(LNotEnded$Rule;)I"⟩, 10) := ⟨⟨by decide +kernel, by decide +kernel⟩, List.mem_of_getElem? (i := 27) (by decide +kernel), List.mem_of_getElem? (i := 820) (by decide +kernel), List.mem_of_getElem? (i := 821) (by decide +kernel)⟩
theorem lw_p30 : lw_okq (⟨"NotEnded", "leastHelp", "(LNotEnded$Rule;JI)I"⟩, 10) := ⟨⟨by decide +kernel, by decide +kernel⟩, List.mem_of_getElem? (i := 27) (by decide +kernel), List.mem_of_getElem? (i := 855) (by decide +kernel), List.mem_of_getElem? (i := 856) (by decide +kernel)⟩
theorem lw_p31 : lw_okq (⟨"NotEnded", "givesUpBy", "(LNotEnded$Rule;JII)Z"⟩, 10) := ⟨⟨by decide +kernel, by decide +kernel⟩, List.mem_of_getElem? (i := 27) (by decide +kernel), List.mem_of_getElem? (i := 879) (by decide +kernel), List.mem_of_getElem? (i := 880) (by decide +kernel)⟩
def lw_privs_2 : List (MethodName × Nat) := [(⟨"NotEnded$Course", "setLettersOf", "(I)V"⟩, 19), (⟨"NotEnded$Reckoner", "reckon", "([III)I"⟩, 2), (⟨"NotEnded$Reckoner", "valueOf", "(I)I"⟩, 2), (⟨"NotEnded$Course", "holdMore", "()V"⟩, 19), (⟨"NotEnded$Course", "tell", "()V"⟩, 19), (⟨"NotEnded$Course", "tellThoseKnown", "(I)V"⟩, 19), (⟨"NotEnded$Course", "goHome", "()V"⟩, 19), (⟨"NotEnded$Course", "mayGo", "(I)Z"⟩, 19), (⟨"NotEnded", "heldAtEnd", "(LNotEnded$Rule;JII)I"⟩, 10), (⟨"NotEnded", "isNoted", "(LNotEnded$Rule;JI)Z"⟩, 10), (⟨"NotEnded$Notebook", "isSo", "(LNotEnded$Course;I)Z"⟩, 6), (⟨"NotEnded$Course", "addOneWhoMay", "(II)V"⟩, 19), (⟨"NotEnded", "isLet", "(LNotEnded$Rule;I)Z"⟩, 10), (⟨"NotEnded", "barredBy", "(LNotEnded$Rule;)I"⟩, 10), (⟨"NotEnded", "leastHelp", "(LNotEnded$Rule;JI)I"⟩, 10), (⟨"NotEnded", "givesUpBy", "(LNotEnded$Rule;JII)Z"⟩, 10)]
theorem lw_r2 : ∀ q ∈ lw_privs_2, lw_okq q := List.forall_mem_cons.mpr ⟨lw_p16, List.forall_mem_cons.mpr ⟨lw_p17, List.forall_mem_cons.mpr ⟨lw_p18, List.forall_mem_cons.mpr ⟨lw_p19, List.forall_mem_cons.mpr ⟨lw_p20, List.forall_mem_cons.mpr ⟨lw_p21, List.forall_mem_cons.mpr ⟨lw_p22, List.forall_mem_cons.mpr ⟨lw_p23, List.forall_mem_cons.mpr ⟨lw_p24, List.forall_mem_cons.mpr ⟨lw_p25, List.forall_mem_cons.mpr ⟨lw_p26, List.forall_mem_cons.mpr ⟨lw_p27, List.forall_mem_cons.mpr ⟨lw_p28, List.forall_mem_cons.mpr ⟨lw_p29, List.forall_mem_cons.mpr ⟨lw_p30, List.forall_mem_cons.mpr ⟨lw_p31, fun _ h => absurd h List.not_mem_nil⟩⟩⟩⟩⟩⟩⟩⟩⟩⟩⟩⟩⟩⟩⟩⟩
theorem lw_p32 : lw_okq (⟨"NotEnded", "holdersWithout", "(LNotEnded$Rule;JI)I"⟩, 10) := ⟨⟨by decide +kernel, by decide +kernel⟩, List.mem_of_getElem? (i := 27) (by decide +kernel), List.mem_of_getElem? (i := 900) (by decide +kernel), List.mem_of_getElem? (i := 901) (by decide +kernel)⟩
theorem lw_p33 : lw_okq (⟨"NotEnded", "lookersOfSize", "(LNotEnded$Rule;JII)I"⟩, 10) := ⟨⟨by decide +kernel, by decide +kernel⟩, List.mem_of_getElem? (i := 27) (by decide +kernel), List.mem_of_getElem? (i := 908) (by decide +kernel), List.mem_of_getElem? (i := 909) (by decide +kernel)⟩
theorem lw_p34 : lw_okq (⟨"java/lang/Throwable", "fillInStackTrace", "(I)Ljava/lang/Throwable;"⟩, 6) := ⟨⟨by decide +kernel, by decide +kernel⟩, List.mem_of_getElem? (i := 973) (by decide +kernel), List.mem_of_getElem? (i := 971) (by decide +kernel), List.mem_of_getElem? (i := 972) (by decide +kernel)⟩
theorem lw_p35 : lw_okq (⟨"NotEndedModel", "put", "(I)V"⟩, 52) := ⟨⟨by decide +kernel, by decide +kernel⟩, List.mem_of_getElem? (i := 1002) (by decide +kernel), List.mem_of_getElem? (i := 1179) (by decide +kernel), List.mem_of_getElem? (i := 1180) (by decide +kernel)⟩
theorem lw_p36 : lw_okq (⟨"NotEndedModel", "goThrough", "([BIIZI)V"⟩, 52) := ⟨⟨by decide +kernel, by decide +kernel⟩, List.mem_of_getElem? (i := 1002) (by decide +kernel), List.mem_of_getElem? (i := 1194) (by decide +kernel), List.mem_of_getElem? (i := 1195) (by decide +kernel)⟩
theorem lw_p37 : lw_okq (⟨"NotEndedModel", "clause", "()V"⟩, 52) := ⟨⟨by decide +kernel, by decide +kernel⟩, List.mem_of_getElem? (i := 1002) (by decide +kernel), List.mem_of_getElem? (i := 1200) (by decide +kernel), List.mem_of_getElem? (i := 1201) (by decide +kernel)⟩
theorem lw_p38 : lw_okq (⟨"NotEndedModel", "look", "()I"⟩, 52) := ⟨⟨by decide +kernel, by decide +kernel⟩, List.mem_of_getElem? (i := 1002) (by decide +kernel), List.mem_of_getElem? (i := 1204) (by decide +kernel), List.mem_of_getElem? (i := 1205) (by decide +kernel)⟩
theorem lw_p39 : lw_okq (⟨"NotEndedModel", "fails", "()Z"⟩, 52) := ⟨⟨by decide +kernel, by decide +kernel⟩, List.mem_of_getElem? (i := 1002) (by decide +kernel), List.mem_of_getElem? (i := 1232) (by decide +kernel), List.mem_of_getElem? (i := 1233) (by decide +kernel)⟩
theorem lw_p40 : lw_okq (⟨"NotEndedModel", "takes", "(I)Z"⟩, 52) := ⟨⟨by decide +kernel, by decide +kernel⟩, List.mem_of_getElem? (i := 1002) (by decide +kernel), List.mem_of_getElem? (i := 1236) (by decide +kernel), List.mem_of_getElem? (i := 1237) (by decide +kernel)⟩
theorem lw_p41 : lw_okq (⟨"NotEndedModel", "condition", "(ZI)Z"⟩, 52) := ⟨⟨by decide +kernel, by decide +kernel⟩, List.mem_of_getElem? (i := 1002) (by decide +kernel), List.mem_of_getElem? (i := 1240) (by decide +kernel), List.mem_of_getElem? (i := 1241) (by decide +kernel)⟩
theorem lw_p42 : lw_okq (⟨"NotEndedModel", "part", "(ZI)Z"⟩, 52) := ⟨⟨by decide +kernel, by decide +kernel⟩, List.mem_of_getElem? (i := 1002) (by decide +kernel), List.mem_of_getElem? (i := 1244) (by decide +kernel), List.mem_of_getElem? (i := 1245) (by decide +kernel)⟩
theorem lw_p43 : lw_okq (⟨"NotEndedModel", "compares", "(ZI)Z"⟩, 52) := ⟨⟨by decide +kernel, by decide +kernel⟩, List.mem_of_getElem? (i := 1002) (by decide +kernel), List.mem_of_getElem? (i := 1248) (by decide +kernel), List.mem_of_getElem? (i := 1249) (by decide +kernel)⟩
theorem lw_p44 : lw_okq (⟨"NotEndedModel", "sum", "()I"⟩, 52) := ⟨⟨by decide +kernel, by decide +kernel⟩, List.mem_of_getElem? (i := 1002) (by decide +kernel), List.mem_of_getElem? (i := 1252) (by decide +kernel), List.mem_of_getElem? (i := 1253) (by decide +kernel)⟩
theorem lw_p45 : lw_okq (⟨"NotEndedModel", "term", "()I"⟩, 52) := ⟨⟨by decide +kernel, by decide +kernel⟩, List.mem_of_getElem? (i := 1002) (by decide +kernel), List.mem_of_getElem? (i := 1256) (by decide +kernel), List.mem_of_getElem? (i := 1257) (by decide +kernel)⟩
theorem lw_p46 : lw_okq (⟨"NotEndedModel", "atom", "()I"⟩, 52) := ⟨⟨by decide +kernel, by decide +kernel⟩, List.mem_of_getElem? (i := 1002) (by decide +kernel), List.mem_of_getElem? (i := 1260) (by decide +kernel), List.mem_of_getElem? (i := 1261) (by decide +kernel)⟩
theorem lw_p47 : lw_okq (⟨"NotEndedModel", "goesIn", "()Z"⟩, 52) := ⟨⟨by decide +kernel, by decide +kernel⟩, List.mem_of_getElem? (i := 1002) (by decide +kernel), List.mem_of_getElem? (i := 1264) (by decide +kernel), List.mem_of_getElem? (i := 1265) (by decide +kernel)⟩
def lw_privs_3 : List (MethodName × Nat) := [(⟨"NotEnded", "holdersWithout", "(LNotEnded$Rule;JI)I"⟩, 10), (⟨"NotEnded", "lookersOfSize", "(LNotEnded$Rule;JII)I"⟩, 10), (⟨"java/lang/Throwable", "fillInStackTrace", "(I)Ljava/lang/Throwable;"⟩, 6), (⟨"NotEndedModel", "put", "(I)V"⟩, 52), (⟨"NotEndedModel", "goThrough", "([BIIZI)V"⟩, 52), (⟨"NotEndedModel", "clause", "()V"⟩, 52), (⟨"NotEndedModel", "look", "()I"⟩, 52), (⟨"NotEndedModel", "fails", "()Z"⟩, 52), (⟨"NotEndedModel", "takes", "(I)Z"⟩, 52), (⟨"NotEndedModel", "condition", "(ZI)Z"⟩, 52), (⟨"NotEndedModel", "part", "(ZI)Z"⟩, 52), (⟨"NotEndedModel", "compares", "(ZI)Z"⟩, 52), (⟨"NotEndedModel", "sum", "()I"⟩, 52), (⟨"NotEndedModel", "term", "()I"⟩, 52), (⟨"NotEndedModel", "atom", "()I"⟩, 52), (⟨"NotEndedModel", "goesIn", "()Z"⟩, 52)]
theorem lw_r3 : ∀ q ∈ lw_privs_3, lw_okq q := List.forall_mem_cons.mpr ⟨lw_p32, List.forall_mem_cons.mpr ⟨lw_p33, List.forall_mem_cons.mpr ⟨lw_p34, List.forall_mem_cons.mpr ⟨lw_p35, List.forall_mem_cons.mpr ⟨lw_p36, List.forall_mem_cons.mpr ⟨lw_p37, List.forall_mem_cons.mpr ⟨lw_p38, List.forall_mem_cons.mpr ⟨lw_p39, List.forall_mem_cons.mpr ⟨lw_p40, List.forall_mem_cons.mpr ⟨lw_p41, List.forall_mem_cons.mpr ⟨lw_p42, List.forall_mem_cons.mpr ⟨lw_p43, List.forall_mem_cons.mpr ⟨lw_p44, List.forall_mem_cons.mpr ⟨lw_p45, List.forall_mem_cons.mpr ⟨lw_p46, List.forall_mem_cons.mpr ⟨lw_p47, fun _ h => absurd h List.not_mem_nil⟩⟩⟩⟩⟩⟩⟩⟩⟩⟩⟩⟩⟩⟩⟩⟩
theorem lw_p48 : lw_okq (⟨"NotEndedModel", "isDigit", "()Z"⟩, 52) := ⟨⟨by decide +kernel, by decide +kernel⟩, List.mem_of_getElem? (i := 1002) (by decide +kernel), List.mem_of_getElem? (i := 1268) (by decide +kernel), List.mem_of_getElem? (i := 1269) (by decide +kernel)⟩
theorem lw_p49 : lw_okq (⟨"NotEndedModel", "unit", "()Z"⟩, 52) := ⟨⟨by decide +kernel, by decide +kernel⟩, List.mem_of_getElem? (i := 1002) (by decide +kernel), List.mem_of_getElem? (i := 1286) (by decide +kernel), List.mem_of_getElem? (i := 1287) (by decide +kernel)⟩
theorem lw_p50 : lw_okq (⟨"NotEndedModel", "isPerson", "(I)Z"⟩, 52) := ⟨⟨by decide +kernel, by decide +kernel⟩, List.mem_of_getElem? (i := 1002) (by decide +kernel), List.mem_of_getElem? (i := 1302) (by decide +kernel), List.mem_of_getElem? (i := 1303) (by decide +kernel)⟩
theorem lw_p51 : lw_okq (⟨"NotEndedModel", "isLaw", "(I)Z"⟩, 52) := ⟨⟨by decide +kernel, by decide +kernel⟩, List.mem_of_getElem? (i := 1002) (by decide +kernel), List.mem_of_getElem? (i := 1314) (by decide +kernel), List.mem_of_getElem? (i := 1315) (by decide +kernel)⟩
theorem lw_p52 : lw_okq (⟨"NotEndedModel", "everybody", "()I"⟩, 52) := ⟨⟨by decide +kernel, by decide +kernel⟩, List.mem_of_getElem? (i := 1002) (by decide +kernel), List.mem_of_getElem? (i := 1318) (by decide +kernel), List.mem_of_getElem? (i := 1319) (by decide +kernel)⟩
theorem lw_p53 : lw_okq (⟨"NotEndedModel", "begin", "(IJ)V"⟩, 52) := ⟨⟨by decide +kernel, by decide +kernel⟩, List.mem_of_getElem? (i := 1002) (by decide +kernel), List.mem_of_getElem? (i := 1322) (by decide +kernel), List.mem_of_getElem? (i := 1323) (by decide +kernel)⟩
theorem lw_p54 : lw_okq (⟨"NotEndedModel", "layLetters", "(I)V"⟩, 52) := ⟨⟨by decide +kernel, by decide +kernel⟩, List.mem_of_getElem? (i := 1002) (by decide +kernel), List.mem_of_getElem? (i := 1326) (by decide +kernel), List.mem_of_getElem? (i := 1327) (by decide +kernel)⟩
theorem lw_p55 : lw_okq (⟨"NotEndedModel", "worthOf", "(IZI)I"⟩, 52) := ⟨⟨by decide +kernel, by decide +kernel⟩, List.mem_of_getElem? (i := 1002) (by decide +kernel), List.mem_of_getElem? (i := 1334) (by decide +kernel), List.mem_of_getElem? (i := 1335) (by decide +kernel)⟩
theorem lw_p56 : lw_okq (⟨"NotEndedModel", "runOf", "(IJII)V"⟩, 52) := ⟨⟨by decide +kernel, by decide +kernel⟩, List.mem_of_getElem? (i := 1002) (by decide +kernel), List.mem_of_getElem? (i := 1342) (by decide +kernel), List.mem_of_getElem? (i := 1343) (by decide +kernel)⟩
theorem lw_p57 : lw_okq (⟨"NotEndedModel", "goOn", "(II)V"⟩, 52) := ⟨⟨by decide +kernel, by decide +kernel⟩, List.mem_of_getElem? (i := 1002) (by decide +kernel), List.mem_of_getElem? (i := 1346) (by decide +kernel), List.mem_of_getElem? (i := 1347) (by decide +kernel)⟩
theorem lw_p58 : lw_okq (⟨"NotEndedModel", "goesBy", "(I)V"⟩, 52) := ⟨⟨by decide +kernel, by decide +kernel⟩, List.mem_of_getElem? (i := 1002) (by decide +kernel), List.mem_of_getElem? (i := 1350) (by decide +kernel), List.mem_of_getElem? (i := 1351) (by decide +kernel)⟩
theorem lw_p59 : lw_okq (⟨"NotEndedModel", "isFree", "(I)Z"⟩, 52) := ⟨⟨by decide +kernel, by decide +kernel⟩, List.mem_of_getElem? (i := 1002) (by decide +kernel), List.mem_of_getElem? (i := 1354) (by decide +kernel), List.mem_of_getElem? (i := 1355) (by decide +kernel)⟩
theorem lw_p60 : lw_okq (⟨"NotEndedModel", "isChanced", "(I)Z"⟩, 52) := ⟨⟨by decide +kernel, by decide +kernel⟩, List.mem_of_getElem? (i := 1002) (by decide +kernel), List.mem_of_getElem? (i := 1362) (by decide +kernel), List.mem_of_getElem? (i := 1363) (by decide +kernel)⟩
theorem lw_p61 : lw_okq (⟨"NotEndedModel", "endOf", "(IJII)I"⟩, 52) := ⟨⟨by decide +kernel, by decide +kernel⟩, List.mem_of_getElem? (i := 1002) (by decide +kernel), List.mem_of_getElem? (i := 1377) (by decide +kernel), List.mem_of_getElem? (i := 1378) (by decide +kernel)⟩
theorem lw_p62 : lw_okq (⟨"NotEndedModel", "isAsked", "(II)Z"⟩, 52) := ⟨⟨by decide +kernel, by decide +kernel⟩, List.mem_of_getElem? (i := 1002) (by decide +kernel), List.mem_of_getElem? (i := 1385) (by decide +kernel), List.mem_of_getElem? (i := 1386) (by decide +kernel)⟩
theorem lw_p63 : lw_okq (⟨"NotEndedModel", "allSent", "()I"⟩, 52) := ⟨⟨by decide +kernel, by decide +kernel⟩, List.mem_of_getElem? (i := 1002) (by decide +kernel), List.mem_of_getElem? (i := 1389) (by decide +kernel), List.mem_of_getElem? (i := 1390) (by decide +kernel)⟩
def lw_privs_4 : List (MethodName × Nat) := [(⟨"NotEndedModel", "isDigit", "()Z"⟩, 52), (⟨"NotEndedModel", "unit", "()Z"⟩, 52), (⟨"NotEndedModel", "isPerson", "(I)Z"⟩, 52), (⟨"NotEndedModel", "isLaw", "(I)Z"⟩, 52), (⟨"NotEndedModel", "everybody", "()I"⟩, 52), (⟨"NotEndedModel", "begin", "(IJ)V"⟩, 52), (⟨"NotEndedModel", "layLetters", "(I)V"⟩, 52), (⟨"NotEndedModel", "worthOf", "(IZI)I"⟩, 52), (⟨"NotEndedModel", "runOf", "(IJII)V"⟩, 52), (⟨"NotEndedModel", "goOn", "(II)V"⟩, 52), (⟨"NotEndedModel", "goesBy", "(I)V"⟩, 52), (⟨"NotEndedModel", "isFree", "(I)Z"⟩, 52), (⟨"NotEndedModel", "isChanced", "(I)Z"⟩, 52), (⟨"NotEndedModel", "endOf", "(IJII)I"⟩, 52), (⟨"NotEndedModel", "isAsked", "(II)Z"⟩, 52), (⟨"NotEndedModel", "allSent", "()I"⟩, 52)]
theorem lw_r4 : ∀ q ∈ lw_privs_4, lw_okq q := List.forall_mem_cons.mpr ⟨lw_p48, List.forall_mem_cons.mpr ⟨lw_p49, List.forall_mem_cons.mpr ⟨lw_p50, List.forall_mem_cons.mpr ⟨lw_p51, List.forall_mem_cons.mpr ⟨lw_p52, List.forall_mem_cons.mpr ⟨lw_p53, List.forall_mem_cons.mpr ⟨lw_p54, List.forall_mem_cons.mpr ⟨lw_p55, List.forall_mem_cons.mpr ⟨lw_p56, List.forall_mem_cons.mpr ⟨lw_p57, List.forall_mem_cons.mpr ⟨lw_p58, List.forall_mem_cons.mpr ⟨lw_p59, List.forall_mem_cons.mpr ⟨lw_p60, List.forall_mem_cons.mpr ⟨lw_p61, List.forall_mem_cons.mpr ⟨lw_p62, List.forall_mem_cons.mpr ⟨lw_p63, fun _ h => absurd h List.not_mem_nil⟩⟩⟩⟩⟩⟩⟩⟩⟩⟩⟩⟩⟩⟩⟩⟩
theorem lw_p64 : lw_okq (⟨"NotEndedModel", "fitsAll", "(IJZ)Z"⟩, 52) := ⟨⟨by decide +kernel, by decide +kernel⟩, List.mem_of_getElem? (i := 1002) (by decide +kernel), List.mem_of_getElem? (i := 1405) (by decide +kernel), List.mem_of_getElem? (i := 1406) (by decide +kernel)⟩
theorem lw_p65 : lw_okq (⟨"NotEndedModel", "isAlone", "(I)Z"⟩, 52) := ⟨⟨by decide +kernel, by decide +kernel⟩, List.mem_of_getElem? (i := 1002) (by decide +kernel), List.mem_of_getElem? (i := 1409) (by decide +kernel), List.mem_of_getElem? (i := 1410) (by decide +kernel)⟩
theorem lw_p66 : lw_okq (⟨"NotEndedModel", "isSo", "(I)Z"⟩, 52) := ⟨⟨by decide +kernel, by decide +kernel⟩, List.mem_of_getElem? (i := 1002) (by decide +kernel), List.mem_of_getElem? (i := 1413) (by decide +kernel), List.mem_of_getElem? (i := 1414) (by decide +kernel)⟩
theorem lw_p67 : lw_okq (⟨"NotEndedModel", "isTurning", "(I)Z"⟩, 52) := ⟨⟨by decide +kernel, by decide +kernel⟩, List.mem_of_getElem? (i := 1002) (by decide +kernel), List.mem_of_getElem? (i := 1431) (by decide +kernel), List.mem_of_getElem? (i := 1432) (by decide +kernel)⟩
theorem lw_p68 : lw_okq (⟨"NotEndedModel", "isLet", "(II)Z"⟩, 52) := ⟨⟨by decide +kernel, by decide +kernel⟩, List.mem_of_getElem? (i := 1002) (by decide +kernel), List.mem_of_getElem? (i := 1438) (by decide +kernel), List.mem_of_getElem? (i := 1439) (by decide +kernel)⟩
theorem lw_p69 : lw_okq (⟨"NotEndedModel", "barred", "(I)J"⟩, 52) := ⟨⟨by decide +kernel, by decide +kernel⟩, List.mem_of_getElem? (i := 1002) (by decide +kernel), List.mem_of_getElem? (i := 1446) (by decide +kernel), List.mem_of_getElem? (i := 1447) (by decide +kernel)⟩
theorem lw_p70 : lw_okq (⟨"NotEndedModel", "isBefore", "(II)Z"⟩, 52) := ⟨⟨by decide +kernel, by decide +kernel⟩, List.mem_of_getElem? (i := 1002) (by decide +kernel), List.mem_of_getElem? (i := 1476) (by decide +kernel), List.mem_of_getElem? (i := 1477) (by decide +kernel)⟩
theorem lw_p71 : lw_okq (⟨"NotEndedModel", "costOf", "(I)I"⟩, 52) := ⟨⟨by decide +kernel, by decide +kernel⟩, List.mem_of_getElem? (i := 1002) (by decide +kernel), List.mem_of_getElem? (i := 1480) (by decide +kernel), List.mem_of_getElem? (i := 1481) (by decide +kernel)⟩
theorem lw_p72 : lw_okq (⟨"NotEndedModel", "helps", "(IJII)Z"⟩, 52) := ⟨⟨by decide +kernel, by decide +kernel⟩, List.mem_of_getElem? (i := 1002) (by decide +kernel), List.mem_of_getElem? (i := 1488) (by decide +kernel), List.mem_of_getElem? (i := 1489) (by decide +kernel)⟩
theorem lw_p73 : lw_okq (⟨"NotEndedModel", "holders", "(IJI)I"⟩, 52) := ⟨⟨by decide +kernel, by decide +kernel⟩, List.mem_of_getElem? (i := 1002) (by decide +kernel), List.mem_of_getElem? (i := 1496) (by decide +kernel), List.mem_of_getElem? (i := 1497) (by decide +kernel)⟩
def lw_privs_5 : List (MethodName × Nat) := [(⟨"NotEndedModel", "fitsAll", "(IJZ)Z"⟩, 52), (⟨"NotEndedModel", "isAlone", "(I)Z"⟩, 52), (⟨"NotEndedModel", "isSo", "(I)Z"⟩, 52), (⟨"NotEndedModel", "isTurning", "(I)Z"⟩, 52), (⟨"NotEndedModel", "isLet", "(II)Z"⟩, 52), (⟨"NotEndedModel", "barred", "(I)J"⟩, 52), (⟨"NotEndedModel", "isBefore", "(II)Z"⟩, 52), (⟨"NotEndedModel", "costOf", "(I)I"⟩, 52), (⟨"NotEndedModel", "helps", "(IJII)Z"⟩, 52), (⟨"NotEndedModel", "holders", "(IJI)I"⟩, 52)]
theorem lw_r5 : ∀ q ∈ lw_privs_5, lw_okq q := List.forall_mem_cons.mpr ⟨lw_p64, List.forall_mem_cons.mpr ⟨lw_p65, List.forall_mem_cons.mpr ⟨lw_p66, List.forall_mem_cons.mpr ⟨lw_p67, List.forall_mem_cons.mpr ⟨lw_p68, List.forall_mem_cons.mpr ⟨lw_p69, List.forall_mem_cons.mpr ⟨lw_p70, List.forall_mem_cons.mpr ⟨lw_p71, List.forall_mem_cons.mpr ⟨lw_p72, List.forall_mem_cons.mpr ⟨lw_p73, fun _ h => absurd h List.not_mem_nil⟩⟩⟩⟩⟩⟩⟩⟩⟩⟩
def lw_privs : List (MethodName × Nat) := lw_privs_1 ++ (lw_privs_2 ++ (lw_privs_3 ++ (lw_privs_4 ++ (lw_privs_5))))
def lw_tbl : List Cond := k2_sels lw_privs ++ tables_1
theorem lw_privs_ok : ∀ q ∈ lw_privs, lw_okq q := by
  show ∀ q ∈ lw_privs_1 ++ (lw_privs_2 ++ (lw_privs_3 ++ (lw_privs_4 ++ (lw_privs_5)))), lw_okq q
  exact List.forall_mem_append.mpr ⟨lw_r1, List.forall_mem_append.mpr ⟨lw_r2, List.forall_mem_append.mpr ⟨lw_r3, List.forall_mem_append.mpr ⟨lw_r4, lw_r5⟩⟩⟩⟩
end
section
def RX0 : String := "NotEnded$Acts"
def TX0 : u_T := fun k => match k with
  | 0 => ("NotEnded$Acts", "persons", "[I", true)
  | 1 => ("NotEnded$Acts", "kinds", "[I", true)
  | 2 => ("NotEnded$Acts", "things", "[I", true)
  | 3 => ("NotEnded$Acts", "costs", "[I", true)
  | _ => ("NotEnded$Acts", "size", "I", false)
abbrev wsX00 : List Cond := u_ws RX0 TX0 5
def RX1 : String := "NotEnded$Course"
def TX1 : u_T := fun k => match k with
  | 0 => ("NotEnded$Course", "folk", "LNotEnded$Folk;", true)
  | 1 => ("NotEnded$Course", "reckoner", "LNotEnded$Reckoner;", true)
  | 2 => ("NotEnded$Course", "held", "[I", true)
  | 3 => ("NotEnded$Course", "putIn", "[I", true)
  | 4 => ("NotEnded$Course", "places", "[I", true)
  | 5 => ("NotEnded$Course", "tellsSince", "[I", true)
  | 6 => ("NotEnded$Course", "holdsMore", "[I", true)
  | 7 => ("NotEnded$Course", "passesOn", "[I", true)
  | 8 => ("NotEnded$Course", "goes", "[I", true)
  | 9 => ("NotEnded$Course", "hears", "[I", true)
  | 10 => ("NotEnded$Course", "manyIn", "[I", true)
  | 11 => ("NotEnded$Course", "heldIn", "[I", true)
  | 12 => ("NotEnded$Course", "sentIn", "[I", true)
  | 13 => ("NotEnded$Course", "ways", "[J", true)
  | 14 => ("NotEnded$Course", "law", "LNotEnded$Rule;", false)
  | 15 => ("NotEnded$Course", "drawn", "J", false)
  | 16 => ("NotEnded$Course", "present", "I", false)
  | 17 => ("NotEnded$Course", "moved", "I", false)
  | _ => ("NotEnded$Course", "hour", "I", false)
abbrev wsX10 : List Cond := u_ws RX1 TX1 19
def RX2 : String := "NotEnded$Folk"
def TX2 : u_T := fun k => match k with
  | 0 => ("NotEnded$Folk", "holds", "[I", true)
  | 1 => ("NotEnded$Folk", "putIn", "[I", true)
  | 2 => ("NotEnded$Folk", "houses", "[I", true)
  | 3 => ("NotEnded$Folk", "knows", "[I", true)
  | 4 => ("NotEnded$Folk", "hours", "[I", true)
  | 5 => ("NotEnded$Folk", "sent", "I", false)
  | 6 => ("NotEnded$Folk", "size", "I", false)
  | _ => ("NotEnded$Folk", "words", "I", false)
abbrev wsX20 : List Cond := u_ws RX2 TX2 8
def RX3 : String := "NotEnded$Notebook"
def TX3 : u_T := fun k => match k with
  | 0 => ("NotEnded$Notebook", "persons", "[I", true)
  | 1 => ("NotEnded$Notebook", "hours", "[I", true)
  | 2 => ("NotEnded$Notebook", "kinds", "[I", true)
  | 3 => ("NotEnded$Notebook", "values", "[I", true)
  | 4 => ("NotEnded$Notebook", "offs", "[I", true)
  | _ => ("NotEnded$Notebook", "size", "I", false)
abbrev wsX30 : List Cond := u_ws RX3 TX3 6
def RX4 : String := "NotEnded$Reader"
def TX4 : u_T := fun k => match k with
  | 0 => ("NotEnded$Reader", "tape", "LNotEnded$Tape;", true)
  | 1 => ("NotEnded$Reader", "steps", "[I", true)
  | 2 => ("NotEnded$Reader", "clauses", "[I", true)
  | 3 => ("NotEnded$Reader", "written", "I", false)
  | 4 => ("NotEnded$Reader", "filled", "I", false)
  | 5 => ("NotEnded$Reader", "place", "I", false)
  | 6 => ("NotEnded$Reader", "labelSigns", "Ljava/lang/String;", false)
  | _ => ("NotEnded$Reader", "letterSigns", "Ljava/lang/String;", false)
abbrev wsX40 : List Cond := u_ws RX4 TX4 8
def RX5 : String := "NotEnded$Reckoner"
def TX5 : u_T := fun k => match k with
  | 0 => ("NotEnded$Reckoner", "letters", "[I", true)
  | _ => ("NotEnded$Reckoner", "open", "[I", true)
abbrev wsX50 : List Cond := u_ws RX5 TX5 2
def RX6 : String := "NotEnded$Rule"
def TX6 : u_T := fun k => match k with
  | 0 => ("NotEnded$Rule", "steps", "[I", true)
  | _ => ("NotEnded$Rule", "clauses", "[I", true)
abbrev wsX60 : List Cond := u_ws RX6 TX6 2
def RX7 : String := "NotEnded$Shelf"
def TX7 : u_T := fun k => match k with
  | 0 => ("NotEnded$Shelf", "rules", "[LNotEnded$Rule;", true)
  | _ => ("NotEnded$Shelf", "size", "I", false)
abbrev wsX70 : List Cond := u_ws RX7 TX7 2
def RX8 : String := "NotEnded$Tape"
def TX8 : u_T := fun k => match k with
  | 0 => ("NotEnded$Tape", "signs", "[C", true)
  | _ => ("NotEnded$Tape", "length", "I", false)
abbrev wsX80 : List Cond := u_ws RX8 TX8 2
def RX9 : String := "NotEnded"
def TX9 : u_T := fun k => match k with
  | 0 => ("NotEnded", "tape", "LNotEnded$Tape;", true)
  | 1 => ("NotEnded", "reader", "LNotEnded$Reader;", true)
  | 2 => ("NotEnded", "reckoner", "LNotEnded$Reckoner;", true)
  | 3 => ("NotEnded", "laws", "LNotEnded$Shelf;", true)
  | 4 => ("NotEnded", "turnings", "LNotEnded$Shelf;", true)
  | 5 => ("NotEnded", "folk", "LNotEnded$Folk;", true)
  | 6 => ("NotEnded", "course", "LNotEnded$Course;", true)
  | 7 => ("NotEnded", "notebook", "LNotEnded$Notebook;", true)
  | 8 => ("NotEnded", "acts", "LNotEnded$Acts;", true)
  | _ => ("NotEnded", "said", "[I", true)
abbrev wsX90 : List Cond := u_ws RX9 TX9 10
def RX10 : String := "NotEndedModel"
def TX10 : u_T := fun k => match k with
  | 0 => ("NotEndedModel", "thrown", "I", false)
  | 1 => ("NotEndedModel", "tape", "[B", true)
  | 2 => ("NotEndedModel", "texts", "[B", true)
  | 3 => ("NotEndedModel", "textLong", "[I", true)
  | 4 => ("NotEndedModel", "letters", "[I", true)
  | 5 => ("NotEndedModel", "text", "[B", false)
  | 6 => ("NotEndedModel", "length", "I", false)
  | 7 => ("NotEndedModel", "laws", "I", false)
  | 8 => ("NotEndedModel", "turnings", "I", false)
  | 9 => ("NotEndedModel", "begins", "I", false)
  | 10 => ("NotEndedModel", "ends", "I", false)
  | 11 => ("NotEndedModel", "at", "I", false)
  | 12 => ("NotEndedModel", "fault", "I", false)
  | 13 => ("NotEndedModel", "deep", "I", false)
  | 14 => ("NotEndedModel", "label", "I", false)
  | 15 => ("NotEndedModel", "found", "I", false)
  | 16 => ("NotEndedModel", "labels", "Ljava/lang/String;", false)
  | 17 => ("NotEndedModel", "allowed", "Ljava/lang/String;", false)
  | 18 => ("NotEndedModel", "hasFound", "Z", false)
  | 19 => ("NotEndedModel", "toldHolds", "[I", true)
  | 20 => ("NotEndedModel", "toldIn", "[I", true)
  | 21 => ("NotEndedModel", "toldHouse", "[I", true)
  | 22 => ("NotEndedModel", "knows", "[I", true)
  | 23 => ("NotEndedModel", "said", "[I", true)
  | 24 => ("NotEndedModel", "due", "[I", true)
  | 25 => ("NotEndedModel", "isSent", "[Z", true)
  | 26 => ("NotEndedModel", "persons", "I", false)
  | 27 => ("NotEndedModel", "words", "I", false)
  | 28 => ("NotEndedModel", "holds", "[I", true)
  | 29 => ("NotEndedModel", "putIn", "[I", true)
  | 30 => ("NotEndedModel", "house", "[I", true)
  | 31 => ("NotEndedModel", "since", "[I", true)
  | 32 => ("NotEndedModel", "more", "[I", true)
  | 33 => ("NotEndedModel", "goes", "[I", true)
  | 34 => ("NotEndedModel", "heard", "[I", true)
  | 35 => ("NotEndedModel", "tells", "[I", true)
  | 36 => ("NotEndedModel", "was", "[I", true)
  | 37 => ("NotEndedModel", "there", "I", false)
  | 38 => ("NotEndedModel", "hour", "I", false)
  | 39 => ("NotEndedModel", "x", "J", false)
  | 40 => ("NotEndedModel", "notePerson", "[I", true)
  | 41 => ("NotEndedModel", "noteHour", "[I", true)
  | 42 => ("NotEndedModel", "noteKind", "[I", true)
  | 43 => ("NotEndedModel", "noteValue", "[I", true)
  | 44 => ("NotEndedModel", "noteOff", "[I", true)
  | 45 => ("NotEndedModel", "notes", "I", false)
  | 46 => ("NotEndedModel", "ways", "[J", true)
  | 47 => ("NotEndedModel", "actOf", "[I", true)
  | 48 => ("NotEndedModel", "actKind", "[I", true)
  | 49 => ("NotEndedModel", "actX", "[I", true)
  | 50 => ("NotEndedModel", "actCost", "[I", true)
  | _ => ("NotEndedModel", "acts", "I", false)
abbrev wsX100 : List Cond := u_ws RX10 TX10 52
def RJ6 : String := "java/lang/Integer"
def RJ13 : String := "java/lang/Long"
def RJ9 : String := "java/lang/Math"
def RJ0 : String := "java/lang/String"
def RJ1 : String := "java/lang/StringLatin1"
def RJ10 : String := "java/lang/System"
def RJ7 : String := "java/util/Arrays"
def RJ3 : String := "jdk/internal/util/Preconditions"
def RL : String := "NotEndedLaw"
abbrev cX0_init : ByteArray := prog_2_method_1_code
def yX0_init : MethodName := ⟨RX0, "<init>", "()V"⟩
abbrev cX0_size : ByteArray := prog_2_method_3_code
def yX0_size : MethodName := ⟨RX0, "size", "()I"⟩
abbrev cX1_init : ByteArray := prog_3_method_1_code
def yX1_init : MethodName := ⟨RX1, "<init>", "(LNotEnded$Folk;LNotEnded$Reckoner;)V"⟩
abbrev cX1_begin : ByteArray := prog_3_method_2_code
def yX1_begin : MethodName := ⟨RX1, "begin", "(LNotEnded$Rule;JI)V"⟩
def yX1_giveBack : MethodName := ⟨RX1, "giveBack", "(II)V"⟩
abbrev cX1_go : ByteArray := prog_3_method_5_code
def yX1_go : MethodName := ⟨RX1, "go", "(I)V"⟩
abbrev cX1_heldBy : ByteArray := prog_3_method_6_code
def yX1_heldBy : MethodName := ⟨RX1, "heldBy", "(I)I"⟩
abbrev cX1_placeOf : ByteArray := prog_3_method_7_code
def yX1_placeOf : MethodName := ⟨RX1, "placeOf", "(I)I"⟩
abbrev cX1_tellsSince : ByteArray := prog_3_method_8_code
def yX1_tellsSince : MethodName := ⟨RX1, "tellsSince", "(I)I"⟩
abbrev cX1_howManyAreHome : ByteArray := prog_3_method_9_code
def yX1_howManyAreHome : MethodName := ⟨RX1, "howManyAreHome", "()I"⟩
abbrev cX1_whoGaveUp : ByteArray := prog_3_method_10_code
def yX1_whoGaveUp : MethodName := ⟨RX1, "whoGaveUp", "()I"⟩
abbrev cX1_whoHoldsOn : ByteArray := prog_3_method_11_code
def yX1_whoHoldsOn : MethodName := ⟨RX1, "whoHoldsOn", "()I"⟩
abbrev cX1_worthNow : ByteArray := prog_3_method_14_code
def yX1_worthNow : MethodName := ⟨RX1, "worthNow", "(II)I"⟩
def yX1_addOneWhoMay : MethodName := ⟨RX1, "addOneWhoMay", "(II)V"⟩
abbrev cX1_mayGo : ByteArray := prog_3_method_17_code
def yX1_mayGo : MethodName := ⟨RX1, "mayGo", "(I)Z"⟩
abbrev cX1_weigh : ByteArray := prog_3_method_18_code
def yX1_weigh : MethodName := ⟨RX1, "weigh", "()V"⟩
abbrev cX1_tallyHouses : ByteArray := prog_3_method_19_code
def yX1_tallyHouses : MethodName := ⟨RX1, "tallyHouses", "()V"⟩
abbrev cX1_setLettersOfHour : ByteArray := prog_3_method_20_code
def yX1_setLettersOfHour : MethodName := ⟨RX1, "setLettersOfHour", "()V"⟩
abbrev cX1_setLettersOf : ByteArray := prog_3_method_21_code
def yX1_setLettersOf : MethodName := ⟨RX1, "setLettersOf", "(I)V"⟩
abbrev cX1_holdMore : ByteArray := prog_3_method_22_code
def yX1_holdMore : MethodName := ⟨RX1, "holdMore", "()V"⟩
abbrev cX1_tell : ByteArray := prog_3_method_23_code
def yX1_tell : MethodName := ⟨RX1, "tell", "()V"⟩
abbrev cX1_tellThoseKnown : ByteArray := prog_3_method_24_code
def yX1_tellThoseKnown : MethodName := ⟨RX1, "tellThoseKnown", "(I)V"⟩
abbrev cX1_goHome : ByteArray := prog_3_method_25_code
def yX1_goHome : MethodName := ⟨RX1, "goHome", "()V"⟩
abbrev cX2_init : ByteArray := prog_4_method_1_code
def yX2_init : MethodName := ⟨RX2, "<init>", "()V"⟩
abbrev cX2_addPerson : ByteArray := prog_4_method_2_code
def yX2_addPerson : MethodName := ⟨RX2, "addPerson", "(IIIZ)I"⟩
abbrev cX2_acquaint : ByteArray := prog_4_method_3_code
def yX2_acquaint : MethodName := ⟨RX2, "acquaint", "(II)V"⟩
abbrev cX2_addWord : ByteArray := prog_4_method_4_code
def yX2_addWord : MethodName := ⟨RX2, "addWord", "(I)I"⟩
abbrev cX2_size : ByteArray := prog_4_method_5_code
def yX2_size : MethodName := ⟨RX2, "size", "()I"⟩
abbrev cX2_words : ByteArray := prog_4_method_6_code
def yX2_words : MethodName := ⟨RX2, "words", "()I"⟩
abbrev cX2_has : ByteArray := prog_4_method_7_code
def yX2_has : MethodName := ⟨RX2, "has", "(I)Z"⟩
abbrev cX2_hasAll : ByteArray := prog_4_method_8_code
def yX2_hasAll : MethodName := ⟨RX2, "hasAll", "(I)Z"⟩
abbrev cX2_everybody : ByteArray := prog_4_method_9_code
def yX2_everybody : MethodName := ⟨RX2, "everybody", "()I"⟩
abbrev cX2_sentOnes : ByteArray := prog_4_method_10_code
def yX2_sentOnes : MethodName := ⟨RX2, "sentOnes", "()I"⟩
abbrev cX2_isSent : ByteArray := prog_4_method_11_code
def yX2_isSent : MethodName := ⟨RX2, "isSent", "(I)Z"⟩
abbrev cX2_wordsPast : ByteArray := prog_4_method_13_code
def yX2_wordsPast : MethodName := ⟨RX2, "wordsPast", "(I)I"⟩
abbrev cX2_hoursSinceWord : ByteArray := prog_4_method_14_code
def yX2_hoursSinceWord : MethodName := ⟨RX2, "hoursSinceWord", "(I)I"⟩
abbrev cX3_init : ByteArray := prog_5_method_1_code
def yX3_init : MethodName := ⟨RX3, "<init>", "()V"⟩
abbrev cX3_size : ByteArray := prog_5_method_3_code
def yX3_size : MethodName := ⟨RX3, "size", "()I"⟩
def yX3_isSo : MethodName := ⟨RX3, "isSo", "(LNotEnded$Course;I)Z"⟩
abbrev cX4_init : ByteArray := prog_6_method_1_code
def yX4_init : MethodName := ⟨RX4, "<init>", "(LNotEnded$Tape;)V"⟩
abbrev cX4_read : ByteArray := prog_6_method_2_code
def yX4_read : MethodName := ⟨RX4, "read", "(I)I"⟩
abbrev cX4_readClause : ByteArray := prog_6_method_4_code
def yX4_readClause : MethodName := ⟨RX4, "readClause", "()Z"⟩
def yX4_keepClause : MethodName := ⟨RX4, "keepClause", "(III)Z"⟩
def yX4_readCondition : MethodName := ⟨RX4, "readCondition", "(IZ)Z"⟩
def yX4_readTruth : MethodName := ⟨RX4, "readTruth", "(IZ)Z"⟩
def yX4_readUnit : MethodName := ⟨RX4, "readUnit", "(IZ)Z"⟩
abbrev cX4_readSum : ByteArray := prog_6_method_9_code
def yX4_readSum : MethodName := ⟨RX4, "readSum", "(I)Z"⟩
abbrev cX4_readTerm : ByteArray := prog_6_method_10_code
def yX4_readTerm : MethodName := ⟨RX4, "readTerm", "(I)Z"⟩
abbrev cX4_readAtom : ByteArray := prog_6_method_11_code
def yX4_readAtom : MethodName := ⟨RX4, "readAtom", "(I)Z"⟩
abbrev cX4_readNumber : ByteArray := prog_6_method_12_code
def yX4_readNumber : MethodName := ⟨RX4, "readNumber", "()Z"⟩
abbrev cX4_opens : ByteArray := prog_6_method_13_code
def yX4_opens : MethodName := ⟨RX4, "opens", "(I)Z"⟩
abbrev cX4_take : ByteArray := prog_6_method_14_code
def yX4_take : MethodName := ⟨RX4, "take", "(C)Z"⟩
abbrev cX4_look : ByteArray := prog_6_method_15_code
def yX4_look : MethodName := ⟨RX4, "look", "()C"⟩
def yX4_write : MethodName := ⟨RX4, "write", "(I)Z"⟩
abbrev cX4_isDigit : ByteArray := prog_6_method_17_code
def yX4_isDigit : MethodName := ⟨RX4, "isDigit", "(C)Z"⟩
abbrev cX5_init : ByteArray := prog_7_method_1_code
def yX5_init : MethodName := ⟨RX5, "<init>", "()V"⟩
abbrev cX5_setLetter : ByteArray := prog_7_method_2_code
def yX5_setLetter : MethodName := ⟨RX5, "setLetter", "(II)V"⟩
abbrev cX5_worthOf : ByteArray := prog_7_method_3_code
def yX5_worthOf : MethodName := ⟨RX5, "worthOf", "(LNotEnded$Rule;I)I"⟩
abbrev cX5_reckon : ByteArray := prog_7_method_4_code
def yX5_reckon : MethodName := ⟨RX5, "reckon", "([III)I"⟩
abbrev cX5_valueOf : ByteArray := prog_7_method_5_code
def yX5_valueOf : MethodName := ⟨RX5, "valueOf", "(I)I"⟩
abbrev cX5_join : ByteArray := prog_7_method_6_code
def yX5_join : MethodName := ⟨RX5, "join", "(III)J"⟩
abbrev cX5_bounded : ByteArray := prog_7_method_7_code
def yX5_bounded : MethodName := ⟨RX5, "bounded", "(J)I"⟩
abbrev cX6_init : ByteArray := prog_8_method_1_code
def yX6_init : MethodName := ⟨RX6, "<init>", "([I[I)V"⟩
abbrev cX7_init : ByteArray := prog_9_method_1_code
def yX7_init : MethodName := ⟨RX7, "<init>", "(I)V"⟩
def yX7_isFull : MethodName := ⟨RX7, "isFull", "()Z"⟩
abbrev cX7_put : ByteArray := prog_9_method_3_code
def yX7_put : MethodName := ⟨RX7, "put", "(LNotEnded$Rule;)I"⟩
abbrev cX7_at : ByteArray := prog_9_method_5_code
def yX7_at : MethodName := ⟨RX7, "at", "(I)LNotEnded$Rule;"⟩
abbrev cX8_init : ByteArray := prog_10_method_1_code
def yX8_init : MethodName := ⟨RX8, "<init>", "()V"⟩
abbrev cX8_bytesIn : ByteArray := prog_10_method_2_code
def yX8_bytesIn : MethodName := ⟨RX8, "bytesIn", "(I)I"⟩
abbrev cX8_append : ByteArray := prog_10_method_3_code
def yX8_append : MethodName := ⟨RX8, "append", "(I)V"⟩
abbrev cX8_cutTo : ByteArray := prog_10_method_4_code
def yX8_cutTo : MethodName := ⟨RX8, "cutTo", "(I)V"⟩
abbrev cX8_length : ByteArray := prog_10_method_5_code
def yX8_length : MethodName := ⟨RX8, "length", "()I"⟩
abbrev cX8_at : ByteArray := prog_10_method_6_code
def yX8_at : MethodName := ⟨RX8, "at", "(I)C"⟩
abbrev cX9_init : ByteArray := prog_1_method_1_code
def yX9_init : MethodName := ⟨RX9, "<init>", "()V"⟩
abbrev cX9_feed : ByteArray := prog_1_method_2_code
def yX9_feed : MethodName := ⟨RX9, "feed", "(IIIII)I"⟩
abbrev cX9_end : ByteArray := prog_1_method_3_code
def yX9_end : MethodName := ⟨RX9, "end", "(I)Z"⟩
abbrev cX9_fault : ByteArray := prog_1_method_4_code
def yX9_fault : MethodName := ⟨RX9, "fault", "(I)I"⟩
abbrev cX9_person : ByteArray := prog_1_method_6_code
def yX9_person : MethodName := ⟨RX9, "person", "(IIIZ)I"⟩
abbrev cX9_know : ByteArray := prog_1_method_7_code
def yX9_know : MethodName := ⟨RX9, "know", "(II)Z"⟩
abbrev cX9_word : ByteArray := prog_1_method_8_code
def yX9_word : MethodName := ⟨RX9, "word", "(I)I"⟩
abbrev cX9_worth : ByteArray := prog_1_method_9_code
def yX9_worth : MethodName := ⟨RX9, "worth", "(III)I"⟩
abbrev cX9_run : ByteArray := prog_1_method_10_code
def yX9_run : MethodName := ⟨RX9, "run", "(IJIII)I"⟩
abbrev cX9_all : ByteArray := prog_1_method_11_code
def yX9_all : MethodName := ⟨RX9, "all", "(IJII)I"⟩
abbrev cX9_without : ByteArray := prog_1_method_12_code
def yX9_without : MethodName := ⟨RX9, "without", "(IJII)I"⟩
abbrev cX9_did : ByteArray := prog_1_method_13_code
def yX9_did : MethodName := ⟨RX9, "did", "(IJI)I"⟩
abbrev cX9_lean : ByteArray := prog_1_method_14_code
def yX9_lean : MethodName := ⟨RX9, "lean", "(IJII)I"⟩
abbrev cX9_lookers : ByteArray := prog_1_method_26_code
def yX9_lookers : MethodName := ⟨RX9, "lookers", "(IJ)I"⟩
abbrev cX9_count : ByteArray := prog_1_method_27_code
def yX9_count : MethodName := ⟨RX9, "count", "(I)I"⟩
abbrev cX9_heldAtEnd : ByteArray := prog_1_method_28_code
def yX9_heldAtEnd : MethodName := ⟨RX9, "heldAtEnd", "(LNotEnded$Rule;JII)I"⟩
def yX9_isNoted : MethodName := ⟨RX9, "isNoted", "(LNotEnded$Rule;JI)Z"⟩
def yX9_isLet : MethodName := ⟨RX9, "isLet", "(LNotEnded$Rule;I)Z"⟩
def yX9_barredBy : MethodName := ⟨RX9, "barredBy", "(LNotEnded$Rule;)I"⟩
def yX9_leastHelp : MethodName := ⟨RX9, "leastHelp", "(LNotEnded$Rule;JI)I"⟩
def yX9_givesUpBy : MethodName := ⟨RX9, "givesUpBy", "(LNotEnded$Rule;JII)Z"⟩
abbrev cX9_holdersWithout : ByteArray := prog_1_method_34_code
def yX9_holdersWithout : MethodName := ⟨RX9, "holdersWithout", "(LNotEnded$Rule;JI)I"⟩
abbrev cX9_lookersOfSize : ByteArray := prog_1_method_35_code
def yX9_lookersOfSize : MethodName := ⟨RX9, "lookersOfSize", "(LNotEnded$Rule;JII)I"⟩
abbrev cX9_isSort : ByteArray := prog_1_method_36_code
def yX9_isSort : MethodName := ⟨RX9, "isSort", "(I)Z"⟩
abbrev cX9_isHouse : ByteArray := prog_1_method_37_code
def yX9_isHouse : MethodName := ⟨RX9, "isHouse", "(I)Z"⟩
abbrev cX9_isIn : ByteArray := prog_1_method_39_code
def yX9_isIn : MethodName := ⟨RX9, "isIn", "(III)Z"⟩
abbrev cX9_isBit : ByteArray := prog_1_method_40_code
def yX9_isBit : MethodName := ⟨RX9, "isBit", "(II)Z"⟩
abbrev cX9_within : ByteArray := prog_1_method_41_code
def yX9_within : MethodName := ⟨RX9, "within", "(III)I"⟩
def yX9_isLowerFirst : MethodName := ⟨RX9, "isLowerFirst", "(II)Z"⟩
abbrev cX10_init : ByteArray := prog_12_method_1_code
def yX10_init : MethodName := ⟨RX10, "<init>", "()V"⟩
abbrev cX10_thrown : ByteArray := prog_12_method_2_code
def yX10_thrown : MethodName := ⟨RX10, "thrown", "()I"⟩
abbrev cX10_isIn : ByteArray := prog_12_method_3_code
def yX10_isIn : MethodName := ⟨RX10, "isIn", "(III)Z"⟩
abbrev cX10_isAmong : ByteArray := prog_12_method_4_code
def yX10_isAmong : MethodName := ⟨RX10, "isAmong", "(Ljava/lang/String;I)Z"⟩
abbrev cX10_bytesIn : ByteArray := prog_12_method_5_code
def yX10_bytesIn : MethodName := ⟨RX10, "bytesIn", "(I)I"⟩
abbrev cX10_put : ByteArray := prog_12_method_6_code
def yX10_put : MethodName := ⟨RX10, "put", "(I)V"⟩
abbrev cX10_feed : ByteArray := prog_12_method_7_code
def yX10_feed : MethodName := ⟨RX10, "feed", "(IIIII)I"⟩
abbrev cX10_end : ByteArray := prog_12_method_8_code
def yX10_end : MethodName := ⟨RX10, "end", "(I)Z"⟩
abbrev cX10_look : ByteArray := prog_12_method_9_code
def yX10_look : MethodName := ⟨RX10, "look", "()I"⟩
abbrev cX10_fails : ByteArray := prog_12_method_10_code
def yX10_fails : MethodName := ⟨RX10, "fails", "()Z"⟩
abbrev cX10_goesIn : ByteArray := prog_12_method_11_code
def yX10_goesIn : MethodName := ⟨RX10, "goesIn", "()Z"⟩
abbrev cX10_takes : ByteArray := prog_12_method_12_code
def yX10_takes : MethodName := ⟨RX10, "takes", "(I)Z"⟩
abbrev cX10_isDigit : ByteArray := prog_12_method_13_code
def yX10_isDigit : MethodName := ⟨RX10, "isDigit", "()Z"⟩
abbrev cX10_within : ByteArray := prog_12_method_14_code
def yX10_within : MethodName := ⟨RX10, "within", "(J)I"⟩
abbrev cX10_atom : ByteArray := prog_12_method_15_code
def yX10_atom : MethodName := ⟨RX10, "atom", "()I"⟩
abbrev cX10_term : ByteArray := prog_12_method_16_code
def yX10_term : MethodName := ⟨RX10, "term", "()I"⟩
abbrev cX10_sum : ByteArray := prog_12_method_17_code
def yX10_sum : MethodName := ⟨RX10, "sum", "()I"⟩
abbrev cX10_isSign : ByteArray := prog_12_method_18_code
def yX10_isSign : MethodName := ⟨RX10, "isSign", "(I)Z"⟩
abbrev cX10_compares : ByteArray := prog_12_method_19_code
def yX10_compares : MethodName := ⟨RX10, "compares", "(ZI)Z"⟩
abbrev cX10_unit : ByteArray := prog_12_method_20_code
def yX10_unit : MethodName := ⟨RX10, "unit", "()Z"⟩
abbrev cX10_part : ByteArray := prog_12_method_21_code
def yX10_part : MethodName := ⟨RX10, "part", "(ZI)Z"⟩
abbrev cX10_condition : ByteArray := prog_12_method_22_code
def yX10_condition : MethodName := ⟨RX10, "condition", "(ZI)Z"⟩
abbrev cX10_clause : ByteArray := prog_12_method_23_code
def yX10_clause : MethodName := ⟨RX10, "clause", "()V"⟩
abbrev cX10_goThrough : ByteArray := prog_12_method_24_code
def yX10_goThrough : MethodName := ⟨RX10, "goThrough", "([BIIZI)V"⟩
abbrev cX10_fault : ByteArray := prog_12_method_25_code
def yX10_fault : MethodName := ⟨RX10, "fault", "(I)I"⟩
abbrev cX10_text : ByteArray := prog_12_method_26_code
def yX10_text : MethodName := ⟨RX10, "text", "(I)I"⟩
abbrev cX10_isLaw : ByteArray := prog_12_method_27_code
def yX10_isLaw : MethodName := ⟨RX10, "isLaw", "(I)Z"⟩
def yX10_isTurning : MethodName := ⟨RX10, "isTurning", "(I)Z"⟩
abbrev cX10_worthOf : ByteArray := prog_12_method_29_code
def yX10_worthOf : MethodName := ⟨RX10, "worthOf", "(IZI)I"⟩
abbrev cX10_isPerson : ByteArray := prog_12_method_30_code
def yX10_isPerson : MethodName := ⟨RX10, "isPerson", "(I)Z"⟩
abbrev cX10_person : ByteArray := prog_12_method_31_code
def yX10_person : MethodName := ⟨RX10, "person", "(IIIZ)I"⟩
abbrev cX10_know : ByteArray := prog_12_method_32_code
def yX10_know : MethodName := ⟨RX10, "know", "(II)Z"⟩
abbrev cX10_word : ByteArray := prog_12_method_33_code
def yX10_word : MethodName := ⟨RX10, "word", "(I)I"⟩
abbrev cX10_has : ByteArray := prog_12_method_34_code
def yX10_has : MethodName := ⟨RX10, "has", "(II)Z"⟩
abbrev cX10_everybody : ByteArray := prog_12_method_35_code
def yX10_everybody : MethodName := ⟨RX10, "everybody", "()I"⟩
def yX10_allSent : MethodName := ⟨RX10, "allSent", "()I"⟩
abbrev cX10_begin : ByteArray := prog_12_method_37_code
def yX10_begin : MethodName := ⟨RX10, "begin", "(IJ)V"⟩
abbrev cX10_layLetters : ByteArray := prog_12_method_38_code
def yX10_layLetters : MethodName := ⟨RX10, "layLetters", "(I)V"⟩
abbrev cX10_isFree : ByteArray := prog_12_method_39_code
def yX10_isFree : MethodName := ⟨RX10, "isFree", "(I)Z"⟩
abbrev cX10_held : ByteArray := prog_12_method_40_code
def yX10_held : MethodName := ⟨RX10, "held", "(I)I"⟩
abbrev cX10_isChanced : ByteArray := prog_12_method_41_code
def yX10_isChanced : MethodName := ⟨RX10, "isChanced", "(I)Z"⟩
abbrev cX10_goesBy : ByteArray := prog_12_method_42_code
def yX10_goesBy : MethodName := ⟨RX10, "goesBy", "(I)V"⟩
abbrev cX10_goOn : ByteArray := prog_12_method_43_code
def yX10_goOn : MethodName := ⟨RX10, "goOn", "(II)V"⟩
abbrev cX10_runOf : ByteArray := prog_12_method_44_code
def yX10_runOf : MethodName := ⟨RX10, "runOf", "(IJII)V"⟩
abbrev cX10_worth : ByteArray := prog_12_method_45_code
def yX10_worth : MethodName := ⟨RX10, "worth", "(III)I"⟩
abbrev cX10_run : ByteArray := prog_12_method_46_code
def yX10_run : MethodName := ⟨RX10, "run", "(IJIII)I"⟩
abbrev cX10_all : ByteArray := prog_12_method_47_code
def yX10_all : MethodName := ⟨RX10, "all", "(IJII)I"⟩
abbrev cX10_endOf : ByteArray := prog_12_method_48_code
def yX10_endOf : MethodName := ⟨RX10, "endOf", "(IJII)I"⟩
abbrev cX10_without : ByteArray := prog_12_method_49_code
def yX10_without : MethodName := ⟨RX10, "without", "(IJII)I"⟩
def yX10_isAsked : MethodName := ⟨RX10, "isAsked", "(II)Z"⟩
def yX10_did : MethodName := ⟨RX10, "did", "(IJI)I"⟩
def yX10_isAlone : MethodName := ⟨RX10, "isAlone", "(I)Z"⟩
def yX10_isSo : MethodName := ⟨RX10, "isSo", "(I)Z"⟩
def yX10_fitsAll : MethodName := ⟨RX10, "fitsAll", "(IJZ)Z"⟩
def yX10_isLet : MethodName := ⟨RX10, "isLet", "(II)Z"⟩
def yX10_barred : MethodName := ⟨RX10, "barred", "(I)J"⟩
abbrev cX10_helps : ByteArray := prog_12_method_69_code
def yX10_helps : MethodName := ⟨RX10, "helps", "(IJII)Z"⟩
abbrev cX10_costOf : ByteArray := prog_12_method_70_code
def yX10_costOf : MethodName := ⟨RX10, "costOf", "(I)I"⟩
abbrev cX10_isLower : ByteArray := prog_12_method_71_code
def yX10_isLower : MethodName := ⟨RX10, "isLower", "(II)Z"⟩
abbrev cX10_isBefore : ByteArray := prog_12_method_72_code
def yX10_isBefore : MethodName := ⟨RX10, "isBefore", "(II)Z"⟩
abbrev cX10_help : ByteArray := prog_12_method_73_code
def yX10_help : MethodName := ⟨RX10, "help", "(IJII)I"⟩
abbrev cX10_holders : ByteArray := prog_12_method_74_code
def yX10_holders : MethodName := ⟨RX10, "holders", "(IJI)I"⟩
abbrev cX10_lookers : ByteArray := prog_12_method_75_code
def yX10_lookers : MethodName := ⟨RX10, "lookers", "(IJ)I"⟩
abbrev cX10_count : ByteArray := prog_12_method_76_code
def yX10_count : MethodName := ⟨RX10, "count", "(I)I"⟩
def yJ6_bitCount_0f7a4 : MethodName := ⟨RJ6, "bitCount", "(I)I"⟩
abbrev cJ0_length_8abf5 : ByteArray := prog_23_method_54_code
def yJ0_length_8abf5 : MethodName := ⟨RJ0, "length", "()I"⟩
abbrev cJ0_charAt_5068e : ByteArray := prog_23_method_56_code
def yJ0_charAt_5068e : MethodName := ⟨RJ0, "charAt", "(I)C"⟩
abbrev cJ0_indexOf_0f7a4 : ByteArray := prog_23_method_79_code
def yJ0_indexOf_0f7a4 : MethodName := ⟨RJ0, "indexOf", "(I)I"⟩
abbrev cJ0_indexOf_7cf53 : ByteArray := prog_23_method_80_code
def yJ0_indexOf_7cf53 : MethodName := ⟨RJ0, "indexOf", "(II)I"⟩
abbrev cJ0_coder_7d493 : ByteArray := prog_23_method_152_code
def yJ0_coder_7d493 : MethodName := ⟨RJ0, "coder", "()B"⟩
abbrev cJ0_isLatin1_aae02 : ByteArray := prog_23_method_154_code
def yJ0_isLatin1_aae02 : MethodName := ⟨RJ0, "isLatin1", "()Z"⟩
abbrev cJ0_checkIndex_df160 : ByteArray := prog_23_method_155_code
def yJ0_checkIndex_df160 : MethodName := ⟨RJ0, "checkIndex", "(II)V"⟩
abbrev cJ1_charAt_3b067 : ByteArray := prog_24_method_2_code
def yJ1_charAt_3b067 : MethodName := ⟨RJ1, "charAt", "([BI)C"⟩
abbrev cJ1_canEncode_9a6ad : ByteArray := prog_24_method_4_code
def yJ1_canEncode_9a6ad : MethodName := ⟨RJ1, "canEncode", "(I)Z"⟩
abbrev cJ1_indexOf_4cfef : ByteArray := prog_24_method_22_code
def yJ1_indexOf_4cfef : MethodName := ⟨RJ1, "indexOf", "([BIII)I"⟩
abbrev cJ1_indexOfChar_4cfef : ByteArray := prog_24_method_23_code
def yJ1_indexOfChar_4cfef : MethodName := ⟨RJ1, "indexOfChar", "([BIII)I"⟩
abbrev cJ7_fill_53178 : ByteArray := prog_30_method_103_code
def yJ7_fill_53178 : MethodName := ⟨RJ7, "fill", "([II)V"⟩
abbrev cJ3_checkIndex_8e157 : ByteArray := prog_32_method_11_code
def yJ3_checkIndex_8e157 : MethodName := ⟨RJ3, "checkIndex", "(IILjava/util/function/BiFunction;)I"⟩
abbrev cL_worth : ByteArray := method_3_code
def yL_worth : MethodName := ⟨RL, "worth", "(LNotEnded;III[J)I"⟩
abbrev cL_law : ByteArray := code
end
section
/-! Our own small kit: contracts' starts and ends in two forms. kR: nothing is written; kW: cells change or come. -/
theorem goodIn_sub {big ws : List Cond} (hm : ∀ w ∈ ws, w ∈ big) (h : ws.all goodWord = true) : GoodIn big ws := fun w hw => ⟨hm w hw, good_of_word (List.all_eq_true.mp h w hw)⟩
theorem kG {big a b : List Cond} (ha : ∀ w ∈ a, w ∈ big) (hga : a.all goodWord = true) (hb : ∀ w ∈ b, w ∈ big) (hgb : b.all goodWord = true) : GoodIn big (a ++ b) := fun w h => (List.mem_append.mp h).elim (goodIn_sub ha hga w) (goodIn_sub hb hgb w)
abbrev vwCl : List vw_C := [(RX0, TX0, 5), (RX1, TX1, 19), (RX2, TX2, 8), (RX3, TX3, 6), (RX4, TX4, 8), (RX5, TX5, 2), (RX6, TX6, 2), (RX7, TX7, 2), (RX8, TX8, 2), (RX9, TX9, 10), (RX10, TX10, 52)]
def kT : State → Prop := fun _ => True
theorem kT_blind : ∀ (U : State) (g : JFrame) (mk : MethodId) (a : Array Value), kT U → kT (U.calling g mk a) := fun _ _ _ _ _ => trivial
theorem kT_give {s : State} {H : Heap} : ∀ U : State, U.heap = H → s.WarmedH U.vm → kT U := fun _ _ _ => trivial
def kR (dC : Nat → ClassId) (dI : Nat → Nat → Nat) (av : List Value) (W : va_W) (T : List (ClassId × FieldType)) (X : State → Prop) : Array Value → State → Prop := fun v U => v = av.toArray ∧ va_P (dC, dI) vwCl W U.heap ∧ va_K (dC, dI) vwCl T U ∧ X U
def kW (dC : Nat → ClassId) (dI : Nat → Nat → Nat) (av : List Value) (W : va_W) (T : List (ClassId × FieldType)) (X : State → Prop) (sz : Nat) : Array Value → State → Prop := fun v U => v = av.toArray ∧ U.heap.size = sz ∧ va_P (dC, dI) vwCl W U.heap ∧ va_K (dC, dI) vwCl T U ∧ va_D (fun _ => True) W ∧ X U
def kB (dC : Nat → ClassId) (dI : Nat → Nat → Nat) (W : va_W) (T : List (ClassId × FieldType)) (A : Nat → Prop) (t : State) : Prop := va_P (dC, dI) vwCl W t.heap ∧ va_K (dC, dI) vwCl T t ∧ va_D A W
theorem kR_blind {dC : Nat → ClassId} {dI : Nat → Nat → Nat} {av : List Value} {W : va_W} {T : List (ClassId × FieldType)} {X : State → Prop} (hX : ∀ (U : State) (g : JFrame) (mk : MethodId) (a : Array Value), X U → X (U.calling g mk a)) : FrameBlind (kR dC dI av W T X) := fun a U g mk q => by
  obtain ⟨q0, qP, qK, qX⟩ := q
  exact ⟨q0, qP, va_K.moved (u := U) (U := U.calling g mk a) (Vm.Alike.refl U.vm) qK, hX _ _ _ _ qX⟩
theorem kW_blind {dC : Nat → ClassId} {dI : Nat → Nat → Nat} {av : List Value} {W : va_W} {T : List (ClassId × FieldType)} {X : State → Prop} {sz : Nat} (hX : ∀ (U : State) (g : JFrame) (mk : MethodId) (a : Array Value), X U → X (U.calling g mk a)) : FrameBlind (kW dC dI av W T X sz) := fun a U g mk q => by
  obtain ⟨q0, q1, qP, qK, qD, qX⟩ := q
  exact ⟨q0, q1, qP, va_K.moved (u := U) (U := U.calling g mk a) (Vm.Alike.refl U.vm) qK, qD, hX _ _ _ _ qX⟩
section KPre
variable {s : State} {H : Heap} {dC : Nat → ClassId} {dI : Nat → Nat → Nat} {av : List Value} {W : va_W} {T : List (ClassId × FieldType)} {X : State → Prop} {A : Nat → Prop} {C : String} {b : Addr}
theorem kR_S (hb : ∀ (U : State) (g : JFrame) (mk : MethodId) (a : Array Value), X U → X (U.calling g mk a)) (hX : ∀ U : State, U.heap = H → s.WarmedH U.vm → X U) (hP : va_P (dC, dI) vwCl W H) (hK : va_K (dC, dI) vwCl T s) : PreS s H (kR dC dI av W T X) av :=
  ⟨kR_blind hb, fun U hU hW => ⟨rfl, by rw [hU]; exact hP, va_K.moved hW.alike hK, hX U hU hW⟩⟩
theorem kR_V (hb : ∀ (U : State) (g : JFrame) (mk : MethodId) (a : Array Value), X U → X (U.calling g mk a)) (hX : ∀ U : State, U.heap = H → s.WarmedH U.vm → X U) (hc : ∃ cellB : Cell, H[b]? = some cellB ∧ cellB.vm.isStatics = false ∧ s.vm.findClass C = some cellB.cls) (hP : va_P (dC, dI) vwCl W H) (hK : va_K (dC, dI) vwCl T s) : PreV s H C b (kR dC dI (.ref b :: av) W T X) av :=
  ⟨kR_blind hb, hc, fun U hU hW => ⟨rfl, by rw [hU]; exact hP, va_K.moved hW.alike hK, hX U hU hW⟩⟩
theorem kW_S (hb : ∀ (U : State) (g : JFrame) (mk : MethodId) (a : Array Value), X U → X (U.calling g mk a)) (hX : ∀ U : State, U.heap = H → s.WarmedH U.vm → X U) (hP : va_P (dC, dI) vwCl W H) (hK : va_K (dC, dI) vwCl T s) (hD : va_D A W) : PreS s H (kW dC dI av W T X H.size) av :=
  ⟨kW_blind hb, fun U hU hW => ⟨rfl, by rw [hU], by rw [hU]; exact hP, va_K.moved hW.alike hK, hD.weaken (fun _ _ _ _ => trivial), hX U hU hW⟩⟩
theorem kW_V (hb : ∀ (U : State) (g : JFrame) (mk : MethodId) (a : Array Value), X U → X (U.calling g mk a)) (hX : ∀ U : State, U.heap = H → s.WarmedH U.vm → X U) (hc : ∃ cellB : Cell, H[b]? = some cellB ∧ cellB.vm.isStatics = false ∧ s.vm.findClass C = some cellB.cls) (hP : va_P (dC, dI) vwCl W H) (hK : va_K (dC, dI) vwCl T s) (hD : va_D A W) : PreV s H C b (kW dC dI (.ref b :: av) W T X H.size) av :=
  ⟨kW_blind hb, hc, fun U hU hW => ⟨rfl, by rw [hU], by rw [hU]; exact hP, va_K.moved hW.alike hK, hD.weaken (fun _ _ _ _ => trivial), hX U hU hW⟩⟩
end KPre
/-- a number within two bounds -/
def kIn (v lo hi : Int32) : Int32 := if v < lo then 0 else if hi < v then 0 else 1
theorem kTo (x : List (Nat × Value)) : x = x := rfl
theorem va_P.sb {D : va_G} {cl : List vw_C} {ws ws2 : va_W} {H : Heap} (h : va_P D cl ws H) (is : List Nat) (hs : is.filterMap (fun i => ws[i]?) = ws2) : va_P D cl ws2 H := h.sub is hs
theorem va_D.sb {A : Nat → Prop} {ws ws2 : va_W} (hD : va_D A ws) (is : List Nat) (hn : va_nd is = true) (hs : is.map (fun i => ws[i]?) = ws2.map some) : va_D A ws2 := hD.sub is hn hs
theorem va_K.sb {D : va_G} {cl : List vw_C} {tys tys2 : List (ClassId × FieldType)} {U : State} (h : va_K D cl tys U) (is : List Nat) (hs : is.filterMap (fun i => tys[i]?) = tys2) : va_K D cl tys2 U := h.sub is hs
theorem kGc {c : Cond} {ws : List Cond} (h : goodWord c = true) (g : ws.all goodWord = true) : (c :: ws).all goodWord = true := by rw [List.all_cons, h, g]; rfl
theorem kGa {a b : List Cond} (h : a.all goodWord = true) (g : b.all goodWord = true) : (a ++ b).all goodWord = true := by rw [List.all_append, h, g]; rfl
theorem kGn : ([] : List Cond).all goodWord = true := rfl
theorem kGV (o : String) (i : Nat) (C : String) (y : MethodName) : ([.methodLink o i y, .instanceMethod y, .selects C y y, .initialized C] : List Cond).all goodWord = true := rfl
theorem kGS (o : String) (i : Nat) (y : MethodName) : ([.methodLink o i y, .static y, .initialized y.cls] : List Cond).all goodWord = true := rfl
theorem gw_wsX00 : (wsX00).all goodWord = true := by decide +kernel
theorem gw_wsX10 : (wsX10).all goodWord = true := by decide +kernel
theorem gw_wsX20 : (wsX20).all goodWord = true := by decide +kernel
theorem gw_wsX30 : (wsX30).all goodWord = true := by decide +kernel
theorem gw_wsX40 : (wsX40).all goodWord = true := by decide +kernel
theorem gw_wsX50 : (wsX50).all goodWord = true := by decide +kernel
theorem gw_wsX60 : (wsX60).all goodWord = true := by decide +kernel
theorem gw_wsX70 : (wsX70).all goodWord = true := by decide +kernel
theorem gw_wsX80 : (wsX80).all goodWord = true := by decide +kernel
theorem gw_wsX90 : (wsX90).all goodWord = true := by decide +kernel
theorem gw_wsX100 : (wsX100).all goodWord = true := by decide +kernel
theorem kQ {p : Program} {l : Launch} {e : Env} {R : Room} {s : State} {m : MethodId} {args : Array Value} {below : List Frame} {meth : Method} {c : Code} {H : Heap} {locs : List Loc} {cells slots : Nat} {Q : State → Prop} {g : JFrame} (h : ∀ Q2 : State → Prop, Q2 = Q → W p l e R s m args below meth c H locs cells slots Q2 g) : W p l e R s m args below meth c H locs cells slots Q g := h Q rfl
abbrev kPD (dC : Nat → ClassId) (dI : Nat → Nat → Nat) (A : Nat → Prop) (W : va_W) (H : Heap) : Prop := va_P (dC, dI) vwCl W H ∧ va_D A W
theorem kCut {A : Nat → Prop} {D : va_G} {cl : List vw_C} {ws wc : va_W} {H0 H : Heap} {locs : List Loc} (hP : va_P D cl ws H) (hD : va_D A ws) (hS : va_S A H0 H locs) (hA : ∀ q, H0.size ≤ q → A q) (is : List Nat) (h1 : is.filterMap (fun i => ws[i]?) = wc) (hn : va_nd is = true) (h2 : is.map (fun i => ws[i]?) = wc.map some) : va_P D cl wc H ∧ va_D A wc ∧ ∀ q, va_A wc H.size q → A q := ⟨hP.sub is h1, hD.sub is hn h2, va_free hD hS hA is h2⟩
theorem kJoin {A : Nat → Prop} {D : va_G} {cl : List vw_C} {ws wc w1 w2 : va_W} {H H1 : Heap} (hP : va_P D cl ws H) (hD : va_D A ws) (isC isR : List Nat) (hC : isC.map (fun i => ws[i]?) = wc.map some) (hR : isR.map (fun i => ws[i]?) = (isR.filterMap (fun i => ws[i]?)).map some) (hn : va_nd isR = true) (hdis : ∀ i ∈ isR, i ∉ isC) (hk : ∀ q : Nat, q < H.size → ¬ va_A wc H.size q → H1[q]? = H[q]?) (hF : ∀ q, va_A wc H.size q → A q) (hP1 : va_P D cl w1 H1) (hD1 : va_D (va_A wc H.size) w1) (h2 : isR.filterMap (fun i => ws[i]?) ++ w1 = w2) : va_P D cl w2 H1 ∧ va_D A w2 := h2 ▸ va_join hP hD isC isR hC hR hn hdis hk hF hP1 hD1
def kNi (k : Nat) : List Nat → Bool
  | [] => true
  | i :: is => !(Nat.beq i k) && kNi k is
def kCk (isC : List Nat) : Nat → List (Option Nat) → Bool
  | _, [] => true
  | k, some j :: cs => (match isC[j]? with | some i => Nat.beq i k | none => false) && kCk isC (k + 1) cs
  | k, none :: cs => kNi k isC && kCk isC (k + 1) cs
def kMg (w1 : va_W) : va_W → List (Option Nat) → List (Option (Nat × va_E))
  | _ :: ws, some j :: cs => w1[j]? :: kMg w1 ws cs
  | z :: ws, none :: cs => some z :: kMg w1 ws cs
  | _, _ => []
theorem kNi_n {k : Nat} : ∀ {is : List Nat}, kNi k is = true → ¬ k ∈ is := by
  intro is
  induction is with
  | nil => intro _; exact List.not_mem_nil
  | cons i is ih =>
    intro h z
    unfold kNi at h
    rw [Bool.and_eq_true, Bool.not_eq_true'] at h
    rcases List.mem_cons.mp z with e | e
    · subst e; rw [Nat.beq_refl] at h; exact absurd h.1 (by decide)
    · exact ih h.2 e
theorem kMg_s {isC : List Nat} {w1 : va_W} : ∀ (cs : List (Option Nat)) (ws w2 : va_W) (k0 : Nat), kCk isC k0 cs = true → kMg w1 ws cs = w2.map some → ∀ (k : Nat) (q : Nat × va_E), w2[k]? = some q → (∃ m : Nat, isC[m]? = some (k0 + k) ∧ w1[m]? = some q) ∨ (ws[k]? = some q ∧ ¬ (k0 + k) ∈ isC) := by
  intro cs
  induction cs with
  | nil =>
    intro ws w2 k0 _ h2 k q hq
    cases w2 with
    | nil => simp at hq
    | cons z w2 => cases ws <;> simp [kMg] at h2
  | cons c cs ih =>
    intro ws w2 k0 h1 h2 k q hq
    cases w2 with
    | nil => simp at hq
    | cons z w2 =>
      cases ws with
      | nil => simp [kMg] at h2
      | cons y ws =>
        cases c with
        | some j =>
          unfold kCk at h1
          unfold kMg at h2
          rw [Bool.and_eq_true] at h1
          rw [List.map_cons] at h2
          obtain ⟨h3, h4⟩ := List.cons.inj h2
          cases k with
          | zero =>
            left
            refine ⟨j, ?_, ?_⟩
            · have h5 := h1.1
              cases hj : isC[j]? with
              | none => rw [hj] at h5; exact Bool.noConfusion h5
              | some i => rw [hj] at h5; rw [Nat.eq_of_beq_eq_true h5]; rfl
            · rw [h3]; exact hq
          | succ k =>
            rcases ih ws w2 (k0 + 1) h1.2 h4 k q hq with ⟨m, h5, h6⟩ | ⟨h5, h6⟩
            · exact Or.inl ⟨m, by rw [h5]; congr 1; omega, h6⟩
            · exact Or.inr ⟨h5, by rw [show k0 + (k + 1) = k0 + 1 + k by omega]; exact h6⟩
        | none =>
          unfold kCk at h1
          unfold kMg at h2
          rw [Bool.and_eq_true] at h1
          rw [List.map_cons] at h2
          obtain ⟨h3, h4⟩ := List.cons.inj h2
          cases k with
          | zero => exact Or.inr ⟨by rw [← hq]; show some y = some z; exact h3, kNi_n h1.1⟩
          | succ k =>
            rcases ih ws w2 (k0 + 1) h1.2 h4 k q hq with ⟨m, h5, h6⟩ | ⟨h5, h6⟩
            · exact Or.inl ⟨m, by rw [h5]; congr 1; omega, h6⟩
            · exact Or.inr ⟨h5, by rw [show k0 + (k + 1) = k0 + 1 + k by omega]; exact h6⟩
theorem kMapS {α β : Type} {is : List α} {f : α → Option β} {w : List β} (h : is.map f = w.map some) {m : Nat} {c : β} (hc : w[m]? = some c) : ∃ i, is[m]? = some i ∧ f i = some c := by
  have h1 : (is.map f)[m]? = some (some c) := by rw [h, List.getElem?_map, hc]; rfl
  rw [List.getElem?_map] at h1
  cases hi : is[m]? with
  | none => rw [hi] at h1; cases h1
  | some i => rw [hi] at h1; exact ⟨i, rfl, Option.some.inj h1⟩
theorem kMapR {α β : Type} {is : List α} {f : α → Option β} {w : List β} (h : is.map f = w.map some) {m : Nat} {i : α} (hi : is[m]? = some i) : ∃ c, w[m]? = some c ∧ f i = some c := by
  have h1 : (w.map some)[m]? = some (f i) := by rw [← h, List.getElem?_map, hi]; rfl
  rw [List.getElem?_map] at h1
  cases hc : w[m]? with
  | none => rw [hc] at h1; cases h1
  | some c => rw [hc] at h1; exact ⟨c, rfl, (Option.some.inj h1).symm⟩
theorem kJoinI {A : Nat → Prop} {D : va_G} {cl : List vw_C} {ws wc w1 w2 : va_W} {H H1 : Heap} (hP : va_P D cl ws H) (hD : va_D A ws) (isC : List Nat) (hC : isC.map (fun i => ws[i]?) = wc.map some) (hk : ∀ q : Nat, q < H.size → ¬ va_A wc H.size q → H1[q]? = H[q]?) (_hF : ∀ q, va_A wc H.size q → A q) (hP1 : va_P D cl w1 H1) (_hD1 : va_D (va_A wc H.size) w1) (ha : w1.map (fun z => z.1) = wc.map (fun z => z.1)) (cs : List (Option Nat)) (hc : kCk isC 0 cs = true) (h2 : kMg w1 ws cs = w2.map some) : va_P D cl w2 H1 ∧ va_D A w2 := by
  have hs := kMg_s cs ws w2 0 hc h2
  simp only [Nat.zero_add] at hs
  have adr : ∀ (k : Nat) (q : Nat × va_E), w2[k]? = some q → ∃ q0 : Nat × va_E, ws[k]? = some q0 ∧ q0.1 = q.1 := by
    intro k q hq
    rcases hs k q hq with ⟨m, h3, h4⟩ | ⟨h3, -⟩
    · obtain ⟨c, h5, h6⟩ := kMapR hC h3
      refine ⟨c, h6, ?_⟩
      have h7 : (w1.map (fun z => z.1))[m]? = some q.1 := by rw [List.getElem?_map, h4]; rfl
      rw [ha, List.getElem?_map, h5] at h7
      exact Option.some.inj h7
    · exact ⟨q, h3, rfl⟩
  refine ⟨fun k q hq => ?_, fun i j p q hi hj e => ?_, fun k q hq => ?_⟩
  · rcases hs k q hq with ⟨m, h3, h4⟩ | ⟨h3, h4⟩
    · exact hP1 m q h4
    · have hl := (hP k q h3).lt
      refine (hP k q h3).kept (hk q.1 hl (fun z => ?_))
      rcases z with ⟨j, e, hj⟩ | z
      · obtain ⟨i, h5, h6⟩ := kMapS hC hj
        have h7 := hD.1 k i q (q.1, e) h3 h6 rfl
        subst h7
        exact h4 (List.mem_of_getElem? h5)
      · omega
  · obtain ⟨p0, h3, h4⟩ := adr i p hi
    obtain ⟨q0, h5, h6⟩ := adr j q hj
    exact hD.1 i j p0 q0 h3 h5 (by rw [h4, h6, e])
  · obtain ⟨q0, h3, h4⟩ := adr k q hq
    rw [← h4]; exact hD.2 k q0 h3
theorem kJoinX {A : Nat → Prop} {D : va_G} {cl : List vw_C} {ws wc w1 w2 : va_W} {H H1 H2 : Heap} (hP : va_P D cl ws H) (hD : va_D A ws) (isC : List Nat) (hC : isC.map (fun i => ws[i]?) = wc.map some) (hk : ∀ q : Nat, q < H.size → ¬ va_A wc H.size q → H1[q]? = H[q]?) (hF : ∀ q, va_A wc H.size q → A q) (hP1 : va_P D cl w1 H2) (ht : H2 = H1) (hD1 : va_D (va_A wc H.size) w1) (ha : w1.map (fun z => z.1) = wc.map (fun z => z.1)) (cs : List (Option Nat)) (hc : kCk isC 0 cs = true) (h2 : kMg w1 ws cs = w2.map some) : va_P D cl w2 H1 ∧ va_D A w2 := kJoinI hP hD isC hC hk hF (ht ▸ hP1) hD1 ha cs hc h2
theorem kU2 {T0 T1 : Type} {P : T0 × T1 → Prop} (h : ∀ a0 a1, P (a0, a1)) : ∀ u, P u := fun u => h u.1 u.2
theorem kU3 {T0 T1 T2 : Type} {P : T0 × T1 × T2 → Prop} (h : ∀ a0 a1 a2, P (a0, a1, a2)) : ∀ u, P u := fun u => h u.1 u.2.1 u.2.2
theorem kU4 {T0 T1 T2 T3 : Type} {P : T0 × T1 × T2 × T3 → Prop} (h : ∀ a0 a1 a2 a3, P (a0, a1, a2, a3)) : ∀ u, P u := fun u => h u.1 u.2.1 u.2.2.1 u.2.2.2
theorem kU5 {T0 T1 T2 T3 T4 : Type} {P : T0 × T1 × T2 × T3 × T4 → Prop} (h : ∀ a0 a1 a2 a3 a4, P (a0, a1, a2, a3, a4)) : ∀ u, P u := fun u => h u.1 u.2.1 u.2.2.1 u.2.2.2.1 u.2.2.2.2
theorem kU6 {T0 T1 T2 T3 T4 T5 : Type} {P : T0 × T1 × T2 × T3 × T4 × T5 → Prop} (h : ∀ a0 a1 a2 a3 a4 a5, P (a0, a1, a2, a3, a4, a5)) : ∀ u, P u := fun u => h u.1 u.2.1 u.2.2.1 u.2.2.2.1 u.2.2.2.2.1 u.2.2.2.2.2
theorem kU7 {T0 T1 T2 T3 T4 T5 T6 : Type} {P : T0 × T1 × T2 × T3 × T4 × T5 × T6 → Prop} (h : ∀ a0 a1 a2 a3 a4 a5 a6, P (a0, a1, a2, a3, a4, a5, a6)) : ∀ u, P u := fun u => h u.1 u.2.1 u.2.2.1 u.2.2.2.1 u.2.2.2.2.1 u.2.2.2.2.2.1 u.2.2.2.2.2.2
theorem kU8 {T0 T1 T2 T3 T4 T5 T6 T7 : Type} {P : T0 × T1 × T2 × T3 × T4 × T5 × T6 × T7 → Prop} (h : ∀ a0 a1 a2 a3 a4 a5 a6 a7, P (a0, a1, a2, a3, a4, a5, a6, a7)) : ∀ u, P u := fun u => h u.1 u.2.1 u.2.2.1 u.2.2.2.1 u.2.2.2.2.1 u.2.2.2.2.2.1 u.2.2.2.2.2.2.1 u.2.2.2.2.2.2.2
theorem kU9 {T0 T1 T2 T3 T4 T5 T6 T7 T8 : Type} {P : T0 × T1 × T2 × T3 × T4 × T5 × T6 × T7 × T8 → Prop} (h : ∀ a0 a1 a2 a3 a4 a5 a6 a7 a8, P (a0, a1, a2, a3, a4, a5, a6, a7, a8)) : ∀ u, P u := fun u => h u.1 u.2.1 u.2.2.1 u.2.2.2.1 u.2.2.2.2.1 u.2.2.2.2.2.1 u.2.2.2.2.2.2.1 u.2.2.2.2.2.2.2.1 u.2.2.2.2.2.2.2.2
theorem kU10 {T0 T1 T2 T3 T4 T5 T6 T7 T8 T9 : Type} {P : T0 × T1 × T2 × T3 × T4 × T5 × T6 × T7 × T8 × T9 → Prop} (h : ∀ a0 a1 a2 a3 a4 a5 a6 a7 a8 a9, P (a0, a1, a2, a3, a4, a5, a6, a7, a8, a9)) : ∀ u, P u := fun u => h u.1 u.2.1 u.2.2.1 u.2.2.2.1 u.2.2.2.2.1 u.2.2.2.2.2.1 u.2.2.2.2.2.2.1 u.2.2.2.2.2.2.2.1 u.2.2.2.2.2.2.2.2.1 u.2.2.2.2.2.2.2.2.2
theorem kU11 {T0 T1 T2 T3 T4 T5 T6 T7 T8 T9 T10 : Type} {P : T0 × T1 × T2 × T3 × T4 × T5 × T6 × T7 × T8 × T9 × T10 → Prop} (h : ∀ a0 a1 a2 a3 a4 a5 a6 a7 a8 a9 a10, P (a0, a1, a2, a3, a4, a5, a6, a7, a8, a9, a10)) : ∀ u, P u := fun u => h u.1 u.2.1 u.2.2.1 u.2.2.2.1 u.2.2.2.2.1 u.2.2.2.2.2.1 u.2.2.2.2.2.2.1 u.2.2.2.2.2.2.2.1 u.2.2.2.2.2.2.2.2.1 u.2.2.2.2.2.2.2.2.2.1 u.2.2.2.2.2.2.2.2.2.2
theorem kU12 {T0 T1 T2 T3 T4 T5 T6 T7 T8 T9 T10 T11 : Type} {P : T0 × T1 × T2 × T3 × T4 × T5 × T6 × T7 × T8 × T9 × T10 × T11 → Prop} (h : ∀ a0 a1 a2 a3 a4 a5 a6 a7 a8 a9 a10 a11, P (a0, a1, a2, a3, a4, a5, a6, a7, a8, a9, a10, a11)) : ∀ u, P u := fun u => h u.1 u.2.1 u.2.2.1 u.2.2.2.1 u.2.2.2.2.1 u.2.2.2.2.2.1 u.2.2.2.2.2.2.1 u.2.2.2.2.2.2.2.1 u.2.2.2.2.2.2.2.2.1 u.2.2.2.2.2.2.2.2.2.1 u.2.2.2.2.2.2.2.2.2.2.1 u.2.2.2.2.2.2.2.2.2.2.2
theorem kU13 {T0 T1 T2 T3 T4 T5 T6 T7 T8 T9 T10 T11 T12 : Type} {P : T0 × T1 × T2 × T3 × T4 × T5 × T6 × T7 × T8 × T9 × T10 × T11 × T12 → Prop} (h : ∀ a0 a1 a2 a3 a4 a5 a6 a7 a8 a9 a10 a11 a12, P (a0, a1, a2, a3, a4, a5, a6, a7, a8, a9, a10, a11, a12)) : ∀ u, P u := fun u => h u.1 u.2.1 u.2.2.1 u.2.2.2.1 u.2.2.2.2.1 u.2.2.2.2.2.1 u.2.2.2.2.2.2.1 u.2.2.2.2.2.2.2.1 u.2.2.2.2.2.2.2.2.1 u.2.2.2.2.2.2.2.2.2.1 u.2.2.2.2.2.2.2.2.2.2.1 u.2.2.2.2.2.2.2.2.2.2.2.1 u.2.2.2.2.2.2.2.2.2.2.2.2
theorem kU14 {T0 T1 T2 T3 T4 T5 T6 T7 T8 T9 T10 T11 T12 T13 : Type} {P : T0 × T1 × T2 × T3 × T4 × T5 × T6 × T7 × T8 × T9 × T10 × T11 × T12 × T13 → Prop} (h : ∀ a0 a1 a2 a3 a4 a5 a6 a7 a8 a9 a10 a11 a12 a13, P (a0, a1, a2, a3, a4, a5, a6, a7, a8, a9, a10, a11, a12, a13)) : ∀ u, P u := fun u => h u.1 u.2.1 u.2.2.1 u.2.2.2.1 u.2.2.2.2.1 u.2.2.2.2.2.1 u.2.2.2.2.2.2.1 u.2.2.2.2.2.2.2.1 u.2.2.2.2.2.2.2.2.1 u.2.2.2.2.2.2.2.2.2.1 u.2.2.2.2.2.2.2.2.2.2.1 u.2.2.2.2.2.2.2.2.2.2.2.1 u.2.2.2.2.2.2.2.2.2.2.2.2.1 u.2.2.2.2.2.2.2.2.2.2.2.2.2
theorem kU15 {T0 T1 T2 T3 T4 T5 T6 T7 T8 T9 T10 T11 T12 T13 T14 : Type} {P : T0 × T1 × T2 × T3 × T4 × T5 × T6 × T7 × T8 × T9 × T10 × T11 × T12 × T13 × T14 → Prop} (h : ∀ a0 a1 a2 a3 a4 a5 a6 a7 a8 a9 a10 a11 a12 a13 a14, P (a0, a1, a2, a3, a4, a5, a6, a7, a8, a9, a10, a11, a12, a13, a14)) : ∀ u, P u := fun u => h u.1 u.2.1 u.2.2.1 u.2.2.2.1 u.2.2.2.2.1 u.2.2.2.2.2.1 u.2.2.2.2.2.2.1 u.2.2.2.2.2.2.2.1 u.2.2.2.2.2.2.2.2.1 u.2.2.2.2.2.2.2.2.2.1 u.2.2.2.2.2.2.2.2.2.2.1 u.2.2.2.2.2.2.2.2.2.2.2.1 u.2.2.2.2.2.2.2.2.2.2.2.2.1 u.2.2.2.2.2.2.2.2.2.2.2.2.2.1 u.2.2.2.2.2.2.2.2.2.2.2.2.2.2
theorem kU16 {T0 T1 T2 T3 T4 T5 T6 T7 T8 T9 T10 T11 T12 T13 T14 T15 : Type} {P : T0 × T1 × T2 × T3 × T4 × T5 × T6 × T7 × T8 × T9 × T10 × T11 × T12 × T13 × T14 × T15 → Prop} (h : ∀ a0 a1 a2 a3 a4 a5 a6 a7 a8 a9 a10 a11 a12 a13 a14 a15, P (a0, a1, a2, a3, a4, a5, a6, a7, a8, a9, a10, a11, a12, a13, a14, a15)) : ∀ u, P u := fun u => h u.1 u.2.1 u.2.2.1 u.2.2.2.1 u.2.2.2.2.1 u.2.2.2.2.2.1 u.2.2.2.2.2.2.1 u.2.2.2.2.2.2.2.1 u.2.2.2.2.2.2.2.2.1 u.2.2.2.2.2.2.2.2.2.1 u.2.2.2.2.2.2.2.2.2.2.1 u.2.2.2.2.2.2.2.2.2.2.2.1 u.2.2.2.2.2.2.2.2.2.2.2.2.1 u.2.2.2.2.2.2.2.2.2.2.2.2.2.1 u.2.2.2.2.2.2.2.2.2.2.2.2.2.2.1 u.2.2.2.2.2.2.2.2.2.2.2.2.2.2.2
theorem kU17 {T0 T1 T2 T3 T4 T5 T6 T7 T8 T9 T10 T11 T12 T13 T14 T15 T16 : Type} {P : T0 × T1 × T2 × T3 × T4 × T5 × T6 × T7 × T8 × T9 × T10 × T11 × T12 × T13 × T14 × T15 × T16 → Prop} (h : ∀ a0 a1 a2 a3 a4 a5 a6 a7 a8 a9 a10 a11 a12 a13 a14 a15 a16, P (a0, a1, a2, a3, a4, a5, a6, a7, a8, a9, a10, a11, a12, a13, a14, a15, a16)) : ∀ u, P u := fun u => h u.1 u.2.1 u.2.2.1 u.2.2.2.1 u.2.2.2.2.1 u.2.2.2.2.2.1 u.2.2.2.2.2.2.1 u.2.2.2.2.2.2.2.1 u.2.2.2.2.2.2.2.2.1 u.2.2.2.2.2.2.2.2.2.1 u.2.2.2.2.2.2.2.2.2.2.1 u.2.2.2.2.2.2.2.2.2.2.2.1 u.2.2.2.2.2.2.2.2.2.2.2.2.1 u.2.2.2.2.2.2.2.2.2.2.2.2.2.1 u.2.2.2.2.2.2.2.2.2.2.2.2.2.2.1 u.2.2.2.2.2.2.2.2.2.2.2.2.2.2.2.1 u.2.2.2.2.2.2.2.2.2.2.2.2.2.2.2.2
theorem kU18 {T0 T1 T2 T3 T4 T5 T6 T7 T8 T9 T10 T11 T12 T13 T14 T15 T16 T17 : Type} {P : T0 × T1 × T2 × T3 × T4 × T5 × T6 × T7 × T8 × T9 × T10 × T11 × T12 × T13 × T14 × T15 × T16 × T17 → Prop} (h : ∀ a0 a1 a2 a3 a4 a5 a6 a7 a8 a9 a10 a11 a12 a13 a14 a15 a16 a17, P (a0, a1, a2, a3, a4, a5, a6, a7, a8, a9, a10, a11, a12, a13, a14, a15, a16, a17)) : ∀ u, P u := fun u => h u.1 u.2.1 u.2.2.1 u.2.2.2.1 u.2.2.2.2.1 u.2.2.2.2.2.1 u.2.2.2.2.2.2.1 u.2.2.2.2.2.2.2.1 u.2.2.2.2.2.2.2.2.1 u.2.2.2.2.2.2.2.2.2.1 u.2.2.2.2.2.2.2.2.2.2.1 u.2.2.2.2.2.2.2.2.2.2.2.1 u.2.2.2.2.2.2.2.2.2.2.2.2.1 u.2.2.2.2.2.2.2.2.2.2.2.2.2.1 u.2.2.2.2.2.2.2.2.2.2.2.2.2.2.1 u.2.2.2.2.2.2.2.2.2.2.2.2.2.2.2.1 u.2.2.2.2.2.2.2.2.2.2.2.2.2.2.2.2.1 u.2.2.2.2.2.2.2.2.2.2.2.2.2.2.2.2.2
theorem kU19 {T0 T1 T2 T3 T4 T5 T6 T7 T8 T9 T10 T11 T12 T13 T14 T15 T16 T17 T18 : Type} {P : T0 × T1 × T2 × T3 × T4 × T5 × T6 × T7 × T8 × T9 × T10 × T11 × T12 × T13 × T14 × T15 × T16 × T17 × T18 → Prop} (h : ∀ a0 a1 a2 a3 a4 a5 a6 a7 a8 a9 a10 a11 a12 a13 a14 a15 a16 a17 a18, P (a0, a1, a2, a3, a4, a5, a6, a7, a8, a9, a10, a11, a12, a13, a14, a15, a16, a17, a18)) : ∀ u, P u := fun u => h u.1 u.2.1 u.2.2.1 u.2.2.2.1 u.2.2.2.2.1 u.2.2.2.2.2.1 u.2.2.2.2.2.2.1 u.2.2.2.2.2.2.2.1 u.2.2.2.2.2.2.2.2.1 u.2.2.2.2.2.2.2.2.2.1 u.2.2.2.2.2.2.2.2.2.2.1 u.2.2.2.2.2.2.2.2.2.2.2.1 u.2.2.2.2.2.2.2.2.2.2.2.2.1 u.2.2.2.2.2.2.2.2.2.2.2.2.2.1 u.2.2.2.2.2.2.2.2.2.2.2.2.2.2.1 u.2.2.2.2.2.2.2.2.2.2.2.2.2.2.2.1 u.2.2.2.2.2.2.2.2.2.2.2.2.2.2.2.2.1 u.2.2.2.2.2.2.2.2.2.2.2.2.2.2.2.2.2.1 u.2.2.2.2.2.2.2.2.2.2.2.2.2.2.2.2.2.2
theorem kU20 {T0 T1 T2 T3 T4 T5 T6 T7 T8 T9 T10 T11 T12 T13 T14 T15 T16 T17 T18 T19 : Type} {P : T0 × T1 × T2 × T3 × T4 × T5 × T6 × T7 × T8 × T9 × T10 × T11 × T12 × T13 × T14 × T15 × T16 × T17 × T18 × T19 → Prop} (h : ∀ a0 a1 a2 a3 a4 a5 a6 a7 a8 a9 a10 a11 a12 a13 a14 a15 a16 a17 a18 a19, P (a0, a1, a2, a3, a4, a5, a6, a7, a8, a9, a10, a11, a12, a13, a14, a15, a16, a17, a18, a19)) : ∀ u, P u := fun u => h u.1 u.2.1 u.2.2.1 u.2.2.2.1 u.2.2.2.2.1 u.2.2.2.2.2.1 u.2.2.2.2.2.2.1 u.2.2.2.2.2.2.2.1 u.2.2.2.2.2.2.2.2.1 u.2.2.2.2.2.2.2.2.2.1 u.2.2.2.2.2.2.2.2.2.2.1 u.2.2.2.2.2.2.2.2.2.2.2.1 u.2.2.2.2.2.2.2.2.2.2.2.2.1 u.2.2.2.2.2.2.2.2.2.2.2.2.2.1 u.2.2.2.2.2.2.2.2.2.2.2.2.2.2.1 u.2.2.2.2.2.2.2.2.2.2.2.2.2.2.2.1 u.2.2.2.2.2.2.2.2.2.2.2.2.2.2.2.2.1 u.2.2.2.2.2.2.2.2.2.2.2.2.2.2.2.2.2.1 u.2.2.2.2.2.2.2.2.2.2.2.2.2.2.2.2.2.2.1 u.2.2.2.2.2.2.2.2.2.2.2.2.2.2.2.2.2.2.2
theorem kU21 {T0 T1 T2 T3 T4 T5 T6 T7 T8 T9 T10 T11 T12 T13 T14 T15 T16 T17 T18 T19 T20 : Type} {P : T0 × T1 × T2 × T3 × T4 × T5 × T6 × T7 × T8 × T9 × T10 × T11 × T12 × T13 × T14 × T15 × T16 × T17 × T18 × T19 × T20 → Prop} (h : ∀ a0 a1 a2 a3 a4 a5 a6 a7 a8 a9 a10 a11 a12 a13 a14 a15 a16 a17 a18 a19 a20, P (a0, a1, a2, a3, a4, a5, a6, a7, a8, a9, a10, a11, a12, a13, a14, a15, a16, a17, a18, a19, a20)) : ∀ u, P u := fun u => h u.1 u.2.1 u.2.2.1 u.2.2.2.1 u.2.2.2.2.1 u.2.2.2.2.2.1 u.2.2.2.2.2.2.1 u.2.2.2.2.2.2.2.1 u.2.2.2.2.2.2.2.2.1 u.2.2.2.2.2.2.2.2.2.1 u.2.2.2.2.2.2.2.2.2.2.1 u.2.2.2.2.2.2.2.2.2.2.2.1 u.2.2.2.2.2.2.2.2.2.2.2.2.1 u.2.2.2.2.2.2.2.2.2.2.2.2.2.1 u.2.2.2.2.2.2.2.2.2.2.2.2.2.2.1 u.2.2.2.2.2.2.2.2.2.2.2.2.2.2.2.1 u.2.2.2.2.2.2.2.2.2.2.2.2.2.2.2.2.1 u.2.2.2.2.2.2.2.2.2.2.2.2.2.2.2.2.2.1 u.2.2.2.2.2.2.2.2.2.2.2.2.2.2.2.2.2.2.1 u.2.2.2.2.2.2.2.2.2.2.2.2.2.2.2.2.2.2.2.1 u.2.2.2.2.2.2.2.2.2.2.2.2.2.2.2.2.2.2.2.2
theorem kU22 {T0 T1 T2 T3 T4 T5 T6 T7 T8 T9 T10 T11 T12 T13 T14 T15 T16 T17 T18 T19 T20 T21 : Type} {P : T0 × T1 × T2 × T3 × T4 × T5 × T6 × T7 × T8 × T9 × T10 × T11 × T12 × T13 × T14 × T15 × T16 × T17 × T18 × T19 × T20 × T21 → Prop} (h : ∀ a0 a1 a2 a3 a4 a5 a6 a7 a8 a9 a10 a11 a12 a13 a14 a15 a16 a17 a18 a19 a20 a21, P (a0, a1, a2, a3, a4, a5, a6, a7, a8, a9, a10, a11, a12, a13, a14, a15, a16, a17, a18, a19, a20, a21)) : ∀ u, P u := fun u => h u.1 u.2.1 u.2.2.1 u.2.2.2.1 u.2.2.2.2.1 u.2.2.2.2.2.1 u.2.2.2.2.2.2.1 u.2.2.2.2.2.2.2.1 u.2.2.2.2.2.2.2.2.1 u.2.2.2.2.2.2.2.2.2.1 u.2.2.2.2.2.2.2.2.2.2.1 u.2.2.2.2.2.2.2.2.2.2.2.1 u.2.2.2.2.2.2.2.2.2.2.2.2.1 u.2.2.2.2.2.2.2.2.2.2.2.2.2.1 u.2.2.2.2.2.2.2.2.2.2.2.2.2.2.1 u.2.2.2.2.2.2.2.2.2.2.2.2.2.2.2.1 u.2.2.2.2.2.2.2.2.2.2.2.2.2.2.2.2.1 u.2.2.2.2.2.2.2.2.2.2.2.2.2.2.2.2.2.1 u.2.2.2.2.2.2.2.2.2.2.2.2.2.2.2.2.2.2.1 u.2.2.2.2.2.2.2.2.2.2.2.2.2.2.2.2.2.2.2.1 u.2.2.2.2.2.2.2.2.2.2.2.2.2.2.2.2.2.2.2.2.1 u.2.2.2.2.2.2.2.2.2.2.2.2.2.2.2.2.2.2.2.2.2
theorem kU23 {T0 T1 T2 T3 T4 T5 T6 T7 T8 T9 T10 T11 T12 T13 T14 T15 T16 T17 T18 T19 T20 T21 T22 : Type} {P : T0 × T1 × T2 × T3 × T4 × T5 × T6 × T7 × T8 × T9 × T10 × T11 × T12 × T13 × T14 × T15 × T16 × T17 × T18 × T19 × T20 × T21 × T22 → Prop} (h : ∀ a0 a1 a2 a3 a4 a5 a6 a7 a8 a9 a10 a11 a12 a13 a14 a15 a16 a17 a18 a19 a20 a21 a22, P (a0, a1, a2, a3, a4, a5, a6, a7, a8, a9, a10, a11, a12, a13, a14, a15, a16, a17, a18, a19, a20, a21, a22)) : ∀ u, P u := fun u => h u.1 u.2.1 u.2.2.1 u.2.2.2.1 u.2.2.2.2.1 u.2.2.2.2.2.1 u.2.2.2.2.2.2.1 u.2.2.2.2.2.2.2.1 u.2.2.2.2.2.2.2.2.1 u.2.2.2.2.2.2.2.2.2.1 u.2.2.2.2.2.2.2.2.2.2.1 u.2.2.2.2.2.2.2.2.2.2.2.1 u.2.2.2.2.2.2.2.2.2.2.2.2.1 u.2.2.2.2.2.2.2.2.2.2.2.2.2.1 u.2.2.2.2.2.2.2.2.2.2.2.2.2.2.1 u.2.2.2.2.2.2.2.2.2.2.2.2.2.2.2.1 u.2.2.2.2.2.2.2.2.2.2.2.2.2.2.2.2.1 u.2.2.2.2.2.2.2.2.2.2.2.2.2.2.2.2.2.1 u.2.2.2.2.2.2.2.2.2.2.2.2.2.2.2.2.2.2.1 u.2.2.2.2.2.2.2.2.2.2.2.2.2.2.2.2.2.2.2.1 u.2.2.2.2.2.2.2.2.2.2.2.2.2.2.2.2.2.2.2.2.1 u.2.2.2.2.2.2.2.2.2.2.2.2.2.2.2.2.2.2.2.2.2.1 u.2.2.2.2.2.2.2.2.2.2.2.2.2.2.2.2.2.2.2.2.2.2
theorem kU24 {T0 T1 T2 T3 T4 T5 T6 T7 T8 T9 T10 T11 T12 T13 T14 T15 T16 T17 T18 T19 T20 T21 T22 T23 : Type} {P : T0 × T1 × T2 × T3 × T4 × T5 × T6 × T7 × T8 × T9 × T10 × T11 × T12 × T13 × T14 × T15 × T16 × T17 × T18 × T19 × T20 × T21 × T22 × T23 → Prop} (h : ∀ a0 a1 a2 a3 a4 a5 a6 a7 a8 a9 a10 a11 a12 a13 a14 a15 a16 a17 a18 a19 a20 a21 a22 a23, P (a0, a1, a2, a3, a4, a5, a6, a7, a8, a9, a10, a11, a12, a13, a14, a15, a16, a17, a18, a19, a20, a21, a22, a23)) : ∀ u, P u := fun u => h u.1 u.2.1 u.2.2.1 u.2.2.2.1 u.2.2.2.2.1 u.2.2.2.2.2.1 u.2.2.2.2.2.2.1 u.2.2.2.2.2.2.2.1 u.2.2.2.2.2.2.2.2.1 u.2.2.2.2.2.2.2.2.2.1 u.2.2.2.2.2.2.2.2.2.2.1 u.2.2.2.2.2.2.2.2.2.2.2.1 u.2.2.2.2.2.2.2.2.2.2.2.2.1 u.2.2.2.2.2.2.2.2.2.2.2.2.2.1 u.2.2.2.2.2.2.2.2.2.2.2.2.2.2.1 u.2.2.2.2.2.2.2.2.2.2.2.2.2.2.2.1 u.2.2.2.2.2.2.2.2.2.2.2.2.2.2.2.2.1 u.2.2.2.2.2.2.2.2.2.2.2.2.2.2.2.2.2.1 u.2.2.2.2.2.2.2.2.2.2.2.2.2.2.2.2.2.2.1 u.2.2.2.2.2.2.2.2.2.2.2.2.2.2.2.2.2.2.2.1 u.2.2.2.2.2.2.2.2.2.2.2.2.2.2.2.2.2.2.2.2.1 u.2.2.2.2.2.2.2.2.2.2.2.2.2.2.2.2.2.2.2.2.2.1 u.2.2.2.2.2.2.2.2.2.2.2.2.2.2.2.2.2.2.2.2.2.2.1 u.2.2.2.2.2.2.2.2.2.2.2.2.2.2.2.2.2.2.2.2.2.2.2
theorem kU25 {T0 T1 T2 T3 T4 T5 T6 T7 T8 T9 T10 T11 T12 T13 T14 T15 T16 T17 T18 T19 T20 T21 T22 T23 T24 : Type} {P : T0 × T1 × T2 × T3 × T4 × T5 × T6 × T7 × T8 × T9 × T10 × T11 × T12 × T13 × T14 × T15 × T16 × T17 × T18 × T19 × T20 × T21 × T22 × T23 × T24 → Prop} (h : ∀ a0 a1 a2 a3 a4 a5 a6 a7 a8 a9 a10 a11 a12 a13 a14 a15 a16 a17 a18 a19 a20 a21 a22 a23 a24, P (a0, a1, a2, a3, a4, a5, a6, a7, a8, a9, a10, a11, a12, a13, a14, a15, a16, a17, a18, a19, a20, a21, a22, a23, a24)) : ∀ u, P u := fun u => h u.1 u.2.1 u.2.2.1 u.2.2.2.1 u.2.2.2.2.1 u.2.2.2.2.2.1 u.2.2.2.2.2.2.1 u.2.2.2.2.2.2.2.1 u.2.2.2.2.2.2.2.2.1 u.2.2.2.2.2.2.2.2.2.1 u.2.2.2.2.2.2.2.2.2.2.1 u.2.2.2.2.2.2.2.2.2.2.2.1 u.2.2.2.2.2.2.2.2.2.2.2.2.1 u.2.2.2.2.2.2.2.2.2.2.2.2.2.1 u.2.2.2.2.2.2.2.2.2.2.2.2.2.2.1 u.2.2.2.2.2.2.2.2.2.2.2.2.2.2.2.1 u.2.2.2.2.2.2.2.2.2.2.2.2.2.2.2.2.1 u.2.2.2.2.2.2.2.2.2.2.2.2.2.2.2.2.2.1 u.2.2.2.2.2.2.2.2.2.2.2.2.2.2.2.2.2.2.1 u.2.2.2.2.2.2.2.2.2.2.2.2.2.2.2.2.2.2.2.1 u.2.2.2.2.2.2.2.2.2.2.2.2.2.2.2.2.2.2.2.2.1 u.2.2.2.2.2.2.2.2.2.2.2.2.2.2.2.2.2.2.2.2.2.1 u.2.2.2.2.2.2.2.2.2.2.2.2.2.2.2.2.2.2.2.2.2.2.1 u.2.2.2.2.2.2.2.2.2.2.2.2.2.2.2.2.2.2.2.2.2.2.2.1 u.2.2.2.2.2.2.2.2.2.2.2.2.2.2.2.2.2.2.2.2.2.2.2.2
theorem kIn_nar (a b c : Int32) : narrow .boolean (.int (kIn a b c)) = .int (kIn a b c) := by
  unfold kIn
  split
  · rfl
  · split <;> rfl
theorem kIn_ix {p M : Int32} {n : Nat} (hM : M.toInt = n) (h : ¬ kIn p 0 M = 0) : ∃ j : Nat, j < n + 1 ∧ p = nI j := by
  unfold kIn at h
  by_cases h1 : p < 0
  · rw [if_pos h1] at h; exact absurd rfl h
  · by_cases h2 : M < p
    · rw [if_neg h1, if_pos h2] at h; exact absurd rfl h
    · obtain ⟨j, hj, e⟩ := nI_of2 hM h1 (Int32.not_lt.mp h2)
      exact ⟨j, by omega, e⟩
theorem kB01 {r : Int32} (h : r = 0 ∨ r = 1) : narrow .boolean (.int r) = .int r := by rcases h with rfl | rfl <;> rfl
theorem klt {a b : Nat} (ha : a < 2 ^ 31) (hb : b < 2 ^ 31) (h : nI a < nI b) : a < b := (nI_ltI ha hb).mp h
theorem knlt {a b : Nat} (ha : a < 2 ^ 31) (hb : b < 2 ^ 31) (h : ¬ nI a < nI b) : b ≤ a := Nat.not_lt.mp (fun z => h ((nI_ltI ha hb).mpr z))
theorem kle {a b : Nat} (ha : a < 2 ^ 31) (hb : b < 2 ^ 31) (h : nI a ≤ nI b) : a ≤ b := (nI_leI ha hb).mp h
theorem knle {a b : Nat} (ha : a < 2 ^ 31) (hb : b < 2 ^ 31) (h : ¬ nI a ≤ nI b) : b < a := Nat.not_le.mp (fun z => h ((nI_leI ha hb).mpr z))
theorem keq {a b : Nat} (ha : a < 2 ^ 31) (hb : b < 2 ^ 31) (h : nI a = nI b) : a = b := (nI_eq ha hb).mp h
theorem kneq {a b : Nat} (ha : a < 2 ^ 31) (hb : b < 2 ^ 31) (h : ¬ nI a = nI b) : a ≠ b := fun z => h ((nI_eq ha hb).mpr z)
theorem kInc (a n : Nat) : nI a + Int32.ofInt (n : Int) = nI (a + n) := by
  rw [← nI_add]; congr 1
theorem kDec {a : Nat} (n : Nat) (h : n ≤ a) : nI a + Int32.ofInt (-(n : Int)) = nI (a - n) := by
  rw [← pk_sub h, Int32.ofInt_neg, Int32.sub_eq_add_neg]; congr 2
theorem kSw38 (x : Int32) : x = 38 ∨ x = 39 ∨ x = 40 ∨ x = 41 ∨ x = 42 ∨ x = 43 ∨ x = 44 ∨ x = 45 ∨ x = 46 ∨ x = 47 ∨ x = 48 ∨ x = 49 ∨ x = 50 ∨ x = 51 ∨ x = 52 ∨ x = 53 ∨ x = 54 ∨ x = 55 ∨ x = 56 ∨ x = 57 ∨ x = 58 ∨ x = 59 ∨ x = 60 ∨ x = 61 ∨ x = 62 ∨ (x.toInt < 38 ∨ 62 < x.toInt) := by
  by_cases h : x.toInt < 38 ∨ 62 < x.toInt
  · simp [h]
  · have h9 : x.toInt = 38 ∨ x.toInt = 39 ∨ x.toInt = 40 ∨ x.toInt = 41 ∨ x.toInt = 42 ∨ x.toInt = 43 ∨ x.toInt = 44 ∨ x.toInt = 45 ∨ x.toInt = 46 ∨ x.toInt = 47 ∨ x.toInt = 48 ∨ x.toInt = 49 ∨ x.toInt = 50 ∨ x.toInt = 51 ∨ x.toInt = 52 ∨ x.toInt = 53 ∨ x.toInt = 54 ∨ x.toInt = 55 ∨ x.toInt = 56 ∨ x.toInt = 57 ∨ x.toInt = 58 ∨ x.toInt = 59 ∨ x.toInt = 60 ∨ x.toInt = 61 ∨ x.toInt = 62 := by omega
    rcases h9 with e | e | e | e | e | e | e | e | e | e | e | e | e | e | e | e | e | e | e | e | e | e | e | e | e
    · exact (Or.inl (Int32.toInt_inj.mp e))
    · exact (Or.inr (Or.inl (Int32.toInt_inj.mp e)))
    · exact (Or.inr (Or.inr (Or.inl (Int32.toInt_inj.mp e))))
    · exact (Or.inr (Or.inr (Or.inr (Or.inl (Int32.toInt_inj.mp e)))))
    · exact (Or.inr (Or.inr (Or.inr (Or.inr (Or.inl (Int32.toInt_inj.mp e))))))
    · exact (Or.inr (Or.inr (Or.inr (Or.inr (Or.inr (Or.inl (Int32.toInt_inj.mp e)))))))
    · exact (Or.inr (Or.inr (Or.inr (Or.inr (Or.inr (Or.inr (Or.inl (Int32.toInt_inj.mp e))))))))
    · exact (Or.inr (Or.inr (Or.inr (Or.inr (Or.inr (Or.inr (Or.inr (Or.inl (Int32.toInt_inj.mp e)))))))))
    · exact (Or.inr (Or.inr (Or.inr (Or.inr (Or.inr (Or.inr (Or.inr (Or.inr (Or.inl (Int32.toInt_inj.mp e))))))))))
    · exact (Or.inr (Or.inr (Or.inr (Or.inr (Or.inr (Or.inr (Or.inr (Or.inr (Or.inr (Or.inl (Int32.toInt_inj.mp e)))))))))))
    · exact (Or.inr (Or.inr (Or.inr (Or.inr (Or.inr (Or.inr (Or.inr (Or.inr (Or.inr (Or.inr (Or.inl (Int32.toInt_inj.mp e))))))))))))
    · exact (Or.inr (Or.inr (Or.inr (Or.inr (Or.inr (Or.inr (Or.inr (Or.inr (Or.inr (Or.inr (Or.inr (Or.inl (Int32.toInt_inj.mp e)))))))))))))
    · exact (Or.inr (Or.inr (Or.inr (Or.inr (Or.inr (Or.inr (Or.inr (Or.inr (Or.inr (Or.inr (Or.inr (Or.inr (Or.inl (Int32.toInt_inj.mp e))))))))))))))
    · exact (Or.inr (Or.inr (Or.inr (Or.inr (Or.inr (Or.inr (Or.inr (Or.inr (Or.inr (Or.inr (Or.inr (Or.inr (Or.inr (Or.inl (Int32.toInt_inj.mp e)))))))))))))))
    · exact (Or.inr (Or.inr (Or.inr (Or.inr (Or.inr (Or.inr (Or.inr (Or.inr (Or.inr (Or.inr (Or.inr (Or.inr (Or.inr (Or.inr (Or.inl (Int32.toInt_inj.mp e))))))))))))))))
    · exact (Or.inr (Or.inr (Or.inr (Or.inr (Or.inr (Or.inr (Or.inr (Or.inr (Or.inr (Or.inr (Or.inr (Or.inr (Or.inr (Or.inr (Or.inr (Or.inl (Int32.toInt_inj.mp e)))))))))))))))))
    · exact (Or.inr (Or.inr (Or.inr (Or.inr (Or.inr (Or.inr (Or.inr (Or.inr (Or.inr (Or.inr (Or.inr (Or.inr (Or.inr (Or.inr (Or.inr (Or.inr (Or.inl (Int32.toInt_inj.mp e))))))))))))))))))
    · exact (Or.inr (Or.inr (Or.inr (Or.inr (Or.inr (Or.inr (Or.inr (Or.inr (Or.inr (Or.inr (Or.inr (Or.inr (Or.inr (Or.inr (Or.inr (Or.inr (Or.inr (Or.inl (Int32.toInt_inj.mp e)))))))))))))))))))
    · exact (Or.inr (Or.inr (Or.inr (Or.inr (Or.inr (Or.inr (Or.inr (Or.inr (Or.inr (Or.inr (Or.inr (Or.inr (Or.inr (Or.inr (Or.inr (Or.inr (Or.inr (Or.inr (Or.inl (Int32.toInt_inj.mp e))))))))))))))))))))
    · exact (Or.inr (Or.inr (Or.inr (Or.inr (Or.inr (Or.inr (Or.inr (Or.inr (Or.inr (Or.inr (Or.inr (Or.inr (Or.inr (Or.inr (Or.inr (Or.inr (Or.inr (Or.inr (Or.inr (Or.inl (Int32.toInt_inj.mp e)))))))))))))))))))))
    · exact (Or.inr (Or.inr (Or.inr (Or.inr (Or.inr (Or.inr (Or.inr (Or.inr (Or.inr (Or.inr (Or.inr (Or.inr (Or.inr (Or.inr (Or.inr (Or.inr (Or.inr (Or.inr (Or.inr (Or.inr (Or.inl (Int32.toInt_inj.mp e))))))))))))))))))))))
    · exact (Or.inr (Or.inr (Or.inr (Or.inr (Or.inr (Or.inr (Or.inr (Or.inr (Or.inr (Or.inr (Or.inr (Or.inr (Or.inr (Or.inr (Or.inr (Or.inr (Or.inr (Or.inr (Or.inr (Or.inr (Or.inr (Or.inl (Int32.toInt_inj.mp e)))))))))))))))))))))))
    · exact (Or.inr (Or.inr (Or.inr (Or.inr (Or.inr (Or.inr (Or.inr (Or.inr (Or.inr (Or.inr (Or.inr (Or.inr (Or.inr (Or.inr (Or.inr (Or.inr (Or.inr (Or.inr (Or.inr (Or.inr (Or.inr (Or.inr (Or.inl (Int32.toInt_inj.mp e))))))))))))))))))))))))
    · exact (Or.inr (Or.inr (Or.inr (Or.inr (Or.inr (Or.inr (Or.inr (Or.inr (Or.inr (Or.inr (Or.inr (Or.inr (Or.inr (Or.inr (Or.inr (Or.inr (Or.inr (Or.inr (Or.inr (Or.inr (Or.inr (Or.inr (Or.inr (Or.inl (Int32.toInt_inj.mp e)))))))))))))))))))))))))
    · exact (Or.inr (Or.inr (Or.inr (Or.inr (Or.inr (Or.inr (Or.inr (Or.inr (Or.inr (Or.inr (Or.inr (Or.inr (Or.inr (Or.inr (Or.inr (Or.inr (Or.inr (Or.inr (Or.inr (Or.inr (Or.inr (Or.inr (Or.inr (Or.inr (Or.inl (Int32.toInt_inj.mp e))))))))))))))))))))))))))
theorem kPosNe {x : Int32} (h : ¬ x ≤ 0) : ¬ x = 0 := fun z => h (by rw [z]; decide)
theorem kMin8 {n : Nat} (hn : n ≤ 20) {x : Int32} (e : x = if (8 : Int32) < nI n then 8 else nI n) : ∃ j : Nat, (j ≤ 8 ∧ j ≤ n) ∧ x = nI j := by
  by_cases h : (8 : Int32) < nI n
  · rw [if_pos h] at e
    have h2 := klt (a := 8) (b := n) (by omega) (by omega) h
    exact ⟨8, ⟨by omega, by omega⟩, e⟩
  · rw [if_neg h] at e
    have h2 := knlt (a := 8) (b := n) (by omega) (by omega) h
    exact ⟨n, ⟨by omega, by omega⟩, e⟩
theorem kMax0 {p x : Int32} (e : x = if p < 0 then 0 else p) : ∃ j : Nat, j < 2147483648 ∧ x = nI j := by
  by_cases h : p < 0
  · rw [if_pos h] at e; exact ⟨0, by omega, e⟩
  · rw [if_neg h] at e
    obtain ⟨j, hj, e2⟩ := nI_of h
    exact ⟨j, by omega, e.trans e2⟩
/-- the links between nest mates -/
def kNLl : List Cond := [.methodLinkNest RX9 11 yX8_init RX9, .methodLinkNest RX9 27 yX5_init RX9, .methodLinkNest RX9 46 yX2_init RX9, .fieldLinkNest RX1 87 "NotEnded$Folk" "holds" "[I" RX9, .fieldLinkNest RX1 90 "NotEnded$Folk" "putIn" "[I" RX9, .fieldLinkNest RX1 91 "NotEnded$Folk" "houses" "[I" RX9, .fieldLinkNest RX1 158 "NotEnded$Folk" "knows" "[I" RX9, .methodLinkNest RX9 62 yX3_init RX9, .methodLinkNest RX9 69 yX0_init RX9, .methodLinkNest RX8 19 yX9_within RX9, .fieldLinkNest RX5 23 "NotEnded$Rule" "steps" "[I" RX9, .fieldLinkNest RX5 18 "NotEnded$Rule" "clauses" "[I" RX9, .methodLinkNest RX1 116 yX9_isBit RX9, .methodLinkNest RX1 164 yX9_isHouse RX9, .methodLinkNest RX2 45 yX9_isBit RX9, .methodLinkNest RX1 147 yX9_within RX9, .methodLinkNest RX3 31 yX9_isBit RX9, .methodLinkNest RX0 28 yX9_isBit RX9, .methodLinkNest RX0 45 yX9_isLowerFirst RX9]
def kNL (U : State) : Prop := ∀ w ∈ kNLl, va_Nw w U
theorem kNL_ok : ∀ w ∈ kNLl, w.onTables = true := by decide +kernel
theorem kNL_blind : ∀ (U : State) (g : JFrame) (mk : MethodId) (a : Array Value), kNL U → kNL (U.calling g mk a) := fun U _ _ _ h w hw => va_Nw.same (u := U) (kNL_ok w hw) rfl (h w hw)
theorem kNL_give {s : State} {H : Heap} (h : kNL s) : ∀ U : State, U.heap = H → s.WarmedH U.vm → kNL U := fun U _ hW => by
  have h9 := h
  unfold kNL kNLl at h9 ⊢
  simp only [List.forall_mem_cons] at h9 ⊢
  obtain ⟨n0, n1, n2, n3, n4, n5, n6, n7, n8, n9, n10, n11, n12, n13, n14, n15, n16, n17, n18, -⟩ := h9
  exact ⟨va_Nw.warmM hW n0, va_Nw.warmM hW n1, va_Nw.warmM hW n2, va_Nw.warmF hW n3, va_Nw.warmF hW n4, va_Nw.warmF hW n5, va_Nw.warmF hW n6, va_Nw.warmM hW n7, va_Nw.warmM hW n8, va_Nw.warmM hW n9, va_Nw.warmF hW n10, va_Nw.warmF hW n11, va_Nw.warmM hW n12, va_Nw.warmM hW n13, va_Nw.warmM hW n14, va_Nw.warmM hW n15, va_Nw.warmM hW n16, va_Nw.warmM hW n17, va_Nw.warmM hW n18, fun _ z => absurd z List.not_mem_nil⟩
/-- frozen cells: they lie in the heap, none of them may be written; and the nest mates' links -/
def kNF (dC : Nat → ClassId) (dI : Nat → Nat → Nat) (R : va_W) (A : Nat → Prop) (U : State) : Prop := (va_P (dC, dI) vwCl R U.heap ∧ ∀ (k : Nat) (q : Nat × va_E), R[k]? = some q → ¬ A q.1) ∧ kNL U
theorem kFz_at {dC : Nat → ClassId} {dI : Nat → Nat → Nat} {R : va_W} {A : Nat → Prop} {s : State} {H : Heap} {locs : List Loc} (h : va_P (dC, dI) vwCl R s.heap ∧ ∀ (k : Nat) (q : Nat × va_E), R[k]? = some q → ¬ A q.1) (hS : va_S A s.heap H locs) : va_P (dC, dI) vwCl R H := h.1.kept (fun k q hk => hS.2.1 q.1 (h.1 k q hk).lt (h.2 k q hk))
theorem kNF_blind {dC : Nat → ClassId} {dI : Nat → Nat → Nat} {R : va_W} {A : Nat → Prop} : ∀ (U : State) (g : JFrame) (mk : MethodId) (a : Array Value), kNF dC dI R A U → kNF dC dI R A (U.calling g mk a) := fun U g mk a h => ⟨h.1, kNL_blind U g mk a h.2⟩
theorem kNF_give {dC : Nat → ClassId} {dI : Nat → Nat → Nat} {R : va_W} {A B : Nat → Prop} {s : State} {H : Heap} {locs : List Loc} (h : kNF dC dI R A s) (hS : va_S A s.heap H locs) (hB : ∀ q, B q → A q) : ∀ U : State, U.heap = H → s.WarmedH U.vm → kNF dC dI R B U := fun U hU hW => ⟨⟨by rw [hU]; exact kFz_at h.1 hS, fun k q hk z => h.1.2 k q hk (hB _ z)⟩, kNL_give h.2 U hU hW⟩
/-- the bytes of a text -/
def kTx (l : List Int32) : Nat → Int32 := fun j => l.getD j 0
/-- what the library's text methods read beside a text -/
def kJ (A : Nat → Prop) (U : State) : Prop := va_Z "java/lang/String" "COMPACT_STRINGS" "Z" (.int 1) A U U.heap ∧ va_Zq "jdk/internal/util/Preconditions" "SIOOBE_FORMATTER" "Ljava/util/function/BiFunction;" A U U.heap
/-- a constant text at q, its n bytes g at b, none of these cells in A -/
def kSt (q b n : Nat) (g : Nat → Int32) (A : Nat → Prop) (U : State) : Prop := va_O "java/lang/String" q A U U.heap ∧ va_OF "java/lang/String" "coder" "B" (.int 0) q A U U.heap ∧ va_OF "java/lang/String" "value" "[B" (.ref b) q A U U.heap ∧ va_T .byte b n (fun j => .int (g j)) A U U.heap ∧ kJ A U
theorem kJ_to {A B : Nat → Prop} {u U : State} (hvm : u.vm.Alike U.vm) (hq : ∀ a : Nat, a < u.heap.size → ¬ A a → U.heap[a]? = u.heap[a]?) (hB : ∀ q, B q → A q) (h : kJ A u) : kJ B U :=
  ⟨va_Z.narrow (va_Z.moved hvm (h.1.kept hq)) hB, va_Zq.narrow (va_Zq.moved hvm (h.2.kept hq)) hB⟩
theorem kSt_to {q b n : Nat} {g : Nat → Int32} {A B : Nat → Prop} {u U : State} (hvm : u.vm.Alike U.vm) (hq : ∀ a : Nat, a < u.heap.size → ¬ A a → U.heap[a]? = u.heap[a]?) (hB : ∀ q, B q → A q) (h : kSt q b n g A u) : kSt q b n g B U :=
  ⟨va_O.narrow (va_O.moved hvm (h.1.kept hq)) hB, va_OF.narrow (va_OF.moved hvm (h.2.1.kept hq)) hB, va_OF.narrow (va_OF.moved hvm (h.2.2.1.kept hq)) hB, va_T.narrow (va_T.moved hvm (h.2.2.2.1.kept hq)) hB, kJ_to hvm hq hB h.2.2.2.2⟩
theorem kSt_blind {q b n : Nat} {g : Nat → Int32} {A : Nat → Prop} : ∀ (U : State) (k : JFrame) (mk : MethodId) (a : Array Value), kSt q b n g A U → kSt q b n g A (U.calling k mk a) := fun U _ _ _ h => kSt_to (u := U) (Vm.Alike.refl U.vm) (fun _ _ _ => rfl) (fun _ h => h) h
theorem kSt_give {q b n : Nat} {g : Nat → Int32} {A : Nat → Prop} {s : State} {H : Heap} {locs : List Loc} (h : kSt q b n g A s) (hS : va_S A s.heap H locs) : ∀ U : State, U.heap = H → s.WarmedH U.vm → kSt q b n g A U := fun U hU hW => kSt_to hW.alike (fun a h1 h2 => by rw [hU]; exact hS.2.1 a h1 h2) (fun _ h => h) h
theorem kSt_giveB {q b n : Nat} {g : Nat → Int32} {A B : Nat → Prop} {s : State} {H : Heap} {locs : List Loc} (h : kSt q b n g A s) (hS : va_S A s.heap H locs) (hB : ∀ q, B q → A q) : ∀ U : State, U.heap = H → s.WarmedH U.vm → kSt q b n g B U := fun U hU hW => kSt_to hW.alike (fun a h1 h2 => by rw [hU]; exact hS.2.1 a h1 h2) hB h
theorem kSt_recv {q b n : Nat} {g : Nat → Int32} {A : Nat → Prop} {s : State} {H : Heap} {locs : List Loc} (h : kSt q b n g A s) (hS : va_S A s.heap H locs) : ∃ cell : Cell, H[q]? = some cell ∧ cell.vm.isStatics = false ∧ s.vm.findClass "java/lang/String" = some cell.cls := by
  obtain ⟨cell, h1, h2, h3, -⟩ := h.1.kept hS.2.1
  exact ⟨cell, h1, h2, h3⟩
/-- two texts -/
def kS2 (q6 b6 n6 : Nat) (g6 : Nat → Int32) (q7 b7 n7 : Nat) (g7 : Nat → Int32) (A : Nat → Prop) (U : State) : Prop := kSt q6 b6 n6 g6 A U ∧ kSt q7 b7 n7 g7 A U
theorem kS2_blind {q6 b6 n6 : Nat} {g6 : Nat → Int32} {q7 b7 n7 : Nat} {g7 : Nat → Int32} {A : Nat → Prop} : ∀ (U : State) (k : JFrame) (mk : MethodId) (a : Array Value), kS2 q6 b6 n6 g6 q7 b7 n7 g7 A U → kS2 q6 b6 n6 g6 q7 b7 n7 g7 A (U.calling k mk a) := fun U k mk a h => ⟨kSt_blind U k mk a h.1, kSt_blind U k mk a h.2⟩
theorem kS2_give {q6 b6 n6 : Nat} {g6 : Nat → Int32} {q7 b7 n7 : Nat} {g7 : Nat → Int32} {A B : Nat → Prop} {s : State} {H : Heap} {locs : List Loc} (h : kS2 q6 b6 n6 g6 q7 b7 n7 g7 A s) (hS : va_S A s.heap H locs) (hB : ∀ q, B q → A q) : ∀ U : State, U.heap = H → s.WarmedH U.vm → kS2 q6 b6 n6 g6 q7 b7 n7 g7 B U := fun U hU hW => ⟨kSt_giveB h.1 hS hB U hU hW, kSt_giveB h.2 hS hB U hU hW⟩
theorem kNarU {f f1 : Nat → Int32} {k : Nat} {x : Int32} (e : f1 = upd f k (vp_nar .char x)) (h : ∀ j : Nat, narrow .char (.int (f j)) = .int (f j)) : ∀ j : Nat, narrow .char (.int (f1 j)) = .int (f1 j) := by
  intro j
  rw [e]
  by_cases hj : j = k
  · rw [hj, pk_us, vp_nar_char]
    exact pk_nc x
  · rw [pk_un hj]; exact h j
end
section
theorem kc_i_1 : Int32.ofInt (1) = 1 := by decide
theorem kc_i_0 : Int32.ofInt (0) = 0 := by decide
theorem kc_i_3 : Int32.ofInt (3) = 3 := by decide
theorem kc_i_4 : Int32.ofInt (4) = 4 := by decide
theorem kc_l_5_6 : 5 < 6 := by decide
theorem kc_b_6 : (Int8.ofInt (6)).toInt32 = 6 := by decide
theorem kc_i_2 : Int32.ofInt (2) = 2 := by decide
theorem kc_l_4_7 : 4 < 7 := by decide
theorem kc_l_5_7 : 5 < 7 := by decide
theorem kc_l_6_7 : 6 < 7 := by decide
theorem kc_i_5 : Int32.ofInt (5) = 5 := by decide
theorem kc_b_32 : (Int8.ofInt (32)).toInt32 = 32 := by decide
theorem kc_t_12_7 : ((12 : Nat) : Int) + (7) = ((19 : Nat) : Int) := by decide
theorem kc_in_0_1 : vp_in 0 1 := by unfold vp_in; decide
theorem kc_nd_1016 : va_nd [1, 2, 3, 4, 5, 6, 7, 8, 9, 10, 11, 12, 13, 14, 15, 16, 17, 18, 19, 20, 21, 22, 23, 24, 25, 26, 27, 28, 29, 30, 31, 32, 33, 34, 35, 36, 37, 38, 39, 0] = true := by decide
theorem kc_nd_1018 : va_nd [44, 45, 46, 47, 48, 49, 50, 51, 52, 53, 54, 55, 56, 57, 58, 59, 60, 61, 62, 63, 64, 65, 66, 67, 68, 69, 70, 71, 72, 73, 74] = true := by decide
theorem kc_t_1794_m1771 : ((1794 : Nat) : Int) + (-1771) = ((23 : Nat) : Int) := by decide
theorem kc_nd_1027 : va_nd [0, 14, 15, 16, 17, 18, 19] = true := by decide
theorem kc_t_444_1347 : ((444 : Nat) : Int) + (1347) = ((1791 : Nat) : Int) := by decide
theorem kc_nd_1034 : va_nd [0, 1, 2, 3, 4, 5, 6, 7, 8, 9, 10, 11, 12, 13, 14, 15, 16, 17, 18, 19, 20, 21, 22, 23, 24, 25, 26, 27, 28, 29, 30, 31, 32, 33, 34, 35, 36, 37, 38, 75] = true := by decide
theorem kc_t_502_5 : ((502 : Nat) : Int) + (5) = ((507 : Nat) : Int) := by decide
theorem kc_t_509_15 : ((509 : Nat) : Int) + (15) = ((524 : Nat) : Int) := by decide
theorem kc_t_524_1267 : ((524 : Nat) : Int) + (1267) = ((1791 : Nat) : Int) := by decide
theorem kc_t_519_5 : ((519 : Nat) : Int) + (5) = ((524 : Nat) : Int) := by decide
theorem kc_nd_1039 : va_nd [0, 1, 2, 3, 4, 5, 6, 7, 8, 9, 10, 11, 12, 13, 14, 15, 16, 17, 18, 19, 20, 21, 22, 23, 24, 25, 26, 27, 28, 29, 30, 31, 32, 33, 34, 35, 36, 37, 38] = true := by decide
theorem kc_t_631_1160 : ((631 : Nat) : Int) + (1160) = ((1791 : Nat) : Int) := by decide
end
section
def w_s_size2 : List Cond := .code yX2_size cX2_size 1 (some .int) :: ([.fieldLink RX2 31 "NotEnded$Folk" "size" "I"] ++ (wsX20))
theorem gw_s_size2 : (w_s_size2).all goodWord = true := kGc rfl (kGa (by decide +kernel) gw_wsX20)
def w_s_isIn9 : List Cond := .code yX9_isIn cX9_isIn 3 (some .boolean) :: ([])
theorem gw_s_isIn9 : (w_s_isIn9).all goodWord = true := kGc rfl kGn
end
section
def w_s_addWord2 : List Cond := .code yX2_addWord cX2_addWord 2 (some .int) :: ([.fieldLink RX2 34 "NotEnded$Folk" "words" "I", .fieldLink RX2 24 "NotEnded$Folk" "hours" "[I"] ++ (wsX20))
theorem gw_s_addWord2 : (w_s_addWord2).all goodWord = true := kGc rfl (kGa (by decide +kernel) gw_wsX20)
end
section
def w_s_t_latin : List Cond := .code yJ0_isLatin1_aae02 cJ0_isLatin1_aae02 1 (some .boolean) :: ([.fieldLink RJ0 38 "java/lang/String" "COMPACT_STRINGS" "Z", .fieldLink RJ0 15 "java/lang/String" "coder" "B"] ++ [])
def w_s_t_coder : List Cond := .code yJ0_coder_7d493 cJ0_coder_7d493 1 (some .byte) :: ([.fieldLink RJ0 38 "java/lang/String" "COMPACT_STRINGS" "Z", .fieldLink RJ0 15 "java/lang/String" "coder" "B"] ++ [])
def w_s_t_length : List Cond := .code yJ0_length_8abf5 cJ0_length_8abf5 1 (some .int) :: ([.fieldLink RJ0 9 "java/lang/String" "value" "[B", .initialized RJ0, .selects RJ0 yJ0_coder_7d493 yJ0_coder_7d493, .instanceMethod yJ0_coder_7d493, .methodLink RJ0 335 yJ0_coder_7d493] ++ (w_s_t_coder))
end
section
theorem kFamG {c : Cond} {ws : List Cond} (h : goodWord c = true) (g : ws.all goodWord = true) : (c :: ws).all goodWord = true := by rw [List.all_cons, h, g]; rfl
end
section
/-- where the text constants lie -/
def kLit (ad : Nat → Nat) (U : State) : Prop := vk_R RX4 28 "" (ad 0) U ∧ vk_R RX4 41 "ygx" (ad 1) U ∧ vk_R RX4 43 "w" (ad 2) U ∧ vk_R RX4 45 "vpnmsudi" (ad 3) U ∧ vk_R RX4 47 "abcde" (ad 4) U ∧ vk_R RX10 26 "ygx" (ad 5) U ∧ vk_R RX10 229 "w" (ad 6) U ∧ vk_R RX10 32 "vpnmsudi" (ad 7) U ∧ vk_R RX10 231 "abcde" (ad 8) U
theorem kLit_same {ad : Nat → Nat} {u U : State} (hv : U.vm = u.vm) (h : kLit ad u) : kLit ad U := by
  obtain ⟨h0, h1, h2, h3, h4, h5, h6, h7, h8⟩ := h
  exact ⟨h0.same hv, h1.same hv, h2.same hv, h3.same hv, h4.same hv, h5.same hv, h6.same hv, h7.same hv, h8.same hv⟩
theorem kLit_warm {ad : Nat → Nat} {s U : State} (hW : s.WarmedH U.vm) (h : kLit ad s) : kLit ad U := by
  obtain ⟨h0, h1, h2, h3, h4, h5, h6, h7, h8⟩ := h
  exact ⟨h0.warm hW, h1.warm hW, h2.warm hW, h3.warm hW, h4.warm hW, h5.warm hW, h6.warm hW, h7.warm hW, h8.warm hW⟩
theorem kLit_blind {ad : Nat → Nat} : ∀ (U : State) (g : JFrame) (mk : MethodId) (a : Array Value), kLit ad U → kLit ad (U.calling g mk a) := fun _ _ _ _ h => kLit_same rfl h
theorem kLit_give {ad : Nat → Nat} {s : State} {H : Heap} (h : kLit ad s) : ∀ U : State, U.heap = H → s.WarmedH U.vm → kLit ad U := fun _ _ hW => kLit_warm hW h
def kAO (U : State) : Prop := va_AO RX6 U
/-- where the texts lie, and two of them -/
def kRd (ad : Nat → Nat) (i j b6 n6 : Nat) (g6 : Nat → Int32) (b7 n7 : Nat) (g7 : Nat → Int32) (A : Nat → Prop) (U : State) : Prop := kLit ad U ∧ kS2 (ad i) b6 n6 g6 (ad j) b7 n7 g7 A U
theorem kRd_blind {ad : Nat → Nat} {i j b6 n6 : Nat} {g6 : Nat → Int32} {b7 n7 : Nat} {g7 : Nat → Int32} {A : Nat → Prop} : ∀ (U : State) (k : JFrame) (mk : MethodId) (a : Array Value), kRd ad i j b6 n6 g6 b7 n7 g7 A U → kRd ad i j b6 n6 g6 b7 n7 g7 A (U.calling k mk a) := fun U k mk a h => ⟨kLit_blind U k mk a h.1, kS2_blind U k mk a h.2⟩
theorem kRd_give {ad : Nat → Nat} {i j b6 n6 : Nat} {g6 : Nat → Int32} {b7 n7 : Nat} {g7 : Nat → Int32} {A B : Nat → Prop} {s : State} {H : Heap} {locs : List Loc} (h : kRd ad i j b6 n6 g6 b7 n7 g7 A s) (hS : va_S A s.heap H locs) (hB : ∀ q, B q → A q) : ∀ U : State, U.heap = H → s.WarmedH U.vm → kRd ad i j b6 n6 g6 b7 n7 g7 B U := fun U hU hW => ⟨kLit_give h.1 U hU hW, kS2_give h.2 hS hB U hU hW⟩
end
section
/-- a byte at a place, 0 behind the end -/
def kAt (b : Nat → Nat) (n p : Nat) : Nat := if p < n then b p else 0
/-- over blanks, so many at most -/
def kSk (b : Nat → Nat) (n : Nat) : Nat → Nat → Nat
  | 0, p => p
  | f + 1, p => if kAt b n p = 32 then kSk b n f (p + 1) else p
def kSp (b : Nat → Nat) (n p : Nat) : Nat := kSk b n 120 p
def kLk (b : Nat → Nat) (n p : Nat) : Nat := kAt b n (kSp b n p)
/-- ok, where it stands, what was written -/
abbrev kRes : Type := Bool × Nat × List Int32
def kTh (r : kRes) (k : Nat → List Int32 → kRes) : kRes := if r.1 then k r.2.1 r.2.2 else (false, r.2.1, [])
def kTk (b : Nat → Nat) (n c p : Nat) (l : List Int32) : kRes := if kLk b n p = c then (true, kSp b n p + 1, l) else (false, kSp b n p, [])
def kDg (c : Nat) : Bool := Nat.ble 48 c && Nat.ble c 57
/-- up to so many digits -/
def kNumL (b : Nat → Nat) (n : Nat) : Nat → Nat → Nat → Nat × Nat
  | 0, p, v => (p, v)
  | f + 1, p, v => if kDg (kAt b n p) then kNumL b n f (p + 1) (v * 10 + (kAt b n p - 48)) else (p, v)
def kNum (b : Nat → Nat) (n p : Nat) : kRes := if kDg (kAt b n (kNumL b n 4 p 0).1) then (false, (kNumL b n 4 p 0).1, []) else (true, (kNumL b n 4 p 0).1, [nI (kNumL b n 4 p 0).2])
/-- where a sign stands in a text of n; n: nowhere -/
def kFd (g : Nat → Int32) (c : Int32) : Nat → Nat → Nat
  | 0, j => j
  | f + 1, j => if g j = c then j else kFd g c f (j + 1)
def kIx (g : Nat → Int32) (n : Nat) (c : Int32) : Nat := kFd g c n 0
def kAtomF (b : Nat → Nat) (n : Nat) (g : Nat → Int32) (m : Nat) (op : Bool) (sm : Nat → kRes) (p : Nat) : kRes :=
  if kLk b n p = 91 then (if op then kTh (sm (kSp b n p + 1)) (fun q l => kTk b n 93 q l) else (false, kSp b n p, []))
  else if kDg (kLk b n p) then kNum b n (kSp b n p)
  else if kIx g m (nI (kLk b n p)) < m then (true, kSp b n p + 1, [nI (10000 + kIx g m (nI (kLk b n p)))]) else (false, kSp b n p, [])
/-- while one of two signs stands there -/
def kLoop (b : Nat → Nat) (n c1 c2 : Nat) (a : Nat → kRes) : Nat → Nat → List Int32 → kRes
  | 0, p, l => (true, p, l)
  | f + 1, p, l => if kLk b n p = c1 ∨ kLk b n p = c2 then kTh (a (kSp b n p + 1)) (fun q m => kLoop b n c1 c2 a f q (l ++ m ++ [nI (20000 + kLk b n p)])) else (true, kSp b n p, l)
def kMany (b : Nat → Nat) (n c1 c2 : Nat) (a z : Nat → kRes) (p : Nat) : kRes := kTh (z p) (fun q l => kLoop b n c1 c2 a 120 q l)
def kSumF (b : Nat → Nat) (n : Nat) (a : Nat → kRes) (p : Nat) : kRes := kMany b n 43 45 (kMany b n 42 47 a a) (kMany b n 42 47 a a) p
def kAtomD (b : Nat → Nat) (n : Nat) (g : Nat → Int32) (m : Nat) : Nat → Nat → kRes
  | 0 => kAtomF b n g m false (fun p => (false, p, []))
  | e + 1 => kAtomF b n g m true (kSumF b n (kAtomD b n g m e))
def kTermD (b : Nat → Nat) (n : Nat) (g : Nat → Int32) (m e p : Nat) : kRes := kMany b n 42 47 (kAtomD b n g m e) (kAtomD b n g m e) p
def kSumD (b : Nat → Nat) (n : Nat) (g : Nat → Int32) (m e p : Nat) : kRes := kMany b n 43 45 (kTermD b n g m e) (kTermD b n g m e) p
def kCmp (b : Nat → Nat) (n : Nat) (g : Nat → Int32) (m e p : Nat) (l : List Int32) : kRes :=
  if kLk b n p = 61 ∨ kLk b n p = 60 ∨ kLk b n p = 62 then kTh (kSumD b n g m e (kSp b n p + 1)) (fun q k => (true, q, l ++ k ++ [nI (20000 + kLk b n p)])) else (false, kSp b n p, [])
def kUnitF (b : Nat → Nat) (n : Nat) (g : Nat → Int32) (m e : Nat) (op : Bool) (u c : Nat → kRes) (p : Nat) : kRes :=
  if kLk b n p = 33 then (if op then kTh (u (kSp b n p + 1)) (fun q l => (true, q, l ++ [20033])) else (false, kSp b n p, []))
  else if kLk b n p = 40 then (if op then kTh (c (kSp b n p + 1)) (fun q l => kTk b n 41 q l) else (false, kSp b n p, []))
  else kTh (kSumD b n g m e (kSp b n p)) (fun q l => kCmp b n g m e q l)
def kTruF (b : Nat → Nat) (n : Nat) (u z : Nat → kRes) (p : Nat) : kRes := kMany b n 38 38 u z p
def kConF (b : Nat → Nat) (n : Nat) (t z : Nat → kRes) (p : Nat) : kRes := kMany b n 124 124 t z p
def kUnitD (b : Nat → Nat) (n : Nat) (g : Nat → Int32) (m : Nat) : Nat → Nat → kRes
  | 0 => kUnitF b n g m 0 false (fun p => (false, p, [])) (fun p => (false, p, []))
  | e + 1 => kUnitF b n g m (e + 1) true (kUnitD b n g m e) (kConF b n (kTruF b n (kUnitD b n g m e) (kUnitD b n g m e)) (kTruF b n (kUnitD b n g m e) (kUnitD b n g m e)))
def kTruD (b : Nat → Nat) (n : Nat) (g : Nat → Int32) (m e p : Nat) : kRes := kTruF b n (kUnitD b n g m e) (kUnitD b n g m e) p
def kConD (b : Nat → Nat) (n : Nat) (g : Nat → Int32) (m e p : Nat) : kRes := kConF b n (kTruD b n g m e) (kTruD b n g m e) p
/-- the same where the first sum is read -/
def kUnitZ (b : Nat → Nat) (n : Nat) (g : Nat → Int32) (m e p : Nat) : kRes := kCmp b n g m e p []
def kTruZ (b : Nat → Nat) (n : Nat) (g : Nat → Int32) (m e p : Nat) : kRes := kTruF b n (kUnitD b n g m e) (kUnitZ b n g m e) p
def kConZ (b : Nat → Nat) (n : Nat) (g : Nat → Int32) (m e p : Nat) : kRes := kConF b n (kTruD b n g m e) (kTruZ b n g m e) p
/-- a clause: ok, place, its steps, the label's number, how long the condition is -/
abbrev kClR : Type := Bool × Nat × List Int32 × Nat × Nat
def kThC (r : kRes) (k : Nat → List Int32 → kClR) : kClR := if r.1 then k r.2.1 r.2.2 else (false, r.2.1, [], 0, 0)
/-- behind a condition: '?' and the sum -/
def kCla2 (b : Nat → Nat) (n : Nat) (g : Nat → Int32) (m j p : Nat) (l : List Int32) : kClR :=
  kThC (kTk b n 63 p []) (fun q _ => kThC (kSumD b n g m 6 q) (fun q2 k => (true, q2, l ++ k, j, l.length)))
/-- behind the label -/
def kCla1 (b : Nat → Nat) (n : Nat) (g : Nat → Int32) (m j p : Nat) : kClR :=
  if kLk b n p = 33 ∨ kLk b n p = 40 then kThC (kConD b n g m 6 (kSp b n p)) (fun q l => kCla2 b n g m j q l)
  else kThC (kSumD b n g m 6 (kSp b n p)) (fun q l =>
    if kLk b n q = 61 ∨ kLk b n q = 60 ∨ kLk b n q = 62 then kThC (kConZ b n g m 6 (kSp b n q)) (fun q2 k => kCla2 b n g m j q2 (l ++ k))
    else (true, kSp b n q, l, j, 0))
def kCla (b : Nat → Nat) (n : Nat) (g6 : Nat → Int32) (n6 : Nat) (g : Nat → Int32) (m p : Nat) : kClR :=
  if kIx g6 n6 (nI (kLk b n p)) < n6 then kThC (kTk b n 58 (kSp b n p + 1) []) (fun q _ => kCla1 b n g m (kIx g6 n6 (nI (kLk b n p))) q)
  else (false, kSp b n p, [], 0, 0)
/-- a text: ok, the fault's place, all steps, the rows of the clauses -/
def kRdL (b : Nat → Nat) (n : Nat) (g6 : Nat → Int32) (n6 : Nat) (g : Nat → Int32) (m : Nat) : Nat → Nat → List Int32 → List Int32 → Bool × Nat × List Int32 × List Int32
  | 0, p, _, _ => (false, p, [], [])
  | f + 1, p, l, c =>
    if (kCla b n g6 n6 g m p).1 then
      (if kLk b n (kCla b n g6 n6 g m p).2.1 = 0 then (true, kSp b n (kCla b n g6 n6 g m p).2.1, l ++ (kCla b n g6 n6 g m p).2.2.1, c ++ [nI (kCla b n g6 n6 g m p).2.2.2.1, nI l.length, nI (l.length + (kCla b n g6 n6 g m p).2.2.2.2), nI (l.length + (kCla b n g6 n6 g m p).2.2.1.length)])
       else if kLk b n (kCla b n g6 n6 g m p).2.1 = 59 then kRdL b n g6 n6 g m f (kSp b n (kCla b n g6 n6 g m p).2.1 + 1) (l ++ (kCla b n g6 n6 g m p).2.2.1) (c ++ [nI (kCla b n g6 n6 g m p).2.2.2.1, nI l.length, nI (l.length + (kCla b n g6 n6 g m p).2.2.2.2), nI (l.length + (kCla b n g6 n6 g m p).2.2.1.length)])
       else (false, kSp b n (kCla b n g6 n6 g m p).2.1, [], []))
    else (false, (kCla b n g6 n6 g m p).2.1, [], [])
def kRead (b : Nat → Nat) (n : Nat) (g6 : Nat → Int32) (n6 : Nat) (g : Nat → Int32) (m : Nat) : Bool × Nat × List Int32 × List Int32 := kRdL b n g6 n6 g m 31 0 [] []
end
section
/-- a number within a million -/
def kClm (x : Int) : Int32 := Int32.ofInt (max (-1000000) (min 1000000 x))
/-- two numbers joined by a sign -/
def kJi (s l r : Int32) : Int :=
  if s = 43 then l.toInt + r.toInt else if s = 45 then l.toInt - r.toInt else if s = 42 then l.toInt * r.toInt
  else if s = 47 then (if r = 0 then 0 else (l / r).toInt) else if s = 61 then (if l = r then 1 else 0) else if s = 60 then (if l < r then 1 else 0)
  else if s = 62 then (if r < l then 1 else 0) else if s = 38 then (l &&& r).toInt else (l ||| r).toInt
def kJn (s l r : Int32) : Int32 := kClm (kJi s l r)
/-- what a step lays on the stack -/
def kStv (lt : Nat → Int32) (x : Int32) : Int32 := if x - 10000 < 0 then x else if x - 10000 < 8 then lt (Int32.toNatClampNeg (x - 10000)) else x
def kEv1 (lt : Nat → Int32) (x : Int32) (st : List Int32) : List Int32 :=
  if x < 20000 then kStv lt x :: st
  else if x = 20033 then (match st with
    | a :: r => (if a = 0 then 1 else 0) :: r
    | [] => [])
  else (match st with
    | b :: a :: r => kJn (x - 20000) a b :: r
    | r => r)
def kEv (lt : Nat → Int32) : List Int32 → List Int32 → List Int32
  | [], st => st
  | x :: l, st => kEv lt l (kEv1 lt x st)
/-- a sum, as steps: how high it lays the stack -/
def kWn (M h : Nat) (l : List Int32) : Prop := ∀ P : Nat → List Int32 → Prop, (∀ v : Nat, v < 10000 → P 1 [nI v]) → (∀ k : Nat, k < M → k < 8 → P 1 [nI (10000 + k)]) → (∀ (a b s : Nat) (l m : List Int32), P a l → P b m → (s = 43 ∨ s = 45 ∨ s = 42 ∨ s = 47) → P (max a (b + 1)) (l ++ m ++ [nI (20000 + s)])) → P h l
/-- a condition, as steps -/
def kWb (M h : Nat) (l : List Int32) : Prop := ∀ P : Nat → List Int32 → Prop, (∀ (a b s : Nat) (l m : List Int32), kWn M a l → kWn M b m → (s = 61 ∨ s = 60 ∨ s = 62) → P (max a (b + 1)) (l ++ m ++ [nI (20000 + s)])) → (∀ (a : Nat) (l : List Int32), P a l → P a (l ++ [20033])) → (∀ (a b s : Nat) (l m : List Int32), P a l → P b m → (s = 38 ∨ s = 124) → P (max a (b + 1)) (l ++ m ++ [nI (20000 + s)])) → P h l
def kVal (lt : Nat → Int32) (l : List Int32) : Int32 := (kEv lt l []).headD 0
/-- sums no higher than so much -/
def kHn (M H : Nat) (l : List Int32) : Prop := ∃ h : Nat, h ≤ H ∧ kWn M h l
def kHb (M H : Nat) (l : List Int32) : Prop := ∃ h : Nat, h ≤ H ∧ kWb M h l
end
section
def w_s_join5x : List Cond := .code yX5_join cX5_join 3 (some .long) :: ([])
theorem gw_s_join5x : (w_s_join5x).all goodWord = true := kGc rfl kGn
def w_s_bounded5x : List Cond := .code yX5_bounded cX5_bounded 2 (some .int) :: ([.constantLong RX5 48 (1000000), .constantLong RX5 51 (-1000000), .constant RX5 53 (-1000000), .constant RX5 50 (1000000)] ++ [])
theorem gw_s_bounded5x : (w_s_bounded5x).all goodWord = true := kGc rfl (kGa (by decide +kernel) kGn)
def w_s_valueOf5x : List Cond := .code yX5_valueOf cX5_valueOf 3 (some .int) :: ([.fieldLink RX5 9 "NotEnded$Reckoner" "letters" "[I"] ++ (wsX50))
theorem gw_s_valueOf5x : (w_s_valueOf5x).all goodWord = true := kGc rfl (kGa (by decide +kernel) gw_wsX50)
def w_s_reckon5x : List Cond := .code yX5_reckon cX5_reckon 7 (some .int) :: ([.methodLink RX5 30 Lib.Math.max.name, .static Lib.Math.max.name, .initialized RJ9, .code Lib.Math.max.name Lib.Math.max.code 2 (some .int), .fieldLink RX5 15 "NotEnded$Reckoner" "open" "[I", .initialized RX5, .static yX5_join, .methodLink RX5 40 yX5_join, .static yX5_bounded, .methodLink RX5 44 yX5_bounded, .selects RX5 yX5_valueOf yX5_valueOf, .instanceMethod yX5_valueOf, .methodLink RX5 36 yX5_valueOf] ++ (wsX50 ++ (w_s_join5x ++ (w_s_bounded5x ++ (w_s_valueOf5x)))))
theorem gw_s_reckon5x : (w_s_reckon5x).all goodWord = true := kGc rfl (kGa (by decide +kernel) (kGa gw_wsX50 (kGa gw_s_join5x (kGa gw_s_bounded5x gw_s_valueOf5x))))
end
section
/-- a clause: its label's number, its condition, its sum -/
abbrev kTr : Type := Nat × List Int32 × List Int32
def kFl : List kTr → List Int32
  | [] => []
  | (_, c, m) :: r => c ++ m ++ kFl r
def kRw : Nat → List kTr → List Int32
  | _, [] => []
  | o, (j, c, m) :: r => [nI j, nI o, nI (o + c.length), nI (o + (c ++ m).length)] ++ kRw (o + (c ++ m).length) r
/-- what a text is worth under a label -/
def kWoT (lt : Nat → Int32) (lab : Nat) : List kTr → Int32
  | [] => 0
  | (j, c, m) :: r => if j = lab ∧ (c = [] ∨ ¬ kVal lt c = 0) then kVal lt m else kWoT lt lab r
/-- a clause that can be reckoned -/
def kGdC (N M : Nat) (z : kTr) : Prop := z.1 < N ∧ (z.2.1 = [] ∨ kHb M 18 z.2.1) ∧ kHn M 15 z.2.2
/-- the clauses of a text, as they are read -/
def kTrA (t : List kTr) (x : List Int32) (j k : Nat) : List kTr := t ++ [(j, x.take k, x.drop k)]
def kRdT (b : Nat → Nat) (n : Nat) (g6 : Nat → Int32) (n6 : Nat) (g : Nat → Int32) (m : Nat) : Nat → Nat → List kTr → List kTr
  | 0, _, _ => []
  | f + 1, p, t =>
    if (kCla b n g6 n6 g m p).1 then
      (if kLk b n (kCla b n g6 n6 g m p).2.1 = 0 then kTrA t (kCla b n g6 n6 g m p).2.2.1 (kCla b n g6 n6 g m p).2.2.2.1 (kCla b n g6 n6 g m p).2.2.2.2
       else if kLk b n (kCla b n g6 n6 g m p).2.1 = 59 then kRdT b n g6 n6 g m f (kSp b n (kCla b n g6 n6 g m p).2.1 + 1) (kTrA t (kCla b n g6 n6 g m p).2.2.1 (kCla b n g6 n6 g m p).2.2.2.1 (kCla b n g6 n6 g m p).2.2.2.2)
       else [])
    else []
def kReadT (b : Nat → Nat) (n : Nat) (g6 : Nat → Int32) (n6 : Nat) (g : Nat → Int32) (m : Nat) : List kTr := kRdT b n g6 n6 g m 31 0 []
/-- a rule's two rows are a list of clauses -/
def kRu (t : List kTr) (M nS nC : Nat) (gS gC : Nat → Int32) : Prop := nS = (kFl t).length ∧ nC = (kRw 0 t).length ∧ (∀ j : Nat, j < nS → gS j = (kFl t).getD j 0) ∧ (∀ j : Nat, j < nC → gC j = (kRw 0 t).getD j 0) ∧ M ≤ 8 ∧ ∀ z ∈ t, kGdC 8 M z
end
section
def w_s_worthOf5x : List Cond := .code yX5_worthOf cX5_worthOf 7 (some .int) :: ([.initialized RX5, .selects RX5 yX5_reckon yX5_reckon, .instanceMethod yX5_reckon, .methodLink RX5 26 yX5_reckon] ++ (wsX60 ++ (w_s_reckon5x)))
theorem gw_s_worthOf5x : (w_s_worthOf5x).all goodWord = true := kGc rfl (kGa (by decide +kernel) (kGa gw_wsX60 gw_s_reckon5x))
def w_s_setLetter5x : List Cond := .code yX5_setLetter cX5_setLetter 3 none :: ([.fieldLink RX5 9 "NotEnded$Reckoner" "letters" "[I"] ++ (wsX50))
theorem gw_s_setLetter5x : (w_s_setLetter5x).all goodWord = true := kGc rfl (kGa (by decide +kernel) gw_wsX50)
end
section
/-- kl texts on a shelf: each is a rule whose three cells lie in the heap, none of them in A -/
def kSh (dC : Nat → ClassId) (dI : Nat → Nat → Nat) (kl : Nat) (gL : Nat → Option Nat) (yL : Nat → List kTr) (M9 : Nat) (A : Nat → Prop) (U : State) : Prop := ∀ j : Nat, j < kl → ∃ (ru sA cl : Nat) (cS cc : ClassId) (nS nC : Nat) (gS gC : Nat → Int32), gL j = some ru ∧ kRu (yL j) M9 nS nC gS gC ∧ nS ≤ 200 ∧ nC ≤ 200 ∧ va_K (dC, dI) vwCl [(cS, .int), (cc, .int)] U ∧ (va_P (dC, dI) vwCl [(ru, .inr (6, [.ref sA, .ref cl])), (sA, .inl (cS, nS, .inl gS)), (cl, .inl (cc, nC, .inl gC))] U.heap ∧ ∀ (k : Nat) (q : Nat × va_E), ([(ru, .inr (6, [.ref sA, .ref cl])), (sA, .inl (cS, nS, .inl gS)), (cl, .inl (cc, nC, .inl gC))] : va_W)[k]? = some q → ¬ A q.1)
theorem kSh_blind {dC : Nat → ClassId} {dI : Nat → Nat → Nat} {kl : Nat} {gL : Nat → Option Nat} {yL : Nat → List kTr} {M9 : Nat} {A : Nat → Prop} : ∀ (U : State) (g : JFrame) (mk : MethodId) (a : Array Value), kSh dC dI kl gL yL M9 A U → kSh dC dI kl gL yL M9 A (U.calling g mk a) := fun U g mk a h j hj => by
  obtain ⟨ru, sA, cl, cS, cc, nS, nC, gS, gC, e1, hy, h1, h2, h3, h4⟩ := h j hj
  exact ⟨ru, sA, cl, cS, cc, nS, nC, gS, gC, e1, hy, h1, h2, va_K.moved (u := U) (U := U.calling g mk a) (Vm.Alike.refl U.vm) h3, h4⟩
theorem kSh_give {dC : Nat → ClassId} {dI : Nat → Nat → Nat} {kl : Nat} {gL : Nat → Option Nat} {yL : Nat → List kTr} {M9 : Nat} {A B : Nat → Prop} {s : State} {H : Heap} {locs : List Loc} (h : kSh dC dI kl gL yL M9 A s) (hS : va_S A s.heap H locs) (hB : ∀ q, B q → A q) : ∀ U : State, U.heap = H → s.WarmedH U.vm → kSh dC dI kl gL yL M9 B U := fun U hU hW j hj => by
  obtain ⟨ru, sA, cl, cS, cc, nS, nC, gS, gC, e1, hy, h1, h2, h3, h4⟩ := h j hj
  exact ⟨ru, sA, cl, cS, cc, nS, nC, gS, gC, e1, hy, h1, h2, va_K.moved hW.alike h3, by rw [hU]; exact kFz_at h4 hS, fun k q hk z => h4.2 k q hk (hB _ z)⟩
/-- both shelves, and the links of nest mates -/
def kPub (dC : Nat → ClassId) (dI : Nat → Nat → Nat) (kl : Nat) (gL : Nat → Option Nat) (yL : Nat → List kTr) (ku : Nat) (gU : Nat → Option Nat) (yU : Nat → List kTr) (A : Nat → Prop) (U : State) : Prop := (kSh dC dI kl gL yL 8 A U ∧ kSh dC dI ku gU yU 5 A U) ∧ kNL U
theorem kPub_blind {dC : Nat → ClassId} {dI : Nat → Nat → Nat} {kl : Nat} {gL : Nat → Option Nat} {yL : Nat → List kTr} {ku : Nat} {gU : Nat → Option Nat} {yU : Nat → List kTr} {A : Nat → Prop} : ∀ (U : State) (g : JFrame) (mk : MethodId) (a : Array Value), kPub dC dI kl gL yL ku gU yU A U → kPub dC dI kl gL yL ku gU yU A (U.calling g mk a) := fun U g mk a h => ⟨⟨kSh_blind U g mk a h.1.1, kSh_blind U g mk a h.1.2⟩, kNL_blind U g mk a h.2⟩
theorem kPub_give {dC : Nat → ClassId} {dI : Nat → Nat → Nat} {kl : Nat} {gL : Nat → Option Nat} {yL : Nat → List kTr} {ku : Nat} {gU : Nat → Option Nat} {yU : Nat → List kTr} {A B : Nat → Prop} {s : State} {H : Heap} {locs : List Loc} (h : kPub dC dI kl gL yL ku gU yU A s) (hS : va_S A s.heap H locs) (hB : ∀ q, B q → A q) : ∀ U : State, U.heap = H → s.WarmedH U.vm → kPub dC dI kl gL yL ku gU yU B U := fun U hU hW => ⟨⟨kSh_give h.1.1 hS hB U hU hW, kSh_give h.1.2 hS hB U hU hW⟩, kNL_give h.2 U hU hW⟩
/-- arrays of ints can be cloned -/
def kCl (U : State) : Prop := va_Nw (.castable "[I" "java/lang/Cloneable") U
def kWordA (p : Int32) (kw : Nat) : Int32 := if kIn p 0 47 = 0 then -1 else if kw < 4 then nI (kw + 1) else -1
def kWordN (p : Int32) (kw : Nat) : Nat := if kIn p 0 47 = 0 then kw else if kw < 4 then kw + 1 else kw
def kPn (p : Int32) (k : Nat) : Int32 := if p < 0 then 0 else if p < nI k then 1 else 0
def kIsB (a b : Int32) : Int32 := if (a >>> (b &&& 31)) &&& 1 = 0 then 0 else 1
/-- the class's texts, its nest mates' links, and that arrays can be cloned -/
def kTxt (ad : Nat → Nat) (bA nA : Nat) (xA : Nat → Int32) (bB nB : Nat) (xB : Nat → Int32) (bE nE : Nat) (xE : Nat → Int32) (bG nG : Nat) (xG : Nat → Int32) (A : Nat → Prop) (U : State) : Prop := kRd ad 1 3 bA nA xA bB nB xB A U ∧ kRd ad 2 4 bE nE xE bG nG xG A U ∧ kNL U ∧ kCl U
end
section
def w_s_sent2n : List Cond := .code yX2_sentOnes cX2_sentOnes 1 (some .int) :: ([.fieldLink RX2 27 "NotEnded$Folk" "sent" "I"] ++ (wsX20))
theorem gw_s_sent2n : (w_s_sent2n).all goodWord = true := kGc rfl (kGa (by decide +kernel) gw_wsX20)
def w_s_at7y : List Cond := .code yX7_at cX7_at 2 (some (.object "NotEnded$Rule")) :: ([.fieldLink RX7 9 "NotEnded$Shelf" "size" "I", .fieldLink RX7 17 "NotEnded$Shelf" "rules" "[LNotEnded$Rule;"] ++ (wsX70))
theorem gw_s_at7y : (w_s_at7y).all goodWord = true := kGc rfl (kGa (by decide +kernel) gw_wsX70)
def w_s_has2x : List Cond := .code yX2_has cX2_has 2 (some .boolean) :: ([.fieldLink RX2 31 "NotEnded$Folk" "size" "I"] ++ (wsX20))
theorem gw_s_has2x : (w_s_has2x).all goodWord = true := kGc rfl (kGa (by decide +kernel) gw_wsX20)
def w_s_isBit9x : List Cond := .code yX9_isBit cX9_isBit 2 (some .boolean) :: ([])
theorem gw_s_isBit9x : (w_s_isBit9x).all goodWord = true := kGc rfl kGn
def w_s_isSent2x : List Cond := .code yX2_isSent cX2_isSent 2 (some .boolean) :: ([.fieldLink RX2 27 "NotEnded$Folk" "sent" "I", .initialized RX9, .static yX9_isBit] ++ (wsX20 ++ (w_s_isBit9x)))
theorem gw_s_isSent2x : (w_s_isSent2x).all goodWord = true := kGc rfl (kGa (by decide +kernel) (kGa gw_wsX20 gw_s_isBit9x))
end
section
/-- a sum over those of whom c holds -/
def kSm (c : Nat → Bool) (f : Nat → Int32) : Nat → Int32
  | 0 => 0
  | n + 1 => if c n then kSm c f n + f n else kSm c f n
/-- all but one, and that one -/
def kBut (j : Nat) (c : Nat → Bool) : Nat → Bool := fun o => decide (¬ o = j) && c o
/-- a run: what each holds, what it has put in, where it is, since when it tells, what was drawn, the hour -/
abbrev kRst : Type := (Nat → Int32) × (Nat → Int32) × (Nat → Int32) × (Nat → Int32) × Int64 × Nat
/-- what a run goes by: how many persons, how many words, whom each knows, the words, who is sent, who is there, the law -/
abbrev kEn : Type := Nat × Nat × (Nat → Int32) × (Nat → Int32) × (Nat → Int32) × (Nat → Int32) × List kTr
/-- there, and in a house -/
def kIh (E : kEn) (S : kRst) (q : Int32) : Nat → Bool := fun o => decide (¬ E.2.2.2.2.2.1 o = 0) && decide (S.2.2.1 o = q)
def kNn (E : kEn) (S : kRst) (j : Nat) : Int32 := if S.2.2.1 j = -1 then 0 else kSm (kBut j (kIh E S (S.2.2.1 j))) (fun _ => 1) E.1
def kNh (E : kEn) (S : kRst) (j : Nat) : Int32 := if S.2.2.1 j = -1 then 0 else kSm (kBut j (kIh E S (S.2.2.1 j))) S.1 E.1
def kNse (E : kEn) (S : kRst) (j : Nat) : Int32 := if S.2.2.1 j = -1 then 0 else kSm (kBut j (kIh E S (S.2.2.1 j))) E.2.2.2.2.1 E.1
/-- the words that are past, and the latest of them -/
def kPa (f : Nat → Int32) (h : Int32) : Nat → Bool := fun i => decide (f i ≤ h)
def kLa (f : Nat → Int32) (h : Int32) : Nat → Int32
  | 0 => -1
  | n + 1 => if f n ≤ h then (if kLa f h n < f n then f n else kLa f h n) else kLa f h n
def kUu (E : kEn) (S : kRst) : Int32 := kSm (kPa E.2.2.2.1 (nI S.2.2.2.2.2)) (fun _ => 1) E.2.1
def kDd (E : kEn) (S : kRst) : Int32 := if kLa E.2.2.2.1 (nI S.2.2.2.2.2) E.2.1 = -1 then 0 else nI S.2.2.2.2.2 - kLa E.2.2.2.1 (nI S.2.2.2.2.2) E.2.1
/-- the letters of one -/
def kLe (E : kEn) (S : kRst) (j : Nat) : Nat → Int32 := fun k => if k = 0 then S.1 j else if k = 1 then S.2.1 j else if k = 2 then kNn E S j else if k = 3 then (if kNn E S j = 0 then 0 else kNh E S j / kNn E S j) else if k = 4 then kNse E S j else if k = 5 then kUu E S else if k = 6 then kDd E S else nI S.2.2.2.2.2
/-- what a label is worth to one -/
def kYy (E : kEn) (S : kRst) (lab j : Nat) : Int32 := kWoT (kLe E S j) lab E.2.2.2.2.2.2
def kFr (E : kEn) (j : Nat) : Bool := decide (¬ E.2.2.2.2.2.1 j = 0) && decide (E.2.2.2.2.1 j = 0)
def kWi (x : Int32) : Int32 := if x < 0 then 0 else if 100 < x then 100 else x
/-- behind the law's more or less -/
def kH1 (E : kEn) (S : kRst) (j : Nat) : Int32 := if kFr E j then kWi (S.1 j + kYy E S 0 j) else S.1 j
def kTe (E : kEn) (S : kRst) (j : Nat) : Bool := kFr E j && decide (50 ≤ kH1 E S j)
def kT1 (E : kEn) (S : kRst) (j : Nat) : Int32 := if kTe E S j then (if S.2.2.2.1 j = -1 then nI S.2.2.2.2.2 else S.2.2.2.1 j) else S.2.2.2.1 j
def kNr (S : kRst) (j k : Nat) : Bool := decide (¬ S.2.2.1 j = -1) && decide (S.2.2.1 j = S.2.2.1 k)
/-- whether one tells another -/
def kTn (E : kEn) (S : kRst) (k : Nat) : Nat → Bool := fun j => kTe E S j && (decide (¬ kIsB (E.2.2.1 j) (nI k) = 0) && !kNr S j k)
def kHe (E : kEn) (S : kRst) (k n : Nat) : Int32 := kSm (kTn E S k) (fun j => kYy E S 2 j) n
def kH2 (E : kEn) (S : kRst) (j : Nat) : Int32 := if kFr E j then kWi (kH1 E S j + kHe E S j E.1) else kH1 E S j
def kDr (x : Int64) : Int64 := x * 6364136223846793005 + 1442695040888963407
def kRv (x : Int64) : Int64 := (x.toUInt64 >>> ((33 : Int32).toInt64.toUInt64 &&& Int64.toUInt64 63)).toInt64
def kRm (x : Int64) : Int64 := kRv x - kRv x / 100 * 100
def kGo (x : Int64) (g : Int32) : Bool := decide (lg_cmp (kRm x) (Int32.toInt64 g) < 0)
def kMay (E : kEn) (S : kRst) (j : Nat) : Bool := kFr E j && decide (¬ S.2.2.1 j = -1)
def kGh (E : kEn) (S : kRst) : Nat → Int64 × (Nat → Int32)
  | 0 => (S.2.2.2.2.1, S.2.2.1)
  | n + 1 => if kMay E S n then (kDr (kGh E S n).1, if kGo (kDr (kGh E S n).1) (kYy E S 1 n) then upd (kGh E S n).2 n (-1) else (kGh E S n).2) else kGh E S n
/-- one hour -/
def kStp (E : kEn) (S : kRst) : kRst := (kH2 E S, S.2.1, (kGh E S E.1).2, kT1 E S, (kGh E S E.1).1, S.2.2.2.2.2 + 1)
def kIt (E : kEn) : Nat → kRst → kRst
  | 0, S => S
  | n + 1, S => kStp E (kIt E n S)
/-- within bounds -/
def kOk (ks : Nat) (S : kRst) : Prop := ∀ j : Nat, j < ks → (0 ≤ (S.1 j).toInt ∧ (S.1 j).toInt ≤ 100) ∧ (0 ≤ (S.2.1 j).toInt ∧ (S.2.1 j).toInt ≤ 99) ∧ (S.2.2.1 j = -1 ∨ ∃ v : Nat, v < 4 ∧ S.2.2.1 j = nI v)
theorem kIsB_01 (a b : Int32) : kIsB a b = 0 ∨ kIsB a b = 1 := by unfold kIsB; split; exact Or.inl rfl; exact Or.inr rfl
/-- everybody, and those who are there -/
def kEvb (ks : Nat) : Int32 := ((1 : Int32) <<< (nI ks &&& 31)) - 1
def kPrs (ks : Nat) (ab : Int32) : Int32 := kEvb ks &&& (ab ^^^ (-1))
abbrev kE0 (ks kw : Nat) (g3 g4 : Nat → Int32) (sv : Nat) (pr : Int32) (t : List kTr) : kEn := (ks, kw, g3, g4, (fun j => kIsB (nI sv) (nI j)), (fun j => kIsB pr (nI j)), t)
abbrev kS0 (g0 g1 g2 : Nat → Int32) (x : Int64) : kRst := (g0, g1, g2, (fun _ => -1), x, 0)
/-- what a run answers -/
def kRunV (w : Int32) (F : kRst) (j : Nat) : Int32 := if w = 0 then F.1 j else if w = 1 then F.2.2.1 j else F.2.2.2.1 j
def kRunA (kl ks kw : Nat) (g0 g1 g2 g3 g4 : Nat → Int32) (sv : Nat) (yL : Nat → List kTr) (p0 : Int32) (p1 : Int64) (p2 p3 p4 : Int32) : Int32 := if kPn p0 kl = 0 then -1000 else if kIn p2 0 48 = 0 then -1000 else if kPn p3 ks = 0 then -1000 else if kIn p4 0 2 = 0 then -1000 else kRunV p4 (kIt (kE0 ks kw g3 g4 sv (kPrs ks 0) (yL (Int32.toNatClampNeg p0))) (Int32.toNatClampNeg p2) (kS0 g0 g1 g2 p1)) (Int32.toNatClampNeg p3)
theorem kLcS (a : Int64) : lg_cmp a a = 0 := by
  unfold lg_cmp
  rw [if_neg (fun h : a > a => by have h2 := Int64.lt_iff_toInt_lt.mp h; omega), if_pos rfl]
/-- whether there is a worth to tell; which -/
def kWoE (kl ks : Nat) (p0 p1 p2 : Int32) : Int32 := if kPn p0 kl = 0 then 1 else if kIn p1 0 2 = 0 then 1 else if kPn p2 ks = 0 then 1 else 0
def kWoV (kl ks kw : Nat) (g0 g1 g2 g3 g4 : Nat → Int32) (sv : Nat) (yL : Nat → List kTr) (p0 p1 p2 : Int32) : Int32 := kYy (kE0 ks kw g3 g4 sv (kPrs ks 0) (yL (Int32.toNatClampNeg p0))) (kS0 g0 g1 g2 0) (Int32.toNatClampNeg p1) (Int32.toNatClampNeg p2)
def kWdF (p : Int32) (k : Nat) (f : Nat → Int32) : Nat → Int32 := if kWordN p k = k then f else upd f k p
end
section
def w_s_within9x : List Cond := .code yX9_within cX9_within 3 (some .int) :: ([])
theorem gw_s_within9x : (w_s_within9x).all goodWord = true := kGc rfl kGn
def w_s_fillx : List Cond := .code yJ7_fill_53178 cJ7_fill_53178 4 none :: ([])
theorem gw_s_fillx : (w_s_fillx).all goodWord = true := kGc rfl kGn
def w_s_wordsPast2x : List Cond := .code yX2_wordsPast cX2_wordsPast 4 (some .int) :: ([.fieldLink RX2 34 "NotEnded$Folk" "words" "I", .fieldLink RX2 24 "NotEnded$Folk" "hours" "[I"] ++ (wsX20))
theorem gw_s_wordsPast2x : (w_s_wordsPast2x).all goodWord = true := kGc rfl (kGa (by decide +kernel) gw_wsX20)
def w_s_since2x : List Cond := .code yX2_hoursSinceWord cX2_hoursSinceWord 4 (some .int) :: ([.fieldLink RX2 34 "NotEnded$Folk" "words" "I", .fieldLink RX2 24 "NotEnded$Folk" "hours" "[I", .methodLink RX2 49 Lib.Math.max.name, .static Lib.Math.max.name, .initialized RJ9, .code Lib.Math.max.name Lib.Math.max.code 2 (some .int)] ++ (wsX20))
theorem gw_s_since2x : (w_s_since2x).all goodWord = true := kGc rfl (kGa (by decide +kernel) gw_wsX20)
def w_s_isHouse9n : List Cond := .code yX9_isHouse cX9_isHouse 1 (some .boolean) :: ([.initialized RX9, .static yX9_isIn, .methodLink RX9 117 yX9_isIn] ++ (w_s_isIn9))
theorem gw_s_isHouse9n : (w_s_isHouse9n).all goodWord = true := kGc rfl (kGa (by decide +kernel) gw_s_isIn9)
def w_s_isHouse9m : List Cond := .code yX9_isHouse cX9_isHouse 1 (some .boolean) :: ([.initialized RX9, .static yX9_isIn, .methodLink RX9 117 yX9_isIn] ++ (w_s_isIn9))
theorem gw_s_isHouse9m : (w_s_isHouse9m).all goodWord = true := kGc rfl (kGa (by decide +kernel) gw_s_isIn9)
def w_s_tally1x : List Cond := .code yX1_tallyHouses cX1_tallyHouses 3 none :: ([.fieldLink RX1 36 "NotEnded$Course" "manyIn" "[I", .initialized RJ7, .static yJ7_fill_53178, .methodLink RX1 161 yJ7_fill_53178, .fieldLink RX1 39 "NotEnded$Course" "heldIn" "[I", .fieldLink RX1 42 "NotEnded$Course" "sentIn" "[I", .fieldLink RX1 67 "NotEnded$Course" "folk" "LNotEnded$Folk;", .initialized RX2, .selects RX2 yX2_size yX2_size, .instanceMethod yX2_size, .methodLink RX1 84 yX2_size, .fieldLink RX1 18 "NotEnded$Course" "places" "[I", .fieldLink RX1 57 "NotEnded$Course" "present" "I", .initialized RX9, .static yX9_isBit, .static yX9_isHouse, .fieldLink RX1 9 "NotEnded$Course" "held" "[I", .selects RX2 yX2_isSent yX2_isSent, .instanceMethod yX2_isSent, .methodLink RX1 167 yX2_isSent] ++ (wsX10 ++ (w_s_fillx ++ (w_s_size2 ++ (w_s_isBit9x ++ (w_s_isHouse9m ++ (w_s_isHouse9n ++ (w_s_isSent2x))))))))
theorem gw_s_tally1x : (w_s_tally1x).all goodWord = true := kGc rfl (kGa (by decide +kernel) (kGa gw_wsX10 (kGa gw_s_fillx (kGa gw_s_size2 (kGa gw_s_isBit9x (kGa gw_s_isHouse9m (kGa gw_s_isHouse9n gw_s_isSent2x)))))))
def w_s_letters1x : List Cond := .code yX1_setLettersOf cX1_setLettersOf 7 none :: ([.fieldLink RX1 67 "NotEnded$Course" "folk" "LNotEnded$Folk;", .initialized RX2, .selects RX2 yX2_has yX2_has, .instanceMethod yX2_has, .methodLink RX1 94 yX2_has, .fieldLink RX1 18 "NotEnded$Course" "places" "[I", .initialized RX9, .static yX9_isHouse, .fieldLink RX1 71 "NotEnded$Course" "reckoner" "LNotEnded$Reckoner;", .fieldLink RX1 9 "NotEnded$Course" "held" "[I", .initialized RX5, .selects RX5 yX5_setLetter yX5_setLetter, .instanceMethod yX5_setLetter, .methodLink RX1 174 yX5_setLetter, .fieldLink RX1 15 "NotEnded$Course" "putIn" "[I", .fieldLink RX1 36 "NotEnded$Course" "manyIn" "[I", .fieldLink RX1 39 "NotEnded$Course" "heldIn" "[I", .fieldLink RX1 42 "NotEnded$Course" "sentIn" "[I", .selects RX2 yX2_isSent yX2_isSent, .instanceMethod yX2_isSent, .methodLink RX1 167 yX2_isSent] ++ (wsX10 ++ (w_s_has2x ++ (w_s_isHouse9m ++ (w_s_setLetter5x ++ (w_s_isHouse9n ++ (w_s_isSent2x)))))))
theorem gw_s_letters1x : (w_s_letters1x).all goodWord = true := kGc rfl (kGa (by decide +kernel) (kGa gw_wsX10 (kGa gw_s_has2x (kGa gw_s_isHouse9m (kGa gw_s_setLetter5x (kGa gw_s_isHouse9n gw_s_isSent2x))))))
def w_s_lettersHour1x : List Cond := .code yX1_setLettersOfHour cX1_setLettersOfHour 1 none :: ([.fieldLink RX1 71 "NotEnded$Course" "reckoner" "LNotEnded$Reckoner;", .fieldLink RX1 67 "NotEnded$Course" "folk" "LNotEnded$Folk;", .fieldLink RX1 64 "NotEnded$Course" "hour" "I", .initialized RX2, .selects RX2 yX2_wordsPast yX2_wordsPast, .instanceMethod yX2_wordsPast, .methodLink RX1 170 yX2_wordsPast, .initialized RX5, .selects RX5 yX5_setLetter yX5_setLetter, .instanceMethod yX5_setLetter, .methodLink RX1 174 yX5_setLetter, .selects RX2 yX2_hoursSinceWord yX2_hoursSinceWord, .instanceMethod yX2_hoursSinceWord, .methodLink RX1 177 yX2_hoursSinceWord] ++ (wsX10 ++ (w_s_wordsPast2x ++ (w_s_setLetter5x ++ (w_s_since2x)))))
theorem gw_s_lettersHour1x : (w_s_lettersHour1x).all goodWord = true := kGc rfl (kGa (by decide +kernel) (kGa gw_wsX10 (kGa gw_s_wordsPast2x (kGa gw_s_setLetter5x gw_s_since2x))))
def w_s_weigh1x : List Cond := .code yX1_weigh cX1_weigh 2 none :: ([.initialized RX1, .selects RX1 yX1_tallyHouses yX1_tallyHouses, .instanceMethod yX1_tallyHouses, .methodLink RX1 120 yX1_tallyHouses, .selects RX1 yX1_setLettersOfHour yX1_setLettersOfHour, .instanceMethod yX1_setLettersOfHour, .methodLink RX1 123 yX1_setLettersOfHour, .fieldLink RX1 67 "NotEnded$Course" "folk" "LNotEnded$Folk;", .initialized RX2, .selects RX2 yX2_size yX2_size, .instanceMethod yX2_size, .methodLink RX1 84 yX2_size, .fieldLink RX1 61 "NotEnded$Course" "moved" "I", .initialized RX9, .static yX9_isBit, .selects RX1 yX1_setLettersOf yX1_setLettersOf, .instanceMethod yX1_setLettersOf, .methodLink RX1 126 yX1_setLettersOf, .fieldLink RX1 24 "NotEnded$Course" "holdsMore" "[I", .fieldLink RX1 71 "NotEnded$Course" "reckoner" "LNotEnded$Reckoner;", .fieldLink RX1 49 "NotEnded$Course" "law" "LNotEnded$Rule;", .initialized RX5, .selects RX5 yX5_worthOf yX5_worthOf, .instanceMethod yX5_worthOf, .methodLink RX1 130 yX5_worthOf, .fieldLink RX1 27 "NotEnded$Course" "passesOn" "[I", .fieldLink RX1 30 "NotEnded$Course" "goes" "[I", .fieldLink RX1 18 "NotEnded$Course" "places" "[I"] ++ (w_s_tally1x ++ (w_s_lettersHour1x ++ (wsX10 ++ (w_s_size2 ++ (w_s_isBit9x ++ (w_s_letters1x ++ (w_s_worthOf5x ++ (wsX20)))))))))
theorem gw_s_weigh1x : (w_s_weigh1x).all goodWord = true := kGc rfl (kGa (by decide +kernel) (kGa gw_s_tally1x (kGa gw_s_lettersHour1x (kGa gw_wsX10 (kGa gw_s_size2 (kGa gw_s_isBit9x (kGa gw_s_letters1x (kGa gw_s_worthOf5x gw_wsX20))))))))
def w_s_holdMore1x : List Cond := .code yX1_holdMore cX1_holdMore 2 none :: ([.fieldLink RX1 67 "NotEnded$Course" "folk" "LNotEnded$Folk;", .initialized RX2, .selects RX2 yX2_size yX2_size, .instanceMethod yX2_size, .methodLink RX1 84 yX2_size, .fieldLink RX1 61 "NotEnded$Course" "moved" "I", .initialized RX9, .static yX9_isBit, .fieldLink RX1 9 "NotEnded$Course" "held" "[I", .fieldLink RX1 24 "NotEnded$Course" "holdsMore" "[I", .static yX9_within] ++ (wsX10 ++ (w_s_size2 ++ (w_s_isBit9x ++ (w_s_within9x)))))
theorem gw_s_holdMore1x : (w_s_holdMore1x).all goodWord = true := kGc rfl (kGa (by decide +kernel) (kGa gw_wsX10 (kGa gw_s_size2 (kGa gw_s_isBit9x gw_s_within9x))))
def w_s_tellKnown1x : List Cond := .code yX1_tellThoseKnown cX1_tellThoseKnown 4 none :: ([.fieldLink RX1 67 "NotEnded$Course" "folk" "LNotEnded$Folk;", .initialized RX2, .selects RX2 yX2_size yX2_size, .instanceMethod yX2_size, .methodLink RX1 84 yX2_size, .fieldLink RX1 18 "NotEnded$Course" "places" "[I", .initialized RX9, .static yX9_isBit, .fieldLink RX1 33 "NotEnded$Course" "hears" "[I", .fieldLink RX1 27 "NotEnded$Course" "passesOn" "[I"] ++ (wsX10 ++ (w_s_size2 ++ (wsX20 ++ (w_s_isBit9x)))))
theorem gw_s_tellKnown1x : (w_s_tellKnown1x).all goodWord = true := kGc rfl (kGa (by decide +kernel) (kGa gw_wsX10 (kGa gw_s_size2 (kGa gw_wsX20 gw_s_isBit9x))))
def w_s_tell1x : List Cond := .code yX1_tell cX1_tell 2 none :: ([.fieldLink RX1 33 "NotEnded$Course" "hears" "[I", .initialized RJ7, .static yJ7_fill_53178, .methodLink RX1 161 yJ7_fill_53178, .fieldLink RX1 67 "NotEnded$Course" "folk" "LNotEnded$Folk;", .initialized RX2, .selects RX2 yX2_size yX2_size, .instanceMethod yX2_size, .methodLink RX1 84 yX2_size, .fieldLink RX1 61 "NotEnded$Course" "moved" "I", .initialized RX9, .static yX9_isBit, .fieldLink RX1 9 "NotEnded$Course" "held" "[I", .static yX9_within, .fieldLink RX1 21 "NotEnded$Course" "tellsSince" "[I", .initialized RX1, .selects RX1 yX1_tellThoseKnown yX1_tellThoseKnown, .instanceMethod yX1_tellThoseKnown, .methodLink RX1 180 yX1_tellThoseKnown, .fieldLink RX1 64 "NotEnded$Course" "hour" "I"] ++ (wsX10 ++ (w_s_fillx ++ (w_s_size2 ++ (w_s_isBit9x ++ (w_s_within9x ++ (w_s_tellKnown1x)))))))
theorem gw_s_tell1x : (w_s_tell1x).all goodWord = true := kGc rfl (kGa (by decide +kernel) (kGa gw_wsX10 (kGa gw_s_fillx (kGa gw_s_size2 (kGa gw_s_isBit9x (kGa gw_s_within9x gw_s_tellKnown1x))))))
def w_s_mayGo1x : List Cond := .code yX1_mayGo cX1_mayGo 2 (some .boolean) :: ([.fieldLink RX1 61 "NotEnded$Course" "moved" "I", .initialized RX9, .static yX9_isBit, .fieldLink RX1 18 "NotEnded$Course" "places" "[I"] ++ (wsX10 ++ (w_s_isBit9x)))
theorem gw_s_mayGo1x : (w_s_mayGo1x).all goodWord = true := kGc rfl (kGa (by decide +kernel) (kGa gw_wsX10 gw_s_isBit9x))
def w_s_goHome1x : List Cond := .code yX1_goHome cX1_goHome 2 none :: ([.fieldLink RX1 67 "NotEnded$Course" "folk" "LNotEnded$Folk;", .initialized RX2, .selects RX2 yX2_size yX2_size, .instanceMethod yX2_size, .methodLink RX1 84 yX2_size, .initialized RX1, .selects RX1 yX1_mayGo yX1_mayGo, .instanceMethod yX1_mayGo, .methodLink RX1 142 yX1_mayGo, .fieldLink RX1 53 "NotEnded$Course" "drawn" "J", .constantLong RX1 183 (6364136223846793005), .constantLong RX1 185 (1442695040888963407), .constantLong RX1 187 (100), .fieldLink RX1 30 "NotEnded$Course" "goes" "[I", .fieldLink RX1 18 "NotEnded$Course" "places" "[I"] ++ (wsX10 ++ (w_s_size2 ++ (w_s_mayGo1x))))
theorem gw_s_goHome1x : (w_s_goHome1x).all goodWord = true := kGc rfl (kGa (by decide +kernel) (kGa gw_wsX10 (kGa gw_s_size2 gw_s_mayGo1x)))
def w_s_go1x : List Cond := .code yX1_go cX1_go 3 none :: ([.initialized RX1, .selects RX1 yX1_weigh yX1_weigh, .instanceMethod yX1_weigh, .methodLink RX1 104 yX1_weigh, .selects RX1 yX1_holdMore yX1_holdMore, .instanceMethod yX1_holdMore, .methodLink RX1 107 yX1_holdMore, .selects RX1 yX1_tell yX1_tell, .instanceMethod yX1_tell, .methodLink RX1 110 yX1_tell, .selects RX1 yX1_goHome yX1_goHome, .instanceMethod yX1_goHome, .methodLink RX1 113 yX1_goHome, .fieldLink RX1 64 "NotEnded$Course" "hour" "I"] ++ (w_s_weigh1x ++ (w_s_holdMore1x ++ (w_s_tell1x ++ (w_s_goHome1x ++ (wsX10))))))
theorem gw_s_go1x : (w_s_go1x).all goodWord = true := kGc rfl (kGa (by decide +kernel) (kGa gw_s_weigh1x (kGa gw_s_holdMore1x (kGa gw_s_tell1x (kGa gw_s_goHome1x gw_wsX10)))))
def w_s_every2x : List Cond := .code yX2_everybody cX2_everybody 1 (some .int) :: ([.fieldLink RX2 31 "NotEnded$Folk" "size" "I"] ++ (wsX20))
theorem gw_s_every2x : (w_s_every2x).all goodWord = true := kGc rfl (kGa (by decide +kernel) gw_wsX20)
def w_s_begin1x : List Cond := .code yX1_begin cX1_begin 6 none :: ([.fieldLink RX1 49 "NotEnded$Course" "law" "LNotEnded$Rule;", .fieldLink RX1 53 "NotEnded$Course" "drawn" "J", .fieldLink RX1 67 "NotEnded$Course" "folk" "LNotEnded$Folk;", .initialized RX2, .selects RX2 yX2_everybody yX2_everybody, .instanceMethod yX2_everybody, .methodLink RX1 75 yX2_everybody, .fieldLink RX1 57 "NotEnded$Course" "present" "I", .selects RX2 yX2_sentOnes yX2_sentOnes, .instanceMethod yX2_sentOnes, .methodLink RX1 81 yX2_sentOnes, .fieldLink RX1 61 "NotEnded$Course" "moved" "I", .fieldLink RX1 64 "NotEnded$Course" "hour" "I", .selects RX2 yX2_size yX2_size, .instanceMethod yX2_size, .methodLink RX1 84 yX2_size, .fieldLink RX1 9 "NotEnded$Course" "held" "[I", .fieldLink RX1 15 "NotEnded$Course" "putIn" "[I", .fieldLink RX1 18 "NotEnded$Course" "places" "[I", .fieldLink RX1 21 "NotEnded$Course" "tellsSince" "[I"] ++ (wsX10 ++ (w_s_every2x ++ (w_s_sent2n ++ (w_s_size2 ++ (wsX20))))))
theorem gw_s_begin1x : (w_s_begin1x).all goodWord = true := kGc rfl (kGa (by decide +kernel) (kGa gw_wsX10 (kGa gw_s_every2x (kGa gw_s_sent2n (kGa gw_s_size2 gw_wsX20)))))
def w_s_heldBy1n : List Cond := .code yX1_heldBy cX1_heldBy 2 (some .int) :: ([.fieldLink RX1 67 "NotEnded$Course" "folk" "LNotEnded$Folk;", .initialized RX2, .selects RX2 yX2_has yX2_has, .instanceMethod yX2_has, .methodLink RX1 94 yX2_has, .fieldLink RX1 9 "NotEnded$Course" "held" "[I"] ++ (wsX10 ++ (w_s_has2x)))
theorem gw_s_heldBy1n : (w_s_heldBy1n).all goodWord = true := kGc rfl (kGa (by decide +kernel) (kGa gw_wsX10 gw_s_has2x))
def w_s_placeOf1n : List Cond := .code yX1_placeOf cX1_placeOf 2 (some .int) :: ([.fieldLink RX1 67 "NotEnded$Course" "folk" "LNotEnded$Folk;", .initialized RX2, .selects RX2 yX2_has yX2_has, .instanceMethod yX2_has, .methodLink RX1 94 yX2_has, .fieldLink RX1 18 "NotEnded$Course" "places" "[I"] ++ (wsX10 ++ (w_s_has2x)))
theorem gw_s_placeOf1n : (w_s_placeOf1n).all goodWord = true := kGc rfl (kGa (by decide +kernel) (kGa gw_wsX10 gw_s_has2x))
def w_s_tellsSince1n : List Cond := .code yX1_tellsSince cX1_tellsSince 2 (some .int) :: ([.fieldLink RX1 67 "NotEnded$Course" "folk" "LNotEnded$Folk;", .initialized RX2, .selects RX2 yX2_has yX2_has, .instanceMethod yX2_has, .methodLink RX1 94 yX2_has, .fieldLink RX1 21 "NotEnded$Course" "tellsSince" "[I"] ++ (wsX10 ++ (w_s_has2x)))
theorem gw_s_tellsSince1n : (w_s_tellsSince1n).all goodWord = true := kGc rfl (kGa (by decide +kernel) (kGa gw_wsX10 gw_s_has2x))
def w_s_worthNow1x : List Cond := .code yX1_worthNow cX1_worthNow 3 (some .int) :: ([.initialized RX1, .selects RX1 yX1_tallyHouses yX1_tallyHouses, .instanceMethod yX1_tallyHouses, .methodLink RX1 120 yX1_tallyHouses, .selects RX1 yX1_setLettersOfHour yX1_setLettersOfHour, .instanceMethod yX1_setLettersOfHour, .methodLink RX1 123 yX1_setLettersOfHour, .selects RX1 yX1_setLettersOf yX1_setLettersOf, .instanceMethod yX1_setLettersOf, .methodLink RX1 126 yX1_setLettersOf, .fieldLink RX1 71 "NotEnded$Course" "reckoner" "LNotEnded$Reckoner;", .fieldLink RX1 49 "NotEnded$Course" "law" "LNotEnded$Rule;", .initialized RX5, .selects RX5 yX5_worthOf yX5_worthOf, .instanceMethod yX5_worthOf, .methodLink RX1 130 yX5_worthOf] ++ (w_s_tally1x ++ (w_s_lettersHour1x ++ (w_s_letters1x ++ (wsX10 ++ (w_s_worthOf5x))))))
theorem gw_s_worthNow1x : (w_s_worthNow1x).all goodWord = true := kGc rfl (kGa (by decide +kernel) (kGa gw_s_tally1x (kGa gw_s_lettersHour1x (kGa gw_s_letters1x (kGa gw_wsX10 gw_s_worthOf5x)))))
end
section
def w_s_run9 : List Cond := .code yX9_run cX9_run 8 (some .int) :: ([.fieldLink RX9 37 "NotEnded" "laws" "LNotEnded$Shelf;", .initialized RX7, .selects RX7 yX7_at yX7_at, .instanceMethod yX7_at, .methodLink RX9 138 yX7_at, .initialized RX9, .static yX9_isIn, .methodLink RX9 117 yX9_isIn, .fieldLink RX9 47 "NotEnded" "folk" "LNotEnded$Folk;", .initialized RX2, .selects RX2 yX2_has yX2_has, .instanceMethod yX2_has, .methodLink RX9 128 yX2_has, .fieldLink RX9 56 "NotEnded" "course" "LNotEnded$Course;", .initialized RX1, .selects RX1 yX1_begin yX1_begin, .instanceMethod yX1_begin, .methodLink RX9 145 yX1_begin, .selects RX1 yX1_go yX1_go, .instanceMethod yX1_go, .methodLink RX9 153 yX1_go, .selects RX1 yX1_tellsSince yX1_tellsSince, .instanceMethod yX1_tellsSince, .methodLink RX9 162 yX1_tellsSince, .selects RX1 yX1_placeOf yX1_placeOf, .instanceMethod yX1_placeOf, .methodLink RX9 159 yX1_placeOf, .selects RX1 yX1_heldBy yX1_heldBy, .instanceMethod yX1_heldBy, .methodLink RX9 156 yX1_heldBy] ++ (wsX90 ++ (w_s_at7y ++ (w_s_isIn9 ++ (w_s_has2x ++ (w_s_begin1x ++ (w_s_go1x ++ (w_s_tellsSince1n ++ (w_s_placeOf1n ++ (w_s_heldBy1n))))))))))
theorem gw_s_run9 : (w_s_run9).all goodWord = true := kGc rfl (kGa (by decide +kernel) (kGa gw_wsX90 (kGa gw_s_at7y (kGa gw_s_isIn9 (kGa gw_s_has2x (kGa gw_s_begin1x (kGa gw_s_go1x (kGa gw_s_tellsSince1n (kGa gw_s_placeOf1n gw_s_heldBy1n)))))))))
theorem hd_X9_run : yX9_run.cls ≠ "java/lang/invoke/MethodHandle" ∧ yX9_run.cls ≠ "java/lang/invoke/VarHandle" ∧ (parseMethodDescriptor yX9_run.desc).map (fun d => d.parameters.length) = some 5 := by decide +kernel
set_option maxHeartbeats 4000000 in
set_option maxRecDepth 100000 in
theorem s_run9 (l : Launch) (dC : Nat → ClassId) (dI : Nat → Nat → Nat) (jX : Nat) (jT : Nat) (jR : Nat) (jL : Nat) (jU : Nat) (hN : Nat) (jA : Nat) (sd : Nat) (jC : Nat) (d2 : Nat) (d3 : Nat) (d4 : Nat) (d5 : Nat) (d6 : Nat) (d7 : Nat) (d8 : Nat) (d9 : Nat) (d10 : Nat) (d11 : Nat) (d12 : Nat) (d13 : Nat) (w2 : ClassId) (w3 : ClassId) (w4 : ClassId) (w5 : ClassId) (w6 : ClassId) (w7 : ClassId) (w8 : ClassId) (w9 : ClassId) (w10 : ClassId) (w11 : ClassId) (w12 : ClassId) (w13 : ClassId) (e2 : Nat → Int32) (e3 : Nat → Int32) (e4 : Nat → Int32) (e5 : Nat → Int32) (e6 : Nat → Int32) (e7 : Nat → Int32) (e8 : Nat → Int32) (e9 : Nat → Int32) (e10 : Nat → Int32) (e11 : Nat → Int32) (e12 : Nat → Int32) (e13 : Nat → Int64) (dr : Int64) (pr : Int32) (mo : Int32) (ho : Int32) (hF : Nat) (f0 : Nat) (f1 : Nat) (f2 : Nat) (f3 : Nat) (f4 : Nat) (z0 : ClassId) (z1 : ClassId) (z2 : ClassId) (z3 : ClassId) (z4 : ClassId) (g0 : Nat → Int32) (g1 : Nat → Int32) (g2 : Nat → Int32) (g3 : Nat → Int32) (g4 : Nat → Int32) (ks : Nat) (kw : Nat) (hks : ks ≤ 10) (hkw : kw ≤ 4) (sv : Nat) (hsv : sv < 1024) (jK : Nat) (k0 : Nat) (k1 : Nat) (cK : ClassId) (cO : ClassId) (l0 : Nat → Int32) (l1 : Nat → Int32) (o0 : Nat) (o1 : Nat) (o2 : Nat) (o3 : Nat) (o4 : Nat) (y0 : ClassId) (y1 : ClassId) (y2 : ClassId) (y3 : ClassId) (y4 : ClassId) (q0 : Nat → Int32) (q1 : Nat → Int32) (q2 : Nat → Int32) (q3 : Nat → Int32) (q4 : Nat → Int32) (kn : Nat) (hkn : kn ≤ 20) (i0 : Nat) (i1 : Nat) (i2 : Nat) (i3 : Nat) (x0 : ClassId) (x1 : ClassId) (x2 : ClassId) (x3 : ClassId) (t0 : Nat → Int32) (t1 : Nat → Int32) (t2 : Nat → Int32) (t3 : Nat → Int32) (ka : Nat) (hka : ka ≤ 6) (lw : Value) (rL : Nat) (cL : ClassId) (gL : Nat → Option Nat) (kl : Nat) (hkl : kl ≤ 6) (yL : Nat → List kTr) (rU : Nat) (cU : ClassId) (gU : Nat → Option Nat) (ku : Nat) (hku : ku ≤ 8) (yU : Nat → List kTr) (cD : ClassId) (gD : Nat → Int32) (hOk0 : kOk ks (kS0 g0 g1 g2 0)) (p0 : Int32) (p1 : Int64) (p2 : Int32) (p3 : Int32) (p4 : Int32) (sz : Nat) : Met l yX9_run w_s_run9 ({ frames := 11, cells := 0, slots := 0, locals := 660 }) (kW dC dI [.ref jX, .int p0, .long p1, .int p2, .int p3, .int p4] [(jX, .inr (9, [.ref jT, .ref jR, .ref jK, .ref jL, .ref jU, .ref hF, .ref jC, .ref hN, .ref jA, .ref sd])), (jC, .inr (1, [.ref hF, .ref jK, .ref d2, .ref d3, .ref d4, .ref d5, .ref d6, .ref d7, .ref d8, .ref d9, .ref d10, .ref d11, .ref d12, .ref d13, lw, .long dr, .int pr, .int mo, .int ho])), (d2, .inl (w2, 10, .inl e2)), (d3, .inl (w3, 10, .inl e3)), (d4, .inl (w4, 10, .inl e4)), (d5, .inl (w5, 10, .inl e5)), (d6, .inl (w6, 10, .inl e6)), (d7, .inl (w7, 10, .inl e7)), (d8, .inl (w8, 10, .inl e8)), (d9, .inl (w9, 10, .inl e9)), (d10, .inl (w10, 4, .inl e10)), (d11, .inl (w11, 4, .inl e11)), (d12, .inl (w12, 4, .inl e12)), (d13, .inl (w13, 9, .inr (.inl e13))), (hF, .inr (2, [.ref f0, .ref f1, .ref f2, .ref f3, .ref f4, .int (nI (sv)), .int (nI (ks)), .int (nI (kw))])), (f0, .inl (z0, 10, .inl g0)), (f1, .inl (z1, 10, .inl g1)), (f2, .inl (z2, 10, .inl g2)), (f3, .inl (z3, 10, .inl g3)), (f4, .inl (z4, 4, .inl g4)), (jK, .inr (5, [.ref k0, .ref k1])), (k0, .inl (cK, 8, .inl l0)), (k1, .inl (cO, 32, .inl l1)), (hN, .inr (3, [.ref o0, .ref o1, .ref o2, .ref o3, .ref o4, .int (nI (kn))])), (o0, .inl (y0, 20, .inl q0)), (o1, .inl (y1, 20, .inl q1)), (o2, .inl (y2, 20, .inl q2)), (o3, .inl (y3, 20, .inl q3)), (o4, .inl (y4, 20, .inl q4)), (jA, .inr (0, [.ref i0, .ref i1, .ref i2, .ref i3, .int (nI (ka))])), (i0, .inl (x0, 6, .inl t0)), (i1, .inl (x1, 6, .inl t1)), (i2, .inl (x2, 6, .inl t2)), (i3, .inl (x3, 6, .inl t3)), (jL, .inr (7, [.ref rL, .int (nI (kl))])), (rL, .inl (cL, 6, .inr (.inr (.inr (.inr gL))))), (jU, .inr (7, [.ref rU, .int (nI (ku))])), (rU, .inl (cU, 8, .inr (.inr (.inr (.inr gU))))), (sd, .inl (cD, 10, .inl gD))] [(w2, .int), (w3, .int), (w4, .int), (w5, .int), (w6, .int), (w7, .int), (w8, .int), (w9, .int), (w10, .int), (w11, .int), (w12, .int), (w13, .long), (z0, .int), (z1, .int), (z2, .int), (z3, .int), (z4, .int), (cK, .int), (cO, .int), (y0, .int), (y1, .int), (y2, .int), (y3, .int), (y4, .int), (x0, .int), (x1, .int), (x2, .int), (x3, .int), (cL, .object RX6), (cU, .object RX6), (cD, .int)] (kPub dC dI kl gL yL ku gU yU (va_A [(jX, .inr (9, [.ref jT, .ref jR, .ref jK, .ref jL, .ref jU, .ref hF, .ref jC, .ref hN, .ref jA, .ref sd])), (jC, .inr (1, [.ref hF, .ref jK, .ref d2, .ref d3, .ref d4, .ref d5, .ref d6, .ref d7, .ref d8, .ref d9, .ref d10, .ref d11, .ref d12, .ref d13, lw, .long dr, .int pr, .int mo, .int ho])), (d2, .inl (w2, 10, .inl e2)), (d3, .inl (w3, 10, .inl e3)), (d4, .inl (w4, 10, .inl e4)), (d5, .inl (w5, 10, .inl e5)), (d6, .inl (w6, 10, .inl e6)), (d7, .inl (w7, 10, .inl e7)), (d8, .inl (w8, 10, .inl e8)), (d9, .inl (w9, 10, .inl e9)), (d10, .inl (w10, 4, .inl e10)), (d11, .inl (w11, 4, .inl e11)), (d12, .inl (w12, 4, .inl e12)), (d13, .inl (w13, 9, .inr (.inl e13))), (hF, .inr (2, [.ref f0, .ref f1, .ref f2, .ref f3, .ref f4, .int (nI (sv)), .int (nI (ks)), .int (nI (kw))])), (f0, .inl (z0, 10, .inl g0)), (f1, .inl (z1, 10, .inl g1)), (f2, .inl (z2, 10, .inl g2)), (f3, .inl (z3, 10, .inl g3)), (f4, .inl (z4, 4, .inl g4)), (jK, .inr (5, [.ref k0, .ref k1])), (k0, .inl (cK, 8, .inl l0)), (k1, .inl (cO, 32, .inl l1)), (hN, .inr (3, [.ref o0, .ref o1, .ref o2, .ref o3, .ref o4, .int (nI (kn))])), (o0, .inl (y0, 20, .inl q0)), (o1, .inl (y1, 20, .inl q1)), (o2, .inl (y2, 20, .inl q2)), (o3, .inl (y3, 20, .inl q3)), (o4, .inl (y4, 20, .inl q4)), (jA, .inr (0, [.ref i0, .ref i1, .ref i2, .ref i3, .int (nI (ka))])), (i0, .inl (x0, 6, .inl t0)), (i1, .inl (x1, 6, .inl t1)), (i2, .inl (x2, 6, .inl t2)), (i3, .inl (x3, 6, .inl t3)), (jL, .inr (7, [.ref rL, .int (nI (kl))])), (rL, .inl (cL, 6, .inr (.inr (.inr (.inr gL))))), (jU, .inr (7, [.ref rU, .int (nI (ku))])), (rU, .inl (cU, 8, .inr (.inr (.inr (.inr gU))))), (sd, .inl (cD, 10, .inl gD))] sz)) sz) (va_Qi (fun (r : Int32) (u : (Nat → Int32) × (Nat → Int32) × (Nat → Int32) × (Nat → Int32) × (Nat → Int32) × (Nat → Int32) × (Nat → Int32) × (Nat → Int32) × (Nat → Int32) × (Nat → Int32) × (Nat → Int32) × (Nat → Int64) × (Nat → Int32) × (Nat → Int32) × Int32 × Int32 × Int32 × Int64 × Value) => match u with | (E2, E3, E4, E5, E6, E7, E8, E9, E10, E11, E12, E13, L0, L1, Pr, Mo, Ho, Dr, Lw) => r = kRunA kl ks kw g0 g1 g2 g3 g4 sv yL p0 p1 p2 p3 p4) (fun (u : (Nat → Int32) × (Nat → Int32) × (Nat → Int32) × (Nat → Int32) × (Nat → Int32) × (Nat → Int32) × (Nat → Int32) × (Nat → Int32) × (Nat → Int32) × (Nat → Int32) × (Nat → Int32) × (Nat → Int64) × (Nat → Int32) × (Nat → Int32) × Int32 × Int32 × Int32 × Int64 × Value) => match u with | (E2, E3, E4, E5, E6, E7, E8, E9, E10, E11, E12, E13, L0, L1, Pr, Mo, Ho, Dr, Lw) => fun t : State => kB dC dI [(jX, .inr (9, [.ref jT, .ref jR, .ref jK, .ref jL, .ref jU, .ref hF, .ref jC, .ref hN, .ref jA, .ref sd])), (jC, .inr (1, [.ref hF, .ref jK, .ref d2, .ref d3, .ref d4, .ref d5, .ref d6, .ref d7, .ref d8, .ref d9, .ref d10, .ref d11, .ref d12, .ref d13, Lw, .long Dr, .int Pr, .int Mo, .int Ho])), (d2, .inl (w2, 10, .inl E2)), (d3, .inl (w3, 10, .inl E3)), (d4, .inl (w4, 10, .inl E4)), (d5, .inl (w5, 10, .inl E5)), (d6, .inl (w6, 10, .inl E6)), (d7, .inl (w7, 10, .inl E7)), (d8, .inl (w8, 10, .inl E8)), (d9, .inl (w9, 10, .inl E9)), (d10, .inl (w10, 4, .inl E10)), (d11, .inl (w11, 4, .inl E11)), (d12, .inl (w12, 4, .inl E12)), (d13, .inl (w13, 9, .inr (.inl E13))), (hF, .inr (2, [.ref f0, .ref f1, .ref f2, .ref f3, .ref f4, .int (nI (sv)), .int (nI (ks)), .int (nI (kw))])), (f0, .inl (z0, 10, .inl g0)), (f1, .inl (z1, 10, .inl g1)), (f2, .inl (z2, 10, .inl g2)), (f3, .inl (z3, 10, .inl g3)), (f4, .inl (z4, 4, .inl g4)), (jK, .inr (5, [.ref k0, .ref k1])), (k0, .inl (cK, 8, .inl L0)), (k1, .inl (cO, 32, .inl L1)), (hN, .inr (3, [.ref o0, .ref o1, .ref o2, .ref o3, .ref o4, .int (nI (kn))])), (o0, .inl (y0, 20, .inl q0)), (o1, .inl (y1, 20, .inl q1)), (o2, .inl (y2, 20, .inl q2)), (o3, .inl (y3, 20, .inl q3)), (o4, .inl (y4, 20, .inl q4)), (jA, .inr (0, [.ref i0, .ref i1, .ref i2, .ref i3, .int (nI (ka))])), (i0, .inl (x0, 6, .inl t0)), (i1, .inl (x1, 6, .inl t1)), (i2, .inl (x2, 6, .inl t2)), (i3, .inl (x3, 6, .inl t3)), (jL, .inr (7, [.ref rL, .int (nI (kl))])), (rL, .inl (cL, 6, .inr (.inr (.inr (.inr gL))))), (jU, .inr (7, [.ref rU, .int (nI (ku))])), (rU, .inl (cU, 8, .inr (.inr (.inr (.inr gU))))), (sd, .inl (cD, 10, .inl gD))] [(w2, .int), (w3, .int), (w4, .int), (w5, .int), (w6, .int), (w7, .int), (w8, .int), (w9, .int), (w10, .int), (w11, .int), (w12, .int), (w13, .long), (z0, .int), (z1, .int), (z2, .int), (z3, .int), (z4, .int), (cK, .int), (cO, .int), (y0, .int), (y1, .int), (y2, .int), (y3, .int), (y4, .int), (x0, .int), (x1, .int), (x2, .int), (x3, .int), (cL, .object RX6), (cU, .object RX6), (cD, .int)] (va_A [(jX, .inr (9, [.ref jT, .ref jR, .ref jK, .ref jL, .ref jU, .ref hF, .ref jC, .ref hN, .ref jA, .ref sd])), (jC, .inr (1, [.ref hF, .ref jK, .ref d2, .ref d3, .ref d4, .ref d5, .ref d6, .ref d7, .ref d8, .ref d9, .ref d10, .ref d11, .ref d12, .ref d13, lw, .long dr, .int pr, .int mo, .int ho])), (d2, .inl (w2, 10, .inl e2)), (d3, .inl (w3, 10, .inl e3)), (d4, .inl (w4, 10, .inl e4)), (d5, .inl (w5, 10, .inl e5)), (d6, .inl (w6, 10, .inl e6)), (d7, .inl (w7, 10, .inl e7)), (d8, .inl (w8, 10, .inl e8)), (d9, .inl (w9, 10, .inl e9)), (d10, .inl (w10, 4, .inl e10)), (d11, .inl (w11, 4, .inl e11)), (d12, .inl (w12, 4, .inl e12)), (d13, .inl (w13, 9, .inr (.inl e13))), (hF, .inr (2, [.ref f0, .ref f1, .ref f2, .ref f3, .ref f4, .int (nI (sv)), .int (nI (ks)), .int (nI (kw))])), (f0, .inl (z0, 10, .inl g0)), (f1, .inl (z1, 10, .inl g1)), (f2, .inl (z2, 10, .inl g2)), (f3, .inl (z3, 10, .inl g3)), (f4, .inl (z4, 4, .inl g4)), (jK, .inr (5, [.ref k0, .ref k1])), (k0, .inl (cK, 8, .inl l0)), (k1, .inl (cO, 32, .inl l1)), (hN, .inr (3, [.ref o0, .ref o1, .ref o2, .ref o3, .ref o4, .int (nI (kn))])), (o0, .inl (y0, 20, .inl q0)), (o1, .inl (y1, 20, .inl q1)), (o2, .inl (y2, 20, .inl q2)), (o3, .inl (y3, 20, .inl q3)), (o4, .inl (y4, 20, .inl q4)), (jA, .inr (0, [.ref i0, .ref i1, .ref i2, .ref i3, .int (nI (ka))])), (i0, .inl (x0, 6, .inl t0)), (i1, .inl (x1, 6, .inl t1)), (i2, .inl (x2, 6, .inl t2)), (i3, .inl (x3, 6, .inl t3)), (jL, .inr (7, [.ref rL, .int (nI (kl))])), (rL, .inl (cL, 6, .inr (.inr (.inr (.inr gL))))), (jU, .inr (7, [.ref rU, .int (nI (ku))])), (rU, .inl (cU, 8, .inr (.inr (.inr (.inr gU))))), (sd, .inl (cD, 10, .inl gD))] sz) t) (va_A [(jX, .inr (9, [.ref jT, .ref jR, .ref jK, .ref jL, .ref jU, .ref hF, .ref jC, .ref hN, .ref jA, .ref sd])), (jC, .inr (1, [.ref hF, .ref jK, .ref d2, .ref d3, .ref d4, .ref d5, .ref d6, .ref d7, .ref d8, .ref d9, .ref d10, .ref d11, .ref d12, .ref d13, lw, .long dr, .int pr, .int mo, .int ho])), (d2, .inl (w2, 10, .inl e2)), (d3, .inl (w3, 10, .inl e3)), (d4, .inl (w4, 10, .inl e4)), (d5, .inl (w5, 10, .inl e5)), (d6, .inl (w6, 10, .inl e6)), (d7, .inl (w7, 10, .inl e7)), (d8, .inl (w8, 10, .inl e8)), (d9, .inl (w9, 10, .inl e9)), (d10, .inl (w10, 4, .inl e10)), (d11, .inl (w11, 4, .inl e11)), (d12, .inl (w12, 4, .inl e12)), (d13, .inl (w13, 9, .inr (.inl e13))), (hF, .inr (2, [.ref f0, .ref f1, .ref f2, .ref f3, .ref f4, .int (nI (sv)), .int (nI (ks)), .int (nI (kw))])), (f0, .inl (z0, 10, .inl g0)), (f1, .inl (z1, 10, .inl g1)), (f2, .inl (z2, 10, .inl g2)), (f3, .inl (z3, 10, .inl g3)), (f4, .inl (z4, 4, .inl g4)), (jK, .inr (5, [.ref k0, .ref k1])), (k0, .inl (cK, 8, .inl l0)), (k1, .inl (cO, 32, .inl l1)), (hN, .inr (3, [.ref o0, .ref o1, .ref o2, .ref o3, .ref o4, .int (nI (kn))])), (o0, .inl (y0, 20, .inl q0)), (o1, .inl (y1, 20, .inl q1)), (o2, .inl (y2, 20, .inl q2)), (o3, .inl (y3, 20, .inl q3)), (o4, .inl (y4, 20, .inl q4)), (jA, .inr (0, [.ref i0, .ref i1, .ref i2, .ref i3, .int (nI (ka))])), (i0, .inl (x0, 6, .inl t0)), (i1, .inl (x1, 6, .inl t1)), (i2, .inl (x2, 6, .inl t2)), (i3, .inl (x3, 6, .inl t3)), (jL, .inr (7, [.ref rL, .int (nI (kl))])), (rL, .inl (cL, 6, .inr (.inr (.inr (.inr gL))))), (jU, .inr (7, [.ref rU, .int (nI (ku))])), (rU, .inl (cU, 8, .inr (.inr (.inr (.inr gU))))), (sd, .inl (cD, 10, .inl gD))] sz)) 0 0 (va_A [(jX, .inr (9, [.ref jT, .ref jR, .ref jK, .ref jL, .ref jU, .ref hF, .ref jC, .ref hN, .ref jA, .ref sd])), (jC, .inr (1, [.ref hF, .ref jK, .ref d2, .ref d3, .ref d4, .ref d5, .ref d6, .ref d7, .ref d8, .ref d9, .ref d10, .ref d11, .ref d12, .ref d13, lw, .long dr, .int pr, .int mo, .int ho])), (d2, .inl (w2, 10, .inl e2)), (d3, .inl (w3, 10, .inl e3)), (d4, .inl (w4, 10, .inl e4)), (d5, .inl (w5, 10, .inl e5)), (d6, .inl (w6, 10, .inl e6)), (d7, .inl (w7, 10, .inl e7)), (d8, .inl (w8, 10, .inl e8)), (d9, .inl (w9, 10, .inl e9)), (d10, .inl (w10, 4, .inl e10)), (d11, .inl (w11, 4, .inl e11)), (d12, .inl (w12, 4, .inl e12)), (d13, .inl (w13, 9, .inr (.inl e13))), (hF, .inr (2, [.ref f0, .ref f1, .ref f2, .ref f3, .ref f4, .int (nI (sv)), .int (nI (ks)), .int (nI (kw))])), (f0, .inl (z0, 10, .inl g0)), (f1, .inl (z1, 10, .inl g1)), (f2, .inl (z2, 10, .inl g2)), (f3, .inl (z3, 10, .inl g3)), (f4, .inl (z4, 4, .inl g4)), (jK, .inr (5, [.ref k0, .ref k1])), (k0, .inl (cK, 8, .inl l0)), (k1, .inl (cO, 32, .inl l1)), (hN, .inr (3, [.ref o0, .ref o1, .ref o2, .ref o3, .ref o4, .int (nI (kn))])), (o0, .inl (y0, 20, .inl q0)), (o1, .inl (y1, 20, .inl q1)), (o2, .inl (y2, 20, .inl q2)), (o3, .inl (y3, 20, .inl q3)), (o4, .inl (y4, 20, .inl q4)), (jA, .inr (0, [.ref i0, .ref i1, .ref i2, .ref i3, .int (nI (ka))])), (i0, .inl (x0, 6, .inl t0)), (i1, .inl (x1, 6, .inl t1)), (i2, .inl (x2, 6, .inl t2)), (i3, .inl (x3, 6, .inl t3)), (jL, .inr (7, [.ref rL, .int (nI (kl))])), (rL, .inl (cL, 6, .inr (.inr (.inr (.inr gL))))), (jU, .inr (7, [.ref rU, .int (nI (ku))])), (rU, .inl (cU, 8, .inr (.inr (.inr (.inr gU))))), (sd, .inl (cD, 10, .inl gD))] sz) := by
  sorry
end
section
def w_s_word9 : List Cond := .code yX9_word cX9_word 2 (some .int) :: ([.initialized RX9, .static yX9_isIn, .methodLink RX9 117 yX9_isIn, .fieldLink RX9 47 "NotEnded" "folk" "LNotEnded$Folk;", .initialized RX2, .selects RX2 yX2_addWord yX2_addWord, .instanceMethod yX2_addWord, .methodLink RX9 135 yX2_addWord] ++ (w_s_isIn9 ++ (wsX90 ++ (w_s_addWord2))))
theorem gw_s_word9 : (w_s_word9).all goodWord = true := kGc rfl (kGa (by decide +kernel) (kGa gw_s_isIn9 (kGa gw_wsX90 gw_s_addWord2)))
theorem hd_X9_word : yX9_word.cls ≠ "java/lang/invoke/MethodHandle" ∧ yX9_word.cls ≠ "java/lang/invoke/VarHandle" ∧ (parseMethodDescriptor yX9_word.desc).map (fun d => d.parameters.length) = some 1 := by decide +kernel
set_option maxHeartbeats 4000000 in
set_option maxRecDepth 100000 in
theorem s_word9 (l : Launch) (dC : Nat → ClassId) (dI : Nat → Nat → Nat) (jX : Nat) (jT : Nat) (jR : Nat) (jL : Nat) (jU : Nat) (hN : Nat) (jA : Nat) (sd : Nat) (hF : Nat) (jC : Nat) (jK : Nat) (f0 : Nat) (f1 : Nat) (f2 : Nat) (f3 : Nat) (f4 : Nat) (z0 : ClassId) (z1 : ClassId) (z2 : ClassId) (z3 : ClassId) (z4 : ClassId) (g0 : Nat → Int32) (g1 : Nat → Int32) (g2 : Nat → Int32) (g3 : Nat → Int32) (g4 : Nat → Int32) (ks : Nat) (kw : Nat) (hks : ks ≤ 10) (hkw : kw ≤ 4) (sv : Nat) (hsv : sv < 1024) (p0 : Int32) (sz : Nat) : Met l yX9_word w_s_word9 ({ frames := 3, cells := 0, slots := 0, locals := 180 }) (kW dC dI [.ref jX, .int p0] [(jX, .inr (9, [.ref jT, .ref jR, .ref jK, .ref jL, .ref jU, .ref hF, .ref jC, .ref hN, .ref jA, .ref sd])), (hF, .inr (2, [.ref f0, .ref f1, .ref f2, .ref f3, .ref f4, .int (nI (sv)), .int (nI (ks)), .int (nI (kw))])), (f0, .inl (z0, 10, .inl g0)), (f1, .inl (z1, 10, .inl g1)), (f2, .inl (z2, 10, .inl g2)), (f3, .inl (z3, 10, .inl g3)), (f4, .inl (z4, 4, .inl g4))] [(z0, .int), (z1, .int), (z2, .int), (z3, .int), (z4, .int)] kT sz) (va_Qi (fun (r : Int32) (u : (Nat → Int32) × Nat) => match u with | (n4, kw1) => (r = kWordA p0 kw ∧ kw1 = kWordN p0 kw ∧ n4 = kWdF p0 kw g4)) (fun (u : (Nat → Int32) × Nat) => match u with | (n4, kw1) => fun t : State => kB dC dI [(jX, .inr (9, [.ref jT, .ref jR, .ref jK, .ref jL, .ref jU, .ref hF, .ref jC, .ref hN, .ref jA, .ref sd])), (hF, .inr (2, [.ref f0, .ref f1, .ref f2, .ref f3, .ref f4, .int (nI (sv)), .int (nI (ks)), .int (nI (kw1))])), (f0, .inl (z0, 10, .inl g0)), (f1, .inl (z1, 10, .inl g1)), (f2, .inl (z2, 10, .inl g2)), (f3, .inl (z3, 10, .inl g3)), (f4, .inl (z4, 4, .inl n4))] [(z0, .int), (z1, .int), (z2, .int), (z3, .int), (z4, .int)] (va_A [(jX, .inr (9, [.ref jT, .ref jR, .ref jK, .ref jL, .ref jU, .ref hF, .ref jC, .ref hN, .ref jA, .ref sd])), (hF, .inr (2, [.ref f0, .ref f1, .ref f2, .ref f3, .ref f4, .int (nI (sv)), .int (nI (ks)), .int (nI (kw))])), (f0, .inl (z0, 10, .inl g0)), (f1, .inl (z1, 10, .inl g1)), (f2, .inl (z2, 10, .inl g2)), (f3, .inl (z3, 10, .inl g3)), (f4, .inl (z4, 4, .inl g4))] sz) t) (va_A [(jX, .inr (9, [.ref jT, .ref jR, .ref jK, .ref jL, .ref jU, .ref hF, .ref jC, .ref hN, .ref jA, .ref sd])), (hF, .inr (2, [.ref f0, .ref f1, .ref f2, .ref f3, .ref f4, .int (nI (sv)), .int (nI (ks)), .int (nI (kw))])), (f0, .inl (z0, 10, .inl g0)), (f1, .inl (z1, 10, .inl g1)), (f2, .inl (z2, 10, .inl g2)), (f3, .inl (z3, 10, .inl g3)), (f4, .inl (z4, 4, .inl g4))] sz)) 0 0 (va_A [(jX, .inr (9, [.ref jT, .ref jR, .ref jK, .ref jL, .ref jU, .ref hF, .ref jC, .ref hN, .ref jA, .ref sd])), (hF, .inr (2, [.ref f0, .ref f1, .ref f2, .ref f3, .ref f4, .int (nI (sv)), .int (nI (ks)), .int (nI (kw))])), (f0, .inl (z0, 10, .inl g0)), (f1, .inl (z1, 10, .inl g1)), (f2, .inl (z2, 10, .inl g2)), (f3, .inl (z3, 10, .inl g3)), (f4, .inl (z4, 4, .inl g4))] sz) := by
  sorry
end
section
section VXA
/-- where a method has thrown q: the class by its name, the cell, what was written, the world -/
def vx_T (XC : String → State → State → Prop) (st : State) (q : Addr) (t : State) (mc ms : Nat) (free : Addr → Prop) : Prop :=
  ∃ (E : String) (ce : Cell) (L : List Loc), XC E st t ∧ t.heap[q]? = some ce ∧ ce.vm = .none ∧ st.vm.findClass E = some ce.cls ∧ st.WarmedH t.vm ∧ st.sameButNew ({ t with vm := st.vm } : State) L mc ms ∧ ∀ z ∈ L, free z.base
def vx_Q (Qc : Array Value → State → Outcome → State → Prop) (XC : String → State → State → Prop) (mc ms : Nat) (free : Addr → Prop) : Array Value → State → Outcome → State → Prop := fun a st o t =>
  (Qc a st o t ∧ ∃ L, FrameEnd st o t L mc ms ∧ ∀ q ∈ L, free q.base) ∨ ∃ q, o = .threw q ∧ vx_T XC st q t mc ms free
/-- a callee that returns or throws -/
def vx_Met (l : Launch) (y : MethodName) (ws : List Cond) (rm : Room) (Pc : Array Value → State → Prop) (Qc : Array Value → State → Outcome → State → Prop) (XC : String → State → State → Prop) (mc ms : Nat) (free : Addr → Prop) : Prop :=
  MetFree l y (headSpec ws rm) Pc (fun _ _ _ _ _ => True) (vx_Q Qc XC mc ms free)
def vx_Post (XC : String → State → State → Prop) (mc ms : Nat) (free : Addr → Prop) : Pt → Array Value → Addr → Pt → Prop := fun A a q B =>
  ∃ (g : JFrame) (mk : MethodId) (t : State) (L : List Loc) (E : String) (ce : Cell), B.U.heap = t.heap ∧ B.U.vm = t.vm ∧ XC E (A.U.calling g mk a) t ∧ t.heap[q]? = some ce ∧ ce.vm = .none ∧ A.U.vm.findClass E = some ce.cls ∧ B.locs = A.locs ++ L ∧ (∀ z ∈ L, free z.base) ∧ B.cells = A.cells + mc ∧ B.slots = A.slots + ms
def vx_Back (l : Launch) (R : Room) (p : Program) (e : Env) (below : List Frame) (s : State) (sargs : Array Value) (y : MethodName) (len W9 : Nat)
    (Pre : Pt → Array Value → Prop) (Post : Pt → Array Value → Option Value → Pt → Prop) (PostX : Pt → Array Value → Addr → Pt → Prop) : Prop :=
  ∀ (m : MethodId) (meth : Method) (c : Code) (A : Pt) (g : JFrame) (ig : Instr) (mk : MethodId) (a : Array Value),
    Stand p l e R s m sargs below meth c A.U A.locs A.cells A.slots → g.method = m → g.locals.size = c.maxLocals → decode c.code g.pc = .ok (ig, len) →
    2 * g.monitorRoom + (g.stack.map fun v => v.category).sum ≤ W9 → A.U.methodNamed? y = some mk → Pre A a →
    (∃ (v : Option Value) (B : Pt), Stand p l e R s m sargs below meth c B.U B.locs B.cells B.slots ∧ Post A a v B ∧
      Steps p.tables e below (doInvoke e (A.U.setTop g) [] mk a).1 (B.U.setTop { g with pc := g.pc + len, stack := v.toList ++ g.stack })) ∨
    (∃ (q : Addr) (B : Pt), Stand p l e R s m sargs below meth c B.U B.locs B.cells B.slots ∧ PostX A a q B ∧
      Steps p.tables e below (doInvoke e (A.U.setTop g) [] mk a).1 ((B.U.setTop g).pushFrame (.throwing q)))
section Payer
variable {l : Launch} {R : Room} {p : Program} {e : Env} {below : List Frame} {s : State} {sargs : Array Value} {y : MethodName} {len W9 : Nat}
theorem vx_back {ws : List Cond} {rm : Room} {Pc : Array Value → State → Prop} {Qc : Array Value → State → Outcome → State → Prop} {XC : String → State → State → Prop} {mc ms : Nat} {free : Addr → Prop} {bytes : ByteArray} {maxL : Nat} {ret : Option FieldType}
    (hM : vx_Met l y ws rm Pc Qc XC mc ms free) (hblind : FrameBlind Pc) (hrc : rm.cells = mc) (hrs : rm.slots = ms)
    (hframes : rm.frames + 1 ≤ R.frames) (hlocals : W9 + (maxL + 11) + rm.locals ≤ R.locals)
    (hws : ∀ w ∈ ws, ∀ a' U, s.WarmedH U.vm → w.before a' U = true) (hcode : Cond.code y bytes maxL ret ∈ ws) (hinit : ∀ a' U, s.WarmedH U.vm → (Cond.initialized y.cls).before a' U = true) :
    vx_Back l R p e below s sargs y len W9 (PreOf R mc ms Pc) (PostOf Qc mc ms free) (vx_Post XC mc ms free) := by
  intro m meth c A g ig mk a X hg hsize hdg hW hn hp
  have h1 : (headSpec ws rm).pre.before a A.U = true := atoms_intro fun w hw => hws w hw _ _ X.warmed
  have h2 : (Cond.code y bytes maxL ret).before a A.U = true := hws _ hcode _ _ X.warmed
  have h3 : (Cond.initialized y.cls).before a A.U = true := hinit _ _ X.warmed
  have h4 : A.cells + (headSpec ws rm).room.cells ≤ R.cells := by rw [show (headSpec ws rm).room.cells = mc from hrc]; exact hp.1
  have h5 : A.slots + (headSpec ws rm).room.slots ≤ R.slots := by rw [show (headSpec ws rm).room.slots = ms from hrs]; exact hp.2.1
  have hPc : Pc a (A.U.calling g mk a) := hblind _ _ _ _ hp.2.2
  obtain ⟨U, Ls, c0, s0⟩ := A
  dsimp only [Pt.U, Pt.locs, Pt.cells, Pt.slots] at h1 h2 h3 h4 h5 X hn hPc ⊢
  obtain ⟨methY, cY, hmY, hcY, -, hlY, -, -, -, -⟩ := Cond.code_spec hn h2
  obtain ⟨kY, hkY, -⟩ := className_of_methodNamed hn
  have hinitY : kY.init = .initialized := Cond.initialized_spec (findClass_of_methodNamed hn) hkY h3
  have h : At U g.method c below := by rw [hg]; exact X.here
  have hlocals9 : W9 + (maxL + 11) + (headSpec ws rm).room.locals ≤ R.locals := hlocals
  have happ : (headSpec ws rm).appliesLoose y e.platform (U.calling g mk a) = true :=
    Spec.appliesLoose_calling (g := g) h hdg hn hkY hinitY
      (X.room_calling (g := g) (R' := (headSpec ws rm).room) hsize hmY hcY hframes (by rw [hlY]; omega) h4 h5) h1
  obtain ⟨mid, hmid⟩ := h.above
  have hfr : (U.setTop g).frames = (.java g :: mid) ++ below := by rw [State.frames_setTop' g h.top, hmid]; rfl
  obtain ⟨o, s₂, hsteps, -, hend, hq⟩ := Steps.callFree hM p X.admits X.cas X.clock (acts := []) hfr happ hPc trivial
  have hq' : vx_Q Qc XC mc ms free a (U.calling g mk a) o s₂ := hq
  rw [State.frames_setTop' g h.top] at hend
  obtain ⟨g₀, hg0⟩ := Option.isSome_iff_exists.mp h.top
  obtain ⟨r, hr⟩ := State.topJava?_eq_some.mp hg0
  have hr' : (({ U with heap := s₂.heap, slotsUsed := s₂.slotsUsed } : State).setVm s₂.vm).frames = .java g₀ :: r := hr
  rcases hq' with ⟨hqc, L, hfe, hL⟩ | ⟨q, rfl, E, ce, L, hx, hce, hcv, hcl, hW₂, hsm, hL⟩
  · obtain ⟨⟨v, rfl⟩, hW₂, e2, q2, q3, q4, q5, q6⟩ := id hfe
    have e3 : s₂ = ({ (U.calling g mk a).setFrames s₂.frames with heap := s₂.heap, slotsUsed := s₂.slotsUsed } : State).setVm s₂.vm := by
      have : s₂ = ({ s₂ with vm := (U.calling g mk a).vm } : State).setVm s₂.vm := rfl
      rw [e2] at this
      exact this
    obtain ⟨c₂, i₂, len₂, hc₂, hd₂, hf₂⟩ := hend
    have hW' : U.WarmedH s₂.vm := hW₂
    have hcc : c₂ = c := by
      have h1 : s₂.code? g.method = U.code? g.method := by
        rw [State.code?_eq, State.code?_eq, hW'.alike.method?]
      exact Option.some.inj (hc₂.symm.trans (h1.trans h.code))
    subst hcc
    have hlen : len₂ = len := by rw [hdg] at hd₂; cases hd₂; rfl
    subst hlen
    have hs₂ : s₂ = (({ U with heap := s₂.heap, slotsUsed := s₂.slotsUsed } : State).setVm s₂.vm).setTop { g with pc := g.pc + len₂, stack := v.toList ++ g.stack } := by
      refine e3.trans ?_
      rw [hf₂, State.calling_eq h.top, State.setFrames_setFrames, State.setTop_of_frames _ hr', hr]
      rfl
    have hsame : U.sameButNew ({ U with heap := s₂.heap, slotsUsed := s₂.slotsUsed } : State) L mc ms := by
      refine ⟨?_, q2, q3, q4, q5, q6⟩
      obtain ⟨t, ht, -⟩ := State.frames_cons hr
      show ({ U with heap := s₂.heap, slotsUsed := s₂.slotsUsed } : State) = { U.setFrames U.frames with heap := s₂.heap, slotsUsed := s₂.slotsUsed }
      rw [State.setFrames_self ht]
    subst hg
    refine Or.inl ⟨v, ⟨(({ U with heap := s₂.heap, slotsUsed := s₂.slotsUsed } : State).setVm s₂.vm), Ls ++ L, c0 + mc, s0 + ms⟩,
      ⟨X.admits, X.cas, X.clock, X.frames, X.room, X.hears, X.method, X.code, (X.here.setHeapUsed s₂.heap s₂.slotsUsed).setVm hW'.alike, X.tail, State.WarmedH.trans X.warmed hW', X.limits, X.bytes, X.same.trans (hsame.setVm s.vm)⟩,
      ⟨g, mk, s₂, L, rfl, rfl, hqc, rfl, hL, rfl, rfl⟩, ?_⟩
    show Steps p.tables e below _ ((({ U with heap := s₂.heap, slotsUsed := s₂.slotsUsed } : State).setVm s₂.vm).setTop { g with pc := g.pc + len₂, stack := v.toList ++ g.stack })
    rw [← hs₂]
    exact hsteps
  · obtain ⟨e2, q2, q3, q4, q5, q6⟩ := id hsm
    have e3 : s₂ = ({ (U.calling g mk a).setFrames s₂.frames with heap := s₂.heap, slotsUsed := s₂.slotsUsed } : State).setVm s₂.vm := by
      have : s₂ = ({ s₂ with vm := (U.calling g mk a).vm } : State).setVm s₂.vm := rfl
      rw [e2] at this
      exact this
    have hf₂ : s₂.frames = .throwing q :: .java g :: U.frames.tail := hend
    have hW' : U.WarmedH s₂.vm := hW₂
    have hs₂ : s₂ = ((({ U with heap := s₂.heap, slotsUsed := s₂.slotsUsed } : State).setVm s₂.vm).setTop g).pushFrame (.throwing q) := by
      refine e3.trans ?_
      rw [hf₂, State.calling_eq h.top, State.setFrames_setFrames, State.pushFrame, State.frames_setTop _ hr', State.setTop_of_frames _ hr', State.setFrames_setFrames, hr]
      rfl
    have hsame : U.sameButNew ({ U with heap := s₂.heap, slotsUsed := s₂.slotsUsed } : State) L mc ms := by
      refine ⟨?_, q2, q3, q4, q5, q6⟩
      obtain ⟨t, ht, -⟩ := State.frames_cons hr
      show ({ U with heap := s₂.heap, slotsUsed := s₂.slotsUsed } : State) = { U.setFrames U.frames with heap := s₂.heap, slotsUsed := s₂.slotsUsed }
      rw [State.setFrames_self ht]
    subst hg
    refine Or.inr ⟨q, ⟨(({ U with heap := s₂.heap, slotsUsed := s₂.slotsUsed } : State).setVm s₂.vm), Ls ++ L, c0 + mc, s0 + ms⟩,
      ⟨X.admits, X.cas, X.clock, X.frames, X.room, X.hears, X.method, X.code, (X.here.setHeapUsed s₂.heap s₂.slotsUsed).setVm hW'.alike, X.tail, State.WarmedH.trans X.warmed hW', X.limits, X.bytes, X.same.trans (hsame.setVm s.vm)⟩,
      ⟨g, mk, s₂, L, E, ce, rfl, rfl, hx, hce, hcv, hcl, rfl, hL, rfl, rfl⟩, ?_⟩
    show Steps p.tables e below _ (((({ U with heap := s₂.heap, slotsUsed := s₂.slotsUsed } : State).setVm s₂.vm).setTop g).pushFrame (.throwing q))
    rw [← hs₂]
    exact hsteps
end Payer
section Calls
variable {p : Program} {l : Launch} {e : Env} {R : Room} {s : State} {m : MethodId} {args : Array Value} {below : List Frame} {meth : Method} {c : Code} {T : State} {locs : List Loc} {cells slots : Nat}
theorem vx_callV (X : Stand p l e R s m args below meth c T locs cells slots) (hexec : p.tables.exec = Jvm.exec) {own C : String} {index : Nat} {y : MethodName} {bytes : ByteArray} {maxL : Nat} {ret : Option FieldType}
    (hown : s.vm.findClass own = some m.cls) (hlink : (Cond.methodLink own index y).before args s = true) (hinst : (Cond.instanceMethod y).before args s = true) (hsel : (Cond.selects C y y).before args s = true)
    (hcode : (Cond.code y bytes maxL ret).before args s = true) (hy : y.cls ≠ "java/lang/invoke/MethodHandle" ∧ y.cls ≠ "java/lang/invoke/VarHandle")
    {W9 : Nat} {Pre : Pt → Array Value → Prop} {Post : Pt → Array Value → Option Value → Pt → Prop} {PostX : Pt → Array Value → Addr → Pt → Prop} (hK : vx_Back l R p e below s args y 3 W9 Pre Post PostX)
    {b : Addr} {cellB : Cell} (hcell : T.heap[b]? = some cellB) (hobj : cellB.vm.isStatics = false) (hcls : s.vm.findClass C = some cellB.cls)
    {g : JFrame} (hg : g.method = m) (hsize : g.locals.size = c.maxLocals) {argsL rest : List Value} (hlen : ∀ sig, parseMethodDescriptor y.desc = some sig → argsL.length = sig.parameters.length)
    (hstack : g.stack = argsL.reverse ++ .ref b :: rest) (hW : 2 * g.monitorRoom + (rest.map fun v => v.category).sum ≤ W9) (hdg : decode c.code g.pc = .ok (.invokevirtual index, 3))
    (hpre : ∀ vm₁, s.WarmedH vm₁ → Pre ⟨T.setVm vm₁, locs, cells, slots⟩ (Value.ref b :: argsL).toArray) :
    (∃ (v : Option Value) (vm₁ : Vm) (B : Pt), s.WarmedH vm₁ ∧ Stand p l e R s m args below meth c B.U B.locs B.cells B.slots ∧ Post ⟨T.setVm vm₁, locs, cells, slots⟩ (Value.ref b :: argsL).toArray v B ∧
      ∀ target, Steps p.tables e below (B.U.setTop { g with pc := g.pc + 3, stack := v.toList ++ rest }) target → Steps p.tables e below (T.setTop g) target) ∨
    (∃ (q : Addr) (vm₁ : Vm) (B : Pt), s.WarmedH vm₁ ∧ Stand p l e R s m args below meth c B.U B.locs B.cells B.slots ∧ PostX ⟨T.setVm vm₁, locs, cells, slots⟩ (Value.ref b :: argsL).toArray q B ∧
      Steps p.tables e below (T.setTop g) ((B.U.setTop { g with stack := rest }).pushFrame (.throwing q))) := by
  obtain ⟨mk, methM, hnamed, hmethM, hstM, habM⟩ := Cond.instanceMethod_spec hinst
  obtain ⟨methM', cM, hmethM', -, -, -, -, -, -, hsigM⟩ := Cond.code_spec hnamed hcode
  cases hmethM.symm.trans hmethM'
  obtain ⟨c2, r2, m2, q1, q2, q3, q4, kP, hkP, hkPi⟩ := Cond.selects_spec hsel
  cases hcls.symm.trans q1
  cases (State.methodFound?_of_named hnamed hy).symm.trans q2
  cases hnamed.symm.trans q3
  have hselP : selectMethod e.platform s.vm cellB.cls mk = .method mk := by rw [Launch.admits_selectMethod X.admits]; exact q4
  obtain ⟨vm₁, X₁, hstep₁⟩ := X.invokevirtual hexec hown hlink hnamed hmethM hstM hkP hkPi hy (a := b) (cell := cellB) hcell
    (fun z h => by rw [h] at hobj; cases hobj) hselP hmethM habM hkP hkPi (g := g) hg (argsL := argsL) (rest := rest) (hlen _ hsigM) hstack hdg
  rcases hK m meth c ⟨T.setVm vm₁, locs, cells, slots⟩ { g with stack := rest } (.invokevirtual index) mk (Value.ref b :: argsL).toArray X₁ hg hsize hdg hW (X₁.named hnamed) (hpre vm₁ X₁.warmed) with ⟨v, B, X', hpost, hsteps⟩ | ⟨q, B, X', hpost, hsteps⟩
  · exact Or.inl ⟨v, vm₁, B, X₁.warmed, X', hpost, fun target h => hstep₁ _ fun acts => by rw [doInvoke_state]; exact hsteps.trans h⟩
  · exact Or.inr ⟨q, vm₁, B, X₁.warmed, X', hpost, hstep₁ _ fun acts => by rw [doInvoke_state]; exact hsteps⟩
end Calls
theorem vx_cls {s : State} {T : State} {vm₁ : Vm} {E : String} {k : ClassId} (hW : s.WarmedH vm₁) (h : (T.setVm vm₁).vm.findClass E = some k) : s.vm.findClass E = some k := by
  have h1 : vm₁.findClass E = some k := h
  rw [hW.alike.findClass] at h1
  exact h1
/-- the method's frame g, with q thrown over it -/
def vx_W (p : Program) (l : Launch) (e : Env) (R : Room) (s : State) (m : MethodId) (args : Array Value) (below : List Frame) (meth : Method) (c : Code) (H : Heap) (locs : List Loc) (cells slots : Nat) (Q : State → Prop) (g : JFrame) (q : Addr) : Prop :=
  ∀ T : State, T.heap = H → Stand p l e R s m args below meth c T locs cells slots → ∃ t, Steps p.tables e below ((T.setTop g).pushFrame (.throwing q)) t ∧ Q t
def vx_Run (p : Program) (l : Launch) (e : Env) (R : Room) (s : State) (m : MethodId) (args : Array Value) (below : List Frame) (meth : Method) (c : Code) (H : Heap) (locs : List Loc) (cells slots mc ms : Nat) (g : JFrame) (rest : List Value) (Qa : State → Outcome → State → Prop) (XC : String → State → State → Prop) (free : Addr → Prop) : Prop :=
  ∀ T : State, T.heap = H → Stand p l e R s m args below meth c T locs cells slots →
    (∃ (v : Option Value) (st₀ t T' : State) (L : List Loc), st₀.heap = H ∧ Stand p l e R s m args below meth c T' (locs ++ L) (cells + mc) (slots + ms) ∧ (∀ q ∈ L, free q.base) ∧ T'.heap = t.heap ∧ T'.vm = t.vm ∧ Qa st₀ (.returned v) t ∧
      Goes p e below T g T' { g with pc := g.pc + 3, stack := v.toList ++ rest }) ∨
    (∃ (q : Addr) (st₀ t T' : State) (L : List Loc) (E : String) (ce : Cell), st₀.heap = H ∧ Stand p l e R s m args below meth c T' (locs ++ L) (cells + mc) (slots + ms) ∧ (∀ z ∈ L, free z.base) ∧ T'.heap = t.heap ∧ T'.vm = t.vm ∧ XC E st₀ t ∧ t.heap[q]? = some ce ∧ ce.vm = .none ∧ s.vm.findClass E = some ce.cls ∧
      Steps p.tables e below (T.setTop g) ((T'.setTop { g with stack := rest }).pushFrame (.throwing q)))
def vx_X {S : Type} (px : S → Prop) (B : String → S → State → Prop) (A : Nat → Prop) : String → State → State → Prop := fun E st t => ∃ u : S, px u ∧ B E u t ∧ va_F A st t
section Runs
variable {p : Program} {l : Launch} {e : Env} {R : Room} {s : State} {m : MethodId} {args : Array Value} {below : List Frame} {meth : Method} {c : Code} {H : Heap} {locs : List Loc} {cells slots : Nat}
variable {y : MethodName} {bytes cc : ByteArray} {maxL nL mc ms n index : Nat} {ret : Option FieldType} {ws : List Cond} {rm : Room} {Pc : Array Value → State → Prop} {Qc : Array Value → State → Outcome → State → Prop} {XC : String → State → State → Prop} {free : Addr → Prop} {Ts : List Cond} {own C : String} {b : Addr} {As rest : List Value} {g : JFrame}
theorem vx_callBack (cb : CallB R s args own index y bytes maxL ret ws rm mc ms n) (hM : vx_Met l y ws rm Pc Qc XC mc ms free) (hbl : FrameBlind Pc) : vx_Back l R p e below s args y 3 8 (PreOf R mc ms Pc) (PostOf Qc mc ms free) (vx_Post XC mc ms free) := by
  obtain ⟨hrc, hrs, hfr, hlo, hws, hcw, -, hini, -⟩ := cb
  exact vx_back (bytes := bytes) (maxL := maxL) (ret := ret) hM hbl hrc hrs hfr hlo hws hcw (fun a' U hW => word_at hW (Or.inl (by first | rfl | simp [Cond.onTables, Cond.keeps, Cond.steady])) hini)
theorem vx_runV (S : CallFix p m c cc nL s args Ts own) (hM : vx_Met l y ws rm Pc Qc XC mc ms free) (cw : CallW R s args own C index y bytes maxL ret ws rm mc ms n) (hp : PreV s H C b Pc As)
    (hg : g.method = m) (hn : As.length = n) (hsize : g.locals.size = nL) (hstack : g.stack = As.reverse ++ .ref b :: rest) (hW : 2 * g.monitorRoom + (rest.map fun v => v.category).sum ≤ 8) (hdg : decode cc g.pc = .ok (.invokevirtual index, 3)) (hf : cells + mc ≤ R.cells ∧ slots + ms ≤ R.slots) :
    vx_Run p l e R s m args below meth c H locs cells slots mc ms g rest (Qc (Value.ref b :: As).toArray) XC free := by
  have hK : vx_Back l R p e below s args y 3 8 (PreOf R mc ms Pc) (PostOf Qc mc ms free) (vx_Post XC mc ms free) := vx_callBack cw.1 hM hp.1
  obtain ⟨⟨-, -, -, -, -, -, hcode, -, hy, hlen, hl⟩, hin, hse⟩ := cw
  obtain ⟨hx, hb, hml, ho, -⟩ := S
  obtain ⟨-, ⟨cellB, hcB, hoB, hclB⟩, hPc⟩ := hp
  intro T hT X
  rcases vx_callV X hx (C := C) (bytes := bytes) (maxL := maxL) (ret := ret) ho hl hin hse hcode hy hK (by rw [hT]; exact hcB) hoB hclB hg (hsize.trans hml.symm) (argsL := As) (rest := rest) (fun sig h => hn.trans (hlen sig h)) hstack hW (by rw [hb]; exact hdg)
    (fun vm₁ hW₁ => ⟨hf.1, hf.2, hPc (T.setVm vm₁) hT hW₁⟩) with ⟨v, vm₁, ⟨U', l2, c2, s2⟩, hW₁, X', ⟨g', mk, t, L, e1, e2, hq, h1, hL, h2, h3⟩, st⟩ | ⟨q, vm₁, ⟨U', l2, c2, s2⟩, hW₁, X', ⟨g', mk, t, L, E, ce, e1, e2, hq, hce, hcv, hcl, h1, hL, h2, h3⟩, st⟩
  · dsimp only [Pt.U, Pt.locs, Pt.cells, Pt.slots] at X' e1 e2 h1 h2 h3 st
    subst h1; subst h2; subst h3
    exact Or.inl ⟨v, (T.setVm vm₁).calling g' mk (Value.ref b :: As).toArray, t, U', L, hT, X', hL, e1, e2, hq, st⟩
  · dsimp only [Pt.U, Pt.locs, Pt.cells, Pt.slots] at X' e1 e2 h1 h2 h3 st hcl
    subst h1; subst h2; subst h3
    exact Or.inr ⟨q, (T.setVm vm₁).calling g' mk (Value.ref b :: As).toArray, t, U', L, E, ce, hT, X', hL, e1, e2, hq, hce, hcv, vx_cls hW₁ hcl, st⟩
end Runs
section Rows
variable {p : Program} {l : Launch} {e : Env} {R : Room} {s : State} {m : MethodId} {args : Array Value} {below : List Frame} {meth : Method} {c : Code} {H : Heap} {locs : List Loc} {cells slots : Nat} {Q : State → Prop}
variable {mc ms : Nat} {free : Addr → Prop} {A0 A1 : Nat → Prop} {H0 : Heap} {a : Array Value} {pc : Nat} {ls : Array Slot} {st0 rest : List Value}
theorem vx_keep {st₀ t T' : State} {L : List Loc} (h0 : st₀.heap = H) (e1 : T'.heap = t.heap) (hS : va_S A0 H0 H locs) (hA : ∀ q, q < H.size → A1 q → A0 q) (hf : ∀ q, free q → A0 q) (hL : ∀ q ∈ L, free q.base) (hF : va_F A1 st₀ t) :
    H.size ≤ T'.heap.size ∧ (∀ q : Nat, q < H.size → ¬ A1 q → T'.heap[q]? = H[q]?) ∧ va_S A0 H0 T'.heap (locs ++ L) := by
  obtain ⟨hz, hk⟩ := hF
  rw [h0] at hz hk
  exact ⟨by rw [e1]; exact hz, fun q h1 h2 => by rw [e1]; exact hk q h1 h2,
    ⟨Nat.le_trans hS.1 (by rw [e1]; exact hz), fun q h1 h2 => by rw [e1, hk q (Nat.lt_of_lt_of_le h1 hS.1) (fun z => h2 (hA q (Nat.lt_of_lt_of_le h1 hS.1) z))]; exact hS.2.1 q h1 h2, fun q hq => by
      rcases List.mem_append.mp hq with h | h
      · exact hS.2.2 q h
      · exact hf _ (hL q h)⟩⟩
theorem vx_calli {S SX : Type} {post : Int32 → S → Prop} {px : SX → Prop} {B : S → State → Prop} {BX : String → SX → State → Prop} {AX : Nat → Prop} (hr : vx_Run p l e R s m args below meth c H locs cells slots mc ms (F0 m pc ls st0) rest (va_Qi post B A1 a) (vx_X px BX AX) free) (hS : va_S A0 H0 H locs) (hA : ∀ q, q < H.size → A1 q → A0 q) (hf : ∀ q, free q → A0 q) (hAX : ∀ q, q < H.size → AX q → A0 q)
    (kx : ∀ (E : String) (ce : Cell) (q9 : Addr) (u : SX) (t : State) (H1 : Heap) (locs1 : List Loc), t.heap = H1 → s.vm.Alike t.vm → px u → BX E u t → H.size ≤ H1.size → (∀ q : Nat, q < H.size → ¬ AX q → H1[q]? = H[q]?) → va_S A0 H0 H1 locs1 → H1[q9]? = some ce → ce.vm = .none → s.vm.findClass E = some ce.cls → vx_W p l e R s m args below meth c H1 locs1 (cells + mc) (slots + ms) Q (F0 m pc ls rest) q9)
    (kk : ∀ (r : Int32) (u : S) (t : State) (H1 : Heap) (locs1 : List Loc), t.heap = H1 → s.vm.Alike t.vm → post r u → B u t → H.size ≤ H1.size → (∀ q : Nat, q < H.size → ¬ A1 q → H1[q]? = H[q]?) → va_S A0 H0 H1 locs1 → W p l e R s m args below meth c H1 locs1 (cells + mc) (slots + ms) Q (F0 m (pc + 3) ls (.int r :: rest))) : W p l e R s m args below meth c H locs cells slots Q (F0 m pc ls st0) := by
  intro T hT X
  rcases hr T hT X with ⟨v, st₀, t, T', L, h0, X', hL, e1, e2, ⟨⟨r, u, hv, hp, hb⟩, hF⟩, st⟩ | ⟨q, st₀, t, T', L, E, ce, h0, X', hL, e1, e2, ⟨u, hp, hb, hF⟩, hce, hcv, hcl, st⟩
  · cases hv
    obtain ⟨k1, k2, k3⟩ := vx_keep h0 e1 hS hA hf hL hF
    obtain ⟨t2, a1, b1⟩ := kk r u t T'.heap (locs ++ L) e1.symm (by rw [← e2]; exact X'.warmed.alike) hp hb k1 k2 k3 T' rfl X'
    exact ⟨t2, st t2 a1, b1⟩
  · obtain ⟨k1, k2, k3⟩ := vx_keep h0 e1 hS hAX hf hL hF
    obtain ⟨t2, a1, b1⟩ := kx E ce q u t T'.heap (locs ++ L) e1.symm (by rw [← e2]; exact X'.warmed.alike) hp hb k1 k2 k3 (by rw [e1]; exact hce) hcv hcl T' rfl X'
    exact ⟨t2, st.trans a1, b1⟩
end Rows
section Ends
variable {p : Program} {l : Launch} {e : Env} {R : Room} {s : State} {m : MethodId} {args : Array Value} {below : List Frame} {meth : Method} {c : Code} {H : Heap} {locs : List Loc} {cells slots : Nat} {Q : State → Prop}
variable {mc ms : Nat} {free : Addr → Prop} {A0 A1 : Nat → Prop} {H0 : Heap} {a : Array Value} {ls : Array Slot} {st0 rest : List Value}
variable {Qc : Array Value → State → Outcome → State → Prop} {XC : String → State → State → Prop}
/-- what a body that may throw owes at its end -/
def vx_MQ (below : List Frame) (Qc : Array Value → State → Outcome → State → Prop) (XC : String → State → State → Prop) (a : Array Value) (s : State) (mc ms : Nat) (free : Addr → Prop) : State → Prop := fun t =>
  ∃ o, t.status = .running ∧ Ended t below o ∧ vx_Q Qc XC mc ms free a s o t
theorem vx_ret {g : JFrame} {mc ms : Nat} (k : W p l e R s m args below meth c H locs cells slots (MQ below Qc args s mc ms free) g) : W p l e R s m args below meth c H locs cells slots (vx_MQ below Qc XC args s mc ms free) g := by
  intro T hT X
  obtain ⟨t, a1, o, b1, b2, b3, b4⟩ := k T hT X
  exact ⟨t, a1, o, b1, b2, Or.inl ⟨b3, b4⟩⟩
/-- not caught here: it goes on to the caller -/
theorem vx_widen {g : JFrame} {q : Addr} {k n : Nat} (h1 : cells ≤ k) (h2 : slots ≤ n) (kk : vx_W p l e R s m args below meth c H locs k n Q g q) : vx_W p l e R s m args below meth c H locs cells slots Q g q := fun T hT X => kk T hT (stand_widen X h1 h2)
theorem vx_out {pc : Nat} {E : String} {ce : Cell} {q : Addr} {mc ms : Nat} (hout : ∀ x ∈ c.exceptionTable.toList, covers x pc = false) (hlocks : meth.locks = false) (hcell : H[q]? = some ce) (hv : ce.vm = .none) (hcl : s.vm.findClass E = some ce.cls)
    (hx : ∀ t : State, t.heap = H → s.vm.Alike t.vm → XC E s t) (hf : ∀ z ∈ locs, free z.base) (hc : cells ≤ mc) (hs : slots ≤ ms) :
    vx_W p l e R s m args below meth c H locs cells slots (vx_MQ below Qc XC args s mc ms free) (F0 m pc ls rest) q := by
  intro T hT X
  obtain ⟨st1, hrun, hend, hW, hsm⟩ := X.leaveThrown q (g := F0 m pc ls rest) rfl rfl rfl hout hlocks
  have hcell9 : (T.setFrames (.throwing q :: below)).heap[q]? = some ce := by
    show T.heap[q]? = some ce
    rw [hT]; exact hcell
  exact ⟨_, st1, .threw q, hrun, hend, Or.inr ⟨q, rfl, E, ce, locs, hx _ hT hW.alike, hcell9, hv, hcl, hW, hsm.mono hc hs, hf⟩⟩
theorem vx_frame {U : State} {k n : Nat} (h : s.sameButNew ({ U with vm := s.vm } : State) locs k n) : s.heap.size ≤ U.heap.size ∧ ∀ q : Nat, q < s.heap.size → (∀ z ∈ locs, z.base ≠ q) → U.heap[q]? = s.heap[q]? := by
  obtain ⟨-, h2, -, -, -, h6⟩ := h
  refine ⟨h2, fun q hq hz => ?_⟩
  obtain ⟨c9, e1, e2, e3, e4⟩ := h6 q _ (Array.getElem?_eq_getElem hq)
  have hs : c9.slots = (s.heap[q]).slots := Array.ext_getElem? fun i => e4 i fun hm => hz _ hm rfl
  have h9 : c9 = s.heap[q] := by
    rw [hs] at e2
    exact e2
  have e5 : U.heap[q]? = some c9 := e1
  rw [e5, h9, Array.getElem?_eq_getElem hq]
/-- the words of a throw but the four that speak of the heap -/
def vx_no (w : Cond) : Bool := decide (w ≠ .isRef (.static Bundle.tN "UNASSIGNED_STACK" Bundle.steD)) && decide (w ≠ .isRef (.static Bundle.tN "SUPPRESSED_SENTINEL" Bundle.listD)) && decide (w ≠ .laysStatic Bundle.tN "UNASSIGNED_STACK" Bundle.steD) && decide (w ≠ .laysStatic Bundle.tN "SUPPRESSED_SENTINEL" Bundle.listD)
def vx_at0 (own : String) (ic : Nat) (X : String) (names : List String) : List Cond := (Bundle.ownAtoms0 own ic X names).filter vx_no
/-- a word that the tables alone decide, or a good one -/
def vx_ot (w : Cond) : Bool := w.onTables || goodWord w
theorem vx_ot_at {args a' : Array Value} {s U : State} {w : Cond} (hW : s.WarmedH U.vm) (hvm : s.vm = U.vm) (hg : vx_ot w = true) (h : w.before args s = true) : w.before a' U = true := by
  simp only [vx_ot, Bool.or_eq_true] at hg
  rcases hg with hg | hg
  · exact va_tabs hg hvm h
  · exact word_at hW (good_of_word hg) h
/-- a list's words: the good ones out of the method's own list, the others by premises of their own -/
theorem vx_hat {args : Array Value} {s : State} {L B : List Cond} (h1 : ∀ w ∈ L.filter goodWord, w.before args s = true) (h2 : ∀ w ∈ L.filter (fun w => !goodWord w), w ∈ B) (h3 : ∀ w ∈ B, w.before args s = true) : ∀ w ∈ L, w.before args s = true := by
  intro w hw
  by_cases g : goodWord w = true
  · exact h1 w (List.mem_filter.mpr ⟨hw, g⟩)
  · refine h3 w (h2 w (List.mem_filter.mpr ⟨hw, ?_⟩))
    show (!goodWord w) = true
    cases hgw : goodWord w
    · rfl
    · exact absurd hgw g
theorem vx_c {args : Array Value} {s : State} {w : Cond} {B : List Cond} (h : w.before args s = true) (t : ∀ w ∈ B, w.before args s = true) : ∀ w' ∈ w :: B, w'.before args s = true := fun w' h' => (List.mem_cons.mp h').elim (fun e => by rw [e]; exact h) (t w')
theorem vx_n {args : Array Value} {s : State} : ∀ w ∈ ([] : List Cond), w.before args s = true := fun _ h => nomatch h
theorem vx_own {args : Array Value} {s : State} {L : List Cond} (h1 : ∀ w ∈ L.filter vx_no, w.before args s = true)
    (hU : (Cond.isRef (.static Bundle.tN "UNASSIGNED_STACK" Bundle.steD)).before args s = true) (hN : (Cond.isRef (.static Bundle.tN "SUPPRESSED_SENTINEL" Bundle.listD)).before args s = true)
    (lU : (Cond.laysStatic Bundle.tN "UNASSIGNED_STACK" Bundle.steD).before args s = true) (lN : (Cond.laysStatic Bundle.tN "SUPPRESSED_SENTINEL" Bundle.listD).before args s = true) : ∀ w ∈ L, w.before args s = true := by
  intro w hw
  by_cases e1 : w = .isRef (.static Bundle.tN "UNASSIGNED_STACK" Bundle.steD)
  · rw [e1]; exact hU
  · by_cases e2 : w = .isRef (.static Bundle.tN "SUPPRESSED_SENTINEL" Bundle.listD)
    · rw [e2]; exact hN
    · by_cases e3 : w = .laysStatic Bundle.tN "UNASSIGNED_STACK" Bundle.steD
      · rw [e3]; exact lU
      · by_cases e4 : w = .laysStatic Bundle.tN "SUPPRESSED_SENTINEL" Bundle.listD
        · rw [e4]; exact lN
        · exact h1 w (List.mem_filter.mpr ⟨hw, by unfold vx_no; rw [decide_eq_true e1, decide_eq_true e2, decide_eq_true e3, decide_eq_true e4]; rfl⟩)
/-- where a static field lies, its class's statics cell in H -/
def vx_L (C n d : String) (A : Nat → Prop) (U : State) (H : Heap) : Prop := ∃ (c : ClassId) (k : Class) (i : Nat) (f : Field) (a : Nat) (cell : Cell), U.vm.findClass C = some c ∧ U.fieldFound? C n d = some (c, k, i, f) ∧ f.isStatic = true ∧ k.statics = some a ∧ H[a]? = some cell ∧ cell.vm.isStatics = true ∧ cell.cls = c ∧ f.slot < cell.slots.size ∧ k.staticTypes[f.slot]? = some f.type ∧ ¬ A a
theorem vx_L.moved {C n d : String} {A : Nat → Prop} {u U : State} {H : Heap} (hvm : u.vm.Alike U.vm) (h : vx_L C n d A u H) : vx_L C n d A U H := by
  obtain ⟨c, k, i, f, a, cell, h1, h2, h3, h4, h5, h6, h7, h8, h9, h10⟩ := h
  obtain ⟨k', hi', he⟩ := State.fieldFound?_setVm hvm h2
  exact ⟨c, k', i, f, a, cell, by rw [hvm.findClass]; exact h1, hi', h3, by rw [he]; exact h4, h5, h6, h7, h8, by rw [he]; exact h9, h10⟩
theorem vx_L.kept {C n d : String} {A : Nat → Prop} {U : State} {H H1 : Heap} (h : vx_L C n d A U H) (hq : ∀ a : Nat, a < H.size → ¬ A a → H1[a]? = H[a]?) : vx_L C n d A U H1 := by
  obtain ⟨c, k, i, f, a, cell, h1, h2, h3, h4, h5, h6, h7, h8, h9, h10⟩ := h
  exact ⟨c, k, i, f, a, cell, h1, h2, h3, h4, by rw [hq a (Array.getElem?_eq_some_iff.mp h5).1 h10]; exact h5, h6, h7, h8, h9, h10⟩
theorem vx_L.narrow {C n d : String} {A B : Nat → Prop} {U : State} {H : Heap} (h : vx_L C n d A U H) (hAB : ∀ q, B q → A q) : vx_L C n d B U H := by
  obtain ⟨c, k, i, f, a, cell, h1, h2, h3, h4, h5, h6, h7, h8, h9, h10⟩ := h
  exact ⟨c, k, i, f, a, cell, h1, h2, h3, h4, h5, h6, h7, h8, h9, fun z => h10 (hAB _ z)⟩
theorem vx_L.word {C n d : String} {A : Nat → Prop} {s : State} {args : Array Value} (h : vx_L C n d A s s.heap) : (Cond.laysStatic C n d).before args s = true := by
  obtain ⟨c, k, i, f, a, cell, h1, h2, h3, h4, h5, h6, h7, h8, h9, -⟩ := h
  show (Cond.laysStatic C n d).holds args s none s [] = true
  exact Cond.laysStatic_of h1 h2 h3 h4 h5 h6 h7 h8 h9
/-- .. and what it holds: null or some reference -/
def vx_Zq (C n d : String) (A : Nat → Prop) (U : State) (H : Heap) : Prop := va_Zq C n d A U H ∧ vx_L C n d A U H
theorem vx_Zq.moved {C n d : String} {A : Nat → Prop} {u U : State} {H : Heap} (hvm : u.vm.Alike U.vm) (h : vx_Zq C n d A u H) : vx_Zq C n d A U H := ⟨va_Zq.moved hvm h.1, vx_L.moved hvm h.2⟩
theorem vx_Zq.kept {C n d : String} {A : Nat → Prop} {U : State} {H H1 : Heap} (h : vx_Zq C n d A U H) (hq : ∀ a : Nat, a < H.size → ¬ A a → H1[a]? = H[a]?) : vx_Zq C n d A U H1 := ⟨va_Zq.kept h.1 hq, vx_L.kept h.2 hq⟩
theorem vx_Zq.narrow {C n d : String} {A B : Nat → Prop} {U : State} {H : Heap} (h : vx_Zq C n d A U H) (hAB : ∀ q, B q → A q) : vx_Zq C n d B U H := ⟨va_Zq.narrow h.1 hAB, vx_L.narrow h.2 hAB⟩
theorem vx_Zqof {args : Array Value} {s : State} {C n d : String} {A : Nat → Prop} (hl : (Cond.laysStatic C n d).before args s = true) (hini : (Cond.initialized C).before args s = true) (h : (Cond.isRef (.static C n d)).before args s = true) (hA : ∀ a : Nat, a < s.heap.size → ¬ A a) : vx_Zq C n d A s s.heap := by
  refine ⟨va_Zqof hl hini h hA, ?_⟩
  obtain ⟨c, k, i, f, a, cell, h1, h2, h3, h4, h5, h6, h7, h8, h9⟩ := Cond.laysStatic_spec hl
  exact ⟨c, k, i, f, a, cell, h1, h2, h3, h4, h5, h6, h7, h8, h9, hA a (Array.getElem?_eq_some_iff.mp h5).1⟩
theorem vx_isRef {C n d : String} {v : Value} {A : Nat → Prop} {s : State} {args : Array Value} (h : va_Z C n d v A s s.heap) (hv : v.isRef = true) : (Cond.isRef (.static C n d)).before args s = true := by
  obtain ⟨cf, kf, fi, f, a, cell, h1, h2, h3, h4, h5, h6, h7, -⟩ := h
  have he : (Term.static C n d).eval args s none [] s = some v := by
    simp [Term.eval, State.fieldNamed?, h1, h2, h4, h5, h6, h7]
  simp only [Cond.before, Cond.holds, Cond.value, he]
  cases v <;> simp_all [Value.isRef]
theorem vx_isRefq {C n d : String} {A : Nat → Prop} {s : State} {args : Array Value} (h : va_Zq C n d A s s.heap) : (Cond.isRef (.static C n d)).before args s = true := by
  rcases h with h | ⟨t, h⟩
  · exact vx_isRef h rfl
  · exact vx_isRef h rfl
/-- the same frame, seen from here: as if the method were called anew in this heap -/
theorem vx_rebase {T : State} (X : Stand p l e R s m args below meth c T locs cells slots) {R' : Room} (hf : R'.frames ≤ R.frames) (hl : R'.locals ≤ R.locals) (hc : cells + R'.cells ≤ R.cells) (hs : slots + R'.slots ≤ R.slots) :
    Stand p l e R' ((T.setVm s.vm).setFrames (.invoking m args :: below)) m args below meth c T [] 0 0 := by
  have htop : (T.setVm s.vm).topJava?.isSome := X.here.top
  have hF : ((T.setVm s.vm).setFrames (.invoking m args :: below)).frames = .invoking m args :: below := State.frames_setFrames _ (State.cur_lt_of_top htop)
  obtain ⟨g₀, hg0⟩ := Option.isSome_iff_exists.mp htop
  obtain ⟨r, hr⟩ := State.topJava?_eq_some.mp hg0
  have hl9 : e.platform.stackLimits (T.setVm s.vm).me = e.platform.stackLimits s.me := X.limits
  have hb9 : (T.setVm s.vm).me.stackBytes = s.me.stackBytes := X.bytes
  refine ⟨X.admits, X.cas, X.clock, hF, ?_, X.hears, X.method, X.code, X.here, X.tail, X.warmed, ?_, ?_, ?_⟩
  · have h := X.room
    have hU : ((T.setVm s.vm).setFrames (.invoking m args :: below)).localsInUse = s.localsInUse := by
      rw [State.localsInUse_invoking hF (meth := meth) (c := c) X.method X.code, State.localsInUse_invoking X.frames X.method X.code]
    simp only [State.hasRoom, Bool.and_eq_true, decide_eq_true_eq] at h ⊢
    obtain ⟨⟨⟨⟨h1, h2, h3, h4, h5, h6⟩, h7⟩, h8⟩, h9⟩ := h
    rw [X.frames, List.length_cons] at h2 h3
    have q1 := X.heapSize
    have q2 := X.used
    simp only [hF, hU, List.length_cons, State.stackLimits_setFrames, State.stackBytes_setFrames, hl9, hb9]
    refine ⟨⟨⟨⟨by omega, by omega, by omega, by omega, by omega, h6⟩, ?_⟩, ?_⟩, X.book⟩
    · show T.heap.size + R'.cells ≤ e.platform.maxCells
      omega
    · show T.slotsUsed + R'.slots ≤ e.platform.maxSlots
      omega
  · rw [State.stackLimits_setFrames]; rfl
  · rw [State.stackBytes_setFrames]; rfl
  · refine ⟨?_, Nat.le_refl _, Nat.le_refl _, ?_, ?_, fun a c9 h9 => ⟨c9, h9, rfl, rfl, fun _ _ => rfl⟩⟩
    · obtain ⟨t, ht, -⟩ := State.frames_cons hr
      show T.setVm s.vm = { ((T.setVm s.vm).setFrames (.invoking m args :: below)).setFrames (T.setVm s.vm).frames with heap := T.heap, slotsUsed := T.slotsUsed }
      rw [State.setFrames_setFrames, State.setFrames_self ht]
      rfl
    · show T.slotsUsed = T.slotsUsed + ((T.heap.toList.drop T.heap.size).map (·.slots.size)).sum
      rw [List.drop_eq_nil_of_le (Nat.le_of_eq Array.length_toList)]
      rfl
    · show ((T.heap.toList.drop T.heap.size).map (·.slots.size)).sum ≤ 0
      rw [List.drop_eq_nil_of_le (Nat.le_of_eq Array.length_toList)]
      exact Nat.le_refl _
/-- 'throw new E()': new; dup; invokespecial; athrow -/
theorem vx_throw0 {cc : ByteArray} {pc : Nat} (hexec : p.tables.exec = Jvm.exec) (hb : c.code = cc) (hl : l.stackTraces = false) {own cls : String} {names : List String} {ik ic mc ms : Nat} {A : Nat → Prop}
    (hown : s.vm.findClass own = some m.cls) (hcls : Bundle.fit cls = true) (hnames : ∀ n ∈ names, Bundle.fit n = true)
    (hk : (Cond.classLink own ik cls).before args s = true) (hini : (Cond.initialized cls).before args s = true) (hat : ∀ w ∈ vx_at0 own ic cls names, w.before args s = true)
    (hgood : ∀ w ∈ Cond.classLink own ik cls :: Cond.initialized cls :: vx_at0 own ic cls names, vx_ot w = true)
    (hU : vx_Zq Bundle.tN "UNASSIGNED_STACK" Bundle.steD A s s.heap) (hN : vx_Zq Bundle.tN "SUPPRESSED_SENTINEL" Bundle.listD A s s.heap) (hS : va_S A s.heap H locs) (hsize : ls.size = c.maxLocals)
    (d0 : decode cc pc = .ok (.new ik, 3)) (d3 : decode cc (pc + 3) = .ok (.dup, 1)) (d4 : decode cc (pc + 4) = .ok (.invokespecial ic, 3)) (d7 : decode cc (pc + 7) = .ok (.athrow, 1))
    (hout : ∀ x ∈ c.exceptionTable.toList, covers x (pc + 7) = false)
    (hRframes : names.length + 3 < R.frames) (hRlocals : (rest.map fun v => v.category).sum + (13 * (names.length + 1) + 42) ≤ R.locals) (hRcells : cells + 1 ≤ R.cells) (hRslots : slots + 6 ≤ R.slots) (hlocks : meth.locks = false)
    (hx : ∀ t : State, s.vm.Alike t.vm → H.size ≤ t.heap.size → (∀ q : Nat, q < H.size → t.heap[q]? = H[q]?) → XC cls s t)
    (hf : ∀ z ∈ locs, free z.base) (hc : cells + 1 ≤ mc) (hs : slots + 6 ≤ ms) :
    W p l e R s m args below meth c H locs cells slots (vx_MQ below Qc XC args s mc ms free) (F0 m pc ls rest) := by
  intro T hT X
  have htr : e.platform.stackTraces = false := (show e.platform.stackTraces = l.stackTraces by rw [X.admits.platform]).trans hl
  have Y := vx_rebase X (R' := { frames := R.frames, locals := R.locals, cells := 1, slots := 6 }) (Nat.le_refl _) (Nat.le_refl _) hRcells hRslots
  obtain ⟨s', hA⟩ : ∃ z, z = (T.setVm s.vm).setFrames (.invoking m args :: below) := ⟨_, rfl⟩
  rw [← hA] at Y
  have hvm : s'.vm = s.vm := by rw [hA]; rfl
  have hhp : s'.heap = H := by rw [hA]; exact hT
  have hW0 : s.WarmedH s'.vm := by rw [hvm]; exact State.WarmedH.refl s
  have hat' : ∀ w ∈ vx_at0 own ic cls names, w.before args s' = true := fun w hw => vx_ot_at hW0 hvm.symm (hgood w (List.mem_cons_of_mem _ (List.mem_cons_of_mem _ hw))) (hat w hw)
  have hk' : (Cond.classLink own ik cls).before args s' = true := vx_ot_at hW0 hvm.symm (hgood _ List.mem_cons_self) hk
  have hini' : (Cond.initialized cls).before args s' = true := vx_ot_at hW0 hvm.symm (hgood _ (List.mem_cons_of_mem _ List.mem_cons_self)) hini
  have hU' : vx_Zq Bundle.tN "UNASSIGNED_STACK" Bundle.steD A s' s'.heap := by rw [hhp]; exact vx_Zq.moved hW0.alike (hU.kept hS.2.1)
  have hN' : vx_Zq Bundle.tN "SUPPRESSED_SENTINEL" Bundle.listD A s' s'.heap := by rw [hhp]; exact vx_Zq.moved hW0.alike (hN.kept hS.2.1)
  have h : ∀ w ∈ Bundle.ownAtoms0 own ic cls names, w.before args s' = true := vx_own hat' (vx_isRefq hU'.1) (vx_isRefq hN'.1) hU'.2.word hN'.2.word
  have hown' : s'.vm.findClass own = some m.cls := by rw [hvm]; exact hown
  have hins : (Cond.instantiable cls 6).before args s' = true := h _ (by simp [Bundle.ownAtoms0])
  obtain ⟨vm₁, cX, kX, hfX, hkX, -, -, X₁, st1⟩ := Y.newCold hexec (own := own) (C := cls) (index := ik) (n := 6) hown' hk' hins hini'
    (g := F0 m pc ls rest) rfl (by rw [hb]; exact d0) (Nat.le_refl _) (Nat.le_refl _)
  generalize hT1 : (T.setVm vm₁).pushCell { cls := cX, slots := kX.instanceTypes.map defaultValue, vm := .none } = T1 at X₁ st1
  have hcat : (Value.ref T.heap.size).category = 1 := rfl
  have hcellA : T1.heap[T.heap.size]? = some (freshCell cX kX) := by rw [← hT1]; exact State.heap_pushCell_size _ _
  have d3' : decode c.code (pc + 3) = .ok (.dup, 1) := by rw [hb]; exact d3
  obtain ⟨U, hsteps, hrun, hend, hW, hsame, ce, hce, hO⟩ := X₁.ctorThrow0 hexec htr (own := own) (cls := cls) (names := names) (ic := ic) hown' hcls hnames h (fun x hx => nomatch hx) hfX hkX hcellA (by rw [hhp, hT]; exact Nat.le_refl _)
    (g := { method := m, pc := pc + 4, locals := ls, stack := .ref T.heap.size :: .ref T.heap.size :: rest, locked := none }) rfl hsize rfl rfl (rest := rest) rfl
    (by rw [hb]; exact d4) (by rw [hb]; exact d7) hout hRframes (by simp only [List.map_cons, List.sum_cons, hcat]; omega) hlocks
  obtain ⟨f1, f2⟩ := vx_frame hsame
  rw [hhp] at f1 f2
  have hWs : s.WarmedH U.vm := State.WarmedH.trans hW0 hW
  have hcl : s.vm.findClass cls = some ce.cls := by
    have h9 := hO.cls
    rw [hvm] at h9
    exact h9
  have hall : s.sameButNew ({ U with vm := s.vm } : State) locs mc ms := by
    subst hA
    obtain ⟨e1, e2⟩ := hsame
    rw [State.setFrames_setFrames] at e1
    have h2 : (T.setVm s.vm).sameButNew ({ U with vm := s.vm } : State) [] (0 + 1) (0 + 6) := ⟨e1, e2⟩
    have h3 := X.same.trans h2
    rw [List.append_nil] at h3
    exact h3.mono hc hs
  refine ⟨U, ?_, .threw T.heap.size, hrun, hend, Or.inr ⟨T.heap.size, rfl, cls, ce, locs, hx U hWs.alike f1 (fun q hq => f2 q hq (fun z hz => nomatch hz)), hce, hO.vm, hcl, hWs, hall, hf⟩⟩
  refine st1 _ ?_
  show Steps p.tables e below (T1.setTop { method := m, pc := pc + 3, locals := ls, stack := .ref T.heap.size :: rest, locked := none }) _
  jvm_step X₁.here [X₁.here.top, hexec, d3', Value.category]
  exact hsteps
end Ends
section Bodies
variable {l : Launch}
theorem vx_ofW {y : MethodName} {ws ws' : List Cond} {rm : Room} {Pc : Array Value → State → Prop} {Qc : Array Value → State → Outcome → State → Prop} {XC : String → State → State → Prop} {mc ms : Nat} {free : Addr → Prop} {cc : ByteArray} {maxL : Nat} {ret : Option FieldType}
    (hy : plainName y.cls = true) (hw : ws = Cond.code y cc maxL ret :: ws')
    (body : ∀ p e s m args below meth c s₁, BodyLoose p l y (headSpec ws rm) cc maxL ret e s m args below meth c s₁ → c.maxLocals = maxL → (∀ x ∈ c.exceptionTable.toList, False) → Pc args s →
      W p l e (headSpec ws rm).room s m args below meth c s.heap [] 0 0 (vx_MQ below Qc XC args s mc ms free) (entryFrame m args maxL)) : vx_Met l y ws rm Pc Qc XC mc ms free := by
  refine MetFree.of_bodyS (code := cc) (maxLocals := maxL) (ret := ret) hy ?_ ?_
  · intro args s m h hn
    obtain ⟨meth, c, h1, h2, h3, h4, h5, h6, -, -⟩ := Cond.code_spec hn (atoms_spec (ws := ws) h _ (by rw [hw]; exact List.mem_cons_self))
    exact ⟨meth, c, h1, h2, h3, h4, h5, h6⟩
  · intro p e s m args below meth c s₁ B hml hP _
    have hh0 : s₁.heap = s.heap := by rw [B.state]; rfl
    have ht : ∀ x ∈ c.exceptionTable.toList, False := by
      obtain ⟨meth9, c9, h1, h2, -, -, -, -, h7, -⟩ := Cond.code_spec B.named (atoms_spec (ws := ws) B.pre _ (by rw [hw]; exact List.mem_cons_self))
      cases Option.some.inj (h1.symm.trans B.method)
      cases Option.some.inj (h2.symm.trans (Stand.of_body B).code)
      intro x hx
      rw [Array.isEmpty_iff.mp h7] at hx
      cases hx
    obtain ⟨t, a1, o, b1, b2, b3⟩ := body p e s m args below meth c s₁ B hml ht hP s₁ hh0 (Stand.of_body B)
    exact ⟨t, o, a1, b1, b2, b3⟩
/-- the table of a body with handlers -/
theorem vx_table {p : Program} {x y : MethodName} {S : Spec} {cc bytes : ByteArray} {maxL maxL' : Nat} {ret ret' : Option FieldType} {e : Env} {s s₁ : State} {m : MethodId} {args : Array Value} {below : List Frame} {meth : Method} {c : Code} {hh : List (Nat × Nat × Nat × Nat)}
    (B : BodyLoose p l y S cc maxL ret e s m args below meth c s₁) (h : (Cond.codeWith y bytes maxL' ret' hh).before args s = true) : c.exceptionTable.toList = tableOf hh := by
  obtain ⟨m9, meth9, c9, hn9, h1, h2, -, -, h6, -⟩ := Cond.codeWith_spec h
  cases Option.some.inj (hn9.symm.trans B.named)
  cases Option.some.inj (h1.symm.trans B.method)
  cases Option.some.inj (h2.symm.trans (Stand.of_body B).code)
  rw [← h6, table_eq]
end Bodies
end VXA
section VXS
variable {p : Program} {l : Launch} {e : Env} {R : Room} {s : State} {m : MethodId} {args : Array Value} {below : List Frame} {meth : Method} {c : Code} {T : State} {H : Heap} {locs : List Loc} {cells slots : Nat}
abbrev vx_CSW (R : Room) (s : State) (args : Array Value) (own : String) (index : Nat) (y : MethodName) (bytes : ByteArray) (maxL : Nat) (ret : Option FieldType) (hh : List (Nat × Nat × Nat × Nat)) (ws : List Cond) (rm : Room) (mc ms n : Nat) : Prop :=
  (rm.cells = mc ∧ rm.slots = ms ∧ rm.frames + 1 ≤ R.frames ∧ 8 + (maxL + 11) + rm.locals ≤ R.locals ∧ (∀ w ∈ ws, ∀ (a' : Array Value) (U : State), s.WarmedH U.vm → w.before a' U = true) ∧ Cond.codeWith y bytes maxL ret hh ∈ ws) ∧
  (Cond.codeWith y bytes maxL ret hh).before args s = true ∧ (Cond.initialized y.cls).before args s = true ∧ (y.cls ≠ "java/lang/invoke/MethodHandle" ∧ y.cls ≠ "java/lang/invoke/VarHandle") ∧
  (∀ sig, parseMethodDescriptor y.desc = some sig → n = sig.parameters.length) ∧ (Cond.methodLink own index y).before args s = true ∧ (Cond.static y).before args s = true
theorem vx_cwSW {own : String} {index maxL mc ms : Nat} {y : MethodName} {bytes : ByteArray} {ret : Option FieldType} {hh : List (Nat × Nat × Nat × Nat)} {Ts ws ws' : List Cond} {rm : Room} (n : Nat) (ht : ∀ w ∈ Ts, w.before args s = true) (hT : GoodIn Ts (va_wsS own index y ws)) (hw : ws = Cond.codeWith y bytes maxL ret hh :: ws') (hrc : rm.cells = mc) (hrs : rm.slots = ms)
    (hd : y.cls ≠ "java/lang/invoke/MethodHandle" ∧ y.cls ≠ "java/lang/invoke/VarHandle" ∧ (parseMethodDescriptor y.desc).map (fun d => d.parameters.length) = some n) (hR : rm.frames + 1 ≤ R.frames ∧ 8 + (maxL + 11) + rm.locals ≤ R.locals) :
    vx_CSW R s args own index y bytes maxL ret hh ws rm mc ms n := by
  have ok : ∀ w ∈ va_wsS own index y ws, w.before args s = true := fun w h => ht w (hT w h).1
  have hG : GoodIn Ts ws := fun w h => hT w (by unfold va_wsS; exact List.mem_append_right _ h)
  have hc : Cond.codeWith y bytes maxL ret hh ∈ ws := by rw [hw]; exact List.mem_cons_self
  refine ⟨⟨hrc, hrs, hR.1, hR.2, pay_in ht hG, hc⟩, ht _ (hG _ hc).1, ok _ (by simp [va_wsS]), ⟨hd.1, hd.2.1⟩, fun sig h => ?_, ok _ (by simp [va_wsS]), ok _ (by simp [va_wsS])⟩
  have h2 := hd.2.2
  rw [h] at h2
  exact (Option.some.inj h2).symm
theorem vx_callSW (X : Stand p l e R s m args below meth c T locs cells slots) (hexec : p.tables.exec = Jvm.exec) {own : String} {index : Nat} {y : MethodName} {bytes : ByteArray} {maxL : Nat} {ret : Option FieldType} {hh : List (Nat × Nat × Nat × Nat)}
    (hown : s.vm.findClass own = some m.cls) (hlink : (Cond.methodLink own index y).before args s = true) (hstat : (Cond.static y).before args s = true) (hinit : (Cond.initialized y.cls).before args s = true)
    (hcode : (Cond.codeWith y bytes maxL ret hh).before args s = true) (hy : y.cls ≠ "java/lang/invoke/MethodHandle" ∧ y.cls ≠ "java/lang/invoke/VarHandle")
    {W9 : Nat} {Pre : Pt → Array Value → Prop} {Post : Pt → Array Value → Option Value → Pt → Prop} (hK : Back l R p e below s args y 3 W9 Pre Post)
    {g : JFrame} (hg : g.method = m) (hsize : g.locals.size = c.maxLocals) {argsL rest : List Value} (hlen : ∀ sig, parseMethodDescriptor y.desc = some sig → argsL.length = sig.parameters.length)
    (hstack : g.stack = argsL.reverse ++ rest) (hW : 2 * g.monitorRoom + (rest.map fun v => v.category).sum ≤ W9) (hdg : decode c.code g.pc = .ok (.invokestatic index, 3))
    (hpre : ∀ vm₁, s.WarmedH vm₁ → Pre ⟨T.setVm vm₁, locs, cells, slots⟩ argsL.toArray) :
    ∃ (v : Option Value) (vm₁ : Vm) (B : Pt), s.WarmedH vm₁ ∧ Stand p l e R s m args below meth c B.U B.locs B.cells B.slots ∧ Post ⟨T.setVm vm₁, locs, cells, slots⟩ argsL.toArray v B ∧
      ∀ target, Steps p.tables e below (B.U.setTop { g with pc := g.pc + 3, stack := v.toList ++ rest }) target → Steps p.tables e below (T.setTop g) target := by
  obtain ⟨mk, methM, cM, hnamed, hmethM, -, -, -, -, -, -, hsigM⟩ := Cond.codeWith_spec hcode
  have hstatic : methM.isStatic = true := Cond.static_spec hnamed hmethM hstat
  obtain ⟨kP, hkP, -⟩ := className_of_methodNamed hnamed
  have hinitP : kP.init = .initialized := Cond.initialized_spec (findClass_of_methodNamed hnamed) hkP hinit
  obtain ⟨vm₁, X₁, hstep₁⟩ := X.invokestatic hexec hown hlink hnamed hmethM hstatic hkP hinitP hy (g := g) hg (argsL := argsL) (rest := rest) (hlen _ hsigM) hstack hdg
  obtain ⟨v, B, X', hpost, hsteps⟩ := hK m meth c ⟨T.setVm vm₁, locs, cells, slots⟩ { g with stack := rest } (.invokestatic index) mk argsL.toArray X₁ hg hsize hdg hW (X₁.named hnamed) (hpre vm₁ X₁.warmed)
  exact ⟨v, vm₁, B, X₁.warmed, X', hpost, fun target h => hstep₁ _ fun acts => by rw [doInvoke_state]; exact hsteps.trans h⟩
theorem vx_runSW {y : MethodName} {bytes cc : ByteArray} {maxL nL mc ms n index : Nat} {ret : Option FieldType} {hh : List (Nat × Nat × Nat × Nat)} {ws : List Cond} {rm : Room} {Pc : Array Value → State → Prop} {Qc : Array Value → State → Outcome → State → Prop} {free : Addr → Prop} {Ts : List Cond} {own : String} {As rest : List Value} {g : JFrame}
    (S : CallFix p m c cc nL s args Ts own) (hM : Met l y ws rm Pc Qc mc ms free) (cw : vx_CSW R s args own index y bytes maxL ret hh ws rm mc ms n) (hp : PreS s H Pc As)
    (hg : g.method = m) (hn : As.length = n) (hsize : g.locals.size = nL) (hstack : g.stack = As.reverse ++ rest) (hW : 2 * g.monitorRoom + (rest.map fun v => v.category).sum ≤ 8) (hdg : decode cc g.pc = .ok (.invokestatic index, 3)) (hf : cells + mc ≤ R.cells ∧ slots + ms ≤ R.slots) :
    va_Run p l e R s m args below meth c H locs cells slots mc ms g rest (Qc As.toArray) (free) := by
  obtain ⟨⟨hrc, hrs, hfr, hlo, hws, hcw⟩, hcode, hini, hy, hlen, hl, hstt⟩ := cw
  have hK : Back l R p e below s args y 3 8 (PreOf R mc ms Pc) (PostOf Qc mc ms free) := va_backW (hh := hh) (bytes := bytes) (maxL := maxL) (ret := ret) hM hp.1 hrc hrs hfr hlo hws hcw (fun a' U hW => word_at hW (Or.inl (by first | rfl | simp [Cond.onTables, Cond.keeps, Cond.steady])) hini)
  obtain ⟨hx, hb, hml, ho, -⟩ := S
  intro T hT X
  obtain ⟨v, vm₁, ⟨U', l2, c2, s2⟩, hW₁, X', ⟨g', mk, t, L, e1, e2, hq, h1, hL, h2, h3⟩, st⟩ := vx_callSW X hx (hh := hh) (bytes := bytes) (maxL := maxL) (ret := ret) ho hl hstt hini hcode hy hK hg (hsize.trans hml.symm) (argsL := As) (rest := rest) (fun sig h => hn.trans (hlen sig h)) hstack hW (by rw [hb]; exact hdg)
    (fun vm₁ hW₁ => ⟨hf.1, hf.2, hp.2 (T.setVm vm₁) hT hW₁⟩)
  dsimp only [Pt.U, Pt.locs, Pt.cells, Pt.slots] at X' e1 e2 h1 h2 h3 st
  subst h1; subst h2; subst h3
  exact ⟨v, (T.setVm vm₁).calling g' mk As.toArray, t, U', L, hT, X', hL, e1, e2, hq, st⟩
end VXS
end
section
/-- thrown over a frame of a method whose table has one row: that row covers the place and names a class that takes it, so the walk goes on at its handler. (Our own row: the printed one names a law that rounds don't have.) -/
theorem kCatch {p : Program} {l : Launch} {e : Env} {R : Room} {s : State} {m : MethodId} {args : Array Value} {below : List Frame} {meth : Method} {c : Code} {H : Heap} {locs : List Loc} {cells slots : Nat} {Q : State → Prop} {ls : Array Slot} {rest : List Value} {pc : Nat}
    {own name E : String} {ce : Cell} {q : Addr} {x : ExceptionTableEntry} (hown : s.vm.findClass own = some m.cls) (hone : c.exceptionTable.toList = [x]) (hcov : covers x pc = true) (h0 : x.catchType ≠ 0)
    (hlink : (Cond.classLink own x.catchType name).before args s = true) (hcast : (Cond.castable E name).before args s = true) (hcell : H[q]? = some ce) (hv : ce.vm = .none) (hcl : s.vm.findClass E = some ce.cls)
    (kk : W p l e R s m args below meth c H locs cells slots Q (F0 m x.handlerPc ls [.ref q])) : vx_W p l e R s m args below meth c H locs cells slots Q (F0 m pc ls rest) q := by
  intro T hT X
  have hpl : e.platform.magicAccessors = ({} : Platform).magicAccessors := by rw [X.admits.platform]
  obtain ⟨cE, cN, hE, hN, hasg⟩ := Cond.castable_spec hcast
  obtain ⟨cL, hL, hlk⟩ := Cond.classLink_spec hown hlink e.platform hpl
  cases Option.some.inj (hE.symm.trans hcl)
  cases Option.some.inj (hN.symm.trans hL)
  obtain ⟨S, hSe⟩ : ∃ S : State, S = (T.setTop (F0 m pc ls rest)).pushFrame (.throwing q) := ⟨_, rfl⟩
  have hSv : S.vm = T.vm := by rw [hSe]; rfl
  have hSh : S.heap[q]? = some ce := by rw [hSe]; show T.heap[q]? = some ce; rw [hT]; exact hcell
  have hWS : s.WarmedH S.vm := by rw [hSv]; exact X.warmed
  have hlS : S.vm.ClassLinks e.platform m.cls x.catchType cN := hWS.classLinks hlk
  obtain ⟨hr1, hr2⟩ := (resolveClass_links e.toSetting hlS).op (op := VmOp.resolveClass m.cls x.catchType) rfl
  obtain ⟨vm1, hvm1⟩ : ∃ v : Vm, v = S.vm.noted m.cls x.catchType (.cls cN) := ⟨_, rfl⟩
  have hal : s.vm.Alike vm1 := by rw [hvm1]; exact hWS.alike.noted _ _ _
  obtain ⟨k1, hk1⟩ := Vm.classAt_of_findClass hcl
  obtain ⟨k2, hk2⟩ := Vm.classAt_of_findClass hL
  obtain ⟨k1', hk1', -⟩ := hal.2.2 _ _ hk1
  obtain ⟨k2', hk2', -⟩ := hal.2.2 _ _ hk2
  have hfit : vm1.assignable ce.cls cN = true := by rw [hal.assignable]; exact hasg
  have hns : ∀ k, ce.vm ≠ .statics k := fun k h => by rw [hv] at h; cases h
  have hcv : (decide (x.startPc ≤ pc) && decide (pc < x.endPc)) = true := hcov
  have hm : S.vm.method? m = some meth := by rw [hSv]; exact X.method'
  have hfind : ∀ (Q : Handler → Pre) (E : CtlPost) (d : Bool) (acts : List Action), wp (findHandler (F0 m pc ls rest) q) Q E e d acts S ↔ Q (.found x.handlerPc) d acts (S.setVm vm1) := by
    intro Q E d acts
    rw [W.findHandler_eq (f := F0 m pc ls rest) hm X.code, hone]
    have hcv1 : x.startPc ≤ pc ∧ pc < x.endPc := by simpa using hcv
    rw [hvm1] at hk1' hk2' hfit ⊢
    simp [findHandler.go, F0, hcv1.1, hcv1.2, h0, hr1, hr2, hSh, hns, hk1', hk2', hfit, VmOp.dirties, VmOp.acts]
  obtain ⟨dk, z1, z2, kt, hd, z3, z4, z5, z6, hkt, z7, hop⟩ := hlk.here
  have X' := X.noted (vm' := vm1) (by
    rw [hvm1, hSv]
    exact X.warmed.noted hd hop (State.rightAt_cls hlk))
  obtain ⟨t, st, hq⟩ := kk (T.setVm vm1) hT X'
  refine ⟨t, ?_, hq⟩
  obtain ⟨hgo, hwi⟩ := X.here.throwing (g := F0 m pc ls rest) q
  refine Steps.head hgo hwi ?_
  rw [stepThread_throwing (frames_entered X.here.top _)]
  have hstep : (stepThrowing e S q (.java (F0 m pc ls rest) :: T.frames.tail)).Is ((S.setVm vm1).setFrames (.java { F0 m pc ls rest with pc := x.handlerPc, stack := [.ref q] } :: T.frames.tail)) [] := by
    simp only [stepThrowing, searchFrame, vmDo]
    generalize hgo9 : Sem.go _ e false [] S = res
    obtain ⟨as, rfl, has⟩ := Sem.eq_ok_of hgo9 (a := Handler.found x.handlerPc) (s' := S.setVm vm1) (acts' := []) (by simp [hfind _ _ _ _])
    exact ⟨rfl, has⟩
  rw [← hSe, hstep.1]
  obtain ⟨g₀, hg⟩ := Option.isSome_iff_exists.mp X.here.top
  obtain ⟨r, hr⟩ := State.topJava?_eq_some.mp hg
  have hr' : (T.setVm vm1).frames = .java g₀ :: r := hr
  rw [State.setTop_of_frames _ hr'] at st
  have e1 : (S.setVm vm1).setFrames (.java { F0 m pc ls rest with pc := x.handlerPc, stack := [.ref q] } :: T.frames.tail) = (T.setVm vm1).setFrames (.java (F0 m x.handlerPc ls [.ref q]) :: r) := by
    rw [hSe, State.pushFrame, State.setTop_of_frames _ hr, hr]
    have e2 : ∀ (u : State) (F G : List Frame), ((u.setFrames F).setVm vm1).setFrames G = (u.setVm vm1).setFrames G := fun u F G => by
      rw [show (u.setFrames F).setVm vm1 = (u.setVm vm1).setFrames F from rfl, State.setFrames_setFrames]
    rw [e2, e2]
    rfl
  rw [e1]
  exact st
abbrev kNS : String := "java/util/NoSuchElementException"
abbrev kNs : List String := ["java/lang/RuntimeException", "java/lang/Exception"]
/-- what a throw needs beside the tables' good words: three declared makers, a cast, two statics of Throwable -/
def kThr (A : Nat → Prop) (U : State) : Prop := va_Nw (.declares (Bundle.init0 "java/lang/RuntimeException")) U ∧ va_Nw (.declares (Bundle.init0 "java/lang/Exception")) U ∧ va_Nw (.declares (Bundle.init0 Bundle.tN)) U ∧ va_Nw (.castable kNS kNS) U ∧ vx_Zq Bundle.tN "UNASSIGNED_STACK" Bundle.steD A U U.heap ∧ vx_Zq Bundle.tN "SUPPRESSED_SENTINEL" Bundle.listD A U U.heap
theorem kThr_blind {A : Nat → Prop} : ∀ (U : State) (g : JFrame) (mk : MethodId) (a : Array Value), kThr A U → kThr A (U.calling g mk a) := fun U _ _ _ h => by
  obtain ⟨h1, h2, h3, h4, h5, h6⟩ := h
  exact ⟨va_Nw.same (u := U) rfl rfl h1, va_Nw.same (u := U) rfl rfl h2, va_Nw.same (u := U) rfl rfl h3, va_Nw.same (u := U) rfl rfl h4, vx_Zq.moved (u := U) (Vm.Alike.refl U.vm) h5, vx_Zq.moved (u := U) (Vm.Alike.refl U.vm) h6⟩
theorem kThr_give {A : Nat → Prop} {s : State} {H : Heap} {locs : List Loc} (h : kThr A s) (hS : va_S A s.heap H locs) : ∀ U : State, U.heap = H → s.WarmedH U.vm → kThr A U := fun U hU hW => by
  obtain ⟨h1, h2, h3, h4, h5, h6⟩ := h
  have hq : ∀ a : Nat, a < s.heap.size → ¬ A a → U.heap[a]? = s.heap[a]? := fun a z1 z2 => by rw [hU]; exact hS.2.1 a z1 z2
  exact ⟨va_Nw.warmD hW h1, va_Nw.warmD hW h2, va_Nw.warmD hW h3, va_Nw.warmC hW h4, vx_Zq.moved hW.alike (h5.kept hq), vx_Zq.moved hW.alike (h6.kept hq)⟩
def kBadL : List Cond := [.declares (Bundle.init0 "java/lang/RuntimeException"), .declares (Bundle.init0 "java/lang/Exception"), .declares (Bundle.init0 Bundle.tN), .castable kNS kNS]
theorem kBadL_in : ∀ w ∈ (vx_at0 RX9 144 kNS kNs).filter (fun w => !goodWord w), w ∈ kBadL := by decide +kernel
theorem kThr_bad {A : Nat → Prop} {s : State} {args : Array Value} (h : kThr A s) : ∀ w ∈ kBadL, w.before args s = true := by
  obtain ⟨h1, h2, h3, h4, -, -⟩ := h
  exact vx_c (va_Nw.use rfl h1) (vx_c (va_Nw.use rfl h2) (vx_c (va_Nw.use rfl h3) (vx_c (va_Nw.use rfl h4) vx_n)))
theorem kThr_ot : ∀ w ∈ Cond.classLink RX9 142 kNS :: Cond.initialized kNS :: vx_at0 RX9 144 kNS kNs, vx_ot w = true := by decide +kernel
theorem kAtGood : ((vx_at0 RX9 144 kNS kNs).filter goodWord).all goodWord = true := by decide +kernel
end
section
/-- the shelves, and what a throw needs -/
def kPubT (dC : Nat → ClassId) (dI : Nat → Nat → Nat) (kl : Nat) (gL : Nat → Option Nat) (yL : Nat → List kTr) (ku : Nat) (gU : Nat → Option Nat) (yU : Nat → List kTr) (A : Nat → Prop) (U : State) : Prop := kPub dC dI kl gL yL ku gU yU A U ∧ kThr A U
theorem kThr_narrow {A B : Nat → Prop} {U : State} (h : kThr A U) (hB : ∀ q, B q → A q) : kThr B U := ⟨h.1, h.2.1, h.2.2.1, h.2.2.2.1, h.2.2.2.2.1.narrow hB, h.2.2.2.2.2.narrow hB⟩
theorem kPubT_blind {dC : Nat → ClassId} {dI : Nat → Nat → Nat} {kl : Nat} {gL : Nat → Option Nat} {yL : Nat → List kTr} {ku : Nat} {gU : Nat → Option Nat} {yU : Nat → List kTr} {A : Nat → Prop} : ∀ (U : State) (g : JFrame) (mk : MethodId) (a : Array Value), kPubT dC dI kl gL yL ku gU yU A U → kPubT dC dI kl gL yL ku gU yU A (U.calling g mk a) := fun U g mk a h => ⟨kPub_blind U g mk a h.1, kThr_blind U g mk a h.2⟩
theorem kPubT_give {dC : Nat → ClassId} {dI : Nat → Nat → Nat} {kl : Nat} {gL : Nat → Option Nat} {yL : Nat → List kTr} {ku : Nat} {gU : Nat → Option Nat} {yU : Nat → List kTr} {A B : Nat → Prop} {s : State} {H : Heap} {locs : List Loc} (h : kPubT dC dI kl gL yL ku gU yU A s) (hS : va_S A s.heap H locs) (hB : ∀ q, B q → A q) : ∀ U : State, U.heap = H → s.WarmedH U.vm → kPubT dC dI kl gL yL ku gU yU B U := fun U hU hW => ⟨kPub_give h.1 hS hB U hU hW, kThr_narrow (kThr_give h.2 hS U hU hW) hB⟩
def kAtF : List Cond := (vx_at0 RX9 144 kNS kNs).filter goodWord
theorem gw_kAtF : (kAtF).all goodWord = true := by decide +kernel

def w_s_worth9 : List Cond := .code yX9_worth cX9_worth 5 (some .int) :: ([.fieldLink RX9 37 "NotEnded" "laws" "LNotEnded$Shelf;", .initialized RX7, .selects RX7 yX7_at yX7_at, .instanceMethod yX7_at, .methodLink RX9 138 yX7_at, .classLink RX9 142 "java/util/NoSuchElementException", .initialized "java/util/NoSuchElementException", .initialized RX9, .static yX9_isIn, .methodLink RX9 117 yX9_isIn, .fieldLink RX9 47 "NotEnded" "folk" "LNotEnded$Folk;", .initialized RX2, .selects RX2 yX2_has yX2_has, .instanceMethod yX2_has, .methodLink RX9 128 yX2_has, .fieldLink RX9 56 "NotEnded" "course" "LNotEnded$Course;", .initialized RX1, .selects RX1 yX1_begin yX1_begin, .instanceMethod yX1_begin, .methodLink RX9 145 yX1_begin, .selects RX1 yX1_worthNow yX1_worthNow, .instanceMethod yX1_worthNow, .methodLink RX9 149 yX1_worthNow] ++ (wsX90 ++ (w_s_at7y ++ (kAtF ++ (w_s_isIn9 ++ (w_s_has2x ++ (w_s_begin1x ++ (w_s_worthNow1x))))))))
theorem gw_s_worth9 : (w_s_worth9).all goodWord = true := kGc rfl (kGa (by decide +kernel) (kGa gw_wsX90 (kGa gw_s_at7y (kGa gw_kAtF (kGa gw_s_isIn9 (kGa gw_s_has2x (kGa gw_s_begin1x gw_s_worthNow1x)))))))
theorem hd_X9_worth : yX9_worth.cls ≠ "java/lang/invoke/MethodHandle" ∧ yX9_worth.cls ≠ "java/lang/invoke/VarHandle" ∧ (parseMethodDescriptor yX9_worth.desc).map (fun d => d.parameters.length) = some 3 := by decide +kernel
set_option maxHeartbeats 4000000 in
set_option maxRecDepth 100000 in
theorem s_worth9 (l : Launch) (hlt : l.stackTraces = false) (dC : Nat → ClassId) (dI : Nat → Nat → Nat) (jX : Nat) (jT : Nat) (jR : Nat) (jL : Nat) (jU : Nat) (hN : Nat) (jA : Nat) (sd : Nat) (jC : Nat) (d2 : Nat) (d3 : Nat) (d4 : Nat) (d5 : Nat) (d6 : Nat) (d7 : Nat) (d8 : Nat) (d9 : Nat) (d10 : Nat) (d11 : Nat) (d12 : Nat) (d13 : Nat) (w2 : ClassId) (w3 : ClassId) (w4 : ClassId) (w5 : ClassId) (w6 : ClassId) (w7 : ClassId) (w8 : ClassId) (w9 : ClassId) (w10 : ClassId) (w11 : ClassId) (w12 : ClassId) (w13 : ClassId) (e2 : Nat → Int32) (e3 : Nat → Int32) (e4 : Nat → Int32) (e5 : Nat → Int32) (e6 : Nat → Int32) (e7 : Nat → Int32) (e8 : Nat → Int32) (e9 : Nat → Int32) (e10 : Nat → Int32) (e11 : Nat → Int32) (e12 : Nat → Int32) (e13 : Nat → Int64) (dr : Int64) (pr : Int32) (mo : Int32) (ho : Int32) (hF : Nat) (f0 : Nat) (f1 : Nat) (f2 : Nat) (f3 : Nat) (f4 : Nat) (z0 : ClassId) (z1 : ClassId) (z2 : ClassId) (z3 : ClassId) (z4 : ClassId) (g0 : Nat → Int32) (g1 : Nat → Int32) (g2 : Nat → Int32) (g3 : Nat → Int32) (g4 : Nat → Int32) (ks : Nat) (kw : Nat) (hks : ks ≤ 10) (hkw : kw ≤ 4) (sv : Nat) (hsv : sv < 1024) (jK : Nat) (k0 : Nat) (k1 : Nat) (cK : ClassId) (cO : ClassId) (l0 : Nat → Int32) (l1 : Nat → Int32) (o0 : Nat) (o1 : Nat) (o2 : Nat) (o3 : Nat) (o4 : Nat) (y0 : ClassId) (y1 : ClassId) (y2 : ClassId) (y3 : ClassId) (y4 : ClassId) (q0 : Nat → Int32) (q1 : Nat → Int32) (q2 : Nat → Int32) (q3 : Nat → Int32) (q4 : Nat → Int32) (kn : Nat) (hkn : kn ≤ 20) (i0 : Nat) (i1 : Nat) (i2 : Nat) (i3 : Nat) (x0 : ClassId) (x1 : ClassId) (x2 : ClassId) (x3 : ClassId) (t0 : Nat → Int32) (t1 : Nat → Int32) (t2 : Nat → Int32) (t3 : Nat → Int32) (ka : Nat) (hka : ka ≤ 6) (lw : Value) (rL : Nat) (cL : ClassId) (gL : Nat → Option Nat) (kl : Nat) (hkl : kl ≤ 6) (yL : Nat → List kTr) (rU : Nat) (cU : ClassId) (gU : Nat → Option Nat) (ku : Nat) (hku : ku ≤ 8) (yU : Nat → List kTr) (cD : ClassId) (gD : Nat → Int32) (hOk0 : kOk ks (kS0 g0 g1 g2 0)) (p0 : Int32) (p1 : Int32) (p2 : Int32) (sz : Nat) : vx_Met l yX9_worth w_s_worth9 ({ frames := 10, cells := 1, slots := 6, locals := 600 }) (kW dC dI [.ref jX, .int p0, .int p1, .int p2] [(jX, .inr (9, [.ref jT, .ref jR, .ref jK, .ref jL, .ref jU, .ref hF, .ref jC, .ref hN, .ref jA, .ref sd])), (jC, .inr (1, [.ref hF, .ref jK, .ref d2, .ref d3, .ref d4, .ref d5, .ref d6, .ref d7, .ref d8, .ref d9, .ref d10, .ref d11, .ref d12, .ref d13, lw, .long dr, .int pr, .int mo, .int ho])), (d2, .inl (w2, 10, .inl e2)), (d3, .inl (w3, 10, .inl e3)), (d4, .inl (w4, 10, .inl e4)), (d5, .inl (w5, 10, .inl e5)), (d6, .inl (w6, 10, .inl e6)), (d7, .inl (w7, 10, .inl e7)), (d8, .inl (w8, 10, .inl e8)), (d9, .inl (w9, 10, .inl e9)), (d10, .inl (w10, 4, .inl e10)), (d11, .inl (w11, 4, .inl e11)), (d12, .inl (w12, 4, .inl e12)), (d13, .inl (w13, 9, .inr (.inl e13))), (hF, .inr (2, [.ref f0, .ref f1, .ref f2, .ref f3, .ref f4, .int (nI (sv)), .int (nI (ks)), .int (nI (kw))])), (f0, .inl (z0, 10, .inl g0)), (f1, .inl (z1, 10, .inl g1)), (f2, .inl (z2, 10, .inl g2)), (f3, .inl (z3, 10, .inl g3)), (f4, .inl (z4, 4, .inl g4)), (jK, .inr (5, [.ref k0, .ref k1])), (k0, .inl (cK, 8, .inl l0)), (k1, .inl (cO, 32, .inl l1)), (hN, .inr (3, [.ref o0, .ref o1, .ref o2, .ref o3, .ref o4, .int (nI (kn))])), (o0, .inl (y0, 20, .inl q0)), (o1, .inl (y1, 20, .inl q1)), (o2, .inl (y2, 20, .inl q2)), (o3, .inl (y3, 20, .inl q3)), (o4, .inl (y4, 20, .inl q4)), (jA, .inr (0, [.ref i0, .ref i1, .ref i2, .ref i3, .int (nI (ka))])), (i0, .inl (x0, 6, .inl t0)), (i1, .inl (x1, 6, .inl t1)), (i2, .inl (x2, 6, .inl t2)), (i3, .inl (x3, 6, .inl t3)), (jL, .inr (7, [.ref rL, .int (nI (kl))])), (rL, .inl (cL, 6, .inr (.inr (.inr (.inr gL))))), (jU, .inr (7, [.ref rU, .int (nI (ku))])), (rU, .inl (cU, 8, .inr (.inr (.inr (.inr gU))))), (sd, .inl (cD, 10, .inl gD))] [(w2, .int), (w3, .int), (w4, .int), (w5, .int), (w6, .int), (w7, .int), (w8, .int), (w9, .int), (w10, .int), (w11, .int), (w12, .int), (w13, .long), (z0, .int), (z1, .int), (z2, .int), (z3, .int), (z4, .int), (cK, .int), (cO, .int), (y0, .int), (y1, .int), (y2, .int), (y3, .int), (y4, .int), (x0, .int), (x1, .int), (x2, .int), (x3, .int), (cL, .object RX6), (cU, .object RX6), (cD, .int)] (kPubT dC dI kl gL yL ku gU yU (va_A [(jX, .inr (9, [.ref jT, .ref jR, .ref jK, .ref jL, .ref jU, .ref hF, .ref jC, .ref hN, .ref jA, .ref sd])), (jC, .inr (1, [.ref hF, .ref jK, .ref d2, .ref d3, .ref d4, .ref d5, .ref d6, .ref d7, .ref d8, .ref d9, .ref d10, .ref d11, .ref d12, .ref d13, lw, .long dr, .int pr, .int mo, .int ho])), (d2, .inl (w2, 10, .inl e2)), (d3, .inl (w3, 10, .inl e3)), (d4, .inl (w4, 10, .inl e4)), (d5, .inl (w5, 10, .inl e5)), (d6, .inl (w6, 10, .inl e6)), (d7, .inl (w7, 10, .inl e7)), (d8, .inl (w8, 10, .inl e8)), (d9, .inl (w9, 10, .inl e9)), (d10, .inl (w10, 4, .inl e10)), (d11, .inl (w11, 4, .inl e11)), (d12, .inl (w12, 4, .inl e12)), (d13, .inl (w13, 9, .inr (.inl e13))), (hF, .inr (2, [.ref f0, .ref f1, .ref f2, .ref f3, .ref f4, .int (nI (sv)), .int (nI (ks)), .int (nI (kw))])), (f0, .inl (z0, 10, .inl g0)), (f1, .inl (z1, 10, .inl g1)), (f2, .inl (z2, 10, .inl g2)), (f3, .inl (z3, 10, .inl g3)), (f4, .inl (z4, 4, .inl g4)), (jK, .inr (5, [.ref k0, .ref k1])), (k0, .inl (cK, 8, .inl l0)), (k1, .inl (cO, 32, .inl l1)), (hN, .inr (3, [.ref o0, .ref o1, .ref o2, .ref o3, .ref o4, .int (nI (kn))])), (o0, .inl (y0, 20, .inl q0)), (o1, .inl (y1, 20, .inl q1)), (o2, .inl (y2, 20, .inl q2)), (o3, .inl (y3, 20, .inl q3)), (o4, .inl (y4, 20, .inl q4)), (jA, .inr (0, [.ref i0, .ref i1, .ref i2, .ref i3, .int (nI (ka))])), (i0, .inl (x0, 6, .inl t0)), (i1, .inl (x1, 6, .inl t1)), (i2, .inl (x2, 6, .inl t2)), (i3, .inl (x3, 6, .inl t3)), (jL, .inr (7, [.ref rL, .int (nI (kl))])), (rL, .inl (cL, 6, .inr (.inr (.inr (.inr gL))))), (jU, .inr (7, [.ref rU, .int (nI (ku))])), (rU, .inl (cU, 8, .inr (.inr (.inr (.inr gU))))), (sd, .inl (cD, 10, .inl gD))] sz)) sz) (va_Qi (fun (r : Int32) (u : (Nat → Int32) × (Nat → Int32) × (Nat → Int32) × (Nat → Int32) × (Nat → Int32) × (Nat → Int32) × (Nat → Int32) × (Nat → Int32) × (Nat → Int32) × (Nat → Int32) × (Nat → Int32) × (Nat → Int64) × (Nat → Int32) × (Nat → Int32) × Int32 × Int32 × Int32 × Int64 × Value) => match u with | (E2, E3, E4, E5, E6, E7, E8, E9, E10, E11, E12, E13, L0, L1, Pr, Mo, Ho, Dr, Lw) => (r = kWoV kl ks kw g0 g1 g2 g3 g4 sv yL p0 p1 p2 ∧ kWoE kl ks p0 p1 p2 = 0)) (fun (u : (Nat → Int32) × (Nat → Int32) × (Nat → Int32) × (Nat → Int32) × (Nat → Int32) × (Nat → Int32) × (Nat → Int32) × (Nat → Int32) × (Nat → Int32) × (Nat → Int32) × (Nat → Int32) × (Nat → Int64) × (Nat → Int32) × (Nat → Int32) × Int32 × Int32 × Int32 × Int64 × Value) => match u with | (E2, E3, E4, E5, E6, E7, E8, E9, E10, E11, E12, E13, L0, L1, Pr, Mo, Ho, Dr, Lw) => fun t : State => kB dC dI [(jX, .inr (9, [.ref jT, .ref jR, .ref jK, .ref jL, .ref jU, .ref hF, .ref jC, .ref hN, .ref jA, .ref sd])), (jC, .inr (1, [.ref hF, .ref jK, .ref d2, .ref d3, .ref d4, .ref d5, .ref d6, .ref d7, .ref d8, .ref d9, .ref d10, .ref d11, .ref d12, .ref d13, Lw, .long Dr, .int Pr, .int Mo, .int Ho])), (d2, .inl (w2, 10, .inl E2)), (d3, .inl (w3, 10, .inl E3)), (d4, .inl (w4, 10, .inl E4)), (d5, .inl (w5, 10, .inl E5)), (d6, .inl (w6, 10, .inl E6)), (d7, .inl (w7, 10, .inl E7)), (d8, .inl (w8, 10, .inl E8)), (d9, .inl (w9, 10, .inl E9)), (d10, .inl (w10, 4, .inl E10)), (d11, .inl (w11, 4, .inl E11)), (d12, .inl (w12, 4, .inl E12)), (d13, .inl (w13, 9, .inr (.inl E13))), (hF, .inr (2, [.ref f0, .ref f1, .ref f2, .ref f3, .ref f4, .int (nI (sv)), .int (nI (ks)), .int (nI (kw))])), (f0, .inl (z0, 10, .inl g0)), (f1, .inl (z1, 10, .inl g1)), (f2, .inl (z2, 10, .inl g2)), (f3, .inl (z3, 10, .inl g3)), (f4, .inl (z4, 4, .inl g4)), (jK, .inr (5, [.ref k0, .ref k1])), (k0, .inl (cK, 8, .inl L0)), (k1, .inl (cO, 32, .inl L1)), (hN, .inr (3, [.ref o0, .ref o1, .ref o2, .ref o3, .ref o4, .int (nI (kn))])), (o0, .inl (y0, 20, .inl q0)), (o1, .inl (y1, 20, .inl q1)), (o2, .inl (y2, 20, .inl q2)), (o3, .inl (y3, 20, .inl q3)), (o4, .inl (y4, 20, .inl q4)), (jA, .inr (0, [.ref i0, .ref i1, .ref i2, .ref i3, .int (nI (ka))])), (i0, .inl (x0, 6, .inl t0)), (i1, .inl (x1, 6, .inl t1)), (i2, .inl (x2, 6, .inl t2)), (i3, .inl (x3, 6, .inl t3)), (jL, .inr (7, [.ref rL, .int (nI (kl))])), (rL, .inl (cL, 6, .inr (.inr (.inr (.inr gL))))), (jU, .inr (7, [.ref rU, .int (nI (ku))])), (rU, .inl (cU, 8, .inr (.inr (.inr (.inr gU))))), (sd, .inl (cD, 10, .inl gD))] [(w2, .int), (w3, .int), (w4, .int), (w5, .int), (w6, .int), (w7, .int), (w8, .int), (w9, .int), (w10, .int), (w11, .int), (w12, .int), (w13, .long), (z0, .int), (z1, .int), (z2, .int), (z3, .int), (z4, .int), (cK, .int), (cO, .int), (y0, .int), (y1, .int), (y2, .int), (y3, .int), (y4, .int), (x0, .int), (x1, .int), (x2, .int), (x3, .int), (cL, .object RX6), (cU, .object RX6), (cD, .int)] (va_A [(jX, .inr (9, [.ref jT, .ref jR, .ref jK, .ref jL, .ref jU, .ref hF, .ref jC, .ref hN, .ref jA, .ref sd])), (jC, .inr (1, [.ref hF, .ref jK, .ref d2, .ref d3, .ref d4, .ref d5, .ref d6, .ref d7, .ref d8, .ref d9, .ref d10, .ref d11, .ref d12, .ref d13, lw, .long dr, .int pr, .int mo, .int ho])), (d2, .inl (w2, 10, .inl e2)), (d3, .inl (w3, 10, .inl e3)), (d4, .inl (w4, 10, .inl e4)), (d5, .inl (w5, 10, .inl e5)), (d6, .inl (w6, 10, .inl e6)), (d7, .inl (w7, 10, .inl e7)), (d8, .inl (w8, 10, .inl e8)), (d9, .inl (w9, 10, .inl e9)), (d10, .inl (w10, 4, .inl e10)), (d11, .inl (w11, 4, .inl e11)), (d12, .inl (w12, 4, .inl e12)), (d13, .inl (w13, 9, .inr (.inl e13))), (hF, .inr (2, [.ref f0, .ref f1, .ref f2, .ref f3, .ref f4, .int (nI (sv)), .int (nI (ks)), .int (nI (kw))])), (f0, .inl (z0, 10, .inl g0)), (f1, .inl (z1, 10, .inl g1)), (f2, .inl (z2, 10, .inl g2)), (f3, .inl (z3, 10, .inl g3)), (f4, .inl (z4, 4, .inl g4)), (jK, .inr (5, [.ref k0, .ref k1])), (k0, .inl (cK, 8, .inl l0)), (k1, .inl (cO, 32, .inl l1)), (hN, .inr (3, [.ref o0, .ref o1, .ref o2, .ref o3, .ref o4, .int (nI (kn))])), (o0, .inl (y0, 20, .inl q0)), (o1, .inl (y1, 20, .inl q1)), (o2, .inl (y2, 20, .inl q2)), (o3, .inl (y3, 20, .inl q3)), (o4, .inl (y4, 20, .inl q4)), (jA, .inr (0, [.ref i0, .ref i1, .ref i2, .ref i3, .int (nI (ka))])), (i0, .inl (x0, 6, .inl t0)), (i1, .inl (x1, 6, .inl t1)), (i2, .inl (x2, 6, .inl t2)), (i3, .inl (x3, 6, .inl t3)), (jL, .inr (7, [.ref rL, .int (nI (kl))])), (rL, .inl (cL, 6, .inr (.inr (.inr (.inr gL))))), (jU, .inr (7, [.ref rU, .int (nI (ku))])), (rU, .inl (cU, 8, .inr (.inr (.inr (.inr gU))))), (sd, .inl (cD, 10, .inl gD))] sz) t) (va_A [(jX, .inr (9, [.ref jT, .ref jR, .ref jK, .ref jL, .ref jU, .ref hF, .ref jC, .ref hN, .ref jA, .ref sd])), (jC, .inr (1, [.ref hF, .ref jK, .ref d2, .ref d3, .ref d4, .ref d5, .ref d6, .ref d7, .ref d8, .ref d9, .ref d10, .ref d11, .ref d12, .ref d13, lw, .long dr, .int pr, .int mo, .int ho])), (d2, .inl (w2, 10, .inl e2)), (d3, .inl (w3, 10, .inl e3)), (d4, .inl (w4, 10, .inl e4)), (d5, .inl (w5, 10, .inl e5)), (d6, .inl (w6, 10, .inl e6)), (d7, .inl (w7, 10, .inl e7)), (d8, .inl (w8, 10, .inl e8)), (d9, .inl (w9, 10, .inl e9)), (d10, .inl (w10, 4, .inl e10)), (d11, .inl (w11, 4, .inl e11)), (d12, .inl (w12, 4, .inl e12)), (d13, .inl (w13, 9, .inr (.inl e13))), (hF, .inr (2, [.ref f0, .ref f1, .ref f2, .ref f3, .ref f4, .int (nI (sv)), .int (nI (ks)), .int (nI (kw))])), (f0, .inl (z0, 10, .inl g0)), (f1, .inl (z1, 10, .inl g1)), (f2, .inl (z2, 10, .inl g2)), (f3, .inl (z3, 10, .inl g3)), (f4, .inl (z4, 4, .inl g4)), (jK, .inr (5, [.ref k0, .ref k1])), (k0, .inl (cK, 8, .inl l0)), (k1, .inl (cO, 32, .inl l1)), (hN, .inr (3, [.ref o0, .ref o1, .ref o2, .ref o3, .ref o4, .int (nI (kn))])), (o0, .inl (y0, 20, .inl q0)), (o1, .inl (y1, 20, .inl q1)), (o2, .inl (y2, 20, .inl q2)), (o3, .inl (y3, 20, .inl q3)), (o4, .inl (y4, 20, .inl q4)), (jA, .inr (0, [.ref i0, .ref i1, .ref i2, .ref i3, .int (nI (ka))])), (i0, .inl (x0, 6, .inl t0)), (i1, .inl (x1, 6, .inl t1)), (i2, .inl (x2, 6, .inl t2)), (i3, .inl (x3, 6, .inl t3)), (jL, .inr (7, [.ref rL, .int (nI (kl))])), (rL, .inl (cL, 6, .inr (.inr (.inr (.inr gL))))), (jU, .inr (7, [.ref rU, .int (nI (ku))])), (rU, .inl (cU, 8, .inr (.inr (.inr (.inr gU))))), (sd, .inl (cD, 10, .inl gD))] sz)) (vx_X (fun _ : Unit => True) (fun E _ _ => E = kNS ∧ kWoE kl ks p0 p1 p2 = 1) (fun _ => False)) 1 6 (va_A [(jX, .inr (9, [.ref jT, .ref jR, .ref jK, .ref jL, .ref jU, .ref hF, .ref jC, .ref hN, .ref jA, .ref sd])), (jC, .inr (1, [.ref hF, .ref jK, .ref d2, .ref d3, .ref d4, .ref d5, .ref d6, .ref d7, .ref d8, .ref d9, .ref d10, .ref d11, .ref d12, .ref d13, lw, .long dr, .int pr, .int mo, .int ho])), (d2, .inl (w2, 10, .inl e2)), (d3, .inl (w3, 10, .inl e3)), (d4, .inl (w4, 10, .inl e4)), (d5, .inl (w5, 10, .inl e5)), (d6, .inl (w6, 10, .inl e6)), (d7, .inl (w7, 10, .inl e7)), (d8, .inl (w8, 10, .inl e8)), (d9, .inl (w9, 10, .inl e9)), (d10, .inl (w10, 4, .inl e10)), (d11, .inl (w11, 4, .inl e11)), (d12, .inl (w12, 4, .inl e12)), (d13, .inl (w13, 9, .inr (.inl e13))), (hF, .inr (2, [.ref f0, .ref f1, .ref f2, .ref f3, .ref f4, .int (nI (sv)), .int (nI (ks)), .int (nI (kw))])), (f0, .inl (z0, 10, .inl g0)), (f1, .inl (z1, 10, .inl g1)), (f2, .inl (z2, 10, .inl g2)), (f3, .inl (z3, 10, .inl g3)), (f4, .inl (z4, 4, .inl g4)), (jK, .inr (5, [.ref k0, .ref k1])), (k0, .inl (cK, 8, .inl l0)), (k1, .inl (cO, 32, .inl l1)), (hN, .inr (3, [.ref o0, .ref o1, .ref o2, .ref o3, .ref o4, .int (nI (kn))])), (o0, .inl (y0, 20, .inl q0)), (o1, .inl (y1, 20, .inl q1)), (o2, .inl (y2, 20, .inl q2)), (o3, .inl (y3, 20, .inl q3)), (o4, .inl (y4, 20, .inl q4)), (jA, .inr (0, [.ref i0, .ref i1, .ref i2, .ref i3, .int (nI (ka))])), (i0, .inl (x0, 6, .inl t0)), (i1, .inl (x1, 6, .inl t1)), (i2, .inl (x2, 6, .inl t2)), (i3, .inl (x3, 6, .inl t3)), (jL, .inr (7, [.ref rL, .int (nI (kl))])), (rL, .inl (cL, 6, .inr (.inr (.inr (.inr gL))))), (jU, .inr (7, [.ref rU, .int (nI (ku))])), (rU, .inl (cU, 8, .inr (.inr (.inr (.inr gU))))), (sd, .inl (cD, 10, .inl gD))] sz) := by
  sorry
end
section
def w_s_chk3n : List Cond := .code yJ3_checkIndex_8e157 cJ3_checkIndex_8e157 3 (some .int) :: ([])
def w_s_chk3r : List Cond := .code yJ3_checkIndex_8e157 cJ3_checkIndex_8e157 3 (some .int) :: ([])
def w_s_t_chk0 : List Cond := .code yJ0_checkIndex_df160 cJ0_checkIndex_df160 2 none :: ([.fieldLink RJ0 1053 "jdk/internal/util/Preconditions" "SIOOBE_FORMATTER" "Ljava/util/function/BiFunction;", .initialized RJ3, .static yJ3_checkIndex_8e157, .methodLink RJ0 1059 yJ3_checkIndex_8e157] ++ (w_s_chk3n ++ (w_s_chk3r)))
def w_s_isIn10 : List Cond := .code yX10_isIn cX10_isIn 3 (some .boolean) :: ([])
theorem gw_s_isIn10 : (w_s_isIn10).all goodWord = true := kGc rfl kGn
end
section
def w_s_goesIn10_0 : List Cond := .code yX10_goesIn cX10_goesIn 1 (some .boolean) :: ([.fieldLink RX10 153 "NotEndedModel" "deep" "I", .fieldLink RX10 141 "NotEndedModel" "at" "I"] ++ (wsX100))
def w_s_goesIn10_1 : List Cond := .code yX10_goesIn cX10_goesIn 1 (some .boolean) :: ([.fieldLink RX10 153 "NotEndedModel" "deep" "I", .fieldLink RX10 141 "NotEndedModel" "at" "I"] ++ (wsX100))
def w_s_goesIn10_2 : List Cond := .code yX10_goesIn cX10_goesIn 1 (some .boolean) :: ([.fieldLink RX10 153 "NotEndedModel" "deep" "I", .fieldLink RX10 141 "NotEndedModel" "at" "I"] ++ (wsX100))
def w_s_goesIn10_3 : List Cond := .code yX10_goesIn cX10_goesIn 1 (some .boolean) :: ([.fieldLink RX10 153 "NotEndedModel" "deep" "I", .fieldLink RX10 141 "NotEndedModel" "at" "I"] ++ (wsX100))
def w_s_goesIn10_4 : List Cond := .code yX10_goesIn cX10_goesIn 1 (some .boolean) :: ([.fieldLink RX10 153 "NotEndedModel" "deep" "I", .fieldLink RX10 141 "NotEndedModel" "at" "I"] ++ (wsX100))
def w_s_goesIn10_5 : List Cond := .code yX10_goesIn cX10_goesIn 1 (some .boolean) :: ([.fieldLink RX10 153 "NotEndedModel" "deep" "I", .fieldLink RX10 141 "NotEndedModel" "at" "I"] ++ (wsX100))
end
section
/-- the reference's texts -/
def kMx (ad : Nat → Nat) (bA nA : Nat) (xA : Nat → Int32) (bB nB : Nat) (xB : Nat → Int32) (bE nE : Nat) (xE : Nat → Int32) (bG nG : Nat) (xG : Nat → Int32) (A : Nat → Prop) (U : State) : Prop := kRd ad 5 7 bA nA xA bB nB xB A U ∧ kRd ad 6 8 bE nE xE bG nG xG A U
theorem kMx_blind {ad : Nat → Nat} {bA nA : Nat} {xA : Nat → Int32} {bB nB : Nat} {xB : Nat → Int32} {bE nE : Nat} {xE : Nat → Int32} {bG nG : Nat} {xG : Nat → Int32} {A : Nat → Prop} : ∀ (U : State) (g : JFrame) (mk : MethodId) (a : Array Value), kMx ad bA nA xA bB nB xB bE nE xE bG nG xG A U → kMx ad bA nA xA bB nB xB bE nE xE bG nG xG A (U.calling g mk a) := fun U g mk a h => ⟨kRd_blind U g mk a h.1, kRd_blind U g mk a h.2⟩
theorem kMx_give {ad : Nat → Nat} {bA nA : Nat} {xA : Nat → Int32} {bB nB : Nat} {xB : Nat → Int32} {bE nE : Nat} {xE : Nat → Int32} {bG nG : Nat} {xG : Nat → Int32} {A B : Nat → Prop} {s : State} {H : Heap} {locs : List Loc} (h : kMx ad bA nA xA bB nB xB bE nE xE bG nG xG A s) (hS : va_S A s.heap H locs) (hB : ∀ q, B q → A q) : ∀ U : State, U.heap = H → s.WarmedH U.vm → kMx ad bA nA xA bB nB xB bE nE xE bG nG xG B U := fun U hU hW => ⟨kRd_give h.1 hS hB U hU hW, kRd_give h.2 hS hB U hU hW⟩
end
section
/-- a byte as the reference keeps it -/
def kSg (v : Nat) : Int32 := if v < 128 then nI v else nI v - 256
/-- the texts that the reference keeps: their bytes are those of a text without a fault, whose clauses are y -/
def kUn (mf2 mf3 : Nat → Int32) (off k : Nat) (g6 : Nat → Int32) (n6 : Nat) (g7 : Nat → Int32) (n7 : Nat) (y : Nat → List kTr) : Prop := ∀ j : Nat, j < k → ∃ (sb : Nat → Nat) (sn : Nat), mf3 (off + j) = nI sn ∧ sn ≤ 120 ∧ (∀ q : Nat, q < sn → mf2 (120 * (off + j) + q) = kSg (sb q)) ∧ (∀ q : Nat, sb q < 256) ∧ (∀ q : Nat, q < sn → 1 ≤ sb q) ∧ (kRead sb sn g6 n6 g7 n7).1 = true ∧ y j = kReadT sb sn g6 n6 g7 n7
end
section
def w_s_look10x : List Cond := .code yX10_look cX10_look 1 (some .int) :: ([.fieldLink RX10 141 "NotEndedModel" "at" "I", .fieldLink RX10 144 "NotEndedModel" "ends" "I", .fieldLink RX10 23 "NotEndedModel" "text" "[B", .fieldLink RX10 147 "NotEndedModel" "begins" "I"] ++ (wsX100))
theorem gw_s_look10x : (w_s_look10x).all goodWord = true := kGc rfl (kGa (by decide +kernel) gw_wsX100)
def w_s_fails10x : List Cond := .code yX10_fails cX10_fails 1 (some .boolean) :: ([.fieldLink RX10 150 "NotEndedModel" "fault" "I", .fieldLink RX10 141 "NotEndedModel" "at" "I"] ++ (wsX100))
theorem gw_s_fails10x : (w_s_fails10x).all goodWord = true := kGc rfl (kGa (by decide +kernel) gw_wsX100)
def w_s_goesIn10x_6 : List Cond := .code yX10_goesIn cX10_goesIn 1 (some .boolean) :: ([.fieldLink RX10 153 "NotEndedModel" "deep" "I", .initialized RX10, .selects RX10 yX10_fails yX10_fails, .instanceMethod yX10_fails, .methodLink RX10 156 yX10_fails] ++ (wsX100 ++ (w_s_fails10x)))
def w_s_takes10x_58 : List Cond := .code yX10_takes cX10_takes 2 (some .boolean) :: ([.fieldLink RX10 150 "NotEndedModel" "fault" "I", .initialized RX10, .selects RX10 yX10_look yX10_look, .instanceMethod yX10_look, .methodLink RX10 160 yX10_look, .fieldLink RX10 141 "NotEndedModel" "at" "I", .selects RX10 yX10_fails yX10_fails, .instanceMethod yX10_fails, .methodLink RX10 156 yX10_fails] ++ (wsX100 ++ (w_s_look10x ++ (w_s_fails10x))))
def w_s_takes10x_63 : List Cond := .code yX10_takes cX10_takes 2 (some .boolean) :: ([.fieldLink RX10 150 "NotEndedModel" "fault" "I", .initialized RX10, .selects RX10 yX10_look yX10_look, .instanceMethod yX10_look, .methodLink RX10 160 yX10_look, .fieldLink RX10 141 "NotEndedModel" "at" "I", .selects RX10 yX10_fails yX10_fails, .instanceMethod yX10_fails, .methodLink RX10 156 yX10_fails] ++ (wsX100 ++ (w_s_look10x ++ (w_s_fails10x))))
def w_s_takes10x_41 : List Cond := .code yX10_takes cX10_takes 2 (some .boolean) :: ([.fieldLink RX10 150 "NotEndedModel" "fault" "I", .initialized RX10, .selects RX10 yX10_look yX10_look, .instanceMethod yX10_look, .methodLink RX10 160 yX10_look, .fieldLink RX10 141 "NotEndedModel" "at" "I", .selects RX10 yX10_fails yX10_fails, .instanceMethod yX10_fails, .methodLink RX10 156 yX10_fails] ++ (wsX100 ++ (w_s_look10x ++ (w_s_fails10x))))
def w_s_takes10x_93 : List Cond := .code yX10_takes cX10_takes 2 (some .boolean) :: ([.fieldLink RX10 150 "NotEndedModel" "fault" "I", .initialized RX10, .selects RX10 yX10_look yX10_look, .instanceMethod yX10_look, .methodLink RX10 160 yX10_look, .fieldLink RX10 141 "NotEndedModel" "at" "I", .selects RX10 yX10_fails yX10_fails, .instanceMethod yX10_fails, .methodLink RX10 156 yX10_fails] ++ (wsX100 ++ (w_s_look10x ++ (w_s_fails10x))))
def w_s_fails10f : List Cond := .code yX10_fails cX10_fails 1 (some .boolean) :: ([.fieldLink RX10 150 "NotEndedModel" "fault" "I"] ++ (wsX100))
def w_s_takes10f : List Cond := .code yX10_takes cX10_takes 2 (some .boolean) :: ([.fieldLink RX10 150 "NotEndedModel" "fault" "I", .initialized RX10, .selects RX10 yX10_fails yX10_fails, .instanceMethod yX10_fails, .methodLink RX10 156 yX10_fails] ++ (wsX100 ++ (w_s_fails10f)))
def w_s_isDigit10x : List Cond := .code yX10_isDigit cX10_isDigit 1 (some .boolean) :: ([.fieldLink RX10 141 "NotEndedModel" "at" "I", .fieldLink RX10 144 "NotEndedModel" "ends" "I", .fieldLink RX10 23 "NotEndedModel" "text" "[B", .fieldLink RX10 147 "NotEndedModel" "begins" "I"] ++ (wsX100))
def w_s_t_char1x : List Cond := .code yJ1_charAt_3b067 cJ1_charAt_3b067 2 (some .char) :: ([.initialized RJ0, .static yJ0_checkIndex_df160, .methodLink RJ1 9 yJ0_checkIndex_df160] ++ (w_s_t_chk0))
def w_s_t_charAtx : List Cond := .code yJ0_charAt_5068e cJ0_charAt_5068e 2 (some .char) :: ([.initialized RJ0, .selects RJ0 yJ0_isLatin1_aae02 yJ0_isLatin1_aae02, .instanceMethod yJ0_isLatin1_aae02, .methodLink RJ0 492 yJ0_isLatin1_aae02, .fieldLink RJ0 9 "java/lang/String" "value" "[B", .initialized RJ1, .static yJ1_charAt_3b067, .methodLink RJ0 495 yJ1_charAt_3b067] ++ (w_s_t_latin ++ (w_s_t_char1x)))
def w_s_among10x : List Cond := .code yX10_isAmong cX10_isAmong 3 (some .boolean) :: ([.initialized RJ0, .selects RJ0 yJ0_length_8abf5 yJ0_length_8abf5, .instanceMethod yJ0_length_8abf5, .methodLink RX10 121 yJ0_length_8abf5, .selects RJ0 yJ0_charAt_5068e yJ0_charAt_5068e, .instanceMethod yJ0_charAt_5068e, .methodLink RX10 127 yJ0_charAt_5068e] ++ (w_s_t_length ++ (w_s_t_charAtx)))
def w_s_isSign10x : List Cond := .code yX10_isSign cX10_isSign 1 (some .boolean) :: ([])
def w_s_within10x : List Cond := .code yX10_within cX10_within 2 (some .int) :: ([.constantLong RX10 163 (-1000000), .constantLong RX10 165 (1000000), .methodLink RX10 167 Lib.MathLoose.min_long.x, .static Lib.MathLoose.min_long.x, .initialized RJ9, .code Lib.MathLoose.min_long.x Lib.MathLoose.min_long.code 4 (some .long), .methodLink RX10 173 Lib.MathLoose.max_long.x, .static Lib.MathLoose.max_long.x, .code Lib.MathLoose.max_long.x Lib.MathLoose.max_long.code 4 (some .long)] ++ [])
end
section
def wf_mq : List Cond := [.initialized RX10, .selects RX10 yX10_look yX10_look, .instanceMethod yX10_look, .methodLink RX10 160 yX10_look, .fieldLink RX10 34 "NotEndedModel" "allowed" "Ljava/lang/String;", .static yX10_isAmong, .methodLink RX10 176 yX10_isAmong, .selects RX10 yX10_isDigit yX10_isDigit, .instanceMethod yX10_isDigit, .methodLink RX10 190 yX10_isDigit, .fieldLink RX10 150 "NotEndedModel" "fault" "I", .fieldLink RX10 23 "NotEndedModel" "text" "[B", .fieldLink RX10 147 "NotEndedModel" "begins" "I", .fieldLink RX10 141 "NotEndedModel" "at" "I", .selects RX10 yX10_fails yX10_fails, .instanceMethod yX10_fails, .methodLink RX10 156 yX10_fails, .selects RX10 yX10_goesIn yX10_goesIn, .instanceMethod yX10_goesIn, .methodLink RX10 180 yX10_goesIn, .fieldLink RX10 20 "NotEndedModel" "letters" "[I", .code yX10_atom cX10_atom 4 (some .int), .selects RX10 yX10_atom yX10_atom, .instanceMethod yX10_atom, .methodLink RX10 193 yX10_atom, .static yX10_within, .methodLink RX10 196 yX10_within, .code yX10_term cX10_term 5 (some .int), .selects RX10 yX10_term yX10_term, .instanceMethod yX10_term, .methodLink RX10 200 yX10_term, .code yX10_sum cX10_sum 5 (some .int), .selects RX10 yX10_sum yX10_sum, .instanceMethod yX10_sum, .methodLink RX10 183 yX10_sum, .static yX10_isSign, .methodLink RX10 203 yX10_isSign, .code yX10_compares cX10_compares 6 (some .boolean), .selects RX10 yX10_compares yX10_compares, .instanceMethod yX10_compares, .methodLink RX10 213 yX10_compares, .code yX10_unit cX10_unit 3 (some .boolean), .selects RX10 yX10_unit yX10_unit, .instanceMethod yX10_unit, .methodLink RX10 206 yX10_unit, .code yX10_part cX10_part 5 (some .boolean), .selects RX10 yX10_part yX10_part, .instanceMethod yX10_part, .methodLink RX10 216 yX10_part, .selects RX10 yX10_takes yX10_takes, .instanceMethod yX10_takes, .methodLink RX10 186 yX10_takes, .fieldLink RX10 153 "NotEndedModel" "deep" "I", .code yX10_condition cX10_condition 5 (some .boolean), .selects RX10 yX10_condition yX10_condition, .instanceMethod yX10_condition, .methodLink RX10 209 yX10_condition, .fieldLink RX10 28 "NotEndedModel" "labels" "Ljava/lang/String;", .fieldLink RX10 219 "NotEndedModel" "hasFound" "Z", .fieldLink RX10 223 "NotEndedModel" "label" "I", .fieldLink RX10 226 "NotEndedModel" "found" "I"] ++ (w_s_look10x ++ (wsX100 ++ (w_s_among10x ++ (w_s_isDigit10x ++ (w_s_fails10x ++ (w_s_goesIn10x_6 ++ (w_s_within10x ++ (w_s_isSign10x ++ (w_s_goesIn10_5 ++ (w_s_takes10x_93 ++ (w_s_takes10f ++ (w_s_takes10x_41 ++ (w_s_goesIn10_4 ++ (w_s_goesIn10_3 ++ (w_s_goesIn10_2 ++ (w_s_goesIn10_1 ++ (w_s_goesIn10_0 ++ (w_s_takes10x_58 ++ (w_s_takes10x_63)))))))))))))))))))
theorem gf_mq : (wf_mq).all goodWord = true := by decide +kernel
end
section
def w_s_clause10x : List Cond := .code yX10_clause cX10_clause 5 none :: wf_mq
theorem gw_s_clause10x : (w_s_clause10x).all goodWord = true := kFamG rfl gf_mq
end
section
def w_s_go10x_0 : List Cond := .code yX10_goThrough cX10_goThrough 6 none :: ([.fieldLink RX10 23 "NotEndedModel" "text" "[B", .fieldLink RX10 147 "NotEndedModel" "begins" "I", .fieldLink RX10 144 "NotEndedModel" "ends" "I", .fieldLink RX10 28 "NotEndedModel" "labels" "Ljava/lang/String;", .fieldLink RX10 34 "NotEndedModel" "allowed" "Ljava/lang/String;", .fieldLink RX10 223 "NotEndedModel" "label" "I", .fieldLink RX10 141 "NotEndedModel" "at" "I", .fieldLink RX10 150 "NotEndedModel" "fault" "I", .fieldLink RX10 153 "NotEndedModel" "deep" "I", .fieldLink RX10 219 "NotEndedModel" "hasFound" "Z", .fieldLink RX10 226 "NotEndedModel" "found" "I", .initialized RX10, .selects RX10 yX10_clause yX10_clause, .instanceMethod yX10_clause, .methodLink RX10 233 yX10_clause, .selects RX10 yX10_look yX10_look, .instanceMethod yX10_look, .methodLink RX10 160 yX10_look, .selects RX10 yX10_fails yX10_fails, .instanceMethod yX10_fails, .methodLink RX10 156 yX10_fails] ++ (wsX100 ++ (w_s_clause10x ++ (w_s_look10x ++ (w_s_fails10x)))))
theorem gw_s_go10x_0 : (w_s_go10x_0).all goodWord = true := kGc rfl (kGa (by decide +kernel) (kGa gw_wsX100 (kGa gw_s_clause10x (kGa gw_s_look10x gw_s_fails10x))))
end
section
def w_s_worthOf10_0 : List Cond := .code yX10_worthOf cX10_worthOf 4 (some .int) :: ([.fieldLink RX10 13 "NotEndedModel" "texts" "[B", .fieldLink RX10 16 "NotEndedModel" "textLong" "[I", .initialized RX10, .selects RX10 yX10_goThrough yX10_goThrough, .instanceMethod yX10_goThrough, .methodLink RX10 240 yX10_goThrough, .fieldLink RX10 226 "NotEndedModel" "found" "I"] ++ (wsX100 ++ (w_s_go10x_0)))
theorem gw_s_worthOf10_0 : (w_s_worthOf10_0).all goodWord = true := kGc rfl (kGa (by decide +kernel) (kGa gw_wsX100 gw_s_go10x_0))
end
section
def w_s_has10 : List Cond := .code yX10_has cX10_has 2 (some .boolean) :: ([])
theorem gw_s_has10 : (w_s_has10).all goodWord = true := kGc rfl kGn
end
section
/-- the letters' signs -/
def kSg8 (k : Nat) : Nat := if k = 0 then 118 else if k = 1 then 112 else if k = 2 then 110 else if k = 3 then 109 else if k = 4 then 115 else if k = 5 then 117 else if k = 6 then 100 else 105
/-- the told rows of both sides -/
def kTd (ks kw : Nat) (g0 g1 g2 g3 g4 : Nat → Int32) (sv : Nat) (m19 m20 m21 m22 m24 m25 : Nat → Int32) : Prop := (∀ j : Nat, j < ks → m19 j = g0 j ∧ m20 j = g1 j ∧ m21 j = g2 j ∧ m22 j = g3 j ∧ (kIsB (nI sv) (nI j) = if m25 j = 0 then 0 else 1)) ∧ (∀ i : Nat, i < kw → m24 i = g4 i ∧ 0 ≤ (g4 i).toInt ∧ (g4 i).toInt ≤ 47) ∧ sv < 2 ^ ks
/-- what both sides were told, and that it is within bounds -/
def kT0 (ks kw : Nat) (g0 g1 g2 g3 g4 m19 m20 m21 m22 m24 : Nat → Int32) : Prop := (∀ j : Nat, j < ks → m19 j = g0 j ∧ m20 j = g1 j ∧ m21 j = g2 j ∧ m22 j = g3 j) ∧ (∀ i : Nat, i < kw → m24 i = g4 i ∧ 0 ≤ (g4 i).toInt ∧ (g4 i).toInt ≤ 47) ∧ (∀ j : Nat, ks ≤ j → g3 j = 0) ∧ kOk ks (kS0 g0 g1 g2 0)
theorem kTd_mk {ks kw sv : Nat} {g0 g1 g2 g3 g4 m19 m20 m21 m22 m24 m25 : Nat → Int32} (H : kT0 ks kw g0 g1 g2 g3 g4 m19 m20 m21 m22 m24) (hse : ∀ j : Nat, j < ks → (m25 j = 0 ↔ kIsB (nI sv) (nI j) = 0)) (hsb : sv < 2 ^ ks) : kTd ks kw g0 g1 g2 g3 g4 sv m19 m20 m21 m22 m24 m25 := by
  refine ⟨fun j hj => ?_, H.2.1, hsb⟩
  obtain ⟨h1, h2, h3, h4⟩ := H.1 j hj
  refine ⟨h1, h2, h3, h4, ?_⟩
  rcases kIsB_01 (nI sv) (nI j) with z | z
  · rw [z, if_pos ((hse j hj).mpr z)]
  · rw [z, if_neg (fun y => absurd ((hse j hj).mp y) (by rw [z]; decide))]
theorem kWordN_or (p : Int32) (k : Nat) : kWordN p k = k ∨ (kWordN p k = k + 1 ∧ ¬ kIn p 0 47 = 0) := by
  unfold kWordN
  by_cases h : kIn p 0 47 = 0
  · rw [if_pos h]; exact Or.inl rfl
  · rw [if_neg h]
    by_cases h2 : k < 4
    · rw [if_pos h2]; exact Or.inr ⟨rfl, h⟩
    · rw [if_neg h2]; exact Or.inl rfl
theorem kT0_wrd {p : Int32} {ks kw : Nat} {g0 g1 g2 g3 g4 m19 m20 m21 m22 m24 : Nat → Int32} (H : kT0 ks kw g0 g1 g2 g3 g4 m19 m20 m21 m22 m24) : kT0 ks (kWordN p kw) g0 g1 g2 g3 (kWdF p kw g4) m19 m20 m21 m22 (kWdF p kw m24) := by
  unfold kWdF
  rcases kWordN_or p kw with e | ⟨e, hi⟩
  · rw [if_pos e, if_pos e, e]; exact H
  · obtain ⟨a, ha, ea⟩ := kIn_ix (n := 47) (by decide) hi
    rw [if_neg (by omega), if_neg (by omega), e]
    refine ⟨H.1, fun i hj => ?_, H.2.2⟩
    by_cases z : i = kw
    · rw [z, pk_us, pk_us, ea, nI_toInt (by omega)]
      exact ⟨rfl, by omega, by omega⟩
    · rw [pk_un z, pk_un z]
      exact H.2.1 i (by omega)
end
section
def w_s_isFree10x : List Cond := .code yX10_isFree cX10_isFree 2 (some .boolean) :: ([.fieldLink RX10 259 "NotEndedModel" "there" "I", .initialized RX10, .static yX10_has, .methodLink RX10 269 yX10_has, .fieldLink RX10 55 "NotEndedModel" "isSent" "[Z"] ++ (wsX100 ++ (w_s_has10)))
theorem gw_s_isFree10x : (w_s_isFree10x).all goodWord = true := kGc rfl (kGa (by decide +kernel) (kGa gw_wsX100 gw_s_has10))
def w_s_held10x : List Cond := .code yX10_held cX10_held 1 (some .int) :: ([.methodLink RX10 276 Lib.Math.min.name, .static Lib.Math.min.name, .initialized RJ9, .code Lib.Math.min.name Lib.Math.min.code 2 (some .int), .methodLink RX10 273 Lib.Math.max.name, .static Lib.Math.max.name, .code Lib.Math.max.name Lib.Math.max.code 2 (some .int)] ++ [])
theorem gw_s_held10x : (w_s_held10x).all goodWord = true := kGc rfl (kGa (by decide +kernel) kGn)
def w_s_chance10x : List Cond := .code yX10_isChanced cX10_isChanced 2 (some .boolean) :: ([.fieldLink RX10 262 "NotEndedModel" "x" "J", .constantLong RX10 278 (6364136223846793005), .constantLong RX10 280 (1442695040888963407), .constantLong RX10 282 (100)] ++ (wsX100))
theorem gw_s_chance10x : (w_s_chance10x).all goodWord = true := kGc rfl (kGa (by decide +kernel) gw_wsX100)
def w_s_begin10x : List Cond := .code yX10_begin cX10_begin 5 none :: ([.fieldLink RX10 259 "NotEndedModel" "there" "I", .fieldLink RX10 262 "NotEndedModel" "x" "J", .fieldLink RX10 266 "NotEndedModel" "hour" "I", .fieldLink RX10 250 "NotEndedModel" "persons" "I", .fieldLink RX10 59 "NotEndedModel" "holds" "[I", .fieldLink RX10 37 "NotEndedModel" "toldHolds" "[I", .fieldLink RX10 62 "NotEndedModel" "putIn" "[I", .fieldLink RX10 40 "NotEndedModel" "toldIn" "[I", .fieldLink RX10 65 "NotEndedModel" "house" "[I", .fieldLink RX10 43 "NotEndedModel" "toldHouse" "[I", .fieldLink RX10 68 "NotEndedModel" "since" "[I"] ++ (wsX100))
theorem gw_s_begin10x : (w_s_begin10x).all goodWord = true := kGc rfl (kGa (by decide +kernel) gw_wsX100)
def w_s_lay10x : List Cond := .code yX10_layLetters cX10_layLetters 8 none :: ([.fieldLink RX10 250 "NotEndedModel" "persons" "I", .fieldLink RX10 256 "NotEndedModel" "words" "I", .fieldLink RX10 20 "NotEndedModel" "letters" "[I", .fieldLink RX10 59 "NotEndedModel" "holds" "[I", .fieldLink RX10 62 "NotEndedModel" "putIn" "[I", .fieldLink RX10 266 "NotEndedModel" "hour" "I", .fieldLink RX10 52 "NotEndedModel" "due" "[I", .methodLink RX10 273 Lib.Math.max.name, .static Lib.Math.max.name, .initialized RJ9, .code Lib.Math.max.name Lib.Math.max.code 2 (some .int), .fieldLink RX10 259 "NotEndedModel" "there" "I", .initialized RX10, .static yX10_has, .methodLink RX10 269 yX10_has, .fieldLink RX10 65 "NotEndedModel" "house" "[I", .fieldLink RX10 55 "NotEndedModel" "isSent" "[Z"] ++ (wsX100 ++ (w_s_has10)))
theorem gw_s_lay10x : (w_s_lay10x).all goodWord = true := kGc rfl (kGa (by decide +kernel) (kGa gw_wsX100 gw_s_has10))
def w_s_goesBy10x : List Cond := .code yX10_goesBy cX10_goesBy 4 none :: ([.fieldLink RX10 250 "NotEndedModel" "persons" "I", .fieldLink RX10 266 "NotEndedModel" "hour" "I", .initialized RX10, .selects RX10 yX10_isFree yX10_isFree, .instanceMethod yX10_isFree, .methodLink RX10 284 yX10_isFree, .fieldLink RX10 59 "NotEndedModel" "holds" "[I", .fieldLink RX10 77 "NotEndedModel" "heard" "[I", .static yX10_held, .methodLink RX10 294 yX10_held, .fieldLink RX10 83 "NotEndedModel" "was" "[I", .fieldLink RX10 74 "NotEndedModel" "goes" "[I", .selects RX10 yX10_isChanced yX10_isChanced, .instanceMethod yX10_isChanced, .methodLink RX10 297 yX10_isChanced, .fieldLink RX10 65 "NotEndedModel" "house" "[I", .fieldLink RX10 68 "NotEndedModel" "since" "[I", .fieldLink RX10 46 "NotEndedModel" "knows" "[I", .static yX10_has, .methodLink RX10 269 yX10_has, .fieldLink RX10 80 "NotEndedModel" "tells" "[I", .fieldLink RX10 71 "NotEndedModel" "more" "[I", .selects RX10 yX10_layLetters yX10_layLetters, .instanceMethod yX10_layLetters, .methodLink RX10 287 yX10_layLetters, .selects RX10 yX10_worthOf yX10_worthOf, .instanceMethod yX10_worthOf, .methodLink RX10 290 yX10_worthOf] ++ (wsX100 ++ (w_s_isFree10x ++ (w_s_held10x ++ (w_s_chance10x ++ (w_s_has10 ++ (w_s_lay10x ++ (w_s_worthOf10_0))))))))
theorem gw_s_goesBy10x : (w_s_goesBy10x).all goodWord = true := kGc rfl (kGa (by decide +kernel) (kGa gw_wsX100 (kGa gw_s_isFree10x (kGa gw_s_held10x (kGa gw_s_chance10x (kGa gw_s_has10 (kGa gw_s_lay10x gw_s_worthOf10_0)))))))
def w_s_goOn10x : List Cond := .code yX10_goOn cX10_goOn 3 none :: ([.fieldLink RX10 266 "NotEndedModel" "hour" "I", .initialized RX10, .selects RX10 yX10_goesBy yX10_goesBy, .instanceMethod yX10_goesBy, .methodLink RX10 300 yX10_goesBy] ++ (wsX100 ++ (w_s_goesBy10x)))
theorem gw_s_goOn10x : (w_s_goOn10x).all goodWord = true := kGc rfl (kGa (by decide +kernel) (kGa gw_wsX100 gw_s_goesBy10x))
def w_s_runOf10x : List Cond := .code yX10_runOf cX10_runOf 6 none :: ([.initialized RX10, .selects RX10 yX10_begin yX10_begin, .instanceMethod yX10_begin, .methodLink RX10 303 yX10_begin, .selects RX10 yX10_goOn yX10_goOn, .instanceMethod yX10_goOn, .methodLink RX10 307 yX10_goOn] ++ (w_s_begin10x ++ (w_s_goOn10x)))
theorem gw_s_runOf10x : (w_s_runOf10x).all goodWord = true := kGc rfl (kGa (by decide +kernel) (kGa gw_s_begin10x gw_s_goOn10x))
def w_s_every10x : List Cond := .code yX10_everybody cX10_everybody 1 (some .int) :: ([.fieldLink RX10 250 "NotEndedModel" "persons" "I"] ++ (wsX100))
theorem gw_s_every10x : (w_s_every10x).all goodWord = true := kGc rfl (kGa (by decide +kernel) gw_wsX100)
def w_s_isLaw10x : List Cond := .code yX10_isLaw cX10_isLaw 2 (some .boolean) :: ([.fieldLink RX10 244 "NotEndedModel" "laws" "I"] ++ (wsX100))
theorem gw_s_isLaw10x : (w_s_isLaw10x).all goodWord = true := kGc rfl (kGa (by decide +kernel) gw_wsX100)
def w_s_isPerson10r : List Cond := .code yX10_isPerson cX10_isPerson 2 (some .boolean) :: ([.fieldLink RX10 250 "NotEndedModel" "persons" "I"] ++ (wsX100))
theorem gw_s_isPerson10r : (w_s_isPerson10r).all goodWord = true := kGc rfl (kGa (by decide +kernel) gw_wsX100)
def w_s_thrown10 : List Cond := .code yX10_thrown cX10_thrown 1 (some .int) :: ([.fieldLink RX10 117 "NotEndedModel" "thrown" "I"] ++ (wsX100))
theorem gw_s_thrown10 : (w_s_thrown10).all goodWord = true := kGc rfl (kGa (by decide +kernel) gw_wsX100)
theorem hd_X10_thrown : yX10_thrown.cls ≠ "java/lang/invoke/MethodHandle" ∧ yX10_thrown.cls ≠ "java/lang/invoke/VarHandle" ∧ (parseMethodDescriptor yX10_thrown.desc).map (fun d => d.parameters.length) = some 0 := by decide +kernel
set_option maxHeartbeats 4000000 in
set_option maxRecDepth 100000 in
theorem s_thrown10 (l : Launch) (dC : Nat → ClassId) (dI : Nat → Nat → Nat) (jM : Nat) (th : Int32) (thr : Int32) (xx : Int64) (v5 : Value) (v9 : Value) (v10 : Value) (v11 : Value) (v12 : Value) (v13 : Value) (v14 : Value) (v15 : Value) (v16 : Value) (v17 : Value) (v18 : Value) (m1 : Nat) (m2 : Nat) (m3 : Nat) (m4 : Nat) (m19 : Nat) (m20 : Nat) (m21 : Nat) (m22 : Nat) (m23 : Nat) (m24 : Nat) (m25 : Nat) (m28 : Nat) (m29 : Nat) (m30 : Nat) (m31 : Nat) (m32 : Nat) (m33 : Nat) (m34 : Nat) (m35 : Nat) (m36 : Nat) (m40 : Nat) (m41 : Nat) (m42 : Nat) (m43 : Nat) (m44 : Nat) (m46 : Nat) (m47 : Nat) (m48 : Nat) (m49 : Nat) (m50 : Nat) (mc1 : ClassId) (mc2 : ClassId) (mc3 : ClassId) (mc4 : ClassId) (mc19 : ClassId) (mc20 : ClassId) (mc21 : ClassId) (mc22 : ClassId) (mc23 : ClassId) (mc24 : ClassId) (mc25 : ClassId) (mc28 : ClassId) (mc29 : ClassId) (mc30 : ClassId) (mc31 : ClassId) (mc32 : ClassId) (mc33 : ClassId) (mc34 : ClassId) (mc35 : ClassId) (mc36 : ClassId) (mc40 : ClassId) (mc41 : ClassId) (mc42 : ClassId) (mc43 : ClassId) (mc44 : ClassId) (mc46 : ClassId) (mc47 : ClassId) (mc48 : ClassId) (mc49 : ClassId) (mc50 : ClassId) (mf1 : Nat → Int32) (mf2 : Nat → Int32) (mf3 : Nat → Int32) (mf4 : Nat → Int32) (mf19 : Nat → Int32) (mf20 : Nat → Int32) (mf21 : Nat → Int32) (mf22 : Nat → Int32) (mf23 : Nat → Int32) (mf24 : Nat → Int32) (mf25 : Nat → Int32) (mf28 : Nat → Int32) (mf29 : Nat → Int32) (mf30 : Nat → Int32) (mf31 : Nat → Int32) (mf32 : Nat → Int32) (mf33 : Nat → Int32) (mf34 : Nat → Int32) (mf35 : Nat → Int32) (mf36 : Nat → Int32) (mf40 : Nat → Int32) (mf41 : Nat → Int32) (mf42 : Nat → Int32) (mf43 : Nat → Int32) (mf44 : Nat → Int32) (mf46 : Nat → Int64) (mf47 : Nat → Int32) (mf48 : Nat → Int32) (mf49 : Nat → Int32) (mf50 : Nat → Int32) (ml : Nat) (mkl : Nat) (mku : Nat) (mps : Nat) (mkw : Nat) (ho : Nat) (mkn : Nat) (mka : Nat) (hml : ml ≤ 120) (hmkl : mkl ≤ 6) (hmku : mku ≤ 8) (hmps : mps ≤ 10) (hmkw : mkw ≤ 4) (hho : ho ≤ 48) (hmkn : mkn ≤ 20) (hmka : mka ≤ 6) : Met l yX10_thrown w_s_thrown10 ({ frames := 1, cells := 0, slots := 0, locals := 60 }) (kR dC dI [.ref jM] [(jM, .inr (10, [.int th, .ref m1, .ref m2, .ref m3, .ref m4, v5, .int (nI (ml)), .int (nI (mkl)), .int (nI (mku)), v9, v10, v11, v12, v13, v14, v15, v16, v17, v18, .ref m19, .ref m20, .ref m21, .ref m22, .ref m23, .ref m24, .ref m25, .int (nI (mps)), .int (nI (mkw)), .ref m28, .ref m29, .ref m30, .ref m31, .ref m32, .ref m33, .ref m34, .ref m35, .ref m36, .int thr, .int (nI (ho)), .long xx, .ref m40, .ref m41, .ref m42, .ref m43, .ref m44, .int (nI (mkn)), .ref m46, .ref m47, .ref m48, .ref m49, .ref m50, .int (nI (mka))])), (m1, .inl (mc1, 120, .inl mf1)), (m2, .inl (mc2, 1680, .inl mf2)), (m3, .inl (mc3, 14, .inl mf3)), (m4, .inl (mc4, 128, .inl mf4)), (m19, .inl (mc19, 10, .inl mf19)), (m20, .inl (mc20, 10, .inl mf20)), (m21, .inl (mc21, 10, .inl mf21)), (m22, .inl (mc22, 10, .inl mf22)), (m23, .inl (mc23, 10, .inl mf23)), (m24, .inl (mc24, 4, .inl mf24)), (m25, .inl (mc25, 10, .inl mf25)), (m28, .inl (mc28, 10, .inl mf28)), (m29, .inl (mc29, 10, .inl mf29)), (m30, .inl (mc30, 10, .inl mf30)), (m31, .inl (mc31, 10, .inl mf31)), (m32, .inl (mc32, 10, .inl mf32)), (m33, .inl (mc33, 10, .inl mf33)), (m34, .inl (mc34, 10, .inl mf34)), (m35, .inl (mc35, 10, .inl mf35)), (m36, .inl (mc36, 10, .inl mf36)), (m40, .inl (mc40, 20, .inl mf40)), (m41, .inl (mc41, 20, .inl mf41)), (m42, .inl (mc42, 20, .inl mf42)), (m43, .inl (mc43, 20, .inl mf43)), (m44, .inl (mc44, 20, .inl mf44)), (m46, .inl (mc46, 14, .inr (.inl mf46))), (m47, .inl (mc47, 6, .inl mf47)), (m48, .inl (mc48, 6, .inl mf48)), (m49, .inl (mc49, 6, .inl mf49)), (m50, .inl (mc50, 6, .inl mf50))] [(mc1, .byte), (mc2, .byte), (mc3, .int), (mc4, .int), (mc19, .int), (mc20, .int), (mc21, .int), (mc22, .int), (mc23, .int), (mc24, .int), (mc25, .boolean), (mc28, .int), (mc29, .int), (mc30, .int), (mc31, .int), (mc32, .int), (mc33, .int), (mc34, .int), (mc35, .int), (mc36, .int), (mc40, .int), (mc41, .int), (mc42, .int), (mc43, .int), (mc44, .int), (mc46, .long), (mc47, .int), (mc48, .int), (mc49, .int), (mc50, .int)] kT) (vp_Si (fun r : Int32 => r = th)) 0 0 (fun _ => False) := by
  sorry
end
section
def w_s_run10 : List Cond := .code yX10_run cX10_run 7 (some .int) :: ([.fieldLink RX10 117 "NotEndedModel" "thrown" "I", .initialized RX10, .selects RX10 yX10_isLaw yX10_isLaw, .instanceMethod yX10_isLaw, .methodLink RX10 311 yX10_isLaw, .static yX10_isIn, .methodLink RX10 236 yX10_isIn, .selects RX10 yX10_isPerson yX10_isPerson, .instanceMethod yX10_isPerson, .methodLink RX10 253 yX10_isPerson, .selects RX10 yX10_everybody yX10_everybody, .instanceMethod yX10_everybody, .methodLink RX10 314 yX10_everybody, .selects RX10 yX10_runOf yX10_runOf, .instanceMethod yX10_runOf, .methodLink RX10 317 yX10_runOf, .fieldLink RX10 68 "NotEndedModel" "since" "[I", .fieldLink RX10 65 "NotEndedModel" "house" "[I", .fieldLink RX10 59 "NotEndedModel" "holds" "[I"] ++ (wsX100 ++ (w_s_isLaw10x ++ (w_s_isIn10 ++ (w_s_isPerson10r ++ (w_s_every10x ++ (w_s_runOf10x)))))))
theorem gw_s_run10 : (w_s_run10).all goodWord = true := kGc rfl (kGa (by decide +kernel) (kGa gw_wsX100 (kGa gw_s_isLaw10x (kGa gw_s_isIn10 (kGa gw_s_isPerson10r (kGa gw_s_every10x gw_s_runOf10x))))))
theorem hd_X10_run : yX10_run.cls ≠ "java/lang/invoke/MethodHandle" ∧ yX10_run.cls ≠ "java/lang/invoke/VarHandle" ∧ (parseMethodDescriptor yX10_run.desc).map (fun d => d.parameters.length) = some 5 := by decide +kernel
set_option maxHeartbeats 4000000 in
set_option maxRecDepth 100000 in
theorem s_run10 (l : Launch) (dC : Nat → ClassId) (dI : Nat → Nat → Nat) (jM : Nat) (th : Int32) (thr : Int32) (xx : Int64) (v5 : Value) (v9 : Value) (v10 : Value) (v11 : Value) (v12 : Value) (v13 : Value) (v14 : Value) (v15 : Value) (v16 : Value) (v17 : Value) (v18 : Value) (m1 : Nat) (m2 : Nat) (m3 : Nat) (m4 : Nat) (m19 : Nat) (m20 : Nat) (m21 : Nat) (m22 : Nat) (m23 : Nat) (m24 : Nat) (m25 : Nat) (m28 : Nat) (m29 : Nat) (m30 : Nat) (m31 : Nat) (m32 : Nat) (m33 : Nat) (m34 : Nat) (m35 : Nat) (m36 : Nat) (m40 : Nat) (m41 : Nat) (m42 : Nat) (m43 : Nat) (m44 : Nat) (m46 : Nat) (m47 : Nat) (m48 : Nat) (m49 : Nat) (m50 : Nat) (mc1 : ClassId) (mc2 : ClassId) (mc3 : ClassId) (mc4 : ClassId) (mc19 : ClassId) (mc20 : ClassId) (mc21 : ClassId) (mc22 : ClassId) (mc23 : ClassId) (mc24 : ClassId) (mc25 : ClassId) (mc28 : ClassId) (mc29 : ClassId) (mc30 : ClassId) (mc31 : ClassId) (mc32 : ClassId) (mc33 : ClassId) (mc34 : ClassId) (mc35 : ClassId) (mc36 : ClassId) (mc40 : ClassId) (mc41 : ClassId) (mc42 : ClassId) (mc43 : ClassId) (mc44 : ClassId) (mc46 : ClassId) (mc47 : ClassId) (mc48 : ClassId) (mc49 : ClassId) (mc50 : ClassId) (mf1 : Nat → Int32) (mf2 : Nat → Int32) (mf3 : Nat → Int32) (mf4 : Nat → Int32) (mf19 : Nat → Int32) (mf20 : Nat → Int32) (mf21 : Nat → Int32) (mf22 : Nat → Int32) (mf23 : Nat → Int32) (mf24 : Nat → Int32) (mf25 : Nat → Int32) (mf28 : Nat → Int32) (mf29 : Nat → Int32) (mf30 : Nat → Int32) (mf31 : Nat → Int32) (mf32 : Nat → Int32) (mf33 : Nat → Int32) (mf34 : Nat → Int32) (mf35 : Nat → Int32) (mf36 : Nat → Int32) (mf40 : Nat → Int32) (mf41 : Nat → Int32) (mf42 : Nat → Int32) (mf43 : Nat → Int32) (mf44 : Nat → Int32) (mf46 : Nat → Int64) (mf47 : Nat → Int32) (mf48 : Nat → Int32) (mf49 : Nat → Int32) (mf50 : Nat → Int32) (ml : Nat) (mkl : Nat) (mku : Nat) (mps : Nat) (mkw : Nat) (ho : Nat) (mkn : Nat) (mka : Nat) (hml : ml ≤ 120) (hmkl : mkl ≤ 6) (hmku : mku ≤ 8) (hmps : mps ≤ 10) (hmkw : mkw ≤ 4) (hho : ho ≤ 48) (hmkn : mkn ≤ 20) (hmka : mka ≤ 6) (ad : Nat → Nat) (bA : Nat) (nA : Nat) (xA : Nat → Int32) (hnA : nA ≤ 8) (bB : Nat) (nB : Nat) (xB : Nat → Int32) (hnB : nB ≤ 8) (bE : Nat) (nE : Nat) (xE : Nat → Int32) (hnE : nE ≤ 8) (bG : Nat) (nG : Nat) (xG : Nat → Int32) (hnG : nG ≤ 8) (gnA : ∀ k : Nat, ∃ v : Nat, v < 128 ∧ xA k = nI v) (gnB : ∀ k : Nat, ∃ v : Nat, v < 128 ∧ xB k = nI v) (gnE : ∀ k : Nat, ∃ v : Nat, v < 128 ∧ xE k = nI v) (gnG : ∀ k : Nat, ∃ v : Nat, v < 128 ∧ xG k = nI v) (hzA : kIx xA nA (nI 0) = nA) (hzB : kIx xB nB (nI 0) = nB) (hzE : kIx xE nE (nI 0) = nE) (hzG : kIx xG nG (nI 0) = nG) (hlB : ∀ c : Nat, c < 256 → kIx xB nB (nI c) < nB → ¬ c = 91 ∧ ¬ (48 ≤ c ∧ c ≤ 57)) (hlG : ∀ c : Nat, c < 256 → kIx xG nG (nI c) < nG → ¬ c = 91 ∧ ¬ (48 ≤ c ∧ c ≤ 57)) (yL : Nat → List kTr) (yU : Nat → List kTr) (hUl : kUn mf2 mf3 0 mkl xA nA xB nB yL) (hUt : kUn mf2 mf3 6 mku xE nE xG nG yU) (G0 : Nat → Int32) (G1 : Nat → Int32) (G2 : Nat → Int32) (G3 : Nat → Int32) (G4 : Nat → Int32) (SV : Nat) (hTd : kTd mps mkw G0 G1 G2 G3 G4 SV mf19 mf20 mf21 mf22 mf24 mf25) (hOk0 : kOk mps (kS0 G0 G1 G2 0)) (hA9 : nA = 3 ∧ xA 0 = 121 ∧ xA 1 = 103 ∧ xA 2 = 120) (hB9 : nB = 8 ∧ ∀ k : Nat, k < 8 → xB k = nI (kSg8 k)) (p0 : Int32) (p1 : Int64) (p2 : Int32) (p3 : Int32) (p4 : Int32) (sz : Nat) : Met l yX10_run w_s_run10 ({ frames := 65, cells := 0, slots := 0, locals := 3900 }) (kW dC dI [.ref jM, .int p0, .long p1, .int p2, .int p3, .int p4] [(jM, .inr (10, [.int th, .ref m1, .ref m2, .ref m3, .ref m4, v5, .int (nI (ml)), .int (nI (mkl)), .int (nI (mku)), v9, v10, v11, v12, v13, v14, v15, v16, v17, v18, .ref m19, .ref m20, .ref m21, .ref m22, .ref m23, .ref m24, .ref m25, .int (nI (mps)), .int (nI (mkw)), .ref m28, .ref m29, .ref m30, .ref m31, .ref m32, .ref m33, .ref m34, .ref m35, .ref m36, .int thr, .int (nI (ho)), .long xx, .ref m40, .ref m41, .ref m42, .ref m43, .ref m44, .int (nI (mkn)), .ref m46, .ref m47, .ref m48, .ref m49, .ref m50, .int (nI (mka))])), (m1, .inl (mc1, 120, .inl mf1)), (m2, .inl (mc2, 1680, .inl mf2)), (m3, .inl (mc3, 14, .inl mf3)), (m4, .inl (mc4, 128, .inl mf4)), (m19, .inl (mc19, 10, .inl mf19)), (m20, .inl (mc20, 10, .inl mf20)), (m21, .inl (mc21, 10, .inl mf21)), (m22, .inl (mc22, 10, .inl mf22)), (m23, .inl (mc23, 10, .inl mf23)), (m24, .inl (mc24, 4, .inl mf24)), (m25, .inl (mc25, 10, .inl mf25)), (m28, .inl (mc28, 10, .inl mf28)), (m29, .inl (mc29, 10, .inl mf29)), (m30, .inl (mc30, 10, .inl mf30)), (m31, .inl (mc31, 10, .inl mf31)), (m32, .inl (mc32, 10, .inl mf32)), (m33, .inl (mc33, 10, .inl mf33)), (m34, .inl (mc34, 10, .inl mf34)), (m35, .inl (mc35, 10, .inl mf35)), (m36, .inl (mc36, 10, .inl mf36)), (m40, .inl (mc40, 20, .inl mf40)), (m41, .inl (mc41, 20, .inl mf41)), (m42, .inl (mc42, 20, .inl mf42)), (m43, .inl (mc43, 20, .inl mf43)), (m44, .inl (mc44, 20, .inl mf44)), (m46, .inl (mc46, 14, .inr (.inl mf46))), (m47, .inl (mc47, 6, .inl mf47)), (m48, .inl (mc48, 6, .inl mf48)), (m49, .inl (mc49, 6, .inl mf49)), (m50, .inl (mc50, 6, .inl mf50))] [(mc1, .byte), (mc2, .byte), (mc3, .int), (mc4, .int), (mc19, .int), (mc20, .int), (mc21, .int), (mc22, .int), (mc23, .int), (mc24, .int), (mc25, .boolean), (mc28, .int), (mc29, .int), (mc30, .int), (mc31, .int), (mc32, .int), (mc33, .int), (mc34, .int), (mc35, .int), (mc36, .int), (mc40, .int), (mc41, .int), (mc42, .int), (mc43, .int), (mc44, .int), (mc46, .long), (mc47, .int), (mc48, .int), (mc49, .int), (mc50, .int)] (kMx ad bA nA xA bB nB xB bE nE xE bG nG xG (va_A [(jM, .inr (10, [.int th, .ref m1, .ref m2, .ref m3, .ref m4, v5, .int (nI (ml)), .int (nI (mkl)), .int (nI (mku)), v9, v10, v11, v12, v13, v14, v15, v16, v17, v18, .ref m19, .ref m20, .ref m21, .ref m22, .ref m23, .ref m24, .ref m25, .int (nI (mps)), .int (nI (mkw)), .ref m28, .ref m29, .ref m30, .ref m31, .ref m32, .ref m33, .ref m34, .ref m35, .ref m36, .int thr, .int (nI (ho)), .long xx, .ref m40, .ref m41, .ref m42, .ref m43, .ref m44, .int (nI (mkn)), .ref m46, .ref m47, .ref m48, .ref m49, .ref m50, .int (nI (mka))])), (m1, .inl (mc1, 120, .inl mf1)), (m2, .inl (mc2, 1680, .inl mf2)), (m3, .inl (mc3, 14, .inl mf3)), (m4, .inl (mc4, 128, .inl mf4)), (m19, .inl (mc19, 10, .inl mf19)), (m20, .inl (mc20, 10, .inl mf20)), (m21, .inl (mc21, 10, .inl mf21)), (m22, .inl (mc22, 10, .inl mf22)), (m23, .inl (mc23, 10, .inl mf23)), (m24, .inl (mc24, 4, .inl mf24)), (m25, .inl (mc25, 10, .inl mf25)), (m28, .inl (mc28, 10, .inl mf28)), (m29, .inl (mc29, 10, .inl mf29)), (m30, .inl (mc30, 10, .inl mf30)), (m31, .inl (mc31, 10, .inl mf31)), (m32, .inl (mc32, 10, .inl mf32)), (m33, .inl (mc33, 10, .inl mf33)), (m34, .inl (mc34, 10, .inl mf34)), (m35, .inl (mc35, 10, .inl mf35)), (m36, .inl (mc36, 10, .inl mf36)), (m40, .inl (mc40, 20, .inl mf40)), (m41, .inl (mc41, 20, .inl mf41)), (m42, .inl (mc42, 20, .inl mf42)), (m43, .inl (mc43, 20, .inl mf43)), (m44, .inl (mc44, 20, .inl mf44)), (m46, .inl (mc46, 14, .inr (.inl mf46))), (m47, .inl (mc47, 6, .inl mf47)), (m48, .inl (mc48, 6, .inl mf48)), (m49, .inl (mc49, 6, .inl mf49)), (m50, .inl (mc50, 6, .inl mf50))] sz)) sz) (va_Qi (fun (r : Int32) (u : (Nat → Int32) × (Nat → Int32) × (Nat → Int32) × (Nat → Int32) × (Nat → Int32) × (Nat → Int32) × (Nat → Int32) × (Nat → Int32) × (Nat → Int32) × (Nat → Int32) × Int32 × Int32 × Nat × Int64 × Value × Value × Value × Value × Value × Value × Value × Value × Value × Value × Value) => match u with | (S4, S28, S29, S30, S31, S32, S33, S34, S35, S36, Th0, Th, Ho, Xx, W5, W9, W10, W11, W12, W13, W14, W15, W16, W17, W18) => (r = kRunA mkl mps mkw G0 G1 G2 G3 G4 SV yL p0 p1 p2 p3 p4 ∧ Ho ≤ 48)) (fun (u : (Nat → Int32) × (Nat → Int32) × (Nat → Int32) × (Nat → Int32) × (Nat → Int32) × (Nat → Int32) × (Nat → Int32) × (Nat → Int32) × (Nat → Int32) × (Nat → Int32) × Int32 × Int32 × Nat × Int64 × Value × Value × Value × Value × Value × Value × Value × Value × Value × Value × Value) => match u with | (S4, S28, S29, S30, S31, S32, S33, S34, S35, S36, Th0, Th, Ho, Xx, W5, W9, W10, W11, W12, W13, W14, W15, W16, W17, W18) => fun t : State => kB dC dI [(jM, .inr (10, [.int Th0, .ref m1, .ref m2, .ref m3, .ref m4, W5, .int (nI (ml)), .int (nI (mkl)), .int (nI (mku)), W9, W10, W11, W12, W13, W14, W15, W16, W17, W18, .ref m19, .ref m20, .ref m21, .ref m22, .ref m23, .ref m24, .ref m25, .int (nI (mps)), .int (nI (mkw)), .ref m28, .ref m29, .ref m30, .ref m31, .ref m32, .ref m33, .ref m34, .ref m35, .ref m36, .int Th, .int (nI (Ho)), .long Xx, .ref m40, .ref m41, .ref m42, .ref m43, .ref m44, .int (nI (mkn)), .ref m46, .ref m47, .ref m48, .ref m49, .ref m50, .int (nI (mka))])), (m1, .inl (mc1, 120, .inl mf1)), (m2, .inl (mc2, 1680, .inl mf2)), (m3, .inl (mc3, 14, .inl mf3)), (m4, .inl (mc4, 128, .inl S4)), (m19, .inl (mc19, 10, .inl mf19)), (m20, .inl (mc20, 10, .inl mf20)), (m21, .inl (mc21, 10, .inl mf21)), (m22, .inl (mc22, 10, .inl mf22)), (m23, .inl (mc23, 10, .inl mf23)), (m24, .inl (mc24, 4, .inl mf24)), (m25, .inl (mc25, 10, .inl mf25)), (m28, .inl (mc28, 10, .inl S28)), (m29, .inl (mc29, 10, .inl S29)), (m30, .inl (mc30, 10, .inl S30)), (m31, .inl (mc31, 10, .inl S31)), (m32, .inl (mc32, 10, .inl S32)), (m33, .inl (mc33, 10, .inl S33)), (m34, .inl (mc34, 10, .inl S34)), (m35, .inl (mc35, 10, .inl S35)), (m36, .inl (mc36, 10, .inl S36)), (m40, .inl (mc40, 20, .inl mf40)), (m41, .inl (mc41, 20, .inl mf41)), (m42, .inl (mc42, 20, .inl mf42)), (m43, .inl (mc43, 20, .inl mf43)), (m44, .inl (mc44, 20, .inl mf44)), (m46, .inl (mc46, 14, .inr (.inl mf46))), (m47, .inl (mc47, 6, .inl mf47)), (m48, .inl (mc48, 6, .inl mf48)), (m49, .inl (mc49, 6, .inl mf49)), (m50, .inl (mc50, 6, .inl mf50))] [(mc1, .byte), (mc2, .byte), (mc3, .int), (mc4, .int), (mc19, .int), (mc20, .int), (mc21, .int), (mc22, .int), (mc23, .int), (mc24, .int), (mc25, .boolean), (mc28, .int), (mc29, .int), (mc30, .int), (mc31, .int), (mc32, .int), (mc33, .int), (mc34, .int), (mc35, .int), (mc36, .int), (mc40, .int), (mc41, .int), (mc42, .int), (mc43, .int), (mc44, .int), (mc46, .long), (mc47, .int), (mc48, .int), (mc49, .int), (mc50, .int)] (va_A [(jM, .inr (10, [.int th, .ref m1, .ref m2, .ref m3, .ref m4, v5, .int (nI (ml)), .int (nI (mkl)), .int (nI (mku)), v9, v10, v11, v12, v13, v14, v15, v16, v17, v18, .ref m19, .ref m20, .ref m21, .ref m22, .ref m23, .ref m24, .ref m25, .int (nI (mps)), .int (nI (mkw)), .ref m28, .ref m29, .ref m30, .ref m31, .ref m32, .ref m33, .ref m34, .ref m35, .ref m36, .int thr, .int (nI (ho)), .long xx, .ref m40, .ref m41, .ref m42, .ref m43, .ref m44, .int (nI (mkn)), .ref m46, .ref m47, .ref m48, .ref m49, .ref m50, .int (nI (mka))])), (m1, .inl (mc1, 120, .inl mf1)), (m2, .inl (mc2, 1680, .inl mf2)), (m3, .inl (mc3, 14, .inl mf3)), (m4, .inl (mc4, 128, .inl mf4)), (m19, .inl (mc19, 10, .inl mf19)), (m20, .inl (mc20, 10, .inl mf20)), (m21, .inl (mc21, 10, .inl mf21)), (m22, .inl (mc22, 10, .inl mf22)), (m23, .inl (mc23, 10, .inl mf23)), (m24, .inl (mc24, 4, .inl mf24)), (m25, .inl (mc25, 10, .inl mf25)), (m28, .inl (mc28, 10, .inl mf28)), (m29, .inl (mc29, 10, .inl mf29)), (m30, .inl (mc30, 10, .inl mf30)), (m31, .inl (mc31, 10, .inl mf31)), (m32, .inl (mc32, 10, .inl mf32)), (m33, .inl (mc33, 10, .inl mf33)), (m34, .inl (mc34, 10, .inl mf34)), (m35, .inl (mc35, 10, .inl mf35)), (m36, .inl (mc36, 10, .inl mf36)), (m40, .inl (mc40, 20, .inl mf40)), (m41, .inl (mc41, 20, .inl mf41)), (m42, .inl (mc42, 20, .inl mf42)), (m43, .inl (mc43, 20, .inl mf43)), (m44, .inl (mc44, 20, .inl mf44)), (m46, .inl (mc46, 14, .inr (.inl mf46))), (m47, .inl (mc47, 6, .inl mf47)), (m48, .inl (mc48, 6, .inl mf48)), (m49, .inl (mc49, 6, .inl mf49)), (m50, .inl (mc50, 6, .inl mf50))] sz) t) (va_A [(jM, .inr (10, [.int th, .ref m1, .ref m2, .ref m3, .ref m4, v5, .int (nI (ml)), .int (nI (mkl)), .int (nI (mku)), v9, v10, v11, v12, v13, v14, v15, v16, v17, v18, .ref m19, .ref m20, .ref m21, .ref m22, .ref m23, .ref m24, .ref m25, .int (nI (mps)), .int (nI (mkw)), .ref m28, .ref m29, .ref m30, .ref m31, .ref m32, .ref m33, .ref m34, .ref m35, .ref m36, .int thr, .int (nI (ho)), .long xx, .ref m40, .ref m41, .ref m42, .ref m43, .ref m44, .int (nI (mkn)), .ref m46, .ref m47, .ref m48, .ref m49, .ref m50, .int (nI (mka))])), (m1, .inl (mc1, 120, .inl mf1)), (m2, .inl (mc2, 1680, .inl mf2)), (m3, .inl (mc3, 14, .inl mf3)), (m4, .inl (mc4, 128, .inl mf4)), (m19, .inl (mc19, 10, .inl mf19)), (m20, .inl (mc20, 10, .inl mf20)), (m21, .inl (mc21, 10, .inl mf21)), (m22, .inl (mc22, 10, .inl mf22)), (m23, .inl (mc23, 10, .inl mf23)), (m24, .inl (mc24, 4, .inl mf24)), (m25, .inl (mc25, 10, .inl mf25)), (m28, .inl (mc28, 10, .inl mf28)), (m29, .inl (mc29, 10, .inl mf29)), (m30, .inl (mc30, 10, .inl mf30)), (m31, .inl (mc31, 10, .inl mf31)), (m32, .inl (mc32, 10, .inl mf32)), (m33, .inl (mc33, 10, .inl mf33)), (m34, .inl (mc34, 10, .inl mf34)), (m35, .inl (mc35, 10, .inl mf35)), (m36, .inl (mc36, 10, .inl mf36)), (m40, .inl (mc40, 20, .inl mf40)), (m41, .inl (mc41, 20, .inl mf41)), (m42, .inl (mc42, 20, .inl mf42)), (m43, .inl (mc43, 20, .inl mf43)), (m44, .inl (mc44, 20, .inl mf44)), (m46, .inl (mc46, 14, .inr (.inl mf46))), (m47, .inl (mc47, 6, .inl mf47)), (m48, .inl (mc48, 6, .inl mf48)), (m49, .inl (mc49, 6, .inl mf49)), (m50, .inl (mc50, 6, .inl mf50))] sz)) 0 0 (va_A [(jM, .inr (10, [.int th, .ref m1, .ref m2, .ref m3, .ref m4, v5, .int (nI (ml)), .int (nI (mkl)), .int (nI (mku)), v9, v10, v11, v12, v13, v14, v15, v16, v17, v18, .ref m19, .ref m20, .ref m21, .ref m22, .ref m23, .ref m24, .ref m25, .int (nI (mps)), .int (nI (mkw)), .ref m28, .ref m29, .ref m30, .ref m31, .ref m32, .ref m33, .ref m34, .ref m35, .ref m36, .int thr, .int (nI (ho)), .long xx, .ref m40, .ref m41, .ref m42, .ref m43, .ref m44, .int (nI (mkn)), .ref m46, .ref m47, .ref m48, .ref m49, .ref m50, .int (nI (mka))])), (m1, .inl (mc1, 120, .inl mf1)), (m2, .inl (mc2, 1680, .inl mf2)), (m3, .inl (mc3, 14, .inl mf3)), (m4, .inl (mc4, 128, .inl mf4)), (m19, .inl (mc19, 10, .inl mf19)), (m20, .inl (mc20, 10, .inl mf20)), (m21, .inl (mc21, 10, .inl mf21)), (m22, .inl (mc22, 10, .inl mf22)), (m23, .inl (mc23, 10, .inl mf23)), (m24, .inl (mc24, 4, .inl mf24)), (m25, .inl (mc25, 10, .inl mf25)), (m28, .inl (mc28, 10, .inl mf28)), (m29, .inl (mc29, 10, .inl mf29)), (m30, .inl (mc30, 10, .inl mf30)), (m31, .inl (mc31, 10, .inl mf31)), (m32, .inl (mc32, 10, .inl mf32)), (m33, .inl (mc33, 10, .inl mf33)), (m34, .inl (mc34, 10, .inl mf34)), (m35, .inl (mc35, 10, .inl mf35)), (m36, .inl (mc36, 10, .inl mf36)), (m40, .inl (mc40, 20, .inl mf40)), (m41, .inl (mc41, 20, .inl mf41)), (m42, .inl (mc42, 20, .inl mf42)), (m43, .inl (mc43, 20, .inl mf43)), (m44, .inl (mc44, 20, .inl mf44)), (m46, .inl (mc46, 14, .inr (.inl mf46))), (m47, .inl (mc47, 6, .inl mf47)), (m48, .inl (mc48, 6, .inl mf48)), (m49, .inl (mc49, 6, .inl mf49)), (m50, .inl (mc50, 6, .inl mf50))] sz) := by
  sorry

def w_s_worth10 : List Cond := .code yX10_worth cX10_worth 4 (some .int) :: ([.initialized RX10, .selects RX10 yX10_isLaw yX10_isLaw, .instanceMethod yX10_isLaw, .methodLink RX10 311 yX10_isLaw, .fieldLink RX10 117 "NotEndedModel" "thrown" "I", .static yX10_isIn, .methodLink RX10 236 yX10_isIn, .selects RX10 yX10_isPerson yX10_isPerson, .instanceMethod yX10_isPerson, .methodLink RX10 253 yX10_isPerson, .selects RX10 yX10_everybody yX10_everybody, .instanceMethod yX10_everybody, .methodLink RX10 314 yX10_everybody, .selects RX10 yX10_begin yX10_begin, .instanceMethod yX10_begin, .methodLink RX10 303 yX10_begin, .selects RX10 yX10_layLetters yX10_layLetters, .instanceMethod yX10_layLetters, .methodLink RX10 287 yX10_layLetters, .selects RX10 yX10_worthOf yX10_worthOf, .instanceMethod yX10_worthOf, .methodLink RX10 290 yX10_worthOf] ++ (w_s_isLaw10x ++ (wsX100 ++ (w_s_isIn10 ++ (w_s_isPerson10r ++ (w_s_every10x ++ (w_s_begin10x ++ (w_s_lay10x ++ (w_s_worthOf10_0)))))))))
theorem gw_s_worth10 : (w_s_worth10).all goodWord = true := kGc rfl (kGa (by decide +kernel) (kGa gw_s_isLaw10x (kGa gw_wsX100 (kGa gw_s_isIn10 (kGa gw_s_isPerson10r (kGa gw_s_every10x (kGa gw_s_begin10x (kGa gw_s_lay10x gw_s_worthOf10_0))))))))
theorem hd_X10_worth : yX10_worth.cls ≠ "java/lang/invoke/MethodHandle" ∧ yX10_worth.cls ≠ "java/lang/invoke/VarHandle" ∧ (parseMethodDescriptor yX10_worth.desc).map (fun d => d.parameters.length) = some 3 := by decide +kernel
set_option maxHeartbeats 4000000 in
set_option maxRecDepth 100000 in
theorem s_worth10 (l : Launch) (dC : Nat → ClassId) (dI : Nat → Nat → Nat) (jM : Nat) (th : Int32) (thr : Int32) (xx : Int64) (v5 : Value) (v9 : Value) (v10 : Value) (v11 : Value) (v12 : Value) (v13 : Value) (v14 : Value) (v15 : Value) (v16 : Value) (v17 : Value) (v18 : Value) (m1 : Nat) (m2 : Nat) (m3 : Nat) (m4 : Nat) (m19 : Nat) (m20 : Nat) (m21 : Nat) (m22 : Nat) (m23 : Nat) (m24 : Nat) (m25 : Nat) (m28 : Nat) (m29 : Nat) (m30 : Nat) (m31 : Nat) (m32 : Nat) (m33 : Nat) (m34 : Nat) (m35 : Nat) (m36 : Nat) (m40 : Nat) (m41 : Nat) (m42 : Nat) (m43 : Nat) (m44 : Nat) (m46 : Nat) (m47 : Nat) (m48 : Nat) (m49 : Nat) (m50 : Nat) (mc1 : ClassId) (mc2 : ClassId) (mc3 : ClassId) (mc4 : ClassId) (mc19 : ClassId) (mc20 : ClassId) (mc21 : ClassId) (mc22 : ClassId) (mc23 : ClassId) (mc24 : ClassId) (mc25 : ClassId) (mc28 : ClassId) (mc29 : ClassId) (mc30 : ClassId) (mc31 : ClassId) (mc32 : ClassId) (mc33 : ClassId) (mc34 : ClassId) (mc35 : ClassId) (mc36 : ClassId) (mc40 : ClassId) (mc41 : ClassId) (mc42 : ClassId) (mc43 : ClassId) (mc44 : ClassId) (mc46 : ClassId) (mc47 : ClassId) (mc48 : ClassId) (mc49 : ClassId) (mc50 : ClassId) (mf1 : Nat → Int32) (mf2 : Nat → Int32) (mf3 : Nat → Int32) (mf4 : Nat → Int32) (mf19 : Nat → Int32) (mf20 : Nat → Int32) (mf21 : Nat → Int32) (mf22 : Nat → Int32) (mf23 : Nat → Int32) (mf24 : Nat → Int32) (mf25 : Nat → Int32) (mf28 : Nat → Int32) (mf29 : Nat → Int32) (mf30 : Nat → Int32) (mf31 : Nat → Int32) (mf32 : Nat → Int32) (mf33 : Nat → Int32) (mf34 : Nat → Int32) (mf35 : Nat → Int32) (mf36 : Nat → Int32) (mf40 : Nat → Int32) (mf41 : Nat → Int32) (mf42 : Nat → Int32) (mf43 : Nat → Int32) (mf44 : Nat → Int32) (mf46 : Nat → Int64) (mf47 : Nat → Int32) (mf48 : Nat → Int32) (mf49 : Nat → Int32) (mf50 : Nat → Int32) (ml : Nat) (mkl : Nat) (mku : Nat) (mps : Nat) (mkw : Nat) (ho : Nat) (mkn : Nat) (mka : Nat) (hml : ml ≤ 120) (hmkl : mkl ≤ 6) (hmku : mku ≤ 8) (hmps : mps ≤ 10) (hmkw : mkw ≤ 4) (hho : ho ≤ 48) (hmkn : mkn ≤ 20) (hmka : mka ≤ 6) (ad : Nat → Nat) (bA : Nat) (nA : Nat) (xA : Nat → Int32) (hnA : nA ≤ 8) (bB : Nat) (nB : Nat) (xB : Nat → Int32) (hnB : nB ≤ 8) (bE : Nat) (nE : Nat) (xE : Nat → Int32) (hnE : nE ≤ 8) (bG : Nat) (nG : Nat) (xG : Nat → Int32) (hnG : nG ≤ 8) (gnA : ∀ k : Nat, ∃ v : Nat, v < 128 ∧ xA k = nI v) (gnB : ∀ k : Nat, ∃ v : Nat, v < 128 ∧ xB k = nI v) (gnE : ∀ k : Nat, ∃ v : Nat, v < 128 ∧ xE k = nI v) (gnG : ∀ k : Nat, ∃ v : Nat, v < 128 ∧ xG k = nI v) (hzA : kIx xA nA (nI 0) = nA) (hzB : kIx xB nB (nI 0) = nB) (hzE : kIx xE nE (nI 0) = nE) (hzG : kIx xG nG (nI 0) = nG) (hlB : ∀ c : Nat, c < 256 → kIx xB nB (nI c) < nB → ¬ c = 91 ∧ ¬ (48 ≤ c ∧ c ≤ 57)) (hlG : ∀ c : Nat, c < 256 → kIx xG nG (nI c) < nG → ¬ c = 91 ∧ ¬ (48 ≤ c ∧ c ≤ 57)) (yL : Nat → List kTr) (yU : Nat → List kTr) (hUl : kUn mf2 mf3 0 mkl xA nA xB nB yL) (hUt : kUn mf2 mf3 6 mku xE nE xG nG yU) (hE9 : nE = 1 ∧ xE 0 = 119) (hG9 : nG = 5 ∧ ∀ k : Nat, k < 5 → xG k = nI (97 + k)) (G0 : Nat → Int32) (G1 : Nat → Int32) (G2 : Nat → Int32) (G3 : Nat → Int32) (G4 : Nat → Int32) (SV : Nat) (hTd : kTd mps mkw G0 G1 G2 G3 G4 SV mf19 mf20 mf21 mf22 mf24 mf25) (hOk0 : kOk mps (kS0 G0 G1 G2 0)) (hA9 : nA = 3 ∧ xA 0 = 121 ∧ xA 1 = 103 ∧ xA 2 = 120) (hB9 : nB = 8 ∧ ∀ k : Nat, k < 8 → xB k = nI (kSg8 k)) (hSV : SV < 1024) (p0 : Int32) (p1 : Int32) (p2 : Int32) (sz : Nat) : Met l yX10_worth w_s_worth10 ({ frames := 65, cells := 0, slots := 0, locals := 3900 }) (kW dC dI [.ref jM, .int p0, .int p1, .int p2] [(jM, .inr (10, [.int th, .ref m1, .ref m2, .ref m3, .ref m4, v5, .int (nI (ml)), .int (nI (mkl)), .int (nI (mku)), v9, v10, v11, v12, v13, v14, v15, v16, v17, v18, .ref m19, .ref m20, .ref m21, .ref m22, .ref m23, .ref m24, .ref m25, .int (nI (mps)), .int (nI (mkw)), .ref m28, .ref m29, .ref m30, .ref m31, .ref m32, .ref m33, .ref m34, .ref m35, .ref m36, .int thr, .int (nI (ho)), .long xx, .ref m40, .ref m41, .ref m42, .ref m43, .ref m44, .int (nI (mkn)), .ref m46, .ref m47, .ref m48, .ref m49, .ref m50, .int (nI (mka))])), (m1, .inl (mc1, 120, .inl mf1)), (m2, .inl (mc2, 1680, .inl mf2)), (m3, .inl (mc3, 14, .inl mf3)), (m4, .inl (mc4, 128, .inl mf4)), (m19, .inl (mc19, 10, .inl mf19)), (m20, .inl (mc20, 10, .inl mf20)), (m21, .inl (mc21, 10, .inl mf21)), (m22, .inl (mc22, 10, .inl mf22)), (m23, .inl (mc23, 10, .inl mf23)), (m24, .inl (mc24, 4, .inl mf24)), (m25, .inl (mc25, 10, .inl mf25)), (m28, .inl (mc28, 10, .inl mf28)), (m29, .inl (mc29, 10, .inl mf29)), (m30, .inl (mc30, 10, .inl mf30)), (m31, .inl (mc31, 10, .inl mf31)), (m32, .inl (mc32, 10, .inl mf32)), (m33, .inl (mc33, 10, .inl mf33)), (m34, .inl (mc34, 10, .inl mf34)), (m35, .inl (mc35, 10, .inl mf35)), (m36, .inl (mc36, 10, .inl mf36)), (m40, .inl (mc40, 20, .inl mf40)), (m41, .inl (mc41, 20, .inl mf41)), (m42, .inl (mc42, 20, .inl mf42)), (m43, .inl (mc43, 20, .inl mf43)), (m44, .inl (mc44, 20, .inl mf44)), (m46, .inl (mc46, 14, .inr (.inl mf46))), (m47, .inl (mc47, 6, .inl mf47)), (m48, .inl (mc48, 6, .inl mf48)), (m49, .inl (mc49, 6, .inl mf49)), (m50, .inl (mc50, 6, .inl mf50))] [(mc1, .byte), (mc2, .byte), (mc3, .int), (mc4, .int), (mc19, .int), (mc20, .int), (mc21, .int), (mc22, .int), (mc23, .int), (mc24, .int), (mc25, .boolean), (mc28, .int), (mc29, .int), (mc30, .int), (mc31, .int), (mc32, .int), (mc33, .int), (mc34, .int), (mc35, .int), (mc36, .int), (mc40, .int), (mc41, .int), (mc42, .int), (mc43, .int), (mc44, .int), (mc46, .long), (mc47, .int), (mc48, .int), (mc49, .int), (mc50, .int)] (kMx ad bA nA xA bB nB xB bE nE xE bG nG xG (va_A [(jM, .inr (10, [.int th, .ref m1, .ref m2, .ref m3, .ref m4, v5, .int (nI (ml)), .int (nI (mkl)), .int (nI (mku)), v9, v10, v11, v12, v13, v14, v15, v16, v17, v18, .ref m19, .ref m20, .ref m21, .ref m22, .ref m23, .ref m24, .ref m25, .int (nI (mps)), .int (nI (mkw)), .ref m28, .ref m29, .ref m30, .ref m31, .ref m32, .ref m33, .ref m34, .ref m35, .ref m36, .int thr, .int (nI (ho)), .long xx, .ref m40, .ref m41, .ref m42, .ref m43, .ref m44, .int (nI (mkn)), .ref m46, .ref m47, .ref m48, .ref m49, .ref m50, .int (nI (mka))])), (m1, .inl (mc1, 120, .inl mf1)), (m2, .inl (mc2, 1680, .inl mf2)), (m3, .inl (mc3, 14, .inl mf3)), (m4, .inl (mc4, 128, .inl mf4)), (m19, .inl (mc19, 10, .inl mf19)), (m20, .inl (mc20, 10, .inl mf20)), (m21, .inl (mc21, 10, .inl mf21)), (m22, .inl (mc22, 10, .inl mf22)), (m23, .inl (mc23, 10, .inl mf23)), (m24, .inl (mc24, 4, .inl mf24)), (m25, .inl (mc25, 10, .inl mf25)), (m28, .inl (mc28, 10, .inl mf28)), (m29, .inl (mc29, 10, .inl mf29)), (m30, .inl (mc30, 10, .inl mf30)), (m31, .inl (mc31, 10, .inl mf31)), (m32, .inl (mc32, 10, .inl mf32)), (m33, .inl (mc33, 10, .inl mf33)), (m34, .inl (mc34, 10, .inl mf34)), (m35, .inl (mc35, 10, .inl mf35)), (m36, .inl (mc36, 10, .inl mf36)), (m40, .inl (mc40, 20, .inl mf40)), (m41, .inl (mc41, 20, .inl mf41)), (m42, .inl (mc42, 20, .inl mf42)), (m43, .inl (mc43, 20, .inl mf43)), (m44, .inl (mc44, 20, .inl mf44)), (m46, .inl (mc46, 14, .inr (.inl mf46))), (m47, .inl (mc47, 6, .inl mf47)), (m48, .inl (mc48, 6, .inl mf48)), (m49, .inl (mc49, 6, .inl mf49)), (m50, .inl (mc50, 6, .inl mf50))] sz)) sz) (va_Qi (fun (r : Int32) (u : (Nat → Int32) × (Nat → Int32) × (Nat → Int32) × (Nat → Int32) × (Nat → Int32) × (Nat → Int32) × (Nat → Int32) × (Nat → Int32) × (Nat → Int32) × (Nat → Int32) × Int32 × Int32 × Nat × Int64 × Value × Value × Value × Value × Value × Value × Value × Value × Value × Value × Value) => match u with | (S4, S28, S29, S30, S31, S32, S33, S34, S35, S36, Th0, Th, Ho, Xx, W5, W9, W10, W11, W12, W13, W14, W15, W16, W17, W18) => ((Th0 = kWoE mkl mps p0 p1 p2 ∧ (kWoE mkl mps p0 p1 p2 = 0 → r = kWoV mkl mps mkw G0 G1 G2 G3 G4 SV yL p0 p1 p2)) ∧ Ho ≤ 48)) (fun (u : (Nat → Int32) × (Nat → Int32) × (Nat → Int32) × (Nat → Int32) × (Nat → Int32) × (Nat → Int32) × (Nat → Int32) × (Nat → Int32) × (Nat → Int32) × (Nat → Int32) × Int32 × Int32 × Nat × Int64 × Value × Value × Value × Value × Value × Value × Value × Value × Value × Value × Value) => match u with | (S4, S28, S29, S30, S31, S32, S33, S34, S35, S36, Th0, Th, Ho, Xx, W5, W9, W10, W11, W12, W13, W14, W15, W16, W17, W18) => fun t : State => kB dC dI [(jM, .inr (10, [.int Th0, .ref m1, .ref m2, .ref m3, .ref m4, W5, .int (nI (ml)), .int (nI (mkl)), .int (nI (mku)), W9, W10, W11, W12, W13, W14, W15, W16, W17, W18, .ref m19, .ref m20, .ref m21, .ref m22, .ref m23, .ref m24, .ref m25, .int (nI (mps)), .int (nI (mkw)), .ref m28, .ref m29, .ref m30, .ref m31, .ref m32, .ref m33, .ref m34, .ref m35, .ref m36, .int Th, .int (nI (Ho)), .long Xx, .ref m40, .ref m41, .ref m42, .ref m43, .ref m44, .int (nI (mkn)), .ref m46, .ref m47, .ref m48, .ref m49, .ref m50, .int (nI (mka))])), (m1, .inl (mc1, 120, .inl mf1)), (m2, .inl (mc2, 1680, .inl mf2)), (m3, .inl (mc3, 14, .inl mf3)), (m4, .inl (mc4, 128, .inl S4)), (m19, .inl (mc19, 10, .inl mf19)), (m20, .inl (mc20, 10, .inl mf20)), (m21, .inl (mc21, 10, .inl mf21)), (m22, .inl (mc22, 10, .inl mf22)), (m23, .inl (mc23, 10, .inl mf23)), (m24, .inl (mc24, 4, .inl mf24)), (m25, .inl (mc25, 10, .inl mf25)), (m28, .inl (mc28, 10, .inl S28)), (m29, .inl (mc29, 10, .inl S29)), (m30, .inl (mc30, 10, .inl S30)), (m31, .inl (mc31, 10, .inl S31)), (m32, .inl (mc32, 10, .inl S32)), (m33, .inl (mc33, 10, .inl S33)), (m34, .inl (mc34, 10, .inl S34)), (m35, .inl (mc35, 10, .inl S35)), (m36, .inl (mc36, 10, .inl S36)), (m40, .inl (mc40, 20, .inl mf40)), (m41, .inl (mc41, 20, .inl mf41)), (m42, .inl (mc42, 20, .inl mf42)), (m43, .inl (mc43, 20, .inl mf43)), (m44, .inl (mc44, 20, .inl mf44)), (m46, .inl (mc46, 14, .inr (.inl mf46))), (m47, .inl (mc47, 6, .inl mf47)), (m48, .inl (mc48, 6, .inl mf48)), (m49, .inl (mc49, 6, .inl mf49)), (m50, .inl (mc50, 6, .inl mf50))] [(mc1, .byte), (mc2, .byte), (mc3, .int), (mc4, .int), (mc19, .int), (mc20, .int), (mc21, .int), (mc22, .int), (mc23, .int), (mc24, .int), (mc25, .boolean), (mc28, .int), (mc29, .int), (mc30, .int), (mc31, .int), (mc32, .int), (mc33, .int), (mc34, .int), (mc35, .int), (mc36, .int), (mc40, .int), (mc41, .int), (mc42, .int), (mc43, .int), (mc44, .int), (mc46, .long), (mc47, .int), (mc48, .int), (mc49, .int), (mc50, .int)] (va_A [(jM, .inr (10, [.int th, .ref m1, .ref m2, .ref m3, .ref m4, v5, .int (nI (ml)), .int (nI (mkl)), .int (nI (mku)), v9, v10, v11, v12, v13, v14, v15, v16, v17, v18, .ref m19, .ref m20, .ref m21, .ref m22, .ref m23, .ref m24, .ref m25, .int (nI (mps)), .int (nI (mkw)), .ref m28, .ref m29, .ref m30, .ref m31, .ref m32, .ref m33, .ref m34, .ref m35, .ref m36, .int thr, .int (nI (ho)), .long xx, .ref m40, .ref m41, .ref m42, .ref m43, .ref m44, .int (nI (mkn)), .ref m46, .ref m47, .ref m48, .ref m49, .ref m50, .int (nI (mka))])), (m1, .inl (mc1, 120, .inl mf1)), (m2, .inl (mc2, 1680, .inl mf2)), (m3, .inl (mc3, 14, .inl mf3)), (m4, .inl (mc4, 128, .inl mf4)), (m19, .inl (mc19, 10, .inl mf19)), (m20, .inl (mc20, 10, .inl mf20)), (m21, .inl (mc21, 10, .inl mf21)), (m22, .inl (mc22, 10, .inl mf22)), (m23, .inl (mc23, 10, .inl mf23)), (m24, .inl (mc24, 4, .inl mf24)), (m25, .inl (mc25, 10, .inl mf25)), (m28, .inl (mc28, 10, .inl mf28)), (m29, .inl (mc29, 10, .inl mf29)), (m30, .inl (mc30, 10, .inl mf30)), (m31, .inl (mc31, 10, .inl mf31)), (m32, .inl (mc32, 10, .inl mf32)), (m33, .inl (mc33, 10, .inl mf33)), (m34, .inl (mc34, 10, .inl mf34)), (m35, .inl (mc35, 10, .inl mf35)), (m36, .inl (mc36, 10, .inl mf36)), (m40, .inl (mc40, 20, .inl mf40)), (m41, .inl (mc41, 20, .inl mf41)), (m42, .inl (mc42, 20, .inl mf42)), (m43, .inl (mc43, 20, .inl mf43)), (m44, .inl (mc44, 20, .inl mf44)), (m46, .inl (mc46, 14, .inr (.inl mf46))), (m47, .inl (mc47, 6, .inl mf47)), (m48, .inl (mc48, 6, .inl mf48)), (m49, .inl (mc49, 6, .inl mf49)), (m50, .inl (mc50, 6, .inl mf50))] sz) t) (va_A [(jM, .inr (10, [.int th, .ref m1, .ref m2, .ref m3, .ref m4, v5, .int (nI (ml)), .int (nI (mkl)), .int (nI (mku)), v9, v10, v11, v12, v13, v14, v15, v16, v17, v18, .ref m19, .ref m20, .ref m21, .ref m22, .ref m23, .ref m24, .ref m25, .int (nI (mps)), .int (nI (mkw)), .ref m28, .ref m29, .ref m30, .ref m31, .ref m32, .ref m33, .ref m34, .ref m35, .ref m36, .int thr, .int (nI (ho)), .long xx, .ref m40, .ref m41, .ref m42, .ref m43, .ref m44, .int (nI (mkn)), .ref m46, .ref m47, .ref m48, .ref m49, .ref m50, .int (nI (mka))])), (m1, .inl (mc1, 120, .inl mf1)), (m2, .inl (mc2, 1680, .inl mf2)), (m3, .inl (mc3, 14, .inl mf3)), (m4, .inl (mc4, 128, .inl mf4)), (m19, .inl (mc19, 10, .inl mf19)), (m20, .inl (mc20, 10, .inl mf20)), (m21, .inl (mc21, 10, .inl mf21)), (m22, .inl (mc22, 10, .inl mf22)), (m23, .inl (mc23, 10, .inl mf23)), (m24, .inl (mc24, 4, .inl mf24)), (m25, .inl (mc25, 10, .inl mf25)), (m28, .inl (mc28, 10, .inl mf28)), (m29, .inl (mc29, 10, .inl mf29)), (m30, .inl (mc30, 10, .inl mf30)), (m31, .inl (mc31, 10, .inl mf31)), (m32, .inl (mc32, 10, .inl mf32)), (m33, .inl (mc33, 10, .inl mf33)), (m34, .inl (mc34, 10, .inl mf34)), (m35, .inl (mc35, 10, .inl mf35)), (m36, .inl (mc36, 10, .inl mf36)), (m40, .inl (mc40, 20, .inl mf40)), (m41, .inl (mc41, 20, .inl mf41)), (m42, .inl (mc42, 20, .inl mf42)), (m43, .inl (mc43, 20, .inl mf43)), (m44, .inl (mc44, 20, .inl mf44)), (m46, .inl (mc46, 14, .inr (.inl mf46))), (m47, .inl (mc47, 6, .inl mf47)), (m48, .inl (mc48, 6, .inl mf48)), (m49, .inl (mc49, 6, .inl mf49)), (m50, .inl (mc50, 6, .inl mf50))] sz)) 0 0 (va_A [(jM, .inr (10, [.int th, .ref m1, .ref m2, .ref m3, .ref m4, v5, .int (nI (ml)), .int (nI (mkl)), .int (nI (mku)), v9, v10, v11, v12, v13, v14, v15, v16, v17, v18, .ref m19, .ref m20, .ref m21, .ref m22, .ref m23, .ref m24, .ref m25, .int (nI (mps)), .int (nI (mkw)), .ref m28, .ref m29, .ref m30, .ref m31, .ref m32, .ref m33, .ref m34, .ref m35, .ref m36, .int thr, .int (nI (ho)), .long xx, .ref m40, .ref m41, .ref m42, .ref m43, .ref m44, .int (nI (mkn)), .ref m46, .ref m47, .ref m48, .ref m49, .ref m50, .int (nI (mka))])), (m1, .inl (mc1, 120, .inl mf1)), (m2, .inl (mc2, 1680, .inl mf2)), (m3, .inl (mc3, 14, .inl mf3)), (m4, .inl (mc4, 128, .inl mf4)), (m19, .inl (mc19, 10, .inl mf19)), (m20, .inl (mc20, 10, .inl mf20)), (m21, .inl (mc21, 10, .inl mf21)), (m22, .inl (mc22, 10, .inl mf22)), (m23, .inl (mc23, 10, .inl mf23)), (m24, .inl (mc24, 4, .inl mf24)), (m25, .inl (mc25, 10, .inl mf25)), (m28, .inl (mc28, 10, .inl mf28)), (m29, .inl (mc29, 10, .inl mf29)), (m30, .inl (mc30, 10, .inl mf30)), (m31, .inl (mc31, 10, .inl mf31)), (m32, .inl (mc32, 10, .inl mf32)), (m33, .inl (mc33, 10, .inl mf33)), (m34, .inl (mc34, 10, .inl mf34)), (m35, .inl (mc35, 10, .inl mf35)), (m36, .inl (mc36, 10, .inl mf36)), (m40, .inl (mc40, 20, .inl mf40)), (m41, .inl (mc41, 20, .inl mf41)), (m42, .inl (mc42, 20, .inl mf42)), (m43, .inl (mc43, 20, .inl mf43)), (m44, .inl (mc44, 20, .inl mf44)), (m46, .inl (mc46, 14, .inr (.inl mf46))), (m47, .inl (mc47, 6, .inl mf47)), (m48, .inl (mc48, 6, .inl mf48)), (m49, .inl (mc49, 6, .inl mf49)), (m50, .inl (mc50, 6, .inl mf50))] sz) := by
  sorry
end
section
def w_s_word10 : List Cond := .code yX10_word cX10_word 2 (some .int) :: ([.fieldLink RX10 117 "NotEndedModel" "thrown" "I", .fieldLink RX10 256 "NotEndedModel" "words" "I", .initialized RX10, .static yX10_isIn, .methodLink RX10 236 yX10_isIn, .fieldLink RX10 52 "NotEndedModel" "due" "[I"] ++ (wsX100 ++ (w_s_isIn10)))
theorem gw_s_word10 : (w_s_word10).all goodWord = true := kGc rfl (kGa (by decide +kernel) (kGa gw_wsX100 gw_s_isIn10))
theorem hd_X10_word : yX10_word.cls ≠ "java/lang/invoke/MethodHandle" ∧ yX10_word.cls ≠ "java/lang/invoke/VarHandle" ∧ (parseMethodDescriptor yX10_word.desc).map (fun d => d.parameters.length) = some 1 := by decide +kernel
set_option maxHeartbeats 4000000 in
set_option maxRecDepth 100000 in
theorem s_word10 (l : Launch) (dC : Nat → ClassId) (dI : Nat → Nat → Nat) (jM : Nat) (th : Int32) (thr : Int32) (xx : Int64) (v5 : Value) (v9 : Value) (v10 : Value) (v11 : Value) (v12 : Value) (v13 : Value) (v14 : Value) (v15 : Value) (v16 : Value) (v17 : Value) (v18 : Value) (m1 : Nat) (m2 : Nat) (m3 : Nat) (m4 : Nat) (m19 : Nat) (m20 : Nat) (m21 : Nat) (m22 : Nat) (m23 : Nat) (m24 : Nat) (m25 : Nat) (m28 : Nat) (m29 : Nat) (m30 : Nat) (m31 : Nat) (m32 : Nat) (m33 : Nat) (m34 : Nat) (m35 : Nat) (m36 : Nat) (m40 : Nat) (m41 : Nat) (m42 : Nat) (m43 : Nat) (m44 : Nat) (m46 : Nat) (m47 : Nat) (m48 : Nat) (m49 : Nat) (m50 : Nat) (mc1 : ClassId) (mc2 : ClassId) (mc3 : ClassId) (mc4 : ClassId) (mc19 : ClassId) (mc20 : ClassId) (mc21 : ClassId) (mc22 : ClassId) (mc23 : ClassId) (mc24 : ClassId) (mc25 : ClassId) (mc28 : ClassId) (mc29 : ClassId) (mc30 : ClassId) (mc31 : ClassId) (mc32 : ClassId) (mc33 : ClassId) (mc34 : ClassId) (mc35 : ClassId) (mc36 : ClassId) (mc40 : ClassId) (mc41 : ClassId) (mc42 : ClassId) (mc43 : ClassId) (mc44 : ClassId) (mc46 : ClassId) (mc47 : ClassId) (mc48 : ClassId) (mc49 : ClassId) (mc50 : ClassId) (mf1 : Nat → Int32) (mf2 : Nat → Int32) (mf3 : Nat → Int32) (mf4 : Nat → Int32) (mf19 : Nat → Int32) (mf20 : Nat → Int32) (mf21 : Nat → Int32) (mf22 : Nat → Int32) (mf23 : Nat → Int32) (mf24 : Nat → Int32) (mf25 : Nat → Int32) (mf28 : Nat → Int32) (mf29 : Nat → Int32) (mf30 : Nat → Int32) (mf31 : Nat → Int32) (mf32 : Nat → Int32) (mf33 : Nat → Int32) (mf34 : Nat → Int32) (mf35 : Nat → Int32) (mf36 : Nat → Int32) (mf40 : Nat → Int32) (mf41 : Nat → Int32) (mf42 : Nat → Int32) (mf43 : Nat → Int32) (mf44 : Nat → Int32) (mf46 : Nat → Int64) (mf47 : Nat → Int32) (mf48 : Nat → Int32) (mf49 : Nat → Int32) (mf50 : Nat → Int32) (ml : Nat) (mkl : Nat) (mku : Nat) (mps : Nat) (mkw : Nat) (ho : Nat) (mkn : Nat) (mka : Nat) (hml : ml ≤ 120) (hmkl : mkl ≤ 6) (hmku : mku ≤ 8) (hmps : mps ≤ 10) (hmkw : mkw ≤ 4) (hho : ho ≤ 48) (hmkn : mkn ≤ 20) (hmka : mka ≤ 6) (p0 : Int32) (sz : Nat) : Met l yX10_word w_s_word10 ({ frames := 3, cells := 0, slots := 0, locals := 180 }) (kW dC dI [.ref jM, .int p0] [(jM, .inr (10, [.int th, .ref m1, .ref m2, .ref m3, .ref m4, v5, .int (nI (ml)), .int (nI (mkl)), .int (nI (mku)), v9, v10, v11, v12, v13, v14, v15, v16, v17, v18, .ref m19, .ref m20, .ref m21, .ref m22, .ref m23, .ref m24, .ref m25, .int (nI (mps)), .int (nI (mkw)), .ref m28, .ref m29, .ref m30, .ref m31, .ref m32, .ref m33, .ref m34, .ref m35, .ref m36, .int thr, .int (nI (ho)), .long xx, .ref m40, .ref m41, .ref m42, .ref m43, .ref m44, .int (nI (mkn)), .ref m46, .ref m47, .ref m48, .ref m49, .ref m50, .int (nI (mka))])), (m1, .inl (mc1, 120, .inl mf1)), (m2, .inl (mc2, 1680, .inl mf2)), (m3, .inl (mc3, 14, .inl mf3)), (m4, .inl (mc4, 128, .inl mf4)), (m19, .inl (mc19, 10, .inl mf19)), (m20, .inl (mc20, 10, .inl mf20)), (m21, .inl (mc21, 10, .inl mf21)), (m22, .inl (mc22, 10, .inl mf22)), (m23, .inl (mc23, 10, .inl mf23)), (m24, .inl (mc24, 4, .inl mf24)), (m25, .inl (mc25, 10, .inl mf25)), (m28, .inl (mc28, 10, .inl mf28)), (m29, .inl (mc29, 10, .inl mf29)), (m30, .inl (mc30, 10, .inl mf30)), (m31, .inl (mc31, 10, .inl mf31)), (m32, .inl (mc32, 10, .inl mf32)), (m33, .inl (mc33, 10, .inl mf33)), (m34, .inl (mc34, 10, .inl mf34)), (m35, .inl (mc35, 10, .inl mf35)), (m36, .inl (mc36, 10, .inl mf36)), (m40, .inl (mc40, 20, .inl mf40)), (m41, .inl (mc41, 20, .inl mf41)), (m42, .inl (mc42, 20, .inl mf42)), (m43, .inl (mc43, 20, .inl mf43)), (m44, .inl (mc44, 20, .inl mf44)), (m46, .inl (mc46, 14, .inr (.inl mf46))), (m47, .inl (mc47, 6, .inl mf47)), (m48, .inl (mc48, 6, .inl mf48)), (m49, .inl (mc49, 6, .inl mf49)), (m50, .inl (mc50, 6, .inl mf50))] [(mc1, .byte), (mc2, .byte), (mc3, .int), (mc4, .int), (mc19, .int), (mc20, .int), (mc21, .int), (mc22, .int), (mc23, .int), (mc24, .int), (mc25, .boolean), (mc28, .int), (mc29, .int), (mc30, .int), (mc31, .int), (mc32, .int), (mc33, .int), (mc34, .int), (mc35, .int), (mc36, .int), (mc40, .int), (mc41, .int), (mc42, .int), (mc43, .int), (mc44, .int), (mc46, .long), (mc47, .int), (mc48, .int), (mc49, .int), (mc50, .int)] kT sz) (va_Qi (fun (r : Int32) (u : (Nat → Int32) × Int32 × Nat) => match u with | (S24, Th0, mkw1) => (r = kWordA p0 mkw ∧ mkw1 = kWordN p0 mkw ∧ S24 = kWdF p0 mkw mf24)) (fun (u : (Nat → Int32) × Int32 × Nat) => match u with | (S24, Th0, mkw1) => fun t : State => kB dC dI [(jM, .inr (10, [.int Th0, .ref m1, .ref m2, .ref m3, .ref m4, v5, .int (nI (ml)), .int (nI (mkl)), .int (nI (mku)), v9, v10, v11, v12, v13, v14, v15, v16, v17, v18, .ref m19, .ref m20, .ref m21, .ref m22, .ref m23, .ref m24, .ref m25, .int (nI (mps)), .int (nI (mkw1)), .ref m28, .ref m29, .ref m30, .ref m31, .ref m32, .ref m33, .ref m34, .ref m35, .ref m36, .int thr, .int (nI (ho)), .long xx, .ref m40, .ref m41, .ref m42, .ref m43, .ref m44, .int (nI (mkn)), .ref m46, .ref m47, .ref m48, .ref m49, .ref m50, .int (nI (mka))])), (m1, .inl (mc1, 120, .inl mf1)), (m2, .inl (mc2, 1680, .inl mf2)), (m3, .inl (mc3, 14, .inl mf3)), (m4, .inl (mc4, 128, .inl mf4)), (m19, .inl (mc19, 10, .inl mf19)), (m20, .inl (mc20, 10, .inl mf20)), (m21, .inl (mc21, 10, .inl mf21)), (m22, .inl (mc22, 10, .inl mf22)), (m23, .inl (mc23, 10, .inl mf23)), (m24, .inl (mc24, 4, .inl S24)), (m25, .inl (mc25, 10, .inl mf25)), (m28, .inl (mc28, 10, .inl mf28)), (m29, .inl (mc29, 10, .inl mf29)), (m30, .inl (mc30, 10, .inl mf30)), (m31, .inl (mc31, 10, .inl mf31)), (m32, .inl (mc32, 10, .inl mf32)), (m33, .inl (mc33, 10, .inl mf33)), (m34, .inl (mc34, 10, .inl mf34)), (m35, .inl (mc35, 10, .inl mf35)), (m36, .inl (mc36, 10, .inl mf36)), (m40, .inl (mc40, 20, .inl mf40)), (m41, .inl (mc41, 20, .inl mf41)), (m42, .inl (mc42, 20, .inl mf42)), (m43, .inl (mc43, 20, .inl mf43)), (m44, .inl (mc44, 20, .inl mf44)), (m46, .inl (mc46, 14, .inr (.inl mf46))), (m47, .inl (mc47, 6, .inl mf47)), (m48, .inl (mc48, 6, .inl mf48)), (m49, .inl (mc49, 6, .inl mf49)), (m50, .inl (mc50, 6, .inl mf50))] [(mc1, .byte), (mc2, .byte), (mc3, .int), (mc4, .int), (mc19, .int), (mc20, .int), (mc21, .int), (mc22, .int), (mc23, .int), (mc24, .int), (mc25, .boolean), (mc28, .int), (mc29, .int), (mc30, .int), (mc31, .int), (mc32, .int), (mc33, .int), (mc34, .int), (mc35, .int), (mc36, .int), (mc40, .int), (mc41, .int), (mc42, .int), (mc43, .int), (mc44, .int), (mc46, .long), (mc47, .int), (mc48, .int), (mc49, .int), (mc50, .int)] (va_A [(jM, .inr (10, [.int th, .ref m1, .ref m2, .ref m3, .ref m4, v5, .int (nI (ml)), .int (nI (mkl)), .int (nI (mku)), v9, v10, v11, v12, v13, v14, v15, v16, v17, v18, .ref m19, .ref m20, .ref m21, .ref m22, .ref m23, .ref m24, .ref m25, .int (nI (mps)), .int (nI (mkw)), .ref m28, .ref m29, .ref m30, .ref m31, .ref m32, .ref m33, .ref m34, .ref m35, .ref m36, .int thr, .int (nI (ho)), .long xx, .ref m40, .ref m41, .ref m42, .ref m43, .ref m44, .int (nI (mkn)), .ref m46, .ref m47, .ref m48, .ref m49, .ref m50, .int (nI (mka))])), (m1, .inl (mc1, 120, .inl mf1)), (m2, .inl (mc2, 1680, .inl mf2)), (m3, .inl (mc3, 14, .inl mf3)), (m4, .inl (mc4, 128, .inl mf4)), (m19, .inl (mc19, 10, .inl mf19)), (m20, .inl (mc20, 10, .inl mf20)), (m21, .inl (mc21, 10, .inl mf21)), (m22, .inl (mc22, 10, .inl mf22)), (m23, .inl (mc23, 10, .inl mf23)), (m24, .inl (mc24, 4, .inl mf24)), (m25, .inl (mc25, 10, .inl mf25)), (m28, .inl (mc28, 10, .inl mf28)), (m29, .inl (mc29, 10, .inl mf29)), (m30, .inl (mc30, 10, .inl mf30)), (m31, .inl (mc31, 10, .inl mf31)), (m32, .inl (mc32, 10, .inl mf32)), (m33, .inl (mc33, 10, .inl mf33)), (m34, .inl (mc34, 10, .inl mf34)), (m35, .inl (mc35, 10, .inl mf35)), (m36, .inl (mc36, 10, .inl mf36)), (m40, .inl (mc40, 20, .inl mf40)), (m41, .inl (mc41, 20, .inl mf41)), (m42, .inl (mc42, 20, .inl mf42)), (m43, .inl (mc43, 20, .inl mf43)), (m44, .inl (mc44, 20, .inl mf44)), (m46, .inl (mc46, 14, .inr (.inl mf46))), (m47, .inl (mc47, 6, .inl mf47)), (m48, .inl (mc48, 6, .inl mf48)), (m49, .inl (mc49, 6, .inl mf49)), (m50, .inl (mc50, 6, .inl mf50))] sz) t) (va_A [(jM, .inr (10, [.int th, .ref m1, .ref m2, .ref m3, .ref m4, v5, .int (nI (ml)), .int (nI (mkl)), .int (nI (mku)), v9, v10, v11, v12, v13, v14, v15, v16, v17, v18, .ref m19, .ref m20, .ref m21, .ref m22, .ref m23, .ref m24, .ref m25, .int (nI (mps)), .int (nI (mkw)), .ref m28, .ref m29, .ref m30, .ref m31, .ref m32, .ref m33, .ref m34, .ref m35, .ref m36, .int thr, .int (nI (ho)), .long xx, .ref m40, .ref m41, .ref m42, .ref m43, .ref m44, .int (nI (mkn)), .ref m46, .ref m47, .ref m48, .ref m49, .ref m50, .int (nI (mka))])), (m1, .inl (mc1, 120, .inl mf1)), (m2, .inl (mc2, 1680, .inl mf2)), (m3, .inl (mc3, 14, .inl mf3)), (m4, .inl (mc4, 128, .inl mf4)), (m19, .inl (mc19, 10, .inl mf19)), (m20, .inl (mc20, 10, .inl mf20)), (m21, .inl (mc21, 10, .inl mf21)), (m22, .inl (mc22, 10, .inl mf22)), (m23, .inl (mc23, 10, .inl mf23)), (m24, .inl (mc24, 4, .inl mf24)), (m25, .inl (mc25, 10, .inl mf25)), (m28, .inl (mc28, 10, .inl mf28)), (m29, .inl (mc29, 10, .inl mf29)), (m30, .inl (mc30, 10, .inl mf30)), (m31, .inl (mc31, 10, .inl mf31)), (m32, .inl (mc32, 10, .inl mf32)), (m33, .inl (mc33, 10, .inl mf33)), (m34, .inl (mc34, 10, .inl mf34)), (m35, .inl (mc35, 10, .inl mf35)), (m36, .inl (mc36, 10, .inl mf36)), (m40, .inl (mc40, 20, .inl mf40)), (m41, .inl (mc41, 20, .inl mf41)), (m42, .inl (mc42, 20, .inl mf42)), (m43, .inl (mc43, 20, .inl mf43)), (m44, .inl (mc44, 20, .inl mf44)), (m46, .inl (mc46, 14, .inr (.inl mf46))), (m47, .inl (mc47, 6, .inl mf47)), (m48, .inl (mc48, 6, .inl mf48)), (m49, .inl (mc49, 6, .inl mf49)), (m50, .inl (mc50, 6, .inl mf50))] sz)) 0 0 (va_A [(jM, .inr (10, [.int th, .ref m1, .ref m2, .ref m3, .ref m4, v5, .int (nI (ml)), .int (nI (mkl)), .int (nI (mku)), v9, v10, v11, v12, v13, v14, v15, v16, v17, v18, .ref m19, .ref m20, .ref m21, .ref m22, .ref m23, .ref m24, .ref m25, .int (nI (mps)), .int (nI (mkw)), .ref m28, .ref m29, .ref m30, .ref m31, .ref m32, .ref m33, .ref m34, .ref m35, .ref m36, .int thr, .int (nI (ho)), .long xx, .ref m40, .ref m41, .ref m42, .ref m43, .ref m44, .int (nI (mkn)), .ref m46, .ref m47, .ref m48, .ref m49, .ref m50, .int (nI (mka))])), (m1, .inl (mc1, 120, .inl mf1)), (m2, .inl (mc2, 1680, .inl mf2)), (m3, .inl (mc3, 14, .inl mf3)), (m4, .inl (mc4, 128, .inl mf4)), (m19, .inl (mc19, 10, .inl mf19)), (m20, .inl (mc20, 10, .inl mf20)), (m21, .inl (mc21, 10, .inl mf21)), (m22, .inl (mc22, 10, .inl mf22)), (m23, .inl (mc23, 10, .inl mf23)), (m24, .inl (mc24, 4, .inl mf24)), (m25, .inl (mc25, 10, .inl mf25)), (m28, .inl (mc28, 10, .inl mf28)), (m29, .inl (mc29, 10, .inl mf29)), (m30, .inl (mc30, 10, .inl mf30)), (m31, .inl (mc31, 10, .inl mf31)), (m32, .inl (mc32, 10, .inl mf32)), (m33, .inl (mc33, 10, .inl mf33)), (m34, .inl (mc34, 10, .inl mf34)), (m35, .inl (mc35, 10, .inl mf35)), (m36, .inl (mc36, 10, .inl mf36)), (m40, .inl (mc40, 20, .inl mf40)), (m41, .inl (mc41, 20, .inl mf41)), (m42, .inl (mc42, 20, .inl mf42)), (m43, .inl (mc43, 20, .inl mf43)), (m44, .inl (mc44, 20, .inl mf44)), (m46, .inl (mc46, 14, .inr (.inl mf46))), (m47, .inl (mc47, 6, .inl mf47)), (m48, .inl (mc48, 6, .inl mf48)), (m49, .inl (mc49, 6, .inl mf49)), (m50, .inl (mc50, 6, .inl mf50))] sz) := by
  sorry
end
section
/-- what the class's maker needs: text constants, the array class of rules, the links to its nest mates -/
def kNew (ad : Nat → Nat) (U : State) : Prop := kLit ad U ∧ kAO U ∧ va_Nw (.methodLinkNest RX9 11 yX8_init RX9) U ∧ va_Nw (.methodLinkNest RX9 27 yX5_init RX9) U ∧ va_Nw (.methodLinkNest RX9 46 yX2_init RX9) U ∧ va_Nw (.methodLinkNest RX9 62 yX3_init RX9) U ∧ va_Nw (.methodLinkNest RX9 69 yX0_init RX9) U
end
section
theorem dL_worth_0 : decode cL_worth 0 = .ok (.aload 4, 2) := by decide +kernel
theorem dL_worth_2 : decode cL_worth 2 = .ok (.iconst 0, 1) := by decide +kernel
theorem dL_worth_3 : decode cL_worth 3 = .ok (.aload_n 0, 1) := by decide +kernel
theorem dL_worth_4 : decode cL_worth 4 = .ok (.iload_n 1, 1) := by decide +kernel
theorem dL_worth_5 : decode cL_worth 5 = .ok (.iload_n 2, 1) := by decide +kernel
theorem dL_worth_6 : decode cL_worth 6 = .ok (.iload_n 3, 1) := by decide +kernel
theorem dL_worth_7 : decode cL_worth 7 = .ok (.invokevirtual 7, 3) := by decide +kernel
theorem dL_worth_15 : decode cL_worth 15 = .ok (.astore 5, 2) := by decide +kernel
theorem dL_worth_17 : decode cL_worth 17 = .ok (.iconst 1, 1) := by decide +kernel
theorem dL_worth_18 : decode cL_worth 18 = .ok (.ireturn, 1) := by decide +kernel
theorem dL_worth_10 : decode cL_worth 10 = .ok (.i2l, 1) := by decide +kernel
theorem dL_worth_11 : decode cL_worth 11 = .ok (.lastore, 1) := by decide +kernel
theorem dL_worth_12 : decode cL_worth 12 = .ok (.goto 7, 3) := by decide +kernel
theorem dL_worth_19 : decode cL_worth 19 = .ok (.iconst 0, 1) := by decide +kernel
theorem dL_worth_20 : decode cL_worth 20 = .ok (.ireturn, 1) := by decide +kernel
def w_s_worthL : List Cond := .codeWith yL_worth cL_worth 6 (some .int) [(0, 12, 15, 13)] :: ([.initialized RX9, .selects RX9 yX9_worth yX9_worth, .instanceMethod yX9_worth, .methodLink RL 7 yX9_worth, .classLink RL 13 "java/util/NoSuchElementException"] ++ (w_s_worth9))
theorem gw_s_worthL : (w_s_worthL).all goodWord = true := kGc rfl (kGa (by decide +kernel) gw_s_worth9)
theorem hd_L_worth : yL_worth.cls ≠ "java/lang/invoke/MethodHandle" ∧ yL_worth.cls ≠ "java/lang/invoke/VarHandle" ∧ (parseMethodDescriptor yL_worth.desc).map (fun d => d.parameters.length) = some 5 := by decide +kernel
set_option maxHeartbeats 4000000 in
set_option maxRecDepth 100000 in
theorem s_worthL (l : Launch) (hlt : l.stackTraces = false) (dC : Nat → ClassId) (dI : Nat → Nat → Nat) (jX : Nat) (jT : Nat) (jR : Nat) (jL : Nat) (jU : Nat) (hN : Nat) (jA : Nat) (sd : Nat) (jC : Nat) (d2 : Nat) (d3 : Nat) (d4 : Nat) (d5 : Nat) (d6 : Nat) (d7 : Nat) (d8 : Nat) (d9 : Nat) (d10 : Nat) (d11 : Nat) (d12 : Nat) (d13 : Nat) (w2 : ClassId) (w3 : ClassId) (w4 : ClassId) (w5 : ClassId) (w6 : ClassId) (w7 : ClassId) (w8 : ClassId) (w9 : ClassId) (w10 : ClassId) (w11 : ClassId) (w12 : ClassId) (w13 : ClassId) (e2 : Nat → Int32) (e3 : Nat → Int32) (e4 : Nat → Int32) (e5 : Nat → Int32) (e6 : Nat → Int32) (e7 : Nat → Int32) (e8 : Nat → Int32) (e9 : Nat → Int32) (e10 : Nat → Int32) (e11 : Nat → Int32) (e12 : Nat → Int32) (e13 : Nat → Int64) (dr : Int64) (pr : Int32) (mo : Int32) (ho : Int32) (hF : Nat) (f0 : Nat) (f1 : Nat) (f2 : Nat) (f3 : Nat) (f4 : Nat) (z0 : ClassId) (z1 : ClassId) (z2 : ClassId) (z3 : ClassId) (z4 : ClassId) (g0 : Nat → Int32) (g1 : Nat → Int32) (g2 : Nat → Int32) (g3 : Nat → Int32) (g4 : Nat → Int32) (ks : Nat) (kw : Nat) (hks : ks ≤ 10) (hkw : kw ≤ 4) (sv : Nat) (hsv : sv < 1024) (jK : Nat) (k0 : Nat) (k1 : Nat) (cK : ClassId) (cO : ClassId) (l0 : Nat → Int32) (l1 : Nat → Int32) (o0 : Nat) (o1 : Nat) (o2 : Nat) (o3 : Nat) (o4 : Nat) (y0 : ClassId) (y1 : ClassId) (y2 : ClassId) (y3 : ClassId) (y4 : ClassId) (q0 : Nat → Int32) (q1 : Nat → Int32) (q2 : Nat → Int32) (q3 : Nat → Int32) (q4 : Nat → Int32) (kn : Nat) (hkn : kn ≤ 20) (i0 : Nat) (i1 : Nat) (i2 : Nat) (i3 : Nat) (x0 : ClassId) (x1 : ClassId) (x2 : ClassId) (x3 : ClassId) (t0 : Nat → Int32) (t1 : Nat → Int32) (t2 : Nat → Int32) (t3 : Nat → Int32) (ka : Nat) (hka : ka ≤ 6) (lw : Value) (rL : Nat) (cL : ClassId) (gL : Nat → Option Nat) (kl : Nat) (hkl : kl ≤ 6) (yL : Nat → List kTr) (rU : Nat) (cU : ClassId) (gU : Nat → Option Nat) (ku : Nat) (hku : ku ≤ 8) (yU : Nat → List kTr) (cD : ClassId) (gD : Nat → Int32) (hOk0 : kOk ks (kS0 g0 g1 g2 0)) (oo : Nat) (cOo : ClassId) (fo : Nat → Int64) (p0 : Int32) (p1 : Int32) (p2 : Int32) (sz : Nat) : Met l yL_worth w_s_worthL ({ frames := 11, cells := 1, slots := 6, locals := 660 }) (kW dC dI [.ref jX, .int p0, .int p1, .int p2, .ref oo] [(jX, .inr (9, [.ref jT, .ref jR, .ref jK, .ref jL, .ref jU, .ref hF, .ref jC, .ref hN, .ref jA, .ref sd])), (jC, .inr (1, [.ref hF, .ref jK, .ref d2, .ref d3, .ref d4, .ref d5, .ref d6, .ref d7, .ref d8, .ref d9, .ref d10, .ref d11, .ref d12, .ref d13, lw, .long dr, .int pr, .int mo, .int ho])), (d2, .inl (w2, 10, .inl e2)), (d3, .inl (w3, 10, .inl e3)), (d4, .inl (w4, 10, .inl e4)), (d5, .inl (w5, 10, .inl e5)), (d6, .inl (w6, 10, .inl e6)), (d7, .inl (w7, 10, .inl e7)), (d8, .inl (w8, 10, .inl e8)), (d9, .inl (w9, 10, .inl e9)), (d10, .inl (w10, 4, .inl e10)), (d11, .inl (w11, 4, .inl e11)), (d12, .inl (w12, 4, .inl e12)), (d13, .inl (w13, 9, .inr (.inl e13))), (hF, .inr (2, [.ref f0, .ref f1, .ref f2, .ref f3, .ref f4, .int (nI (sv)), .int (nI (ks)), .int (nI (kw))])), (f0, .inl (z0, 10, .inl g0)), (f1, .inl (z1, 10, .inl g1)), (f2, .inl (z2, 10, .inl g2)), (f3, .inl (z3, 10, .inl g3)), (f4, .inl (z4, 4, .inl g4)), (jK, .inr (5, [.ref k0, .ref k1])), (k0, .inl (cK, 8, .inl l0)), (k1, .inl (cO, 32, .inl l1)), (hN, .inr (3, [.ref o0, .ref o1, .ref o2, .ref o3, .ref o4, .int (nI (kn))])), (o0, .inl (y0, 20, .inl q0)), (o1, .inl (y1, 20, .inl q1)), (o2, .inl (y2, 20, .inl q2)), (o3, .inl (y3, 20, .inl q3)), (o4, .inl (y4, 20, .inl q4)), (jA, .inr (0, [.ref i0, .ref i1, .ref i2, .ref i3, .int (nI (ka))])), (i0, .inl (x0, 6, .inl t0)), (i1, .inl (x1, 6, .inl t1)), (i2, .inl (x2, 6, .inl t2)), (i3, .inl (x3, 6, .inl t3)), (jL, .inr (7, [.ref rL, .int (nI (kl))])), (rL, .inl (cL, 6, .inr (.inr (.inr (.inr gL))))), (jU, .inr (7, [.ref rU, .int (nI (ku))])), (rU, .inl (cU, 8, .inr (.inr (.inr (.inr gU))))), (sd, .inl (cD, 10, .inl gD)), (oo, .inl (cOo, 1, .inr (.inl fo)))] [(w2, .int), (w3, .int), (w4, .int), (w5, .int), (w6, .int), (w7, .int), (w8, .int), (w9, .int), (w10, .int), (w11, .int), (w12, .int), (w13, .long), (z0, .int), (z1, .int), (z2, .int), (z3, .int), (z4, .int), (cK, .int), (cO, .int), (y0, .int), (y1, .int), (y2, .int), (y3, .int), (y4, .int), (x0, .int), (x1, .int), (x2, .int), (x3, .int), (cL, .object RX6), (cU, .object RX6), (cD, .int), (cOo, .long)] (kPubT dC dI kl gL yL ku gU yU (va_A [(jX, .inr (9, [.ref jT, .ref jR, .ref jK, .ref jL, .ref jU, .ref hF, .ref jC, .ref hN, .ref jA, .ref sd])), (jC, .inr (1, [.ref hF, .ref jK, .ref d2, .ref d3, .ref d4, .ref d5, .ref d6, .ref d7, .ref d8, .ref d9, .ref d10, .ref d11, .ref d12, .ref d13, lw, .long dr, .int pr, .int mo, .int ho])), (d2, .inl (w2, 10, .inl e2)), (d3, .inl (w3, 10, .inl e3)), (d4, .inl (w4, 10, .inl e4)), (d5, .inl (w5, 10, .inl e5)), (d6, .inl (w6, 10, .inl e6)), (d7, .inl (w7, 10, .inl e7)), (d8, .inl (w8, 10, .inl e8)), (d9, .inl (w9, 10, .inl e9)), (d10, .inl (w10, 4, .inl e10)), (d11, .inl (w11, 4, .inl e11)), (d12, .inl (w12, 4, .inl e12)), (d13, .inl (w13, 9, .inr (.inl e13))), (hF, .inr (2, [.ref f0, .ref f1, .ref f2, .ref f3, .ref f4, .int (nI (sv)), .int (nI (ks)), .int (nI (kw))])), (f0, .inl (z0, 10, .inl g0)), (f1, .inl (z1, 10, .inl g1)), (f2, .inl (z2, 10, .inl g2)), (f3, .inl (z3, 10, .inl g3)), (f4, .inl (z4, 4, .inl g4)), (jK, .inr (5, [.ref k0, .ref k1])), (k0, .inl (cK, 8, .inl l0)), (k1, .inl (cO, 32, .inl l1)), (hN, .inr (3, [.ref o0, .ref o1, .ref o2, .ref o3, .ref o4, .int (nI (kn))])), (o0, .inl (y0, 20, .inl q0)), (o1, .inl (y1, 20, .inl q1)), (o2, .inl (y2, 20, .inl q2)), (o3, .inl (y3, 20, .inl q3)), (o4, .inl (y4, 20, .inl q4)), (jA, .inr (0, [.ref i0, .ref i1, .ref i2, .ref i3, .int (nI (ka))])), (i0, .inl (x0, 6, .inl t0)), (i1, .inl (x1, 6, .inl t1)), (i2, .inl (x2, 6, .inl t2)), (i3, .inl (x3, 6, .inl t3)), (jL, .inr (7, [.ref rL, .int (nI (kl))])), (rL, .inl (cL, 6, .inr (.inr (.inr (.inr gL))))), (jU, .inr (7, [.ref rU, .int (nI (ku))])), (rU, .inl (cU, 8, .inr (.inr (.inr (.inr gU))))), (sd, .inl (cD, 10, .inl gD)), (oo, .inl (cOo, 1, .inr (.inl fo)))] sz)) sz) (va_Qi (fun (r : Int32) (u : (Nat → Int32) × (Nat → Int32) × (Nat → Int32) × (Nat → Int32) × (Nat → Int32) × (Nat → Int32) × (Nat → Int32) × (Nat → Int32) × (Nat → Int32) × (Nat → Int32) × (Nat → Int32) × (Nat → Int64) × (Nat → Int32) × (Nat → Int32) × (Nat → Int64) × Int32 × Int32 × Int32 × Int64 × Value) => match u with | (E2, E3, E4, E5, E6, E7, E8, E9, E10, E11, E12, E13, L0, L1, fo1, Pr, Mo, Ho, Dr, Lw) => (r = kWoE kl ks p0 p1 p2 ∧ (kWoE kl ks p0 p1 p2 = 0 → fo1 0 = Int32.toInt64 (kWoV kl ks kw g0 g1 g2 g3 g4 sv yL p0 p1 p2)))) (fun (u : (Nat → Int32) × (Nat → Int32) × (Nat → Int32) × (Nat → Int32) × (Nat → Int32) × (Nat → Int32) × (Nat → Int32) × (Nat → Int32) × (Nat → Int32) × (Nat → Int32) × (Nat → Int32) × (Nat → Int64) × (Nat → Int32) × (Nat → Int32) × (Nat → Int64) × Int32 × Int32 × Int32 × Int64 × Value) => match u with | (E2, E3, E4, E5, E6, E7, E8, E9, E10, E11, E12, E13, L0, L1, fo1, Pr, Mo, Ho, Dr, Lw) => fun t : State => kB dC dI [(jX, .inr (9, [.ref jT, .ref jR, .ref jK, .ref jL, .ref jU, .ref hF, .ref jC, .ref hN, .ref jA, .ref sd])), (jC, .inr (1, [.ref hF, .ref jK, .ref d2, .ref d3, .ref d4, .ref d5, .ref d6, .ref d7, .ref d8, .ref d9, .ref d10, .ref d11, .ref d12, .ref d13, Lw, .long Dr, .int Pr, .int Mo, .int Ho])), (d2, .inl (w2, 10, .inl E2)), (d3, .inl (w3, 10, .inl E3)), (d4, .inl (w4, 10, .inl E4)), (d5, .inl (w5, 10, .inl E5)), (d6, .inl (w6, 10, .inl E6)), (d7, .inl (w7, 10, .inl E7)), (d8, .inl (w8, 10, .inl E8)), (d9, .inl (w9, 10, .inl E9)), (d10, .inl (w10, 4, .inl E10)), (d11, .inl (w11, 4, .inl E11)), (d12, .inl (w12, 4, .inl E12)), (d13, .inl (w13, 9, .inr (.inl E13))), (hF, .inr (2, [.ref f0, .ref f1, .ref f2, .ref f3, .ref f4, .int (nI (sv)), .int (nI (ks)), .int (nI (kw))])), (f0, .inl (z0, 10, .inl g0)), (f1, .inl (z1, 10, .inl g1)), (f2, .inl (z2, 10, .inl g2)), (f3, .inl (z3, 10, .inl g3)), (f4, .inl (z4, 4, .inl g4)), (jK, .inr (5, [.ref k0, .ref k1])), (k0, .inl (cK, 8, .inl L0)), (k1, .inl (cO, 32, .inl L1)), (hN, .inr (3, [.ref o0, .ref o1, .ref o2, .ref o3, .ref o4, .int (nI (kn))])), (o0, .inl (y0, 20, .inl q0)), (o1, .inl (y1, 20, .inl q1)), (o2, .inl (y2, 20, .inl q2)), (o3, .inl (y3, 20, .inl q3)), (o4, .inl (y4, 20, .inl q4)), (jA, .inr (0, [.ref i0, .ref i1, .ref i2, .ref i3, .int (nI (ka))])), (i0, .inl (x0, 6, .inl t0)), (i1, .inl (x1, 6, .inl t1)), (i2, .inl (x2, 6, .inl t2)), (i3, .inl (x3, 6, .inl t3)), (jL, .inr (7, [.ref rL, .int (nI (kl))])), (rL, .inl (cL, 6, .inr (.inr (.inr (.inr gL))))), (jU, .inr (7, [.ref rU, .int (nI (ku))])), (rU, .inl (cU, 8, .inr (.inr (.inr (.inr gU))))), (sd, .inl (cD, 10, .inl gD)), (oo, .inl (cOo, 1, .inr (.inl fo1)))] [(w2, .int), (w3, .int), (w4, .int), (w5, .int), (w6, .int), (w7, .int), (w8, .int), (w9, .int), (w10, .int), (w11, .int), (w12, .int), (w13, .long), (z0, .int), (z1, .int), (z2, .int), (z3, .int), (z4, .int), (cK, .int), (cO, .int), (y0, .int), (y1, .int), (y2, .int), (y3, .int), (y4, .int), (x0, .int), (x1, .int), (x2, .int), (x3, .int), (cL, .object RX6), (cU, .object RX6), (cD, .int), (cOo, .long)] (va_A [(jX, .inr (9, [.ref jT, .ref jR, .ref jK, .ref jL, .ref jU, .ref hF, .ref jC, .ref hN, .ref jA, .ref sd])), (jC, .inr (1, [.ref hF, .ref jK, .ref d2, .ref d3, .ref d4, .ref d5, .ref d6, .ref d7, .ref d8, .ref d9, .ref d10, .ref d11, .ref d12, .ref d13, lw, .long dr, .int pr, .int mo, .int ho])), (d2, .inl (w2, 10, .inl e2)), (d3, .inl (w3, 10, .inl e3)), (d4, .inl (w4, 10, .inl e4)), (d5, .inl (w5, 10, .inl e5)), (d6, .inl (w6, 10, .inl e6)), (d7, .inl (w7, 10, .inl e7)), (d8, .inl (w8, 10, .inl e8)), (d9, .inl (w9, 10, .inl e9)), (d10, .inl (w10, 4, .inl e10)), (d11, .inl (w11, 4, .inl e11)), (d12, .inl (w12, 4, .inl e12)), (d13, .inl (w13, 9, .inr (.inl e13))), (hF, .inr (2, [.ref f0, .ref f1, .ref f2, .ref f3, .ref f4, .int (nI (sv)), .int (nI (ks)), .int (nI (kw))])), (f0, .inl (z0, 10, .inl g0)), (f1, .inl (z1, 10, .inl g1)), (f2, .inl (z2, 10, .inl g2)), (f3, .inl (z3, 10, .inl g3)), (f4, .inl (z4, 4, .inl g4)), (jK, .inr (5, [.ref k0, .ref k1])), (k0, .inl (cK, 8, .inl l0)), (k1, .inl (cO, 32, .inl l1)), (hN, .inr (3, [.ref o0, .ref o1, .ref o2, .ref o3, .ref o4, .int (nI (kn))])), (o0, .inl (y0, 20, .inl q0)), (o1, .inl (y1, 20, .inl q1)), (o2, .inl (y2, 20, .inl q2)), (o3, .inl (y3, 20, .inl q3)), (o4, .inl (y4, 20, .inl q4)), (jA, .inr (0, [.ref i0, .ref i1, .ref i2, .ref i3, .int (nI (ka))])), (i0, .inl (x0, 6, .inl t0)), (i1, .inl (x1, 6, .inl t1)), (i2, .inl (x2, 6, .inl t2)), (i3, .inl (x3, 6, .inl t3)), (jL, .inr (7, [.ref rL, .int (nI (kl))])), (rL, .inl (cL, 6, .inr (.inr (.inr (.inr gL))))), (jU, .inr (7, [.ref rU, .int (nI (ku))])), (rU, .inl (cU, 8, .inr (.inr (.inr (.inr gU))))), (sd, .inl (cD, 10, .inl gD)), (oo, .inl (cOo, 1, .inr (.inl fo)))] sz) t) (va_A [(jX, .inr (9, [.ref jT, .ref jR, .ref jK, .ref jL, .ref jU, .ref hF, .ref jC, .ref hN, .ref jA, .ref sd])), (jC, .inr (1, [.ref hF, .ref jK, .ref d2, .ref d3, .ref d4, .ref d5, .ref d6, .ref d7, .ref d8, .ref d9, .ref d10, .ref d11, .ref d12, .ref d13, lw, .long dr, .int pr, .int mo, .int ho])), (d2, .inl (w2, 10, .inl e2)), (d3, .inl (w3, 10, .inl e3)), (d4, .inl (w4, 10, .inl e4)), (d5, .inl (w5, 10, .inl e5)), (d6, .inl (w6, 10, .inl e6)), (d7, .inl (w7, 10, .inl e7)), (d8, .inl (w8, 10, .inl e8)), (d9, .inl (w9, 10, .inl e9)), (d10, .inl (w10, 4, .inl e10)), (d11, .inl (w11, 4, .inl e11)), (d12, .inl (w12, 4, .inl e12)), (d13, .inl (w13, 9, .inr (.inl e13))), (hF, .inr (2, [.ref f0, .ref f1, .ref f2, .ref f3, .ref f4, .int (nI (sv)), .int (nI (ks)), .int (nI (kw))])), (f0, .inl (z0, 10, .inl g0)), (f1, .inl (z1, 10, .inl g1)), (f2, .inl (z2, 10, .inl g2)), (f3, .inl (z3, 10, .inl g3)), (f4, .inl (z4, 4, .inl g4)), (jK, .inr (5, [.ref k0, .ref k1])), (k0, .inl (cK, 8, .inl l0)), (k1, .inl (cO, 32, .inl l1)), (hN, .inr (3, [.ref o0, .ref o1, .ref o2, .ref o3, .ref o4, .int (nI (kn))])), (o0, .inl (y0, 20, .inl q0)), (o1, .inl (y1, 20, .inl q1)), (o2, .inl (y2, 20, .inl q2)), (o3, .inl (y3, 20, .inl q3)), (o4, .inl (y4, 20, .inl q4)), (jA, .inr (0, [.ref i0, .ref i1, .ref i2, .ref i3, .int (nI (ka))])), (i0, .inl (x0, 6, .inl t0)), (i1, .inl (x1, 6, .inl t1)), (i2, .inl (x2, 6, .inl t2)), (i3, .inl (x3, 6, .inl t3)), (jL, .inr (7, [.ref rL, .int (nI (kl))])), (rL, .inl (cL, 6, .inr (.inr (.inr (.inr gL))))), (jU, .inr (7, [.ref rU, .int (nI (ku))])), (rU, .inl (cU, 8, .inr (.inr (.inr (.inr gU))))), (sd, .inl (cD, 10, .inl gD)), (oo, .inl (cOo, 1, .inr (.inl fo)))] sz)) 1 6 (va_A [(jX, .inr (9, [.ref jT, .ref jR, .ref jK, .ref jL, .ref jU, .ref hF, .ref jC, .ref hN, .ref jA, .ref sd])), (jC, .inr (1, [.ref hF, .ref jK, .ref d2, .ref d3, .ref d4, .ref d5, .ref d6, .ref d7, .ref d8, .ref d9, .ref d10, .ref d11, .ref d12, .ref d13, lw, .long dr, .int pr, .int mo, .int ho])), (d2, .inl (w2, 10, .inl e2)), (d3, .inl (w3, 10, .inl e3)), (d4, .inl (w4, 10, .inl e4)), (d5, .inl (w5, 10, .inl e5)), (d6, .inl (w6, 10, .inl e6)), (d7, .inl (w7, 10, .inl e7)), (d8, .inl (w8, 10, .inl e8)), (d9, .inl (w9, 10, .inl e9)), (d10, .inl (w10, 4, .inl e10)), (d11, .inl (w11, 4, .inl e11)), (d12, .inl (w12, 4, .inl e12)), (d13, .inl (w13, 9, .inr (.inl e13))), (hF, .inr (2, [.ref f0, .ref f1, .ref f2, .ref f3, .ref f4, .int (nI (sv)), .int (nI (ks)), .int (nI (kw))])), (f0, .inl (z0, 10, .inl g0)), (f1, .inl (z1, 10, .inl g1)), (f2, .inl (z2, 10, .inl g2)), (f3, .inl (z3, 10, .inl g3)), (f4, .inl (z4, 4, .inl g4)), (jK, .inr (5, [.ref k0, .ref k1])), (k0, .inl (cK, 8, .inl l0)), (k1, .inl (cO, 32, .inl l1)), (hN, .inr (3, [.ref o0, .ref o1, .ref o2, .ref o3, .ref o4, .int (nI (kn))])), (o0, .inl (y0, 20, .inl q0)), (o1, .inl (y1, 20, .inl q1)), (o2, .inl (y2, 20, .inl q2)), (o3, .inl (y3, 20, .inl q3)), (o4, .inl (y4, 20, .inl q4)), (jA, .inr (0, [.ref i0, .ref i1, .ref i2, .ref i3, .int (nI (ka))])), (i0, .inl (x0, 6, .inl t0)), (i1, .inl (x1, 6, .inl t1)), (i2, .inl (x2, 6, .inl t2)), (i3, .inl (x3, 6, .inl t3)), (jL, .inr (7, [.ref rL, .int (nI (kl))])), (rL, .inl (cL, 6, .inr (.inr (.inr (.inr gL))))), (jU, .inr (7, [.ref rU, .int (nI (ku))])), (rU, .inl (cU, 8, .inr (.inr (.inr (.inr gU))))), (sd, .inl (cD, 10, .inl gD)), (oo, .inl (cOo, 1, .inr (.inl fo)))] sz) := by
  refine va_MetW (hh := [(0, 12, 15, 13)]) (cc := cL_worth) (maxL := 6) (ret := (some .int)) (by decide) rfl ?_
  intro p e s m args below meth c s₁ B hml hv
  obtain ⟨rfl, hsz, hP, hK, hD0, hX⟩ := hv
  have hx := B.exec
  have hb := B.bytes
  have hr := B.returns
  have hts := atoms_spec (ws := w_s_worthL) B.pre
  have hown : s.vm.findClass RL = some m.cls := findClass_of_methodNamed B.named
  have hlocks := B.notSynchronized
  subst hsz
  have hD := hD0.self (sz := s.heap.size)
  generalize hAe : va_A [(jX, .inr (9, [.ref jT, .ref jR, .ref jK, .ref jL, .ref jU, .ref hF, .ref jC, .ref hN, .ref jA, .ref sd])), (jC, .inr (1, [.ref hF, .ref jK, .ref d2, .ref d3, .ref d4, .ref d5, .ref d6, .ref d7, .ref d8, .ref d9, .ref d10, .ref d11, .ref d12, .ref d13, lw, .long dr, .int pr, .int mo, .int ho])), (d2, .inl (w2, 10, .inl e2)), (d3, .inl (w3, 10, .inl e3)), (d4, .inl (w4, 10, .inl e4)), (d5, .inl (w5, 10, .inl e5)), (d6, .inl (w6, 10, .inl e6)), (d7, .inl (w7, 10, .inl e7)), (d8, .inl (w8, 10, .inl e8)), (d9, .inl (w9, 10, .inl e9)), (d10, .inl (w10, 4, .inl e10)), (d11, .inl (w11, 4, .inl e11)), (d12, .inl (w12, 4, .inl e12)), (d13, .inl (w13, 9, .inr (.inl e13))), (hF, .inr (2, [.ref f0, .ref f1, .ref f2, .ref f3, .ref f4, .int (nI (sv)), .int (nI (ks)), .int (nI (kw))])), (f0, .inl (z0, 10, .inl g0)), (f1, .inl (z1, 10, .inl g1)), (f2, .inl (z2, 10, .inl g2)), (f3, .inl (z3, 10, .inl g3)), (f4, .inl (z4, 4, .inl g4)), (jK, .inr (5, [.ref k0, .ref k1])), (k0, .inl (cK, 8, .inl l0)), (k1, .inl (cO, 32, .inl l1)), (hN, .inr (3, [.ref o0, .ref o1, .ref o2, .ref o3, .ref o4, .int (nI (kn))])), (o0, .inl (y0, 20, .inl q0)), (o1, .inl (y1, 20, .inl q1)), (o2, .inl (y2, 20, .inl q2)), (o3, .inl (y3, 20, .inl q3)), (o4, .inl (y4, 20, .inl q4)), (jA, .inr (0, [.ref i0, .ref i1, .ref i2, .ref i3, .int (nI (ka))])), (i0, .inl (x0, 6, .inl t0)), (i1, .inl (x1, 6, .inl t1)), (i2, .inl (x2, 6, .inl t2)), (i3, .inl (x3, 6, .inl t3)), (jL, .inr (7, [.ref rL, .int (nI (kl))])), (rL, .inl (cL, 6, .inr (.inr (.inr (.inr gL))))), (jU, .inr (7, [.ref rU, .int (nI (ku))])), (rU, .inl (cU, 8, .inr (.inr (.inr (.inr gU))))), (sd, .inl (cD, 10, .inl gD)), (oo, .inl (cOo, 1, .inr (.inl fo)))] s.heap.size = A at hD hX ⊢
  have hA : ∀ q : Nat, s.heap.size ≤ q → A q := fun q h => by rw [← hAe]; exact Or.inr h
  have hS : va_S A s.heap s.heap [] := va_S.rf
  have hP : va_P (dC, dI) vwCl [(jX, .inr (9, [.ref jT, .ref jR, .ref jK, .ref jL, .ref jU, .ref hF, .ref jC, .ref hN, .ref jA, .ref sd])), (jC, .inr (1, [.ref hF, .ref jK, .ref d2, .ref d3, .ref d4, .ref d5, .ref d6, .ref d7, .ref d8, .ref d9, .ref d10, .ref d11, .ref d12, .ref d13, lw, .long dr, .int pr, .int mo, .int ho])), (d2, .inl (w2, 10, .inl e2)), (d3, .inl (w3, 10, .inl e3)), (d4, .inl (w4, 10, .inl e4)), (d5, .inl (w5, 10, .inl e5)), (d6, .inl (w6, 10, .inl e6)), (d7, .inl (w7, 10, .inl e7)), (d8, .inl (w8, 10, .inl e8)), (d9, .inl (w9, 10, .inl e9)), (d10, .inl (w10, 4, .inl e10)), (d11, .inl (w11, 4, .inl e11)), (d12, .inl (w12, 4, .inl e12)), (d13, .inl (w13, 9, .inr (.inl e13))), (hF, .inr (2, [.ref f0, .ref f1, .ref f2, .ref f3, .ref f4, .int (nI (sv)), .int (nI (ks)), .int (nI (kw))])), (f0, .inl (z0, 10, .inl g0)), (f1, .inl (z1, 10, .inl g1)), (f2, .inl (z2, 10, .inl g2)), (f3, .inl (z3, 10, .inl g3)), (f4, .inl (z4, 4, .inl g4)), (jK, .inr (5, [.ref k0, .ref k1])), (k0, .inl (cK, 8, .inl l0)), (k1, .inl (cO, 32, .inl l1)), (hN, .inr (3, [.ref o0, .ref o1, .ref o2, .ref o3, .ref o4, .int (nI (kn))])), (o0, .inl (y0, 20, .inl q0)), (o1, .inl (y1, 20, .inl q1)), (o2, .inl (y2, 20, .inl q2)), (o3, .inl (y3, 20, .inl q3)), (o4, .inl (y4, 20, .inl q4)), (jA, .inr (0, [.ref i0, .ref i1, .ref i2, .ref i3, .int (nI (ka))])), (i0, .inl (x0, 6, .inl t0)), (i1, .inl (x1, 6, .inl t1)), (i2, .inl (x2, 6, .inl t2)), (i3, .inl (x3, 6, .inl t3)), (jL, .inr (7, [.ref rL, .int (nI (kl))])), (rL, .inl (cL, 6, .inr (.inr (.inr (.inr gL))))), (jU, .inr (7, [.ref rU, .int (nI (ku))])), (rU, .inl (cU, 8, .inr (.inr (.inr (.inr gU))))), (sd, .inl (cD, 10, .inl gD)), (oo, .inl (cOo, 1, .inr (.inl fo)))] s.heap := hP
  have hl := lv_entry ([.ref jX, .int p0, .int p1, .int p2, .ref oo]) (n := 6) (Nat.le_of_ble_eq_true rfl)
  rw [lg_entry_eq]
  generalize (lg_sl ([.ref jX, .int p0, .int p1, .int p2, .ref oo]) ++ List.replicate (6 - (lg_sl ([.ref jX, .int p0, .int p1, .int p2, .ref oo])).length) Slot.unset).toArray = ls at hl ⊢
  have hl : lv_has ls 6 [(0, .ref jX), (1, .int p0), (2, .int p1), (3, .int p2), (4, .ref oo)] := hl
  have htab := vx_table (x := yL_worth) B (hts (.codeWith yL_worth cL_worth 6 (some .int) [(0, 12, 15, 13)]) List.mem_cons_self)
  refine lv_aload hx hb dL_worth_0 (lv_at hl 4 rfl) ?_
  refine lv_iconst (v := 0) hx hb dL_worth_2 kc_i_0 ?_
  refine lv_aload_n hx hb dL_worth_3 rfl (lv_at hl 0 rfl) ?_
  refine lv_iload_n hx hb dL_worth_4 rfl (lv_at hl 1 rfl) ?_
  refine lv_iload_n hx hb dL_worth_5 rfl (lv_at hl 2 rfl) ?_
  refine lv_iload_n hx hb dL_worth_6 rfl (lv_at hl 3 rfl) ?_
  obtain ⟨hPc, hDc, hFc⟩ := kCut (wc := [(jX, .inr (9, [.ref jT, .ref jR, .ref jK, .ref jL, .ref jU, .ref hF, .ref jC, .ref hN, .ref jA, .ref sd])), (jC, .inr (1, [.ref hF, .ref jK, .ref d2, .ref d3, .ref d4, .ref d5, .ref d6, .ref d7, .ref d8, .ref d9, .ref d10, .ref d11, .ref d12, .ref d13, lw, .long dr, .int pr, .int mo, .int ho])), (d2, .inl (w2, 10, .inl e2)), (d3, .inl (w3, 10, .inl e3)), (d4, .inl (w4, 10, .inl e4)), (d5, .inl (w5, 10, .inl e5)), (d6, .inl (w6, 10, .inl e6)), (d7, .inl (w7, 10, .inl e7)), (d8, .inl (w8, 10, .inl e8)), (d9, .inl (w9, 10, .inl e9)), (d10, .inl (w10, 4, .inl e10)), (d11, .inl (w11, 4, .inl e11)), (d12, .inl (w12, 4, .inl e12)), (d13, .inl (w13, 9, .inr (.inl e13))), (hF, .inr (2, [.ref f0, .ref f1, .ref f2, .ref f3, .ref f4, .int (nI (sv)), .int (nI (ks)), .int (nI (kw))])), (f0, .inl (z0, 10, .inl g0)), (f1, .inl (z1, 10, .inl g1)), (f2, .inl (z2, 10, .inl g2)), (f3, .inl (z3, 10, .inl g3)), (f4, .inl (z4, 4, .inl g4)), (jK, .inr (5, [.ref k0, .ref k1])), (k0, .inl (cK, 8, .inl l0)), (k1, .inl (cO, 32, .inl l1)), (hN, .inr (3, [.ref o0, .ref o1, .ref o2, .ref o3, .ref o4, .int (nI (kn))])), (o0, .inl (y0, 20, .inl q0)), (o1, .inl (y1, 20, .inl q1)), (o2, .inl (y2, 20, .inl q2)), (o3, .inl (y3, 20, .inl q3)), (o4, .inl (y4, 20, .inl q4)), (jA, .inr (0, [.ref i0, .ref i1, .ref i2, .ref i3, .int (nI (ka))])), (i0, .inl (x0, 6, .inl t0)), (i1, .inl (x1, 6, .inl t1)), (i2, .inl (x2, 6, .inl t2)), (i3, .inl (x3, 6, .inl t3)), (jL, .inr (7, [.ref rL, .int (nI (kl))])), (rL, .inl (cL, 6, .inr (.inr (.inr (.inr gL))))), (jU, .inr (7, [.ref rU, .int (nI (ku))])), (rU, .inl (cU, 8, .inr (.inr (.inr (.inr gU))))), (sd, .inl (cD, 10, .inl gD))]) hP hD hS hA [0, 1, 2, 3, 4, 5, 6, 7, 8, 9, 10, 11, 12, 13, 14, 15, 16, 17, 18, 19, 20, 21, 22, 23, 24, 25, 26, 27, 28, 29, 30, 31, 32, 33, 34, 35, 36, 37, 38] rfl (by decide) rfl
  have hKc := hK.sb (tys2 := [(w2, .int), (w3, .int), (w4, .int), (w5, .int), (w6, .int), (w7, .int), (w8, .int), (w9, .int), (w10, .int), (w11, .int), (w12, .int), (w13, .long), (z0, .int), (z1, .int), (z2, .int), (z3, .int), (z4, .int), (cK, .int), (cO, .int), (y0, .int), (y1, .int), (y2, .int), (y3, .int), (y4, .int), (x0, .int), (x1, .int), (x2, .int), (x3, .int), (cL, .object RX6), (cU, .object RX6), (cD, .int)]) [0, 1, 2, 3, 4, 5, 6, 7, 8, 9, 10, 11, 12, 13, 14, 15, 16, 17, 18, 19, 20, 21, 22, 23, 24, 25, 26, 27, 28, 29, 30] rfl
  refine vx_calli (vx_runV (As := [.int p0, .int p1, .int p2]) (rest := [.int 0, .ref oo]) ⟨hx, hb, hml, hown, hts⟩ (s_worth9 l hlt dC dI jX jT jR jL jU hN jA sd jC d2 d3 d4 d5 d6 d7 d8 d9 d10 d11 d12 d13 w2 w3 w4 w5 w6 w7 w8 w9 w10 w11 w12 w13 e2 e3 e4 e5 e6 e7 e8 e9 e10 e11 e12 e13 dr pr mo ho hF f0 f1 f2 f3 f4 z0 z1 z2 z3 z4 g0 g1 g2 g3 g4 ks kw hks hkw sv hsv jK k0 k1 cK cO l0 l1 o0 o1 o2 o3 o4 y0 y1 y2 y3 y4 q0 q1 q2 q3 q4 kn hkn i0 i1 i2 i3 x0 x1 x2 x3 t0 t1 t2 t3 ka hka (lw : Value) rL cL gL kl hkl yL rU cU gU ku hku yU cD gD hOk0 p0 p1 p2 s.heap.size) (cwV 3 hts (kG (List.forall_mem_cons.mpr ⟨(List.mem_cons_of_mem _ (List.mem_append_left _ (List.mem_of_getElem? (i := 3) rfl))), (List.forall_mem_cons.mpr ⟨(List.mem_cons_of_mem _ (List.mem_append_left _ (List.mem_of_getElem? (i := 2) rfl))), (List.forall_mem_cons.mpr ⟨(List.mem_cons_of_mem _ (List.mem_append_left _ (List.mem_of_getElem? (i := 1) rfl))), (List.forall_mem_cons.mpr ⟨(List.mem_cons_of_mem _ (List.mem_append_left _ (List.mem_of_getElem? (i := 0) rfl))), (fun _ h => absurd h List.not_mem_nil)⟩)⟩)⟩)⟩) (kGV _ _ _ _) (fun _ h => List.mem_cons_of_mem _ (List.mem_append_right _ h)) gw_s_worth9) rfl rfl rfl ⟨rfl, hd_X9_worth⟩ ⟨(Nat.le_of_ble_eq_true rfl), (Nat.le_of_ble_eq_true rfl)⟩) (kW_V kPubT_blind (kPubT_give hX hS hFc) (va_recv hKc hPc (ci := 9) (q0 := 0) rfl rfl) hPc hKc hDc) rfl rfl hl.1 rfl (lv_room (Nat.le_of_ble_eq_true rfl)) dL_worth_7 ⟨(Nat.le_of_ble_eq_true rfl), (Nat.le_of_ble_eq_true rfl)⟩) hS (fun q _ h => hFc q h) hFc (fun _ _ h => h.elim) (fun E ce q9 u t H1 locs1 ht hvm hpx hBX hz hk hS hcell hcv hcl => ?_) (fun r_1 u t H1 locs ht hvm hw hB hz1 hk1 hS => ?_)
  · obtain ⟨hE9, hx9⟩ := hBX
    subst hE9
    have hP := hP.kept (fun k q hk9 => hk q.1 ((hP k q hk9).lt) (fun h => h))
    refine kCatch (x := { startPc := 0, endPc := 12, handlerPc := 15, catchType := 13 }) hown htab rfl (by decide) (hts (.classLink RL 13 "java/util/NoSuchElementException") (List.mem_cons_of_mem _ (List.mem_append_left _ (List.mem_of_getElem? (i := 4) rfl)))) (va_Nw.use rfl hX.2.2.2.2.1) hcell hcv hcl ?_
    generalize H1 = H at hP hS ⊢
    have hPD : kPD dC dI A [(jX, .inr (9, [.ref jT, .ref jR, .ref jK, .ref jL, .ref jU, .ref hF, .ref jC, .ref hN, .ref jA, .ref sd])), (jC, .inr (1, [.ref hF, .ref jK, .ref d2, .ref d3, .ref d4, .ref d5, .ref d6, .ref d7, .ref d8, .ref d9, .ref d10, .ref d11, .ref d12, .ref d13, lw, .long dr, .int pr, .int mo, .int ho])), (d2, .inl (w2, 10, .inl e2)), (d3, .inl (w3, 10, .inl e3)), (d4, .inl (w4, 10, .inl e4)), (d5, .inl (w5, 10, .inl e5)), (d6, .inl (w6, 10, .inl e6)), (d7, .inl (w7, 10, .inl e7)), (d8, .inl (w8, 10, .inl e8)), (d9, .inl (w9, 10, .inl e9)), (d10, .inl (w10, 4, .inl e10)), (d11, .inl (w11, 4, .inl e11)), (d12, .inl (w12, 4, .inl e12)), (d13, .inl (w13, 9, .inr (.inl e13))), (hF, .inr (2, [.ref f0, .ref f1, .ref f2, .ref f3, .ref f4, .int (nI (sv)), .int (nI (ks)), .int (nI (kw))])), (f0, .inl (z0, 10, .inl g0)), (f1, .inl (z1, 10, .inl g1)), (f2, .inl (z2, 10, .inl g2)), (f3, .inl (z3, 10, .inl g3)), (f4, .inl (z4, 4, .inl g4)), (jK, .inr (5, [.ref k0, .ref k1])), (k0, .inl (cK, 8, .inl l0)), (k1, .inl (cO, 32, .inl l1)), (hN, .inr (3, [.ref o0, .ref o1, .ref o2, .ref o3, .ref o4, .int (nI (kn))])), (o0, .inl (y0, 20, .inl q0)), (o1, .inl (y1, 20, .inl q1)), (o2, .inl (y2, 20, .inl q2)), (o3, .inl (y3, 20, .inl q3)), (o4, .inl (y4, 20, .inl q4)), (jA, .inr (0, [.ref i0, .ref i1, .ref i2, .ref i3, .int (nI (ka))])), (i0, .inl (x0, 6, .inl t0)), (i1, .inl (x1, 6, .inl t1)), (i2, .inl (x2, 6, .inl t2)), (i3, .inl (x3, 6, .inl t3)), (jL, .inr (7, [.ref rL, .int (nI (kl))])), (rL, .inl (cL, 6, .inr (.inr (.inr (.inr gL))))), (jU, .inr (7, [.ref rU, .int (nI (ku))])), (rU, .inl (cU, 8, .inr (.inr (.inr (.inr gU))))), (sd, .inl (cD, 10, .inl gD)), (oo, .inl (cOo, 1, .inr (.inl fo)))] H := ⟨hP, hD⟩
    have hP := hPD.1
    have hD := hPD.2
    refine W.widen (k := 1) (n := 6) (Nat.le_of_ble_eq_true rfl) (Nat.le_of_ble_eq_true rfl) ?_
    refine lv_astore hx hb dL_worth_15 hl kc_l_5_6 (kTo [(5, .ref q9), (0, .ref jX), (1, .int p0), (2, .int p1), (3, .int p2), (4, .ref oo)]) (fun ls hl => ?_)
    refine lv_iconst (v := 1) hx hb dL_worth_17 kc_i_1 ?_
    have hP9 := hP
    have hD9 := hD
    have hK9 := hK
    refine W.widen (k := 1) (n := 6) (Nat.le_of_ble_eq_true rfl) (Nat.le_of_ble_eq_true rfl) ?_
    exact W.iret (v := 1) hx hb hr (fun t ht hW => ⟨⟨1, (e2, e3, e4, e5, e6, e7, e8, e9, e10, e11, e12, e13, l0, l1, fo, pr, mo, ho, dr, (lw : Value)), rfl, ⟨hx9.symm, fun z => absurd (hx9.symm.trans z) (by decide)⟩,  by rw [ht]; exact hP9, va_K.moved hW.alike hK9, hD9⟩, hS.F ht⟩) hS.2.2 dL_worth_18
  · obtain ⟨E2_2, E3_3, E4_4, E5_5, E6_6, E7_7, E8_8, E9_9, E10_10, E11_11, E12_12, E13_13, L0_14, L1_15, Pr_16, Mo_17, Ho_18, Dr_19, Lw_20⟩ := u
    obtain ⟨hP1, hK1, hD1⟩ := hB
    rw [ht] at hP1
    try dsimp only at hw
    have hPD : kPD dC dI A [(oo, .inl (cOo, 1, .inr (.inl fo))), (jX, .inr (9, [.ref jT, .ref jR, .ref jK, .ref jL, .ref jU, .ref hF, .ref jC, .ref hN, .ref jA, .ref sd])), (jC, .inr (1, [.ref hF, .ref jK, .ref d2, .ref d3, .ref d4, .ref d5, .ref d6, .ref d7, .ref d8, .ref d9, .ref d10, .ref d11, .ref d12, .ref d13, Lw_20, .long Dr_19, .int Pr_16, .int Mo_17, .int Ho_18])), (d2, .inl (w2, 10, .inl E2_2)), (d3, .inl (w3, 10, .inl E3_3)), (d4, .inl (w4, 10, .inl E4_4)), (d5, .inl (w5, 10, .inl E5_5)), (d6, .inl (w6, 10, .inl E6_6)), (d7, .inl (w7, 10, .inl E7_7)), (d8, .inl (w8, 10, .inl E8_8)), (d9, .inl (w9, 10, .inl E9_9)), (d10, .inl (w10, 4, .inl E10_10)), (d11, .inl (w11, 4, .inl E11_11)), (d12, .inl (w12, 4, .inl E12_12)), (d13, .inl (w13, 9, .inr (.inl E13_13))), (hF, .inr (2, [.ref f0, .ref f1, .ref f2, .ref f3, .ref f4, .int (nI (sv)), .int (nI (ks)), .int (nI (kw))])), (f0, .inl (z0, 10, .inl g0)), (f1, .inl (z1, 10, .inl g1)), (f2, .inl (z2, 10, .inl g2)), (f3, .inl (z3, 10, .inl g3)), (f4, .inl (z4, 4, .inl g4)), (jK, .inr (5, [.ref k0, .ref k1])), (k0, .inl (cK, 8, .inl L0_14)), (k1, .inl (cO, 32, .inl L1_15)), (hN, .inr (3, [.ref o0, .ref o1, .ref o2, .ref o3, .ref o4, .int (nI (kn))])), (o0, .inl (y0, 20, .inl q0)), (o1, .inl (y1, 20, .inl q1)), (o2, .inl (y2, 20, .inl q2)), (o3, .inl (y3, 20, .inl q3)), (o4, .inl (y4, 20, .inl q4)), (jA, .inr (0, [.ref i0, .ref i1, .ref i2, .ref i3, .int (nI (ka))])), (i0, .inl (x0, 6, .inl t0)), (i1, .inl (x1, 6, .inl t1)), (i2, .inl (x2, 6, .inl t2)), (i3, .inl (x3, 6, .inl t3)), (jL, .inr (7, [.ref rL, .int (nI (kl))])), (rL, .inl (cL, 6, .inr (.inr (.inr (.inr gL))))), (jU, .inr (7, [.ref rU, .int (nI (ku))])), (rU, .inl (cU, 8, .inr (.inr (.inr (.inr gU))))), (sd, .inl (cD, 10, .inl gD))] H1 := kJoin hP hD [0, 1, 2, 3, 4, 5, 6, 7, 8, 9, 10, 11, 12, 13, 14, 15, 16, 17, 18, 19, 20, 21, 22, 23, 24, 25, 26, 27, 28, 29, 30, 31, 32, 33, 34, 35, 36, 37, 38] [39] rfl rfl (by decide) (by decide) hk1 hFc hP1 hD1 rfl
    have hP := hPD.1
    have hD := hPD.2
    generalize H1 = H at hP hS ⊢
    refine W.widen (k := 1) (n := 6) (Nat.le_of_ble_eq_true rfl) (Nat.le_of_ble_eq_true rfl) ?_
    have hwo9 := hw
    obtain ⟨z_21, ez_21⟩ : ∃ z : Int64, z = Int32.toInt64 r_1 := ⟨_, rfl⟩
    refine lv_i2l (v := z_21) hx hb dL_worth_10 ez_21.symm ?_
    refine va_last hx hb hK hP hD hS 0 31 rfl rfl kc_in_0_1 dL_worth_11 (fun H locs hP hD hS => ?_)
    obtain ⟨f_22, ef_22⟩ : ∃ gg9 : Nat → Int64, gg9 = vp_updL fo (Int32.toNatClampNeg 0) z_21 := ⟨_, rfl⟩
    have hPD : kPD dC dI A [(oo, .inl (cOo, 1, .inr (.inl f_22))), (jX, .inr (9, [.ref jT, .ref jR, .ref jK, .ref jL, .ref jU, .ref hF, .ref jC, .ref hN, .ref jA, .ref sd])), (jC, .inr (1, [.ref hF, .ref jK, .ref d2, .ref d3, .ref d4, .ref d5, .ref d6, .ref d7, .ref d8, .ref d9, .ref d10, .ref d11, .ref d12, .ref d13, Lw_20, .long Dr_19, .int Pr_16, .int Mo_17, .int Ho_18])), (d2, .inl (w2, 10, .inl E2_2)), (d3, .inl (w3, 10, .inl E3_3)), (d4, .inl (w4, 10, .inl E4_4)), (d5, .inl (w5, 10, .inl E5_5)), (d6, .inl (w6, 10, .inl E6_6)), (d7, .inl (w7, 10, .inl E7_7)), (d8, .inl (w8, 10, .inl E8_8)), (d9, .inl (w9, 10, .inl E9_9)), (d10, .inl (w10, 4, .inl E10_10)), (d11, .inl (w11, 4, .inl E11_11)), (d12, .inl (w12, 4, .inl E12_12)), (d13, .inl (w13, 9, .inr (.inl E13_13))), (hF, .inr (2, [.ref f0, .ref f1, .ref f2, .ref f3, .ref f4, .int (nI (sv)), .int (nI (ks)), .int (nI (kw))])), (f0, .inl (z0, 10, .inl g0)), (f1, .inl (z1, 10, .inl g1)), (f2, .inl (z2, 10, .inl g2)), (f3, .inl (z3, 10, .inl g3)), (f4, .inl (z4, 4, .inl g4)), (jK, .inr (5, [.ref k0, .ref k1])), (k0, .inl (cK, 8, .inl L0_14)), (k1, .inl (cO, 32, .inl L1_15)), (hN, .inr (3, [.ref o0, .ref o1, .ref o2, .ref o3, .ref o4, .int (nI (kn))])), (o0, .inl (y0, 20, .inl q0)), (o1, .inl (y1, 20, .inl q1)), (o2, .inl (y2, 20, .inl q2)), (o3, .inl (y3, 20, .inl q3)), (o4, .inl (y4, 20, .inl q4)), (jA, .inr (0, [.ref i0, .ref i1, .ref i2, .ref i3, .int (nI (ka))])), (i0, .inl (x0, 6, .inl t0)), (i1, .inl (x1, 6, .inl t1)), (i2, .inl (x2, 6, .inl t2)), (i3, .inl (x3, 6, .inl t3)), (jL, .inr (7, [.ref rL, .int (nI (kl))])), (rL, .inl (cL, 6, .inr (.inr (.inr (.inr gL))))), (jU, .inr (7, [.ref rU, .int (nI (ku))])), (rU, .inl (cU, 8, .inr (.inr (.inr (.inr gU))))), (sd, .inl (cD, 10, .inl gD))] H := by rw [ef_22]; exact ⟨hP, hD⟩
    have hP := hPD.1
    have hD := hPD.2
    refine lv_goto (tgt := 19) hx hb dL_worth_12 kc_t_12_7 ?_
    refine lv_iconst (v := 0) hx hb dL_worth_19 kc_i_0 ?_
    have hPD : kPD dC dI A [(jX, .inr (9, [.ref jT, .ref jR, .ref jK, .ref jL, .ref jU, .ref hF, .ref jC, .ref hN, .ref jA, .ref sd])), (jC, .inr (1, [.ref hF, .ref jK, .ref d2, .ref d3, .ref d4, .ref d5, .ref d6, .ref d7, .ref d8, .ref d9, .ref d10, .ref d11, .ref d12, .ref d13, Lw_20, .long Dr_19, .int Pr_16, .int Mo_17, .int Ho_18])), (d2, .inl (w2, 10, .inl E2_2)), (d3, .inl (w3, 10, .inl E3_3)), (d4, .inl (w4, 10, .inl E4_4)), (d5, .inl (w5, 10, .inl E5_5)), (d6, .inl (w6, 10, .inl E6_6)), (d7, .inl (w7, 10, .inl E7_7)), (d8, .inl (w8, 10, .inl E8_8)), (d9, .inl (w9, 10, .inl E9_9)), (d10, .inl (w10, 4, .inl E10_10)), (d11, .inl (w11, 4, .inl E11_11)), (d12, .inl (w12, 4, .inl E12_12)), (d13, .inl (w13, 9, .inr (.inl E13_13))), (hF, .inr (2, [.ref f0, .ref f1, .ref f2, .ref f3, .ref f4, .int (nI (sv)), .int (nI (ks)), .int (nI (kw))])), (f0, .inl (z0, 10, .inl g0)), (f1, .inl (z1, 10, .inl g1)), (f2, .inl (z2, 10, .inl g2)), (f3, .inl (z3, 10, .inl g3)), (f4, .inl (z4, 4, .inl g4)), (jK, .inr (5, [.ref k0, .ref k1])), (k0, .inl (cK, 8, .inl L0_14)), (k1, .inl (cO, 32, .inl L1_15)), (hN, .inr (3, [.ref o0, .ref o1, .ref o2, .ref o3, .ref o4, .int (nI (kn))])), (o0, .inl (y0, 20, .inl q0)), (o1, .inl (y1, 20, .inl q1)), (o2, .inl (y2, 20, .inl q2)), (o3, .inl (y3, 20, .inl q3)), (o4, .inl (y4, 20, .inl q4)), (jA, .inr (0, [.ref i0, .ref i1, .ref i2, .ref i3, .int (nI (ka))])), (i0, .inl (x0, 6, .inl t0)), (i1, .inl (x1, 6, .inl t1)), (i2, .inl (x2, 6, .inl t2)), (i3, .inl (x3, 6, .inl t3)), (jL, .inr (7, [.ref rL, .int (nI (kl))])), (rL, .inl (cL, 6, .inr (.inr (.inr (.inr gL))))), (jU, .inr (7, [.ref rU, .int (nI (ku))])), (rU, .inl (cU, 8, .inr (.inr (.inr (.inr gU))))), (sd, .inl (cD, 10, .inl gD)), (oo, .inl (cOo, 1, .inr (.inl f_22)))] H := ⟨hP.sub [1, 2, 3, 4, 5, 6, 7, 8, 9, 10, 11, 12, 13, 14, 15, 16, 17, 18, 19, 20, 21, 22, 23, 24, 25, 26, 27, 28, 29, 30, 31, 32, 33, 34, 35, 36, 37, 38, 39, 0] rfl, hD.sub [1, 2, 3, 4, 5, 6, 7, 8, 9, 10, 11, 12, 13, 14, 15, 16, 17, 18, 19, 20, 21, 22, 23, 24, 25, 26, 27, 28, 29, 30, 31, 32, 33, 34, 35, 36, 37, 38, 39, 0] kc_nd_1016 rfl⟩
    have hP9 := hPD.1
    have hD9 := hPD.2
    have hK9 := hK
    refine W.widen (k := 1) (n := 6) (Nat.le_of_ble_eq_true rfl) (Nat.le_of_ble_eq_true rfl) ?_
    exact W.iret (v := 0) hx hb hr (fun t ht hW => ⟨⟨0, (E2_2, E3_3, E4_4, E5_5, E6_6, E7_7, E8_8, E9_9, E10_10, E11_11, E12_12, E13_13, L0_14, L1_15, f_22, Pr_16, Mo_17, Ho_18, Dr_19, (Lw_20 : Value)), rfl, ⟨hwo9.2.symm, fun _ => by rw [ef_22, show Int32.toNatClampNeg 0 = 0 by decide, pk_uLs, ez_21, hwo9.1]⟩,  by rw [ht]; exact hP9, va_K.moved hW.alike hK9, hD9⟩, hS.F ht⟩) hS.2.2 dL_worth_20
end
section
theorem kPl {ws big : List Cond} (ps : List Nat) (h : ws = ps.filterMap (fun i => big[i]?)) : ∀ w ∈ ws, w ∈ big := by
  intro w hw
  rw [h] at hw
  obtain ⟨i, -, hi⟩ := List.mem_filterMap.mp hw
  exact List.mem_of_getElem? hi
def kPick : List Cond → List Nat → List Cond
  | w :: ws, 0 :: ds => w :: kPick ws ds
  | _ :: ws, (d + 1) :: ds => kPick ws (d :: ds)
  | _, _ => []
theorem kPick_in : ∀ (big : List Cond) (ds : List Nat) (w : Cond), w ∈ kPick big ds → w ∈ big := by
  intro big
  induction big with
  | nil => intro ds w h; cases ds <;> exact absurd h List.not_mem_nil
  | cons c big ih =>
    intro ds w h
    cases ds with
    | nil => exact absurd h List.not_mem_nil
    | cons d ds =>
      cases d with
      | zero =>
        rcases List.mem_cons.mp h with e | e
        · rw [e]; exact List.mem_cons_self
        · exact List.mem_cons_of_mem _ (ih ds w e)
      | succ d => exact List.mem_cons_of_mem _ (ih (d :: ds) w h)
def wk_0 : List Cond := [.selects RX4 yX4_readClause yX4_readClause, .selects RX4 yX4_look yX4_look, .selects RX4 yX4_take yX4_take, .selects RX4 yX4_readSum yX4_readSum, .selects RX4 yX4_readTerm yX4_readTerm, .selects RX4 yX4_readAtom yX4_readAtom, .selects RX4 yX4_opens yX4_opens, .selects RX4 yX4_readNumber yX4_readNumber, .selects RX4 yX4_write yX4_write, .selects RX4 yX4_keepClause yX4_keepClause, .selects RX4 yX4_readCondition yX4_readCondition, .selects RX4 yX4_readTruth yX4_readTruth, .selects RX4 yX4_readUnit yX4_readUnit, .selects RX1 yX1_weigh yX1_weigh, .selects RX1 yX1_tallyHouses yX1_tallyHouses, .selects RX1 yX1_setLettersOfHour yX1_setLettersOfHour, .selects RX1 yX1_setLettersOf yX1_setLettersOf, .selects RX5 yX5_reckon yX5_reckon, .selects RX5 yX5_valueOf yX5_valueOf, .selects RX1 yX1_holdMore yX1_holdMore, .selects RX1 yX1_tell yX1_tell, .selects RX1 yX1_tellThoseKnown yX1_tellThoseKnown, .selects RX1 yX1_goHome yX1_goHome, .selects RX1 yX1_mayGo yX1_mayGo, .selects RX9 yX9_heldAtEnd yX9_heldAtEnd, .selects RX9 yX9_isNoted yX9_isNoted, .selects RX3 yX3_isSo yX3_isSo, .selects RX1 yX1_addOneWhoMay yX1_addOneWhoMay, .selects RX9 yX9_isLet yX9_isLet, .selects RX9 yX9_barredBy yX9_barredBy, .selects RX9 yX9_leastHelp yX9_leastHelp, .selects RX9 yX9_givesUpBy yX9_givesUpBy, .selects RX9 yX9_holdersWithout yX9_holdersWithout, .selects RX9 yX9_lookersOfSize yX9_lookersOfSize, .selects RX10 yX10_put yX10_put, .selects RX10 yX10_goThrough yX10_goThrough, .selects RX10 yX10_clause yX10_clause, .selects RX10 yX10_look yX10_look, .selects RX10 yX10_fails yX10_fails, .selects RX10 yX10_takes yX10_takes]
set_option maxRecDepth 1000000 in
theorem wk_0_in : ∀ w ∈ wk_0, w ∈ lw_tbl := fun w h => kPick_in lw_tbl [0, 0, 0, 0, 0, 0, 0, 0, 0, 0, 0, 0, 0, 0, 0, 0, 0, 0, 0, 0, 0, 0, 0, 0, 0, 0, 0, 0, 0, 0, 0, 0, 0, 0, 1, 0, 0, 0, 0, 0] w (show w ∈ kPick lw_tbl [0, 0, 0, 0, 0, 0, 0, 0, 0, 0, 0, 0, 0, 0, 0, 0, 0, 0, 0, 0, 0, 0, 0, 0, 0, 0, 0, 0, 0, 0, 0, 0, 0, 0, 1, 0, 0, 0, 0, 0] from (show kPick lw_tbl [0, 0, 0, 0, 0, 0, 0, 0, 0, 0, 0, 0, 0, 0, 0, 0, 0, 0, 0, 0, 0, 0, 0, 0, 0, 0, 0, 0, 0, 0, 0, 0, 0, 0, 1, 0, 0, 0, 0, 0] = wk_0 from rfl) ▸ h)
theorem tw_13 : (.selects RX1 yX1_weigh yX1_weigh : Cond) ∈ lw_tbl := wk_0_in _ (List.mem_of_getElem? (i := 13) rfl)
theorem tw_14 : (.selects RX1 yX1_tallyHouses yX1_tallyHouses : Cond) ∈ lw_tbl := wk_0_in _ (List.mem_of_getElem? (i := 14) rfl)
theorem tw_15 : (.selects RX1 yX1_setLettersOfHour yX1_setLettersOfHour : Cond) ∈ lw_tbl := wk_0_in _ (List.mem_of_getElem? (i := 15) rfl)
theorem tw_16 : (.selects RX1 yX1_setLettersOf yX1_setLettersOf : Cond) ∈ lw_tbl := wk_0_in _ (List.mem_of_getElem? (i := 16) rfl)
theorem tw_17 : (.selects RX5 yX5_reckon yX5_reckon : Cond) ∈ lw_tbl := wk_0_in _ (List.mem_of_getElem? (i := 17) rfl)
theorem tw_18 : (.selects RX5 yX5_valueOf yX5_valueOf : Cond) ∈ lw_tbl := wk_0_in _ (List.mem_of_getElem? (i := 18) rfl)
theorem tw_19 : (.selects RX1 yX1_holdMore yX1_holdMore : Cond) ∈ lw_tbl := wk_0_in _ (List.mem_of_getElem? (i := 19) rfl)
theorem tw_20 : (.selects RX1 yX1_tell yX1_tell : Cond) ∈ lw_tbl := wk_0_in _ (List.mem_of_getElem? (i := 20) rfl)
theorem tw_21 : (.selects RX1 yX1_tellThoseKnown yX1_tellThoseKnown : Cond) ∈ lw_tbl := wk_0_in _ (List.mem_of_getElem? (i := 21) rfl)
theorem tw_22 : (.selects RX1 yX1_goHome yX1_goHome : Cond) ∈ lw_tbl := wk_0_in _ (List.mem_of_getElem? (i := 22) rfl)
theorem tw_23 : (.selects RX1 yX1_mayGo yX1_mayGo : Cond) ∈ lw_tbl := wk_0_in _ (List.mem_of_getElem? (i := 23) rfl)
theorem tw_36 : (.selects RX10 yX10_goThrough yX10_goThrough : Cond) ∈ lw_tbl := wk_0_in _ (List.mem_of_getElem? (i := 35) rfl)
theorem tw_37 : (.selects RX10 yX10_clause yX10_clause : Cond) ∈ lw_tbl := wk_0_in _ (List.mem_of_getElem? (i := 36) rfl)
theorem tw_38 : (.selects RX10 yX10_look yX10_look : Cond) ∈ lw_tbl := wk_0_in _ (List.mem_of_getElem? (i := 37) rfl)
theorem tw_39 : (.selects RX10 yX10_fails yX10_fails : Cond) ∈ lw_tbl := wk_0_in _ (List.mem_of_getElem? (i := 38) rfl)
theorem tw_40 : (.selects RX10 yX10_takes yX10_takes : Cond) ∈ lw_tbl := wk_0_in _ (List.mem_of_getElem? (i := 39) rfl)
def wk_1 : List Cond := [.selects RX10 yX10_condition yX10_condition, .selects RX10 yX10_part yX10_part, .selects RX10 yX10_compares yX10_compares, .selects RX10 yX10_sum yX10_sum, .selects RX10 yX10_term yX10_term, .selects RX10 yX10_atom yX10_atom, .selects RX10 yX10_goesIn yX10_goesIn, .selects RX10 yX10_isDigit yX10_isDigit, .selects RX10 yX10_unit yX10_unit, .selects RX10 yX10_isPerson yX10_isPerson, .selects RX10 yX10_isLaw yX10_isLaw, .selects RX10 yX10_everybody yX10_everybody, .selects RX10 yX10_begin yX10_begin, .selects RX10 yX10_layLetters yX10_layLetters, .selects RX10 yX10_worthOf yX10_worthOf, .selects RX10 yX10_runOf yX10_runOf, .selects RX10 yX10_goOn yX10_goOn, .selects RX10 yX10_goesBy yX10_goesBy, .selects RX10 yX10_isFree yX10_isFree, .selects RX10 yX10_isChanced yX10_isChanced, .selects RX10 yX10_endOf yX10_endOf, .selects RX10 yX10_isAsked yX10_isAsked, .selects RX10 yX10_allSent yX10_allSent, .selects RX10 yX10_fitsAll yX10_fitsAll, .selects RX10 yX10_isAlone yX10_isAlone, .selects RX10 yX10_isSo yX10_isSo, .selects RX10 yX10_isTurning yX10_isTurning, .selects RX10 yX10_isLet yX10_isLet, .selects RX10 yX10_barred yX10_barred, .selects RX10 yX10_isBefore yX10_isBefore, .selects RX10 yX10_costOf yX10_costOf, .selects RX10 yX10_helps yX10_helps, .selects RX10 yX10_holders yX10_holders, .initialized RL, .initialized RX9, .initialized RX8, .initialized RX4, .initialized RX5, .initialized RX7, .initialized RX2]
set_option maxRecDepth 1000000 in
theorem wk_1_in : ∀ w ∈ wk_1, w ∈ lw_tbl := fun w h => kPick_in lw_tbl [41, 0, 0, 0, 0, 0, 0, 0, 0, 0, 0, 0, 0, 0, 0, 0, 0, 0, 0, 0, 0, 0, 0, 0, 0, 0, 0, 0, 0, 0, 0, 0, 0, 0, 0, 0, 0, 0, 0, 0] w (show w ∈ kPick lw_tbl [41, 0, 0, 0, 0, 0, 0, 0, 0, 0, 0, 0, 0, 0, 0, 0, 0, 0, 0, 0, 0, 0, 0, 0, 0, 0, 0, 0, 0, 0, 0, 0, 0, 0, 0, 0, 0, 0, 0, 0] from (show kPick lw_tbl [41, 0, 0, 0, 0, 0, 0, 0, 0, 0, 0, 0, 0, 0, 0, 0, 0, 0, 0, 0, 0, 0, 0, 0, 0, 0, 0, 0, 0, 0, 0, 0, 0, 0, 0, 0, 0, 0, 0, 0] = wk_1 from rfl) ▸ h)
theorem tw_41 : (.selects RX10 yX10_condition yX10_condition : Cond) ∈ lw_tbl := wk_1_in _ (List.mem_of_getElem? (i := 0) rfl)
theorem tw_42 : (.selects RX10 yX10_part yX10_part : Cond) ∈ lw_tbl := wk_1_in _ (List.mem_of_getElem? (i := 1) rfl)
theorem tw_43 : (.selects RX10 yX10_compares yX10_compares : Cond) ∈ lw_tbl := wk_1_in _ (List.mem_of_getElem? (i := 2) rfl)
theorem tw_44 : (.selects RX10 yX10_sum yX10_sum : Cond) ∈ lw_tbl := wk_1_in _ (List.mem_of_getElem? (i := 3) rfl)
theorem tw_45 : (.selects RX10 yX10_term yX10_term : Cond) ∈ lw_tbl := wk_1_in _ (List.mem_of_getElem? (i := 4) rfl)
theorem tw_46 : (.selects RX10 yX10_atom yX10_atom : Cond) ∈ lw_tbl := wk_1_in _ (List.mem_of_getElem? (i := 5) rfl)
theorem tw_47 : (.selects RX10 yX10_goesIn yX10_goesIn : Cond) ∈ lw_tbl := wk_1_in _ (List.mem_of_getElem? (i := 6) rfl)
theorem tw_48 : (.selects RX10 yX10_isDigit yX10_isDigit : Cond) ∈ lw_tbl := wk_1_in _ (List.mem_of_getElem? (i := 7) rfl)
theorem tw_49 : (.selects RX10 yX10_unit yX10_unit : Cond) ∈ lw_tbl := wk_1_in _ (List.mem_of_getElem? (i := 8) rfl)
theorem tw_50 : (.selects RX10 yX10_isPerson yX10_isPerson : Cond) ∈ lw_tbl := wk_1_in _ (List.mem_of_getElem? (i := 9) rfl)
theorem tw_51 : (.selects RX10 yX10_isLaw yX10_isLaw : Cond) ∈ lw_tbl := wk_1_in _ (List.mem_of_getElem? (i := 10) rfl)
theorem tw_52 : (.selects RX10 yX10_everybody yX10_everybody : Cond) ∈ lw_tbl := wk_1_in _ (List.mem_of_getElem? (i := 11) rfl)
theorem tw_53 : (.selects RX10 yX10_begin yX10_begin : Cond) ∈ lw_tbl := wk_1_in _ (List.mem_of_getElem? (i := 12) rfl)
theorem tw_54 : (.selects RX10 yX10_layLetters yX10_layLetters : Cond) ∈ lw_tbl := wk_1_in _ (List.mem_of_getElem? (i := 13) rfl)
theorem tw_55 : (.selects RX10 yX10_worthOf yX10_worthOf : Cond) ∈ lw_tbl := wk_1_in _ (List.mem_of_getElem? (i := 14) rfl)
theorem tw_56 : (.selects RX10 yX10_runOf yX10_runOf : Cond) ∈ lw_tbl := wk_1_in _ (List.mem_of_getElem? (i := 15) rfl)
theorem tw_57 : (.selects RX10 yX10_goOn yX10_goOn : Cond) ∈ lw_tbl := wk_1_in _ (List.mem_of_getElem? (i := 16) rfl)
theorem tw_58 : (.selects RX10 yX10_goesBy yX10_goesBy : Cond) ∈ lw_tbl := wk_1_in _ (List.mem_of_getElem? (i := 17) rfl)
theorem tw_59 : (.selects RX10 yX10_isFree yX10_isFree : Cond) ∈ lw_tbl := wk_1_in _ (List.mem_of_getElem? (i := 18) rfl)
theorem tw_60 : (.selects RX10 yX10_isChanced yX10_isChanced : Cond) ∈ lw_tbl := wk_1_in _ (List.mem_of_getElem? (i := 19) rfl)
theorem tw_74 : (.initialized RL : Cond) ∈ lw_tbl := wk_1_in _ (List.mem_of_getElem? (i := 33) rfl)
theorem tw_75 : (.initialized RX9 : Cond) ∈ lw_tbl := wk_1_in _ (List.mem_of_getElem? (i := 34) rfl)
theorem tw_78 : (.initialized RX5 : Cond) ∈ lw_tbl := wk_1_in _ (List.mem_of_getElem? (i := 37) rfl)
theorem tw_79 : (.initialized RX7 : Cond) ∈ lw_tbl := wk_1_in _ (List.mem_of_getElem? (i := 38) rfl)
theorem tw_80 : (.initialized RX2 : Cond) ∈ lw_tbl := wk_1_in _ (List.mem_of_getElem? (i := 39) rfl)
def wk_2 : List Cond := [.initialized RX1, .initialized RX3, .initialized RX0, .initialized RJ7, .initialized RX10, .initialized RJ0, .initialized RJ1, .initialized RJ9, .initialized RJ3, .initialized RX6, .initialized RJ10, .initialized "java/util/NoSuchElementException", .initialized RJ6, .initialized RJ13, .classLink RL 8 RX9, .instantiable RX9 10, .methodLink RL 15 yX9_init, .instanceMethod yX9_init, .code yX9_init cX9_init 1 none, .methodLink RX9 3 objectInit, .instanceMethod objectInit, .code objectInit ⟨#[0xb1]⟩ 1 none, .classLink RX9 9 RX8, .instantiable RX8 2, .instanceMethod yX8_init, .code yX8_init cX8_init 1 none, .methodLink RX8 3 objectInit, .fieldLink RX8 9 "NotEnded$Tape" "signs" "[C", .fieldLink RX8 15 "NotEnded$Tape" "length" "I", .arrayClass .char, .classLink RX9 16 RX4, .instantiable RX4 8, .methodLink RX9 18 yX4_init, .instanceMethod yX4_init, .code yX4_init cX4_init 2 none, .methodLink RX4 3 objectInit, .fieldLink RX4 37 "NotEnded$Reader" "tape" "LNotEnded$Tape;", .fieldLink RX4 9 "NotEnded$Reader" "steps" "[I", .fieldLink RX4 15 "NotEnded$Reader" "clauses" "[I", .fieldLink RX4 18 "NotEnded$Reader" "written" "I"]
set_option maxRecDepth 1000000 in
theorem wk_2_in : ∀ w ∈ wk_2, w ∈ lw_tbl := fun w h => kPick_in lw_tbl [81, 0, 0, 0, 0, 0, 0, 0, 1, 1, 0, 3, 0, 0, 0, 0, 0, 0, 0, 0, 0, 0, 0, 0, 1, 0, 0, 0, 0, 5, 0, 0, 0, 0, 0, 0, 1, 0, 0, 0] w (show w ∈ kPick lw_tbl [81, 0, 0, 0, 0, 0, 0, 0, 1, 1, 0, 3, 0, 0, 0, 0, 0, 0, 0, 0, 0, 0, 0, 0, 1, 0, 0, 0, 0, 5, 0, 0, 0, 0, 0, 0, 1, 0, 0, 0] from (show kPick lw_tbl [81, 0, 0, 0, 0, 0, 0, 0, 1, 1, 0, 3, 0, 0, 0, 0, 0, 0, 0, 0, 0, 0, 0, 0, 1, 0, 0, 0, 0, 5, 0, 0, 0, 0, 0, 0, 1, 0, 0, 0] = wk_2 from rfl) ▸ h)
theorem tw_81 : (.initialized RX1 : Cond) ∈ lw_tbl := wk_2_in _ (List.mem_of_getElem? (i := 0) rfl)
theorem tw_84 : (.initialized RJ7 : Cond) ∈ lw_tbl := wk_2_in _ (List.mem_of_getElem? (i := 3) rfl)
theorem tw_85 : (.initialized RX10 : Cond) ∈ lw_tbl := wk_2_in _ (List.mem_of_getElem? (i := 4) rfl)
theorem tw_86 : (.initialized RJ0 : Cond) ∈ lw_tbl := wk_2_in _ (List.mem_of_getElem? (i := 5) rfl)
theorem tw_87 : (.initialized RJ1 : Cond) ∈ lw_tbl := wk_2_in _ (List.mem_of_getElem? (i := 6) rfl)
theorem tw_88 : (.initialized RJ9 : Cond) ∈ lw_tbl := wk_2_in _ (List.mem_of_getElem? (i := 7) rfl)
theorem tw_90 : (.initialized RJ3 : Cond) ∈ lw_tbl := wk_2_in _ (List.mem_of_getElem? (i := 8) rfl)
theorem tw_97 : (.initialized "java/util/NoSuchElementException" : Cond) ∈ lw_tbl := wk_2_in _ (List.mem_of_getElem? (i := 11) rfl)
def wk_3 : List Cond := [.fieldLink RX4 22 "NotEnded$Reader" "filled" "I", .fieldLink RX4 25 "NotEnded$Reader" "place" "I", .fieldLink RX4 30 "NotEnded$Reader" "labelSigns" "Ljava/lang/String;", .fieldLink RX4 34 "NotEnded$Reader" "letterSigns" "Ljava/lang/String;", .arrayClass .int, .arrayClass .byte, .classLink RX9 25 RX5, .instantiable RX5 2, .instanceMethod yX5_init, .code yX5_init cX5_init 1 none, .methodLink RX5 3 objectInit, .fieldLink RX5 9 "NotEnded$Reckoner" "letters" "[I", .fieldLink RX5 15 "NotEnded$Reckoner" "open" "[I", .classLink RX9 32 RX7, .instantiable RX7 2, .methodLink RX9 34 yX7_init, .instanceMethod yX7_init, .code yX7_init cX7_init 2 none, .methodLink RX7 3 objectInit, .classLink RX7 15 RX6, .fieldLink RX7 17 "NotEnded$Shelf" "rules" "[LNotEnded$Rule;", .fieldLink RX7 9 "NotEnded$Shelf" "size" "I", .classLink RX9 44 RX2, .instantiable RX2 8, .instanceMethod yX2_init, .code yX2_init cX2_init 1 none, .methodLink RX2 3 objectInit, .fieldLink RX2 9 "NotEnded$Folk" "holds" "[I", .fieldLink RX2 15 "NotEnded$Folk" "putIn" "[I", .fieldLink RX2 18 "NotEnded$Folk" "houses" "[I", .fieldLink RX2 21 "NotEnded$Folk" "knows" "[I", .fieldLink RX2 24 "NotEnded$Folk" "hours" "[I", .fieldLink RX2 27 "NotEnded$Folk" "sent" "I", .fieldLink RX2 31 "NotEnded$Folk" "size" "I", .fieldLink RX2 34 "NotEnded$Folk" "words" "I", .classLink RX9 51 RX1, .instantiable RX1 19, .methodLink RX9 53 yX1_init, .instanceMethod yX1_init, .code yX1_init cX1_init 3 none]
set_option maxRecDepth 1000000 in
theorem wk_3_in : ∀ w ∈ wk_3, w ∈ lw_tbl := fun w h => kPick_in lw_tbl [133, 0, 0, 0, 17, 0, 0, 0, 1, 0, 0, 0, 0, 5, 0, 0, 0, 0, 0, 0, 1, 0, 5, 0, 1, 0, 0, 0, 1, 1, 1, 1, 0, 0, 0, 17, 0, 0, 0, 0] w (show w ∈ kPick lw_tbl [133, 0, 0, 0, 17, 0, 0, 0, 1, 0, 0, 0, 0, 5, 0, 0, 0, 0, 0, 0, 1, 0, 5, 0, 1, 0, 0, 0, 1, 1, 1, 1, 0, 0, 0, 17, 0, 0, 0, 0] from (show kPick lw_tbl [133, 0, 0, 0, 17, 0, 0, 0, 1, 0, 0, 0, 0, 5, 0, 0, 0, 0, 0, 0, 1, 0, 5, 0, 1, 0, 0, 0, 1, 1, 1, 1, 0, 0, 0, 17, 0, 0, 0, 0] = wk_3 from rfl) ▸ h)
theorem tw_162 : (.fieldLink RX5 9 "NotEnded$Reckoner" "letters" "[I" : Cond) ∈ lw_tbl := wk_3_in _ (List.mem_of_getElem? (i := 11) rfl)
theorem tw_163 : (.fieldLink RX5 15 "NotEnded$Reckoner" "open" "[I" : Cond) ∈ lw_tbl := wk_3_in _ (List.mem_of_getElem? (i := 12) rfl)
theorem tw_177 : (.fieldLink RX7 17 "NotEnded$Shelf" "rules" "[LNotEnded$Rule;" : Cond) ∈ lw_tbl := wk_3_in _ (List.mem_of_getElem? (i := 20) rfl)
theorem tw_178 : (.fieldLink RX7 9 "NotEnded$Shelf" "size" "I" : Cond) ∈ lw_tbl := wk_3_in _ (List.mem_of_getElem? (i := 21) rfl)
theorem tw_198 : (.fieldLink RX2 24 "NotEnded$Folk" "hours" "[I" : Cond) ∈ lw_tbl := wk_3_in _ (List.mem_of_getElem? (i := 31) rfl)
theorem tw_199 : (.fieldLink RX2 27 "NotEnded$Folk" "sent" "I" : Cond) ∈ lw_tbl := wk_3_in _ (List.mem_of_getElem? (i := 32) rfl)
theorem tw_200 : (.fieldLink RX2 31 "NotEnded$Folk" "size" "I" : Cond) ∈ lw_tbl := wk_3_in _ (List.mem_of_getElem? (i := 33) rfl)
theorem tw_201 : (.fieldLink RX2 34 "NotEnded$Folk" "words" "I" : Cond) ∈ lw_tbl := wk_3_in _ (List.mem_of_getElem? (i := 34) rfl)
def wk_4 : List Cond := [.methodLink RX1 3 objectInit, .fieldLink RX1 67 "NotEnded$Course" "folk" "LNotEnded$Folk;", .fieldLink RX1 71 "NotEnded$Course" "reckoner" "LNotEnded$Reckoner;", .fieldLink RX1 9 "NotEnded$Course" "held" "[I", .fieldLink RX1 15 "NotEnded$Course" "putIn" "[I", .fieldLink RX1 18 "NotEnded$Course" "places" "[I", .fieldLink RX1 21 "NotEnded$Course" "tellsSince" "[I", .fieldLink RX1 24 "NotEnded$Course" "holdsMore" "[I", .fieldLink RX1 27 "NotEnded$Course" "passesOn" "[I", .fieldLink RX1 30 "NotEnded$Course" "goes" "[I", .fieldLink RX1 33 "NotEnded$Course" "hears" "[I", .fieldLink RX1 36 "NotEnded$Course" "manyIn" "[I", .fieldLink RX1 39 "NotEnded$Course" "heldIn" "[I", .fieldLink RX1 42 "NotEnded$Course" "sentIn" "[I", .fieldLink RX1 45 "NotEnded$Course" "ways" "[J", .fieldLink RX1 49 "NotEnded$Course" "law" "LNotEnded$Rule;", .fieldLink RX1 53 "NotEnded$Course" "drawn" "J", .fieldLink RX1 57 "NotEnded$Course" "present" "I", .fieldLink RX1 61 "NotEnded$Course" "moved" "I", .fieldLink RX1 64 "NotEnded$Course" "hour" "I", .arrayClass .long, .classLink RX9 60 RX3, .instantiable RX3 6, .instanceMethod yX3_init, .code yX3_init cX3_init 1 none, .methodLink RX3 3 objectInit, .fieldLink RX3 9 "NotEnded$Notebook" "persons" "[I", .fieldLink RX3 15 "NotEnded$Notebook" "hours" "[I", .fieldLink RX3 18 "NotEnded$Notebook" "kinds" "[I", .fieldLink RX3 21 "NotEnded$Notebook" "values" "[I", .fieldLink RX3 24 "NotEnded$Notebook" "offs" "[I", .fieldLink RX3 27 "NotEnded$Notebook" "size" "I", .classLink RX9 67 RX0, .instantiable RX0 5, .instanceMethod yX0_init, .code yX0_init cX0_init 1 none, .methodLink RX0 3 objectInit, .fieldLink RX0 9 "NotEnded$Acts" "persons" "[I", .fieldLink RX0 15 "NotEnded$Acts" "kinds" "[I", .fieldLink RX0 18 "NotEnded$Acts" "things" "[I"]
set_option maxRecDepth 1000000 in
theorem wk_4_in : ∀ w ∈ wk_4, w ∈ lw_tbl := fun w h => kPick_in lw_tbl [224, 0, 0, 0, 0, 0, 0, 0, 0, 0, 0, 0, 0, 0, 0, 0, 0, 0, 0, 0, 39, 0, 0, 1, 0, 0, 0, 0, 0, 0, 0, 0, 13, 0, 1, 0, 0, 0, 0, 0] w (show w ∈ kPick lw_tbl [224, 0, 0, 0, 0, 0, 0, 0, 0, 0, 0, 0, 0, 0, 0, 0, 0, 0, 0, 0, 39, 0, 0, 1, 0, 0, 0, 0, 0, 0, 0, 0, 13, 0, 1, 0, 0, 0, 0, 0] from (show kPick lw_tbl [224, 0, 0, 0, 0, 0, 0, 0, 0, 0, 0, 0, 0, 0, 0, 0, 0, 0, 0, 0, 39, 0, 0, 1, 0, 0, 0, 0, 0, 0, 0, 0, 13, 0, 1, 0, 0, 0, 0, 0] = wk_4 from rfl) ▸ h)
theorem tw_225 : (.fieldLink RX1 67 "NotEnded$Course" "folk" "LNotEnded$Folk;" : Cond) ∈ lw_tbl := wk_4_in _ (List.mem_of_getElem? (i := 1) rfl)
theorem tw_226 : (.fieldLink RX1 71 "NotEnded$Course" "reckoner" "LNotEnded$Reckoner;" : Cond) ∈ lw_tbl := wk_4_in _ (List.mem_of_getElem? (i := 2) rfl)
theorem tw_227 : (.fieldLink RX1 9 "NotEnded$Course" "held" "[I" : Cond) ∈ lw_tbl := wk_4_in _ (List.mem_of_getElem? (i := 3) rfl)
theorem tw_228 : (.fieldLink RX1 15 "NotEnded$Course" "putIn" "[I" : Cond) ∈ lw_tbl := wk_4_in _ (List.mem_of_getElem? (i := 4) rfl)
theorem tw_229 : (.fieldLink RX1 18 "NotEnded$Course" "places" "[I" : Cond) ∈ lw_tbl := wk_4_in _ (List.mem_of_getElem? (i := 5) rfl)
theorem tw_230 : (.fieldLink RX1 21 "NotEnded$Course" "tellsSince" "[I" : Cond) ∈ lw_tbl := wk_4_in _ (List.mem_of_getElem? (i := 6) rfl)
theorem tw_231 : (.fieldLink RX1 24 "NotEnded$Course" "holdsMore" "[I" : Cond) ∈ lw_tbl := wk_4_in _ (List.mem_of_getElem? (i := 7) rfl)
theorem tw_232 : (.fieldLink RX1 27 "NotEnded$Course" "passesOn" "[I" : Cond) ∈ lw_tbl := wk_4_in _ (List.mem_of_getElem? (i := 8) rfl)
theorem tw_233 : (.fieldLink RX1 30 "NotEnded$Course" "goes" "[I" : Cond) ∈ lw_tbl := wk_4_in _ (List.mem_of_getElem? (i := 9) rfl)
theorem tw_234 : (.fieldLink RX1 33 "NotEnded$Course" "hears" "[I" : Cond) ∈ lw_tbl := wk_4_in _ (List.mem_of_getElem? (i := 10) rfl)
theorem tw_235 : (.fieldLink RX1 36 "NotEnded$Course" "manyIn" "[I" : Cond) ∈ lw_tbl := wk_4_in _ (List.mem_of_getElem? (i := 11) rfl)
theorem tw_236 : (.fieldLink RX1 39 "NotEnded$Course" "heldIn" "[I" : Cond) ∈ lw_tbl := wk_4_in _ (List.mem_of_getElem? (i := 12) rfl)
theorem tw_237 : (.fieldLink RX1 42 "NotEnded$Course" "sentIn" "[I" : Cond) ∈ lw_tbl := wk_4_in _ (List.mem_of_getElem? (i := 13) rfl)
theorem tw_239 : (.fieldLink RX1 49 "NotEnded$Course" "law" "LNotEnded$Rule;" : Cond) ∈ lw_tbl := wk_4_in _ (List.mem_of_getElem? (i := 15) rfl)
theorem tw_240 : (.fieldLink RX1 53 "NotEnded$Course" "drawn" "J" : Cond) ∈ lw_tbl := wk_4_in _ (List.mem_of_getElem? (i := 16) rfl)
theorem tw_241 : (.fieldLink RX1 57 "NotEnded$Course" "present" "I" : Cond) ∈ lw_tbl := wk_4_in _ (List.mem_of_getElem? (i := 17) rfl)
theorem tw_242 : (.fieldLink RX1 61 "NotEnded$Course" "moved" "I" : Cond) ∈ lw_tbl := wk_4_in _ (List.mem_of_getElem? (i := 18) rfl)
theorem tw_243 : (.fieldLink RX1 64 "NotEnded$Course" "hour" "I" : Cond) ∈ lw_tbl := wk_4_in _ (List.mem_of_getElem? (i := 19) rfl)
def wk_5 : List Cond := [.fieldLink RX0 21 "NotEnded$Acts" "costs" "[I", .fieldLink RX0 24 "NotEnded$Acts" "size" "I", .methodLink RX9 78 yJ7_fill_53178, .static yJ7_fill_53178, .code yJ7_fill_53178 cJ7_fill_53178 4 none, .fieldLink RX9 12 "NotEnded" "tape" "LNotEnded$Tape;", .fieldLink RX9 21 "NotEnded" "reader" "LNotEnded$Reader;", .fieldLink RX9 28 "NotEnded" "reckoner" "LNotEnded$Reckoner;", .fieldLink RX9 37 "NotEnded" "laws" "LNotEnded$Shelf;", .fieldLink RX9 41 "NotEnded" "turnings" "LNotEnded$Shelf;", .fieldLink RX9 47 "NotEnded" "folk" "LNotEnded$Folk;", .fieldLink RX9 56 "NotEnded" "course" "LNotEnded$Course;", .fieldLink RX9 63 "NotEnded" "notebook" "LNotEnded$Notebook;", .fieldLink RX9 70 "NotEnded" "acts" "LNotEnded$Acts;", .fieldLink RX9 74 "NotEnded" "said" "[I", .methodLink RL 19 yX9_feed, .instanceMethod yX9_feed, .selects RX9 yX9_feed yX9_feed, .code yX9_feed cX9_feed 7 (some .int), .methodLink RX9 84 yX8_bytesIn, .static yX8_bytesIn, .code yX8_bytesIn cX8_bytesIn 3 (some .int), .methodLink RX9 88 yX8_length, .instanceMethod yX8_length, .selects RX8 yX8_length yX8_length, .code yX8_length cX8_length 1 (some .int), .methodLink RX9 92 yX8_append, .instanceMethod yX8_append, .selects RX8 yX8_append yX8_append, .code yX8_append cX8_append 4 none, .methodLink RL 24 yX9_end, .instanceMethod yX9_end, .selects RX9 yX9_end yX9_end, .code yX9_end cX9_end 2 (some .boolean), .methodLink RX9 95 yX8_cutTo, .instanceMethod yX8_cutTo, .selects RX8 yX8_cutTo yX8_cutTo, .code yX8_cutTo cX8_cutTo 2 none, .static yX9_within, .code yX9_within cX9_within 3 (some .int)]
set_option maxRecDepth 1000000 in
theorem wk_5_in : ∀ w ∈ wk_5, w ∈ lw_tbl := fun w h => kPick_in lw_tbl [318, 0, 11, 0, 0, 0, 0, 0, 0, 0, 0, 0, 0, 0, 0, 21, 0, 0, 0, 0, 0, 0, 0, 0, 0, 0, 0, 0, 0, 0, 0, 0, 0, 0, 0, 0, 0, 0, 1, 0] w (show w ∈ kPick lw_tbl [318, 0, 11, 0, 0, 0, 0, 0, 0, 0, 0, 0, 0, 0, 0, 21, 0, 0, 0, 0, 0, 0, 0, 0, 0, 0, 0, 0, 0, 0, 0, 0, 0, 0, 0, 0, 0, 0, 1, 0] from (show kPick lw_tbl [318, 0, 11, 0, 0, 0, 0, 0, 0, 0, 0, 0, 0, 0, 0, 21, 0, 0, 0, 0, 0, 0, 0, 0, 0, 0, 0, 0, 0, 0, 0, 0, 0, 0, 0, 0, 0, 0, 1, 0] = wk_5 from rfl) ▸ h)
theorem tw_332 : (.static yJ7_fill_53178 : Cond) ∈ lw_tbl := wk_5_in _ (List.mem_of_getElem? (i := 3) rfl)
theorem tw_333 : (.code yJ7_fill_53178 cJ7_fill_53178 4 none : Cond) ∈ lw_tbl := wk_5_in _ (List.mem_of_getElem? (i := 4) rfl)
theorem tw_337 : (.fieldLink RX9 37 "NotEnded" "laws" "LNotEnded$Shelf;" : Cond) ∈ lw_tbl := wk_5_in _ (List.mem_of_getElem? (i := 8) rfl)
theorem tw_339 : (.fieldLink RX9 47 "NotEnded" "folk" "LNotEnded$Folk;" : Cond) ∈ lw_tbl := wk_5_in _ (List.mem_of_getElem? (i := 10) rfl)
theorem tw_340 : (.fieldLink RX9 56 "NotEnded" "course" "LNotEnded$Course;" : Cond) ∈ lw_tbl := wk_5_in _ (List.mem_of_getElem? (i := 11) rfl)
theorem tw_389 : (.static yX9_within : Cond) ∈ lw_tbl := wk_5_in _ (List.mem_of_getElem? (i := 38) rfl)
theorem tw_390 : (.code yX9_within cX9_within 3 (some .int) : Cond) ∈ lw_tbl := wk_5_in _ (List.mem_of_getElem? (i := 39) rfl)
def wk_6 : List Cond := [.methodLink RL 29 yX9_fault, .instanceMethod yX9_fault, .selects RX9 yX9_fault yX9_fault, .code yX9_fault cX9_fault 2 (some .int), .methodLink RX9 98 yX9_isSort, .static yX9_isSort, .code yX9_isSort cX9_isSort 1 (some .boolean), .methodLink RX9 102 yX4_read, .instanceMethod yX4_read, .selects RX4 yX4_read yX4_read, .code yX4_read cX4_read 3 (some .int), .methodLink RX4 49 yX4_readClause, .instanceMethod yX4_readClause, .code yX4_readClause cX4_readClause 5 (some .boolean), .methodLink RX4 53 yX4_look, .instanceMethod yX4_look, .code yX4_look cX4_look 2 (some .char), .methodLink RX4 117 yX8_at, .instanceMethod yX8_at, .selects RX8 yX8_at yX8_at, .code yX8_at cX8_at 2 (some .char), .methodLink RX4 72 yJ0_indexOf_0f7a4, .instanceMethod yJ0_indexOf_0f7a4, .selects RJ0 yJ0_indexOf_0f7a4 yJ0_indexOf_0f7a4, .code yJ0_indexOf_0f7a4 cJ0_indexOf_0f7a4 2 (some .int), .methodLink RJ0 633 yJ0_indexOf_7cf53, .instanceMethod yJ0_indexOf_7cf53, .selects RJ0 yJ0_indexOf_7cf53 yJ0_indexOf_7cf53, .code yJ0_indexOf_7cf53 cJ0_indexOf_7cf53 3 (some .int), .methodLink RJ0 492 yJ0_isLatin1_aae02, .instanceMethod yJ0_isLatin1_aae02, .selects RJ0 yJ0_isLatin1_aae02 yJ0_isLatin1_aae02, .code yJ0_isLatin1_aae02 cJ0_isLatin1_aae02 1 (some .boolean), .fieldLink RJ0 38 "java/lang/String" "COMPACT_STRINGS" "Z", .methodLink RJ0 505 yJ0_length_8abf5, .instanceMethod yJ0_length_8abf5, .selects RJ0 yJ0_length_8abf5 yJ0_length_8abf5, .code yJ0_length_8abf5 cJ0_length_8abf5 1 (some .int), .methodLink RJ0 335 yJ0_coder_7d493, .instanceMethod yJ0_coder_7d493]
set_option maxRecDepth 1000000 in
theorem wk_6_in : ∀ w ∈ wk_6, w ∈ lw_tbl := fun w h => kPick_in lw_tbl [391, 0, 0, 0, 0, 0, 0, 0, 0, 0, 0, 4, 1, 0, 0, 1, 0, 0, 0, 0, 0, 0, 0, 0, 0, 0, 0, 0, 0, 0, 0, 0, 0, 0, 1, 0, 0, 0, 0, 0] w (show w ∈ kPick lw_tbl [391, 0, 0, 0, 0, 0, 0, 0, 0, 0, 0, 4, 1, 0, 0, 1, 0, 0, 0, 0, 0, 0, 0, 0, 0, 0, 0, 0, 0, 0, 0, 0, 0, 0, 1, 0, 0, 0, 0, 0] from (show kPick lw_tbl [391, 0, 0, 0, 0, 0, 0, 0, 0, 0, 0, 4, 1, 0, 0, 1, 0, 0, 0, 0, 0, 0, 0, 0, 0, 0, 0, 0, 0, 0, 0, 0, 0, 0, 1, 0, 0, 0, 0, 0] = wk_6 from rfl) ▸ h)
theorem tw_426 : (.methodLink RJ0 492 yJ0_isLatin1_aae02 : Cond) ∈ lw_tbl := wk_6_in _ (List.mem_of_getElem? (i := 29) rfl)
theorem tw_427 : (.instanceMethod yJ0_isLatin1_aae02 : Cond) ∈ lw_tbl := wk_6_in _ (List.mem_of_getElem? (i := 30) rfl)
theorem tw_428 : (.selects RJ0 yJ0_isLatin1_aae02 yJ0_isLatin1_aae02 : Cond) ∈ lw_tbl := wk_6_in _ (List.mem_of_getElem? (i := 31) rfl)
theorem tw_429 : (.code yJ0_isLatin1_aae02 cJ0_isLatin1_aae02 1 (some .boolean) : Cond) ∈ lw_tbl := wk_6_in _ (List.mem_of_getElem? (i := 32) rfl)
theorem tw_430 : (.fieldLink RJ0 38 "java/lang/String" "COMPACT_STRINGS" "Z" : Cond) ∈ lw_tbl := wk_6_in _ (List.mem_of_getElem? (i := 33) rfl)
theorem tw_433 : (.instanceMethod yJ0_length_8abf5 : Cond) ∈ lw_tbl := wk_6_in _ (List.mem_of_getElem? (i := 35) rfl)
theorem tw_434 : (.selects RJ0 yJ0_length_8abf5 yJ0_length_8abf5 : Cond) ∈ lw_tbl := wk_6_in _ (List.mem_of_getElem? (i := 36) rfl)
theorem tw_435 : (.code yJ0_length_8abf5 cJ0_length_8abf5 1 (some .int) : Cond) ∈ lw_tbl := wk_6_in _ (List.mem_of_getElem? (i := 37) rfl)
theorem tw_436 : (.methodLink RJ0 335 yJ0_coder_7d493 : Cond) ∈ lw_tbl := wk_6_in _ (List.mem_of_getElem? (i := 38) rfl)
theorem tw_437 : (.instanceMethod yJ0_coder_7d493 : Cond) ∈ lw_tbl := wk_6_in _ (List.mem_of_getElem? (i := 39) rfl)
def wk_7 : List Cond := [.selects RJ0 yJ0_coder_7d493 yJ0_coder_7d493, .code yJ0_coder_7d493 cJ0_coder_7d493 1 (some .byte), .methodLink RJ0 637 yJ1_indexOf_4cfef, .static yJ1_indexOf_4cfef, .code yJ1_indexOf_4cfef cJ1_indexOf_4cfef 4 (some .int), .methodLink RJ1 88 yJ1_canEncode_9a6ad, .static yJ1_canEncode_9a6ad, .code yJ1_canEncode_9a6ad cJ1_canEncode_9a6ad 1 (some .boolean), .methodLink RJ1 92 Lib.Math.max.name, .static Lib.Math.max.name, .code Lib.Math.max.name Lib.Math.max.code 2 (some .int), .methodLink RJ1 38 Lib.Math.min.name, .static Lib.Math.min.name, .code Lib.Math.min.name Lib.Math.min.code 2 (some .int), .methodLink RJ1 95 yJ1_indexOfChar_4cfef, .static yJ1_indexOfChar_4cfef, .code yJ1_indexOfChar_4cfef cJ1_indexOfChar_4cfef 6 (some .int), .fieldLink RJ0 1053 "jdk/internal/util/Preconditions" "SIOOBE_FORMATTER" "Ljava/util/function/BiFunction;", .methodLink RX4 57 yX4_take, .instanceMethod yX4_take, .code yX4_take cX4_take 2 (some .boolean), .methodLink RX4 78 yX4_readSum, .instanceMethod yX4_readSum, .code yX4_readSum cX4_readSum 4 (some .boolean), .methodLink RX4 105 yX4_readTerm, .instanceMethod yX4_readTerm, .code yX4_readTerm cX4_readTerm 4 (some .boolean), .methodLink RX4 108 yX4_readAtom, .instanceMethod yX4_readAtom, .code yX4_readAtom cX4_readAtom 4 (some .boolean), .methodLink RX4 102 yX4_opens, .instanceMethod yX4_opens, .code yX4_opens cX4_opens 2 (some .boolean), .methodLink RX4 111 yX4_isDigit, .static yX4_isDigit, .code yX4_isDigit cX4_isDigit 1 (some .boolean), .methodLink RX4 114 yX4_readNumber, .instanceMethod yX4_readNumber, .code yX4_readNumber cX4_readNumber 3 (some .boolean), .methodLink RX4 96 yX4_write]
set_option maxRecDepth 1000000 in
theorem wk_7_in : ∀ w ∈ wk_7, w ∈ lw_tbl := fun w h => kPick_in lw_tbl [438, 0, 0, 0, 0, 0, 0, 0, 0, 0, 0, 0, 0, 0, 0, 0, 0, 18, 30, 1, 0, 0, 1, 0, 0, 1, 0, 0, 1, 0, 0, 1, 0, 0, 0, 0, 0, 1, 0, 0] w (show w ∈ kPick lw_tbl [438, 0, 0, 0, 0, 0, 0, 0, 0, 0, 0, 0, 0, 0, 0, 0, 0, 18, 30, 1, 0, 0, 1, 0, 0, 1, 0, 0, 1, 0, 0, 1, 0, 0, 0, 0, 0, 1, 0, 0] from (show kPick lw_tbl [438, 0, 0, 0, 0, 0, 0, 0, 0, 0, 0, 0, 0, 0, 0, 0, 0, 18, 30, 1, 0, 0, 1, 0, 0, 1, 0, 0, 1, 0, 0, 1, 0, 0, 0, 0, 0, 1, 0, 0] = wk_7 from rfl) ▸ h)
theorem tw_438 : (.selects RJ0 yJ0_coder_7d493 yJ0_coder_7d493 : Cond) ∈ lw_tbl := wk_7_in _ (List.mem_of_getElem? (i := 0) rfl)
theorem tw_439 : (.code yJ0_coder_7d493 cJ0_coder_7d493 1 (some .byte) : Cond) ∈ lw_tbl := wk_7_in _ (List.mem_of_getElem? (i := 1) rfl)
theorem tw_447 : (.static Lib.Math.max.name : Cond) ∈ lw_tbl := wk_7_in _ (List.mem_of_getElem? (i := 9) rfl)
theorem tw_448 : (.code Lib.Math.max.name Lib.Math.max.code 2 (some .int) : Cond) ∈ lw_tbl := wk_7_in _ (List.mem_of_getElem? (i := 10) rfl)
theorem tw_450 : (.static Lib.Math.min.name : Cond) ∈ lw_tbl := wk_7_in _ (List.mem_of_getElem? (i := 12) rfl)
theorem tw_451 : (.code Lib.Math.min.name Lib.Math.min.code 2 (some .int) : Cond) ∈ lw_tbl := wk_7_in _ (List.mem_of_getElem? (i := 13) rfl)
theorem tw_473 : (.fieldLink RJ0 1053 "jdk/internal/util/Preconditions" "SIOOBE_FORMATTER" "Ljava/util/function/BiFunction;" : Cond) ∈ lw_tbl := wk_7_in _ (List.mem_of_getElem? (i := 17) rfl)
def wk_9 : List Cond := [.methodLink RJ7 304 Lib.Math.min.name, .methodLink RJ7 150 arraycopyName, .static arraycopyName, .native arraycopyName, .methodLink RX4 69 yX6_init, .instanceMethod yX6_init, .code yX6_init cX6_init 3 none, .methodLink RX6 1 objectInit, .fieldLink RX6 7 "NotEnded$Rule" "steps" "[I", .fieldLink RX6 13 "NotEnded$Rule" "clauses" "[I", .methodLink RX9 113 yX7_put, .instanceMethod yX7_put, .selects RX7 yX7_put yX7_put, .code yX7_put cX7_put 2 (some .int), .methodLink RX7 21 yX7_isFull, .methodLink RL 38 yX9_person, .instanceMethod yX9_person, .selects RX9 yX9_person yX9_person, .code yX9_person cX9_person 6 (some .int), .methodLink RX9 117 yX9_isIn, .static yX9_isIn, .code yX9_isIn cX9_isIn 3 (some .boolean), .methodLink RX9 121 yX9_isHouse, .static yX9_isHouse, .code yX9_isHouse cX9_isHouse 1 (some .boolean), .methodLink RX9 124 yX2_addPerson, .instanceMethod yX2_addPerson, .selects RX2 yX2_addPerson yX2_addPerson, .code yX2_addPerson cX2_addPerson 5 (some .int), .methodLink RL 43 yX9_know, .instanceMethod yX9_know, .selects RX9 yX9_know yX9_know, .code yX9_know cX9_know 3 (some .boolean), .methodLink RX9 128 yX2_has, .instanceMethod yX2_has, .selects RX2 yX2_has yX2_has, .code yX2_has cX2_has 2 (some .boolean), .methodLink RX9 131 yX2_acquaint, .instanceMethod yX2_acquaint, .selects RX2 yX2_acquaint yX2_acquaint]
set_option maxRecDepth 1000000 in
theorem wk_9_in : ∀ w ∈ wk_9, w ∈ lw_tbl := fun w h => kPick_in lw_tbl [578, 0, 0, 0, 0, 0, 0, 0, 0, 1, 6, 0, 0, 0, 0, 0, 0, 0, 0, 0, 0, 0, 0, 0, 0, 0, 0, 0, 0, 0, 0, 0, 0, 0, 0, 0, 0, 0, 0, 0] w (show w ∈ kPick lw_tbl [578, 0, 0, 0, 0, 0, 0, 0, 0, 1, 6, 0, 0, 0, 0, 0, 0, 0, 0, 0, 0, 0, 0, 0, 0, 0, 0, 0, 0, 0, 0, 0, 0, 0, 0, 0, 0, 0, 0, 0] from (show kPick lw_tbl [578, 0, 0, 0, 0, 0, 0, 0, 0, 1, 6, 0, 0, 0, 0, 0, 0, 0, 0, 0, 0, 0, 0, 0, 0, 0, 0, 0, 0, 0, 0, 0, 0, 0, 0, 0, 0, 0, 0, 0] = wk_9 from rfl) ▸ h)
theorem tw_604 : (.methodLink RX9 117 yX9_isIn : Cond) ∈ lw_tbl := wk_9_in _ (List.mem_of_getElem? (i := 19) rfl)
theorem tw_605 : (.static yX9_isIn : Cond) ∈ lw_tbl := wk_9_in _ (List.mem_of_getElem? (i := 20) rfl)
theorem tw_606 : (.code yX9_isIn cX9_isIn 3 (some .boolean) : Cond) ∈ lw_tbl := wk_9_in _ (List.mem_of_getElem? (i := 21) rfl)
theorem tw_608 : (.static yX9_isHouse : Cond) ∈ lw_tbl := wk_9_in _ (List.mem_of_getElem? (i := 23) rfl)
theorem tw_609 : (.code yX9_isHouse cX9_isHouse 1 (some .boolean) : Cond) ∈ lw_tbl := wk_9_in _ (List.mem_of_getElem? (i := 24) rfl)
theorem tw_618 : (.methodLink RX9 128 yX2_has : Cond) ∈ lw_tbl := wk_9_in _ (List.mem_of_getElem? (i := 33) rfl)
theorem tw_619 : (.instanceMethod yX2_has : Cond) ∈ lw_tbl := wk_9_in _ (List.mem_of_getElem? (i := 34) rfl)
theorem tw_620 : (.selects RX2 yX2_has yX2_has : Cond) ∈ lw_tbl := wk_9_in _ (List.mem_of_getElem? (i := 35) rfl)
theorem tw_621 : (.code yX2_has cX2_has 2 (some .boolean) : Cond) ∈ lw_tbl := wk_9_in _ (List.mem_of_getElem? (i := 36) rfl)
def wk_10 : List Cond := [.code yX2_acquaint cX2_acquaint 3 none, .methodLink RX2 37 yX2_has, .methodLink RL 48 yX9_word, .instanceMethod yX9_word, .selects RX9 yX9_word yX9_word, .code yX9_word cX9_word 2 (some .int), .methodLink RX9 135 yX2_addWord, .instanceMethod yX2_addWord, .selects RX2 yX2_addWord yX2_addWord, .code yX2_addWord cX2_addWord 2 (some .int), .methodLink RL 64 yX9_run, .instanceMethod yX9_run, .selects RX9 yX9_run yX9_run, .code yX9_run cX9_run 8 (some .int), .methodLink RX9 138 yX7_at, .instanceMethod yX7_at, .selects RX7 yX7_at yX7_at, .code yX7_at cX7_at 2 (some (.object "NotEnded$Rule")), .methodLink RX9 145 yX1_begin, .instanceMethod yX1_begin, .selects RX1 yX1_begin yX1_begin, .code yX1_begin cX1_begin 6 none, .methodLink RX1 75 yX2_everybody, .instanceMethod yX2_everybody, .selects RX2 yX2_everybody yX2_everybody, .code yX2_everybody cX2_everybody 1 (some .int), .methodLink RX1 81 yX2_sentOnes, .instanceMethod yX2_sentOnes, .selects RX2 yX2_sentOnes yX2_sentOnes, .code yX2_sentOnes cX2_sentOnes 1 (some .int), .methodLink RX1 84 yX2_size, .instanceMethod yX2_size, .selects RX2 yX2_size yX2_size, .code yX2_size cX2_size 1 (some .int), .methodLink RX9 153 yX1_go, .instanceMethod yX1_go, .selects RX1 yX1_go yX1_go, .code yX1_go cX1_go 3 none, .methodLink RX1 104 yX1_weigh, .instanceMethod yX1_weigh]
set_option maxRecDepth 1000000 in
theorem wk_10_in : ∀ w ∈ wk_10, w ∈ lw_tbl := fun w h => kPick_in lw_tbl [625, 0, 0, 0, 0, 0, 0, 0, 0, 0, 0, 0, 0, 0, 0, 0, 0, 0, 0, 0, 0, 0, 0, 0, 0, 0, 0, 0, 0, 0, 0, 0, 0, 0, 0, 0, 0, 0, 0, 1] w (show w ∈ kPick lw_tbl [625, 0, 0, 0, 0, 0, 0, 0, 0, 0, 0, 0, 0, 0, 0, 0, 0, 0, 0, 0, 0, 0, 0, 0, 0, 0, 0, 0, 0, 0, 0, 0, 0, 0, 0, 0, 0, 0, 0, 1] from (show kPick lw_tbl [625, 0, 0, 0, 0, 0, 0, 0, 0, 0, 0, 0, 0, 0, 0, 0, 0, 0, 0, 0, 0, 0, 0, 0, 0, 0, 0, 0, 0, 0, 0, 0, 0, 0, 0, 0, 0, 0, 0, 1] = wk_10 from rfl) ▸ h)
theorem tw_627 : (.methodLink RL 48 yX9_word : Cond) ∈ lw_tbl := wk_10_in _ (List.mem_of_getElem? (i := 2) rfl)
theorem tw_628 : (.instanceMethod yX9_word : Cond) ∈ lw_tbl := wk_10_in _ (List.mem_of_getElem? (i := 3) rfl)
theorem tw_629 : (.selects RX9 yX9_word yX9_word : Cond) ∈ lw_tbl := wk_10_in _ (List.mem_of_getElem? (i := 4) rfl)
theorem tw_630 : (.code yX9_word cX9_word 2 (some .int) : Cond) ∈ lw_tbl := wk_10_in _ (List.mem_of_getElem? (i := 5) rfl)
theorem tw_631 : (.methodLink RX9 135 yX2_addWord : Cond) ∈ lw_tbl := wk_10_in _ (List.mem_of_getElem? (i := 6) rfl)
theorem tw_632 : (.instanceMethod yX2_addWord : Cond) ∈ lw_tbl := wk_10_in _ (List.mem_of_getElem? (i := 7) rfl)
theorem tw_633 : (.selects RX2 yX2_addWord yX2_addWord : Cond) ∈ lw_tbl := wk_10_in _ (List.mem_of_getElem? (i := 8) rfl)
theorem tw_634 : (.code yX2_addWord cX2_addWord 2 (some .int) : Cond) ∈ lw_tbl := wk_10_in _ (List.mem_of_getElem? (i := 9) rfl)
theorem tw_635 : (.methodLink RL 64 yX9_run : Cond) ∈ lw_tbl := wk_10_in _ (List.mem_of_getElem? (i := 10) rfl)
theorem tw_636 : (.instanceMethod yX9_run : Cond) ∈ lw_tbl := wk_10_in _ (List.mem_of_getElem? (i := 11) rfl)
theorem tw_637 : (.selects RX9 yX9_run yX9_run : Cond) ∈ lw_tbl := wk_10_in _ (List.mem_of_getElem? (i := 12) rfl)
theorem tw_638 : (.code yX9_run cX9_run 8 (some .int) : Cond) ∈ lw_tbl := wk_10_in _ (List.mem_of_getElem? (i := 13) rfl)
theorem tw_639 : (.methodLink RX9 138 yX7_at : Cond) ∈ lw_tbl := wk_10_in _ (List.mem_of_getElem? (i := 14) rfl)
theorem tw_640 : (.instanceMethod yX7_at : Cond) ∈ lw_tbl := wk_10_in _ (List.mem_of_getElem? (i := 15) rfl)
theorem tw_641 : (.selects RX7 yX7_at yX7_at : Cond) ∈ lw_tbl := wk_10_in _ (List.mem_of_getElem? (i := 16) rfl)
theorem tw_642 : (.code yX7_at cX7_at 2 (some (.object "NotEnded$Rule")) : Cond) ∈ lw_tbl := wk_10_in _ (List.mem_of_getElem? (i := 17) rfl)
theorem tw_643 : (.methodLink RX9 145 yX1_begin : Cond) ∈ lw_tbl := wk_10_in _ (List.mem_of_getElem? (i := 18) rfl)
theorem tw_644 : (.instanceMethod yX1_begin : Cond) ∈ lw_tbl := wk_10_in _ (List.mem_of_getElem? (i := 19) rfl)
theorem tw_645 : (.selects RX1 yX1_begin yX1_begin : Cond) ∈ lw_tbl := wk_10_in _ (List.mem_of_getElem? (i := 20) rfl)
theorem tw_646 : (.code yX1_begin cX1_begin 6 none : Cond) ∈ lw_tbl := wk_10_in _ (List.mem_of_getElem? (i := 21) rfl)
theorem tw_647 : (.methodLink RX1 75 yX2_everybody : Cond) ∈ lw_tbl := wk_10_in _ (List.mem_of_getElem? (i := 22) rfl)
theorem tw_648 : (.instanceMethod yX2_everybody : Cond) ∈ lw_tbl := wk_10_in _ (List.mem_of_getElem? (i := 23) rfl)
theorem tw_649 : (.selects RX2 yX2_everybody yX2_everybody : Cond) ∈ lw_tbl := wk_10_in _ (List.mem_of_getElem? (i := 24) rfl)
theorem tw_650 : (.code yX2_everybody cX2_everybody 1 (some .int) : Cond) ∈ lw_tbl := wk_10_in _ (List.mem_of_getElem? (i := 25) rfl)
theorem tw_651 : (.methodLink RX1 81 yX2_sentOnes : Cond) ∈ lw_tbl := wk_10_in _ (List.mem_of_getElem? (i := 26) rfl)
theorem tw_652 : (.instanceMethod yX2_sentOnes : Cond) ∈ lw_tbl := wk_10_in _ (List.mem_of_getElem? (i := 27) rfl)
theorem tw_653 : (.selects RX2 yX2_sentOnes yX2_sentOnes : Cond) ∈ lw_tbl := wk_10_in _ (List.mem_of_getElem? (i := 28) rfl)
theorem tw_654 : (.code yX2_sentOnes cX2_sentOnes 1 (some .int) : Cond) ∈ lw_tbl := wk_10_in _ (List.mem_of_getElem? (i := 29) rfl)
theorem tw_655 : (.methodLink RX1 84 yX2_size : Cond) ∈ lw_tbl := wk_10_in _ (List.mem_of_getElem? (i := 30) rfl)
theorem tw_656 : (.instanceMethod yX2_size : Cond) ∈ lw_tbl := wk_10_in _ (List.mem_of_getElem? (i := 31) rfl)
theorem tw_657 : (.selects RX2 yX2_size yX2_size : Cond) ∈ lw_tbl := wk_10_in _ (List.mem_of_getElem? (i := 32) rfl)
theorem tw_658 : (.code yX2_size cX2_size 1 (some .int) : Cond) ∈ lw_tbl := wk_10_in _ (List.mem_of_getElem? (i := 33) rfl)
theorem tw_659 : (.methodLink RX9 153 yX1_go : Cond) ∈ lw_tbl := wk_10_in _ (List.mem_of_getElem? (i := 34) rfl)
theorem tw_660 : (.instanceMethod yX1_go : Cond) ∈ lw_tbl := wk_10_in _ (List.mem_of_getElem? (i := 35) rfl)
theorem tw_661 : (.selects RX1 yX1_go yX1_go : Cond) ∈ lw_tbl := wk_10_in _ (List.mem_of_getElem? (i := 36) rfl)
theorem tw_662 : (.code yX1_go cX1_go 3 none : Cond) ∈ lw_tbl := wk_10_in _ (List.mem_of_getElem? (i := 37) rfl)
theorem tw_663 : (.methodLink RX1 104 yX1_weigh : Cond) ∈ lw_tbl := wk_10_in _ (List.mem_of_getElem? (i := 38) rfl)
theorem tw_665 : (.instanceMethod yX1_weigh : Cond) ∈ lw_tbl := wk_10_in _ (List.mem_of_getElem? (i := 39) rfl)
def wk_11 : List Cond := [.code yX1_weigh cX1_weigh 2 none, .methodLink RX1 120 yX1_tallyHouses, .instanceMethod yX1_tallyHouses, .code yX1_tallyHouses cX1_tallyHouses 3 none, .methodLink RX1 161 yJ7_fill_53178, .static yX9_isBit, .code yX9_isBit cX9_isBit 2 (some .boolean), .methodLink RX1 167 yX2_isSent, .instanceMethod yX2_isSent, .selects RX2 yX2_isSent yX2_isSent, .code yX2_isSent cX2_isSent 2 (some .boolean), .methodLink RX1 123 yX1_setLettersOfHour, .instanceMethod yX1_setLettersOfHour, .code yX1_setLettersOfHour cX1_setLettersOfHour 1 none, .methodLink RX1 170 yX2_wordsPast, .instanceMethod yX2_wordsPast, .selects RX2 yX2_wordsPast yX2_wordsPast, .code yX2_wordsPast cX2_wordsPast 4 (some .int), .methodLink RX1 174 yX5_setLetter, .instanceMethod yX5_setLetter, .selects RX5 yX5_setLetter yX5_setLetter, .code yX5_setLetter cX5_setLetter 3 none, .methodLink RX1 177 yX2_hoursSinceWord, .instanceMethod yX2_hoursSinceWord, .selects RX2 yX2_hoursSinceWord yX2_hoursSinceWord, .code yX2_hoursSinceWord cX2_hoursSinceWord 4 (some .int), .methodLink RX2 49 Lib.Math.max.name, .methodLink RX1 126 yX1_setLettersOf, .instanceMethod yX1_setLettersOf, .code yX1_setLettersOf cX1_setLettersOf 7 none, .methodLink RX1 94 yX2_has, .methodLink RX1 130 yX5_worthOf, .instanceMethod yX5_worthOf, .selects RX5 yX5_worthOf yX5_worthOf, .code yX5_worthOf cX5_worthOf 7 (some .int), .methodLink RX5 26 yX5_reckon, .instanceMethod yX5_reckon, .code yX5_reckon cX5_reckon 7 (some .int), .methodLink RX5 30 Lib.Math.max.name, .methodLink RX5 36 yX5_valueOf]
set_option maxRecDepth 1000000 in
theorem wk_11_in : ∀ w ∈ wk_11, w ∈ lw_tbl := fun w h => kPick_in lw_tbl [666, 0, 1, 0, 0, 1, 0, 1, 0, 0, 0, 1, 1, 0, 0, 0, 0, 0, 0, 0, 0, 0, 0, 0, 0, 0, 0, 0, 1, 0, 0, 0, 0, 0, 0, 0, 1, 0, 0, 0] w (show w ∈ kPick lw_tbl [666, 0, 1, 0, 0, 1, 0, 1, 0, 0, 0, 1, 1, 0, 0, 0, 0, 0, 0, 0, 0, 0, 0, 0, 0, 0, 0, 0, 1, 0, 0, 0, 0, 0, 0, 0, 1, 0, 0, 0] from (show kPick lw_tbl [666, 0, 1, 0, 0, 1, 0, 1, 0, 0, 0, 1, 1, 0, 0, 0, 0, 0, 0, 0, 0, 0, 0, 0, 0, 0, 0, 0, 1, 0, 0, 0, 0, 0, 0, 0, 1, 0, 0, 0] = wk_11 from rfl) ▸ h)
theorem tw_666 : (.code yX1_weigh cX1_weigh 2 none : Cond) ∈ lw_tbl := wk_11_in _ (List.mem_of_getElem? (i := 0) rfl)
theorem tw_667 : (.methodLink RX1 120 yX1_tallyHouses : Cond) ∈ lw_tbl := wk_11_in _ (List.mem_of_getElem? (i := 1) rfl)
theorem tw_669 : (.instanceMethod yX1_tallyHouses : Cond) ∈ lw_tbl := wk_11_in _ (List.mem_of_getElem? (i := 2) rfl)
theorem tw_670 : (.code yX1_tallyHouses cX1_tallyHouses 3 none : Cond) ∈ lw_tbl := wk_11_in _ (List.mem_of_getElem? (i := 3) rfl)
theorem tw_671 : (.methodLink RX1 161 yJ7_fill_53178 : Cond) ∈ lw_tbl := wk_11_in _ (List.mem_of_getElem? (i := 4) rfl)
theorem tw_673 : (.static yX9_isBit : Cond) ∈ lw_tbl := wk_11_in _ (List.mem_of_getElem? (i := 5) rfl)
theorem tw_674 : (.code yX9_isBit cX9_isBit 2 (some .boolean) : Cond) ∈ lw_tbl := wk_11_in _ (List.mem_of_getElem? (i := 6) rfl)
theorem tw_676 : (.methodLink RX1 167 yX2_isSent : Cond) ∈ lw_tbl := wk_11_in _ (List.mem_of_getElem? (i := 7) rfl)
theorem tw_677 : (.instanceMethod yX2_isSent : Cond) ∈ lw_tbl := wk_11_in _ (List.mem_of_getElem? (i := 8) rfl)
theorem tw_678 : (.selects RX2 yX2_isSent yX2_isSent : Cond) ∈ lw_tbl := wk_11_in _ (List.mem_of_getElem? (i := 9) rfl)
theorem tw_679 : (.code yX2_isSent cX2_isSent 2 (some .boolean) : Cond) ∈ lw_tbl := wk_11_in _ (List.mem_of_getElem? (i := 10) rfl)
theorem tw_681 : (.methodLink RX1 123 yX1_setLettersOfHour : Cond) ∈ lw_tbl := wk_11_in _ (List.mem_of_getElem? (i := 11) rfl)
theorem tw_683 : (.instanceMethod yX1_setLettersOfHour : Cond) ∈ lw_tbl := wk_11_in _ (List.mem_of_getElem? (i := 12) rfl)
theorem tw_684 : (.code yX1_setLettersOfHour cX1_setLettersOfHour 1 none : Cond) ∈ lw_tbl := wk_11_in _ (List.mem_of_getElem? (i := 13) rfl)
theorem tw_685 : (.methodLink RX1 170 yX2_wordsPast : Cond) ∈ lw_tbl := wk_11_in _ (List.mem_of_getElem? (i := 14) rfl)
theorem tw_686 : (.instanceMethod yX2_wordsPast : Cond) ∈ lw_tbl := wk_11_in _ (List.mem_of_getElem? (i := 15) rfl)
theorem tw_687 : (.selects RX2 yX2_wordsPast yX2_wordsPast : Cond) ∈ lw_tbl := wk_11_in _ (List.mem_of_getElem? (i := 16) rfl)
theorem tw_688 : (.code yX2_wordsPast cX2_wordsPast 4 (some .int) : Cond) ∈ lw_tbl := wk_11_in _ (List.mem_of_getElem? (i := 17) rfl)
theorem tw_689 : (.methodLink RX1 174 yX5_setLetter : Cond) ∈ lw_tbl := wk_11_in _ (List.mem_of_getElem? (i := 18) rfl)
theorem tw_690 : (.instanceMethod yX5_setLetter : Cond) ∈ lw_tbl := wk_11_in _ (List.mem_of_getElem? (i := 19) rfl)
theorem tw_691 : (.selects RX5 yX5_setLetter yX5_setLetter : Cond) ∈ lw_tbl := wk_11_in _ (List.mem_of_getElem? (i := 20) rfl)
theorem tw_692 : (.code yX5_setLetter cX5_setLetter 3 none : Cond) ∈ lw_tbl := wk_11_in _ (List.mem_of_getElem? (i := 21) rfl)
theorem tw_693 : (.methodLink RX1 177 yX2_hoursSinceWord : Cond) ∈ lw_tbl := wk_11_in _ (List.mem_of_getElem? (i := 22) rfl)
theorem tw_694 : (.instanceMethod yX2_hoursSinceWord : Cond) ∈ lw_tbl := wk_11_in _ (List.mem_of_getElem? (i := 23) rfl)
theorem tw_695 : (.selects RX2 yX2_hoursSinceWord yX2_hoursSinceWord : Cond) ∈ lw_tbl := wk_11_in _ (List.mem_of_getElem? (i := 24) rfl)
theorem tw_696 : (.code yX2_hoursSinceWord cX2_hoursSinceWord 4 (some .int) : Cond) ∈ lw_tbl := wk_11_in _ (List.mem_of_getElem? (i := 25) rfl)
theorem tw_697 : (.methodLink RX2 49 Lib.Math.max.name : Cond) ∈ lw_tbl := wk_11_in _ (List.mem_of_getElem? (i := 26) rfl)
theorem tw_698 : (.methodLink RX1 126 yX1_setLettersOf : Cond) ∈ lw_tbl := wk_11_in _ (List.mem_of_getElem? (i := 27) rfl)
theorem tw_700 : (.instanceMethod yX1_setLettersOf : Cond) ∈ lw_tbl := wk_11_in _ (List.mem_of_getElem? (i := 28) rfl)
theorem tw_701 : (.code yX1_setLettersOf cX1_setLettersOf 7 none : Cond) ∈ lw_tbl := wk_11_in _ (List.mem_of_getElem? (i := 29) rfl)
theorem tw_702 : (.methodLink RX1 94 yX2_has : Cond) ∈ lw_tbl := wk_11_in _ (List.mem_of_getElem? (i := 30) rfl)
theorem tw_703 : (.methodLink RX1 130 yX5_worthOf : Cond) ∈ lw_tbl := wk_11_in _ (List.mem_of_getElem? (i := 31) rfl)
theorem tw_704 : (.instanceMethod yX5_worthOf : Cond) ∈ lw_tbl := wk_11_in _ (List.mem_of_getElem? (i := 32) rfl)
theorem tw_705 : (.selects RX5 yX5_worthOf yX5_worthOf : Cond) ∈ lw_tbl := wk_11_in _ (List.mem_of_getElem? (i := 33) rfl)
theorem tw_706 : (.code yX5_worthOf cX5_worthOf 7 (some .int) : Cond) ∈ lw_tbl := wk_11_in _ (List.mem_of_getElem? (i := 34) rfl)
theorem tw_707 : (.methodLink RX5 26 yX5_reckon : Cond) ∈ lw_tbl := wk_11_in _ (List.mem_of_getElem? (i := 35) rfl)
theorem tw_709 : (.instanceMethod yX5_reckon : Cond) ∈ lw_tbl := wk_11_in _ (List.mem_of_getElem? (i := 36) rfl)
theorem tw_710 : (.code yX5_reckon cX5_reckon 7 (some .int) : Cond) ∈ lw_tbl := wk_11_in _ (List.mem_of_getElem? (i := 37) rfl)
theorem tw_711 : (.methodLink RX5 30 Lib.Math.max.name : Cond) ∈ lw_tbl := wk_11_in _ (List.mem_of_getElem? (i := 38) rfl)
theorem tw_712 : (.methodLink RX5 36 yX5_valueOf : Cond) ∈ lw_tbl := wk_11_in _ (List.mem_of_getElem? (i := 39) rfl)
def wk_12 : List Cond := [.instanceMethod yX5_valueOf, .code yX5_valueOf cX5_valueOf 3 (some .int), .methodLink RX5 40 yX5_join, .static yX5_join, .code yX5_join cX5_join 3 (some .long), .methodLink RX5 44 yX5_bounded, .static yX5_bounded, .code yX5_bounded cX5_bounded 2 (some .int), .constantLong RX5 48 (1000000), .constant RX5 50 (1000000), .constantLong RX5 51 (-1000000), .constant RX5 53 (-1000000), .methodLink RX1 107 yX1_holdMore, .instanceMethod yX1_holdMore, .code yX1_holdMore cX1_holdMore 2 none, .methodLink RX1 110 yX1_tell, .instanceMethod yX1_tell, .code yX1_tell cX1_tell 2 none, .methodLink RX1 180 yX1_tellThoseKnown, .instanceMethod yX1_tellThoseKnown, .code yX1_tellThoseKnown cX1_tellThoseKnown 4 none, .methodLink RX1 113 yX1_goHome, .instanceMethod yX1_goHome, .code yX1_goHome cX1_goHome 2 none, .methodLink RX1 142 yX1_mayGo, .instanceMethod yX1_mayGo, .code yX1_mayGo cX1_mayGo 2 (some .boolean), .constantLong RX1 183 (6364136223846793005), .constantLong RX1 185 (1442695040888963407), .constantLong RX1 187 (100), .methodLink RX9 156 yX1_heldBy, .instanceMethod yX1_heldBy, .selects RX1 yX1_heldBy yX1_heldBy, .code yX1_heldBy cX1_heldBy 2 (some .int), .methodLink RX9 159 yX1_placeOf, .instanceMethod yX1_placeOf, .selects RX1 yX1_placeOf yX1_placeOf, .code yX1_placeOf cX1_placeOf 2 (some .int), .methodLink RX9 162 yX1_tellsSince, .instanceMethod yX1_tellsSince]
set_option maxRecDepth 1000000 in
theorem wk_12_in : ∀ w ∈ wk_12, w ∈ lw_tbl := fun w h => kPick_in lw_tbl [714, 0, 0, 0, 0, 0, 0, 0, 0, 0, 0, 0, 0, 1, 0, 1, 1, 0, 0, 1, 0, 0, 1, 0, 0, 1, 0, 0, 0, 0, 0, 0, 0, 0, 0, 0, 0, 0, 0, 0] w (show w ∈ kPick lw_tbl [714, 0, 0, 0, 0, 0, 0, 0, 0, 0, 0, 0, 0, 1, 0, 1, 1, 0, 0, 1, 0, 0, 1, 0, 0, 1, 0, 0, 0, 0, 0, 0, 0, 0, 0, 0, 0, 0, 0, 0] from (show kPick lw_tbl [714, 0, 0, 0, 0, 0, 0, 0, 0, 0, 0, 0, 0, 1, 0, 1, 1, 0, 0, 1, 0, 0, 1, 0, 0, 1, 0, 0, 0, 0, 0, 0, 0, 0, 0, 0, 0, 0, 0, 0] = wk_12 from rfl) ▸ h)
theorem tw_714 : (.instanceMethod yX5_valueOf : Cond) ∈ lw_tbl := wk_12_in _ (List.mem_of_getElem? (i := 0) rfl)
theorem tw_715 : (.code yX5_valueOf cX5_valueOf 3 (some .int) : Cond) ∈ lw_tbl := wk_12_in _ (List.mem_of_getElem? (i := 1) rfl)
theorem tw_716 : (.methodLink RX5 40 yX5_join : Cond) ∈ lw_tbl := wk_12_in _ (List.mem_of_getElem? (i := 2) rfl)
theorem tw_717 : (.static yX5_join : Cond) ∈ lw_tbl := wk_12_in _ (List.mem_of_getElem? (i := 3) rfl)
theorem tw_718 : (.code yX5_join cX5_join 3 (some .long) : Cond) ∈ lw_tbl := wk_12_in _ (List.mem_of_getElem? (i := 4) rfl)
theorem tw_719 : (.methodLink RX5 44 yX5_bounded : Cond) ∈ lw_tbl := wk_12_in _ (List.mem_of_getElem? (i := 5) rfl)
theorem tw_720 : (.static yX5_bounded : Cond) ∈ lw_tbl := wk_12_in _ (List.mem_of_getElem? (i := 6) rfl)
theorem tw_721 : (.code yX5_bounded cX5_bounded 2 (some .int) : Cond) ∈ lw_tbl := wk_12_in _ (List.mem_of_getElem? (i := 7) rfl)
theorem tw_722 : (.constantLong RX5 48 (1000000) : Cond) ∈ lw_tbl := wk_12_in _ (List.mem_of_getElem? (i := 8) rfl)
theorem tw_723 : (.constant RX5 50 (1000000) : Cond) ∈ lw_tbl := wk_12_in _ (List.mem_of_getElem? (i := 9) rfl)
theorem tw_724 : (.constantLong RX5 51 (-1000000) : Cond) ∈ lw_tbl := wk_12_in _ (List.mem_of_getElem? (i := 10) rfl)
theorem tw_725 : (.constant RX5 53 (-1000000) : Cond) ∈ lw_tbl := wk_12_in _ (List.mem_of_getElem? (i := 11) rfl)
theorem tw_726 : (.methodLink RX1 107 yX1_holdMore : Cond) ∈ lw_tbl := wk_12_in _ (List.mem_of_getElem? (i := 12) rfl)
theorem tw_728 : (.instanceMethod yX1_holdMore : Cond) ∈ lw_tbl := wk_12_in _ (List.mem_of_getElem? (i := 13) rfl)
theorem tw_729 : (.code yX1_holdMore cX1_holdMore 2 none : Cond) ∈ lw_tbl := wk_12_in _ (List.mem_of_getElem? (i := 14) rfl)
theorem tw_731 : (.methodLink RX1 110 yX1_tell : Cond) ∈ lw_tbl := wk_12_in _ (List.mem_of_getElem? (i := 15) rfl)
theorem tw_733 : (.instanceMethod yX1_tell : Cond) ∈ lw_tbl := wk_12_in _ (List.mem_of_getElem? (i := 16) rfl)
theorem tw_734 : (.code yX1_tell cX1_tell 2 none : Cond) ∈ lw_tbl := wk_12_in _ (List.mem_of_getElem? (i := 17) rfl)
theorem tw_735 : (.methodLink RX1 180 yX1_tellThoseKnown : Cond) ∈ lw_tbl := wk_12_in _ (List.mem_of_getElem? (i := 18) rfl)
theorem tw_737 : (.instanceMethod yX1_tellThoseKnown : Cond) ∈ lw_tbl := wk_12_in _ (List.mem_of_getElem? (i := 19) rfl)
theorem tw_738 : (.code yX1_tellThoseKnown cX1_tellThoseKnown 4 none : Cond) ∈ lw_tbl := wk_12_in _ (List.mem_of_getElem? (i := 20) rfl)
theorem tw_739 : (.methodLink RX1 113 yX1_goHome : Cond) ∈ lw_tbl := wk_12_in _ (List.mem_of_getElem? (i := 21) rfl)
theorem tw_741 : (.instanceMethod yX1_goHome : Cond) ∈ lw_tbl := wk_12_in _ (List.mem_of_getElem? (i := 22) rfl)
theorem tw_742 : (.code yX1_goHome cX1_goHome 2 none : Cond) ∈ lw_tbl := wk_12_in _ (List.mem_of_getElem? (i := 23) rfl)
theorem tw_743 : (.methodLink RX1 142 yX1_mayGo : Cond) ∈ lw_tbl := wk_12_in _ (List.mem_of_getElem? (i := 24) rfl)
theorem tw_745 : (.instanceMethod yX1_mayGo : Cond) ∈ lw_tbl := wk_12_in _ (List.mem_of_getElem? (i := 25) rfl)
theorem tw_746 : (.code yX1_mayGo cX1_mayGo 2 (some .boolean) : Cond) ∈ lw_tbl := wk_12_in _ (List.mem_of_getElem? (i := 26) rfl)
theorem tw_747 : (.constantLong RX1 183 (6364136223846793005) : Cond) ∈ lw_tbl := wk_12_in _ (List.mem_of_getElem? (i := 27) rfl)
theorem tw_748 : (.constantLong RX1 185 (1442695040888963407) : Cond) ∈ lw_tbl := wk_12_in _ (List.mem_of_getElem? (i := 28) rfl)
theorem tw_749 : (.constantLong RX1 187 (100) : Cond) ∈ lw_tbl := wk_12_in _ (List.mem_of_getElem? (i := 29) rfl)
theorem tw_750 : (.methodLink RX9 156 yX1_heldBy : Cond) ∈ lw_tbl := wk_12_in _ (List.mem_of_getElem? (i := 30) rfl)
theorem tw_751 : (.instanceMethod yX1_heldBy : Cond) ∈ lw_tbl := wk_12_in _ (List.mem_of_getElem? (i := 31) rfl)
theorem tw_752 : (.selects RX1 yX1_heldBy yX1_heldBy : Cond) ∈ lw_tbl := wk_12_in _ (List.mem_of_getElem? (i := 32) rfl)
theorem tw_753 : (.code yX1_heldBy cX1_heldBy 2 (some .int) : Cond) ∈ lw_tbl := wk_12_in _ (List.mem_of_getElem? (i := 33) rfl)
theorem tw_754 : (.methodLink RX9 159 yX1_placeOf : Cond) ∈ lw_tbl := wk_12_in _ (List.mem_of_getElem? (i := 34) rfl)
theorem tw_755 : (.instanceMethod yX1_placeOf : Cond) ∈ lw_tbl := wk_12_in _ (List.mem_of_getElem? (i := 35) rfl)
theorem tw_756 : (.selects RX1 yX1_placeOf yX1_placeOf : Cond) ∈ lw_tbl := wk_12_in _ (List.mem_of_getElem? (i := 36) rfl)
theorem tw_757 : (.code yX1_placeOf cX1_placeOf 2 (some .int) : Cond) ∈ lw_tbl := wk_12_in _ (List.mem_of_getElem? (i := 37) rfl)
theorem tw_758 : (.methodLink RX9 162 yX1_tellsSince : Cond) ∈ lw_tbl := wk_12_in _ (List.mem_of_getElem? (i := 38) rfl)
theorem tw_759 : (.instanceMethod yX1_tellsSince : Cond) ∈ lw_tbl := wk_12_in _ (List.mem_of_getElem? (i := 39) rfl)
def wk_13 : List Cond := [.selects RX1 yX1_tellsSince yX1_tellsSince, .code yX1_tellsSince cX1_tellsSince 2 (some .int), .methodLink RL 69 yX9_all, .instanceMethod yX9_all, .selects RX9 yX9_all yX9_all, .code yX9_all cX9_all 7 (some .int), .methodLink RX9 165 yX1_howManyAreHome, .instanceMethod yX1_howManyAreHome, .selects RX1 yX1_howManyAreHome yX1_howManyAreHome, .code yX1_howManyAreHome cX1_howManyAreHome 3 (some .int), .methodLink RX9 168 yX1_whoGaveUp, .instanceMethod yX1_whoGaveUp, .selects RX1 yX1_whoGaveUp yX1_whoGaveUp, .code yX1_whoGaveUp cX1_whoGaveUp 3 (some .int), .methodLink RL 74 yX9_without, .instanceMethod yX9_without, .selects RX9 yX9_without yX9_without, .code yX9_without cX9_without 7 (some .int), .methodLink RX9 171 yX2_hasAll, .instanceMethod yX2_hasAll, .selects RX2 yX2_hasAll yX2_hasAll, .code yX2_hasAll cX2_hasAll 2 (some .boolean), .methodLink RX2 41 yX2_everybody, .methodLink RX9 174 yX9_isBit, .methodLink RX9 178 yX9_heldAtEnd, .instanceMethod yX9_heldAtEnd, .code yX9_heldAtEnd cX9_heldAtEnd 6 (some .int), .methodLink RL 78 yX9_did, .instanceMethod yX9_did, .selects RX9 yX9_did yX9_did, .code yX9_did cX9_did 6 (some .int), .methodLink RX9 182 yX2_isSent, .methodLink RX9 185 yX2_sentOnes, .methodLink RL 83 yX9_lean, .instanceMethod yX9_lean, .selects RX9 yX9_lean yX9_lean, .code yX9_lean cX9_lean 8 (some .int), .methodLink RX9 188 yX1_giveBack, .instanceMethod yX1_giveBack, .selects RX1 yX1_giveBack yX1_giveBack]
set_option maxRecDepth 1000000 in
theorem wk_13_in : ∀ w ∈ wk_13, w ∈ lw_tbl := fun w h => kPick_in lw_tbl [760, 0, 0, 0, 0, 0, 0, 0, 0, 0, 0, 0, 0, 0, 0, 0, 0, 0, 0, 0, 0, 0, 0, 0, 0, 1, 0, 0, 0, 0, 0, 0, 0, 0, 0, 0, 0, 0, 0, 0] w (show w ∈ kPick lw_tbl [760, 0, 0, 0, 0, 0, 0, 0, 0, 0, 0, 0, 0, 0, 0, 0, 0, 0, 0, 0, 0, 0, 0, 0, 0, 1, 0, 0, 0, 0, 0, 0, 0, 0, 0, 0, 0, 0, 0, 0] from (show kPick lw_tbl [760, 0, 0, 0, 0, 0, 0, 0, 0, 0, 0, 0, 0, 0, 0, 0, 0, 0, 0, 0, 0, 0, 0, 0, 0, 1, 0, 0, 0, 0, 0, 0, 0, 0, 0, 0, 0, 0, 0, 0] = wk_13 from rfl) ▸ h)
theorem tw_760 : (.selects RX1 yX1_tellsSince yX1_tellsSince : Cond) ∈ lw_tbl := wk_13_in _ (List.mem_of_getElem? (i := 0) rfl)
theorem tw_761 : (.code yX1_tellsSince cX1_tellsSince 2 (some .int) : Cond) ∈ lw_tbl := wk_13_in _ (List.mem_of_getElem? (i := 1) rfl)
def wk_18 : List Cond := [.selects RX9 yX9_lookers yX9_lookers, .code yX9_lookers cX9_lookers 9 (some .int), .methodLink RX9 249 yX9_holdersWithout, .instanceMethod yX9_holdersWithout, .code yX9_holdersWithout cX9_holdersWithout 5 (some .int), .methodLink RX9 290 yX1_whoHoldsOn, .instanceMethod yX1_whoHoldsOn, .selects RX1 yX1_whoHoldsOn yX1_whoHoldsOn, .code yX1_whoHoldsOn cX1_whoHoldsOn 3 (some .int), .methodLink RX9 252 yX9_lookersOfSize, .instanceMethod yX9_lookersOfSize, .code yX9_lookersOfSize cX9_lookersOfSize 11 (some .int), .methodLink RX9 293 yX9_isLowerFirst, .methodLink RL 140 yX9_count, .instanceMethod yX9_count, .selects RX9 yX9_count yX9_count, .code yX9_count cX9_count 2 (some .int), .methodLink RX9 255 yX2_words, .instanceMethod yX2_words, .selects RX2 yX2_words yX2_words, .code yX2_words cX2_words 1 (some .int), .methodLink RX9 258 yX3_size, .instanceMethod yX3_size, .selects RX3 yX3_size yX3_size, .code yX3_size cX3_size 1 (some .int), .methodLink RX9 259 yX0_size, .instanceMethod yX0_size, .selects RX0 yX0_size yX0_size, .code yX0_size cX0_size 1 (some .int), .methodLink RL 52 yL_worth, .static yL_worth, .classLink RL 13 "java/util/NoSuchElementException", .methodLink RL 7 yX9_worth, .instanceMethod yX9_worth, .selects RX9 yX9_worth yX9_worth, .code yX9_worth cX9_worth 5 (some .int), .classLink RX9 142 "java/util/NoSuchElementException", .methodLink RX9 149 yX1_worthNow, .instanceMethod yX1_worthNow, .selects RX1 yX1_worthNow yX1_worthNow]
set_option maxRecDepth 1000000 in
theorem wk_18_in : ∀ w ∈ wk_18, w ∈ lw_tbl := fun w h => kPick_in lw_tbl [971, 0, 0, 1, 0, 0, 0, 0, 0, 0, 1, 0, 0, 0, 0, 0, 0, 0, 0, 0, 0, 0, 0, 0, 0, 0, 0, 0, 0, 0, 0, 1, 0, 0, 0, 0, 0, 60, 0, 0] w (show w ∈ kPick lw_tbl [971, 0, 0, 1, 0, 0, 0, 0, 0, 0, 1, 0, 0, 0, 0, 0, 0, 0, 0, 0, 0, 0, 0, 0, 0, 0, 0, 0, 0, 0, 0, 1, 0, 0, 0, 0, 0, 60, 0, 0] from (show kPick lw_tbl [971, 0, 0, 1, 0, 0, 0, 0, 0, 0, 1, 0, 0, 0, 0, 0, 0, 0, 0, 0, 0, 0, 0, 0, 0, 0, 0, 0, 0, 0, 0, 1, 0, 0, 0, 0, 0, 60, 0, 0] = wk_18 from rfl) ▸ h)
theorem tw_1002 : (.methodLink RL 52 yL_worth : Cond) ∈ lw_tbl := wk_18_in _ (List.mem_of_getElem? (i := 29) rfl)
theorem tw_1003 : (.static yL_worth : Cond) ∈ lw_tbl := wk_18_in _ (List.mem_of_getElem? (i := 30) rfl)
theorem tw_1005 : (.classLink RL 13 "java/util/NoSuchElementException" : Cond) ∈ lw_tbl := wk_18_in _ (List.mem_of_getElem? (i := 31) rfl)
theorem tw_1006 : (.methodLink RL 7 yX9_worth : Cond) ∈ lw_tbl := wk_18_in _ (List.mem_of_getElem? (i := 32) rfl)
theorem tw_1007 : (.instanceMethod yX9_worth : Cond) ∈ lw_tbl := wk_18_in _ (List.mem_of_getElem? (i := 33) rfl)
theorem tw_1008 : (.selects RX9 yX9_worth yX9_worth : Cond) ∈ lw_tbl := wk_18_in _ (List.mem_of_getElem? (i := 34) rfl)
theorem tw_1009 : (.code yX9_worth cX9_worth 5 (some .int) : Cond) ∈ lw_tbl := wk_18_in _ (List.mem_of_getElem? (i := 35) rfl)
theorem tw_1010 : (.classLink RX9 142 "java/util/NoSuchElementException" : Cond) ∈ lw_tbl := wk_18_in _ (List.mem_of_getElem? (i := 36) rfl)
theorem tw_1071 : (.methodLink RX9 149 yX1_worthNow : Cond) ∈ lw_tbl := wk_18_in _ (List.mem_of_getElem? (i := 37) rfl)
theorem tw_1072 : (.instanceMethod yX1_worthNow : Cond) ∈ lw_tbl := wk_18_in _ (List.mem_of_getElem? (i := 38) rfl)
theorem tw_1073 : (.selects RX1 yX1_worthNow yX1_worthNow : Cond) ∈ lw_tbl := wk_18_in _ (List.mem_of_getElem? (i := 39) rfl)
def wk_19 : List Cond := [.code yX1_worthNow cX1_worthNow 3 (some .int), .classLink RL 16 RX10, .instantiable RX10 52, .methodLink RL 18 yX10_init, .instanceMethod yX10_init, .code yX10_init cX10_init 1 none, .methodLink RX10 1 objectInit, .fieldLink RX10 117 "NotEndedModel" "thrown" "I", .fieldLink RX10 9 "NotEndedModel" "tape" "[B", .fieldLink RX10 13 "NotEndedModel" "texts" "[B", .fieldLink RX10 16 "NotEndedModel" "textLong" "[I", .fieldLink RX10 20 "NotEndedModel" "letters" "[I", .fieldLink RX10 23 "NotEndedModel" "text" "[B", .fieldLink RX10 131 "NotEndedModel" "length" "I", .fieldLink RX10 244 "NotEndedModel" "laws" "I", .fieldLink RX10 247 "NotEndedModel" "turnings" "I", .fieldLink RX10 147 "NotEndedModel" "begins" "I", .fieldLink RX10 144 "NotEndedModel" "ends" "I", .fieldLink RX10 141 "NotEndedModel" "at" "I", .fieldLink RX10 150 "NotEndedModel" "fault" "I", .fieldLink RX10 153 "NotEndedModel" "deep" "I", .fieldLink RX10 223 "NotEndedModel" "label" "I", .fieldLink RX10 226 "NotEndedModel" "found" "I", .fieldLink RX10 28 "NotEndedModel" "labels" "Ljava/lang/String;", .fieldLink RX10 34 "NotEndedModel" "allowed" "Ljava/lang/String;", .fieldLink RX10 219 "NotEndedModel" "hasFound" "Z", .fieldLink RX10 37 "NotEndedModel" "toldHolds" "[I", .fieldLink RX10 40 "NotEndedModel" "toldIn" "[I", .fieldLink RX10 43 "NotEndedModel" "toldHouse" "[I", .fieldLink RX10 46 "NotEndedModel" "knows" "[I", .fieldLink RX10 49 "NotEndedModel" "said" "[I", .fieldLink RX10 52 "NotEndedModel" "due" "[I", .fieldLink RX10 55 "NotEndedModel" "isSent" "[Z", .fieldLink RX10 250 "NotEndedModel" "persons" "I", .fieldLink RX10 256 "NotEndedModel" "words" "I", .fieldLink RX10 59 "NotEndedModel" "holds" "[I", .fieldLink RX10 62 "NotEndedModel" "putIn" "[I", .fieldLink RX10 65 "NotEndedModel" "house" "[I", .fieldLink RX10 68 "NotEndedModel" "since" "[I", .fieldLink RX10 71 "NotEndedModel" "more" "[I"]
set_option maxRecDepth 1000000 in
theorem wk_19_in : ∀ w ∈ wk_19, w ∈ lw_tbl := fun w h => kPick_in lw_tbl [1074, 0, 0, 0, 0, 0, 0, 2, 0, 0, 0, 0, 0, 0, 0, 0, 0, 0, 0, 0, 0, 0, 0, 0, 0, 0, 0, 0, 0, 0, 0, 0, 0, 0, 0, 0, 0, 0, 0, 0] w (show w ∈ kPick lw_tbl [1074, 0, 0, 0, 0, 0, 0, 2, 0, 0, 0, 0, 0, 0, 0, 0, 0, 0, 0, 0, 0, 0, 0, 0, 0, 0, 0, 0, 0, 0, 0, 0, 0, 0, 0, 0, 0, 0, 0, 0] from (show kPick lw_tbl [1074, 0, 0, 0, 0, 0, 0, 2, 0, 0, 0, 0, 0, 0, 0, 0, 0, 0, 0, 0, 0, 0, 0, 0, 0, 0, 0, 0, 0, 0, 0, 0, 0, 0, 0, 0, 0, 0, 0, 0] = wk_19 from rfl) ▸ h)
theorem tw_1074 : (.code yX1_worthNow cX1_worthNow 3 (some .int) : Cond) ∈ lw_tbl := wk_19_in _ (List.mem_of_getElem? (i := 0) rfl)
theorem tw_1083 : (.fieldLink RX10 117 "NotEndedModel" "thrown" "I" : Cond) ∈ lw_tbl := wk_19_in _ (List.mem_of_getElem? (i := 7) rfl)
theorem tw_1085 : (.fieldLink RX10 13 "NotEndedModel" "texts" "[B" : Cond) ∈ lw_tbl := wk_19_in _ (List.mem_of_getElem? (i := 9) rfl)
theorem tw_1086 : (.fieldLink RX10 16 "NotEndedModel" "textLong" "[I" : Cond) ∈ lw_tbl := wk_19_in _ (List.mem_of_getElem? (i := 10) rfl)
theorem tw_1087 : (.fieldLink RX10 20 "NotEndedModel" "letters" "[I" : Cond) ∈ lw_tbl := wk_19_in _ (List.mem_of_getElem? (i := 11) rfl)
theorem tw_1088 : (.fieldLink RX10 23 "NotEndedModel" "text" "[B" : Cond) ∈ lw_tbl := wk_19_in _ (List.mem_of_getElem? (i := 12) rfl)
theorem tw_1090 : (.fieldLink RX10 244 "NotEndedModel" "laws" "I" : Cond) ∈ lw_tbl := wk_19_in _ (List.mem_of_getElem? (i := 14) rfl)
theorem tw_1092 : (.fieldLink RX10 147 "NotEndedModel" "begins" "I" : Cond) ∈ lw_tbl := wk_19_in _ (List.mem_of_getElem? (i := 16) rfl)
theorem tw_1093 : (.fieldLink RX10 144 "NotEndedModel" "ends" "I" : Cond) ∈ lw_tbl := wk_19_in _ (List.mem_of_getElem? (i := 17) rfl)
theorem tw_1094 : (.fieldLink RX10 141 "NotEndedModel" "at" "I" : Cond) ∈ lw_tbl := wk_19_in _ (List.mem_of_getElem? (i := 18) rfl)
theorem tw_1095 : (.fieldLink RX10 150 "NotEndedModel" "fault" "I" : Cond) ∈ lw_tbl := wk_19_in _ (List.mem_of_getElem? (i := 19) rfl)
theorem tw_1096 : (.fieldLink RX10 153 "NotEndedModel" "deep" "I" : Cond) ∈ lw_tbl := wk_19_in _ (List.mem_of_getElem? (i := 20) rfl)
theorem tw_1097 : (.fieldLink RX10 223 "NotEndedModel" "label" "I" : Cond) ∈ lw_tbl := wk_19_in _ (List.mem_of_getElem? (i := 21) rfl)
theorem tw_1098 : (.fieldLink RX10 226 "NotEndedModel" "found" "I" : Cond) ∈ lw_tbl := wk_19_in _ (List.mem_of_getElem? (i := 22) rfl)
theorem tw_1099 : (.fieldLink RX10 28 "NotEndedModel" "labels" "Ljava/lang/String;" : Cond) ∈ lw_tbl := wk_19_in _ (List.mem_of_getElem? (i := 23) rfl)
theorem tw_1100 : (.fieldLink RX10 34 "NotEndedModel" "allowed" "Ljava/lang/String;" : Cond) ∈ lw_tbl := wk_19_in _ (List.mem_of_getElem? (i := 24) rfl)
theorem tw_1101 : (.fieldLink RX10 219 "NotEndedModel" "hasFound" "Z" : Cond) ∈ lw_tbl := wk_19_in _ (List.mem_of_getElem? (i := 25) rfl)
theorem tw_1102 : (.fieldLink RX10 37 "NotEndedModel" "toldHolds" "[I" : Cond) ∈ lw_tbl := wk_19_in _ (List.mem_of_getElem? (i := 26) rfl)
theorem tw_1103 : (.fieldLink RX10 40 "NotEndedModel" "toldIn" "[I" : Cond) ∈ lw_tbl := wk_19_in _ (List.mem_of_getElem? (i := 27) rfl)
theorem tw_1104 : (.fieldLink RX10 43 "NotEndedModel" "toldHouse" "[I" : Cond) ∈ lw_tbl := wk_19_in _ (List.mem_of_getElem? (i := 28) rfl)
theorem tw_1105 : (.fieldLink RX10 46 "NotEndedModel" "knows" "[I" : Cond) ∈ lw_tbl := wk_19_in _ (List.mem_of_getElem? (i := 29) rfl)
theorem tw_1107 : (.fieldLink RX10 52 "NotEndedModel" "due" "[I" : Cond) ∈ lw_tbl := wk_19_in _ (List.mem_of_getElem? (i := 31) rfl)
theorem tw_1108 : (.fieldLink RX10 55 "NotEndedModel" "isSent" "[Z" : Cond) ∈ lw_tbl := wk_19_in _ (List.mem_of_getElem? (i := 32) rfl)
theorem tw_1109 : (.fieldLink RX10 250 "NotEndedModel" "persons" "I" : Cond) ∈ lw_tbl := wk_19_in _ (List.mem_of_getElem? (i := 33) rfl)
theorem tw_1110 : (.fieldLink RX10 256 "NotEndedModel" "words" "I" : Cond) ∈ lw_tbl := wk_19_in _ (List.mem_of_getElem? (i := 34) rfl)
theorem tw_1111 : (.fieldLink RX10 59 "NotEndedModel" "holds" "[I" : Cond) ∈ lw_tbl := wk_19_in _ (List.mem_of_getElem? (i := 35) rfl)
theorem tw_1112 : (.fieldLink RX10 62 "NotEndedModel" "putIn" "[I" : Cond) ∈ lw_tbl := wk_19_in _ (List.mem_of_getElem? (i := 36) rfl)
theorem tw_1113 : (.fieldLink RX10 65 "NotEndedModel" "house" "[I" : Cond) ∈ lw_tbl := wk_19_in _ (List.mem_of_getElem? (i := 37) rfl)
theorem tw_1114 : (.fieldLink RX10 68 "NotEndedModel" "since" "[I" : Cond) ∈ lw_tbl := wk_19_in _ (List.mem_of_getElem? (i := 38) rfl)
theorem tw_1115 : (.fieldLink RX10 71 "NotEndedModel" "more" "[I" : Cond) ∈ lw_tbl := wk_19_in _ (List.mem_of_getElem? (i := 39) rfl)
def wk_20 : List Cond := [.fieldLink RX10 74 "NotEndedModel" "goes" "[I", .fieldLink RX10 77 "NotEndedModel" "heard" "[I", .fieldLink RX10 80 "NotEndedModel" "tells" "[I", .fieldLink RX10 83 "NotEndedModel" "was" "[I", .fieldLink RX10 259 "NotEndedModel" "there" "I", .fieldLink RX10 266 "NotEndedModel" "hour" "I", .fieldLink RX10 262 "NotEndedModel" "x" "J", .fieldLink RX10 86 "NotEndedModel" "notePerson" "[I", .fieldLink RX10 89 "NotEndedModel" "noteHour" "[I", .fieldLink RX10 92 "NotEndedModel" "noteKind" "[I", .fieldLink RX10 95 "NotEndedModel" "noteValue" "[I", .fieldLink RX10 98 "NotEndedModel" "noteOff" "[I", .fieldLink RX10 331 "NotEndedModel" "notes" "I", .fieldLink RX10 101 "NotEndedModel" "ways" "[J", .fieldLink RX10 105 "NotEndedModel" "actOf" "[I", .fieldLink RX10 108 "NotEndedModel" "actKind" "[I", .fieldLink RX10 111 "NotEndedModel" "actX" "[I", .fieldLink RX10 114 "NotEndedModel" "actCost" "[I", .fieldLink RX10 367 "NotEndedModel" "acts" "I", .arrayClass .boolean, .methodLink RL 58 yX10_thrown, .instanceMethod yX10_thrown, .selects RX10 yX10_thrown yX10_thrown, .code yX10_thrown cX10_thrown 1 (some .int), .methodLink RL 23 yX10_feed, .instanceMethod yX10_feed, .selects RX10 yX10_feed yX10_feed, .code yX10_feed cX10_feed 6 (some .int), .methodLink RX10 133 yX10_bytesIn, .static yX10_bytesIn, .code yX10_bytesIn cX10_bytesIn 3 (some .int), .methodLink RX10 137 yX10_put, .instanceMethod yX10_put, .code yX10_put cX10_put 3 none, .methodLink RL 28 yX10_end, .instanceMethod yX10_end, .selects RX10 yX10_end yX10_end, .code yX10_end cX10_end 2 (some .boolean), .methodLink RL 33 yX10_fault, .instanceMethod yX10_fault]
set_option maxRecDepth 1000000 in
theorem wk_20_in : ∀ w ∈ wk_20, w ∈ lw_tbl := fun w h => kPick_in lw_tbl [1116, 0, 0, 0, 0, 0, 0, 0, 0, 0, 0, 0, 0, 0, 0, 0, 0, 0, 0, 105, 0, 0, 0, 0, 0, 0, 0, 0, 0, 0, 0, 0, 1, 0, 0, 0, 0, 0, 0, 0] w (show w ∈ kPick lw_tbl [1116, 0, 0, 0, 0, 0, 0, 0, 0, 0, 0, 0, 0, 0, 0, 0, 0, 0, 0, 105, 0, 0, 0, 0, 0, 0, 0, 0, 0, 0, 0, 0, 1, 0, 0, 0, 0, 0, 0, 0] from (show kPick lw_tbl [1116, 0, 0, 0, 0, 0, 0, 0, 0, 0, 0, 0, 0, 0, 0, 0, 0, 0, 0, 105, 0, 0, 0, 0, 0, 0, 0, 0, 0, 0, 0, 0, 1, 0, 0, 0, 0, 0, 0, 0] = wk_20 from rfl) ▸ h)
theorem tw_1116 : (.fieldLink RX10 74 "NotEndedModel" "goes" "[I" : Cond) ∈ lw_tbl := wk_20_in _ (List.mem_of_getElem? (i := 0) rfl)
theorem tw_1117 : (.fieldLink RX10 77 "NotEndedModel" "heard" "[I" : Cond) ∈ lw_tbl := wk_20_in _ (List.mem_of_getElem? (i := 1) rfl)
theorem tw_1118 : (.fieldLink RX10 80 "NotEndedModel" "tells" "[I" : Cond) ∈ lw_tbl := wk_20_in _ (List.mem_of_getElem? (i := 2) rfl)
theorem tw_1119 : (.fieldLink RX10 83 "NotEndedModel" "was" "[I" : Cond) ∈ lw_tbl := wk_20_in _ (List.mem_of_getElem? (i := 3) rfl)
theorem tw_1120 : (.fieldLink RX10 259 "NotEndedModel" "there" "I" : Cond) ∈ lw_tbl := wk_20_in _ (List.mem_of_getElem? (i := 4) rfl)
theorem tw_1121 : (.fieldLink RX10 266 "NotEndedModel" "hour" "I" : Cond) ∈ lw_tbl := wk_20_in _ (List.mem_of_getElem? (i := 5) rfl)
theorem tw_1122 : (.fieldLink RX10 262 "NotEndedModel" "x" "J" : Cond) ∈ lw_tbl := wk_20_in _ (List.mem_of_getElem? (i := 6) rfl)
theorem tw_1241 : (.methodLink RL 58 yX10_thrown : Cond) ∈ lw_tbl := wk_20_in _ (List.mem_of_getElem? (i := 20) rfl)
theorem tw_1242 : (.instanceMethod yX10_thrown : Cond) ∈ lw_tbl := wk_20_in _ (List.mem_of_getElem? (i := 21) rfl)
theorem tw_1243 : (.selects RX10 yX10_thrown yX10_thrown : Cond) ∈ lw_tbl := wk_20_in _ (List.mem_of_getElem? (i := 22) rfl)
theorem tw_1244 : (.code yX10_thrown cX10_thrown 1 (some .int) : Cond) ∈ lw_tbl := wk_20_in _ (List.mem_of_getElem? (i := 23) rfl)
def wk_21 : List Cond := [.selects RX10 yX10_fault yX10_fault, .code yX10_fault cX10_fault 2 (some .int), .methodLink RX10 236 yX10_isIn, .static yX10_isIn, .code yX10_isIn cX10_isIn 3 (some .boolean), .methodLink RX10 240 yX10_goThrough, .instanceMethod yX10_goThrough, .code yX10_goThrough cX10_goThrough 6 none, .methodLink RX10 233 yX10_clause, .instanceMethod yX10_clause, .code yX10_clause cX10_clause 5 none, .methodLink RX10 160 yX10_look, .instanceMethod yX10_look, .code yX10_look cX10_look 1 (some .int), .methodLink RX10 176 yX10_isAmong, .static yX10_isAmong, .code yX10_isAmong cX10_isAmong 3 (some .boolean), .methodLink RX10 121 yJ0_length_8abf5, .methodLink RX10 127 yJ0_charAt_5068e, .instanceMethod yJ0_charAt_5068e, .selects RJ0 yJ0_charAt_5068e yJ0_charAt_5068e, .code yJ0_charAt_5068e cJ0_charAt_5068e 2 (some .char), .methodLink RJ0 495 yJ1_charAt_3b067, .static yJ1_charAt_3b067, .code yJ1_charAt_3b067 cJ1_charAt_3b067 2 (some .char), .methodLink RJ1 9 yJ0_checkIndex_df160, .static yJ0_checkIndex_df160, .code yJ0_checkIndex_df160 cJ0_checkIndex_df160 2 none, .methodLink RJ0 1059 yJ3_checkIndex_8e157, .static yJ3_checkIndex_8e157, .code yJ3_checkIndex_8e157 cJ3_checkIndex_8e157 3 (some .int), .methodLink RX10 156 yX10_fails, .instanceMethod yX10_fails, .code yX10_fails cX10_fails 1 (some .boolean), .methodLink RX10 186 yX10_takes, .instanceMethod yX10_takes, .code yX10_takes cX10_takes 2 (some .boolean), .methodLink RX10 209 yX10_condition, .instanceMethod yX10_condition, .code yX10_condition cX10_condition 5 (some .boolean)]
set_option maxRecDepth 1000000 in
theorem wk_21_in : ∀ w ∈ wk_21, w ∈ lw_tbl := fun w h => kPick_in lw_tbl [1262, 0, 0, 0, 0, 0, 1, 0, 2, 1, 0, 0, 1, 0, 0, 0, 0, 0, 0, 0, 0, 0, 0, 0, 0, 0, 0, 0, 0, 0, 0, 7, 1, 0, 0, 1, 0, 0, 1, 0] w (show w ∈ kPick lw_tbl [1262, 0, 0, 0, 0, 0, 1, 0, 2, 1, 0, 0, 1, 0, 0, 0, 0, 0, 0, 0, 0, 0, 0, 0, 0, 0, 0, 0, 0, 0, 0, 7, 1, 0, 0, 1, 0, 0, 1, 0] from (show kPick lw_tbl [1262, 0, 0, 0, 0, 0, 1, 0, 2, 1, 0, 0, 1, 0, 0, 0, 0, 0, 0, 0, 0, 0, 0, 0, 0, 0, 0, 0, 0, 0, 0, 7, 1, 0, 0, 1, 0, 0, 1, 0] = wk_21 from rfl) ▸ h)
theorem tw_1264 : (.methodLink RX10 236 yX10_isIn : Cond) ∈ lw_tbl := wk_21_in _ (List.mem_of_getElem? (i := 2) rfl)
theorem tw_1265 : (.static yX10_isIn : Cond) ∈ lw_tbl := wk_21_in _ (List.mem_of_getElem? (i := 3) rfl)
theorem tw_1266 : (.code yX10_isIn cX10_isIn 3 (some .boolean) : Cond) ∈ lw_tbl := wk_21_in _ (List.mem_of_getElem? (i := 4) rfl)
theorem tw_1267 : (.methodLink RX10 240 yX10_goThrough : Cond) ∈ lw_tbl := wk_21_in _ (List.mem_of_getElem? (i := 5) rfl)
theorem tw_1269 : (.instanceMethod yX10_goThrough : Cond) ∈ lw_tbl := wk_21_in _ (List.mem_of_getElem? (i := 6) rfl)
theorem tw_1270 : (.code yX10_goThrough cX10_goThrough 6 none : Cond) ∈ lw_tbl := wk_21_in _ (List.mem_of_getElem? (i := 7) rfl)
theorem tw_1273 : (.methodLink RX10 233 yX10_clause : Cond) ∈ lw_tbl := wk_21_in _ (List.mem_of_getElem? (i := 8) rfl)
theorem tw_1275 : (.instanceMethod yX10_clause : Cond) ∈ lw_tbl := wk_21_in _ (List.mem_of_getElem? (i := 9) rfl)
theorem tw_1276 : (.code yX10_clause cX10_clause 5 none : Cond) ∈ lw_tbl := wk_21_in _ (List.mem_of_getElem? (i := 10) rfl)
theorem tw_1277 : (.methodLink RX10 160 yX10_look : Cond) ∈ lw_tbl := wk_21_in _ (List.mem_of_getElem? (i := 11) rfl)
theorem tw_1279 : (.instanceMethod yX10_look : Cond) ∈ lw_tbl := wk_21_in _ (List.mem_of_getElem? (i := 12) rfl)
theorem tw_1280 : (.code yX10_look cX10_look 1 (some .int) : Cond) ∈ lw_tbl := wk_21_in _ (List.mem_of_getElem? (i := 13) rfl)
theorem tw_1281 : (.methodLink RX10 176 yX10_isAmong : Cond) ∈ lw_tbl := wk_21_in _ (List.mem_of_getElem? (i := 14) rfl)
theorem tw_1282 : (.static yX10_isAmong : Cond) ∈ lw_tbl := wk_21_in _ (List.mem_of_getElem? (i := 15) rfl)
theorem tw_1283 : (.code yX10_isAmong cX10_isAmong 3 (some .boolean) : Cond) ∈ lw_tbl := wk_21_in _ (List.mem_of_getElem? (i := 16) rfl)
theorem tw_1284 : (.methodLink RX10 121 yJ0_length_8abf5 : Cond) ∈ lw_tbl := wk_21_in _ (List.mem_of_getElem? (i := 17) rfl)
theorem tw_1285 : (.methodLink RX10 127 yJ0_charAt_5068e : Cond) ∈ lw_tbl := wk_21_in _ (List.mem_of_getElem? (i := 18) rfl)
theorem tw_1286 : (.instanceMethod yJ0_charAt_5068e : Cond) ∈ lw_tbl := wk_21_in _ (List.mem_of_getElem? (i := 19) rfl)
theorem tw_1287 : (.selects RJ0 yJ0_charAt_5068e yJ0_charAt_5068e : Cond) ∈ lw_tbl := wk_21_in _ (List.mem_of_getElem? (i := 20) rfl)
theorem tw_1288 : (.code yJ0_charAt_5068e cJ0_charAt_5068e 2 (some .char) : Cond) ∈ lw_tbl := wk_21_in _ (List.mem_of_getElem? (i := 21) rfl)
theorem tw_1289 : (.methodLink RJ0 495 yJ1_charAt_3b067 : Cond) ∈ lw_tbl := wk_21_in _ (List.mem_of_getElem? (i := 22) rfl)
theorem tw_1290 : (.static yJ1_charAt_3b067 : Cond) ∈ lw_tbl := wk_21_in _ (List.mem_of_getElem? (i := 23) rfl)
theorem tw_1291 : (.code yJ1_charAt_3b067 cJ1_charAt_3b067 2 (some .char) : Cond) ∈ lw_tbl := wk_21_in _ (List.mem_of_getElem? (i := 24) rfl)
theorem tw_1292 : (.methodLink RJ1 9 yJ0_checkIndex_df160 : Cond) ∈ lw_tbl := wk_21_in _ (List.mem_of_getElem? (i := 25) rfl)
theorem tw_1293 : (.static yJ0_checkIndex_df160 : Cond) ∈ lw_tbl := wk_21_in _ (List.mem_of_getElem? (i := 26) rfl)
theorem tw_1294 : (.code yJ0_checkIndex_df160 cJ0_checkIndex_df160 2 none : Cond) ∈ lw_tbl := wk_21_in _ (List.mem_of_getElem? (i := 27) rfl)
theorem tw_1295 : (.methodLink RJ0 1059 yJ3_checkIndex_8e157 : Cond) ∈ lw_tbl := wk_21_in _ (List.mem_of_getElem? (i := 28) rfl)
theorem tw_1296 : (.static yJ3_checkIndex_8e157 : Cond) ∈ lw_tbl := wk_21_in _ (List.mem_of_getElem? (i := 29) rfl)
theorem tw_1297 : (.code yJ3_checkIndex_8e157 cJ3_checkIndex_8e157 3 (some .int) : Cond) ∈ lw_tbl := wk_21_in _ (List.mem_of_getElem? (i := 30) rfl)
theorem tw_1305 : (.methodLink RX10 156 yX10_fails : Cond) ∈ lw_tbl := wk_21_in _ (List.mem_of_getElem? (i := 31) rfl)
theorem tw_1307 : (.instanceMethod yX10_fails : Cond) ∈ lw_tbl := wk_21_in _ (List.mem_of_getElem? (i := 32) rfl)
theorem tw_1308 : (.code yX10_fails cX10_fails 1 (some .boolean) : Cond) ∈ lw_tbl := wk_21_in _ (List.mem_of_getElem? (i := 33) rfl)
theorem tw_1309 : (.methodLink RX10 186 yX10_takes : Cond) ∈ lw_tbl := wk_21_in _ (List.mem_of_getElem? (i := 34) rfl)
theorem tw_1311 : (.instanceMethod yX10_takes : Cond) ∈ lw_tbl := wk_21_in _ (List.mem_of_getElem? (i := 35) rfl)
theorem tw_1312 : (.code yX10_takes cX10_takes 2 (some .boolean) : Cond) ∈ lw_tbl := wk_21_in _ (List.mem_of_getElem? (i := 36) rfl)
theorem tw_1313 : (.methodLink RX10 209 yX10_condition : Cond) ∈ lw_tbl := wk_21_in _ (List.mem_of_getElem? (i := 37) rfl)
theorem tw_1315 : (.instanceMethod yX10_condition : Cond) ∈ lw_tbl := wk_21_in _ (List.mem_of_getElem? (i := 38) rfl)
theorem tw_1316 : (.code yX10_condition cX10_condition 5 (some .boolean) : Cond) ∈ lw_tbl := wk_21_in _ (List.mem_of_getElem? (i := 39) rfl)
def wk_22 : List Cond := [.methodLink RX10 216 yX10_part, .instanceMethod yX10_part, .code yX10_part cX10_part 5 (some .boolean), .methodLink RX10 213 yX10_compares, .instanceMethod yX10_compares, .code yX10_compares cX10_compares 6 (some .boolean), .methodLink RX10 183 yX10_sum, .instanceMethod yX10_sum, .code yX10_sum cX10_sum 5 (some .int), .methodLink RX10 200 yX10_term, .instanceMethod yX10_term, .code yX10_term cX10_term 5 (some .int), .methodLink RX10 193 yX10_atom, .instanceMethod yX10_atom, .code yX10_atom cX10_atom 4 (some .int), .methodLink RX10 180 yX10_goesIn, .instanceMethod yX10_goesIn, .code yX10_goesIn cX10_goesIn 1 (some .boolean), .methodLink RX10 190 yX10_isDigit, .instanceMethod yX10_isDigit, .code yX10_isDigit cX10_isDigit 1 (some .boolean), .methodLink RX10 196 yX10_within, .static yX10_within, .code yX10_within cX10_within 2 (some .int), .constantLong RX10 163 (-1000000), .constantLong RX10 165 (1000000), .methodLink RX10 167 Lib.MathLoose.min_long.x, .static Lib.MathLoose.min_long.x, .code Lib.MathLoose.min_long.x Lib.MathLoose.min_long.code 4 (some .long), .methodLink RX10 173 Lib.MathLoose.max_long.x, .static Lib.MathLoose.max_long.x, .code Lib.MathLoose.max_long.x Lib.MathLoose.max_long.code 4 (some .long), .methodLink RX10 203 yX10_isSign, .static yX10_isSign, .code yX10_isSign cX10_isSign 1 (some .boolean), .methodLink RX10 206 yX10_unit, .instanceMethod yX10_unit, .code yX10_unit cX10_unit 3 (some .boolean), .methodLink RL 37 yX10_text, .instanceMethod yX10_text]
set_option maxRecDepth 1000000 in
theorem wk_22_in : ∀ w ∈ wk_22, w ∈ lw_tbl := fun w h => kPick_in lw_tbl [1317, 1, 0, 0, 1, 0, 0, 1, 0, 0, 1, 0, 0, 1, 0, 0, 1, 0, 0, 1, 0, 0, 0, 0, 0, 0, 0, 0, 0, 0, 0, 0, 0, 0, 0, 0, 1, 0, 0, 0] w (show w ∈ kPick lw_tbl [1317, 1, 0, 0, 1, 0, 0, 1, 0, 0, 1, 0, 0, 1, 0, 0, 1, 0, 0, 1, 0, 0, 0, 0, 0, 0, 0, 0, 0, 0, 0, 0, 0, 0, 0, 0, 1, 0, 0, 0] from (show kPick lw_tbl [1317, 1, 0, 0, 1, 0, 0, 1, 0, 0, 1, 0, 0, 1, 0, 0, 1, 0, 0, 1, 0, 0, 0, 0, 0, 0, 0, 0, 0, 0, 0, 0, 0, 0, 0, 0, 1, 0, 0, 0] = wk_22 from rfl) ▸ h)
theorem tw_1317 : (.methodLink RX10 216 yX10_part : Cond) ∈ lw_tbl := wk_22_in _ (List.mem_of_getElem? (i := 0) rfl)
theorem tw_1319 : (.instanceMethod yX10_part : Cond) ∈ lw_tbl := wk_22_in _ (List.mem_of_getElem? (i := 1) rfl)
theorem tw_1320 : (.code yX10_part cX10_part 5 (some .boolean) : Cond) ∈ lw_tbl := wk_22_in _ (List.mem_of_getElem? (i := 2) rfl)
theorem tw_1321 : (.methodLink RX10 213 yX10_compares : Cond) ∈ lw_tbl := wk_22_in _ (List.mem_of_getElem? (i := 3) rfl)
theorem tw_1323 : (.instanceMethod yX10_compares : Cond) ∈ lw_tbl := wk_22_in _ (List.mem_of_getElem? (i := 4) rfl)
theorem tw_1324 : (.code yX10_compares cX10_compares 6 (some .boolean) : Cond) ∈ lw_tbl := wk_22_in _ (List.mem_of_getElem? (i := 5) rfl)
theorem tw_1325 : (.methodLink RX10 183 yX10_sum : Cond) ∈ lw_tbl := wk_22_in _ (List.mem_of_getElem? (i := 6) rfl)
theorem tw_1327 : (.instanceMethod yX10_sum : Cond) ∈ lw_tbl := wk_22_in _ (List.mem_of_getElem? (i := 7) rfl)
theorem tw_1328 : (.code yX10_sum cX10_sum 5 (some .int) : Cond) ∈ lw_tbl := wk_22_in _ (List.mem_of_getElem? (i := 8) rfl)
theorem tw_1329 : (.methodLink RX10 200 yX10_term : Cond) ∈ lw_tbl := wk_22_in _ (List.mem_of_getElem? (i := 9) rfl)
theorem tw_1331 : (.instanceMethod yX10_term : Cond) ∈ lw_tbl := wk_22_in _ (List.mem_of_getElem? (i := 10) rfl)
theorem tw_1332 : (.code yX10_term cX10_term 5 (some .int) : Cond) ∈ lw_tbl := wk_22_in _ (List.mem_of_getElem? (i := 11) rfl)
theorem tw_1333 : (.methodLink RX10 193 yX10_atom : Cond) ∈ lw_tbl := wk_22_in _ (List.mem_of_getElem? (i := 12) rfl)
theorem tw_1335 : (.instanceMethod yX10_atom : Cond) ∈ lw_tbl := wk_22_in _ (List.mem_of_getElem? (i := 13) rfl)
theorem tw_1336 : (.code yX10_atom cX10_atom 4 (some .int) : Cond) ∈ lw_tbl := wk_22_in _ (List.mem_of_getElem? (i := 14) rfl)
theorem tw_1337 : (.methodLink RX10 180 yX10_goesIn : Cond) ∈ lw_tbl := wk_22_in _ (List.mem_of_getElem? (i := 15) rfl)
theorem tw_1339 : (.instanceMethod yX10_goesIn : Cond) ∈ lw_tbl := wk_22_in _ (List.mem_of_getElem? (i := 16) rfl)
theorem tw_1340 : (.code yX10_goesIn cX10_goesIn 1 (some .boolean) : Cond) ∈ lw_tbl := wk_22_in _ (List.mem_of_getElem? (i := 17) rfl)
theorem tw_1341 : (.methodLink RX10 190 yX10_isDigit : Cond) ∈ lw_tbl := wk_22_in _ (List.mem_of_getElem? (i := 18) rfl)
theorem tw_1343 : (.instanceMethod yX10_isDigit : Cond) ∈ lw_tbl := wk_22_in _ (List.mem_of_getElem? (i := 19) rfl)
theorem tw_1344 : (.code yX10_isDigit cX10_isDigit 1 (some .boolean) : Cond) ∈ lw_tbl := wk_22_in _ (List.mem_of_getElem? (i := 20) rfl)
theorem tw_1345 : (.methodLink RX10 196 yX10_within : Cond) ∈ lw_tbl := wk_22_in _ (List.mem_of_getElem? (i := 21) rfl)
theorem tw_1346 : (.static yX10_within : Cond) ∈ lw_tbl := wk_22_in _ (List.mem_of_getElem? (i := 22) rfl)
theorem tw_1347 : (.code yX10_within cX10_within 2 (some .int) : Cond) ∈ lw_tbl := wk_22_in _ (List.mem_of_getElem? (i := 23) rfl)
theorem tw_1348 : (.constantLong RX10 163 (-1000000) : Cond) ∈ lw_tbl := wk_22_in _ (List.mem_of_getElem? (i := 24) rfl)
theorem tw_1349 : (.constantLong RX10 165 (1000000) : Cond) ∈ lw_tbl := wk_22_in _ (List.mem_of_getElem? (i := 25) rfl)
theorem tw_1350 : (.methodLink RX10 167 Lib.MathLoose.min_long.x : Cond) ∈ lw_tbl := wk_22_in _ (List.mem_of_getElem? (i := 26) rfl)
theorem tw_1351 : (.static Lib.MathLoose.min_long.x : Cond) ∈ lw_tbl := wk_22_in _ (List.mem_of_getElem? (i := 27) rfl)
theorem tw_1352 : (.code Lib.MathLoose.min_long.x Lib.MathLoose.min_long.code 4 (some .long) : Cond) ∈ lw_tbl := wk_22_in _ (List.mem_of_getElem? (i := 28) rfl)
theorem tw_1353 : (.methodLink RX10 173 Lib.MathLoose.max_long.x : Cond) ∈ lw_tbl := wk_22_in _ (List.mem_of_getElem? (i := 29) rfl)
theorem tw_1354 : (.static Lib.MathLoose.max_long.x : Cond) ∈ lw_tbl := wk_22_in _ (List.mem_of_getElem? (i := 30) rfl)
theorem tw_1355 : (.code Lib.MathLoose.max_long.x Lib.MathLoose.max_long.code 4 (some .long) : Cond) ∈ lw_tbl := wk_22_in _ (List.mem_of_getElem? (i := 31) rfl)
theorem tw_1356 : (.methodLink RX10 203 yX10_isSign : Cond) ∈ lw_tbl := wk_22_in _ (List.mem_of_getElem? (i := 32) rfl)
theorem tw_1357 : (.static yX10_isSign : Cond) ∈ lw_tbl := wk_22_in _ (List.mem_of_getElem? (i := 33) rfl)
theorem tw_1358 : (.code yX10_isSign cX10_isSign 1 (some .boolean) : Cond) ∈ lw_tbl := wk_22_in _ (List.mem_of_getElem? (i := 34) rfl)
theorem tw_1359 : (.methodLink RX10 206 yX10_unit : Cond) ∈ lw_tbl := wk_22_in _ (List.mem_of_getElem? (i := 35) rfl)
theorem tw_1361 : (.instanceMethod yX10_unit : Cond) ∈ lw_tbl := wk_22_in _ (List.mem_of_getElem? (i := 36) rfl)
theorem tw_1362 : (.code yX10_unit cX10_unit 3 (some .boolean) : Cond) ∈ lw_tbl := wk_22_in _ (List.mem_of_getElem? (i := 37) rfl)
def wk_23 : List Cond := [.selects RX10 yX10_text yX10_text, .code yX10_text cX10_text 4 (some .int), .methodLink RL 42 yX10_person, .instanceMethod yX10_person, .selects RX10 yX10_person yX10_person, .code yX10_person cX10_person 5 (some .int), .methodLink RL 47 yX10_know, .instanceMethod yX10_know, .selects RX10 yX10_know yX10_know, .code yX10_know cX10_know 3 (some .boolean), .methodLink RX10 253 yX10_isPerson, .instanceMethod yX10_isPerson, .code yX10_isPerson cX10_isPerson 2 (some .boolean), .methodLink RL 51 yX10_word, .instanceMethod yX10_word, .selects RX10 yX10_word yX10_word, .code yX10_word cX10_word 2 (some .int), .methodLink RL 57 yX10_worth, .instanceMethod yX10_worth, .selects RX10 yX10_worth yX10_worth, .code yX10_worth cX10_worth 4 (some .int), .methodLink RX10 311 yX10_isLaw, .instanceMethod yX10_isLaw, .code yX10_isLaw cX10_isLaw 2 (some .boolean), .methodLink RX10 314 yX10_everybody, .instanceMethod yX10_everybody, .code yX10_everybody cX10_everybody 1 (some .int), .methodLink RX10 303 yX10_begin, .instanceMethod yX10_begin, .code yX10_begin cX10_begin 5 none, .methodLink RX10 287 yX10_layLetters, .instanceMethod yX10_layLetters, .code yX10_layLetters cX10_layLetters 8 none, .methodLink RX10 269 yX10_has, .static yX10_has, .code yX10_has cX10_has 2 (some .boolean), .methodLink RX10 273 Lib.Math.max.name, .methodLink RX10 290 yX10_worthOf, .instanceMethod yX10_worthOf, .code yX10_worthOf cX10_worthOf 4 (some .int)]
set_option maxRecDepth 1000000 in
theorem wk_23_in : ∀ w ∈ wk_23, w ∈ lw_tbl := fun w h => kPick_in lw_tbl [1365, 0, 0, 0, 0, 0, 0, 0, 0, 0, 0, 1, 0, 0, 0, 0, 0, 0, 0, 0, 0, 0, 1, 0, 0, 1, 0, 0, 1, 0, 0, 1, 0, 0, 0, 0, 0, 0, 1, 0] w (show w ∈ kPick lw_tbl [1365, 0, 0, 0, 0, 0, 0, 0, 0, 0, 0, 1, 0, 0, 0, 0, 0, 0, 0, 0, 0, 0, 1, 0, 0, 1, 0, 0, 1, 0, 0, 1, 0, 0, 0, 0, 0, 0, 1, 0] from (show kPick lw_tbl [1365, 0, 0, 0, 0, 0, 0, 0, 0, 0, 0, 1, 0, 0, 0, 0, 0, 0, 0, 0, 0, 0, 1, 0, 0, 1, 0, 0, 1, 0, 0, 1, 0, 0, 0, 0, 0, 0, 1, 0] = wk_23 from rfl) ▸ h)
theorem tw_1375 : (.methodLink RX10 253 yX10_isPerson : Cond) ∈ lw_tbl := wk_23_in _ (List.mem_of_getElem? (i := 10) rfl)
theorem tw_1377 : (.instanceMethod yX10_isPerson : Cond) ∈ lw_tbl := wk_23_in _ (List.mem_of_getElem? (i := 11) rfl)
theorem tw_1378 : (.code yX10_isPerson cX10_isPerson 2 (some .boolean) : Cond) ∈ lw_tbl := wk_23_in _ (List.mem_of_getElem? (i := 12) rfl)
theorem tw_1379 : (.methodLink RL 51 yX10_word : Cond) ∈ lw_tbl := wk_23_in _ (List.mem_of_getElem? (i := 13) rfl)
theorem tw_1380 : (.instanceMethod yX10_word : Cond) ∈ lw_tbl := wk_23_in _ (List.mem_of_getElem? (i := 14) rfl)
theorem tw_1381 : (.selects RX10 yX10_word yX10_word : Cond) ∈ lw_tbl := wk_23_in _ (List.mem_of_getElem? (i := 15) rfl)
theorem tw_1382 : (.code yX10_word cX10_word 2 (some .int) : Cond) ∈ lw_tbl := wk_23_in _ (List.mem_of_getElem? (i := 16) rfl)
theorem tw_1383 : (.methodLink RL 57 yX10_worth : Cond) ∈ lw_tbl := wk_23_in _ (List.mem_of_getElem? (i := 17) rfl)
theorem tw_1384 : (.instanceMethod yX10_worth : Cond) ∈ lw_tbl := wk_23_in _ (List.mem_of_getElem? (i := 18) rfl)
theorem tw_1385 : (.selects RX10 yX10_worth yX10_worth : Cond) ∈ lw_tbl := wk_23_in _ (List.mem_of_getElem? (i := 19) rfl)
theorem tw_1386 : (.code yX10_worth cX10_worth 4 (some .int) : Cond) ∈ lw_tbl := wk_23_in _ (List.mem_of_getElem? (i := 20) rfl)
theorem tw_1387 : (.methodLink RX10 311 yX10_isLaw : Cond) ∈ lw_tbl := wk_23_in _ (List.mem_of_getElem? (i := 21) rfl)
theorem tw_1389 : (.instanceMethod yX10_isLaw : Cond) ∈ lw_tbl := wk_23_in _ (List.mem_of_getElem? (i := 22) rfl)
theorem tw_1390 : (.code yX10_isLaw cX10_isLaw 2 (some .boolean) : Cond) ∈ lw_tbl := wk_23_in _ (List.mem_of_getElem? (i := 23) rfl)
theorem tw_1391 : (.methodLink RX10 314 yX10_everybody : Cond) ∈ lw_tbl := wk_23_in _ (List.mem_of_getElem? (i := 24) rfl)
theorem tw_1393 : (.instanceMethod yX10_everybody : Cond) ∈ lw_tbl := wk_23_in _ (List.mem_of_getElem? (i := 25) rfl)
theorem tw_1394 : (.code yX10_everybody cX10_everybody 1 (some .int) : Cond) ∈ lw_tbl := wk_23_in _ (List.mem_of_getElem? (i := 26) rfl)
theorem tw_1395 : (.methodLink RX10 303 yX10_begin : Cond) ∈ lw_tbl := wk_23_in _ (List.mem_of_getElem? (i := 27) rfl)
theorem tw_1397 : (.instanceMethod yX10_begin : Cond) ∈ lw_tbl := wk_23_in _ (List.mem_of_getElem? (i := 28) rfl)
theorem tw_1398 : (.code yX10_begin cX10_begin 5 none : Cond) ∈ lw_tbl := wk_23_in _ (List.mem_of_getElem? (i := 29) rfl)
theorem tw_1399 : (.methodLink RX10 287 yX10_layLetters : Cond) ∈ lw_tbl := wk_23_in _ (List.mem_of_getElem? (i := 30) rfl)
theorem tw_1401 : (.instanceMethod yX10_layLetters : Cond) ∈ lw_tbl := wk_23_in _ (List.mem_of_getElem? (i := 31) rfl)
theorem tw_1402 : (.code yX10_layLetters cX10_layLetters 8 none : Cond) ∈ lw_tbl := wk_23_in _ (List.mem_of_getElem? (i := 32) rfl)
theorem tw_1403 : (.methodLink RX10 269 yX10_has : Cond) ∈ lw_tbl := wk_23_in _ (List.mem_of_getElem? (i := 33) rfl)
theorem tw_1404 : (.static yX10_has : Cond) ∈ lw_tbl := wk_23_in _ (List.mem_of_getElem? (i := 34) rfl)
theorem tw_1405 : (.code yX10_has cX10_has 2 (some .boolean) : Cond) ∈ lw_tbl := wk_23_in _ (List.mem_of_getElem? (i := 35) rfl)
theorem tw_1406 : (.methodLink RX10 273 Lib.Math.max.name : Cond) ∈ lw_tbl := wk_23_in _ (List.mem_of_getElem? (i := 36) rfl)
theorem tw_1407 : (.methodLink RX10 290 yX10_worthOf : Cond) ∈ lw_tbl := wk_23_in _ (List.mem_of_getElem? (i := 37) rfl)
theorem tw_1409 : (.instanceMethod yX10_worthOf : Cond) ∈ lw_tbl := wk_23_in _ (List.mem_of_getElem? (i := 38) rfl)
theorem tw_1410 : (.code yX10_worthOf cX10_worthOf 4 (some .int) : Cond) ∈ lw_tbl := wk_23_in _ (List.mem_of_getElem? (i := 39) rfl)
def wk_24 : List Cond := [.methodLink RL 68 yX10_run, .instanceMethod yX10_run, .selects RX10 yX10_run yX10_run, .code yX10_run cX10_run 7 (some .int), .methodLink RX10 317 yX10_runOf, .instanceMethod yX10_runOf, .code yX10_runOf cX10_runOf 6 none, .methodLink RX10 307 yX10_goOn, .instanceMethod yX10_goOn, .code yX10_goOn cX10_goOn 3 none, .methodLink RX10 300 yX10_goesBy, .instanceMethod yX10_goesBy, .code yX10_goesBy cX10_goesBy 4 none, .methodLink RX10 284 yX10_isFree, .instanceMethod yX10_isFree, .code yX10_isFree cX10_isFree 2 (some .boolean), .methodLink RX10 294 yX10_held, .static yX10_held, .code yX10_held cX10_held 1 (some .int), .methodLink RX10 276 Lib.Math.min.name, .methodLink RX10 297 yX10_isChanced, .instanceMethod yX10_isChanced, .code yX10_isChanced cX10_isChanced 2 (some .boolean), .constantLong RX10 278 (6364136223846793005), .constantLong RX10 280 (1442695040888963407), .constantLong RX10 282 (100), .methodLink RL 73 yX10_all, .instanceMethod yX10_all, .selects RX10 yX10_all yX10_all, .code yX10_all cX10_all 8 (some .int), .methodLink RL 77 yX10_without, .instanceMethod yX10_without, .selects RX10 yX10_without yX10_without, .code yX10_without cX10_without 6 (some .int), .methodLink RX10 321 yX10_endOf, .instanceMethod yX10_endOf, .code yX10_endOf cX10_endOf 6 (some .int), .methodLink RL 82 yX10_did, .instanceMethod yX10_did, .selects RX10 yX10_did yX10_did]
set_option maxRecDepth 1000000 in
theorem wk_24_in : ∀ w ∈ wk_24, w ∈ lw_tbl := fun w h => kPick_in lw_tbl [1411, 0, 0, 0, 0, 1, 0, 0, 1, 0, 0, 1, 0, 0, 1, 0, 0, 0, 0, 0, 0, 1, 0, 0, 0, 0, 0, 0, 0, 0, 0, 0, 0, 0, 0, 1, 0, 0, 0, 0] w (show w ∈ kPick lw_tbl [1411, 0, 0, 0, 0, 1, 0, 0, 1, 0, 0, 1, 0, 0, 1, 0, 0, 0, 0, 0, 0, 1, 0, 0, 0, 0, 0, 0, 0, 0, 0, 0, 0, 0, 0, 1, 0, 0, 0, 0] from (show kPick lw_tbl [1411, 0, 0, 0, 0, 1, 0, 0, 1, 0, 0, 1, 0, 0, 1, 0, 0, 0, 0, 0, 0, 1, 0, 0, 0, 0, 0, 0, 0, 0, 0, 0, 0, 0, 0, 1, 0, 0, 0, 0] = wk_24 from rfl) ▸ h)
theorem tw_1411 : (.methodLink RL 68 yX10_run : Cond) ∈ lw_tbl := wk_24_in _ (List.mem_of_getElem? (i := 0) rfl)
theorem tw_1412 : (.instanceMethod yX10_run : Cond) ∈ lw_tbl := wk_24_in _ (List.mem_of_getElem? (i := 1) rfl)
theorem tw_1413 : (.selects RX10 yX10_run yX10_run : Cond) ∈ lw_tbl := wk_24_in _ (List.mem_of_getElem? (i := 2) rfl)
theorem tw_1414 : (.code yX10_run cX10_run 7 (some .int) : Cond) ∈ lw_tbl := wk_24_in _ (List.mem_of_getElem? (i := 3) rfl)
theorem tw_1415 : (.methodLink RX10 317 yX10_runOf : Cond) ∈ lw_tbl := wk_24_in _ (List.mem_of_getElem? (i := 4) rfl)
theorem tw_1417 : (.instanceMethod yX10_runOf : Cond) ∈ lw_tbl := wk_24_in _ (List.mem_of_getElem? (i := 5) rfl)
theorem tw_1418 : (.code yX10_runOf cX10_runOf 6 none : Cond) ∈ lw_tbl := wk_24_in _ (List.mem_of_getElem? (i := 6) rfl)
theorem tw_1419 : (.methodLink RX10 307 yX10_goOn : Cond) ∈ lw_tbl := wk_24_in _ (List.mem_of_getElem? (i := 7) rfl)
theorem tw_1421 : (.instanceMethod yX10_goOn : Cond) ∈ lw_tbl := wk_24_in _ (List.mem_of_getElem? (i := 8) rfl)
theorem tw_1422 : (.code yX10_goOn cX10_goOn 3 none : Cond) ∈ lw_tbl := wk_24_in _ (List.mem_of_getElem? (i := 9) rfl)
theorem tw_1423 : (.methodLink RX10 300 yX10_goesBy : Cond) ∈ lw_tbl := wk_24_in _ (List.mem_of_getElem? (i := 10) rfl)
theorem tw_1425 : (.instanceMethod yX10_goesBy : Cond) ∈ lw_tbl := wk_24_in _ (List.mem_of_getElem? (i := 11) rfl)
theorem tw_1426 : (.code yX10_goesBy cX10_goesBy 4 none : Cond) ∈ lw_tbl := wk_24_in _ (List.mem_of_getElem? (i := 12) rfl)
theorem tw_1427 : (.methodLink RX10 284 yX10_isFree : Cond) ∈ lw_tbl := wk_24_in _ (List.mem_of_getElem? (i := 13) rfl)
theorem tw_1429 : (.instanceMethod yX10_isFree : Cond) ∈ lw_tbl := wk_24_in _ (List.mem_of_getElem? (i := 14) rfl)
theorem tw_1430 : (.code yX10_isFree cX10_isFree 2 (some .boolean) : Cond) ∈ lw_tbl := wk_24_in _ (List.mem_of_getElem? (i := 15) rfl)
theorem tw_1431 : (.methodLink RX10 294 yX10_held : Cond) ∈ lw_tbl := wk_24_in _ (List.mem_of_getElem? (i := 16) rfl)
theorem tw_1432 : (.static yX10_held : Cond) ∈ lw_tbl := wk_24_in _ (List.mem_of_getElem? (i := 17) rfl)
theorem tw_1433 : (.code yX10_held cX10_held 1 (some .int) : Cond) ∈ lw_tbl := wk_24_in _ (List.mem_of_getElem? (i := 18) rfl)
theorem tw_1434 : (.methodLink RX10 276 Lib.Math.min.name : Cond) ∈ lw_tbl := wk_24_in _ (List.mem_of_getElem? (i := 19) rfl)
theorem tw_1435 : (.methodLink RX10 297 yX10_isChanced : Cond) ∈ lw_tbl := wk_24_in _ (List.mem_of_getElem? (i := 20) rfl)
theorem tw_1437 : (.instanceMethod yX10_isChanced : Cond) ∈ lw_tbl := wk_24_in _ (List.mem_of_getElem? (i := 21) rfl)
theorem tw_1438 : (.code yX10_isChanced cX10_isChanced 2 (some .boolean) : Cond) ∈ lw_tbl := wk_24_in _ (List.mem_of_getElem? (i := 22) rfl)
theorem tw_1439 : (.constantLong RX10 278 (6364136223846793005) : Cond) ∈ lw_tbl := wk_24_in _ (List.mem_of_getElem? (i := 23) rfl)
theorem tw_1440 : (.constantLong RX10 280 (1442695040888963407) : Cond) ∈ lw_tbl := wk_24_in _ (List.mem_of_getElem? (i := 24) rfl)
theorem tw_1441 : (.constantLong RX10 282 (100) : Cond) ∈ lw_tbl := wk_24_in _ (List.mem_of_getElem? (i := 25) rfl)
def wk_27 : List Cond := [.methodLink RL 134 yX10_help, .instanceMethod yX10_help, .selects RX10 yX10_help yX10_help, .code yX10_help cX10_help 9 (some .int), .methodLink RX10 380 yX10_isBefore, .instanceMethod yX10_isBefore, .code yX10_isBefore cX10_isBefore 5 (some .boolean), .methodLink RX10 370 yX10_costOf, .instanceMethod yX10_costOf, .code yX10_costOf cX10_costOf 4 (some .int), .methodLink RX10 373 yJ6_bitCount_0f7a4, .methodLink RX10 377 yX10_isLower, .static yX10_isLower, .code yX10_isLower cX10_isLower 3 (some .boolean), .methodLink RX10 383 yX10_helps, .instanceMethod yX10_helps, .code yX10_helps cX10_helps 8 (some .boolean), .methodLink RL 139 yX10_lookers, .instanceMethod yX10_lookers, .selects RX10 yX10_lookers yX10_lookers, .code yX10_lookers cX10_lookers 8 (some .int), .methodLink RX10 387 yX10_holders, .instanceMethod yX10_holders, .code yX10_holders cX10_holders 7 (some .int), .methodLink RL 143 yX10_count, .instanceMethod yX10_count, .selects RX10 yX10_count yX10_count, .code yX10_count cX10_count 2 (some .int), .constantLong RL 62 (4294967295), .fieldLink RJ0 15 "java/lang/String" "coder" "B", .fieldLink RJ0 9 "java/lang/String" "value" "[B"]
set_option maxRecDepth 1000000 in
theorem wk_27_in : ∀ w ∈ wk_27, w ∈ lw_tbl := fun w h => kPick_in lw_tbl [1545, 0, 0, 0, 0, 1, 0, 0, 1, 0, 0, 0, 0, 0, 0, 1, 0, 0, 0, 0, 0, 0, 1, 0, 0, 0, 0, 0, 0, 15, 0] w (show w ∈ kPick lw_tbl [1545, 0, 0, 0, 0, 1, 0, 0, 1, 0, 0, 0, 0, 0, 0, 1, 0, 0, 0, 0, 0, 0, 1, 0, 0, 0, 0, 0, 0, 15, 0] from (show kPick lw_tbl [1545, 0, 0, 0, 0, 1, 0, 0, 1, 0, 0, 0, 0, 0, 0, 1, 0, 0, 0, 0, 0, 0, 1, 0, 0, 0, 0, 0, 0, 15, 0] = wk_27 from rfl) ▸ h)
theorem tw_1577 : (.constantLong RL 62 (4294967295) : Cond) ∈ lw_tbl := wk_27_in _ (List.mem_of_getElem? (i := 28) rfl)
theorem tw_1593 : (.fieldLink RJ0 15 "java/lang/String" "coder" "B" : Cond) ∈ lw_tbl := wk_27_in _ (List.mem_of_getElem? (i := 29) rfl)
theorem tw_1594 : (.fieldLink RJ0 9 "java/lang/String" "value" "[B" : Cond) ∈ lw_tbl := wk_27_in _ (List.mem_of_getElem? (i := 30) rfl)
theorem in_wsX90 : ∀ w ∈ wsX90, w ∈ lw_tbl := kPl [344, 346, 348, 350, 352, 354, 356, 358, 360, 362] (by decide +kernel)
theorem in_wsX100 : ∀ w ∈ wsX100, w ∈ lw_tbl := kPl [1135, 1137, 1139, 1141, 1143, 1145, 1147, 1149, 1151, 1153, 1155, 1157, 1159, 1161, 1163, 1165, 1167, 1169, 1171, 1173, 1175, 1177, 1179, 1181, 1183, 1185, 1187, 1189, 1191, 1193, 1195, 1197, 1199, 1201, 1203, 1205, 1207, 1209, 1211, 1213, 1215, 1217, 1219, 1221, 1223, 1225, 1227, 1229, 1231, 1233, 1235, 1237] (by decide +kernel)
theorem in_w_s_t_latin : ∀ w ∈ w_s_t_latin, w ∈ lw_tbl := List.forall_mem_cons.mpr ⟨tw_429, (List.forall_mem_append.mpr ⟨(List.forall_mem_cons.mpr ⟨tw_430, (List.forall_mem_cons.mpr ⟨tw_1593, (fun _ h => absurd h List.not_mem_nil)⟩)⟩), (fun _ h => absurd h List.not_mem_nil)⟩)⟩
theorem in_w_s_t_coder : ∀ w ∈ w_s_t_coder, w ∈ lw_tbl := List.forall_mem_cons.mpr ⟨tw_439, (List.forall_mem_append.mpr ⟨(List.forall_mem_cons.mpr ⟨tw_430, (List.forall_mem_cons.mpr ⟨tw_1593, (fun _ h => absurd h List.not_mem_nil)⟩)⟩), (fun _ h => absurd h List.not_mem_nil)⟩)⟩
theorem in_w_s_t_length : ∀ w ∈ w_s_t_length, w ∈ lw_tbl := List.forall_mem_cons.mpr ⟨tw_435, (List.forall_mem_append.mpr ⟨(List.forall_mem_cons.mpr ⟨tw_1594, (List.forall_mem_cons.mpr ⟨tw_86, (List.forall_mem_cons.mpr ⟨tw_438, (List.forall_mem_cons.mpr ⟨tw_437, (List.forall_mem_cons.mpr ⟨tw_436, (fun _ h => absurd h List.not_mem_nil)⟩)⟩)⟩)⟩)⟩), in_w_s_t_coder⟩)⟩
theorem in_w_s_isIn10 : ∀ w ∈ w_s_isIn10, w ∈ lw_tbl := List.forall_mem_cons.mpr ⟨tw_1266, (fun _ h => absurd h List.not_mem_nil)⟩
theorem in_w_s_look10x : ∀ w ∈ w_s_look10x, w ∈ lw_tbl := List.forall_mem_cons.mpr ⟨tw_1280, (List.forall_mem_append.mpr ⟨(List.forall_mem_cons.mpr ⟨tw_1094, (List.forall_mem_cons.mpr ⟨tw_1093, (List.forall_mem_cons.mpr ⟨tw_1088, (List.forall_mem_cons.mpr ⟨tw_1092, (fun _ h => absurd h List.not_mem_nil)⟩)⟩)⟩)⟩), in_wsX100⟩)⟩
theorem in_w_s_chk3n : ∀ w ∈ w_s_chk3n, w ∈ lw_tbl := List.forall_mem_cons.mpr ⟨tw_1297, (fun _ h => absurd h List.not_mem_nil)⟩
theorem in_w_s_chk3r : ∀ w ∈ w_s_chk3r, w ∈ lw_tbl := List.forall_mem_cons.mpr ⟨tw_1297, (fun _ h => absurd h List.not_mem_nil)⟩
theorem in_w_s_t_chk0 : ∀ w ∈ w_s_t_chk0, w ∈ lw_tbl := List.forall_mem_cons.mpr ⟨tw_1294, (List.forall_mem_append.mpr ⟨(List.forall_mem_cons.mpr ⟨tw_473, (List.forall_mem_cons.mpr ⟨tw_90, (List.forall_mem_cons.mpr ⟨tw_1296, (List.forall_mem_cons.mpr ⟨tw_1295, (fun _ h => absurd h List.not_mem_nil)⟩)⟩)⟩)⟩), (List.forall_mem_append.mpr ⟨in_w_s_chk3n, in_w_s_chk3r⟩)⟩)⟩
theorem in_w_s_t_char1x : ∀ w ∈ w_s_t_char1x, w ∈ lw_tbl := List.forall_mem_cons.mpr ⟨tw_1291, (List.forall_mem_append.mpr ⟨(List.forall_mem_cons.mpr ⟨tw_86, (List.forall_mem_cons.mpr ⟨tw_1293, (List.forall_mem_cons.mpr ⟨tw_1292, (fun _ h => absurd h List.not_mem_nil)⟩)⟩)⟩), in_w_s_t_chk0⟩)⟩
theorem in_w_s_t_charAtx : ∀ w ∈ w_s_t_charAtx, w ∈ lw_tbl := List.forall_mem_cons.mpr ⟨tw_1288, (List.forall_mem_append.mpr ⟨(List.forall_mem_cons.mpr ⟨tw_86, (List.forall_mem_cons.mpr ⟨tw_428, (List.forall_mem_cons.mpr ⟨tw_427, (List.forall_mem_cons.mpr ⟨tw_426, (List.forall_mem_cons.mpr ⟨tw_1594, (List.forall_mem_cons.mpr ⟨tw_87, (List.forall_mem_cons.mpr ⟨tw_1290, (List.forall_mem_cons.mpr ⟨tw_1289, (fun _ h => absurd h List.not_mem_nil)⟩)⟩)⟩)⟩)⟩)⟩)⟩)⟩), (List.forall_mem_append.mpr ⟨in_w_s_t_latin, in_w_s_t_char1x⟩)⟩)⟩
theorem in_w_s_among10x : ∀ w ∈ w_s_among10x, w ∈ lw_tbl := List.forall_mem_cons.mpr ⟨tw_1283, (List.forall_mem_append.mpr ⟨(List.forall_mem_cons.mpr ⟨tw_86, (List.forall_mem_cons.mpr ⟨tw_434, (List.forall_mem_cons.mpr ⟨tw_433, (List.forall_mem_cons.mpr ⟨tw_1284, (List.forall_mem_cons.mpr ⟨tw_1287, (List.forall_mem_cons.mpr ⟨tw_1286, (List.forall_mem_cons.mpr ⟨tw_1285, (fun _ h => absurd h List.not_mem_nil)⟩)⟩)⟩)⟩)⟩)⟩)⟩), (List.forall_mem_append.mpr ⟨in_w_s_t_length, in_w_s_t_charAtx⟩)⟩)⟩
theorem in_w_s_isDigit10x : ∀ w ∈ w_s_isDigit10x, w ∈ lw_tbl := List.forall_mem_cons.mpr ⟨tw_1344, (List.forall_mem_append.mpr ⟨(List.forall_mem_cons.mpr ⟨tw_1094, (List.forall_mem_cons.mpr ⟨tw_1093, (List.forall_mem_cons.mpr ⟨tw_1088, (List.forall_mem_cons.mpr ⟨tw_1092, (fun _ h => absurd h List.not_mem_nil)⟩)⟩)⟩)⟩), in_wsX100⟩)⟩
theorem in_w_s_fails10x : ∀ w ∈ w_s_fails10x, w ∈ lw_tbl := List.forall_mem_cons.mpr ⟨tw_1308, (List.forall_mem_append.mpr ⟨(List.forall_mem_cons.mpr ⟨tw_1095, (List.forall_mem_cons.mpr ⟨tw_1094, (fun _ h => absurd h List.not_mem_nil)⟩)⟩), in_wsX100⟩)⟩
theorem in_w_s_goesIn10x_6 : ∀ w ∈ w_s_goesIn10x_6, w ∈ lw_tbl := List.forall_mem_cons.mpr ⟨tw_1340, (List.forall_mem_append.mpr ⟨(List.forall_mem_cons.mpr ⟨tw_1096, (List.forall_mem_cons.mpr ⟨tw_85, (List.forall_mem_cons.mpr ⟨tw_39, (List.forall_mem_cons.mpr ⟨tw_1307, (List.forall_mem_cons.mpr ⟨tw_1305, (fun _ h => absurd h List.not_mem_nil)⟩)⟩)⟩)⟩)⟩), (List.forall_mem_append.mpr ⟨in_wsX100, in_w_s_fails10x⟩)⟩)⟩
theorem in_w_s_within10x : ∀ w ∈ w_s_within10x, w ∈ lw_tbl := List.forall_mem_cons.mpr ⟨tw_1347, (List.forall_mem_append.mpr ⟨(List.forall_mem_cons.mpr ⟨tw_1348, (List.forall_mem_cons.mpr ⟨tw_1349, (List.forall_mem_cons.mpr ⟨tw_1350, (List.forall_mem_cons.mpr ⟨tw_1351, (List.forall_mem_cons.mpr ⟨tw_88, (List.forall_mem_cons.mpr ⟨tw_1352, (List.forall_mem_cons.mpr ⟨tw_1353, (List.forall_mem_cons.mpr ⟨tw_1354, (List.forall_mem_cons.mpr ⟨tw_1355, (fun _ h => absurd h List.not_mem_nil)⟩)⟩)⟩)⟩)⟩)⟩)⟩)⟩)⟩), (fun _ h => absurd h List.not_mem_nil)⟩)⟩
theorem in_w_s_isSign10x : ∀ w ∈ w_s_isSign10x, w ∈ lw_tbl := List.forall_mem_cons.mpr ⟨tw_1358, (fun _ h => absurd h List.not_mem_nil)⟩
theorem in_w_s_goesIn10_5 : ∀ w ∈ w_s_goesIn10_5, w ∈ lw_tbl := List.forall_mem_cons.mpr ⟨tw_1340, (List.forall_mem_append.mpr ⟨(List.forall_mem_cons.mpr ⟨tw_1096, (List.forall_mem_cons.mpr ⟨tw_1094, (fun _ h => absurd h List.not_mem_nil)⟩)⟩), in_wsX100⟩)⟩
theorem in_w_s_takes10x_93 : ∀ w ∈ w_s_takes10x_93, w ∈ lw_tbl := List.forall_mem_cons.mpr ⟨tw_1312, (List.forall_mem_append.mpr ⟨(List.forall_mem_cons.mpr ⟨tw_1095, (List.forall_mem_cons.mpr ⟨tw_85, (List.forall_mem_cons.mpr ⟨tw_38, (List.forall_mem_cons.mpr ⟨tw_1279, (List.forall_mem_cons.mpr ⟨tw_1277, (List.forall_mem_cons.mpr ⟨tw_1094, (List.forall_mem_cons.mpr ⟨tw_39, (List.forall_mem_cons.mpr ⟨tw_1307, (List.forall_mem_cons.mpr ⟨tw_1305, (fun _ h => absurd h List.not_mem_nil)⟩)⟩)⟩)⟩)⟩)⟩)⟩)⟩)⟩), (List.forall_mem_append.mpr ⟨in_wsX100, (List.forall_mem_append.mpr ⟨in_w_s_look10x, in_w_s_fails10x⟩)⟩)⟩)⟩
theorem in_w_s_fails10f : ∀ w ∈ w_s_fails10f, w ∈ lw_tbl := List.forall_mem_cons.mpr ⟨tw_1308, (List.forall_mem_append.mpr ⟨(List.forall_mem_cons.mpr ⟨tw_1095, (fun _ h => absurd h List.not_mem_nil)⟩), in_wsX100⟩)⟩
theorem in_w_s_takes10f : ∀ w ∈ w_s_takes10f, w ∈ lw_tbl := List.forall_mem_cons.mpr ⟨tw_1312, (List.forall_mem_append.mpr ⟨(List.forall_mem_cons.mpr ⟨tw_1095, (List.forall_mem_cons.mpr ⟨tw_85, (List.forall_mem_cons.mpr ⟨tw_39, (List.forall_mem_cons.mpr ⟨tw_1307, (List.forall_mem_cons.mpr ⟨tw_1305, (fun _ h => absurd h List.not_mem_nil)⟩)⟩)⟩)⟩)⟩), (List.forall_mem_append.mpr ⟨in_wsX100, in_w_s_fails10f⟩)⟩)⟩
theorem in_w_s_takes10x_41 : ∀ w ∈ w_s_takes10x_41, w ∈ lw_tbl := List.forall_mem_cons.mpr ⟨tw_1312, (List.forall_mem_append.mpr ⟨(List.forall_mem_cons.mpr ⟨tw_1095, (List.forall_mem_cons.mpr ⟨tw_85, (List.forall_mem_cons.mpr ⟨tw_38, (List.forall_mem_cons.mpr ⟨tw_1279, (List.forall_mem_cons.mpr ⟨tw_1277, (List.forall_mem_cons.mpr ⟨tw_1094, (List.forall_mem_cons.mpr ⟨tw_39, (List.forall_mem_cons.mpr ⟨tw_1307, (List.forall_mem_cons.mpr ⟨tw_1305, (fun _ h => absurd h List.not_mem_nil)⟩)⟩)⟩)⟩)⟩)⟩)⟩)⟩)⟩), (List.forall_mem_append.mpr ⟨in_wsX100, (List.forall_mem_append.mpr ⟨in_w_s_look10x, in_w_s_fails10x⟩)⟩)⟩)⟩
theorem in_w_s_goesIn10_4 : ∀ w ∈ w_s_goesIn10_4, w ∈ lw_tbl := List.forall_mem_cons.mpr ⟨tw_1340, (List.forall_mem_append.mpr ⟨(List.forall_mem_cons.mpr ⟨tw_1096, (List.forall_mem_cons.mpr ⟨tw_1094, (fun _ h => absurd h List.not_mem_nil)⟩)⟩), in_wsX100⟩)⟩
theorem in_w_s_goesIn10_3 : ∀ w ∈ w_s_goesIn10_3, w ∈ lw_tbl := List.forall_mem_cons.mpr ⟨tw_1340, (List.forall_mem_append.mpr ⟨(List.forall_mem_cons.mpr ⟨tw_1096, (List.forall_mem_cons.mpr ⟨tw_1094, (fun _ h => absurd h List.not_mem_nil)⟩)⟩), in_wsX100⟩)⟩
theorem in_w_s_goesIn10_2 : ∀ w ∈ w_s_goesIn10_2, w ∈ lw_tbl := List.forall_mem_cons.mpr ⟨tw_1340, (List.forall_mem_append.mpr ⟨(List.forall_mem_cons.mpr ⟨tw_1096, (List.forall_mem_cons.mpr ⟨tw_1094, (fun _ h => absurd h List.not_mem_nil)⟩)⟩), in_wsX100⟩)⟩
theorem in_w_s_goesIn10_1 : ∀ w ∈ w_s_goesIn10_1, w ∈ lw_tbl := List.forall_mem_cons.mpr ⟨tw_1340, (List.forall_mem_append.mpr ⟨(List.forall_mem_cons.mpr ⟨tw_1096, (List.forall_mem_cons.mpr ⟨tw_1094, (fun _ h => absurd h List.not_mem_nil)⟩)⟩), in_wsX100⟩)⟩
theorem in_w_s_goesIn10_0 : ∀ w ∈ w_s_goesIn10_0, w ∈ lw_tbl := List.forall_mem_cons.mpr ⟨tw_1340, (List.forall_mem_append.mpr ⟨(List.forall_mem_cons.mpr ⟨tw_1096, (List.forall_mem_cons.mpr ⟨tw_1094, (fun _ h => absurd h List.not_mem_nil)⟩)⟩), in_wsX100⟩)⟩
theorem in_w_s_takes10x_58 : ∀ w ∈ w_s_takes10x_58, w ∈ lw_tbl := List.forall_mem_cons.mpr ⟨tw_1312, (List.forall_mem_append.mpr ⟨(List.forall_mem_cons.mpr ⟨tw_1095, (List.forall_mem_cons.mpr ⟨tw_85, (List.forall_mem_cons.mpr ⟨tw_38, (List.forall_mem_cons.mpr ⟨tw_1279, (List.forall_mem_cons.mpr ⟨tw_1277, (List.forall_mem_cons.mpr ⟨tw_1094, (List.forall_mem_cons.mpr ⟨tw_39, (List.forall_mem_cons.mpr ⟨tw_1307, (List.forall_mem_cons.mpr ⟨tw_1305, (fun _ h => absurd h List.not_mem_nil)⟩)⟩)⟩)⟩)⟩)⟩)⟩)⟩)⟩), (List.forall_mem_append.mpr ⟨in_wsX100, (List.forall_mem_append.mpr ⟨in_w_s_look10x, in_w_s_fails10x⟩)⟩)⟩)⟩
theorem in_w_s_takes10x_63 : ∀ w ∈ w_s_takes10x_63, w ∈ lw_tbl := List.forall_mem_cons.mpr ⟨tw_1312, (List.forall_mem_append.mpr ⟨(List.forall_mem_cons.mpr ⟨tw_1095, (List.forall_mem_cons.mpr ⟨tw_85, (List.forall_mem_cons.mpr ⟨tw_38, (List.forall_mem_cons.mpr ⟨tw_1279, (List.forall_mem_cons.mpr ⟨tw_1277, (List.forall_mem_cons.mpr ⟨tw_1094, (List.forall_mem_cons.mpr ⟨tw_39, (List.forall_mem_cons.mpr ⟨tw_1307, (List.forall_mem_cons.mpr ⟨tw_1305, (fun _ h => absurd h List.not_mem_nil)⟩)⟩)⟩)⟩)⟩)⟩)⟩)⟩)⟩), (List.forall_mem_append.mpr ⟨in_wsX100, (List.forall_mem_append.mpr ⟨in_w_s_look10x, in_w_s_fails10x⟩)⟩)⟩)⟩
theorem in_wf_mq : ∀ w ∈ wf_mq, w ∈ lw_tbl := (List.forall_mem_append.mpr ⟨(List.forall_mem_cons.mpr ⟨tw_85, (List.forall_mem_cons.mpr ⟨tw_38, (List.forall_mem_cons.mpr ⟨tw_1279, (List.forall_mem_cons.mpr ⟨tw_1277, (List.forall_mem_cons.mpr ⟨tw_1100, (List.forall_mem_cons.mpr ⟨tw_1282, (List.forall_mem_cons.mpr ⟨tw_1281, (List.forall_mem_cons.mpr ⟨tw_48, (List.forall_mem_cons.mpr ⟨tw_1343, (List.forall_mem_cons.mpr ⟨tw_1341, (List.forall_mem_cons.mpr ⟨tw_1095, (List.forall_mem_cons.mpr ⟨tw_1088, (List.forall_mem_cons.mpr ⟨tw_1092, (List.forall_mem_cons.mpr ⟨tw_1094, (List.forall_mem_cons.mpr ⟨tw_39, (List.forall_mem_cons.mpr ⟨tw_1307, (List.forall_mem_cons.mpr ⟨tw_1305, (List.forall_mem_cons.mpr ⟨tw_47, (List.forall_mem_cons.mpr ⟨tw_1339, (List.forall_mem_cons.mpr ⟨tw_1337, (List.forall_mem_cons.mpr ⟨tw_1087, (List.forall_mem_cons.mpr ⟨tw_1336, (List.forall_mem_cons.mpr ⟨tw_46, (List.forall_mem_cons.mpr ⟨tw_1335, (List.forall_mem_cons.mpr ⟨tw_1333, (List.forall_mem_cons.mpr ⟨tw_1346, (List.forall_mem_cons.mpr ⟨tw_1345, (List.forall_mem_cons.mpr ⟨tw_1332, (List.forall_mem_cons.mpr ⟨tw_45, (List.forall_mem_cons.mpr ⟨tw_1331, (List.forall_mem_cons.mpr ⟨tw_1329, (List.forall_mem_cons.mpr ⟨tw_1328, (List.forall_mem_cons.mpr ⟨tw_44, (List.forall_mem_cons.mpr ⟨tw_1327, (List.forall_mem_cons.mpr ⟨tw_1325, (List.forall_mem_cons.mpr ⟨tw_1357, (List.forall_mem_cons.mpr ⟨tw_1356, (List.forall_mem_cons.mpr ⟨tw_1324, (List.forall_mem_cons.mpr ⟨tw_43, (List.forall_mem_cons.mpr ⟨tw_1323, (List.forall_mem_cons.mpr ⟨tw_1321, (List.forall_mem_cons.mpr ⟨tw_1362, (List.forall_mem_cons.mpr ⟨tw_49, (List.forall_mem_cons.mpr ⟨tw_1361, (List.forall_mem_cons.mpr ⟨tw_1359, (List.forall_mem_cons.mpr ⟨tw_1320, (List.forall_mem_cons.mpr ⟨tw_42, (List.forall_mem_cons.mpr ⟨tw_1319, (List.forall_mem_cons.mpr ⟨tw_1317, (List.forall_mem_cons.mpr ⟨tw_40, (List.forall_mem_cons.mpr ⟨tw_1311, (List.forall_mem_cons.mpr ⟨tw_1309, (List.forall_mem_cons.mpr ⟨tw_1096, (List.forall_mem_cons.mpr ⟨tw_1316, (List.forall_mem_cons.mpr ⟨tw_41, (List.forall_mem_cons.mpr ⟨tw_1315, (List.forall_mem_cons.mpr ⟨tw_1313, (List.forall_mem_cons.mpr ⟨tw_1099, (List.forall_mem_cons.mpr ⟨tw_1101, (List.forall_mem_cons.mpr ⟨tw_1097, (List.forall_mem_cons.mpr ⟨tw_1098, (fun _ h => absurd h List.not_mem_nil)⟩)⟩)⟩)⟩)⟩)⟩)⟩)⟩)⟩)⟩)⟩)⟩)⟩)⟩)⟩)⟩)⟩)⟩)⟩)⟩)⟩)⟩)⟩)⟩)⟩)⟩)⟩)⟩)⟩)⟩)⟩)⟩)⟩)⟩)⟩)⟩)⟩)⟩)⟩)⟩)⟩)⟩)⟩)⟩)⟩)⟩)⟩)⟩)⟩)⟩)⟩)⟩)⟩)⟩)⟩)⟩)⟩)⟩)⟩)⟩)⟩), (List.forall_mem_append.mpr ⟨in_w_s_look10x, (List.forall_mem_append.mpr ⟨in_wsX100, (List.forall_mem_append.mpr ⟨in_w_s_among10x, (List.forall_mem_append.mpr ⟨in_w_s_isDigit10x, (List.forall_mem_append.mpr ⟨in_w_s_fails10x, (List.forall_mem_append.mpr ⟨in_w_s_goesIn10x_6, (List.forall_mem_append.mpr ⟨in_w_s_within10x, (List.forall_mem_append.mpr ⟨in_w_s_isSign10x, (List.forall_mem_append.mpr ⟨in_w_s_goesIn10_5, (List.forall_mem_append.mpr ⟨in_w_s_takes10x_93, (List.forall_mem_append.mpr ⟨in_w_s_takes10f, (List.forall_mem_append.mpr ⟨in_w_s_takes10x_41, (List.forall_mem_append.mpr ⟨in_w_s_goesIn10_4, (List.forall_mem_append.mpr ⟨in_w_s_goesIn10_3, (List.forall_mem_append.mpr ⟨in_w_s_goesIn10_2, (List.forall_mem_append.mpr ⟨in_w_s_goesIn10_1, (List.forall_mem_append.mpr ⟨in_w_s_goesIn10_0, (List.forall_mem_append.mpr ⟨in_w_s_takes10x_58, in_w_s_takes10x_63⟩)⟩)⟩)⟩)⟩)⟩)⟩)⟩)⟩)⟩)⟩)⟩)⟩)⟩)⟩)⟩)⟩)⟩)⟩)
theorem in_w_s_clause10x : ∀ w ∈ w_s_clause10x, w ∈ lw_tbl := List.forall_mem_cons.mpr ⟨tw_1276, in_wf_mq⟩
theorem in_w_s_go10x_0 : ∀ w ∈ w_s_go10x_0, w ∈ lw_tbl := List.forall_mem_cons.mpr ⟨tw_1270, (List.forall_mem_append.mpr ⟨(List.forall_mem_cons.mpr ⟨tw_1088, (List.forall_mem_cons.mpr ⟨tw_1092, (List.forall_mem_cons.mpr ⟨tw_1093, (List.forall_mem_cons.mpr ⟨tw_1099, (List.forall_mem_cons.mpr ⟨tw_1100, (List.forall_mem_cons.mpr ⟨tw_1097, (List.forall_mem_cons.mpr ⟨tw_1094, (List.forall_mem_cons.mpr ⟨tw_1095, (List.forall_mem_cons.mpr ⟨tw_1096, (List.forall_mem_cons.mpr ⟨tw_1101, (List.forall_mem_cons.mpr ⟨tw_1098, (List.forall_mem_cons.mpr ⟨tw_85, (List.forall_mem_cons.mpr ⟨tw_37, (List.forall_mem_cons.mpr ⟨tw_1275, (List.forall_mem_cons.mpr ⟨tw_1273, (List.forall_mem_cons.mpr ⟨tw_38, (List.forall_mem_cons.mpr ⟨tw_1279, (List.forall_mem_cons.mpr ⟨tw_1277, (List.forall_mem_cons.mpr ⟨tw_39, (List.forall_mem_cons.mpr ⟨tw_1307, (List.forall_mem_cons.mpr ⟨tw_1305, (fun _ h => absurd h List.not_mem_nil)⟩)⟩)⟩)⟩)⟩)⟩)⟩)⟩)⟩)⟩)⟩)⟩)⟩)⟩)⟩)⟩)⟩)⟩)⟩)⟩)⟩), (List.forall_mem_append.mpr ⟨in_wsX100, (List.forall_mem_append.mpr ⟨in_w_s_clause10x, (List.forall_mem_append.mpr ⟨in_w_s_look10x, in_w_s_fails10x⟩)⟩)⟩)⟩)⟩
theorem in_wsX70 : ∀ w ∈ wsX70, w ∈ lw_tbl := kPl [179, 181] (by decide +kernel)
theorem in_wsX60 : ∀ w ∈ wsX60, w ∈ lw_tbl := kPl [590, 592] (by decide +kernel)
theorem in_w_s_isIn9 : ∀ w ∈ w_s_isIn9, w ∈ lw_tbl := List.forall_mem_cons.mpr ⟨tw_606, (fun _ h => absurd h List.not_mem_nil)⟩
theorem in_wsX20 : ∀ w ∈ wsX20, w ∈ lw_tbl := kPl [202, 204, 206, 208, 210, 212, 214, 216] (by decide +kernel)
theorem in_w_s_has2x : ∀ w ∈ w_s_has2x, w ∈ lw_tbl := List.forall_mem_cons.mpr ⟨tw_621, (List.forall_mem_append.mpr ⟨(List.forall_mem_cons.mpr ⟨tw_200, (fun _ h => absurd h List.not_mem_nil)⟩), in_wsX20⟩)⟩
theorem in_w_s_addWord2 : ∀ w ∈ w_s_addWord2, w ∈ lw_tbl := List.forall_mem_cons.mpr ⟨tw_634, (List.forall_mem_append.mpr ⟨(List.forall_mem_cons.mpr ⟨tw_201, (List.forall_mem_cons.mpr ⟨tw_198, (fun _ h => absurd h List.not_mem_nil)⟩)⟩), in_wsX20⟩)⟩
theorem in_w_s_word9 : ∀ w ∈ w_s_word9, w ∈ lw_tbl := List.forall_mem_cons.mpr ⟨tw_630, (List.forall_mem_append.mpr ⟨(List.forall_mem_cons.mpr ⟨tw_75, (List.forall_mem_cons.mpr ⟨tw_605, (List.forall_mem_cons.mpr ⟨tw_604, (List.forall_mem_cons.mpr ⟨tw_339, (List.forall_mem_cons.mpr ⟨tw_80, (List.forall_mem_cons.mpr ⟨tw_633, (List.forall_mem_cons.mpr ⟨tw_632, (List.forall_mem_cons.mpr ⟨tw_631, (fun _ h => absurd h List.not_mem_nil)⟩)⟩)⟩)⟩)⟩)⟩)⟩)⟩), (List.forall_mem_append.mpr ⟨in_w_s_isIn9, (List.forall_mem_append.mpr ⟨in_wsX90, in_w_s_addWord2⟩)⟩)⟩)⟩
theorem in_w_s_word10 : ∀ w ∈ w_s_word10, w ∈ lw_tbl := List.forall_mem_cons.mpr ⟨tw_1382, (List.forall_mem_append.mpr ⟨(List.forall_mem_cons.mpr ⟨tw_1083, (List.forall_mem_cons.mpr ⟨tw_1110, (List.forall_mem_cons.mpr ⟨tw_85, (List.forall_mem_cons.mpr ⟨tw_1265, (List.forall_mem_cons.mpr ⟨tw_1264, (List.forall_mem_cons.mpr ⟨tw_1107, (fun _ h => absurd h List.not_mem_nil)⟩)⟩)⟩)⟩)⟩)⟩), (List.forall_mem_append.mpr ⟨in_wsX100, in_w_s_isIn10⟩)⟩)⟩
theorem in_w_s_at7y : ∀ w ∈ w_s_at7y, w ∈ lw_tbl := List.forall_mem_cons.mpr ⟨tw_642, (List.forall_mem_append.mpr ⟨(List.forall_mem_cons.mpr ⟨tw_178, (List.forall_mem_cons.mpr ⟨tw_177, (fun _ h => absurd h List.not_mem_nil)⟩)⟩), in_wsX70⟩)⟩
theorem kAtIn : ∀ w ∈ vx_at0 RX9 144 kNS kNs, w ∈ lw_tbl := by decide +kernel
theorem in_kAtF : ∀ w ∈ kAtF, w ∈ lw_tbl := fun w h => kAtIn w (List.mem_filter.mp h).1
theorem in_wsX10 : ∀ w ∈ wsX10, w ∈ lw_tbl := kPl [244, 246, 248, 250, 252, 254, 256, 258, 260, 262, 264, 266, 268, 270, 272, 274, 276, 278, 280] (by decide +kernel)
theorem in_w_s_every2x : ∀ w ∈ w_s_every2x, w ∈ lw_tbl := List.forall_mem_cons.mpr ⟨tw_650, (List.forall_mem_append.mpr ⟨(List.forall_mem_cons.mpr ⟨tw_200, (fun _ h => absurd h List.not_mem_nil)⟩), in_wsX20⟩)⟩
theorem in_w_s_sent2n : ∀ w ∈ w_s_sent2n, w ∈ lw_tbl := List.forall_mem_cons.mpr ⟨tw_654, (List.forall_mem_append.mpr ⟨(List.forall_mem_cons.mpr ⟨tw_199, (fun _ h => absurd h List.not_mem_nil)⟩), in_wsX20⟩)⟩
theorem in_w_s_size2 : ∀ w ∈ w_s_size2, w ∈ lw_tbl := List.forall_mem_cons.mpr ⟨tw_658, (List.forall_mem_append.mpr ⟨(List.forall_mem_cons.mpr ⟨tw_200, (fun _ h => absurd h List.not_mem_nil)⟩), in_wsX20⟩)⟩
theorem in_w_s_begin1x : ∀ w ∈ w_s_begin1x, w ∈ lw_tbl := List.forall_mem_cons.mpr ⟨tw_646, (List.forall_mem_append.mpr ⟨(List.forall_mem_cons.mpr ⟨tw_239, (List.forall_mem_cons.mpr ⟨tw_240, (List.forall_mem_cons.mpr ⟨tw_225, (List.forall_mem_cons.mpr ⟨tw_80, (List.forall_mem_cons.mpr ⟨tw_649, (List.forall_mem_cons.mpr ⟨tw_648, (List.forall_mem_cons.mpr ⟨tw_647, (List.forall_mem_cons.mpr ⟨tw_241, (List.forall_mem_cons.mpr ⟨tw_653, (List.forall_mem_cons.mpr ⟨tw_652, (List.forall_mem_cons.mpr ⟨tw_651, (List.forall_mem_cons.mpr ⟨tw_242, (List.forall_mem_cons.mpr ⟨tw_243, (List.forall_mem_cons.mpr ⟨tw_657, (List.forall_mem_cons.mpr ⟨tw_656, (List.forall_mem_cons.mpr ⟨tw_655, (List.forall_mem_cons.mpr ⟨tw_227, (List.forall_mem_cons.mpr ⟨tw_228, (List.forall_mem_cons.mpr ⟨tw_229, (List.forall_mem_cons.mpr ⟨tw_230, (fun _ h => absurd h List.not_mem_nil)⟩)⟩)⟩)⟩)⟩)⟩)⟩)⟩)⟩)⟩)⟩)⟩)⟩)⟩)⟩)⟩)⟩)⟩)⟩)⟩), (List.forall_mem_append.mpr ⟨in_wsX10, (List.forall_mem_append.mpr ⟨in_w_s_every2x, (List.forall_mem_append.mpr ⟨in_w_s_sent2n, (List.forall_mem_append.mpr ⟨in_w_s_size2, in_wsX20⟩)⟩)⟩)⟩)⟩)⟩
theorem in_w_s_fillx : ∀ w ∈ w_s_fillx, w ∈ lw_tbl := List.forall_mem_cons.mpr ⟨tw_333, (fun _ h => absurd h List.not_mem_nil)⟩
theorem in_w_s_isBit9x : ∀ w ∈ w_s_isBit9x, w ∈ lw_tbl := List.forall_mem_cons.mpr ⟨tw_674, (fun _ h => absurd h List.not_mem_nil)⟩
theorem in_w_s_isHouse9m : ∀ w ∈ w_s_isHouse9m, w ∈ lw_tbl := List.forall_mem_cons.mpr ⟨tw_609, (List.forall_mem_append.mpr ⟨(List.forall_mem_cons.mpr ⟨tw_75, (List.forall_mem_cons.mpr ⟨tw_605, (List.forall_mem_cons.mpr ⟨tw_604, (fun _ h => absurd h List.not_mem_nil)⟩)⟩)⟩), in_w_s_isIn9⟩)⟩
theorem in_w_s_isHouse9n : ∀ w ∈ w_s_isHouse9n, w ∈ lw_tbl := List.forall_mem_cons.mpr ⟨tw_609, (List.forall_mem_append.mpr ⟨(List.forall_mem_cons.mpr ⟨tw_75, (List.forall_mem_cons.mpr ⟨tw_605, (List.forall_mem_cons.mpr ⟨tw_604, (fun _ h => absurd h List.not_mem_nil)⟩)⟩)⟩), in_w_s_isIn9⟩)⟩
theorem in_w_s_isSent2x : ∀ w ∈ w_s_isSent2x, w ∈ lw_tbl := List.forall_mem_cons.mpr ⟨tw_679, (List.forall_mem_append.mpr ⟨(List.forall_mem_cons.mpr ⟨tw_199, (List.forall_mem_cons.mpr ⟨tw_75, (List.forall_mem_cons.mpr ⟨tw_673, (fun _ h => absurd h List.not_mem_nil)⟩)⟩)⟩), (List.forall_mem_append.mpr ⟨in_wsX20, in_w_s_isBit9x⟩)⟩)⟩
theorem in_w_s_tally1x : ∀ w ∈ w_s_tally1x, w ∈ lw_tbl := List.forall_mem_cons.mpr ⟨tw_670, (List.forall_mem_append.mpr ⟨(List.forall_mem_cons.mpr ⟨tw_235, (List.forall_mem_cons.mpr ⟨tw_84, (List.forall_mem_cons.mpr ⟨tw_332, (List.forall_mem_cons.mpr ⟨tw_671, (List.forall_mem_cons.mpr ⟨tw_236, (List.forall_mem_cons.mpr ⟨tw_237, (List.forall_mem_cons.mpr ⟨tw_225, (List.forall_mem_cons.mpr ⟨tw_80, (List.forall_mem_cons.mpr ⟨tw_657, (List.forall_mem_cons.mpr ⟨tw_656, (List.forall_mem_cons.mpr ⟨tw_655, (List.forall_mem_cons.mpr ⟨tw_229, (List.forall_mem_cons.mpr ⟨tw_241, (List.forall_mem_cons.mpr ⟨tw_75, (List.forall_mem_cons.mpr ⟨tw_673, (List.forall_mem_cons.mpr ⟨tw_608, (List.forall_mem_cons.mpr ⟨tw_227, (List.forall_mem_cons.mpr ⟨tw_678, (List.forall_mem_cons.mpr ⟨tw_677, (List.forall_mem_cons.mpr ⟨tw_676, (fun _ h => absurd h List.not_mem_nil)⟩)⟩)⟩)⟩)⟩)⟩)⟩)⟩)⟩)⟩)⟩)⟩)⟩)⟩)⟩)⟩)⟩)⟩)⟩)⟩), (List.forall_mem_append.mpr ⟨in_wsX10, (List.forall_mem_append.mpr ⟨in_w_s_fillx, (List.forall_mem_append.mpr ⟨in_w_s_size2, (List.forall_mem_append.mpr ⟨in_w_s_isBit9x, (List.forall_mem_append.mpr ⟨in_w_s_isHouse9m, (List.forall_mem_append.mpr ⟨in_w_s_isHouse9n, in_w_s_isSent2x⟩)⟩)⟩)⟩)⟩)⟩)⟩)⟩
theorem in_w_s_wordsPast2x : ∀ w ∈ w_s_wordsPast2x, w ∈ lw_tbl := List.forall_mem_cons.mpr ⟨tw_688, (List.forall_mem_append.mpr ⟨(List.forall_mem_cons.mpr ⟨tw_201, (List.forall_mem_cons.mpr ⟨tw_198, (fun _ h => absurd h List.not_mem_nil)⟩)⟩), in_wsX20⟩)⟩
theorem in_wsX50 : ∀ w ∈ wsX50, w ∈ lw_tbl := kPl [164, 166] (by decide +kernel)
theorem in_w_s_setLetter5x : ∀ w ∈ w_s_setLetter5x, w ∈ lw_tbl := List.forall_mem_cons.mpr ⟨tw_692, (List.forall_mem_append.mpr ⟨(List.forall_mem_cons.mpr ⟨tw_162, (fun _ h => absurd h List.not_mem_nil)⟩), in_wsX50⟩)⟩
theorem in_w_s_since2x : ∀ w ∈ w_s_since2x, w ∈ lw_tbl := List.forall_mem_cons.mpr ⟨tw_696, (List.forall_mem_append.mpr ⟨(List.forall_mem_cons.mpr ⟨tw_201, (List.forall_mem_cons.mpr ⟨tw_198, (List.forall_mem_cons.mpr ⟨tw_697, (List.forall_mem_cons.mpr ⟨tw_447, (List.forall_mem_cons.mpr ⟨tw_88, (List.forall_mem_cons.mpr ⟨tw_448, (fun _ h => absurd h List.not_mem_nil)⟩)⟩)⟩)⟩)⟩)⟩), in_wsX20⟩)⟩
theorem in_w_s_lettersHour1x : ∀ w ∈ w_s_lettersHour1x, w ∈ lw_tbl := List.forall_mem_cons.mpr ⟨tw_684, (List.forall_mem_append.mpr ⟨(List.forall_mem_cons.mpr ⟨tw_226, (List.forall_mem_cons.mpr ⟨tw_225, (List.forall_mem_cons.mpr ⟨tw_243, (List.forall_mem_cons.mpr ⟨tw_80, (List.forall_mem_cons.mpr ⟨tw_687, (List.forall_mem_cons.mpr ⟨tw_686, (List.forall_mem_cons.mpr ⟨tw_685, (List.forall_mem_cons.mpr ⟨tw_78, (List.forall_mem_cons.mpr ⟨tw_691, (List.forall_mem_cons.mpr ⟨tw_690, (List.forall_mem_cons.mpr ⟨tw_689, (List.forall_mem_cons.mpr ⟨tw_695, (List.forall_mem_cons.mpr ⟨tw_694, (List.forall_mem_cons.mpr ⟨tw_693, (fun _ h => absurd h List.not_mem_nil)⟩)⟩)⟩)⟩)⟩)⟩)⟩)⟩)⟩)⟩)⟩)⟩)⟩)⟩), (List.forall_mem_append.mpr ⟨in_wsX10, (List.forall_mem_append.mpr ⟨in_w_s_wordsPast2x, (List.forall_mem_append.mpr ⟨in_w_s_setLetter5x, in_w_s_since2x⟩)⟩)⟩)⟩)⟩
theorem in_w_s_letters1x : ∀ w ∈ w_s_letters1x, w ∈ lw_tbl := List.forall_mem_cons.mpr ⟨tw_701, (List.forall_mem_append.mpr ⟨(List.forall_mem_cons.mpr ⟨tw_225, (List.forall_mem_cons.mpr ⟨tw_80, (List.forall_mem_cons.mpr ⟨tw_620, (List.forall_mem_cons.mpr ⟨tw_619, (List.forall_mem_cons.mpr ⟨tw_702, (List.forall_mem_cons.mpr ⟨tw_229, (List.forall_mem_cons.mpr ⟨tw_75, (List.forall_mem_cons.mpr ⟨tw_608, (List.forall_mem_cons.mpr ⟨tw_226, (List.forall_mem_cons.mpr ⟨tw_227, (List.forall_mem_cons.mpr ⟨tw_78, (List.forall_mem_cons.mpr ⟨tw_691, (List.forall_mem_cons.mpr ⟨tw_690, (List.forall_mem_cons.mpr ⟨tw_689, (List.forall_mem_cons.mpr ⟨tw_228, (List.forall_mem_cons.mpr ⟨tw_235, (List.forall_mem_cons.mpr ⟨tw_236, (List.forall_mem_cons.mpr ⟨tw_237, (List.forall_mem_cons.mpr ⟨tw_678, (List.forall_mem_cons.mpr ⟨tw_677, (List.forall_mem_cons.mpr ⟨tw_676, (fun _ h => absurd h List.not_mem_nil)⟩)⟩)⟩)⟩)⟩)⟩)⟩)⟩)⟩)⟩)⟩)⟩)⟩)⟩)⟩)⟩)⟩)⟩)⟩)⟩)⟩), (List.forall_mem_append.mpr ⟨in_wsX10, (List.forall_mem_append.mpr ⟨in_w_s_has2x, (List.forall_mem_append.mpr ⟨in_w_s_isHouse9m, (List.forall_mem_append.mpr ⟨in_w_s_setLetter5x, (List.forall_mem_append.mpr ⟨in_w_s_isHouse9n, in_w_s_isSent2x⟩)⟩)⟩)⟩)⟩)⟩)⟩
theorem in_w_s_join5x : ∀ w ∈ w_s_join5x, w ∈ lw_tbl := List.forall_mem_cons.mpr ⟨tw_718, (fun _ h => absurd h List.not_mem_nil)⟩
theorem in_w_s_bounded5x : ∀ w ∈ w_s_bounded5x, w ∈ lw_tbl := List.forall_mem_cons.mpr ⟨tw_721, (List.forall_mem_append.mpr ⟨(List.forall_mem_cons.mpr ⟨tw_722, (List.forall_mem_cons.mpr ⟨tw_724, (List.forall_mem_cons.mpr ⟨tw_725, (List.forall_mem_cons.mpr ⟨tw_723, (fun _ h => absurd h List.not_mem_nil)⟩)⟩)⟩)⟩), (fun _ h => absurd h List.not_mem_nil)⟩)⟩
theorem in_w_s_valueOf5x : ∀ w ∈ w_s_valueOf5x, w ∈ lw_tbl := List.forall_mem_cons.mpr ⟨tw_715, (List.forall_mem_append.mpr ⟨(List.forall_mem_cons.mpr ⟨tw_162, (fun _ h => absurd h List.not_mem_nil)⟩), in_wsX50⟩)⟩
theorem in_w_s_reckon5x : ∀ w ∈ w_s_reckon5x, w ∈ lw_tbl := List.forall_mem_cons.mpr ⟨tw_710, (List.forall_mem_append.mpr ⟨(List.forall_mem_cons.mpr ⟨tw_711, (List.forall_mem_cons.mpr ⟨tw_447, (List.forall_mem_cons.mpr ⟨tw_88, (List.forall_mem_cons.mpr ⟨tw_448, (List.forall_mem_cons.mpr ⟨tw_163, (List.forall_mem_cons.mpr ⟨tw_78, (List.forall_mem_cons.mpr ⟨tw_717, (List.forall_mem_cons.mpr ⟨tw_716, (List.forall_mem_cons.mpr ⟨tw_720, (List.forall_mem_cons.mpr ⟨tw_719, (List.forall_mem_cons.mpr ⟨tw_18, (List.forall_mem_cons.mpr ⟨tw_714, (List.forall_mem_cons.mpr ⟨tw_712, (fun _ h => absurd h List.not_mem_nil)⟩)⟩)⟩)⟩)⟩)⟩)⟩)⟩)⟩)⟩)⟩)⟩)⟩), (List.forall_mem_append.mpr ⟨in_wsX50, (List.forall_mem_append.mpr ⟨in_w_s_join5x, (List.forall_mem_append.mpr ⟨in_w_s_bounded5x, in_w_s_valueOf5x⟩)⟩)⟩)⟩)⟩
theorem in_w_s_worthOf5x : ∀ w ∈ w_s_worthOf5x, w ∈ lw_tbl := List.forall_mem_cons.mpr ⟨tw_706, (List.forall_mem_append.mpr ⟨(List.forall_mem_cons.mpr ⟨tw_78, (List.forall_mem_cons.mpr ⟨tw_17, (List.forall_mem_cons.mpr ⟨tw_709, (List.forall_mem_cons.mpr ⟨tw_707, (fun _ h => absurd h List.not_mem_nil)⟩)⟩)⟩)⟩), (List.forall_mem_append.mpr ⟨in_wsX60, in_w_s_reckon5x⟩)⟩)⟩
theorem in_w_s_worthNow1x : ∀ w ∈ w_s_worthNow1x, w ∈ lw_tbl := List.forall_mem_cons.mpr ⟨tw_1074, (List.forall_mem_append.mpr ⟨(List.forall_mem_cons.mpr ⟨tw_81, (List.forall_mem_cons.mpr ⟨tw_14, (List.forall_mem_cons.mpr ⟨tw_669, (List.forall_mem_cons.mpr ⟨tw_667, (List.forall_mem_cons.mpr ⟨tw_15, (List.forall_mem_cons.mpr ⟨tw_683, (List.forall_mem_cons.mpr ⟨tw_681, (List.forall_mem_cons.mpr ⟨tw_16, (List.forall_mem_cons.mpr ⟨tw_700, (List.forall_mem_cons.mpr ⟨tw_698, (List.forall_mem_cons.mpr ⟨tw_226, (List.forall_mem_cons.mpr ⟨tw_239, (List.forall_mem_cons.mpr ⟨tw_78, (List.forall_mem_cons.mpr ⟨tw_705, (List.forall_mem_cons.mpr ⟨tw_704, (List.forall_mem_cons.mpr ⟨tw_703, (fun _ h => absurd h List.not_mem_nil)⟩)⟩)⟩)⟩)⟩)⟩)⟩)⟩)⟩)⟩)⟩)⟩)⟩)⟩)⟩)⟩), (List.forall_mem_append.mpr ⟨in_w_s_tally1x, (List.forall_mem_append.mpr ⟨in_w_s_lettersHour1x, (List.forall_mem_append.mpr ⟨in_w_s_letters1x, (List.forall_mem_append.mpr ⟨in_wsX10, in_w_s_worthOf5x⟩)⟩)⟩)⟩)⟩)⟩
theorem in_w_s_worth9 : ∀ w ∈ w_s_worth9, w ∈ lw_tbl := List.forall_mem_cons.mpr ⟨tw_1009, (List.forall_mem_append.mpr ⟨(List.forall_mem_cons.mpr ⟨tw_337, (List.forall_mem_cons.mpr ⟨tw_79, (List.forall_mem_cons.mpr ⟨tw_641, (List.forall_mem_cons.mpr ⟨tw_640, (List.forall_mem_cons.mpr ⟨tw_639, (List.forall_mem_cons.mpr ⟨tw_1010, (List.forall_mem_cons.mpr ⟨tw_97, (List.forall_mem_cons.mpr ⟨tw_75, (List.forall_mem_cons.mpr ⟨tw_605, (List.forall_mem_cons.mpr ⟨tw_604, (List.forall_mem_cons.mpr ⟨tw_339, (List.forall_mem_cons.mpr ⟨tw_80, (List.forall_mem_cons.mpr ⟨tw_620, (List.forall_mem_cons.mpr ⟨tw_619, (List.forall_mem_cons.mpr ⟨tw_618, (List.forall_mem_cons.mpr ⟨tw_340, (List.forall_mem_cons.mpr ⟨tw_81, (List.forall_mem_cons.mpr ⟨tw_645, (List.forall_mem_cons.mpr ⟨tw_644, (List.forall_mem_cons.mpr ⟨tw_643, (List.forall_mem_cons.mpr ⟨tw_1073, (List.forall_mem_cons.mpr ⟨tw_1072, (List.forall_mem_cons.mpr ⟨tw_1071, (fun _ h => absurd h List.not_mem_nil)⟩)⟩)⟩)⟩)⟩)⟩)⟩)⟩)⟩)⟩)⟩)⟩)⟩)⟩)⟩)⟩)⟩)⟩)⟩)⟩)⟩)⟩)⟩), (List.forall_mem_append.mpr ⟨in_wsX90, (List.forall_mem_append.mpr ⟨in_w_s_at7y, (List.forall_mem_append.mpr ⟨in_kAtF, (List.forall_mem_append.mpr ⟨in_w_s_isIn9, (List.forall_mem_append.mpr ⟨in_w_s_has2x, (List.forall_mem_append.mpr ⟨in_w_s_begin1x, in_w_s_worthNow1x⟩)⟩)⟩)⟩)⟩)⟩)⟩)⟩
theorem in_w_s_worthL : ∀ w ∈ w_s_worthL, w ∈ lw_tbl := List.forall_mem_cons.mpr ⟨(List.mem_of_getElem? (i := 1004) (by decide +kernel)), (List.forall_mem_append.mpr ⟨(List.forall_mem_cons.mpr ⟨tw_75, (List.forall_mem_cons.mpr ⟨tw_1008, (List.forall_mem_cons.mpr ⟨tw_1007, (List.forall_mem_cons.mpr ⟨tw_1006, (List.forall_mem_cons.mpr ⟨tw_1005, (fun _ h => absurd h List.not_mem_nil)⟩)⟩)⟩)⟩)⟩), in_w_s_worth9⟩)⟩
theorem in_w_s_isLaw10x : ∀ w ∈ w_s_isLaw10x, w ∈ lw_tbl := List.forall_mem_cons.mpr ⟨tw_1390, (List.forall_mem_append.mpr ⟨(List.forall_mem_cons.mpr ⟨tw_1090, (fun _ h => absurd h List.not_mem_nil)⟩), in_wsX100⟩)⟩
theorem in_w_s_isPerson10r : ∀ w ∈ w_s_isPerson10r, w ∈ lw_tbl := List.forall_mem_cons.mpr ⟨tw_1378, (List.forall_mem_append.mpr ⟨(List.forall_mem_cons.mpr ⟨tw_1109, (fun _ h => absurd h List.not_mem_nil)⟩), in_wsX100⟩)⟩
theorem in_w_s_every10x : ∀ w ∈ w_s_every10x, w ∈ lw_tbl := List.forall_mem_cons.mpr ⟨tw_1394, (List.forall_mem_append.mpr ⟨(List.forall_mem_cons.mpr ⟨tw_1109, (fun _ h => absurd h List.not_mem_nil)⟩), in_wsX100⟩)⟩
theorem in_w_s_begin10x : ∀ w ∈ w_s_begin10x, w ∈ lw_tbl := List.forall_mem_cons.mpr ⟨tw_1398, (List.forall_mem_append.mpr ⟨(List.forall_mem_cons.mpr ⟨tw_1120, (List.forall_mem_cons.mpr ⟨tw_1122, (List.forall_mem_cons.mpr ⟨tw_1121, (List.forall_mem_cons.mpr ⟨tw_1109, (List.forall_mem_cons.mpr ⟨tw_1111, (List.forall_mem_cons.mpr ⟨tw_1102, (List.forall_mem_cons.mpr ⟨tw_1112, (List.forall_mem_cons.mpr ⟨tw_1103, (List.forall_mem_cons.mpr ⟨tw_1113, (List.forall_mem_cons.mpr ⟨tw_1104, (List.forall_mem_cons.mpr ⟨tw_1114, (fun _ h => absurd h List.not_mem_nil)⟩)⟩)⟩)⟩)⟩)⟩)⟩)⟩)⟩)⟩)⟩), in_wsX100⟩)⟩
theorem in_w_s_has10 : ∀ w ∈ w_s_has10, w ∈ lw_tbl := List.forall_mem_cons.mpr ⟨tw_1405, (fun _ h => absurd h List.not_mem_nil)⟩
theorem in_w_s_lay10x : ∀ w ∈ w_s_lay10x, w ∈ lw_tbl := List.forall_mem_cons.mpr ⟨tw_1402, (List.forall_mem_append.mpr ⟨(List.forall_mem_cons.mpr ⟨tw_1109, (List.forall_mem_cons.mpr ⟨tw_1110, (List.forall_mem_cons.mpr ⟨tw_1087, (List.forall_mem_cons.mpr ⟨tw_1111, (List.forall_mem_cons.mpr ⟨tw_1112, (List.forall_mem_cons.mpr ⟨tw_1121, (List.forall_mem_cons.mpr ⟨tw_1107, (List.forall_mem_cons.mpr ⟨tw_1406, (List.forall_mem_cons.mpr ⟨tw_447, (List.forall_mem_cons.mpr ⟨tw_88, (List.forall_mem_cons.mpr ⟨tw_448, (List.forall_mem_cons.mpr ⟨tw_1120, (List.forall_mem_cons.mpr ⟨tw_85, (List.forall_mem_cons.mpr ⟨tw_1404, (List.forall_mem_cons.mpr ⟨tw_1403, (List.forall_mem_cons.mpr ⟨tw_1113, (List.forall_mem_cons.mpr ⟨tw_1108, (fun _ h => absurd h List.not_mem_nil)⟩)⟩)⟩)⟩)⟩)⟩)⟩)⟩)⟩)⟩)⟩)⟩)⟩)⟩)⟩)⟩)⟩), (List.forall_mem_append.mpr ⟨in_wsX100, in_w_s_has10⟩)⟩)⟩
theorem in_w_s_worthOf10_0 : ∀ w ∈ w_s_worthOf10_0, w ∈ lw_tbl := List.forall_mem_cons.mpr ⟨tw_1410, (List.forall_mem_append.mpr ⟨(List.forall_mem_cons.mpr ⟨tw_1085, (List.forall_mem_cons.mpr ⟨tw_1086, (List.forall_mem_cons.mpr ⟨tw_85, (List.forall_mem_cons.mpr ⟨tw_36, (List.forall_mem_cons.mpr ⟨tw_1269, (List.forall_mem_cons.mpr ⟨tw_1267, (List.forall_mem_cons.mpr ⟨tw_1098, (fun _ h => absurd h List.not_mem_nil)⟩)⟩)⟩)⟩)⟩)⟩)⟩), (List.forall_mem_append.mpr ⟨in_wsX100, in_w_s_go10x_0⟩)⟩)⟩
theorem in_w_s_worth10 : ∀ w ∈ w_s_worth10, w ∈ lw_tbl := List.forall_mem_cons.mpr ⟨tw_1386, (List.forall_mem_append.mpr ⟨(List.forall_mem_cons.mpr ⟨tw_85, (List.forall_mem_cons.mpr ⟨tw_51, (List.forall_mem_cons.mpr ⟨tw_1389, (List.forall_mem_cons.mpr ⟨tw_1387, (List.forall_mem_cons.mpr ⟨tw_1083, (List.forall_mem_cons.mpr ⟨tw_1265, (List.forall_mem_cons.mpr ⟨tw_1264, (List.forall_mem_cons.mpr ⟨tw_50, (List.forall_mem_cons.mpr ⟨tw_1377, (List.forall_mem_cons.mpr ⟨tw_1375, (List.forall_mem_cons.mpr ⟨tw_52, (List.forall_mem_cons.mpr ⟨tw_1393, (List.forall_mem_cons.mpr ⟨tw_1391, (List.forall_mem_cons.mpr ⟨tw_53, (List.forall_mem_cons.mpr ⟨tw_1397, (List.forall_mem_cons.mpr ⟨tw_1395, (List.forall_mem_cons.mpr ⟨tw_54, (List.forall_mem_cons.mpr ⟨tw_1401, (List.forall_mem_cons.mpr ⟨tw_1399, (List.forall_mem_cons.mpr ⟨tw_55, (List.forall_mem_cons.mpr ⟨tw_1409, (List.forall_mem_cons.mpr ⟨tw_1407, (fun _ h => absurd h List.not_mem_nil)⟩)⟩)⟩)⟩)⟩)⟩)⟩)⟩)⟩)⟩)⟩)⟩)⟩)⟩)⟩)⟩)⟩)⟩)⟩)⟩)⟩)⟩), (List.forall_mem_append.mpr ⟨in_w_s_isLaw10x, (List.forall_mem_append.mpr ⟨in_wsX100, (List.forall_mem_append.mpr ⟨in_w_s_isIn10, (List.forall_mem_append.mpr ⟨in_w_s_isPerson10r, (List.forall_mem_append.mpr ⟨in_w_s_every10x, (List.forall_mem_append.mpr ⟨in_w_s_begin10x, (List.forall_mem_append.mpr ⟨in_w_s_lay10x, in_w_s_worthOf10_0⟩)⟩)⟩)⟩)⟩)⟩)⟩)⟩)⟩
theorem in_w_s_thrown10 : ∀ w ∈ w_s_thrown10, w ∈ lw_tbl := List.forall_mem_cons.mpr ⟨tw_1244, (List.forall_mem_append.mpr ⟨(List.forall_mem_cons.mpr ⟨tw_1083, (fun _ h => absurd h List.not_mem_nil)⟩), in_wsX100⟩)⟩
theorem in_w_s_weigh1x : ∀ w ∈ w_s_weigh1x, w ∈ lw_tbl := List.forall_mem_cons.mpr ⟨tw_666, (List.forall_mem_append.mpr ⟨(List.forall_mem_cons.mpr ⟨tw_81, (List.forall_mem_cons.mpr ⟨tw_14, (List.forall_mem_cons.mpr ⟨tw_669, (List.forall_mem_cons.mpr ⟨tw_667, (List.forall_mem_cons.mpr ⟨tw_15, (List.forall_mem_cons.mpr ⟨tw_683, (List.forall_mem_cons.mpr ⟨tw_681, (List.forall_mem_cons.mpr ⟨tw_225, (List.forall_mem_cons.mpr ⟨tw_80, (List.forall_mem_cons.mpr ⟨tw_657, (List.forall_mem_cons.mpr ⟨tw_656, (List.forall_mem_cons.mpr ⟨tw_655, (List.forall_mem_cons.mpr ⟨tw_242, (List.forall_mem_cons.mpr ⟨tw_75, (List.forall_mem_cons.mpr ⟨tw_673, (List.forall_mem_cons.mpr ⟨tw_16, (List.forall_mem_cons.mpr ⟨tw_700, (List.forall_mem_cons.mpr ⟨tw_698, (List.forall_mem_cons.mpr ⟨tw_231, (List.forall_mem_cons.mpr ⟨tw_226, (List.forall_mem_cons.mpr ⟨tw_239, (List.forall_mem_cons.mpr ⟨tw_78, (List.forall_mem_cons.mpr ⟨tw_705, (List.forall_mem_cons.mpr ⟨tw_704, (List.forall_mem_cons.mpr ⟨tw_703, (List.forall_mem_cons.mpr ⟨tw_232, (List.forall_mem_cons.mpr ⟨tw_233, (List.forall_mem_cons.mpr ⟨tw_229, (fun _ h => absurd h List.not_mem_nil)⟩)⟩)⟩)⟩)⟩)⟩)⟩)⟩)⟩)⟩)⟩)⟩)⟩)⟩)⟩)⟩)⟩)⟩)⟩)⟩)⟩)⟩)⟩)⟩)⟩)⟩)⟩)⟩), (List.forall_mem_append.mpr ⟨in_w_s_tally1x, (List.forall_mem_append.mpr ⟨in_w_s_lettersHour1x, (List.forall_mem_append.mpr ⟨in_wsX10, (List.forall_mem_append.mpr ⟨in_w_s_size2, (List.forall_mem_append.mpr ⟨in_w_s_isBit9x, (List.forall_mem_append.mpr ⟨in_w_s_letters1x, (List.forall_mem_append.mpr ⟨in_w_s_worthOf5x, in_wsX20⟩)⟩)⟩)⟩)⟩)⟩)⟩)⟩)⟩
theorem in_w_s_within9x : ∀ w ∈ w_s_within9x, w ∈ lw_tbl := List.forall_mem_cons.mpr ⟨tw_390, (fun _ h => absurd h List.not_mem_nil)⟩
theorem in_w_s_holdMore1x : ∀ w ∈ w_s_holdMore1x, w ∈ lw_tbl := List.forall_mem_cons.mpr ⟨tw_729, (List.forall_mem_append.mpr ⟨(List.forall_mem_cons.mpr ⟨tw_225, (List.forall_mem_cons.mpr ⟨tw_80, (List.forall_mem_cons.mpr ⟨tw_657, (List.forall_mem_cons.mpr ⟨tw_656, (List.forall_mem_cons.mpr ⟨tw_655, (List.forall_mem_cons.mpr ⟨tw_242, (List.forall_mem_cons.mpr ⟨tw_75, (List.forall_mem_cons.mpr ⟨tw_673, (List.forall_mem_cons.mpr ⟨tw_227, (List.forall_mem_cons.mpr ⟨tw_231, (List.forall_mem_cons.mpr ⟨tw_389, (fun _ h => absurd h List.not_mem_nil)⟩)⟩)⟩)⟩)⟩)⟩)⟩)⟩)⟩)⟩)⟩), (List.forall_mem_append.mpr ⟨in_wsX10, (List.forall_mem_append.mpr ⟨in_w_s_size2, (List.forall_mem_append.mpr ⟨in_w_s_isBit9x, in_w_s_within9x⟩)⟩)⟩)⟩)⟩
theorem in_w_s_tellKnown1x : ∀ w ∈ w_s_tellKnown1x, w ∈ lw_tbl := List.forall_mem_cons.mpr ⟨tw_738, (List.forall_mem_append.mpr ⟨(List.forall_mem_cons.mpr ⟨tw_225, (List.forall_mem_cons.mpr ⟨tw_80, (List.forall_mem_cons.mpr ⟨tw_657, (List.forall_mem_cons.mpr ⟨tw_656, (List.forall_mem_cons.mpr ⟨tw_655, (List.forall_mem_cons.mpr ⟨tw_229, (List.forall_mem_cons.mpr ⟨tw_75, (List.forall_mem_cons.mpr ⟨tw_673, (List.forall_mem_cons.mpr ⟨tw_234, (List.forall_mem_cons.mpr ⟨tw_232, (fun _ h => absurd h List.not_mem_nil)⟩)⟩)⟩)⟩)⟩)⟩)⟩)⟩)⟩)⟩), (List.forall_mem_append.mpr ⟨in_wsX10, (List.forall_mem_append.mpr ⟨in_w_s_size2, (List.forall_mem_append.mpr ⟨in_wsX20, in_w_s_isBit9x⟩)⟩)⟩)⟩)⟩
theorem in_w_s_tell1x : ∀ w ∈ w_s_tell1x, w ∈ lw_tbl := List.forall_mem_cons.mpr ⟨tw_734, (List.forall_mem_append.mpr ⟨(List.forall_mem_cons.mpr ⟨tw_234, (List.forall_mem_cons.mpr ⟨tw_84, (List.forall_mem_cons.mpr ⟨tw_332, (List.forall_mem_cons.mpr ⟨tw_671, (List.forall_mem_cons.mpr ⟨tw_225, (List.forall_mem_cons.mpr ⟨tw_80, (List.forall_mem_cons.mpr ⟨tw_657, (List.forall_mem_cons.mpr ⟨tw_656, (List.forall_mem_cons.mpr ⟨tw_655, (List.forall_mem_cons.mpr ⟨tw_242, (List.forall_mem_cons.mpr ⟨tw_75, (List.forall_mem_cons.mpr ⟨tw_673, (List.forall_mem_cons.mpr ⟨tw_227, (List.forall_mem_cons.mpr ⟨tw_389, (List.forall_mem_cons.mpr ⟨tw_230, (List.forall_mem_cons.mpr ⟨tw_81, (List.forall_mem_cons.mpr ⟨tw_21, (List.forall_mem_cons.mpr ⟨tw_737, (List.forall_mem_cons.mpr ⟨tw_735, (List.forall_mem_cons.mpr ⟨tw_243, (fun _ h => absurd h List.not_mem_nil)⟩)⟩)⟩)⟩)⟩)⟩)⟩)⟩)⟩)⟩)⟩)⟩)⟩)⟩)⟩)⟩)⟩)⟩)⟩)⟩), (List.forall_mem_append.mpr ⟨in_wsX10, (List.forall_mem_append.mpr ⟨in_w_s_fillx, (List.forall_mem_append.mpr ⟨in_w_s_size2, (List.forall_mem_append.mpr ⟨in_w_s_isBit9x, (List.forall_mem_append.mpr ⟨in_w_s_within9x, in_w_s_tellKnown1x⟩)⟩)⟩)⟩)⟩)⟩)⟩
theorem in_w_s_mayGo1x : ∀ w ∈ w_s_mayGo1x, w ∈ lw_tbl := List.forall_mem_cons.mpr ⟨tw_746, (List.forall_mem_append.mpr ⟨(List.forall_mem_cons.mpr ⟨tw_242, (List.forall_mem_cons.mpr ⟨tw_75, (List.forall_mem_cons.mpr ⟨tw_673, (List.forall_mem_cons.mpr ⟨tw_229, (fun _ h => absurd h List.not_mem_nil)⟩)⟩)⟩)⟩), (List.forall_mem_append.mpr ⟨in_wsX10, in_w_s_isBit9x⟩)⟩)⟩
theorem in_w_s_goHome1x : ∀ w ∈ w_s_goHome1x, w ∈ lw_tbl := List.forall_mem_cons.mpr ⟨tw_742, (List.forall_mem_append.mpr ⟨(List.forall_mem_cons.mpr ⟨tw_225, (List.forall_mem_cons.mpr ⟨tw_80, (List.forall_mem_cons.mpr ⟨tw_657, (List.forall_mem_cons.mpr ⟨tw_656, (List.forall_mem_cons.mpr ⟨tw_655, (List.forall_mem_cons.mpr ⟨tw_81, (List.forall_mem_cons.mpr ⟨tw_23, (List.forall_mem_cons.mpr ⟨tw_745, (List.forall_mem_cons.mpr ⟨tw_743, (List.forall_mem_cons.mpr ⟨tw_240, (List.forall_mem_cons.mpr ⟨tw_747, (List.forall_mem_cons.mpr ⟨tw_748, (List.forall_mem_cons.mpr ⟨tw_749, (List.forall_mem_cons.mpr ⟨tw_233, (List.forall_mem_cons.mpr ⟨tw_229, (fun _ h => absurd h List.not_mem_nil)⟩)⟩)⟩)⟩)⟩)⟩)⟩)⟩)⟩)⟩)⟩)⟩)⟩)⟩)⟩), (List.forall_mem_append.mpr ⟨in_wsX10, (List.forall_mem_append.mpr ⟨in_w_s_size2, in_w_s_mayGo1x⟩)⟩)⟩)⟩
theorem in_w_s_go1x : ∀ w ∈ w_s_go1x, w ∈ lw_tbl := List.forall_mem_cons.mpr ⟨tw_662, (List.forall_mem_append.mpr ⟨(List.forall_mem_cons.mpr ⟨tw_81, (List.forall_mem_cons.mpr ⟨tw_13, (List.forall_mem_cons.mpr ⟨tw_665, (List.forall_mem_cons.mpr ⟨tw_663, (List.forall_mem_cons.mpr ⟨tw_19, (List.forall_mem_cons.mpr ⟨tw_728, (List.forall_mem_cons.mpr ⟨tw_726, (List.forall_mem_cons.mpr ⟨tw_20, (List.forall_mem_cons.mpr ⟨tw_733, (List.forall_mem_cons.mpr ⟨tw_731, (List.forall_mem_cons.mpr ⟨tw_22, (List.forall_mem_cons.mpr ⟨tw_741, (List.forall_mem_cons.mpr ⟨tw_739, (List.forall_mem_cons.mpr ⟨tw_243, (fun _ h => absurd h List.not_mem_nil)⟩)⟩)⟩)⟩)⟩)⟩)⟩)⟩)⟩)⟩)⟩)⟩)⟩)⟩), (List.forall_mem_append.mpr ⟨in_w_s_weigh1x, (List.forall_mem_append.mpr ⟨in_w_s_holdMore1x, (List.forall_mem_append.mpr ⟨in_w_s_tell1x, (List.forall_mem_append.mpr ⟨in_w_s_goHome1x, in_wsX10⟩)⟩)⟩)⟩)⟩)⟩
theorem in_w_s_tellsSince1n : ∀ w ∈ w_s_tellsSince1n, w ∈ lw_tbl := List.forall_mem_cons.mpr ⟨tw_761, (List.forall_mem_append.mpr ⟨(List.forall_mem_cons.mpr ⟨tw_225, (List.forall_mem_cons.mpr ⟨tw_80, (List.forall_mem_cons.mpr ⟨tw_620, (List.forall_mem_cons.mpr ⟨tw_619, (List.forall_mem_cons.mpr ⟨tw_702, (List.forall_mem_cons.mpr ⟨tw_230, (fun _ h => absurd h List.not_mem_nil)⟩)⟩)⟩)⟩)⟩)⟩), (List.forall_mem_append.mpr ⟨in_wsX10, in_w_s_has2x⟩)⟩)⟩
theorem in_w_s_placeOf1n : ∀ w ∈ w_s_placeOf1n, w ∈ lw_tbl := List.forall_mem_cons.mpr ⟨tw_757, (List.forall_mem_append.mpr ⟨(List.forall_mem_cons.mpr ⟨tw_225, (List.forall_mem_cons.mpr ⟨tw_80, (List.forall_mem_cons.mpr ⟨tw_620, (List.forall_mem_cons.mpr ⟨tw_619, (List.forall_mem_cons.mpr ⟨tw_702, (List.forall_mem_cons.mpr ⟨tw_229, (fun _ h => absurd h List.not_mem_nil)⟩)⟩)⟩)⟩)⟩)⟩), (List.forall_mem_append.mpr ⟨in_wsX10, in_w_s_has2x⟩)⟩)⟩
theorem in_w_s_heldBy1n : ∀ w ∈ w_s_heldBy1n, w ∈ lw_tbl := List.forall_mem_cons.mpr ⟨tw_753, (List.forall_mem_append.mpr ⟨(List.forall_mem_cons.mpr ⟨tw_225, (List.forall_mem_cons.mpr ⟨tw_80, (List.forall_mem_cons.mpr ⟨tw_620, (List.forall_mem_cons.mpr ⟨tw_619, (List.forall_mem_cons.mpr ⟨tw_702, (List.forall_mem_cons.mpr ⟨tw_227, (fun _ h => absurd h List.not_mem_nil)⟩)⟩)⟩)⟩)⟩)⟩), (List.forall_mem_append.mpr ⟨in_wsX10, in_w_s_has2x⟩)⟩)⟩
theorem in_w_s_run9 : ∀ w ∈ w_s_run9, w ∈ lw_tbl := List.forall_mem_cons.mpr ⟨tw_638, (List.forall_mem_append.mpr ⟨(List.forall_mem_cons.mpr ⟨tw_337, (List.forall_mem_cons.mpr ⟨tw_79, (List.forall_mem_cons.mpr ⟨tw_641, (List.forall_mem_cons.mpr ⟨tw_640, (List.forall_mem_cons.mpr ⟨tw_639, (List.forall_mem_cons.mpr ⟨tw_75, (List.forall_mem_cons.mpr ⟨tw_605, (List.forall_mem_cons.mpr ⟨tw_604, (List.forall_mem_cons.mpr ⟨tw_339, (List.forall_mem_cons.mpr ⟨tw_80, (List.forall_mem_cons.mpr ⟨tw_620, (List.forall_mem_cons.mpr ⟨tw_619, (List.forall_mem_cons.mpr ⟨tw_618, (List.forall_mem_cons.mpr ⟨tw_340, (List.forall_mem_cons.mpr ⟨tw_81, (List.forall_mem_cons.mpr ⟨tw_645, (List.forall_mem_cons.mpr ⟨tw_644, (List.forall_mem_cons.mpr ⟨tw_643, (List.forall_mem_cons.mpr ⟨tw_661, (List.forall_mem_cons.mpr ⟨tw_660, (List.forall_mem_cons.mpr ⟨tw_659, (List.forall_mem_cons.mpr ⟨tw_760, (List.forall_mem_cons.mpr ⟨tw_759, (List.forall_mem_cons.mpr ⟨tw_758, (List.forall_mem_cons.mpr ⟨tw_756, (List.forall_mem_cons.mpr ⟨tw_755, (List.forall_mem_cons.mpr ⟨tw_754, (List.forall_mem_cons.mpr ⟨tw_752, (List.forall_mem_cons.mpr ⟨tw_751, (List.forall_mem_cons.mpr ⟨tw_750, (fun _ h => absurd h List.not_mem_nil)⟩)⟩)⟩)⟩)⟩)⟩)⟩)⟩)⟩)⟩)⟩)⟩)⟩)⟩)⟩)⟩)⟩)⟩)⟩)⟩)⟩)⟩)⟩)⟩)⟩)⟩)⟩)⟩)⟩)⟩), (List.forall_mem_append.mpr ⟨in_wsX90, (List.forall_mem_append.mpr ⟨in_w_s_at7y, (List.forall_mem_append.mpr ⟨in_w_s_isIn9, (List.forall_mem_append.mpr ⟨in_w_s_has2x, (List.forall_mem_append.mpr ⟨in_w_s_begin1x, (List.forall_mem_append.mpr ⟨in_w_s_go1x, (List.forall_mem_append.mpr ⟨in_w_s_tellsSince1n, (List.forall_mem_append.mpr ⟨in_w_s_placeOf1n, in_w_s_heldBy1n⟩)⟩)⟩)⟩)⟩)⟩)⟩)⟩)⟩)⟩
theorem in_w_s_isFree10x : ∀ w ∈ w_s_isFree10x, w ∈ lw_tbl := List.forall_mem_cons.mpr ⟨tw_1430, (List.forall_mem_append.mpr ⟨(List.forall_mem_cons.mpr ⟨tw_1120, (List.forall_mem_cons.mpr ⟨tw_85, (List.forall_mem_cons.mpr ⟨tw_1404, (List.forall_mem_cons.mpr ⟨tw_1403, (List.forall_mem_cons.mpr ⟨tw_1108, (fun _ h => absurd h List.not_mem_nil)⟩)⟩)⟩)⟩)⟩), (List.forall_mem_append.mpr ⟨in_wsX100, in_w_s_has10⟩)⟩)⟩
theorem in_w_s_held10x : ∀ w ∈ w_s_held10x, w ∈ lw_tbl := List.forall_mem_cons.mpr ⟨tw_1433, (List.forall_mem_append.mpr ⟨(List.forall_mem_cons.mpr ⟨tw_1434, (List.forall_mem_cons.mpr ⟨tw_450, (List.forall_mem_cons.mpr ⟨tw_88, (List.forall_mem_cons.mpr ⟨tw_451, (List.forall_mem_cons.mpr ⟨tw_1406, (List.forall_mem_cons.mpr ⟨tw_447, (List.forall_mem_cons.mpr ⟨tw_448, (fun _ h => absurd h List.not_mem_nil)⟩)⟩)⟩)⟩)⟩)⟩)⟩), (fun _ h => absurd h List.not_mem_nil)⟩)⟩
theorem in_w_s_chance10x : ∀ w ∈ w_s_chance10x, w ∈ lw_tbl := List.forall_mem_cons.mpr ⟨tw_1438, (List.forall_mem_append.mpr ⟨(List.forall_mem_cons.mpr ⟨tw_1122, (List.forall_mem_cons.mpr ⟨tw_1439, (List.forall_mem_cons.mpr ⟨tw_1440, (List.forall_mem_cons.mpr ⟨tw_1441, (fun _ h => absurd h List.not_mem_nil)⟩)⟩)⟩)⟩), in_wsX100⟩)⟩
theorem in_w_s_goesBy10x : ∀ w ∈ w_s_goesBy10x, w ∈ lw_tbl := List.forall_mem_cons.mpr ⟨tw_1426, (List.forall_mem_append.mpr ⟨(List.forall_mem_cons.mpr ⟨tw_1109, (List.forall_mem_cons.mpr ⟨tw_1121, (List.forall_mem_cons.mpr ⟨tw_85, (List.forall_mem_cons.mpr ⟨tw_59, (List.forall_mem_cons.mpr ⟨tw_1429, (List.forall_mem_cons.mpr ⟨tw_1427, (List.forall_mem_cons.mpr ⟨tw_1111, (List.forall_mem_cons.mpr ⟨tw_1117, (List.forall_mem_cons.mpr ⟨tw_1432, (List.forall_mem_cons.mpr ⟨tw_1431, (List.forall_mem_cons.mpr ⟨tw_1119, (List.forall_mem_cons.mpr ⟨tw_1116, (List.forall_mem_cons.mpr ⟨tw_60, (List.forall_mem_cons.mpr ⟨tw_1437, (List.forall_mem_cons.mpr ⟨tw_1435, (List.forall_mem_cons.mpr ⟨tw_1113, (List.forall_mem_cons.mpr ⟨tw_1114, (List.forall_mem_cons.mpr ⟨tw_1105, (List.forall_mem_cons.mpr ⟨tw_1404, (List.forall_mem_cons.mpr ⟨tw_1403, (List.forall_mem_cons.mpr ⟨tw_1118, (List.forall_mem_cons.mpr ⟨tw_1115, (List.forall_mem_cons.mpr ⟨tw_54, (List.forall_mem_cons.mpr ⟨tw_1401, (List.forall_mem_cons.mpr ⟨tw_1399, (List.forall_mem_cons.mpr ⟨tw_55, (List.forall_mem_cons.mpr ⟨tw_1409, (List.forall_mem_cons.mpr ⟨tw_1407, (fun _ h => absurd h List.not_mem_nil)⟩)⟩)⟩)⟩)⟩)⟩)⟩)⟩)⟩)⟩)⟩)⟩)⟩)⟩)⟩)⟩)⟩)⟩)⟩)⟩)⟩)⟩)⟩)⟩)⟩)⟩)⟩)⟩), (List.forall_mem_append.mpr ⟨in_wsX100, (List.forall_mem_append.mpr ⟨in_w_s_isFree10x, (List.forall_mem_append.mpr ⟨in_w_s_held10x, (List.forall_mem_append.mpr ⟨in_w_s_chance10x, (List.forall_mem_append.mpr ⟨in_w_s_has10, (List.forall_mem_append.mpr ⟨in_w_s_lay10x, in_w_s_worthOf10_0⟩)⟩)⟩)⟩)⟩)⟩)⟩)⟩
theorem in_w_s_goOn10x : ∀ w ∈ w_s_goOn10x, w ∈ lw_tbl := List.forall_mem_cons.mpr ⟨tw_1422, (List.forall_mem_append.mpr ⟨(List.forall_mem_cons.mpr ⟨tw_1121, (List.forall_mem_cons.mpr ⟨tw_85, (List.forall_mem_cons.mpr ⟨tw_58, (List.forall_mem_cons.mpr ⟨tw_1425, (List.forall_mem_cons.mpr ⟨tw_1423, (fun _ h => absurd h List.not_mem_nil)⟩)⟩)⟩)⟩)⟩), (List.forall_mem_append.mpr ⟨in_wsX100, in_w_s_goesBy10x⟩)⟩)⟩
theorem in_w_s_runOf10x : ∀ w ∈ w_s_runOf10x, w ∈ lw_tbl := List.forall_mem_cons.mpr ⟨tw_1418, (List.forall_mem_append.mpr ⟨(List.forall_mem_cons.mpr ⟨tw_85, (List.forall_mem_cons.mpr ⟨tw_53, (List.forall_mem_cons.mpr ⟨tw_1397, (List.forall_mem_cons.mpr ⟨tw_1395, (List.forall_mem_cons.mpr ⟨tw_57, (List.forall_mem_cons.mpr ⟨tw_1421, (List.forall_mem_cons.mpr ⟨tw_1419, (fun _ h => absurd h List.not_mem_nil)⟩)⟩)⟩)⟩)⟩)⟩)⟩), (List.forall_mem_append.mpr ⟨in_w_s_begin10x, in_w_s_goOn10x⟩)⟩)⟩
theorem in_w_s_run10 : ∀ w ∈ w_s_run10, w ∈ lw_tbl := List.forall_mem_cons.mpr ⟨tw_1414, (List.forall_mem_append.mpr ⟨(List.forall_mem_cons.mpr ⟨tw_1083, (List.forall_mem_cons.mpr ⟨tw_85, (List.forall_mem_cons.mpr ⟨tw_51, (List.forall_mem_cons.mpr ⟨tw_1389, (List.forall_mem_cons.mpr ⟨tw_1387, (List.forall_mem_cons.mpr ⟨tw_1265, (List.forall_mem_cons.mpr ⟨tw_1264, (List.forall_mem_cons.mpr ⟨tw_50, (List.forall_mem_cons.mpr ⟨tw_1377, (List.forall_mem_cons.mpr ⟨tw_1375, (List.forall_mem_cons.mpr ⟨tw_52, (List.forall_mem_cons.mpr ⟨tw_1393, (List.forall_mem_cons.mpr ⟨tw_1391, (List.forall_mem_cons.mpr ⟨tw_56, (List.forall_mem_cons.mpr ⟨tw_1417, (List.forall_mem_cons.mpr ⟨tw_1415, (List.forall_mem_cons.mpr ⟨tw_1114, (List.forall_mem_cons.mpr ⟨tw_1113, (List.forall_mem_cons.mpr ⟨tw_1111, (fun _ h => absurd h List.not_mem_nil)⟩)⟩)⟩)⟩)⟩)⟩)⟩)⟩)⟩)⟩)⟩)⟩)⟩)⟩)⟩)⟩)⟩)⟩)⟩), (List.forall_mem_append.mpr ⟨in_wsX100, (List.forall_mem_append.mpr ⟨in_w_s_isLaw10x, (List.forall_mem_append.mpr ⟨in_w_s_isIn10, (List.forall_mem_append.mpr ⟨in_w_s_isPerson10r, (List.forall_mem_append.mpr ⟨in_w_s_every10x, in_w_s_runOf10x⟩)⟩)⟩)⟩)⟩)⟩)⟩
end
section
def R_law : String := "NotEndedLaw"
def lw_Q (_ : Array Value) (s : State) (o : Outcome) (t : State) : Prop := o = .returned (some (.int 1)) ∧ Framed s o t [] 601024 7293034
def lw_Z (below : List Frame) (a : Array Value) (s : State) : State → Prop := fun t => ∃ o, t.status = .running ∧ Ended t below o ∧ lw_Q a s o t
/-- what holds at the law's entry: the machine, the code, the tables' words (any of lw_tbl by 'hts w (by decide +kernel)'), the script of L ints xs at the cell b, what the Statement gives of the start (any of its parts by flat_of_before) -/
def lw_At (p : Program) (s : State) (m : MethodId) (meth : Method) (c : Code) (b L : Nat) (xs : Nat → Int32) : Prop :=
  p.tables.exec = Jvm.exec ∧ c.code = code ∧ meth.sig.returnType = ret ∧ c.maxLocals = 7 ∧ s.vm.findClass R_law = some m.cls ∧ (∀ w ∈ lw_tbl, w.before #[Value.ref b] s = true) ∧ va_X b L xs s s.heap ∧ b < s.heap.size ∧ meth.locks = false ∧ (Jvm.Cond.and given_1 narrow_1).before #[Value.ref b] s = true
theorem kTxBF : ∀ k : Fin 8, kTx [118, 112, 110, 109, 115, 117, 100, 105] k.val = nI (kSg8 k.val) := by decide +kernel
theorem kTxB : ∀ k : Nat, k < 8 → kTx [118, 112, 110, 109, 115, 117, 100, 105] k = nI (kSg8 k) := fun k hk => kTxBF ⟨k, hk⟩
theorem kHzA : kIx (kTx [121, 103, 120]) 3 (nI 0) = 3 := by decide +kernel
theorem kHzB : kIx (kTx [118, 112, 110, 109, 115, 117, 100, 105]) 8 (nI 0) = 8 := by decide +kernel
theorem kHzE : kIx (kTx [119]) 1 (nI 0) = 1 := by decide +kernel
theorem kHzG : kIx (kTx [97, 98, 99, 100, 101]) 5 (nI 0) = 5 := by decide +kernel
theorem kTxGF : ∀ k : Fin 5, kTx [97, 98, 99, 100, 101] k.val = nI (97 + k.val) := by decide +kernel
theorem kTxG : ∀ k : Nat, k < 5 → kTx [97, 98, 99, 100, 101] k = nI (97 + k) := fun k hk => kTxGF ⟨k, hk⟩
theorem kHlB : ∀ c : Fin 256, kIx (kTx [118, 112, 110, 109, 115, 117, 100, 105]) 8 (nI c.val) < 8 → ¬ c.val = 91 ∧ ¬ (48 ≤ c.val ∧ c.val ≤ 57) := by decide +kernel
theorem kHlG : ∀ c : Fin 256, kIx (kTx [97, 98, 99, 100, 101]) 5 (nI c.val) < 5 → ¬ c.val = 91 ∧ ¬ (48 ≤ c.val ∧ c.val ≤ 57) := by decide +kernel
/-- what the law knows of the launch beside the tables -/
def kLaw (ad bt : Nat → Nat) (s : State) : Prop := kNew ad s ∧ kTxt ad (bt 1) 3 (kTx [121, 103, 120]) (bt 3) 8 (kTx [118, 112, 110, 109, 115, 117, 100, 105]) (bt 2) 1 (kTx [119]) (bt 4) 5 (kTx [97, 98, 99, 100, 101]) (fun q : Nat => s.heap.size ≤ q) s ∧ kMx ad (bt 5) 3 (kTx [121, 103, 120]) (bt 7) 8 (kTx [118, 112, 110, 109, 115, 117, 100, 105]) (bt 6) 1 (kTx [119]) (bt 8) 5 (kTx [97, 98, 99, 100, 101]) (fun q : Nat => s.heap.size ≤ q) s ∧ kThr (fun q : Nat => s.heap.size ≤ q) s
theorem kTx_b {l : List Int32} (h : ∀ j : Fin 8, ∃ v : Fin 128, kTx l j.val = nI v.val) (hl : l.length ≤ 8 := by decide) : ∀ k : Nat, ∃ v : Nat, v < 128 ∧ kTx l k = nI v := fun k => by
  by_cases hk : k < 8
  · obtain ⟨v, e⟩ := h ⟨k, hk⟩
    exact ⟨v.val, v.isLt, e⟩
  · refine ⟨0, by omega, ?_⟩
    unfold kTx
    rw [List.getD_eq_getElem?_getD, List.getElem?_eq_none (by omega)]
    rfl
/-- the texts on a shelf, at the law: each rule's cells lie in the heap, and none of them is one of the named cells -/
def kShL (dC : Nat → ClassId) (dI : Nat → Nat → Nat) (kl : Nat) (gL : Nat → Option Nat) (yL : Nat → List kTr) (M9 : Nat) (WA : List Nat) (s : State) (H : Heap) : Prop := ∀ j : Nat, j < kl → ∃ (ru sA cl : Nat) (cS cc : ClassId) (nS nC : Nat) (gS gC : Nat → Int32), gL j = some ru ∧ kRu (yL j) M9 nS nC gS gC ∧ nS ≤ 200 ∧ nC ≤ 200 ∧ va_K (dC, dI) vwCl [(cS, .int), (cc, .int)] s ∧ va_P (dC, dI) vwCl [(ru, .inr (6, [.ref sA, .ref cl])), (sA, .inl (cS, nS, .inl gS)), (cl, .inl (cc, nC, .inl gC))] H ∧ ¬ ru ∈ WA ∧ ¬ sA ∈ WA ∧ ¬ cl ∈ WA
theorem kWA {WA : List Nat} {Wc : va_W} (isC : List Nat) (hC : isC.map (fun i => WA[i]?) = Wc.map (fun z => some z.1)) {k : Nat} {q : Nat} {e : va_E} (h : Wc[k]? = some (q, e)) : q ∈ WA := by
  have h1 : (Wc.map (fun z => some z.1))[k]? = some (some q) := by rw [List.getElem?_map, h]; rfl
  rw [← hC, List.getElem?_map] at h1
  cases hj : isC[k]? with
  | none => rw [hj] at h1; cases h1
  | some j => rw [hj] at h1; exact List.mem_of_getElem? (Option.some.inj h1)
theorem kShL_not {WA : List Nat} {Wc : va_W} (isC : List Nat) (hC : isC.map (fun i => WA[i]?) = Wc.map (fun z => some z.1)) {n q : Nat} (hq : ¬ q ∈ WA) (hl : q < n) : ¬ va_A Wc n q := fun z => by
  rcases z with ⟨k, e, h⟩ | h
  · exact hq (kWA isC hC h)
  · omega
theorem kRZ3 {ru sA cl : Nat} {cS cc : ClassId} {nS nC : Nat} {gS gC : Nat → Int32} {P : Nat → Prop} (h1 : P ru) (h2 : P sA) (h3 : P cl) : ∀ (k : Nat) (q : Nat × va_E), ([(ru, .inr (6, [.ref sA, .ref cl])), (sA, .inl (cS, nS, .inl gS)), (cl, .inl (cc, nC, .inl gC))] : va_W)[k]? = some q → P q.1 := fun k q h => by
  match k, h with
  | 0, h => cases h; exact h1
  | 1, h => cases h; exact h2
  | 2, h => cases h; exact h3
  | k + 3, h => simp at h
theorem kShL_use {dC : Nat → ClassId} {dI : Nat → Nat → Nat} {kl : Nat} {gL : Nat → Option Nat} {yL : Nat → List kTr} {M9 : Nat} {WA : List Nat} {s : State} {H : Heap} (h : kShL dC dI kl gL yL M9 WA s H) {Wc : va_W} (isC : List Nat) (hC : isC.map (fun i => WA[i]?) = Wc.map (fun z => some z.1)) : ∀ U : State, U.heap = H → s.WarmedH U.vm → kSh dC dI kl gL yL M9 (va_A Wc H.size) U := fun U hU hW j hj => by
  obtain ⟨ru, sA, cl, cS, cc, nS, nC, gS, gC, e1, hy, h1, h2, h3, h4, h5, h6, h7⟩ := h j hj
  exact ⟨ru, sA, cl, cS, cc, nS, nC, gS, gC, e1, hy, h1, h2, va_K.moved hW.alike h3, by rw [hU]; exact h4, kRZ3 (P := fun z => ¬ va_A Wc H.size z) (kShL_not isC hC h5 (h4 0 _ rfl).lt) (kShL_not isC hC h6 (h4 1 _ rfl).lt) (kShL_not isC hC h7 (h4 2 _ rfl).lt)⟩
theorem kShL_keep {dC : Nat → ClassId} {dI : Nat → Nat → Nat} {kl : Nat} {gL : Nat → Option Nat} {yL : Nat → List kTr} {M9 : Nat} {WA : List Nat} {s : State} {H H1 : Heap} (h : kShL dC dI kl gL yL M9 WA s H) {Wc : va_W} (isC : List Nat) (hC : isC.map (fun i => WA[i]?) = Wc.map (fun z => some z.1)) (hk : ∀ q : Nat, q < H.size → ¬ va_A Wc H.size q → H1[q]? = H[q]?) : kShL dC dI kl gL yL M9 WA s H1 := fun j hj => by
  obtain ⟨ru, sA, cl, cS, cc, nS, nC, gS, gC, e1, hy, h1, h2, h3, h4, h5, h6, h7⟩ := h j hj
  exact ⟨ru, sA, cl, cS, cc, nS, nC, gS, gC, e1, hy, h1, h2, h3, h4.kept (fun k q hq => hk q.1 (h4 k q hq).lt (kRZ3 (P := fun z => ¬ va_A Wc H.size z) (kShL_not isC hC h5 (h4 0 _ rfl).lt) (kShL_not isC hC h6 (h4 1 _ rfl).lt) (kShL_not isC hC h7 (h4 2 _ rfl).lt) k q hq)), h5, h6, h7⟩
theorem kPub_law {dC : Nat → ClassId} {dI : Nat → Nat → Nat} {kl ku : Nat} {gL gU : Nat → Option Nat} {yL yU : Nat → List kTr} {WA : List Nat} {s : State} {H : Heap} (h1 : kShL dC dI kl gL yL 8 WA s H) (h2 : kShL dC dI ku gU yU 5 WA s H) (h3 : kNL s) {Wc : va_W} (isC : List Nat) (hC : isC.map (fun i => WA[i]?) = Wc.map (fun z => some z.1)) : ∀ U : State, U.heap = H → s.WarmedH U.vm → kPub dC dI kl gL yL ku gU yU (va_A Wc H.size) U := fun U hU hW => ⟨⟨kShL_use h1 isC hC U hU hW, kShL_use h2 isC hC U hU hW⟩, kNL_give h3 U hU hW⟩
theorem kPubT_law {dC : Nat → ClassId} {dI : Nat → Nat → Nat} {kl ku : Nat} {gL gU : Nat → Option Nat} {yL yU : Nat → List kTr} {WA : List Nat} {s : State} {H : Heap} {locs : List Loc} (h1 : kShL dC dI kl gL yL 8 WA s H) (h2 : kShL dC dI ku gU yU 5 WA s H) (h3 : kNL s) (h4 : kThr (fun q : Nat => s.heap.size ≤ q) s) {Wc : va_W} (isC : List Nat) (hC : isC.map (fun i => WA[i]?) = Wc.map (fun z => some z.1)) (hS : va_S (fun q : Nat => s.heap.size ≤ q) s.heap H locs) (hF : ∀ q, va_A Wc H.size q → (fun q : Nat => s.heap.size ≤ q) q) : ∀ U : State, U.heap = H → s.WarmedH U.vm → kPubT dC dI kl gL yL ku gU yU (va_A Wc H.size) U := fun U hU hW => ⟨kPub_law h1 h2 h3 isC hC U hU hW, kThr_narrow (kThr_give h4 hS U hU hW) hF⟩
theorem kNpM {ps ps1 kn : Nat} {f : Nat → Int32} (h : ps ≤ ps1) (hN : ∀ k : Nat, k < kn → ∃ v : Nat, v < ps ∧ f k = nI v) : ∀ k : Nat, k < kn → ∃ v : Nat, v < ps1 ∧ f k = nI v := fun k hk => by
  obtain ⟨v, h1, h2⟩ := hN k hk
  exact ⟨v, by omega, h2⟩
theorem kSaM {ps ku ku1 : Nat} {f : Nat → Int32} (h : ku ≤ ku1) (hN : ∀ q : Nat, q < ps → ¬ f q = -1 → ∃ t : Nat, t < ku ∧ f q = nI t) : ∀ q : Nat, q < ps → ¬ f q = -1 → ∃ t : Nat, t < ku1 ∧ f q = nI t := fun k hk hn => by
  obtain ⟨v, h1, h2⟩ := hN k hk hn
  exact ⟨v, by omega, h2⟩
theorem kWordN_le {p : Int32} {kw : Nat} (h : kw ≤ 4) : kWordN p kw ≤ 4 := by
  unfold kWordN
  split
  · exact h
  · split <;> omega
/-- what holds at the loop's head -/
def kInv (dC : Nat → ClassId) (dI : Nat → Nat → Nat) (jX : Nat) (jC : Nat) (d2 : Nat) (d3 : Nat) (d4 : Nat) (d5 : Nat) (d6 : Nat) (d7 : Nat) (d8 : Nat) (d9 : Nat) (d10 : Nat) (d11 : Nat) (d12 : Nat) (d13 : Nat) (hF : Nat) (f0 : Nat) (f1 : Nat) (f2 : Nat) (f3 : Nat) (f4 : Nat) (jK : Nat) (k0 : Nat) (k1 : Nat) (hN : Nat) (o0 : Nat) (o1 : Nat) (o2 : Nat) (o3 : Nat) (o4 : Nat) (jA : Nat) (i0 : Nat) (i1 : Nat) (i2 : Nat) (i3 : Nat) (jL : Nat) (rL : Nat) (jU : Nat) (rU : Nat) (sd : Nat) (jR : Nat) (r1 : Nat) (r2 : Nat) (jT : Nat) (tz0 : Nat) (jM : Nat) (m1 : Nat) (m2 : Nat) (m3 : Nat) (m4 : Nat) (m19 : Nat) (m20 : Nat) (m21 : Nat) (m22 : Nat) (m23 : Nat) (m24 : Nat) (m25 : Nat) (m28 : Nat) (m29 : Nat) (m30 : Nat) (m31 : Nat) (m32 : Nat) (m33 : Nat) (m34 : Nat) (m35 : Nat) (m36 : Nat) (m40 : Nat) (m41 : Nat) (m42 : Nat) (m43 : Nat) (m44 : Nat) (m46 : Nat) (m47 : Nat) (m48 : Nat) (m49 : Nat) (m50 : Nat) (oo : Nat) (w2 : ClassId) (w3 : ClassId) (w4 : ClassId) (w5 : ClassId) (w6 : ClassId) (w7 : ClassId) (w8 : ClassId) (w9 : ClassId) (w10 : ClassId) (w11 : ClassId) (w12 : ClassId) (w13 : ClassId) (z0 : ClassId) (z1 : ClassId) (z2 : ClassId) (z3 : ClassId) (z4 : ClassId) (cK : ClassId) (cO : ClassId) (y0 : ClassId) (y1 : ClassId) (y2 : ClassId) (y3 : ClassId) (y4 : ClassId) (x0 : ClassId) (x1 : ClassId) (x2 : ClassId) (x3 : ClassId) (cL : ClassId) (cU : ClassId) (cD : ClassId) (c1 : ClassId) (c2 : ClassId) (cC : ClassId) (mc1 : ClassId) (mc2 : ClassId) (mc3 : ClassId) (mc4 : ClassId) (mc19 : ClassId) (mc20 : ClassId) (mc21 : ClassId) (mc22 : ClassId) (mc23 : ClassId) (mc24 : ClassId) (mc25 : ClassId) (mc28 : ClassId) (mc29 : ClassId) (mc30 : ClassId) (mc31 : ClassId) (mc32 : ClassId) (mc33 : ClassId) (mc34 : ClassId) (mc35 : ClassId) (mc36 : ClassId) (mc40 : ClassId) (mc41 : ClassId) (mc42 : ClassId) (mc43 : ClassId) (mc44 : ClassId) (mc46 : ClassId) (mc47 : ClassId) (mc48 : ClassId) (mc49 : ClassId) (mc50 : ClassId) (cOo : ClassId) (b : Nat) (s : State) (i : Nat) (H : Heap) (locs : List Loc) (cells slots : Nat) (ls : Array Slot) : Prop := ∀ C9 : Prop, (∀ (lw : Value) (e2 : Nat → Int32) (e3 : Nat → Int32) (e4 : Nat → Int32) (e5 : Nat → Int32) (e6 : Nat → Int32) (e7 : Nat → Int32) (e8 : Nat → Int32) (e9 : Nat → Int32) (e10 : Nat → Int32) (e11 : Nat → Int32) (e12 : Nat → Int32) (e13 : Nat → Int64) (cdr : Int64) (cpr : Int32) (cmo : Int32) (cho : Int32) (g0 : Nat → Int32) (g1 : Nat → Int32) (g2 : Nat → Int32) (g3 : Nat → Int32) (g4 : Nat → Int32) (sv : Nat) (ks : Nat) (kw : Nat) (l0 : Nat → Int32) (l1 : Nat → Int32) (q0 : Nat → Int32) (q1 : Nat → Int32) (q2 : Nat → Int32) (q3 : Nat → Int32) (q4 : Nat → Int32) (kn : Nat) (ta0 : Nat → Int32) (ta1 : Nat → Int32) (ta2 : Nat → Int32) (ta3 : Nat → Int32) (ka : Nat) (gL : Nat → Option Nat) (kl : Nat) (gU : Nat → Option Nat) (ku : Nat) (gD : Nat → Int32) (gTp : Nat → Int32) (kt : Nat) (s1 : Nat → Int32) (s2 : Nat → Int32) (wr : Nat) (fi : Nat) (rpl : Int32) (rv6 : Value) (rv7 : Value) (th : Int32) (thr : Int32) (xx : Int64) (v5 : Value) (v9 : Value) (v10 : Value) (v11 : Value) (v12 : Value) (v13 : Value) (v14 : Value) (v15 : Value) (v16 : Value) (v17 : Value) (v18 : Value) (mf1 : Nat → Int32) (mf2 : Nat → Int32) (mf3 : Nat → Int32) (mf4 : Nat → Int32) (mf19 : Nat → Int32) (mf20 : Nat → Int32) (mf21 : Nat → Int32) (mf22 : Nat → Int32) (mf23 : Nat → Int32) (mf24 : Nat → Int32) (mf25 : Nat → Int32) (mf28 : Nat → Int32) (mf29 : Nat → Int32) (mf30 : Nat → Int32) (mf31 : Nat → Int32) (mf32 : Nat → Int32) (mf33 : Nat → Int32) (mf34 : Nat → Int32) (mf35 : Nat → Int32) (mf36 : Nat → Int32) (mf40 : Nat → Int32) (mf41 : Nat → Int32) (mf42 : Nat → Int32) (mf43 : Nat → Int32) (mf44 : Nat → Int32) (mf46 : Nat → Int64) (mf47 : Nat → Int32) (mf48 : Nat → Int32) (mf49 : Nat → Int32) (mf50 : Nat → Int32) (ho : Nat) (fo : Nat → Int64) (tb : Nat → Nat) (yL : Nat → List kTr) (yU : Nat → List kTr), (ks ≤ 10) → (kw ≤ 4) → (sv < 1024) → (kn ≤ 20) → (ka ≤ 6) → (kl ≤ 6) → (ku ≤ 8) → (kt ≤ 120) → (wr ≤ 120) → (fi ≤ 124) → (∀ j : Nat, gTp j = nI (tb j)) → (∀ j : Nat, tb j < 256) → (∀ j : Nat, j < kt → 1 ≤ tb j) → (∀ j : Nat, mf1 j = kSg (tb j)) → (ho ≤ 48) → (∀ q : Nat, q < ks → ¬ mf23 q = -1 → ∃ t : Nat, t < ku ∧ mf23 q = nI t) → (∀ k : Nat, k < kn → ∃ v : Nat, v < ks ∧ mf40 k = nI v) → (kUn mf2 mf3 0 kl (kTx [121, 103, 120]) 3 (kTx [118, 112, 110, 109, 115, 117, 100, 105]) 8 yL) → (kUn mf2 mf3 6 ku (kTx [119]) 1 (kTx [97, 98, 99, 100, 101]) 5 yU) → (∀ j : Nat, j < ks → (mf25 j = 0 ↔ kIsB (nI sv) (nI j) = 0)) → (sv < 2 ^ ks) → (kT0 ks kw g0 g1 g2 g3 g4 mf19 mf20 mf21 mf22 mf24) → kPD dC dI (fun q : Nat => s.heap.size ≤ q) [(jX, .inr (9, [.ref jT, .ref jR, .ref jK, .ref jL, .ref jU, .ref hF, .ref jC, .ref hN, .ref jA, .ref sd])), (jC, .inr (1, [.ref hF, .ref jK, .ref d2, .ref d3, .ref d4, .ref d5, .ref d6, .ref d7, .ref d8, .ref d9, .ref d10, .ref d11, .ref d12, .ref d13, lw, .long cdr, .int cpr, .int cmo, .int cho])), (d2, .inl (w2, 10, .inl e2)), (d3, .inl (w3, 10, .inl e3)), (d4, .inl (w4, 10, .inl e4)), (d5, .inl (w5, 10, .inl e5)), (d6, .inl (w6, 10, .inl e6)), (d7, .inl (w7, 10, .inl e7)), (d8, .inl (w8, 10, .inl e8)), (d9, .inl (w9, 10, .inl e9)), (d10, .inl (w10, 4, .inl e10)), (d11, .inl (w11, 4, .inl e11)), (d12, .inl (w12, 4, .inl e12)), (d13, .inl (w13, 9, .inr (.inl e13))), (hF, .inr (2, [.ref f0, .ref f1, .ref f2, .ref f3, .ref f4, .int (nI (sv)), .int (nI (ks)), .int (nI (kw))])), (f0, .inl (z0, 10, .inl g0)), (f1, .inl (z1, 10, .inl g1)), (f2, .inl (z2, 10, .inl g2)), (f3, .inl (z3, 10, .inl g3)), (f4, .inl (z4, 4, .inl g4)), (jK, .inr (5, [.ref k0, .ref k1])), (k0, .inl (cK, 8, .inl l0)), (k1, .inl (cO, 32, .inl l1)), (hN, .inr (3, [.ref o0, .ref o1, .ref o2, .ref o3, .ref o4, .int (nI (kn))])), (o0, .inl (y0, 20, .inl q0)), (o1, .inl (y1, 20, .inl q1)), (o2, .inl (y2, 20, .inl q2)), (o3, .inl (y3, 20, .inl q3)), (o4, .inl (y4, 20, .inl q4)), (jA, .inr (0, [.ref i0, .ref i1, .ref i2, .ref i3, .int (nI (ka))])), (i0, .inl (x0, 6, .inl ta0)), (i1, .inl (x1, 6, .inl ta1)), (i2, .inl (x2, 6, .inl ta2)), (i3, .inl (x3, 6, .inl ta3)), (jL, .inr (7, [.ref rL, .int (nI (kl))])), (rL, .inl (cL, 6, .inr (.inr (.inr (.inr gL))))), (jU, .inr (7, [.ref rU, .int (nI (ku))])), (rU, .inl (cU, 8, .inr (.inr (.inr (.inr gU))))), (sd, .inl (cD, 10, .inl gD)), (jR, .inr (4, [.ref jT, .ref r1, .ref r2, .int (nI (wr)), .int (nI (fi)), .int rpl, rv6, rv7])), (r1, .inl (c1, 120, .inl s1)), (r2, .inl (c2, 124, .inl s2)), (jT, .inr (8, [.ref tz0, .int (nI (kt))])), (tz0, .inl (cC, 120, .inl gTp)), (jM, .inr (10, [.int th, .ref m1, .ref m2, .ref m3, .ref m4, v5, .int (nI (kt)), .int (nI (kl)), .int (nI (ku)), v9, v10, v11, v12, v13, v14, v15, v16, v17, v18, .ref m19, .ref m20, .ref m21, .ref m22, .ref m23, .ref m24, .ref m25, .int (nI (ks)), .int (nI (kw)), .ref m28, .ref m29, .ref m30, .ref m31, .ref m32, .ref m33, .ref m34, .ref m35, .ref m36, .int thr, .int (nI (ho)), .long xx, .ref m40, .ref m41, .ref m42, .ref m43, .ref m44, .int (nI (kn)), .ref m46, .ref m47, .ref m48, .ref m49, .ref m50, .int (nI (ka))])), (m1, .inl (mc1, 120, .inl mf1)), (m2, .inl (mc2, 1680, .inl mf2)), (m3, .inl (mc3, 14, .inl mf3)), (m4, .inl (mc4, 128, .inl mf4)), (m19, .inl (mc19, 10, .inl mf19)), (m20, .inl (mc20, 10, .inl mf20)), (m21, .inl (mc21, 10, .inl mf21)), (m22, .inl (mc22, 10, .inl mf22)), (m23, .inl (mc23, 10, .inl mf23)), (m24, .inl (mc24, 4, .inl mf24)), (m25, .inl (mc25, 10, .inl mf25)), (m28, .inl (mc28, 10, .inl mf28)), (m29, .inl (mc29, 10, .inl mf29)), (m30, .inl (mc30, 10, .inl mf30)), (m31, .inl (mc31, 10, .inl mf31)), (m32, .inl (mc32, 10, .inl mf32)), (m33, .inl (mc33, 10, .inl mf33)), (m34, .inl (mc34, 10, .inl mf34)), (m35, .inl (mc35, 10, .inl mf35)), (m36, .inl (mc36, 10, .inl mf36)), (m40, .inl (mc40, 20, .inl mf40)), (m41, .inl (mc41, 20, .inl mf41)), (m42, .inl (mc42, 20, .inl mf42)), (m43, .inl (mc43, 20, .inl mf43)), (m44, .inl (mc44, 20, .inl mf44)), (m46, .inl (mc46, 14, .inr (.inl mf46))), (m47, .inl (mc47, 6, .inl mf47)), (m48, .inl (mc48, 6, .inl mf48)), (m49, .inl (mc49, 6, .inl mf49)), (m50, .inl (mc50, 6, .inl mf50)), (oo, .inl (cOo, 1, .inr (.inl fo)))] H → va_S (fun q : Nat => s.heap.size ≤ q) s.heap H locs → kShL dC dI kl gL yL 8 [jX, jC, d2, d3, d4, d5, d6, d7, d8, d9, d10, d11, d12, d13, hF, f0, f1, f2, f3, f4, jK, k0, k1, hN, o0, o1, o2, o3, o4, jA, i0, i1, i2, i3, jL, rL, jU, rU, sd, jR, r1, r2, jT, tz0, jM, m1, m2, m3, m4, m19, m20, m21, m22, m23, m24, m25, m28, m29, m30, m31, m32, m33, m34, m35, m36, m40, m41, m42, m43, m44, m46, m47, m48, m49, m50, oo] s H → kShL dC dI ku gU yU 5 [jX, jC, d2, d3, d4, d5, d6, d7, d8, d9, d10, d11, d12, d13, hF, f0, f1, f2, f3, f4, jK, k0, k1, hN, o0, o1, o2, o3, o4, jA, i0, i1, i2, i3, jL, rL, jU, rU, sd, jR, r1, r2, jT, tz0, jM, m1, m2, m3, m4, m19, m20, m21, m22, m23, m24, m25, m28, m29, m30, m31, m32, m33, m34, m35, m36, m40, m41, m42, m43, m44, m46, m47, m48, m49, m50, oo] s H → lv_has ls 7 [(4, .int (nI (i))), (3, .ref oo), (2, .ref jM), (1, .ref jX), (0, .ref b)] → cells ≤ 1000 + 3 * i → slots ≤ 9000 + 402 * i → C9) → C9
end
section
theorem dL_law_1791 : decode cL_law 1791 = .ok (.iinc 4 7, 3) := by decide +kernel
theorem dL_law_1794 : decode cL_law 1794 = .ok (.goto (-1771), 3) := by decide +kernel
end
section
theorem dL_law_422 : decode cL_law 422 = .ok (.aload_n 1, 1) := by decide +kernel
theorem dL_law_423 : decode cL_law 423 = .ok (.aload_n 0, 1) := by decide +kernel
theorem dL_law_424 : decode cL_law 424 = .ok (.iload 4, 2) := by decide +kernel
theorem dL_law_426 : decode cL_law 426 = .ok (.iconst 1, 1) := by decide +kernel
theorem dL_law_427 : decode cL_law 427 = .ok (.iadd, 1) := by decide +kernel
theorem dL_law_428 : decode cL_law 428 = .ok (.iaload, 1) := by decide +kernel
theorem dL_law_429 : decode cL_law 429 = .ok (.invokevirtual 48, 3) := by decide +kernel
theorem dL_law_432 : decode cL_law 432 = .ok (.pop, 1) := by decide +kernel
theorem dL_law_433 : decode cL_law 433 = .ok (.aload_n 2, 1) := by decide +kernel
theorem dL_law_434 : decode cL_law 434 = .ok (.aload_n 0, 1) := by decide +kernel
theorem dL_law_435 : decode cL_law 435 = .ok (.iload 4, 2) := by decide +kernel
theorem dL_law_437 : decode cL_law 437 = .ok (.iconst 1, 1) := by decide +kernel
theorem dL_law_438 : decode cL_law 438 = .ok (.iadd, 1) := by decide +kernel
theorem dL_law_439 : decode cL_law 439 = .ok (.iaload, 1) := by decide +kernel
theorem dL_law_440 : decode cL_law 440 = .ok (.invokevirtual 51, 3) := by decide +kernel
theorem dL_law_443 : decode cL_law 443 = .ok (.pop, 1) := by decide +kernel
theorem dL_law_444 : decode cL_law 444 = .ok (.goto 1347, 3) := by decide +kernel
set_option maxHeartbeats 4000000 in
set_option maxRecDepth 100000 in
theorem law_6 {p : Program} {l : Launch} {e : Env} {s : State} {m : MethodId} {below : List Frame} {meth : Method} {c : Code} {b L : Nat} {xs : Nat → Int32} {dC : Nat → ClassId} {dI : Nat → Nat → Nat} {ad bt : Nat → Nat} {jX : Nat} {jC : Nat} {d2 : Nat} {d3 : Nat} {d4 : Nat} {d5 : Nat} {d6 : Nat} {d7 : Nat} {d8 : Nat} {d9 : Nat} {d10 : Nat} {d11 : Nat} {d12 : Nat} {d13 : Nat} {hF : Nat} {f0 : Nat} {f1 : Nat} {f2 : Nat} {f3 : Nat} {f4 : Nat} {jK : Nat} {k0 : Nat} {k1 : Nat} {hN : Nat} {o0 : Nat} {o1 : Nat} {o2 : Nat} {o3 : Nat} {o4 : Nat} {jA : Nat} {i0 : Nat} {i1 : Nat} {i2 : Nat} {i3 : Nat} {jL : Nat} {rL : Nat} {jU : Nat} {rU : Nat} {sd : Nat} {jR : Nat} {r1 : Nat} {r2 : Nat} {jT : Nat} {tz0 : Nat} {jM : Nat} {m1 : Nat} {m2 : Nat} {m3 : Nat} {m4 : Nat} {m19 : Nat} {m20 : Nat} {m21 : Nat} {m22 : Nat} {m23 : Nat} {m24 : Nat} {m25 : Nat} {m28 : Nat} {m29 : Nat} {m30 : Nat} {m31 : Nat} {m32 : Nat} {m33 : Nat} {m34 : Nat} {m35 : Nat} {m36 : Nat} {m40 : Nat} {m41 : Nat} {m42 : Nat} {m43 : Nat} {m44 : Nat} {m46 : Nat} {m47 : Nat} {m48 : Nat} {m49 : Nat} {m50 : Nat} {oo : Nat} {w2 : ClassId} {w3 : ClassId} {w4 : ClassId} {w5 : ClassId} {w6 : ClassId} {w7 : ClassId} {w8 : ClassId} {w9 : ClassId} {w10 : ClassId} {w11 : ClassId} {w12 : ClassId} {w13 : ClassId} {z0 : ClassId} {z1 : ClassId} {z2 : ClassId} {z3 : ClassId} {z4 : ClassId} {cK : ClassId} {cO : ClassId} {y0 : ClassId} {y1 : ClassId} {y2 : ClassId} {y3 : ClassId} {y4 : ClassId} {x0 : ClassId} {x1 : ClassId} {x2 : ClassId} {x3 : ClassId} {cL : ClassId} {cU : ClassId} {cD : ClassId} {c1 : ClassId} {c2 : ClassId} {cC : ClassId} {mc1 : ClassId} {mc2 : ClassId} {mc3 : ClassId} {mc4 : ClassId} {mc19 : ClassId} {mc20 : ClassId} {mc21 : ClassId} {mc22 : ClassId} {mc23 : ClassId} {mc24 : ClassId} {mc25 : ClassId} {mc28 : ClassId} {mc29 : ClassId} {mc30 : ClassId} {mc31 : ClassId} {mc32 : ClassId} {mc33 : ClassId} {mc34 : ClassId} {mc35 : ClassId} {mc36 : ClassId} {mc40 : ClassId} {mc41 : ClassId} {mc42 : ClassId} {mc43 : ClassId} {mc44 : ClassId} {mc46 : ClassId} {mc47 : ClassId} {mc48 : ClassId} {mc49 : ClassId} {mc50 : ClassId} {cOo : ClassId} (hlt : l.stackTraces = false) (C0 : lw_At p s m meth c b L xs) (hXX : kLaw ad bt s) (hK : va_K (dC, dI) vwCl [(w2, .int), (w3, .int), (w4, .int), (w5, .int), (w6, .int), (w7, .int), (w8, .int), (w9, .int), (w10, .int), (w11, .int), (w12, .int), (w13, .long), (z0, .int), (z1, .int), (z2, .int), (z3, .int), (z4, .int), (cK, .int), (cO, .int), (y0, .int), (y1, .int), (y2, .int), (y3, .int), (y4, .int), (x0, .int), (x1, .int), (x2, .int), (x3, .int), (cL, .object RX6), (cU, .object RX6), (cD, .int), (c1, .int), (c2, .int), (cC, .char), (mc1, .byte), (mc2, .byte), (mc3, .int), (mc4, .int), (mc19, .int), (mc20, .int), (mc21, .int), (mc22, .int), (mc23, .int), (mc24, .int), (mc25, .boolean), (mc28, .int), (mc29, .int), (mc30, .int), (mc31, .int), (mc32, .int), (mc33, .int), (mc34, .int), (mc35, .int), (mc36, .int), (mc40, .int), (mc41, .int), (mc42, .int), (mc43, .int), (mc44, .int), (mc46, .long), (mc47, .int), (mc48, .int), (mc49, .int), (mc50, .int), (cOo, .long)] s) (hL : L ≤ 3584) {i : Nat} (hi : i + 7 ≤ L) (ih : ∀ (H : Heap) (locs : List Loc) (cells slots : Nat) (ls : Array Slot), kInv dC dI jX jC d2 d3 d4 d5 d6 d7 d8 d9 d10 d11 d12 d13 hF f0 f1 f2 f3 f4 jK k0 k1 hN o0 o1 o2 o3 o4 jA i0 i1 i2 i3 jL rL jU rU sd jR r1 r2 jT tz0 jM m1 m2 m3 m4 m19 m20 m21 m22 m23 m24 m25 m28 m29 m30 m31 m32 m33 m34 m35 m36 m40 m41 m42 m43 m44 m46 m47 m48 m49 m50 oo w2 w3 w4 w5 w6 w7 w8 w9 w10 w11 w12 w13 z0 z1 z2 z3 z4 cK cO y0 y1 y2 y3 y4 x0 x1 x2 x3 cL cU cD c1 c2 cC mc1 mc2 mc3 mc4 mc19 mc20 mc21 mc22 mc23 mc24 mc25 mc28 mc29 mc30 mc31 mc32 mc33 mc34 mc35 mc36 mc40 mc41 mc42 mc43 mc44 mc46 mc47 mc48 mc49 mc50 cOo b s (i + 7) H locs cells slots ls → W p l e room_1 s m #[Value.ref b] below meth c H locs cells slots (lw_Z below #[Value.ref b] s) (F0 m 23 ls [])) {lw : Value} {e2 : Nat → Int32} {e3 : Nat → Int32} {e4 : Nat → Int32} {e5 : Nat → Int32} {e6 : Nat → Int32} {e7 : Nat → Int32} {e8 : Nat → Int32} {e9 : Nat → Int32} {e10 : Nat → Int32} {e11 : Nat → Int32} {e12 : Nat → Int32} {e13 : Nat → Int64} {cdr : Int64} {cpr : Int32} {cmo : Int32} {cho : Int32} {g0 : Nat → Int32} {g1 : Nat → Int32} {g2 : Nat → Int32} {g3 : Nat → Int32} {g4 : Nat → Int32} {sv : Nat} {ks : Nat} {kw : Nat} {l0 : Nat → Int32} {l1 : Nat → Int32} {q0 : Nat → Int32} {q1 : Nat → Int32} {q2 : Nat → Int32} {q3 : Nat → Int32} {q4 : Nat → Int32} {kn : Nat} {ta0 : Nat → Int32} {ta1 : Nat → Int32} {ta2 : Nat → Int32} {ta3 : Nat → Int32} {ka : Nat} {gL : Nat → Option Nat} {kl : Nat} {gU : Nat → Option Nat} {ku : Nat} {gD : Nat → Int32} {gTp : Nat → Int32} {kt : Nat} {s1 : Nat → Int32} {s2 : Nat → Int32} {wr : Nat} {fi : Nat} {rpl : Int32} {rv6 : Value} {rv7 : Value} {th : Int32} {thr : Int32} {xx : Int64} {v5 : Value} {v9 : Value} {v10 : Value} {v11 : Value} {v12 : Value} {v13 : Value} {v14 : Value} {v15 : Value} {v16 : Value} {v17 : Value} {v18 : Value} {mf1 : Nat → Int32} {mf2 : Nat → Int32} {mf3 : Nat → Int32} {mf4 : Nat → Int32} {mf19 : Nat → Int32} {mf20 : Nat → Int32} {mf21 : Nat → Int32} {mf22 : Nat → Int32} {mf23 : Nat → Int32} {mf24 : Nat → Int32} {mf25 : Nat → Int32} {mf28 : Nat → Int32} {mf29 : Nat → Int32} {mf30 : Nat → Int32} {mf31 : Nat → Int32} {mf32 : Nat → Int32} {mf33 : Nat → Int32} {mf34 : Nat → Int32} {mf35 : Nat → Int32} {mf36 : Nat → Int32} {mf40 : Nat → Int32} {mf41 : Nat → Int32} {mf42 : Nat → Int32} {mf43 : Nat → Int32} {mf44 : Nat → Int32} {mf46 : Nat → Int64} {mf47 : Nat → Int32} {mf48 : Nat → Int32} {mf49 : Nat → Int32} {mf50 : Nat → Int32} {ho : Nat} {fo : Nat → Int64} {tb : Nat → Nat} {yL : Nat → List kTr} {yU : Nat → List kTr} (hks : ks ≤ 10) (hkw : kw ≤ 4) (hsv : sv < 1024) (hkn : kn ≤ 20) (hka : ka ≤ 6) (hkl : kl ≤ 6) (hku : ku ≤ 8) (hkt : kt ≤ 120) (hwr : wr ≤ 120) (hfi : fi ≤ 124) (hbt : ∀ j : Nat, gTp j = nI (tb j)) (hb8 : ∀ j : Nat, tb j < 256) (hb1 : ∀ j : Nat, j < kt → 1 ≤ tb j) (hbm : ∀ j : Nat, mf1 j = kSg (tb j)) (hho : ho ≤ 48) (hSa : ∀ q : Nat, q < ks → ¬ mf23 q = -1 → ∃ t : Nat, t < ku ∧ mf23 q = nI t) (hNp : ∀ k : Nat, k < kn → ∃ v : Nat, v < ks ∧ mf40 k = nI v) (hUl : kUn mf2 mf3 0 kl (kTx [121, 103, 120]) 3 (kTx [118, 112, 110, 109, 115, 117, 100, 105]) 8 yL) (hUt : kUn mf2 mf3 6 ku (kTx [119]) 1 (kTx [97, 98, 99, 100, 101]) 5 yU) (hse : ∀ j : Nat, j < ks → (mf25 j = 0 ↔ kIsB (nI sv) (nI j) = 0)) (hsb : sv < 2 ^ ks) (hT9 : kT0 ks kw g0 g1 g2 g3 g4 mf19 mf20 mf21 mf22 mf24) {H : Heap} {locs : List Loc} (hPD : kPD dC dI (fun q : Nat => s.heap.size ≤ q) [(jX, .inr (9, [.ref jT, .ref jR, .ref jK, .ref jL, .ref jU, .ref hF, .ref jC, .ref hN, .ref jA, .ref sd])), (jC, .inr (1, [.ref hF, .ref jK, .ref d2, .ref d3, .ref d4, .ref d5, .ref d6, .ref d7, .ref d8, .ref d9, .ref d10, .ref d11, .ref d12, .ref d13, lw, .long cdr, .int cpr, .int cmo, .int cho])), (d2, .inl (w2, 10, .inl e2)), (d3, .inl (w3, 10, .inl e3)), (d4, .inl (w4, 10, .inl e4)), (d5, .inl (w5, 10, .inl e5)), (d6, .inl (w6, 10, .inl e6)), (d7, .inl (w7, 10, .inl e7)), (d8, .inl (w8, 10, .inl e8)), (d9, .inl (w9, 10, .inl e9)), (d10, .inl (w10, 4, .inl e10)), (d11, .inl (w11, 4, .inl e11)), (d12, .inl (w12, 4, .inl e12)), (d13, .inl (w13, 9, .inr (.inl e13))), (hF, .inr (2, [.ref f0, .ref f1, .ref f2, .ref f3, .ref f4, .int (nI (sv)), .int (nI (ks)), .int (nI (kw))])), (f0, .inl (z0, 10, .inl g0)), (f1, .inl (z1, 10, .inl g1)), (f2, .inl (z2, 10, .inl g2)), (f3, .inl (z3, 10, .inl g3)), (f4, .inl (z4, 4, .inl g4)), (jK, .inr (5, [.ref k0, .ref k1])), (k0, .inl (cK, 8, .inl l0)), (k1, .inl (cO, 32, .inl l1)), (hN, .inr (3, [.ref o0, .ref o1, .ref o2, .ref o3, .ref o4, .int (nI (kn))])), (o0, .inl (y0, 20, .inl q0)), (o1, .inl (y1, 20, .inl q1)), (o2, .inl (y2, 20, .inl q2)), (o3, .inl (y3, 20, .inl q3)), (o4, .inl (y4, 20, .inl q4)), (jA, .inr (0, [.ref i0, .ref i1, .ref i2, .ref i3, .int (nI (ka))])), (i0, .inl (x0, 6, .inl ta0)), (i1, .inl (x1, 6, .inl ta1)), (i2, .inl (x2, 6, .inl ta2)), (i3, .inl (x3, 6, .inl ta3)), (jL, .inr (7, [.ref rL, .int (nI (kl))])), (rL, .inl (cL, 6, .inr (.inr (.inr (.inr gL))))), (jU, .inr (7, [.ref rU, .int (nI (ku))])), (rU, .inl (cU, 8, .inr (.inr (.inr (.inr gU))))), (sd, .inl (cD, 10, .inl gD)), (jR, .inr (4, [.ref jT, .ref r1, .ref r2, .int (nI (wr)), .int (nI (fi)), .int rpl, rv6, rv7])), (r1, .inl (c1, 120, .inl s1)), (r2, .inl (c2, 124, .inl s2)), (jT, .inr (8, [.ref tz0, .int (nI (kt))])), (tz0, .inl (cC, 120, .inl gTp)), (jM, .inr (10, [.int th, .ref m1, .ref m2, .ref m3, .ref m4, v5, .int (nI (kt)), .int (nI (kl)), .int (nI (ku)), v9, v10, v11, v12, v13, v14, v15, v16, v17, v18, .ref m19, .ref m20, .ref m21, .ref m22, .ref m23, .ref m24, .ref m25, .int (nI (ks)), .int (nI (kw)), .ref m28, .ref m29, .ref m30, .ref m31, .ref m32, .ref m33, .ref m34, .ref m35, .ref m36, .int thr, .int (nI (ho)), .long xx, .ref m40, .ref m41, .ref m42, .ref m43, .ref m44, .int (nI (kn)), .ref m46, .ref m47, .ref m48, .ref m49, .ref m50, .int (nI (ka))])), (m1, .inl (mc1, 120, .inl mf1)), (m2, .inl (mc2, 1680, .inl mf2)), (m3, .inl (mc3, 14, .inl mf3)), (m4, .inl (mc4, 128, .inl mf4)), (m19, .inl (mc19, 10, .inl mf19)), (m20, .inl (mc20, 10, .inl mf20)), (m21, .inl (mc21, 10, .inl mf21)), (m22, .inl (mc22, 10, .inl mf22)), (m23, .inl (mc23, 10, .inl mf23)), (m24, .inl (mc24, 4, .inl mf24)), (m25, .inl (mc25, 10, .inl mf25)), (m28, .inl (mc28, 10, .inl mf28)), (m29, .inl (mc29, 10, .inl mf29)), (m30, .inl (mc30, 10, .inl mf30)), (m31, .inl (mc31, 10, .inl mf31)), (m32, .inl (mc32, 10, .inl mf32)), (m33, .inl (mc33, 10, .inl mf33)), (m34, .inl (mc34, 10, .inl mf34)), (m35, .inl (mc35, 10, .inl mf35)), (m36, .inl (mc36, 10, .inl mf36)), (m40, .inl (mc40, 20, .inl mf40)), (m41, .inl (mc41, 20, .inl mf41)), (m42, .inl (mc42, 20, .inl mf42)), (m43, .inl (mc43, 20, .inl mf43)), (m44, .inl (mc44, 20, .inl mf44)), (m46, .inl (mc46, 14, .inr (.inl mf46))), (m47, .inl (mc47, 6, .inl mf47)), (m48, .inl (mc48, 6, .inl mf48)), (m49, .inl (mc49, 6, .inl mf49)), (m50, .inl (mc50, 6, .inl mf50)), (oo, .inl (cOo, 1, .inr (.inl fo)))] H) (hS : va_S (fun q : Nat => s.heap.size ≤ q) s.heap H locs) (hL1 : kShL dC dI kl gL yL 8 [jX, jC, d2, d3, d4, d5, d6, d7, d8, d9, d10, d11, d12, d13, hF, f0, f1, f2, f3, f4, jK, k0, k1, hN, o0, o1, o2, o3, o4, jA, i0, i1, i2, i3, jL, rL, jU, rU, sd, jR, r1, r2, jT, tz0, jM, m1, m2, m3, m4, m19, m20, m21, m22, m23, m24, m25, m28, m29, m30, m31, m32, m33, m34, m35, m36, m40, m41, m42, m43, m44, m46, m47, m48, m49, m50, oo] s H) (hL2 : kShL dC dI ku gU yU 5 [jX, jC, d2, d3, d4, d5, d6, d7, d8, d9, d10, d11, d12, d13, hF, f0, f1, f2, f3, f4, jK, k0, k1, hN, o0, o1, o2, o3, o4, jA, i0, i1, i2, i3, jL, rL, jU, rU, sd, jR, r1, r2, jT, tz0, jM, m1, m2, m3, m4, m19, m20, m21, m22, m23, m24, m25, m28, m29, m30, m31, m32, m33, m34, m35, m36, m40, m41, m42, m43, m44, m46, m47, m48, m49, m50, oo] s H) {ls : Array Slot} (hl : lv_has ls 7 [(4, .int (nI (i))), (3, .ref oo), (2, .ref jM), (1, .ref jX), (0, .ref b)]) {cells slots : Nat} (hc : cells ≤ 1000 + 3 * i) (hs : slots ≤ 9000 + 402 * i) : W p l e room_1 s m #[Value.ref b] below meth c H locs cells slots (lw_Z below #[Value.ref b] s) (F0 m 422 ls []) := by
  obtain ⟨hx, hb, hr, hml, hown, hts, hX, hbl, hlocks, hgv⟩ := id C0
  have hown : s.vm.findClass RL = some m.cls := hown
  have hA : ∀ q : Nat, s.heap.size ≤ q → (fun q : Nat => s.heap.size ≤ q) q := fun _ h => h
  have hbA : ¬ (fun q : Nat => s.heap.size ≤ q) b := Nat.not_le.mpr hbl
  clear hgv C0
  obtain ⟨hP, hD⟩ := hPD
  refine lv_aload_n hx hb dL_law_422 rfl (lv_at hl 3 rfl) ?_
  refine lv_aload_n hx hb dL_law_423 rfl (lv_at hl 4 rfl) ?_
  refine lv_iload hx hb dL_law_424 (lv_at hl 0 rfl) ?_
  refine lv_iconst (v := 1) hx hb dL_law_426 kc_i_1 ?_
  refine lv_iadd hx hb dL_law_427 ?_
  refine lv_topi (fun y_1 ey_1 => ?_)
  obtain rfl : y_1 = nI (i + 1) := ey_1.trans (nI_add (i) (1))
  refine va_sld hx hb hX hbl hbA hS (vp_in_nI (n := i + 1) (N := L) (by omega) (by omega)) dL_law_428 ?_
  refine lv_topi (fun x_2 ex_2 => ?_)
  have bd_3 : ks ≤ 10 := by omega
  have bd_4 : kw ≤ 4 := by omega
  have bd_5 : sv < 1024 := by omega
  have hCu := kCut (wc := [(jX, .inr (9, [.ref jT, .ref jR, .ref jK, .ref jL, .ref jU, .ref hF, .ref jC, .ref hN, .ref jA, .ref sd])), (hF, .inr (2, [.ref f0, .ref f1, .ref f2, .ref f3, .ref f4, .int (nI (sv)), .int (nI (ks)), .int (nI (kw))])), (f0, .inl (z0, 10, .inl g0)), (f1, .inl (z1, 10, .inl g1)), (f2, .inl (z2, 10, .inl g2)), (f3, .inl (z3, 10, .inl g3)), (f4, .inl (z4, 4, .inl g4))]) hP hD hS hA [0, 14, 15, 16, 17, 18, 19] rfl kc_nd_1027 rfl
  have hPc := hCu.1
  have hDc := hCu.2.1
  have hFc := hCu.2.2
  have hKc := hK.sb (tys2 := [(z0, .int), (z1, .int), (z2, .int), (z3, .int), (z4, .int)]) [12, 13, 14, 15, 16] rfl
  refine va_calli (va_runV (As := [.int x_2]) (rest := []) ⟨hx, hb, hml, hown, hts⟩ (s_word9 l dC dI jX jT jR jL jU hN jA sd hF jC jK f0 f1 f2 f3 f4 z0 z1 z2 z3 z4 g0 g1 g2 g3 g4 ks kw bd_3 bd_4 sv bd_5 x_2 H.size) (cwV 1 hts (kG (List.forall_mem_cons.mpr ⟨tw_627, (List.forall_mem_cons.mpr ⟨tw_628, (List.forall_mem_cons.mpr ⟨tw_629, (List.forall_mem_cons.mpr ⟨tw_75, (fun _ h => absurd h List.not_mem_nil)⟩)⟩)⟩)⟩) (kGV _ _ _ _) in_w_s_word9 gw_s_word9) rfl rfl rfl ⟨rfl, hd_X9_word⟩ ⟨(Nat.le_of_ble_eq_true rfl), (Nat.le_of_ble_eq_true rfl)⟩) (kW_V kT_blind kT_give (va_recv hKc hPc (ci := 9) (q0 := 0) rfl rfl) hPc hKc hDc) rfl rfl hl.1 rfl (lv_room (Nat.le_of_ble_eq_true rfl)) dL_law_429 ⟨(show cells + 0 + 0 ≤ 601024 by omega), (show slots + 0 + 0 ≤ 7293034 by omega)⟩) hS (fun q _ h => hFc q h) hFc (fun r_6 u t H1 locs ht hvm hw hB hz1 hk1 hS => ?_)
  obtain ⟨n4_7, kw1_8⟩ := u
  obtain ⟨hP1, hK1, hD1⟩ := hB
  rw [ht] at hP1
  try dsimp only at hw
  have hPD : kPD dC dI (fun q : Nat => s.heap.size ≤ q) [(jX, .inr (9, [.ref jT, .ref jR, .ref jK, .ref jL, .ref jU, .ref hF, .ref jC, .ref hN, .ref jA, .ref sd])), (jC, .inr (1, [.ref hF, .ref jK, .ref d2, .ref d3, .ref d4, .ref d5, .ref d6, .ref d7, .ref d8, .ref d9, .ref d10, .ref d11, .ref d12, .ref d13, lw, .long cdr, .int cpr, .int cmo, .int cho])), (d2, .inl (w2, 10, .inl e2)), (d3, .inl (w3, 10, .inl e3)), (d4, .inl (w4, 10, .inl e4)), (d5, .inl (w5, 10, .inl e5)), (d6, .inl (w6, 10, .inl e6)), (d7, .inl (w7, 10, .inl e7)), (d8, .inl (w8, 10, .inl e8)), (d9, .inl (w9, 10, .inl e9)), (d10, .inl (w10, 4, .inl e10)), (d11, .inl (w11, 4, .inl e11)), (d12, .inl (w12, 4, .inl e12)), (d13, .inl (w13, 9, .inr (.inl e13))), (hF, .inr (2, [.ref f0, .ref f1, .ref f2, .ref f3, .ref f4, .int (nI (sv)), .int (nI (ks)), .int (nI (kw1_8))])), (f0, .inl (z0, 10, .inl g0)), (f1, .inl (z1, 10, .inl g1)), (f2, .inl (z2, 10, .inl g2)), (f3, .inl (z3, 10, .inl g3)), (f4, .inl (z4, 4, .inl n4_7)), (jK, .inr (5, [.ref k0, .ref k1])), (k0, .inl (cK, 8, .inl l0)), (k1, .inl (cO, 32, .inl l1)), (hN, .inr (3, [.ref o0, .ref o1, .ref o2, .ref o3, .ref o4, .int (nI (kn))])), (o0, .inl (y0, 20, .inl q0)), (o1, .inl (y1, 20, .inl q1)), (o2, .inl (y2, 20, .inl q2)), (o3, .inl (y3, 20, .inl q3)), (o4, .inl (y4, 20, .inl q4)), (jA, .inr (0, [.ref i0, .ref i1, .ref i2, .ref i3, .int (nI (ka))])), (i0, .inl (x0, 6, .inl ta0)), (i1, .inl (x1, 6, .inl ta1)), (i2, .inl (x2, 6, .inl ta2)), (i3, .inl (x3, 6, .inl ta3)), (jL, .inr (7, [.ref rL, .int (nI (kl))])), (rL, .inl (cL, 6, .inr (.inr (.inr (.inr gL))))), (jU, .inr (7, [.ref rU, .int (nI (ku))])), (rU, .inl (cU, 8, .inr (.inr (.inr (.inr gU))))), (sd, .inl (cD, 10, .inl gD)), (jR, .inr (4, [.ref jT, .ref r1, .ref r2, .int (nI (wr)), .int (nI (fi)), .int rpl, rv6, rv7])), (r1, .inl (c1, 120, .inl s1)), (r2, .inl (c2, 124, .inl s2)), (jT, .inr (8, [.ref tz0, .int (nI (kt))])), (tz0, .inl (cC, 120, .inl gTp)), (jM, .inr (10, [.int th, .ref m1, .ref m2, .ref m3, .ref m4, v5, .int (nI (kt)), .int (nI (kl)), .int (nI (ku)), v9, v10, v11, v12, v13, v14, v15, v16, v17, v18, .ref m19, .ref m20, .ref m21, .ref m22, .ref m23, .ref m24, .ref m25, .int (nI (ks)), .int (nI (kw)), .ref m28, .ref m29, .ref m30, .ref m31, .ref m32, .ref m33, .ref m34, .ref m35, .ref m36, .int thr, .int (nI (ho)), .long xx, .ref m40, .ref m41, .ref m42, .ref m43, .ref m44, .int (nI (kn)), .ref m46, .ref m47, .ref m48, .ref m49, .ref m50, .int (nI (ka))])), (m1, .inl (mc1, 120, .inl mf1)), (m2, .inl (mc2, 1680, .inl mf2)), (m3, .inl (mc3, 14, .inl mf3)), (m4, .inl (mc4, 128, .inl mf4)), (m19, .inl (mc19, 10, .inl mf19)), (m20, .inl (mc20, 10, .inl mf20)), (m21, .inl (mc21, 10, .inl mf21)), (m22, .inl (mc22, 10, .inl mf22)), (m23, .inl (mc23, 10, .inl mf23)), (m24, .inl (mc24, 4, .inl mf24)), (m25, .inl (mc25, 10, .inl mf25)), (m28, .inl (mc28, 10, .inl mf28)), (m29, .inl (mc29, 10, .inl mf29)), (m30, .inl (mc30, 10, .inl mf30)), (m31, .inl (mc31, 10, .inl mf31)), (m32, .inl (mc32, 10, .inl mf32)), (m33, .inl (mc33, 10, .inl mf33)), (m34, .inl (mc34, 10, .inl mf34)), (m35, .inl (mc35, 10, .inl mf35)), (m36, .inl (mc36, 10, .inl mf36)), (m40, .inl (mc40, 20, .inl mf40)), (m41, .inl (mc41, 20, .inl mf41)), (m42, .inl (mc42, 20, .inl mf42)), (m43, .inl (mc43, 20, .inl mf43)), (m44, .inl (mc44, 20, .inl mf44)), (m46, .inl (mc46, 14, .inr (.inl mf46))), (m47, .inl (mc47, 6, .inl mf47)), (m48, .inl (mc48, 6, .inl mf48)), (m49, .inl (mc49, 6, .inl mf49)), (m50, .inl (mc50, 6, .inl mf50)), (oo, .inl (cOo, 1, .inr (.inl fo)))] H1 := kJoinI hP hD [0, 14, 15, 16, 17, 18, 19] rfl hk1 hFc hP1 hD1 rfl [some 0, none, none, none, none, none, none, none, none, none, none, none, none, none, some 1, some 2, some 3, some 4, some 5, some 6, none, none, none, none, none, none, none, none, none, none, none, none, none, none, none, none, none, none, none, none, none, none, none, none, none, none, none, none, none, none, none, none, none, none, none, none, none, none, none, none, none, none, none, none, none, none, none, none, none, none, none, none, none, none, none, none] rfl rfl
  obtain ⟨hP, hD⟩ := hPD
  have hL1 := kShL_keep hL1 (Wc := [(jX, .inr (9, [.ref jT, .ref jR, .ref jK, .ref jL, .ref jU, .ref hF, .ref jC, .ref hN, .ref jA, .ref sd])), (hF, .inr (2, [.ref f0, .ref f1, .ref f2, .ref f3, .ref f4, .int (nI (sv)), .int (nI (ks)), .int (nI (kw))])), (f0, .inl (z0, 10, .inl g0)), (f1, .inl (z1, 10, .inl g1)), (f2, .inl (z2, 10, .inl g2)), (f3, .inl (z3, 10, .inl g3)), (f4, .inl (z4, 4, .inl g4))]) [0, 14, 15, 16, 17, 18, 19] rfl hk1
  have hL2 := kShL_keep hL2 (Wc := [(jX, .inr (9, [.ref jT, .ref jR, .ref jK, .ref jL, .ref jU, .ref hF, .ref jC, .ref hN, .ref jA, .ref sd])), (hF, .inr (2, [.ref f0, .ref f1, .ref f2, .ref f3, .ref f4, .int (nI (sv)), .int (nI (ks)), .int (nI (kw))])), (f0, .inl (z0, 10, .inl g0)), (f1, .inl (z1, 10, .inl g1)), (f2, .inl (z2, 10, .inl g2)), (f3, .inl (z3, 10, .inl g3)), (f4, .inl (z4, 4, .inl g4))]) [0, 14, 15, 16, 17, 18, 19] rfl hk1
  generalize H1 = H at hP hS hL1 hL2 ⊢
  have hw_9 := hw
  refine lv_pop hx hb dL_law_432 rfl ?_
  refine lv_aload_n hx hb dL_law_433 rfl (lv_at hl 2 rfl) ?_
  refine lv_aload_n hx hb dL_law_434 rfl (lv_at hl 4 rfl) ?_
  refine lv_iload hx hb dL_law_435 (lv_at hl 0 rfl) ?_
  refine lv_iconst (v := 1) hx hb dL_law_437 kc_i_1 ?_
  refine lv_iadd hx hb dL_law_438 ?_
  refine lv_topi (fun y_10 ey_10 => ?_)
  obtain rfl : y_10 = nI (i + 1) := ey_10.trans (nI_add (i) (1))
  refine va_sld hx hb hX hbl hbA hS (vp_in_nI (n := i + 1) (N := L) (by omega) (by omega)) dL_law_439 ?_
  refine lv_topi (fun x_11 ex_11 => ?_)
  have bd_12 : kt ≤ 120 := by omega
  have bd_13 : kl ≤ 6 := by omega
  have bd_14 : ku ≤ 8 := by omega
  have bd_15 : ho ≤ 48 := by omega
  have bd_16 : kn ≤ 20 := by omega
  have bd_17 : ka ≤ 6 := by omega
  have hCu := kCut (wc := [(jM, .inr (10, [.int th, .ref m1, .ref m2, .ref m3, .ref m4, v5, .int (nI (kt)), .int (nI (kl)), .int (nI (ku)), v9, v10, v11, v12, v13, v14, v15, v16, v17, v18, .ref m19, .ref m20, .ref m21, .ref m22, .ref m23, .ref m24, .ref m25, .int (nI (ks)), .int (nI (kw)), .ref m28, .ref m29, .ref m30, .ref m31, .ref m32, .ref m33, .ref m34, .ref m35, .ref m36, .int thr, .int (nI (ho)), .long xx, .ref m40, .ref m41, .ref m42, .ref m43, .ref m44, .int (nI (kn)), .ref m46, .ref m47, .ref m48, .ref m49, .ref m50, .int (nI (ka))])), (m1, .inl (mc1, 120, .inl mf1)), (m2, .inl (mc2, 1680, .inl mf2)), (m3, .inl (mc3, 14, .inl mf3)), (m4, .inl (mc4, 128, .inl mf4)), (m19, .inl (mc19, 10, .inl mf19)), (m20, .inl (mc20, 10, .inl mf20)), (m21, .inl (mc21, 10, .inl mf21)), (m22, .inl (mc22, 10, .inl mf22)), (m23, .inl (mc23, 10, .inl mf23)), (m24, .inl (mc24, 4, .inl mf24)), (m25, .inl (mc25, 10, .inl mf25)), (m28, .inl (mc28, 10, .inl mf28)), (m29, .inl (mc29, 10, .inl mf29)), (m30, .inl (mc30, 10, .inl mf30)), (m31, .inl (mc31, 10, .inl mf31)), (m32, .inl (mc32, 10, .inl mf32)), (m33, .inl (mc33, 10, .inl mf33)), (m34, .inl (mc34, 10, .inl mf34)), (m35, .inl (mc35, 10, .inl mf35)), (m36, .inl (mc36, 10, .inl mf36)), (m40, .inl (mc40, 20, .inl mf40)), (m41, .inl (mc41, 20, .inl mf41)), (m42, .inl (mc42, 20, .inl mf42)), (m43, .inl (mc43, 20, .inl mf43)), (m44, .inl (mc44, 20, .inl mf44)), (m46, .inl (mc46, 14, .inr (.inl mf46))), (m47, .inl (mc47, 6, .inl mf47)), (m48, .inl (mc48, 6, .inl mf48)), (m49, .inl (mc49, 6, .inl mf49)), (m50, .inl (mc50, 6, .inl mf50))]) hP hD hS hA [44, 45, 46, 47, 48, 49, 50, 51, 52, 53, 54, 55, 56, 57, 58, 59, 60, 61, 62, 63, 64, 65, 66, 67, 68, 69, 70, 71, 72, 73, 74] rfl kc_nd_1018 rfl
  have hPc := hCu.1
  have hDc := hCu.2.1
  have hFc := hCu.2.2
  have hKc := hK.sb (tys2 := [(mc1, .byte), (mc2, .byte), (mc3, .int), (mc4, .int), (mc19, .int), (mc20, .int), (mc21, .int), (mc22, .int), (mc23, .int), (mc24, .int), (mc25, .boolean), (mc28, .int), (mc29, .int), (mc30, .int), (mc31, .int), (mc32, .int), (mc33, .int), (mc34, .int), (mc35, .int), (mc36, .int), (mc40, .int), (mc41, .int), (mc42, .int), (mc43, .int), (mc44, .int), (mc46, .long), (mc47, .int), (mc48, .int), (mc49, .int), (mc50, .int)]) [34, 35, 36, 37, 38, 39, 40, 41, 42, 43, 44, 45, 46, 47, 48, 49, 50, 51, 52, 53, 54, 55, 56, 57, 58, 59, 60, 61, 62, 63] rfl
  refine va_calli (va_runV (As := [.int x_11]) (rest := []) ⟨hx, hb, hml, hown, hts⟩ (s_word10 l dC dI jM th thr xx (v5 : Value) (v9 : Value) (v10 : Value) (v11 : Value) (v12 : Value) (v13 : Value) (v14 : Value) (v15 : Value) (v16 : Value) (v17 : Value) (v18 : Value) m1 m2 m3 m4 m19 m20 m21 m22 m23 m24 m25 m28 m29 m30 m31 m32 m33 m34 m35 m36 m40 m41 m42 m43 m44 m46 m47 m48 m49 m50 mc1 mc2 mc3 mc4 mc19 mc20 mc21 mc22 mc23 mc24 mc25 mc28 mc29 mc30 mc31 mc32 mc33 mc34 mc35 mc36 mc40 mc41 mc42 mc43 mc44 mc46 mc47 mc48 mc49 mc50 mf1 mf2 mf3 mf4 mf19 mf20 mf21 mf22 mf23 mf24 mf25 mf28 mf29 mf30 mf31 mf32 mf33 mf34 mf35 mf36 mf40 mf41 mf42 mf43 mf44 mf46 mf47 mf48 mf49 mf50 kt kl ku ks kw ho kn ka bd_12 bd_13 bd_14 bd_3 bd_4 bd_15 bd_16 bd_17 x_11 H.size) (cwV 1 hts (kG (List.forall_mem_cons.mpr ⟨tw_1379, (List.forall_mem_cons.mpr ⟨tw_1380, (List.forall_mem_cons.mpr ⟨tw_1381, (List.forall_mem_cons.mpr ⟨tw_85, (fun _ h => absurd h List.not_mem_nil)⟩)⟩)⟩)⟩) (kGV _ _ _ _) in_w_s_word10 gw_s_word10) rfl rfl rfl ⟨rfl, hd_X10_word⟩ ⟨(Nat.le_of_ble_eq_true rfl), (Nat.le_of_ble_eq_true rfl)⟩) (kW_V kT_blind kT_give (va_recv hKc hPc (ci := 10) (q0 := 0) rfl rfl) hPc hKc hDc) rfl rfl hl.1 rfl (lv_room (Nat.le_of_ble_eq_true rfl)) dL_law_440 ⟨(show cells + 0 + 0 ≤ 601024 by omega), (show slots + 0 + 0 ≤ 7293034 by omega)⟩) hS (fun q _ h => hFc q h) hFc (fun r_18 u t H1 locs ht hvm hw hB hz1 hk1 hS => ?_)
  obtain ⟨S24_19, Th0_20, mkw1_21⟩ := u
  obtain ⟨hP1, hK1, hD1⟩ := hB
  rw [ht] at hP1
  try dsimp only at hw
  have hPD : kPD dC dI (fun q : Nat => s.heap.size ≤ q) [(jX, .inr (9, [.ref jT, .ref jR, .ref jK, .ref jL, .ref jU, .ref hF, .ref jC, .ref hN, .ref jA, .ref sd])), (jC, .inr (1, [.ref hF, .ref jK, .ref d2, .ref d3, .ref d4, .ref d5, .ref d6, .ref d7, .ref d8, .ref d9, .ref d10, .ref d11, .ref d12, .ref d13, lw, .long cdr, .int cpr, .int cmo, .int cho])), (d2, .inl (w2, 10, .inl e2)), (d3, .inl (w3, 10, .inl e3)), (d4, .inl (w4, 10, .inl e4)), (d5, .inl (w5, 10, .inl e5)), (d6, .inl (w6, 10, .inl e6)), (d7, .inl (w7, 10, .inl e7)), (d8, .inl (w8, 10, .inl e8)), (d9, .inl (w9, 10, .inl e9)), (d10, .inl (w10, 4, .inl e10)), (d11, .inl (w11, 4, .inl e11)), (d12, .inl (w12, 4, .inl e12)), (d13, .inl (w13, 9, .inr (.inl e13))), (hF, .inr (2, [.ref f0, .ref f1, .ref f2, .ref f3, .ref f4, .int (nI (sv)), .int (nI (ks)), .int (nI (kw1_8))])), (f0, .inl (z0, 10, .inl g0)), (f1, .inl (z1, 10, .inl g1)), (f2, .inl (z2, 10, .inl g2)), (f3, .inl (z3, 10, .inl g3)), (f4, .inl (z4, 4, .inl n4_7)), (jK, .inr (5, [.ref k0, .ref k1])), (k0, .inl (cK, 8, .inl l0)), (k1, .inl (cO, 32, .inl l1)), (hN, .inr (3, [.ref o0, .ref o1, .ref o2, .ref o3, .ref o4, .int (nI (kn))])), (o0, .inl (y0, 20, .inl q0)), (o1, .inl (y1, 20, .inl q1)), (o2, .inl (y2, 20, .inl q2)), (o3, .inl (y3, 20, .inl q3)), (o4, .inl (y4, 20, .inl q4)), (jA, .inr (0, [.ref i0, .ref i1, .ref i2, .ref i3, .int (nI (ka))])), (i0, .inl (x0, 6, .inl ta0)), (i1, .inl (x1, 6, .inl ta1)), (i2, .inl (x2, 6, .inl ta2)), (i3, .inl (x3, 6, .inl ta3)), (jL, .inr (7, [.ref rL, .int (nI (kl))])), (rL, .inl (cL, 6, .inr (.inr (.inr (.inr gL))))), (jU, .inr (7, [.ref rU, .int (nI (ku))])), (rU, .inl (cU, 8, .inr (.inr (.inr (.inr gU))))), (sd, .inl (cD, 10, .inl gD)), (jR, .inr (4, [.ref jT, .ref r1, .ref r2, .int (nI (wr)), .int (nI (fi)), .int rpl, rv6, rv7])), (r1, .inl (c1, 120, .inl s1)), (r2, .inl (c2, 124, .inl s2)), (jT, .inr (8, [.ref tz0, .int (nI (kt))])), (tz0, .inl (cC, 120, .inl gTp)), (jM, .inr (10, [.int Th0_20, .ref m1, .ref m2, .ref m3, .ref m4, (v5 : Value), .int (nI (kt)), .int (nI (kl)), .int (nI (ku)), (v9 : Value), (v10 : Value), (v11 : Value), (v12 : Value), (v13 : Value), (v14 : Value), (v15 : Value), (v16 : Value), (v17 : Value), (v18 : Value), .ref m19, .ref m20, .ref m21, .ref m22, .ref m23, .ref m24, .ref m25, .int (nI (ks)), .int (nI (mkw1_21)), .ref m28, .ref m29, .ref m30, .ref m31, .ref m32, .ref m33, .ref m34, .ref m35, .ref m36, .int thr, .int (nI (ho)), .long xx, .ref m40, .ref m41, .ref m42, .ref m43, .ref m44, .int (nI (kn)), .ref m46, .ref m47, .ref m48, .ref m49, .ref m50, .int (nI (ka))])), (m1, .inl (mc1, 120, .inl mf1)), (m2, .inl (mc2, 1680, .inl mf2)), (m3, .inl (mc3, 14, .inl mf3)), (m4, .inl (mc4, 128, .inl mf4)), (m19, .inl (mc19, 10, .inl mf19)), (m20, .inl (mc20, 10, .inl mf20)), (m21, .inl (mc21, 10, .inl mf21)), (m22, .inl (mc22, 10, .inl mf22)), (m23, .inl (mc23, 10, .inl mf23)), (m24, .inl (mc24, 4, .inl S24_19)), (m25, .inl (mc25, 10, .inl mf25)), (m28, .inl (mc28, 10, .inl mf28)), (m29, .inl (mc29, 10, .inl mf29)), (m30, .inl (mc30, 10, .inl mf30)), (m31, .inl (mc31, 10, .inl mf31)), (m32, .inl (mc32, 10, .inl mf32)), (m33, .inl (mc33, 10, .inl mf33)), (m34, .inl (mc34, 10, .inl mf34)), (m35, .inl (mc35, 10, .inl mf35)), (m36, .inl (mc36, 10, .inl mf36)), (m40, .inl (mc40, 20, .inl mf40)), (m41, .inl (mc41, 20, .inl mf41)), (m42, .inl (mc42, 20, .inl mf42)), (m43, .inl (mc43, 20, .inl mf43)), (m44, .inl (mc44, 20, .inl mf44)), (m46, .inl (mc46, 14, .inr (.inl mf46))), (m47, .inl (mc47, 6, .inl mf47)), (m48, .inl (mc48, 6, .inl mf48)), (m49, .inl (mc49, 6, .inl mf49)), (m50, .inl (mc50, 6, .inl mf50)), (oo, .inl (cOo, 1, .inr (.inl fo)))] H1 := kJoinI hP hD [44, 45, 46, 47, 48, 49, 50, 51, 52, 53, 54, 55, 56, 57, 58, 59, 60, 61, 62, 63, 64, 65, 66, 67, 68, 69, 70, 71, 72, 73, 74] rfl hk1 hFc hP1 hD1 rfl [none, none, none, none, none, none, none, none, none, none, none, none, none, none, none, none, none, none, none, none, none, none, none, none, none, none, none, none, none, none, none, none, none, none, none, none, none, none, none, none, none, none, none, none, some 0, some 1, some 2, some 3, some 4, some 5, some 6, some 7, some 8, some 9, some 10, some 11, some 12, some 13, some 14, some 15, some 16, some 17, some 18, some 19, some 20, some 21, some 22, some 23, some 24, some 25, some 26, some 27, some 28, some 29, some 30, none] rfl rfl
  obtain ⟨hP, hD⟩ := hPD
  have hL1 := kShL_keep hL1 (Wc := [(jM, .inr (10, [.int th, .ref m1, .ref m2, .ref m3, .ref m4, v5, .int (nI (kt)), .int (nI (kl)), .int (nI (ku)), v9, v10, v11, v12, v13, v14, v15, v16, v17, v18, .ref m19, .ref m20, .ref m21, .ref m22, .ref m23, .ref m24, .ref m25, .int (nI (ks)), .int (nI (kw)), .ref m28, .ref m29, .ref m30, .ref m31, .ref m32, .ref m33, .ref m34, .ref m35, .ref m36, .int thr, .int (nI (ho)), .long xx, .ref m40, .ref m41, .ref m42, .ref m43, .ref m44, .int (nI (kn)), .ref m46, .ref m47, .ref m48, .ref m49, .ref m50, .int (nI (ka))])), (m1, .inl (mc1, 120, .inl mf1)), (m2, .inl (mc2, 1680, .inl mf2)), (m3, .inl (mc3, 14, .inl mf3)), (m4, .inl (mc4, 128, .inl mf4)), (m19, .inl (mc19, 10, .inl mf19)), (m20, .inl (mc20, 10, .inl mf20)), (m21, .inl (mc21, 10, .inl mf21)), (m22, .inl (mc22, 10, .inl mf22)), (m23, .inl (mc23, 10, .inl mf23)), (m24, .inl (mc24, 4, .inl mf24)), (m25, .inl (mc25, 10, .inl mf25)), (m28, .inl (mc28, 10, .inl mf28)), (m29, .inl (mc29, 10, .inl mf29)), (m30, .inl (mc30, 10, .inl mf30)), (m31, .inl (mc31, 10, .inl mf31)), (m32, .inl (mc32, 10, .inl mf32)), (m33, .inl (mc33, 10, .inl mf33)), (m34, .inl (mc34, 10, .inl mf34)), (m35, .inl (mc35, 10, .inl mf35)), (m36, .inl (mc36, 10, .inl mf36)), (m40, .inl (mc40, 20, .inl mf40)), (m41, .inl (mc41, 20, .inl mf41)), (m42, .inl (mc42, 20, .inl mf42)), (m43, .inl (mc43, 20, .inl mf43)), (m44, .inl (mc44, 20, .inl mf44)), (m46, .inl (mc46, 14, .inr (.inl mf46))), (m47, .inl (mc47, 6, .inl mf47)), (m48, .inl (mc48, 6, .inl mf48)), (m49, .inl (mc49, 6, .inl mf49)), (m50, .inl (mc50, 6, .inl mf50))]) [44, 45, 46, 47, 48, 49, 50, 51, 52, 53, 54, 55, 56, 57, 58, 59, 60, 61, 62, 63, 64, 65, 66, 67, 68, 69, 70, 71, 72, 73, 74] rfl hk1
  have hL2 := kShL_keep hL2 (Wc := [(jM, .inr (10, [.int th, .ref m1, .ref m2, .ref m3, .ref m4, v5, .int (nI (kt)), .int (nI (kl)), .int (nI (ku)), v9, v10, v11, v12, v13, v14, v15, v16, v17, v18, .ref m19, .ref m20, .ref m21, .ref m22, .ref m23, .ref m24, .ref m25, .int (nI (ks)), .int (nI (kw)), .ref m28, .ref m29, .ref m30, .ref m31, .ref m32, .ref m33, .ref m34, .ref m35, .ref m36, .int thr, .int (nI (ho)), .long xx, .ref m40, .ref m41, .ref m42, .ref m43, .ref m44, .int (nI (kn)), .ref m46, .ref m47, .ref m48, .ref m49, .ref m50, .int (nI (ka))])), (m1, .inl (mc1, 120, .inl mf1)), (m2, .inl (mc2, 1680, .inl mf2)), (m3, .inl (mc3, 14, .inl mf3)), (m4, .inl (mc4, 128, .inl mf4)), (m19, .inl (mc19, 10, .inl mf19)), (m20, .inl (mc20, 10, .inl mf20)), (m21, .inl (mc21, 10, .inl mf21)), (m22, .inl (mc22, 10, .inl mf22)), (m23, .inl (mc23, 10, .inl mf23)), (m24, .inl (mc24, 4, .inl mf24)), (m25, .inl (mc25, 10, .inl mf25)), (m28, .inl (mc28, 10, .inl mf28)), (m29, .inl (mc29, 10, .inl mf29)), (m30, .inl (mc30, 10, .inl mf30)), (m31, .inl (mc31, 10, .inl mf31)), (m32, .inl (mc32, 10, .inl mf32)), (m33, .inl (mc33, 10, .inl mf33)), (m34, .inl (mc34, 10, .inl mf34)), (m35, .inl (mc35, 10, .inl mf35)), (m36, .inl (mc36, 10, .inl mf36)), (m40, .inl (mc40, 20, .inl mf40)), (m41, .inl (mc41, 20, .inl mf41)), (m42, .inl (mc42, 20, .inl mf42)), (m43, .inl (mc43, 20, .inl mf43)), (m44, .inl (mc44, 20, .inl mf44)), (m46, .inl (mc46, 14, .inr (.inl mf46))), (m47, .inl (mc47, 6, .inl mf47)), (m48, .inl (mc48, 6, .inl mf48)), (m49, .inl (mc49, 6, .inl mf49)), (m50, .inl (mc50, 6, .inl mf50))]) [44, 45, 46, 47, 48, 49, 50, 51, 52, 53, 54, 55, 56, 57, 58, 59, 60, 61, 62, 63, 64, 65, 66, 67, 68, 69, 70, 71, 72, 73, 74] rfl hk1
  generalize H1 = H at hP hS hL1 hL2 ⊢
  have hw_22 := hw
  have exx : x_2 = x_11 := ex_2.trans ex_11.symm
  subst exx
  have hT91 := kT0_wrd (p := x_2) hT9
  rw [← hw_9.2.1, ← hw_9.2.2, ← hw_22.2.2] at hT91
  have ew1 : r_6 = r_18 := by rw [hw_9.1, hw_22.1]
  have ew3 : kw1_8 ≤ 4 := by rw [hw_9.2.1]; exact kWordN_le hkw
  have ew2 : kw1_8 = mkw1_21 := by rw [hw_9.2.1, hw_22.2.1]
  subst ew2
  refine lv_pop hx hb dL_law_443 rfl ?_
  refine lv_goto (tgt := 1791) hx hb dL_law_444 kc_t_444_1347 ?_
  refine lv_iinc (v := nI (i + 7)) hx hb dL_law_1791 hl (k := 0) rfl (kInc _ 7) kc_l_4_7 (kTo [(4, .int (nI (i + 7))), (3, .ref oo), (2, .ref jM), (1, .ref jX), (0, .ref b)]) (fun ls hl => ?_)
  refine lv_goto (tgt := 23) hx hb dL_law_1794 kc_t_1794_m1771 ?_
  exact ih _ _ _ _ _ (fun C9 hC9 => hC9 (lw : Value) e2 e3 e4 e5 e6 e7 e8 e9 e10 e11 e12 e13 cdr cpr cmo cho g0 g1 g2 g3 n4_7 sv ks kw1_8 l0 l1 q0 q1 q2 q3 q4 kn ta0 ta1 ta2 ta3 ka gL kl gU ku gD gTp kt s1 s2 wr fi rpl (rv6 : Value) (rv7 : Value) Th0_20 thr xx ((v5 : Value) : Value) ((v9 : Value) : Value) ((v10 : Value) : Value) ((v11 : Value) : Value) ((v12 : Value) : Value) ((v13 : Value) : Value) ((v14 : Value) : Value) ((v15 : Value) : Value) ((v16 : Value) : Value) ((v17 : Value) : Value) ((v18 : Value) : Value) mf1 mf2 mf3 mf4 mf19 mf20 mf21 mf22 mf23 S24_19 mf25 mf28 mf29 mf30 mf31 mf32 mf33 mf34 mf35 mf36 mf40 mf41 mf42 mf43 mf44 mf46 mf47 mf48 mf49 mf50 ho fo tb yL yU (by omega) (by omega) (by omega) (by omega) (by omega) (by omega) (by omega) (by omega) (by omega) (by omega) (by assumption) (by assumption) (by assumption) (by assumption) (by omega) (by first | assumption | exact kSaM (by omega) hSa) (by first | assumption | exact kNpM (by omega) hNp) (by assumption) (by assumption) (by assumption) (by assumption) (by assumption) ⟨hP, hD⟩ hS hL1 hL2 (lv_sub hl [0, 1, 2, 3, 4] rfl) (by omega) (by omega))

theorem dL_law_447 : decode cL_law 447 = .ok (.aload_n 1, 1) := by decide +kernel
theorem dL_law_448 : decode cL_law 448 = .ok (.aload_n 0, 1) := by decide +kernel
theorem dL_law_449 : decode cL_law 449 = .ok (.iload 4, 2) := by decide +kernel
theorem dL_law_451 : decode cL_law 451 = .ok (.iconst 1, 1) := by decide +kernel
theorem dL_law_452 : decode cL_law 452 = .ok (.iadd, 1) := by decide +kernel
theorem dL_law_453 : decode cL_law 453 = .ok (.iaload, 1) := by decide +kernel
theorem dL_law_454 : decode cL_law 454 = .ok (.aload_n 0, 1) := by decide +kernel
theorem dL_law_455 : decode cL_law 455 = .ok (.iload 4, 2) := by decide +kernel
theorem dL_law_457 : decode cL_law 457 = .ok (.iconst 2, 1) := by decide +kernel
theorem dL_law_458 : decode cL_law 458 = .ok (.iadd, 1) := by decide +kernel
theorem dL_law_459 : decode cL_law 459 = .ok (.iaload, 1) := by decide +kernel
theorem dL_law_460 : decode cL_law 460 = .ok (.aload_n 0, 1) := by decide +kernel
theorem dL_law_461 : decode cL_law 461 = .ok (.iload 4, 2) := by decide +kernel
theorem dL_law_463 : decode cL_law 463 = .ok (.iconst 3, 1) := by decide +kernel
theorem dL_law_464 : decode cL_law 464 = .ok (.iadd, 1) := by decide +kernel
theorem dL_law_465 : decode cL_law 465 = .ok (.iaload, 1) := by decide +kernel
theorem dL_law_466 : decode cL_law 466 = .ok (.aload_n 3, 1) := by decide +kernel
theorem dL_law_467 : decode cL_law 467 = .ok (.invokestatic 52, 3) := by decide +kernel
theorem dL_law_470 : decode cL_law 470 = .ok (.istore 5, 2) := by decide +kernel
theorem dL_law_472 : decode cL_law 472 = .ok (.aload_n 2, 1) := by decide +kernel
theorem dL_law_473 : decode cL_law 473 = .ok (.aload_n 0, 1) := by decide +kernel
theorem dL_law_474 : decode cL_law 474 = .ok (.iload 4, 2) := by decide +kernel
theorem dL_law_476 : decode cL_law 476 = .ok (.iconst 1, 1) := by decide +kernel
theorem dL_law_477 : decode cL_law 477 = .ok (.iadd, 1) := by decide +kernel
theorem dL_law_478 : decode cL_law 478 = .ok (.iaload, 1) := by decide +kernel
theorem dL_law_479 : decode cL_law 479 = .ok (.aload_n 0, 1) := by decide +kernel
theorem dL_law_480 : decode cL_law 480 = .ok (.iload 4, 2) := by decide +kernel
theorem dL_law_482 : decode cL_law 482 = .ok (.iconst 2, 1) := by decide +kernel
theorem dL_law_483 : decode cL_law 483 = .ok (.iadd, 1) := by decide +kernel
theorem dL_law_484 : decode cL_law 484 = .ok (.iaload, 1) := by decide +kernel
theorem dL_law_485 : decode cL_law 485 = .ok (.aload_n 0, 1) := by decide +kernel
theorem dL_law_486 : decode cL_law 486 = .ok (.iload 4, 2) := by decide +kernel
theorem dL_law_488 : decode cL_law 488 = .ok (.iconst 3, 1) := by decide +kernel
theorem dL_law_489 : decode cL_law 489 = .ok (.iadd, 1) := by decide +kernel
theorem dL_law_490 : decode cL_law 490 = .ok (.iaload, 1) := by decide +kernel
theorem dL_law_491 : decode cL_law 491 = .ok (.invokevirtual 57, 3) := by decide +kernel
theorem dL_law_494 : decode cL_law 494 = .ok (.istore 6, 2) := by decide +kernel
theorem dL_law_496 : decode cL_law 496 = .ok (.aload_n 2, 1) := by decide +kernel
theorem dL_law_497 : decode cL_law 497 = .ok (.invokevirtual 58, 3) := by decide +kernel
theorem dL_law_500 : decode cL_law 500 = .ok (.iload 5, 2) := by decide +kernel
theorem dL_law_502 : decode cL_law 502 = .ok (.if_icmp .eq 5, 3) := by decide +kernel
theorem dL_law_507 : decode cL_law 507 = .ok (.iload 5, 2) := by decide +kernel
theorem dL_law_509 : decode cL_law 509 = .ok (.ifCond .ne 15, 3) := by decide +kernel
theorem dL_law_524 : decode cL_law 524 = .ok (.goto 1267, 3) := by decide +kernel
theorem dL_law_512 : decode cL_law 512 = .ok (.aload_n 3, 1) := by decide +kernel
theorem dL_law_513 : decode cL_law 513 = .ok (.iconst 0, 1) := by decide +kernel
theorem dL_law_514 : decode cL_law 514 = .ok (.laload, 1) := by decide +kernel
theorem dL_law_515 : decode cL_law 515 = .ok (.iload 6, 2) := by decide +kernel
theorem dL_law_517 : decode cL_law 517 = .ok (.i2l, 1) := by decide +kernel
theorem dL_law_518 : decode cL_law 518 = .ok (.lcmp, 1) := by decide +kernel
theorem dL_law_519 : decode cL_law 519 = .ok (.ifCond .eq 5, 3) := by decide +kernel
set_option maxHeartbeats 4000000 in
set_option maxRecDepth 100000 in
theorem law_7 {p : Program} {l : Launch} {e : Env} {s : State} {m : MethodId} {below : List Frame} {meth : Method} {c : Code} {b L : Nat} {xs : Nat → Int32} {dC : Nat → ClassId} {dI : Nat → Nat → Nat} {ad bt : Nat → Nat} {jX : Nat} {jC : Nat} {d2 : Nat} {d3 : Nat} {d4 : Nat} {d5 : Nat} {d6 : Nat} {d7 : Nat} {d8 : Nat} {d9 : Nat} {d10 : Nat} {d11 : Nat} {d12 : Nat} {d13 : Nat} {hF : Nat} {f0 : Nat} {f1 : Nat} {f2 : Nat} {f3 : Nat} {f4 : Nat} {jK : Nat} {k0 : Nat} {k1 : Nat} {hN : Nat} {o0 : Nat} {o1 : Nat} {o2 : Nat} {o3 : Nat} {o4 : Nat} {jA : Nat} {i0 : Nat} {i1 : Nat} {i2 : Nat} {i3 : Nat} {jL : Nat} {rL : Nat} {jU : Nat} {rU : Nat} {sd : Nat} {jR : Nat} {r1 : Nat} {r2 : Nat} {jT : Nat} {tz0 : Nat} {jM : Nat} {m1 : Nat} {m2 : Nat} {m3 : Nat} {m4 : Nat} {m19 : Nat} {m20 : Nat} {m21 : Nat} {m22 : Nat} {m23 : Nat} {m24 : Nat} {m25 : Nat} {m28 : Nat} {m29 : Nat} {m30 : Nat} {m31 : Nat} {m32 : Nat} {m33 : Nat} {m34 : Nat} {m35 : Nat} {m36 : Nat} {m40 : Nat} {m41 : Nat} {m42 : Nat} {m43 : Nat} {m44 : Nat} {m46 : Nat} {m47 : Nat} {m48 : Nat} {m49 : Nat} {m50 : Nat} {oo : Nat} {w2 : ClassId} {w3 : ClassId} {w4 : ClassId} {w5 : ClassId} {w6 : ClassId} {w7 : ClassId} {w8 : ClassId} {w9 : ClassId} {w10 : ClassId} {w11 : ClassId} {w12 : ClassId} {w13 : ClassId} {z0 : ClassId} {z1 : ClassId} {z2 : ClassId} {z3 : ClassId} {z4 : ClassId} {cK : ClassId} {cO : ClassId} {y0 : ClassId} {y1 : ClassId} {y2 : ClassId} {y3 : ClassId} {y4 : ClassId} {x0 : ClassId} {x1 : ClassId} {x2 : ClassId} {x3 : ClassId} {cL : ClassId} {cU : ClassId} {cD : ClassId} {c1 : ClassId} {c2 : ClassId} {cC : ClassId} {mc1 : ClassId} {mc2 : ClassId} {mc3 : ClassId} {mc4 : ClassId} {mc19 : ClassId} {mc20 : ClassId} {mc21 : ClassId} {mc22 : ClassId} {mc23 : ClassId} {mc24 : ClassId} {mc25 : ClassId} {mc28 : ClassId} {mc29 : ClassId} {mc30 : ClassId} {mc31 : ClassId} {mc32 : ClassId} {mc33 : ClassId} {mc34 : ClassId} {mc35 : ClassId} {mc36 : ClassId} {mc40 : ClassId} {mc41 : ClassId} {mc42 : ClassId} {mc43 : ClassId} {mc44 : ClassId} {mc46 : ClassId} {mc47 : ClassId} {mc48 : ClassId} {mc49 : ClassId} {mc50 : ClassId} {cOo : ClassId} (hlt : l.stackTraces = false) (C0 : lw_At p s m meth c b L xs) (hXX : kLaw ad bt s) (hK : va_K (dC, dI) vwCl [(w2, .int), (w3, .int), (w4, .int), (w5, .int), (w6, .int), (w7, .int), (w8, .int), (w9, .int), (w10, .int), (w11, .int), (w12, .int), (w13, .long), (z0, .int), (z1, .int), (z2, .int), (z3, .int), (z4, .int), (cK, .int), (cO, .int), (y0, .int), (y1, .int), (y2, .int), (y3, .int), (y4, .int), (x0, .int), (x1, .int), (x2, .int), (x3, .int), (cL, .object RX6), (cU, .object RX6), (cD, .int), (c1, .int), (c2, .int), (cC, .char), (mc1, .byte), (mc2, .byte), (mc3, .int), (mc4, .int), (mc19, .int), (mc20, .int), (mc21, .int), (mc22, .int), (mc23, .int), (mc24, .int), (mc25, .boolean), (mc28, .int), (mc29, .int), (mc30, .int), (mc31, .int), (mc32, .int), (mc33, .int), (mc34, .int), (mc35, .int), (mc36, .int), (mc40, .int), (mc41, .int), (mc42, .int), (mc43, .int), (mc44, .int), (mc46, .long), (mc47, .int), (mc48, .int), (mc49, .int), (mc50, .int), (cOo, .long)] s) (hL : L ≤ 3584) {i : Nat} (hi : i + 7 ≤ L) (ih : ∀ (H : Heap) (locs : List Loc) (cells slots : Nat) (ls : Array Slot), kInv dC dI jX jC d2 d3 d4 d5 d6 d7 d8 d9 d10 d11 d12 d13 hF f0 f1 f2 f3 f4 jK k0 k1 hN o0 o1 o2 o3 o4 jA i0 i1 i2 i3 jL rL jU rU sd jR r1 r2 jT tz0 jM m1 m2 m3 m4 m19 m20 m21 m22 m23 m24 m25 m28 m29 m30 m31 m32 m33 m34 m35 m36 m40 m41 m42 m43 m44 m46 m47 m48 m49 m50 oo w2 w3 w4 w5 w6 w7 w8 w9 w10 w11 w12 w13 z0 z1 z2 z3 z4 cK cO y0 y1 y2 y3 y4 x0 x1 x2 x3 cL cU cD c1 c2 cC mc1 mc2 mc3 mc4 mc19 mc20 mc21 mc22 mc23 mc24 mc25 mc28 mc29 mc30 mc31 mc32 mc33 mc34 mc35 mc36 mc40 mc41 mc42 mc43 mc44 mc46 mc47 mc48 mc49 mc50 cOo b s (i + 7) H locs cells slots ls → W p l e room_1 s m #[Value.ref b] below meth c H locs cells slots (lw_Z below #[Value.ref b] s) (F0 m 23 ls [])) {lw : Value} {e2 : Nat → Int32} {e3 : Nat → Int32} {e4 : Nat → Int32} {e5 : Nat → Int32} {e6 : Nat → Int32} {e7 : Nat → Int32} {e8 : Nat → Int32} {e9 : Nat → Int32} {e10 : Nat → Int32} {e11 : Nat → Int32} {e12 : Nat → Int32} {e13 : Nat → Int64} {cdr : Int64} {cpr : Int32} {cmo : Int32} {cho : Int32} {g0 : Nat → Int32} {g1 : Nat → Int32} {g2 : Nat → Int32} {g3 : Nat → Int32} {g4 : Nat → Int32} {sv : Nat} {ks : Nat} {kw : Nat} {l0 : Nat → Int32} {l1 : Nat → Int32} {q0 : Nat → Int32} {q1 : Nat → Int32} {q2 : Nat → Int32} {q3 : Nat → Int32} {q4 : Nat → Int32} {kn : Nat} {ta0 : Nat → Int32} {ta1 : Nat → Int32} {ta2 : Nat → Int32} {ta3 : Nat → Int32} {ka : Nat} {gL : Nat → Option Nat} {kl : Nat} {gU : Nat → Option Nat} {ku : Nat} {gD : Nat → Int32} {gTp : Nat → Int32} {kt : Nat} {s1 : Nat → Int32} {s2 : Nat → Int32} {wr : Nat} {fi : Nat} {rpl : Int32} {rv6 : Value} {rv7 : Value} {th : Int32} {thr : Int32} {xx : Int64} {v5 : Value} {v9 : Value} {v10 : Value} {v11 : Value} {v12 : Value} {v13 : Value} {v14 : Value} {v15 : Value} {v16 : Value} {v17 : Value} {v18 : Value} {mf1 : Nat → Int32} {mf2 : Nat → Int32} {mf3 : Nat → Int32} {mf4 : Nat → Int32} {mf19 : Nat → Int32} {mf20 : Nat → Int32} {mf21 : Nat → Int32} {mf22 : Nat → Int32} {mf23 : Nat → Int32} {mf24 : Nat → Int32} {mf25 : Nat → Int32} {mf28 : Nat → Int32} {mf29 : Nat → Int32} {mf30 : Nat → Int32} {mf31 : Nat → Int32} {mf32 : Nat → Int32} {mf33 : Nat → Int32} {mf34 : Nat → Int32} {mf35 : Nat → Int32} {mf36 : Nat → Int32} {mf40 : Nat → Int32} {mf41 : Nat → Int32} {mf42 : Nat → Int32} {mf43 : Nat → Int32} {mf44 : Nat → Int32} {mf46 : Nat → Int64} {mf47 : Nat → Int32} {mf48 : Nat → Int32} {mf49 : Nat → Int32} {mf50 : Nat → Int32} {ho : Nat} {fo : Nat → Int64} {tb : Nat → Nat} {yL : Nat → List kTr} {yU : Nat → List kTr} (hks : ks ≤ 10) (hkw : kw ≤ 4) (hsv : sv < 1024) (hkn : kn ≤ 20) (hka : ka ≤ 6) (hkl : kl ≤ 6) (hku : ku ≤ 8) (hkt : kt ≤ 120) (hwr : wr ≤ 120) (hfi : fi ≤ 124) (hbt : ∀ j : Nat, gTp j = nI (tb j)) (hb8 : ∀ j : Nat, tb j < 256) (hb1 : ∀ j : Nat, j < kt → 1 ≤ tb j) (hbm : ∀ j : Nat, mf1 j = kSg (tb j)) (hho : ho ≤ 48) (hSa : ∀ q : Nat, q < ks → ¬ mf23 q = -1 → ∃ t : Nat, t < ku ∧ mf23 q = nI t) (hNp : ∀ k : Nat, k < kn → ∃ v : Nat, v < ks ∧ mf40 k = nI v) (hUl : kUn mf2 mf3 0 kl (kTx [121, 103, 120]) 3 (kTx [118, 112, 110, 109, 115, 117, 100, 105]) 8 yL) (hUt : kUn mf2 mf3 6 ku (kTx [119]) 1 (kTx [97, 98, 99, 100, 101]) 5 yU) (hse : ∀ j : Nat, j < ks → (mf25 j = 0 ↔ kIsB (nI sv) (nI j) = 0)) (hsb : sv < 2 ^ ks) (hT9 : kT0 ks kw g0 g1 g2 g3 g4 mf19 mf20 mf21 mf22 mf24) {H : Heap} {locs : List Loc} (hPD : kPD dC dI (fun q : Nat => s.heap.size ≤ q) [(jX, .inr (9, [.ref jT, .ref jR, .ref jK, .ref jL, .ref jU, .ref hF, .ref jC, .ref hN, .ref jA, .ref sd])), (jC, .inr (1, [.ref hF, .ref jK, .ref d2, .ref d3, .ref d4, .ref d5, .ref d6, .ref d7, .ref d8, .ref d9, .ref d10, .ref d11, .ref d12, .ref d13, lw, .long cdr, .int cpr, .int cmo, .int cho])), (d2, .inl (w2, 10, .inl e2)), (d3, .inl (w3, 10, .inl e3)), (d4, .inl (w4, 10, .inl e4)), (d5, .inl (w5, 10, .inl e5)), (d6, .inl (w6, 10, .inl e6)), (d7, .inl (w7, 10, .inl e7)), (d8, .inl (w8, 10, .inl e8)), (d9, .inl (w9, 10, .inl e9)), (d10, .inl (w10, 4, .inl e10)), (d11, .inl (w11, 4, .inl e11)), (d12, .inl (w12, 4, .inl e12)), (d13, .inl (w13, 9, .inr (.inl e13))), (hF, .inr (2, [.ref f0, .ref f1, .ref f2, .ref f3, .ref f4, .int (nI (sv)), .int (nI (ks)), .int (nI (kw))])), (f0, .inl (z0, 10, .inl g0)), (f1, .inl (z1, 10, .inl g1)), (f2, .inl (z2, 10, .inl g2)), (f3, .inl (z3, 10, .inl g3)), (f4, .inl (z4, 4, .inl g4)), (jK, .inr (5, [.ref k0, .ref k1])), (k0, .inl (cK, 8, .inl l0)), (k1, .inl (cO, 32, .inl l1)), (hN, .inr (3, [.ref o0, .ref o1, .ref o2, .ref o3, .ref o4, .int (nI (kn))])), (o0, .inl (y0, 20, .inl q0)), (o1, .inl (y1, 20, .inl q1)), (o2, .inl (y2, 20, .inl q2)), (o3, .inl (y3, 20, .inl q3)), (o4, .inl (y4, 20, .inl q4)), (jA, .inr (0, [.ref i0, .ref i1, .ref i2, .ref i3, .int (nI (ka))])), (i0, .inl (x0, 6, .inl ta0)), (i1, .inl (x1, 6, .inl ta1)), (i2, .inl (x2, 6, .inl ta2)), (i3, .inl (x3, 6, .inl ta3)), (jL, .inr (7, [.ref rL, .int (nI (kl))])), (rL, .inl (cL, 6, .inr (.inr (.inr (.inr gL))))), (jU, .inr (7, [.ref rU, .int (nI (ku))])), (rU, .inl (cU, 8, .inr (.inr (.inr (.inr gU))))), (sd, .inl (cD, 10, .inl gD)), (jR, .inr (4, [.ref jT, .ref r1, .ref r2, .int (nI (wr)), .int (nI (fi)), .int rpl, rv6, rv7])), (r1, .inl (c1, 120, .inl s1)), (r2, .inl (c2, 124, .inl s2)), (jT, .inr (8, [.ref tz0, .int (nI (kt))])), (tz0, .inl (cC, 120, .inl gTp)), (jM, .inr (10, [.int th, .ref m1, .ref m2, .ref m3, .ref m4, v5, .int (nI (kt)), .int (nI (kl)), .int (nI (ku)), v9, v10, v11, v12, v13, v14, v15, v16, v17, v18, .ref m19, .ref m20, .ref m21, .ref m22, .ref m23, .ref m24, .ref m25, .int (nI (ks)), .int (nI (kw)), .ref m28, .ref m29, .ref m30, .ref m31, .ref m32, .ref m33, .ref m34, .ref m35, .ref m36, .int thr, .int (nI (ho)), .long xx, .ref m40, .ref m41, .ref m42, .ref m43, .ref m44, .int (nI (kn)), .ref m46, .ref m47, .ref m48, .ref m49, .ref m50, .int (nI (ka))])), (m1, .inl (mc1, 120, .inl mf1)), (m2, .inl (mc2, 1680, .inl mf2)), (m3, .inl (mc3, 14, .inl mf3)), (m4, .inl (mc4, 128, .inl mf4)), (m19, .inl (mc19, 10, .inl mf19)), (m20, .inl (mc20, 10, .inl mf20)), (m21, .inl (mc21, 10, .inl mf21)), (m22, .inl (mc22, 10, .inl mf22)), (m23, .inl (mc23, 10, .inl mf23)), (m24, .inl (mc24, 4, .inl mf24)), (m25, .inl (mc25, 10, .inl mf25)), (m28, .inl (mc28, 10, .inl mf28)), (m29, .inl (mc29, 10, .inl mf29)), (m30, .inl (mc30, 10, .inl mf30)), (m31, .inl (mc31, 10, .inl mf31)), (m32, .inl (mc32, 10, .inl mf32)), (m33, .inl (mc33, 10, .inl mf33)), (m34, .inl (mc34, 10, .inl mf34)), (m35, .inl (mc35, 10, .inl mf35)), (m36, .inl (mc36, 10, .inl mf36)), (m40, .inl (mc40, 20, .inl mf40)), (m41, .inl (mc41, 20, .inl mf41)), (m42, .inl (mc42, 20, .inl mf42)), (m43, .inl (mc43, 20, .inl mf43)), (m44, .inl (mc44, 20, .inl mf44)), (m46, .inl (mc46, 14, .inr (.inl mf46))), (m47, .inl (mc47, 6, .inl mf47)), (m48, .inl (mc48, 6, .inl mf48)), (m49, .inl (mc49, 6, .inl mf49)), (m50, .inl (mc50, 6, .inl mf50)), (oo, .inl (cOo, 1, .inr (.inl fo)))] H) (hS : va_S (fun q : Nat => s.heap.size ≤ q) s.heap H locs) (hL1 : kShL dC dI kl gL yL 8 [jX, jC, d2, d3, d4, d5, d6, d7, d8, d9, d10, d11, d12, d13, hF, f0, f1, f2, f3, f4, jK, k0, k1, hN, o0, o1, o2, o3, o4, jA, i0, i1, i2, i3, jL, rL, jU, rU, sd, jR, r1, r2, jT, tz0, jM, m1, m2, m3, m4, m19, m20, m21, m22, m23, m24, m25, m28, m29, m30, m31, m32, m33, m34, m35, m36, m40, m41, m42, m43, m44, m46, m47, m48, m49, m50, oo] s H) (hL2 : kShL dC dI ku gU yU 5 [jX, jC, d2, d3, d4, d5, d6, d7, d8, d9, d10, d11, d12, d13, hF, f0, f1, f2, f3, f4, jK, k0, k1, hN, o0, o1, o2, o3, o4, jA, i0, i1, i2, i3, jL, rL, jU, rU, sd, jR, r1, r2, jT, tz0, jM, m1, m2, m3, m4, m19, m20, m21, m22, m23, m24, m25, m28, m29, m30, m31, m32, m33, m34, m35, m36, m40, m41, m42, m43, m44, m46, m47, m48, m49, m50, oo] s H) {ls : Array Slot} (hl : lv_has ls 7 [(4, .int (nI (i))), (3, .ref oo), (2, .ref jM), (1, .ref jX), (0, .ref b)]) {cells slots : Nat} (hc : cells ≤ 1000 + 3 * i) (hs : slots ≤ 9000 + 402 * i) : W p l e room_1 s m #[Value.ref b] below meth c H locs cells slots (lw_Z below #[Value.ref b] s) (F0 m 447 ls []) := by
  obtain ⟨hx, hb, hr, hml, hown, hts, hX, hbl, hlocks, hgv⟩ := id C0
  have hown : s.vm.findClass RL = some m.cls := hown
  have hA : ∀ q : Nat, s.heap.size ≤ q → (fun q : Nat => s.heap.size ≤ q) q := fun _ h => h
  have hbA : ¬ (fun q : Nat => s.heap.size ≤ q) b := Nat.not_le.mpr hbl
  clear hgv C0
  obtain ⟨hP, hD⟩ := hPD
  refine lv_aload_n hx hb dL_law_447 rfl (lv_at hl 3 rfl) ?_
  refine lv_aload_n hx hb dL_law_448 rfl (lv_at hl 4 rfl) ?_
  refine lv_iload hx hb dL_law_449 (lv_at hl 0 rfl) ?_
  refine lv_iconst (v := 1) hx hb dL_law_451 kc_i_1 ?_
  refine lv_iadd hx hb dL_law_452 ?_
  refine lv_topi (fun y_1 ey_1 => ?_)
  obtain rfl : y_1 = nI (i + 1) := ey_1.trans (nI_add (i) (1))
  refine va_sld hx hb hX hbl hbA hS (vp_in_nI (n := i + 1) (N := L) (by omega) (by omega)) dL_law_453 ?_
  refine lv_topi (fun x_2 ex_2 => ?_)
  refine lv_aload_n hx hb dL_law_454 rfl (lv_at hl 4 rfl) ?_
  refine lv_iload hx hb dL_law_455 (lv_at hl 0 rfl) ?_
  refine lv_iconst (v := 2) hx hb dL_law_457 kc_i_2 ?_
  refine lv_iadd hx hb dL_law_458 ?_
  refine lv_topi (fun y_3 ey_3 => ?_)
  obtain rfl : y_3 = nI (i + 2) := ey_3.trans (nI_add (i) (2))
  refine va_sld hx hb hX hbl hbA hS (vp_in_nI (n := i + 2) (N := L) (by omega) (by omega)) dL_law_459 ?_
  refine lv_topi (fun x_4 ex_4 => ?_)
  refine lv_aload_n hx hb dL_law_460 rfl (lv_at hl 4 rfl) ?_
  refine lv_iload hx hb dL_law_461 (lv_at hl 0 rfl) ?_
  refine lv_iconst (v := 3) hx hb dL_law_463 kc_i_3 ?_
  refine lv_iadd hx hb dL_law_464 ?_
  refine lv_topi (fun y_5 ey_5 => ?_)
  obtain rfl : y_5 = nI (i + 3) := ey_5.trans (nI_add (i) (3))
  refine va_sld hx hb hX hbl hbA hS (vp_in_nI (n := i + 3) (N := L) (by omega) (by omega)) dL_law_465 ?_
  refine lv_topi (fun x_6 ex_6 => ?_)
  refine lv_aload_n hx hb dL_law_466 rfl (lv_at hl 1 rfl) ?_
  have bd_7 : ks ≤ 10 := by omega
  have bd_8 : kw ≤ 4 := by omega
  have bd_9 : sv < 1024 := by omega
  have bd_10 : kn ≤ 20 := by omega
  have bd_11 : ka ≤ 6 := by omega
  have bd_12 : kl ≤ 6 := by omega
  have bd_13 : ku ≤ 8 := by omega
  have hCu := kCut (wc := [(jX, .inr (9, [.ref jT, .ref jR, .ref jK, .ref jL, .ref jU, .ref hF, .ref jC, .ref hN, .ref jA, .ref sd])), (jC, .inr (1, [.ref hF, .ref jK, .ref d2, .ref d3, .ref d4, .ref d5, .ref d6, .ref d7, .ref d8, .ref d9, .ref d10, .ref d11, .ref d12, .ref d13, lw, .long cdr, .int cpr, .int cmo, .int cho])), (d2, .inl (w2, 10, .inl e2)), (d3, .inl (w3, 10, .inl e3)), (d4, .inl (w4, 10, .inl e4)), (d5, .inl (w5, 10, .inl e5)), (d6, .inl (w6, 10, .inl e6)), (d7, .inl (w7, 10, .inl e7)), (d8, .inl (w8, 10, .inl e8)), (d9, .inl (w9, 10, .inl e9)), (d10, .inl (w10, 4, .inl e10)), (d11, .inl (w11, 4, .inl e11)), (d12, .inl (w12, 4, .inl e12)), (d13, .inl (w13, 9, .inr (.inl e13))), (hF, .inr (2, [.ref f0, .ref f1, .ref f2, .ref f3, .ref f4, .int (nI (sv)), .int (nI (ks)), .int (nI (kw))])), (f0, .inl (z0, 10, .inl g0)), (f1, .inl (z1, 10, .inl g1)), (f2, .inl (z2, 10, .inl g2)), (f3, .inl (z3, 10, .inl g3)), (f4, .inl (z4, 4, .inl g4)), (jK, .inr (5, [.ref k0, .ref k1])), (k0, .inl (cK, 8, .inl l0)), (k1, .inl (cO, 32, .inl l1)), (hN, .inr (3, [.ref o0, .ref o1, .ref o2, .ref o3, .ref o4, .int (nI (kn))])), (o0, .inl (y0, 20, .inl q0)), (o1, .inl (y1, 20, .inl q1)), (o2, .inl (y2, 20, .inl q2)), (o3, .inl (y3, 20, .inl q3)), (o4, .inl (y4, 20, .inl q4)), (jA, .inr (0, [.ref i0, .ref i1, .ref i2, .ref i3, .int (nI (ka))])), (i0, .inl (x0, 6, .inl ta0)), (i1, .inl (x1, 6, .inl ta1)), (i2, .inl (x2, 6, .inl ta2)), (i3, .inl (x3, 6, .inl ta3)), (jL, .inr (7, [.ref rL, .int (nI (kl))])), (rL, .inl (cL, 6, .inr (.inr (.inr (.inr gL))))), (jU, .inr (7, [.ref rU, .int (nI (ku))])), (rU, .inl (cU, 8, .inr (.inr (.inr (.inr gU))))), (sd, .inl (cD, 10, .inl gD)), (oo, .inl (cOo, 1, .inr (.inl fo)))]) hP hD hS hA [0, 1, 2, 3, 4, 5, 6, 7, 8, 9, 10, 11, 12, 13, 14, 15, 16, 17, 18, 19, 20, 21, 22, 23, 24, 25, 26, 27, 28, 29, 30, 31, 32, 33, 34, 35, 36, 37, 38, 75] rfl kc_nd_1034 rfl
  have hPc := hCu.1
  have hDc := hCu.2.1
  have hFc := hCu.2.2
  have hKc := hK.sb (tys2 := [(w2, .int), (w3, .int), (w4, .int), (w5, .int), (w6, .int), (w7, .int), (w8, .int), (w9, .int), (w10, .int), (w11, .int), (w12, .int), (w13, .long), (z0, .int), (z1, .int), (z2, .int), (z3, .int), (z4, .int), (cK, .int), (cO, .int), (y0, .int), (y1, .int), (y2, .int), (y3, .int), (y4, .int), (x0, .int), (x1, .int), (x2, .int), (x3, .int), (cL, .object RX6), (cU, .object RX6), (cD, .int), (cOo, .long)]) [0, 1, 2, 3, 4, 5, 6, 7, 8, 9, 10, 11, 12, 13, 14, 15, 16, 17, 18, 19, 20, 21, 22, 23, 24, 25, 26, 27, 28, 29, 30, 64] rfl
  refine va_calli (vx_runSW (hh := [(0, 12, 15, 13)]) (As := [.ref jX, .int x_2, .int x_4, .int x_6, .ref oo]) (rest := []) ⟨hx, hb, hml, hown, hts⟩ (s_worthL l hlt dC dI jX jT jR jL jU hN jA sd jC d2 d3 d4 d5 d6 d7 d8 d9 d10 d11 d12 d13 w2 w3 w4 w5 w6 w7 w8 w9 w10 w11 w12 w13 e2 e3 e4 e5 e6 e7 e8 e9 e10 e11 e12 e13 cdr cpr cmo cho hF f0 f1 f2 f3 f4 z0 z1 z2 z3 z4 g0 g1 g2 g3 g4 ks kw bd_7 bd_8 sv bd_9 jK k0 k1 cK cO l0 l1 o0 o1 o2 o3 o4 y0 y1 y2 y3 y4 q0 q1 q2 q3 q4 kn bd_10 i0 i1 i2 i3 x0 x1 x2 x3 ta0 ta1 ta2 ta3 ka bd_11 (lw : Value) rL cL gL kl bd_12 yL rU cU gU ku bd_13 yU cD gD hT9.2.2.2 oo cOo fo x_2 x_4 x_6 H.size) (vx_cwSW 5 hts (kG (List.forall_mem_cons.mpr ⟨tw_1002, (List.forall_mem_cons.mpr ⟨tw_1003, (List.forall_mem_cons.mpr ⟨tw_74, (fun _ h => absurd h List.not_mem_nil)⟩)⟩)⟩) (kGS _ _ _) in_w_s_worthL gw_s_worthL) rfl rfl rfl hd_L_worth ⟨(Nat.le_of_ble_eq_true rfl), (Nat.le_of_ble_eq_true rfl)⟩) (kW_S kPubT_blind (kPubT_law hL1 hL2 hXX.2.1.2.2.1 hXX.2.2.2 [0, 1, 2, 3, 4, 5, 6, 7, 8, 9, 10, 11, 12, 13, 14, 15, 16, 17, 18, 19, 20, 21, 22, 23, 24, 25, 26, 27, 28, 29, 30, 31, 32, 33, 34, 35, 36, 37, 38, 75] rfl hS hFc) hPc hKc hDc) rfl rfl hl.1 rfl (lv_room (Nat.le_of_ble_eq_true rfl)) dL_law_467 ⟨(show cells + 0 + 1 ≤ 601024 by omega), (show slots + 0 + 6 ≤ 7293034 by omega)⟩) hS (fun q _ h => hFc q h) hFc (fun r_14 u t H1 locs ht hvm hw hB hz1 hk1 hS => ?_)
  obtain ⟨E2_15, E3_16, E4_17, E5_18, E6_19, E7_20, E8_21, E9_22, E10_23, E11_24, E12_25, E13_26, L0_27, L1_28, fo1_29, Pr_30, Mo_31, Ho_32, Dr_33, Lw_34⟩ := u
  obtain ⟨hP1, hK1, hD1⟩ := hB
  rw [ht] at hP1
  try dsimp only at hw
  have hPD : kPD dC dI (fun q : Nat => s.heap.size ≤ q) [(jX, .inr (9, [.ref jT, .ref jR, .ref jK, .ref jL, .ref jU, .ref hF, .ref jC, .ref hN, .ref jA, .ref sd])), (jC, .inr (1, [.ref hF, .ref jK, .ref d2, .ref d3, .ref d4, .ref d5, .ref d6, .ref d7, .ref d8, .ref d9, .ref d10, .ref d11, .ref d12, .ref d13, Lw_34, .long Dr_33, .int Pr_30, .int Mo_31, .int Ho_32])), (d2, .inl (w2, 10, .inl E2_15)), (d3, .inl (w3, 10, .inl E3_16)), (d4, .inl (w4, 10, .inl E4_17)), (d5, .inl (w5, 10, .inl E5_18)), (d6, .inl (w6, 10, .inl E6_19)), (d7, .inl (w7, 10, .inl E7_20)), (d8, .inl (w8, 10, .inl E8_21)), (d9, .inl (w9, 10, .inl E9_22)), (d10, .inl (w10, 4, .inl E10_23)), (d11, .inl (w11, 4, .inl E11_24)), (d12, .inl (w12, 4, .inl E12_25)), (d13, .inl (w13, 9, .inr (.inl E13_26))), (hF, .inr (2, [.ref f0, .ref f1, .ref f2, .ref f3, .ref f4, .int (nI (sv)), .int (nI (ks)), .int (nI (kw))])), (f0, .inl (z0, 10, .inl g0)), (f1, .inl (z1, 10, .inl g1)), (f2, .inl (z2, 10, .inl g2)), (f3, .inl (z3, 10, .inl g3)), (f4, .inl (z4, 4, .inl g4)), (jK, .inr (5, [.ref k0, .ref k1])), (k0, .inl (cK, 8, .inl L0_27)), (k1, .inl (cO, 32, .inl L1_28)), (hN, .inr (3, [.ref o0, .ref o1, .ref o2, .ref o3, .ref o4, .int (nI (kn))])), (o0, .inl (y0, 20, .inl q0)), (o1, .inl (y1, 20, .inl q1)), (o2, .inl (y2, 20, .inl q2)), (o3, .inl (y3, 20, .inl q3)), (o4, .inl (y4, 20, .inl q4)), (jA, .inr (0, [.ref i0, .ref i1, .ref i2, .ref i3, .int (nI (ka))])), (i0, .inl (x0, 6, .inl ta0)), (i1, .inl (x1, 6, .inl ta1)), (i2, .inl (x2, 6, .inl ta2)), (i3, .inl (x3, 6, .inl ta3)), (jL, .inr (7, [.ref rL, .int (nI (kl))])), (rL, .inl (cL, 6, .inr (.inr (.inr (.inr gL))))), (jU, .inr (7, [.ref rU, .int (nI (ku))])), (rU, .inl (cU, 8, .inr (.inr (.inr (.inr gU))))), (sd, .inl (cD, 10, .inl gD)), (jR, .inr (4, [.ref jT, .ref r1, .ref r2, .int (nI (wr)), .int (nI (fi)), .int rpl, rv6, rv7])), (r1, .inl (c1, 120, .inl s1)), (r2, .inl (c2, 124, .inl s2)), (jT, .inr (8, [.ref tz0, .int (nI (kt))])), (tz0, .inl (cC, 120, .inl gTp)), (jM, .inr (10, [.int th, .ref m1, .ref m2, .ref m3, .ref m4, v5, .int (nI (kt)), .int (nI (kl)), .int (nI (ku)), v9, v10, v11, v12, v13, v14, v15, v16, v17, v18, .ref m19, .ref m20, .ref m21, .ref m22, .ref m23, .ref m24, .ref m25, .int (nI (ks)), .int (nI (kw)), .ref m28, .ref m29, .ref m30, .ref m31, .ref m32, .ref m33, .ref m34, .ref m35, .ref m36, .int thr, .int (nI (ho)), .long xx, .ref m40, .ref m41, .ref m42, .ref m43, .ref m44, .int (nI (kn)), .ref m46, .ref m47, .ref m48, .ref m49, .ref m50, .int (nI (ka))])), (m1, .inl (mc1, 120, .inl mf1)), (m2, .inl (mc2, 1680, .inl mf2)), (m3, .inl (mc3, 14, .inl mf3)), (m4, .inl (mc4, 128, .inl mf4)), (m19, .inl (mc19, 10, .inl mf19)), (m20, .inl (mc20, 10, .inl mf20)), (m21, .inl (mc21, 10, .inl mf21)), (m22, .inl (mc22, 10, .inl mf22)), (m23, .inl (mc23, 10, .inl mf23)), (m24, .inl (mc24, 4, .inl mf24)), (m25, .inl (mc25, 10, .inl mf25)), (m28, .inl (mc28, 10, .inl mf28)), (m29, .inl (mc29, 10, .inl mf29)), (m30, .inl (mc30, 10, .inl mf30)), (m31, .inl (mc31, 10, .inl mf31)), (m32, .inl (mc32, 10, .inl mf32)), (m33, .inl (mc33, 10, .inl mf33)), (m34, .inl (mc34, 10, .inl mf34)), (m35, .inl (mc35, 10, .inl mf35)), (m36, .inl (mc36, 10, .inl mf36)), (m40, .inl (mc40, 20, .inl mf40)), (m41, .inl (mc41, 20, .inl mf41)), (m42, .inl (mc42, 20, .inl mf42)), (m43, .inl (mc43, 20, .inl mf43)), (m44, .inl (mc44, 20, .inl mf44)), (m46, .inl (mc46, 14, .inr (.inl mf46))), (m47, .inl (mc47, 6, .inl mf47)), (m48, .inl (mc48, 6, .inl mf48)), (m49, .inl (mc49, 6, .inl mf49)), (m50, .inl (mc50, 6, .inl mf50)), (oo, .inl (cOo, 1, .inr (.inl fo1_29)))] H1 := kJoinI hP hD [0, 1, 2, 3, 4, 5, 6, 7, 8, 9, 10, 11, 12, 13, 14, 15, 16, 17, 18, 19, 20, 21, 22, 23, 24, 25, 26, 27, 28, 29, 30, 31, 32, 33, 34, 35, 36, 37, 38, 75] rfl hk1 hFc hP1 hD1 rfl [some 0, some 1, some 2, some 3, some 4, some 5, some 6, some 7, some 8, some 9, some 10, some 11, some 12, some 13, some 14, some 15, some 16, some 17, some 18, some 19, some 20, some 21, some 22, some 23, some 24, some 25, some 26, some 27, some 28, some 29, some 30, some 31, some 32, some 33, some 34, some 35, some 36, some 37, some 38, none, none, none, none, none, none, none, none, none, none, none, none, none, none, none, none, none, none, none, none, none, none, none, none, none, none, none, none, none, none, none, none, none, none, none, none, some 39] rfl rfl
  obtain ⟨hP, hD⟩ := hPD
  have hL1 := kShL_keep hL1 (Wc := [(jX, .inr (9, [.ref jT, .ref jR, .ref jK, .ref jL, .ref jU, .ref hF, .ref jC, .ref hN, .ref jA, .ref sd])), (jC, .inr (1, [.ref hF, .ref jK, .ref d2, .ref d3, .ref d4, .ref d5, .ref d6, .ref d7, .ref d8, .ref d9, .ref d10, .ref d11, .ref d12, .ref d13, lw, .long cdr, .int cpr, .int cmo, .int cho])), (d2, .inl (w2, 10, .inl e2)), (d3, .inl (w3, 10, .inl e3)), (d4, .inl (w4, 10, .inl e4)), (d5, .inl (w5, 10, .inl e5)), (d6, .inl (w6, 10, .inl e6)), (d7, .inl (w7, 10, .inl e7)), (d8, .inl (w8, 10, .inl e8)), (d9, .inl (w9, 10, .inl e9)), (d10, .inl (w10, 4, .inl e10)), (d11, .inl (w11, 4, .inl e11)), (d12, .inl (w12, 4, .inl e12)), (d13, .inl (w13, 9, .inr (.inl e13))), (hF, .inr (2, [.ref f0, .ref f1, .ref f2, .ref f3, .ref f4, .int (nI (sv)), .int (nI (ks)), .int (nI (kw))])), (f0, .inl (z0, 10, .inl g0)), (f1, .inl (z1, 10, .inl g1)), (f2, .inl (z2, 10, .inl g2)), (f3, .inl (z3, 10, .inl g3)), (f4, .inl (z4, 4, .inl g4)), (jK, .inr (5, [.ref k0, .ref k1])), (k0, .inl (cK, 8, .inl l0)), (k1, .inl (cO, 32, .inl l1)), (hN, .inr (3, [.ref o0, .ref o1, .ref o2, .ref o3, .ref o4, .int (nI (kn))])), (o0, .inl (y0, 20, .inl q0)), (o1, .inl (y1, 20, .inl q1)), (o2, .inl (y2, 20, .inl q2)), (o3, .inl (y3, 20, .inl q3)), (o4, .inl (y4, 20, .inl q4)), (jA, .inr (0, [.ref i0, .ref i1, .ref i2, .ref i3, .int (nI (ka))])), (i0, .inl (x0, 6, .inl ta0)), (i1, .inl (x1, 6, .inl ta1)), (i2, .inl (x2, 6, .inl ta2)), (i3, .inl (x3, 6, .inl ta3)), (jL, .inr (7, [.ref rL, .int (nI (kl))])), (rL, .inl (cL, 6, .inr (.inr (.inr (.inr gL))))), (jU, .inr (7, [.ref rU, .int (nI (ku))])), (rU, .inl (cU, 8, .inr (.inr (.inr (.inr gU))))), (sd, .inl (cD, 10, .inl gD)), (oo, .inl (cOo, 1, .inr (.inl fo)))]) [0, 1, 2, 3, 4, 5, 6, 7, 8, 9, 10, 11, 12, 13, 14, 15, 16, 17, 18, 19, 20, 21, 22, 23, 24, 25, 26, 27, 28, 29, 30, 31, 32, 33, 34, 35, 36, 37, 38, 75] rfl hk1
  have hL2 := kShL_keep hL2 (Wc := [(jX, .inr (9, [.ref jT, .ref jR, .ref jK, .ref jL, .ref jU, .ref hF, .ref jC, .ref hN, .ref jA, .ref sd])), (jC, .inr (1, [.ref hF, .ref jK, .ref d2, .ref d3, .ref d4, .ref d5, .ref d6, .ref d7, .ref d8, .ref d9, .ref d10, .ref d11, .ref d12, .ref d13, lw, .long cdr, .int cpr, .int cmo, .int cho])), (d2, .inl (w2, 10, .inl e2)), (d3, .inl (w3, 10, .inl e3)), (d4, .inl (w4, 10, .inl e4)), (d5, .inl (w5, 10, .inl e5)), (d6, .inl (w6, 10, .inl e6)), (d7, .inl (w7, 10, .inl e7)), (d8, .inl (w8, 10, .inl e8)), (d9, .inl (w9, 10, .inl e9)), (d10, .inl (w10, 4, .inl e10)), (d11, .inl (w11, 4, .inl e11)), (d12, .inl (w12, 4, .inl e12)), (d13, .inl (w13, 9, .inr (.inl e13))), (hF, .inr (2, [.ref f0, .ref f1, .ref f2, .ref f3, .ref f4, .int (nI (sv)), .int (nI (ks)), .int (nI (kw))])), (f0, .inl (z0, 10, .inl g0)), (f1, .inl (z1, 10, .inl g1)), (f2, .inl (z2, 10, .inl g2)), (f3, .inl (z3, 10, .inl g3)), (f4, .inl (z4, 4, .inl g4)), (jK, .inr (5, [.ref k0, .ref k1])), (k0, .inl (cK, 8, .inl l0)), (k1, .inl (cO, 32, .inl l1)), (hN, .inr (3, [.ref o0, .ref o1, .ref o2, .ref o3, .ref o4, .int (nI (kn))])), (o0, .inl (y0, 20, .inl q0)), (o1, .inl (y1, 20, .inl q1)), (o2, .inl (y2, 20, .inl q2)), (o3, .inl (y3, 20, .inl q3)), (o4, .inl (y4, 20, .inl q4)), (jA, .inr (0, [.ref i0, .ref i1, .ref i2, .ref i3, .int (nI (ka))])), (i0, .inl (x0, 6, .inl ta0)), (i1, .inl (x1, 6, .inl ta1)), (i2, .inl (x2, 6, .inl ta2)), (i3, .inl (x3, 6, .inl ta3)), (jL, .inr (7, [.ref rL, .int (nI (kl))])), (rL, .inl (cL, 6, .inr (.inr (.inr (.inr gL))))), (jU, .inr (7, [.ref rU, .int (nI (ku))])), (rU, .inl (cU, 8, .inr (.inr (.inr (.inr gU))))), (sd, .inl (cD, 10, .inl gD)), (oo, .inl (cOo, 1, .inr (.inl fo)))]) [0, 1, 2, 3, 4, 5, 6, 7, 8, 9, 10, 11, 12, 13, 14, 15, 16, 17, 18, 19, 20, 21, 22, 23, 24, 25, 26, 27, 28, 29, 30, 31, 32, 33, 34, 35, 36, 37, 38, 75] rfl hk1
  generalize H1 = H at hP hS hL1 hL2 ⊢
  have hw_35 := hw
  refine lv_istore hx hb dL_law_470 hl kc_l_5_7 (kTo [(5, .int r_14), (4, .int (nI (i))), (3, .ref oo), (2, .ref jM), (1, .ref jX), (0, .ref b)]) (fun ls hl => ?_)
  refine lv_aload_n hx hb dL_law_472 rfl (lv_at hl 3 rfl) ?_
  refine lv_aload_n hx hb dL_law_473 rfl (lv_at hl 5 rfl) ?_
  refine lv_iload hx hb dL_law_474 (lv_at hl 1 rfl) ?_
  refine lv_iconst (v := 1) hx hb dL_law_476 kc_i_1 ?_
  refine lv_iadd hx hb dL_law_477 ?_
  refine lv_topi (fun y_36 ey_36 => ?_)
  obtain rfl : y_36 = nI (i + 1) := ey_36.trans (nI_add (i) (1))
  refine va_sld hx hb hX hbl hbA hS (vp_in_nI (n := i + 1) (N := L) (by omega) (by omega)) dL_law_478 ?_
  refine lv_topi (fun x_37 ex_37 => ?_)
  refine lv_aload_n hx hb dL_law_479 rfl (lv_at hl 5 rfl) ?_
  refine lv_iload hx hb dL_law_480 (lv_at hl 1 rfl) ?_
  refine lv_iconst (v := 2) hx hb dL_law_482 kc_i_2 ?_
  refine lv_iadd hx hb dL_law_483 ?_
  refine lv_topi (fun y_38 ey_38 => ?_)
  obtain rfl : y_38 = nI (i + 2) := ey_38.trans (nI_add (i) (2))
  refine va_sld hx hb hX hbl hbA hS (vp_in_nI (n := i + 2) (N := L) (by omega) (by omega)) dL_law_484 ?_
  refine lv_topi (fun x_39 ex_39 => ?_)
  refine lv_aload_n hx hb dL_law_485 rfl (lv_at hl 5 rfl) ?_
  refine lv_iload hx hb dL_law_486 (lv_at hl 1 rfl) ?_
  refine lv_iconst (v := 3) hx hb dL_law_488 kc_i_3 ?_
  refine lv_iadd hx hb dL_law_489 ?_
  refine lv_topi (fun y_40 ey_40 => ?_)
  obtain rfl : y_40 = nI (i + 3) := ey_40.trans (nI_add (i) (3))
  refine va_sld hx hb hX hbl hbA hS (vp_in_nI (n := i + 3) (N := L) (by omega) (by omega)) dL_law_490 ?_
  refine lv_topi (fun x_41 ex_41 => ?_)
  have bd_42 : kt ≤ 120 := by omega
  have bd_43 : ho ≤ 48 := by omega
  have hCu := kCut (wc := [(jM, .inr (10, [.int th, .ref m1, .ref m2, .ref m3, .ref m4, v5, .int (nI (kt)), .int (nI (kl)), .int (nI (ku)), v9, v10, v11, v12, v13, v14, v15, v16, v17, v18, .ref m19, .ref m20, .ref m21, .ref m22, .ref m23, .ref m24, .ref m25, .int (nI (ks)), .int (nI (kw)), .ref m28, .ref m29, .ref m30, .ref m31, .ref m32, .ref m33, .ref m34, .ref m35, .ref m36, .int thr, .int (nI (ho)), .long xx, .ref m40, .ref m41, .ref m42, .ref m43, .ref m44, .int (nI (kn)), .ref m46, .ref m47, .ref m48, .ref m49, .ref m50, .int (nI (ka))])), (m1, .inl (mc1, 120, .inl mf1)), (m2, .inl (mc2, 1680, .inl mf2)), (m3, .inl (mc3, 14, .inl mf3)), (m4, .inl (mc4, 128, .inl mf4)), (m19, .inl (mc19, 10, .inl mf19)), (m20, .inl (mc20, 10, .inl mf20)), (m21, .inl (mc21, 10, .inl mf21)), (m22, .inl (mc22, 10, .inl mf22)), (m23, .inl (mc23, 10, .inl mf23)), (m24, .inl (mc24, 4, .inl mf24)), (m25, .inl (mc25, 10, .inl mf25)), (m28, .inl (mc28, 10, .inl mf28)), (m29, .inl (mc29, 10, .inl mf29)), (m30, .inl (mc30, 10, .inl mf30)), (m31, .inl (mc31, 10, .inl mf31)), (m32, .inl (mc32, 10, .inl mf32)), (m33, .inl (mc33, 10, .inl mf33)), (m34, .inl (mc34, 10, .inl mf34)), (m35, .inl (mc35, 10, .inl mf35)), (m36, .inl (mc36, 10, .inl mf36)), (m40, .inl (mc40, 20, .inl mf40)), (m41, .inl (mc41, 20, .inl mf41)), (m42, .inl (mc42, 20, .inl mf42)), (m43, .inl (mc43, 20, .inl mf43)), (m44, .inl (mc44, 20, .inl mf44)), (m46, .inl (mc46, 14, .inr (.inl mf46))), (m47, .inl (mc47, 6, .inl mf47)), (m48, .inl (mc48, 6, .inl mf48)), (m49, .inl (mc49, 6, .inl mf49)), (m50, .inl (mc50, 6, .inl mf50))]) hP hD hS hA [44, 45, 46, 47, 48, 49, 50, 51, 52, 53, 54, 55, 56, 57, 58, 59, 60, 61, 62, 63, 64, 65, 66, 67, 68, 69, 70, 71, 72, 73, 74] rfl kc_nd_1018 rfl
  have hPc := hCu.1
  have hDc := hCu.2.1
  have hFc := hCu.2.2
  have hKc := hK.sb (tys2 := [(mc1, .byte), (mc2, .byte), (mc3, .int), (mc4, .int), (mc19, .int), (mc20, .int), (mc21, .int), (mc22, .int), (mc23, .int), (mc24, .int), (mc25, .boolean), (mc28, .int), (mc29, .int), (mc30, .int), (mc31, .int), (mc32, .int), (mc33, .int), (mc34, .int), (mc35, .int), (mc36, .int), (mc40, .int), (mc41, .int), (mc42, .int), (mc43, .int), (mc44, .int), (mc46, .long), (mc47, .int), (mc48, .int), (mc49, .int), (mc50, .int)]) [34, 35, 36, 37, 38, 39, 40, 41, 42, 43, 44, 45, 46, 47, 48, 49, 50, 51, 52, 53, 54, 55, 56, 57, 58, 59, 60, 61, 62, 63] rfl
  refine va_calli (va_runV (As := [.int x_37, .int x_39, .int x_41]) (rest := []) ⟨hx, hb, hml, hown, hts⟩ (s_worth10 l dC dI jM th thr xx (v5 : Value) (v9 : Value) (v10 : Value) (v11 : Value) (v12 : Value) (v13 : Value) (v14 : Value) (v15 : Value) (v16 : Value) (v17 : Value) (v18 : Value) m1 m2 m3 m4 m19 m20 m21 m22 m23 m24 m25 m28 m29 m30 m31 m32 m33 m34 m35 m36 m40 m41 m42 m43 m44 m46 m47 m48 m49 m50 mc1 mc2 mc3 mc4 mc19 mc20 mc21 mc22 mc23 mc24 mc25 mc28 mc29 mc30 mc31 mc32 mc33 mc34 mc35 mc36 mc40 mc41 mc42 mc43 mc44 mc46 mc47 mc48 mc49 mc50 mf1 mf2 mf3 mf4 mf19 mf20 mf21 mf22 mf23 mf24 mf25 mf28 mf29 mf30 mf31 mf32 mf33 mf34 mf35 mf36 mf40 mf41 mf42 mf43 mf44 mf46 mf47 mf48 mf49 mf50 kt kl ku ks kw ho kn ka bd_42 bd_12 bd_13 bd_7 bd_8 bd_43 bd_10 bd_11 ad (bt 5) 3 (kTx [121, 103, 120]) (by decide) (bt 7) 8 (kTx [118, 112, 110, 109, 115, 117, 100, 105]) (by decide) (bt 6) 1 (kTx [119]) (by decide) (bt 8) 5 (kTx [97, 98, 99, 100, 101]) (by decide) (kTx_b (by decide +kernel)) (kTx_b (by decide +kernel)) (kTx_b (by decide +kernel)) (kTx_b (by decide +kernel)) kHzA kHzB kHzE kHzG (fun c hc => kHlB ⟨c, hc⟩) (fun c hc => kHlG ⟨c, hc⟩) yL yU hUl hUt (⟨rfl, by decide⟩) (⟨rfl, kTxG⟩) g0 g1 g2 g3 g4 sv (kTd_mk hT9 hse hsb) hT9.2.2.2 (⟨rfl, by decide, by decide, by decide⟩) (⟨rfl, kTxB⟩) hsv x_37 x_39 x_41 H.size) (cwV 3 hts (kG (List.forall_mem_cons.mpr ⟨tw_1383, (List.forall_mem_cons.mpr ⟨tw_1384, (List.forall_mem_cons.mpr ⟨tw_1385, (List.forall_mem_cons.mpr ⟨tw_85, (fun _ h => absurd h List.not_mem_nil)⟩)⟩)⟩)⟩) (kGV _ _ _ _) in_w_s_worth10 gw_s_worth10) rfl rfl rfl ⟨rfl, hd_X10_worth⟩ ⟨(Nat.le_of_ble_eq_true rfl), (Nat.le_of_ble_eq_true rfl)⟩) (kW_V kMx_blind (kMx_give hXX.2.2.1 hS hFc) (va_recv hKc hPc (ci := 10) (q0 := 0) rfl rfl) hPc hKc hDc) rfl rfl hl.1 rfl (lv_room (Nat.le_of_ble_eq_true rfl)) dL_law_491 ⟨(show cells + 1 + 0 ≤ 601024 by omega), (show slots + 6 + 0 ≤ 7293034 by omega)⟩) hS (fun q _ h => hFc q h) hFc (fun r_44 u t H1 locs ht hvm hw hB hz1 hk1 hS => ?_)
  obtain ⟨S4_45, S28_46, S29_47, S30_48, S31_49, S32_50, S33_51, S34_52, S35_53, S36_54, Th0_55, Th_56, Ho_57, Xx_58, W5_59, W9_60, W10_61, W11_62, W12_63, W13_64, W14_65, W15_66, W16_67, W17_68, W18_69⟩ := u
  obtain ⟨hP1, hK1, hD1⟩ := hB
  rw [ht] at hP1
  try dsimp only at hw
  have hPD : kPD dC dI (fun q : Nat => s.heap.size ≤ q) [(jX, .inr (9, [.ref jT, .ref jR, .ref jK, .ref jL, .ref jU, .ref hF, .ref jC, .ref hN, .ref jA, .ref sd])), (jC, .inr (1, [.ref hF, .ref jK, .ref d2, .ref d3, .ref d4, .ref d5, .ref d6, .ref d7, .ref d8, .ref d9, .ref d10, .ref d11, .ref d12, .ref d13, Lw_34, .long Dr_33, .int Pr_30, .int Mo_31, .int Ho_32])), (d2, .inl (w2, 10, .inl E2_15)), (d3, .inl (w3, 10, .inl E3_16)), (d4, .inl (w4, 10, .inl E4_17)), (d5, .inl (w5, 10, .inl E5_18)), (d6, .inl (w6, 10, .inl E6_19)), (d7, .inl (w7, 10, .inl E7_20)), (d8, .inl (w8, 10, .inl E8_21)), (d9, .inl (w9, 10, .inl E9_22)), (d10, .inl (w10, 4, .inl E10_23)), (d11, .inl (w11, 4, .inl E11_24)), (d12, .inl (w12, 4, .inl E12_25)), (d13, .inl (w13, 9, .inr (.inl E13_26))), (hF, .inr (2, [.ref f0, .ref f1, .ref f2, .ref f3, .ref f4, .int (nI (sv)), .int (nI (ks)), .int (nI (kw))])), (f0, .inl (z0, 10, .inl g0)), (f1, .inl (z1, 10, .inl g1)), (f2, .inl (z2, 10, .inl g2)), (f3, .inl (z3, 10, .inl g3)), (f4, .inl (z4, 4, .inl g4)), (jK, .inr (5, [.ref k0, .ref k1])), (k0, .inl (cK, 8, .inl L0_27)), (k1, .inl (cO, 32, .inl L1_28)), (hN, .inr (3, [.ref o0, .ref o1, .ref o2, .ref o3, .ref o4, .int (nI (kn))])), (o0, .inl (y0, 20, .inl q0)), (o1, .inl (y1, 20, .inl q1)), (o2, .inl (y2, 20, .inl q2)), (o3, .inl (y3, 20, .inl q3)), (o4, .inl (y4, 20, .inl q4)), (jA, .inr (0, [.ref i0, .ref i1, .ref i2, .ref i3, .int (nI (ka))])), (i0, .inl (x0, 6, .inl ta0)), (i1, .inl (x1, 6, .inl ta1)), (i2, .inl (x2, 6, .inl ta2)), (i3, .inl (x3, 6, .inl ta3)), (jL, .inr (7, [.ref rL, .int (nI (kl))])), (rL, .inl (cL, 6, .inr (.inr (.inr (.inr gL))))), (jU, .inr (7, [.ref rU, .int (nI (ku))])), (rU, .inl (cU, 8, .inr (.inr (.inr (.inr gU))))), (sd, .inl (cD, 10, .inl gD)), (jR, .inr (4, [.ref jT, .ref r1, .ref r2, .int (nI (wr)), .int (nI (fi)), .int rpl, rv6, rv7])), (r1, .inl (c1, 120, .inl s1)), (r2, .inl (c2, 124, .inl s2)), (jT, .inr (8, [.ref tz0, .int (nI (kt))])), (tz0, .inl (cC, 120, .inl gTp)), (jM, .inr (10, [.int Th0_55, .ref m1, .ref m2, .ref m3, .ref m4, W5_59, .int (nI (kt)), .int (nI (kl)), .int (nI (ku)), W9_60, W10_61, W11_62, W12_63, W13_64, W14_65, W15_66, W16_67, W17_68, W18_69, .ref m19, .ref m20, .ref m21, .ref m22, .ref m23, .ref m24, .ref m25, .int (nI (ks)), .int (nI (kw)), .ref m28, .ref m29, .ref m30, .ref m31, .ref m32, .ref m33, .ref m34, .ref m35, .ref m36, .int Th_56, .int (nI (Ho_57)), .long Xx_58, .ref m40, .ref m41, .ref m42, .ref m43, .ref m44, .int (nI (kn)), .ref m46, .ref m47, .ref m48, .ref m49, .ref m50, .int (nI (ka))])), (m1, .inl (mc1, 120, .inl mf1)), (m2, .inl (mc2, 1680, .inl mf2)), (m3, .inl (mc3, 14, .inl mf3)), (m4, .inl (mc4, 128, .inl S4_45)), (m19, .inl (mc19, 10, .inl mf19)), (m20, .inl (mc20, 10, .inl mf20)), (m21, .inl (mc21, 10, .inl mf21)), (m22, .inl (mc22, 10, .inl mf22)), (m23, .inl (mc23, 10, .inl mf23)), (m24, .inl (mc24, 4, .inl mf24)), (m25, .inl (mc25, 10, .inl mf25)), (m28, .inl (mc28, 10, .inl S28_46)), (m29, .inl (mc29, 10, .inl S29_47)), (m30, .inl (mc30, 10, .inl S30_48)), (m31, .inl (mc31, 10, .inl S31_49)), (m32, .inl (mc32, 10, .inl S32_50)), (m33, .inl (mc33, 10, .inl S33_51)), (m34, .inl (mc34, 10, .inl S34_52)), (m35, .inl (mc35, 10, .inl S35_53)), (m36, .inl (mc36, 10, .inl S36_54)), (m40, .inl (mc40, 20, .inl mf40)), (m41, .inl (mc41, 20, .inl mf41)), (m42, .inl (mc42, 20, .inl mf42)), (m43, .inl (mc43, 20, .inl mf43)), (m44, .inl (mc44, 20, .inl mf44)), (m46, .inl (mc46, 14, .inr (.inl mf46))), (m47, .inl (mc47, 6, .inl mf47)), (m48, .inl (mc48, 6, .inl mf48)), (m49, .inl (mc49, 6, .inl mf49)), (m50, .inl (mc50, 6, .inl mf50)), (oo, .inl (cOo, 1, .inr (.inl fo1_29)))] H1 := kJoinI hP hD [44, 45, 46, 47, 48, 49, 50, 51, 52, 53, 54, 55, 56, 57, 58, 59, 60, 61, 62, 63, 64, 65, 66, 67, 68, 69, 70, 71, 72, 73, 74] rfl hk1 hFc hP1 hD1 rfl [none, none, none, none, none, none, none, none, none, none, none, none, none, none, none, none, none, none, none, none, none, none, none, none, none, none, none, none, none, none, none, none, none, none, none, none, none, none, none, none, none, none, none, none, some 0, some 1, some 2, some 3, some 4, some 5, some 6, some 7, some 8, some 9, some 10, some 11, some 12, some 13, some 14, some 15, some 16, some 17, some 18, some 19, some 20, some 21, some 22, some 23, some 24, some 25, some 26, some 27, some 28, some 29, some 30, none] rfl rfl
  obtain ⟨hP, hD⟩ := hPD
  have hL1 := kShL_keep hL1 (Wc := [(jM, .inr (10, [.int th, .ref m1, .ref m2, .ref m3, .ref m4, v5, .int (nI (kt)), .int (nI (kl)), .int (nI (ku)), v9, v10, v11, v12, v13, v14, v15, v16, v17, v18, .ref m19, .ref m20, .ref m21, .ref m22, .ref m23, .ref m24, .ref m25, .int (nI (ks)), .int (nI (kw)), .ref m28, .ref m29, .ref m30, .ref m31, .ref m32, .ref m33, .ref m34, .ref m35, .ref m36, .int thr, .int (nI (ho)), .long xx, .ref m40, .ref m41, .ref m42, .ref m43, .ref m44, .int (nI (kn)), .ref m46, .ref m47, .ref m48, .ref m49, .ref m50, .int (nI (ka))])), (m1, .inl (mc1, 120, .inl mf1)), (m2, .inl (mc2, 1680, .inl mf2)), (m3, .inl (mc3, 14, .inl mf3)), (m4, .inl (mc4, 128, .inl mf4)), (m19, .inl (mc19, 10, .inl mf19)), (m20, .inl (mc20, 10, .inl mf20)), (m21, .inl (mc21, 10, .inl mf21)), (m22, .inl (mc22, 10, .inl mf22)), (m23, .inl (mc23, 10, .inl mf23)), (m24, .inl (mc24, 4, .inl mf24)), (m25, .inl (mc25, 10, .inl mf25)), (m28, .inl (mc28, 10, .inl mf28)), (m29, .inl (mc29, 10, .inl mf29)), (m30, .inl (mc30, 10, .inl mf30)), (m31, .inl (mc31, 10, .inl mf31)), (m32, .inl (mc32, 10, .inl mf32)), (m33, .inl (mc33, 10, .inl mf33)), (m34, .inl (mc34, 10, .inl mf34)), (m35, .inl (mc35, 10, .inl mf35)), (m36, .inl (mc36, 10, .inl mf36)), (m40, .inl (mc40, 20, .inl mf40)), (m41, .inl (mc41, 20, .inl mf41)), (m42, .inl (mc42, 20, .inl mf42)), (m43, .inl (mc43, 20, .inl mf43)), (m44, .inl (mc44, 20, .inl mf44)), (m46, .inl (mc46, 14, .inr (.inl mf46))), (m47, .inl (mc47, 6, .inl mf47)), (m48, .inl (mc48, 6, .inl mf48)), (m49, .inl (mc49, 6, .inl mf49)), (m50, .inl (mc50, 6, .inl mf50))]) [44, 45, 46, 47, 48, 49, 50, 51, 52, 53, 54, 55, 56, 57, 58, 59, 60, 61, 62, 63, 64, 65, 66, 67, 68, 69, 70, 71, 72, 73, 74] rfl hk1
  have hL2 := kShL_keep hL2 (Wc := [(jM, .inr (10, [.int th, .ref m1, .ref m2, .ref m3, .ref m4, v5, .int (nI (kt)), .int (nI (kl)), .int (nI (ku)), v9, v10, v11, v12, v13, v14, v15, v16, v17, v18, .ref m19, .ref m20, .ref m21, .ref m22, .ref m23, .ref m24, .ref m25, .int (nI (ks)), .int (nI (kw)), .ref m28, .ref m29, .ref m30, .ref m31, .ref m32, .ref m33, .ref m34, .ref m35, .ref m36, .int thr, .int (nI (ho)), .long xx, .ref m40, .ref m41, .ref m42, .ref m43, .ref m44, .int (nI (kn)), .ref m46, .ref m47, .ref m48, .ref m49, .ref m50, .int (nI (ka))])), (m1, .inl (mc1, 120, .inl mf1)), (m2, .inl (mc2, 1680, .inl mf2)), (m3, .inl (mc3, 14, .inl mf3)), (m4, .inl (mc4, 128, .inl mf4)), (m19, .inl (mc19, 10, .inl mf19)), (m20, .inl (mc20, 10, .inl mf20)), (m21, .inl (mc21, 10, .inl mf21)), (m22, .inl (mc22, 10, .inl mf22)), (m23, .inl (mc23, 10, .inl mf23)), (m24, .inl (mc24, 4, .inl mf24)), (m25, .inl (mc25, 10, .inl mf25)), (m28, .inl (mc28, 10, .inl mf28)), (m29, .inl (mc29, 10, .inl mf29)), (m30, .inl (mc30, 10, .inl mf30)), (m31, .inl (mc31, 10, .inl mf31)), (m32, .inl (mc32, 10, .inl mf32)), (m33, .inl (mc33, 10, .inl mf33)), (m34, .inl (mc34, 10, .inl mf34)), (m35, .inl (mc35, 10, .inl mf35)), (m36, .inl (mc36, 10, .inl mf36)), (m40, .inl (mc40, 20, .inl mf40)), (m41, .inl (mc41, 20, .inl mf41)), (m42, .inl (mc42, 20, .inl mf42)), (m43, .inl (mc43, 20, .inl mf43)), (m44, .inl (mc44, 20, .inl mf44)), (m46, .inl (mc46, 14, .inr (.inl mf46))), (m47, .inl (mc47, 6, .inl mf47)), (m48, .inl (mc48, 6, .inl mf48)), (m49, .inl (mc49, 6, .inl mf49)), (m50, .inl (mc50, 6, .inl mf50))]) [44, 45, 46, 47, 48, 49, 50, 51, 52, 53, 54, 55, 56, 57, 58, 59, 60, 61, 62, 63, 64, 65, 66, 67, 68, 69, 70, 71, 72, 73, 74] rfl hk1
  generalize H1 = H at hP hS hL1 hL2 ⊢
  have hw_70 := hw
  have hw_70_0 := hw_70.2
  have exx : x_2 = x_37 := ex_2.trans ex_37.symm
  subst exx
  have exx : x_4 = x_39 := ex_4.trans ex_39.symm
  subst exx
  have exx : x_6 = x_41 := ex_6.trans ex_41.symm
  subst exx
  refine lv_istore hx hb dL_law_494 hl kc_l_6_7 (kTo [(6, .int r_44), (5, .int r_14), (4, .int (nI (i))), (3, .ref oo), (2, .ref jM), (1, .ref jX), (0, .ref b)]) (fun ls hl => ?_)
  refine lv_aload_n hx hb dL_law_496 rfl (lv_at hl 4 rfl) ?_
  have bd_71 : Ho_57 ≤ 48 := by omega
  have hPc := hP.sb (ws2 := [(jM, .inr (10, [.int Th0_55, .ref m1, .ref m2, .ref m3, .ref m4, W5_59, .int (nI (kt)), .int (nI (kl)), .int (nI (ku)), W9_60, W10_61, W11_62, W12_63, W13_64, W14_65, W15_66, W16_67, W17_68, W18_69, .ref m19, .ref m20, .ref m21, .ref m22, .ref m23, .ref m24, .ref m25, .int (nI (ks)), .int (nI (kw)), .ref m28, .ref m29, .ref m30, .ref m31, .ref m32, .ref m33, .ref m34, .ref m35, .ref m36, .int Th_56, .int (nI (Ho_57)), .long Xx_58, .ref m40, .ref m41, .ref m42, .ref m43, .ref m44, .int (nI (kn)), .ref m46, .ref m47, .ref m48, .ref m49, .ref m50, .int (nI (ka))])), (m1, .inl (mc1, 120, .inl mf1)), (m2, .inl (mc2, 1680, .inl mf2)), (m3, .inl (mc3, 14, .inl mf3)), (m4, .inl (mc4, 128, .inl S4_45)), (m19, .inl (mc19, 10, .inl mf19)), (m20, .inl (mc20, 10, .inl mf20)), (m21, .inl (mc21, 10, .inl mf21)), (m22, .inl (mc22, 10, .inl mf22)), (m23, .inl (mc23, 10, .inl mf23)), (m24, .inl (mc24, 4, .inl mf24)), (m25, .inl (mc25, 10, .inl mf25)), (m28, .inl (mc28, 10, .inl S28_46)), (m29, .inl (mc29, 10, .inl S29_47)), (m30, .inl (mc30, 10, .inl S30_48)), (m31, .inl (mc31, 10, .inl S31_49)), (m32, .inl (mc32, 10, .inl S32_50)), (m33, .inl (mc33, 10, .inl S33_51)), (m34, .inl (mc34, 10, .inl S34_52)), (m35, .inl (mc35, 10, .inl S35_53)), (m36, .inl (mc36, 10, .inl S36_54)), (m40, .inl (mc40, 20, .inl mf40)), (m41, .inl (mc41, 20, .inl mf41)), (m42, .inl (mc42, 20, .inl mf42)), (m43, .inl (mc43, 20, .inl mf43)), (m44, .inl (mc44, 20, .inl mf44)), (m46, .inl (mc46, 14, .inr (.inl mf46))), (m47, .inl (mc47, 6, .inl mf47)), (m48, .inl (mc48, 6, .inl mf48)), (m49, .inl (mc49, 6, .inl mf49)), (m50, .inl (mc50, 6, .inl mf50))]) [44, 45, 46, 47, 48, 49, 50, 51, 52, 53, 54, 55, 56, 57, 58, 59, 60, 61, 62, 63, 64, 65, 66, 67, 68, 69, 70, 71, 72, 73, 74] rfl
  have hKc := hK.sb (tys2 := [(mc1, .byte), (mc2, .byte), (mc3, .int), (mc4, .int), (mc19, .int), (mc20, .int), (mc21, .int), (mc22, .int), (mc23, .int), (mc24, .int), (mc25, .boolean), (mc28, .int), (mc29, .int), (mc30, .int), (mc31, .int), (mc32, .int), (mc33, .int), (mc34, .int), (mc35, .int), (mc36, .int), (mc40, .int), (mc41, .int), (mc42, .int), (mc43, .int), (mc44, .int), (mc46, .long), (mc47, .int), (mc48, .int), (mc49, .int), (mc50, .int)]) [34, 35, 36, 37, 38, 39, 40, 41, 42, 43, 44, 45, 46, 47, 48, 49, 50, 51, 52, 53, 54, 55, 56, 57, 58, 59, 60, 61, 62, 63] rfl
  refine vp_callSi (va_runV (As := []) (rest := []) ⟨hx, hb, hml, hown, hts⟩ (s_thrown10 l dC dI jM Th0_55 Th_56 Xx_58 (W5_59 : Value) (W9_60 : Value) (W10_61 : Value) (W11_62 : Value) (W12_63 : Value) (W13_64 : Value) (W14_65 : Value) (W15_66 : Value) (W16_67 : Value) (W17_68 : Value) (W18_69 : Value) m1 m2 m3 m4 m19 m20 m21 m22 m23 m24 m25 m28 m29 m30 m31 m32 m33 m34 m35 m36 m40 m41 m42 m43 m44 m46 m47 m48 m49 m50 mc1 mc2 mc3 mc4 mc19 mc20 mc21 mc22 mc23 mc24 mc25 mc28 mc29 mc30 mc31 mc32 mc33 mc34 mc35 mc36 mc40 mc41 mc42 mc43 mc44 mc46 mc47 mc48 mc49 mc50 mf1 mf2 mf3 S4_45 mf19 mf20 mf21 mf22 mf23 mf24 mf25 S28_46 S29_47 S30_48 S31_49 S32_50 S33_51 S34_52 S35_53 S36_54 mf40 mf41 mf42 mf43 mf44 mf46 mf47 mf48 mf49 mf50 kt kl ku ks kw Ho_57 kn ka bd_42 bd_12 bd_13 bd_7 bd_8 bd_71 bd_10 bd_11) (cwV 0 hts (kG (List.forall_mem_cons.mpr ⟨tw_1241, (List.forall_mem_cons.mpr ⟨tw_1242, (List.forall_mem_cons.mpr ⟨tw_1243, (List.forall_mem_cons.mpr ⟨tw_85, (fun _ h => absurd h List.not_mem_nil)⟩)⟩)⟩)⟩) (kGV _ _ _ _) in_w_s_thrown10 gw_s_thrown10) rfl rfl rfl ⟨rfl, hd_X10_thrown⟩ ⟨(Nat.le_of_ble_eq_true rfl), (Nat.le_of_ble_eq_true rfl)⟩) (kR_V kT_blind kT_give (va_recv hKc hPc (ci := 10) (q0 := 0) rfl rfl) hPc hKc) rfl rfl hl.1 rfl (lv_room (Nat.le_of_ble_eq_true rfl)) dL_law_497 ⟨(show cells + 1 + 0 ≤ 601024 by omega), (show slots + 6 + 0 ≤ 7293034 by omega)⟩).run (fun r_72 hw => ?_)
  have hrs9 : r_72 = Th0_55 := hw
  subst r_72
  refine lv_iload hx hb dL_law_500 (lv_at hl 1 rfl) ?_
  refine lv_icmp_eq (tgt := 507) hx hb dL_law_502 kc_t_502_5 (fun c_73 => ?_) (fun c_73 => absurd (hw_70.1.1.trans hw_35.1.symm) c_73)
  refine lv_iload hx hb dL_law_507 (lv_at hl 1 rfl) ?_
  refine lv_if_ne (tgt := 524) hx hb dL_law_509 kc_t_509_15 (fun c_74 => ?_) (fun c_74 => ?_)
  · refine lv_goto (tgt := 1791) hx hb dL_law_524 kc_t_524_1267 ?_
    refine lv_iinc (v := nI (i + 7)) hx hb dL_law_1791 hl (k := 2) rfl (kInc _ 7) kc_l_4_7 (kTo [(4, .int (nI (i + 7))), (6, .int r_44), (5, .int r_14), (3, .ref oo), (2, .ref jM), (1, .ref jX), (0, .ref b)]) (fun ls hl => ?_)
    refine lv_goto (tgt := 23) hx hb dL_law_1794 kc_t_1794_m1771 ?_
    exact ih _ _ _ _ _ (fun C9 hC9 => hC9 (Lw_34 : Value) E2_15 E3_16 E4_17 E5_18 E6_19 E7_20 E8_21 E9_22 E10_23 E11_24 E12_25 E13_26 Dr_33 Pr_30 Mo_31 Ho_32 g0 g1 g2 g3 g4 sv ks kw L0_27 L1_28 q0 q1 q2 q3 q4 kn ta0 ta1 ta2 ta3 ka gL kl gU ku gD gTp kt s1 s2 wr fi rpl (rv6 : Value) (rv7 : Value) Th0_55 Th_56 Xx_58 (W5_59 : Value) (W9_60 : Value) (W10_61 : Value) (W11_62 : Value) (W12_63 : Value) (W13_64 : Value) (W14_65 : Value) (W15_66 : Value) (W16_67 : Value) (W17_68 : Value) (W18_69 : Value) mf1 mf2 mf3 S4_45 mf19 mf20 mf21 mf22 mf23 mf24 mf25 S28_46 S29_47 S30_48 S31_49 S32_50 S33_51 S34_52 S35_53 S36_54 mf40 mf41 mf42 mf43 mf44 mf46 mf47 mf48 mf49 mf50 Ho_57 fo1_29 tb yL yU (by omega) (by omega) (by omega) (by omega) (by omega) (by omega) (by omega) (by omega) (by omega) (by omega) (by assumption) (by assumption) (by assumption) (by assumption) (by omega) (by first | assumption | exact kSaM (by omega) hSa) (by first | assumption | exact kNpM (by omega) hNp) (by assumption) (by assumption) (by assumption) (by assumption) (by assumption) ⟨hP, hD⟩ hS hL1 hL2 (lv_sub hl [0, 3, 4, 5, 6] rfl) (by omega) (by omega))
  · refine lv_aload_n hx hb dL_law_512 rfl (lv_at hl 3 rfl) ?_
    refine lv_iconst (v := 0) hx hb dL_law_513 kc_i_0 ?_
    have hE9 := hw_35.1.symm.trans c_74
    refine va_lald hx hb hK hP 75 64 rfl rfl kc_in_0_1 dL_law_514 ?_
    refine lv_topl (fun x_75 ex_75 => ?_)
    refine lv_iload hx hb dL_law_515 (lv_at hl 0 rfl) ?_
    obtain ⟨z_76, ez_76⟩ : ∃ z : Int64, z = Int32.toInt64 r_44 := ⟨_, rfl⟩
    refine lv_i2l (v := z_76) hx hb dL_law_517 ez_76.symm ?_
    refine W.lcmp hx hb dL_law_518 ?_
    refine lv_topi (fun x_77 ex_77 => ?_)
    refine lv_if_eq (tgt := 524) hx hb dL_law_519 kc_t_519_5 (fun c_78 => ?_) (fun c_78 => absurd (by rw [ex_77, ex_75, ez_76, show Int32.toNatClampNeg 0 = 0 by decide, hw_35.2 hE9, hw_70.1.2 hE9]; exact kLcS _) c_78)
    refine lv_goto (tgt := 1791) hx hb dL_law_524 kc_t_524_1267 ?_
    refine lv_iinc (v := nI (i + 7)) hx hb dL_law_1791 hl (k := 2) rfl (kInc _ 7) kc_l_4_7 (kTo [(4, .int (nI (i + 7))), (6, .int r_44), (5, .int r_14), (3, .ref oo), (2, .ref jM), (1, .ref jX), (0, .ref b)]) (fun ls hl => ?_)
    refine lv_goto (tgt := 23) hx hb dL_law_1794 kc_t_1794_m1771 ?_
    exact ih _ _ _ _ _ (fun C9 hC9 => hC9 (Lw_34 : Value) E2_15 E3_16 E4_17 E5_18 E6_19 E7_20 E8_21 E9_22 E10_23 E11_24 E12_25 E13_26 Dr_33 Pr_30 Mo_31 Ho_32 g0 g1 g2 g3 g4 sv ks kw L0_27 L1_28 q0 q1 q2 q3 q4 kn ta0 ta1 ta2 ta3 ka gL kl gU ku gD gTp kt s1 s2 wr fi rpl (rv6 : Value) (rv7 : Value) Th0_55 Th_56 Xx_58 (W5_59 : Value) (W9_60 : Value) (W10_61 : Value) (W11_62 : Value) (W12_63 : Value) (W13_64 : Value) (W14_65 : Value) (W15_66 : Value) (W16_67 : Value) (W17_68 : Value) (W18_69 : Value) mf1 mf2 mf3 S4_45 mf19 mf20 mf21 mf22 mf23 mf24 mf25 S28_46 S29_47 S30_48 S31_49 S32_50 S33_51 S34_52 S35_53 S36_54 mf40 mf41 mf42 mf43 mf44 mf46 mf47 mf48 mf49 mf50 Ho_57 fo1_29 tb yL yU (by omega) (by omega) (by omega) (by omega) (by omega) (by omega) (by omega) (by omega) (by omega) (by omega) (by assumption) (by assumption) (by assumption) (by assumption) (by omega) (by first | assumption | exact kSaM (by omega) hSa) (by first | assumption | exact kNpM (by omega) hNp) (by assumption) (by assumption) (by assumption) (by assumption) (by assumption) ⟨hP, hD⟩ hS hL1 hL2 (lv_sub hl [0, 3, 4, 5, 6] rfl) (by omega) (by omega))

theorem dL_law_527 : decode cL_law 527 = .ok (.aload_n 1, 1) := by decide +kernel
theorem dL_law_528 : decode cL_law 528 = .ok (.aload_n 0, 1) := by decide +kernel
theorem dL_law_529 : decode cL_law 529 = .ok (.iload 4, 2) := by decide +kernel
theorem dL_law_531 : decode cL_law 531 = .ok (.iconst 1, 1) := by decide +kernel
theorem dL_law_532 : decode cL_law 532 = .ok (.iadd, 1) := by decide +kernel
theorem dL_law_533 : decode cL_law 533 = .ok (.iaload, 1) := by decide +kernel
theorem dL_law_534 : decode cL_law 534 = .ok (.aload_n 0, 1) := by decide +kernel
theorem dL_law_535 : decode cL_law 535 = .ok (.iload 4, 2) := by decide +kernel
theorem dL_law_537 : decode cL_law 537 = .ok (.iconst 2, 1) := by decide +kernel
theorem dL_law_538 : decode cL_law 538 = .ok (.iadd, 1) := by decide +kernel
theorem dL_law_539 : decode cL_law 539 = .ok (.iaload, 1) := by decide +kernel
theorem dL_law_540 : decode cL_law 540 = .ok (.i2l, 1) := by decide +kernel
theorem dL_law_541 : decode cL_law 541 = .ok (.bipush 32, 2) := by decide +kernel
theorem dL_law_543 : decode cL_law 543 = .ok (.lshl, 1) := by decide +kernel
theorem dL_law_544 : decode cL_law 544 = .ok (.aload_n 0, 1) := by decide +kernel
theorem dL_law_545 : decode cL_law 545 = .ok (.iload 4, 2) := by decide +kernel
theorem dL_law_547 : decode cL_law 547 = .ok (.iconst 3, 1) := by decide +kernel
theorem dL_law_548 : decode cL_law 548 = .ok (.iadd, 1) := by decide +kernel
theorem dL_law_549 : decode cL_law 549 = .ok (.iaload, 1) := by decide +kernel
theorem dL_law_550 : decode cL_law 550 = .ok (.i2l, 1) := by decide +kernel
theorem dL_law_551 : decode cL_law 551 = .ok (.ldc2_w 62, 3) := by decide +kernel
theorem dL_law_554 : decode cL_law 554 = .ok (.land, 1) := by decide +kernel
theorem dL_law_555 : decode cL_law 555 = .ok (.lor, 1) := by decide +kernel
theorem dL_law_556 : decode cL_law 556 = .ok (.aload_n 0, 1) := by decide +kernel
theorem dL_law_557 : decode cL_law 557 = .ok (.iload 4, 2) := by decide +kernel
theorem dL_law_559 : decode cL_law 559 = .ok (.iconst 4, 1) := by decide +kernel
theorem dL_law_560 : decode cL_law 560 = .ok (.iadd, 1) := by decide +kernel
theorem dL_law_561 : decode cL_law 561 = .ok (.iaload, 1) := by decide +kernel
theorem dL_law_562 : decode cL_law 562 = .ok (.aload_n 0, 1) := by decide +kernel
theorem dL_law_563 : decode cL_law 563 = .ok (.iload 4, 2) := by decide +kernel
theorem dL_law_565 : decode cL_law 565 = .ok (.iconst 5, 1) := by decide +kernel
theorem dL_law_566 : decode cL_law 566 = .ok (.iadd, 1) := by decide +kernel
theorem dL_law_567 : decode cL_law 567 = .ok (.iaload, 1) := by decide +kernel
theorem dL_law_568 : decode cL_law 568 = .ok (.aload_n 0, 1) := by decide +kernel
theorem dL_law_569 : decode cL_law 569 = .ok (.iload 4, 2) := by decide +kernel
theorem dL_law_571 : decode cL_law 571 = .ok (.bipush 6, 2) := by decide +kernel
theorem dL_law_573 : decode cL_law 573 = .ok (.iadd, 1) := by decide +kernel
theorem dL_law_574 : decode cL_law 574 = .ok (.iaload, 1) := by decide +kernel
theorem dL_law_575 : decode cL_law 575 = .ok (.invokevirtual 64, 3) := by decide +kernel
theorem dL_law_578 : decode cL_law 578 = .ok (.pop, 1) := by decide +kernel
theorem dL_law_579 : decode cL_law 579 = .ok (.aload_n 2, 1) := by decide +kernel
theorem dL_law_580 : decode cL_law 580 = .ok (.aload_n 0, 1) := by decide +kernel
theorem dL_law_581 : decode cL_law 581 = .ok (.iload 4, 2) := by decide +kernel
theorem dL_law_583 : decode cL_law 583 = .ok (.iconst 1, 1) := by decide +kernel
theorem dL_law_584 : decode cL_law 584 = .ok (.iadd, 1) := by decide +kernel
theorem dL_law_585 : decode cL_law 585 = .ok (.iaload, 1) := by decide +kernel
theorem dL_law_586 : decode cL_law 586 = .ok (.aload_n 0, 1) := by decide +kernel
theorem dL_law_587 : decode cL_law 587 = .ok (.iload 4, 2) := by decide +kernel
theorem dL_law_589 : decode cL_law 589 = .ok (.iconst 2, 1) := by decide +kernel
theorem dL_law_590 : decode cL_law 590 = .ok (.iadd, 1) := by decide +kernel
theorem dL_law_591 : decode cL_law 591 = .ok (.iaload, 1) := by decide +kernel
theorem dL_law_592 : decode cL_law 592 = .ok (.i2l, 1) := by decide +kernel
theorem dL_law_593 : decode cL_law 593 = .ok (.bipush 32, 2) := by decide +kernel
theorem dL_law_595 : decode cL_law 595 = .ok (.lshl, 1) := by decide +kernel
theorem dL_law_596 : decode cL_law 596 = .ok (.aload_n 0, 1) := by decide +kernel
theorem dL_law_597 : decode cL_law 597 = .ok (.iload 4, 2) := by decide +kernel
theorem dL_law_599 : decode cL_law 599 = .ok (.iconst 3, 1) := by decide +kernel
theorem dL_law_600 : decode cL_law 600 = .ok (.iadd, 1) := by decide +kernel
theorem dL_law_601 : decode cL_law 601 = .ok (.iaload, 1) := by decide +kernel
theorem dL_law_602 : decode cL_law 602 = .ok (.i2l, 1) := by decide +kernel
theorem dL_law_603 : decode cL_law 603 = .ok (.ldc2_w 62, 3) := by decide +kernel
theorem dL_law_606 : decode cL_law 606 = .ok (.land, 1) := by decide +kernel
theorem dL_law_607 : decode cL_law 607 = .ok (.lor, 1) := by decide +kernel
theorem dL_law_608 : decode cL_law 608 = .ok (.aload_n 0, 1) := by decide +kernel
theorem dL_law_609 : decode cL_law 609 = .ok (.iload 4, 2) := by decide +kernel
theorem dL_law_611 : decode cL_law 611 = .ok (.iconst 4, 1) := by decide +kernel
theorem dL_law_612 : decode cL_law 612 = .ok (.iadd, 1) := by decide +kernel
theorem dL_law_613 : decode cL_law 613 = .ok (.iaload, 1) := by decide +kernel
theorem dL_law_614 : decode cL_law 614 = .ok (.aload_n 0, 1) := by decide +kernel
theorem dL_law_615 : decode cL_law 615 = .ok (.iload 4, 2) := by decide +kernel
theorem dL_law_617 : decode cL_law 617 = .ok (.iconst 5, 1) := by decide +kernel
theorem dL_law_618 : decode cL_law 618 = .ok (.iadd, 1) := by decide +kernel
theorem dL_law_619 : decode cL_law 619 = .ok (.iaload, 1) := by decide +kernel
theorem dL_law_620 : decode cL_law 620 = .ok (.aload_n 0, 1) := by decide +kernel
theorem dL_law_621 : decode cL_law 621 = .ok (.iload 4, 2) := by decide +kernel
theorem dL_law_623 : decode cL_law 623 = .ok (.bipush 6, 2) := by decide +kernel
theorem dL_law_625 : decode cL_law 625 = .ok (.iadd, 1) := by decide +kernel
theorem dL_law_626 : decode cL_law 626 = .ok (.iaload, 1) := by decide +kernel
theorem dL_law_627 : decode cL_law 627 = .ok (.invokevirtual 68, 3) := by decide +kernel
theorem dL_law_630 : decode cL_law 630 = .ok (.pop, 1) := by decide +kernel
theorem dL_law_631 : decode cL_law 631 = .ok (.goto 1160, 3) := by decide +kernel
set_option maxHeartbeats 4000000 in
set_option maxRecDepth 100000 in
theorem law_8 {p : Program} {l : Launch} {e : Env} {s : State} {m : MethodId} {below : List Frame} {meth : Method} {c : Code} {b L : Nat} {xs : Nat → Int32} {dC : Nat → ClassId} {dI : Nat → Nat → Nat} {ad bt : Nat → Nat} {jX : Nat} {jC : Nat} {d2 : Nat} {d3 : Nat} {d4 : Nat} {d5 : Nat} {d6 : Nat} {d7 : Nat} {d8 : Nat} {d9 : Nat} {d10 : Nat} {d11 : Nat} {d12 : Nat} {d13 : Nat} {hF : Nat} {f0 : Nat} {f1 : Nat} {f2 : Nat} {f3 : Nat} {f4 : Nat} {jK : Nat} {k0 : Nat} {k1 : Nat} {hN : Nat} {o0 : Nat} {o1 : Nat} {o2 : Nat} {o3 : Nat} {o4 : Nat} {jA : Nat} {i0 : Nat} {i1 : Nat} {i2 : Nat} {i3 : Nat} {jL : Nat} {rL : Nat} {jU : Nat} {rU : Nat} {sd : Nat} {jR : Nat} {r1 : Nat} {r2 : Nat} {jT : Nat} {tz0 : Nat} {jM : Nat} {m1 : Nat} {m2 : Nat} {m3 : Nat} {m4 : Nat} {m19 : Nat} {m20 : Nat} {m21 : Nat} {m22 : Nat} {m23 : Nat} {m24 : Nat} {m25 : Nat} {m28 : Nat} {m29 : Nat} {m30 : Nat} {m31 : Nat} {m32 : Nat} {m33 : Nat} {m34 : Nat} {m35 : Nat} {m36 : Nat} {m40 : Nat} {m41 : Nat} {m42 : Nat} {m43 : Nat} {m44 : Nat} {m46 : Nat} {m47 : Nat} {m48 : Nat} {m49 : Nat} {m50 : Nat} {oo : Nat} {w2 : ClassId} {w3 : ClassId} {w4 : ClassId} {w5 : ClassId} {w6 : ClassId} {w7 : ClassId} {w8 : ClassId} {w9 : ClassId} {w10 : ClassId} {w11 : ClassId} {w12 : ClassId} {w13 : ClassId} {z0 : ClassId} {z1 : ClassId} {z2 : ClassId} {z3 : ClassId} {z4 : ClassId} {cK : ClassId} {cO : ClassId} {y0 : ClassId} {y1 : ClassId} {y2 : ClassId} {y3 : ClassId} {y4 : ClassId} {x0 : ClassId} {x1 : ClassId} {x2 : ClassId} {x3 : ClassId} {cL : ClassId} {cU : ClassId} {cD : ClassId} {c1 : ClassId} {c2 : ClassId} {cC : ClassId} {mc1 : ClassId} {mc2 : ClassId} {mc3 : ClassId} {mc4 : ClassId} {mc19 : ClassId} {mc20 : ClassId} {mc21 : ClassId} {mc22 : ClassId} {mc23 : ClassId} {mc24 : ClassId} {mc25 : ClassId} {mc28 : ClassId} {mc29 : ClassId} {mc30 : ClassId} {mc31 : ClassId} {mc32 : ClassId} {mc33 : ClassId} {mc34 : ClassId} {mc35 : ClassId} {mc36 : ClassId} {mc40 : ClassId} {mc41 : ClassId} {mc42 : ClassId} {mc43 : ClassId} {mc44 : ClassId} {mc46 : ClassId} {mc47 : ClassId} {mc48 : ClassId} {mc49 : ClassId} {mc50 : ClassId} {cOo : ClassId} (hlt : l.stackTraces = false) (C0 : lw_At p s m meth c b L xs) (hXX : kLaw ad bt s) (hK : va_K (dC, dI) vwCl [(w2, .int), (w3, .int), (w4, .int), (w5, .int), (w6, .int), (w7, .int), (w8, .int), (w9, .int), (w10, .int), (w11, .int), (w12, .int), (w13, .long), (z0, .int), (z1, .int), (z2, .int), (z3, .int), (z4, .int), (cK, .int), (cO, .int), (y0, .int), (y1, .int), (y2, .int), (y3, .int), (y4, .int), (x0, .int), (x1, .int), (x2, .int), (x3, .int), (cL, .object RX6), (cU, .object RX6), (cD, .int), (c1, .int), (c2, .int), (cC, .char), (mc1, .byte), (mc2, .byte), (mc3, .int), (mc4, .int), (mc19, .int), (mc20, .int), (mc21, .int), (mc22, .int), (mc23, .int), (mc24, .int), (mc25, .boolean), (mc28, .int), (mc29, .int), (mc30, .int), (mc31, .int), (mc32, .int), (mc33, .int), (mc34, .int), (mc35, .int), (mc36, .int), (mc40, .int), (mc41, .int), (mc42, .int), (mc43, .int), (mc44, .int), (mc46, .long), (mc47, .int), (mc48, .int), (mc49, .int), (mc50, .int), (cOo, .long)] s) (hL : L ≤ 3584) {i : Nat} (hi : i + 7 ≤ L) (ih : ∀ (H : Heap) (locs : List Loc) (cells slots : Nat) (ls : Array Slot), kInv dC dI jX jC d2 d3 d4 d5 d6 d7 d8 d9 d10 d11 d12 d13 hF f0 f1 f2 f3 f4 jK k0 k1 hN o0 o1 o2 o3 o4 jA i0 i1 i2 i3 jL rL jU rU sd jR r1 r2 jT tz0 jM m1 m2 m3 m4 m19 m20 m21 m22 m23 m24 m25 m28 m29 m30 m31 m32 m33 m34 m35 m36 m40 m41 m42 m43 m44 m46 m47 m48 m49 m50 oo w2 w3 w4 w5 w6 w7 w8 w9 w10 w11 w12 w13 z0 z1 z2 z3 z4 cK cO y0 y1 y2 y3 y4 x0 x1 x2 x3 cL cU cD c1 c2 cC mc1 mc2 mc3 mc4 mc19 mc20 mc21 mc22 mc23 mc24 mc25 mc28 mc29 mc30 mc31 mc32 mc33 mc34 mc35 mc36 mc40 mc41 mc42 mc43 mc44 mc46 mc47 mc48 mc49 mc50 cOo b s (i + 7) H locs cells slots ls → W p l e room_1 s m #[Value.ref b] below meth c H locs cells slots (lw_Z below #[Value.ref b] s) (F0 m 23 ls [])) {lw : Value} {e2 : Nat → Int32} {e3 : Nat → Int32} {e4 : Nat → Int32} {e5 : Nat → Int32} {e6 : Nat → Int32} {e7 : Nat → Int32} {e8 : Nat → Int32} {e9 : Nat → Int32} {e10 : Nat → Int32} {e11 : Nat → Int32} {e12 : Nat → Int32} {e13 : Nat → Int64} {cdr : Int64} {cpr : Int32} {cmo : Int32} {cho : Int32} {g0 : Nat → Int32} {g1 : Nat → Int32} {g2 : Nat → Int32} {g3 : Nat → Int32} {g4 : Nat → Int32} {sv : Nat} {ks : Nat} {kw : Nat} {l0 : Nat → Int32} {l1 : Nat → Int32} {q0 : Nat → Int32} {q1 : Nat → Int32} {q2 : Nat → Int32} {q3 : Nat → Int32} {q4 : Nat → Int32} {kn : Nat} {ta0 : Nat → Int32} {ta1 : Nat → Int32} {ta2 : Nat → Int32} {ta3 : Nat → Int32} {ka : Nat} {gL : Nat → Option Nat} {kl : Nat} {gU : Nat → Option Nat} {ku : Nat} {gD : Nat → Int32} {gTp : Nat → Int32} {kt : Nat} {s1 : Nat → Int32} {s2 : Nat → Int32} {wr : Nat} {fi : Nat} {rpl : Int32} {rv6 : Value} {rv7 : Value} {th : Int32} {thr : Int32} {xx : Int64} {v5 : Value} {v9 : Value} {v10 : Value} {v11 : Value} {v12 : Value} {v13 : Value} {v14 : Value} {v15 : Value} {v16 : Value} {v17 : Value} {v18 : Value} {mf1 : Nat → Int32} {mf2 : Nat → Int32} {mf3 : Nat → Int32} {mf4 : Nat → Int32} {mf19 : Nat → Int32} {mf20 : Nat → Int32} {mf21 : Nat → Int32} {mf22 : Nat → Int32} {mf23 : Nat → Int32} {mf24 : Nat → Int32} {mf25 : Nat → Int32} {mf28 : Nat → Int32} {mf29 : Nat → Int32} {mf30 : Nat → Int32} {mf31 : Nat → Int32} {mf32 : Nat → Int32} {mf33 : Nat → Int32} {mf34 : Nat → Int32} {mf35 : Nat → Int32} {mf36 : Nat → Int32} {mf40 : Nat → Int32} {mf41 : Nat → Int32} {mf42 : Nat → Int32} {mf43 : Nat → Int32} {mf44 : Nat → Int32} {mf46 : Nat → Int64} {mf47 : Nat → Int32} {mf48 : Nat → Int32} {mf49 : Nat → Int32} {mf50 : Nat → Int32} {ho : Nat} {fo : Nat → Int64} {tb : Nat → Nat} {yL : Nat → List kTr} {yU : Nat → List kTr} (hks : ks ≤ 10) (hkw : kw ≤ 4) (hsv : sv < 1024) (hkn : kn ≤ 20) (hka : ka ≤ 6) (hkl : kl ≤ 6) (hku : ku ≤ 8) (hkt : kt ≤ 120) (hwr : wr ≤ 120) (hfi : fi ≤ 124) (hbt : ∀ j : Nat, gTp j = nI (tb j)) (hb8 : ∀ j : Nat, tb j < 256) (hb1 : ∀ j : Nat, j < kt → 1 ≤ tb j) (hbm : ∀ j : Nat, mf1 j = kSg (tb j)) (hho : ho ≤ 48) (hSa : ∀ q : Nat, q < ks → ¬ mf23 q = -1 → ∃ t : Nat, t < ku ∧ mf23 q = nI t) (hNp : ∀ k : Nat, k < kn → ∃ v : Nat, v < ks ∧ mf40 k = nI v) (hUl : kUn mf2 mf3 0 kl (kTx [121, 103, 120]) 3 (kTx [118, 112, 110, 109, 115, 117, 100, 105]) 8 yL) (hUt : kUn mf2 mf3 6 ku (kTx [119]) 1 (kTx [97, 98, 99, 100, 101]) 5 yU) (hse : ∀ j : Nat, j < ks → (mf25 j = 0 ↔ kIsB (nI sv) (nI j) = 0)) (hsb : sv < 2 ^ ks) (hT9 : kT0 ks kw g0 g1 g2 g3 g4 mf19 mf20 mf21 mf22 mf24) {H : Heap} {locs : List Loc} (hPD : kPD dC dI (fun q : Nat => s.heap.size ≤ q) [(jX, .inr (9, [.ref jT, .ref jR, .ref jK, .ref jL, .ref jU, .ref hF, .ref jC, .ref hN, .ref jA, .ref sd])), (jC, .inr (1, [.ref hF, .ref jK, .ref d2, .ref d3, .ref d4, .ref d5, .ref d6, .ref d7, .ref d8, .ref d9, .ref d10, .ref d11, .ref d12, .ref d13, lw, .long cdr, .int cpr, .int cmo, .int cho])), (d2, .inl (w2, 10, .inl e2)), (d3, .inl (w3, 10, .inl e3)), (d4, .inl (w4, 10, .inl e4)), (d5, .inl (w5, 10, .inl e5)), (d6, .inl (w6, 10, .inl e6)), (d7, .inl (w7, 10, .inl e7)), (d8, .inl (w8, 10, .inl e8)), (d9, .inl (w9, 10, .inl e9)), (d10, .inl (w10, 4, .inl e10)), (d11, .inl (w11, 4, .inl e11)), (d12, .inl (w12, 4, .inl e12)), (d13, .inl (w13, 9, .inr (.inl e13))), (hF, .inr (2, [.ref f0, .ref f1, .ref f2, .ref f3, .ref f4, .int (nI (sv)), .int (nI (ks)), .int (nI (kw))])), (f0, .inl (z0, 10, .inl g0)), (f1, .inl (z1, 10, .inl g1)), (f2, .inl (z2, 10, .inl g2)), (f3, .inl (z3, 10, .inl g3)), (f4, .inl (z4, 4, .inl g4)), (jK, .inr (5, [.ref k0, .ref k1])), (k0, .inl (cK, 8, .inl l0)), (k1, .inl (cO, 32, .inl l1)), (hN, .inr (3, [.ref o0, .ref o1, .ref o2, .ref o3, .ref o4, .int (nI (kn))])), (o0, .inl (y0, 20, .inl q0)), (o1, .inl (y1, 20, .inl q1)), (o2, .inl (y2, 20, .inl q2)), (o3, .inl (y3, 20, .inl q3)), (o4, .inl (y4, 20, .inl q4)), (jA, .inr (0, [.ref i0, .ref i1, .ref i2, .ref i3, .int (nI (ka))])), (i0, .inl (x0, 6, .inl ta0)), (i1, .inl (x1, 6, .inl ta1)), (i2, .inl (x2, 6, .inl ta2)), (i3, .inl (x3, 6, .inl ta3)), (jL, .inr (7, [.ref rL, .int (nI (kl))])), (rL, .inl (cL, 6, .inr (.inr (.inr (.inr gL))))), (jU, .inr (7, [.ref rU, .int (nI (ku))])), (rU, .inl (cU, 8, .inr (.inr (.inr (.inr gU))))), (sd, .inl (cD, 10, .inl gD)), (jR, .inr (4, [.ref jT, .ref r1, .ref r2, .int (nI (wr)), .int (nI (fi)), .int rpl, rv6, rv7])), (r1, .inl (c1, 120, .inl s1)), (r2, .inl (c2, 124, .inl s2)), (jT, .inr (8, [.ref tz0, .int (nI (kt))])), (tz0, .inl (cC, 120, .inl gTp)), (jM, .inr (10, [.int th, .ref m1, .ref m2, .ref m3, .ref m4, v5, .int (nI (kt)), .int (nI (kl)), .int (nI (ku)), v9, v10, v11, v12, v13, v14, v15, v16, v17, v18, .ref m19, .ref m20, .ref m21, .ref m22, .ref m23, .ref m24, .ref m25, .int (nI (ks)), .int (nI (kw)), .ref m28, .ref m29, .ref m30, .ref m31, .ref m32, .ref m33, .ref m34, .ref m35, .ref m36, .int thr, .int (nI (ho)), .long xx, .ref m40, .ref m41, .ref m42, .ref m43, .ref m44, .int (nI (kn)), .ref m46, .ref m47, .ref m48, .ref m49, .ref m50, .int (nI (ka))])), (m1, .inl (mc1, 120, .inl mf1)), (m2, .inl (mc2, 1680, .inl mf2)), (m3, .inl (mc3, 14, .inl mf3)), (m4, .inl (mc4, 128, .inl mf4)), (m19, .inl (mc19, 10, .inl mf19)), (m20, .inl (mc20, 10, .inl mf20)), (m21, .inl (mc21, 10, .inl mf21)), (m22, .inl (mc22, 10, .inl mf22)), (m23, .inl (mc23, 10, .inl mf23)), (m24, .inl (mc24, 4, .inl mf24)), (m25, .inl (mc25, 10, .inl mf25)), (m28, .inl (mc28, 10, .inl mf28)), (m29, .inl (mc29, 10, .inl mf29)), (m30, .inl (mc30, 10, .inl mf30)), (m31, .inl (mc31, 10, .inl mf31)), (m32, .inl (mc32, 10, .inl mf32)), (m33, .inl (mc33, 10, .inl mf33)), (m34, .inl (mc34, 10, .inl mf34)), (m35, .inl (mc35, 10, .inl mf35)), (m36, .inl (mc36, 10, .inl mf36)), (m40, .inl (mc40, 20, .inl mf40)), (m41, .inl (mc41, 20, .inl mf41)), (m42, .inl (mc42, 20, .inl mf42)), (m43, .inl (mc43, 20, .inl mf43)), (m44, .inl (mc44, 20, .inl mf44)), (m46, .inl (mc46, 14, .inr (.inl mf46))), (m47, .inl (mc47, 6, .inl mf47)), (m48, .inl (mc48, 6, .inl mf48)), (m49, .inl (mc49, 6, .inl mf49)), (m50, .inl (mc50, 6, .inl mf50)), (oo, .inl (cOo, 1, .inr (.inl fo)))] H) (hS : va_S (fun q : Nat => s.heap.size ≤ q) s.heap H locs) (hL1 : kShL dC dI kl gL yL 8 [jX, jC, d2, d3, d4, d5, d6, d7, d8, d9, d10, d11, d12, d13, hF, f0, f1, f2, f3, f4, jK, k0, k1, hN, o0, o1, o2, o3, o4, jA, i0, i1, i2, i3, jL, rL, jU, rU, sd, jR, r1, r2, jT, tz0, jM, m1, m2, m3, m4, m19, m20, m21, m22, m23, m24, m25, m28, m29, m30, m31, m32, m33, m34, m35, m36, m40, m41, m42, m43, m44, m46, m47, m48, m49, m50, oo] s H) (hL2 : kShL dC dI ku gU yU 5 [jX, jC, d2, d3, d4, d5, d6, d7, d8, d9, d10, d11, d12, d13, hF, f0, f1, f2, f3, f4, jK, k0, k1, hN, o0, o1, o2, o3, o4, jA, i0, i1, i2, i3, jL, rL, jU, rU, sd, jR, r1, r2, jT, tz0, jM, m1, m2, m3, m4, m19, m20, m21, m22, m23, m24, m25, m28, m29, m30, m31, m32, m33, m34, m35, m36, m40, m41, m42, m43, m44, m46, m47, m48, m49, m50, oo] s H) {ls : Array Slot} (hl : lv_has ls 7 [(4, .int (nI (i))), (3, .ref oo), (2, .ref jM), (1, .ref jX), (0, .ref b)]) {cells slots : Nat} (hc : cells ≤ 1000 + 3 * i) (hs : slots ≤ 9000 + 402 * i) : W p l e room_1 s m #[Value.ref b] below meth c H locs cells slots (lw_Z below #[Value.ref b] s) (F0 m 527 ls []) := by
  obtain ⟨hx, hb, hr, hml, hown, hts, hX, hbl, hlocks, hgv⟩ := id C0
  have hown : s.vm.findClass RL = some m.cls := hown
  have hA : ∀ q : Nat, s.heap.size ≤ q → (fun q : Nat => s.heap.size ≤ q) q := fun _ h => h
  have hbA : ¬ (fun q : Nat => s.heap.size ≤ q) b := Nat.not_le.mpr hbl
  clear hgv C0
  obtain ⟨hP, hD⟩ := hPD
  refine lv_aload_n hx hb dL_law_527 rfl (lv_at hl 3 rfl) ?_
  refine lv_aload_n hx hb dL_law_528 rfl (lv_at hl 4 rfl) ?_
  refine lv_iload hx hb dL_law_529 (lv_at hl 0 rfl) ?_
  refine lv_iconst (v := 1) hx hb dL_law_531 kc_i_1 ?_
  refine lv_iadd hx hb dL_law_532 ?_
  refine lv_topi (fun y_1 ey_1 => ?_)
  obtain rfl : y_1 = nI (i + 1) := ey_1.trans (nI_add (i) (1))
  refine va_sld hx hb hX hbl hbA hS (vp_in_nI (n := i + 1) (N := L) (by omega) (by omega)) dL_law_533 ?_
  refine lv_topi (fun x_2 ex_2 => ?_)
  refine lv_aload_n hx hb dL_law_534 rfl (lv_at hl 4 rfl) ?_
  refine lv_iload hx hb dL_law_535 (lv_at hl 0 rfl) ?_
  refine lv_iconst (v := 2) hx hb dL_law_537 kc_i_2 ?_
  refine lv_iadd hx hb dL_law_538 ?_
  refine lv_topi (fun y_3 ey_3 => ?_)
  obtain rfl : y_3 = nI (i + 2) := ey_3.trans (nI_add (i) (2))
  refine va_sld hx hb hX hbl hbA hS (vp_in_nI (n := i + 2) (N := L) (by omega) (by omega)) dL_law_539 ?_
  refine lv_topi (fun x_4 ex_4 => ?_)
  obtain ⟨z_5, ez_5⟩ : ∃ z : Int64, z = Int32.toInt64 x_4 := ⟨_, rfl⟩
  refine lv_i2l (v := z_5) hx hb dL_law_540 ez_5.symm ?_
  refine lv_bipush (v := 32) hx hb dL_law_541 kc_b_32 ?_
  refine lv_lshl (v := z_5 <<< (Int32.toInt64 32 &&& 63)) hx hb dL_law_543 rfl ?_
  refine lv_topl (fun z_6 ez_6 => ?_)
  refine lv_aload_n hx hb dL_law_544 rfl (lv_at hl 4 rfl) ?_
  refine lv_iload hx hb dL_law_545 (lv_at hl 0 rfl) ?_
  refine lv_iconst (v := 3) hx hb dL_law_547 kc_i_3 ?_
  refine lv_iadd hx hb dL_law_548 ?_
  refine lv_topi (fun y_7 ey_7 => ?_)
  obtain rfl : y_7 = nI (i + 3) := ey_7.trans (nI_add (i) (3))
  refine va_sld hx hb hX hbl hbA hS (vp_in_nI (n := i + 3) (N := L) (by omega) (by omega)) dL_law_549 ?_
  refine lv_topi (fun x_8 ex_8 => ?_)
  obtain ⟨z_9, ez_9⟩ : ∃ z : Int64, z = Int32.toInt64 x_8 := ⟨_, rfl⟩
  refine lv_i2l (v := z_9) hx hb dL_law_550 ez_9.symm ?_
  refine lv_ldc2 (v := 4294967295) hx hb hown (hts (.constantLong RL 62 (4294967295)) tw_1577) dL_law_551 ?_
  refine lv_land hx hb dL_law_554 ?_
  refine lv_topl (fun z_10 ez_10 => ?_)
  refine lv_lor hx hb dL_law_555 ?_
  refine lv_topl (fun z_11 ez_11 => ?_)
  refine lv_aload_n hx hb dL_law_556 rfl (lv_at hl 4 rfl) ?_
  refine lv_iload hx hb dL_law_557 (lv_at hl 0 rfl) ?_
  refine lv_iconst (v := 4) hx hb dL_law_559 kc_i_4 ?_
  refine lv_iadd hx hb dL_law_560 ?_
  refine lv_topi (fun y_12 ey_12 => ?_)
  obtain rfl : y_12 = nI (i + 4) := ey_12.trans (nI_add (i) (4))
  refine va_sld hx hb hX hbl hbA hS (vp_in_nI (n := i + 4) (N := L) (by omega) (by omega)) dL_law_561 ?_
  refine lv_topi (fun x_13 ex_13 => ?_)
  refine lv_aload_n hx hb dL_law_562 rfl (lv_at hl 4 rfl) ?_
  refine lv_iload hx hb dL_law_563 (lv_at hl 0 rfl) ?_
  refine lv_iconst (v := 5) hx hb dL_law_565 kc_i_5 ?_
  refine lv_iadd hx hb dL_law_566 ?_
  refine lv_topi (fun y_14 ey_14 => ?_)
  obtain rfl : y_14 = nI (i + 5) := ey_14.trans (nI_add (i) (5))
  refine va_sld hx hb hX hbl hbA hS (vp_in_nI (n := i + 5) (N := L) (by omega) (by omega)) dL_law_567 ?_
  refine lv_topi (fun x_15 ex_15 => ?_)
  refine lv_aload_n hx hb dL_law_568 rfl (lv_at hl 4 rfl) ?_
  refine lv_iload hx hb dL_law_569 (lv_at hl 0 rfl) ?_
  refine lv_bipush (v := 6) hx hb dL_law_571 kc_b_6 ?_
  refine lv_iadd hx hb dL_law_573 ?_
  refine lv_topi (fun y_16 ey_16 => ?_)
  obtain rfl : y_16 = nI (i + 6) := ey_16.trans (nI_add (i) (6))
  refine va_sld hx hb hX hbl hbA hS (vp_in_nI (n := i + 6) (N := L) (by omega) (by omega)) dL_law_574 ?_
  refine lv_topi (fun x_17 ex_17 => ?_)
  have bd_18 : ks ≤ 10 := by omega
  have bd_19 : kw ≤ 4 := by omega
  have bd_20 : sv < 1024 := by omega
  have bd_21 : kn ≤ 20 := by omega
  have bd_22 : ka ≤ 6 := by omega
  have bd_23 : kl ≤ 6 := by omega
  have bd_24 : ku ≤ 8 := by omega
  have hCu := kCut (wc := [(jX, .inr (9, [.ref jT, .ref jR, .ref jK, .ref jL, .ref jU, .ref hF, .ref jC, .ref hN, .ref jA, .ref sd])), (jC, .inr (1, [.ref hF, .ref jK, .ref d2, .ref d3, .ref d4, .ref d5, .ref d6, .ref d7, .ref d8, .ref d9, .ref d10, .ref d11, .ref d12, .ref d13, lw, .long cdr, .int cpr, .int cmo, .int cho])), (d2, .inl (w2, 10, .inl e2)), (d3, .inl (w3, 10, .inl e3)), (d4, .inl (w4, 10, .inl e4)), (d5, .inl (w5, 10, .inl e5)), (d6, .inl (w6, 10, .inl e6)), (d7, .inl (w7, 10, .inl e7)), (d8, .inl (w8, 10, .inl e8)), (d9, .inl (w9, 10, .inl e9)), (d10, .inl (w10, 4, .inl e10)), (d11, .inl (w11, 4, .inl e11)), (d12, .inl (w12, 4, .inl e12)), (d13, .inl (w13, 9, .inr (.inl e13))), (hF, .inr (2, [.ref f0, .ref f1, .ref f2, .ref f3, .ref f4, .int (nI (sv)), .int (nI (ks)), .int (nI (kw))])), (f0, .inl (z0, 10, .inl g0)), (f1, .inl (z1, 10, .inl g1)), (f2, .inl (z2, 10, .inl g2)), (f3, .inl (z3, 10, .inl g3)), (f4, .inl (z4, 4, .inl g4)), (jK, .inr (5, [.ref k0, .ref k1])), (k0, .inl (cK, 8, .inl l0)), (k1, .inl (cO, 32, .inl l1)), (hN, .inr (3, [.ref o0, .ref o1, .ref o2, .ref o3, .ref o4, .int (nI (kn))])), (o0, .inl (y0, 20, .inl q0)), (o1, .inl (y1, 20, .inl q1)), (o2, .inl (y2, 20, .inl q2)), (o3, .inl (y3, 20, .inl q3)), (o4, .inl (y4, 20, .inl q4)), (jA, .inr (0, [.ref i0, .ref i1, .ref i2, .ref i3, .int (nI (ka))])), (i0, .inl (x0, 6, .inl ta0)), (i1, .inl (x1, 6, .inl ta1)), (i2, .inl (x2, 6, .inl ta2)), (i3, .inl (x3, 6, .inl ta3)), (jL, .inr (7, [.ref rL, .int (nI (kl))])), (rL, .inl (cL, 6, .inr (.inr (.inr (.inr gL))))), (jU, .inr (7, [.ref rU, .int (nI (ku))])), (rU, .inl (cU, 8, .inr (.inr (.inr (.inr gU))))), (sd, .inl (cD, 10, .inl gD))]) hP hD hS hA [0, 1, 2, 3, 4, 5, 6, 7, 8, 9, 10, 11, 12, 13, 14, 15, 16, 17, 18, 19, 20, 21, 22, 23, 24, 25, 26, 27, 28, 29, 30, 31, 32, 33, 34, 35, 36, 37, 38] rfl kc_nd_1039 rfl
  have hPc := hCu.1
  have hDc := hCu.2.1
  have hFc := hCu.2.2
  have hKc := hK.sb (tys2 := [(w2, .int), (w3, .int), (w4, .int), (w5, .int), (w6, .int), (w7, .int), (w8, .int), (w9, .int), (w10, .int), (w11, .int), (w12, .int), (w13, .long), (z0, .int), (z1, .int), (z2, .int), (z3, .int), (z4, .int), (cK, .int), (cO, .int), (y0, .int), (y1, .int), (y2, .int), (y3, .int), (y4, .int), (x0, .int), (x1, .int), (x2, .int), (x3, .int), (cL, .object RX6), (cU, .object RX6), (cD, .int)]) [0, 1, 2, 3, 4, 5, 6, 7, 8, 9, 10, 11, 12, 13, 14, 15, 16, 17, 18, 19, 20, 21, 22, 23, 24, 25, 26, 27, 28, 29, 30] rfl
  refine va_calli (va_runV (As := [.int x_2, .long z_11, .int x_13, .int x_15, .int x_17]) (rest := []) ⟨hx, hb, hml, hown, hts⟩ (s_run9 l dC dI jX jT jR jL jU hN jA sd jC d2 d3 d4 d5 d6 d7 d8 d9 d10 d11 d12 d13 w2 w3 w4 w5 w6 w7 w8 w9 w10 w11 w12 w13 e2 e3 e4 e5 e6 e7 e8 e9 e10 e11 e12 e13 cdr cpr cmo cho hF f0 f1 f2 f3 f4 z0 z1 z2 z3 z4 g0 g1 g2 g3 g4 ks kw bd_18 bd_19 sv bd_20 jK k0 k1 cK cO l0 l1 o0 o1 o2 o3 o4 y0 y1 y2 y3 y4 q0 q1 q2 q3 q4 kn bd_21 i0 i1 i2 i3 x0 x1 x2 x3 ta0 ta1 ta2 ta3 ka bd_22 (lw : Value) rL cL gL kl bd_23 yL rU cU gU ku bd_24 yU cD gD hT9.2.2.2 x_2 z_11 x_13 x_15 x_17 H.size) (cwV 5 hts (kG (List.forall_mem_cons.mpr ⟨tw_635, (List.forall_mem_cons.mpr ⟨tw_636, (List.forall_mem_cons.mpr ⟨tw_637, (List.forall_mem_cons.mpr ⟨tw_75, (fun _ h => absurd h List.not_mem_nil)⟩)⟩)⟩)⟩) (kGV _ _ _ _) in_w_s_run9 gw_s_run9) rfl rfl rfl ⟨rfl, hd_X9_run⟩ ⟨(Nat.le_of_ble_eq_true rfl), (Nat.le_of_ble_eq_true rfl)⟩) (kW_V kPub_blind (kPub_law hL1 hL2 hXX.2.1.2.2.1 [0, 1, 2, 3, 4, 5, 6, 7, 8, 9, 10, 11, 12, 13, 14, 15, 16, 17, 18, 19, 20, 21, 22, 23, 24, 25, 26, 27, 28, 29, 30, 31, 32, 33, 34, 35, 36, 37, 38] rfl) (va_recv hKc hPc (ci := 9) (q0 := 0) rfl rfl) hPc hKc hDc) rfl rfl hl.1 rfl (lv_room (Nat.le_of_ble_eq_true rfl)) dL_law_575 ⟨(show cells + 0 + 0 ≤ 601024 by omega), (show slots + 0 + 0 ≤ 7293034 by omega)⟩) hS (fun q _ h => hFc q h) hFc (fun r_25 u t H1 locs ht hvm hw hB hz1 hk1 hS => ?_)
  obtain ⟨E2_26, E3_27, E4_28, E5_29, E6_30, E7_31, E8_32, E9_33, E10_34, E11_35, E12_36, E13_37, L0_38, L1_39, Pr_40, Mo_41, Ho_42, Dr_43, Lw_44⟩ := u
  obtain ⟨hP1, hK1, hD1⟩ := hB
  rw [ht] at hP1
  try dsimp only at hw
  have hPD : kPD dC dI (fun q : Nat => s.heap.size ≤ q) [(jX, .inr (9, [.ref jT, .ref jR, .ref jK, .ref jL, .ref jU, .ref hF, .ref jC, .ref hN, .ref jA, .ref sd])), (jC, .inr (1, [.ref hF, .ref jK, .ref d2, .ref d3, .ref d4, .ref d5, .ref d6, .ref d7, .ref d8, .ref d9, .ref d10, .ref d11, .ref d12, .ref d13, Lw_44, .long Dr_43, .int Pr_40, .int Mo_41, .int Ho_42])), (d2, .inl (w2, 10, .inl E2_26)), (d3, .inl (w3, 10, .inl E3_27)), (d4, .inl (w4, 10, .inl E4_28)), (d5, .inl (w5, 10, .inl E5_29)), (d6, .inl (w6, 10, .inl E6_30)), (d7, .inl (w7, 10, .inl E7_31)), (d8, .inl (w8, 10, .inl E8_32)), (d9, .inl (w9, 10, .inl E9_33)), (d10, .inl (w10, 4, .inl E10_34)), (d11, .inl (w11, 4, .inl E11_35)), (d12, .inl (w12, 4, .inl E12_36)), (d13, .inl (w13, 9, .inr (.inl E13_37))), (hF, .inr (2, [.ref f0, .ref f1, .ref f2, .ref f3, .ref f4, .int (nI (sv)), .int (nI (ks)), .int (nI (kw))])), (f0, .inl (z0, 10, .inl g0)), (f1, .inl (z1, 10, .inl g1)), (f2, .inl (z2, 10, .inl g2)), (f3, .inl (z3, 10, .inl g3)), (f4, .inl (z4, 4, .inl g4)), (jK, .inr (5, [.ref k0, .ref k1])), (k0, .inl (cK, 8, .inl L0_38)), (k1, .inl (cO, 32, .inl L1_39)), (hN, .inr (3, [.ref o0, .ref o1, .ref o2, .ref o3, .ref o4, .int (nI (kn))])), (o0, .inl (y0, 20, .inl q0)), (o1, .inl (y1, 20, .inl q1)), (o2, .inl (y2, 20, .inl q2)), (o3, .inl (y3, 20, .inl q3)), (o4, .inl (y4, 20, .inl q4)), (jA, .inr (0, [.ref i0, .ref i1, .ref i2, .ref i3, .int (nI (ka))])), (i0, .inl (x0, 6, .inl ta0)), (i1, .inl (x1, 6, .inl ta1)), (i2, .inl (x2, 6, .inl ta2)), (i3, .inl (x3, 6, .inl ta3)), (jL, .inr (7, [.ref rL, .int (nI (kl))])), (rL, .inl (cL, 6, .inr (.inr (.inr (.inr gL))))), (jU, .inr (7, [.ref rU, .int (nI (ku))])), (rU, .inl (cU, 8, .inr (.inr (.inr (.inr gU))))), (sd, .inl (cD, 10, .inl gD)), (jR, .inr (4, [.ref jT, .ref r1, .ref r2, .int (nI (wr)), .int (nI (fi)), .int rpl, rv6, rv7])), (r1, .inl (c1, 120, .inl s1)), (r2, .inl (c2, 124, .inl s2)), (jT, .inr (8, [.ref tz0, .int (nI (kt))])), (tz0, .inl (cC, 120, .inl gTp)), (jM, .inr (10, [.int th, .ref m1, .ref m2, .ref m3, .ref m4, v5, .int (nI (kt)), .int (nI (kl)), .int (nI (ku)), v9, v10, v11, v12, v13, v14, v15, v16, v17, v18, .ref m19, .ref m20, .ref m21, .ref m22, .ref m23, .ref m24, .ref m25, .int (nI (ks)), .int (nI (kw)), .ref m28, .ref m29, .ref m30, .ref m31, .ref m32, .ref m33, .ref m34, .ref m35, .ref m36, .int thr, .int (nI (ho)), .long xx, .ref m40, .ref m41, .ref m42, .ref m43, .ref m44, .int (nI (kn)), .ref m46, .ref m47, .ref m48, .ref m49, .ref m50, .int (nI (ka))])), (m1, .inl (mc1, 120, .inl mf1)), (m2, .inl (mc2, 1680, .inl mf2)), (m3, .inl (mc3, 14, .inl mf3)), (m4, .inl (mc4, 128, .inl mf4)), (m19, .inl (mc19, 10, .inl mf19)), (m20, .inl (mc20, 10, .inl mf20)), (m21, .inl (mc21, 10, .inl mf21)), (m22, .inl (mc22, 10, .inl mf22)), (m23, .inl (mc23, 10, .inl mf23)), (m24, .inl (mc24, 4, .inl mf24)), (m25, .inl (mc25, 10, .inl mf25)), (m28, .inl (mc28, 10, .inl mf28)), (m29, .inl (mc29, 10, .inl mf29)), (m30, .inl (mc30, 10, .inl mf30)), (m31, .inl (mc31, 10, .inl mf31)), (m32, .inl (mc32, 10, .inl mf32)), (m33, .inl (mc33, 10, .inl mf33)), (m34, .inl (mc34, 10, .inl mf34)), (m35, .inl (mc35, 10, .inl mf35)), (m36, .inl (mc36, 10, .inl mf36)), (m40, .inl (mc40, 20, .inl mf40)), (m41, .inl (mc41, 20, .inl mf41)), (m42, .inl (mc42, 20, .inl mf42)), (m43, .inl (mc43, 20, .inl mf43)), (m44, .inl (mc44, 20, .inl mf44)), (m46, .inl (mc46, 14, .inr (.inl mf46))), (m47, .inl (mc47, 6, .inl mf47)), (m48, .inl (mc48, 6, .inl mf48)), (m49, .inl (mc49, 6, .inl mf49)), (m50, .inl (mc50, 6, .inl mf50)), (oo, .inl (cOo, 1, .inr (.inl fo)))] H1 := kJoinI hP hD [0, 1, 2, 3, 4, 5, 6, 7, 8, 9, 10, 11, 12, 13, 14, 15, 16, 17, 18, 19, 20, 21, 22, 23, 24, 25, 26, 27, 28, 29, 30, 31, 32, 33, 34, 35, 36, 37, 38] rfl hk1 hFc hP1 hD1 rfl [some 0, some 1, some 2, some 3, some 4, some 5, some 6, some 7, some 8, some 9, some 10, some 11, some 12, some 13, some 14, some 15, some 16, some 17, some 18, some 19, some 20, some 21, some 22, some 23, some 24, some 25, some 26, some 27, some 28, some 29, some 30, some 31, some 32, some 33, some 34, some 35, some 36, some 37, some 38, none, none, none, none, none, none, none, none, none, none, none, none, none, none, none, none, none, none, none, none, none, none, none, none, none, none, none, none, none, none, none, none, none, none, none, none, none] rfl rfl
  obtain ⟨hP, hD⟩ := hPD
  have hL1 := kShL_keep hL1 (Wc := [(jX, .inr (9, [.ref jT, .ref jR, .ref jK, .ref jL, .ref jU, .ref hF, .ref jC, .ref hN, .ref jA, .ref sd])), (jC, .inr (1, [.ref hF, .ref jK, .ref d2, .ref d3, .ref d4, .ref d5, .ref d6, .ref d7, .ref d8, .ref d9, .ref d10, .ref d11, .ref d12, .ref d13, lw, .long cdr, .int cpr, .int cmo, .int cho])), (d2, .inl (w2, 10, .inl e2)), (d3, .inl (w3, 10, .inl e3)), (d4, .inl (w4, 10, .inl e4)), (d5, .inl (w5, 10, .inl e5)), (d6, .inl (w6, 10, .inl e6)), (d7, .inl (w7, 10, .inl e7)), (d8, .inl (w8, 10, .inl e8)), (d9, .inl (w9, 10, .inl e9)), (d10, .inl (w10, 4, .inl e10)), (d11, .inl (w11, 4, .inl e11)), (d12, .inl (w12, 4, .inl e12)), (d13, .inl (w13, 9, .inr (.inl e13))), (hF, .inr (2, [.ref f0, .ref f1, .ref f2, .ref f3, .ref f4, .int (nI (sv)), .int (nI (ks)), .int (nI (kw))])), (f0, .inl (z0, 10, .inl g0)), (f1, .inl (z1, 10, .inl g1)), (f2, .inl (z2, 10, .inl g2)), (f3, .inl (z3, 10, .inl g3)), (f4, .inl (z4, 4, .inl g4)), (jK, .inr (5, [.ref k0, .ref k1])), (k0, .inl (cK, 8, .inl l0)), (k1, .inl (cO, 32, .inl l1)), (hN, .inr (3, [.ref o0, .ref o1, .ref o2, .ref o3, .ref o4, .int (nI (kn))])), (o0, .inl (y0, 20, .inl q0)), (o1, .inl (y1, 20, .inl q1)), (o2, .inl (y2, 20, .inl q2)), (o3, .inl (y3, 20, .inl q3)), (o4, .inl (y4, 20, .inl q4)), (jA, .inr (0, [.ref i0, .ref i1, .ref i2, .ref i3, .int (nI (ka))])), (i0, .inl (x0, 6, .inl ta0)), (i1, .inl (x1, 6, .inl ta1)), (i2, .inl (x2, 6, .inl ta2)), (i3, .inl (x3, 6, .inl ta3)), (jL, .inr (7, [.ref rL, .int (nI (kl))])), (rL, .inl (cL, 6, .inr (.inr (.inr (.inr gL))))), (jU, .inr (7, [.ref rU, .int (nI (ku))])), (rU, .inl (cU, 8, .inr (.inr (.inr (.inr gU))))), (sd, .inl (cD, 10, .inl gD))]) [0, 1, 2, 3, 4, 5, 6, 7, 8, 9, 10, 11, 12, 13, 14, 15, 16, 17, 18, 19, 20, 21, 22, 23, 24, 25, 26, 27, 28, 29, 30, 31, 32, 33, 34, 35, 36, 37, 38] rfl hk1
  have hL2 := kShL_keep hL2 (Wc := [(jX, .inr (9, [.ref jT, .ref jR, .ref jK, .ref jL, .ref jU, .ref hF, .ref jC, .ref hN, .ref jA, .ref sd])), (jC, .inr (1, [.ref hF, .ref jK, .ref d2, .ref d3, .ref d4, .ref d5, .ref d6, .ref d7, .ref d8, .ref d9, .ref d10, .ref d11, .ref d12, .ref d13, lw, .long cdr, .int cpr, .int cmo, .int cho])), (d2, .inl (w2, 10, .inl e2)), (d3, .inl (w3, 10, .inl e3)), (d4, .inl (w4, 10, .inl e4)), (d5, .inl (w5, 10, .inl e5)), (d6, .inl (w6, 10, .inl e6)), (d7, .inl (w7, 10, .inl e7)), (d8, .inl (w8, 10, .inl e8)), (d9, .inl (w9, 10, .inl e9)), (d10, .inl (w10, 4, .inl e10)), (d11, .inl (w11, 4, .inl e11)), (d12, .inl (w12, 4, .inl e12)), (d13, .inl (w13, 9, .inr (.inl e13))), (hF, .inr (2, [.ref f0, .ref f1, .ref f2, .ref f3, .ref f4, .int (nI (sv)), .int (nI (ks)), .int (nI (kw))])), (f0, .inl (z0, 10, .inl g0)), (f1, .inl (z1, 10, .inl g1)), (f2, .inl (z2, 10, .inl g2)), (f3, .inl (z3, 10, .inl g3)), (f4, .inl (z4, 4, .inl g4)), (jK, .inr (5, [.ref k0, .ref k1])), (k0, .inl (cK, 8, .inl l0)), (k1, .inl (cO, 32, .inl l1)), (hN, .inr (3, [.ref o0, .ref o1, .ref o2, .ref o3, .ref o4, .int (nI (kn))])), (o0, .inl (y0, 20, .inl q0)), (o1, .inl (y1, 20, .inl q1)), (o2, .inl (y2, 20, .inl q2)), (o3, .inl (y3, 20, .inl q3)), (o4, .inl (y4, 20, .inl q4)), (jA, .inr (0, [.ref i0, .ref i1, .ref i2, .ref i3, .int (nI (ka))])), (i0, .inl (x0, 6, .inl ta0)), (i1, .inl (x1, 6, .inl ta1)), (i2, .inl (x2, 6, .inl ta2)), (i3, .inl (x3, 6, .inl ta3)), (jL, .inr (7, [.ref rL, .int (nI (kl))])), (rL, .inl (cL, 6, .inr (.inr (.inr (.inr gL))))), (jU, .inr (7, [.ref rU, .int (nI (ku))])), (rU, .inl (cU, 8, .inr (.inr (.inr (.inr gU))))), (sd, .inl (cD, 10, .inl gD))]) [0, 1, 2, 3, 4, 5, 6, 7, 8, 9, 10, 11, 12, 13, 14, 15, 16, 17, 18, 19, 20, 21, 22, 23, 24, 25, 26, 27, 28, 29, 30, 31, 32, 33, 34, 35, 36, 37, 38] rfl hk1
  generalize H1 = H at hP hS hL1 hL2 ⊢
  have hw_45 := hw
  refine lv_pop hx hb dL_law_578 rfl ?_
  refine lv_aload_n hx hb dL_law_579 rfl (lv_at hl 2 rfl) ?_
  refine lv_aload_n hx hb dL_law_580 rfl (lv_at hl 4 rfl) ?_
  refine lv_iload hx hb dL_law_581 (lv_at hl 0 rfl) ?_
  refine lv_iconst (v := 1) hx hb dL_law_583 kc_i_1 ?_
  refine lv_iadd hx hb dL_law_584 ?_
  refine lv_topi (fun y_46 ey_46 => ?_)
  obtain rfl : y_46 = nI (i + 1) := ey_46.trans (nI_add (i) (1))
  refine va_sld hx hb hX hbl hbA hS (vp_in_nI (n := i + 1) (N := L) (by omega) (by omega)) dL_law_585 ?_
  refine lv_topi (fun x_47 ex_47 => ?_)
  refine lv_aload_n hx hb dL_law_586 rfl (lv_at hl 4 rfl) ?_
  refine lv_iload hx hb dL_law_587 (lv_at hl 0 rfl) ?_
  refine lv_iconst (v := 2) hx hb dL_law_589 kc_i_2 ?_
  refine lv_iadd hx hb dL_law_590 ?_
  refine lv_topi (fun y_48 ey_48 => ?_)
  obtain rfl : y_48 = nI (i + 2) := ey_48.trans (nI_add (i) (2))
  refine va_sld hx hb hX hbl hbA hS (vp_in_nI (n := i + 2) (N := L) (by omega) (by omega)) dL_law_591 ?_
  refine lv_topi (fun x_49 ex_49 => ?_)
  obtain ⟨z_50, ez_50⟩ : ∃ z : Int64, z = Int32.toInt64 x_49 := ⟨_, rfl⟩
  refine lv_i2l (v := z_50) hx hb dL_law_592 ez_50.symm ?_
  refine lv_bipush (v := 32) hx hb dL_law_593 kc_b_32 ?_
  refine lv_lshl (v := z_50 <<< (Int32.toInt64 32 &&& 63)) hx hb dL_law_595 rfl ?_
  refine lv_topl (fun z_51 ez_51 => ?_)
  refine lv_aload_n hx hb dL_law_596 rfl (lv_at hl 4 rfl) ?_
  refine lv_iload hx hb dL_law_597 (lv_at hl 0 rfl) ?_
  refine lv_iconst (v := 3) hx hb dL_law_599 kc_i_3 ?_
  refine lv_iadd hx hb dL_law_600 ?_
  refine lv_topi (fun y_52 ey_52 => ?_)
  obtain rfl : y_52 = nI (i + 3) := ey_52.trans (nI_add (i) (3))
  refine va_sld hx hb hX hbl hbA hS (vp_in_nI (n := i + 3) (N := L) (by omega) (by omega)) dL_law_601 ?_
  refine lv_topi (fun x_53 ex_53 => ?_)
  obtain ⟨z_54, ez_54⟩ : ∃ z : Int64, z = Int32.toInt64 x_53 := ⟨_, rfl⟩
  refine lv_i2l (v := z_54) hx hb dL_law_602 ez_54.symm ?_
  refine lv_ldc2 (v := 4294967295) hx hb hown (hts (.constantLong RL 62 (4294967295)) tw_1577) dL_law_603 ?_
  refine lv_land hx hb dL_law_606 ?_
  refine lv_topl (fun z_55 ez_55 => ?_)
  refine lv_lor hx hb dL_law_607 ?_
  refine lv_topl (fun z_56 ez_56 => ?_)
  refine lv_aload_n hx hb dL_law_608 rfl (lv_at hl 4 rfl) ?_
  refine lv_iload hx hb dL_law_609 (lv_at hl 0 rfl) ?_
  refine lv_iconst (v := 4) hx hb dL_law_611 kc_i_4 ?_
  refine lv_iadd hx hb dL_law_612 ?_
  refine lv_topi (fun y_57 ey_57 => ?_)
  obtain rfl : y_57 = nI (i + 4) := ey_57.trans (nI_add (i) (4))
  refine va_sld hx hb hX hbl hbA hS (vp_in_nI (n := i + 4) (N := L) (by omega) (by omega)) dL_law_613 ?_
  refine lv_topi (fun x_58 ex_58 => ?_)
  refine lv_aload_n hx hb dL_law_614 rfl (lv_at hl 4 rfl) ?_
  refine lv_iload hx hb dL_law_615 (lv_at hl 0 rfl) ?_
  refine lv_iconst (v := 5) hx hb dL_law_617 kc_i_5 ?_
  refine lv_iadd hx hb dL_law_618 ?_
  refine lv_topi (fun y_59 ey_59 => ?_)
  obtain rfl : y_59 = nI (i + 5) := ey_59.trans (nI_add (i) (5))
  refine va_sld hx hb hX hbl hbA hS (vp_in_nI (n := i + 5) (N := L) (by omega) (by omega)) dL_law_619 ?_
  refine lv_topi (fun x_60 ex_60 => ?_)
  refine lv_aload_n hx hb dL_law_620 rfl (lv_at hl 4 rfl) ?_
  refine lv_iload hx hb dL_law_621 (lv_at hl 0 rfl) ?_
  refine lv_bipush (v := 6) hx hb dL_law_623 kc_b_6 ?_
  refine lv_iadd hx hb dL_law_625 ?_
  refine lv_topi (fun y_61 ey_61 => ?_)
  obtain rfl : y_61 = nI (i + 6) := ey_61.trans (nI_add (i) (6))
  refine va_sld hx hb hX hbl hbA hS (vp_in_nI (n := i + 6) (N := L) (by omega) (by omega)) dL_law_626 ?_
  refine lv_topi (fun x_62 ex_62 => ?_)
  have bd_63 : kt ≤ 120 := by omega
  have bd_64 : ho ≤ 48 := by omega
  have hCu := kCut (wc := [(jM, .inr (10, [.int th, .ref m1, .ref m2, .ref m3, .ref m4, v5, .int (nI (kt)), .int (nI (kl)), .int (nI (ku)), v9, v10, v11, v12, v13, v14, v15, v16, v17, v18, .ref m19, .ref m20, .ref m21, .ref m22, .ref m23, .ref m24, .ref m25, .int (nI (ks)), .int (nI (kw)), .ref m28, .ref m29, .ref m30, .ref m31, .ref m32, .ref m33, .ref m34, .ref m35, .ref m36, .int thr, .int (nI (ho)), .long xx, .ref m40, .ref m41, .ref m42, .ref m43, .ref m44, .int (nI (kn)), .ref m46, .ref m47, .ref m48, .ref m49, .ref m50, .int (nI (ka))])), (m1, .inl (mc1, 120, .inl mf1)), (m2, .inl (mc2, 1680, .inl mf2)), (m3, .inl (mc3, 14, .inl mf3)), (m4, .inl (mc4, 128, .inl mf4)), (m19, .inl (mc19, 10, .inl mf19)), (m20, .inl (mc20, 10, .inl mf20)), (m21, .inl (mc21, 10, .inl mf21)), (m22, .inl (mc22, 10, .inl mf22)), (m23, .inl (mc23, 10, .inl mf23)), (m24, .inl (mc24, 4, .inl mf24)), (m25, .inl (mc25, 10, .inl mf25)), (m28, .inl (mc28, 10, .inl mf28)), (m29, .inl (mc29, 10, .inl mf29)), (m30, .inl (mc30, 10, .inl mf30)), (m31, .inl (mc31, 10, .inl mf31)), (m32, .inl (mc32, 10, .inl mf32)), (m33, .inl (mc33, 10, .inl mf33)), (m34, .inl (mc34, 10, .inl mf34)), (m35, .inl (mc35, 10, .inl mf35)), (m36, .inl (mc36, 10, .inl mf36)), (m40, .inl (mc40, 20, .inl mf40)), (m41, .inl (mc41, 20, .inl mf41)), (m42, .inl (mc42, 20, .inl mf42)), (m43, .inl (mc43, 20, .inl mf43)), (m44, .inl (mc44, 20, .inl mf44)), (m46, .inl (mc46, 14, .inr (.inl mf46))), (m47, .inl (mc47, 6, .inl mf47)), (m48, .inl (mc48, 6, .inl mf48)), (m49, .inl (mc49, 6, .inl mf49)), (m50, .inl (mc50, 6, .inl mf50))]) hP hD hS hA [44, 45, 46, 47, 48, 49, 50, 51, 52, 53, 54, 55, 56, 57, 58, 59, 60, 61, 62, 63, 64, 65, 66, 67, 68, 69, 70, 71, 72, 73, 74] rfl kc_nd_1018 rfl
  have hPc := hCu.1
  have hDc := hCu.2.1
  have hFc := hCu.2.2
  have hKc := hK.sb (tys2 := [(mc1, .byte), (mc2, .byte), (mc3, .int), (mc4, .int), (mc19, .int), (mc20, .int), (mc21, .int), (mc22, .int), (mc23, .int), (mc24, .int), (mc25, .boolean), (mc28, .int), (mc29, .int), (mc30, .int), (mc31, .int), (mc32, .int), (mc33, .int), (mc34, .int), (mc35, .int), (mc36, .int), (mc40, .int), (mc41, .int), (mc42, .int), (mc43, .int), (mc44, .int), (mc46, .long), (mc47, .int), (mc48, .int), (mc49, .int), (mc50, .int)]) [34, 35, 36, 37, 38, 39, 40, 41, 42, 43, 44, 45, 46, 47, 48, 49, 50, 51, 52, 53, 54, 55, 56, 57, 58, 59, 60, 61, 62, 63] rfl
  refine va_calli (va_runV (As := [.int x_47, .long z_56, .int x_58, .int x_60, .int x_62]) (rest := []) ⟨hx, hb, hml, hown, hts⟩ (s_run10 l dC dI jM th thr xx (v5 : Value) (v9 : Value) (v10 : Value) (v11 : Value) (v12 : Value) (v13 : Value) (v14 : Value) (v15 : Value) (v16 : Value) (v17 : Value) (v18 : Value) m1 m2 m3 m4 m19 m20 m21 m22 m23 m24 m25 m28 m29 m30 m31 m32 m33 m34 m35 m36 m40 m41 m42 m43 m44 m46 m47 m48 m49 m50 mc1 mc2 mc3 mc4 mc19 mc20 mc21 mc22 mc23 mc24 mc25 mc28 mc29 mc30 mc31 mc32 mc33 mc34 mc35 mc36 mc40 mc41 mc42 mc43 mc44 mc46 mc47 mc48 mc49 mc50 mf1 mf2 mf3 mf4 mf19 mf20 mf21 mf22 mf23 mf24 mf25 mf28 mf29 mf30 mf31 mf32 mf33 mf34 mf35 mf36 mf40 mf41 mf42 mf43 mf44 mf46 mf47 mf48 mf49 mf50 kt kl ku ks kw ho kn ka bd_63 bd_23 bd_24 bd_18 bd_19 bd_64 bd_21 bd_22 ad (bt 5) 3 (kTx [121, 103, 120]) (by decide) (bt 7) 8 (kTx [118, 112, 110, 109, 115, 117, 100, 105]) (by decide) (bt 6) 1 (kTx [119]) (by decide) (bt 8) 5 (kTx [97, 98, 99, 100, 101]) (by decide) (kTx_b (by decide +kernel)) (kTx_b (by decide +kernel)) (kTx_b (by decide +kernel)) (kTx_b (by decide +kernel)) kHzA kHzB kHzE kHzG (fun c hc => kHlB ⟨c, hc⟩) (fun c hc => kHlG ⟨c, hc⟩) yL yU hUl hUt g0 g1 g2 g3 g4 sv (kTd_mk hT9 hse hsb) hT9.2.2.2 (⟨rfl, by decide, by decide, by decide⟩) (⟨rfl, kTxB⟩) x_47 z_56 x_58 x_60 x_62 H.size) (cwV 5 hts (kG (List.forall_mem_cons.mpr ⟨tw_1411, (List.forall_mem_cons.mpr ⟨tw_1412, (List.forall_mem_cons.mpr ⟨tw_1413, (List.forall_mem_cons.mpr ⟨tw_85, (fun _ h => absurd h List.not_mem_nil)⟩)⟩)⟩)⟩) (kGV _ _ _ _) in_w_s_run10 gw_s_run10) rfl rfl rfl ⟨rfl, hd_X10_run⟩ ⟨(Nat.le_of_ble_eq_true rfl), (Nat.le_of_ble_eq_true rfl)⟩) (kW_V kMx_blind (kMx_give hXX.2.2.1 hS hFc) (va_recv hKc hPc (ci := 10) (q0 := 0) rfl rfl) hPc hKc hDc) rfl rfl hl.1 rfl (lv_room (Nat.le_of_ble_eq_true rfl)) dL_law_627 ⟨(show cells + 0 + 0 ≤ 601024 by omega), (show slots + 0 + 0 ≤ 7293034 by omega)⟩) hS (fun q _ h => hFc q h) hFc (fun r_65 u t H1 locs ht hvm hw hB hz1 hk1 hS => ?_)
  obtain ⟨S4_66, S28_67, S29_68, S30_69, S31_70, S32_71, S33_72, S34_73, S35_74, S36_75, Th0_76, Th_77, Ho_78, Xx_79, W5_80, W9_81, W10_82, W11_83, W12_84, W13_85, W14_86, W15_87, W16_88, W17_89, W18_90⟩ := u
  obtain ⟨hP1, hK1, hD1⟩ := hB
  rw [ht] at hP1
  try dsimp only at hw
  have hPD : kPD dC dI (fun q : Nat => s.heap.size ≤ q) [(jX, .inr (9, [.ref jT, .ref jR, .ref jK, .ref jL, .ref jU, .ref hF, .ref jC, .ref hN, .ref jA, .ref sd])), (jC, .inr (1, [.ref hF, .ref jK, .ref d2, .ref d3, .ref d4, .ref d5, .ref d6, .ref d7, .ref d8, .ref d9, .ref d10, .ref d11, .ref d12, .ref d13, Lw_44, .long Dr_43, .int Pr_40, .int Mo_41, .int Ho_42])), (d2, .inl (w2, 10, .inl E2_26)), (d3, .inl (w3, 10, .inl E3_27)), (d4, .inl (w4, 10, .inl E4_28)), (d5, .inl (w5, 10, .inl E5_29)), (d6, .inl (w6, 10, .inl E6_30)), (d7, .inl (w7, 10, .inl E7_31)), (d8, .inl (w8, 10, .inl E8_32)), (d9, .inl (w9, 10, .inl E9_33)), (d10, .inl (w10, 4, .inl E10_34)), (d11, .inl (w11, 4, .inl E11_35)), (d12, .inl (w12, 4, .inl E12_36)), (d13, .inl (w13, 9, .inr (.inl E13_37))), (hF, .inr (2, [.ref f0, .ref f1, .ref f2, .ref f3, .ref f4, .int (nI (sv)), .int (nI (ks)), .int (nI (kw))])), (f0, .inl (z0, 10, .inl g0)), (f1, .inl (z1, 10, .inl g1)), (f2, .inl (z2, 10, .inl g2)), (f3, .inl (z3, 10, .inl g3)), (f4, .inl (z4, 4, .inl g4)), (jK, .inr (5, [.ref k0, .ref k1])), (k0, .inl (cK, 8, .inl L0_38)), (k1, .inl (cO, 32, .inl L1_39)), (hN, .inr (3, [.ref o0, .ref o1, .ref o2, .ref o3, .ref o4, .int (nI (kn))])), (o0, .inl (y0, 20, .inl q0)), (o1, .inl (y1, 20, .inl q1)), (o2, .inl (y2, 20, .inl q2)), (o3, .inl (y3, 20, .inl q3)), (o4, .inl (y4, 20, .inl q4)), (jA, .inr (0, [.ref i0, .ref i1, .ref i2, .ref i3, .int (nI (ka))])), (i0, .inl (x0, 6, .inl ta0)), (i1, .inl (x1, 6, .inl ta1)), (i2, .inl (x2, 6, .inl ta2)), (i3, .inl (x3, 6, .inl ta3)), (jL, .inr (7, [.ref rL, .int (nI (kl))])), (rL, .inl (cL, 6, .inr (.inr (.inr (.inr gL))))), (jU, .inr (7, [.ref rU, .int (nI (ku))])), (rU, .inl (cU, 8, .inr (.inr (.inr (.inr gU))))), (sd, .inl (cD, 10, .inl gD)), (jR, .inr (4, [.ref jT, .ref r1, .ref r2, .int (nI (wr)), .int (nI (fi)), .int rpl, rv6, rv7])), (r1, .inl (c1, 120, .inl s1)), (r2, .inl (c2, 124, .inl s2)), (jT, .inr (8, [.ref tz0, .int (nI (kt))])), (tz0, .inl (cC, 120, .inl gTp)), (jM, .inr (10, [.int Th0_76, .ref m1, .ref m2, .ref m3, .ref m4, W5_80, .int (nI (kt)), .int (nI (kl)), .int (nI (ku)), W9_81, W10_82, W11_83, W12_84, W13_85, W14_86, W15_87, W16_88, W17_89, W18_90, .ref m19, .ref m20, .ref m21, .ref m22, .ref m23, .ref m24, .ref m25, .int (nI (ks)), .int (nI (kw)), .ref m28, .ref m29, .ref m30, .ref m31, .ref m32, .ref m33, .ref m34, .ref m35, .ref m36, .int Th_77, .int (nI (Ho_78)), .long Xx_79, .ref m40, .ref m41, .ref m42, .ref m43, .ref m44, .int (nI (kn)), .ref m46, .ref m47, .ref m48, .ref m49, .ref m50, .int (nI (ka))])), (m1, .inl (mc1, 120, .inl mf1)), (m2, .inl (mc2, 1680, .inl mf2)), (m3, .inl (mc3, 14, .inl mf3)), (m4, .inl (mc4, 128, .inl S4_66)), (m19, .inl (mc19, 10, .inl mf19)), (m20, .inl (mc20, 10, .inl mf20)), (m21, .inl (mc21, 10, .inl mf21)), (m22, .inl (mc22, 10, .inl mf22)), (m23, .inl (mc23, 10, .inl mf23)), (m24, .inl (mc24, 4, .inl mf24)), (m25, .inl (mc25, 10, .inl mf25)), (m28, .inl (mc28, 10, .inl S28_67)), (m29, .inl (mc29, 10, .inl S29_68)), (m30, .inl (mc30, 10, .inl S30_69)), (m31, .inl (mc31, 10, .inl S31_70)), (m32, .inl (mc32, 10, .inl S32_71)), (m33, .inl (mc33, 10, .inl S33_72)), (m34, .inl (mc34, 10, .inl S34_73)), (m35, .inl (mc35, 10, .inl S35_74)), (m36, .inl (mc36, 10, .inl S36_75)), (m40, .inl (mc40, 20, .inl mf40)), (m41, .inl (mc41, 20, .inl mf41)), (m42, .inl (mc42, 20, .inl mf42)), (m43, .inl (mc43, 20, .inl mf43)), (m44, .inl (mc44, 20, .inl mf44)), (m46, .inl (mc46, 14, .inr (.inl mf46))), (m47, .inl (mc47, 6, .inl mf47)), (m48, .inl (mc48, 6, .inl mf48)), (m49, .inl (mc49, 6, .inl mf49)), (m50, .inl (mc50, 6, .inl mf50)), (oo, .inl (cOo, 1, .inr (.inl fo)))] H1 := kJoinI hP hD [44, 45, 46, 47, 48, 49, 50, 51, 52, 53, 54, 55, 56, 57, 58, 59, 60, 61, 62, 63, 64, 65, 66, 67, 68, 69, 70, 71, 72, 73, 74] rfl hk1 hFc hP1 hD1 rfl [none, none, none, none, none, none, none, none, none, none, none, none, none, none, none, none, none, none, none, none, none, none, none, none, none, none, none, none, none, none, none, none, none, none, none, none, none, none, none, none, none, none, none, none, some 0, some 1, some 2, some 3, some 4, some 5, some 6, some 7, some 8, some 9, some 10, some 11, some 12, some 13, some 14, some 15, some 16, some 17, some 18, some 19, some 20, some 21, some 22, some 23, some 24, some 25, some 26, some 27, some 28, some 29, some 30, none] rfl rfl
  obtain ⟨hP, hD⟩ := hPD
  have hL1 := kShL_keep hL1 (Wc := [(jM, .inr (10, [.int th, .ref m1, .ref m2, .ref m3, .ref m4, v5, .int (nI (kt)), .int (nI (kl)), .int (nI (ku)), v9, v10, v11, v12, v13, v14, v15, v16, v17, v18, .ref m19, .ref m20, .ref m21, .ref m22, .ref m23, .ref m24, .ref m25, .int (nI (ks)), .int (nI (kw)), .ref m28, .ref m29, .ref m30, .ref m31, .ref m32, .ref m33, .ref m34, .ref m35, .ref m36, .int thr, .int (nI (ho)), .long xx, .ref m40, .ref m41, .ref m42, .ref m43, .ref m44, .int (nI (kn)), .ref m46, .ref m47, .ref m48, .ref m49, .ref m50, .int (nI (ka))])), (m1, .inl (mc1, 120, .inl mf1)), (m2, .inl (mc2, 1680, .inl mf2)), (m3, .inl (mc3, 14, .inl mf3)), (m4, .inl (mc4, 128, .inl mf4)), (m19, .inl (mc19, 10, .inl mf19)), (m20, .inl (mc20, 10, .inl mf20)), (m21, .inl (mc21, 10, .inl mf21)), (m22, .inl (mc22, 10, .inl mf22)), (m23, .inl (mc23, 10, .inl mf23)), (m24, .inl (mc24, 4, .inl mf24)), (m25, .inl (mc25, 10, .inl mf25)), (m28, .inl (mc28, 10, .inl mf28)), (m29, .inl (mc29, 10, .inl mf29)), (m30, .inl (mc30, 10, .inl mf30)), (m31, .inl (mc31, 10, .inl mf31)), (m32, .inl (mc32, 10, .inl mf32)), (m33, .inl (mc33, 10, .inl mf33)), (m34, .inl (mc34, 10, .inl mf34)), (m35, .inl (mc35, 10, .inl mf35)), (m36, .inl (mc36, 10, .inl mf36)), (m40, .inl (mc40, 20, .inl mf40)), (m41, .inl (mc41, 20, .inl mf41)), (m42, .inl (mc42, 20, .inl mf42)), (m43, .inl (mc43, 20, .inl mf43)), (m44, .inl (mc44, 20, .inl mf44)), (m46, .inl (mc46, 14, .inr (.inl mf46))), (m47, .inl (mc47, 6, .inl mf47)), (m48, .inl (mc48, 6, .inl mf48)), (m49, .inl (mc49, 6, .inl mf49)), (m50, .inl (mc50, 6, .inl mf50))]) [44, 45, 46, 47, 48, 49, 50, 51, 52, 53, 54, 55, 56, 57, 58, 59, 60, 61, 62, 63, 64, 65, 66, 67, 68, 69, 70, 71, 72, 73, 74] rfl hk1
  have hL2 := kShL_keep hL2 (Wc := [(jM, .inr (10, [.int th, .ref m1, .ref m2, .ref m3, .ref m4, v5, .int (nI (kt)), .int (nI (kl)), .int (nI (ku)), v9, v10, v11, v12, v13, v14, v15, v16, v17, v18, .ref m19, .ref m20, .ref m21, .ref m22, .ref m23, .ref m24, .ref m25, .int (nI (ks)), .int (nI (kw)), .ref m28, .ref m29, .ref m30, .ref m31, .ref m32, .ref m33, .ref m34, .ref m35, .ref m36, .int thr, .int (nI (ho)), .long xx, .ref m40, .ref m41, .ref m42, .ref m43, .ref m44, .int (nI (kn)), .ref m46, .ref m47, .ref m48, .ref m49, .ref m50, .int (nI (ka))])), (m1, .inl (mc1, 120, .inl mf1)), (m2, .inl (mc2, 1680, .inl mf2)), (m3, .inl (mc3, 14, .inl mf3)), (m4, .inl (mc4, 128, .inl mf4)), (m19, .inl (mc19, 10, .inl mf19)), (m20, .inl (mc20, 10, .inl mf20)), (m21, .inl (mc21, 10, .inl mf21)), (m22, .inl (mc22, 10, .inl mf22)), (m23, .inl (mc23, 10, .inl mf23)), (m24, .inl (mc24, 4, .inl mf24)), (m25, .inl (mc25, 10, .inl mf25)), (m28, .inl (mc28, 10, .inl mf28)), (m29, .inl (mc29, 10, .inl mf29)), (m30, .inl (mc30, 10, .inl mf30)), (m31, .inl (mc31, 10, .inl mf31)), (m32, .inl (mc32, 10, .inl mf32)), (m33, .inl (mc33, 10, .inl mf33)), (m34, .inl (mc34, 10, .inl mf34)), (m35, .inl (mc35, 10, .inl mf35)), (m36, .inl (mc36, 10, .inl mf36)), (m40, .inl (mc40, 20, .inl mf40)), (m41, .inl (mc41, 20, .inl mf41)), (m42, .inl (mc42, 20, .inl mf42)), (m43, .inl (mc43, 20, .inl mf43)), (m44, .inl (mc44, 20, .inl mf44)), (m46, .inl (mc46, 14, .inr (.inl mf46))), (m47, .inl (mc47, 6, .inl mf47)), (m48, .inl (mc48, 6, .inl mf48)), (m49, .inl (mc49, 6, .inl mf49)), (m50, .inl (mc50, 6, .inl mf50))]) [44, 45, 46, 47, 48, 49, 50, 51, 52, 53, 54, 55, 56, 57, 58, 59, 60, 61, 62, 63, 64, 65, 66, 67, 68, 69, 70, 71, 72, 73, 74] rfl hk1
  generalize H1 = H at hP hS hL1 hL2 ⊢
  have hw_91 := hw
  have hw_91_0 := hw_91.2
  have exx : x_2 = x_47 := ex_2.trans ex_47.symm
  subst exx
  have exx : z_11 = z_56 := by simp only [ex_2, ex_4, ez_6, ex_8, ez_10, ez_11, ex_13, ex_15, ex_17, ex_47, ex_49, ez_51, ex_53, ez_55, ez_56, ex_58, ex_60, ex_62, ez_5, ez_9, ez_50, ez_54]
  subst exx
  have exx : x_13 = x_58 := ex_13.trans ex_58.symm
  subst exx
  have exx : x_15 = x_60 := ex_15.trans ex_60.symm
  subst exx
  have exx : x_17 = x_62 := ex_17.trans ex_62.symm
  subst exx
  have ew1 : r_25 = r_65 := by rw [hw_45, hw_91.1]
  refine lv_pop hx hb dL_law_630 rfl ?_
  refine lv_goto (tgt := 1791) hx hb dL_law_631 kc_t_631_1160 ?_
  refine lv_iinc (v := nI (i + 7)) hx hb dL_law_1791 hl (k := 0) rfl (kInc _ 7) kc_l_4_7 (kTo [(4, .int (nI (i + 7))), (3, .ref oo), (2, .ref jM), (1, .ref jX), (0, .ref b)]) (fun ls hl => ?_)
  refine lv_goto (tgt := 23) hx hb dL_law_1794 kc_t_1794_m1771 ?_
  exact ih _ _ _ _ _ (fun C9 hC9 => hC9 (Lw_44 : Value) E2_26 E3_27 E4_28 E5_29 E6_30 E7_31 E8_32 E9_33 E10_34 E11_35 E12_36 E13_37 Dr_43 Pr_40 Mo_41 Ho_42 g0 g1 g2 g3 g4 sv ks kw L0_38 L1_39 q0 q1 q2 q3 q4 kn ta0 ta1 ta2 ta3 ka gL kl gU ku gD gTp kt s1 s2 wr fi rpl (rv6 : Value) (rv7 : Value) Th0_76 Th_77 Xx_79 (W5_80 : Value) (W9_81 : Value) (W10_82 : Value) (W11_83 : Value) (W12_84 : Value) (W13_85 : Value) (W14_86 : Value) (W15_87 : Value) (W16_88 : Value) (W17_89 : Value) (W18_90 : Value) mf1 mf2 mf3 S4_66 mf19 mf20 mf21 mf22 mf23 mf24 mf25 S28_67 S29_68 S30_69 S31_70 S32_71 S33_72 S34_73 S35_74 S36_75 mf40 mf41 mf42 mf43 mf44 mf46 mf47 mf48 mf49 mf50 Ho_78 fo tb yL yU (by omega) (by omega) (by omega) (by omega) (by omega) (by omega) (by omega) (by omega) (by omega) (by omega) (by assumption) (by assumption) (by assumption) (by assumption) (by omega) (by first | assumption | exact kSaM (by omega) hSa) (by first | assumption | exact kNpM (by omega) hNp) (by assumption) (by assumption) (by assumption) (by assumption) (by assumption) ⟨hP, hD⟩ hS hL1 hL2 (lv_sub hl [0, 1, 2, 3, 4] rfl) (by omega) (by omega))
end
