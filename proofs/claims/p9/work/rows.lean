section
-- ===== PART A: goes FIRST, ahead of the names: the tables' words, and 'selects' of the private methods out of them =====
/-- a private method of a class that the tables say can be made, by its rows of tables_1 -/
def lw_okq (q : MethodName × Nat) : Prop := (q.1.cls ≠ "java/lang/invoke/MethodHandle" ∧ q.1.cls ≠ "java/lang/invoke/VarHandle") ∧ Cond.instantiable q.1.cls q.2 ∈ tables_1 ∧ Cond.privateMethod q.1 ∈ tables_1 ∧ Cond.instanceMethod q.1 ∈ tables_1
theorem lw_p0 : lw_okq (⟨"NotEnded$Reader", "readClause", "()Z"⟩, 8) := ⟨⟨by decide +kernel, by decide +kernel⟩, List.mem_of_getElem? (i := 49) (by decide +kernel), List.mem_of_getElem? (i := 333) (by decide +kernel), List.mem_of_getElem? (i := 334) (by decide +kernel)⟩
theorem lw_p1 : lw_okq (⟨"NotEnded$Reader", "look", "()C"⟩, 8) := ⟨⟨by decide +kernel, by decide +kernel⟩, List.mem_of_getElem? (i := 49) (by decide +kernel), List.mem_of_getElem? (i := 337) (by decide +kernel), List.mem_of_getElem? (i := 338) (by decide +kernel)⟩
theorem lw_p2 : lw_okq (⟨"NotEnded$Reader", "take", "(C)Z"⟩, 8) := ⟨⟨by decide +kernel, by decide +kernel⟩, List.mem_of_getElem? (i := 49) (by decide +kernel), List.mem_of_getElem? (i := 431) (by decide +kernel), List.mem_of_getElem? (i := 432) (by decide +kernel)⟩
theorem lw_p3 : lw_okq (⟨"NotEnded$Reader", "readSum", "(I)Z"⟩, 8) := ⟨⟨by decide +kernel, by decide +kernel⟩, List.mem_of_getElem? (i := 49) (by decide +kernel), List.mem_of_getElem? (i := 435) (by decide +kernel), List.mem_of_getElem? (i := 436) (by decide +kernel)⟩
theorem lw_p4 : lw_okq (⟨"NotEnded$Reader", "readTerm", "(I)Z"⟩, 8) := ⟨⟨by decide +kernel, by decide +kernel⟩, List.mem_of_getElem? (i := 49) (by decide +kernel), List.mem_of_getElem? (i := 439) (by decide +kernel), List.mem_of_getElem? (i := 440) (by decide +kernel)⟩
theorem lw_p5 : lw_okq (⟨"NotEnded$Reader", "readAtom", "(I)Z"⟩, 8) := ⟨⟨by decide +kernel, by decide +kernel⟩, List.mem_of_getElem? (i := 49) (by decide +kernel), List.mem_of_getElem? (i := 443) (by decide +kernel), List.mem_of_getElem? (i := 444) (by decide +kernel)⟩
theorem lw_p6 : lw_okq (⟨"NotEnded$Reader", "opens", "(I)Z"⟩, 8) := ⟨⟨by decide +kernel, by decide +kernel⟩, List.mem_of_getElem? (i := 49) (by decide +kernel), List.mem_of_getElem? (i := 447) (by decide +kernel), List.mem_of_getElem? (i := 448) (by decide +kernel)⟩
theorem lw_p7 : lw_okq (⟨"NotEnded$Reader", "readNumber", "()Z"⟩, 8) := ⟨⟨by decide +kernel, by decide +kernel⟩, List.mem_of_getElem? (i := 49) (by decide +kernel), List.mem_of_getElem? (i := 454) (by decide +kernel), List.mem_of_getElem? (i := 455) (by decide +kernel)⟩
theorem lw_p8 : lw_okq (⟨"NotEnded$Reader", "write", "(I)Z"⟩, 8) := ⟨⟨by decide +kernel, by decide +kernel⟩, List.mem_of_getElem? (i := 49) (by decide +kernel), List.mem_of_getElem? (i := 458) (by decide +kernel), List.mem_of_getElem? (i := 459) (by decide +kernel)⟩
theorem lw_p9 : lw_okq (⟨"NotEnded$Reader", "keepClause", "(III)Z"⟩, 8) := ⟨⟨by decide +kernel, by decide +kernel⟩, List.mem_of_getElem? (i := 49) (by decide +kernel), List.mem_of_getElem? (i := 465) (by decide +kernel), List.mem_of_getElem? (i := 466) (by decide +kernel)⟩
theorem lw_p10 : lw_okq (⟨"NotEnded$Reader", "readCondition", "(IZ)Z"⟩, 8) := ⟨⟨by decide +kernel, by decide +kernel⟩, List.mem_of_getElem? (i := 49) (by decide +kernel), List.mem_of_getElem? (i := 469) (by decide +kernel), List.mem_of_getElem? (i := 470) (by decide +kernel)⟩
theorem lw_p11 : lw_okq (⟨"NotEnded$Reader", "readTruth", "(IZ)Z"⟩, 8) := ⟨⟨by decide +kernel, by decide +kernel⟩, List.mem_of_getElem? (i := 49) (by decide +kernel), List.mem_of_getElem? (i := 473) (by decide +kernel), List.mem_of_getElem? (i := 474) (by decide +kernel)⟩
theorem lw_p12 : lw_okq (⟨"NotEnded$Reader", "readUnit", "(IZ)Z"⟩, 8) := ⟨⟨by decide +kernel, by decide +kernel⟩, List.mem_of_getElem? (i := 49) (by decide +kernel), List.mem_of_getElem? (i := 477) (by decide +kernel), List.mem_of_getElem? (i := 478) (by decide +kernel)⟩
theorem lw_p13 : lw_okq (⟨"NotEnded$Course", "weigh", "()V"⟩, 19) := ⟨⟨by decide +kernel, by decide +kernel⟩, List.mem_of_getElem? (i := 146) (by decide +kernel), List.mem_of_getElem? (i := 590) (by decide +kernel), List.mem_of_getElem? (i := 591) (by decide +kernel)⟩
theorem lw_p14 : lw_okq (⟨"NotEnded$Course", "tallyHouses", "()V"⟩, 19) := ⟨⟨by decide +kernel, by decide +kernel⟩, List.mem_of_getElem? (i := 146) (by decide +kernel), List.mem_of_getElem? (i := 594) (by decide +kernel), List.mem_of_getElem? (i := 595) (by decide +kernel)⟩
theorem lw_p15 : lw_okq (⟨"NotEnded$Course", "setLettersOfHour", "()V"⟩, 19) := ⟨⟨by decide +kernel, by decide +kernel⟩, List.mem_of_getElem? (i := 146) (by decide +kernel), List.mem_of_getElem? (i := 608) (by decide +kernel), List.mem_of_getElem? (i := 609) (by decide +kernel)⟩
def lw_privs_1 : List (MethodName × Nat) := [(⟨"NotEnded$Reader", "readClause", "()Z"⟩, 8), (⟨"NotEnded$Reader", "look", "()C"⟩, 8), (⟨"NotEnded$Reader", "take", "(C)Z"⟩, 8), (⟨"NotEnded$Reader", "readSum", "(I)Z"⟩, 8), (⟨"NotEnded$Reader", "readTerm", "(I)Z"⟩, 8), (⟨"NotEnded$Reader", "readAtom", "(I)Z"⟩, 8), (⟨"NotEnded$Reader", "opens", "(I)Z"⟩, 8), (⟨"NotEnded$Reader", "readNumber", "()Z"⟩, 8), (⟨"NotEnded$Reader", "write", "(I)Z"⟩, 8), (⟨"NotEnded$Reader", "keepClause", "(III)Z"⟩, 8), (⟨"NotEnded$Reader", "readCondition", "(IZ)Z"⟩, 8), (⟨"NotEnded$Reader", "readTruth", "(IZ)Z"⟩, 8), (⟨"NotEnded$Reader", "readUnit", "(IZ)Z"⟩, 8), (⟨"NotEnded$Course", "weigh", "()V"⟩, 19), (⟨"NotEnded$Course", "tallyHouses", "()V"⟩, 19), (⟨"NotEnded$Course", "setLettersOfHour", "()V"⟩, 19)]
theorem lw_r1 : ∀ q ∈ lw_privs_1, lw_okq q := List.forall_mem_cons.mpr ⟨lw_p0, List.forall_mem_cons.mpr ⟨lw_p1, List.forall_mem_cons.mpr ⟨lw_p2, List.forall_mem_cons.mpr ⟨lw_p3, List.forall_mem_cons.mpr ⟨lw_p4, List.forall_mem_cons.mpr ⟨lw_p5, List.forall_mem_cons.mpr ⟨lw_p6, List.forall_mem_cons.mpr ⟨lw_p7, List.forall_mem_cons.mpr ⟨lw_p8, List.forall_mem_cons.mpr ⟨lw_p9, List.forall_mem_cons.mpr ⟨lw_p10, List.forall_mem_cons.mpr ⟨lw_p11, List.forall_mem_cons.mpr ⟨lw_p12, List.forall_mem_cons.mpr ⟨lw_p13, List.forall_mem_cons.mpr ⟨lw_p14, List.forall_mem_cons.mpr ⟨lw_p15, fun _ h => absurd h List.not_mem_nil⟩⟩⟩⟩⟩⟩⟩⟩⟩⟩⟩⟩⟩⟩⟩⟩
theorem lw_p16 : lw_okq (⟨"NotEnded$Course", "setLettersOf", "(I)V"⟩, 19) := ⟨⟨by decide +kernel, by decide +kernel⟩, List.mem_of_getElem? (i := 146) (by decide +kernel), List.mem_of_getElem? (i := 625) (by decide +kernel), List.mem_of_getElem? (i := 626) (by decide +kernel)⟩
theorem lw_p17 : lw_okq (⟨"NotEnded$Reckoner", "reckon", "([III)I"⟩, 2) := ⟨⟨by decide +kernel, by decide +kernel⟩, List.mem_of_getElem? (i := 83) (by decide +kernel), List.mem_of_getElem? (i := 634) (by decide +kernel), List.mem_of_getElem? (i := 635) (by decide +kernel)⟩
theorem lw_p18 : lw_okq (⟨"NotEnded$Reckoner", "valueOf", "(I)I"⟩, 2) := ⟨⟨by decide +kernel, by decide +kernel⟩, List.mem_of_getElem? (i := 83) (by decide +kernel), List.mem_of_getElem? (i := 639) (by decide +kernel), List.mem_of_getElem? (i := 640) (by decide +kernel)⟩
theorem lw_p19 : lw_okq (⟨"NotEnded$Course", "holdMore", "()V"⟩, 19) := ⟨⟨by decide +kernel, by decide +kernel⟩, List.mem_of_getElem? (i := 146) (by decide +kernel), List.mem_of_getElem? (i := 653) (by decide +kernel), List.mem_of_getElem? (i := 654) (by decide +kernel)⟩
theorem lw_p20 : lw_okq (⟨"NotEnded$Course", "tell", "()V"⟩, 19) := ⟨⟨by decide +kernel, by decide +kernel⟩, List.mem_of_getElem? (i := 146) (by decide +kernel), List.mem_of_getElem? (i := 658) (by decide +kernel), List.mem_of_getElem? (i := 659) (by decide +kernel)⟩
theorem lw_p21 : lw_okq (⟨"NotEnded$Course", "tellThoseKnown", "(I)V"⟩, 19) := ⟨⟨by decide +kernel, by decide +kernel⟩, List.mem_of_getElem? (i := 146) (by decide +kernel), List.mem_of_getElem? (i := 662) (by decide +kernel), List.mem_of_getElem? (i := 663) (by decide +kernel)⟩
theorem lw_p22 : lw_okq (⟨"NotEnded$Course", "goHome", "()V"⟩, 19) := ⟨⟨by decide +kernel, by decide +kernel⟩, List.mem_of_getElem? (i := 146) (by decide +kernel), List.mem_of_getElem? (i := 666) (by decide +kernel), List.mem_of_getElem? (i := 667) (by decide +kernel)⟩
theorem lw_p23 : lw_okq (⟨"NotEnded$Course", "mayGo", "(I)Z"⟩, 19) := ⟨⟨by decide +kernel, by decide +kernel⟩, List.mem_of_getElem? (i := 146) (by decide +kernel), List.mem_of_getElem? (i := 670) (by decide +kernel), List.mem_of_getElem? (i := 671) (by decide +kernel)⟩
theorem lw_p24 : lw_okq (⟨"NotEnded", "heldAtEnd", "(LNotEnded$Rule;JII)I"⟩, 10) := ⟨⟨by decide +kernel, by decide +kernel⟩, List.mem_of_getElem? (i := 27) (by decide +kernel), List.mem_of_getElem? (i := 711) (by decide +kernel), List.mem_of_getElem? (i := 712) (by decide +kernel)⟩
theorem lw_p25 : lw_okq (⟨"NotEnded", "isNoted", "(LNotEnded$Rule;JI)Z"⟩, 10) := ⟨⟨by decide +kernel, by decide +kernel⟩, List.mem_of_getElem? (i := 27) (by decide +kernel), List.mem_of_getElem? (i := 755) (by decide +kernel), List.mem_of_getElem? (i := 756) (by decide +kernel)⟩
theorem lw_p26 : lw_okq (⟨"NotEnded$Notebook", "isSo", "(LNotEnded$Course;I)Z"⟩, 6) := ⟨⟨by decide +kernel, by decide +kernel⟩, List.mem_of_getElem? (i := 211) (by decide +kernel), List.mem_of_getElem? (i := 764) (by decide +kernel), List.mem_of_getElem? (i := 765) (by decide +kernel)⟩
theorem lw_p27 : lw_okq (⟨"NotEnded$Course", "addOneWhoMay", "(II)V"⟩, 19) := ⟨⟨by decide +kernel, by decide +kernel⟩, List.mem_of_getElem? (i := 146) (by decide +kernel), List.mem_of_getElem? (i := 798) (by decide +kernel), List.mem_of_getElem? (i := 799) (by decide +kernel)⟩
theorem lw_p28 : lw_okq (⟨"NotEnded", "isLet", "(LNotEnded$Rule;I)Z"⟩, 10) := ⟨⟨by decide +kernel, by decide +kernel⟩, List.mem_of_getElem? (i := 27) (by decide +kernel), List.mem_of_getElem? (i := 810) (by decide +kernel), List.mem_of_getElem? (i := 811) (by decide +kernel)⟩
theorem lw_p29 : lw_okq (⟨"NotEnded", "barredBy", "(LNotEnded$Rule;)I"⟩, 10) := ⟨⟨by decide +kernel, by decide +kernel⟩, List.mem_of_getElem? (i := 27) (by decide +kernel), List.mem_of_getElem? (i := 820) (by decide +kernel), List.mem_of_getElem? (i := 821) (by decide +kernel)⟩
theorem lw_p30 : lw_okq (⟨"NotEnded", "leastHelp", "(LNotEnded$Rule;JI)I"⟩, 10) := ⟨⟨by decide +kernel, by decide +kernel⟩, List.mem_of_getElem? (i := 27) (by decide +kernel), List.mem_of_getElem? (i := 855) (by decide +kernel), List.mem_of_getElem? (i := 856) (by decide +kernel)⟩
theorem lw_p31 : lw_okq (⟨"NotEnded", "givesUpBy", "(LNotEnded$Rule;JII)Z"⟩, 10) := ⟨⟨by decide +kernel, by decide +kernel⟩, List.mem_of_getElem? (i := 27) (by decide +kernel), List.mem_of_getElem? (i := 879) (by decide +kernel), List.mem_of_getElem? (i := 880) (by decide +kernel)⟩
def lw_privs_2 : List (MethodName × Nat) := [(⟨"NotEnded$Course", "setLettersOf", "(I)V"⟩, 19), (⟨"NotEnded$Reckoner", "reckon", "([III)I"⟩, 2), (⟨"NotEnded$Reckoner", "valueOf", "(I)I"⟩, 2), (⟨"NotEnded$Course", "holdMore", "()V"⟩, 19), (⟨"NotEnded$Course", "tell", "()V"⟩, 19), (⟨"NotEnded$Course", "tellThoseKnown", "(I)V"⟩, 19), (⟨"NotEnded$Course", "goHome", "()V"⟩, 19), (⟨"NotEnded$Course", "mayGo", "(I)Z"⟩, 19), (⟨"NotEnded", "heldAtEnd", "(LNotEnded$Rule;JII)I"⟩, 10), (⟨"NotEnded", "isNoted", "(LNotEnded$Rule;JI)Z"⟩, 10), (⟨"NotEnded$Notebook", "isSo", "(LNotEnded$Course;I)Z"⟩, 6), (⟨"NotEnded$Course", "addOneWhoMay", "(II)V"⟩, 19), (⟨"NotEnded", "isLet", "(LNotEnded$Rule;I)Z"⟩, 10), (⟨"NotEnded", "barredBy", "(LNotEnded$Rule;)I"⟩, 10), (⟨"NotEnded", "leastHelp", "(LNotEnded$Rule;JI)I"⟩, 10), (⟨"NotEnded", "givesUpBy", "(LNotEnded$Rule;JII)Z"⟩, 10)]
theorem lw_r2 : ∀ q ∈ lw_privs_2, lw_okq q := List.forall_mem_cons.mpr ⟨lw_p16, List.forall_mem_cons.mpr ⟨lw_p17, List.forall_mem_cons.mpr ⟨lw_p18, List.forall_mem_cons.mpr ⟨lw_p19, List.forall_mem_cons.mpr ⟨lw_p20, List.forall_mem_cons.mpr ⟨lw_p21, List.forall_mem_cons.mpr ⟨lw_p22, List.forall_mem_cons.mpr ⟨lw_p23, List.forall_mem_cons.mpr ⟨lw_p24, List.forall_mem_cons.mpr ⟨lw_p25, List.forall_mem_cons.mpr ⟨lw_p26, List.forall_mem_cons.mpr ⟨lw_p27, List.forall_mem_cons.mpr ⟨lw_p28, List.forall_mem_cons.mpr ⟨lw_p29, List.forall_mem_cons.mpr ⟨lw_p30, List.forall_mem_cons.mpr ⟨lw_p31, fun _ h => absurd h List.not_mem_nil⟩⟩⟩⟩⟩⟩⟩⟩⟩⟩⟩⟩⟩⟩⟩⟩
theorem lw_p32 : lw_okq (⟨"NotEnded", "holdersWithout", "(LNotEnded$Rule;JI)I"⟩, 10) := ⟨⟨by decide +kernel, by decide +kernel⟩, List.mem_of_getElem? (i := 27) (by decide +kernel), List.mem_of_getElem? (i := 900) (by decide +kernel), List.mem_of_getElem? (i := 901) (by decide +kernel)⟩
theorem lw_p33 : lw_okq (⟨"NotEnded", "lookersOfSize", "(LNotEnded$Rule;JII)I"⟩, 10) := ⟨⟨by decide +kernel, by decide +kernel⟩, List.mem_of_getElem? (i := 27) (by decide +kernel), List.mem_of_getElem? (i := 908) (by decide +kernel), List.mem_of_getElem? (i := 909) (by decide +kernel)⟩
theorem lw_p34 : lw_okq (⟨"java/lang/Throwable", "fillInStackTrace", "(I)Ljava/lang/Throwable;"⟩, 6) := ⟨⟨by decide +kernel, by decide +kernel⟩, List.mem_of_getElem? (i := 973) (by decide +kernel), List.mem_of_getElem? (i := 971) (by decide +kernel), List.mem_of_getElem? (i := 972) (by decide +kernel)⟩
theorem lw_p35 : lw_okq (⟨"NotEndedModel", "put", "(I)V"⟩, 52) := ⟨⟨by decide +kernel, by decide +kernel⟩, List.mem_of_getElem? (i := 1002) (by decide +kernel), List.mem_of_getElem? (i := 1179) (by decide +kernel), List.mem_of_getElem? (i := 1180) (by decide +kernel)⟩
theorem lw_p36 : lw_okq (⟨"NotEndedModel", "goThrough", "([BIIZI)V"⟩, 52) := ⟨⟨by decide +kernel, by decide +kernel⟩, List.mem_of_getElem? (i := 1002) (by decide +kernel), List.mem_of_getElem? (i := 1194) (by decide +kernel), List.mem_of_getElem? (i := 1195) (by decide +kernel)⟩
theorem lw_p37 : lw_okq (⟨"NotEndedModel", "clause", "()V"⟩, 52) := ⟨⟨by decide +kernel, by decide +kernel⟩, List.mem_of_getElem? (i := 1002) (by decide +kernel), List.mem_of_getElem? (i := 1200) (by decide +kernel), List.mem_of_getElem? (i := 1201) (by decide +kernel)⟩
theorem lw_p38 : lw_okq (⟨"NotEndedModel", "look", "()I"⟩, 52) := ⟨⟨by decide +kernel, by decide +kernel⟩, List.mem_of_getElem? (i := 1002) (by decide +kernel), List.mem_of_getElem? (i := 1204) (by decide +kernel), List.mem_of_getElem? (i := 1205) (by decide +kernel)⟩
theorem lw_p39 : lw_okq (⟨"NotEndedModel", "fails", "()Z"⟩, 52) := ⟨⟨by decide +kernel, by decide +kernel⟩, List.mem_of_getElem? (i := 1002) (by decide +kernel), List.mem_of_getElem? (i := 1232) (by decide +kernel), List.mem_of_getElem? (i := 1233) (by decide +kernel)⟩
theorem lw_p40 : lw_okq (⟨"NotEndedModel", "takes", "(I)Z"⟩, 52) := ⟨⟨by decide +kernel, by decide +kernel⟩, List.mem_of_getElem? (i := 1002) (by decide +kernel), List.mem_of_getElem? (i := 1236) (by decide +kernel), List.mem_of_getElem? (i := 1237) (by decide +kernel)⟩
theorem lw_p41 : lw_okq (⟨"NotEndedModel", "condition", "(ZI)Z"⟩, 52) := ⟨⟨by decide +kernel, by decide +kernel⟩, List.mem_of_getElem? (i := 1002) (by decide +kernel), List.mem_of_getElem? (i := 1240) (by decide +kernel), List.mem_of_getElem? (i := 1241) (by decide +kernel)⟩
theorem lw_p42 : lw_okq (⟨"NotEndedModel", "part", "(ZI)Z"⟩, 52) := ⟨⟨by decide +kernel, by decide +kernel⟩, List.mem_of_getElem? (i := 1002) (by decide +kernel), List.mem_of_getElem? (i := 1244) (by decide +kernel), List.mem_of_getElem? (i := 1245) (by decide +kernel)⟩
theorem lw_p43 : lw_okq (⟨"NotEndedModel", "compares", "(ZI)Z"⟩, 52) := ⟨⟨by decide +kernel, by decide +kernel⟩, List.mem_of_getElem? (i := 1002) (by decide +kernel), List.mem_of_getElem? (i := 1248) (by decide +kernel), List.mem_of_getElem? (i := 1249) (by decide +kernel)⟩
theorem lw_p44 : lw_okq (⟨"NotEndedModel", "sum", "()I"⟩, 52) := ⟨⟨by decide +kernel, by decide +kernel⟩, List.mem_of_getElem? (i := 1002) (by decide +kernel), List.mem_of_getElem? (i := 1252) (by decide +kernel), List.mem_of_getElem? (i := 1253) (by decide +kernel)⟩
theorem lw_p45 : lw_okq (⟨"NotEndedModel", "term", "()I"⟩, 52) := ⟨⟨by decide +kernel, by decide +kernel⟩, List.mem_of_getElem? (i := 1002) (by decide +kernel), List.mem_of_getElem? (i := 1256) (by decide +kernel), List.mem_of_getElem? (i := 1257) (by decide +kernel)⟩
theorem lw_p46 : lw_okq (⟨"NotEndedModel", "atom", "()I"⟩, 52) := ⟨⟨by decide +kernel, by decide +kernel⟩, List.mem_of_getElem? (i := 1002) (by decide +kernel), List.mem_of_getElem? (i := 1260) (by decide +kernel), List.mem_of_getElem? (i := 1261) (by decide +kernel)⟩
theorem lw_p47 : lw_okq (⟨"NotEndedModel", "goesIn", "()Z"⟩, 52) := ⟨⟨by decide +kernel, by decide +kernel⟩, List.mem_of_getElem? (i := 1002) (by decide +kernel), List.mem_of_getElem? (i := 1264) (by decide +kernel), List.mem_of_getElem? (i := 1265) (by decide +kernel)⟩
def lw_privs_3 : List (MethodName × Nat) := [(⟨"NotEnded", "holdersWithout", "(LNotEnded$Rule;JI)I"⟩, 10), (⟨"NotEnded", "lookersOfSize", "(LNotEnded$Rule;JII)I"⟩, 10), (⟨"java/lang/Throwable", "fillInStackTrace", "(I)Ljava/lang/Throwable;"⟩, 6), (⟨"NotEndedModel", "put", "(I)V"⟩, 52), (⟨"NotEndedModel", "goThrough", "([BIIZI)V"⟩, 52), (⟨"NotEndedModel", "clause", "()V"⟩, 52), (⟨"NotEndedModel", "look", "()I"⟩, 52), (⟨"NotEndedModel", "fails", "()Z"⟩, 52), (⟨"NotEndedModel", "takes", "(I)Z"⟩, 52), (⟨"NotEndedModel", "condition", "(ZI)Z"⟩, 52), (⟨"NotEndedModel", "part", "(ZI)Z"⟩, 52), (⟨"NotEndedModel", "compares", "(ZI)Z"⟩, 52), (⟨"NotEndedModel", "sum", "()I"⟩, 52), (⟨"NotEndedModel", "term", "()I"⟩, 52), (⟨"NotEndedModel", "atom", "()I"⟩, 52), (⟨"NotEndedModel", "goesIn", "()Z"⟩, 52)]
theorem lw_r3 : ∀ q ∈ lw_privs_3, lw_okq q := List.forall_mem_cons.mpr ⟨lw_p32, List.forall_mem_cons.mpr ⟨lw_p33, List.forall_mem_cons.mpr ⟨lw_p34, List.forall_mem_cons.mpr ⟨lw_p35, List.forall_mem_cons.mpr ⟨lw_p36, List.forall_mem_cons.mpr ⟨lw_p37, List.forall_mem_cons.mpr ⟨lw_p38, List.forall_mem_cons.mpr ⟨lw_p39, List.forall_mem_cons.mpr ⟨lw_p40, List.forall_mem_cons.mpr ⟨lw_p41, List.forall_mem_cons.mpr ⟨lw_p42, List.forall_mem_cons.mpr ⟨lw_p43, List.forall_mem_cons.mpr ⟨lw_p44, List.forall_mem_cons.mpr ⟨lw_p45, List.forall_mem_cons.mpr ⟨lw_p46, List.forall_mem_cons.mpr ⟨lw_p47, fun _ h => absurd h List.not_mem_nil⟩⟩⟩⟩⟩⟩⟩⟩⟩⟩⟩⟩⟩⟩⟩⟩
theorem lw_p48 : lw_okq (⟨"NotEndedModel", "isDigit", "()Z"⟩, 52) := ⟨⟨by decide +kernel, by decide +kernel⟩, List.mem_of_getElem? (i := 1002) (by decide +kernel), List.mem_of_getElem? (i := 1268) (by decide +kernel), List.mem_of_getElem? (i := 1269) (by decide +kernel)⟩
theorem lw_p49 : lw_okq (⟨"NotEndedModel", "unit", "()Z"⟩, 52) := ⟨⟨by decide +kernel, by decide +kernel⟩, List.mem_of_getElem? (i := 1002) (by decide +kernel), List.mem_of_getElem? (i := 1286) (by decide +kernel), List.mem_of_getElem? (i := 1287) (by decide +kernel)⟩
theorem lw_p50 : lw_okq (⟨"NotEndedModel", "isPerson", "(I)Z"⟩, 52) := ⟨⟨by decide +kernel, by decide +kernel⟩, List.mem_of_getElem? (i := 1002) (by decide +kernel), List.mem_of_getElem? (i := 1302) (by decide +kernel), List.mem_of_getElem? (i := 1303) (by decide +kernel)⟩
theorem lw_p51 : lw_okq (⟨"NotEndedModel", "isLaw", "(I)Z"⟩, 52) := ⟨⟨by decide +kernel, by decide +kernel⟩, List.mem_of_getElem? (i := 1002) (by decide +kernel), List.mem_of_getElem? (i := 1314) (by decide +kernel), List.mem_of_getElem? (i := 1315) (by decide +kernel)⟩
theorem lw_p52 : lw_okq (⟨"NotEndedModel", "everybody", "()I"⟩, 52) := ⟨⟨by decide +kernel, by decide +kernel⟩, List.mem_of_getElem? (i := 1002) (by decide +kernel), List.mem_of_getElem? (i := 1318) (by decide +kernel), List.mem_of_getElem? (i := 1319) (by decide +kernel)⟩
theorem lw_p53 : lw_okq (⟨"NotEndedModel", "begin", "(IJ)V"⟩, 52) := ⟨⟨by decide +kernel, by decide +kernel⟩, List.mem_of_getElem? (i := 1002) (by decide +kernel), List.mem_of_getElem? (i := 1322) (by decide +kernel), List.mem_of_getElem? (i := 1323) (by decide +kernel)⟩
theorem lw_p54 : lw_okq (⟨"NotEndedModel", "layLetters", "(I)V"⟩, 52) := ⟨⟨by decide +kernel, by decide +kernel⟩, List.mem_of_getElem? (i := 1002) (by decide +kernel), List.mem_of_getElem? (i := 1326) (by decide +kernel), List.mem_of_getElem? (i := 1327) (by decide +kernel)⟩
theorem lw_p55 : lw_okq (⟨"NotEndedModel", "worthOf", "(IZI)I"⟩, 52) := ⟨⟨by decide +kernel, by decide +kernel⟩, List.mem_of_getElem? (i := 1002) (by decide +kernel), List.mem_of_getElem? (i := 1334) (by decide +kernel), List.mem_of_getElem? (i := 1335) (by decide +kernel)⟩
theorem lw_p56 : lw_okq (⟨"NotEndedModel", "runOf", "(IJII)V"⟩, 52) := ⟨⟨by decide +kernel, by decide +kernel⟩, List.mem_of_getElem? (i := 1002) (by decide +kernel), List.mem_of_getElem? (i := 1342) (by decide +kernel), List.mem_of_getElem? (i := 1343) (by decide +kernel)⟩
theorem lw_p57 : lw_okq (⟨"NotEndedModel", "goOn", "(II)V"⟩, 52) := ⟨⟨by decide +kernel, by decide +kernel⟩, List.mem_of_getElem? (i := 1002) (by decide +kernel), List.mem_of_getElem? (i := 1346) (by decide +kernel), List.mem_of_getElem? (i := 1347) (by decide +kernel)⟩
theorem lw_p58 : lw_okq (⟨"NotEndedModel", "goesBy", "(I)V"⟩, 52) := ⟨⟨by decide +kernel, by decide +kernel⟩, List.mem_of_getElem? (i := 1002) (by decide +kernel), List.mem_of_getElem? (i := 1350) (by decide +kernel), List.mem_of_getElem? (i := 1351) (by decide +kernel)⟩
theorem lw_p59 : lw_okq (⟨"NotEndedModel", "isFree", "(I)Z"⟩, 52) := ⟨⟨by decide +kernel, by decide +kernel⟩, List.mem_of_getElem? (i := 1002) (by decide +kernel), List.mem_of_getElem? (i := 1354) (by decide +kernel), List.mem_of_getElem? (i := 1355) (by decide +kernel)⟩
theorem lw_p60 : lw_okq (⟨"NotEndedModel", "isChanced", "(I)Z"⟩, 52) := ⟨⟨by decide +kernel, by decide +kernel⟩, List.mem_of_getElem? (i := 1002) (by decide +kernel), List.mem_of_getElem? (i := 1362) (by decide +kernel), List.mem_of_getElem? (i := 1363) (by decide +kernel)⟩
theorem lw_p61 : lw_okq (⟨"NotEndedModel", "endOf", "(IJII)I"⟩, 52) := ⟨⟨by decide +kernel, by decide +kernel⟩, List.mem_of_getElem? (i := 1002) (by decide +kernel), List.mem_of_getElem? (i := 1377) (by decide +kernel), List.mem_of_getElem? (i := 1378) (by decide +kernel)⟩
theorem lw_p62 : lw_okq (⟨"NotEndedModel", "isAsked", "(II)Z"⟩, 52) := ⟨⟨by decide +kernel, by decide +kernel⟩, List.mem_of_getElem? (i := 1002) (by decide +kernel), List.mem_of_getElem? (i := 1385) (by decide +kernel), List.mem_of_getElem? (i := 1386) (by decide +kernel)⟩
theorem lw_p63 : lw_okq (⟨"NotEndedModel", "allSent", "()I"⟩, 52) := ⟨⟨by decide +kernel, by decide +kernel⟩, List.mem_of_getElem? (i := 1002) (by decide +kernel), List.mem_of_getElem? (i := 1389) (by decide +kernel), List.mem_of_getElem? (i := 1390) (by decide +kernel)⟩
def lw_privs_4 : List (MethodName × Nat) := [(⟨"NotEndedModel", "isDigit", "()Z"⟩, 52), (⟨"NotEndedModel", "unit", "()Z"⟩, 52), (⟨"NotEndedModel", "isPerson", "(I)Z"⟩, 52), (⟨"NotEndedModel", "isLaw", "(I)Z"⟩, 52), (⟨"NotEndedModel", "everybody", "()I"⟩, 52), (⟨"NotEndedModel", "begin", "(IJ)V"⟩, 52), (⟨"NotEndedModel", "layLetters", "(I)V"⟩, 52), (⟨"NotEndedModel", "worthOf", "(IZI)I"⟩, 52), (⟨"NotEndedModel", "runOf", "(IJII)V"⟩, 52), (⟨"NotEndedModel", "goOn", "(II)V"⟩, 52), (⟨"NotEndedModel", "goesBy", "(I)V"⟩, 52), (⟨"NotEndedModel", "isFree", "(I)Z"⟩, 52), (⟨"NotEndedModel", "isChanced", "(I)Z"⟩, 52), (⟨"NotEndedModel", "endOf", "(IJII)I"⟩, 52), (⟨"NotEndedModel", "isAsked", "(II)Z"⟩, 52), (⟨"NotEndedModel", "allSent", "()I"⟩, 52)]
theorem lw_r4 : ∀ q ∈ lw_privs_4, lw_okq q := List.forall_mem_cons.mpr ⟨lw_p48, List.forall_mem_cons.mpr ⟨lw_p49, List.forall_mem_cons.mpr ⟨lw_p50, List.forall_mem_cons.mpr ⟨lw_p51, List.forall_mem_cons.mpr ⟨lw_p52, List.forall_mem_cons.mpr ⟨lw_p53, List.forall_mem_cons.mpr ⟨lw_p54, List.forall_mem_cons.mpr ⟨lw_p55, List.forall_mem_cons.mpr ⟨lw_p56, List.forall_mem_cons.mpr ⟨lw_p57, List.forall_mem_cons.mpr ⟨lw_p58, List.forall_mem_cons.mpr ⟨lw_p59, List.forall_mem_cons.mpr ⟨lw_p60, List.forall_mem_cons.mpr ⟨lw_p61, List.forall_mem_cons.mpr ⟨lw_p62, List.forall_mem_cons.mpr ⟨lw_p63, fun _ h => absurd h List.not_mem_nil⟩⟩⟩⟩⟩⟩⟩⟩⟩⟩⟩⟩⟩⟩⟩⟩
theorem lw_p64 : lw_okq (⟨"NotEndedModel", "fitsAll", "(IJZ)Z"⟩, 52) := ⟨⟨by decide +kernel, by decide +kernel⟩, List.mem_of_getElem? (i := 1002) (by decide +kernel), List.mem_of_getElem? (i := 1405) (by decide +kernel), List.mem_of_getElem? (i := 1406) (by decide +kernel)⟩
theorem lw_p65 : lw_okq (⟨"NotEndedModel", "isAlone", "(I)Z"⟩, 52) := ⟨⟨by decide +kernel, by decide +kernel⟩, List.mem_of_getElem? (i := 1002) (by decide +kernel), List.mem_of_getElem? (i := 1409) (by decide +kernel), List.mem_of_getElem? (i := 1410) (by decide +kernel)⟩
theorem lw_p66 : lw_okq (⟨"NotEndedModel", "isSo", "(I)Z"⟩, 52) := ⟨⟨by decide +kernel, by decide +kernel⟩, List.mem_of_getElem? (i := 1002) (by decide +kernel), List.mem_of_getElem? (i := 1413) (by decide +kernel), List.mem_of_getElem? (i := 1414) (by decide +kernel)⟩
theorem lw_p67 : lw_okq (⟨"NotEndedModel", "isTurning", "(I)Z"⟩, 52) := ⟨⟨by decide +kernel, by decide +kernel⟩, List.mem_of_getElem? (i := 1002) (by decide +kernel), List.mem_of_getElem? (i := 1431) (by decide +kernel), List.mem_of_getElem? (i := 1432) (by decide +kernel)⟩
theorem lw_p68 : lw_okq (⟨"NotEndedModel", "isLet", "(II)Z"⟩, 52) := ⟨⟨by decide +kernel, by decide +kernel⟩, List.mem_of_getElem? (i := 1002) (by decide +kernel), List.mem_of_getElem? (i := 1438) (by decide +kernel), List.mem_of_getElem? (i := 1439) (by decide +kernel)⟩
theorem lw_p69 : lw_okq (⟨"NotEndedModel", "barred", "(I)J"⟩, 52) := ⟨⟨by decide +kernel, by decide +kernel⟩, List.mem_of_getElem? (i := 1002) (by decide +kernel), List.mem_of_getElem? (i := 1446) (by decide +kernel), List.mem_of_getElem? (i := 1447) (by decide +kernel)⟩
theorem lw_p70 : lw_okq (⟨"NotEndedModel", "isBefore", "(II)Z"⟩, 52) := ⟨⟨by decide +kernel, by decide +kernel⟩, List.mem_of_getElem? (i := 1002) (by decide +kernel), List.mem_of_getElem? (i := 1476) (by decide +kernel), List.mem_of_getElem? (i := 1477) (by decide +kernel)⟩
theorem lw_p71 : lw_okq (⟨"NotEndedModel", "costOf", "(I)I"⟩, 52) := ⟨⟨by decide +kernel, by decide +kernel⟩, List.mem_of_getElem? (i := 1002) (by decide +kernel), List.mem_of_getElem? (i := 1480) (by decide +kernel), List.mem_of_getElem? (i := 1481) (by decide +kernel)⟩
theorem lw_p72 : lw_okq (⟨"NotEndedModel", "helps", "(IJII)Z"⟩, 52) := ⟨⟨by decide +kernel, by decide +kernel⟩, List.mem_of_getElem? (i := 1002) (by decide +kernel), List.mem_of_getElem? (i := 1488) (by decide +kernel), List.mem_of_getElem? (i := 1489) (by decide +kernel)⟩
theorem lw_p73 : lw_okq (⟨"NotEndedModel", "holders", "(IJI)I"⟩, 52) := ⟨⟨by decide +kernel, by decide +kernel⟩, List.mem_of_getElem? (i := 1002) (by decide +kernel), List.mem_of_getElem? (i := 1496) (by decide +kernel), List.mem_of_getElem? (i := 1497) (by decide +kernel)⟩
def lw_privs_5 : List (MethodName × Nat) := [(⟨"NotEndedModel", "fitsAll", "(IJZ)Z"⟩, 52), (⟨"NotEndedModel", "isAlone", "(I)Z"⟩, 52), (⟨"NotEndedModel", "isSo", "(I)Z"⟩, 52), (⟨"NotEndedModel", "isTurning", "(I)Z"⟩, 52), (⟨"NotEndedModel", "isLet", "(II)Z"⟩, 52), (⟨"NotEndedModel", "barred", "(I)J"⟩, 52), (⟨"NotEndedModel", "isBefore", "(II)Z"⟩, 52), (⟨"NotEndedModel", "costOf", "(I)I"⟩, 52), (⟨"NotEndedModel", "helps", "(IJII)Z"⟩, 52), (⟨"NotEndedModel", "holders", "(IJI)I"⟩, 52)]
theorem lw_r5 : ∀ q ∈ lw_privs_5, lw_okq q := List.forall_mem_cons.mpr ⟨lw_p64, List.forall_mem_cons.mpr ⟨lw_p65, List.forall_mem_cons.mpr ⟨lw_p66, List.forall_mem_cons.mpr ⟨lw_p67, List.forall_mem_cons.mpr ⟨lw_p68, List.forall_mem_cons.mpr ⟨lw_p69, List.forall_mem_cons.mpr ⟨lw_p70, List.forall_mem_cons.mpr ⟨lw_p71, List.forall_mem_cons.mpr ⟨lw_p72, List.forall_mem_cons.mpr ⟨lw_p73, fun _ h => absurd h List.not_mem_nil⟩⟩⟩⟩⟩⟩⟩⟩⟩⟩
def lw_privs : List (MethodName × Nat) := lw_privs_1 ++ (lw_privs_2 ++ (lw_privs_3 ++ (lw_privs_4 ++ (lw_privs_5))))
def lw_tbl : List Cond := k2_sels lw_privs ++ tables_1
theorem lw_privs_ok : ∀ q ∈ lw_privs, lw_okq q := by
  show ∀ q ∈ lw_privs_1 ++ (lw_privs_2 ++ (lw_privs_3 ++ (lw_privs_4 ++ (lw_privs_5)))), lw_okq q
  exact List.forall_mem_append.mpr ⟨lw_r1, List.forall_mem_append.mpr ⟨lw_r2, List.forall_mem_append.mpr ⟨lw_r3, List.forall_mem_append.mpr ⟨lw_r4, lw_r5⟩⟩⟩⟩
end
section
def RX0 : String := "NotEnded$Acts"
def TX0 : u_T := fun k => match k with
  | 0 => ("NotEnded$Acts", "persons", "[I", true)
  | 1 => ("NotEnded$Acts", "kinds", "[I", true)
  | 2 => ("NotEnded$Acts", "things", "[I", true)
  | 3 => ("NotEnded$Acts", "costs", "[I", true)
  | _ => ("NotEnded$Acts", "size", "I", false)
abbrev wsX00 : List Cond := u_ws RX0 TX0 5
def RX1 : String := "NotEnded$Course"
def TX1 : u_T := fun k => match k with
  | 0 => ("NotEnded$Course", "folk", "LNotEnded$Folk;", true)
  | 1 => ("NotEnded$Course", "reckoner", "LNotEnded$Reckoner;", true)
  | 2 => ("NotEnded$Course", "held", "[I", true)
  | 3 => ("NotEnded$Course", "putIn", "[I", true)
  | 4 => ("NotEnded$Course", "places", "[I", true)
  | 5 => ("NotEnded$Course", "tellsSince", "[I", true)
  | 6 => ("NotEnded$Course", "holdsMore", "[I", true)
  | 7 => ("NotEnded$Course", "passesOn", "[I", true)
  | 8 => ("NotEnded$Course", "goes", "[I", true)
  | 9 => ("NotEnded$Course", "hears", "[I", true)
  | 10 => ("NotEnded$Course", "manyIn", "[I", true)
  | 11 => ("NotEnded$Course", "heldIn", "[I", true)
  | 12 => ("NotEnded$Course", "sentIn", "[I", true)
  | 13 => ("NotEnded$Course", "ways", "[J", true)
  | 14 => ("NotEnded$Course", "law", "LNotEnded$Rule;", false)
  | 15 => ("NotEnded$Course", "drawn", "J", false)
  | 16 => ("NotEnded$Course", "present", "I", false)
  | 17 => ("NotEnded$Course", "moved", "I", false)
  | _ => ("NotEnded$Course", "hour", "I", false)
abbrev wsX10 : List Cond := u_ws RX1 TX1 19
def RX2 : String := "NotEnded$Folk"
def TX2 : u_T := fun k => match k with
  | 0 => ("NotEnded$Folk", "holds", "[I", true)
  | 1 => ("NotEnded$Folk", "putIn", "[I", true)
  | 2 => ("NotEnded$Folk", "houses", "[I", true)
  | 3 => ("NotEnded$Folk", "knows", "[I", true)
  | 4 => ("NotEnded$Folk", "hours", "[I", true)
  | 5 => ("NotEnded$Folk", "sent", "I", false)
  | 6 => ("NotEnded$Folk", "size", "I", false)
  | _ => ("NotEnded$Folk", "words", "I", false)
abbrev wsX20 : List Cond := u_ws RX2 TX2 8
def RX3 : String := "NotEnded$Notebook"
def TX3 : u_T := fun k => match k with
  | 0 => ("NotEnded$Notebook", "persons", "[I", true)
  | 1 => ("NotEnded$Notebook", "hours", "[I", true)
  | 2 => ("NotEnded$Notebook", "kinds", "[I", true)
  | 3 => ("NotEnded$Notebook", "values", "[I", true)
  | 4 => ("NotEnded$Notebook", "offs", "[I", true)
  | _ => ("NotEnded$Notebook", "size", "I", false)
abbrev wsX30 : List Cond := u_ws RX3 TX3 6
def RX4 : String := "NotEnded$Reader"
def TX4 : u_T := fun k => match k with
  | 0 => ("NotEnded$Reader", "tape", "LNotEnded$Tape;", true)
  | 1 => ("NotEnded$Reader", "steps", "[I", true)
  | 2 => ("NotEnded$Reader", "clauses", "[I", true)
  | 3 => ("NotEnded$Reader", "written", "I", false)
  | 4 => ("NotEnded$Reader", "filled", "I", false)
  | 5 => ("NotEnded$Reader", "place", "I", false)
  | 6 => ("NotEnded$Reader", "labelSigns", "Ljava/lang/String;", false)
  | _ => ("NotEnded$Reader", "letterSigns", "Ljava/lang/String;", false)
abbrev wsX40 : List Cond := u_ws RX4 TX4 8
def RX5 : String := "NotEnded$Reckoner"
def TX5 : u_T := fun k => match k with
  | 0 => ("NotEnded$Reckoner", "letters", "[I", true)
  | _ => ("NotEnded$Reckoner", "open", "[I", true)
abbrev wsX50 : List Cond := u_ws RX5 TX5 2
def RX6 : String := "NotEnded$Rule"
def TX6 : u_T := fun k => match k with
  | 0 => ("NotEnded$Rule", "steps", "[I", true)
  | _ => ("NotEnded$Rule", "clauses", "[I", true)
abbrev wsX60 : List Cond := u_ws RX6 TX6 2
def RX7 : String := "NotEnded$Shelf"
def TX7 : u_T := fun k => match k with
  | 0 => ("NotEnded$Shelf", "rules", "[LNotEnded$Rule;", true)
  | _ => ("NotEnded$Shelf", "size", "I", false)
abbrev wsX70 : List Cond := u_ws RX7 TX7 2
def RX8 : String := "NotEnded$Tape"
def TX8 : u_T := fun k => match k with
  | 0 => ("NotEnded$Tape", "signs", "[C", true)
  | _ => ("NotEnded$Tape", "length", "I", false)
abbrev wsX80 : List Cond := u_ws RX8 TX8 2
def RX9 : String := "NotEnded"
def TX9 : u_T := fun k => match k with
  | 0 => ("NotEnded", "tape", "LNotEnded$Tape;", true)
  | 1 => ("NotEnded", "reader", "LNotEnded$Reader;", true)
  | 2 => ("NotEnded", "reckoner", "LNotEnded$Reckoner;", true)
  | 3 => ("NotEnded", "laws", "LNotEnded$Shelf;", true)
  | 4 => ("NotEnded", "turnings", "LNotEnded$Shelf;", true)
  | 5 => ("NotEnded", "folk", "LNotEnded$Folk;", true)
  | 6 => ("NotEnded", "course", "LNotEnded$Course;", true)
  | 7 => ("NotEnded", "notebook", "LNotEnded$Notebook;", true)
  | 8 => ("NotEnded", "acts", "LNotEnded$Acts;", true)
  | _ => ("NotEnded", "said", "[I", true)
abbrev wsX90 : List Cond := u_ws RX9 TX9 10
def RX10 : String := "NotEndedModel"
def TX10 : u_T := fun k => match k with
  | 0 => ("NotEndedModel", "thrown", "I", false)
  | 1 => ("NotEndedModel", "tape", "[B", true)
  | 2 => ("NotEndedModel", "texts", "[B", true)
  | 3 => ("NotEndedModel", "textLong", "[I", true)
  | 4 => ("NotEndedModel", "letters", "[I", true)
  | 5 => ("NotEndedModel", "text", "[B", false)
  | 6 => ("NotEndedModel", "length", "I", false)
  | 7 => ("NotEndedModel", "laws", "I", false)
  | 8 => ("NotEndedModel", "turnings", "I", false)
  | 9 => ("NotEndedModel", "begins", "I", false)
  | 10 => ("NotEndedModel", "ends", "I", false)
  | 11 => ("NotEndedModel", "at", "I", false)
  | 12 => ("NotEndedModel", "fault", "I", false)
  | 13 => ("NotEndedModel", "deep", "I", false)
  | 14 => ("NotEndedModel", "label", "I", false)
  | 15 => ("NotEndedModel", "found", "I", false)
  | 16 => ("NotEndedModel", "labels", "Ljava/lang/String;", false)
  | 17 => ("NotEndedModel", "allowed", "Ljava/lang/String;", false)
  | 18 => ("NotEndedModel", "hasFound", "Z", false)
  | 19 => ("NotEndedModel", "toldHolds", "[I", true)
  | 20 => ("NotEndedModel", "toldIn", "[I", true)
  | 21 => ("NotEndedModel", "toldHouse", "[I", true)
  | 22 => ("NotEndedModel", "knows", "[I", true)
  | 23 => ("NotEndedModel", "said", "[I", true)
  | 24 => ("NotEndedModel", "due", "[I", true)
  | 25 => ("NotEndedModel", "isSent", "[Z", true)
  | 26 => ("NotEndedModel", "persons", "I", false)
  | 27 => ("NotEndedModel", "words", "I", false)
  | 28 => ("NotEndedModel", "holds", "[I", true)
  | 29 => ("NotEndedModel", "putIn", "[I", true)
  | 30 => ("NotEndedModel", "house", "[I", true)
  | 31 => ("NotEndedModel", "since", "[I", true)
  | 32 => ("NotEndedModel", "more", "[I", true)
  | 33 => ("NotEndedModel", "goes", "[I", true)
  | 34 => ("NotEndedModel", "heard", "[I", true)
  | 35 => ("NotEndedModel", "tells", "[I", true)
  | 36 => ("NotEndedModel", "was", "[I", true)
  | 37 => ("NotEndedModel", "there", "I", false)
  | 38 => ("NotEndedModel", "hour", "I", false)
  | 39 => ("NotEndedModel", "x", "J", false)
  | 40 => ("NotEndedModel", "notePerson", "[I", true)
  | 41 => ("NotEndedModel", "noteHour", "[I", true)
  | 42 => ("NotEndedModel", "noteKind", "[I", true)
  | 43 => ("NotEndedModel", "noteValue", "[I", true)
  | 44 => ("NotEndedModel", "noteOff", "[I", true)
  | 45 => ("NotEndedModel", "notes", "I", false)
  | 46 => ("NotEndedModel", "ways", "[J", true)
  | 47 => ("NotEndedModel", "actOf", "[I", true)
  | 48 => ("NotEndedModel", "actKind", "[I", true)
  | 49 => ("NotEndedModel", "actX", "[I", true)
  | 50 => ("NotEndedModel", "actCost", "[I", true)
  | _ => ("NotEndedModel", "acts", "I", false)
def tyX10 : Nat → FieldType := fun k => match k with
  | 0 => .int
  | 1 => .array .byte
  | 2 => .array .byte
  | 3 => .array .int
  | 4 => .array .int
  | 5 => .array .byte
  | 6 => .int
  | 7 => .int
  | 8 => .int
  | 9 => .int
  | 10 => .int
  | 11 => .int
  | 12 => .int
  | 13 => .int
  | 14 => .int
  | 15 => .int
  | 16 => .object "java/lang/String"
  | 17 => .object "java/lang/String"
  | 18 => .boolean
  | 19 => .array .int
  | 20 => .array .int
  | 21 => .array .int
  | 22 => .array .int
  | 23 => .array .int
  | 24 => .array .int
  | 25 => .array .boolean
  | 26 => .int
  | 27 => .int
  | 28 => .array .int
  | 29 => .array .int
  | 30 => .array .int
  | 31 => .array .int
  | 32 => .array .int
  | 33 => .array .int
  | 34 => .array .int
  | 35 => .array .int
  | 36 => .array .int
  | 37 => .int
  | 38 => .int
  | 39 => .long
  | 40 => .array .int
  | 41 => .array .int
  | 42 => .array .int
  | 43 => .array .int
  | 44 => .array .int
  | 45 => .int
  | 46 => .array .long
  | 47 => .array .int
  | 48 => .array .int
  | 49 => .array .int
  | 50 => .array .int
  | _ => .int
abbrev wsX100 : List Cond := u_ws RX10 TX10 52
theorem nmX10 : ∀ a, a < 52 → ∀ b, b < 52 → a ≠ b → (TX10 a).2.1 ≠ (TX10 b).2.1 := by decide +kernel
theorem tyX10_ok : ∀ k, k < 52 → parseFieldDescriptor (TX10 k).2.2.1 = some (tyX10 k) := by decide +kernel
def RJ6 : String := "java/lang/Integer"
def RJ9 : String := "java/lang/Math"
def RJ0 : String := "java/lang/String"
def RJ1 : String := "java/lang/StringLatin1"
def RJ3 : String := "jdk/internal/util/Preconditions"
def yX0_init : MethodName := ⟨RX0, "<init>", "()V"⟩
def yX2_init : MethodName := ⟨RX2, "<init>", "()V"⟩
def yX3_init : MethodName := ⟨RX3, "<init>", "()V"⟩
def yX5_init : MethodName := ⟨RX5, "<init>", "()V"⟩
def yX8_init : MethodName := ⟨RX8, "<init>", "()V"⟩
def yX9_isHouse : MethodName := ⟨RX9, "isHouse", "(I)Z"⟩
def yX9_isBit : MethodName := ⟨RX9, "isBit", "(II)Z"⟩
def yX9_within : MethodName := ⟨RX9, "within", "(III)I"⟩
def yX9_isLowerFirst : MethodName := ⟨RX9, "isLowerFirst", "(II)Z"⟩
abbrev cX10_thrown : ByteArray := prog_12_method_2_code
def yX10_thrown : MethodName := ⟨RX10, "thrown", "()I"⟩
abbrev cX10_isIn : ByteArray := prog_12_method_3_code
def yX10_isIn : MethodName := ⟨RX10, "isIn", "(III)Z"⟩
abbrev cX10_isAmong : ByteArray := prog_12_method_4_code
def yX10_isAmong : MethodName := ⟨RX10, "isAmong", "(Ljava/lang/String;I)Z"⟩
abbrev cX10_look : ByteArray := prog_12_method_9_code
def yX10_look : MethodName := ⟨RX10, "look", "()I"⟩
abbrev cX10_fails : ByteArray := prog_12_method_10_code
def yX10_fails : MethodName := ⟨RX10, "fails", "()Z"⟩
abbrev cX10_goesIn : ByteArray := prog_12_method_11_code
def yX10_goesIn : MethodName := ⟨RX10, "goesIn", "()Z"⟩
abbrev cX10_takes : ByteArray := prog_12_method_12_code
def yX10_takes : MethodName := ⟨RX10, "takes", "(I)Z"⟩
abbrev cX10_isDigit : ByteArray := prog_12_method_13_code
def yX10_isDigit : MethodName := ⟨RX10, "isDigit", "()Z"⟩
abbrev cX10_within : ByteArray := prog_12_method_14_code
def yX10_within : MethodName := ⟨RX10, "within", "(J)I"⟩
abbrev cX10_atom : ByteArray := prog_12_method_15_code
def yX10_atom : MethodName := ⟨RX10, "atom", "()I"⟩
abbrev cX10_term : ByteArray := prog_12_method_16_code
def yX10_term : MethodName := ⟨RX10, "term", "()I"⟩
abbrev cX10_sum : ByteArray := prog_12_method_17_code
def yX10_sum : MethodName := ⟨RX10, "sum", "()I"⟩
abbrev cX10_isSign : ByteArray := prog_12_method_18_code
def yX10_isSign : MethodName := ⟨RX10, "isSign", "(I)Z"⟩
abbrev cX10_compares : ByteArray := prog_12_method_19_code
def yX10_compares : MethodName := ⟨RX10, "compares", "(ZI)Z"⟩
abbrev cX10_unit : ByteArray := prog_12_method_20_code
def yX10_unit : MethodName := ⟨RX10, "unit", "()Z"⟩
abbrev cX10_part : ByteArray := prog_12_method_21_code
def yX10_part : MethodName := ⟨RX10, "part", "(ZI)Z"⟩
abbrev cX10_condition : ByteArray := prog_12_method_22_code
def yX10_condition : MethodName := ⟨RX10, "condition", "(ZI)Z"⟩
abbrev cX10_clause : ByteArray := prog_12_method_23_code
def yX10_clause : MethodName := ⟨RX10, "clause", "()V"⟩
abbrev cX10_goThrough : ByteArray := prog_12_method_24_code
def yX10_goThrough : MethodName := ⟨RX10, "goThrough", "([BIIZI)V"⟩
abbrev cX10_isLaw : ByteArray := prog_12_method_27_code
def yX10_isLaw : MethodName := ⟨RX10, "isLaw", "(I)Z"⟩
abbrev cX10_worthOf : ByteArray := prog_12_method_29_code
def yX10_worthOf : MethodName := ⟨RX10, "worthOf", "(IZI)I"⟩
abbrev cX10_isPerson : ByteArray := prog_12_method_30_code
def yX10_isPerson : MethodName := ⟨RX10, "isPerson", "(I)Z"⟩
abbrev cX10_has : ByteArray := prog_12_method_34_code
def yX10_has : MethodName := ⟨RX10, "has", "(II)Z"⟩
abbrev cX10_everybody : ByteArray := prog_12_method_35_code
def yX10_everybody : MethodName := ⟨RX10, "everybody", "()I"⟩
abbrev cX10_allSent : ByteArray := prog_12_method_36_code
def yX10_allSent : MethodName := ⟨RX10, "allSent", "()I"⟩
abbrev cX10_begin : ByteArray := prog_12_method_37_code
def yX10_begin : MethodName := ⟨RX10, "begin", "(IJ)V"⟩
abbrev cX10_layLetters : ByteArray := prog_12_method_38_code
def yX10_layLetters : MethodName := ⟨RX10, "layLetters", "(I)V"⟩
abbrev cX10_isFree : ByteArray := prog_12_method_39_code
def yX10_isFree : MethodName := ⟨RX10, "isFree", "(I)Z"⟩
abbrev cX10_held : ByteArray := prog_12_method_40_code
def yX10_held : MethodName := ⟨RX10, "held", "(I)I"⟩
abbrev cX10_isChanced : ByteArray := prog_12_method_41_code
def yX10_isChanced : MethodName := ⟨RX10, "isChanced", "(I)Z"⟩
abbrev cX10_goesBy : ByteArray := prog_12_method_42_code
def yX10_goesBy : MethodName := ⟨RX10, "goesBy", "(I)V"⟩
abbrev cX10_goOn : ByteArray := prog_12_method_43_code
def yX10_goOn : MethodName := ⟨RX10, "goOn", "(II)V"⟩
abbrev cX10_runOf : ByteArray := prog_12_method_44_code
def yX10_runOf : MethodName := ⟨RX10, "runOf", "(IJII)V"⟩
abbrev cX10_worth : ByteArray := prog_12_method_45_code
def yX10_worth : MethodName := ⟨RX10, "worth", "(III)I"⟩
abbrev cX10_isAlone : ByteArray := prog_12_method_54_code
def yX10_isAlone : MethodName := ⟨RX10, "isAlone", "(I)Z"⟩
abbrev cX10_isSo : ByteArray := prog_12_method_55_code
def yX10_isSo : MethodName := ⟨RX10, "isSo", "(I)Z"⟩
abbrev cX10_fitsAll : ByteArray := prog_12_method_56_code
def yX10_fitsAll : MethodName := ⟨RX10, "fitsAll", "(IJZ)Z"⟩
abbrev cX10_fits : ByteArray := prog_12_method_57_code
def yX10_fits : MethodName := ⟨RX10, "fits", "(JZ)I"⟩
abbrev cX10_odds : ByteArray := prog_12_method_59_code
def yX10_odds : MethodName := ⟨RX10, "odds", "(IJII)J"⟩
abbrev cX10_isLower : ByteArray := prog_12_method_71_code
def yX10_isLower : MethodName := ⟨RX10, "isLower", "(II)Z"⟩
abbrev cX10_holders : ByteArray := prog_12_method_74_code
def yX10_holders : MethodName := ⟨RX10, "holders", "(IJI)I"⟩
abbrev cX10_lookers : ByteArray := prog_12_method_75_code
def yX10_lookers : MethodName := ⟨RX10, "lookers", "(IJ)I"⟩
abbrev cJ6_bitCount_0f7a4 : ByteArray := prog_19_method_49_code
def yJ6_bitCount_0f7a4 : MethodName := ⟨RJ6, "bitCount", "(I)I"⟩
abbrev cJ0_length_8abf5 : ByteArray := prog_23_method_54_code
def yJ0_length_8abf5 : MethodName := ⟨RJ0, "length", "()I"⟩
abbrev cJ0_charAt_5068e : ByteArray := prog_23_method_56_code
def yJ0_charAt_5068e : MethodName := ⟨RJ0, "charAt", "(I)C"⟩
abbrev cJ0_coder_7d493 : ByteArray := prog_23_method_152_code
def yJ0_coder_7d493 : MethodName := ⟨RJ0, "coder", "()B"⟩
abbrev cJ0_isLatin1_aae02 : ByteArray := prog_23_method_154_code
def yJ0_isLatin1_aae02 : MethodName := ⟨RJ0, "isLatin1", "()Z"⟩
abbrev cJ0_checkIndex_df160 : ByteArray := prog_23_method_155_code
def yJ0_checkIndex_df160 : MethodName := ⟨RJ0, "checkIndex", "(II)V"⟩
abbrev cJ1_charAt_3b067 : ByteArray := prog_24_method_2_code
def yJ1_charAt_3b067 : MethodName := ⟨RJ1, "charAt", "([BI)C"⟩
abbrev cJ3_checkIndex_8e157 : ByteArray := prog_32_method_11_code
def yJ3_checkIndex_8e157 : MethodName := ⟨RJ3, "checkIndex", "(IILjava/util/function/BiFunction;)I"⟩
end
section
/-! Our own small kit: contracts' starts and ends in two forms. kR: nothing is written; kW: cells change or come. -/
theorem goodIn_sub {big ws : List Cond} (hm : ∀ w ∈ ws, w ∈ big) (h : ws.all goodWord = true) : GoodIn big ws := fun w hw => ⟨hm w hw, good_of_word (List.all_eq_true.mp h w hw)⟩
theorem kG {big a b : List Cond} (ha : ∀ w ∈ a, w ∈ big) (hga : a.all goodWord = true) (hb : ∀ w ∈ b, w ∈ big) (hgb : b.all goodWord = true) : GoodIn big (a ++ b) := fun w h => (List.mem_append.mp h).elim (goodIn_sub ha hga w) (goodIn_sub hb hgb w)
abbrev vwCl : List vw_C := [(RX0, TX0, 5), (RX1, TX1, 19), (RX2, TX2, 8), (RX3, TX3, 6), (RX4, TX4, 8), (RX5, TX5, 2), (RX6, TX6, 2), (RX7, TX7, 2), (RX8, TX8, 2), (RX9, TX9, 10), (RX10, TX10, 52)]
def kT : State → Prop := fun _ => True
theorem kT_blind : ∀ (U : State) (g : JFrame) (mk : MethodId) (a : Array Value), kT U → kT (U.calling g mk a) := fun _ _ _ _ _ => trivial
theorem kT_give {s : State} {H : Heap} : ∀ U : State, U.heap = H → s.WarmedH U.vm → kT U := fun _ _ _ => trivial
def kR (dC : Nat → ClassId) (dI : Nat → Nat → Nat) (av : List Value) (W : va_W) (T : List (ClassId × FieldType)) (X : State → Prop) : Array Value → State → Prop := fun v U => v = av.toArray ∧ va_P (dC, dI) vwCl W U.heap ∧ va_K (dC, dI) vwCl T U ∧ X U
def kW (dC : Nat → ClassId) (dI : Nat → Nat → Nat) (av : List Value) (W : va_W) (T : List (ClassId × FieldType)) (X : State → Prop) (sz : Nat) : Array Value → State → Prop := fun v U => v = av.toArray ∧ U.heap.size = sz ∧ va_P (dC, dI) vwCl W U.heap ∧ va_K (dC, dI) vwCl T U ∧ va_D (fun _ => True) W ∧ X U
def kB (dC : Nat → ClassId) (dI : Nat → Nat → Nat) (W : va_W) (T : List (ClassId × FieldType)) (A : Nat → Prop) (t : State) : Prop := va_P (dC, dI) vwCl W t.heap ∧ va_K (dC, dI) vwCl T t ∧ va_D A W
theorem kR_blind {dC : Nat → ClassId} {dI : Nat → Nat → Nat} {av : List Value} {W : va_W} {T : List (ClassId × FieldType)} {X : State → Prop} (hX : ∀ (U : State) (g : JFrame) (mk : MethodId) (a : Array Value), X U → X (U.calling g mk a)) : FrameBlind (kR dC dI av W T X) := fun a U g mk q => by
  obtain ⟨q0, qP, qK, qX⟩ := q
  exact ⟨q0, qP, va_K.moved (u := U) (U := U.calling g mk a) (Vm.Alike.refl U.vm) qK, hX _ _ _ _ qX⟩
theorem kW_blind {dC : Nat → ClassId} {dI : Nat → Nat → Nat} {av : List Value} {W : va_W} {T : List (ClassId × FieldType)} {X : State → Prop} {sz : Nat} (hX : ∀ (U : State) (g : JFrame) (mk : MethodId) (a : Array Value), X U → X (U.calling g mk a)) : FrameBlind (kW dC dI av W T X sz) := fun a U g mk q => by
  obtain ⟨q0, q1, qP, qK, qD, qX⟩ := q
  exact ⟨q0, q1, qP, va_K.moved (u := U) (U := U.calling g mk a) (Vm.Alike.refl U.vm) qK, qD, hX _ _ _ _ qX⟩
section KPre
variable {s : State} {H : Heap} {dC : Nat → ClassId} {dI : Nat → Nat → Nat} {av : List Value} {W : va_W} {T : List (ClassId × FieldType)} {X : State → Prop} {A : Nat → Prop} {C : String} {b : Addr}
theorem kR_S (hb : ∀ (U : State) (g : JFrame) (mk : MethodId) (a : Array Value), X U → X (U.calling g mk a)) (hX : ∀ U : State, U.heap = H → s.WarmedH U.vm → X U) (hP : va_P (dC, dI) vwCl W H) (hK : va_K (dC, dI) vwCl T s) : PreS s H (kR dC dI av W T X) av :=
  ⟨kR_blind hb, fun U hU hW => ⟨rfl, by rw [hU]; exact hP, va_K.moved hW.alike hK, hX U hU hW⟩⟩
theorem kR_V (hb : ∀ (U : State) (g : JFrame) (mk : MethodId) (a : Array Value), X U → X (U.calling g mk a)) (hX : ∀ U : State, U.heap = H → s.WarmedH U.vm → X U) (hc : ∃ cellB : Cell, H[b]? = some cellB ∧ cellB.vm.isStatics = false ∧ s.vm.findClass C = some cellB.cls) (hP : va_P (dC, dI) vwCl W H) (hK : va_K (dC, dI) vwCl T s) : PreV s H C b (kR dC dI (.ref b :: av) W T X) av :=
  ⟨kR_blind hb, hc, fun U hU hW => ⟨rfl, by rw [hU]; exact hP, va_K.moved hW.alike hK, hX U hU hW⟩⟩
theorem kW_S (hb : ∀ (U : State) (g : JFrame) (mk : MethodId) (a : Array Value), X U → X (U.calling g mk a)) (hX : ∀ U : State, U.heap = H → s.WarmedH U.vm → X U) (hP : va_P (dC, dI) vwCl W H) (hK : va_K (dC, dI) vwCl T s) (hD : va_D A W) : PreS s H (kW dC dI av W T X H.size) av :=
  ⟨kW_blind hb, fun U hU hW => ⟨rfl, by rw [hU], by rw [hU]; exact hP, va_K.moved hW.alike hK, hD.weaken (fun _ _ _ _ => trivial), hX U hU hW⟩⟩
theorem kW_V (hb : ∀ (U : State) (g : JFrame) (mk : MethodId) (a : Array Value), X U → X (U.calling g mk a)) (hX : ∀ U : State, U.heap = H → s.WarmedH U.vm → X U) (hc : ∃ cellB : Cell, H[b]? = some cellB ∧ cellB.vm.isStatics = false ∧ s.vm.findClass C = some cellB.cls) (hP : va_P (dC, dI) vwCl W H) (hK : va_K (dC, dI) vwCl T s) (hD : va_D A W) : PreV s H C b (kW dC dI (.ref b :: av) W T X H.size) av :=
  ⟨kW_blind hb, hc, fun U hU hW => ⟨rfl, by rw [hU], by rw [hU]; exact hP, va_K.moved hW.alike hK, hD.weaken (fun _ _ _ _ => trivial), hX U hU hW⟩⟩
end KPre
/-- a number within two bounds -/
def kIn (v lo hi : Int32) : Int32 := if v < lo then 0 else if hi < v then 0 else 1
theorem kTo (x : List (Nat × Value)) : x = x := rfl
theorem va_P.sb {D : va_G} {cl : List vw_C} {ws ws2 : va_W} {H : Heap} (h : va_P D cl ws H) (is : List Nat) (hs : is.filterMap (fun i => ws[i]?) = ws2) : va_P D cl ws2 H := h.sub is hs
theorem va_D.sb {A : Nat → Prop} {ws ws2 : va_W} (hD : va_D A ws) (is : List Nat) (hn : va_nd is = true) (hs : is.map (fun i => ws[i]?) = ws2.map some) : va_D A ws2 := hD.sub is hn hs
theorem va_K.sb {D : va_G} {cl : List vw_C} {tys tys2 : List (ClassId × FieldType)} {U : State} (h : va_K D cl tys U) (is : List Nat) (hs : is.filterMap (fun i => tys[i]?) = tys2) : va_K D cl tys2 U := h.sub is hs
theorem kGc {c : Cond} {ws : List Cond} (h : goodWord c = true) (g : ws.all goodWord = true) : (c :: ws).all goodWord = true := by rw [List.all_cons, h, g]; rfl
theorem kGa {a b : List Cond} (h : a.all goodWord = true) (g : b.all goodWord = true) : (a ++ b).all goodWord = true := by rw [List.all_append, h, g]; rfl
theorem kGn : ([] : List Cond).all goodWord = true := rfl
theorem kGV (o : String) (i : Nat) (C : String) (y : MethodName) : ([.methodLink o i y, .instanceMethod y, .selects C y y, .initialized C] : List Cond).all goodWord = true := rfl
theorem kGS (o : String) (i : Nat) (y : MethodName) : ([.methodLink o i y, .static y, .initialized y.cls] : List Cond).all goodWord = true := rfl
theorem gw_wsX00 : (wsX00).all goodWord = true := by decide +kernel
theorem gw_wsX10 : (wsX10).all goodWord = true := by decide +kernel
theorem gw_wsX20 : (wsX20).all goodWord = true := by decide +kernel
theorem gw_wsX30 : (wsX30).all goodWord = true := by decide +kernel
theorem gw_wsX40 : (wsX40).all goodWord = true := by decide +kernel
theorem gw_wsX50 : (wsX50).all goodWord = true := by decide +kernel
theorem gw_wsX60 : (wsX60).all goodWord = true := by decide +kernel
theorem gw_wsX70 : (wsX70).all goodWord = true := by decide +kernel
theorem gw_wsX80 : (wsX80).all goodWord = true := by decide +kernel
theorem gw_wsX90 : (wsX90).all goodWord = true := by decide +kernel
theorem gw_wsX100 : (wsX100).all goodWord = true := by decide +kernel
theorem kQ {p : Program} {l : Launch} {e : Env} {R : Room} {s : State} {m : MethodId} {args : Array Value} {below : List Frame} {meth : Method} {c : Code} {H : Heap} {locs : List Loc} {cells slots : Nat} {Q : State → Prop} {g : JFrame} (h : ∀ Q2 : State → Prop, Q2 = Q → W p l e R s m args below meth c H locs cells slots Q2 g) : W p l e R s m args below meth c H locs cells slots Q g := h Q rfl
abbrev kPD (dC : Nat → ClassId) (dI : Nat → Nat → Nat) (A : Nat → Prop) (W : va_W) (H : Heap) : Prop := va_P (dC, dI) vwCl W H ∧ va_D A W
theorem kCut {A : Nat → Prop} {D : va_G} {cl : List vw_C} {ws wc : va_W} {H0 H : Heap} {locs : List Loc} (hP : va_P D cl ws H) (hD : va_D A ws) (hS : va_S A H0 H locs) (hA : ∀ q, H0.size ≤ q → A q) (is : List Nat) (h1 : is.filterMap (fun i => ws[i]?) = wc) (hn : va_nd is = true) (h2 : is.map (fun i => ws[i]?) = wc.map some) : va_P D cl wc H ∧ va_D A wc ∧ ∀ q, va_A wc H.size q → A q := ⟨hP.sub is h1, hD.sub is hn h2, va_free hD hS hA is h2⟩
theorem kJoin {A : Nat → Prop} {D : va_G} {cl : List vw_C} {ws wc w1 w2 : va_W} {H H1 : Heap} (hP : va_P D cl ws H) (hD : va_D A ws) (isC isR : List Nat) (hC : isC.map (fun i => ws[i]?) = wc.map some) (hR : isR.map (fun i => ws[i]?) = (isR.filterMap (fun i => ws[i]?)).map some) (hn : va_nd isR = true) (hdis : ∀ i ∈ isR, i ∉ isC) (hk : ∀ q : Nat, q < H.size → ¬ va_A wc H.size q → H1[q]? = H[q]?) (hF : ∀ q, va_A wc H.size q → A q) (hP1 : va_P D cl w1 H1) (hD1 : va_D (va_A wc H.size) w1) (h2 : isR.filterMap (fun i => ws[i]?) ++ w1 = w2) : va_P D cl w2 H1 ∧ va_D A w2 := h2 ▸ va_join hP hD isC isR hC hR hn hdis hk hF hP1 hD1
def kNi (k : Nat) : List Nat → Bool
  | [] => true
  | i :: is => !(Nat.beq i k) && kNi k is
def kCk (isC : List Nat) : Nat → List (Option Nat) → Bool
  | _, [] => true
  | k, some j :: cs => (match isC[j]? with | some i => Nat.beq i k | none => false) && kCk isC (k + 1) cs
  | k, none :: cs => kNi k isC && kCk isC (k + 1) cs
def kMg (w1 : va_W) : va_W → List (Option Nat) → List (Option (Nat × va_E))
  | _ :: ws, some j :: cs => w1[j]? :: kMg w1 ws cs
  | z :: ws, none :: cs => some z :: kMg w1 ws cs
  | _, _ => []
theorem kNi_n {k : Nat} : ∀ {is : List Nat}, kNi k is = true → ¬ k ∈ is := by
  intro is
  induction is with
  | nil => intro _; exact List.not_mem_nil
  | cons i is ih =>
    intro h z
    unfold kNi at h
    rw [Bool.and_eq_true, Bool.not_eq_true'] at h
    rcases List.mem_cons.mp z with e | e
    · subst e; rw [Nat.beq_refl] at h; exact absurd h.1 (by decide)
    · exact ih h.2 e
theorem kMg_s {isC : List Nat} {w1 : va_W} : ∀ (cs : List (Option Nat)) (ws w2 : va_W) (k0 : Nat), kCk isC k0 cs = true → kMg w1 ws cs = w2.map some → ∀ (k : Nat) (q : Nat × va_E), w2[k]? = some q → (∃ m : Nat, isC[m]? = some (k0 + k) ∧ w1[m]? = some q) ∨ (ws[k]? = some q ∧ ¬ (k0 + k) ∈ isC) := by
  intro cs
  induction cs with
  | nil =>
    intro ws w2 k0 _ h2 k q hq
    cases w2 with
    | nil => simp at hq
    | cons z w2 => cases ws <;> simp [kMg] at h2
  | cons c cs ih =>
    intro ws w2 k0 h1 h2 k q hq
    cases w2 with
    | nil => simp at hq
    | cons z w2 =>
      cases ws with
      | nil => simp [kMg] at h2
      | cons y ws =>
        cases c with
        | some j =>
          unfold kCk at h1
          unfold kMg at h2
          rw [Bool.and_eq_true] at h1
          rw [List.map_cons] at h2
          obtain ⟨h3, h4⟩ := List.cons.inj h2
          cases k with
          | zero =>
            left
            refine ⟨j, ?_, ?_⟩
            · have h5 := h1.1
              cases hj : isC[j]? with
              | none => rw [hj] at h5; exact Bool.noConfusion h5
              | some i => rw [hj] at h5; rw [Nat.eq_of_beq_eq_true h5]; rfl
            · rw [h3]; exact hq
          | succ k =>
            rcases ih ws w2 (k0 + 1) h1.2 h4 k q hq with ⟨m, h5, h6⟩ | ⟨h5, h6⟩
            · exact Or.inl ⟨m, by rw [h5]; congr 1; omega, h6⟩
            · exact Or.inr ⟨h5, by rw [show k0 + (k + 1) = k0 + 1 + k by omega]; exact h6⟩
        | none =>
          unfold kCk at h1
          unfold kMg at h2
          rw [Bool.and_eq_true] at h1
          rw [List.map_cons] at h2
          obtain ⟨h3, h4⟩ := List.cons.inj h2
          cases k with
          | zero => exact Or.inr ⟨by rw [← hq]; show some y = some z; exact h3, kNi_n h1.1⟩
          | succ k =>
            rcases ih ws w2 (k0 + 1) h1.2 h4 k q hq with ⟨m, h5, h6⟩ | ⟨h5, h6⟩
            · exact Or.inl ⟨m, by rw [h5]; congr 1; omega, h6⟩
            · exact Or.inr ⟨h5, by rw [show k0 + (k + 1) = k0 + 1 + k by omega]; exact h6⟩
theorem kMapS {α β : Type} {is : List α} {f : α → Option β} {w : List β} (h : is.map f = w.map some) {m : Nat} {c : β} (hc : w[m]? = some c) : ∃ i, is[m]? = some i ∧ f i = some c := by
  have h1 : (is.map f)[m]? = some (some c) := by rw [h, List.getElem?_map, hc]; rfl
  rw [List.getElem?_map] at h1
  cases hi : is[m]? with
  | none => rw [hi] at h1; cases h1
  | some i => rw [hi] at h1; exact ⟨i, rfl, Option.some.inj h1⟩
theorem kMapR {α β : Type} {is : List α} {f : α → Option β} {w : List β} (h : is.map f = w.map some) {m : Nat} {i : α} (hi : is[m]? = some i) : ∃ c, w[m]? = some c ∧ f i = some c := by
  have h1 : (w.map some)[m]? = some (f i) := by rw [← h, List.getElem?_map, hi]; rfl
  rw [List.getElem?_map] at h1
  cases hc : w[m]? with
  | none => rw [hc] at h1; cases h1
  | some c => rw [hc] at h1; exact ⟨c, rfl, (Option.some.inj h1).symm⟩
theorem kJoinI {A : Nat → Prop} {D : va_G} {cl : List vw_C} {ws wc w1 w2 : va_W} {H H1 : Heap} (hP : va_P D cl ws H) (hD : va_D A ws) (isC : List Nat) (hC : isC.map (fun i => ws[i]?) = wc.map some) (hk : ∀ q : Nat, q < H.size → ¬ va_A wc H.size q → H1[q]? = H[q]?) (_hF : ∀ q, va_A wc H.size q → A q) (hP1 : va_P D cl w1 H1) (_hD1 : va_D (va_A wc H.size) w1) (ha : w1.map (fun z => z.1) = wc.map (fun z => z.1)) (cs : List (Option Nat)) (hc : kCk isC 0 cs = true) (h2 : kMg w1 ws cs = w2.map some) : va_P D cl w2 H1 ∧ va_D A w2 := by
  have hs := kMg_s cs ws w2 0 hc h2
  simp only [Nat.zero_add] at hs
  have adr : ∀ (k : Nat) (q : Nat × va_E), w2[k]? = some q → ∃ q0 : Nat × va_E, ws[k]? = some q0 ∧ q0.1 = q.1 := by
    intro k q hq
    rcases hs k q hq with ⟨m, h3, h4⟩ | ⟨h3, -⟩
    · obtain ⟨c, h5, h6⟩ := kMapR hC h3
      refine ⟨c, h6, ?_⟩
      have h7 : (w1.map (fun z => z.1))[m]? = some q.1 := by rw [List.getElem?_map, h4]; rfl
      rw [ha, List.getElem?_map, h5] at h7
      exact Option.some.inj h7
    · exact ⟨q, h3, rfl⟩
  refine ⟨fun k q hq => ?_, fun i j p q hi hj e => ?_, fun k q hq => ?_⟩
  · rcases hs k q hq with ⟨m, h3, h4⟩ | ⟨h3, h4⟩
    · exact hP1 m q h4
    · have hl := (hP k q h3).lt
      refine (hP k q h3).kept (hk q.1 hl (fun z => ?_))
      rcases z with ⟨j, e, hj⟩ | z
      · obtain ⟨i, h5, h6⟩ := kMapS hC hj
        have h7 := hD.1 k i q (q.1, e) h3 h6 rfl
        subst h7
        exact h4 (List.mem_of_getElem? h5)
      · omega
  · obtain ⟨p0, h3, h4⟩ := adr i p hi
    obtain ⟨q0, h5, h6⟩ := adr j q hj
    exact hD.1 i j p0 q0 h3 h5 (by rw [h4, h6, e])
  · obtain ⟨q0, h3, h4⟩ := adr k q hq
    rw [← h4]; exact hD.2 k q0 h3
theorem kJoinX {A : Nat → Prop} {D : va_G} {cl : List vw_C} {ws wc w1 w2 : va_W} {H H1 H2 : Heap} (hP : va_P D cl ws H) (hD : va_D A ws) (isC : List Nat) (hC : isC.map (fun i => ws[i]?) = wc.map some) (hk : ∀ q : Nat, q < H.size → ¬ va_A wc H.size q → H1[q]? = H[q]?) (hF : ∀ q, va_A wc H.size q → A q) (hP1 : va_P D cl w1 H2) (ht : H2 = H1) (hD1 : va_D (va_A wc H.size) w1) (ha : w1.map (fun z => z.1) = wc.map (fun z => z.1)) (cs : List (Option Nat)) (hc : kCk isC 0 cs = true) (h2 : kMg w1 ws cs = w2.map some) : va_P D cl w2 H1 ∧ va_D A w2 := kJoinI hP hD isC hC hk hF (ht ▸ hP1) hD1 ha cs hc h2
theorem kU2 {T0 T1 : Type} {P : T0 × T1 → Prop} (h : ∀ a0 a1, P (a0, a1)) : ∀ u, P u := fun u => h u.1 u.2
theorem kU3 {T0 T1 T2 : Type} {P : T0 × T1 × T2 → Prop} (h : ∀ a0 a1 a2, P (a0, a1, a2)) : ∀ u, P u := fun u => h u.1 u.2.1 u.2.2
theorem kU4 {T0 T1 T2 T3 : Type} {P : T0 × T1 × T2 × T3 → Prop} (h : ∀ a0 a1 a2 a3, P (a0, a1, a2, a3)) : ∀ u, P u := fun u => h u.1 u.2.1 u.2.2.1 u.2.2.2
theorem kU5 {T0 T1 T2 T3 T4 : Type} {P : T0 × T1 × T2 × T3 × T4 → Prop} (h : ∀ a0 a1 a2 a3 a4, P (a0, a1, a2, a3, a4)) : ∀ u, P u := fun u => h u.1 u.2.1 u.2.2.1 u.2.2.2.1 u.2.2.2.2
theorem kU6 {T0 T1 T2 T3 T4 T5 : Type} {P : T0 × T1 × T2 × T3 × T4 × T5 → Prop} (h : ∀ a0 a1 a2 a3 a4 a5, P (a0, a1, a2, a3, a4, a5)) : ∀ u, P u := fun u => h u.1 u.2.1 u.2.2.1 u.2.2.2.1 u.2.2.2.2.1 u.2.2.2.2.2
theorem kU7 {T0 T1 T2 T3 T4 T5 T6 : Type} {P : T0 × T1 × T2 × T3 × T4 × T5 × T6 → Prop} (h : ∀ a0 a1 a2 a3 a4 a5 a6, P (a0, a1, a2, a3, a4, a5, a6)) : ∀ u, P u := fun u => h u.1 u.2.1 u.2.2.1 u.2.2.2.1 u.2.2.2.2.1 u.2.2.2.2.2.1 u.2.2.2.2.2.2
theorem kU8 {T0 T1 T2 T3 T4 T5 T6 T7 : Type} {P : T0 × T1 × T2 × T3 × T4 × T5 × T6 × T7 → Prop} (h : ∀ a0 a1 a2 a3 a4 a5 a6 a7, P (a0, a1, a2, a3, a4, a5, a6, a7)) : ∀ u, P u := fun u => h u.1 u.2.1 u.2.2.1 u.2.2.2.1 u.2.2.2.2.1 u.2.2.2.2.2.1 u.2.2.2.2.2.2.1 u.2.2.2.2.2.2.2
theorem kU9 {T0 T1 T2 T3 T4 T5 T6 T7 T8 : Type} {P : T0 × T1 × T2 × T3 × T4 × T5 × T6 × T7 × T8 → Prop} (h : ∀ a0 a1 a2 a3 a4 a5 a6 a7 a8, P (a0, a1, a2, a3, a4, a5, a6, a7, a8)) : ∀ u, P u := fun u => h u.1 u.2.1 u.2.2.1 u.2.2.2.1 u.2.2.2.2.1 u.2.2.2.2.2.1 u.2.2.2.2.2.2.1 u.2.2.2.2.2.2.2.1 u.2.2.2.2.2.2.2.2
theorem kU10 {T0 T1 T2 T3 T4 T5 T6 T7 T8 T9 : Type} {P : T0 × T1 × T2 × T3 × T4 × T5 × T6 × T7 × T8 × T9 → Prop} (h : ∀ a0 a1 a2 a3 a4 a5 a6 a7 a8 a9, P (a0, a1, a2, a3, a4, a5, a6, a7, a8, a9)) : ∀ u, P u := fun u => h u.1 u.2.1 u.2.2.1 u.2.2.2.1 u.2.2.2.2.1 u.2.2.2.2.2.1 u.2.2.2.2.2.2.1 u.2.2.2.2.2.2.2.1 u.2.2.2.2.2.2.2.2.1 u.2.2.2.2.2.2.2.2.2
theorem kU11 {T0 T1 T2 T3 T4 T5 T6 T7 T8 T9 T10 : Type} {P : T0 × T1 × T2 × T3 × T4 × T5 × T6 × T7 × T8 × T9 × T10 → Prop} (h : ∀ a0 a1 a2 a3 a4 a5 a6 a7 a8 a9 a10, P (a0, a1, a2, a3, a4, a5, a6, a7, a8, a9, a10)) : ∀ u, P u := fun u => h u.1 u.2.1 u.2.2.1 u.2.2.2.1 u.2.2.2.2.1 u.2.2.2.2.2.1 u.2.2.2.2.2.2.1 u.2.2.2.2.2.2.2.1 u.2.2.2.2.2.2.2.2.1 u.2.2.2.2.2.2.2.2.2.1 u.2.2.2.2.2.2.2.2.2.2
theorem kU12 {T0 T1 T2 T3 T4 T5 T6 T7 T8 T9 T10 T11 : Type} {P : T0 × T1 × T2 × T3 × T4 × T5 × T6 × T7 × T8 × T9 × T10 × T11 → Prop} (h : ∀ a0 a1 a2 a3 a4 a5 a6 a7 a8 a9 a10 a11, P (a0, a1, a2, a3, a4, a5, a6, a7, a8, a9, a10, a11)) : ∀ u, P u := fun u => h u.1 u.2.1 u.2.2.1 u.2.2.2.1 u.2.2.2.2.1 u.2.2.2.2.2.1 u.2.2.2.2.2.2.1 u.2.2.2.2.2.2.2.1 u.2.2.2.2.2.2.2.2.1 u.2.2.2.2.2.2.2.2.2.1 u.2.2.2.2.2.2.2.2.2.2.1 u.2.2.2.2.2.2.2.2.2.2.2
theorem kU13 {T0 T1 T2 T3 T4 T5 T6 T7 T8 T9 T10 T11 T12 : Type} {P : T0 × T1 × T2 × T3 × T4 × T5 × T6 × T7 × T8 × T9 × T10 × T11 × T12 → Prop} (h : ∀ a0 a1 a2 a3 a4 a5 a6 a7 a8 a9 a10 a11 a12, P (a0, a1, a2, a3, a4, a5, a6, a7, a8, a9, a10, a11, a12)) : ∀ u, P u := fun u => h u.1 u.2.1 u.2.2.1 u.2.2.2.1 u.2.2.2.2.1 u.2.2.2.2.2.1 u.2.2.2.2.2.2.1 u.2.2.2.2.2.2.2.1 u.2.2.2.2.2.2.2.2.1 u.2.2.2.2.2.2.2.2.2.1 u.2.2.2.2.2.2.2.2.2.2.1 u.2.2.2.2.2.2.2.2.2.2.2.1 u.2.2.2.2.2.2.2.2.2.2.2.2
theorem kU14 {T0 T1 T2 T3 T4 T5 T6 T7 T8 T9 T10 T11 T12 T13 : Type} {P : T0 × T1 × T2 × T3 × T4 × T5 × T6 × T7 × T8 × T9 × T10 × T11 × T12 × T13 → Prop} (h : ∀ a0 a1 a2 a3 a4 a5 a6 a7 a8 a9 a10 a11 a12 a13, P (a0, a1, a2, a3, a4, a5, a6, a7, a8, a9, a10, a11, a12, a13)) : ∀ u, P u := fun u => h u.1 u.2.1 u.2.2.1 u.2.2.2.1 u.2.2.2.2.1 u.2.2.2.2.2.1 u.2.2.2.2.2.2.1 u.2.2.2.2.2.2.2.1 u.2.2.2.2.2.2.2.2.1 u.2.2.2.2.2.2.2.2.2.1 u.2.2.2.2.2.2.2.2.2.2.1 u.2.2.2.2.2.2.2.2.2.2.2.1 u.2.2.2.2.2.2.2.2.2.2.2.2.1 u.2.2.2.2.2.2.2.2.2.2.2.2.2
theorem kU15 {T0 T1 T2 T3 T4 T5 T6 T7 T8 T9 T10 T11 T12 T13 T14 : Type} {P : T0 × T1 × T2 × T3 × T4 × T5 × T6 × T7 × T8 × T9 × T10 × T11 × T12 × T13 × T14 → Prop} (h : ∀ a0 a1 a2 a3 a4 a5 a6 a7 a8 a9 a10 a11 a12 a13 a14, P (a0, a1, a2, a3, a4, a5, a6, a7, a8, a9, a10, a11, a12, a13, a14)) : ∀ u, P u := fun u => h u.1 u.2.1 u.2.2.1 u.2.2.2.1 u.2.2.2.2.1 u.2.2.2.2.2.1 u.2.2.2.2.2.2.1 u.2.2.2.2.2.2.2.1 u.2.2.2.2.2.2.2.2.1 u.2.2.2.2.2.2.2.2.2.1 u.2.2.2.2.2.2.2.2.2.2.1 u.2.2.2.2.2.2.2.2.2.2.2.1 u.2.2.2.2.2.2.2.2.2.2.2.2.1 u.2.2.2.2.2.2.2.2.2.2.2.2.2.1 u.2.2.2.2.2.2.2.2.2.2.2.2.2.2
theorem kU16 {T0 T1 T2 T3 T4 T5 T6 T7 T8 T9 T10 T11 T12 T13 T14 T15 : Type} {P : T0 × T1 × T2 × T3 × T4 × T5 × T6 × T7 × T8 × T9 × T10 × T11 × T12 × T13 × T14 × T15 → Prop} (h : ∀ a0 a1 a2 a3 a4 a5 a6 a7 a8 a9 a10 a11 a12 a13 a14 a15, P (a0, a1, a2, a3, a4, a5, a6, a7, a8, a9, a10, a11, a12, a13, a14, a15)) : ∀ u, P u := fun u => h u.1 u.2.1 u.2.2.1 u.2.2.2.1 u.2.2.2.2.1 u.2.2.2.2.2.1 u.2.2.2.2.2.2.1 u.2.2.2.2.2.2.2.1 u.2.2.2.2.2.2.2.2.1 u.2.2.2.2.2.2.2.2.2.1 u.2.2.2.2.2.2.2.2.2.2.1 u.2.2.2.2.2.2.2.2.2.2.2.1 u.2.2.2.2.2.2.2.2.2.2.2.2.1 u.2.2.2.2.2.2.2.2.2.2.2.2.2.1 u.2.2.2.2.2.2.2.2.2.2.2.2.2.2.1 u.2.2.2.2.2.2.2.2.2.2.2.2.2.2.2
theorem kU17 {T0 T1 T2 T3 T4 T5 T6 T7 T8 T9 T10 T11 T12 T13 T14 T15 T16 : Type} {P : T0 × T1 × T2 × T3 × T4 × T5 × T6 × T7 × T8 × T9 × T10 × T11 × T12 × T13 × T14 × T15 × T16 → Prop} (h : ∀ a0 a1 a2 a3 a4 a5 a6 a7 a8 a9 a10 a11 a12 a13 a14 a15 a16, P (a0, a1, a2, a3, a4, a5, a6, a7, a8, a9, a10, a11, a12, a13, a14, a15, a16)) : ∀ u, P u := fun u => h u.1 u.2.1 u.2.2.1 u.2.2.2.1 u.2.2.2.2.1 u.2.2.2.2.2.1 u.2.2.2.2.2.2.1 u.2.2.2.2.2.2.2.1 u.2.2.2.2.2.2.2.2.1 u.2.2.2.2.2.2.2.2.2.1 u.2.2.2.2.2.2.2.2.2.2.1 u.2.2.2.2.2.2.2.2.2.2.2.1 u.2.2.2.2.2.2.2.2.2.2.2.2.1 u.2.2.2.2.2.2.2.2.2.2.2.2.2.1 u.2.2.2.2.2.2.2.2.2.2.2.2.2.2.1 u.2.2.2.2.2.2.2.2.2.2.2.2.2.2.2.1 u.2.2.2.2.2.2.2.2.2.2.2.2.2.2.2.2
theorem kU18 {T0 T1 T2 T3 T4 T5 T6 T7 T8 T9 T10 T11 T12 T13 T14 T15 T16 T17 : Type} {P : T0 × T1 × T2 × T3 × T4 × T5 × T6 × T7 × T8 × T9 × T10 × T11 × T12 × T13 × T14 × T15 × T16 × T17 → Prop} (h : ∀ a0 a1 a2 a3 a4 a5 a6 a7 a8 a9 a10 a11 a12 a13 a14 a15 a16 a17, P (a0, a1, a2, a3, a4, a5, a6, a7, a8, a9, a10, a11, a12, a13, a14, a15, a16, a17)) : ∀ u, P u := fun u => h u.1 u.2.1 u.2.2.1 u.2.2.2.1 u.2.2.2.2.1 u.2.2.2.2.2.1 u.2.2.2.2.2.2.1 u.2.2.2.2.2.2.2.1 u.2.2.2.2.2.2.2.2.1 u.2.2.2.2.2.2.2.2.2.1 u.2.2.2.2.2.2.2.2.2.2.1 u.2.2.2.2.2.2.2.2.2.2.2.1 u.2.2.2.2.2.2.2.2.2.2.2.2.1 u.2.2.2.2.2.2.2.2.2.2.2.2.2.1 u.2.2.2.2.2.2.2.2.2.2.2.2.2.2.1 u.2.2.2.2.2.2.2.2.2.2.2.2.2.2.2.1 u.2.2.2.2.2.2.2.2.2.2.2.2.2.2.2.2.1 u.2.2.2.2.2.2.2.2.2.2.2.2.2.2.2.2.2
theorem kU19 {T0 T1 T2 T3 T4 T5 T6 T7 T8 T9 T10 T11 T12 T13 T14 T15 T16 T17 T18 : Type} {P : T0 × T1 × T2 × T3 × T4 × T5 × T6 × T7 × T8 × T9 × T10 × T11 × T12 × T13 × T14 × T15 × T16 × T17 × T18 → Prop} (h : ∀ a0 a1 a2 a3 a4 a5 a6 a7 a8 a9 a10 a11 a12 a13 a14 a15 a16 a17 a18, P (a0, a1, a2, a3, a4, a5, a6, a7, a8, a9, a10, a11, a12, a13, a14, a15, a16, a17, a18)) : ∀ u, P u := fun u => h u.1 u.2.1 u.2.2.1 u.2.2.2.1 u.2.2.2.2.1 u.2.2.2.2.2.1 u.2.2.2.2.2.2.1 u.2.2.2.2.2.2.2.1 u.2.2.2.2.2.2.2.2.1 u.2.2.2.2.2.2.2.2.2.1 u.2.2.2.2.2.2.2.2.2.2.1 u.2.2.2.2.2.2.2.2.2.2.2.1 u.2.2.2.2.2.2.2.2.2.2.2.2.1 u.2.2.2.2.2.2.2.2.2.2.2.2.2.1 u.2.2.2.2.2.2.2.2.2.2.2.2.2.2.1 u.2.2.2.2.2.2.2.2.2.2.2.2.2.2.2.1 u.2.2.2.2.2.2.2.2.2.2.2.2.2.2.2.2.1 u.2.2.2.2.2.2.2.2.2.2.2.2.2.2.2.2.2.1 u.2.2.2.2.2.2.2.2.2.2.2.2.2.2.2.2.2.2
theorem kU20 {T0 T1 T2 T3 T4 T5 T6 T7 T8 T9 T10 T11 T12 T13 T14 T15 T16 T17 T18 T19 : Type} {P : T0 × T1 × T2 × T3 × T4 × T5 × T6 × T7 × T8 × T9 × T10 × T11 × T12 × T13 × T14 × T15 × T16 × T17 × T18 × T19 → Prop} (h : ∀ a0 a1 a2 a3 a4 a5 a6 a7 a8 a9 a10 a11 a12 a13 a14 a15 a16 a17 a18 a19, P (a0, a1, a2, a3, a4, a5, a6, a7, a8, a9, a10, a11, a12, a13, a14, a15, a16, a17, a18, a19)) : ∀ u, P u := fun u => h u.1 u.2.1 u.2.2.1 u.2.2.2.1 u.2.2.2.2.1 u.2.2.2.2.2.1 u.2.2.2.2.2.2.1 u.2.2.2.2.2.2.2.1 u.2.2.2.2.2.2.2.2.1 u.2.2.2.2.2.2.2.2.2.1 u.2.2.2.2.2.2.2.2.2.2.1 u.2.2.2.2.2.2.2.2.2.2.2.1 u.2.2.2.2.2.2.2.2.2.2.2.2.1 u.2.2.2.2.2.2.2.2.2.2.2.2.2.1 u.2.2.2.2.2.2.2.2.2.2.2.2.2.2.1 u.2.2.2.2.2.2.2.2.2.2.2.2.2.2.2.1 u.2.2.2.2.2.2.2.2.2.2.2.2.2.2.2.2.1 u.2.2.2.2.2.2.2.2.2.2.2.2.2.2.2.2.2.1 u.2.2.2.2.2.2.2.2.2.2.2.2.2.2.2.2.2.2.1 u.2.2.2.2.2.2.2.2.2.2.2.2.2.2.2.2.2.2.2
theorem kU21 {T0 T1 T2 T3 T4 T5 T6 T7 T8 T9 T10 T11 T12 T13 T14 T15 T16 T17 T18 T19 T20 : Type} {P : T0 × T1 × T2 × T3 × T4 × T5 × T6 × T7 × T8 × T9 × T10 × T11 × T12 × T13 × T14 × T15 × T16 × T17 × T18 × T19 × T20 → Prop} (h : ∀ a0 a1 a2 a3 a4 a5 a6 a7 a8 a9 a10 a11 a12 a13 a14 a15 a16 a17 a18 a19 a20, P (a0, a1, a2, a3, a4, a5, a6, a7, a8, a9, a10, a11, a12, a13, a14, a15, a16, a17, a18, a19, a20)) : ∀ u, P u := fun u => h u.1 u.2.1 u.2.2.1 u.2.2.2.1 u.2.2.2.2.1 u.2.2.2.2.2.1 u.2.2.2.2.2.2.1 u.2.2.2.2.2.2.2.1 u.2.2.2.2.2.2.2.2.1 u.2.2.2.2.2.2.2.2.2.1 u.2.2.2.2.2.2.2.2.2.2.1 u.2.2.2.2.2.2.2.2.2.2.2.1 u.2.2.2.2.2.2.2.2.2.2.2.2.1 u.2.2.2.2.2.2.2.2.2.2.2.2.2.1 u.2.2.2.2.2.2.2.2.2.2.2.2.2.2.1 u.2.2.2.2.2.2.2.2.2.2.2.2.2.2.2.1 u.2.2.2.2.2.2.2.2.2.2.2.2.2.2.2.2.1 u.2.2.2.2.2.2.2.2.2.2.2.2.2.2.2.2.2.1 u.2.2.2.2.2.2.2.2.2.2.2.2.2.2.2.2.2.2.1 u.2.2.2.2.2.2.2.2.2.2.2.2.2.2.2.2.2.2.2.1 u.2.2.2.2.2.2.2.2.2.2.2.2.2.2.2.2.2.2.2.2
theorem kU22 {T0 T1 T2 T3 T4 T5 T6 T7 T8 T9 T10 T11 T12 T13 T14 T15 T16 T17 T18 T19 T20 T21 : Type} {P : T0 × T1 × T2 × T3 × T4 × T5 × T6 × T7 × T8 × T9 × T10 × T11 × T12 × T13 × T14 × T15 × T16 × T17 × T18 × T19 × T20 × T21 → Prop} (h : ∀ a0 a1 a2 a3 a4 a5 a6 a7 a8 a9 a10 a11 a12 a13 a14 a15 a16 a17 a18 a19 a20 a21, P (a0, a1, a2, a3, a4, a5, a6, a7, a8, a9, a10, a11, a12, a13, a14, a15, a16, a17, a18, a19, a20, a21)) : ∀ u, P u := fun u => h u.1 u.2.1 u.2.2.1 u.2.2.2.1 u.2.2.2.2.1 u.2.2.2.2.2.1 u.2.2.2.2.2.2.1 u.2.2.2.2.2.2.2.1 u.2.2.2.2.2.2.2.2.1 u.2.2.2.2.2.2.2.2.2.1 u.2.2.2.2.2.2.2.2.2.2.1 u.2.2.2.2.2.2.2.2.2.2.2.1 u.2.2.2.2.2.2.2.2.2.2.2.2.1 u.2.2.2.2.2.2.2.2.2.2.2.2.2.1 u.2.2.2.2.2.2.2.2.2.2.2.2.2.2.1 u.2.2.2.2.2.2.2.2.2.2.2.2.2.2.2.1 u.2.2.2.2.2.2.2.2.2.2.2.2.2.2.2.2.1 u.2.2.2.2.2.2.2.2.2.2.2.2.2.2.2.2.2.1 u.2.2.2.2.2.2.2.2.2.2.2.2.2.2.2.2.2.2.1 u.2.2.2.2.2.2.2.2.2.2.2.2.2.2.2.2.2.2.2.1 u.2.2.2.2.2.2.2.2.2.2.2.2.2.2.2.2.2.2.2.2.1 u.2.2.2.2.2.2.2.2.2.2.2.2.2.2.2.2.2.2.2.2.2
theorem kU23 {T0 T1 T2 T3 T4 T5 T6 T7 T8 T9 T10 T11 T12 T13 T14 T15 T16 T17 T18 T19 T20 T21 T22 : Type} {P : T0 × T1 × T2 × T3 × T4 × T5 × T6 × T7 × T8 × T9 × T10 × T11 × T12 × T13 × T14 × T15 × T16 × T17 × T18 × T19 × T20 × T21 × T22 → Prop} (h : ∀ a0 a1 a2 a3 a4 a5 a6 a7 a8 a9 a10 a11 a12 a13 a14 a15 a16 a17 a18 a19 a20 a21 a22, P (a0, a1, a2, a3, a4, a5, a6, a7, a8, a9, a10, a11, a12, a13, a14, a15, a16, a17, a18, a19, a20, a21, a22)) : ∀ u, P u := fun u => h u.1 u.2.1 u.2.2.1 u.2.2.2.1 u.2.2.2.2.1 u.2.2.2.2.2.1 u.2.2.2.2.2.2.1 u.2.2.2.2.2.2.2.1 u.2.2.2.2.2.2.2.2.1 u.2.2.2.2.2.2.2.2.2.1 u.2.2.2.2.2.2.2.2.2.2.1 u.2.2.2.2.2.2.2.2.2.2.2.1 u.2.2.2.2.2.2.2.2.2.2.2.2.1 u.2.2.2.2.2.2.2.2.2.2.2.2.2.1 u.2.2.2.2.2.2.2.2.2.2.2.2.2.2.1 u.2.2.2.2.2.2.2.2.2.2.2.2.2.2.2.1 u.2.2.2.2.2.2.2.2.2.2.2.2.2.2.2.2.1 u.2.2.2.2.2.2.2.2.2.2.2.2.2.2.2.2.2.1 u.2.2.2.2.2.2.2.2.2.2.2.2.2.2.2.2.2.2.1 u.2.2.2.2.2.2.2.2.2.2.2.2.2.2.2.2.2.2.2.1 u.2.2.2.2.2.2.2.2.2.2.2.2.2.2.2.2.2.2.2.2.1 u.2.2.2.2.2.2.2.2.2.2.2.2.2.2.2.2.2.2.2.2.2.1 u.2.2.2.2.2.2.2.2.2.2.2.2.2.2.2.2.2.2.2.2.2.2
theorem kU24 {T0 T1 T2 T3 T4 T5 T6 T7 T8 T9 T10 T11 T12 T13 T14 T15 T16 T17 T18 T19 T20 T21 T22 T23 : Type} {P : T0 × T1 × T2 × T3 × T4 × T5 × T6 × T7 × T8 × T9 × T10 × T11 × T12 × T13 × T14 × T15 × T16 × T17 × T18 × T19 × T20 × T21 × T22 × T23 → Prop} (h : ∀ a0 a1 a2 a3 a4 a5 a6 a7 a8 a9 a10 a11 a12 a13 a14 a15 a16 a17 a18 a19 a20 a21 a22 a23, P (a0, a1, a2, a3, a4, a5, a6, a7, a8, a9, a10, a11, a12, a13, a14, a15, a16, a17, a18, a19, a20, a21, a22, a23)) : ∀ u, P u := fun u => h u.1 u.2.1 u.2.2.1 u.2.2.2.1 u.2.2.2.2.1 u.2.2.2.2.2.1 u.2.2.2.2.2.2.1 u.2.2.2.2.2.2.2.1 u.2.2.2.2.2.2.2.2.1 u.2.2.2.2.2.2.2.2.2.1 u.2.2.2.2.2.2.2.2.2.2.1 u.2.2.2.2.2.2.2.2.2.2.2.1 u.2.2.2.2.2.2.2.2.2.2.2.2.1 u.2.2.2.2.2.2.2.2.2.2.2.2.2.1 u.2.2.2.2.2.2.2.2.2.2.2.2.2.2.1 u.2.2.2.2.2.2.2.2.2.2.2.2.2.2.2.1 u.2.2.2.2.2.2.2.2.2.2.2.2.2.2.2.2.1 u.2.2.2.2.2.2.2.2.2.2.2.2.2.2.2.2.2.1 u.2.2.2.2.2.2.2.2.2.2.2.2.2.2.2.2.2.2.1 u.2.2.2.2.2.2.2.2.2.2.2.2.2.2.2.2.2.2.2.1 u.2.2.2.2.2.2.2.2.2.2.2.2.2.2.2.2.2.2.2.2.1 u.2.2.2.2.2.2.2.2.2.2.2.2.2.2.2.2.2.2.2.2.2.1 u.2.2.2.2.2.2.2.2.2.2.2.2.2.2.2.2.2.2.2.2.2.2.1 u.2.2.2.2.2.2.2.2.2.2.2.2.2.2.2.2.2.2.2.2.2.2.2
theorem kU25 {T0 T1 T2 T3 T4 T5 T6 T7 T8 T9 T10 T11 T12 T13 T14 T15 T16 T17 T18 T19 T20 T21 T22 T23 T24 : Type} {P : T0 × T1 × T2 × T3 × T4 × T5 × T6 × T7 × T8 × T9 × T10 × T11 × T12 × T13 × T14 × T15 × T16 × T17 × T18 × T19 × T20 × T21 × T22 × T23 × T24 → Prop} (h : ∀ a0 a1 a2 a3 a4 a5 a6 a7 a8 a9 a10 a11 a12 a13 a14 a15 a16 a17 a18 a19 a20 a21 a22 a23 a24, P (a0, a1, a2, a3, a4, a5, a6, a7, a8, a9, a10, a11, a12, a13, a14, a15, a16, a17, a18, a19, a20, a21, a22, a23, a24)) : ∀ u, P u := fun u => h u.1 u.2.1 u.2.2.1 u.2.2.2.1 u.2.2.2.2.1 u.2.2.2.2.2.1 u.2.2.2.2.2.2.1 u.2.2.2.2.2.2.2.1 u.2.2.2.2.2.2.2.2.1 u.2.2.2.2.2.2.2.2.2.1 u.2.2.2.2.2.2.2.2.2.2.1 u.2.2.2.2.2.2.2.2.2.2.2.1 u.2.2.2.2.2.2.2.2.2.2.2.2.1 u.2.2.2.2.2.2.2.2.2.2.2.2.2.1 u.2.2.2.2.2.2.2.2.2.2.2.2.2.2.1 u.2.2.2.2.2.2.2.2.2.2.2.2.2.2.2.1 u.2.2.2.2.2.2.2.2.2.2.2.2.2.2.2.2.1 u.2.2.2.2.2.2.2.2.2.2.2.2.2.2.2.2.2.1 u.2.2.2.2.2.2.2.2.2.2.2.2.2.2.2.2.2.2.1 u.2.2.2.2.2.2.2.2.2.2.2.2.2.2.2.2.2.2.2.1 u.2.2.2.2.2.2.2.2.2.2.2.2.2.2.2.2.2.2.2.2.1 u.2.2.2.2.2.2.2.2.2.2.2.2.2.2.2.2.2.2.2.2.2.1 u.2.2.2.2.2.2.2.2.2.2.2.2.2.2.2.2.2.2.2.2.2.2.1 u.2.2.2.2.2.2.2.2.2.2.2.2.2.2.2.2.2.2.2.2.2.2.2.1 u.2.2.2.2.2.2.2.2.2.2.2.2.2.2.2.2.2.2.2.2.2.2.2.2
theorem kIn_nar (a b c : Int32) : narrow .boolean (.int (kIn a b c)) = .int (kIn a b c) := by
  unfold kIn
  split
  · rfl
  · split <;> rfl
theorem kIn_ix {p M : Int32} {n : Nat} (hM : M.toInt = n) (h : ¬ kIn p 0 M = 0) : ∃ j : Nat, j < n + 1 ∧ p = nI j := by
  unfold kIn at h
  by_cases h1 : p < 0
  · rw [if_pos h1] at h; exact absurd rfl h
  · by_cases h2 : M < p
    · rw [if_neg h1, if_pos h2] at h; exact absurd rfl h
    · obtain ⟨j, hj, e⟩ := nI_of2 hM h1 (Int32.not_lt.mp h2)
      exact ⟨j, by omega, e⟩
theorem kB01 {r : Int32} (h : r = 0 ∨ r = 1) : narrow .boolean (.int r) = .int r := by rcases h with rfl | rfl <;> rfl
theorem klt {a b : Nat} (ha : a < 2 ^ 31) (hb : b < 2 ^ 31) (h : nI a < nI b) : a < b := (nI_ltI ha hb).mp h
theorem knlt {a b : Nat} (ha : a < 2 ^ 31) (hb : b < 2 ^ 31) (h : ¬ nI a < nI b) : b ≤ a := Nat.not_lt.mp (fun z => h ((nI_ltI ha hb).mpr z))
theorem kle {a b : Nat} (ha : a < 2 ^ 31) (hb : b < 2 ^ 31) (h : nI a ≤ nI b) : a ≤ b := (nI_leI ha hb).mp h
theorem knle {a b : Nat} (ha : a < 2 ^ 31) (hb : b < 2 ^ 31) (h : ¬ nI a ≤ nI b) : b < a := Nat.not_le.mp (fun z => h ((nI_leI ha hb).mpr z))
theorem keq {a b : Nat} (ha : a < 2 ^ 31) (hb : b < 2 ^ 31) (h : nI a = nI b) : a = b := (nI_eq ha hb).mp h
theorem kneq {a b : Nat} (ha : a < 2 ^ 31) (hb : b < 2 ^ 31) (h : ¬ nI a = nI b) : a ≠ b := fun z => h ((nI_eq ha hb).mpr z)
theorem kInc (a n : Nat) : nI a + Int32.ofInt (n : Int) = nI (a + n) := by
  rw [← nI_add]; congr 1
theorem kDec {a : Nat} (n : Nat) (h : n ≤ a) : nI a + Int32.ofInt (-(n : Int)) = nI (a - n) := by
  rw [← pk_sub h, Int32.ofInt_neg, Int32.sub_eq_add_neg]; congr 2
theorem kSw38 (x : Int32) : x = 38 ∨ x = 39 ∨ x = 40 ∨ x = 41 ∨ x = 42 ∨ x = 43 ∨ x = 44 ∨ x = 45 ∨ x = 46 ∨ x = 47 ∨ x = 48 ∨ x = 49 ∨ x = 50 ∨ x = 51 ∨ x = 52 ∨ x = 53 ∨ x = 54 ∨ x = 55 ∨ x = 56 ∨ x = 57 ∨ x = 58 ∨ x = 59 ∨ x = 60 ∨ x = 61 ∨ x = 62 ∨ (x.toInt < 38 ∨ 62 < x.toInt) := by
  by_cases h : x.toInt < 38 ∨ 62 < x.toInt
  · simp [h]
  · have h9 : x.toInt = 38 ∨ x.toInt = 39 ∨ x.toInt = 40 ∨ x.toInt = 41 ∨ x.toInt = 42 ∨ x.toInt = 43 ∨ x.toInt = 44 ∨ x.toInt = 45 ∨ x.toInt = 46 ∨ x.toInt = 47 ∨ x.toInt = 48 ∨ x.toInt = 49 ∨ x.toInt = 50 ∨ x.toInt = 51 ∨ x.toInt = 52 ∨ x.toInt = 53 ∨ x.toInt = 54 ∨ x.toInt = 55 ∨ x.toInt = 56 ∨ x.toInt = 57 ∨ x.toInt = 58 ∨ x.toInt = 59 ∨ x.toInt = 60 ∨ x.toInt = 61 ∨ x.toInt = 62 := by omega
    rcases h9 with e | e | e | e | e | e | e | e | e | e | e | e | e | e | e | e | e | e | e | e | e | e | e | e | e
    · exact (Or.inl (Int32.toInt_inj.mp e))
    · exact (Or.inr (Or.inl (Int32.toInt_inj.mp e)))
    · exact (Or.inr (Or.inr (Or.inl (Int32.toInt_inj.mp e))))
    · exact (Or.inr (Or.inr (Or.inr (Or.inl (Int32.toInt_inj.mp e)))))
    · exact (Or.inr (Or.inr (Or.inr (Or.inr (Or.inl (Int32.toInt_inj.mp e))))))
    · exact (Or.inr (Or.inr (Or.inr (Or.inr (Or.inr (Or.inl (Int32.toInt_inj.mp e)))))))
    · exact (Or.inr (Or.inr (Or.inr (Or.inr (Or.inr (Or.inr (Or.inl (Int32.toInt_inj.mp e))))))))
    · exact (Or.inr (Or.inr (Or.inr (Or.inr (Or.inr (Or.inr (Or.inr (Or.inl (Int32.toInt_inj.mp e)))))))))
    · exact (Or.inr (Or.inr (Or.inr (Or.inr (Or.inr (Or.inr (Or.inr (Or.inr (Or.inl (Int32.toInt_inj.mp e))))))))))
    · exact (Or.inr (Or.inr (Or.inr (Or.inr (Or.inr (Or.inr (Or.inr (Or.inr (Or.inr (Or.inl (Int32.toInt_inj.mp e)))))))))))
    · exact (Or.inr (Or.inr (Or.inr (Or.inr (Or.inr (Or.inr (Or.inr (Or.inr (Or.inr (Or.inr (Or.inl (Int32.toInt_inj.mp e))))))))))))
    · exact (Or.inr (Or.inr (Or.inr (Or.inr (Or.inr (Or.inr (Or.inr (Or.inr (Or.inr (Or.inr (Or.inr (Or.inl (Int32.toInt_inj.mp e)))))))))))))
    · exact (Or.inr (Or.inr (Or.inr (Or.inr (Or.inr (Or.inr (Or.inr (Or.inr (Or.inr (Or.inr (Or.inr (Or.inr (Or.inl (Int32.toInt_inj.mp e))))))))))))))
    · exact (Or.inr (Or.inr (Or.inr (Or.inr (Or.inr (Or.inr (Or.inr (Or.inr (Or.inr (Or.inr (Or.inr (Or.inr (Or.inr (Or.inl (Int32.toInt_inj.mp e)))))))))))))))
    · exact (Or.inr (Or.inr (Or.inr (Or.inr (Or.inr (Or.inr (Or.inr (Or.inr (Or.inr (Or.inr (Or.inr (Or.inr (Or.inr (Or.inr (Or.inl (Int32.toInt_inj.mp e))))))))))))))))
    · exact (Or.inr (Or.inr (Or.inr (Or.inr (Or.inr (Or.inr (Or.inr (Or.inr (Or.inr (Or.inr (Or.inr (Or.inr (Or.inr (Or.inr (Or.inr (Or.inl (Int32.toInt_inj.mp e)))))))))))))))))
    · exact (Or.inr (Or.inr (Or.inr (Or.inr (Or.inr (Or.inr (Or.inr (Or.inr (Or.inr (Or.inr (Or.inr (Or.inr (Or.inr (Or.inr (Or.inr (Or.inr (Or.inl (Int32.toInt_inj.mp e))))))))))))))))))
    · exact (Or.inr (Or.inr (Or.inr (Or.inr (Or.inr (Or.inr (Or.inr (Or.inr (Or.inr (Or.inr (Or.inr (Or.inr (Or.inr (Or.inr (Or.inr (Or.inr (Or.inr (Or.inl (Int32.toInt_inj.mp e)))))))))))))))))))
    · exact (Or.inr (Or.inr (Or.inr (Or.inr (Or.inr (Or.inr (Or.inr (Or.inr (Or.inr (Or.inr (Or.inr (Or.inr (Or.inr (Or.inr (Or.inr (Or.inr (Or.inr (Or.inr (Or.inl (Int32.toInt_inj.mp e))))))))))))))))))))
    · exact (Or.inr (Or.inr (Or.inr (Or.inr (Or.inr (Or.inr (Or.inr (Or.inr (Or.inr (Or.inr (Or.inr (Or.inr (Or.inr (Or.inr (Or.inr (Or.inr (Or.inr (Or.inr (Or.inr (Or.inl (Int32.toInt_inj.mp e)))))))))))))))))))))
    · exact (Or.inr (Or.inr (Or.inr (Or.inr (Or.inr (Or.inr (Or.inr (Or.inr (Or.inr (Or.inr (Or.inr (Or.inr (Or.inr (Or.inr (Or.inr (Or.inr (Or.inr (Or.inr (Or.inr (Or.inr (Or.inl (Int32.toInt_inj.mp e))))))))))))))))))))))
    · exact (Or.inr (Or.inr (Or.inr (Or.inr (Or.inr (Or.inr (Or.inr (Or.inr (Or.inr (Or.inr (Or.inr (Or.inr (Or.inr (Or.inr (Or.inr (Or.inr (Or.inr (Or.inr (Or.inr (Or.inr (Or.inr (Or.inl (Int32.toInt_inj.mp e)))))))))))))))))))))))
    · exact (Or.inr (Or.inr (Or.inr (Or.inr (Or.inr (Or.inr (Or.inr (Or.inr (Or.inr (Or.inr (Or.inr (Or.inr (Or.inr (Or.inr (Or.inr (Or.inr (Or.inr (Or.inr (Or.inr (Or.inr (Or.inr (Or.inr (Or.inl (Int32.toInt_inj.mp e))))))))))))))))))))))))
    · exact (Or.inr (Or.inr (Or.inr (Or.inr (Or.inr (Or.inr (Or.inr (Or.inr (Or.inr (Or.inr (Or.inr (Or.inr (Or.inr (Or.inr (Or.inr (Or.inr (Or.inr (Or.inr (Or.inr (Or.inr (Or.inr (Or.inr (Or.inr (Or.inl (Int32.toInt_inj.mp e)))))))))))))))))))))))))
    · exact (Or.inr (Or.inr (Or.inr (Or.inr (Or.inr (Or.inr (Or.inr (Or.inr (Or.inr (Or.inr (Or.inr (Or.inr (Or.inr (Or.inr (Or.inr (Or.inr (Or.inr (Or.inr (Or.inr (Or.inr (Or.inr (Or.inr (Or.inr (Or.inr (Or.inl (Int32.toInt_inj.mp e))))))))))))))))))))))))))
theorem kPosNe {x : Int32} (h : ¬ x ≤ 0) : ¬ x = 0 := fun z => h (by rw [z]; decide)
theorem kMin8 {n : Nat} (hn : n ≤ 20) {x : Int32} (e : x = if (8 : Int32) < nI n then 8 else nI n) : ∃ j : Nat, (j ≤ 8 ∧ j ≤ n) ∧ x = nI j := by
  by_cases h : (8 : Int32) < nI n
  · rw [if_pos h] at e
    have h2 := klt (a := 8) (b := n) (by omega) (by omega) h
    exact ⟨8, ⟨by omega, by omega⟩, e⟩
  · rw [if_neg h] at e
    have h2 := knlt (a := 8) (b := n) (by omega) (by omega) h
    exact ⟨n, ⟨by omega, by omega⟩, e⟩
theorem kMax0 {p x : Int32} (e : x = if p < 0 then 0 else p) : ∃ j : Nat, j < 2147483648 ∧ x = nI j := by
  by_cases h : p < 0
  · rw [if_pos h] at e; exact ⟨0, by omega, e⟩
  · rw [if_neg h] at e
    obtain ⟨j, hj, e2⟩ := nI_of h
    exact ⟨j, by omega, e.trans e2⟩
/-- the links between nest mates -/
def kNLl : List Cond := [.methodLinkNest RX9 11 yX8_init RX9, .methodLinkNest RX9 27 yX5_init RX9, .methodLinkNest RX9 46 yX2_init RX9, .fieldLinkNest RX1 87 "NotEnded$Folk" "holds" "[I" RX9, .fieldLinkNest RX1 90 "NotEnded$Folk" "putIn" "[I" RX9, .fieldLinkNest RX1 91 "NotEnded$Folk" "houses" "[I" RX9, .fieldLinkNest RX1 158 "NotEnded$Folk" "knows" "[I" RX9, .methodLinkNest RX9 62 yX3_init RX9, .methodLinkNest RX9 69 yX0_init RX9, .methodLinkNest RX8 19 yX9_within RX9, .fieldLinkNest RX5 23 "NotEnded$Rule" "steps" "[I" RX9, .fieldLinkNest RX5 18 "NotEnded$Rule" "clauses" "[I" RX9, .methodLinkNest RX1 116 yX9_isBit RX9, .methodLinkNest RX1 164 yX9_isHouse RX9, .methodLinkNest RX2 45 yX9_isBit RX9, .methodLinkNest RX1 147 yX9_within RX9, .methodLinkNest RX3 31 yX9_isBit RX9, .methodLinkNest RX0 28 yX9_isBit RX9, .methodLinkNest RX0 45 yX9_isLowerFirst RX9]
def kNL (U : State) : Prop := ∀ w ∈ kNLl, va_Nw w U
theorem kNL_ok : ∀ w ∈ kNLl, w.onTables = true := by decide +kernel
theorem kNL_blind : ∀ (U : State) (g : JFrame) (mk : MethodId) (a : Array Value), kNL U → kNL (U.calling g mk a) := fun U _ _ _ h w hw => va_Nw.same (u := U) (kNL_ok w hw) rfl (h w hw)
theorem kNL_give {s : State} {H : Heap} (h : kNL s) : ∀ U : State, U.heap = H → s.WarmedH U.vm → kNL U := fun U _ hW => by
  have h9 := h
  unfold kNL kNLl at h9 ⊢
  simp only [List.forall_mem_cons] at h9 ⊢
  obtain ⟨n0, n1, n2, n3, n4, n5, n6, n7, n8, n9, n10, n11, n12, n13, n14, n15, n16, n17, n18, -⟩ := h9
  exact ⟨va_Nw.warmM hW n0, va_Nw.warmM hW n1, va_Nw.warmM hW n2, va_Nw.warmF hW n3, va_Nw.warmF hW n4, va_Nw.warmF hW n5, va_Nw.warmF hW n6, va_Nw.warmM hW n7, va_Nw.warmM hW n8, va_Nw.warmM hW n9, va_Nw.warmF hW n10, va_Nw.warmF hW n11, va_Nw.warmM hW n12, va_Nw.warmM hW n13, va_Nw.warmM hW n14, va_Nw.warmM hW n15, va_Nw.warmM hW n16, va_Nw.warmM hW n17, va_Nw.warmM hW n18, fun _ z => absurd z List.not_mem_nil⟩
/-- frozen cells: they lie in the heap, none of them may be written; and the nest mates' links -/
def kNF (dC : Nat → ClassId) (dI : Nat → Nat → Nat) (R : va_W) (A : Nat → Prop) (U : State) : Prop := (va_P (dC, dI) vwCl R U.heap ∧ ∀ (k : Nat) (q : Nat × va_E), R[k]? = some q → ¬ A q.1) ∧ kNL U
theorem kFz_at {dC : Nat → ClassId} {dI : Nat → Nat → Nat} {R : va_W} {A : Nat → Prop} {s : State} {H : Heap} {locs : List Loc} (h : va_P (dC, dI) vwCl R s.heap ∧ ∀ (k : Nat) (q : Nat × va_E), R[k]? = some q → ¬ A q.1) (hS : va_S A s.heap H locs) : va_P (dC, dI) vwCl R H := h.1.kept (fun k q hk => hS.2.1 q.1 (h.1 k q hk).lt (h.2 k q hk))
theorem kNF_blind {dC : Nat → ClassId} {dI : Nat → Nat → Nat} {R : va_W} {A : Nat → Prop} : ∀ (U : State) (g : JFrame) (mk : MethodId) (a : Array Value), kNF dC dI R A U → kNF dC dI R A (U.calling g mk a) := fun U g mk a h => ⟨h.1, kNL_blind U g mk a h.2⟩
theorem kNF_give {dC : Nat → ClassId} {dI : Nat → Nat → Nat} {R : va_W} {A B : Nat → Prop} {s : State} {H : Heap} {locs : List Loc} (h : kNF dC dI R A s) (hS : va_S A s.heap H locs) (hB : ∀ q, B q → A q) : ∀ U : State, U.heap = H → s.WarmedH U.vm → kNF dC dI R B U := fun U hU hW => ⟨⟨by rw [hU]; exact kFz_at h.1 hS, fun k q hk z => h.1.2 k q hk (hB _ z)⟩, kNL_give h.2 U hU hW⟩
/-- the bytes of a text -/
def kTx (l : List Int32) : Nat → Int32 := fun j => l.getD j 0
/-- what the library's text methods read beside a text -/
def kJ (A : Nat → Prop) (U : State) : Prop := va_Z "java/lang/String" "COMPACT_STRINGS" "Z" (.int 1) A U U.heap ∧ va_Zq "jdk/internal/util/Preconditions" "SIOOBE_FORMATTER" "Ljava/util/function/BiFunction;" A U U.heap
/-- a constant text at q, its n bytes g at b, none of these cells in A -/
def kSt (q b n : Nat) (g : Nat → Int32) (A : Nat → Prop) (U : State) : Prop := va_O "java/lang/String" q A U U.heap ∧ va_OF "java/lang/String" "coder" "B" (.int 0) q A U U.heap ∧ va_OF "java/lang/String" "value" "[B" (.ref b) q A U U.heap ∧ va_T .byte b n (fun j => .int (g j)) A U U.heap ∧ kJ A U
theorem kJ_to {A B : Nat → Prop} {u U : State} (hvm : u.vm.Alike U.vm) (hq : ∀ a : Nat, a < u.heap.size → ¬ A a → U.heap[a]? = u.heap[a]?) (hB : ∀ q, B q → A q) (h : kJ A u) : kJ B U :=
  ⟨va_Z.narrow (va_Z.moved hvm (h.1.kept hq)) hB, va_Zq.narrow (va_Zq.moved hvm (h.2.kept hq)) hB⟩
theorem kSt_to {q b n : Nat} {g : Nat → Int32} {A B : Nat → Prop} {u U : State} (hvm : u.vm.Alike U.vm) (hq : ∀ a : Nat, a < u.heap.size → ¬ A a → U.heap[a]? = u.heap[a]?) (hB : ∀ q, B q → A q) (h : kSt q b n g A u) : kSt q b n g B U :=
  ⟨va_O.narrow (va_O.moved hvm (h.1.kept hq)) hB, va_OF.narrow (va_OF.moved hvm (h.2.1.kept hq)) hB, va_OF.narrow (va_OF.moved hvm (h.2.2.1.kept hq)) hB, va_T.narrow (va_T.moved hvm (h.2.2.2.1.kept hq)) hB, kJ_to hvm hq hB h.2.2.2.2⟩
theorem kSt_blind {q b n : Nat} {g : Nat → Int32} {A : Nat → Prop} : ∀ (U : State) (k : JFrame) (mk : MethodId) (a : Array Value), kSt q b n g A U → kSt q b n g A (U.calling k mk a) := fun U _ _ _ h => kSt_to (u := U) (Vm.Alike.refl U.vm) (fun _ _ _ => rfl) (fun _ h => h) h
theorem kSt_give {q b n : Nat} {g : Nat → Int32} {A : Nat → Prop} {s : State} {H : Heap} {locs : List Loc} (h : kSt q b n g A s) (hS : va_S A s.heap H locs) : ∀ U : State, U.heap = H → s.WarmedH U.vm → kSt q b n g A U := fun U hU hW => kSt_to hW.alike (fun a h1 h2 => by rw [hU]; exact hS.2.1 a h1 h2) (fun _ h => h) h
theorem kSt_giveB {q b n : Nat} {g : Nat → Int32} {A B : Nat → Prop} {s : State} {H : Heap} {locs : List Loc} (h : kSt q b n g A s) (hS : va_S A s.heap H locs) (hB : ∀ q, B q → A q) : ∀ U : State, U.heap = H → s.WarmedH U.vm → kSt q b n g B U := fun U hU hW => kSt_to hW.alike (fun a h1 h2 => by rw [hU]; exact hS.2.1 a h1 h2) hB h
theorem kSt_recv {q b n : Nat} {g : Nat → Int32} {A : Nat → Prop} {s : State} {H : Heap} {locs : List Loc} (h : kSt q b n g A s) (hS : va_S A s.heap H locs) : ∃ cell : Cell, H[q]? = some cell ∧ cell.vm.isStatics = false ∧ s.vm.findClass "java/lang/String" = some cell.cls := by
  obtain ⟨cell, h1, h2, h3, -⟩ := h.1.kept hS.2.1
  exact ⟨cell, h1, h2, h3⟩
/-- two texts -/
def kS2 (q6 b6 n6 : Nat) (g6 : Nat → Int32) (q7 b7 n7 : Nat) (g7 : Nat → Int32) (A : Nat → Prop) (U : State) : Prop := kSt q6 b6 n6 g6 A U ∧ kSt q7 b7 n7 g7 A U
theorem kS2_blind {q6 b6 n6 : Nat} {g6 : Nat → Int32} {q7 b7 n7 : Nat} {g7 : Nat → Int32} {A : Nat → Prop} : ∀ (U : State) (k : JFrame) (mk : MethodId) (a : Array Value), kS2 q6 b6 n6 g6 q7 b7 n7 g7 A U → kS2 q6 b6 n6 g6 q7 b7 n7 g7 A (U.calling k mk a) := fun U k mk a h => ⟨kSt_blind U k mk a h.1, kSt_blind U k mk a h.2⟩
theorem kS2_give {q6 b6 n6 : Nat} {g6 : Nat → Int32} {q7 b7 n7 : Nat} {g7 : Nat → Int32} {A B : Nat → Prop} {s : State} {H : Heap} {locs : List Loc} (h : kS2 q6 b6 n6 g6 q7 b7 n7 g7 A s) (hS : va_S A s.heap H locs) (hB : ∀ q, B q → A q) : ∀ U : State, U.heap = H → s.WarmedH U.vm → kS2 q6 b6 n6 g6 q7 b7 n7 g7 B U := fun U hU hW => ⟨kSt_giveB h.1 hS hB U hU hW, kSt_giveB h.2 hS hB U hU hW⟩
theorem kNarU {f f1 : Nat → Int32} {k : Nat} {x : Int32} (e : f1 = upd f k (vp_nar .char x)) (h : ∀ j : Nat, narrow .char (.int (f j)) = .int (f j)) : ∀ j : Nat, narrow .char (.int (f1 j)) = .int (f1 j) := by
  intro j
  rw [e]
  by_cases hj : j = k
  · rw [hj, pk_us, vp_nar_char]
    exact pk_nc x
  · rw [pk_un hj]; exact h j
end
section
theorem kc_l_6_8 : 6 < 8 := by decide
theorem kc_l_7_8 : 7 < 8 := by decide
theorem kc_i_1 : Int32.ofInt (1) = 1 := by decide
theorem kc_l_5_8 : 5 < 8 := by decide
theorem kc_i_0 : Int32.ofInt (0) = 0 := by decide
theorem kc_l_4_8 : 4 < 8 := by decide
theorem kc_i_m1 : Int32.ofInt (-1) = (-1) := by decide
theorem kc_31_10 : 10 < 2 ^ 31 := by decide
theorem kc_l_2_3 : 2 < 3 := by decide
theorem kc_t_10_7 : ((10 : Nat) : Int) + (7) = ((17 : Nat) : Int) := by decide
theorem kc_t_14_4 : ((14 : Nat) : Int) + (4) = ((18 : Nat) : Int) := by decide
theorem kc_l_5_6 : 5 < 6 := by decide
theorem kc_31_20 : 20 < 2 ^ 31 := by decide
theorem kc_l_4_6 : 4 < 6 := by decide
theorem kc_t_27_4 : ((27 : Nat) : Int) + (4) = ((31 : Nat) : Int) := by decide
theorem kc_i_2 : Int32.ofInt (2) = 2 := by decide
theorem kc_31_8 : 8 < 2 ^ 31 := by decide
theorem kc_t_135_7 : ((135 : Nat) : Int) + (7) = ((142 : Nat) : Int) := by decide
theorem kc_l_5_7 : 5 < 7 := by decide
theorem kc_31_0 : 0 < 2 ^ 31 := by decide
theorem kc_l_6_7 : 6 < 7 := by decide
theorem kc_31_1 : 1 < 2 ^ 31 := by decide
theorem kc_b_50 : (Int8.ofInt (50)).toInt32 = 50 := by decide
theorem kc_b_48 : (Int8.ofInt (48)).toInt32 = 48 := by decide
theorem kc_31_48 : 48 < 2 ^ 31 := by decide
theorem kc_b_8 : (Int8.ofInt (8)).toInt32 = 8 := by decide
theorem kc_t_32_7 : ((32 : Nat) : Int) + (7) = ((39 : Nat) : Int) := by decide
theorem kc_b_120 : (Int8.ofInt (120)).toInt32 = 120 := by decide
theorem kc_b_47 : (Int8.ofInt (47)).toInt32 = 47 := by decide
theorem kc_l_6_11 : 6 < 11 := by decide
theorem kc_l_7_11 : 7 < 11 := by decide
theorem kc_l_9_11 : 9 < 11 := by decide
theorem kc_l_10_11 : 10 < 11 := by decide
theorem kc_t_97_7 : ((97 : Nat) : Int) + (7) = ((104 : Nat) : Int) := by decide
theorem kc_t_21_14 : ((21 : Nat) : Int) + (14) = ((35 : Nat) : Int) := by decide
theorem kc_31_14 : 14 < 2 ^ 31 := by decide
theorem kc_l_7_52 : 7 < 52 := by decide
theorem kc_l_26_52 : 26 < 52 := by decide
theorem kc_l_25_52 : 25 < 52 := by decide
theorem kc_t_7_31 : ((7 : Nat) : Int) + (31) = ((38 : Nat) : Int) := by decide
theorem kc_t_12_20 : ((12 : Nat) : Int) + (20) = ((32 : Nat) : Int) := by decide
theorem kc_t_35_m33 : ((35 : Nat) : Int) + (-33) = ((2 : Nat) : Int) := by decide
theorem kc_l_21_52 : 21 < 52 := by decide
theorem kc_t_27_5 : ((27 : Nat) : Int) + (5) = ((32 : Nat) : Int) := by decide
theorem kc_l_40_52 : 40 < 52 := by decide
theorem kc_l_42_52 : 42 < 52 := by decide
theorem kc_t_13_36 : ((13 : Nat) : Int) + (36) = ((49 : Nat) : Int) := by decide
theorem kc_l_30_52 : 30 < 52 := by decide
theorem kc_l_43_52 : 43 < 52 := by decide
theorem kc_t_61_7 : ((61 : Nat) : Int) + (7) = ((68 : Nat) : Int) := by decide
theorem kc_t_65_4 : ((65 : Nat) : Int) + (4) = ((69 : Nat) : Int) := by decide
theorem kc_l_28_52 : 28 < 52 := by decide
theorem kc_l_44_52 : 44 < 52 := by decide
theorem kc_t_38_7 : ((38 : Nat) : Int) + (7) = ((45 : Nat) : Int) := by decide
theorem kc_t_46_23 : ((46 : Nat) : Int) + (23) = ((69 : Nat) : Int) := by decide
theorem kc_t_42_27 : ((42 : Nat) : Int) + (27) = ((69 : Nat) : Int) := by decide
theorem kc_t_23_7 : ((23 : Nat) : Int) + (7) = ((30 : Nat) : Int) := by decide
theorem kc_nd_772 : va_nd [0, 1, 2, 3, 4, 5, 6, 7, 8, 9, 10, 11, 12, 13, 14, 15, 16, 17, 18, 19, 20, 21, 22, 23, 24, 25, 26, 27, 28, 29, 30] = true := by decide
theorem kc_b_121 : (Int8.ofInt (121)).toInt32 = 121 := by decide
theorem kc_nd_794 : va_nd [0, 2, 3, 4] = true := by decide
theorem kc_b_103 : (Int8.ofInt (103)).toInt32 = 103 := by decide
theorem kc_l_0_52 : 0 < 52 := by decide
theorem kc_t_6_24 : ((6 : Nat) : Int) + (24) = ((30 : Nat) : Int) := by decide
theorem kc_t_38_5 : ((38 : Nat) : Int) + (5) = ((43 : Nat) : Int) := by decide
theorem kc_t_15_15 : ((15 : Nat) : Int) + (15) = ((30 : Nat) : Int) := by decide
theorem kc_t_61_8 : ((61 : Nat) : Int) + (8) = ((69 : Nat) : Int) := by decide
theorem kc_t_71_8 : ((71 : Nat) : Int) + (8) = ((79 : Nat) : Int) := by decide
theorem kc_t_76_5 : ((76 : Nat) : Int) + (5) = ((81 : Nat) : Int) := by decide
theorem kc_t_66_15 : ((66 : Nat) : Int) + (15) = ((81 : Nat) : Int) := by decide
theorem kc_t_10_25 : ((10 : Nat) : Int) + (25) = ((35 : Nat) : Int) := by decide
theorem kc_t_63_40 : ((63 : Nat) : Int) + (40) = ((103 : Nat) : Int) := by decide
theorem kc_t_107_7 : ((107 : Nat) : Int) + (7) = ((114 : Nat) : Int) := by decide
theorem kc_l_46_52 : 46 < 52 := by decide
theorem kc_t_124_26 : ((124 : Nat) : Int) + (26) = ((150 : Nat) : Int) := by decide
theorem kc_t_159_111 : ((159 : Nat) : Int) + (111) = ((270 : Nat) : Int) := by decide
theorem kc_t_169_95 : ((169 : Nat) : Int) + (95) = ((264 : Nat) : Int) := by decide
theorem kc_t_267_m114 : ((267 : Nat) : Int) + (-114) = ((153 : Nat) : Int) := by decide
theorem kc_t_180_6 : ((180 : Nat) : Int) + (6) = ((186 : Nat) : Int) := by decide
theorem kc_t_212_52 : ((212 : Nat) : Int) + (52) = ((264 : Nat) : Int) := by decide
theorem kc_in_8_14 : vp_in 8 14 := by unfold vp_in; decide
theorem kc_t_237_18 : ((237 : Nat) : Int) + (18) = ((255 : Nat) : Int) := by decide
theorem kc_in_7_14 : vp_in 7 14 := by unfold vp_in; decide
theorem kc_t_252_4 : ((252 : Nat) : Int) + (4) = ((256 : Nat) : Int) := by decide
theorem kc_t_261_m51 : ((261 : Nat) : Int) + (-51) = ((210 : Nat) : Int) := by decide
theorem kc_in_6_14 : vp_in 6 14 := by unfold vp_in; decide
theorem kc_in_5_14 : vp_in 5 14 := by unfold vp_in; decide
theorem kc_in_4_14 : vp_in 4 14 := by unfold vp_in; decide
theorem kc_in_3_14 : vp_in 3 14 := by unfold vp_in; decide
theorem kc_in_2_14 : vp_in 2 14 := by unfold vp_in; decide
theorem kc_in_1_14 : vp_in 1 14 := by unfold vp_in; decide
theorem kc_in_0_14 : vp_in 0 14 := by unfold vp_in; decide
theorem kc_t_183_81 : ((183 : Nat) : Int) + (81) = ((264 : Nat) : Int) := by decide
theorem kc_t_147_m30 : ((147 : Nat) : Int) + (-30) = ((117 : Nat) : Int) := by decide
theorem kc_t_139_4 : ((139 : Nat) : Int) + (4) = ((143 : Nat) : Int) := by decide
theorem kc_t_75_18 : ((75 : Nat) : Int) + (18) = ((93 : Nat) : Int) := by decide
theorem kc_t_100_m43 : ((100 : Nat) : Int) + (-43) = ((57 : Nat) : Int) := by decide
theorem kc_t_86_7 : ((86 : Nat) : Int) + (7) = ((93 : Nat) : Int) := by decide
theorem kc_t_90_4 : ((90 : Nat) : Int) + (4) = ((94 : Nat) : Int) := by decide
theorem kc_t_16_76 : ((16 : Nat) : Int) + (76) = ((92 : Nat) : Int) := by decide
theorem kc_l_45_52 : 45 < 52 := by decide
theorem kc_t_35_51 : ((35 : Nat) : Int) + (51) = ((86 : Nat) : Int) := by decide
theorem kc_t_89_m77 : ((89 : Nat) : Int) + (-77) = ((12 : Nat) : Int) := by decide
theorem kc_l_41_52 : 41 < 52 := by decide
theorem kc_t_47_33 : ((47 : Nat) : Int) + (33) = ((80 : Nat) : Int) := by decide
theorem kc_t_83_m54 : ((83 : Nat) : Int) + (-54) = ((29 : Nat) : Int) := by decide
theorem kc_t_52_17 : ((52 : Nat) : Int) + (17) = ((69 : Nat) : Int) := by decide
theorem kc_t_75_5 : ((75 : Nat) : Int) + (5) = ((80 : Nat) : Int) := by decide
theorem kc_t_66_14 : ((66 : Nat) : Int) + (14) = ((80 : Nat) : Int) := by decide
theorem kc_t_17_33 : ((17 : Nat) : Int) + (33) = ((50 : Nat) : Int) := by decide
theorem kc_t_30_10 : ((30 : Nat) : Int) + (10) = ((40 : Nat) : Int) := by decide
theorem kc_t_47_m36 : ((47 : Nat) : Int) + (-36) = ((11 : Nat) : Int) := by decide
theorem kc_t_37_4 : ((37 : Nat) : Int) + (4) = ((41 : Nat) : Int) := by decide
theorem kc_t_34_44 : ((34 : Nat) : Int) + (44) = ((78 : Nat) : Int) := by decide
theorem kc_t_46_22 : ((46 : Nat) : Int) + (22) = ((68 : Nat) : Int) := by decide
theorem kc_t_75_m47 : ((75 : Nat) : Int) + (-47) = ((28 : Nat) : Int) := by decide
theorem kc_t_58_10 : ((58 : Nat) : Int) + (10) = ((68 : Nat) : Int) := by decide
theorem kc_t_10_5 : ((10 : Nat) : Int) + (5) = ((15 : Nat) : Int) := by decide
theorem kc_t_36_74 : ((36 : Nat) : Int) + (74) = ((110 : Nat) : Int) := by decide
theorem kc_t_61_43 : ((61 : Nat) : Int) + (43) = ((104 : Nat) : Int) := by decide
theorem kc_t_107_m77 : ((107 : Nat) : Int) + (-77) = ((30 : Nat) : Int) := by decide
theorem kc_t_66_38 : ((66 : Nat) : Int) + (38) = ((104 : Nat) : Int) := by decide
theorem kc_t_71_16 : ((71 : Nat) : Int) + (16) = ((87 : Nat) : Int) := by decide
theorem kc_t_81_6 : ((81 : Nat) : Int) + (6) = ((87 : Nat) : Int) := by decide
theorem kc_t_84_20 : ((84 : Nat) : Int) + (20) = ((104 : Nat) : Int) := by decide
end
section
theorem hd_J6_bitCount_0f7a4 : yJ6_bitCount_0f7a4.cls ≠ "java/lang/invoke/MethodHandle" ∧ yJ6_bitCount_0f7a4.cls ≠ "java/lang/invoke/VarHandle" ∧ (parseMethodDescriptor yJ6_bitCount_0f7a4.desc).map (fun d => d.parameters.length) = some 1 := by decide +kernel
end
section
def w_s_t_latin : List Cond := .code yJ0_isLatin1_aae02 cJ0_isLatin1_aae02 1 (some .boolean) :: ([.fieldLink RJ0 38 "java/lang/String" "COMPACT_STRINGS" "Z", .fieldLink RJ0 15 "java/lang/String" "coder" "B"] ++ [])
def w_s_t_coder : List Cond := .code yJ0_coder_7d493 cJ0_coder_7d493 1 (some .byte) :: ([.fieldLink RJ0 38 "java/lang/String" "COMPACT_STRINGS" "Z", .fieldLink RJ0 15 "java/lang/String" "coder" "B"] ++ [])
def w_s_t_length : List Cond := .code yJ0_length_8abf5 cJ0_length_8abf5 1 (some .int) :: ([.fieldLink RJ0 9 "java/lang/String" "value" "[B", .initialized RJ0, .selects RJ0 yJ0_coder_7d493 yJ0_coder_7d493, .instanceMethod yJ0_coder_7d493, .methodLink RJ0 335 yJ0_coder_7d493] ++ (w_s_t_coder))
end
section
theorem kFamG {c : Cond} {ws : List Cond} (h : goodWord c = true) (g : ws.all goodWord = true) : (c :: ws).all goodWord = true := by rw [List.all_cons, h, g]; rfl
end
section
/-- where the text constants lie -/
def kLit (ad : Nat → Nat) (U : State) : Prop := vk_R RX4 28 "" (ad 0) U ∧ vk_R RX4 41 "ygx" (ad 1) U ∧ vk_R RX4 43 "w" (ad 2) U ∧ vk_R RX4 45 "vpnmsudi" (ad 3) U ∧ vk_R RX4 47 "abcde" (ad 4) U ∧ vk_R RX10 26 "ygx" (ad 5) U ∧ vk_R RX10 229 "w" (ad 6) U ∧ vk_R RX10 32 "vpnmsudi" (ad 7) U ∧ vk_R RX10 231 "abcde" (ad 8) U
theorem kLit_same {ad : Nat → Nat} {u U : State} (hv : U.vm = u.vm) (h : kLit ad u) : kLit ad U := by
  obtain ⟨h0, h1, h2, h3, h4, h5, h6, h7, h8⟩ := h
  exact ⟨h0.same hv, h1.same hv, h2.same hv, h3.same hv, h4.same hv, h5.same hv, h6.same hv, h7.same hv, h8.same hv⟩
theorem kLit_warm {ad : Nat → Nat} {s U : State} (hW : s.WarmedH U.vm) (h : kLit ad s) : kLit ad U := by
  obtain ⟨h0, h1, h2, h3, h4, h5, h6, h7, h8⟩ := h
  exact ⟨h0.warm hW, h1.warm hW, h2.warm hW, h3.warm hW, h4.warm hW, h5.warm hW, h6.warm hW, h7.warm hW, h8.warm hW⟩
theorem kLit_blind {ad : Nat → Nat} : ∀ (U : State) (g : JFrame) (mk : MethodId) (a : Array Value), kLit ad U → kLit ad (U.calling g mk a) := fun _ _ _ _ h => kLit_same rfl h
theorem kLit_give {ad : Nat → Nat} {s : State} {H : Heap} (h : kLit ad s) : ∀ U : State, U.heap = H → s.WarmedH U.vm → kLit ad U := fun _ _ hW => kLit_warm hW h
/-- where the texts lie, and two of them -/
def kRd (ad : Nat → Nat) (i j b6 n6 : Nat) (g6 : Nat → Int32) (b7 n7 : Nat) (g7 : Nat → Int32) (A : Nat → Prop) (U : State) : Prop := kLit ad U ∧ kS2 (ad i) b6 n6 g6 (ad j) b7 n7 g7 A U
theorem kRd_blind {ad : Nat → Nat} {i j b6 n6 : Nat} {g6 : Nat → Int32} {b7 n7 : Nat} {g7 : Nat → Int32} {A : Nat → Prop} : ∀ (U : State) (k : JFrame) (mk : MethodId) (a : Array Value), kRd ad i j b6 n6 g6 b7 n7 g7 A U → kRd ad i j b6 n6 g6 b7 n7 g7 A (U.calling k mk a) := fun U k mk a h => ⟨kLit_blind U k mk a h.1, kS2_blind U k mk a h.2⟩
theorem kRd_give {ad : Nat → Nat} {i j b6 n6 : Nat} {g6 : Nat → Int32} {b7 n7 : Nat} {g7 : Nat → Int32} {A B : Nat → Prop} {s : State} {H : Heap} {locs : List Loc} (h : kRd ad i j b6 n6 g6 b7 n7 g7 A s) (hS : va_S A s.heap H locs) (hB : ∀ q, B q → A q) : ∀ U : State, U.heap = H → s.WarmedH U.vm → kRd ad i j b6 n6 g6 b7 n7 g7 B U := fun U hU hW => ⟨kLit_give h.1 U hU hW, kS2_give h.2 hS hB U hU hW⟩
end
section
/-- a byte at a place, 0 behind the end -/
def kAt (b : Nat → Nat) (n p : Nat) : Nat := if p < n then b p else 0
/-- over blanks, so many at most -/
def kSk (b : Nat → Nat) (n : Nat) : Nat → Nat → Nat
  | 0, p => p
  | f + 1, p => if kAt b n p = 32 then kSk b n f (p + 1) else p
def kSp (b : Nat → Nat) (n p : Nat) : Nat := kSk b n 120 p
def kLk (b : Nat → Nat) (n p : Nat) : Nat := kAt b n (kSp b n p)
/-- ok, where it stands, what was written -/
abbrev kRes : Type := Bool × Nat × List Int32
def kTh (r : kRes) (k : Nat → List Int32 → kRes) : kRes := if r.1 then k r.2.1 r.2.2 else (false, r.2.1, [])
def kTk (b : Nat → Nat) (n c p : Nat) (l : List Int32) : kRes := if kLk b n p = c then (true, kSp b n p + 1, l) else (false, kSp b n p, [])
def kDg (c : Nat) : Bool := Nat.ble 48 c && Nat.ble c 57
theorem kDg_t {c : Nat} : kDg c = true ↔ 48 ≤ c ∧ c ≤ 57 := by
  unfold kDg
  rw [Bool.and_eq_true, Nat.ble_eq, Nat.ble_eq]
/-- up to so many digits -/
def kNumL (b : Nat → Nat) (n : Nat) : Nat → Nat → Nat → Nat × Nat
  | 0, p, v => (p, v)
  | f + 1, p, v => if kDg (kAt b n p) then kNumL b n f (p + 1) (v * 10 + (kAt b n p - 48)) else (p, v)
def kNum (b : Nat → Nat) (n p : Nat) : kRes := if kDg (kAt b n (kNumL b n 4 p 0).1) then (false, (kNumL b n 4 p 0).1, []) else (true, (kNumL b n 4 p 0).1, [nI (kNumL b n 4 p 0).2])
/-- where a sign stands in a text of n; n: nowhere -/
def kFd (g : Nat → Int32) (c : Int32) : Nat → Nat → Nat
  | 0, j => j
  | f + 1, j => if g j = c then j else kFd g c f (j + 1)
def kIx (g : Nat → Int32) (n : Nat) (c : Int32) : Nat := kFd g c n 0
def kAtomF (b : Nat → Nat) (n : Nat) (g : Nat → Int32) (m : Nat) (op : Bool) (sm : Nat → kRes) (p : Nat) : kRes :=
  if kLk b n p = 91 then (if op then kTh (sm (kSp b n p + 1)) (fun q l => kTk b n 93 q l) else (false, kSp b n p, []))
  else if kDg (kLk b n p) then kNum b n (kSp b n p)
  else if kIx g m (nI (kLk b n p)) < m then (true, kSp b n p + 1, [nI (10000 + kIx g m (nI (kLk b n p)))]) else (false, kSp b n p, [])
/-- while one of two signs stands there -/
def kLoop (b : Nat → Nat) (n c1 c2 : Nat) (a : Nat → kRes) : Nat → Nat → List Int32 → kRes
  | 0, p, l => (true, p, l)
  | f + 1, p, l => if kLk b n p = c1 ∨ kLk b n p = c2 then kTh (a (kSp b n p + 1)) (fun q m => kLoop b n c1 c2 a f q (l ++ m ++ [nI (20000 + kLk b n p)])) else (true, kSp b n p, l)
def kMany (b : Nat → Nat) (n c1 c2 : Nat) (a z : Nat → kRes) (p : Nat) : kRes := kTh (z p) (fun q l => kLoop b n c1 c2 a 120 q l)
def kSumF (b : Nat → Nat) (n : Nat) (a : Nat → kRes) (p : Nat) : kRes := kMany b n 43 45 (kMany b n 42 47 a a) (kMany b n 42 47 a a) p
def kAtomD (b : Nat → Nat) (n : Nat) (g : Nat → Int32) (m : Nat) : Nat → Nat → kRes
  | 0 => kAtomF b n g m false (fun p => (false, p, []))
  | e + 1 => kAtomF b n g m true (kSumF b n (kAtomD b n g m e))
def kTermD (b : Nat → Nat) (n : Nat) (g : Nat → Int32) (m e p : Nat) : kRes := kMany b n 42 47 (kAtomD b n g m e) (kAtomD b n g m e) p
def kSumD (b : Nat → Nat) (n : Nat) (g : Nat → Int32) (m e p : Nat) : kRes := kMany b n 43 45 (kTermD b n g m e) (kTermD b n g m e) p
def kCmp (b : Nat → Nat) (n : Nat) (g : Nat → Int32) (m e p : Nat) (l : List Int32) : kRes :=
  if kLk b n p = 61 ∨ kLk b n p = 60 ∨ kLk b n p = 62 then kTh (kSumD b n g m e (kSp b n p + 1)) (fun q k => (true, q, l ++ k ++ [nI (20000 + kLk b n p)])) else (false, kSp b n p, [])
def kUnitF (b : Nat → Nat) (n : Nat) (g : Nat → Int32) (m e : Nat) (op : Bool) (u c : Nat → kRes) (p : Nat) : kRes :=
  if kLk b n p = 33 then (if op then kTh (u (kSp b n p + 1)) (fun q l => (true, q, l ++ [20033])) else (false, kSp b n p, []))
  else if kLk b n p = 40 then (if op then kTh (c (kSp b n p + 1)) (fun q l => kTk b n 41 q l) else (false, kSp b n p, []))
  else kTh (kSumD b n g m e (kSp b n p)) (fun q l => kCmp b n g m e q l)
def kTruF (b : Nat → Nat) (n : Nat) (u z : Nat → kRes) (p : Nat) : kRes := kMany b n 38 38 u z p
def kConF (b : Nat → Nat) (n : Nat) (t z : Nat → kRes) (p : Nat) : kRes := kMany b n 124 124 t z p
def kUnitD (b : Nat → Nat) (n : Nat) (g : Nat → Int32) (m : Nat) : Nat → Nat → kRes
  | 0 => kUnitF b n g m 0 false (fun p => (false, p, [])) (fun p => (false, p, []))
  | e + 1 => kUnitF b n g m (e + 1) true (kUnitD b n g m e) (kConF b n (kTruF b n (kUnitD b n g m e) (kUnitD b n g m e)) (kTruF b n (kUnitD b n g m e) (kUnitD b n g m e)))
def kTruD (b : Nat → Nat) (n : Nat) (g : Nat → Int32) (m e p : Nat) : kRes := kTruF b n (kUnitD b n g m e) (kUnitD b n g m e) p
def kConD (b : Nat → Nat) (n : Nat) (g : Nat → Int32) (m e p : Nat) : kRes := kConF b n (kTruD b n g m e) (kTruD b n g m e) p
/-- the same where the first sum is read -/
def kUnitZ (b : Nat → Nat) (n : Nat) (g : Nat → Int32) (m e p : Nat) : kRes := kCmp b n g m e p []
def kTruZ (b : Nat → Nat) (n : Nat) (g : Nat → Int32) (m e p : Nat) : kRes := kTruF b n (kUnitD b n g m e) (kUnitZ b n g m e) p
def kConZ (b : Nat → Nat) (n : Nat) (g : Nat → Int32) (m e p : Nat) : kRes := kConF b n (kTruD b n g m e) (kTruZ b n g m e) p
theorem kLoop_e {b : Nat → Nat} {n c1 c2 : Nat} {a : Nat → kRes} {f p : Nat} {l : List Int32} (h : ¬ (kLk b n p = c1 ∨ kLk b n p = c2)) : kLoop b n c1 c2 a (f + 1) p l = (true, kSp b n p, l) := if_neg h
/-- a clause: ok, place, its steps, the label's number, how long the condition is -/
abbrev kClR : Type := Bool × Nat × List Int32 × Nat × Nat
def kThC (r : kRes) (k : Nat → List Int32 → kClR) : kClR := if r.1 then k r.2.1 r.2.2 else (false, r.2.1, [], 0, 0)
/-- behind a condition: '?' and the sum -/
def kCla2 (b : Nat → Nat) (n : Nat) (g : Nat → Int32) (m j p : Nat) (l : List Int32) : kClR :=
  kThC (kTk b n 63 p []) (fun q _ => kThC (kSumD b n g m 6 q) (fun q2 k => (true, q2, l ++ k, j, l.length)))
/-- behind the label -/
def kCla1 (b : Nat → Nat) (n : Nat) (g : Nat → Int32) (m j p : Nat) : kClR :=
  if kLk b n p = 33 ∨ kLk b n p = 40 then kThC (kConD b n g m 6 (kSp b n p)) (fun q l => kCla2 b n g m j q l)
  else kThC (kSumD b n g m 6 (kSp b n p)) (fun q l =>
    if kLk b n q = 61 ∨ kLk b n q = 60 ∨ kLk b n q = 62 then kThC (kConZ b n g m 6 (kSp b n q)) (fun q2 k => kCla2 b n g m j q2 (l ++ k))
    else (true, kSp b n q, l, j, 0))
def kCla (b : Nat → Nat) (n : Nat) (g6 : Nat → Int32) (n6 : Nat) (g : Nat → Int32) (m p : Nat) : kClR :=
  if kIx g6 n6 (nI (kLk b n p)) < n6 then kThC (kTk b n 58 (kSp b n p + 1) []) (fun q _ => kCla1 b n g m (kIx g6 n6 (nI (kLk b n p))) q)
  else (false, kSp b n p, [], 0, 0)
/-- a text: ok, the fault's place, all steps, the rows of the clauses -/
def kRdL (b : Nat → Nat) (n : Nat) (g6 : Nat → Int32) (n6 : Nat) (g : Nat → Int32) (m : Nat) : Nat → Nat → List Int32 → List Int32 → Bool × Nat × List Int32 × List Int32
  | 0, p, _, _ => (false, p, [], [])
  | f + 1, p, l, c =>
    if (kCla b n g6 n6 g m p).1 then
      (if kLk b n (kCla b n g6 n6 g m p).2.1 = 0 then (true, kSp b n (kCla b n g6 n6 g m p).2.1, l ++ (kCla b n g6 n6 g m p).2.2.1, c ++ [nI (kCla b n g6 n6 g m p).2.2.2.1, nI l.length, nI (l.length + (kCla b n g6 n6 g m p).2.2.2.2), nI (l.length + (kCla b n g6 n6 g m p).2.2.1.length)])
       else if kLk b n (kCla b n g6 n6 g m p).2.1 = 59 then kRdL b n g6 n6 g m f (kSp b n (kCla b n g6 n6 g m p).2.1 + 1) (l ++ (kCla b n g6 n6 g m p).2.2.1) (c ++ [nI (kCla b n g6 n6 g m p).2.2.2.1, nI l.length, nI (l.length + (kCla b n g6 n6 g m p).2.2.2.2), nI (l.length + (kCla b n g6 n6 g m p).2.2.1.length)])
       else (false, kSp b n (kCla b n g6 n6 g m p).2.1, [], []))
    else (false, (kCla b n g6 n6 g m p).2.1, [], [])
def kRead (b : Nat → Nat) (n : Nat) (g6 : Nat → Int32) (n6 : Nat) (g : Nat → Int32) (m : Nat) : Bool × Nat × List Int32 × List Int32 := kRdL b n g6 n6 g m 31 0 [] []
/-- behind a clause that stands: the end, or a semicolon and more -/
def kRdA (b : Nat → Nat) (n : Nat) (g6 : Nat → Int32) (n6 : Nat) (g : Nat → Int32) (m : Nat) (f q : Nat) (l c : List Int32) : Bool × Nat × List Int32 × List Int32 :=
  if kLk b n q = 0 then (true, kSp b n q, l, c) else if kLk b n q = 59 then kRdL b n g6 n6 g m f (kSp b n q + 1) l c else (false, kSp b n q, [], [])
theorem kRdL_t {b : Nat → Nat} {n : Nat} {g6 : Nat → Int32} {n6 : Nat} {g : Nat → Int32} {m f p q j k : Nat} {l c x : List Int32} (h : kCla b n g6 n6 g m p = (true, q, x, j, k)) : kRdL b n g6 n6 g m (f + 1) p l c = kRdA b n g6 n6 g m f q (l ++ x) (c ++ [nI j, nI l.length, nI (l.length + k), nI (l.length + x.length)]) := by
  unfold kRdL
  rw [h]
  rfl
theorem kRdL_f {b : Nat → Nat} {n : Nat} {g6 : Nat → Int32} {n6 : Nat} {g : Nat → Int32} {m f p q j k : Nat} {l c x : List Int32} (h : kCla b n g6 n6 g m p = (false, q, x, j, k)) : kRdL b n g6 n6 g m (f + 1) p l c = (false, q, [], []) := by
  unfold kRdL
  rw [h]
  rfl
theorem kRdA_0 {b : Nat → Nat} {n : Nat} {g6 : Nat → Int32} {n6 : Nat} {g : Nat → Int32} {m f q : Nat} {l c : List Int32} (h : kLk b n q = 0) : kRdA b n g6 n6 g m f q l c = (true, kSp b n q, l, c) := if_pos h
theorem kRdA_s {b : Nat → Nat} {n : Nat} {g6 : Nat → Int32} {n6 : Nat} {g : Nat → Int32} {m f q : Nat} {l c : List Int32} (h : kLk b n q = 59) : kRdA b n g6 n6 g m f q l c = kRdL b n g6 n6 g m f (kSp b n q + 1) l c := (if_neg (by omega)).trans (if_pos h)
theorem kRdA_f {b : Nat → Nat} {n : Nat} {g6 : Nat → Int32} {n6 : Nat} {g : Nat → Int32} {m f q : Nat} {l c : List Int32} (h : ¬ kLk b n q = 0) (h2 : ¬ kLk b n q = 59) : kRdA b n g6 n6 g m f q l c = (false, kSp b n q, [], []) := (if_neg h).trans (if_neg h2)
end
section
/-- a number within a million -/
def kClm (x : Int) : Int32 := Int32.ofInt (max (-1000000) (min 1000000 x))
/-- two numbers joined by a sign -/
def kJi (s l r : Int32) : Int :=
  if s = 43 then l.toInt + r.toInt else if s = 45 then l.toInt - r.toInt else if s = 42 then l.toInt * r.toInt
  else if s = 47 then (if r = 0 then 0 else (l / r).toInt) else if s = 61 then (if l = r then 1 else 0) else if s = 60 then (if l < r then 1 else 0)
  else if s = 62 then (if r < l then 1 else 0) else if s = 38 then (l &&& r).toInt else (l ||| r).toInt
def kJn (s l r : Int32) : Int32 := kClm (kJi s l r)
/-- what a step lays on the stack -/
def kStv (lt : Nat → Int32) (x : Int32) : Int32 := if x - 10000 < 0 then x else if x - 10000 < 8 then lt (Int32.toNatClampNeg (x - 10000)) else x
def kEv1 (lt : Nat → Int32) (x : Int32) (st : List Int32) : List Int32 :=
  if x < 20000 then kStv lt x :: st
  else if x = 20033 then (match st with
    | a :: r => (if a = 0 then 1 else 0) :: r
    | [] => [])
  else (match st with
    | b :: a :: r => kJn (x - 20000) a b :: r
    | r => r)
def kEv (lt : Nat → Int32) : List Int32 → List Int32 → List Int32
  | [], st => st
  | x :: l, st => kEv lt l (kEv1 lt x st)
theorem kEv_app (lt : Nat → Int32) (m : List Int32) : ∀ (l st : List Int32), kEv lt (l ++ m) st = kEv lt m (kEv lt l st) := by
  intro l
  induction l with
  | nil => intro st; rfl
  | cons x l ih => intro st; exact ih (kEv1 lt x st)
theorem kLt20 {v : Nat} (h : v < 20000) : nI v < 20000 := nI_lt (a := v) (b := 20000) h (by decide)
/-- a sum, as steps: how high it lays the stack -/
def kWn (M h : Nat) (l : List Int32) : Prop := ∀ P : Nat → List Int32 → Prop, (∀ v : Nat, v < 10000 → P 1 [nI v]) → (∀ k : Nat, k < M → k < 8 → P 1 [nI (10000 + k)]) → (∀ (a b s : Nat) (l m : List Int32), P a l → P b m → (s = 43 ∨ s = 45 ∨ s = 42 ∨ s = 47) → P (max a (b + 1)) (l ++ m ++ [nI (20000 + s)])) → P h l
theorem kWn.num {M v : Nat} (h : v < 10000) : kWn M 1 [nI v] := fun _ c1 _ _ => c1 v h
theorem kWn.ltr {M k : Nat} (h : k < M) (h8 : k < 8) : kWn M 1 [nI (10000 + k)] := fun _ _ c2 _ => c2 k h h8
theorem kWn.bin {M a b s : Nat} {l m : List Int32} (h1 : kWn M a l) (h2 : kWn M b m) (hs : (s = 43 ∨ s = 45 ∨ s = 42 ∨ s = 47)) : kWn M (max a (b + 1)) (l ++ m ++ [nI (20000 + s)]) := fun P c1 c2 c3 => c3 a b s l m (h1 P c1 c2 c3) (h2 P c1 c2 c3) hs
theorem kWn_ind {M : Nat} {P : Nat → List Int32 → Prop} (c1 : ∀ v : Nat, v < 10000 → P 1 [nI v]) (c2 : ∀ k : Nat, k < M → k < 8 → P 1 [nI (10000 + k)]) (c3 : ∀ (a b s : Nat) (l m : List Int32), kWn M a l → kWn M b m → (s = 43 ∨ s = 45 ∨ s = 42 ∨ s = 47) → P a l → P b m → P (max a (b + 1)) (l ++ m ++ [nI (20000 + s)])) {h : Nat} {l : List Int32} (w : kWn M h l) : P h l :=
  (w (fun h l => kWn M h l ∧ P h l) (fun v hv => ⟨kWn.num hv, c1 v hv⟩) (fun k hk h8 => ⟨kWn.ltr hk h8, c2 k hk h8⟩) (fun a b s l m x y hs => ⟨kWn.bin x.1 y.1 hs, c3 a b s l m x.1 y.1 hs x.2 y.2⟩)).2
/-- a condition, as steps -/
def kWb (M h : Nat) (l : List Int32) : Prop := ∀ P : Nat → List Int32 → Prop, (∀ (a b s : Nat) (l m : List Int32), kWn M a l → kWn M b m → (s = 61 ∨ s = 60 ∨ s = 62) → P (max a (b + 1)) (l ++ m ++ [nI (20000 + s)])) → (∀ (a : Nat) (l : List Int32), P a l → P a (l ++ [20033])) → (∀ (a b s : Nat) (l m : List Int32), P a l → P b m → (s = 38 ∨ s = 124) → P (max a (b + 1)) (l ++ m ++ [nI (20000 + s)])) → P h l
theorem kWb.cmp {M a b s : Nat} {l m : List Int32} (h1 : kWn M a l) (h2 : kWn M b m) (hs : (s = 61 ∨ s = 60 ∨ s = 62)) : kWb M (max a (b + 1)) (l ++ m ++ [nI (20000 + s)]) := fun _ c1 _ _ => c1 a b s l m h1 h2 hs
theorem kWb.neg {M a : Nat} {l : List Int32} (h1 : kWb M a l) : kWb M a (l ++ [20033]) := fun P c1 c2 c3 => c2 a l (h1 P c1 c2 c3)
theorem kWb.bin {M a b s : Nat} {l m : List Int32} (h1 : kWb M a l) (h2 : kWb M b m) (hs : (s = 38 ∨ s = 124)) : kWb M (max a (b + 1)) (l ++ m ++ [nI (20000 + s)]) := fun P c1 c2 c3 => c3 a b s l m (h1 P c1 c2 c3) (h2 P c1 c2 c3) hs
theorem kWb_ind {M : Nat} {P : Nat → List Int32 → Prop} (c1 : ∀ (a b s : Nat) (l m : List Int32), kWn M a l → kWn M b m → (s = 61 ∨ s = 60 ∨ s = 62) → P (max a (b + 1)) (l ++ m ++ [nI (20000 + s)])) (c2 : ∀ (a : Nat) (l : List Int32), kWb M a l → P a l → P a (l ++ [20033])) (c3 : ∀ (a b s : Nat) (l m : List Int32), kWb M a l → kWb M b m → (s = 38 ∨ s = 124) → P a l → P b m → P (max a (b + 1)) (l ++ m ++ [nI (20000 + s)])) {h : Nat} {l : List Int32} (w : kWb M h l) : P h l :=
  (w (fun h l => kWb M h l ∧ P h l) (fun a b s l m x y hs => ⟨kWb.cmp x y hs, c1 a b s l m x y hs⟩) (fun a l x => ⟨kWb.neg x.1, c2 a l x.1 x.2⟩) (fun a b s l m x y hs => ⟨kWb.bin x.1 y.1 hs, c3 a b s l m x.1 y.1 hs x.2 y.2⟩)).2
def kVal (lt : Nat → Int32) (l : List Int32) : Int32 := (kEv lt l []).headD 0
theorem kSgnF : ∀ s : Fin 128, ¬ nI (20000 + s.val) < 20000 ∧ nI (20000 + s.val) - 20000 = nI s.val ∧ (nI (20000 + s.val) = 20033 → s.val = 33) := by decide +kernel
theorem kEv1_s {lt : Nat → Int32} {s : Nat} {a b : Int32} {st : List Int32} (hs : s < 128) (h33 : ¬ s = 33) : kEv1 lt (nI (20000 + s)) (b :: a :: st) = kJn (nI s) a b :: st := by
  have h := kSgnF ⟨s, hs⟩
  unfold kEv1
  rw [if_neg h.1, if_neg (fun z => h33 (h.2.2 z)), h.2.1]
theorem kEv1_n {lt : Nat → Int32} {a : Int32} {st : List Int32} : kEv1 lt 20033 (a :: st) = (if a = 0 then 1 else 0) :: st := by
  unfold kEv1
  rw [if_neg (by decide), if_pos rfl]
theorem kEv_of {lt : Nat → Int32} {l : List Int32} (h : ∃ v : Int32, ∀ st : List Int32, kEv lt l st = v :: st) : ∀ st : List Int32, kEv lt l st = kVal lt l :: st := by
  obtain ⟨v, hv⟩ := h
  intro st
  unfold kVal
  rw [hv st, hv []]
  rfl
theorem kEv_join {lt : Nat → Int32} {l m : List Int32} {s : Nat} (h1 : ∀ st : List Int32, kEv lt l st = kVal lt l :: st) (h2 : ∀ st : List Int32, kEv lt m st = kVal lt m :: st) (hs : s < 128) (h33 : ¬ s = 33) : ∀ st : List Int32, kEv lt (l ++ m ++ [nI (20000 + s)]) st = kJn (nI s) (kVal lt l) (kVal lt m) :: st := by
  intro st
  rw [kEv_app, kEv_app, h1, h2]
  show kEv lt [] (kEv1 lt (nI (20000 + s)) (kVal lt m :: kVal lt l :: st)) = _
  rw [kEv1_s hs h33]
  rfl
theorem kWn_ev {lt : Nat → Int32} {M h : Nat} {l : List Int32} (w : kWn M h l) : ∀ st : List Int32, kEv lt l st = kVal lt l :: st := by
  refine kWn_ind (P := fun _ l => ∀ st : List Int32, kEv lt l st = kVal lt l :: st) ?_ ?_ ?_ w
  · intro v hv
    refine kEv_of ⟨kStv lt (nI v), fun st => ?_⟩
    show kEv lt [] (kEv1 lt (nI v) st) = _
    unfold kEv1
    rw [if_pos (kLt20 (by omega))]
    rfl
  · intro k hk h8
    refine kEv_of ⟨kStv lt (nI (10000 + k)), fun st => ?_⟩
    show kEv lt [] (kEv1 lt (nI (10000 + k)) st) = _
    unfold kEv1
    rw [if_pos (kLt20 (by omega))]
    rfl
  · intro a b s l m h1 h2 hs i1 i2
    exact kEv_of ⟨_, kEv_join i1 i2 (by omega) (by omega)⟩
theorem kWb_ev {lt : Nat → Int32} {M h : Nat} {l : List Int32} (w : kWb M h l) : ∀ st : List Int32, kEv lt l st = kVal lt l :: st := by
  refine kWb_ind (P := fun _ l => ∀ st : List Int32, kEv lt l st = kVal lt l :: st) ?_ ?_ ?_ w
  · intro a b s l m h1 h2 hs
    exact kEv_of ⟨_, kEv_join (kWn_ev h1) (kWn_ev h2) (by omega) (by omega)⟩
  · intro a l h1 i1
    refine kEv_of ⟨(if kVal lt l = 0 then 1 else 0), fun st => ?_⟩
    rw [kEv_app, i1]
    show kEv lt [] (kEv1 lt 20033 (kVal lt l :: st)) = _
    rw [kEv1_n]
    rfl
  · intro a b s l m h1 h2 hs i1 i2
    exact kEv_of ⟨_, kEv_join i1 i2 (by omega) (by omega)⟩
theorem kVal_num {lt : Nat → Int32} {v : Nat} (h : v < 20000) : kVal lt [nI v] = kStv lt (nI v) := by
  show (kEv lt [] (kEv1 lt (nI v) [])).headD 0 = _
  unfold kEv1
  rw [if_pos (kLt20 h)]
  rfl
theorem kVal_n {lt : Nat → Int32} {M a b s : Nat} {l m : List Int32} (h1 : kWn M a l) (h2 : kWn M b m) (hs : s < 128) (h33 : ¬ s = 33) : kVal lt (l ++ m ++ [nI (20000 + s)]) = kJn (nI s) (kVal lt l) (kVal lt m) := by
  show (kEv lt _ []).headD 0 = _
  rw [kEv_join (kWn_ev h1) (kWn_ev h2) hs h33]
  rfl
theorem kVal_b {lt : Nat → Int32} {M a b s : Nat} {l m : List Int32} (h1 : kWb M a l) (h2 : kWb M b m) (hs : s < 128) (h33 : ¬ s = 33) : kVal lt (l ++ m ++ [nI (20000 + s)]) = kJn (nI s) (kVal lt l) (kVal lt m) := by
  show (kEv lt _ []).headD 0 = _
  rw [kEv_join (kWb_ev h1) (kWb_ev h2) hs h33]
  rfl
theorem kVal_not {lt : Nat → Int32} {M a : Nat} {l : List Int32} (h1 : kWb M a l) : kVal lt (l ++ [20033]) = if kVal lt l = 0 then 1 else 0 := by
  show (kEv lt _ []).headD 0 = _
  rw [kEv_app, kWb_ev h1]
  show (kEv lt [] (kEv1 lt 20033 _)).headD 0 = _
  rw [kEv1_n]
  rfl
theorem kTh_i {r : kRes} {k : Nat → List Int32 → kRes} {q : Nat} {l : List Int32} (h : kTh r k = (true, q, l)) : ∃ (p : Nat) (x : List Int32), r = (true, p, x) ∧ k p x = (true, q, l) := by
  obtain ⟨o, p, x⟩ := r
  cases o with
  | true => exact ⟨p, x, rfl, h⟩
  | false => exact absurd (Prod.mk.inj (show ((false, p, []) : kRes) = (true, q, l) from h)).1 (by decide)
theorem kTk_i {b : Nat → Nat} {n c p q : Nat} {x l : List Int32} (h : kTk b n c p x = (true, q, l)) : l = x := by
  unfold kTk at h
  split at h
  · exact ((Prod.mk.inj (Prod.mk.inj h).2).2).symm
  · exact absurd (Prod.mk.inj h).1 (by decide)
/-- sums no higher than so much -/
def kHn (M H : Nat) (l : List Int32) : Prop := ∃ h : Nat, h ≤ H ∧ kWn M h l
def kHb (M H : Nat) (l : List Int32) : Prop := ∃ h : Nat, h ≤ H ∧ kWb M h l
def kRn (M H : Nat) (a : Nat → kRes) : Prop := ∀ (p q : Nat) (l : List Int32), a p = (true, q, l) → kHn M H l
def kRb (M H : Nat) (a : Nat → kRes) : Prop := ∀ (p q : Nat) (l : List Int32), a p = (true, q, l) → kHb M H l
theorem kHn_le {M : Nat} {H K : Nat} {l : List Int32} (h : kHn M H l) (hk : H ≤ K) : kHn M K l := by obtain ⟨x, h1, h2⟩ := h; exact ⟨x, by omega, h2⟩
theorem kHb_le {M : Nat} {H K : Nat} {l : List Int32} (h : kHb M H l) (hk : H ≤ K) : kHb M K l := by obtain ⟨x, h1, h2⟩ := h; exact ⟨x, by omega, h2⟩
theorem kHn_bin {M : Nat} {A H s : Nat} {l m : List Int32} (h1 : kHn M H l) (h2 : kHn M A m) (hA : A + 1 ≤ H) (hs : s = 43 ∨ s = 45 ∨ s = 42 ∨ s = 47) : kHn M H (l ++ m ++ [nI (20000 + s)]) := by
  obtain ⟨x, x1, x2⟩ := h1
  obtain ⟨y, y1, y2⟩ := h2
  exact ⟨max x (y + 1), by omega, kWn.bin x2 y2 hs⟩
theorem kHb_bin {M : Nat} {A H s : Nat} {l m : List Int32} (h1 : kHb M H l) (h2 : kHb M A m) (hA : A + 1 ≤ H) (hs : s = 38 ∨ s = 124) : kHb M H (l ++ m ++ [nI (20000 + s)]) := by
  obtain ⟨x, x1, x2⟩ := h1
  obtain ⟨y, y1, y2⟩ := h2
  exact ⟨max x (y + 1), by omega, kWb.bin x2 y2 hs⟩
theorem kLoop_n {M : Nat} {b : Nat → Nat} {n c1 c2 A H : Nat} {a : Nat → kRes} (ha : kRn M A a) (hA : A + 1 ≤ H) (hc1 : c1 = 43 ∨ c1 = 45 ∨ c1 = 42 ∨ c1 = 47) (hc2 : c2 = 43 ∨ c2 = 45 ∨ c2 = 42 ∨ c2 = 47) : ∀ (f p q : Nat) (l r : List Int32), kHn M H l → kLoop b n c1 c2 a f p l = (true, q, r) → kHn M H r := by
  intro f
  induction f with
  | zero => intro p q l r hl h; rw [← (Prod.mk.inj (Prod.mk.inj (show ((true, p, l) : kRes) = (true, q, r) from h)).2).2]; exact hl
  | succ f ih =>
    intro p q l r hl h
    by_cases z : kLk b n p = c1 ∨ kLk b n p = c2
    · have h2 : kTh (a (kSp b n p + 1)) (fun q m => kLoop b n c1 c2 a f q (l ++ m ++ [nI (20000 + kLk b n p)])) = (true, q, r) := (if_pos z).symm.trans h
      obtain ⟨p2, x, h3, h4⟩ := kTh_i h2
      exact ih p2 q _ r (kHn_bin hl (ha _ _ _ h3) hA (by omega)) h4
    · rw [kLoop_e z] at h
      rw [← (Prod.mk.inj (Prod.mk.inj h).2).2]; exact hl
theorem kLoop_b {M : Nat} {b : Nat → Nat} {n c A H : Nat} {a : Nat → kRes} (ha : kRb M A a) (hA : A + 1 ≤ H) (hc : c = 38 ∨ c = 124) : ∀ (f p q : Nat) (l r : List Int32), kHb M H l → kLoop b n c c a f p l = (true, q, r) → kHb M H r := by
  intro f
  induction f with
  | zero => intro p q l r hl h; rw [← (Prod.mk.inj (Prod.mk.inj (show ((true, p, l) : kRes) = (true, q, r) from h)).2).2]; exact hl
  | succ f ih =>
    intro p q l r hl h
    by_cases z : kLk b n p = c ∨ kLk b n p = c
    · have h2 : kTh (a (kSp b n p + 1)) (fun q m => kLoop b n c c a f q (l ++ m ++ [nI (20000 + kLk b n p)])) = (true, q, r) := (if_pos z).symm.trans h
      obtain ⟨p2, x, h3, h4⟩ := kTh_i h2
      exact ih p2 q _ r (kHb_bin hl (ha _ _ _ h3) hA (by omega)) h4
    · rw [kLoop_e z] at h
      rw [← (Prod.mk.inj (Prod.mk.inj h).2).2]; exact hl
theorem kMany_n {M : Nat} {b : Nat → Nat} {n c1 c2 A : Nat} {a z : Nat → kRes} (ha : kRn M A a) (hz : kRn M (A + 1) z) (hc1 : c1 = 43 ∨ c1 = 45 ∨ c1 = 42 ∨ c1 = 47) (hc2 : c2 = 43 ∨ c2 = 45 ∨ c2 = 42 ∨ c2 = 47) : kRn M (A + 1) (kMany b n c1 c2 a z) := by
  intro p q l h
  obtain ⟨p2, x, h1, h2⟩ := kTh_i h
  exact kLoop_n ha (Nat.le_refl _) hc1 hc2 120 p2 q x l (hz _ _ _ h1) h2
theorem kMany_b {M : Nat} {b : Nat → Nat} {n c A : Nat} {a z : Nat → kRes} (ha : kRb M A a) (hz : kRb M (A + 1) z) (hc : c = 38 ∨ c = 124) : kRb M (A + 1) (kMany b n c c a z) := by
  intro p q l h
  obtain ⟨p2, x, h1, h2⟩ := kTh_i h
  exact kLoop_b ha (Nat.le_refl _) hc 120 p2 q x l (hz _ _ _ h1) h2
theorem kRn_le {M : Nat} {H K : Nat} {a : Nat → kRes} (h : kRn M H a) (hk : H ≤ K) : kRn M K a := fun p q l e => kHn_le (h p q l e) hk
theorem kRb_le {M : Nat} {H K : Nat} {a : Nat → kRes} (h : kRb M H a) (hk : H ≤ K) : kRb M K a := fun p q l e => kHb_le (h p q l e) hk
theorem kNumL_v {b : Nat → Nat} {n : Nat} : ∀ (f p v c : Nat), v < 10 ^ c → (kNumL b n f p v).2 < 10 ^ (c + f) := by
  intro f
  induction f with
  | zero => intro p v c h; exact h
  | succ f ih =>
    intro p v c h
    unfold kNumL
    by_cases z : kDg (kAt b n p) = true
    · rw [if_pos z]
      have hz := kDg_t.mp z
      have h1 := ih (p + 1) (v * 10 + (kAt b n p - 48)) (c + 1) (by rw [Nat.pow_succ]; omega)
      rw [show c + (f + 1) = c + 1 + f by omega]
      exact h1
    · rw [if_neg z]
      exact Nat.lt_of_lt_of_le h (Nat.pow_le_pow_right (by decide) (by omega))
theorem kNum_w {M : Nat} {b : Nat → Nat} {n p q : Nat} {l : List Int32} (h : kNum b n p = (true, q, l)) : kHn M 1 l := by
  unfold kNum at h
  split at h
  · exact absurd (Prod.mk.inj h).1 (by decide)
  · rw [← (Prod.mk.inj (Prod.mk.inj h).2).2]
    have h1 := kNumL_v (b := b) (n := n) 4 p 0 0 (by decide)
    exact ⟨1, by omega, kWn.num h1⟩
theorem kAtomF_w {b : Nat → Nat} {n : Nat} {g : Nat → Int32} {m H : Nat} {op : Bool} {sm : Nat → kRes} (hs : kRn m H sm) (hm : m ≤ 8) (hH : 1 ≤ H) : kRn m H (kAtomF b n g m op sm) := by
  intro p q l h
  unfold kAtomF at h
  split at h
  · cases op with
    | false => exact absurd (Prod.mk.inj (show ((false, kSp b n p, []) : kRes) = (true, q, l) from h)).1 (by decide)
    | true =>
      obtain ⟨p2, x, h1, h2⟩ := kTh_i (show kTh (sm (kSp b n p + 1)) (fun q l => kTk b n 93 q l) = (true, q, l) from h)
      rw [kTk_i h2]
      exact hs _ _ _ h1
  · split at h
    · exact kHn_le (kNum_w h) hH
    · split at h
      · next hx =>
        rw [← (Prod.mk.inj (Prod.mk.inj h).2).2]
        exact ⟨1, hH, kWn.ltr hx (by omega)⟩
      · exact absurd (Prod.mk.inj h).1 (by decide)
theorem kFail_n (M H : Nat) : kRn M H (fun p => (false, p, [])) := fun _ _ _ h => absurd (Prod.mk.inj h).1 (by decide)
theorem kFail_b (M H : Nat) : kRb M H (fun p => (false, p, [])) := fun _ _ _ h => absurd (Prod.mk.inj h).1 (by decide)
theorem kSumF_w {M : Nat} {b : Nat → Nat} {n H : Nat} {a : Nat → kRes} (ha : kRn M H a) : kRn M (H + 2) (kSumF b n a) := by
  have h1 : kRn M (H + 1) (kMany b n 42 47 a a) := kMany_n ha (kRn_le ha (by omega)) (by omega) (by omega)
  exact kMany_n h1 (kRn_le h1 (by omega)) (by omega) (by omega)
theorem kAtomD_w {b : Nat → Nat} {n : Nat} {g : Nat → Int32} {m : Nat} (hm : m ≤ 8) : ∀ e, kRn m (2 * e + 1) (kAtomD b n g m e) := by
  intro e
  induction e with
  | zero => exact kAtomF_w (kFail_n m 1) hm (by omega)
  | succ e ih => exact kAtomF_w (kSumF_w ih) hm (by omega)
theorem kSumD_w {b : Nat → Nat} {n : Nat} {g : Nat → Int32} {m : Nat} (hm : m ≤ 8) (e : Nat) : kRn m (2 * e + 3) (kSumD b n g m e) := kSumF_w (kAtomD_w hm e)
theorem kCmp_w {b : Nat → Nat} {n : Nat} {g : Nat → Int32} {m : Nat} (hm : m ≤ 8) {e p q : Nat} {x l : List Int32} (hx : kHn m (2 * e + 3) x) (h : kCmp b n g m e p x = (true, q, l)) : kHb m (2 * e + 4) l := by
  unfold kCmp at h
  split at h
  · next hc =>
    obtain ⟨p2, y, h1, h2⟩ := kTh_i h
    obtain ⟨a, a1, a2⟩ := hx
    obtain ⟨c, c1, c2⟩ := kSumD_w hm e _ _ _ h1
    rw [← (Prod.mk.inj (Prod.mk.inj h2).2).2]
    exact ⟨max a (c + 1), by omega, kWb.cmp a2 c2 (by omega)⟩
  · exact absurd (Prod.mk.inj h).1 (by decide)
theorem kUnitF_w {b : Nat → Nat} {n : Nat} {g : Nat → Int32} {m : Nat} (hm : m ≤ 8) {e H : Nat} {op : Bool} {u c : Nat → kRes} (hu : kRb m H u) (hc : kRb m H c) (hH : 2 * e + 4 ≤ H) : kRb m H (kUnitF b n g m e op u c) := by
  intro p q l h
  unfold kUnitF at h
  split at h
  · cases op with
    | false => exact absurd (Prod.mk.inj (show ((false, kSp b n p, []) : kRes) = (true, q, l) from h)).1 (by decide)
    | true =>
      obtain ⟨p2, x, h1, h2⟩ := kTh_i (show kTh (u (kSp b n p + 1)) (fun q l => (true, q, l ++ [20033])) = (true, q, l) from h)
      obtain ⟨y, y1, y2⟩ := hu _ _ _ h1
      rw [← (Prod.mk.inj (Prod.mk.inj h2).2).2]
      exact ⟨y, y1, kWb.neg y2⟩
  · split at h
    · cases op with
      | false => exact absurd (Prod.mk.inj (show ((false, kSp b n p, []) : kRes) = (true, q, l) from h)).1 (by decide)
      | true =>
        obtain ⟨p2, x, h1, h2⟩ := kTh_i (show kTh (c (kSp b n p + 1)) (fun q l => kTk b n 41 q l) = (true, q, l) from h)
        rw [kTk_i h2]
        exact hc _ _ _ h1
    · obtain ⟨p2, x, h1, h2⟩ := kTh_i h
      exact kHb_le (kCmp_w hm (kSumD_w hm e _ _ _ h1) h2) hH
theorem kTruF_w {M : Nat} {b : Nat → Nat} {n H : Nat} {u z : Nat → kRes} (hu : kRb M H u) (hz : kRb M (H + 1) z) : kRb M (H + 1) (kTruF b n u z) := kMany_b hu hz (by omega)
theorem kConF_w {M : Nat} {b : Nat → Nat} {n H : Nat} {t z : Nat → kRes} (ht : kRb M H t) (hz : kRb M (H + 1) z) : kRb M (H + 1) (kConF b n t z) := kMany_b ht hz (by omega)
theorem kUnitD_w {b : Nat → Nat} {n : Nat} {g : Nat → Int32} {m : Nat} (hm : m ≤ 8) : ∀ e, kRb m (2 * e + 4) (kUnitD b n g m e) := by
  intro e
  induction e with
  | zero => exact kUnitF_w hm (kFail_b m 4) (kFail_b m 4) (by omega)
  | succ e ih =>
    have ht : kRb m (2 * e + 5) (kTruF b n (kUnitD b n g m e) (kUnitD b n g m e)) := kTruF_w ih (kRb_le ih (by omega))
    have hc : kRb m (2 * e + 6) (kConF b n (kTruF b n (kUnitD b n g m e) (kUnitD b n g m e)) (kTruF b n (kUnitD b n g m e) (kUnitD b n g m e))) := kConF_w ht (kRb_le ht (by omega))
    exact kUnitF_w hm (kRb_le ih (by omega)) hc (by omega)
theorem kTruD_w {b : Nat → Nat} {n : Nat} {g : Nat → Int32} {m : Nat} (hm : m ≤ 8) (e : Nat) : kRb m (2 * e + 5) (kTruD b n g m e) := kTruF_w (kUnitD_w hm e) (kRb_le (kUnitD_w hm e) (by omega))
theorem kConD_w {b : Nat → Nat} {n : Nat} {g : Nat → Int32} {m : Nat} (hm : m ≤ 8) (e : Nat) : kRb m (2 * e + 6) (kConD b n g m e) := kConF_w (kTruD_w hm e) (kRb_le (kTruD_w hm e) (by omega))
/-- within a million -/
def kBd (x : Int32) : Prop := -1000000 ≤ x.toInt ∧ x.toInt ≤ 1000000
theorem kBd0 : kBd 0 := by unfold kBd; decide
theorem kStv_n {lt : Nat → Int32} {v : Nat} (h : v < 10000) : kStv lt (nI v) = nI v := if_pos (pk_sneg (a := v) (b := 10000) (by omega) h)
theorem kStv_l {lt : Nat → Int32} {k : Nat} (h : k < 8) : kStv lt (nI (10000 + k)) = lt k := by
  have e : nI (10000 + k) - 10000 = nI k := (pk_sub (a := 10000 + k) (b := 10000) (by omega)).trans (congrArg nI (by omega))
  unfold kStv
  rw [e, if_neg (nI_pos (n := k) (by omega)), if_pos (show nI k < 8 from nI_lt (a := k) (b := 8) h (by decide)), nI_clamp (by omega)]
theorem kVal_nn {lt : Nat → Int32} {v : Nat} (h : v < 10000) : kVal lt [nI v] = nI v := (kVal_num (by omega)).trans (kStv_n h)
theorem kVal_ll {lt : Nat → Int32} {k : Nat} (h : k < 8) : kVal lt [nI (10000 + k)] = lt k := (kVal_num (by omega)).trans (kStv_l h)
/-- behind a sum that is read: what is laid upon it -/
def kWz (M h : Nat) (l : List Int32) : Prop := ∀ P : Nat → List Int32 → Prop, (∀ (b s : Nat) (m : List Int32), kWn M b m → (s = 61 ∨ s = 60 ∨ s = 62) → P (b + 1) ([] ++ m ++ [nI (20000 + s)])) → (∀ (a b s : Nat) (l m : List Int32), P a l → kWb M b m → (s = 38 ∨ s = 124) → P (max a (b + 1)) (l ++ m ++ [nI (20000 + s)])) → P h l
theorem kWz.cmp {M b s : Nat} {m : List Int32} (h2 : kWn M b m) (hs : (s = 61 ∨ s = 60 ∨ s = 62)) : kWz M (b + 1) ([] ++ m ++ [nI (20000 + s)]) := fun _ c1 _ => c1 b s m h2 hs
theorem kWz.bin {M a b s : Nat} {l m : List Int32} (h1 : kWz M a l) (h2 : kWb M b m) (hs : (s = 38 ∨ s = 124)) : kWz M (max a (b + 1)) (l ++ m ++ [nI (20000 + s)]) := fun P c1 c2 => c2 a b s l m (h1 P c1 c2) h2 hs
theorem kWz_ind {M : Nat} {P : Nat → List Int32 → Prop} (c1 : ∀ (b s : Nat) (m : List Int32), kWn M b m → (s = 61 ∨ s = 60 ∨ s = 62) → P (b + 1) ([] ++ m ++ [nI (20000 + s)])) (c2 : ∀ (a b s : Nat) (l m : List Int32), kWz M a l → kWb M b m → (s = 38 ∨ s = 124) → P a l → P (max a (b + 1)) (l ++ m ++ [nI (20000 + s)])) {h : Nat} {l : List Int32} (w : kWz M h l) : P h l :=
  (w (fun h l => kWz M h l ∧ P h l) (fun b s m x hs => ⟨kWz.cmp x hs, c1 b s m x hs⟩) (fun a b s l m x y hs => ⟨kWz.bin x.1 y hs, c2 a b s l m x.1 y hs x.2⟩)).2
/-- the same under a bound of the height -/
def kHz (M H : Nat) (l : List Int32) : Prop := ∃ h : Nat, h ≤ H ∧ kWz M h l
theorem kHz_le {M H K : Nat} {l : List Int32} (h : kHz M H l) (hk : H ≤ K) : kHz M K l := by obtain ⟨x, h1, h2⟩ := h; exact ⟨x, by omega, h2⟩
theorem kHz_bin {M A H s : Nat} {l m : List Int32} (h1 : kHz M H l) (h2 : kHb M A m) (hA : A + 1 ≤ H) (hs : s = 38 ∨ s = 124) : kHz M H (l ++ m ++ [nI (20000 + s)]) := by
  obtain ⟨x, x1, x2⟩ := h1
  obtain ⟨y, y1, y2⟩ := h2
  exact ⟨max x (y + 1), by omega, kWz.bin x2 y2 hs⟩
theorem kUnitZ_w {b : Nat → Nat} {n : Nat} {g : Nat → Int32} {m : Nat} (hm : m ≤ 8) {e p q : Nat} {l : List Int32} (h : kUnitZ b n g m e p = (true, q, l)) : kHz m (2 * e + 4) l := by
  unfold kUnitZ kCmp at h
  split at h
  · next hc =>
    obtain ⟨p2, y, h1, h2⟩ := kTh_i h
    obtain ⟨c, c1, c2⟩ := kSumD_w hm e _ _ _ h1
    rw [← (Prod.mk.inj (Prod.mk.inj h2).2).2]
    exact ⟨c + 1, by omega, kWz.cmp c2 (by omega)⟩
  · exact absurd (Prod.mk.inj h).1 (by decide)
theorem kLoop_zz {M : Nat} {b : Nat → Nat} {n c A H : Nat} {a : Nat → kRes} (ha : kRb M A a) (hA : A + 1 ≤ H) (hc : c = 38 ∨ c = 124) : ∀ (f p q : Nat) (l r : List Int32), kHz M H l → kLoop b n c c a f p l = (true, q, r) → kHz M H r := by
  intro f
  induction f with
  | zero => intro p q l r hl h; rw [← (Prod.mk.inj (Prod.mk.inj (show ((true, p, l) : kRes) = (true, q, r) from h)).2).2]; exact hl
  | succ f ih =>
    intro p q l r hl h
    by_cases z : kLk b n p = c ∨ kLk b n p = c
    · have h2 : kTh (a (kSp b n p + 1)) (fun q m => kLoop b n c c a f q (l ++ m ++ [nI (20000 + kLk b n p)])) = (true, q, r) := (if_pos z).symm.trans h
      obtain ⟨p2, x, h3, h4⟩ := kTh_i h2
      exact ih p2 q _ r (kHz_bin hl (ha _ _ _ h3) hA (by omega)) h4
    · rw [kLoop_e z] at h
      rw [← (Prod.mk.inj (Prod.mk.inj h).2).2]; exact hl
theorem kTruZ_w {b : Nat → Nat} {n : Nat} {g : Nat → Int32} {m : Nat} (hm : m ≤ 8) {e p q : Nat} {l : List Int32} (h : kTruZ b n g m e p = (true, q, l)) : kHz m (2 * e + 5) l := by
  obtain ⟨p2, x, h1, h2⟩ := kTh_i h
  exact kLoop_zz (kUnitD_w hm e) (Nat.le_refl _) (by omega) 120 p2 q x l (kHz_le (kUnitZ_w hm h1) (by omega)) h2
theorem kConZ_w {b : Nat → Nat} {n : Nat} {g : Nat → Int32} {m : Nat} (hm : m ≤ 8) {e p q : Nat} {l : List Int32} (h : kConZ b n g m e p = (true, q, l)) : kHz m (2 * e + 6) l := by
  obtain ⟨p2, x, h1, h2⟩ := kTh_i h
  exact kLoop_zz (kTruD_w hm e) (Nat.le_refl _) (by omega) 120 p2 q x l (kHz_le (kTruZ_w hm h1) (by omega)) h2
/-- the letters as the reference keeps them -/
def kLt (gE g7 : Nat → Int32) : Nat → Int32 := fun k => gE (Int32.toNatClampNeg (g7 k))
end
section
/-- a clause: its label's number, its condition, its sum -/
abbrev kTr : Type := Nat × List Int32 × List Int32
def kFl : List kTr → List Int32
  | [] => []
  | (_, c, m) :: r => c ++ m ++ kFl r
def kRw : Nat → List kTr → List Int32
  | _, [] => []
  | o, (j, c, m) :: r => [nI j, nI o, nI (o + c.length), nI (o + (c ++ m).length)] ++ kRw (o + (c ++ m).length) r
/-- what a text is worth under a label -/
def kWoT (lt : Nat → Int32) (lab : Nat) : List kTr → Int32
  | [] => 0
  | (j, c, m) :: r => if j = lab ∧ (c = [] ∨ ¬ kVal lt c = 0) then kVal lt m else kWoT lt lab r
/-- a clause that can be reckoned -/
def kGdC (N M : Nat) (z : kTr) : Prop := z.1 < N ∧ (z.2.1 = [] ∨ kHb M 18 z.2.1) ∧ kHn M 15 z.2.2
theorem kFl_app (b : List kTr) : ∀ a : List kTr, kFl (a ++ b) = kFl a ++ kFl b := by
  intro a
  induction a with
  | nil => rfl
  | cons z a ih =>
    obtain ⟨j, c, m⟩ := z
    show c ++ m ++ kFl (a ++ b) = c ++ m ++ kFl a ++ kFl b
    rw [ih]
    simp only [List.append_assoc]
theorem kRw_app (b : List kTr) : ∀ (a : List kTr) (o : Nat), kRw o (a ++ b) = kRw o a ++ kRw (o + (kFl a).length) b := by
  intro a
  induction a with
  | nil => intro o; rfl
  | cons z a ih =>
    intro o
    obtain ⟨j, c, m⟩ := z
    show _ ++ kRw _ (a ++ b) = (_ ++ kRw _ a) ++ kRw (o + (c ++ m ++ kFl a).length) b
    rw [ih, List.append_assoc, List.length_append (as := c ++ m) (bs := kFl a), Nat.add_assoc]
theorem kHb_z {M A H : Nat} {l k : List Int32} (h1 : kHn M A l) (h2 : kHz M H k) : kHb M (max A H) (l ++ k) := by
  obtain ⟨x, x1, x2⟩ := h1
  obtain ⟨y, y1, y2⟩ := h2
  have h3 : ∀ {y : Nat} {k : List Int32}, kWz M y k → kWb M (max x y) (l ++ k) := by
    intro y k w
    refine kWz_ind (P := fun y k => kWb M (max x y) (l ++ k)) ?_ ?_ w
    · intro b s m w2 hs
      rw [List.nil_append, ← List.append_assoc]
      exact kWb.cmp x2 w2 hs
    · intro a b s p m _ w2 hs ih
      have h4 := kWb.bin ih w2 hs
      rw [show l ++ (p ++ m ++ [nI (20000 + s)]) = l ++ p ++ m ++ [nI (20000 + s)] by simp only [List.append_assoc]]
      rw [show max x (max a (b + 1)) = max (max x a) (b + 1) by omega]
      exact h4
  exact ⟨max x y, by omega, h3 y2⟩
theorem kThC_i {r : kRes} {k : Nat → List Int32 → kClR} {q : Nat} {l : List Int32} {j m : Nat} (h : kThC r k = (true, q, l, j, m)) : ∃ (p : Nat) (x : List Int32), r = (true, p, x) ∧ k p x = (true, q, l, j, m) := by
  obtain ⟨o, p, x⟩ := r
  cases o with
  | true => exact ⟨p, x, rfl, h⟩
  | false => exact absurd (Prod.mk.inj (show ((false, p, [], 0, 0) : kClR) = (true, q, l, j, m) from h)).1 (by decide)
theorem kCla2_i {b : Nat → Nat} {n : Nat} {g : Nat → Int32} {m : Nat} (hm : m ≤ 8) {j p q i k : Nat} {l x : List Int32} (hl : kHb m 18 l) (h : kCla2 b n g m j p l = (true, q, x, i, k)) : ∃ c s : List Int32, x = c ++ s ∧ c.length = k ∧ i = j ∧ (c = [] ∨ kHb m 18 c) ∧ kHn m 15 s := by
  unfold kCla2 at h
  obtain ⟨p2, y, _, h2⟩ := kThC_i h
  obtain ⟨p3, z, h3, h4⟩ := kThC_i h2
  have e := Prod.mk.inj (Prod.mk.inj h4).2
  have e2 := Prod.mk.inj e.2
  have e3 := Prod.mk.inj e2.2
  exact ⟨l, z, e2.1.symm, e3.2, e3.1.symm, Or.inr hl, kSumD_w hm 6 _ _ _ h3⟩
theorem kCla_i {b : Nat → Nat} {n : Nat} {g6 : Nat → Int32} {n6 : Nat} {g : Nat → Int32} {m : Nat} (hm : m ≤ 8) {p q i k : Nat} {x : List Int32} (h : kCla b n g6 n6 g m p = (true, q, x, i, k)) : ∃ c s : List Int32, x = c ++ s ∧ c.length = k ∧ i = kIx g6 n6 (nI (kLk b n p)) ∧ i < n6 ∧ (c = [] ∨ kHb m 18 c) ∧ kHn m 15 s := by
  unfold kCla at h
  split at h
  · next hx =>
    obtain ⟨p2, y, _, h2⟩ := kThC_i h
    unfold kCla1 at h2
    split at h2
    · obtain ⟨p3, z, h3, h4⟩ := kThC_i h2
      obtain ⟨c, s, a1, a2, a3, a4, a5⟩ := kCla2_i hm (kConD_w hm 6 _ _ _ h3) h4
      exact ⟨c, s, a1, a2, a3, by rw [a3]; exact hx, a4, a5⟩
    · obtain ⟨p3, z, h3, h4⟩ := kThC_i h2
      split at h4
      · obtain ⟨p4, w, h5, h6⟩ := kThC_i h4
        obtain ⟨c, s, a1, a2, a3, a4, a5⟩ := kCla2_i hm (kHb_le (kHb_z (kSumD_w hm 6 _ _ _ h3) (kConZ_w hm h5)) (by omega)) h6
        exact ⟨c, s, a1, a2, a3, by rw [a3]; exact hx, a4, a5⟩
      · have e := Prod.mk.inj (Prod.mk.inj h4).2
        have e2 := Prod.mk.inj e.2
        have e3 := Prod.mk.inj e2.2
        exact ⟨[], z, e2.1.symm, e3.2, e3.1.symm, by rw [← e3.1]; exact hx, Or.inl rfl, kSumD_w hm 6 _ _ _ h3⟩
  · exact absurd (Prod.mk.inj h).1 (by decide)
/-- the clauses of a text, as they are read -/
def kTrA (t : List kTr) (x : List Int32) (j k : Nat) : List kTr := t ++ [(j, x.take k, x.drop k)]
def kRdT (b : Nat → Nat) (n : Nat) (g6 : Nat → Int32) (n6 : Nat) (g : Nat → Int32) (m : Nat) : Nat → Nat → List kTr → List kTr
  | 0, _, _ => []
  | f + 1, p, t =>
    if (kCla b n g6 n6 g m p).1 then
      (if kLk b n (kCla b n g6 n6 g m p).2.1 = 0 then kTrA t (kCla b n g6 n6 g m p).2.2.1 (kCla b n g6 n6 g m p).2.2.2.1 (kCla b n g6 n6 g m p).2.2.2.2
       else if kLk b n (kCla b n g6 n6 g m p).2.1 = 59 then kRdT b n g6 n6 g m f (kSp b n (kCla b n g6 n6 g m p).2.1 + 1) (kTrA t (kCla b n g6 n6 g m p).2.2.1 (kCla b n g6 n6 g m p).2.2.2.1 (kCla b n g6 n6 g m p).2.2.2.2)
       else [])
    else []
def kReadT (b : Nat → Nat) (n : Nat) (g6 : Nat → Int32) (n6 : Nat) (g : Nat → Int32) (m : Nat) : List kTr := kRdT b n g6 n6 g m 31 0 []
def kRdB (b : Nat → Nat) (n : Nat) (g6 : Nat → Int32) (n6 : Nat) (g : Nat → Int32) (m : Nat) (f q : Nat) (t : List kTr) : List kTr :=
  if kLk b n q = 0 then t else if kLk b n q = 59 then kRdT b n g6 n6 g m f (kSp b n q + 1) t else []
theorem kRdT_t {b : Nat → Nat} {n : Nat} {g6 : Nat → Int32} {n6 : Nat} {g : Nat → Int32} {m f p q j k : Nat} {x : List Int32} {t : List kTr} (h : kCla b n g6 n6 g m p = (true, q, x, j, k)) : kRdT b n g6 n6 g m (f + 1) p t = kRdB b n g6 n6 g m f q (kTrA t x j k) := by
  unfold kRdT
  rw [h]
  rfl
theorem kRdB_0 {b : Nat → Nat} {n : Nat} {g6 : Nat → Int32} {n6 : Nat} {g : Nat → Int32} {m f q : Nat} {t : List kTr} (h : kLk b n q = 0) : kRdB b n g6 n6 g m f q t = t := if_pos h
theorem kRdB_s {b : Nat → Nat} {n : Nat} {g6 : Nat → Int32} {n6 : Nat} {g : Nat → Int32} {m f q : Nat} {t : List kTr} (h : kLk b n q = 59) : kRdB b n g6 n6 g m f q t = kRdT b n g6 n6 g m f (kSp b n q + 1) t := (if_neg (by omega)).trans (if_pos h)
/-- what was read is the list of its clauses -/
theorem kRdL_T {b : Nat → Nat} {n : Nat} {g6 : Nat → Int32} {n6 : Nat} {g : Nat → Int32} {m : Nat} (hm : m ≤ 8) : ∀ (f p q : Nat) (l c x y : List Int32) (t : List kTr), l = kFl t → c = kRw 0 t → (∀ z ∈ t, kGdC n6 m z) → kRdL b n g6 n6 g m f p l c = (true, q, x, y) → x = kFl (kRdT b n g6 n6 g m f p t) ∧ y = kRw 0 (kRdT b n g6 n6 g m f p t) ∧ ∀ z ∈ kRdT b n g6 n6 g m f p t, kGdC n6 m z := by
  intro f
  induction f with
  | zero => intro p q l c x y t _ _ _ h; exact absurd (Prod.mk.inj h).1 (by decide)
  | succ f ih =>
    intro p q l c x y t hl hc ht h
    obtain ⟨o, p2, w, j, k, hK⟩ : ∃ (o : Bool) (p2 : Nat) (w : List Int32) (j k : Nat), kCla b n g6 n6 g m p = (o, p2, w, j, k) := ⟨_, _, _, _, _, rfl⟩
    cases o with
    | false => rw [kRdL_f hK] at h; exact absurd (Prod.mk.inj h).1 (by decide)
    | true =>
      rw [kRdL_t hK] at h
      rw [kRdT_t hK]
      obtain ⟨cc, s, e1, e2, e3, e4, e5, e6⟩ := kCla_i hm hK
      have hT : kTrA t w j k = t ++ [(j, cc, s)] := by
        unfold kTrA
        rw [e1, ← e2, List.take_left, List.drop_left]
      have hl2 : l ++ w = kFl (t ++ [(j, cc, s)]) := by
        rw [kFl_app, ← hl, e1]
        show _ = l ++ (cc ++ s ++ [])
        rw [List.append_nil]
      have hc2 : c ++ [nI j, nI l.length, nI (l.length + k), nI (l.length + w.length)] = kRw 0 (t ++ [(j, cc, s)]) := by
        rw [kRw_app, ← hc, ← hl, Nat.zero_add, e1, ← e2]
        rfl
      have ht2 : ∀ z ∈ t ++ [(j, cc, s)], kGdC n6 m z := by
        intro z hz
        rcases List.mem_append.mp hz with hz | hz
        · exact ht z hz
        · rw [List.mem_singleton.mp hz]; exact ⟨e4, e5, e6⟩
      rw [hT]
      by_cases h0 : kLk b n p2 = 0
      · rw [kRdA_0 h0] at h
        have a1 := Prod.mk.inj (Prod.mk.inj h).2
        have a2 := Prod.mk.inj a1.2
        rw [kRdB_0 h0]
        exact ⟨by rw [← a2.1]; exact hl2, by rw [← a2.2]; exact hc2, ht2⟩
      · by_cases h59 : kLk b n p2 = 59
        · rw [kRdA_s h59] at h
          rw [kRdB_s h59]
          exact ih _ q _ _ x y _ hl2 hc2 ht2 h
        · rw [kRdA_f h0 h59] at h
          exact absurd (Prod.mk.inj h).1 (by decide)
theorem kRead_T {b : Nat → Nat} {n : Nat} {g6 : Nat → Int32} {n6 : Nat} {g : Nat → Int32} {m : Nat} (hm : m ≤ 8) {q : Nat} {x y : List Int32} (h : kRead b n g6 n6 g m = (true, q, x, y)) : x = kFl (kReadT b n g6 n6 g m) ∧ y = kRw 0 (kReadT b n g6 n6 g m) ∧ ∀ z ∈ kReadT b n g6 n6 g m, kGdC n6 m z := kRdL_T hm 31 0 q [] [] x y [] rfl rfl (fun z hz => absurd hz List.not_mem_nil) h
/-- letters that a text doesn't name don't matter -/
theorem kVal_cn {l1 l2 : Nat → Int32} {M : Nat} (hl : ∀ k : Nat, k < M → l1 k = l2 k) {h : Nat} {l : List Int32} (w : kWn M h l) : kVal l1 l = kVal l2 l := by
  refine kWn_ind (P := fun _ l => kVal l1 l = kVal l2 l) ?_ ?_ ?_ w
  · intro v hv; rw [kVal_nn hv, kVal_nn hv]
  · intro k hk h8; rw [kVal_ll h8, kVal_ll h8, hl k hk]
  · intro a b s l m h1 h2 hs i1 i2; rw [kVal_n h1 h2 (by omega) (by omega), kVal_n h1 h2 (by omega) (by omega), i1, i2]
theorem kVal_cb {l1 l2 : Nat → Int32} {M : Nat} (hl : ∀ k : Nat, k < M → l1 k = l2 k) {h : Nat} {l : List Int32} (w : kWb M h l) : kVal l1 l = kVal l2 l := by
  refine kWb_ind (P := fun _ l => kVal l1 l = kVal l2 l) ?_ ?_ ?_ w
  · intro a b s l m h1 h2 hs; rw [kVal_n h1 h2 (by omega) (by omega), kVal_n h1 h2 (by omega) (by omega), kVal_cn hl h1, kVal_cn hl h2]
  · intro a l h1 i1; rw [kVal_not h1, kVal_not h1, i1]
  · intro a b s l m h1 h2 hs i1 i2; rw [kVal_b h1 h2 (by omega) (by omega), kVal_b h1 h2 (by omega) (by omega), i1, i2]
theorem kWoT_c {l1 l2 : Nat → Int32} {N M lab : Nat} (hl : ∀ k : Nat, k < M → l1 k = l2 k) : ∀ t : List kTr, (∀ z ∈ t, kGdC N M z) → kWoT l1 lab t = kWoT l2 lab t := by
  intro t
  induction t with
  | nil => intro _; rfl
  | cons z t ih =>
    intro h
    obtain ⟨j, c, m⟩ := z
    have h0 := h (j, c, m) List.mem_cons_self
    have hm : kVal l1 m = kVal l2 m := by obtain ⟨x, _, hx⟩ := h0.2.2; exact kVal_cn hl hx
    have hc : (c = [] ∨ ¬ kVal l1 c = 0) ↔ (c = [] ∨ ¬ kVal l2 c = 0) := by
      rcases h0.2.1 with e | ⟨x, _, hx⟩
      · have e' : c = [] := e
        exact ⟨fun _ => Or.inl e', fun _ => Or.inl e'⟩
      · have hx' : kVal l1 c = kVal l2 c := kVal_cb hl hx
        rw [hx']
    show (if j = lab ∧ (c = [] ∨ ¬ kVal l1 c = 0) then kVal l1 m else kWoT l1 lab t) = (if j = lab ∧ (c = [] ∨ ¬ kVal l2 c = 0) then kVal l2 m else kWoT l2 lab t)
    rw [ih (fun z hz => h z (List.mem_cons_of_mem _ hz)), hm]
    by_cases q : j = lab ∧ (c = [] ∨ ¬ kVal l1 c = 0)
    · rw [if_pos q, if_pos ⟨q.1, hc.mp q.2⟩]
    · rw [if_neg q, if_neg (fun y => q ⟨y.1, hc.mpr y.2⟩)]
/-- what the reference has found of a text, clause by clause -/
def kFo1 (lt g6 : Nat → Int32) (lb : Int32) (z : kTr) (s : Int32 × Int32) : Int32 × Int32 := if s.2 = 0 ∧ g6 z.1 = lb ∧ (z.2.1 = [] ∨ ¬ kVal lt z.2.1 = 0) then (kVal lt z.2.2, 1) else s
def kFo (lt g6 : Nat → Int32) (lb : Int32) : List kTr → Int32 × Int32 → Int32 × Int32
  | [], s => s
  | z :: r, s => kFo lt g6 lb r (kFo1 lt g6 lb z s)
theorem kFo_has {lt g6 : Nat → Int32} {lb : Int32} : ∀ (t : List kTr) {s : Int32 × Int32}, ¬ s.2 = 0 → kFo lt g6 lb t s = s := by
  intro t
  induction t with
  | nil => intro s _; rfl
  | cons z t ih =>
    intro s h
    have e : kFo1 lt g6 lb z s = s := if_neg (fun y => h y.1)
    show kFo lt g6 lb t (kFo1 lt g6 lb z s) = s
    rw [e]
    exact ih h
theorem kFo_wo {lt g6 : Nat → Int32} {lb : Int32} {lab : Nat} : ∀ t : List kTr, (∀ z ∈ t, (g6 z.1 = lb ↔ z.1 = lab)) → (kFo lt g6 lb t (0, 0)).1 = kWoT lt lab t := by
  intro t
  induction t with
  | nil => intro _; rfl
  | cons z t ih =>
    intro h
    obtain ⟨j, c, m⟩ := z
    have h0 := h (j, c, m) List.mem_cons_self
    have h1 := ih (fun z hz => h z (List.mem_cons_of_mem _ hz))
    show (kFo lt g6 lb t (kFo1 lt g6 lb (j, c, m) (0, 0))).1 = (if j = lab ∧ (c = [] ∨ ¬ kVal lt c = 0) then kVal lt m else kWoT lt lab t)
    by_cases q : j = lab ∧ (c = [] ∨ ¬ kVal lt c = 0)
    · rw [if_pos q]
      have e : kFo1 lt g6 lb (j, c, m) (0, 0) = (kVal lt m, 1) := if_pos ⟨rfl, h0.mpr q.1, q.2⟩
      rw [e, kFo_has t (by show ¬ (1 : Int32) = 0; decide)]
    · rw [if_neg q]
      have e : kFo1 lt g6 lb (j, c, m) (0, 0) = (0, 0) := if_neg (fun y => q ⟨h0.mp y.2.1, y.2.2⟩)
      rw [e]
      exact h1
end
section
theorem nI_or (a b : Nat) : nI a ||| nI b = nI (a ||| b) := Int32.toBitVec_inj.mp (by show BitVec.ofNat 32 a ||| BitVec.ofNat 32 b = BitVec.ofNat 32 (a ||| b); exact BitVec.ofNat_or.symm)
theorem kShlF : ∀ k : Fin 31, (1 : Int32) <<< (nI k.val &&& 31) = nI (2 ^ k.val) := by decide +kernel
theorem kShl {n : Nat} (h : n < 31) : (1 : Int32) <<< (nI n &&& 31) = nI (2 ^ n) := kShlF ⟨n, h⟩
theorem kNzr {r E : Int32} (h : r = E) (c : ¬ r = 0) : ¬ E = 0 := fun z => c (h.trans z)
theorem kZr {r E : Int32} (h : r = E) (c : r = 0) : E = 0 := h.symm.trans c
def kPn (p : Int32) (k : Nat) : Int32 := if p < 0 then 0 else if p < nI k then 1 else 0
def kIsB (a b : Int32) : Int32 := if (a >>> (b &&& 31)) &&& 1 = 0 then 0 else 1
end
section
/-- a sum over those of whom c holds -/
def kSm (c : Nat → Bool) (f : Nat → Int32) : Nat → Int32
  | 0 => 0
  | n + 1 => if c n then kSm c f n + f n else kSm c f n
theorem kSm_t {c : Nat → Bool} {f : Nat → Int32} {n : Nat} (h : c n = true) : kSm c f (n + 1) = kSm c f n + f n := if_pos h
theorem kSm_f {c : Nat → Bool} {f : Nat → Int32} {n : Nat} (h : ¬ c n = true) : kSm c f (n + 1) = kSm c f n := if_neg h
/-- all but one, and that one -/
def kBut (j : Nat) (c : Nat → Bool) : Nat → Bool := fun o => decide (¬ o = j) && c o
theorem kAddI {a b : Int32} (h1 : -2147483648 ≤ a.toInt + b.toInt) (h2 : a.toInt + b.toInt < 2147483648) : (a + b).toInt = a.toInt + b.toInt := by
  rw [Int32.toInt_add]
  exact Int.bmod_eq_of_le (by omega) (by omega)
theorem kSm_b {c : Nat → Bool} {f : Nat → Int32} {M : Nat} (hM : M ≤ 1000) : ∀ n : Nat, n ≤ 20 → (∀ o : Nat, o < n → 0 ≤ (f o).toInt ∧ (f o).toInt ≤ M) → 0 ≤ (kSm c f n).toInt ∧ (kSm c f n).toInt ≤ M * n := by
  intro n
  induction n with
  | zero => intro _ _; exact ⟨by show (0 : Int) ≤ (0 : Int32).toInt; decide, by show (0 : Int32).toInt ≤ _; rw [show (0 : Int32).toInt = 0 by decide]; omega⟩
  | succ n ih =>
    intro hn h
    have e := ih (by omega) (fun o ho => h o (by omega))
    have hf := h n (by omega)
    have hq : (M : Int) * (n + 1 : Nat) = M * n + M := by rw [Int.natCast_add, Int.mul_add]; simp
    have hmn : (M : Int) * n ≤ 20000 := by
      have : M * n ≤ 1000 * 20 := Nat.mul_le_mul hM (by omega)
      have h9 : ((M * n : Nat) : Int) ≤ 20000 := by omega
      rw [Int.natCast_mul] at h9
      exact h9
    by_cases z : c n = true
    · rw [kSm_t z, kAddI (by omega) (by omega), hq]
      omega
    · rw [kSm_f z, hq]
      omega
/-- a run: what each holds, what it has put in, where it is, since when it tells, what was drawn, the hour -/
abbrev kRst : Type := (Nat → Int32) × (Nat → Int32) × (Nat → Int32) × (Nat → Int32) × Int64 × Nat
/-- what a run goes by: how many persons, how many words, whom each knows, the words, who is sent, who is there, the law -/
abbrev kEn : Type := Nat × Nat × (Nat → Int32) × (Nat → Int32) × (Nat → Int32) × (Nat → Int32) × List kTr
/-- there, and in a house -/
def kIh (E : kEn) (S : kRst) (q : Int32) : Nat → Bool := fun o => decide (¬ E.2.2.2.2.2.1 o = 0) && decide (S.2.2.1 o = q)
def kNn (E : kEn) (S : kRst) (j : Nat) : Int32 := if S.2.2.1 j = -1 then 0 else kSm (kBut j (kIh E S (S.2.2.1 j))) (fun _ => 1) E.1
def kNh (E : kEn) (S : kRst) (j : Nat) : Int32 := if S.2.2.1 j = -1 then 0 else kSm (kBut j (kIh E S (S.2.2.1 j))) S.1 E.1
def kNse (E : kEn) (S : kRst) (j : Nat) : Int32 := if S.2.2.1 j = -1 then 0 else kSm (kBut j (kIh E S (S.2.2.1 j))) E.2.2.2.2.1 E.1
/-- the words that are past, and the latest of them -/
def kPa (f : Nat → Int32) (h : Int32) : Nat → Bool := fun i => decide (f i ≤ h)
def kLa (f : Nat → Int32) (h : Int32) : Nat → Int32
  | 0 => -1
  | n + 1 => if f n ≤ h then (if kLa f h n < f n then f n else kLa f h n) else kLa f h n
def kUu (E : kEn) (S : kRst) : Int32 := kSm (kPa E.2.2.2.1 (nI S.2.2.2.2.2)) (fun _ => 1) E.2.1
def kDd (E : kEn) (S : kRst) : Int32 := if kLa E.2.2.2.1 (nI S.2.2.2.2.2) E.2.1 = -1 then 0 else nI S.2.2.2.2.2 - kLa E.2.2.2.1 (nI S.2.2.2.2.2) E.2.1
/-- the letters of one -/
def kLe (E : kEn) (S : kRst) (j : Nat) : Nat → Int32 := fun k => if k = 0 then S.1 j else if k = 1 then S.2.1 j else if k = 2 then kNn E S j else if k = 3 then (if kNn E S j = 0 then 0 else kNh E S j / kNn E S j) else if k = 4 then kNse E S j else if k = 5 then kUu E S else if k = 6 then kDd E S else nI S.2.2.2.2.2
/-- what a label is worth to one -/
def kYy (E : kEn) (S : kRst) (lab j : Nat) : Int32 := kWoT (kLe E S j) lab E.2.2.2.2.2.2
def kFr (E : kEn) (j : Nat) : Bool := decide (¬ E.2.2.2.2.2.1 j = 0) && decide (E.2.2.2.2.1 j = 0)
theorem kFr_t {E : kEn} {j : Nat} : kFr E j = true ↔ ¬ E.2.2.2.2.2.1 j = 0 ∧ E.2.2.2.2.1 j = 0 := by
  unfold kFr
  rw [Bool.and_eq_true, decide_eq_true_iff, decide_eq_true_iff]
def kWi (x : Int32) : Int32 := if x < 0 then 0 else if 100 < x then 100 else x
theorem kWi_b (x : Int32) : 0 ≤ (kWi x).toInt ∧ (kWi x).toInt ≤ 100 := by
  unfold kWi
  have h100 : (100 : Int32).toInt = 100 := by decide
  have h0 : (0 : Int32).toInt = 0 := by decide
  split
  · rw [h0]; omega
  · next h1 =>
    split
    · rw [h100]; omega
    · next h2 =>
      have h3 : ¬ x.toInt < (0 : Int32).toInt := fun z => h1 (Int32.lt_iff_toInt_lt.mpr z)
      have h4 : ¬ (100 : Int32).toInt < x.toInt := fun z => h2 (Int32.lt_iff_toInt_lt.mpr z)
      omega
/-- behind the law's more or less -/
def kH1 (E : kEn) (S : kRst) (j : Nat) : Int32 := if kFr E j then kWi (S.1 j + kYy E S 0 j) else S.1 j
def kTe (E : kEn) (S : kRst) (j : Nat) : Bool := kFr E j && decide (50 ≤ kH1 E S j)
def kT1 (E : kEn) (S : kRst) (j : Nat) : Int32 := if kTe E S j then (if S.2.2.2.1 j = -1 then nI S.2.2.2.2.2 else S.2.2.2.1 j) else S.2.2.2.1 j
def kNr (S : kRst) (j k : Nat) : Bool := decide (¬ S.2.2.1 j = -1) && decide (S.2.2.1 j = S.2.2.1 k)
/-- whether one tells another -/
def kTn (E : kEn) (S : kRst) (k : Nat) : Nat → Bool := fun j => kTe E S j && (decide (¬ kIsB (E.2.2.1 j) (nI k) = 0) && !kNr S j k)
def kHe (E : kEn) (S : kRst) (k n : Nat) : Int32 := kSm (kTn E S k) (fun j => kYy E S 2 j) n
def kH2 (E : kEn) (S : kRst) (j : Nat) : Int32 := if kFr E j then kWi (kH1 E S j + kHe E S j E.1) else kH1 E S j
def kDr (x : Int64) : Int64 := x * 6364136223846793005 + 1442695040888963407
def kRv (x : Int64) : Int64 := (x.toUInt64 >>> ((33 : Int32).toInt64.toUInt64 &&& Int64.toUInt64 63)).toInt64
def kRm (x : Int64) : Int64 := kRv x - kRv x / 100 * 100
def kGo (x : Int64) (g : Int32) : Bool := decide (lg_cmp (kRm x) (Int32.toInt64 g) < 0)
def kMay (E : kEn) (S : kRst) (j : Nat) : Bool := kFr E j && decide (¬ S.2.2.1 j = -1)
theorem kMay_t {E : kEn} {S : kRst} {j : Nat} : kMay E S j = true ↔ kFr E j = true ∧ ¬ S.2.2.1 j = -1 := by
  unfold kMay
  rw [Bool.and_eq_true, decide_eq_true_iff]
def kGh (E : kEn) (S : kRst) : Nat → Int64 × (Nat → Int32)
  | 0 => (S.2.2.2.2.1, S.2.2.1)
  | n + 1 => if kMay E S n then (kDr (kGh E S n).1, if kGo (kDr (kGh E S n).1) (kYy E S 1 n) then upd (kGh E S n).2 n (-1) else (kGh E S n).2) else kGh E S n
theorem kGh_or {E : kEn} {S : kRst} : ∀ n q : Nat, (kGh E S n).2 q = S.2.2.1 q ∨ (kGh E S n).2 q = -1 := by
  intro n
  induction n with
  | zero => intro q; exact Or.inl rfl
  | succ n ih =>
    intro q
    have e := ih q
    unfold kGh
    split
    · show (if kGo (kDr (kGh E S n).1) (kYy E S 1 n) then upd (kGh E S n).2 n (-1) else (kGh E S n).2) q = _ ∨ (if kGo (kDr (kGh E S n).1) (kYy E S 1 n) then upd (kGh E S n).2 n (-1) else (kGh E S n).2) q = _
      split
      · by_cases z : q = n
        · exact Or.inr (by rw [z, pk_us])
        · rw [pk_un z]; exact e
      · exact e
    · exact e
/-- one hour -/
def kStp (E : kEn) (S : kRst) : kRst := (kH2 E S, S.2.1, (kGh E S E.1).2, kT1 E S, (kGh E S E.1).1, S.2.2.2.2.2 + 1)
def kIt (E : kEn) : Nat → kRst → kRst
  | 0, S => S
  | n + 1, S => kStp E (kIt E n S)
theorem kIt_hr (E : kEn) (S : kRst) : ∀ n : Nat, (kIt E n S).2.2.2.2.2 = S.2.2.2.2.2 + n := by
  intro n
  induction n with
  | zero => rfl
  | succ n ih => show (kIt E n S).2.2.2.2.2 + 1 = _; rw [ih]; omega
/-- within bounds -/
def kOk (ks : Nat) (S : kRst) : Prop := ∀ j : Nat, j < ks → (0 ≤ (S.1 j).toInt ∧ (S.1 j).toInt ≤ 100) ∧ (0 ≤ (S.2.1 j).toInt ∧ (S.2.1 j).toInt ≤ 99) ∧ (S.2.2.1 j = -1 ∨ ∃ v : Nat, v < 4 ∧ S.2.2.1 j = nI v)
theorem kOk_stp {E : kEn} {S : kRst} {ks : Nat} (h : kOk ks S) : kOk ks (kStp E S) := by
  intro j hj
  obtain ⟨h1, h2, h3⟩ := h j hj
  refine ⟨?_, h2, ?_⟩
  · show 0 ≤ (kH2 E S j).toInt ∧ (kH2 E S j).toInt ≤ 100
    unfold kH2
    split
    · exact kWi_b _
    · unfold kH1
      split
      · exact kWi_b _
      · exact h1
  · show (kGh E S E.1).2 j = -1 ∨ ∃ v : Nat, v < 4 ∧ (kGh E S E.1).2 j = nI v
    rcases kGh_or (E := E) (S := S) E.1 j with e | e
    · rw [e]; exact h3
    · exact Or.inl e
theorem kOk_it {E : kEn} {S : kRst} {ks : Nat} (h : kOk ks S) : ∀ n : Nat, kOk ks (kIt E n S) := by
  intro n
  induction n with
  | zero => exact h
  | succ n ih => exact kOk_stp ih
/-- arrays that hold a run -/
def kRp (ks : Nat) (S : kRst) (h p l t : Nat → Int32) : Prop := ∀ j : Nat, j < ks → h j = S.1 j ∧ p j = S.2.1 j ∧ l j = S.2.2.1 j ∧ t j = S.2.2.2.1 j
theorem kIsB_01 (a b : Int32) : kIsB a b = 0 ∨ kIsB a b = 1 := by unfold kIsB; split; exact Or.inl rfl; exact Or.inr rfl
theorem kDivB {a b : Int32} {M : Int} (ha : 0 ≤ a.toInt ∧ a.toInt ≤ M) (hM : M ≤ 1000000) : -1000000 ≤ (a / b).toInt ∧ (a / b).toInt ≤ 1000000 := by
  have hd : (a.toInt.tdiv b.toInt).natAbs ≤ a.toInt.natAbs := by rw [Int.natAbs_tdiv]; exact Nat.div_le_self _ _
  have h : (a / b).toInt = a.toInt.tdiv b.toInt := by
    rw [Int32.toInt_div]
    exact Int.bmod_eq_of_le (by omega) (by omega)
  rw [h]
  omega
theorem kSm_ge {c : Nat → Bool} {f : Nat → Int32} {n : Nat} (hn : n ≤ 20) (h : ∀ o : Nat, o < n → 0 ≤ (f o).toInt ∧ (f o).toInt ≤ 1000) : kBd (kSm c f n) := by
  have e := kSm_b (c := c) (M := 1000) (Nat.le_refl _) n hn h
  unfold kBd
  omega
theorem kBd_n {v : Nat} (h : v ≤ 1000000) : kBd (nI v) := by
  unfold kBd
  rw [nI_toInt (by omega)]
  omega
theorem kLa_b {f : Nat → Int32} {h : Int32} : ∀ n : Nat, (∀ i : Nat, i < n → 0 ≤ (f i).toInt ∧ (f i).toInt ≤ 47) → -1 ≤ (kLa f h n).toInt ∧ (kLa f h n).toInt ≤ 47 := by
  intro n
  induction n with
  | zero => intro _; exact (by decide : -1 ≤ (-1 : Int32).toInt ∧ (-1 : Int32).toInt ≤ 47)
  | succ n ih =>
    intro hf
    have e := ih (fun i hi => hf i (by omega))
    have e2 := hf n (by omega)
    unfold kLa
    split
    · split
      · omega
      · exact e
    · exact e
/-- a run's letters are small -/
theorem kLe_b {E : kEn} {S : kRst} {j : Nat} (hk : E.1 ≤ 10) (hw : E.2.1 ≤ 4) (hr : S.2.2.2.2.2 ≤ 48) (ho : kOk E.1 S) (hj : j < E.1) (hs : ∀ o : Nat, E.2.2.2.2.1 o = 0 ∨ E.2.2.2.2.1 o = 1) (hf : ∀ i : Nat, i < E.2.1 → 0 ≤ (E.2.2.2.1 i).toInt ∧ (E.2.2.2.1 i).toInt ≤ 47) : ∀ k : Nat, kBd (kLe E S j k) := by
  intro k
  obtain ⟨h1, h2, _⟩ := ho j hj
  have h11 : (1 : Int32).toInt = 1 := by decide
  have h10 : (0 : Int32).toInt = 0 := by decide
  have hh : ∀ c : Nat → Bool, 0 ≤ (kSm c S.1 E.1).toInt ∧ (kSm c S.1 E.1).toInt ≤ (100 : Nat) * E.1 := fun c => kSm_b (M := 100) (by decide) E.1 (by omega) (fun o ho2 => by have := (ho o ho2).1; omega)
  unfold kLe
  split
  · unfold kBd; omega
  · split
    · unfold kBd; omega
    · split
      · unfold kNn
        split
        · exact kBd0
        · exact kSm_ge (by omega) (fun o _ => by rw [h11]; omega)
      · split
        · split
          · exact kBd0
          · unfold kNh
            split
            · exact kDivB (M := 0) (by rw [h10]; omega) (by omega)
            · have := hh (kBut j (kIh E S (S.2.2.1 j)))
              exact kDivB (M := 1000) (by omega) (by omega)
        · split
          · unfold kNse
            split
            · exact kBd0
            · exact kSm_ge (by omega) (fun o _ => by rcases hs o with z | z <;> (rw [z]; omega))
          · split
            · unfold kUu
              exact kSm_ge (by omega) (fun o _ => by rw [h11]; omega)
            · split
              · unfold kDd
                split
                · exact kBd0
                · have e := kLa_b (h := nI S.2.2.2.2.2) E.2.1 hf
                  have e2 := nI_toInt (n := S.2.2.2.2.2) (by omega)
                  unfold kBd
                  have e3 : (nI S.2.2.2.2.2 - kLa E.2.2.2.1 (nI S.2.2.2.2.2) E.2.1).toInt = (nI S.2.2.2.2.2).toInt - (kLa E.2.2.2.1 (nI S.2.2.2.2.2) E.2.1).toInt := by
                    rw [Int32.toInt_sub]
                    exact Int.bmod_eq_of_le (by omega) (by omega)
                  rw [e3]
                  omega
              · exact kBd_n (by omega)
/-- everybody, and those who are there -/
def kEvb (ks : Nat) : Int32 := ((1 : Int32) <<< (nI ks &&& 31)) - 1
def kPrs (ks : Nat) (ab : Int32) : Int32 := kEvb ks &&& (ab ^^^ (-1))
abbrev kE0 (ks kw : Nat) (g3 g4 : Nat → Int32) (sv : Nat) (pr : Int32) (t : List kTr) : kEn := (ks, kw, g3, g4, (fun j => kIsB (nI sv) (nI j)), (fun j => kIsB pr (nI j)), t)
abbrev kS0 (g0 g1 g2 : Nat → Int32) (x : Int64) : kRst := (g0, g1, g2, (fun _ => -1), x, 0)
theorem kSh1 (x : BitVec 32) (n : Nat) (hb : x.getLsbD n = true) (h : n < 32) : (x.sshiftRight n) &&& 1#32 = 1#32 := by
  ext i hi
  simp only [BitVec.getElem_and, BitVec.getElem_sshiftRight]
  by_cases h0 : i = 0
  · subst h0
    rw [dif_pos (by omega)]
    have e1 : x[n + 0] = true := by
      show x[n] = true
      rw [← BitVec.getLsbD_eq_getElem]; exact hb
    rw [e1]; rfl
  · have h2 : (1#32)[i] = false := by
      rw [← BitVec.getLsbD_eq_getElem]
      have : ∀ j : Fin 32, j.val ≠ 0 → (1#32).getLsbD j.val = false := by decide
      exact this ⟨i, hi⟩ h0
    rw [h2, Bool.and_false]
theorem kSh0 (x : BitVec 32) (n : Nat) (hb : x.getLsbD n = false) (h : n < 32) : (x.sshiftRight n) &&& 1#32 = 0#32 := by
  ext i hi
  simp only [BitVec.getElem_and, BitVec.getElem_sshiftRight, BitVec.getElem_zero]
  by_cases h0 : i = 0
  · subst h0
    rw [dif_pos (by omega)]
    have e1 : x[n + 0] = false := by
      show x[n] = false
      rw [← BitVec.getLsbD_eq_getElem]; exact hb
    rw [e1]; rfl
  · have h2 : (1#32)[i] = false := by
      rw [← BitVec.getLsbD_eq_getElem]
      have : ∀ j : Fin 32, j.val ≠ 0 → (1#32).getLsbD j.val = false := by decide
      exact this ⟨i, hi⟩ h0
    rw [h2, Bool.and_false]
theorem kAn31 : ∀ k : Fin 32, nI k.val &&& 31 = nI k.val := by decide +kernel
theorem kSm32 : ∀ k : Fin 32, ((nI k.val).toBitVec.smod 32#32).toNat = k.val := by decide +kernel
theorem kShB (x : Int32) {j : Nat} (hj : j < 32) : (x >>> (nI j &&& 31) &&& 1).toBitVec = (x.toBitVec.sshiftRight j) &&& 1#32 := by
  rw [kAn31 ⟨j, hj⟩]
  show (BitVec.sshiftRight x.toBitVec ((nI j).toBitVec.smod 32#32).toNat) &&& 1#32 = _
  rw [kSm32 ⟨j, hj⟩]
theorem kIsB_bit (x : Int32) {j : Nat} (hj : j < 32) : (kIsB x (nI j) = 0 ↔ x.toBitVec.getLsbD j = false) := by
  unfold kIsB
  cases hb : x.toBitVec.getLsbD j with
  | false =>
    have e : x >>> (nI j &&& 31) &&& 1 = 0 := Int32.toBitVec_inj.mp (by rw [kShB x hj]; exact kSh0 _ _ hb hj)
    rw [if_pos e]
    exact ⟨fun _ => rfl, fun _ => rfl⟩
  | true =>
    have e : x >>> (nI j &&& 31) &&& 1 = 1 := Int32.toBitVec_inj.mp (by rw [kShB x hj]; exact kSh1 _ _ hb hj)
    have e2 : ¬ x >>> (nI j &&& 31) &&& 1 = 0 := fun z => absurd (e.symm.trans z) (by decide)
    rw [if_neg e2]
    exact ⟨fun z => absurd z (by decide), fun z => absurd z (by decide)⟩
theorem kIsB_and {a b : Int32} {j : Nat} (hj : j < 32) : (¬ kIsB (a &&& (b ^^^ (-1))) (nI j) = 0 ↔ ¬ kIsB a (nI j) = 0 ∧ kIsB b (nI j) = 0) := by
  rw [kIsB_bit _ hj, kIsB_bit _ hj, kIsB_bit _ hj]
  have e1 : (a &&& (b ^^^ (-1))).toBitVec = a.toBitVec &&& (b.toBitVec ^^^ BitVec.allOnes 32) := rfl
  rw [e1, BitVec.getLsbD_and, BitVec.getLsbD_xor, BitVec.getLsbD_allOnes, decide_eq_true hj]
  cases a.toBitVec.getLsbD j <;> cases b.toBitVec.getLsbD j <;> decide
theorem kEvb_n {ks : Nat} (h : ks ≤ 10) : kEvb ks = nI (2 ^ ks - 1) := by
  unfold kEvb
  rw [kShl (by omega)]
  exact pk_sub (a := 2 ^ ks) (b := 1) (Nat.one_le_two_pow)
theorem kP10x {n : Nat} (h : n ≤ 10) : 2 ^ n ≤ 1024 := (Nat.pow_le_pow_right (by decide) h : 2 ^ n ≤ 2 ^ 10)
theorem kEvb_b {ks j : Nat} (h : ks ≤ 10) (hj : j < 32) : (kEvb ks).toBitVec.getLsbD j = decide (j < ks) := by
  rw [kEvb_n h]
  show (BitVec.ofNat 32 (2 ^ ks - 1)).getLsbD j = _
  rw [BitVec.getLsbD_ofNat, decide_eq_true hj, Bool.true_and, Nat.testBit_two_pow_sub_one]
/-- those of whom c holds, as bits -/
def kBts (c : Nat → Bool) : Nat → Nat
  | 0 => 0
  | n + 1 => if c n then kBts c n ||| 2 ^ n else kBts c n
theorem kBts_t {c : Nat → Bool} {n : Nat} (h : c n = true) : kBts c (n + 1) = kBts c n ||| 2 ^ n := if_pos h
theorem kBts_f {c : Nat → Bool} {n : Nat} (h : ¬ c n = true) : kBts c (n + 1) = kBts c n := if_neg h
theorem kBtsU {c : Nat → Bool} {i : Nat} {x y z : Int32} (hi : i < 31) (hx : x = nI (kBts c i)) (hc : c i = true) (ey : y = (1 : Int32) <<< (nI i &&& 31)) (ez : z = x ||| y) : z = nI (kBts c (i + 1)) := by
  rw [kBts_t hc, ez, hx, ey, kShl hi, nI_or]
theorem kPrs0 (ks : Nat) : kPrs ks 0 = kEvb ks := by
  unfold kPrs
  apply Int32.toBitVec_inj.mp
  show (kEvb ks).toBitVec &&& (0#32 ^^^ BitVec.allOnes 32) = (kEvb ks).toBitVec
  rw [BitVec.zero_xor, BitVec.and_allOnes]
theorem kPrs0_b {ks j : Nat} (h : ks ≤ 10) (hj : j < ks) : ¬ kIsB (kPrs ks 0) (nI j) = 0 := by
  rw [kPrs0, kIsB_bit _ (by omega), kEvb_b h (by omega), decide_eq_true hj]
  decide
/-- whether there is a worth to tell; which -/
def kWoE (kl ks : Nat) (p0 p1 p2 : Int32) : Int32 := if kPn p0 kl = 0 then 1 else if kIn p1 0 2 = 0 then 1 else if kPn p2 ks = 0 then 1 else 0
def kWoV (kl ks kw : Nat) (g0 g1 g2 g3 g4 : Nat → Int32) (sv : Nat) (yL : Nat → List kTr) (p0 p1 p2 : Int32) : Int32 := kYy (kE0 ks kw g3 g4 sv (kPrs ks 0) (yL (Int32.toNatClampNeg p0))) (kS0 g0 g1 g2 0) (Int32.toNatClampNeg p1) (Int32.toNatClampNeg p2)
/-- one more who may go: in how many ways so many go -/
def kWs (w : Nat → Int64) (c : Int32) : Nat → Int64 := fun i => w i * (100 - Int32.toInt64 c) + (if i = 0 then 0 else w (i - 1) * Int32.toInt64 c)
theorem kWs_c {w w2 : Nat → Int64} {c c2 : Int32} (h : ∀ q : Nat, q ≤ 8 → w q = w2 q) (hc : c = c2) : ∀ q : Nat, q ≤ 8 → kWs w c q = kWs w2 c2 q := fun q hq => by
  unfold kWs
  rw [h q hq, hc]
  by_cases z : q = 0
  · rw [if_pos z, if_pos z]
  · rw [if_neg z, if_neg z, h (q - 1) (by omega)]
def kWy (E : kEn) (S : kRst) : Nat → Nat → Int64
  | 0 => fun i => if i = 0 then 1 else 0
  | n + 1 => if kMay E S n then kWs (kWy E S n) (kWi (kYy E S 1 n)) else kWy E S n
theorem kWy_t {E : kEn} {S : kRst} {n : Nat} (h : kMay E S n = true) : kWy E S (n + 1) = kWs (kWy E S n) (kWi (kYy E S 1 n)) := if_pos h
theorem kWy_f {E : kEn} {S : kRst} {n : Nat} (h : ¬ kMay E S n = true) : kWy E S (n + 1) = kWy E S n := if_neg h
def kMc (E : kEn) (S : kRst) : Nat → Nat
  | 0 => 0
  | n + 1 => if kMay E S n then kMc E S n + 1 else kMc E S n
theorem kMc_t {E : kEn} {S : kRst} {n : Nat} (h : kMay E S n = true) : kMc E S (n + 1) = kMc E S n + 1 := if_pos h
theorem kMc_f {E : kEn} {S : kRst} {n : Nat} (h : ¬ kMay E S n = true) : kMc E S (n + 1) = kMc E S n := if_neg h
def kOdV (E : kEn) (S : kRst) (n k : Nat) : Int64 := if 8 < kMc E S n then -1 else kWy E S n k
def kOdA (kl ks kw : Nat) (g0 g1 g2 g3 g4 : Nat → Int32) (sv : Nat) (yL : Nat → List kTr) (p0 : Int32) (p1 : Int64) (p2 p3 : Int32) : Int64 := if kPn p0 kl = 0 then -1 else if kIn p2 0 47 = 0 then -1 else if kIn p3 0 8 = 0 then -1 else kOdV (kE0 ks kw g3 g4 sv (kPrs ks 0) (yL (Int32.toNatClampNeg p0))) (kIt (kE0 ks kw g3 g4 sv (kPrs ks 0) (yL (Int32.toNatClampNeg p0))) (Int32.toNatClampNeg p2) (kS0 g0 g1 g2 p1)) ks (Int32.toNatClampNeg p3)
/-- who sat alone: nobody else so far in the same house -/
def kAlR (g : Nat → Int32) (j : Nat) : Nat → Bool
  | 0 => true
  | k + 1 => kAlR g j k && (decide (k = j) || decide (¬ g k = g j))
theorem kAlR_s {g : Nat → Int32} {j n : Nat} (h : n = j ∨ ¬ g n = g j) : kAlR g j (n + 1) = kAlR g j n := by
  show (kAlR g j n && (decide (n = j) || decide (¬ g n = g j))) = kAlR g j n
  rcases h with z | z
  · rw [decide_eq_true z, Bool.true_or, Bool.and_true]
  · rw [decide_eq_true z, Bool.or_true, Bool.and_true]
theorem kAlR_n {g : Nat → Int32} {j n : Nat} (h : ¬ n = j) (h2 : g n = g j) : ¬ kAlR g j (n + 1) = true := by
  show ¬ (kAlR g j n && (decide (n = j) || decide (¬ g n = g j))) = true
  rw [decide_eq_false h, decide_eq_false (fun z => z h2), Bool.or_false, Bool.and_false]
  decide
theorem kAlR_m {g : Nat → Int32} {j a : Nat} : ∀ n : Nat, a ≤ n → kAlR g j n = true → kAlR g j a = true := by
  intro n
  induction n with
  | zero => intro h h2; rw [show a = 0 by omega]; rfl
  | succ n ih =>
    intro h h2
    by_cases z : a = n + 1
    · rw [z]; exact h2
    · have h3 : (kAlR g j n && (decide (n = j) || decide (¬ g n = g j))) = true := h2
      rw [Bool.and_eq_true] at h3
      exact ih (by omega) h3.1
theorem kAlR_c {g g2 : Nat → Int32} {j m : Nat} (hj : j < m) (H : ∀ o : Nat, o < m → g o = g2 o) : ∀ n : Nat, n ≤ m → kAlR g j n = kAlR g2 j n := by
  intro n
  induction n with
  | zero => intro _; rfl
  | succ n ih =>
    intro h
    show (kAlR g j n && (decide (n = j) || decide (¬ g n = g j))) = (kAlR g2 j n && (decide (n = j) || decide (¬ g2 n = g2 j)))
    rw [ih (by omega), H n (by omega), H j hj]
/-- whether a note is so in a run -/
def kSoB (S : kRst) (p k v o : Int32) : Bool := if k = 0 then decide ((if 0 ≤ S.1 (Int32.toNatClampNeg p) - v then S.1 (Int32.toNatClampNeg p) - v else 0 - (S.1 (Int32.toNatClampNeg p) - v)) ≤ o) else decide (S.2.2.1 (Int32.toNatClampNeg p) = v)
theorem kSoH {S : kRst} {p k v o a x r v1 o1 k1 : Int32} {j : Nat} (hj : j < 2 ^ 31) (hp : p = nI j) (hk : k1 = k) (hk0 : k1 = 0) (ea : a = if 0 ≤ x then x else 0 - x) (ex : x = r - v1) (hr : r = S.1 j) (hv : v1 = v) (ho : o1 = o) : (kSoB S p k v o = true ↔ a ≤ o1) := by
  unfold kSoB
  rw [if_pos (hk.symm.trans hk0), hp, nI_clamp hj, decide_eq_true_iff, ea, ex, hr, hv, ho]
theorem kSoP {S : kRst} {p k v o r v1 k1 : Int32} {j : Nat} (hj : j < 2 ^ 31) (hp : p = nI j) (hk : k1 = k) (hk0 : ¬ k1 = 0) (hr : r = S.2.2.1 j) (hv : v1 = v) : (kSoB S p k v o = true ↔ r = v1) := by
  unfold kSoB
  rw [if_neg (fun z => hk0 (hk.trans z)), hp, nI_clamp hj, decide_eq_true_iff, hr, hv]
/-- whether the notes of an hour are so -/
def kAgB (S : kRst) (cb : Nat → Bool) (q0 q1 q2 q3 q4 : Nat → Int32) (h : Int32) : Nat → Bool
  | 0 => true
  | n + 1 => kAgB S cb q0 q1 q2 q3 q4 h n && (!(decide (q1 n = h) && cb n) || kSoB S (q0 n) (q2 n) (q3 n) (q4 n))
theorem kAg_t {S : kRst} {cb : Nat → Bool} {q0 q1 q2 q3 q4 : Nat → Int32} {h : Int32} {n : Nat} (h1 : q1 n = h → cb n = true → kSoB S (q0 n) (q2 n) (q3 n) (q4 n) = true) (h2 : kAgB S cb q0 q1 q2 q3 q4 h n = true) : kAgB S cb q0 q1 q2 q3 q4 h (n + 1) = true := by
  show (kAgB S cb q0 q1 q2 q3 q4 h n && (!(decide (q1 n = h) && cb n) || kSoB S (q0 n) (q2 n) (q3 n) (q4 n))) = true
  rw [h2, Bool.true_and]
  by_cases z : q1 n = h
  · cases y : cb n with
    | true => rw [h1 z y, Bool.or_true]
    | false => rw [Bool.and_false]; rfl
  · rw [decide_eq_false z, Bool.false_and]; rfl
theorem kAg_f {S : kRst} {cb : Nat → Bool} {q0 q1 q2 q3 q4 : Nat → Int32} {h : Int32} {n : Nat} (h1 : q1 n = h) (hc : cb n = true) (h2 : ¬ kSoB S (q0 n) (q2 n) (q3 n) (q4 n) = true) : ¬ kAgB S cb q0 q1 q2 q3 q4 h (n + 1) = true := by
  show ¬ (kAgB S cb q0 q1 q2 q3 q4 h n && (!(decide (q1 n = h) && cb n) || kSoB S (q0 n) (q2 n) (q3 n) (q4 n))) = true
  rw [decide_eq_true h1, hc, Bool.eq_false_iff.mpr h2]
  simp
theorem kAg_m {S : kRst} {cb : Nat → Bool} {q0 q1 q2 q3 q4 : Nat → Int32} {h : Int32} {a : Nat} : ∀ n : Nat, a ≤ n → kAgB S cb q0 q1 q2 q3 q4 h n = true → kAgB S cb q0 q1 q2 q3 q4 h a = true := by
  intro n
  induction n with
  | zero => intro h1 h2; rw [show a = 0 by omega]; rfl
  | succ n ih =>
    intro h1 h2
    by_cases z : a = n + 1
    · rw [z]; exact h2
    · have h3 : (kAgB S cb q0 q1 q2 q3 q4 h n && (!(decide (q1 n = h) && cb n) || kSoB S (q0 n) (q2 n) (q3 n) (q4 n))) = true := h2
      rw [Bool.and_eq_true] at h3
      exact ih (by omega) h3.1
theorem kAg_c {S : kRst} {cb cb2 : Nat → Bool} {q0 q1 q2 q3 q4 r0 r1 r2 r3 r4 : Nat → Int32} {h : Int32} : ∀ n : Nat, (∀ k : Nat, k < n → cb k = cb2 k ∧ q0 k = r0 k ∧ q1 k = r1 k ∧ q2 k = r2 k ∧ q3 k = r3 k ∧ q4 k = r4 k) → kAgB S cb q0 q1 q2 q3 q4 h n = kAgB S cb2 r0 r1 r2 r3 r4 h n := by
  intro n
  induction n with
  | zero => intro _; rfl
  | succ n ih =>
    intro H
    obtain ⟨e0, e1, e2, e3, e4, e5⟩ := H n (by omega)
    show (kAgB S cb q0 q1 q2 q3 q4 h n && (!(decide (q1 n = h) && cb n) || kSoB S (q0 n) (q2 n) (q3 n) (q4 n))) = (kAgB S cb2 r0 r1 r2 r3 r4 h n && (!(decide (r1 n = h) && cb2 n) || kSoB S (r0 n) (r2 n) (r3 n) (r4 n)))
    rw [ih (fun k hk => H k (by omega)), e0, e1, e2, e3, e4, e5]
/-- whether the notes of the first hours are so -/
def kNtB (E : kEn) (S : kRst) (cb : Nat → Bool) (q0 q1 q2 q3 q4 : Nat → Int32) (kn : Nat) : Nat → Bool
  | 0 => true
  | n + 1 => kNtB E S cb q0 q1 q2 q3 q4 kn n && kAgB (kIt E n S) cb q0 q1 q2 q3 q4 (nI n) kn
theorem kNt_t {E : kEn} {S : kRst} {cb : Nat → Bool} {q0 q1 q2 q3 q4 : Nat → Int32} {kn n : Nat} (h : kNtB E S cb q0 q1 q2 q3 q4 kn n = true) (h2 : kAgB (kIt E n S) cb q0 q1 q2 q3 q4 (nI n) kn = true) : kNtB E S cb q0 q1 q2 q3 q4 kn (n + 1) = true := by
  show (kNtB E S cb q0 q1 q2 q3 q4 kn n && kAgB (kIt E n S) cb q0 q1 q2 q3 q4 (nI n) kn) = true
  rw [h, h2]; rfl
theorem kNt_f {E : kEn} {S : kRst} {cb : Nat → Bool} {q0 q1 q2 q3 q4 : Nat → Int32} {kn n : Nat} (h2 : ¬ kAgB (kIt E n S) cb q0 q1 q2 q3 q4 (nI n) kn = true) : ¬ kNtB E S cb q0 q1 q2 q3 q4 kn (n + 1) = true := by
  show ¬ (kNtB E S cb q0 q1 q2 q3 q4 kn n && kAgB (kIt E n S) cb q0 q1 q2 q3 q4 (nI n) kn) = true
  rw [Bool.and_eq_true]
  exact fun z => h2 z.2
theorem kNt_m {E : kEn} {S : kRst} {cb : Nat → Bool} {q0 q1 q2 q3 q4 : Nat → Int32} {kn a : Nat} : ∀ n : Nat, a ≤ n → kNtB E S cb q0 q1 q2 q3 q4 kn n = true → kNtB E S cb q0 q1 q2 q3 q4 kn a = true := by
  intro n
  induction n with
  | zero => intro h1 h2; rw [show a = 0 by omega]; rfl
  | succ n ih =>
    intro h1 h2
    by_cases z : a = n + 1
    · rw [z]; exact h2
    · have h3 : (kNtB E S cb q0 q1 q2 q3 q4 kn n && kAgB (kIt E n S) cb q0 q1 q2 q3 q4 (nI n) kn) = true := h2
      rw [Bool.and_eq_true] at h3
      exact ih (by omega) h3.1
theorem kNt_c {E : kEn} {S : kRst} {cb cb2 : Nat → Bool} {q0 q1 q2 q3 q4 r0 r1 r2 r3 r4 : Nat → Int32} {kn : Nat} (H : ∀ k : Nat, k < kn → cb k = cb2 k ∧ q0 k = r0 k ∧ q1 k = r1 k ∧ q2 k = r2 k ∧ q3 k = r3 k ∧ q4 k = r4 k) : ∀ n : Nat, kNtB E S cb q0 q1 q2 q3 q4 kn n = kNtB E S cb2 r0 r1 r2 r3 r4 kn n := by
  intro n
  induction n with
  | zero => rfl
  | succ n ih =>
    show (kNtB E S cb q0 q1 q2 q3 q4 kn n && kAgB (kIt E n S) cb q0 q1 q2 q3 q4 (nI n) kn) = (kNtB E S cb2 r0 r1 r2 r3 r4 kn n && kAgB (kIt E n S) cb2 r0 r1 r2 r3 r4 (nI n) kn)
    rw [ih, kAg_c kn H]
/-- of whom the notes are asked: of all, or of those who sat alone -/
def kAbN (w : Int32) (g q0 : Nat → Int32) (ks : Nat) : Nat → Bool := fun n => if w = 0 then true else kAlR g (Int32.toNatClampNeg (q0 n)) ks
def kFiA (kl ks kw : Nat) (g0 g1 g2 g3 g4 : Nat → Int32) (sv : Nat) (yL : Nat → List kTr) (q0 q1 q2 q3 q4 : Nat → Int32) (kn : Nat) (p0 : Int64) (p1 : Int32) : Int32 := nI (kBts (fun l => kNtB (kE0 ks kw g3 g4 sv (kPrs ks 0) (yL l)) (kS0 g0 g1 g2 p0) (kAbN p1 g2 q0 ks) q0 q1 q2 q3 q4 kn 49) kl)
/-- how many of the first ten bits -/
def kPcN (v : Nat) : Nat → Nat
  | 0 => 0
  | n + 1 => if v.testBit n then kPcN v n + 1 else kPcN v n
def kPc (v : Nat) : Nat := kPcN v 10
theorem kPcN_le (v : Nat) : ∀ n : Nat, kPcN v n ≤ n := by
  intro n
  induction n with
  | zero => exact Nat.le_refl 0
  | succ n ih =>
    unfold kPcN
    split <;> omega
theorem kPc_le (v : Nat) : kPc v ≤ 10 := kPcN_le v 10
theorem kPcN_s {v w : Nat} (h : ∀ i : Nat, v.testBit i = true → w.testBit i = true) : ∀ n : Nat, kPcN v n ≤ kPcN w n := by
  intro n
  induction n with
  | zero => exact Nat.le_refl 0
  | succ n ih =>
    unfold kPcN
    by_cases z : v.testBit n = true
    · rw [if_pos z, if_pos (h n z)]; omega
    · rw [if_neg z]
      split <;> omega
theorem kPcP : ∀ v : Fin 1024, v.val = 0 ∨ 1 ≤ kPc v.val := by decide +kernel
theorem kPc_pos {v : Nat} (h : v < 1024) (h0 : 1 ≤ v) : 1 ≤ kPc v := (kPcP ⟨v, h⟩).resolve_left (by show ¬ v = 0; omega)
theorem kPc_0 : kPc 0 = 0 := by decide
/-- the lower of two sets -/
def kLwI (a b : Int32) : Int32 := if a &&& (a ^^^ b) &&& -(a ^^^ b) = 0 then 0 else 1
def kLw (a b : Nat) : Bool := decide (¬ kLwI (nI a) (nI b) = 0)
def kLkC (P : Nat → Bool) (s n : Nat) (o : Option Nat) : Bool := P n && decide (kPc n = s) && (match o with | none => true | some b => kLw n b)
/-- the best set of a size, so far -/
def kLkS (P : Nat → Bool) (s : Nat) : Nat → Option Nat
  | 0 => none
  | n + 1 => if kLkC P s n (kLkS P s n) then some n else kLkS P s n
theorem kLkS_t {P : Nat → Bool} {s n : Nat} (h : kLkC P s n (kLkS P s n) = true) : kLkS P s (n + 1) = some n := if_pos h
theorem kLkS_f {P : Nat → Bool} {s n : Nat} (h : ¬ kLkC P s n (kLkS P s n) = true) : kLkS P s (n + 1) = kLkS P s n := if_neg h
theorem kLkC_off {P : Nat → Bool} {s n : Nat} {o : Option Nat} (h : P n = false ∨ ¬ kPc n = s) : ¬ kLkC P s n o = true := by
  unfold kLkC
  rcases h with z | z
  · rw [z, Bool.false_and, Bool.false_and]; decide
  · rw [decide_eq_false z, Bool.and_false, Bool.false_and]; decide
theorem kLkS_pc {P : Nat → Bool} {s b : Nat} : ∀ n : Nat, kLkS P s n = some b → kPc b = s ∧ b < n := by
  intro n
  induction n with
  | zero => intro h; cases h
  | succ n ih =>
    intro h
    by_cases c : kLkC P s n (kLkS P s n) = true
    · rw [kLkS_t c] at h
      have e := Option.some.inj h
      unfold kLkC at c
      rw [Bool.and_eq_true, Bool.and_eq_true] at c
      rw [← e]
      exact ⟨of_decide_eq_true c.1.2, by omega⟩
    · rw [kLkS_f c] at h
      have := ih h
      exact ⟨this.1, by omega⟩
/-- the best of the largest size that has one -/
def kLkO (P : Nat → Bool) (n : Nat) : Nat → Nat
  | 0 => 0
  | s + 1 => (kLkS P (s + 1) n).getD (kLkO P n s)
theorem kLkO_pc (P : Nat → Bool) (n : Nat) : ∀ S : Nat, kPc (kLkO P n S) ≤ S := by
  intro S
  induction S with
  | zero => show kPc 0 ≤ 0; rw [kPc_0]; omega
  | succ S ih =>
    show kPc ((kLkS P (S + 1) n).getD (kLkO P n S)) ≤ S + 1
    cases hs : kLkS P (S + 1) n with
    | none => show kPc (kLkO P n S) ≤ S + 1; omega
    | some b => show kPc b ≤ S + 1; rw [(kLkS_pc n hs).1]; omega
theorem kLkO_f {P : Nat → Bool} {n : Nat} (hP : P n = false) : ∀ S : Nat, kLkO P (n + 1) S = kLkO P n S := by
  intro S
  induction S with
  | zero => rfl
  | succ S ih =>
    show (kLkS P (S + 1) (n + 1)).getD (kLkO P (n + 1) S) = (kLkS P (S + 1) n).getD (kLkO P n S)
    rw [kLkS_f (kLkC_off (Or.inl hP)), ih]
theorem kLkO_t {P : Nat → Bool} {n : Nat} (hP : P n = true) (ht : 1 ≤ kPc n) : ∀ S : Nat, kLkO P (n + 1) S = if kPc n ≤ S then (if kPc (kLkO P n S) < kPc n ∨ (kPc n = kPc (kLkO P n S) ∧ kLw n (kLkO P n S) = true) then n else kLkO P n S) else kLkO P n S := by
  intro S
  induction S with
  | zero => rw [if_neg (by omega)]; rfl
  | succ S ih =>
    have hO : kLkO P n (S + 1) = (kLkS P (S + 1) n).getD (kLkO P n S) := rfl
    show (kLkS P (S + 1) (n + 1)).getD (kLkO P (n + 1) S) = _
    by_cases h1 : kPc n = S + 1
    · rw [if_pos (by omega)]
      cases hs : kLkS P (S + 1) n with
      | none =>
        have hc : kLkC P (S + 1) n (kLkS P (S + 1) n) = true := by
          rw [hs]; unfold kLkC; rw [hP, decide_eq_true h1]; rfl
        have hq := kLkO_pc P n S
        rw [kLkS_t hc, hO, hs]
        show n = if kPc (kLkO P n S) < kPc n ∨ (kPc n = kPc (kLkO P n S) ∧ kLw n (kLkO P n S) = true) then n else kLkO P n S
        rw [if_pos (Or.inl (by omega))]
      | some b =>
        have hb := (kLkS_pc n hs).1
        rw [hO, hs]
        show (kLkS P (S + 1) (n + 1)).getD (kLkO P (n + 1) S) = if kPc b < kPc n ∨ (kPc n = kPc b ∧ kLw n b = true) then n else b
        by_cases hl : kLw n b = true
        · have hc : kLkC P (S + 1) n (kLkS P (S + 1) n) = true := by
            rw [hs]; unfold kLkC; rw [hP, decide_eq_true h1]; exact hl
          rw [kLkS_t hc, if_pos (Or.inr ⟨by omega, hl⟩)]; rfl
        · have hc : ¬ kLkC P (S + 1) n (kLkS P (S + 1) n) = true := by
            rw [hs]; unfold kLkC; rw [hP, decide_eq_true h1]; exact hl
          rw [kLkS_f hc, hs, if_neg (fun z => z.elim (fun y => by omega) (fun y => hl y.2))]; rfl
    · rw [kLkS_f (kLkC_off (Or.inr h1)), hO]
      cases hs : kLkS P (S + 1) n with
      | none =>
        show kLkO P (n + 1) S = if kPc n ≤ S + 1 then (if kPc (kLkO P n S) < kPc n ∨ (kPc n = kPc (kLkO P n S) ∧ kLw n (kLkO P n S) = true) then n else kLkO P n S) else kLkO P n S
        rw [ih]
        by_cases h2 : kPc n ≤ S
        · rw [if_pos h2, if_pos (show kPc n ≤ S + 1 by omega)]
        · rw [if_neg h2, if_neg (show ¬ kPc n ≤ S + 1 by omega)]
      | some b =>
        have hb := (kLkS_pc n hs).1
        show b = if kPc n ≤ S + 1 then (if kPc b < kPc n ∨ (kPc n = kPc b ∧ kLw n b = true) then n else b) else b
        by_cases h2 : kPc n ≤ S + 1
        · rw [if_pos h2, if_neg (fun z => z.elim (fun y => by omega) (fun y => by have := y.1; omega))]
        · rw [if_neg h2]
theorem kLkO_1 (P : Nat → Bool) : ∀ S : Nat, kLkO P 1 S = 0 := by
  intro S
  induction S with
  | zero => rfl
  | succ S ih =>
    show (kLkS P (S + 1) 1).getD (kLkO P 1 S) = 0
    rw [kLkS_f (n := 0) (kLkC_off (Or.inr (by rw [kPc_0]; omega))), ih]
    rfl
/-- the best as one pass finds it -/
def kLkR (P : Nat → Bool) : Nat → Nat
  | 0 => 0
  | n + 1 => if decide (1 ≤ n) && P n && (decide (kPc (kLkR P n) < kPc n) || (decide (kPc n = kPc (kLkR P n)) && kLw n (kLkR P n))) then n else kLkR P n
theorem kLkR_f {P : Nat → Bool} {n : Nat} (h : ¬ (P n = true ∧ (kPc (kLkR P n) < kPc n ∨ (kPc n = kPc (kLkR P n) ∧ kLw n (kLkR P n) = true)))) : kLkR P (n + 1) = kLkR P n := if_neg (fun z => h (by
  rw [Bool.and_eq_true, Bool.and_eq_true, Bool.or_eq_true, Bool.and_eq_true, decide_eq_true_iff, decide_eq_true_iff, decide_eq_true_iff] at z
  exact ⟨z.1.2, z.2⟩))
theorem kLkR_t {P : Nat → Bool} {n : Nat} (h1 : 1 ≤ n) (h : P n = true ∧ (kPc (kLkR P n) < kPc n ∨ (kPc n = kPc (kLkR P n) ∧ kLw n (kLkR P n) = true))) : kLkR P (n + 1) = n := if_pos (by
  rw [Bool.and_eq_true, Bool.and_eq_true, Bool.or_eq_true, Bool.and_eq_true, decide_eq_true_iff, decide_eq_true_iff, decide_eq_true_iff]
  exact ⟨⟨h1, h.1⟩, h.2⟩)
theorem kLk_eq {P : Nat → Bool} {S : Nat} : ∀ n : Nat, 1 ≤ n → n ≤ 1024 → (∀ k : Nat, k < n → P k = true → kPc k ≤ S) → kLkR P n = kLkO P n S := by
  intro n
  induction n with
  | zero => intro h; omega
  | succ n ih =>
    intro _ hN H
    by_cases h0 : n = 0
    · subst h0
      rw [kLkO_1]
      rfl
    · have e := ih (by omega) (by omega) (fun k hk => H k (by omega))
      cases hP : P n with
      | false =>
        rw [kLkO_f hP, kLkR_f (fun z => by rw [hP] at z; exact absurd z.1 (by decide))]
        exact e
      | true =>
        rw [kLkO_t hP (kPc_pos (by omega) (by omega)), if_pos (H n (by omega) hP), ← e]
        by_cases c : kPc (kLkR P n) < kPc n ∨ (kPc n = kPc (kLkR P n) ∧ kLw n (kLkR P n) = true)
        · rw [if_pos c, kLkR_t (by omega) ⟨hP, c⟩]
        · rw [if_neg c, kLkR_f (fun z => c z.2)]
theorem kLkO_up {P : Nat → Bool} {a S : Nat} : ∀ n : Nat, a ≤ n → (∀ k : Nat, a ≤ k → k < n → P k = false) → kLkO P n S = kLkO P a S := by
  intro n
  induction n with
  | zero => intro h _; rw [show a = 0 by omega]
  | succ n ih =>
    intro h H
    by_cases z : a = n + 1
    · rw [z]
    · rw [kLkO_f (H n (by omega) (by omega)), ih (by omega) (fun k h1 h2 => H k h1 (by omega))]
/-- a set is part of another -/
theorem kSub_b {n sv : Nat} (hn : n < 1024) (hs : sv < 1024) (h : nI n &&& (nI sv ^^^ (-1)) = 0) : ∀ i : Nat, n.testBit i = true → sv.testBit i = true := fun i hi => by
  by_cases h32 : i < 32
  · have e1 : (nI n &&& (nI sv ^^^ (-1))).toBitVec = BitVec.ofNat 32 n &&& (BitVec.ofNat 32 sv ^^^ BitVec.allOnes 32) := rfl
    have e2 : (BitVec.ofNat 32 n &&& (BitVec.ofNat 32 sv ^^^ BitVec.allOnes 32)).getLsbD i = false := by
      rw [← e1, h]
      show (0#32).getLsbD i = false
      exact BitVec.getLsbD_zero
    rw [BitVec.getLsbD_and, BitVec.getLsbD_xor, BitVec.getLsbD_allOnes, BitVec.getLsbD_ofNat, BitVec.getLsbD_ofNat, decide_eq_true h32, Bool.true_and, Bool.true_and, hi, Bool.true_and, Bool.xor_true] at e2
    cases z : sv.testBit i with
    | true => rfl
    | false => rw [z] at e2; exact absurd e2 (by decide)
  · rw [Nat.testBit_lt_two_pow (Nat.lt_of_lt_of_le hn (show 1024 ≤ 2 ^ i from Nat.le_trans (by decide : 1024 ≤ 2 ^ 10) (Nat.pow_le_pow_right (by decide) (by omega))))] at hi
    exact absurd hi (by decide)
theorem kSub_le {n sv : Nat} (h : ∀ i : Nat, n.testBit i = true → sv.testBit i = true) : n ≤ sv := by
  have e : n &&& sv = n := Nat.eq_of_testBit_eq (fun i => by
    rw [Nat.testBit_and]
    cases z : n.testBit i with
    | true => rw [h i z]; rfl
    | false => rfl)
  rw [← e]
  exact Nat.and_le_right
/-- those, not sent, who hold on -/
def kHoC (E : kEn) (S : kRst) : Nat → Bool := fun j => kFr E j && decide (50 ≤ S.1 j)
theorem kHoC_t {E : kEn} {S : kRst} {j : Nat} : kHoC E S j = true ↔ kFr E j = true ∧ 50 ≤ S.1 j := by
  unfold kHoC
  rw [Bool.and_eq_true, decide_eq_true_iff]
def kHol (ks kw : Nat) (g0 g1 g2 g3 g4 : Nat → Int32) (sv : Nat) (t : List kTr) (p1 : Int64) (ab : Int32) : Int32 := nI (kBts (kHoC (kE0 ks kw g3 g4 sv (kPrs ks ab) t) (kIt (kE0 ks kw g3 g4 sv (kPrs ks ab) t) 48 (kS0 g0 g1 g2 p1))) ks)
def kLkP (ks kw : Nat) (g0 g1 g2 g3 g4 : Nat → Int32) (sv : Nat) (t : List kTr) (p1 : Int64) : Nat → Bool := fun n => decide (nI n &&& (nI sv ^^^ (-1)) = 0) && decide (kHol ks kw g0 g1 g2 g3 g4 sv t p1 (nI sv &&& (nI n ^^^ (-1))) = kHol ks kw g0 g1 g2 g3 g4 sv t p1 (nI sv))
theorem kLkP_t {ks kw : Nat} {g0 g1 g2 g3 g4 : Nat → Int32} {sv : Nat} {t : List kTr} {p1 : Int64} {n : Nat} : kLkP ks kw g0 g1 g2 g3 g4 sv t p1 n = true ↔ nI n &&& (nI sv ^^^ (-1)) = 0 ∧ kHol ks kw g0 g1 g2 g3 g4 sv t p1 (nI sv &&& (nI n ^^^ (-1))) = kHol ks kw g0 g1 g2 g3 g4 sv t p1 (nI sv) := by
  unfold kLkP
  rw [Bool.and_eq_true, decide_eq_true_iff, decide_eq_true_iff]
theorem kLkP_f {ks kw : Nat} {g0 g1 g2 g3 g4 : Nat → Int32} {sv : Nat} {t : List kTr} {p1 : Int64} {n : Nat} (h : ¬ (nI n &&& (nI sv ^^^ (-1)) = 0 ∧ kHol ks kw g0 g1 g2 g3 g4 sv t p1 (nI sv &&& (nI n ^^^ (-1))) = kHol ks kw g0 g1 g2 g3 g4 sv t p1 (nI sv))) : kLkP ks kw g0 g1 g2 g3 g4 sv t p1 n = false := by
  cases z : kLkP ks kw g0 g1 g2 g3 g4 sv t p1 n with
  | false => rfl
  | true => exact absurd (kLkP_t.mp z) h
def kLokA (kl ks kw : Nat) (g0 g1 g2 g3 g4 : Nat → Int32) (sv : Nat) (yL : Nat → List kTr) (p0 : Int32) (p1 : Int64) : Int32 := if kPn p0 kl = 0 then -1 else nI (kLkO (kLkP ks kw g0 g1 g2 g3 g4 sv (yL (Int32.toNatClampNeg p0)) p1) (sv + 1) (kPc sv))
end
section
def w_s_bitCount6n : List Cond := .code yJ6_bitCount_0f7a4 cJ6_bitCount_0f7a4 1 (some .int) :: ([.constant RJ6 265 (1431655765), .constant RJ6 266 (858993459), .constant RJ6 267 (252645135)] ++ [])
theorem gw_s_bitCount6n : (w_s_bitCount6n).all goodWord = true := kGc rfl (kGa (by decide +kernel) kGn)
set_option maxHeartbeats 4000000 in
set_option maxRecDepth 100000 in
theorem s_bitCount6n (l : Launch) (dC : Nat → ClassId) (dI : Nat → Nat → Nat) (ps : Nat) (hps : ps < 1024) : Met l yJ6_bitCount_0f7a4 w_s_bitCount6n ({ frames := 1, cells := 0, slots := 0, locals := 60 }) (kR dC dI [.int (nI (ps))] [] [] kT) (vp_Si (fun r : Int32 => r = nI (kPc ps))) 0 0 (fun _ => False) := by
  sorry
end
section
section VXA
/-- where a method has thrown q: the class by its name, the cell, what was written, the world -/
def vx_T (XC : String → State → State → Prop) (st : State) (q : Addr) (t : State) (mc ms : Nat) (free : Addr → Prop) : Prop :=
  ∃ (E : String) (ce : Cell) (L : List Loc), XC E st t ∧ t.heap[q]? = some ce ∧ ce.vm = .none ∧ st.vm.findClass E = some ce.cls ∧ st.WarmedH t.vm ∧ st.sameButNew ({ t with vm := st.vm } : State) L mc ms ∧ ∀ z ∈ L, free z.base
def vx_Q (Qc : Array Value → State → Outcome → State → Prop) (XC : String → State → State → Prop) (mc ms : Nat) (free : Addr → Prop) : Array Value → State → Outcome → State → Prop := fun a st o t =>
  (Qc a st o t ∧ ∃ L, FrameEnd st o t L mc ms ∧ ∀ q ∈ L, free q.base) ∨ ∃ q, o = .threw q ∧ vx_T XC st q t mc ms free
/-- a callee that returns or throws -/
def vx_Met (l : Launch) (y : MethodName) (ws : List Cond) (rm : Room) (Pc : Array Value → State → Prop) (Qc : Array Value → State → Outcome → State → Prop) (XC : String → State → State → Prop) (mc ms : Nat) (free : Addr → Prop) : Prop :=
  MetFree l y (headSpec ws rm) Pc (fun _ _ _ _ _ => True) (vx_Q Qc XC mc ms free)
def vx_Post (XC : String → State → State → Prop) (mc ms : Nat) (free : Addr → Prop) : Pt → Array Value → Addr → Pt → Prop := fun A a q B =>
  ∃ (g : JFrame) (mk : MethodId) (t : State) (L : List Loc) (E : String) (ce : Cell), B.U.heap = t.heap ∧ B.U.vm = t.vm ∧ XC E (A.U.calling g mk a) t ∧ t.heap[q]? = some ce ∧ ce.vm = .none ∧ A.U.vm.findClass E = some ce.cls ∧ B.locs = A.locs ++ L ∧ (∀ z ∈ L, free z.base) ∧ B.cells = A.cells + mc ∧ B.slots = A.slots + ms
def vx_Back (l : Launch) (R : Room) (p : Program) (e : Env) (below : List Frame) (s : State) (sargs : Array Value) (y : MethodName) (len W9 : Nat)
    (Pre : Pt → Array Value → Prop) (Post : Pt → Array Value → Option Value → Pt → Prop) (PostX : Pt → Array Value → Addr → Pt → Prop) : Prop :=
  ∀ (m : MethodId) (meth : Method) (c : Code) (A : Pt) (g : JFrame) (ig : Instr) (mk : MethodId) (a : Array Value),
    Stand p l e R s m sargs below meth c A.U A.locs A.cells A.slots → g.method = m → g.locals.size = c.maxLocals → decode c.code g.pc = .ok (ig, len) →
    2 * g.monitorRoom + (g.stack.map fun v => v.category).sum ≤ W9 → A.U.methodNamed? y = some mk → Pre A a →
    (∃ (v : Option Value) (B : Pt), Stand p l e R s m sargs below meth c B.U B.locs B.cells B.slots ∧ Post A a v B ∧
      Steps p.tables e below (doInvoke e (A.U.setTop g) [] mk a).1 (B.U.setTop { g with pc := g.pc + len, stack := v.toList ++ g.stack })) ∨
    (∃ (q : Addr) (B : Pt), Stand p l e R s m sargs below meth c B.U B.locs B.cells B.slots ∧ PostX A a q B ∧
      Steps p.tables e below (doInvoke e (A.U.setTop g) [] mk a).1 ((B.U.setTop g).pushFrame (.throwing q)))
section Payer
variable {l : Launch} {R : Room} {p : Program} {e : Env} {below : List Frame} {s : State} {sargs : Array Value} {y : MethodName} {len W9 : Nat}
theorem vx_back {ws : List Cond} {rm : Room} {Pc : Array Value → State → Prop} {Qc : Array Value → State → Outcome → State → Prop} {XC : String → State → State → Prop} {mc ms : Nat} {free : Addr → Prop} {bytes : ByteArray} {maxL : Nat} {ret : Option FieldType}
    (hM : vx_Met l y ws rm Pc Qc XC mc ms free) (hblind : FrameBlind Pc) (hrc : rm.cells = mc) (hrs : rm.slots = ms)
    (hframes : rm.frames + 1 ≤ R.frames) (hlocals : W9 + (maxL + 11) + rm.locals ≤ R.locals)
    (hws : ∀ w ∈ ws, ∀ a' U, s.WarmedH U.vm → w.before a' U = true) (hcode : Cond.code y bytes maxL ret ∈ ws) (hinit : ∀ a' U, s.WarmedH U.vm → (Cond.initialized y.cls).before a' U = true) :
    vx_Back l R p e below s sargs y len W9 (PreOf R mc ms Pc) (PostOf Qc mc ms free) (vx_Post XC mc ms free) := by
  intro m meth c A g ig mk a X hg hsize hdg hW hn hp
  have h1 : (headSpec ws rm).pre.before a A.U = true := atoms_intro fun w hw => hws w hw _ _ X.warmed
  have h2 : (Cond.code y bytes maxL ret).before a A.U = true := hws _ hcode _ _ X.warmed
  have h3 : (Cond.initialized y.cls).before a A.U = true := hinit _ _ X.warmed
  have h4 : A.cells + (headSpec ws rm).room.cells ≤ R.cells := by rw [show (headSpec ws rm).room.cells = mc from hrc]; exact hp.1
  have h5 : A.slots + (headSpec ws rm).room.slots ≤ R.slots := by rw [show (headSpec ws rm).room.slots = ms from hrs]; exact hp.2.1
  have hPc : Pc a (A.U.calling g mk a) := hblind _ _ _ _ hp.2.2
  obtain ⟨U, Ls, c0, s0⟩ := A
  dsimp only [Pt.U, Pt.locs, Pt.cells, Pt.slots] at h1 h2 h3 h4 h5 X hn hPc ⊢
  obtain ⟨methY, cY, hmY, hcY, -, hlY, -, -, -, -⟩ := Cond.code_spec hn h2
  obtain ⟨kY, hkY, -⟩ := className_of_methodNamed hn
  have hinitY : kY.init = .initialized := Cond.initialized_spec (findClass_of_methodNamed hn) hkY h3
  have h : At U g.method c below := by rw [hg]; exact X.here
  have hlocals9 : W9 + (maxL + 11) + (headSpec ws rm).room.locals ≤ R.locals := hlocals
  have happ : (headSpec ws rm).appliesLoose y e.platform (U.calling g mk a) = true :=
    Spec.appliesLoose_calling (g := g) h hdg hn hkY hinitY
      (X.room_calling (g := g) (R' := (headSpec ws rm).room) hsize hmY hcY hframes (by rw [hlY]; omega) h4 h5) h1
  obtain ⟨mid, hmid⟩ := h.above
  have hfr : (U.setTop g).frames = (.java g :: mid) ++ below := by rw [State.frames_setTop' g h.top, hmid]; rfl
  obtain ⟨o, s₂, hsteps, -, hend, hq⟩ := Steps.callFree hM p X.admits X.cas X.clock (acts := []) hfr happ hPc trivial
  have hq' : vx_Q Qc XC mc ms free a (U.calling g mk a) o s₂ := hq
  rw [State.frames_setTop' g h.top] at hend
  obtain ⟨g₀, hg0⟩ := Option.isSome_iff_exists.mp h.top
  obtain ⟨r, hr⟩ := State.topJava?_eq_some.mp hg0
  have hr' : (({ U with heap := s₂.heap, slotsUsed := s₂.slotsUsed } : State).setVm s₂.vm).frames = .java g₀ :: r := hr
  rcases hq' with ⟨hqc, L, hfe, hL⟩ | ⟨q, rfl, E, ce, L, hx, hce, hcv, hcl, hW₂, hsm, hL⟩
  · obtain ⟨⟨v, rfl⟩, hW₂, e2, q2, q3, q4, q5, q6⟩ := id hfe
    have e3 : s₂ = ({ (U.calling g mk a).setFrames s₂.frames with heap := s₂.heap, slotsUsed := s₂.slotsUsed } : State).setVm s₂.vm := by
      have : s₂ = ({ s₂ with vm := (U.calling g mk a).vm } : State).setVm s₂.vm := rfl
      rw [e2] at this
      exact this
    obtain ⟨c₂, i₂, len₂, hc₂, hd₂, hf₂⟩ := hend
    have hW' : U.WarmedH s₂.vm := hW₂
    have hcc : c₂ = c := by
      have h1 : s₂.code? g.method = U.code? g.method := by
        rw [State.code?_eq, State.code?_eq, hW'.alike.method?]
      exact Option.some.inj (hc₂.symm.trans (h1.trans h.code))
    subst hcc
    have hlen : len₂ = len := by rw [hdg] at hd₂; cases hd₂; rfl
    subst hlen
    have hs₂ : s₂ = (({ U with heap := s₂.heap, slotsUsed := s₂.slotsUsed } : State).setVm s₂.vm).setTop { g with pc := g.pc + len₂, stack := v.toList ++ g.stack } := by
      refine e3.trans ?_
      rw [hf₂, State.calling_eq h.top, State.setFrames_setFrames, State.setTop_of_frames _ hr', hr]
      rfl
    have hsame : U.sameButNew ({ U with heap := s₂.heap, slotsUsed := s₂.slotsUsed } : State) L mc ms := by
      refine ⟨?_, q2, q3, q4, q5, q6⟩
      obtain ⟨t, ht, -⟩ := State.frames_cons hr
      show ({ U with heap := s₂.heap, slotsUsed := s₂.slotsUsed } : State) = { U.setFrames U.frames with heap := s₂.heap, slotsUsed := s₂.slotsUsed }
      rw [State.setFrames_self ht]
    subst hg
    refine Or.inl ⟨v, ⟨(({ U with heap := s₂.heap, slotsUsed := s₂.slotsUsed } : State).setVm s₂.vm), Ls ++ L, c0 + mc, s0 + ms⟩,
      ⟨X.admits, X.cas, X.clock, X.frames, X.room, X.hears, X.method, X.code, (X.here.setHeapUsed s₂.heap s₂.slotsUsed).setVm hW'.alike, X.tail, State.WarmedH.trans X.warmed hW', X.limits, X.bytes, X.same.trans (hsame.setVm s.vm)⟩,
      ⟨g, mk, s₂, L, rfl, rfl, hqc, rfl, hL, rfl, rfl⟩, ?_⟩
    show Steps p.tables e below _ ((({ U with heap := s₂.heap, slotsUsed := s₂.slotsUsed } : State).setVm s₂.vm).setTop { g with pc := g.pc + len₂, stack := v.toList ++ g.stack })
    rw [← hs₂]
    exact hsteps
  · obtain ⟨e2, q2, q3, q4, q5, q6⟩ := id hsm
    have e3 : s₂ = ({ (U.calling g mk a).setFrames s₂.frames with heap := s₂.heap, slotsUsed := s₂.slotsUsed } : State).setVm s₂.vm := by
      have : s₂ = ({ s₂ with vm := (U.calling g mk a).vm } : State).setVm s₂.vm := rfl
      rw [e2] at this
      exact this
    have hf₂ : s₂.frames = .throwing q :: .java g :: U.frames.tail := hend
    have hW' : U.WarmedH s₂.vm := hW₂
    have hs₂ : s₂ = ((({ U with heap := s₂.heap, slotsUsed := s₂.slotsUsed } : State).setVm s₂.vm).setTop g).pushFrame (.throwing q) := by
      refine e3.trans ?_
      rw [hf₂, State.calling_eq h.top, State.setFrames_setFrames, State.pushFrame, State.frames_setTop _ hr', State.setTop_of_frames _ hr', State.setFrames_setFrames, hr]
      rfl
    have hsame : U.sameButNew ({ U with heap := s₂.heap, slotsUsed := s₂.slotsUsed } : State) L mc ms := by
      refine ⟨?_, q2, q3, q4, q5, q6⟩
      obtain ⟨t, ht, -⟩ := State.frames_cons hr
      show ({ U with heap := s₂.heap, slotsUsed := s₂.slotsUsed } : State) = { U.setFrames U.frames with heap := s₂.heap, slotsUsed := s₂.slotsUsed }
      rw [State.setFrames_self ht]
    subst hg
    refine Or.inr ⟨q, ⟨(({ U with heap := s₂.heap, slotsUsed := s₂.slotsUsed } : State).setVm s₂.vm), Ls ++ L, c0 + mc, s0 + ms⟩,
      ⟨X.admits, X.cas, X.clock, X.frames, X.room, X.hears, X.method, X.code, (X.here.setHeapUsed s₂.heap s₂.slotsUsed).setVm hW'.alike, X.tail, State.WarmedH.trans X.warmed hW', X.limits, X.bytes, X.same.trans (hsame.setVm s.vm)⟩,
      ⟨g, mk, s₂, L, E, ce, rfl, rfl, hx, hce, hcv, hcl, rfl, hL, rfl, rfl⟩, ?_⟩
    show Steps p.tables e below _ (((({ U with heap := s₂.heap, slotsUsed := s₂.slotsUsed } : State).setVm s₂.vm).setTop g).pushFrame (.throwing q))
    rw [← hs₂]
    exact hsteps
end Payer
section Calls
variable {p : Program} {l : Launch} {e : Env} {R : Room} {s : State} {m : MethodId} {args : Array Value} {below : List Frame} {meth : Method} {c : Code} {T : State} {locs : List Loc} {cells slots : Nat}
theorem vx_callV (X : Stand p l e R s m args below meth c T locs cells slots) (hexec : p.tables.exec = Jvm.exec) {own C : String} {index : Nat} {y : MethodName} {bytes : ByteArray} {maxL : Nat} {ret : Option FieldType}
    (hown : s.vm.findClass own = some m.cls) (hlink : (Cond.methodLink own index y).before args s = true) (hinst : (Cond.instanceMethod y).before args s = true) (hsel : (Cond.selects C y y).before args s = true)
    (hcode : (Cond.code y bytes maxL ret).before args s = true) (hy : y.cls ≠ "java/lang/invoke/MethodHandle" ∧ y.cls ≠ "java/lang/invoke/VarHandle")
    {W9 : Nat} {Pre : Pt → Array Value → Prop} {Post : Pt → Array Value → Option Value → Pt → Prop} {PostX : Pt → Array Value → Addr → Pt → Prop} (hK : vx_Back l R p e below s args y 3 W9 Pre Post PostX)
    {b : Addr} {cellB : Cell} (hcell : T.heap[b]? = some cellB) (hobj : cellB.vm.isStatics = false) (hcls : s.vm.findClass C = some cellB.cls)
    {g : JFrame} (hg : g.method = m) (hsize : g.locals.size = c.maxLocals) {argsL rest : List Value} (hlen : ∀ sig, parseMethodDescriptor y.desc = some sig → argsL.length = sig.parameters.length)
    (hstack : g.stack = argsL.reverse ++ .ref b :: rest) (hW : 2 * g.monitorRoom + (rest.map fun v => v.category).sum ≤ W9) (hdg : decode c.code g.pc = .ok (.invokevirtual index, 3))
    (hpre : ∀ vm₁, s.WarmedH vm₁ → Pre ⟨T.setVm vm₁, locs, cells, slots⟩ (Value.ref b :: argsL).toArray) :
    (∃ (v : Option Value) (vm₁ : Vm) (B : Pt), s.WarmedH vm₁ ∧ Stand p l e R s m args below meth c B.U B.locs B.cells B.slots ∧ Post ⟨T.setVm vm₁, locs, cells, slots⟩ (Value.ref b :: argsL).toArray v B ∧
      ∀ target, Steps p.tables e below (B.U.setTop { g with pc := g.pc + 3, stack := v.toList ++ rest }) target → Steps p.tables e below (T.setTop g) target) ∨
    (∃ (q : Addr) (vm₁ : Vm) (B : Pt), s.WarmedH vm₁ ∧ Stand p l e R s m args below meth c B.U B.locs B.cells B.slots ∧ PostX ⟨T.setVm vm₁, locs, cells, slots⟩ (Value.ref b :: argsL).toArray q B ∧
      Steps p.tables e below (T.setTop g) ((B.U.setTop { g with stack := rest }).pushFrame (.throwing q))) := by
  obtain ⟨mk, methM, hnamed, hmethM, hstM, habM⟩ := Cond.instanceMethod_spec hinst
  obtain ⟨methM', cM, hmethM', -, -, -, -, -, -, hsigM⟩ := Cond.code_spec hnamed hcode
  cases hmethM.symm.trans hmethM'
  obtain ⟨c2, r2, m2, q1, q2, q3, q4, kP, hkP, hkPi⟩ := Cond.selects_spec hsel
  cases hcls.symm.trans q1
  cases (State.methodFound?_of_named hnamed hy).symm.trans q2
  cases hnamed.symm.trans q3
  have hselP : selectMethod e.platform s.vm cellB.cls mk = .method mk := by rw [Launch.admits_selectMethod X.admits]; exact q4
  obtain ⟨vm₁, X₁, hstep₁⟩ := X.invokevirtual hexec hown hlink hnamed hmethM hstM hkP hkPi hy (a := b) (cell := cellB) hcell
    (fun z h => by rw [h] at hobj; cases hobj) hselP hmethM habM hkP hkPi (g := g) hg (argsL := argsL) (rest := rest) (hlen _ hsigM) hstack hdg
  rcases hK m meth c ⟨T.setVm vm₁, locs, cells, slots⟩ { g with stack := rest } (.invokevirtual index) mk (Value.ref b :: argsL).toArray X₁ hg hsize hdg hW (X₁.named hnamed) (hpre vm₁ X₁.warmed) with ⟨v, B, X', hpost, hsteps⟩ | ⟨q, B, X', hpost, hsteps⟩
  · exact Or.inl ⟨v, vm₁, B, X₁.warmed, X', hpost, fun target h => hstep₁ _ fun acts => by rw [doInvoke_state]; exact hsteps.trans h⟩
  · exact Or.inr ⟨q, vm₁, B, X₁.warmed, X', hpost, hstep₁ _ fun acts => by rw [doInvoke_state]; exact hsteps⟩
end Calls
theorem vx_cls {s : State} {T : State} {vm₁ : Vm} {E : String} {k : ClassId} (hW : s.WarmedH vm₁) (h : (T.setVm vm₁).vm.findClass E = some k) : s.vm.findClass E = some k := by
  have h1 : vm₁.findClass E = some k := h
  rw [hW.alike.findClass] at h1
  exact h1
/-- the method's frame g, with q thrown over it -/
def vx_W (p : Program) (l : Launch) (e : Env) (R : Room) (s : State) (m : MethodId) (args : Array Value) (below : List Frame) (meth : Method) (c : Code) (H : Heap) (locs : List Loc) (cells slots : Nat) (Q : State → Prop) (g : JFrame) (q : Addr) : Prop :=
  ∀ T : State, T.heap = H → Stand p l e R s m args below meth c T locs cells slots → ∃ t, Steps p.tables e below ((T.setTop g).pushFrame (.throwing q)) t ∧ Q t
def vx_Run (p : Program) (l : Launch) (e : Env) (R : Room) (s : State) (m : MethodId) (args : Array Value) (below : List Frame) (meth : Method) (c : Code) (H : Heap) (locs : List Loc) (cells slots mc ms : Nat) (g : JFrame) (rest : List Value) (Qa : State → Outcome → State → Prop) (XC : String → State → State → Prop) (free : Addr → Prop) : Prop :=
  ∀ T : State, T.heap = H → Stand p l e R s m args below meth c T locs cells slots →
    (∃ (v : Option Value) (st₀ t T' : State) (L : List Loc), st₀.heap = H ∧ Stand p l e R s m args below meth c T' (locs ++ L) (cells + mc) (slots + ms) ∧ (∀ q ∈ L, free q.base) ∧ T'.heap = t.heap ∧ T'.vm = t.vm ∧ Qa st₀ (.returned v) t ∧
      Goes p e below T g T' { g with pc := g.pc + 3, stack := v.toList ++ rest }) ∨
    (∃ (q : Addr) (st₀ t T' : State) (L : List Loc) (E : String) (ce : Cell), st₀.heap = H ∧ Stand p l e R s m args below meth c T' (locs ++ L) (cells + mc) (slots + ms) ∧ (∀ z ∈ L, free z.base) ∧ T'.heap = t.heap ∧ T'.vm = t.vm ∧ XC E st₀ t ∧ t.heap[q]? = some ce ∧ ce.vm = .none ∧ s.vm.findClass E = some ce.cls ∧
      Steps p.tables e below (T.setTop g) ((T'.setTop { g with stack := rest }).pushFrame (.throwing q)))
def vx_X {S : Type} (px : S → Prop) (B : String → S → State → Prop) (A : Nat → Prop) : String → State → State → Prop := fun E st t => ∃ u : S, px u ∧ B E u t ∧ va_F A st t
section Runs
variable {p : Program} {l : Launch} {e : Env} {R : Room} {s : State} {m : MethodId} {args : Array Value} {below : List Frame} {meth : Method} {c : Code} {H : Heap} {locs : List Loc} {cells slots : Nat}
variable {y : MethodName} {bytes cc : ByteArray} {maxL nL mc ms n index : Nat} {ret : Option FieldType} {ws : List Cond} {rm : Room} {Pc : Array Value → State → Prop} {Qc : Array Value → State → Outcome → State → Prop} {XC : String → State → State → Prop} {free : Addr → Prop} {Ts : List Cond} {own C : String} {b : Addr} {As rest : List Value} {g : JFrame}
theorem vx_callBack (cb : CallB R s args own index y bytes maxL ret ws rm mc ms n) (hM : vx_Met l y ws rm Pc Qc XC mc ms free) (hbl : FrameBlind Pc) : vx_Back l R p e below s args y 3 8 (PreOf R mc ms Pc) (PostOf Qc mc ms free) (vx_Post XC mc ms free) := by
  obtain ⟨hrc, hrs, hfr, hlo, hws, hcw, -, hini, -⟩ := cb
  exact vx_back (bytes := bytes) (maxL := maxL) (ret := ret) hM hbl hrc hrs hfr hlo hws hcw (fun a' U hW => word_at hW (Or.inl (by first | rfl | simp [Cond.onTables, Cond.keeps, Cond.steady])) hini)
theorem vx_runV (S : CallFix p m c cc nL s args Ts own) (hM : vx_Met l y ws rm Pc Qc XC mc ms free) (cw : CallW R s args own C index y bytes maxL ret ws rm mc ms n) (hp : PreV s H C b Pc As)
    (hg : g.method = m) (hn : As.length = n) (hsize : g.locals.size = nL) (hstack : g.stack = As.reverse ++ .ref b :: rest) (hW : 2 * g.monitorRoom + (rest.map fun v => v.category).sum ≤ 8) (hdg : decode cc g.pc = .ok (.invokevirtual index, 3)) (hf : cells + mc ≤ R.cells ∧ slots + ms ≤ R.slots) :
    vx_Run p l e R s m args below meth c H locs cells slots mc ms g rest (Qc (Value.ref b :: As).toArray) XC free := by
  have hK : vx_Back l R p e below s args y 3 8 (PreOf R mc ms Pc) (PostOf Qc mc ms free) (vx_Post XC mc ms free) := vx_callBack cw.1 hM hp.1
  obtain ⟨⟨-, -, -, -, -, -, hcode, -, hy, hlen, hl⟩, hin, hse⟩ := cw
  obtain ⟨hx, hb, hml, ho, -⟩ := S
  obtain ⟨-, ⟨cellB, hcB, hoB, hclB⟩, hPc⟩ := hp
  intro T hT X
  rcases vx_callV X hx (C := C) (bytes := bytes) (maxL := maxL) (ret := ret) ho hl hin hse hcode hy hK (by rw [hT]; exact hcB) hoB hclB hg (hsize.trans hml.symm) (argsL := As) (rest := rest) (fun sig h => hn.trans (hlen sig h)) hstack hW (by rw [hb]; exact hdg)
    (fun vm₁ hW₁ => ⟨hf.1, hf.2, hPc (T.setVm vm₁) hT hW₁⟩) with ⟨v, vm₁, ⟨U', l2, c2, s2⟩, hW₁, X', ⟨g', mk, t, L, e1, e2, hq, h1, hL, h2, h3⟩, st⟩ | ⟨q, vm₁, ⟨U', l2, c2, s2⟩, hW₁, X', ⟨g', mk, t, L, E, ce, e1, e2, hq, hce, hcv, hcl, h1, hL, h2, h3⟩, st⟩
  · dsimp only [Pt.U, Pt.locs, Pt.cells, Pt.slots] at X' e1 e2 h1 h2 h3 st
    subst h1; subst h2; subst h3
    exact Or.inl ⟨v, (T.setVm vm₁).calling g' mk (Value.ref b :: As).toArray, t, U', L, hT, X', hL, e1, e2, hq, st⟩
  · dsimp only [Pt.U, Pt.locs, Pt.cells, Pt.slots] at X' e1 e2 h1 h2 h3 st hcl
    subst h1; subst h2; subst h3
    exact Or.inr ⟨q, (T.setVm vm₁).calling g' mk (Value.ref b :: As).toArray, t, U', L, E, ce, hT, X', hL, e1, e2, hq, hce, hcv, vx_cls hW₁ hcl, st⟩
end Runs
section Rows
variable {p : Program} {l : Launch} {e : Env} {R : Room} {s : State} {m : MethodId} {args : Array Value} {below : List Frame} {meth : Method} {c : Code} {H : Heap} {locs : List Loc} {cells slots : Nat} {Q : State → Prop}
variable {mc ms : Nat} {free : Addr → Prop} {A0 A1 : Nat → Prop} {H0 : Heap} {a : Array Value} {pc : Nat} {ls : Array Slot} {st0 rest : List Value}
theorem vx_keep {st₀ t T' : State} {L : List Loc} (h0 : st₀.heap = H) (e1 : T'.heap = t.heap) (hS : va_S A0 H0 H locs) (hA : ∀ q, q < H.size → A1 q → A0 q) (hf : ∀ q, free q → A0 q) (hL : ∀ q ∈ L, free q.base) (hF : va_F A1 st₀ t) :
    H.size ≤ T'.heap.size ∧ (∀ q : Nat, q < H.size → ¬ A1 q → T'.heap[q]? = H[q]?) ∧ va_S A0 H0 T'.heap (locs ++ L) := by
  obtain ⟨hz, hk⟩ := hF
  rw [h0] at hz hk
  exact ⟨by rw [e1]; exact hz, fun q h1 h2 => by rw [e1]; exact hk q h1 h2,
    ⟨Nat.le_trans hS.1 (by rw [e1]; exact hz), fun q h1 h2 => by rw [e1, hk q (Nat.lt_of_lt_of_le h1 hS.1) (fun z => h2 (hA q (Nat.lt_of_lt_of_le h1 hS.1) z))]; exact hS.2.1 q h1 h2, fun q hq => by
      rcases List.mem_append.mp hq with h | h
      · exact hS.2.2 q h
      · exact hf _ (hL q h)⟩⟩
theorem vx_calli {S SX : Type} {post : Int32 → S → Prop} {px : SX → Prop} {B : S → State → Prop} {BX : String → SX → State → Prop} {AX : Nat → Prop} (hr : vx_Run p l e R s m args below meth c H locs cells slots mc ms (F0 m pc ls st0) rest (va_Qi post B A1 a) (vx_X px BX AX) free) (hS : va_S A0 H0 H locs) (hA : ∀ q, q < H.size → A1 q → A0 q) (hf : ∀ q, free q → A0 q) (hAX : ∀ q, q < H.size → AX q → A0 q)
    (kx : ∀ (E : String) (ce : Cell) (q9 : Addr) (u : SX) (t : State) (H1 : Heap) (locs1 : List Loc), t.heap = H1 → s.vm.Alike t.vm → px u → BX E u t → H.size ≤ H1.size → (∀ q : Nat, q < H.size → ¬ AX q → H1[q]? = H[q]?) → va_S A0 H0 H1 locs1 → H1[q9]? = some ce → ce.vm = .none → s.vm.findClass E = some ce.cls → vx_W p l e R s m args below meth c H1 locs1 (cells + mc) (slots + ms) Q (F0 m pc ls rest) q9)
    (kk : ∀ (r : Int32) (u : S) (t : State) (H1 : Heap) (locs1 : List Loc), t.heap = H1 → s.vm.Alike t.vm → post r u → B u t → H.size ≤ H1.size → (∀ q : Nat, q < H.size → ¬ A1 q → H1[q]? = H[q]?) → va_S A0 H0 H1 locs1 → W p l e R s m args below meth c H1 locs1 (cells + mc) (slots + ms) Q (F0 m (pc + 3) ls (.int r :: rest))) : W p l e R s m args below meth c H locs cells slots Q (F0 m pc ls st0) := by
  intro T hT X
  rcases hr T hT X with ⟨v, st₀, t, T', L, h0, X', hL, e1, e2, ⟨⟨r, u, hv, hp, hb⟩, hF⟩, st⟩ | ⟨q, st₀, t, T', L, E, ce, h0, X', hL, e1, e2, ⟨u, hp, hb, hF⟩, hce, hcv, hcl, st⟩
  · cases hv
    obtain ⟨k1, k2, k3⟩ := vx_keep h0 e1 hS hA hf hL hF
    obtain ⟨t2, a1, b1⟩ := kk r u t T'.heap (locs ++ L) e1.symm (by rw [← e2]; exact X'.warmed.alike) hp hb k1 k2 k3 T' rfl X'
    exact ⟨t2, st t2 a1, b1⟩
  · obtain ⟨k1, k2, k3⟩ := vx_keep h0 e1 hS hAX hf hL hF
    obtain ⟨t2, a1, b1⟩ := kx E ce q u t T'.heap (locs ++ L) e1.symm (by rw [← e2]; exact X'.warmed.alike) hp hb k1 k2 k3 (by rw [e1]; exact hce) hcv hcl T' rfl X'
    exact ⟨t2, st.trans a1, b1⟩
end Rows
section Ends
variable {p : Program} {l : Launch} {e : Env} {R : Room} {s : State} {m : MethodId} {args : Array Value} {below : List Frame} {meth : Method} {c : Code} {H : Heap} {locs : List Loc} {cells slots : Nat} {Q : State → Prop}
variable {mc ms : Nat} {free : Addr → Prop} {A0 A1 : Nat → Prop} {H0 : Heap} {a : Array Value} {ls : Array Slot} {st0 rest : List Value}
variable {Qc : Array Value → State → Outcome → State → Prop} {XC : String → State → State → Prop}
/-- what a body that may throw owes at its end -/
def vx_MQ (below : List Frame) (Qc : Array Value → State → Outcome → State → Prop) (XC : String → State → State → Prop) (a : Array Value) (s : State) (mc ms : Nat) (free : Addr → Prop) : State → Prop := fun t =>
  ∃ o, t.status = .running ∧ Ended t below o ∧ vx_Q Qc XC mc ms free a s o t
theorem vx_ret {g : JFrame} {mc ms : Nat} (k : W p l e R s m args below meth c H locs cells slots (MQ below Qc args s mc ms free) g) : W p l e R s m args below meth c H locs cells slots (vx_MQ below Qc XC args s mc ms free) g := by
  intro T hT X
  obtain ⟨t, a1, o, b1, b2, b3, b4⟩ := k T hT X
  exact ⟨t, a1, o, b1, b2, Or.inl ⟨b3, b4⟩⟩
/-- not caught here: it goes on to the caller -/
theorem vx_widen {g : JFrame} {q : Addr} {k n : Nat} (h1 : cells ≤ k) (h2 : slots ≤ n) (kk : vx_W p l e R s m args below meth c H locs k n Q g q) : vx_W p l e R s m args below meth c H locs cells slots Q g q := fun T hT X => kk T hT (stand_widen X h1 h2)
theorem vx_out {pc : Nat} {E : String} {ce : Cell} {q : Addr} {mc ms : Nat} (hout : ∀ x ∈ c.exceptionTable.toList, covers x pc = false) (hlocks : meth.locks = false) (hcell : H[q]? = some ce) (hv : ce.vm = .none) (hcl : s.vm.findClass E = some ce.cls)
    (hx : ∀ t : State, t.heap = H → s.vm.Alike t.vm → XC E s t) (hf : ∀ z ∈ locs, free z.base) (hc : cells ≤ mc) (hs : slots ≤ ms) :
    vx_W p l e R s m args below meth c H locs cells slots (vx_MQ below Qc XC args s mc ms free) (F0 m pc ls rest) q := by
  intro T hT X
  obtain ⟨st1, hrun, hend, hW, hsm⟩ := X.leaveThrown q (g := F0 m pc ls rest) rfl rfl rfl hout hlocks
  have hcell9 : (T.setFrames (.throwing q :: below)).heap[q]? = some ce := by
    show T.heap[q]? = some ce
    rw [hT]; exact hcell
  exact ⟨_, st1, .threw q, hrun, hend, Or.inr ⟨q, rfl, E, ce, locs, hx _ hT hW.alike, hcell9, hv, hcl, hW, hsm.mono hc hs, hf⟩⟩
theorem vx_frame {U : State} {k n : Nat} (h : s.sameButNew ({ U with vm := s.vm } : State) locs k n) : s.heap.size ≤ U.heap.size ∧ ∀ q : Nat, q < s.heap.size → (∀ z ∈ locs, z.base ≠ q) → U.heap[q]? = s.heap[q]? := by
  obtain ⟨-, h2, -, -, -, h6⟩ := h
  refine ⟨h2, fun q hq hz => ?_⟩
  obtain ⟨c9, e1, e2, e3, e4⟩ := h6 q _ (Array.getElem?_eq_getElem hq)
  have hs : c9.slots = (s.heap[q]).slots := Array.ext_getElem? fun i => e4 i fun hm => hz _ hm rfl
  have h9 : c9 = s.heap[q] := by
    rw [hs] at e2
    exact e2
  have e5 : U.heap[q]? = some c9 := e1
  rw [e5, h9, Array.getElem?_eq_getElem hq]
/-- the words of a throw but the four that speak of the heap -/
def vx_no (w : Cond) : Bool := decide (w ≠ .isRef (.static Bundle.tN "UNASSIGNED_STACK" Bundle.steD)) && decide (w ≠ .isRef (.static Bundle.tN "SUPPRESSED_SENTINEL" Bundle.listD)) && decide (w ≠ .laysStatic Bundle.tN "UNASSIGNED_STACK" Bundle.steD) && decide (w ≠ .laysStatic Bundle.tN "SUPPRESSED_SENTINEL" Bundle.listD)
def vx_at0 (own : String) (ic : Nat) (X : String) (names : List String) : List Cond := (Bundle.ownAtoms0 own ic X names).filter vx_no
/-- a word that the tables alone decide, or a good one -/
def vx_ot (w : Cond) : Bool := w.onTables || goodWord w
theorem vx_ot_at {args a' : Array Value} {s U : State} {w : Cond} (hW : s.WarmedH U.vm) (hvm : s.vm = U.vm) (hg : vx_ot w = true) (h : w.before args s = true) : w.before a' U = true := by
  simp only [vx_ot, Bool.or_eq_true] at hg
  rcases hg with hg | hg
  · exact va_tabs hg hvm h
  · exact word_at hW (good_of_word hg) h
/-- a list's words: the good ones out of the method's own list, the others by premises of their own -/
theorem vx_hat {args : Array Value} {s : State} {L B : List Cond} (h1 : ∀ w ∈ L.filter goodWord, w.before args s = true) (h2 : ∀ w ∈ L.filter (fun w => !goodWord w), w ∈ B) (h3 : ∀ w ∈ B, w.before args s = true) : ∀ w ∈ L, w.before args s = true := by
  intro w hw
  by_cases g : goodWord w = true
  · exact h1 w (List.mem_filter.mpr ⟨hw, g⟩)
  · refine h3 w (h2 w (List.mem_filter.mpr ⟨hw, ?_⟩))
    show (!goodWord w) = true
    cases hgw : goodWord w
    · rfl
    · exact absurd hgw g
theorem vx_c {args : Array Value} {s : State} {w : Cond} {B : List Cond} (h : w.before args s = true) (t : ∀ w ∈ B, w.before args s = true) : ∀ w' ∈ w :: B, w'.before args s = true := fun w' h' => (List.mem_cons.mp h').elim (fun e => by rw [e]; exact h) (t w')
theorem vx_n {args : Array Value} {s : State} : ∀ w ∈ ([] : List Cond), w.before args s = true := fun _ h => nomatch h
theorem vx_own {args : Array Value} {s : State} {L : List Cond} (h1 : ∀ w ∈ L.filter vx_no, w.before args s = true)
    (hU : (Cond.isRef (.static Bundle.tN "UNASSIGNED_STACK" Bundle.steD)).before args s = true) (hN : (Cond.isRef (.static Bundle.tN "SUPPRESSED_SENTINEL" Bundle.listD)).before args s = true)
    (lU : (Cond.laysStatic Bundle.tN "UNASSIGNED_STACK" Bundle.steD).before args s = true) (lN : (Cond.laysStatic Bundle.tN "SUPPRESSED_SENTINEL" Bundle.listD).before args s = true) : ∀ w ∈ L, w.before args s = true := by
  intro w hw
  by_cases e1 : w = .isRef (.static Bundle.tN "UNASSIGNED_STACK" Bundle.steD)
  · rw [e1]; exact hU
  · by_cases e2 : w = .isRef (.static Bundle.tN "SUPPRESSED_SENTINEL" Bundle.listD)
    · rw [e2]; exact hN
    · by_cases e3 : w = .laysStatic Bundle.tN "UNASSIGNED_STACK" Bundle.steD
      · rw [e3]; exact lU
      · by_cases e4 : w = .laysStatic Bundle.tN "SUPPRESSED_SENTINEL" Bundle.listD
        · rw [e4]; exact lN
        · exact h1 w (List.mem_filter.mpr ⟨hw, by unfold vx_no; rw [decide_eq_true e1, decide_eq_true e2, decide_eq_true e3, decide_eq_true e4]; rfl⟩)
/-- where a static field lies, its class's statics cell in H -/
def vx_L (C n d : String) (A : Nat → Prop) (U : State) (H : Heap) : Prop := ∃ (c : ClassId) (k : Class) (i : Nat) (f : Field) (a : Nat) (cell : Cell), U.vm.findClass C = some c ∧ U.fieldFound? C n d = some (c, k, i, f) ∧ f.isStatic = true ∧ k.statics = some a ∧ H[a]? = some cell ∧ cell.vm.isStatics = true ∧ cell.cls = c ∧ f.slot < cell.slots.size ∧ k.staticTypes[f.slot]? = some f.type ∧ ¬ A a
theorem vx_L.moved {C n d : String} {A : Nat → Prop} {u U : State} {H : Heap} (hvm : u.vm.Alike U.vm) (h : vx_L C n d A u H) : vx_L C n d A U H := by
  obtain ⟨c, k, i, f, a, cell, h1, h2, h3, h4, h5, h6, h7, h8, h9, h10⟩ := h
  obtain ⟨k', hi', he⟩ := State.fieldFound?_setVm hvm h2
  exact ⟨c, k', i, f, a, cell, by rw [hvm.findClass]; exact h1, hi', h3, by rw [he]; exact h4, h5, h6, h7, h8, by rw [he]; exact h9, h10⟩
theorem vx_L.kept {C n d : String} {A : Nat → Prop} {U : State} {H H1 : Heap} (h : vx_L C n d A U H) (hq : ∀ a : Nat, a < H.size → ¬ A a → H1[a]? = H[a]?) : vx_L C n d A U H1 := by
  obtain ⟨c, k, i, f, a, cell, h1, h2, h3, h4, h5, h6, h7, h8, h9, h10⟩ := h
  exact ⟨c, k, i, f, a, cell, h1, h2, h3, h4, by rw [hq a (Array.getElem?_eq_some_iff.mp h5).1 h10]; exact h5, h6, h7, h8, h9, h10⟩
theorem vx_L.narrow {C n d : String} {A B : Nat → Prop} {U : State} {H : Heap} (h : vx_L C n d A U H) (hAB : ∀ q, B q → A q) : vx_L C n d B U H := by
  obtain ⟨c, k, i, f, a, cell, h1, h2, h3, h4, h5, h6, h7, h8, h9, h10⟩ := h
  exact ⟨c, k, i, f, a, cell, h1, h2, h3, h4, h5, h6, h7, h8, h9, fun z => h10 (hAB _ z)⟩
theorem vx_L.word {C n d : String} {A : Nat → Prop} {s : State} {args : Array Value} (h : vx_L C n d A s s.heap) : (Cond.laysStatic C n d).before args s = true := by
  obtain ⟨c, k, i, f, a, cell, h1, h2, h3, h4, h5, h6, h7, h8, h9, -⟩ := h
  show (Cond.laysStatic C n d).holds args s none s [] = true
  exact Cond.laysStatic_of h1 h2 h3 h4 h5 h6 h7 h8 h9
/-- .. and what it holds: null or some reference -/
def vx_Zq (C n d : String) (A : Nat → Prop) (U : State) (H : Heap) : Prop := va_Zq C n d A U H ∧ vx_L C n d A U H
theorem vx_Zq.moved {C n d : String} {A : Nat → Prop} {u U : State} {H : Heap} (hvm : u.vm.Alike U.vm) (h : vx_Zq C n d A u H) : vx_Zq C n d A U H := ⟨va_Zq.moved hvm h.1, vx_L.moved hvm h.2⟩
theorem vx_Zq.kept {C n d : String} {A : Nat → Prop} {U : State} {H H1 : Heap} (h : vx_Zq C n d A U H) (hq : ∀ a : Nat, a < H.size → ¬ A a → H1[a]? = H[a]?) : vx_Zq C n d A U H1 := ⟨va_Zq.kept h.1 hq, vx_L.kept h.2 hq⟩
theorem vx_Zq.narrow {C n d : String} {A B : Nat → Prop} {U : State} {H : Heap} (h : vx_Zq C n d A U H) (hAB : ∀ q, B q → A q) : vx_Zq C n d B U H := ⟨va_Zq.narrow h.1 hAB, vx_L.narrow h.2 hAB⟩
theorem vx_Zqof {args : Array Value} {s : State} {C n d : String} {A : Nat → Prop} (hl : (Cond.laysStatic C n d).before args s = true) (hini : (Cond.initialized C).before args s = true) (h : (Cond.isRef (.static C n d)).before args s = true) (hA : ∀ a : Nat, a < s.heap.size → ¬ A a) : vx_Zq C n d A s s.heap := by
  refine ⟨va_Zqof hl hini h hA, ?_⟩
  obtain ⟨c, k, i, f, a, cell, h1, h2, h3, h4, h5, h6, h7, h8, h9⟩ := Cond.laysStatic_spec hl
  exact ⟨c, k, i, f, a, cell, h1, h2, h3, h4, h5, h6, h7, h8, h9, hA a (Array.getElem?_eq_some_iff.mp h5).1⟩
theorem vx_isRef {C n d : String} {v : Value} {A : Nat → Prop} {s : State} {args : Array Value} (h : va_Z C n d v A s s.heap) (hv : v.isRef = true) : (Cond.isRef (.static C n d)).before args s = true := by
  obtain ⟨cf, kf, fi, f, a, cell, h1, h2, h3, h4, h5, h6, h7, -⟩ := h
  have he : (Term.static C n d).eval args s none [] s = some v := by
    simp [Term.eval, State.fieldNamed?, h1, h2, h4, h5, h6, h7]
  simp only [Cond.before, Cond.holds, Cond.value, he]
  cases v <;> simp_all [Value.isRef]
theorem vx_isRefq {C n d : String} {A : Nat → Prop} {s : State} {args : Array Value} (h : va_Zq C n d A s s.heap) : (Cond.isRef (.static C n d)).before args s = true := by
  rcases h with h | ⟨t, h⟩
  · exact vx_isRef h rfl
  · exact vx_isRef h rfl
/-- the same frame, seen from here: as if the method were called anew in this heap -/
theorem vx_rebase {T : State} (X : Stand p l e R s m args below meth c T locs cells slots) {R' : Room} (hf : R'.frames ≤ R.frames) (hl : R'.locals ≤ R.locals) (hc : cells + R'.cells ≤ R.cells) (hs : slots + R'.slots ≤ R.slots) :
    Stand p l e R' ((T.setVm s.vm).setFrames (.invoking m args :: below)) m args below meth c T [] 0 0 := by
  have htop : (T.setVm s.vm).topJava?.isSome := X.here.top
  have hF : ((T.setVm s.vm).setFrames (.invoking m args :: below)).frames = .invoking m args :: below := State.frames_setFrames _ (State.cur_lt_of_top htop)
  obtain ⟨g₀, hg0⟩ := Option.isSome_iff_exists.mp htop
  obtain ⟨r, hr⟩ := State.topJava?_eq_some.mp hg0
  have hl9 : e.platform.stackLimits (T.setVm s.vm).me = e.platform.stackLimits s.me := X.limits
  have hb9 : (T.setVm s.vm).me.stackBytes = s.me.stackBytes := X.bytes
  refine ⟨X.admits, X.cas, X.clock, hF, ?_, X.hears, X.method, X.code, X.here, X.tail, X.warmed, ?_, ?_, ?_⟩
  · have h := X.room
    have hU : ((T.setVm s.vm).setFrames (.invoking m args :: below)).localsInUse = s.localsInUse := by
      rw [State.localsInUse_invoking hF (meth := meth) (c := c) X.method X.code, State.localsInUse_invoking X.frames X.method X.code]
    simp only [State.hasRoom, Bool.and_eq_true, decide_eq_true_eq] at h ⊢
    obtain ⟨⟨⟨⟨h1, h2, h3, h4, h5, h6⟩, h7⟩, h8⟩, h9⟩ := h
    rw [X.frames, List.length_cons] at h2 h3
    have q1 := X.heapSize
    have q2 := X.used
    simp only [hF, hU, List.length_cons, State.stackLimits_setFrames, State.stackBytes_setFrames, hl9, hb9]
    refine ⟨⟨⟨⟨by omega, by omega, by omega, by omega, by omega, h6⟩, ?_⟩, ?_⟩, X.book⟩
    · show T.heap.size + R'.cells ≤ e.platform.maxCells
      omega
    · show T.slotsUsed + R'.slots ≤ e.platform.maxSlots
      omega
  · rw [State.stackLimits_setFrames]; rfl
  · rw [State.stackBytes_setFrames]; rfl
  · refine ⟨?_, Nat.le_refl _, Nat.le_refl _, ?_, ?_, fun a c9 h9 => ⟨c9, h9, rfl, rfl, fun _ _ => rfl⟩⟩
    · obtain ⟨t, ht, -⟩ := State.frames_cons hr
      show T.setVm s.vm = { ((T.setVm s.vm).setFrames (.invoking m args :: below)).setFrames (T.setVm s.vm).frames with heap := T.heap, slotsUsed := T.slotsUsed }
      rw [State.setFrames_setFrames, State.setFrames_self ht]
      rfl
    · show T.slotsUsed = T.slotsUsed + ((T.heap.toList.drop T.heap.size).map (·.slots.size)).sum
      rw [List.drop_eq_nil_of_le (Nat.le_of_eq Array.length_toList)]
      rfl
    · show ((T.heap.toList.drop T.heap.size).map (·.slots.size)).sum ≤ 0
      rw [List.drop_eq_nil_of_le (Nat.le_of_eq Array.length_toList)]
      exact Nat.le_refl _
/-- 'throw new E()': new; dup; invokespecial; athrow -/
theorem vx_throw0 {cc : ByteArray} {pc : Nat} (hexec : p.tables.exec = Jvm.exec) (hb : c.code = cc) (hl : l.stackTraces = false) {own cls : String} {names : List String} {ik ic mc ms : Nat} {A : Nat → Prop}
    (hown : s.vm.findClass own = some m.cls) (hcls : Bundle.fit cls = true) (hnames : ∀ n ∈ names, Bundle.fit n = true)
    (hk : (Cond.classLink own ik cls).before args s = true) (hini : (Cond.initialized cls).before args s = true) (hat : ∀ w ∈ vx_at0 own ic cls names, w.before args s = true)
    (hgood : ∀ w ∈ Cond.classLink own ik cls :: Cond.initialized cls :: vx_at0 own ic cls names, vx_ot w = true)
    (hU : vx_Zq Bundle.tN "UNASSIGNED_STACK" Bundle.steD A s s.heap) (hN : vx_Zq Bundle.tN "SUPPRESSED_SENTINEL" Bundle.listD A s s.heap) (hS : va_S A s.heap H locs) (hsize : ls.size = c.maxLocals)
    (d0 : decode cc pc = .ok (.new ik, 3)) (d3 : decode cc (pc + 3) = .ok (.dup, 1)) (d4 : decode cc (pc + 4) = .ok (.invokespecial ic, 3)) (d7 : decode cc (pc + 7) = .ok (.athrow, 1))
    (hout : ∀ x ∈ c.exceptionTable.toList, covers x (pc + 7) = false)
    (hRframes : names.length + 3 < R.frames) (hRlocals : (rest.map fun v => v.category).sum + (13 * (names.length + 1) + 42) ≤ R.locals) (hRcells : cells + 1 ≤ R.cells) (hRslots : slots + 6 ≤ R.slots) (hlocks : meth.locks = false)
    (hx : ∀ t : State, s.vm.Alike t.vm → H.size ≤ t.heap.size → (∀ q : Nat, q < H.size → t.heap[q]? = H[q]?) → XC cls s t)
    (hf : ∀ z ∈ locs, free z.base) (hc : cells + 1 ≤ mc) (hs : slots + 6 ≤ ms) :
    W p l e R s m args below meth c H locs cells slots (vx_MQ below Qc XC args s mc ms free) (F0 m pc ls rest) := by
  intro T hT X
  have htr : e.platform.stackTraces = false := (show e.platform.stackTraces = l.stackTraces by rw [X.admits.platform]).trans hl
  have Y := vx_rebase X (R' := { frames := R.frames, locals := R.locals, cells := 1, slots := 6 }) (Nat.le_refl _) (Nat.le_refl _) hRcells hRslots
  obtain ⟨s', hA⟩ : ∃ z, z = (T.setVm s.vm).setFrames (.invoking m args :: below) := ⟨_, rfl⟩
  rw [← hA] at Y
  have hvm : s'.vm = s.vm := by rw [hA]; rfl
  have hhp : s'.heap = H := by rw [hA]; exact hT
  have hW0 : s.WarmedH s'.vm := by rw [hvm]; exact State.WarmedH.refl s
  have hat' : ∀ w ∈ vx_at0 own ic cls names, w.before args s' = true := fun w hw => vx_ot_at hW0 hvm.symm (hgood w (List.mem_cons_of_mem _ (List.mem_cons_of_mem _ hw))) (hat w hw)
  have hk' : (Cond.classLink own ik cls).before args s' = true := vx_ot_at hW0 hvm.symm (hgood _ List.mem_cons_self) hk
  have hini' : (Cond.initialized cls).before args s' = true := vx_ot_at hW0 hvm.symm (hgood _ (List.mem_cons_of_mem _ List.mem_cons_self)) hini
  have hU' : vx_Zq Bundle.tN "UNASSIGNED_STACK" Bundle.steD A s' s'.heap := by rw [hhp]; exact vx_Zq.moved hW0.alike (hU.kept hS.2.1)
  have hN' : vx_Zq Bundle.tN "SUPPRESSED_SENTINEL" Bundle.listD A s' s'.heap := by rw [hhp]; exact vx_Zq.moved hW0.alike (hN.kept hS.2.1)
  have h : ∀ w ∈ Bundle.ownAtoms0 own ic cls names, w.before args s' = true := vx_own hat' (vx_isRefq hU'.1) (vx_isRefq hN'.1) hU'.2.word hN'.2.word
  have hown' : s'.vm.findClass own = some m.cls := by rw [hvm]; exact hown
  have hins : (Cond.instantiable cls 6).before args s' = true := h _ (by simp [Bundle.ownAtoms0])
  obtain ⟨vm₁, cX, kX, hfX, hkX, -, -, X₁, st1⟩ := Y.newCold hexec (own := own) (C := cls) (index := ik) (n := 6) hown' hk' hins hini'
    (g := F0 m pc ls rest) rfl (by rw [hb]; exact d0) (Nat.le_refl _) (Nat.le_refl _)
  generalize hT1 : (T.setVm vm₁).pushCell { cls := cX, slots := kX.instanceTypes.map defaultValue, vm := .none } = T1 at X₁ st1
  have hcat : (Value.ref T.heap.size).category = 1 := rfl
  have hcellA : T1.heap[T.heap.size]? = some (freshCell cX kX) := by rw [← hT1]; exact State.heap_pushCell_size _ _
  have d3' : decode c.code (pc + 3) = .ok (.dup, 1) := by rw [hb]; exact d3
  obtain ⟨U, hsteps, hrun, hend, hW, hsame, ce, hce, hO⟩ := X₁.ctorThrow0 hexec htr (own := own) (cls := cls) (names := names) (ic := ic) hown' hcls hnames h (fun x hx => nomatch hx) hfX hkX hcellA (by rw [hhp, hT]; exact Nat.le_refl _)
    (g := { method := m, pc := pc + 4, locals := ls, stack := .ref T.heap.size :: .ref T.heap.size :: rest, locked := none }) rfl hsize rfl rfl (rest := rest) rfl
    (by rw [hb]; exact d4) (by rw [hb]; exact d7) hout hRframes (by simp only [List.map_cons, List.sum_cons, hcat]; omega) hlocks
  obtain ⟨f1, f2⟩ := vx_frame hsame
  rw [hhp] at f1 f2
  have hWs : s.WarmedH U.vm := State.WarmedH.trans hW0 hW
  have hcl : s.vm.findClass cls = some ce.cls := by
    have h9 := hO.cls
    rw [hvm] at h9
    exact h9
  have hall : s.sameButNew ({ U with vm := s.vm } : State) locs mc ms := by
    subst hA
    obtain ⟨e1, e2⟩ := hsame
    rw [State.setFrames_setFrames] at e1
    have h2 : (T.setVm s.vm).sameButNew ({ U with vm := s.vm } : State) [] (0 + 1) (0 + 6) := ⟨e1, e2⟩
    have h3 := X.same.trans h2
    rw [List.append_nil] at h3
    exact h3.mono hc hs
  refine ⟨U, ?_, .threw T.heap.size, hrun, hend, Or.inr ⟨T.heap.size, rfl, cls, ce, locs, hx U hWs.alike f1 (fun q hq => f2 q hq (fun z hz => nomatch hz)), hce, hO.vm, hcl, hWs, hall, hf⟩⟩
  refine st1 _ ?_
  show Steps p.tables e below (T1.setTop { method := m, pc := pc + 3, locals := ls, stack := .ref T.heap.size :: rest, locked := none }) _
  jvm_step X₁.here [X₁.here.top, hexec, d3', Value.category]
  exact hsteps
end Ends
section Bodies
variable {l : Launch}
theorem vx_ofW {y : MethodName} {ws ws' : List Cond} {rm : Room} {Pc : Array Value → State → Prop} {Qc : Array Value → State → Outcome → State → Prop} {XC : String → State → State → Prop} {mc ms : Nat} {free : Addr → Prop} {cc : ByteArray} {maxL : Nat} {ret : Option FieldType}
    (hy : plainName y.cls = true) (hw : ws = Cond.code y cc maxL ret :: ws')
    (body : ∀ p e s m args below meth c s₁, BodyLoose p l y (headSpec ws rm) cc maxL ret e s m args below meth c s₁ → c.maxLocals = maxL → (∀ x ∈ c.exceptionTable.toList, False) → Pc args s →
      W p l e (headSpec ws rm).room s m args below meth c s.heap [] 0 0 (vx_MQ below Qc XC args s mc ms free) (entryFrame m args maxL)) : vx_Met l y ws rm Pc Qc XC mc ms free := by
  refine MetFree.of_bodyS (code := cc) (maxLocals := maxL) (ret := ret) hy ?_ ?_
  · intro args s m h hn
    obtain ⟨meth, c, h1, h2, h3, h4, h5, h6, -, -⟩ := Cond.code_spec hn (atoms_spec (ws := ws) h _ (by rw [hw]; exact List.mem_cons_self))
    exact ⟨meth, c, h1, h2, h3, h4, h5, h6⟩
  · intro p e s m args below meth c s₁ B hml hP _
    have hh0 : s₁.heap = s.heap := by rw [B.state]; rfl
    have ht : ∀ x ∈ c.exceptionTable.toList, False := by
      obtain ⟨meth9, c9, h1, h2, -, -, -, -, h7, -⟩ := Cond.code_spec B.named (atoms_spec (ws := ws) B.pre _ (by rw [hw]; exact List.mem_cons_self))
      cases Option.some.inj (h1.symm.trans B.method)
      cases Option.some.inj (h2.symm.trans (Stand.of_body B).code)
      intro x hx
      rw [Array.isEmpty_iff.mp h7] at hx
      cases hx
    obtain ⟨t, a1, o, b1, b2, b3⟩ := body p e s m args below meth c s₁ B hml ht hP s₁ hh0 (Stand.of_body B)
    exact ⟨t, o, a1, b1, b2, b3⟩
/-- the table of a body with handlers -/
theorem vx_table {p : Program} {x y : MethodName} {S : Spec} {cc bytes : ByteArray} {maxL maxL' : Nat} {ret ret' : Option FieldType} {e : Env} {s s₁ : State} {m : MethodId} {args : Array Value} {below : List Frame} {meth : Method} {c : Code} {hh : List (Nat × Nat × Nat × Nat)}
    (B : BodyLoose p l y S cc maxL ret e s m args below meth c s₁) (h : (Cond.codeWith y bytes maxL' ret' hh).before args s = true) : c.exceptionTable.toList = tableOf hh := by
  obtain ⟨m9, meth9, c9, hn9, h1, h2, -, -, h6, -⟩ := Cond.codeWith_spec h
  cases Option.some.inj (hn9.symm.trans B.named)
  cases Option.some.inj (h1.symm.trans B.method)
  cases Option.some.inj (h2.symm.trans (Stand.of_body B).code)
  rw [← h6, table_eq]
end Bodies
end VXA
section VXS
variable {p : Program} {l : Launch} {e : Env} {R : Room} {s : State} {m : MethodId} {args : Array Value} {below : List Frame} {meth : Method} {c : Code} {T : State} {H : Heap} {locs : List Loc} {cells slots : Nat}
abbrev vx_CSW (R : Room) (s : State) (args : Array Value) (own : String) (index : Nat) (y : MethodName) (bytes : ByteArray) (maxL : Nat) (ret : Option FieldType) (hh : List (Nat × Nat × Nat × Nat)) (ws : List Cond) (rm : Room) (mc ms n : Nat) : Prop :=
  (rm.cells = mc ∧ rm.slots = ms ∧ rm.frames + 1 ≤ R.frames ∧ 8 + (maxL + 11) + rm.locals ≤ R.locals ∧ (∀ w ∈ ws, ∀ (a' : Array Value) (U : State), s.WarmedH U.vm → w.before a' U = true) ∧ Cond.codeWith y bytes maxL ret hh ∈ ws) ∧
  (Cond.codeWith y bytes maxL ret hh).before args s = true ∧ (Cond.initialized y.cls).before args s = true ∧ (y.cls ≠ "java/lang/invoke/MethodHandle" ∧ y.cls ≠ "java/lang/invoke/VarHandle") ∧
  (∀ sig, parseMethodDescriptor y.desc = some sig → n = sig.parameters.length) ∧ (Cond.methodLink own index y).before args s = true ∧ (Cond.static y).before args s = true
theorem vx_cwSW {own : String} {index maxL mc ms : Nat} {y : MethodName} {bytes : ByteArray} {ret : Option FieldType} {hh : List (Nat × Nat × Nat × Nat)} {Ts ws ws' : List Cond} {rm : Room} (n : Nat) (ht : ∀ w ∈ Ts, w.before args s = true) (hT : GoodIn Ts (va_wsS own index y ws)) (hw : ws = Cond.codeWith y bytes maxL ret hh :: ws') (hrc : rm.cells = mc) (hrs : rm.slots = ms)
    (hd : y.cls ≠ "java/lang/invoke/MethodHandle" ∧ y.cls ≠ "java/lang/invoke/VarHandle" ∧ (parseMethodDescriptor y.desc).map (fun d => d.parameters.length) = some n) (hR : rm.frames + 1 ≤ R.frames ∧ 8 + (maxL + 11) + rm.locals ≤ R.locals) :
    vx_CSW R s args own index y bytes maxL ret hh ws rm mc ms n := by
  have ok : ∀ w ∈ va_wsS own index y ws, w.before args s = true := fun w h => ht w (hT w h).1
  have hG : GoodIn Ts ws := fun w h => hT w (by unfold va_wsS; exact List.mem_append_right _ h)
  have hc : Cond.codeWith y bytes maxL ret hh ∈ ws := by rw [hw]; exact List.mem_cons_self
  refine ⟨⟨hrc, hrs, hR.1, hR.2, pay_in ht hG, hc⟩, ht _ (hG _ hc).1, ok _ (by simp [va_wsS]), ⟨hd.1, hd.2.1⟩, fun sig h => ?_, ok _ (by simp [va_wsS]), ok _ (by simp [va_wsS])⟩
  have h2 := hd.2.2
  rw [h] at h2
  exact (Option.some.inj h2).symm
theorem vx_callSW (X : Stand p l e R s m args below meth c T locs cells slots) (hexec : p.tables.exec = Jvm.exec) {own : String} {index : Nat} {y : MethodName} {bytes : ByteArray} {maxL : Nat} {ret : Option FieldType} {hh : List (Nat × Nat × Nat × Nat)}
    (hown : s.vm.findClass own = some m.cls) (hlink : (Cond.methodLink own index y).before args s = true) (hstat : (Cond.static y).before args s = true) (hinit : (Cond.initialized y.cls).before args s = true)
    (hcode : (Cond.codeWith y bytes maxL ret hh).before args s = true) (hy : y.cls ≠ "java/lang/invoke/MethodHandle" ∧ y.cls ≠ "java/lang/invoke/VarHandle")
    {W9 : Nat} {Pre : Pt → Array Value → Prop} {Post : Pt → Array Value → Option Value → Pt → Prop} (hK : Back l R p e below s args y 3 W9 Pre Post)
    {g : JFrame} (hg : g.method = m) (hsize : g.locals.size = c.maxLocals) {argsL rest : List Value} (hlen : ∀ sig, parseMethodDescriptor y.desc = some sig → argsL.length = sig.parameters.length)
    (hstack : g.stack = argsL.reverse ++ rest) (hW : 2 * g.monitorRoom + (rest.map fun v => v.category).sum ≤ W9) (hdg : decode c.code g.pc = .ok (.invokestatic index, 3))
    (hpre : ∀ vm₁, s.WarmedH vm₁ → Pre ⟨T.setVm vm₁, locs, cells, slots⟩ argsL.toArray) :
    ∃ (v : Option Value) (vm₁ : Vm) (B : Pt), s.WarmedH vm₁ ∧ Stand p l e R s m args below meth c B.U B.locs B.cells B.slots ∧ Post ⟨T.setVm vm₁, locs, cells, slots⟩ argsL.toArray v B ∧
      ∀ target, Steps p.tables e below (B.U.setTop { g with pc := g.pc + 3, stack := v.toList ++ rest }) target → Steps p.tables e below (T.setTop g) target := by
  obtain ⟨mk, methM, cM, hnamed, hmethM, -, -, -, -, -, -, hsigM⟩ := Cond.codeWith_spec hcode
  have hstatic : methM.isStatic = true := Cond.static_spec hnamed hmethM hstat
  obtain ⟨kP, hkP, -⟩ := className_of_methodNamed hnamed
  have hinitP : kP.init = .initialized := Cond.initialized_spec (findClass_of_methodNamed hnamed) hkP hinit
  obtain ⟨vm₁, X₁, hstep₁⟩ := X.invokestatic hexec hown hlink hnamed hmethM hstatic hkP hinitP hy (g := g) hg (argsL := argsL) (rest := rest) (hlen _ hsigM) hstack hdg
  obtain ⟨v, B, X', hpost, hsteps⟩ := hK m meth c ⟨T.setVm vm₁, locs, cells, slots⟩ { g with stack := rest } (.invokestatic index) mk argsL.toArray X₁ hg hsize hdg hW (X₁.named hnamed) (hpre vm₁ X₁.warmed)
  exact ⟨v, vm₁, B, X₁.warmed, X', hpost, fun target h => hstep₁ _ fun acts => by rw [doInvoke_state]; exact hsteps.trans h⟩
theorem vx_runSW {y : MethodName} {bytes cc : ByteArray} {maxL nL mc ms n index : Nat} {ret : Option FieldType} {hh : List (Nat × Nat × Nat × Nat)} {ws : List Cond} {rm : Room} {Pc : Array Value → State → Prop} {Qc : Array Value → State → Outcome → State → Prop} {free : Addr → Prop} {Ts : List Cond} {own : String} {As rest : List Value} {g : JFrame}
    (S : CallFix p m c cc nL s args Ts own) (hM : Met l y ws rm Pc Qc mc ms free) (cw : vx_CSW R s args own index y bytes maxL ret hh ws rm mc ms n) (hp : PreS s H Pc As)
    (hg : g.method = m) (hn : As.length = n) (hsize : g.locals.size = nL) (hstack : g.stack = As.reverse ++ rest) (hW : 2 * g.monitorRoom + (rest.map fun v => v.category).sum ≤ 8) (hdg : decode cc g.pc = .ok (.invokestatic index, 3)) (hf : cells + mc ≤ R.cells ∧ slots + ms ≤ R.slots) :
    va_Run p l e R s m args below meth c H locs cells slots mc ms g rest (Qc As.toArray) (free) := by
  obtain ⟨⟨hrc, hrs, hfr, hlo, hws, hcw⟩, hcode, hini, hy, hlen, hl, hstt⟩ := cw
  have hK : Back l R p e below s args y 3 8 (PreOf R mc ms Pc) (PostOf Qc mc ms free) := va_backW (hh := hh) (bytes := bytes) (maxL := maxL) (ret := ret) hM hp.1 hrc hrs hfr hlo hws hcw (fun a' U hW => word_at hW (Or.inl (by first | rfl | simp [Cond.onTables, Cond.keeps, Cond.steady])) hini)
  obtain ⟨hx, hb, hml, ho, -⟩ := S
  intro T hT X
  obtain ⟨v, vm₁, ⟨U', l2, c2, s2⟩, hW₁, X', ⟨g', mk, t, L, e1, e2, hq, h1, hL, h2, h3⟩, st⟩ := vx_callSW X hx (hh := hh) (bytes := bytes) (maxL := maxL) (ret := ret) ho hl hstt hini hcode hy hK hg (hsize.trans hml.symm) (argsL := As) (rest := rest) (fun sig h => hn.trans (hlen sig h)) hstack hW (by rw [hb]; exact hdg)
    (fun vm₁ hW₁ => ⟨hf.1, hf.2, hp.2 (T.setVm vm₁) hT hW₁⟩)
  dsimp only [Pt.U, Pt.locs, Pt.cells, Pt.slots] at X' e1 e2 h1 h2 h3 st
  subst h1; subst h2; subst h3
  exact ⟨v, (T.setVm vm₁).calling g' mk As.toArray, t, U', L, hT, X', hL, e1, e2, hq, st⟩
end VXS
end
section
/-- thrown over a frame of a method whose table has one row: that row covers the place and names a class that takes it, so the walk goes on at its handler. (Our own row: the printed one names a law that rounds don't have.) -/
theorem kCatch {p : Program} {l : Launch} {e : Env} {R : Room} {s : State} {m : MethodId} {args : Array Value} {below : List Frame} {meth : Method} {c : Code} {H : Heap} {locs : List Loc} {cells slots : Nat} {Q : State → Prop} {ls : Array Slot} {rest : List Value} {pc : Nat}
    {own name E : String} {ce : Cell} {q : Addr} {x : ExceptionTableEntry} (hown : s.vm.findClass own = some m.cls) (hone : c.exceptionTable.toList = [x]) (hcov : covers x pc = true) (h0 : x.catchType ≠ 0)
    (hlink : (Cond.classLink own x.catchType name).before args s = true) (hcast : (Cond.castable E name).before args s = true) (hcell : H[q]? = some ce) (hv : ce.vm = .none) (hcl : s.vm.findClass E = some ce.cls)
    (kk : W p l e R s m args below meth c H locs cells slots Q (F0 m x.handlerPc ls [.ref q])) : vx_W p l e R s m args below meth c H locs cells slots Q (F0 m pc ls rest) q := by
  intro T hT X
  have hpl : e.platform.magicAccessors = ({} : Platform).magicAccessors := by rw [X.admits.platform]
  obtain ⟨cE, cN, hE, hN, hasg⟩ := Cond.castable_spec hcast
  obtain ⟨cL, hL, hlk⟩ := Cond.classLink_spec hown hlink e.platform hpl
  cases Option.some.inj (hE.symm.trans hcl)
  cases Option.some.inj (hN.symm.trans hL)
  obtain ⟨S, hSe⟩ : ∃ S : State, S = (T.setTop (F0 m pc ls rest)).pushFrame (.throwing q) := ⟨_, rfl⟩
  have hSv : S.vm = T.vm := by rw [hSe]; rfl
  have hSh : S.heap[q]? = some ce := by rw [hSe]; show T.heap[q]? = some ce; rw [hT]; exact hcell
  have hWS : s.WarmedH S.vm := by rw [hSv]; exact X.warmed
  have hlS : S.vm.ClassLinks e.platform m.cls x.catchType cN := hWS.classLinks hlk
  obtain ⟨hr1, hr2⟩ := (resolveClass_links e.toSetting hlS).op (op := VmOp.resolveClass m.cls x.catchType) rfl
  obtain ⟨vm1, hvm1⟩ : ∃ v : Vm, v = S.vm.noted m.cls x.catchType (.cls cN) := ⟨_, rfl⟩
  have hal : s.vm.Alike vm1 := by rw [hvm1]; exact hWS.alike.noted _ _ _
  obtain ⟨k1, hk1⟩ := Vm.classAt_of_findClass hcl
  obtain ⟨k2, hk2⟩ := Vm.classAt_of_findClass hL
  obtain ⟨k1', hk1', -⟩ := hal.2.2 _ _ hk1
  obtain ⟨k2', hk2', -⟩ := hal.2.2 _ _ hk2
  have hfit : vm1.assignable ce.cls cN = true := by rw [hal.assignable]; exact hasg
  have hns : ∀ k, ce.vm ≠ .statics k := fun k h => by rw [hv] at h; cases h
  have hcv : (decide (x.startPc ≤ pc) && decide (pc < x.endPc)) = true := hcov
  have hm : S.vm.method? m = some meth := by rw [hSv]; exact X.method'
  have hfind : ∀ (Q : Handler → Pre) (E : CtlPost) (d : Bool) (acts : List Action), wp (findHandler (F0 m pc ls rest) q) Q E e d acts S ↔ Q (.found x.handlerPc) d acts (S.setVm vm1) := by
    intro Q E d acts
    rw [W.findHandler_eq (f := F0 m pc ls rest) hm X.code, hone]
    have hcv1 : x.startPc ≤ pc ∧ pc < x.endPc := by simpa using hcv
    rw [hvm1] at hk1' hk2' hfit ⊢
    simp [findHandler.go, F0, hcv1.1, hcv1.2, h0, hr1, hr2, hSh, hns, hk1', hk2', hfit, VmOp.dirties, VmOp.acts]
  obtain ⟨dk, z1, z2, kt, hd, z3, z4, z5, z6, hkt, z7, hop⟩ := hlk.here
  have X' := X.noted (vm' := vm1) (by
    rw [hvm1, hSv]
    exact X.warmed.noted hd hop (State.rightAt_cls hlk))
  obtain ⟨t, st, hq⟩ := kk (T.setVm vm1) hT X'
  refine ⟨t, ?_, hq⟩
  obtain ⟨hgo, hwi⟩ := X.here.throwing (g := F0 m pc ls rest) q
  refine Steps.head hgo hwi ?_
  rw [stepThread_throwing (frames_entered X.here.top _)]
  have hstep : (stepThrowing e S q (.java (F0 m pc ls rest) :: T.frames.tail)).Is ((S.setVm vm1).setFrames (.java { F0 m pc ls rest with pc := x.handlerPc, stack := [.ref q] } :: T.frames.tail)) [] := by
    simp only [stepThrowing, searchFrame, vmDo]
    generalize hgo9 : Sem.go _ e false [] S = res
    obtain ⟨as, rfl, has⟩ := Sem.eq_ok_of hgo9 (a := Handler.found x.handlerPc) (s' := S.setVm vm1) (acts' := []) (by simp [hfind _ _ _ _])
    exact ⟨rfl, has⟩
  rw [← hSe, hstep.1]
  obtain ⟨g₀, hg⟩ := Option.isSome_iff_exists.mp X.here.top
  obtain ⟨r, hr⟩ := State.topJava?_eq_some.mp hg
  have hr' : (T.setVm vm1).frames = .java g₀ :: r := hr
  rw [State.setTop_of_frames _ hr'] at st
  have e1 : (S.setVm vm1).setFrames (.java { F0 m pc ls rest with pc := x.handlerPc, stack := [.ref q] } :: T.frames.tail) = (T.setVm vm1).setFrames (.java (F0 m x.handlerPc ls [.ref q]) :: r) := by
    rw [hSe, State.pushFrame, State.setTop_of_frames _ hr, hr]
    have e2 : ∀ (u : State) (F G : List Frame), ((u.setFrames F).setVm vm1).setFrames G = (u.setVm vm1).setFrames G := fun u F G => by
      rw [show (u.setFrames F).setVm vm1 = (u.setVm vm1).setFrames F from rfl, State.setFrames_setFrames]
    rw [e2, e2]
    rfl
  rw [e1]
  exact st
abbrev kNS : String := "java/util/NoSuchElementException"
abbrev kNs : List String := ["java/lang/RuntimeException", "java/lang/Exception"]
/-- what a throw needs beside the tables' good words: three declared makers, a cast, two statics of Throwable -/
def kThr (A : Nat → Prop) (U : State) : Prop := va_Nw (.declares (Bundle.init0 "java/lang/RuntimeException")) U ∧ va_Nw (.declares (Bundle.init0 "java/lang/Exception")) U ∧ va_Nw (.declares (Bundle.init0 Bundle.tN)) U ∧ va_Nw (.castable kNS kNS) U ∧ vx_Zq Bundle.tN "UNASSIGNED_STACK" Bundle.steD A U U.heap ∧ vx_Zq Bundle.tN "SUPPRESSED_SENTINEL" Bundle.listD A U U.heap
theorem kThr_blind {A : Nat → Prop} : ∀ (U : State) (g : JFrame) (mk : MethodId) (a : Array Value), kThr A U → kThr A (U.calling g mk a) := fun U _ _ _ h => by
  obtain ⟨h1, h2, h3, h4, h5, h6⟩ := h
  exact ⟨va_Nw.same (u := U) rfl rfl h1, va_Nw.same (u := U) rfl rfl h2, va_Nw.same (u := U) rfl rfl h3, va_Nw.same (u := U) rfl rfl h4, vx_Zq.moved (u := U) (Vm.Alike.refl U.vm) h5, vx_Zq.moved (u := U) (Vm.Alike.refl U.vm) h6⟩
theorem kThr_give {A : Nat → Prop} {s : State} {H : Heap} {locs : List Loc} (h : kThr A s) (hS : va_S A s.heap H locs) : ∀ U : State, U.heap = H → s.WarmedH U.vm → kThr A U := fun U hU hW => by
  obtain ⟨h1, h2, h3, h4, h5, h6⟩ := h
  have hq : ∀ a : Nat, a < s.heap.size → ¬ A a → U.heap[a]? = s.heap[a]? := fun a z1 z2 => by rw [hU]; exact hS.2.1 a z1 z2
  exact ⟨va_Nw.warmD hW h1, va_Nw.warmD hW h2, va_Nw.warmD hW h3, va_Nw.warmC hW h4, vx_Zq.moved hW.alike (h5.kept hq), vx_Zq.moved hW.alike (h6.kept hq)⟩
def kBadL : List Cond := [.declares (Bundle.init0 "java/lang/RuntimeException"), .declares (Bundle.init0 "java/lang/Exception"), .declares (Bundle.init0 Bundle.tN), .castable kNS kNS]
theorem kBadL_in : ∀ w ∈ (vx_at0 RX9 144 kNS kNs).filter (fun w => !goodWord w), w ∈ kBadL := by decide +kernel
theorem kThr_bad {A : Nat → Prop} {s : State} {args : Array Value} (h : kThr A s) : ∀ w ∈ kBadL, w.before args s = true := by
  obtain ⟨h1, h2, h3, h4, -, -⟩ := h
  exact vx_c (va_Nw.use rfl h1) (vx_c (va_Nw.use rfl h2) (vx_c (va_Nw.use rfl h3) (vx_c (va_Nw.use rfl h4) vx_n)))
theorem kThr_ot : ∀ w ∈ Cond.classLink RX9 142 kNS :: Cond.initialized kNS :: vx_at0 RX9 144 kNS kNs, vx_ot w = true := by decide +kernel
theorem kAtGood : ((vx_at0 RX9 144 kNS kNs).filter goodWord).all goodWord = true := by decide +kernel
end
section
def w_s_chk3n : List Cond := .code yJ3_checkIndex_8e157 cJ3_checkIndex_8e157 3 (some .int) :: ([])
def w_s_chk3r : List Cond := .code yJ3_checkIndex_8e157 cJ3_checkIndex_8e157 3 (some .int) :: ([])
def w_s_t_chk0 : List Cond := .code yJ0_checkIndex_df160 cJ0_checkIndex_df160 2 none :: ([.fieldLink RJ0 1053 "jdk/internal/util/Preconditions" "SIOOBE_FORMATTER" "Ljava/util/function/BiFunction;", .initialized RJ3, .static yJ3_checkIndex_8e157, .methodLink RJ0 1059 yJ3_checkIndex_8e157] ++ (w_s_chk3n ++ (w_s_chk3r)))
theorem hd_X10_isIn : yX10_isIn.cls ≠ "java/lang/invoke/MethodHandle" ∧ yX10_isIn.cls ≠ "java/lang/invoke/VarHandle" ∧ (parseMethodDescriptor yX10_isIn.desc).map (fun d => d.parameters.length) = some 3 := by decide +kernel
def w_s_isIn10 : List Cond := .code yX10_isIn cX10_isIn 3 (some .boolean) :: ([])
theorem gw_s_isIn10 : (w_s_isIn10).all goodWord = true := kGc rfl kGn
set_option maxHeartbeats 4000000 in
set_option maxRecDepth 100000 in
theorem s_isIn10 (l : Launch) (dC : Nat → ClassId) (dI : Nat → Nat → Nat) (p0 : Int32) (p1 : Int32) (p2 : Int32) : Met l yX10_isIn w_s_isIn10 ({ frames := 1, cells := 0, slots := 0, locals := 60 }) (kR dC dI [.int p0, .int p1, .int p2] [] [] kT) (vp_Si (fun r : Int32 => r = kIn p0 p1 p2)) 0 0 (fun _ => False) := by
  sorry
end
section
def w_s_goesIn10_0 : List Cond := .code yX10_goesIn cX10_goesIn 1 (some .boolean) :: ([.fieldLink RX10 153 "NotEndedModel" "deep" "I", .fieldLink RX10 141 "NotEndedModel" "at" "I"] ++ (wsX100))
def w_s_goesIn10_1 : List Cond := .code yX10_goesIn cX10_goesIn 1 (some .boolean) :: ([.fieldLink RX10 153 "NotEndedModel" "deep" "I", .fieldLink RX10 141 "NotEndedModel" "at" "I"] ++ (wsX100))
def w_s_goesIn10_2 : List Cond := .code yX10_goesIn cX10_goesIn 1 (some .boolean) :: ([.fieldLink RX10 153 "NotEndedModel" "deep" "I", .fieldLink RX10 141 "NotEndedModel" "at" "I"] ++ (wsX100))
def w_s_goesIn10_3 : List Cond := .code yX10_goesIn cX10_goesIn 1 (some .boolean) :: ([.fieldLink RX10 153 "NotEndedModel" "deep" "I", .fieldLink RX10 141 "NotEndedModel" "at" "I"] ++ (wsX100))
def w_s_goesIn10_4 : List Cond := .code yX10_goesIn cX10_goesIn 1 (some .boolean) :: ([.fieldLink RX10 153 "NotEndedModel" "deep" "I", .fieldLink RX10 141 "NotEndedModel" "at" "I"] ++ (wsX100))
def w_s_goesIn10_5 : List Cond := .code yX10_goesIn cX10_goesIn 1 (some .boolean) :: ([.fieldLink RX10 153 "NotEndedModel" "deep" "I", .fieldLink RX10 141 "NotEndedModel" "at" "I"] ++ (wsX100))
end
section
def kHas (a b : Int32) : Int32 := if (a >>> (b &&& 31)) &&& 1 = 1 then 1 else 0
theorem kRd0 {f : Nat → Int32} {n : Nat} {x v : Int32} (h : n < 2 ^ 31) (e : x = f (Int32.toNatClampNeg (nI n))) (c : x = v) : f n = v := by rw [nI_clamp h] at e; rw [← e]; exact c
/-- the reference's texts -/
def kMx (ad : Nat → Nat) (bA nA : Nat) (xA : Nat → Int32) (bB nB : Nat) (xB : Nat → Int32) (bE nE : Nat) (xE : Nat → Int32) (bG nG : Nat) (xG : Nat → Int32) (A : Nat → Prop) (U : State) : Prop := kRd ad 5 7 bA nA xA bB nB xB A U ∧ kRd ad 6 8 bE nE xE bG nG xG A U
theorem kMx_blind {ad : Nat → Nat} {bA nA : Nat} {xA : Nat → Int32} {bB nB : Nat} {xB : Nat → Int32} {bE nE : Nat} {xE : Nat → Int32} {bG nG : Nat} {xG : Nat → Int32} {A : Nat → Prop} : ∀ (U : State) (g : JFrame) (mk : MethodId) (a : Array Value), kMx ad bA nA xA bB nB xB bE nE xE bG nG xG A U → kMx ad bA nA xA bB nB xB bE nE xE bG nG xG A (U.calling g mk a) := fun U g mk a h => ⟨kRd_blind U g mk a h.1, kRd_blind U g mk a h.2⟩
theorem kMx_give {ad : Nat → Nat} {bA nA : Nat} {xA : Nat → Int32} {bB nB : Nat} {xB : Nat → Int32} {bE nE : Nat} {xE : Nat → Int32} {bG nG : Nat} {xG : Nat → Int32} {A B : Nat → Prop} {s : State} {H : Heap} {locs : List Loc} (h : kMx ad bA nA xA bB nB xB bE nE xE bG nG xG A s) (hS : va_S A s.heap H locs) (hB : ∀ q, B q → A q) : ∀ U : State, U.heap = H → s.WarmedH U.vm → kMx ad bA nA xA bB nB xB bE nE xE bG nG xG B U := fun U hU hW => ⟨kRd_give h.1 hS hB U hU hW, kRd_give h.2 hS hB U hU hW⟩
end
section
/-- a byte as the reference keeps it -/
def kSg (v : Nat) : Int32 := if v < 128 then nI v else nI v - 256
/-- the texts that the reference keeps: their bytes are those of a text without a fault, whose clauses are y -/
def kUn (mf2 mf3 : Nat → Int32) (off k : Nat) (g6 : Nat → Int32) (n6 : Nat) (g7 : Nat → Int32) (n7 : Nat) (y : Nat → List kTr) : Prop := ∀ j : Nat, j < k → ∃ (sb : Nat → Nat) (sn : Nat), mf3 (off + j) = nI sn ∧ sn ≤ 120 ∧ (∀ q : Nat, q < sn → mf2 (120 * (off + j) + q) = kSg (sb q)) ∧ (∀ q : Nat, sb q < 256) ∧ (∀ q : Nat, q < sn → 1 ≤ sb q) ∧ (kRead sb sn g6 n6 g7 n7).1 = true ∧ y j = kReadT sb sn g6 n6 g7 n7
end
section
def w_s_look10x : List Cond := .code yX10_look cX10_look 1 (some .int) :: ([.fieldLink RX10 141 "NotEndedModel" "at" "I", .fieldLink RX10 144 "NotEndedModel" "ends" "I", .fieldLink RX10 23 "NotEndedModel" "text" "[B", .fieldLink RX10 147 "NotEndedModel" "begins" "I"] ++ (wsX100))
theorem gw_s_look10x : (w_s_look10x).all goodWord = true := kGc rfl (kGa (by decide +kernel) gw_wsX100)
def w_s_fails10x : List Cond := .code yX10_fails cX10_fails 1 (some .boolean) :: ([.fieldLink RX10 150 "NotEndedModel" "fault" "I", .fieldLink RX10 141 "NotEndedModel" "at" "I"] ++ (wsX100))
theorem gw_s_fails10x : (w_s_fails10x).all goodWord = true := kGc rfl (kGa (by decide +kernel) gw_wsX100)
def w_s_goesIn10x_6 : List Cond := .code yX10_goesIn cX10_goesIn 1 (some .boolean) :: ([.fieldLink RX10 153 "NotEndedModel" "deep" "I", .initialized RX10, .selects RX10 yX10_fails yX10_fails, .instanceMethod yX10_fails, .methodLink RX10 156 yX10_fails] ++ (wsX100 ++ (w_s_fails10x)))
def w_s_takes10x_58 : List Cond := .code yX10_takes cX10_takes 2 (some .boolean) :: ([.fieldLink RX10 150 "NotEndedModel" "fault" "I", .initialized RX10, .selects RX10 yX10_look yX10_look, .instanceMethod yX10_look, .methodLink RX10 160 yX10_look, .fieldLink RX10 141 "NotEndedModel" "at" "I", .selects RX10 yX10_fails yX10_fails, .instanceMethod yX10_fails, .methodLink RX10 156 yX10_fails] ++ (wsX100 ++ (w_s_look10x ++ (w_s_fails10x))))
def w_s_takes10x_63 : List Cond := .code yX10_takes cX10_takes 2 (some .boolean) :: ([.fieldLink RX10 150 "NotEndedModel" "fault" "I", .initialized RX10, .selects RX10 yX10_look yX10_look, .instanceMethod yX10_look, .methodLink RX10 160 yX10_look, .fieldLink RX10 141 "NotEndedModel" "at" "I", .selects RX10 yX10_fails yX10_fails, .instanceMethod yX10_fails, .methodLink RX10 156 yX10_fails] ++ (wsX100 ++ (w_s_look10x ++ (w_s_fails10x))))
def w_s_takes10x_41 : List Cond := .code yX10_takes cX10_takes 2 (some .boolean) :: ([.fieldLink RX10 150 "NotEndedModel" "fault" "I", .initialized RX10, .selects RX10 yX10_look yX10_look, .instanceMethod yX10_look, .methodLink RX10 160 yX10_look, .fieldLink RX10 141 "NotEndedModel" "at" "I", .selects RX10 yX10_fails yX10_fails, .instanceMethod yX10_fails, .methodLink RX10 156 yX10_fails] ++ (wsX100 ++ (w_s_look10x ++ (w_s_fails10x))))
def w_s_takes10x_93 : List Cond := .code yX10_takes cX10_takes 2 (some .boolean) :: ([.fieldLink RX10 150 "NotEndedModel" "fault" "I", .initialized RX10, .selects RX10 yX10_look yX10_look, .instanceMethod yX10_look, .methodLink RX10 160 yX10_look, .fieldLink RX10 141 "NotEndedModel" "at" "I", .selects RX10 yX10_fails yX10_fails, .instanceMethod yX10_fails, .methodLink RX10 156 yX10_fails] ++ (wsX100 ++ (w_s_look10x ++ (w_s_fails10x))))
def w_s_fails10f : List Cond := .code yX10_fails cX10_fails 1 (some .boolean) :: ([.fieldLink RX10 150 "NotEndedModel" "fault" "I"] ++ (wsX100))
def w_s_takes10f : List Cond := .code yX10_takes cX10_takes 2 (some .boolean) :: ([.fieldLink RX10 150 "NotEndedModel" "fault" "I", .initialized RX10, .selects RX10 yX10_fails yX10_fails, .instanceMethod yX10_fails, .methodLink RX10 156 yX10_fails] ++ (wsX100 ++ (w_s_fails10f)))
def w_s_isDigit10x : List Cond := .code yX10_isDigit cX10_isDigit 1 (some .boolean) :: ([.fieldLink RX10 141 "NotEndedModel" "at" "I", .fieldLink RX10 144 "NotEndedModel" "ends" "I", .fieldLink RX10 23 "NotEndedModel" "text" "[B", .fieldLink RX10 147 "NotEndedModel" "begins" "I"] ++ (wsX100))
def w_s_t_char1x : List Cond := .code yJ1_charAt_3b067 cJ1_charAt_3b067 2 (some .char) :: ([.initialized RJ0, .static yJ0_checkIndex_df160, .methodLink RJ1 9 yJ0_checkIndex_df160] ++ (w_s_t_chk0))
def w_s_t_charAtx : List Cond := .code yJ0_charAt_5068e cJ0_charAt_5068e 2 (some .char) :: ([.initialized RJ0, .selects RJ0 yJ0_isLatin1_aae02 yJ0_isLatin1_aae02, .instanceMethod yJ0_isLatin1_aae02, .methodLink RJ0 492 yJ0_isLatin1_aae02, .fieldLink RJ0 9 "java/lang/String" "value" "[B", .initialized RJ1, .static yJ1_charAt_3b067, .methodLink RJ0 495 yJ1_charAt_3b067] ++ (w_s_t_latin ++ (w_s_t_char1x)))
def w_s_among10x : List Cond := .code yX10_isAmong cX10_isAmong 3 (some .boolean) :: ([.initialized RJ0, .selects RJ0 yJ0_length_8abf5 yJ0_length_8abf5, .instanceMethod yJ0_length_8abf5, .methodLink RX10 121 yJ0_length_8abf5, .selects RJ0 yJ0_charAt_5068e yJ0_charAt_5068e, .instanceMethod yJ0_charAt_5068e, .methodLink RX10 127 yJ0_charAt_5068e] ++ (w_s_t_length ++ (w_s_t_charAtx)))
def w_s_isSign10x : List Cond := .code yX10_isSign cX10_isSign 1 (some .boolean) :: ([])
def w_s_within10x : List Cond := .code yX10_within cX10_within 2 (some .int) :: ([.constantLong RX10 163 (-1000000), .constantLong RX10 165 (1000000), .methodLink RX10 167 Lib.MathLoose.min_long.x, .static Lib.MathLoose.min_long.x, .initialized RJ9, .code Lib.MathLoose.min_long.x Lib.MathLoose.min_long.code 4 (some .long), .methodLink RX10 173 Lib.MathLoose.max_long.x, .static Lib.MathLoose.max_long.x, .code Lib.MathLoose.max_long.x Lib.MathLoose.max_long.code 4 (some .long)] ++ [])
end
section
def wf_mq : List Cond := [.initialized RX10, .selects RX10 yX10_look yX10_look, .instanceMethod yX10_look, .methodLink RX10 160 yX10_look, .fieldLink RX10 34 "NotEndedModel" "allowed" "Ljava/lang/String;", .static yX10_isAmong, .methodLink RX10 176 yX10_isAmong, .selects RX10 yX10_isDigit yX10_isDigit, .instanceMethod yX10_isDigit, .methodLink RX10 190 yX10_isDigit, .fieldLink RX10 150 "NotEndedModel" "fault" "I", .fieldLink RX10 23 "NotEndedModel" "text" "[B", .fieldLink RX10 147 "NotEndedModel" "begins" "I", .fieldLink RX10 141 "NotEndedModel" "at" "I", .selects RX10 yX10_fails yX10_fails, .instanceMethod yX10_fails, .methodLink RX10 156 yX10_fails, .selects RX10 yX10_goesIn yX10_goesIn, .instanceMethod yX10_goesIn, .methodLink RX10 180 yX10_goesIn, .fieldLink RX10 20 "NotEndedModel" "letters" "[I", .code yX10_atom cX10_atom 4 (some .int), .selects RX10 yX10_atom yX10_atom, .instanceMethod yX10_atom, .methodLink RX10 193 yX10_atom, .static yX10_within, .methodLink RX10 196 yX10_within, .code yX10_term cX10_term 5 (some .int), .selects RX10 yX10_term yX10_term, .instanceMethod yX10_term, .methodLink RX10 200 yX10_term, .code yX10_sum cX10_sum 5 (some .int), .selects RX10 yX10_sum yX10_sum, .instanceMethod yX10_sum, .methodLink RX10 183 yX10_sum, .static yX10_isSign, .methodLink RX10 203 yX10_isSign, .code yX10_compares cX10_compares 6 (some .boolean), .selects RX10 yX10_compares yX10_compares, .instanceMethod yX10_compares, .methodLink RX10 213 yX10_compares, .code yX10_unit cX10_unit 3 (some .boolean), .selects RX10 yX10_unit yX10_unit, .instanceMethod yX10_unit, .methodLink RX10 206 yX10_unit, .code yX10_part cX10_part 5 (some .boolean), .selects RX10 yX10_part yX10_part, .instanceMethod yX10_part, .methodLink RX10 216 yX10_part, .selects RX10 yX10_takes yX10_takes, .instanceMethod yX10_takes, .methodLink RX10 186 yX10_takes, .fieldLink RX10 153 "NotEndedModel" "deep" "I", .code yX10_condition cX10_condition 5 (some .boolean), .selects RX10 yX10_condition yX10_condition, .instanceMethod yX10_condition, .methodLink RX10 209 yX10_condition, .fieldLink RX10 28 "NotEndedModel" "labels" "Ljava/lang/String;", .fieldLink RX10 219 "NotEndedModel" "hasFound" "Z", .fieldLink RX10 223 "NotEndedModel" "label" "I", .fieldLink RX10 226 "NotEndedModel" "found" "I"] ++ (w_s_look10x ++ (wsX100 ++ (w_s_among10x ++ (w_s_isDigit10x ++ (w_s_fails10x ++ (w_s_goesIn10x_6 ++ (w_s_within10x ++ (w_s_isSign10x ++ (w_s_goesIn10_5 ++ (w_s_takes10x_93 ++ (w_s_takes10f ++ (w_s_takes10x_41 ++ (w_s_goesIn10_4 ++ (w_s_goesIn10_3 ++ (w_s_goesIn10_2 ++ (w_s_goesIn10_1 ++ (w_s_goesIn10_0 ++ (w_s_takes10x_58 ++ (w_s_takes10x_63)))))))))))))))))))
theorem gf_mq : (wf_mq).all goodWord = true := by decide +kernel
end
section
def w_s_clause10x : List Cond := .code yX10_clause cX10_clause 5 none :: wf_mq
theorem gw_s_clause10x : (w_s_clause10x).all goodWord = true := kFamG rfl gf_mq
end
section
def w_s_go10x_0 : List Cond := .code yX10_goThrough cX10_goThrough 6 none :: ([.fieldLink RX10 23 "NotEndedModel" "text" "[B", .fieldLink RX10 147 "NotEndedModel" "begins" "I", .fieldLink RX10 144 "NotEndedModel" "ends" "I", .fieldLink RX10 28 "NotEndedModel" "labels" "Ljava/lang/String;", .fieldLink RX10 34 "NotEndedModel" "allowed" "Ljava/lang/String;", .fieldLink RX10 223 "NotEndedModel" "label" "I", .fieldLink RX10 141 "NotEndedModel" "at" "I", .fieldLink RX10 150 "NotEndedModel" "fault" "I", .fieldLink RX10 153 "NotEndedModel" "deep" "I", .fieldLink RX10 219 "NotEndedModel" "hasFound" "Z", .fieldLink RX10 226 "NotEndedModel" "found" "I", .initialized RX10, .selects RX10 yX10_clause yX10_clause, .instanceMethod yX10_clause, .methodLink RX10 233 yX10_clause, .selects RX10 yX10_look yX10_look, .instanceMethod yX10_look, .methodLink RX10 160 yX10_look, .selects RX10 yX10_fails yX10_fails, .instanceMethod yX10_fails, .methodLink RX10 156 yX10_fails] ++ (wsX100 ++ (w_s_clause10x ++ (w_s_look10x ++ (w_s_fails10x)))))
theorem gw_s_go10x_0 : (w_s_go10x_0).all goodWord = true := kGc rfl (kGa (by decide +kernel) (kGa gw_wsX100 (kGa gw_s_clause10x (kGa gw_s_look10x gw_s_fails10x))))
end
section
def w_s_worthOf10_0 : List Cond := .code yX10_worthOf cX10_worthOf 4 (some .int) :: ([.fieldLink RX10 13 "NotEndedModel" "texts" "[B", .fieldLink RX10 16 "NotEndedModel" "textLong" "[I", .initialized RX10, .selects RX10 yX10_goThrough yX10_goThrough, .instanceMethod yX10_goThrough, .methodLink RX10 240 yX10_goThrough, .fieldLink RX10 226 "NotEndedModel" "found" "I"] ++ (wsX100 ++ (w_s_go10x_0)))
theorem gw_s_worthOf10_0 : (w_s_worthOf10_0).all goodWord = true := kGc rfl (kGa (by decide +kernel) (kGa gw_wsX100 gw_s_go10x_0))
theorem hd_X10_worthOf : yX10_worthOf.cls ≠ "java/lang/invoke/MethodHandle" ∧ yX10_worthOf.cls ≠ "java/lang/invoke/VarHandle" ∧ (parseMethodDescriptor yX10_worthOf.desc).map (fun d => d.parameters.length) = some 3 := by decide +kernel
set_option maxHeartbeats 4000000 in
set_option maxRecDepth 100000 in
theorem s_worthOf10_0 (l : Launch) (dC : Nat → ClassId) (dI : Nat → Nat → Nat) (ad : Nat → Nat) (jM : Nat) (v0 : Value) (v1 : Value) (v5 : Value) (v6 : Value) (v7 : Value) (v8 : Value) (v9 : Value) (v10 : Value) (v11 : Value) (v12 : Value) (v13 : Value) (v14 : Value) (v15 : Value) (v16 : Value) (v17 : Value) (v18 : Value) (v19 : Value) (v20 : Value) (v21 : Value) (v22 : Value) (v23 : Value) (v24 : Value) (v25 : Value) (v26 : Value) (v27 : Value) (v28 : Value) (v29 : Value) (v30 : Value) (v31 : Value) (v32 : Value) (v33 : Value) (v34 : Value) (v35 : Value) (v36 : Value) (v37 : Value) (v38 : Value) (v39 : Value) (v40 : Value) (v41 : Value) (v42 : Value) (v43 : Value) (v44 : Value) (v45 : Value) (v46 : Value) (v47 : Value) (v48 : Value) (v49 : Value) (v50 : Value) (v51 : Value) (m2 : Nat) (mc2 : ClassId) (mf2 : Nat → Int32) (m3 : Nat) (mc3 : ClassId) (mf3 : Nat → Int32) (m4 : Nat) (mc4 : ClassId) (mf4 : Nat → Int32) (b6 : Nat) (n6 : Nat) (g6 : Nat → Int32) (hn6 : n6 ≤ 8) (hg6 : ∀ k : Nat, ∃ v : Nat, v < 128 ∧ g6 k = nI v) (b7 : Nat) (n7 : Nat) (g7 : Nat → Int32) (hn7 : n7 ≤ 8) (hg7 : ∀ k : Nat, ∃ v : Nat, v < 128 ∧ g7 k = nI v) (hz6 : kIx g6 n6 (nI 0) = n6) (hz7 : kIx g7 n7 (nI 0) = n7) (hl7 : ∀ c : Nat, c < 256 → kIx g7 n7 (nI c) < n7 → ¬ c = 91 ∧ ¬ (48 ≤ c ∧ c ≤ 57)) (mk : Nat) (yy : Nat → List kTr) (hun : kUn mf2 mf3 0 mk g6 n6 g7 n7 yy) (hmk : mk ≤ 8) (pj : Nat) (hpj : pj < mk) (pl : Nat) (hpl : pl = 0 + pj) (hpl9 : pl < 14) (p2 : Int32) (sz : Nat) : Met l yX10_worthOf w_s_worthOf10_0 ({ frames := 58, cells := 0, slots := 0, locals := 3480 }) (kW dC dI [.ref jM, .int (nI (pl)), .int 0, .int p2] [(jM, .inr (10, [v0, v1, .ref m2, .ref m3, .ref m4, v5, v6, v7, v8, v9, v10, v11, v12, v13, v14, v15, v16, v17, v18, v19, v20, v21, v22, v23, v24, v25, v26, v27, v28, v29, v30, v31, v32, v33, v34, v35, v36, v37, v38, v39, v40, v41, v42, v43, v44, v45, v46, v47, v48, v49, v50, v51])), (m2, .inl (mc2, 1680, .inl mf2)), (m3, .inl (mc3, 14, .inl mf3)), (m4, .inl (mc4, 128, .inl mf4))] [(mc2, .byte), (mc3, .int), (mc4, .int)] (kRd ad 5 7 b6 n6 g6 b7 n7 g7 (va_A [(jM, .inr (10, [v0, v1, .ref m2, .ref m3, .ref m4, v5, v6, v7, v8, v9, v10, v11, v12, v13, v14, v15, v16, v17, v18, v19, v20, v21, v22, v23, v24, v25, v26, v27, v28, v29, v30, v31, v32, v33, v34, v35, v36, v37, v38, v39, v40, v41, v42, v43, v44, v45, v46, v47, v48, v49, v50, v51])), (m2, .inl (mc2, 1680, .inl mf2)), (m3, .inl (mc3, 14, .inl mf3)), (m4, .inl (mc4, 128, .inl mf4))] sz)) sz) (va_Qi (fun (r : Int32) (u : Value × Value × Value × Value × Value × Value × Value × Value × Value × Value × Value) => match u with | (W5, W9, W10, W11, W12, W13, W14, W15, W16, W17, W18) => ((∀ j : Nat, j < n7 → kBd (kLt mf4 g7 j)) → r = (kFo (kLt mf4 g7) g6 p2 (yy pj) (0, 0)).1)) (fun (u : Value × Value × Value × Value × Value × Value × Value × Value × Value × Value × Value) => match u with | (W5, W9, W10, W11, W12, W13, W14, W15, W16, W17, W18) => fun t : State => kB dC dI [(jM, .inr (10, [v0, v1, .ref m2, .ref m3, .ref m4, W5, v6, v7, v8, W9, W10, W11, W12, W13, W14, W15, W16, W17, W18, v19, v20, v21, v22, v23, v24, v25, v26, v27, v28, v29, v30, v31, v32, v33, v34, v35, v36, v37, v38, v39, v40, v41, v42, v43, v44, v45, v46, v47, v48, v49, v50, v51])), (m2, .inl (mc2, 1680, .inl mf2)), (m3, .inl (mc3, 14, .inl mf3)), (m4, .inl (mc4, 128, .inl mf4))] [(mc2, .byte), (mc3, .int), (mc4, .int)] (va_A [(jM, .inr (10, [v0, v1, .ref m2, .ref m3, .ref m4, v5, v6, v7, v8, v9, v10, v11, v12, v13, v14, v15, v16, v17, v18, v19, v20, v21, v22, v23, v24, v25, v26, v27, v28, v29, v30, v31, v32, v33, v34, v35, v36, v37, v38, v39, v40, v41, v42, v43, v44, v45, v46, v47, v48, v49, v50, v51])), (m2, .inl (mc2, 1680, .inl mf2)), (m3, .inl (mc3, 14, .inl mf3)), (m4, .inl (mc4, 128, .inl mf4))] sz) t) (va_A [(jM, .inr (10, [v0, v1, .ref m2, .ref m3, .ref m4, v5, v6, v7, v8, v9, v10, v11, v12, v13, v14, v15, v16, v17, v18, v19, v20, v21, v22, v23, v24, v25, v26, v27, v28, v29, v30, v31, v32, v33, v34, v35, v36, v37, v38, v39, v40, v41, v42, v43, v44, v45, v46, v47, v48, v49, v50, v51])), (m2, .inl (mc2, 1680, .inl mf2)), (m3, .inl (mc3, 14, .inl mf3)), (m4, .inl (mc4, 128, .inl mf4))] sz)) 0 0 (va_A [(jM, .inr (10, [v0, v1, .ref m2, .ref m3, .ref m4, v5, v6, v7, v8, v9, v10, v11, v12, v13, v14, v15, v16, v17, v18, v19, v20, v21, v22, v23, v24, v25, v26, v27, v28, v29, v30, v31, v32, v33, v34, v35, v36, v37, v38, v39, v40, v41, v42, v43, v44, v45, v46, v47, v48, v49, v50, v51])), (m2, .inl (mc2, 1680, .inl mf2)), (m3, .inl (mc3, 14, .inl mf3)), (m4, .inl (mc4, 128, .inl mf4))] sz) := by
  sorry
end
section
theorem kUn_gd {mf2 mf3 : Nat → Int32} {off k : Nat} {g6 : Nat → Int32} {n6 : Nat} {g7 : Nat → Int32} {n7 : Nat} {y : Nat → List kTr} (hm : n7 ≤ 8) (h : kUn mf2 mf3 off k g6 n6 g7 n7 y) {j : Nat} (hj : j < k) : ∀ z ∈ y j, kGdC n6 n7 z := by
  obtain ⟨sb, sn, _, _, _, _, _, h6, h7⟩ := h j hj
  obtain ⟨o, q, x, c, e⟩ : ∃ (o : Bool) (q : Nat) (x c : List Int32), kRead sb sn g6 n6 g7 n7 = (o, q, x, c) := ⟨_, _, _, _, rfl⟩
  have ho : o = true := by rw [e] at h6; exact h6
  rw [ho] at e
  rw [h7]
  exact (kRead_T hm e).2.2
end
section
theorem hd_X10_goOn : yX10_goOn.cls ≠ "java/lang/invoke/MethodHandle" ∧ yX10_goOn.cls ≠ "java/lang/invoke/VarHandle" ∧ (parseMethodDescriptor yX10_goOn.desc).map (fun d => d.parameters.length) = some 2 := by decide +kernel
def w_s_has10 : List Cond := .code yX10_has cX10_has 2 (some .boolean) :: ([])
theorem gw_s_has10 : (w_s_has10).all goodWord = true := kGc rfl kGn
theorem hd_X10_held : yX10_held.cls ≠ "java/lang/invoke/MethodHandle" ∧ yX10_held.cls ≠ "java/lang/invoke/VarHandle" ∧ (parseMethodDescriptor yX10_held.desc).map (fun d => d.parameters.length) = some 1 := by decide +kernel
theorem dX10_isLower_0 : decode cX10_isLower 0 = .ok (.iload_n 0, 1) := by decide +kernel
theorem dX10_isLower_1 : decode cX10_isLower 1 = .ok (.iload_n 1, 1) := by decide +kernel
theorem dX10_isLower_2 : decode cX10_isLower 2 = .ok (.ixor, 1) := by decide +kernel
theorem dX10_isLower_3 : decode cX10_isLower 3 = .ok (.istore_n 2, 1) := by decide +kernel
theorem dX10_isLower_4 : decode cX10_isLower 4 = .ok (.iload_n 0, 1) := by decide +kernel
theorem dX10_isLower_5 : decode cX10_isLower 5 = .ok (.iload_n 2, 1) := by decide +kernel
theorem dX10_isLower_6 : decode cX10_isLower 6 = .ok (.iand, 1) := by decide +kernel
theorem dX10_isLower_7 : decode cX10_isLower 7 = .ok (.iload_n 2, 1) := by decide +kernel
theorem dX10_isLower_8 : decode cX10_isLower 8 = .ok (.ineg, 1) := by decide +kernel
theorem dX10_isLower_9 : decode cX10_isLower 9 = .ok (.iand, 1) := by decide +kernel
theorem dX10_isLower_10 : decode cX10_isLower 10 = .ok (.ifCond .eq 7, 3) := by decide +kernel
theorem dX10_isLower_17 : decode cX10_isLower 17 = .ok (.iconst 0, 1) := by decide +kernel
theorem dX10_isLower_18 : decode cX10_isLower 18 = .ok (.ireturn, 1) := by decide +kernel
theorem dX10_isLower_13 : decode cX10_isLower 13 = .ok (.iconst 1, 1) := by decide +kernel
theorem dX10_isLower_14 : decode cX10_isLower 14 = .ok (.goto 4, 3) := by decide +kernel
theorem hd_X10_isLower : yX10_isLower.cls ≠ "java/lang/invoke/MethodHandle" ∧ yX10_isLower.cls ≠ "java/lang/invoke/VarHandle" ∧ (parseMethodDescriptor yX10_isLower.desc).map (fun d => d.parameters.length) = some 2 := by decide +kernel
theorem hd_X10_isLaw : yX10_isLaw.cls ≠ "java/lang/invoke/MethodHandle" ∧ yX10_isLaw.cls ≠ "java/lang/invoke/VarHandle" ∧ (parseMethodDescriptor yX10_isLaw.desc).map (fun d => d.parameters.length) = some 1 := by decide +kernel
theorem hd_X10_isPerson : yX10_isPerson.cls ≠ "java/lang/invoke/MethodHandle" ∧ yX10_isPerson.cls ≠ "java/lang/invoke/VarHandle" ∧ (parseMethodDescriptor yX10_isPerson.desc).map (fun d => d.parameters.length) = some 1 := by decide +kernel
theorem dX10_everybody_0 : decode cX10_everybody 0 = .ok (.iconst 1, 1) := by decide +kernel
theorem dX10_everybody_1 : decode cX10_everybody 1 = .ok (.aload_n 0, 1) := by decide +kernel
theorem dX10_everybody_2 : decode cX10_everybody 2 = .ok (.getfield 250, 3) := by decide +kernel
theorem dX10_everybody_5 : decode cX10_everybody 5 = .ok (.ishl, 1) := by decide +kernel
theorem dX10_everybody_6 : decode cX10_everybody 6 = .ok (.iconst 1, 1) := by decide +kernel
theorem dX10_everybody_7 : decode cX10_everybody 7 = .ok (.isub, 1) := by decide +kernel
theorem dX10_everybody_8 : decode cX10_everybody 8 = .ok (.ireturn, 1) := by decide +kernel
theorem hd_X10_everybody : yX10_everybody.cls ≠ "java/lang/invoke/MethodHandle" ∧ yX10_everybody.cls ≠ "java/lang/invoke/VarHandle" ∧ (parseMethodDescriptor yX10_everybody.desc).map (fun d => d.parameters.length) = some 0 := by decide +kernel
theorem hd_X10_allSent : yX10_allSent.cls ≠ "java/lang/invoke/MethodHandle" ∧ yX10_allSent.cls ≠ "java/lang/invoke/VarHandle" ∧ (parseMethodDescriptor yX10_allSent.desc).map (fun d => d.parameters.length) = some 0 := by decide +kernel
theorem dX10_isAlone_0 : decode cX10_isAlone 0 = .ok (.iconst 0, 1) := by decide +kernel
theorem dX10_isAlone_1 : decode cX10_isAlone 1 = .ok (.istore_n 2, 1) := by decide +kernel
theorem dX10_isAlone_2 : decode cX10_isAlone 2 = .ok (.iload_n 2, 1) := by decide +kernel
theorem dX10_isAlone_3 : decode cX10_isAlone 3 = .ok (.aload_n 0, 1) := by decide +kernel
theorem dX10_isAlone_4 : decode cX10_isAlone 4 = .ok (.getfield 250, 3) := by decide +kernel
theorem dX10_isAlone_7 : decode cX10_isAlone 7 = .ok (.if_icmp .ge 31, 3) := by decide +kernel
theorem dX10_isAlone_38 : decode cX10_isAlone 38 = .ok (.iconst 1, 1) := by decide +kernel
theorem dX10_isAlone_39 : decode cX10_isAlone 39 = .ok (.ireturn, 1) := by decide +kernel
theorem dX10_isAlone_10 : decode cX10_isAlone 10 = .ok (.iload_n 2, 1) := by decide +kernel
theorem dX10_isAlone_11 : decode cX10_isAlone 11 = .ok (.iload_n 1, 1) := by decide +kernel
theorem dX10_isAlone_12 : decode cX10_isAlone 12 = .ok (.if_icmp .eq 20, 3) := by decide +kernel
theorem dX10_isAlone_32 : decode cX10_isAlone 32 = .ok (.iinc 2 1, 3) := by decide +kernel
theorem dX10_isAlone_35 : decode cX10_isAlone 35 = .ok (.goto (-33), 3) := by decide +kernel
theorem dX10_isAlone_15 : decode cX10_isAlone 15 = .ok (.aload_n 0, 1) := by decide +kernel
theorem dX10_isAlone_16 : decode cX10_isAlone 16 = .ok (.getfield 43, 3) := by decide +kernel
theorem dX10_isAlone_19 : decode cX10_isAlone 19 = .ok (.iload_n 2, 1) := by decide +kernel
theorem dX10_isAlone_20 : decode cX10_isAlone 20 = .ok (.iaload, 1) := by decide +kernel
theorem dX10_isAlone_21 : decode cX10_isAlone 21 = .ok (.aload_n 0, 1) := by decide +kernel
theorem dX10_isAlone_22 : decode cX10_isAlone 22 = .ok (.getfield 43, 3) := by decide +kernel
theorem dX10_isAlone_25 : decode cX10_isAlone 25 = .ok (.iload_n 1, 1) := by decide +kernel
theorem dX10_isAlone_26 : decode cX10_isAlone 26 = .ok (.iaload, 1) := by decide +kernel
theorem dX10_isAlone_27 : decode cX10_isAlone 27 = .ok (.if_icmp .ne 5, 3) := by decide +kernel
theorem dX10_isAlone_30 : decode cX10_isAlone 30 = .ok (.iconst 0, 1) := by decide +kernel
theorem dX10_isAlone_31 : decode cX10_isAlone 31 = .ok (.ireturn, 1) := by decide +kernel
theorem hd_X10_isAlone : yX10_isAlone.cls ≠ "java/lang/invoke/MethodHandle" ∧ yX10_isAlone.cls ≠ "java/lang/invoke/VarHandle" ∧ (parseMethodDescriptor yX10_isAlone.desc).map (fun d => d.parameters.length) = some 1 := by decide +kernel
theorem dX10_isSo_0 : decode cX10_isSo 0 = .ok (.aload_n 0, 1) := by decide +kernel
theorem dX10_isSo_1 : decode cX10_isSo 1 = .ok (.getfield 86, 3) := by decide +kernel
theorem dX10_isSo_4 : decode cX10_isSo 4 = .ok (.iload_n 1, 1) := by decide +kernel
theorem dX10_isSo_5 : decode cX10_isSo 5 = .ok (.iaload, 1) := by decide +kernel
theorem dX10_isSo_6 : decode cX10_isSo 6 = .ok (.istore_n 2, 1) := by decide +kernel
theorem dX10_isSo_7 : decode cX10_isSo 7 = .ok (.aload_n 0, 1) := by decide +kernel
theorem dX10_isSo_8 : decode cX10_isSo 8 = .ok (.getfield 92, 3) := by decide +kernel
theorem dX10_isSo_11 : decode cX10_isSo 11 = .ok (.iload_n 1, 1) := by decide +kernel
theorem dX10_isSo_12 : decode cX10_isSo 12 = .ok (.iaload, 1) := by decide +kernel
theorem dX10_isSo_13 : decode cX10_isSo 13 = .ok (.ifCond .ne 36, 3) := by decide +kernel
theorem dX10_isSo_49 : decode cX10_isSo 49 = .ok (.aload_n 0, 1) := by decide +kernel
theorem dX10_isSo_50 : decode cX10_isSo 50 = .ok (.getfield 65, 3) := by decide +kernel
theorem dX10_isSo_53 : decode cX10_isSo 53 = .ok (.iload_n 2, 1) := by decide +kernel
theorem dX10_isSo_54 : decode cX10_isSo 54 = .ok (.iaload, 1) := by decide +kernel
theorem dX10_isSo_55 : decode cX10_isSo 55 = .ok (.aload_n 0, 1) := by decide +kernel
theorem dX10_isSo_56 : decode cX10_isSo 56 = .ok (.getfield 95, 3) := by decide +kernel
theorem dX10_isSo_59 : decode cX10_isSo 59 = .ok (.iload_n 1, 1) := by decide +kernel
theorem dX10_isSo_60 : decode cX10_isSo 60 = .ok (.iaload, 1) := by decide +kernel
theorem dX10_isSo_61 : decode cX10_isSo 61 = .ok (.if_icmp .ne 7, 3) := by decide +kernel
theorem dX10_isSo_68 : decode cX10_isSo 68 = .ok (.iconst 0, 1) := by decide +kernel
theorem dX10_isSo_69 : decode cX10_isSo 69 = .ok (.ireturn, 1) := by decide +kernel
theorem dX10_isSo_64 : decode cX10_isSo 64 = .ok (.iconst 1, 1) := by decide +kernel
theorem dX10_isSo_65 : decode cX10_isSo 65 = .ok (.goto 4, 3) := by decide +kernel
theorem dX10_isSo_16 : decode cX10_isSo 16 = .ok (.aload_n 0, 1) := by decide +kernel
theorem dX10_isSo_17 : decode cX10_isSo 17 = .ok (.getfield 59, 3) := by decide +kernel
theorem dX10_isSo_20 : decode cX10_isSo 20 = .ok (.iload_n 2, 1) := by decide +kernel
theorem dX10_isSo_21 : decode cX10_isSo 21 = .ok (.iaload, 1) := by decide +kernel
theorem dX10_isSo_22 : decode cX10_isSo 22 = .ok (.aload_n 0, 1) := by decide +kernel
theorem dX10_isSo_23 : decode cX10_isSo 23 = .ok (.getfield 95, 3) := by decide +kernel
theorem dX10_isSo_26 : decode cX10_isSo 26 = .ok (.iload_n 1, 1) := by decide +kernel
theorem dX10_isSo_27 : decode cX10_isSo 27 = .ok (.iaload, 1) := by decide +kernel
theorem dX10_isSo_28 : decode cX10_isSo 28 = .ok (.isub, 1) := by decide +kernel
theorem dX10_isSo_29 : decode cX10_isSo 29 = .ok (.invokestatic 334, 3) := by decide +kernel
theorem dX10_isSo_32 : decode cX10_isSo 32 = .ok (.aload_n 0, 1) := by decide +kernel
theorem dX10_isSo_33 : decode cX10_isSo 33 = .ok (.getfield 98, 3) := by decide +kernel
theorem dX10_isSo_36 : decode cX10_isSo 36 = .ok (.iload_n 1, 1) := by decide +kernel
theorem dX10_isSo_37 : decode cX10_isSo 37 = .ok (.iaload, 1) := by decide +kernel
theorem dX10_isSo_38 : decode cX10_isSo 38 = .ok (.if_icmp .gt 7, 3) := by decide +kernel
theorem dX10_isSo_45 : decode cX10_isSo 45 = .ok (.iconst 0, 1) := by decide +kernel
theorem dX10_isSo_46 : decode cX10_isSo 46 = .ok (.goto 23, 3) := by decide +kernel
theorem dX10_isSo_41 : decode cX10_isSo 41 = .ok (.iconst 1, 1) := by decide +kernel
theorem dX10_isSo_42 : decode cX10_isSo 42 = .ok (.goto 27, 3) := by decide +kernel
theorem hd_X10_isSo : yX10_isSo.cls ≠ "java/lang/invoke/MethodHandle" ∧ yX10_isSo.cls ≠ "java/lang/invoke/VarHandle" ∧ (parseMethodDescriptor yX10_isSo.desc).map (fun d => d.parameters.length) = some 1 := by decide +kernel
theorem hd_X10_begin : yX10_begin.cls ≠ "java/lang/invoke/MethodHandle" ∧ yX10_begin.cls ≠ "java/lang/invoke/VarHandle" ∧ (parseMethodDescriptor yX10_begin.desc).map (fun d => d.parameters.length) = some 2 := by decide +kernel
theorem hd_X10_layLetters : yX10_layLetters.cls ≠ "java/lang/invoke/MethodHandle" ∧ yX10_layLetters.cls ≠ "java/lang/invoke/VarHandle" ∧ (parseMethodDescriptor yX10_layLetters.desc).map (fun d => d.parameters.length) = some 1 := by decide +kernel
end
section
/-- what a run of the reference goes by -/
def kRE (E : kEn) (ps kw : Nat) (m22 m24 m25 : Nat → Int32) (th : Int32) : Prop := (E.1 = ps ∧ E.2.1 = kw) ∧ (∀ j : Nat, j < ps → E.2.2.1 j = m22 j) ∧ (∀ i : Nat, i < kw → E.2.2.2.1 i = m24 i) ∧ (∀ j : Nat, j < ps → E.2.2.2.2.1 j = if m25 j = 0 then 0 else 1) ∧ (∀ j : Nat, j < ps → (E.2.2.2.2.2.1 j = 0 ↔ kHas th (nI j) = 0)) ∧ (∀ j : Nat, E.2.2.2.2.1 j = 0 ∨ E.2.2.2.2.1 j = 1) ∧ (∀ i : Nat, i < kw → 0 ≤ (E.2.2.2.1 i).toInt ∧ (E.2.2.2.1 i).toInt ≤ 47)
/-- the letters' signs -/
def kSg8 (k : Nat) : Nat := if k = 0 then 118 else if k = 1 then 112 else if k = 2 then 110 else if k = 3 then 109 else if k = 4 then 115 else if k = 5 then 117 else if k = 6 then 100 else 105
theorem kSg8_c : ∀ k : Nat, k < 8 → kSg8 k < 128 := fun k hk => by
  rcases (show k = 0 ∨ k = 1 ∨ k = 2 ∨ k = 3 ∨ k = 4 ∨ k = 5 ∨ k = 6 ∨ k = 7 by omega) with z | z | z | z | z | z | z | z <;> (rw [z]; decide)
/-- what a label is worth, as the reference finds it -/
theorem kYyR {E : kEn} {S : kRst} {j lab : Nat} {mf4 xA xB : Nat → Int32} {nA nB : Nat} {p r : Int32} {y : List kTr} (hA : nA = 3 ∧ xA 0 = 121 ∧ xA 1 = 103 ∧ xA 2 = 120) (hB : nB = 8 ∧ ∀ k : Nat, k < 8 → xB k = nI (kSg8 k)) (hl : ∀ k : Nat, k < 8 → mf4 (kSg8 k) = kLe E S j k) (hb : ∀ k : Nat, kBd (kLe E S j k)) (hg : ∀ z ∈ y, kGdC nA nB z) (hy : E.2.2.2.2.2.2 = y) (hp : (lab = 0 ∧ p = 121) ∨ (lab = 1 ∧ p = 103) ∨ (lab = 2 ∧ p = 120)) (h : (∀ q : Nat, q < nB → kBd (kLt mf4 xB q)) → r = (kFo (kLt mf4 xB) xA p y (0, 0)).1) : r = kYy E S lab j := by
  have hk : ∀ k : Nat, k < nB → kLt mf4 xB k = kLe E S j k := fun k hk => by
    unfold kLt
    rw [hB.2 k (by omega), nI_clamp (by have := kSg8_c k (by omega); omega)]
    exact hl k (by omega)
  rw [h (fun q hq => by rw [hk q hq]; exact hb q)]
  rw [kFo_wo (lab := lab) y (fun z hz => by
    have h1 : z.1 < nA := (hg z hz).1
    have h3 : z.1 = 0 ∨ z.1 = 1 ∨ z.1 = 2 := by omega
    rcases hp with ⟨e1, e2⟩ | ⟨e1, e2⟩ | ⟨e1, e2⟩ <;> rcases h3 with q | q | q <;> rw [q, e1, e2]
    · exact ⟨fun _ => rfl, fun _ => hA.2.1⟩
    · rw [hA.2.2.1]; exact ⟨fun t => absurd t (by decide), fun t => absurd t (by decide)⟩
    · rw [hA.2.2.2]; exact ⟨fun t => absurd t (by decide), fun t => absurd t (by decide)⟩
    · rw [hA.2.1]; exact ⟨fun t => absurd t (by decide), fun t => absurd t (by decide)⟩
    · exact ⟨fun _ => rfl, fun _ => hA.2.2.1⟩
    · rw [hA.2.2.2]; exact ⟨fun t => absurd t (by decide), fun t => absurd t (by decide)⟩
    · rw [hA.2.1]; exact ⟨fun t => absurd t (by decide), fun t => absurd t (by decide)⟩
    · rw [hA.2.2.1]; exact ⟨fun t => absurd t (by decide), fun t => absurd t (by decide)⟩
    · exact ⟨fun _ => rfl, fun _ => hA.2.2.2⟩)]
  unfold kYy
  rw [hy]
  exact kWoT_c hk y hg
theorem kHas_B (a : Int32) {j : Nat} (hj : j < 32) : (kHas a (nI j) = 0 ↔ kIsB a (nI j) = 0) := by
  rw [kIsB_bit a hj]
  unfold kHas
  cases hb : a.toBitVec.getLsbD j with
  | false =>
    have e : a >>> (nI j &&& 31) &&& 1 = 0 := Int32.toBitVec_inj.mp (by rw [kShB a hj]; exact kSh0 _ _ hb hj)
    rw [if_neg (fun z => absurd (e.symm.trans z) (by decide))]
    exact ⟨fun _ => rfl, fun _ => rfl⟩
  | true =>
    have e : a >>> (nI j &&& 31) &&& 1 = 1 := Int32.toBitVec_inj.mp (by rw [kShB a hj]; exact kSh1 _ _ hb hj)
    rw [if_pos e]
    exact ⟨fun z => absurd z (by decide), fun z => absurd z (by decide)⟩
theorem kRp_tr {ks n : Nat} {S : kRst} {a b c d h p l t : Nat → Int32} {x : Int64} (H : kRp ks (a, b, c, d, x, n) h p l t) (H2 : kRp ks S a b c d) : kRp ks S h p l t := fun j hj => by
  obtain ⟨q1, q2, q3, q4⟩ := H j hj
  obtain ⟨z1, z2, z3, z4⟩ := H2 j hj
  exact ⟨q1.trans z1, q2.trans z2, q3.trans z3, q4.trans z4⟩
/-- the told rows of both sides -/
def kTd (ks kw : Nat) (g0 g1 g2 g3 g4 : Nat → Int32) (sv : Nat) (m19 m20 m21 m22 m24 m25 : Nat → Int32) : Prop := (∀ j : Nat, j < ks → m19 j = g0 j ∧ m20 j = g1 j ∧ m21 j = g2 j ∧ m22 j = g3 j ∧ (kIsB (nI sv) (nI j) = if m25 j = 0 then 0 else 1)) ∧ (∀ i : Nat, i < kw → m24 i = g4 i ∧ 0 ≤ (g4 i).toInt ∧ (g4 i).toInt ≤ 47) ∧ sv < 2 ^ ks
theorem kTd_E {ks kw sv : Nat} {g0 g1 g2 g3 g4 m19 m20 m21 m22 m24 m25 : Nat → Int32} {ab th : Int32} {t : List kTr} (H : kTd ks kw g0 g1 g2 g3 g4 sv m19 m20 m21 m22 m24 m25) (hks : ks ≤ 10) (hth : th = kPrs ks ab) : kRE (kE0 ks kw g3 g4 sv (kPrs ks ab) t) ks kw m22 m24 m25 th := ⟨⟨rfl, rfl⟩, fun j hj => (H.1 j hj).2.2.2.1.symm, fun i hi => (H.2.1 i hi).1.symm, fun j hj => (H.1 j hj).2.2.2.2, fun j hj => by rw [hth]; exact (kHas_B _ (by omega)).symm, fun j => kIsB_01 _ _, fun i hi => (H.2.1 i hi).2⟩
theorem kTd_S {ks kw sv : Nat} {g0 g1 g2 g3 g4 m19 m20 m21 m22 m24 m25 : Nat → Int32} {x : Int64} (H : kTd ks kw g0 g1 g2 g3 g4 sv m19 m20 m21 m22 m24 m25) : kRp ks (kS0 g0 g1 g2 x) m19 m20 m21 (fun _ => -1) := fun j hj => ⟨(H.1 j hj).1, (H.1 j hj).2.1, (H.1 j hj).2.2.1, rfl⟩
theorem kTd_se {ks kw sv j : Nat} {g0 g1 g2 g3 g4 m19 m20 m21 m22 m24 m25 : Nat → Int32} (H : kTd ks kw g0 g1 g2 g3 g4 sv m19 m20 m21 m22 m24 m25) (hj : j < ks) : (kIsB (nI sv) (nI j) = 0 ↔ m25 j = 0) := by
  rw [(H.1 j hj).2.2.2.2]
  by_cases z : m25 j = 0
  · rw [if_pos z]; exact ⟨fun _ => z, fun _ => rfl⟩
  · rw [if_neg z]; exact ⟨fun y => absurd y (by decide), fun y => absurd y z⟩
theorem kOr0 (x : Int32) : x ||| 0 = x := Int32.toBitVec_inj.mp (by show x.toBitVec ||| 0#32 = x.toBitVec; exact BitVec.or_zero)
theorem kBtsO {c : Nat → Bool} {i : Nat} {x z : Int32} (hx : x = nI (kBts c i)) (hc : ¬ c i = true) (ez : z = x ||| 0) : z = nI (kBts c (i + 1)) := by rw [kBts_f hc, ez, kOr0, hx]
theorem kTh1 {E r V : Int32} (h : E = 1) : 1 = E ∧ (E = 0 → r = V) := ⟨h.symm, fun z => absurd (h.symm.trans z) (by decide)⟩
theorem kTh0 {E r V : Int32} (h : E = 0) (hv : r = V) : 0 = E ∧ (E = 0 → r = V) := ⟨h.symm, fun _ => hv⟩
/-- one place of the row of ways, from above, as the reference reckons it -/
theorem kWsR {w l l1 : Nat → Int64} {c : Int32} {k k1 : Int32} {i : Nat} {x1 x2 zc z1 m1 m2 v : Int64} (hk : Int32.toNatClampNeg k = i) (hk1 : Int32.toNatClampNeg k1 = i - 1) (hi : 1 ≤ i) (hi8 : i ≤ 8) (ezc : zc = Int32.toInt64 c) (ex1 : x1 = l (Int32.toNatClampNeg k)) (ez1 : z1 = 100 - zc) (em1 : m1 = x1 * z1) (ex2 : x2 = l (Int32.toNatClampNeg k1)) (em2 : m2 = x2 * zc) (ev : v = m1 + m2) (el : l1 = vp_updL l (Int32.toNatClampNeg k) v) (H : ∀ q : Nat, q ≤ 8 → l q = if i < q then kWs w c q else w q) : ∀ q : Nat, q ≤ 8 → l1 q = if i - 1 < q then kWs w c q else w q := fun q hq => by
  rw [hk] at ex1 el
  rw [hk1] at ex2
  rw [el]
  by_cases z : q = i
  · rw [z, pk_uLs, if_pos (by omega), ev, em1, em2, ex1, ex2, ez1, ezc, H i hi8, H (i - 1) (by omega), if_neg (by omega), if_neg (by omega)]
    unfold kWs
    rw [if_neg (by omega)]
  · rw [pk_uLn z, H q hq]
    by_cases y2 : i < q
    · rw [if_pos y2, if_pos (by omega)]
    · rw [if_neg y2, if_neg (by omega)]
theorem kWsR0 {w l l1 : Nat → Int64} {c : Int32} {x1 zc z1 m1 v : Int64} (ezc : zc = Int32.toInt64 c) (ex1 : x1 = l (Int32.toNatClampNeg 0)) (ez1 : z1 = 100 - zc) (em1 : m1 = x1 * z1) (ev : v = m1 + 0) (el : l1 = vp_updL l (Int32.toNatClampNeg 0) v) (H : ∀ q : Nat, q ≤ 8 → l q = if 0 < q then kWs w c q else w q) : ∀ q : Nat, q ≤ 8 → l1 q = kWs w c q := fun q hq => by
  rw [show Int32.toNatClampNeg 0 = 0 by decide] at ex1 el
  rw [el]
  by_cases z : q = 0
  · rw [z, pk_uLs, ev, em1, ex1, ez1, ezc, H 0 (by omega), if_neg (by omega)]
    unfold kWs
    rw [if_pos rfl]
  · rw [pk_uLn z, H q hq, if_pos (by omega)]
theorem kWsI9 {w : Nat → Int64} {c : Int32} : ∀ q : Nat, q ≤ 8 → w q = if 8 < q then kWs w c q else w q := fun q hq => by rw [if_neg (by omega)]
theorem kWyI1 {f f1 : Nat → Int64} {i : Nat} {v : Int64} (hi : i < 2 ^ 31) (e : f1 = vp_updL f (Int32.toNatClampNeg (nI i)) v) (hv : v = if i = 0 then 1 else 0) (H : ∀ q : Nat, q < i → f q = if q = 0 then 1 else 0) : ∀ q : Nat, q < i + 1 → f1 q = if q = 0 then 1 else 0 := fun q hq => by
  rw [e, nI_clamp hi]
  by_cases z : q = i
  · rw [z, pk_uLs]; exact hv
  · rw [pk_uLn z]; exact H q (by omega)
theorem kIt_j {E : kEn} {S : kRst} {a b c : Nat} (h : a + b = c) : kIt E a (kIt E b S) = kIt E c S := by
  subst h
  induction a with
  | zero => rw [Nat.zero_add]; rfl
  | succ a ih =>
    rw [Nat.succ_add]
    show kStp E (kIt E a (kIt E b S)) = kStp E (kIt E (a + b) S)
    rw [ih]
theorem kAbN_y {w : Int32} {g q0 : Nat → Int32} {ks n v : Nat} (h : ¬ w = 0) (e : q0 n = nI v) (hv : v < 2 ^ 31) (h2 : kAlR g v ks = true) : kAbN w g q0 ks n = true := by
  unfold kAbN
  rw [if_neg h, e, nI_clamp hv]
  exact h2
theorem kAbN_n {w : Int32} {g q0 : Nat → Int32} {ks n v : Nat} (h : ¬ w = 0) (e : q0 n = nI v) (hv : v < 2 ^ 31) (h2 : ¬ kAlR g v ks = true) : ¬ kAbN w g q0 ks n = true := by
  unfold kAbN
  rw [if_neg h, e, nI_clamp hv]
  exact h2
theorem kAbN_c {w : Int32} {g g2 q0 : Nat → Int32} {ks n kn : Nat} (hn : n < kn) (hN : ∀ k : Nat, k < kn → ∃ v : Nat, v < ks ∧ q0 k = nI v) (hks : ks ≤ 10) (H : ∀ o : Nat, o < ks → g o = g2 o) : kAbN w g q0 ks n = kAbN w g2 q0 ks n := by
  obtain ⟨v, hv, e⟩ := hN n hn
  unfold kAbN
  rw [e, nI_clamp (by omega), kAlR_c hv H ks (Nat.le_refl _)]
theorem kSubF : ∀ a b : Fin 11, ((nI a.val - nI b.val < 0 ↔ a.val < b.val) ∧ (nI a.val - nI b.val = 0 ↔ a.val = b.val)) := by decide +kernel
theorem kSubLt {a b : Nat} (ha : a ≤ 10) (hb : b ≤ 10) : (nI a - nI b < 0 ↔ a < b) ∧ (nI a - nI b = 0 ↔ a = b) := kSubF ⟨a, by omega⟩ ⟨b, by omega⟩
/-- who is there: those not sent and these, or all but the other sent ones -/
theorem kThere {ks sv n : Nat} (hks : ks ≤ 10) (hs : sv < 2 ^ ks) (hn : ∀ i : Nat, n.testBit i = true → sv.testBit i = true) : kEvb ks &&& (nI sv ^^^ (-1)) ||| nI n = kPrs ks (nI sv &&& (nI n ^^^ (-1))) := by
  unfold kPrs
  apply Int32.toBitVec_inj.mp
  apply BitVec.eq_of_getLsbD_eq
  intro i hi
  show (((kEvb ks).toBitVec &&& (BitVec.ofNat 32 sv ^^^ BitVec.allOnes 32)) ||| BitVec.ofNat 32 n).getLsbD i = ((kEvb ks).toBitVec &&& ((BitVec.ofNat 32 sv &&& (BitVec.ofNat 32 n ^^^ BitVec.allOnes 32)) ^^^ BitVec.allOnes 32)).getLsbD i
  rw [BitVec.getLsbD_or, BitVec.getLsbD_and, BitVec.getLsbD_xor, BitVec.getLsbD_allOnes, BitVec.getLsbD_and, BitVec.getLsbD_xor, BitVec.getLsbD_and, BitVec.getLsbD_xor, BitVec.getLsbD_allOnes, kEvb_b hks hi, BitVec.getLsbD_ofNat, BitVec.getLsbD_ofNat, decide_eq_true hi, Bool.true_and, Bool.true_and]
  have h1 := hn i
  have h2 : sv.testBit i = true → decide (i < ks) = true := fun z => by
    by_cases y : i < ks
    · exact decide_eq_true y
    · rw [Nat.testBit_lt_two_pow (Nat.lt_of_lt_of_le hs (Nat.pow_le_pow_right (by decide) (by omega)))] at z
      exact absurd z (by decide)
  revert h1 h2
  cases n.testBit i <;> cases sv.testBit i <;> cases decide (i < ks) <;> decide
theorem kThere0 {ks sv : Nat} : kEvb ks &&& (nI sv ^^^ (-1)) ||| 0 = kPrs ks (nI sv) := by
  unfold kPrs
  exact kOr0 _
/-- one who is not sent is there, whoever of the sent ones is away -/
theorem kFrH {ks kw sv j : Nat} {g3 g4 : Nat → Int32} {t : List kTr} {w : Int32} (hks : ks ≤ 10) (hj : j < ks) : (kFr (kE0 ks kw g3 g4 sv (kPrs ks (nI sv &&& w)) t) j = true ↔ kIsB (nI sv) (nI j) = 0) := by
  rw [kFr_t]
  constructor
  · intro z; exact z.2
  · intro z
    refine ⟨?_, z⟩
    show ¬ kIsB (kPrs ks (nI sv &&& w)) (nI j) = 0
    unfold kPrs
    rw [kIsB_and (by omega)]
    constructor
    · rw [kIsB_bit _ (by omega), kEvb_b hks (by omega), decide_eq_true hj]; decide
    · rw [kIsB_bit _ (by omega)] at z ⊢
      show ((nI sv).toBitVec &&& w.toBitVec).getLsbD j = false
      rw [BitVec.getLsbD_and, z, Bool.false_and]
theorem kAndM (x : Int32) : x &&& (-1) = x := Int32.toBitVec_inj.mp (by show x.toBitVec &&& BitVec.allOnes 32 = x.toBitVec; exact BitVec.and_allOnes)
theorem kLkRU {P : Nat → Bool} {i b : Nat} (hi : 1 ≤ i) (hb : b = kLkR P i) (hP : P i = true) (h : kPc b < kPc i ∨ (kPc i = kPc b ∧ kLw i b = true)) : i = kLkR P (i + 1) := by
  rw [kLkR_t hi ⟨hP, by rw [← hb]; exact h⟩]
theorem kLkRN {P : Nat → Bool} {i b : Nat} (hb : b = kLkR P i) (h : ¬ (P i = true ∧ (kPc b < kPc i ∨ (kPc i = kPc b ∧ kLw i b = true)))) : b = kLkR P (i + 1) := by
  rw [kLkR_f (by rw [← hb]; exact h)]
  exact hb
end
section
def w_s_isFree10x : List Cond := .code yX10_isFree cX10_isFree 2 (some .boolean) :: ([.fieldLink RX10 259 "NotEndedModel" "there" "I", .initialized RX10, .static yX10_has, .methodLink RX10 269 yX10_has, .fieldLink RX10 55 "NotEndedModel" "isSent" "[Z"] ++ (wsX100 ++ (w_s_has10)))
theorem gw_s_isFree10x : (w_s_isFree10x).all goodWord = true := kGc rfl (kGa (by decide +kernel) (kGa gw_wsX100 gw_s_has10))
def w_s_held10x : List Cond := .code yX10_held cX10_held 1 (some .int) :: ([.methodLink RX10 276 Lib.Math.min.name, .static Lib.Math.min.name, .initialized RJ9, .code Lib.Math.min.name Lib.Math.min.code 2 (some .int), .methodLink RX10 273 Lib.Math.max.name, .static Lib.Math.max.name, .code Lib.Math.max.name Lib.Math.max.code 2 (some .int)] ++ [])
theorem gw_s_held10x : (w_s_held10x).all goodWord = true := kGc rfl (kGa (by decide +kernel) kGn)
set_option maxHeartbeats 4000000 in
set_option maxRecDepth 100000 in
theorem s_held10x (l : Launch) (dC : Nat → ClassId) (dI : Nat → Nat → Nat) (p0 : Int32) : Met l yX10_held w_s_held10x ({ frames := 1, cells := 0, slots := 0, locals := 60 }) (kR dC dI [.int p0] [] [] kT) (vp_Si (fun r : Int32 => r = kWi p0)) 0 0 (fun _ => False) := by
  sorry

def w_s_chance10x : List Cond := .code yX10_isChanced cX10_isChanced 2 (some .boolean) :: ([.fieldLink RX10 262 "NotEndedModel" "x" "J", .constantLong RX10 278 (6364136223846793005), .constantLong RX10 280 (1442695040888963407), .constantLong RX10 282 (100)] ++ (wsX100))
theorem gw_s_chance10x : (w_s_chance10x).all goodWord = true := kGc rfl (kGa (by decide +kernel) gw_wsX100)
def w_s_begin10x : List Cond := .code yX10_begin cX10_begin 5 none :: ([.fieldLink RX10 259 "NotEndedModel" "there" "I", .fieldLink RX10 262 "NotEndedModel" "x" "J", .fieldLink RX10 266 "NotEndedModel" "hour" "I", .fieldLink RX10 250 "NotEndedModel" "persons" "I", .fieldLink RX10 59 "NotEndedModel" "holds" "[I", .fieldLink RX10 37 "NotEndedModel" "toldHolds" "[I", .fieldLink RX10 62 "NotEndedModel" "putIn" "[I", .fieldLink RX10 40 "NotEndedModel" "toldIn" "[I", .fieldLink RX10 65 "NotEndedModel" "house" "[I", .fieldLink RX10 43 "NotEndedModel" "toldHouse" "[I", .fieldLink RX10 68 "NotEndedModel" "since" "[I"] ++ (wsX100))
theorem gw_s_begin10x : (w_s_begin10x).all goodWord = true := kGc rfl (kGa (by decide +kernel) gw_wsX100)
set_option maxHeartbeats 4000000 in
set_option maxRecDepth 100000 in
theorem s_begin10x (l : Launch) (dC : Nat → ClassId) (dI : Nat → Nat → Nat) (jM : Nat) (th : Int32) (thr : Int32) (xx : Int64) (v5 : Value) (v9 : Value) (v10 : Value) (v11 : Value) (v12 : Value) (v13 : Value) (v14 : Value) (v15 : Value) (v16 : Value) (v17 : Value) (v18 : Value) (m1 : Nat) (m2 : Nat) (m3 : Nat) (m4 : Nat) (m19 : Nat) (m20 : Nat) (m21 : Nat) (m22 : Nat) (m23 : Nat) (m24 : Nat) (m25 : Nat) (m28 : Nat) (m29 : Nat) (m30 : Nat) (m31 : Nat) (m32 : Nat) (m33 : Nat) (m34 : Nat) (m35 : Nat) (m36 : Nat) (m40 : Nat) (m41 : Nat) (m42 : Nat) (m43 : Nat) (m44 : Nat) (m46 : Nat) (m47 : Nat) (m48 : Nat) (m49 : Nat) (m50 : Nat) (mc1 : ClassId) (mc2 : ClassId) (mc3 : ClassId) (mc4 : ClassId) (mc19 : ClassId) (mc20 : ClassId) (mc21 : ClassId) (mc22 : ClassId) (mc23 : ClassId) (mc24 : ClassId) (mc25 : ClassId) (mc28 : ClassId) (mc29 : ClassId) (mc30 : ClassId) (mc31 : ClassId) (mc32 : ClassId) (mc33 : ClassId) (mc34 : ClassId) (mc35 : ClassId) (mc36 : ClassId) (mc40 : ClassId) (mc41 : ClassId) (mc42 : ClassId) (mc43 : ClassId) (mc44 : ClassId) (mc46 : ClassId) (mc47 : ClassId) (mc48 : ClassId) (mc49 : ClassId) (mc50 : ClassId) (mf1 : Nat → Int32) (mf2 : Nat → Int32) (mf3 : Nat → Int32) (mf4 : Nat → Int32) (mf19 : Nat → Int32) (mf20 : Nat → Int32) (mf21 : Nat → Int32) (mf22 : Nat → Int32) (mf23 : Nat → Int32) (mf24 : Nat → Int32) (mf25 : Nat → Int32) (mf28 : Nat → Int32) (mf29 : Nat → Int32) (mf30 : Nat → Int32) (mf31 : Nat → Int32) (mf32 : Nat → Int32) (mf33 : Nat → Int32) (mf34 : Nat → Int32) (mf35 : Nat → Int32) (mf36 : Nat → Int32) (mf40 : Nat → Int32) (mf41 : Nat → Int32) (mf42 : Nat → Int32) (mf43 : Nat → Int32) (mf44 : Nat → Int32) (mf46 : Nat → Int64) (mf47 : Nat → Int32) (mf48 : Nat → Int32) (mf49 : Nat → Int32) (mf50 : Nat → Int32) (ml : Nat) (mkl : Nat) (mku : Nat) (mps : Nat) (mkw : Nat) (ho : Nat) (mkn : Nat) (mka : Nat) (hml : ml ≤ 120) (hmkl : mkl ≤ 6) (hmku : mku ≤ 8) (hmps : mps ≤ 10) (hmkw : mkw ≤ 4) (hho : ho ≤ 48) (hmkn : mkn ≤ 20) (hmka : mka ≤ 6) (p0 : Int32) (p1 : Int64) (sz : Nat) : Met l yX10_begin w_s_begin10x ({ frames := 1, cells := 0, slots := 0, locals := 60 }) (kW dC dI [.ref jM, .int p0, .long p1] [(jM, .inr (10, [.int th, .ref m1, .ref m2, .ref m3, .ref m4, v5, .int (nI (ml)), .int (nI (mkl)), .int (nI (mku)), v9, v10, v11, v12, v13, v14, v15, v16, v17, v18, .ref m19, .ref m20, .ref m21, .ref m22, .ref m23, .ref m24, .ref m25, .int (nI (mps)), .int (nI (mkw)), .ref m28, .ref m29, .ref m30, .ref m31, .ref m32, .ref m33, .ref m34, .ref m35, .ref m36, .int thr, .int (nI (ho)), .long xx, .ref m40, .ref m41, .ref m42, .ref m43, .ref m44, .int (nI (mkn)), .ref m46, .ref m47, .ref m48, .ref m49, .ref m50, .int (nI (mka))])), (m1, .inl (mc1, 120, .inl mf1)), (m2, .inl (mc2, 1680, .inl mf2)), (m3, .inl (mc3, 14, .inl mf3)), (m4, .inl (mc4, 128, .inl mf4)), (m19, .inl (mc19, 10, .inl mf19)), (m20, .inl (mc20, 10, .inl mf20)), (m21, .inl (mc21, 10, .inl mf21)), (m22, .inl (mc22, 10, .inl mf22)), (m23, .inl (mc23, 10, .inl mf23)), (m24, .inl (mc24, 4, .inl mf24)), (m25, .inl (mc25, 10, .inl mf25)), (m28, .inl (mc28, 10, .inl mf28)), (m29, .inl (mc29, 10, .inl mf29)), (m30, .inl (mc30, 10, .inl mf30)), (m31, .inl (mc31, 10, .inl mf31)), (m32, .inl (mc32, 10, .inl mf32)), (m33, .inl (mc33, 10, .inl mf33)), (m34, .inl (mc34, 10, .inl mf34)), (m35, .inl (mc35, 10, .inl mf35)), (m36, .inl (mc36, 10, .inl mf36)), (m40, .inl (mc40, 20, .inl mf40)), (m41, .inl (mc41, 20, .inl mf41)), (m42, .inl (mc42, 20, .inl mf42)), (m43, .inl (mc43, 20, .inl mf43)), (m44, .inl (mc44, 20, .inl mf44)), (m46, .inl (mc46, 14, .inr (.inl mf46))), (m47, .inl (mc47, 6, .inl mf47)), (m48, .inl (mc48, 6, .inl mf48)), (m49, .inl (mc49, 6, .inl mf49)), (m50, .inl (mc50, 6, .inl mf50))] [(mc1, .byte), (mc2, .byte), (mc3, .int), (mc4, .int), (mc19, .int), (mc20, .int), (mc21, .int), (mc22, .int), (mc23, .int), (mc24, .int), (mc25, .boolean), (mc28, .int), (mc29, .int), (mc30, .int), (mc31, .int), (mc32, .int), (mc33, .int), (mc34, .int), (mc35, .int), (mc36, .int), (mc40, .int), (mc41, .int), (mc42, .int), (mc43, .int), (mc44, .int), (mc46, .long), (mc47, .int), (mc48, .int), (mc49, .int), (mc50, .int)] kT sz) (va_Qv (fun (u : (Nat → Int32) × (Nat → Int32) × (Nat → Int32) × (Nat → Int32) × Int32 × Nat × Int64) => match u with | (S28, S29, S30, S31, Th, Ho, Xx) => (p0 = Th ∧ kRp mps (mf19, mf20, mf21, (fun _ => -1), p1, 0) S28 S29 S30 S31 ∧ Ho = 0 ∧ Xx = p1)) (fun (u : (Nat → Int32) × (Nat → Int32) × (Nat → Int32) × (Nat → Int32) × Int32 × Nat × Int64) => match u with | (S28, S29, S30, S31, Th, Ho, Xx) => fun t : State => kB dC dI [(jM, .inr (10, [.int th, .ref m1, .ref m2, .ref m3, .ref m4, v5, .int (nI (ml)), .int (nI (mkl)), .int (nI (mku)), v9, v10, v11, v12, v13, v14, v15, v16, v17, v18, .ref m19, .ref m20, .ref m21, .ref m22, .ref m23, .ref m24, .ref m25, .int (nI (mps)), .int (nI (mkw)), .ref m28, .ref m29, .ref m30, .ref m31, .ref m32, .ref m33, .ref m34, .ref m35, .ref m36, .int Th, .int (nI (Ho)), .long Xx, .ref m40, .ref m41, .ref m42, .ref m43, .ref m44, .int (nI (mkn)), .ref m46, .ref m47, .ref m48, .ref m49, .ref m50, .int (nI (mka))])), (m1, .inl (mc1, 120, .inl mf1)), (m2, .inl (mc2, 1680, .inl mf2)), (m3, .inl (mc3, 14, .inl mf3)), (m4, .inl (mc4, 128, .inl mf4)), (m19, .inl (mc19, 10, .inl mf19)), (m20, .inl (mc20, 10, .inl mf20)), (m21, .inl (mc21, 10, .inl mf21)), (m22, .inl (mc22, 10, .inl mf22)), (m23, .inl (mc23, 10, .inl mf23)), (m24, .inl (mc24, 4, .inl mf24)), (m25, .inl (mc25, 10, .inl mf25)), (m28, .inl (mc28, 10, .inl S28)), (m29, .inl (mc29, 10, .inl S29)), (m30, .inl (mc30, 10, .inl S30)), (m31, .inl (mc31, 10, .inl S31)), (m32, .inl (mc32, 10, .inl mf32)), (m33, .inl (mc33, 10, .inl mf33)), (m34, .inl (mc34, 10, .inl mf34)), (m35, .inl (mc35, 10, .inl mf35)), (m36, .inl (mc36, 10, .inl mf36)), (m40, .inl (mc40, 20, .inl mf40)), (m41, .inl (mc41, 20, .inl mf41)), (m42, .inl (mc42, 20, .inl mf42)), (m43, .inl (mc43, 20, .inl mf43)), (m44, .inl (mc44, 20, .inl mf44)), (m46, .inl (mc46, 14, .inr (.inl mf46))), (m47, .inl (mc47, 6, .inl mf47)), (m48, .inl (mc48, 6, .inl mf48)), (m49, .inl (mc49, 6, .inl mf49)), (m50, .inl (mc50, 6, .inl mf50))] [(mc1, .byte), (mc2, .byte), (mc3, .int), (mc4, .int), (mc19, .int), (mc20, .int), (mc21, .int), (mc22, .int), (mc23, .int), (mc24, .int), (mc25, .boolean), (mc28, .int), (mc29, .int), (mc30, .int), (mc31, .int), (mc32, .int), (mc33, .int), (mc34, .int), (mc35, .int), (mc36, .int), (mc40, .int), (mc41, .int), (mc42, .int), (mc43, .int), (mc44, .int), (mc46, .long), (mc47, .int), (mc48, .int), (mc49, .int), (mc50, .int)] (va_A [(jM, .inr (10, [.int th, .ref m1, .ref m2, .ref m3, .ref m4, v5, .int (nI (ml)), .int (nI (mkl)), .int (nI (mku)), v9, v10, v11, v12, v13, v14, v15, v16, v17, v18, .ref m19, .ref m20, .ref m21, .ref m22, .ref m23, .ref m24, .ref m25, .int (nI (mps)), .int (nI (mkw)), .ref m28, .ref m29, .ref m30, .ref m31, .ref m32, .ref m33, .ref m34, .ref m35, .ref m36, .int thr, .int (nI (ho)), .long xx, .ref m40, .ref m41, .ref m42, .ref m43, .ref m44, .int (nI (mkn)), .ref m46, .ref m47, .ref m48, .ref m49, .ref m50, .int (nI (mka))])), (m1, .inl (mc1, 120, .inl mf1)), (m2, .inl (mc2, 1680, .inl mf2)), (m3, .inl (mc3, 14, .inl mf3)), (m4, .inl (mc4, 128, .inl mf4)), (m19, .inl (mc19, 10, .inl mf19)), (m20, .inl (mc20, 10, .inl mf20)), (m21, .inl (mc21, 10, .inl mf21)), (m22, .inl (mc22, 10, .inl mf22)), (m23, .inl (mc23, 10, .inl mf23)), (m24, .inl (mc24, 4, .inl mf24)), (m25, .inl (mc25, 10, .inl mf25)), (m28, .inl (mc28, 10, .inl mf28)), (m29, .inl (mc29, 10, .inl mf29)), (m30, .inl (mc30, 10, .inl mf30)), (m31, .inl (mc31, 10, .inl mf31)), (m32, .inl (mc32, 10, .inl mf32)), (m33, .inl (mc33, 10, .inl mf33)), (m34, .inl (mc34, 10, .inl mf34)), (m35, .inl (mc35, 10, .inl mf35)), (m36, .inl (mc36, 10, .inl mf36)), (m40, .inl (mc40, 20, .inl mf40)), (m41, .inl (mc41, 20, .inl mf41)), (m42, .inl (mc42, 20, .inl mf42)), (m43, .inl (mc43, 20, .inl mf43)), (m44, .inl (mc44, 20, .inl mf44)), (m46, .inl (mc46, 14, .inr (.inl mf46))), (m47, .inl (mc47, 6, .inl mf47)), (m48, .inl (mc48, 6, .inl mf48)), (m49, .inl (mc49, 6, .inl mf49)), (m50, .inl (mc50, 6, .inl mf50))] sz) t) (va_A [(jM, .inr (10, [.int th, .ref m1, .ref m2, .ref m3, .ref m4, v5, .int (nI (ml)), .int (nI (mkl)), .int (nI (mku)), v9, v10, v11, v12, v13, v14, v15, v16, v17, v18, .ref m19, .ref m20, .ref m21, .ref m22, .ref m23, .ref m24, .ref m25, .int (nI (mps)), .int (nI (mkw)), .ref m28, .ref m29, .ref m30, .ref m31, .ref m32, .ref m33, .ref m34, .ref m35, .ref m36, .int thr, .int (nI (ho)), .long xx, .ref m40, .ref m41, .ref m42, .ref m43, .ref m44, .int (nI (mkn)), .ref m46, .ref m47, .ref m48, .ref m49, .ref m50, .int (nI (mka))])), (m1, .inl (mc1, 120, .inl mf1)), (m2, .inl (mc2, 1680, .inl mf2)), (m3, .inl (mc3, 14, .inl mf3)), (m4, .inl (mc4, 128, .inl mf4)), (m19, .inl (mc19, 10, .inl mf19)), (m20, .inl (mc20, 10, .inl mf20)), (m21, .inl (mc21, 10, .inl mf21)), (m22, .inl (mc22, 10, .inl mf22)), (m23, .inl (mc23, 10, .inl mf23)), (m24, .inl (mc24, 4, .inl mf24)), (m25, .inl (mc25, 10, .inl mf25)), (m28, .inl (mc28, 10, .inl mf28)), (m29, .inl (mc29, 10, .inl mf29)), (m30, .inl (mc30, 10, .inl mf30)), (m31, .inl (mc31, 10, .inl mf31)), (m32, .inl (mc32, 10, .inl mf32)), (m33, .inl (mc33, 10, .inl mf33)), (m34, .inl (mc34, 10, .inl mf34)), (m35, .inl (mc35, 10, .inl mf35)), (m36, .inl (mc36, 10, .inl mf36)), (m40, .inl (mc40, 20, .inl mf40)), (m41, .inl (mc41, 20, .inl mf41)), (m42, .inl (mc42, 20, .inl mf42)), (m43, .inl (mc43, 20, .inl mf43)), (m44, .inl (mc44, 20, .inl mf44)), (m46, .inl (mc46, 14, .inr (.inl mf46))), (m47, .inl (mc47, 6, .inl mf47)), (m48, .inl (mc48, 6, .inl mf48)), (m49, .inl (mc49, 6, .inl mf49)), (m50, .inl (mc50, 6, .inl mf50))] sz)) 0 0 (va_A [(jM, .inr (10, [.int th, .ref m1, .ref m2, .ref m3, .ref m4, v5, .int (nI (ml)), .int (nI (mkl)), .int (nI (mku)), v9, v10, v11, v12, v13, v14, v15, v16, v17, v18, .ref m19, .ref m20, .ref m21, .ref m22, .ref m23, .ref m24, .ref m25, .int (nI (mps)), .int (nI (mkw)), .ref m28, .ref m29, .ref m30, .ref m31, .ref m32, .ref m33, .ref m34, .ref m35, .ref m36, .int thr, .int (nI (ho)), .long xx, .ref m40, .ref m41, .ref m42, .ref m43, .ref m44, .int (nI (mkn)), .ref m46, .ref m47, .ref m48, .ref m49, .ref m50, .int (nI (mka))])), (m1, .inl (mc1, 120, .inl mf1)), (m2, .inl (mc2, 1680, .inl mf2)), (m3, .inl (mc3, 14, .inl mf3)), (m4, .inl (mc4, 128, .inl mf4)), (m19, .inl (mc19, 10, .inl mf19)), (m20, .inl (mc20, 10, .inl mf20)), (m21, .inl (mc21, 10, .inl mf21)), (m22, .inl (mc22, 10, .inl mf22)), (m23, .inl (mc23, 10, .inl mf23)), (m24, .inl (mc24, 4, .inl mf24)), (m25, .inl (mc25, 10, .inl mf25)), (m28, .inl (mc28, 10, .inl mf28)), (m29, .inl (mc29, 10, .inl mf29)), (m30, .inl (mc30, 10, .inl mf30)), (m31, .inl (mc31, 10, .inl mf31)), (m32, .inl (mc32, 10, .inl mf32)), (m33, .inl (mc33, 10, .inl mf33)), (m34, .inl (mc34, 10, .inl mf34)), (m35, .inl (mc35, 10, .inl mf35)), (m36, .inl (mc36, 10, .inl mf36)), (m40, .inl (mc40, 20, .inl mf40)), (m41, .inl (mc41, 20, .inl mf41)), (m42, .inl (mc42, 20, .inl mf42)), (m43, .inl (mc43, 20, .inl mf43)), (m44, .inl (mc44, 20, .inl mf44)), (m46, .inl (mc46, 14, .inr (.inl mf46))), (m47, .inl (mc47, 6, .inl mf47)), (m48, .inl (mc48, 6, .inl mf48)), (m49, .inl (mc49, 6, .inl mf49)), (m50, .inl (mc50, 6, .inl mf50))] sz) := by
  sorry

def w_s_lay10x : List Cond := .code yX10_layLetters cX10_layLetters 8 none :: ([.fieldLink RX10 250 "NotEndedModel" "persons" "I", .fieldLink RX10 256 "NotEndedModel" "words" "I", .fieldLink RX10 20 "NotEndedModel" "letters" "[I", .fieldLink RX10 59 "NotEndedModel" "holds" "[I", .fieldLink RX10 62 "NotEndedModel" "putIn" "[I", .fieldLink RX10 266 "NotEndedModel" "hour" "I", .fieldLink RX10 52 "NotEndedModel" "due" "[I", .methodLink RX10 273 Lib.Math.max.name, .static Lib.Math.max.name, .initialized RJ9, .code Lib.Math.max.name Lib.Math.max.code 2 (some .int), .fieldLink RX10 259 "NotEndedModel" "there" "I", .initialized RX10, .static yX10_has, .methodLink RX10 269 yX10_has, .fieldLink RX10 65 "NotEndedModel" "house" "[I", .fieldLink RX10 55 "NotEndedModel" "isSent" "[Z"] ++ (wsX100 ++ (w_s_has10)))
theorem gw_s_lay10x : (w_s_lay10x).all goodWord = true := kGc rfl (kGa (by decide +kernel) (kGa gw_wsX100 gw_s_has10))
set_option maxHeartbeats 4000000 in
set_option maxRecDepth 100000 in
theorem s_lay10x (l : Launch) (dC : Nat → ClassId) (dI : Nat → Nat → Nat) (jM : Nat) (th : Int32) (thr : Int32) (xx : Int64) (v5 : Value) (v9 : Value) (v10 : Value) (v11 : Value) (v12 : Value) (v13 : Value) (v14 : Value) (v15 : Value) (v16 : Value) (v17 : Value) (v18 : Value) (m1 : Nat) (m2 : Nat) (m3 : Nat) (m4 : Nat) (m19 : Nat) (m20 : Nat) (m21 : Nat) (m22 : Nat) (m23 : Nat) (m24 : Nat) (m25 : Nat) (m28 : Nat) (m29 : Nat) (m30 : Nat) (m31 : Nat) (m32 : Nat) (m33 : Nat) (m34 : Nat) (m35 : Nat) (m36 : Nat) (m40 : Nat) (m41 : Nat) (m42 : Nat) (m43 : Nat) (m44 : Nat) (m46 : Nat) (m47 : Nat) (m48 : Nat) (m49 : Nat) (m50 : Nat) (mc1 : ClassId) (mc2 : ClassId) (mc3 : ClassId) (mc4 : ClassId) (mc19 : ClassId) (mc20 : ClassId) (mc21 : ClassId) (mc22 : ClassId) (mc23 : ClassId) (mc24 : ClassId) (mc25 : ClassId) (mc28 : ClassId) (mc29 : ClassId) (mc30 : ClassId) (mc31 : ClassId) (mc32 : ClassId) (mc33 : ClassId) (mc34 : ClassId) (mc35 : ClassId) (mc36 : ClassId) (mc40 : ClassId) (mc41 : ClassId) (mc42 : ClassId) (mc43 : ClassId) (mc44 : ClassId) (mc46 : ClassId) (mc47 : ClassId) (mc48 : ClassId) (mc49 : ClassId) (mc50 : ClassId) (mf1 : Nat → Int32) (mf2 : Nat → Int32) (mf3 : Nat → Int32) (mf4 : Nat → Int32) (mf19 : Nat → Int32) (mf20 : Nat → Int32) (mf21 : Nat → Int32) (mf22 : Nat → Int32) (mf23 : Nat → Int32) (mf24 : Nat → Int32) (mf25 : Nat → Int32) (mf28 : Nat → Int32) (mf29 : Nat → Int32) (mf30 : Nat → Int32) (mf31 : Nat → Int32) (mf32 : Nat → Int32) (mf33 : Nat → Int32) (mf34 : Nat → Int32) (mf35 : Nat → Int32) (mf36 : Nat → Int32) (mf40 : Nat → Int32) (mf41 : Nat → Int32) (mf42 : Nat → Int32) (mf43 : Nat → Int32) (mf44 : Nat → Int32) (mf46 : Nat → Int64) (mf47 : Nat → Int32) (mf48 : Nat → Int32) (mf49 : Nat → Int32) (mf50 : Nat → Int32) (ml : Nat) (mkl : Nat) (mku : Nat) (mps : Nat) (mkw : Nat) (ho : Nat) (mkn : Nat) (mka : Nat) (hml : ml ≤ 120) (hmkl : mkl ≤ 6) (hmku : mku ≤ 8) (hmps : mps ≤ 10) (hmkw : mkw ≤ 4) (hho : ho ≤ 48) (hmkn : mkn ≤ 20) (hmka : mka ≤ 6) (pj : Nat) (hpj : pj < mps) (E : kEn) (S : kRst) (hRE : kRE E mps mkw mf22 mf24 mf25 thr) (hRR : kRp mps S mf28 mf29 mf30 mf31) (hRH : S.2.2.2.2.2 = ho) (sz : Nat) : Met l yX10_layLetters w_s_lay10x ({ frames := 2, cells := 0, slots := 0, locals := 120 }) (kW dC dI [.ref jM, .int (nI (pj))] [(jM, .inr (10, [.int th, .ref m1, .ref m2, .ref m3, .ref m4, v5, .int (nI (ml)), .int (nI (mkl)), .int (nI (mku)), v9, v10, v11, v12, v13, v14, v15, v16, v17, v18, .ref m19, .ref m20, .ref m21, .ref m22, .ref m23, .ref m24, .ref m25, .int (nI (mps)), .int (nI (mkw)), .ref m28, .ref m29, .ref m30, .ref m31, .ref m32, .ref m33, .ref m34, .ref m35, .ref m36, .int thr, .int (nI (ho)), .long xx, .ref m40, .ref m41, .ref m42, .ref m43, .ref m44, .int (nI (mkn)), .ref m46, .ref m47, .ref m48, .ref m49, .ref m50, .int (nI (mka))])), (m1, .inl (mc1, 120, .inl mf1)), (m2, .inl (mc2, 1680, .inl mf2)), (m3, .inl (mc3, 14, .inl mf3)), (m4, .inl (mc4, 128, .inl mf4)), (m19, .inl (mc19, 10, .inl mf19)), (m20, .inl (mc20, 10, .inl mf20)), (m21, .inl (mc21, 10, .inl mf21)), (m22, .inl (mc22, 10, .inl mf22)), (m23, .inl (mc23, 10, .inl mf23)), (m24, .inl (mc24, 4, .inl mf24)), (m25, .inl (mc25, 10, .inl mf25)), (m28, .inl (mc28, 10, .inl mf28)), (m29, .inl (mc29, 10, .inl mf29)), (m30, .inl (mc30, 10, .inl mf30)), (m31, .inl (mc31, 10, .inl mf31)), (m32, .inl (mc32, 10, .inl mf32)), (m33, .inl (mc33, 10, .inl mf33)), (m34, .inl (mc34, 10, .inl mf34)), (m35, .inl (mc35, 10, .inl mf35)), (m36, .inl (mc36, 10, .inl mf36)), (m40, .inl (mc40, 20, .inl mf40)), (m41, .inl (mc41, 20, .inl mf41)), (m42, .inl (mc42, 20, .inl mf42)), (m43, .inl (mc43, 20, .inl mf43)), (m44, .inl (mc44, 20, .inl mf44)), (m46, .inl (mc46, 14, .inr (.inl mf46))), (m47, .inl (mc47, 6, .inl mf47)), (m48, .inl (mc48, 6, .inl mf48)), (m49, .inl (mc49, 6, .inl mf49)), (m50, .inl (mc50, 6, .inl mf50))] [(mc1, .byte), (mc2, .byte), (mc3, .int), (mc4, .int), (mc19, .int), (mc20, .int), (mc21, .int), (mc22, .int), (mc23, .int), (mc24, .int), (mc25, .boolean), (mc28, .int), (mc29, .int), (mc30, .int), (mc31, .int), (mc32, .int), (mc33, .int), (mc34, .int), (mc35, .int), (mc36, .int), (mc40, .int), (mc41, .int), (mc42, .int), (mc43, .int), (mc44, .int), (mc46, .long), (mc47, .int), (mc48, .int), (mc49, .int), (mc50, .int)] kT sz) (va_Qv (fun (S4 : (Nat → Int32)) => (∀ k : Nat, k < 8 → S4 (kSg8 k) = kLe E S pj k)) (fun (S4 : (Nat → Int32)) => fun t : State => kB dC dI [(jM, .inr (10, [.int th, .ref m1, .ref m2, .ref m3, .ref m4, v5, .int (nI (ml)), .int (nI (mkl)), .int (nI (mku)), v9, v10, v11, v12, v13, v14, v15, v16, v17, v18, .ref m19, .ref m20, .ref m21, .ref m22, .ref m23, .ref m24, .ref m25, .int (nI (mps)), .int (nI (mkw)), .ref m28, .ref m29, .ref m30, .ref m31, .ref m32, .ref m33, .ref m34, .ref m35, .ref m36, .int thr, .int (nI (ho)), .long xx, .ref m40, .ref m41, .ref m42, .ref m43, .ref m44, .int (nI (mkn)), .ref m46, .ref m47, .ref m48, .ref m49, .ref m50, .int (nI (mka))])), (m1, .inl (mc1, 120, .inl mf1)), (m2, .inl (mc2, 1680, .inl mf2)), (m3, .inl (mc3, 14, .inl mf3)), (m4, .inl (mc4, 128, .inl S4)), (m19, .inl (mc19, 10, .inl mf19)), (m20, .inl (mc20, 10, .inl mf20)), (m21, .inl (mc21, 10, .inl mf21)), (m22, .inl (mc22, 10, .inl mf22)), (m23, .inl (mc23, 10, .inl mf23)), (m24, .inl (mc24, 4, .inl mf24)), (m25, .inl (mc25, 10, .inl mf25)), (m28, .inl (mc28, 10, .inl mf28)), (m29, .inl (mc29, 10, .inl mf29)), (m30, .inl (mc30, 10, .inl mf30)), (m31, .inl (mc31, 10, .inl mf31)), (m32, .inl (mc32, 10, .inl mf32)), (m33, .inl (mc33, 10, .inl mf33)), (m34, .inl (mc34, 10, .inl mf34)), (m35, .inl (mc35, 10, .inl mf35)), (m36, .inl (mc36, 10, .inl mf36)), (m40, .inl (mc40, 20, .inl mf40)), (m41, .inl (mc41, 20, .inl mf41)), (m42, .inl (mc42, 20, .inl mf42)), (m43, .inl (mc43, 20, .inl mf43)), (m44, .inl (mc44, 20, .inl mf44)), (m46, .inl (mc46, 14, .inr (.inl mf46))), (m47, .inl (mc47, 6, .inl mf47)), (m48, .inl (mc48, 6, .inl mf48)), (m49, .inl (mc49, 6, .inl mf49)), (m50, .inl (mc50, 6, .inl mf50))] [(mc1, .byte), (mc2, .byte), (mc3, .int), (mc4, .int), (mc19, .int), (mc20, .int), (mc21, .int), (mc22, .int), (mc23, .int), (mc24, .int), (mc25, .boolean), (mc28, .int), (mc29, .int), (mc30, .int), (mc31, .int), (mc32, .int), (mc33, .int), (mc34, .int), (mc35, .int), (mc36, .int), (mc40, .int), (mc41, .int), (mc42, .int), (mc43, .int), (mc44, .int), (mc46, .long), (mc47, .int), (mc48, .int), (mc49, .int), (mc50, .int)] (va_A [(jM, .inr (10, [.int th, .ref m1, .ref m2, .ref m3, .ref m4, v5, .int (nI (ml)), .int (nI (mkl)), .int (nI (mku)), v9, v10, v11, v12, v13, v14, v15, v16, v17, v18, .ref m19, .ref m20, .ref m21, .ref m22, .ref m23, .ref m24, .ref m25, .int (nI (mps)), .int (nI (mkw)), .ref m28, .ref m29, .ref m30, .ref m31, .ref m32, .ref m33, .ref m34, .ref m35, .ref m36, .int thr, .int (nI (ho)), .long xx, .ref m40, .ref m41, .ref m42, .ref m43, .ref m44, .int (nI (mkn)), .ref m46, .ref m47, .ref m48, .ref m49, .ref m50, .int (nI (mka))])), (m1, .inl (mc1, 120, .inl mf1)), (m2, .inl (mc2, 1680, .inl mf2)), (m3, .inl (mc3, 14, .inl mf3)), (m4, .inl (mc4, 128, .inl mf4)), (m19, .inl (mc19, 10, .inl mf19)), (m20, .inl (mc20, 10, .inl mf20)), (m21, .inl (mc21, 10, .inl mf21)), (m22, .inl (mc22, 10, .inl mf22)), (m23, .inl (mc23, 10, .inl mf23)), (m24, .inl (mc24, 4, .inl mf24)), (m25, .inl (mc25, 10, .inl mf25)), (m28, .inl (mc28, 10, .inl mf28)), (m29, .inl (mc29, 10, .inl mf29)), (m30, .inl (mc30, 10, .inl mf30)), (m31, .inl (mc31, 10, .inl mf31)), (m32, .inl (mc32, 10, .inl mf32)), (m33, .inl (mc33, 10, .inl mf33)), (m34, .inl (mc34, 10, .inl mf34)), (m35, .inl (mc35, 10, .inl mf35)), (m36, .inl (mc36, 10, .inl mf36)), (m40, .inl (mc40, 20, .inl mf40)), (m41, .inl (mc41, 20, .inl mf41)), (m42, .inl (mc42, 20, .inl mf42)), (m43, .inl (mc43, 20, .inl mf43)), (m44, .inl (mc44, 20, .inl mf44)), (m46, .inl (mc46, 14, .inr (.inl mf46))), (m47, .inl (mc47, 6, .inl mf47)), (m48, .inl (mc48, 6, .inl mf48)), (m49, .inl (mc49, 6, .inl mf49)), (m50, .inl (mc50, 6, .inl mf50))] sz) t) (va_A [(jM, .inr (10, [.int th, .ref m1, .ref m2, .ref m3, .ref m4, v5, .int (nI (ml)), .int (nI (mkl)), .int (nI (mku)), v9, v10, v11, v12, v13, v14, v15, v16, v17, v18, .ref m19, .ref m20, .ref m21, .ref m22, .ref m23, .ref m24, .ref m25, .int (nI (mps)), .int (nI (mkw)), .ref m28, .ref m29, .ref m30, .ref m31, .ref m32, .ref m33, .ref m34, .ref m35, .ref m36, .int thr, .int (nI (ho)), .long xx, .ref m40, .ref m41, .ref m42, .ref m43, .ref m44, .int (nI (mkn)), .ref m46, .ref m47, .ref m48, .ref m49, .ref m50, .int (nI (mka))])), (m1, .inl (mc1, 120, .inl mf1)), (m2, .inl (mc2, 1680, .inl mf2)), (m3, .inl (mc3, 14, .inl mf3)), (m4, .inl (mc4, 128, .inl mf4)), (m19, .inl (mc19, 10, .inl mf19)), (m20, .inl (mc20, 10, .inl mf20)), (m21, .inl (mc21, 10, .inl mf21)), (m22, .inl (mc22, 10, .inl mf22)), (m23, .inl (mc23, 10, .inl mf23)), (m24, .inl (mc24, 4, .inl mf24)), (m25, .inl (mc25, 10, .inl mf25)), (m28, .inl (mc28, 10, .inl mf28)), (m29, .inl (mc29, 10, .inl mf29)), (m30, .inl (mc30, 10, .inl mf30)), (m31, .inl (mc31, 10, .inl mf31)), (m32, .inl (mc32, 10, .inl mf32)), (m33, .inl (mc33, 10, .inl mf33)), (m34, .inl (mc34, 10, .inl mf34)), (m35, .inl (mc35, 10, .inl mf35)), (m36, .inl (mc36, 10, .inl mf36)), (m40, .inl (mc40, 20, .inl mf40)), (m41, .inl (mc41, 20, .inl mf41)), (m42, .inl (mc42, 20, .inl mf42)), (m43, .inl (mc43, 20, .inl mf43)), (m44, .inl (mc44, 20, .inl mf44)), (m46, .inl (mc46, 14, .inr (.inl mf46))), (m47, .inl (mc47, 6, .inl mf47)), (m48, .inl (mc48, 6, .inl mf48)), (m49, .inl (mc49, 6, .inl mf49)), (m50, .inl (mc50, 6, .inl mf50))] sz)) 0 0 (va_A [(jM, .inr (10, [.int th, .ref m1, .ref m2, .ref m3, .ref m4, v5, .int (nI (ml)), .int (nI (mkl)), .int (nI (mku)), v9, v10, v11, v12, v13, v14, v15, v16, v17, v18, .ref m19, .ref m20, .ref m21, .ref m22, .ref m23, .ref m24, .ref m25, .int (nI (mps)), .int (nI (mkw)), .ref m28, .ref m29, .ref m30, .ref m31, .ref m32, .ref m33, .ref m34, .ref m35, .ref m36, .int thr, .int (nI (ho)), .long xx, .ref m40, .ref m41, .ref m42, .ref m43, .ref m44, .int (nI (mkn)), .ref m46, .ref m47, .ref m48, .ref m49, .ref m50, .int (nI (mka))])), (m1, .inl (mc1, 120, .inl mf1)), (m2, .inl (mc2, 1680, .inl mf2)), (m3, .inl (mc3, 14, .inl mf3)), (m4, .inl (mc4, 128, .inl mf4)), (m19, .inl (mc19, 10, .inl mf19)), (m20, .inl (mc20, 10, .inl mf20)), (m21, .inl (mc21, 10, .inl mf21)), (m22, .inl (mc22, 10, .inl mf22)), (m23, .inl (mc23, 10, .inl mf23)), (m24, .inl (mc24, 4, .inl mf24)), (m25, .inl (mc25, 10, .inl mf25)), (m28, .inl (mc28, 10, .inl mf28)), (m29, .inl (mc29, 10, .inl mf29)), (m30, .inl (mc30, 10, .inl mf30)), (m31, .inl (mc31, 10, .inl mf31)), (m32, .inl (mc32, 10, .inl mf32)), (m33, .inl (mc33, 10, .inl mf33)), (m34, .inl (mc34, 10, .inl mf34)), (m35, .inl (mc35, 10, .inl mf35)), (m36, .inl (mc36, 10, .inl mf36)), (m40, .inl (mc40, 20, .inl mf40)), (m41, .inl (mc41, 20, .inl mf41)), (m42, .inl (mc42, 20, .inl mf42)), (m43, .inl (mc43, 20, .inl mf43)), (m44, .inl (mc44, 20, .inl mf44)), (m46, .inl (mc46, 14, .inr (.inl mf46))), (m47, .inl (mc47, 6, .inl mf47)), (m48, .inl (mc48, 6, .inl mf48)), (m49, .inl (mc49, 6, .inl mf49)), (m50, .inl (mc50, 6, .inl mf50))] sz) := by
  sorry

def w_s_goesBy10x : List Cond := .code yX10_goesBy cX10_goesBy 4 none :: ([.fieldLink RX10 250 "NotEndedModel" "persons" "I", .fieldLink RX10 266 "NotEndedModel" "hour" "I", .initialized RX10, .selects RX10 yX10_isFree yX10_isFree, .instanceMethod yX10_isFree, .methodLink RX10 284 yX10_isFree, .fieldLink RX10 59 "NotEndedModel" "holds" "[I", .fieldLink RX10 77 "NotEndedModel" "heard" "[I", .static yX10_held, .methodLink RX10 294 yX10_held, .fieldLink RX10 83 "NotEndedModel" "was" "[I", .fieldLink RX10 74 "NotEndedModel" "goes" "[I", .selects RX10 yX10_isChanced yX10_isChanced, .instanceMethod yX10_isChanced, .methodLink RX10 297 yX10_isChanced, .fieldLink RX10 65 "NotEndedModel" "house" "[I", .fieldLink RX10 68 "NotEndedModel" "since" "[I", .fieldLink RX10 46 "NotEndedModel" "knows" "[I", .static yX10_has, .methodLink RX10 269 yX10_has, .fieldLink RX10 80 "NotEndedModel" "tells" "[I", .fieldLink RX10 71 "NotEndedModel" "more" "[I", .selects RX10 yX10_layLetters yX10_layLetters, .instanceMethod yX10_layLetters, .methodLink RX10 287 yX10_layLetters, .selects RX10 yX10_worthOf yX10_worthOf, .instanceMethod yX10_worthOf, .methodLink RX10 290 yX10_worthOf] ++ (wsX100 ++ (w_s_isFree10x ++ (w_s_held10x ++ (w_s_chance10x ++ (w_s_has10 ++ (w_s_lay10x ++ (w_s_worthOf10_0))))))))
theorem gw_s_goesBy10x : (w_s_goesBy10x).all goodWord = true := kGc rfl (kGa (by decide +kernel) (kGa gw_wsX100 (kGa gw_s_isFree10x (kGa gw_s_held10x (kGa gw_s_chance10x (kGa gw_s_has10 (kGa gw_s_lay10x gw_s_worthOf10_0)))))))
def w_s_goOn10x : List Cond := .code yX10_goOn cX10_goOn 3 none :: ([.fieldLink RX10 266 "NotEndedModel" "hour" "I", .initialized RX10, .selects RX10 yX10_goesBy yX10_goesBy, .instanceMethod yX10_goesBy, .methodLink RX10 300 yX10_goesBy] ++ (wsX100 ++ (w_s_goesBy10x)))
theorem gw_s_goOn10x : (w_s_goOn10x).all goodWord = true := kGc rfl (kGa (by decide +kernel) (kGa gw_wsX100 gw_s_goesBy10x))
set_option maxHeartbeats 4000000 in
set_option maxRecDepth 100000 in
theorem s_goOn10x (l : Launch) (dC : Nat → ClassId) (dI : Nat → Nat → Nat) (jM : Nat) (th : Int32) (thr : Int32) (xx : Int64) (v5 : Value) (v9 : Value) (v10 : Value) (v11 : Value) (v12 : Value) (v13 : Value) (v14 : Value) (v15 : Value) (v16 : Value) (v17 : Value) (v18 : Value) (m1 : Nat) (m2 : Nat) (m3 : Nat) (m4 : Nat) (m19 : Nat) (m20 : Nat) (m21 : Nat) (m22 : Nat) (m23 : Nat) (m24 : Nat) (m25 : Nat) (m28 : Nat) (m29 : Nat) (m30 : Nat) (m31 : Nat) (m32 : Nat) (m33 : Nat) (m34 : Nat) (m35 : Nat) (m36 : Nat) (m40 : Nat) (m41 : Nat) (m42 : Nat) (m43 : Nat) (m44 : Nat) (m46 : Nat) (m47 : Nat) (m48 : Nat) (m49 : Nat) (m50 : Nat) (mc1 : ClassId) (mc2 : ClassId) (mc3 : ClassId) (mc4 : ClassId) (mc19 : ClassId) (mc20 : ClassId) (mc21 : ClassId) (mc22 : ClassId) (mc23 : ClassId) (mc24 : ClassId) (mc25 : ClassId) (mc28 : ClassId) (mc29 : ClassId) (mc30 : ClassId) (mc31 : ClassId) (mc32 : ClassId) (mc33 : ClassId) (mc34 : ClassId) (mc35 : ClassId) (mc36 : ClassId) (mc40 : ClassId) (mc41 : ClassId) (mc42 : ClassId) (mc43 : ClassId) (mc44 : ClassId) (mc46 : ClassId) (mc47 : ClassId) (mc48 : ClassId) (mc49 : ClassId) (mc50 : ClassId) (mf1 : Nat → Int32) (mf2 : Nat → Int32) (mf3 : Nat → Int32) (mf4 : Nat → Int32) (mf19 : Nat → Int32) (mf20 : Nat → Int32) (mf21 : Nat → Int32) (mf22 : Nat → Int32) (mf23 : Nat → Int32) (mf24 : Nat → Int32) (mf25 : Nat → Int32) (mf28 : Nat → Int32) (mf29 : Nat → Int32) (mf30 : Nat → Int32) (mf31 : Nat → Int32) (mf32 : Nat → Int32) (mf33 : Nat → Int32) (mf34 : Nat → Int32) (mf35 : Nat → Int32) (mf36 : Nat → Int32) (mf40 : Nat → Int32) (mf41 : Nat → Int32) (mf42 : Nat → Int32) (mf43 : Nat → Int32) (mf44 : Nat → Int32) (mf46 : Nat → Int64) (mf47 : Nat → Int32) (mf48 : Nat → Int32) (mf49 : Nat → Int32) (mf50 : Nat → Int32) (ml : Nat) (mkl : Nat) (mku : Nat) (mps : Nat) (mkw : Nat) (ho : Nat) (mkn : Nat) (mka : Nat) (hml : ml ≤ 120) (hmkl : mkl ≤ 6) (hmku : mku ≤ 8) (hmps : mps ≤ 10) (hmkw : mkw ≤ 4) (hho : ho ≤ 48) (hmkn : mkn ≤ 20) (hmka : mka ≤ 6) (ad : Nat → Nat) (bA : Nat) (nA : Nat) (xA : Nat → Int32) (hnA : nA ≤ 8) (bB : Nat) (nB : Nat) (xB : Nat → Int32) (hnB : nB ≤ 8) (bE : Nat) (nE : Nat) (xE : Nat → Int32) (hnE : nE ≤ 8) (bG : Nat) (nG : Nat) (xG : Nat → Int32) (hnG : nG ≤ 8) (gnA : ∀ k : Nat, ∃ v : Nat, v < 128 ∧ xA k = nI v) (gnB : ∀ k : Nat, ∃ v : Nat, v < 128 ∧ xB k = nI v) (gnE : ∀ k : Nat, ∃ v : Nat, v < 128 ∧ xE k = nI v) (gnG : ∀ k : Nat, ∃ v : Nat, v < 128 ∧ xG k = nI v) (hzA : kIx xA nA (nI 0) = nA) (hzB : kIx xB nB (nI 0) = nB) (hzE : kIx xE nE (nI 0) = nE) (hzG : kIx xG nG (nI 0) = nG) (hlB : ∀ c : Nat, c < 256 → kIx xB nB (nI c) < nB → ¬ c = 91 ∧ ¬ (48 ≤ c ∧ c ≤ 57)) (hlG : ∀ c : Nat, c < 256 → kIx xG nG (nI c) < nG → ¬ c = 91 ∧ ¬ (48 ≤ c ∧ c ≤ 57)) (yL : Nat → List kTr) (yU : Nat → List kTr) (hUl : kUn mf2 mf3 0 mkl xA nA xB nB yL) (hUt : kUn mf2 mf3 6 mku xE nE xG nG yU) (pl : Nat) (hpl : pl < mkl) (ph : Nat) (hph : ph ≤ 48) (hph0 : ho ≤ ph) (E : kEn) (S : kRst) (hRE : kRE E mps mkw mf22 mf24 mf25 thr) (hRR : kRp mps S mf28 mf29 mf30 mf31) (hRO : kOk mps S) (hRH : S.2.2.2.2.2 = ho) (hRX : xx = S.2.2.2.2.1) (hEl : E.2.2.2.2.2.2 = yL pl) (hA9 : nA = 3 ∧ xA 0 = 121 ∧ xA 1 = 103 ∧ xA 2 = 120) (hB9 : nB = 8 ∧ ∀ k : Nat, k < 8 → xB k = nI (kSg8 k)) (sz : Nat) : Met l yX10_goOn w_s_goOn10x ({ frames := 60, cells := 0, slots := 0, locals := 3600 }) (kW dC dI [.ref jM, .int (nI (pl)), .int (nI (ph))] [(jM, .inr (10, [.int th, .ref m1, .ref m2, .ref m3, .ref m4, v5, .int (nI (ml)), .int (nI (mkl)), .int (nI (mku)), v9, v10, v11, v12, v13, v14, v15, v16, v17, v18, .ref m19, .ref m20, .ref m21, .ref m22, .ref m23, .ref m24, .ref m25, .int (nI (mps)), .int (nI (mkw)), .ref m28, .ref m29, .ref m30, .ref m31, .ref m32, .ref m33, .ref m34, .ref m35, .ref m36, .int thr, .int (nI (ho)), .long xx, .ref m40, .ref m41, .ref m42, .ref m43, .ref m44, .int (nI (mkn)), .ref m46, .ref m47, .ref m48, .ref m49, .ref m50, .int (nI (mka))])), (m1, .inl (mc1, 120, .inl mf1)), (m2, .inl (mc2, 1680, .inl mf2)), (m3, .inl (mc3, 14, .inl mf3)), (m4, .inl (mc4, 128, .inl mf4)), (m19, .inl (mc19, 10, .inl mf19)), (m20, .inl (mc20, 10, .inl mf20)), (m21, .inl (mc21, 10, .inl mf21)), (m22, .inl (mc22, 10, .inl mf22)), (m23, .inl (mc23, 10, .inl mf23)), (m24, .inl (mc24, 4, .inl mf24)), (m25, .inl (mc25, 10, .inl mf25)), (m28, .inl (mc28, 10, .inl mf28)), (m29, .inl (mc29, 10, .inl mf29)), (m30, .inl (mc30, 10, .inl mf30)), (m31, .inl (mc31, 10, .inl mf31)), (m32, .inl (mc32, 10, .inl mf32)), (m33, .inl (mc33, 10, .inl mf33)), (m34, .inl (mc34, 10, .inl mf34)), (m35, .inl (mc35, 10, .inl mf35)), (m36, .inl (mc36, 10, .inl mf36)), (m40, .inl (mc40, 20, .inl mf40)), (m41, .inl (mc41, 20, .inl mf41)), (m42, .inl (mc42, 20, .inl mf42)), (m43, .inl (mc43, 20, .inl mf43)), (m44, .inl (mc44, 20, .inl mf44)), (m46, .inl (mc46, 14, .inr (.inl mf46))), (m47, .inl (mc47, 6, .inl mf47)), (m48, .inl (mc48, 6, .inl mf48)), (m49, .inl (mc49, 6, .inl mf49)), (m50, .inl (mc50, 6, .inl mf50))] [(mc1, .byte), (mc2, .byte), (mc3, .int), (mc4, .int), (mc19, .int), (mc20, .int), (mc21, .int), (mc22, .int), (mc23, .int), (mc24, .int), (mc25, .boolean), (mc28, .int), (mc29, .int), (mc30, .int), (mc31, .int), (mc32, .int), (mc33, .int), (mc34, .int), (mc35, .int), (mc36, .int), (mc40, .int), (mc41, .int), (mc42, .int), (mc43, .int), (mc44, .int), (mc46, .long), (mc47, .int), (mc48, .int), (mc49, .int), (mc50, .int)] (kMx ad bA nA xA bB nB xB bE nE xE bG nG xG (va_A [(jM, .inr (10, [.int th, .ref m1, .ref m2, .ref m3, .ref m4, v5, .int (nI (ml)), .int (nI (mkl)), .int (nI (mku)), v9, v10, v11, v12, v13, v14, v15, v16, v17, v18, .ref m19, .ref m20, .ref m21, .ref m22, .ref m23, .ref m24, .ref m25, .int (nI (mps)), .int (nI (mkw)), .ref m28, .ref m29, .ref m30, .ref m31, .ref m32, .ref m33, .ref m34, .ref m35, .ref m36, .int thr, .int (nI (ho)), .long xx, .ref m40, .ref m41, .ref m42, .ref m43, .ref m44, .int (nI (mkn)), .ref m46, .ref m47, .ref m48, .ref m49, .ref m50, .int (nI (mka))])), (m1, .inl (mc1, 120, .inl mf1)), (m2, .inl (mc2, 1680, .inl mf2)), (m3, .inl (mc3, 14, .inl mf3)), (m4, .inl (mc4, 128, .inl mf4)), (m19, .inl (mc19, 10, .inl mf19)), (m20, .inl (mc20, 10, .inl mf20)), (m21, .inl (mc21, 10, .inl mf21)), (m22, .inl (mc22, 10, .inl mf22)), (m23, .inl (mc23, 10, .inl mf23)), (m24, .inl (mc24, 4, .inl mf24)), (m25, .inl (mc25, 10, .inl mf25)), (m28, .inl (mc28, 10, .inl mf28)), (m29, .inl (mc29, 10, .inl mf29)), (m30, .inl (mc30, 10, .inl mf30)), (m31, .inl (mc31, 10, .inl mf31)), (m32, .inl (mc32, 10, .inl mf32)), (m33, .inl (mc33, 10, .inl mf33)), (m34, .inl (mc34, 10, .inl mf34)), (m35, .inl (mc35, 10, .inl mf35)), (m36, .inl (mc36, 10, .inl mf36)), (m40, .inl (mc40, 20, .inl mf40)), (m41, .inl (mc41, 20, .inl mf41)), (m42, .inl (mc42, 20, .inl mf42)), (m43, .inl (mc43, 20, .inl mf43)), (m44, .inl (mc44, 20, .inl mf44)), (m46, .inl (mc46, 14, .inr (.inl mf46))), (m47, .inl (mc47, 6, .inl mf47)), (m48, .inl (mc48, 6, .inl mf48)), (m49, .inl (mc49, 6, .inl mf49)), (m50, .inl (mc50, 6, .inl mf50))] sz)) sz) (va_Qv (fun (u : (Nat → Int32) × (Nat → Int32) × (Nat → Int32) × (Nat → Int32) × (Nat → Int32) × (Nat → Int32) × (Nat → Int32) × (Nat → Int32) × (Nat → Int32) × Nat × Int64 × Value × Value × Value × Value × Value × Value × Value × Value × Value × Value × Value) => match u with | (S4, S28, S30, S31, S32, S33, S34, S35, S36, Ho, Xx, W5, W9, W10, W11, W12, W13, W14, W15, W16, W17, W18) => (kRp mps (kIt E (ph - ho) S) S28 mf29 S30 S31 ∧ Xx = (kIt E (ph - ho) S).2.2.2.2.1 ∧ Ho = ph)) (fun (u : (Nat → Int32) × (Nat → Int32) × (Nat → Int32) × (Nat → Int32) × (Nat → Int32) × (Nat → Int32) × (Nat → Int32) × (Nat → Int32) × (Nat → Int32) × Nat × Int64 × Value × Value × Value × Value × Value × Value × Value × Value × Value × Value × Value) => match u with | (S4, S28, S30, S31, S32, S33, S34, S35, S36, Ho, Xx, W5, W9, W10, W11, W12, W13, W14, W15, W16, W17, W18) => fun t : State => kB dC dI [(jM, .inr (10, [.int th, .ref m1, .ref m2, .ref m3, .ref m4, W5, .int (nI (ml)), .int (nI (mkl)), .int (nI (mku)), W9, W10, W11, W12, W13, W14, W15, W16, W17, W18, .ref m19, .ref m20, .ref m21, .ref m22, .ref m23, .ref m24, .ref m25, .int (nI (mps)), .int (nI (mkw)), .ref m28, .ref m29, .ref m30, .ref m31, .ref m32, .ref m33, .ref m34, .ref m35, .ref m36, .int thr, .int (nI (Ho)), .long Xx, .ref m40, .ref m41, .ref m42, .ref m43, .ref m44, .int (nI (mkn)), .ref m46, .ref m47, .ref m48, .ref m49, .ref m50, .int (nI (mka))])), (m1, .inl (mc1, 120, .inl mf1)), (m2, .inl (mc2, 1680, .inl mf2)), (m3, .inl (mc3, 14, .inl mf3)), (m4, .inl (mc4, 128, .inl S4)), (m19, .inl (mc19, 10, .inl mf19)), (m20, .inl (mc20, 10, .inl mf20)), (m21, .inl (mc21, 10, .inl mf21)), (m22, .inl (mc22, 10, .inl mf22)), (m23, .inl (mc23, 10, .inl mf23)), (m24, .inl (mc24, 4, .inl mf24)), (m25, .inl (mc25, 10, .inl mf25)), (m28, .inl (mc28, 10, .inl S28)), (m29, .inl (mc29, 10, .inl mf29)), (m30, .inl (mc30, 10, .inl S30)), (m31, .inl (mc31, 10, .inl S31)), (m32, .inl (mc32, 10, .inl S32)), (m33, .inl (mc33, 10, .inl S33)), (m34, .inl (mc34, 10, .inl S34)), (m35, .inl (mc35, 10, .inl S35)), (m36, .inl (mc36, 10, .inl S36)), (m40, .inl (mc40, 20, .inl mf40)), (m41, .inl (mc41, 20, .inl mf41)), (m42, .inl (mc42, 20, .inl mf42)), (m43, .inl (mc43, 20, .inl mf43)), (m44, .inl (mc44, 20, .inl mf44)), (m46, .inl (mc46, 14, .inr (.inl mf46))), (m47, .inl (mc47, 6, .inl mf47)), (m48, .inl (mc48, 6, .inl mf48)), (m49, .inl (mc49, 6, .inl mf49)), (m50, .inl (mc50, 6, .inl mf50))] [(mc1, .byte), (mc2, .byte), (mc3, .int), (mc4, .int), (mc19, .int), (mc20, .int), (mc21, .int), (mc22, .int), (mc23, .int), (mc24, .int), (mc25, .boolean), (mc28, .int), (mc29, .int), (mc30, .int), (mc31, .int), (mc32, .int), (mc33, .int), (mc34, .int), (mc35, .int), (mc36, .int), (mc40, .int), (mc41, .int), (mc42, .int), (mc43, .int), (mc44, .int), (mc46, .long), (mc47, .int), (mc48, .int), (mc49, .int), (mc50, .int)] (va_A [(jM, .inr (10, [.int th, .ref m1, .ref m2, .ref m3, .ref m4, v5, .int (nI (ml)), .int (nI (mkl)), .int (nI (mku)), v9, v10, v11, v12, v13, v14, v15, v16, v17, v18, .ref m19, .ref m20, .ref m21, .ref m22, .ref m23, .ref m24, .ref m25, .int (nI (mps)), .int (nI (mkw)), .ref m28, .ref m29, .ref m30, .ref m31, .ref m32, .ref m33, .ref m34, .ref m35, .ref m36, .int thr, .int (nI (ho)), .long xx, .ref m40, .ref m41, .ref m42, .ref m43, .ref m44, .int (nI (mkn)), .ref m46, .ref m47, .ref m48, .ref m49, .ref m50, .int (nI (mka))])), (m1, .inl (mc1, 120, .inl mf1)), (m2, .inl (mc2, 1680, .inl mf2)), (m3, .inl (mc3, 14, .inl mf3)), (m4, .inl (mc4, 128, .inl mf4)), (m19, .inl (mc19, 10, .inl mf19)), (m20, .inl (mc20, 10, .inl mf20)), (m21, .inl (mc21, 10, .inl mf21)), (m22, .inl (mc22, 10, .inl mf22)), (m23, .inl (mc23, 10, .inl mf23)), (m24, .inl (mc24, 4, .inl mf24)), (m25, .inl (mc25, 10, .inl mf25)), (m28, .inl (mc28, 10, .inl mf28)), (m29, .inl (mc29, 10, .inl mf29)), (m30, .inl (mc30, 10, .inl mf30)), (m31, .inl (mc31, 10, .inl mf31)), (m32, .inl (mc32, 10, .inl mf32)), (m33, .inl (mc33, 10, .inl mf33)), (m34, .inl (mc34, 10, .inl mf34)), (m35, .inl (mc35, 10, .inl mf35)), (m36, .inl (mc36, 10, .inl mf36)), (m40, .inl (mc40, 20, .inl mf40)), (m41, .inl (mc41, 20, .inl mf41)), (m42, .inl (mc42, 20, .inl mf42)), (m43, .inl (mc43, 20, .inl mf43)), (m44, .inl (mc44, 20, .inl mf44)), (m46, .inl (mc46, 14, .inr (.inl mf46))), (m47, .inl (mc47, 6, .inl mf47)), (m48, .inl (mc48, 6, .inl mf48)), (m49, .inl (mc49, 6, .inl mf49)), (m50, .inl (mc50, 6, .inl mf50))] sz) t) (va_A [(jM, .inr (10, [.int th, .ref m1, .ref m2, .ref m3, .ref m4, v5, .int (nI (ml)), .int (nI (mkl)), .int (nI (mku)), v9, v10, v11, v12, v13, v14, v15, v16, v17, v18, .ref m19, .ref m20, .ref m21, .ref m22, .ref m23, .ref m24, .ref m25, .int (nI (mps)), .int (nI (mkw)), .ref m28, .ref m29, .ref m30, .ref m31, .ref m32, .ref m33, .ref m34, .ref m35, .ref m36, .int thr, .int (nI (ho)), .long xx, .ref m40, .ref m41, .ref m42, .ref m43, .ref m44, .int (nI (mkn)), .ref m46, .ref m47, .ref m48, .ref m49, .ref m50, .int (nI (mka))])), (m1, .inl (mc1, 120, .inl mf1)), (m2, .inl (mc2, 1680, .inl mf2)), (m3, .inl (mc3, 14, .inl mf3)), (m4, .inl (mc4, 128, .inl mf4)), (m19, .inl (mc19, 10, .inl mf19)), (m20, .inl (mc20, 10, .inl mf20)), (m21, .inl (mc21, 10, .inl mf21)), (m22, .inl (mc22, 10, .inl mf22)), (m23, .inl (mc23, 10, .inl mf23)), (m24, .inl (mc24, 4, .inl mf24)), (m25, .inl (mc25, 10, .inl mf25)), (m28, .inl (mc28, 10, .inl mf28)), (m29, .inl (mc29, 10, .inl mf29)), (m30, .inl (mc30, 10, .inl mf30)), (m31, .inl (mc31, 10, .inl mf31)), (m32, .inl (mc32, 10, .inl mf32)), (m33, .inl (mc33, 10, .inl mf33)), (m34, .inl (mc34, 10, .inl mf34)), (m35, .inl (mc35, 10, .inl mf35)), (m36, .inl (mc36, 10, .inl mf36)), (m40, .inl (mc40, 20, .inl mf40)), (m41, .inl (mc41, 20, .inl mf41)), (m42, .inl (mc42, 20, .inl mf42)), (m43, .inl (mc43, 20, .inl mf43)), (m44, .inl (mc44, 20, .inl mf44)), (m46, .inl (mc46, 14, .inr (.inl mf46))), (m47, .inl (mc47, 6, .inl mf47)), (m48, .inl (mc48, 6, .inl mf48)), (m49, .inl (mc49, 6, .inl mf49)), (m50, .inl (mc50, 6, .inl mf50))] sz)) 0 0 (va_A [(jM, .inr (10, [.int th, .ref m1, .ref m2, .ref m3, .ref m4, v5, .int (nI (ml)), .int (nI (mkl)), .int (nI (mku)), v9, v10, v11, v12, v13, v14, v15, v16, v17, v18, .ref m19, .ref m20, .ref m21, .ref m22, .ref m23, .ref m24, .ref m25, .int (nI (mps)), .int (nI (mkw)), .ref m28, .ref m29, .ref m30, .ref m31, .ref m32, .ref m33, .ref m34, .ref m35, .ref m36, .int thr, .int (nI (ho)), .long xx, .ref m40, .ref m41, .ref m42, .ref m43, .ref m44, .int (nI (mkn)), .ref m46, .ref m47, .ref m48, .ref m49, .ref m50, .int (nI (mka))])), (m1, .inl (mc1, 120, .inl mf1)), (m2, .inl (mc2, 1680, .inl mf2)), (m3, .inl (mc3, 14, .inl mf3)), (m4, .inl (mc4, 128, .inl mf4)), (m19, .inl (mc19, 10, .inl mf19)), (m20, .inl (mc20, 10, .inl mf20)), (m21, .inl (mc21, 10, .inl mf21)), (m22, .inl (mc22, 10, .inl mf22)), (m23, .inl (mc23, 10, .inl mf23)), (m24, .inl (mc24, 4, .inl mf24)), (m25, .inl (mc25, 10, .inl mf25)), (m28, .inl (mc28, 10, .inl mf28)), (m29, .inl (mc29, 10, .inl mf29)), (m30, .inl (mc30, 10, .inl mf30)), (m31, .inl (mc31, 10, .inl mf31)), (m32, .inl (mc32, 10, .inl mf32)), (m33, .inl (mc33, 10, .inl mf33)), (m34, .inl (mc34, 10, .inl mf34)), (m35, .inl (mc35, 10, .inl mf35)), (m36, .inl (mc36, 10, .inl mf36)), (m40, .inl (mc40, 20, .inl mf40)), (m41, .inl (mc41, 20, .inl mf41)), (m42, .inl (mc42, 20, .inl mf42)), (m43, .inl (mc43, 20, .inl mf43)), (m44, .inl (mc44, 20, .inl mf44)), (m46, .inl (mc46, 14, .inr (.inl mf46))), (m47, .inl (mc47, 6, .inl mf47)), (m48, .inl (mc48, 6, .inl mf48)), (m49, .inl (mc49, 6, .inl mf49)), (m50, .inl (mc50, 6, .inl mf50))] sz) := by
  sorry

def w_s_runOf10x : List Cond := .code yX10_runOf cX10_runOf 6 none :: ([.initialized RX10, .selects RX10 yX10_begin yX10_begin, .instanceMethod yX10_begin, .methodLink RX10 303 yX10_begin, .selects RX10 yX10_goOn yX10_goOn, .instanceMethod yX10_goOn, .methodLink RX10 307 yX10_goOn] ++ (w_s_begin10x ++ (w_s_goOn10x)))
theorem gw_s_runOf10x : (w_s_runOf10x).all goodWord = true := kGc rfl (kGa (by decide +kernel) (kGa gw_s_begin10x gw_s_goOn10x))
theorem hd_X10_runOf : yX10_runOf.cls ≠ "java/lang/invoke/MethodHandle" ∧ yX10_runOf.cls ≠ "java/lang/invoke/VarHandle" ∧ (parseMethodDescriptor yX10_runOf.desc).map (fun d => d.parameters.length) = some 4 := by decide +kernel
set_option maxHeartbeats 4000000 in
set_option maxRecDepth 100000 in
theorem s_runOf10x (l : Launch) (dC : Nat → ClassId) (dI : Nat → Nat → Nat) (jM : Nat) (th : Int32) (thr : Int32) (xx : Int64) (v5 : Value) (v9 : Value) (v10 : Value) (v11 : Value) (v12 : Value) (v13 : Value) (v14 : Value) (v15 : Value) (v16 : Value) (v17 : Value) (v18 : Value) (m1 : Nat) (m2 : Nat) (m3 : Nat) (m4 : Nat) (m19 : Nat) (m20 : Nat) (m21 : Nat) (m22 : Nat) (m23 : Nat) (m24 : Nat) (m25 : Nat) (m28 : Nat) (m29 : Nat) (m30 : Nat) (m31 : Nat) (m32 : Nat) (m33 : Nat) (m34 : Nat) (m35 : Nat) (m36 : Nat) (m40 : Nat) (m41 : Nat) (m42 : Nat) (m43 : Nat) (m44 : Nat) (m46 : Nat) (m47 : Nat) (m48 : Nat) (m49 : Nat) (m50 : Nat) (mc1 : ClassId) (mc2 : ClassId) (mc3 : ClassId) (mc4 : ClassId) (mc19 : ClassId) (mc20 : ClassId) (mc21 : ClassId) (mc22 : ClassId) (mc23 : ClassId) (mc24 : ClassId) (mc25 : ClassId) (mc28 : ClassId) (mc29 : ClassId) (mc30 : ClassId) (mc31 : ClassId) (mc32 : ClassId) (mc33 : ClassId) (mc34 : ClassId) (mc35 : ClassId) (mc36 : ClassId) (mc40 : ClassId) (mc41 : ClassId) (mc42 : ClassId) (mc43 : ClassId) (mc44 : ClassId) (mc46 : ClassId) (mc47 : ClassId) (mc48 : ClassId) (mc49 : ClassId) (mc50 : ClassId) (mf1 : Nat → Int32) (mf2 : Nat → Int32) (mf3 : Nat → Int32) (mf4 : Nat → Int32) (mf19 : Nat → Int32) (mf20 : Nat → Int32) (mf21 : Nat → Int32) (mf22 : Nat → Int32) (mf23 : Nat → Int32) (mf24 : Nat → Int32) (mf25 : Nat → Int32) (mf28 : Nat → Int32) (mf29 : Nat → Int32) (mf30 : Nat → Int32) (mf31 : Nat → Int32) (mf32 : Nat → Int32) (mf33 : Nat → Int32) (mf34 : Nat → Int32) (mf35 : Nat → Int32) (mf36 : Nat → Int32) (mf40 : Nat → Int32) (mf41 : Nat → Int32) (mf42 : Nat → Int32) (mf43 : Nat → Int32) (mf44 : Nat → Int32) (mf46 : Nat → Int64) (mf47 : Nat → Int32) (mf48 : Nat → Int32) (mf49 : Nat → Int32) (mf50 : Nat → Int32) (ml : Nat) (mkl : Nat) (mku : Nat) (mps : Nat) (mkw : Nat) (ho : Nat) (mkn : Nat) (mka : Nat) (hml : ml ≤ 120) (hmkl : mkl ≤ 6) (hmku : mku ≤ 8) (hmps : mps ≤ 10) (hmkw : mkw ≤ 4) (hho : ho ≤ 48) (hmkn : mkn ≤ 20) (hmka : mka ≤ 6) (ad : Nat → Nat) (bA : Nat) (nA : Nat) (xA : Nat → Int32) (hnA : nA ≤ 8) (bB : Nat) (nB : Nat) (xB : Nat → Int32) (hnB : nB ≤ 8) (bE : Nat) (nE : Nat) (xE : Nat → Int32) (hnE : nE ≤ 8) (bG : Nat) (nG : Nat) (xG : Nat → Int32) (hnG : nG ≤ 8) (gnA : ∀ k : Nat, ∃ v : Nat, v < 128 ∧ xA k = nI v) (gnB : ∀ k : Nat, ∃ v : Nat, v < 128 ∧ xB k = nI v) (gnE : ∀ k : Nat, ∃ v : Nat, v < 128 ∧ xE k = nI v) (gnG : ∀ k : Nat, ∃ v : Nat, v < 128 ∧ xG k = nI v) (hzA : kIx xA nA (nI 0) = nA) (hzB : kIx xB nB (nI 0) = nB) (hzE : kIx xE nE (nI 0) = nE) (hzG : kIx xG nG (nI 0) = nG) (hlB : ∀ c : Nat, c < 256 → kIx xB nB (nI c) < nB → ¬ c = 91 ∧ ¬ (48 ≤ c ∧ c ≤ 57)) (hlG : ∀ c : Nat, c < 256 → kIx xG nG (nI c) < nG → ¬ c = 91 ∧ ¬ (48 ≤ c ∧ c ≤ 57)) (yL : Nat → List kTr) (yU : Nat → List kTr) (hUl : kUn mf2 mf3 0 mkl xA nA xB nB yL) (hUt : kUn mf2 mf3 6 mku xE nE xG nG yU) (pl : Nat) (hpl : pl < mkl) (p1 : Int64) (ph : Nat) (hph : ph ≤ 48) (p3 : Int32) (E : kEn) (S : kRst) (hREw : kRE E mps mkw mf22 mf24 mf25 p3) (hT0 : kRp mps S mf19 mf20 mf21 (fun _ => -1)) (hRO : kOk mps S) (hTx : p1 = S.2.2.2.2.1) (hTh : S.2.2.2.2.2 = 0) (hEl : E.2.2.2.2.2.2 = yL pl) (hA9 : nA = 3 ∧ xA 0 = 121 ∧ xA 1 = 103 ∧ xA 2 = 120) (hB9 : nB = 8 ∧ ∀ k : Nat, k < 8 → xB k = nI (kSg8 k)) (sz : Nat) : Met l yX10_runOf w_s_runOf10x ({ frames := 61, cells := 0, slots := 0, locals := 3660 }) (kW dC dI [.ref jM, .int (nI (pl)), .long p1, .int (nI (ph)), .int p3] [(jM, .inr (10, [.int th, .ref m1, .ref m2, .ref m3, .ref m4, v5, .int (nI (ml)), .int (nI (mkl)), .int (nI (mku)), v9, v10, v11, v12, v13, v14, v15, v16, v17, v18, .ref m19, .ref m20, .ref m21, .ref m22, .ref m23, .ref m24, .ref m25, .int (nI (mps)), .int (nI (mkw)), .ref m28, .ref m29, .ref m30, .ref m31, .ref m32, .ref m33, .ref m34, .ref m35, .ref m36, .int thr, .int (nI (ho)), .long xx, .ref m40, .ref m41, .ref m42, .ref m43, .ref m44, .int (nI (mkn)), .ref m46, .ref m47, .ref m48, .ref m49, .ref m50, .int (nI (mka))])), (m1, .inl (mc1, 120, .inl mf1)), (m2, .inl (mc2, 1680, .inl mf2)), (m3, .inl (mc3, 14, .inl mf3)), (m4, .inl (mc4, 128, .inl mf4)), (m19, .inl (mc19, 10, .inl mf19)), (m20, .inl (mc20, 10, .inl mf20)), (m21, .inl (mc21, 10, .inl mf21)), (m22, .inl (mc22, 10, .inl mf22)), (m23, .inl (mc23, 10, .inl mf23)), (m24, .inl (mc24, 4, .inl mf24)), (m25, .inl (mc25, 10, .inl mf25)), (m28, .inl (mc28, 10, .inl mf28)), (m29, .inl (mc29, 10, .inl mf29)), (m30, .inl (mc30, 10, .inl mf30)), (m31, .inl (mc31, 10, .inl mf31)), (m32, .inl (mc32, 10, .inl mf32)), (m33, .inl (mc33, 10, .inl mf33)), (m34, .inl (mc34, 10, .inl mf34)), (m35, .inl (mc35, 10, .inl mf35)), (m36, .inl (mc36, 10, .inl mf36)), (m40, .inl (mc40, 20, .inl mf40)), (m41, .inl (mc41, 20, .inl mf41)), (m42, .inl (mc42, 20, .inl mf42)), (m43, .inl (mc43, 20, .inl mf43)), (m44, .inl (mc44, 20, .inl mf44)), (m46, .inl (mc46, 14, .inr (.inl mf46))), (m47, .inl (mc47, 6, .inl mf47)), (m48, .inl (mc48, 6, .inl mf48)), (m49, .inl (mc49, 6, .inl mf49)), (m50, .inl (mc50, 6, .inl mf50))] [(mc1, .byte), (mc2, .byte), (mc3, .int), (mc4, .int), (mc19, .int), (mc20, .int), (mc21, .int), (mc22, .int), (mc23, .int), (mc24, .int), (mc25, .boolean), (mc28, .int), (mc29, .int), (mc30, .int), (mc31, .int), (mc32, .int), (mc33, .int), (mc34, .int), (mc35, .int), (mc36, .int), (mc40, .int), (mc41, .int), (mc42, .int), (mc43, .int), (mc44, .int), (mc46, .long), (mc47, .int), (mc48, .int), (mc49, .int), (mc50, .int)] (kMx ad bA nA xA bB nB xB bE nE xE bG nG xG (va_A [(jM, .inr (10, [.int th, .ref m1, .ref m2, .ref m3, .ref m4, v5, .int (nI (ml)), .int (nI (mkl)), .int (nI (mku)), v9, v10, v11, v12, v13, v14, v15, v16, v17, v18, .ref m19, .ref m20, .ref m21, .ref m22, .ref m23, .ref m24, .ref m25, .int (nI (mps)), .int (nI (mkw)), .ref m28, .ref m29, .ref m30, .ref m31, .ref m32, .ref m33, .ref m34, .ref m35, .ref m36, .int thr, .int (nI (ho)), .long xx, .ref m40, .ref m41, .ref m42, .ref m43, .ref m44, .int (nI (mkn)), .ref m46, .ref m47, .ref m48, .ref m49, .ref m50, .int (nI (mka))])), (m1, .inl (mc1, 120, .inl mf1)), (m2, .inl (mc2, 1680, .inl mf2)), (m3, .inl (mc3, 14, .inl mf3)), (m4, .inl (mc4, 128, .inl mf4)), (m19, .inl (mc19, 10, .inl mf19)), (m20, .inl (mc20, 10, .inl mf20)), (m21, .inl (mc21, 10, .inl mf21)), (m22, .inl (mc22, 10, .inl mf22)), (m23, .inl (mc23, 10, .inl mf23)), (m24, .inl (mc24, 4, .inl mf24)), (m25, .inl (mc25, 10, .inl mf25)), (m28, .inl (mc28, 10, .inl mf28)), (m29, .inl (mc29, 10, .inl mf29)), (m30, .inl (mc30, 10, .inl mf30)), (m31, .inl (mc31, 10, .inl mf31)), (m32, .inl (mc32, 10, .inl mf32)), (m33, .inl (mc33, 10, .inl mf33)), (m34, .inl (mc34, 10, .inl mf34)), (m35, .inl (mc35, 10, .inl mf35)), (m36, .inl (mc36, 10, .inl mf36)), (m40, .inl (mc40, 20, .inl mf40)), (m41, .inl (mc41, 20, .inl mf41)), (m42, .inl (mc42, 20, .inl mf42)), (m43, .inl (mc43, 20, .inl mf43)), (m44, .inl (mc44, 20, .inl mf44)), (m46, .inl (mc46, 14, .inr (.inl mf46))), (m47, .inl (mc47, 6, .inl mf47)), (m48, .inl (mc48, 6, .inl mf48)), (m49, .inl (mc49, 6, .inl mf49)), (m50, .inl (mc50, 6, .inl mf50))] sz)) sz) (va_Qv (fun (u : (Nat → Int32) × (Nat → Int32) × (Nat → Int32) × (Nat → Int32) × (Nat → Int32) × (Nat → Int32) × (Nat → Int32) × (Nat → Int32) × (Nat → Int32) × (Nat → Int32) × Int32 × Nat × Int64 × Value × Value × Value × Value × Value × Value × Value × Value × Value × Value × Value) => match u with | (S4, S28, S29, S30, S31, S32, S33, S34, S35, S36, Th, Ho, Xx, W5, W9, W10, W11, W12, W13, W14, W15, W16, W17, W18) => (kRp mps (kIt E ph S) S28 S29 S30 S31 ∧ Ho ≤ 48 ∧ Ho = ph ∧ Th = p3)) (fun (u : (Nat → Int32) × (Nat → Int32) × (Nat → Int32) × (Nat → Int32) × (Nat → Int32) × (Nat → Int32) × (Nat → Int32) × (Nat → Int32) × (Nat → Int32) × (Nat → Int32) × Int32 × Nat × Int64 × Value × Value × Value × Value × Value × Value × Value × Value × Value × Value × Value) => match u with | (S4, S28, S29, S30, S31, S32, S33, S34, S35, S36, Th, Ho, Xx, W5, W9, W10, W11, W12, W13, W14, W15, W16, W17, W18) => fun t : State => kB dC dI [(jM, .inr (10, [.int th, .ref m1, .ref m2, .ref m3, .ref m4, W5, .int (nI (ml)), .int (nI (mkl)), .int (nI (mku)), W9, W10, W11, W12, W13, W14, W15, W16, W17, W18, .ref m19, .ref m20, .ref m21, .ref m22, .ref m23, .ref m24, .ref m25, .int (nI (mps)), .int (nI (mkw)), .ref m28, .ref m29, .ref m30, .ref m31, .ref m32, .ref m33, .ref m34, .ref m35, .ref m36, .int Th, .int (nI (Ho)), .long Xx, .ref m40, .ref m41, .ref m42, .ref m43, .ref m44, .int (nI (mkn)), .ref m46, .ref m47, .ref m48, .ref m49, .ref m50, .int (nI (mka))])), (m1, .inl (mc1, 120, .inl mf1)), (m2, .inl (mc2, 1680, .inl mf2)), (m3, .inl (mc3, 14, .inl mf3)), (m4, .inl (mc4, 128, .inl S4)), (m19, .inl (mc19, 10, .inl mf19)), (m20, .inl (mc20, 10, .inl mf20)), (m21, .inl (mc21, 10, .inl mf21)), (m22, .inl (mc22, 10, .inl mf22)), (m23, .inl (mc23, 10, .inl mf23)), (m24, .inl (mc24, 4, .inl mf24)), (m25, .inl (mc25, 10, .inl mf25)), (m28, .inl (mc28, 10, .inl S28)), (m29, .inl (mc29, 10, .inl S29)), (m30, .inl (mc30, 10, .inl S30)), (m31, .inl (mc31, 10, .inl S31)), (m32, .inl (mc32, 10, .inl S32)), (m33, .inl (mc33, 10, .inl S33)), (m34, .inl (mc34, 10, .inl S34)), (m35, .inl (mc35, 10, .inl S35)), (m36, .inl (mc36, 10, .inl S36)), (m40, .inl (mc40, 20, .inl mf40)), (m41, .inl (mc41, 20, .inl mf41)), (m42, .inl (mc42, 20, .inl mf42)), (m43, .inl (mc43, 20, .inl mf43)), (m44, .inl (mc44, 20, .inl mf44)), (m46, .inl (mc46, 14, .inr (.inl mf46))), (m47, .inl (mc47, 6, .inl mf47)), (m48, .inl (mc48, 6, .inl mf48)), (m49, .inl (mc49, 6, .inl mf49)), (m50, .inl (mc50, 6, .inl mf50))] [(mc1, .byte), (mc2, .byte), (mc3, .int), (mc4, .int), (mc19, .int), (mc20, .int), (mc21, .int), (mc22, .int), (mc23, .int), (mc24, .int), (mc25, .boolean), (mc28, .int), (mc29, .int), (mc30, .int), (mc31, .int), (mc32, .int), (mc33, .int), (mc34, .int), (mc35, .int), (mc36, .int), (mc40, .int), (mc41, .int), (mc42, .int), (mc43, .int), (mc44, .int), (mc46, .long), (mc47, .int), (mc48, .int), (mc49, .int), (mc50, .int)] (va_A [(jM, .inr (10, [.int th, .ref m1, .ref m2, .ref m3, .ref m4, v5, .int (nI (ml)), .int (nI (mkl)), .int (nI (mku)), v9, v10, v11, v12, v13, v14, v15, v16, v17, v18, .ref m19, .ref m20, .ref m21, .ref m22, .ref m23, .ref m24, .ref m25, .int (nI (mps)), .int (nI (mkw)), .ref m28, .ref m29, .ref m30, .ref m31, .ref m32, .ref m33, .ref m34, .ref m35, .ref m36, .int thr, .int (nI (ho)), .long xx, .ref m40, .ref m41, .ref m42, .ref m43, .ref m44, .int (nI (mkn)), .ref m46, .ref m47, .ref m48, .ref m49, .ref m50, .int (nI (mka))])), (m1, .inl (mc1, 120, .inl mf1)), (m2, .inl (mc2, 1680, .inl mf2)), (m3, .inl (mc3, 14, .inl mf3)), (m4, .inl (mc4, 128, .inl mf4)), (m19, .inl (mc19, 10, .inl mf19)), (m20, .inl (mc20, 10, .inl mf20)), (m21, .inl (mc21, 10, .inl mf21)), (m22, .inl (mc22, 10, .inl mf22)), (m23, .inl (mc23, 10, .inl mf23)), (m24, .inl (mc24, 4, .inl mf24)), (m25, .inl (mc25, 10, .inl mf25)), (m28, .inl (mc28, 10, .inl mf28)), (m29, .inl (mc29, 10, .inl mf29)), (m30, .inl (mc30, 10, .inl mf30)), (m31, .inl (mc31, 10, .inl mf31)), (m32, .inl (mc32, 10, .inl mf32)), (m33, .inl (mc33, 10, .inl mf33)), (m34, .inl (mc34, 10, .inl mf34)), (m35, .inl (mc35, 10, .inl mf35)), (m36, .inl (mc36, 10, .inl mf36)), (m40, .inl (mc40, 20, .inl mf40)), (m41, .inl (mc41, 20, .inl mf41)), (m42, .inl (mc42, 20, .inl mf42)), (m43, .inl (mc43, 20, .inl mf43)), (m44, .inl (mc44, 20, .inl mf44)), (m46, .inl (mc46, 14, .inr (.inl mf46))), (m47, .inl (mc47, 6, .inl mf47)), (m48, .inl (mc48, 6, .inl mf48)), (m49, .inl (mc49, 6, .inl mf49)), (m50, .inl (mc50, 6, .inl mf50))] sz) t) (va_A [(jM, .inr (10, [.int th, .ref m1, .ref m2, .ref m3, .ref m4, v5, .int (nI (ml)), .int (nI (mkl)), .int (nI (mku)), v9, v10, v11, v12, v13, v14, v15, v16, v17, v18, .ref m19, .ref m20, .ref m21, .ref m22, .ref m23, .ref m24, .ref m25, .int (nI (mps)), .int (nI (mkw)), .ref m28, .ref m29, .ref m30, .ref m31, .ref m32, .ref m33, .ref m34, .ref m35, .ref m36, .int thr, .int (nI (ho)), .long xx, .ref m40, .ref m41, .ref m42, .ref m43, .ref m44, .int (nI (mkn)), .ref m46, .ref m47, .ref m48, .ref m49, .ref m50, .int (nI (mka))])), (m1, .inl (mc1, 120, .inl mf1)), (m2, .inl (mc2, 1680, .inl mf2)), (m3, .inl (mc3, 14, .inl mf3)), (m4, .inl (mc4, 128, .inl mf4)), (m19, .inl (mc19, 10, .inl mf19)), (m20, .inl (mc20, 10, .inl mf20)), (m21, .inl (mc21, 10, .inl mf21)), (m22, .inl (mc22, 10, .inl mf22)), (m23, .inl (mc23, 10, .inl mf23)), (m24, .inl (mc24, 4, .inl mf24)), (m25, .inl (mc25, 10, .inl mf25)), (m28, .inl (mc28, 10, .inl mf28)), (m29, .inl (mc29, 10, .inl mf29)), (m30, .inl (mc30, 10, .inl mf30)), (m31, .inl (mc31, 10, .inl mf31)), (m32, .inl (mc32, 10, .inl mf32)), (m33, .inl (mc33, 10, .inl mf33)), (m34, .inl (mc34, 10, .inl mf34)), (m35, .inl (mc35, 10, .inl mf35)), (m36, .inl (mc36, 10, .inl mf36)), (m40, .inl (mc40, 20, .inl mf40)), (m41, .inl (mc41, 20, .inl mf41)), (m42, .inl (mc42, 20, .inl mf42)), (m43, .inl (mc43, 20, .inl mf43)), (m44, .inl (mc44, 20, .inl mf44)), (m46, .inl (mc46, 14, .inr (.inl mf46))), (m47, .inl (mc47, 6, .inl mf47)), (m48, .inl (mc48, 6, .inl mf48)), (m49, .inl (mc49, 6, .inl mf49)), (m50, .inl (mc50, 6, .inl mf50))] sz)) 0 0 (va_A [(jM, .inr (10, [.int th, .ref m1, .ref m2, .ref m3, .ref m4, v5, .int (nI (ml)), .int (nI (mkl)), .int (nI (mku)), v9, v10, v11, v12, v13, v14, v15, v16, v17, v18, .ref m19, .ref m20, .ref m21, .ref m22, .ref m23, .ref m24, .ref m25, .int (nI (mps)), .int (nI (mkw)), .ref m28, .ref m29, .ref m30, .ref m31, .ref m32, .ref m33, .ref m34, .ref m35, .ref m36, .int thr, .int (nI (ho)), .long xx, .ref m40, .ref m41, .ref m42, .ref m43, .ref m44, .int (nI (mkn)), .ref m46, .ref m47, .ref m48, .ref m49, .ref m50, .int (nI (mka))])), (m1, .inl (mc1, 120, .inl mf1)), (m2, .inl (mc2, 1680, .inl mf2)), (m3, .inl (mc3, 14, .inl mf3)), (m4, .inl (mc4, 128, .inl mf4)), (m19, .inl (mc19, 10, .inl mf19)), (m20, .inl (mc20, 10, .inl mf20)), (m21, .inl (mc21, 10, .inl mf21)), (m22, .inl (mc22, 10, .inl mf22)), (m23, .inl (mc23, 10, .inl mf23)), (m24, .inl (mc24, 4, .inl mf24)), (m25, .inl (mc25, 10, .inl mf25)), (m28, .inl (mc28, 10, .inl mf28)), (m29, .inl (mc29, 10, .inl mf29)), (m30, .inl (mc30, 10, .inl mf30)), (m31, .inl (mc31, 10, .inl mf31)), (m32, .inl (mc32, 10, .inl mf32)), (m33, .inl (mc33, 10, .inl mf33)), (m34, .inl (mc34, 10, .inl mf34)), (m35, .inl (mc35, 10, .inl mf35)), (m36, .inl (mc36, 10, .inl mf36)), (m40, .inl (mc40, 20, .inl mf40)), (m41, .inl (mc41, 20, .inl mf41)), (m42, .inl (mc42, 20, .inl mf42)), (m43, .inl (mc43, 20, .inl mf43)), (m44, .inl (mc44, 20, .inl mf44)), (m46, .inl (mc46, 14, .inr (.inl mf46))), (m47, .inl (mc47, 6, .inl mf47)), (m48, .inl (mc48, 6, .inl mf48)), (m49, .inl (mc49, 6, .inl mf49)), (m50, .inl (mc50, 6, .inl mf50))] sz) := by
  sorry

def w_s_every10x : List Cond := .code yX10_everybody cX10_everybody 1 (some .int) :: ([.fieldLink RX10 250 "NotEndedModel" "persons" "I"] ++ (wsX100))
theorem gw_s_every10x : (w_s_every10x).all goodWord = true := kGc rfl (kGa (by decide +kernel) gw_wsX100)
set_option maxHeartbeats 4000000 in
set_option maxRecDepth 100000 in
theorem s_every10x (l : Launch) (dC : Nat → ClassId) (dI : Nat → Nat → Nat) (jM : Nat) (th : Int32) (thr : Int32) (xx : Int64) (v5 : Value) (v9 : Value) (v10 : Value) (v11 : Value) (v12 : Value) (v13 : Value) (v14 : Value) (v15 : Value) (v16 : Value) (v17 : Value) (v18 : Value) (m1 : Nat) (m2 : Nat) (m3 : Nat) (m4 : Nat) (m19 : Nat) (m20 : Nat) (m21 : Nat) (m22 : Nat) (m23 : Nat) (m24 : Nat) (m25 : Nat) (m28 : Nat) (m29 : Nat) (m30 : Nat) (m31 : Nat) (m32 : Nat) (m33 : Nat) (m34 : Nat) (m35 : Nat) (m36 : Nat) (m40 : Nat) (m41 : Nat) (m42 : Nat) (m43 : Nat) (m44 : Nat) (m46 : Nat) (m47 : Nat) (m48 : Nat) (m49 : Nat) (m50 : Nat) (mc1 : ClassId) (mc2 : ClassId) (mc3 : ClassId) (mc4 : ClassId) (mc19 : ClassId) (mc20 : ClassId) (mc21 : ClassId) (mc22 : ClassId) (mc23 : ClassId) (mc24 : ClassId) (mc25 : ClassId) (mc28 : ClassId) (mc29 : ClassId) (mc30 : ClassId) (mc31 : ClassId) (mc32 : ClassId) (mc33 : ClassId) (mc34 : ClassId) (mc35 : ClassId) (mc36 : ClassId) (mc40 : ClassId) (mc41 : ClassId) (mc42 : ClassId) (mc43 : ClassId) (mc44 : ClassId) (mc46 : ClassId) (mc47 : ClassId) (mc48 : ClassId) (mc49 : ClassId) (mc50 : ClassId) (mf1 : Nat → Int32) (mf2 : Nat → Int32) (mf3 : Nat → Int32) (mf4 : Nat → Int32) (mf19 : Nat → Int32) (mf20 : Nat → Int32) (mf21 : Nat → Int32) (mf22 : Nat → Int32) (mf23 : Nat → Int32) (mf24 : Nat → Int32) (mf25 : Nat → Int32) (mf28 : Nat → Int32) (mf29 : Nat → Int32) (mf30 : Nat → Int32) (mf31 : Nat → Int32) (mf32 : Nat → Int32) (mf33 : Nat → Int32) (mf34 : Nat → Int32) (mf35 : Nat → Int32) (mf36 : Nat → Int32) (mf40 : Nat → Int32) (mf41 : Nat → Int32) (mf42 : Nat → Int32) (mf43 : Nat → Int32) (mf44 : Nat → Int32) (mf46 : Nat → Int64) (mf47 : Nat → Int32) (mf48 : Nat → Int32) (mf49 : Nat → Int32) (mf50 : Nat → Int32) (ml : Nat) (mkl : Nat) (mku : Nat) (mps : Nat) (mkw : Nat) (ho : Nat) (mkn : Nat) (mka : Nat) (hml : ml ≤ 120) (hmkl : mkl ≤ 6) (hmku : mku ≤ 8) (hmps : mps ≤ 10) (hmkw : mkw ≤ 4) (hho : ho ≤ 48) (hmkn : mkn ≤ 20) (hmka : mka ≤ 6) : Met l yX10_everybody w_s_every10x ({ frames := 1, cells := 0, slots := 0, locals := 60 }) (kR dC dI [.ref jM] [(jM, .inr (10, [.int th, .ref m1, .ref m2, .ref m3, .ref m4, v5, .int (nI (ml)), .int (nI (mkl)), .int (nI (mku)), v9, v10, v11, v12, v13, v14, v15, v16, v17, v18, .ref m19, .ref m20, .ref m21, .ref m22, .ref m23, .ref m24, .ref m25, .int (nI (mps)), .int (nI (mkw)), .ref m28, .ref m29, .ref m30, .ref m31, .ref m32, .ref m33, .ref m34, .ref m35, .ref m36, .int thr, .int (nI (ho)), .long xx, .ref m40, .ref m41, .ref m42, .ref m43, .ref m44, .int (nI (mkn)), .ref m46, .ref m47, .ref m48, .ref m49, .ref m50, .int (nI (mka))])), (m1, .inl (mc1, 120, .inl mf1)), (m2, .inl (mc2, 1680, .inl mf2)), (m3, .inl (mc3, 14, .inl mf3)), (m4, .inl (mc4, 128, .inl mf4)), (m19, .inl (mc19, 10, .inl mf19)), (m20, .inl (mc20, 10, .inl mf20)), (m21, .inl (mc21, 10, .inl mf21)), (m22, .inl (mc22, 10, .inl mf22)), (m23, .inl (mc23, 10, .inl mf23)), (m24, .inl (mc24, 4, .inl mf24)), (m25, .inl (mc25, 10, .inl mf25)), (m28, .inl (mc28, 10, .inl mf28)), (m29, .inl (mc29, 10, .inl mf29)), (m30, .inl (mc30, 10, .inl mf30)), (m31, .inl (mc31, 10, .inl mf31)), (m32, .inl (mc32, 10, .inl mf32)), (m33, .inl (mc33, 10, .inl mf33)), (m34, .inl (mc34, 10, .inl mf34)), (m35, .inl (mc35, 10, .inl mf35)), (m36, .inl (mc36, 10, .inl mf36)), (m40, .inl (mc40, 20, .inl mf40)), (m41, .inl (mc41, 20, .inl mf41)), (m42, .inl (mc42, 20, .inl mf42)), (m43, .inl (mc43, 20, .inl mf43)), (m44, .inl (mc44, 20, .inl mf44)), (m46, .inl (mc46, 14, .inr (.inl mf46))), (m47, .inl (mc47, 6, .inl mf47)), (m48, .inl (mc48, 6, .inl mf48)), (m49, .inl (mc49, 6, .inl mf49)), (m50, .inl (mc50, 6, .inl mf50))] [(mc1, .byte), (mc2, .byte), (mc3, .int), (mc4, .int), (mc19, .int), (mc20, .int), (mc21, .int), (mc22, .int), (mc23, .int), (mc24, .int), (mc25, .boolean), (mc28, .int), (mc29, .int), (mc30, .int), (mc31, .int), (mc32, .int), (mc33, .int), (mc34, .int), (mc35, .int), (mc36, .int), (mc40, .int), (mc41, .int), (mc42, .int), (mc43, .int), (mc44, .int), (mc46, .long), (mc47, .int), (mc48, .int), (mc49, .int), (mc50, .int)] kT) (vp_Si (fun r : Int32 => r = kEvb mps)) 0 0 (fun _ => False) := by
  sorry

def w_s_isLaw10x : List Cond := .code yX10_isLaw cX10_isLaw 2 (some .boolean) :: ([.fieldLink RX10 244 "NotEndedModel" "laws" "I"] ++ (wsX100))
theorem gw_s_isLaw10x : (w_s_isLaw10x).all goodWord = true := kGc rfl (kGa (by decide +kernel) gw_wsX100)
set_option maxHeartbeats 4000000 in
set_option maxRecDepth 100000 in
theorem s_isLaw10x (l : Launch) (dC : Nat → ClassId) (dI : Nat → Nat → Nat) (jM : Nat) (th : Int32) (thr : Int32) (xx : Int64) (v5 : Value) (v9 : Value) (v10 : Value) (v11 : Value) (v12 : Value) (v13 : Value) (v14 : Value) (v15 : Value) (v16 : Value) (v17 : Value) (v18 : Value) (m1 : Nat) (m2 : Nat) (m3 : Nat) (m4 : Nat) (m19 : Nat) (m20 : Nat) (m21 : Nat) (m22 : Nat) (m23 : Nat) (m24 : Nat) (m25 : Nat) (m28 : Nat) (m29 : Nat) (m30 : Nat) (m31 : Nat) (m32 : Nat) (m33 : Nat) (m34 : Nat) (m35 : Nat) (m36 : Nat) (m40 : Nat) (m41 : Nat) (m42 : Nat) (m43 : Nat) (m44 : Nat) (m46 : Nat) (m47 : Nat) (m48 : Nat) (m49 : Nat) (m50 : Nat) (mc1 : ClassId) (mc2 : ClassId) (mc3 : ClassId) (mc4 : ClassId) (mc19 : ClassId) (mc20 : ClassId) (mc21 : ClassId) (mc22 : ClassId) (mc23 : ClassId) (mc24 : ClassId) (mc25 : ClassId) (mc28 : ClassId) (mc29 : ClassId) (mc30 : ClassId) (mc31 : ClassId) (mc32 : ClassId) (mc33 : ClassId) (mc34 : ClassId) (mc35 : ClassId) (mc36 : ClassId) (mc40 : ClassId) (mc41 : ClassId) (mc42 : ClassId) (mc43 : ClassId) (mc44 : ClassId) (mc46 : ClassId) (mc47 : ClassId) (mc48 : ClassId) (mc49 : ClassId) (mc50 : ClassId) (mf1 : Nat → Int32) (mf2 : Nat → Int32) (mf3 : Nat → Int32) (mf4 : Nat → Int32) (mf19 : Nat → Int32) (mf20 : Nat → Int32) (mf21 : Nat → Int32) (mf22 : Nat → Int32) (mf23 : Nat → Int32) (mf24 : Nat → Int32) (mf25 : Nat → Int32) (mf28 : Nat → Int32) (mf29 : Nat → Int32) (mf30 : Nat → Int32) (mf31 : Nat → Int32) (mf32 : Nat → Int32) (mf33 : Nat → Int32) (mf34 : Nat → Int32) (mf35 : Nat → Int32) (mf36 : Nat → Int32) (mf40 : Nat → Int32) (mf41 : Nat → Int32) (mf42 : Nat → Int32) (mf43 : Nat → Int32) (mf44 : Nat → Int32) (mf46 : Nat → Int64) (mf47 : Nat → Int32) (mf48 : Nat → Int32) (mf49 : Nat → Int32) (mf50 : Nat → Int32) (ml : Nat) (mkl : Nat) (mku : Nat) (mps : Nat) (mkw : Nat) (ho : Nat) (mkn : Nat) (mka : Nat) (hml : ml ≤ 120) (hmkl : mkl ≤ 6) (hmku : mku ≤ 8) (hmps : mps ≤ 10) (hmkw : mkw ≤ 4) (hho : ho ≤ 48) (hmkn : mkn ≤ 20) (hmka : mka ≤ 6) (p0 : Int32) : Met l yX10_isLaw w_s_isLaw10x ({ frames := 1, cells := 0, slots := 0, locals := 60 }) (kR dC dI [.ref jM, .int p0] [(jM, .inr (10, [.int th, .ref m1, .ref m2, .ref m3, .ref m4, v5, .int (nI (ml)), .int (nI (mkl)), .int (nI (mku)), v9, v10, v11, v12, v13, v14, v15, v16, v17, v18, .ref m19, .ref m20, .ref m21, .ref m22, .ref m23, .ref m24, .ref m25, .int (nI (mps)), .int (nI (mkw)), .ref m28, .ref m29, .ref m30, .ref m31, .ref m32, .ref m33, .ref m34, .ref m35, .ref m36, .int thr, .int (nI (ho)), .long xx, .ref m40, .ref m41, .ref m42, .ref m43, .ref m44, .int (nI (mkn)), .ref m46, .ref m47, .ref m48, .ref m49, .ref m50, .int (nI (mka))])), (m1, .inl (mc1, 120, .inl mf1)), (m2, .inl (mc2, 1680, .inl mf2)), (m3, .inl (mc3, 14, .inl mf3)), (m4, .inl (mc4, 128, .inl mf4)), (m19, .inl (mc19, 10, .inl mf19)), (m20, .inl (mc20, 10, .inl mf20)), (m21, .inl (mc21, 10, .inl mf21)), (m22, .inl (mc22, 10, .inl mf22)), (m23, .inl (mc23, 10, .inl mf23)), (m24, .inl (mc24, 4, .inl mf24)), (m25, .inl (mc25, 10, .inl mf25)), (m28, .inl (mc28, 10, .inl mf28)), (m29, .inl (mc29, 10, .inl mf29)), (m30, .inl (mc30, 10, .inl mf30)), (m31, .inl (mc31, 10, .inl mf31)), (m32, .inl (mc32, 10, .inl mf32)), (m33, .inl (mc33, 10, .inl mf33)), (m34, .inl (mc34, 10, .inl mf34)), (m35, .inl (mc35, 10, .inl mf35)), (m36, .inl (mc36, 10, .inl mf36)), (m40, .inl (mc40, 20, .inl mf40)), (m41, .inl (mc41, 20, .inl mf41)), (m42, .inl (mc42, 20, .inl mf42)), (m43, .inl (mc43, 20, .inl mf43)), (m44, .inl (mc44, 20, .inl mf44)), (m46, .inl (mc46, 14, .inr (.inl mf46))), (m47, .inl (mc47, 6, .inl mf47)), (m48, .inl (mc48, 6, .inl mf48)), (m49, .inl (mc49, 6, .inl mf49)), (m50, .inl (mc50, 6, .inl mf50))] [(mc1, .byte), (mc2, .byte), (mc3, .int), (mc4, .int), (mc19, .int), (mc20, .int), (mc21, .int), (mc22, .int), (mc23, .int), (mc24, .int), (mc25, .boolean), (mc28, .int), (mc29, .int), (mc30, .int), (mc31, .int), (mc32, .int), (mc33, .int), (mc34, .int), (mc35, .int), (mc36, .int), (mc40, .int), (mc41, .int), (mc42, .int), (mc43, .int), (mc44, .int), (mc46, .long), (mc47, .int), (mc48, .int), (mc49, .int), (mc50, .int)] kT) (vp_Si (fun r : Int32 => ((¬ r = 0 → ∃ j : Nat, j < mkl ∧ p0 = nI j) ∧ r = kPn p0 mkl))) 0 0 (fun _ => False) := by
  sorry

def w_s_isPerson10r : List Cond := .code yX10_isPerson cX10_isPerson 2 (some .boolean) :: ([.fieldLink RX10 250 "NotEndedModel" "persons" "I"] ++ (wsX100))
theorem gw_s_isPerson10r : (w_s_isPerson10r).all goodWord = true := kGc rfl (kGa (by decide +kernel) gw_wsX100)
set_option maxHeartbeats 4000000 in
set_option maxRecDepth 100000 in
theorem s_isPerson10r (l : Launch) (dC : Nat → ClassId) (dI : Nat → Nat → Nat) (jM : Nat) (th : Int32) (thr : Int32) (xx : Int64) (v5 : Value) (v9 : Value) (v10 : Value) (v11 : Value) (v12 : Value) (v13 : Value) (v14 : Value) (v15 : Value) (v16 : Value) (v17 : Value) (v18 : Value) (m1 : Nat) (m2 : Nat) (m3 : Nat) (m4 : Nat) (m19 : Nat) (m20 : Nat) (m21 : Nat) (m22 : Nat) (m23 : Nat) (m24 : Nat) (m25 : Nat) (m28 : Nat) (m29 : Nat) (m30 : Nat) (m31 : Nat) (m32 : Nat) (m33 : Nat) (m34 : Nat) (m35 : Nat) (m36 : Nat) (m40 : Nat) (m41 : Nat) (m42 : Nat) (m43 : Nat) (m44 : Nat) (m46 : Nat) (m47 : Nat) (m48 : Nat) (m49 : Nat) (m50 : Nat) (mc1 : ClassId) (mc2 : ClassId) (mc3 : ClassId) (mc4 : ClassId) (mc19 : ClassId) (mc20 : ClassId) (mc21 : ClassId) (mc22 : ClassId) (mc23 : ClassId) (mc24 : ClassId) (mc25 : ClassId) (mc28 : ClassId) (mc29 : ClassId) (mc30 : ClassId) (mc31 : ClassId) (mc32 : ClassId) (mc33 : ClassId) (mc34 : ClassId) (mc35 : ClassId) (mc36 : ClassId) (mc40 : ClassId) (mc41 : ClassId) (mc42 : ClassId) (mc43 : ClassId) (mc44 : ClassId) (mc46 : ClassId) (mc47 : ClassId) (mc48 : ClassId) (mc49 : ClassId) (mc50 : ClassId) (mf1 : Nat → Int32) (mf2 : Nat → Int32) (mf3 : Nat → Int32) (mf4 : Nat → Int32) (mf19 : Nat → Int32) (mf20 : Nat → Int32) (mf21 : Nat → Int32) (mf22 : Nat → Int32) (mf23 : Nat → Int32) (mf24 : Nat → Int32) (mf25 : Nat → Int32) (mf28 : Nat → Int32) (mf29 : Nat → Int32) (mf30 : Nat → Int32) (mf31 : Nat → Int32) (mf32 : Nat → Int32) (mf33 : Nat → Int32) (mf34 : Nat → Int32) (mf35 : Nat → Int32) (mf36 : Nat → Int32) (mf40 : Nat → Int32) (mf41 : Nat → Int32) (mf42 : Nat → Int32) (mf43 : Nat → Int32) (mf44 : Nat → Int32) (mf46 : Nat → Int64) (mf47 : Nat → Int32) (mf48 : Nat → Int32) (mf49 : Nat → Int32) (mf50 : Nat → Int32) (ml : Nat) (mkl : Nat) (mku : Nat) (mps : Nat) (mkw : Nat) (ho : Nat) (mkn : Nat) (mka : Nat) (hml : ml ≤ 120) (hmkl : mkl ≤ 6) (hmku : mku ≤ 8) (hmps : mps ≤ 10) (hmkw : mkw ≤ 4) (hho : ho ≤ 48) (hmkn : mkn ≤ 20) (hmka : mka ≤ 6) (p0 : Int32) : Met l yX10_isPerson w_s_isPerson10r ({ frames := 1, cells := 0, slots := 0, locals := 60 }) (kR dC dI [.ref jM, .int p0] [(jM, .inr (10, [.int th, .ref m1, .ref m2, .ref m3, .ref m4, v5, .int (nI (ml)), .int (nI (mkl)), .int (nI (mku)), v9, v10, v11, v12, v13, v14, v15, v16, v17, v18, .ref m19, .ref m20, .ref m21, .ref m22, .ref m23, .ref m24, .ref m25, .int (nI (mps)), .int (nI (mkw)), .ref m28, .ref m29, .ref m30, .ref m31, .ref m32, .ref m33, .ref m34, .ref m35, .ref m36, .int thr, .int (nI (ho)), .long xx, .ref m40, .ref m41, .ref m42, .ref m43, .ref m44, .int (nI (mkn)), .ref m46, .ref m47, .ref m48, .ref m49, .ref m50, .int (nI (mka))])), (m1, .inl (mc1, 120, .inl mf1)), (m2, .inl (mc2, 1680, .inl mf2)), (m3, .inl (mc3, 14, .inl mf3)), (m4, .inl (mc4, 128, .inl mf4)), (m19, .inl (mc19, 10, .inl mf19)), (m20, .inl (mc20, 10, .inl mf20)), (m21, .inl (mc21, 10, .inl mf21)), (m22, .inl (mc22, 10, .inl mf22)), (m23, .inl (mc23, 10, .inl mf23)), (m24, .inl (mc24, 4, .inl mf24)), (m25, .inl (mc25, 10, .inl mf25)), (m28, .inl (mc28, 10, .inl mf28)), (m29, .inl (mc29, 10, .inl mf29)), (m30, .inl (mc30, 10, .inl mf30)), (m31, .inl (mc31, 10, .inl mf31)), (m32, .inl (mc32, 10, .inl mf32)), (m33, .inl (mc33, 10, .inl mf33)), (m34, .inl (mc34, 10, .inl mf34)), (m35, .inl (mc35, 10, .inl mf35)), (m36, .inl (mc36, 10, .inl mf36)), (m40, .inl (mc40, 20, .inl mf40)), (m41, .inl (mc41, 20, .inl mf41)), (m42, .inl (mc42, 20, .inl mf42)), (m43, .inl (mc43, 20, .inl mf43)), (m44, .inl (mc44, 20, .inl mf44)), (m46, .inl (mc46, 14, .inr (.inl mf46))), (m47, .inl (mc47, 6, .inl mf47)), (m48, .inl (mc48, 6, .inl mf48)), (m49, .inl (mc49, 6, .inl mf49)), (m50, .inl (mc50, 6, .inl mf50))] [(mc1, .byte), (mc2, .byte), (mc3, .int), (mc4, .int), (mc19, .int), (mc20, .int), (mc21, .int), (mc22, .int), (mc23, .int), (mc24, .int), (mc25, .boolean), (mc28, .int), (mc29, .int), (mc30, .int), (mc31, .int), (mc32, .int), (mc33, .int), (mc34, .int), (mc35, .int), (mc36, .int), (mc40, .int), (mc41, .int), (mc42, .int), (mc43, .int), (mc44, .int), (mc46, .long), (mc47, .int), (mc48, .int), (mc49, .int), (mc50, .int)] kT) (vp_Si (fun r : Int32 => ((¬ r = 0 → ∃ j : Nat, j < mps ∧ p0 = nI j) ∧ r = kPn p0 mps))) 0 0 (fun _ => False) := by
  sorry

def w_s_allSent10x : List Cond := .code yX10_allSent cX10_allSent 3 (some .int) :: ([.fieldLink RX10 250 "NotEndedModel" "persons" "I", .fieldLink RX10 55 "NotEndedModel" "isSent" "[Z"] ++ (wsX100))
theorem gw_s_allSent10x : (w_s_allSent10x).all goodWord = true := kGc rfl (kGa (by decide +kernel) gw_wsX100)
set_option maxHeartbeats 4000000 in
set_option maxRecDepth 100000 in
theorem s_allSent10x (l : Launch) (dC : Nat → ClassId) (dI : Nat → Nat → Nat) (jM : Nat) (th : Int32) (thr : Int32) (xx : Int64) (v5 : Value) (v9 : Value) (v10 : Value) (v11 : Value) (v12 : Value) (v13 : Value) (v14 : Value) (v15 : Value) (v16 : Value) (v17 : Value) (v18 : Value) (m1 : Nat) (m2 : Nat) (m3 : Nat) (m4 : Nat) (m19 : Nat) (m20 : Nat) (m21 : Nat) (m22 : Nat) (m23 : Nat) (m24 : Nat) (m25 : Nat) (m28 : Nat) (m29 : Nat) (m30 : Nat) (m31 : Nat) (m32 : Nat) (m33 : Nat) (m34 : Nat) (m35 : Nat) (m36 : Nat) (m40 : Nat) (m41 : Nat) (m42 : Nat) (m43 : Nat) (m44 : Nat) (m46 : Nat) (m47 : Nat) (m48 : Nat) (m49 : Nat) (m50 : Nat) (mc1 : ClassId) (mc2 : ClassId) (mc3 : ClassId) (mc4 : ClassId) (mc19 : ClassId) (mc20 : ClassId) (mc21 : ClassId) (mc22 : ClassId) (mc23 : ClassId) (mc24 : ClassId) (mc25 : ClassId) (mc28 : ClassId) (mc29 : ClassId) (mc30 : ClassId) (mc31 : ClassId) (mc32 : ClassId) (mc33 : ClassId) (mc34 : ClassId) (mc35 : ClassId) (mc36 : ClassId) (mc40 : ClassId) (mc41 : ClassId) (mc42 : ClassId) (mc43 : ClassId) (mc44 : ClassId) (mc46 : ClassId) (mc47 : ClassId) (mc48 : ClassId) (mc49 : ClassId) (mc50 : ClassId) (mf1 : Nat → Int32) (mf2 : Nat → Int32) (mf3 : Nat → Int32) (mf4 : Nat → Int32) (mf19 : Nat → Int32) (mf20 : Nat → Int32) (mf21 : Nat → Int32) (mf22 : Nat → Int32) (mf23 : Nat → Int32) (mf24 : Nat → Int32) (mf25 : Nat → Int32) (mf28 : Nat → Int32) (mf29 : Nat → Int32) (mf30 : Nat → Int32) (mf31 : Nat → Int32) (mf32 : Nat → Int32) (mf33 : Nat → Int32) (mf34 : Nat → Int32) (mf35 : Nat → Int32) (mf36 : Nat → Int32) (mf40 : Nat → Int32) (mf41 : Nat → Int32) (mf42 : Nat → Int32) (mf43 : Nat → Int32) (mf44 : Nat → Int32) (mf46 : Nat → Int64) (mf47 : Nat → Int32) (mf48 : Nat → Int32) (mf49 : Nat → Int32) (mf50 : Nat → Int32) (ml : Nat) (mkl : Nat) (mku : Nat) (mps : Nat) (mkw : Nat) (ho : Nat) (mkn : Nat) (mka : Nat) (hml : ml ≤ 120) (hmkl : mkl ≤ 6) (hmku : mku ≤ 8) (hmps : mps ≤ 10) (hmkw : mkw ≤ 4) (hho : ho ≤ 48) (hmkn : mkn ≤ 20) (hmka : mka ≤ 6) (SV : Nat) (hSV : SV < 1024) (hSv : ∀ j : Nat, j < mps → kIsB (nI SV) (nI j) = if mf25 j = 0 then 0 else 1) (hSw : SV < 2 ^ mps) : Met l yX10_allSent w_s_allSent10x ({ frames := 1, cells := 0, slots := 0, locals := 60 }) (kR dC dI [.ref jM] [(jM, .inr (10, [.int th, .ref m1, .ref m2, .ref m3, .ref m4, v5, .int (nI (ml)), .int (nI (mkl)), .int (nI (mku)), v9, v10, v11, v12, v13, v14, v15, v16, v17, v18, .ref m19, .ref m20, .ref m21, .ref m22, .ref m23, .ref m24, .ref m25, .int (nI (mps)), .int (nI (mkw)), .ref m28, .ref m29, .ref m30, .ref m31, .ref m32, .ref m33, .ref m34, .ref m35, .ref m36, .int thr, .int (nI (ho)), .long xx, .ref m40, .ref m41, .ref m42, .ref m43, .ref m44, .int (nI (mkn)), .ref m46, .ref m47, .ref m48, .ref m49, .ref m50, .int (nI (mka))])), (m1, .inl (mc1, 120, .inl mf1)), (m2, .inl (mc2, 1680, .inl mf2)), (m3, .inl (mc3, 14, .inl mf3)), (m4, .inl (mc4, 128, .inl mf4)), (m19, .inl (mc19, 10, .inl mf19)), (m20, .inl (mc20, 10, .inl mf20)), (m21, .inl (mc21, 10, .inl mf21)), (m22, .inl (mc22, 10, .inl mf22)), (m23, .inl (mc23, 10, .inl mf23)), (m24, .inl (mc24, 4, .inl mf24)), (m25, .inl (mc25, 10, .inl mf25)), (m28, .inl (mc28, 10, .inl mf28)), (m29, .inl (mc29, 10, .inl mf29)), (m30, .inl (mc30, 10, .inl mf30)), (m31, .inl (mc31, 10, .inl mf31)), (m32, .inl (mc32, 10, .inl mf32)), (m33, .inl (mc33, 10, .inl mf33)), (m34, .inl (mc34, 10, .inl mf34)), (m35, .inl (mc35, 10, .inl mf35)), (m36, .inl (mc36, 10, .inl mf36)), (m40, .inl (mc40, 20, .inl mf40)), (m41, .inl (mc41, 20, .inl mf41)), (m42, .inl (mc42, 20, .inl mf42)), (m43, .inl (mc43, 20, .inl mf43)), (m44, .inl (mc44, 20, .inl mf44)), (m46, .inl (mc46, 14, .inr (.inl mf46))), (m47, .inl (mc47, 6, .inl mf47)), (m48, .inl (mc48, 6, .inl mf48)), (m49, .inl (mc49, 6, .inl mf49)), (m50, .inl (mc50, 6, .inl mf50))] [(mc1, .byte), (mc2, .byte), (mc3, .int), (mc4, .int), (mc19, .int), (mc20, .int), (mc21, .int), (mc22, .int), (mc23, .int), (mc24, .int), (mc25, .boolean), (mc28, .int), (mc29, .int), (mc30, .int), (mc31, .int), (mc32, .int), (mc33, .int), (mc34, .int), (mc35, .int), (mc36, .int), (mc40, .int), (mc41, .int), (mc42, .int), (mc43, .int), (mc44, .int), (mc46, .long), (mc47, .int), (mc48, .int), (mc49, .int), (mc50, .int)] kT) (vp_Si (fun r : Int32 => r = nI SV)) 0 0 (fun _ => False) := by
  sorry
end
section
theorem dX10_thrown_0 : decode cX10_thrown 0 = .ok (.aload_n 0, 1) := by decide +kernel
theorem dX10_thrown_1 : decode cX10_thrown 1 = .ok (.getfield 117, 3) := by decide +kernel
theorem dX10_thrown_4 : decode cX10_thrown 4 = .ok (.ireturn, 1) := by decide +kernel
def w_s_thrown10 : List Cond := .code yX10_thrown cX10_thrown 1 (some .int) :: ([.fieldLink RX10 117 "NotEndedModel" "thrown" "I"] ++ (wsX100))
theorem gw_s_thrown10 : (w_s_thrown10).all goodWord = true := kGc rfl (kGa (by decide +kernel) gw_wsX100)
theorem hd_X10_thrown : yX10_thrown.cls ≠ "java/lang/invoke/MethodHandle" ∧ yX10_thrown.cls ≠ "java/lang/invoke/VarHandle" ∧ (parseMethodDescriptor yX10_thrown.desc).map (fun d => d.parameters.length) = some 0 := by decide +kernel
set_option maxHeartbeats 4000000 in
set_option maxRecDepth 100000 in
theorem s_thrown10 (l : Launch) (dC : Nat → ClassId) (dI : Nat → Nat → Nat) (jM : Nat) (th : Int32) (thr : Int32) (xx : Int64) (v5 : Value) (v9 : Value) (v10 : Value) (v11 : Value) (v12 : Value) (v13 : Value) (v14 : Value) (v15 : Value) (v16 : Value) (v17 : Value) (v18 : Value) (m1 : Nat) (m2 : Nat) (m3 : Nat) (m4 : Nat) (m19 : Nat) (m20 : Nat) (m21 : Nat) (m22 : Nat) (m23 : Nat) (m24 : Nat) (m25 : Nat) (m28 : Nat) (m29 : Nat) (m30 : Nat) (m31 : Nat) (m32 : Nat) (m33 : Nat) (m34 : Nat) (m35 : Nat) (m36 : Nat) (m40 : Nat) (m41 : Nat) (m42 : Nat) (m43 : Nat) (m44 : Nat) (m46 : Nat) (m47 : Nat) (m48 : Nat) (m49 : Nat) (m50 : Nat) (mc1 : ClassId) (mc2 : ClassId) (mc3 : ClassId) (mc4 : ClassId) (mc19 : ClassId) (mc20 : ClassId) (mc21 : ClassId) (mc22 : ClassId) (mc23 : ClassId) (mc24 : ClassId) (mc25 : ClassId) (mc28 : ClassId) (mc29 : ClassId) (mc30 : ClassId) (mc31 : ClassId) (mc32 : ClassId) (mc33 : ClassId) (mc34 : ClassId) (mc35 : ClassId) (mc36 : ClassId) (mc40 : ClassId) (mc41 : ClassId) (mc42 : ClassId) (mc43 : ClassId) (mc44 : ClassId) (mc46 : ClassId) (mc47 : ClassId) (mc48 : ClassId) (mc49 : ClassId) (mc50 : ClassId) (mf1 : Nat → Int32) (mf2 : Nat → Int32) (mf3 : Nat → Int32) (mf4 : Nat → Int32) (mf19 : Nat → Int32) (mf20 : Nat → Int32) (mf21 : Nat → Int32) (mf22 : Nat → Int32) (mf23 : Nat → Int32) (mf24 : Nat → Int32) (mf25 : Nat → Int32) (mf28 : Nat → Int32) (mf29 : Nat → Int32) (mf30 : Nat → Int32) (mf31 : Nat → Int32) (mf32 : Nat → Int32) (mf33 : Nat → Int32) (mf34 : Nat → Int32) (mf35 : Nat → Int32) (mf36 : Nat → Int32) (mf40 : Nat → Int32) (mf41 : Nat → Int32) (mf42 : Nat → Int32) (mf43 : Nat → Int32) (mf44 : Nat → Int32) (mf46 : Nat → Int64) (mf47 : Nat → Int32) (mf48 : Nat → Int32) (mf49 : Nat → Int32) (mf50 : Nat → Int32) (ml : Nat) (mkl : Nat) (mku : Nat) (mps : Nat) (mkw : Nat) (ho : Nat) (mkn : Nat) (mka : Nat) (hml : ml ≤ 120) (hmkl : mkl ≤ 6) (hmku : mku ≤ 8) (hmps : mps ≤ 10) (hmkw : mkw ≤ 4) (hho : ho ≤ 48) (hmkn : mkn ≤ 20) (hmka : mka ≤ 6) : Met l yX10_thrown w_s_thrown10 ({ frames := 1, cells := 0, slots := 0, locals := 60 }) (kR dC dI [.ref jM] [(jM, .inr (10, [.int th, .ref m1, .ref m2, .ref m3, .ref m4, v5, .int (nI (ml)), .int (nI (mkl)), .int (nI (mku)), v9, v10, v11, v12, v13, v14, v15, v16, v17, v18, .ref m19, .ref m20, .ref m21, .ref m22, .ref m23, .ref m24, .ref m25, .int (nI (mps)), .int (nI (mkw)), .ref m28, .ref m29, .ref m30, .ref m31, .ref m32, .ref m33, .ref m34, .ref m35, .ref m36, .int thr, .int (nI (ho)), .long xx, .ref m40, .ref m41, .ref m42, .ref m43, .ref m44, .int (nI (mkn)), .ref m46, .ref m47, .ref m48, .ref m49, .ref m50, .int (nI (mka))])), (m1, .inl (mc1, 120, .inl mf1)), (m2, .inl (mc2, 1680, .inl mf2)), (m3, .inl (mc3, 14, .inl mf3)), (m4, .inl (mc4, 128, .inl mf4)), (m19, .inl (mc19, 10, .inl mf19)), (m20, .inl (mc20, 10, .inl mf20)), (m21, .inl (mc21, 10, .inl mf21)), (m22, .inl (mc22, 10, .inl mf22)), (m23, .inl (mc23, 10, .inl mf23)), (m24, .inl (mc24, 4, .inl mf24)), (m25, .inl (mc25, 10, .inl mf25)), (m28, .inl (mc28, 10, .inl mf28)), (m29, .inl (mc29, 10, .inl mf29)), (m30, .inl (mc30, 10, .inl mf30)), (m31, .inl (mc31, 10, .inl mf31)), (m32, .inl (mc32, 10, .inl mf32)), (m33, .inl (mc33, 10, .inl mf33)), (m34, .inl (mc34, 10, .inl mf34)), (m35, .inl (mc35, 10, .inl mf35)), (m36, .inl (mc36, 10, .inl mf36)), (m40, .inl (mc40, 20, .inl mf40)), (m41, .inl (mc41, 20, .inl mf41)), (m42, .inl (mc42, 20, .inl mf42)), (m43, .inl (mc43, 20, .inl mf43)), (m44, .inl (mc44, 20, .inl mf44)), (m46, .inl (mc46, 14, .inr (.inl mf46))), (m47, .inl (mc47, 6, .inl mf47)), (m48, .inl (mc48, 6, .inl mf48)), (m49, .inl (mc49, 6, .inl mf49)), (m50, .inl (mc50, 6, .inl mf50))] [(mc1, .byte), (mc2, .byte), (mc3, .int), (mc4, .int), (mc19, .int), (mc20, .int), (mc21, .int), (mc22, .int), (mc23, .int), (mc24, .int), (mc25, .boolean), (mc28, .int), (mc29, .int), (mc30, .int), (mc31, .int), (mc32, .int), (mc33, .int), (mc34, .int), (mc35, .int), (mc36, .int), (mc40, .int), (mc41, .int), (mc42, .int), (mc43, .int), (mc44, .int), (mc46, .long), (mc47, .int), (mc48, .int), (mc49, .int), (mc50, .int)] kT) (vp_Si (fun r : Int32 => r = th)) 0 0 (fun _ => False) := by
  refine Met.ofW (cc := cX10_thrown) (maxL := 1) (ret := (some .int)) (by decide) rfl ?_
  intro p e s m args below meth c s₁ B hml hv
  obtain ⟨rfl, hP, hK, hX⟩ := hv
  have hx := B.exec
  have hb := B.bytes
  have hr := B.returns
  have hts := atoms_spec (ws := w_s_thrown10) B.pre
  have hown : s.vm.findClass RX10 = some m.cls := findClass_of_methodNamed B.named
  have hlocks := B.notSynchronized
  have hP : va_P (dC, dI) vwCl [(jM, .inr (10, [.int th, .ref m1, .ref m2, .ref m3, .ref m4, v5, .int (nI (ml)), .int (nI (mkl)), .int (nI (mku)), v9, v10, v11, v12, v13, v14, v15, v16, v17, v18, .ref m19, .ref m20, .ref m21, .ref m22, .ref m23, .ref m24, .ref m25, .int (nI (mps)), .int (nI (mkw)), .ref m28, .ref m29, .ref m30, .ref m31, .ref m32, .ref m33, .ref m34, .ref m35, .ref m36, .int thr, .int (nI (ho)), .long xx, .ref m40, .ref m41, .ref m42, .ref m43, .ref m44, .int (nI (mkn)), .ref m46, .ref m47, .ref m48, .ref m49, .ref m50, .int (nI (mka))])), (m1, .inl (mc1, 120, .inl mf1)), (m2, .inl (mc2, 1680, .inl mf2)), (m3, .inl (mc3, 14, .inl mf3)), (m4, .inl (mc4, 128, .inl mf4)), (m19, .inl (mc19, 10, .inl mf19)), (m20, .inl (mc20, 10, .inl mf20)), (m21, .inl (mc21, 10, .inl mf21)), (m22, .inl (mc22, 10, .inl mf22)), (m23, .inl (mc23, 10, .inl mf23)), (m24, .inl (mc24, 4, .inl mf24)), (m25, .inl (mc25, 10, .inl mf25)), (m28, .inl (mc28, 10, .inl mf28)), (m29, .inl (mc29, 10, .inl mf29)), (m30, .inl (mc30, 10, .inl mf30)), (m31, .inl (mc31, 10, .inl mf31)), (m32, .inl (mc32, 10, .inl mf32)), (m33, .inl (mc33, 10, .inl mf33)), (m34, .inl (mc34, 10, .inl mf34)), (m35, .inl (mc35, 10, .inl mf35)), (m36, .inl (mc36, 10, .inl mf36)), (m40, .inl (mc40, 20, .inl mf40)), (m41, .inl (mc41, 20, .inl mf41)), (m42, .inl (mc42, 20, .inl mf42)), (m43, .inl (mc43, 20, .inl mf43)), (m44, .inl (mc44, 20, .inl mf44)), (m46, .inl (mc46, 14, .inr (.inl mf46))), (m47, .inl (mc47, 6, .inl mf47)), (m48, .inl (mc48, 6, .inl mf48)), (m49, .inl (mc49, 6, .inl mf49)), (m50, .inl (mc50, 6, .inl mf50))] s.heap := hP
  have hl := lv_entry ([.ref jM]) (n := 1) (Nat.le_of_ble_eq_true rfl)
  rw [lg_entry_eq]
  generalize (lg_sl ([.ref jM]) ++ List.replicate (1 - (lg_sl ([.ref jM])).length) Slot.unset).toArray = ls at hl ⊢
  have hl : lv_has ls 1 [(0, .ref jM)] := hl
  refine kQ (fun Q hQ => ?_)
  refine lv_aload_n hx hb dX10_thrown_0 rfl (lv_at hl 0 rfl) ?_
  refine va_get (D := (dC, dI)) (ci := 10) (v := .int th) (C := RX10) (T := TX10) (N := 52) hx hb hts (fun _ h => List.mem_cons_of_mem _ (List.mem_append_right _ h)) hown hK hP 0 rfl rfl 0 kc_l_0_52 (hts (.fieldLink RX10 117 "NotEndedModel" "thrown" "I") (List.mem_cons_of_mem _ (List.mem_append_left _ (List.mem_of_getElem? (i := 0) rfl)))) (fun _ h9 => h9) rfl dX10_thrown_1 ?_
  rw [hQ]
  exact W.iret (v := th) hx hb hr (fun t ht hW => ⟨th, rfl, rfl, ht⟩) (fun _ h => nomatch h) dX10_thrown_4

def w_s_isAlone10x : List Cond := .code yX10_isAlone cX10_isAlone 3 (some .boolean) :: ([.fieldLink RX10 250 "NotEndedModel" "persons" "I", .fieldLink RX10 43 "NotEndedModel" "toldHouse" "[I"] ++ (wsX100))
theorem gw_s_isAlone10x : (w_s_isAlone10x).all goodWord = true := kGc rfl (kGa (by decide +kernel) gw_wsX100)
set_option maxHeartbeats 4000000 in
set_option maxRecDepth 100000 in
theorem s_isAlone10x (l : Launch) (dC : Nat → ClassId) (dI : Nat → Nat → Nat) (jM : Nat) (th : Int32) (thr : Int32) (xx : Int64) (v5 : Value) (v9 : Value) (v10 : Value) (v11 : Value) (v12 : Value) (v13 : Value) (v14 : Value) (v15 : Value) (v16 : Value) (v17 : Value) (v18 : Value) (m1 : Nat) (m2 : Nat) (m3 : Nat) (m4 : Nat) (m19 : Nat) (m20 : Nat) (m21 : Nat) (m22 : Nat) (m23 : Nat) (m24 : Nat) (m25 : Nat) (m28 : Nat) (m29 : Nat) (m30 : Nat) (m31 : Nat) (m32 : Nat) (m33 : Nat) (m34 : Nat) (m35 : Nat) (m36 : Nat) (m40 : Nat) (m41 : Nat) (m42 : Nat) (m43 : Nat) (m44 : Nat) (m46 : Nat) (m47 : Nat) (m48 : Nat) (m49 : Nat) (m50 : Nat) (mc1 : ClassId) (mc2 : ClassId) (mc3 : ClassId) (mc4 : ClassId) (mc19 : ClassId) (mc20 : ClassId) (mc21 : ClassId) (mc22 : ClassId) (mc23 : ClassId) (mc24 : ClassId) (mc25 : ClassId) (mc28 : ClassId) (mc29 : ClassId) (mc30 : ClassId) (mc31 : ClassId) (mc32 : ClassId) (mc33 : ClassId) (mc34 : ClassId) (mc35 : ClassId) (mc36 : ClassId) (mc40 : ClassId) (mc41 : ClassId) (mc42 : ClassId) (mc43 : ClassId) (mc44 : ClassId) (mc46 : ClassId) (mc47 : ClassId) (mc48 : ClassId) (mc49 : ClassId) (mc50 : ClassId) (mf1 : Nat → Int32) (mf2 : Nat → Int32) (mf3 : Nat → Int32) (mf4 : Nat → Int32) (mf19 : Nat → Int32) (mf20 : Nat → Int32) (mf21 : Nat → Int32) (mf22 : Nat → Int32) (mf23 : Nat → Int32) (mf24 : Nat → Int32) (mf25 : Nat → Int32) (mf28 : Nat → Int32) (mf29 : Nat → Int32) (mf30 : Nat → Int32) (mf31 : Nat → Int32) (mf32 : Nat → Int32) (mf33 : Nat → Int32) (mf34 : Nat → Int32) (mf35 : Nat → Int32) (mf36 : Nat → Int32) (mf40 : Nat → Int32) (mf41 : Nat → Int32) (mf42 : Nat → Int32) (mf43 : Nat → Int32) (mf44 : Nat → Int32) (mf46 : Nat → Int64) (mf47 : Nat → Int32) (mf48 : Nat → Int32) (mf49 : Nat → Int32) (mf50 : Nat → Int32) (ml : Nat) (mkl : Nat) (mku : Nat) (mps : Nat) (mkw : Nat) (ho : Nat) (mkn : Nat) (mka : Nat) (hml : ml ≤ 120) (hmkl : mkl ≤ 6) (hmku : mku ≤ 8) (hmps : mps ≤ 10) (hmkw : mkw ≤ 4) (hho : ho ≤ 48) (hmkn : mkn ≤ 20) (hmka : mka ≤ 6) (pj : Nat) (hpj : pj < mps) : Met l yX10_isAlone w_s_isAlone10x ({ frames := 2, cells := 0, slots := 0, locals := 120 }) (kR dC dI [.ref jM, .int (nI (pj))] [(jM, .inr (10, [.int th, .ref m1, .ref m2, .ref m3, .ref m4, v5, .int (nI (ml)), .int (nI (mkl)), .int (nI (mku)), v9, v10, v11, v12, v13, v14, v15, v16, v17, v18, .ref m19, .ref m20, .ref m21, .ref m22, .ref m23, .ref m24, .ref m25, .int (nI (mps)), .int (nI (mkw)), .ref m28, .ref m29, .ref m30, .ref m31, .ref m32, .ref m33, .ref m34, .ref m35, .ref m36, .int thr, .int (nI (ho)), .long xx, .ref m40, .ref m41, .ref m42, .ref m43, .ref m44, .int (nI (mkn)), .ref m46, .ref m47, .ref m48, .ref m49, .ref m50, .int (nI (mka))])), (m1, .inl (mc1, 120, .inl mf1)), (m2, .inl (mc2, 1680, .inl mf2)), (m3, .inl (mc3, 14, .inl mf3)), (m4, .inl (mc4, 128, .inl mf4)), (m19, .inl (mc19, 10, .inl mf19)), (m20, .inl (mc20, 10, .inl mf20)), (m21, .inl (mc21, 10, .inl mf21)), (m22, .inl (mc22, 10, .inl mf22)), (m23, .inl (mc23, 10, .inl mf23)), (m24, .inl (mc24, 4, .inl mf24)), (m25, .inl (mc25, 10, .inl mf25)), (m28, .inl (mc28, 10, .inl mf28)), (m29, .inl (mc29, 10, .inl mf29)), (m30, .inl (mc30, 10, .inl mf30)), (m31, .inl (mc31, 10, .inl mf31)), (m32, .inl (mc32, 10, .inl mf32)), (m33, .inl (mc33, 10, .inl mf33)), (m34, .inl (mc34, 10, .inl mf34)), (m35, .inl (mc35, 10, .inl mf35)), (m36, .inl (mc36, 10, .inl mf36)), (m40, .inl (mc40, 20, .inl mf40)), (m41, .inl (mc41, 20, .inl mf41)), (m42, .inl (mc42, 20, .inl mf42)), (m43, .inl (mc43, 20, .inl mf43)), (m44, .inl (mc44, 20, .inl mf44)), (m46, .inl (mc46, 14, .inr (.inl mf46))), (m47, .inl (mc47, 6, .inl mf47)), (m48, .inl (mc48, 6, .inl mf48)), (m49, .inl (mc49, 6, .inl mf49)), (m50, .inl (mc50, 6, .inl mf50))] [(mc1, .byte), (mc2, .byte), (mc3, .int), (mc4, .int), (mc19, .int), (mc20, .int), (mc21, .int), (mc22, .int), (mc23, .int), (mc24, .int), (mc25, .boolean), (mc28, .int), (mc29, .int), (mc30, .int), (mc31, .int), (mc32, .int), (mc33, .int), (mc34, .int), (mc35, .int), (mc36, .int), (mc40, .int), (mc41, .int), (mc42, .int), (mc43, .int), (mc44, .int), (mc46, .long), (mc47, .int), (mc48, .int), (mc49, .int), (mc50, .int)] kT) (vp_Si (fun r : Int32 => (¬ r = 0 ↔ kAlR mf21 pj mps = true))) 0 0 (fun _ => False) := by
  refine Met.ofW (cc := cX10_isAlone) (maxL := 3) (ret := (some .boolean)) (by decide) rfl ?_
  intro p e s m args below meth c s₁ B hml hv
  obtain ⟨rfl, hP, hK, hX⟩ := hv
  have hx := B.exec
  have hb := B.bytes
  have hr := B.returns
  have hts := atoms_spec (ws := w_s_isAlone10x) B.pre
  have hown : s.vm.findClass RX10 = some m.cls := findClass_of_methodNamed B.named
  have hlocks := B.notSynchronized
  have hP : va_P (dC, dI) vwCl [(jM, .inr (10, [.int th, .ref m1, .ref m2, .ref m3, .ref m4, v5, .int (nI (ml)), .int (nI (mkl)), .int (nI (mku)), v9, v10, v11, v12, v13, v14, v15, v16, v17, v18, .ref m19, .ref m20, .ref m21, .ref m22, .ref m23, .ref m24, .ref m25, .int (nI (mps)), .int (nI (mkw)), .ref m28, .ref m29, .ref m30, .ref m31, .ref m32, .ref m33, .ref m34, .ref m35, .ref m36, .int thr, .int (nI (ho)), .long xx, .ref m40, .ref m41, .ref m42, .ref m43, .ref m44, .int (nI (mkn)), .ref m46, .ref m47, .ref m48, .ref m49, .ref m50, .int (nI (mka))])), (m1, .inl (mc1, 120, .inl mf1)), (m2, .inl (mc2, 1680, .inl mf2)), (m3, .inl (mc3, 14, .inl mf3)), (m4, .inl (mc4, 128, .inl mf4)), (m19, .inl (mc19, 10, .inl mf19)), (m20, .inl (mc20, 10, .inl mf20)), (m21, .inl (mc21, 10, .inl mf21)), (m22, .inl (mc22, 10, .inl mf22)), (m23, .inl (mc23, 10, .inl mf23)), (m24, .inl (mc24, 4, .inl mf24)), (m25, .inl (mc25, 10, .inl mf25)), (m28, .inl (mc28, 10, .inl mf28)), (m29, .inl (mc29, 10, .inl mf29)), (m30, .inl (mc30, 10, .inl mf30)), (m31, .inl (mc31, 10, .inl mf31)), (m32, .inl (mc32, 10, .inl mf32)), (m33, .inl (mc33, 10, .inl mf33)), (m34, .inl (mc34, 10, .inl mf34)), (m35, .inl (mc35, 10, .inl mf35)), (m36, .inl (mc36, 10, .inl mf36)), (m40, .inl (mc40, 20, .inl mf40)), (m41, .inl (mc41, 20, .inl mf41)), (m42, .inl (mc42, 20, .inl mf42)), (m43, .inl (mc43, 20, .inl mf43)), (m44, .inl (mc44, 20, .inl mf44)), (m46, .inl (mc46, 14, .inr (.inl mf46))), (m47, .inl (mc47, 6, .inl mf47)), (m48, .inl (mc48, 6, .inl mf48)), (m49, .inl (mc49, 6, .inl mf49)), (m50, .inl (mc50, 6, .inl mf50))] s.heap := hP
  have hl := lv_entry ([.ref jM, .int (nI (pj))]) (n := 3) (Nat.le_of_ble_eq_true rfl)
  rw [lg_entry_eq]
  generalize (lg_sl ([.ref jM, .int (nI (pj))]) ++ List.replicate (3 - (lg_sl ([.ref jM, .int (nI (pj))])).length) Slot.unset).toArray = ls at hl ⊢
  have hl : lv_has ls 3 [(0, .ref jM), (1, .int (nI (pj)))] := hl
  refine kQ (fun Q hQ => ?_)
  refine lv_iconst (v := 0) hx hb dX10_isAlone_0 kc_i_0 ?_
  refine lv_istore_n hx hb dX10_isAlone_1 rfl hl kc_l_2_3 (kTo [(2, .int 0), (0, .ref jM), (1, .int (nI (pj)))]) (fun ls hl => ?_)
  have lp_k_1 : ∀ (n9 : Nat) (i : Nat) (ivk_1_0 : i ≤ mps) (ivk_1_1 : kAlR mf21 pj i = true) (ls : Array Slot) (_ : lv_has ls 3 [(2, .int (nI (i))), (0, .ref jM), (1, .int (nI (pj)))]) (_ : mps - i < n9), W p l e (headSpec w_s_isAlone10x ({ frames := 2, cells := 0, slots := 0, locals := 120 })).room s m (#[.ref jM, .int (nI (pj))] : Array Value) below meth c s.heap [] 0 0 Q (F0 m 2 ls []) := by
    intro n9
    induction n9 with
    | zero => intro i ivk_1_0 ivk_1_1 ls hl hm9; exact absurd hm9 (Nat.not_lt_zero _)
    | succ n9 ih_k_1 =>
      intro i ivk_1_0 ivk_1_1 ls hl hm9
      refine lv_iload_n hx hb dX10_isAlone_2 rfl (lv_at hl 0 rfl) ?_
      refine lv_aload_n hx hb dX10_isAlone_3 rfl (lv_at hl 1 rfl) ?_
      refine va_get (D := (dC, dI)) (ci := 10) (v := .int (nI (mps))) (C := RX10) (T := TX10) (N := 52) hx hb hts (fun _ h => List.mem_cons_of_mem _ (List.mem_append_right _ h)) hown hK hP 0 rfl rfl 26 kc_l_26_52 (hts (.fieldLink RX10 250 "NotEndedModel" "persons" "I") (List.mem_cons_of_mem _ (List.mem_append_left _ (List.mem_of_getElem? (i := 0) rfl)))) (fun _ h9 => h9) rfl dX10_isAlone_4 ?_
      refine lv_icmp_ge (tgt := 38) hx hb dX10_isAlone_7 kc_t_7_31 (fun c_2 => ?_) (fun c_2 => ?_)
      · have bd_4 : mps < 2147483648 := by omega
        have bd_5 : i < 2147483648 := by omega
        have hn_3 := kle (a := mps) (b := i) bd_4 bd_5 c_2
        refine lv_iconst (v := 1) hx hb dX10_isAlone_38 kc_i_1 ?_
        rw [hQ]
        exact W.zret (v := 1) hx hb hr rfl (fun t ht hW => ⟨1, rfl, ⟨fun _ => (show i = mps by omega) ▸ ivk_1_1, fun _ => by decide⟩, ht⟩) (fun _ h => nomatch h) dX10_isAlone_39
      · have bd_7 : mps < 2147483648 := by omega
        have bd_8 : i < 2147483648 := by omega
        have hn_6 := knle (a := mps) (b := i) bd_7 bd_8 c_2
        refine lv_iload_n hx hb dX10_isAlone_10 rfl (lv_at hl 0 rfl) ?_
        refine lv_iload_n hx hb dX10_isAlone_11 rfl (lv_at hl 2 rfl) ?_
        refine lv_icmp_eq (tgt := 32) hx hb dX10_isAlone_12 kc_t_12_20 (fun c_9 => ?_) (fun c_9 => ?_)
        · have bd_11 : pj < 2147483648 := by omega
          have hn_10 := keq (a := i) (b := pj) bd_8 bd_11 c_9
          refine lv_iinc (v := nI (i + 1)) hx hb dX10_isAlone_32 hl (k := 0) rfl (kInc _ 1) kc_l_2_3 (kTo [(2, .int (nI (i + 1))), (0, .ref jM), (1, .int (nI (pj)))]) (fun ls hl => ?_)
          refine lv_goto (tgt := 2) hx hb dX10_isAlone_35 kc_t_35_m33 ?_
          exact ih_k_1 (i + 1) (by omega) ((kAlR_s (Or.inl (by omega))).trans ivk_1_1) ls (lv_sub hl [0, 1, 2] rfl) (by omega)
        · have bd_13 : pj < 2147483648 := by omega
          have hn_12 := kneq (a := i) (b := pj) bd_8 bd_13 c_9
          have hn9 : ¬ i = pj := by omega
          refine lv_aload_n hx hb dX10_isAlone_15 rfl (lv_at hl 1 rfl) ?_
          refine va_get (D := (dC, dI)) (ci := 10) (v := .ref m21) (C := RX10) (T := TX10) (N := 52) hx hb hts (fun _ h => List.mem_cons_of_mem _ (List.mem_append_right _ h)) hown hK hP 0 rfl rfl 21 kc_l_21_52 (hts (.fieldLink RX10 43 "NotEndedModel" "toldHouse" "[I") (List.mem_cons_of_mem _ (List.mem_append_left _ (List.mem_of_getElem? (i := 1) rfl)))) (fun _ h9 => h9) rfl dX10_isAlone_16 ?_
          refine lv_iload_n hx hb dX10_isAlone_19 rfl (lv_at hl 0 rfl) ?_
          have bd_14 : i < 10 := by omega
          refine va_iald hx hb hK hP 7 6 rfl rfl (vp_in_nI (n := i) (N := 10) bd_14 kc_31_10) dX10_isAlone_20 ?_
          refine lv_topi (fun x_15 ex_15 => ?_)
          have ha9 : x_15 = mf21 i := by rw [ex_15, nI_clamp (n := i) (by omega)]
          refine lv_aload_n hx hb dX10_isAlone_21 rfl (lv_at hl 1 rfl) ?_
          refine va_get (D := (dC, dI)) (ci := 10) (v := .ref m21) (C := RX10) (T := TX10) (N := 52) hx hb hts (fun _ h => List.mem_cons_of_mem _ (List.mem_append_right _ h)) hown hK hP 0 rfl rfl 21 kc_l_21_52 (hts (.fieldLink RX10 43 "NotEndedModel" "toldHouse" "[I") (List.mem_cons_of_mem _ (List.mem_append_left _ (List.mem_of_getElem? (i := 1) rfl)))) (fun _ h9 => h9) rfl dX10_isAlone_22 ?_
          refine lv_iload_n hx hb dX10_isAlone_25 rfl (lv_at hl 2 rfl) ?_
          have bd_16 : pj < 10 := by omega
          refine va_iald hx hb hK hP 7 6 rfl rfl (vp_in_nI (n := pj) (N := 10) bd_16 kc_31_10) dX10_isAlone_26 ?_
          refine lv_topi (fun x_17 ex_17 => ?_)
          have hb9 : x_17 = mf21 pj := by rw [ex_17, nI_clamp (n := pj) (by omega)]
          refine lv_icmp_ne (tgt := 32) hx hb dX10_isAlone_27 kc_t_27_5 (fun c_18 => ?_) (fun c_18 => ?_)
          · refine lv_iinc (v := nI (i + 1)) hx hb dX10_isAlone_32 hl (k := 0) rfl (kInc _ 1) kc_l_2_3 (kTo [(2, .int (nI (i + 1))), (0, .ref jM), (1, .int (nI (pj)))]) (fun ls hl => ?_)
            refine lv_goto (tgt := 2) hx hb dX10_isAlone_35 kc_t_35_m33 ?_
            exact ih_k_1 (i + 1) (by omega) ((kAlR_s (Or.inr (fun z => c_18 (ha9.trans (z.trans hb9.symm))))).trans ivk_1_1) ls (lv_sub hl [0, 1, 2] rfl) (by omega)
          · refine lv_iconst (v := 0) hx hb dX10_isAlone_30 kc_i_0 ?_
            rw [hQ]
            exact W.zret (v := 0) hx hb hr rfl (fun t ht hW => ⟨0, rfl, ⟨fun z => absurd rfl z, fun z => absurd (kAlR_m mps (show i + 1 ≤ mps by omega) z) (kAlR_n hn9 (ha9.symm.trans (c_18.trans hb9)))⟩, ht⟩) (fun _ h => nomatch h) dX10_isAlone_31
  exact lp_k_1 (mps - 0 + 1) 0 (by omega) rfl ls (lv_sub hl [0, 1, 2] rfl) (by omega)

def w_s_isSo10x : List Cond := .code yX10_isSo cX10_isSo 3 (some .boolean) :: ([.fieldLink RX10 86 "NotEndedModel" "notePerson" "[I", .fieldLink RX10 92 "NotEndedModel" "noteKind" "[I", .fieldLink RX10 65 "NotEndedModel" "house" "[I", .fieldLink RX10 95 "NotEndedModel" "noteValue" "[I", .fieldLink RX10 59 "NotEndedModel" "holds" "[I", .methodLink RX10 334 Lib.Math.abs.name, .static Lib.Math.abs.name, .initialized RJ9, .code Lib.Math.abs.name Lib.Math.abs.code 1 (some .int), .fieldLink RX10 98 "NotEndedModel" "noteOff" "[I"] ++ (wsX100))
theorem gw_s_isSo10x : (w_s_isSo10x).all goodWord = true := kGc rfl (kGa (by decide +kernel) gw_wsX100)
set_option maxHeartbeats 4000000 in
set_option maxRecDepth 100000 in
theorem s_isSo10x (l : Launch) (dC : Nat → ClassId) (dI : Nat → Nat → Nat) (jM : Nat) (th : Int32) (thr : Int32) (xx : Int64) (v5 : Value) (v9 : Value) (v10 : Value) (v11 : Value) (v12 : Value) (v13 : Value) (v14 : Value) (v15 : Value) (v16 : Value) (v17 : Value) (v18 : Value) (m1 : Nat) (m2 : Nat) (m3 : Nat) (m4 : Nat) (m19 : Nat) (m20 : Nat) (m21 : Nat) (m22 : Nat) (m23 : Nat) (m24 : Nat) (m25 : Nat) (m28 : Nat) (m29 : Nat) (m30 : Nat) (m31 : Nat) (m32 : Nat) (m33 : Nat) (m34 : Nat) (m35 : Nat) (m36 : Nat) (m40 : Nat) (m41 : Nat) (m42 : Nat) (m43 : Nat) (m44 : Nat) (m46 : Nat) (m47 : Nat) (m48 : Nat) (m49 : Nat) (m50 : Nat) (mc1 : ClassId) (mc2 : ClassId) (mc3 : ClassId) (mc4 : ClassId) (mc19 : ClassId) (mc20 : ClassId) (mc21 : ClassId) (mc22 : ClassId) (mc23 : ClassId) (mc24 : ClassId) (mc25 : ClassId) (mc28 : ClassId) (mc29 : ClassId) (mc30 : ClassId) (mc31 : ClassId) (mc32 : ClassId) (mc33 : ClassId) (mc34 : ClassId) (mc35 : ClassId) (mc36 : ClassId) (mc40 : ClassId) (mc41 : ClassId) (mc42 : ClassId) (mc43 : ClassId) (mc44 : ClassId) (mc46 : ClassId) (mc47 : ClassId) (mc48 : ClassId) (mc49 : ClassId) (mc50 : ClassId) (mf1 : Nat → Int32) (mf2 : Nat → Int32) (mf3 : Nat → Int32) (mf4 : Nat → Int32) (mf19 : Nat → Int32) (mf20 : Nat → Int32) (mf21 : Nat → Int32) (mf22 : Nat → Int32) (mf23 : Nat → Int32) (mf24 : Nat → Int32) (mf25 : Nat → Int32) (mf28 : Nat → Int32) (mf29 : Nat → Int32) (mf30 : Nat → Int32) (mf31 : Nat → Int32) (mf32 : Nat → Int32) (mf33 : Nat → Int32) (mf34 : Nat → Int32) (mf35 : Nat → Int32) (mf36 : Nat → Int32) (mf40 : Nat → Int32) (mf41 : Nat → Int32) (mf42 : Nat → Int32) (mf43 : Nat → Int32) (mf44 : Nat → Int32) (mf46 : Nat → Int64) (mf47 : Nat → Int32) (mf48 : Nat → Int32) (mf49 : Nat → Int32) (mf50 : Nat → Int32) (ml : Nat) (mkl : Nat) (mku : Nat) (mps : Nat) (mkw : Nat) (ho : Nat) (mkn : Nat) (mka : Nat) (hml : ml ≤ 120) (hmkl : mkl ≤ 6) (hmku : mku ≤ 8) (hmps : mps ≤ 10) (hmkw : mkw ≤ 4) (hho : ho ≤ 48) (hmkn : mkn ≤ 20) (hmka : mka ≤ 6) (hNp : ∀ k : Nat, k < mkn → ∃ v : Nat, v < mps ∧ mf40 k = nI v) (S : kRst) (hRR : kRp mps S mf28 mf29 mf30 mf31) (pk : Nat) (hpk : pk < mkn) : Met l yX10_isSo w_s_isSo10x ({ frames := 2, cells := 0, slots := 0, locals := 120 }) (kR dC dI [.ref jM, .int (nI (pk))] [(jM, .inr (10, [.int th, .ref m1, .ref m2, .ref m3, .ref m4, v5, .int (nI (ml)), .int (nI (mkl)), .int (nI (mku)), v9, v10, v11, v12, v13, v14, v15, v16, v17, v18, .ref m19, .ref m20, .ref m21, .ref m22, .ref m23, .ref m24, .ref m25, .int (nI (mps)), .int (nI (mkw)), .ref m28, .ref m29, .ref m30, .ref m31, .ref m32, .ref m33, .ref m34, .ref m35, .ref m36, .int thr, .int (nI (ho)), .long xx, .ref m40, .ref m41, .ref m42, .ref m43, .ref m44, .int (nI (mkn)), .ref m46, .ref m47, .ref m48, .ref m49, .ref m50, .int (nI (mka))])), (m1, .inl (mc1, 120, .inl mf1)), (m2, .inl (mc2, 1680, .inl mf2)), (m3, .inl (mc3, 14, .inl mf3)), (m4, .inl (mc4, 128, .inl mf4)), (m19, .inl (mc19, 10, .inl mf19)), (m20, .inl (mc20, 10, .inl mf20)), (m21, .inl (mc21, 10, .inl mf21)), (m22, .inl (mc22, 10, .inl mf22)), (m23, .inl (mc23, 10, .inl mf23)), (m24, .inl (mc24, 4, .inl mf24)), (m25, .inl (mc25, 10, .inl mf25)), (m28, .inl (mc28, 10, .inl mf28)), (m29, .inl (mc29, 10, .inl mf29)), (m30, .inl (mc30, 10, .inl mf30)), (m31, .inl (mc31, 10, .inl mf31)), (m32, .inl (mc32, 10, .inl mf32)), (m33, .inl (mc33, 10, .inl mf33)), (m34, .inl (mc34, 10, .inl mf34)), (m35, .inl (mc35, 10, .inl mf35)), (m36, .inl (mc36, 10, .inl mf36)), (m40, .inl (mc40, 20, .inl mf40)), (m41, .inl (mc41, 20, .inl mf41)), (m42, .inl (mc42, 20, .inl mf42)), (m43, .inl (mc43, 20, .inl mf43)), (m44, .inl (mc44, 20, .inl mf44)), (m46, .inl (mc46, 14, .inr (.inl mf46))), (m47, .inl (mc47, 6, .inl mf47)), (m48, .inl (mc48, 6, .inl mf48)), (m49, .inl (mc49, 6, .inl mf49)), (m50, .inl (mc50, 6, .inl mf50))] [(mc1, .byte), (mc2, .byte), (mc3, .int), (mc4, .int), (mc19, .int), (mc20, .int), (mc21, .int), (mc22, .int), (mc23, .int), (mc24, .int), (mc25, .boolean), (mc28, .int), (mc29, .int), (mc30, .int), (mc31, .int), (mc32, .int), (mc33, .int), (mc34, .int), (mc35, .int), (mc36, .int), (mc40, .int), (mc41, .int), (mc42, .int), (mc43, .int), (mc44, .int), (mc46, .long), (mc47, .int), (mc48, .int), (mc49, .int), (mc50, .int)] kT) (vp_Si (fun r : Int32 => (¬ r = 0 ↔ kSoB S (mf40 pk) (mf42 pk) (mf43 pk) (mf44 pk) = true))) 0 0 (fun _ => False) := by
  refine Met.ofW (cc := cX10_isSo) (maxL := 3) (ret := (some .boolean)) (by decide) rfl ?_
  intro p e s m args below meth c s₁ B hml hv
  obtain ⟨rfl, hP, hK, hX⟩ := hv
  have hx := B.exec
  have hb := B.bytes
  have hr := B.returns
  have hts := atoms_spec (ws := w_s_isSo10x) B.pre
  have hown : s.vm.findClass RX10 = some m.cls := findClass_of_methodNamed B.named
  have hlocks := B.notSynchronized
  have hP : va_P (dC, dI) vwCl [(jM, .inr (10, [.int th, .ref m1, .ref m2, .ref m3, .ref m4, v5, .int (nI (ml)), .int (nI (mkl)), .int (nI (mku)), v9, v10, v11, v12, v13, v14, v15, v16, v17, v18, .ref m19, .ref m20, .ref m21, .ref m22, .ref m23, .ref m24, .ref m25, .int (nI (mps)), .int (nI (mkw)), .ref m28, .ref m29, .ref m30, .ref m31, .ref m32, .ref m33, .ref m34, .ref m35, .ref m36, .int thr, .int (nI (ho)), .long xx, .ref m40, .ref m41, .ref m42, .ref m43, .ref m44, .int (nI (mkn)), .ref m46, .ref m47, .ref m48, .ref m49, .ref m50, .int (nI (mka))])), (m1, .inl (mc1, 120, .inl mf1)), (m2, .inl (mc2, 1680, .inl mf2)), (m3, .inl (mc3, 14, .inl mf3)), (m4, .inl (mc4, 128, .inl mf4)), (m19, .inl (mc19, 10, .inl mf19)), (m20, .inl (mc20, 10, .inl mf20)), (m21, .inl (mc21, 10, .inl mf21)), (m22, .inl (mc22, 10, .inl mf22)), (m23, .inl (mc23, 10, .inl mf23)), (m24, .inl (mc24, 4, .inl mf24)), (m25, .inl (mc25, 10, .inl mf25)), (m28, .inl (mc28, 10, .inl mf28)), (m29, .inl (mc29, 10, .inl mf29)), (m30, .inl (mc30, 10, .inl mf30)), (m31, .inl (mc31, 10, .inl mf31)), (m32, .inl (mc32, 10, .inl mf32)), (m33, .inl (mc33, 10, .inl mf33)), (m34, .inl (mc34, 10, .inl mf34)), (m35, .inl (mc35, 10, .inl mf35)), (m36, .inl (mc36, 10, .inl mf36)), (m40, .inl (mc40, 20, .inl mf40)), (m41, .inl (mc41, 20, .inl mf41)), (m42, .inl (mc42, 20, .inl mf42)), (m43, .inl (mc43, 20, .inl mf43)), (m44, .inl (mc44, 20, .inl mf44)), (m46, .inl (mc46, 14, .inr (.inl mf46))), (m47, .inl (mc47, 6, .inl mf47)), (m48, .inl (mc48, 6, .inl mf48)), (m49, .inl (mc49, 6, .inl mf49)), (m50, .inl (mc50, 6, .inl mf50))] s.heap := hP
  have hl := lv_entry ([.ref jM, .int (nI (pk))]) (n := 3) (Nat.le_of_ble_eq_true rfl)
  rw [lg_entry_eq]
  generalize (lg_sl ([.ref jM, .int (nI (pk))]) ++ List.replicate (3 - (lg_sl ([.ref jM, .int (nI (pk))])).length) Slot.unset).toArray = ls at hl ⊢
  have hl : lv_has ls 3 [(0, .ref jM), (1, .int (nI (pk)))] := hl
  refine kQ (fun Q hQ => ?_)
  refine lv_aload_n hx hb dX10_isSo_0 rfl (lv_at hl 0 rfl) ?_
  refine va_get (D := (dC, dI)) (ci := 10) (v := .ref m40) (C := RX10) (T := TX10) (N := 52) hx hb hts (fun _ h => List.mem_cons_of_mem _ (List.mem_append_right _ h)) hown hK hP 0 rfl rfl 40 kc_l_40_52 (hts (.fieldLink RX10 86 "NotEndedModel" "notePerson" "[I") (List.mem_cons_of_mem _ (List.mem_append_left _ (List.mem_of_getElem? (i := 0) rfl)))) (fun _ h9 => h9) rfl dX10_isSo_1 ?_
  refine lv_iload_n hx hb dX10_isSo_4 rfl (lv_at hl 1 rfl) ?_
  have bd_1 : pk < 20 := by omega
  refine va_iald hx hb hK hP 21 20 rfl rfl (vp_in_nI (n := pk) (N := 20) bd_1 kc_31_20) dX10_isSo_5 ?_
  refine lv_topi (fun x_2 ex_2 => ?_)
  obtain ⟨v9, hv9, ev9⟩ := hNp pk hpk
  rw [nI_clamp (n := pk) (by omega), ev9] at ex_2
  subst ex_2
  refine lv_istore_n hx hb dX10_isSo_6 rfl hl kc_l_2_3 (kTo [(2, .int (nI (v9))), (0, .ref jM), (1, .int (nI (pk)))]) (fun ls hl => ?_)
  refine lv_aload_n hx hb dX10_isSo_7 rfl (lv_at hl 1 rfl) ?_
  refine va_get (D := (dC, dI)) (ci := 10) (v := .ref m42) (C := RX10) (T := TX10) (N := 52) hx hb hts (fun _ h => List.mem_cons_of_mem _ (List.mem_append_right _ h)) hown hK hP 0 rfl rfl 42 kc_l_42_52 (hts (.fieldLink RX10 92 "NotEndedModel" "noteKind" "[I") (List.mem_cons_of_mem _ (List.mem_append_left _ (List.mem_of_getElem? (i := 1) rfl)))) (fun _ h9 => h9) rfl dX10_isSo_8 ?_
  refine lv_iload_n hx hb dX10_isSo_11 rfl (lv_at hl 2 rfl) ?_
  refine va_iald hx hb hK hP 23 22 rfl rfl (vp_in_nI (n := pk) (N := 20) bd_1 kc_31_20) dX10_isSo_12 ?_
  refine lv_topi (fun x_3 ex_3 => ?_)
  have hk9 : x_3 = mf42 pk := by rw [ex_3, nI_clamp (n := pk) (by omega)]
  refine lv_if_ne (tgt := 49) hx hb dX10_isSo_13 kc_t_13_36 (fun c_4 => ?_) (fun c_4 => ?_)
  · refine lv_aload_n hx hb dX10_isSo_49 rfl (lv_at hl 1 rfl) ?_
    refine va_get (D := (dC, dI)) (ci := 10) (v := .ref m30) (C := RX10) (T := TX10) (N := 52) hx hb hts (fun _ h => List.mem_cons_of_mem _ (List.mem_append_right _ h)) hown hK hP 0 rfl rfl 30 kc_l_30_52 (hts (.fieldLink RX10 65 "NotEndedModel" "house" "[I") (List.mem_cons_of_mem _ (List.mem_append_left _ (List.mem_of_getElem? (i := 2) rfl)))) (fun _ h9 => h9) rfl dX10_isSo_50 ?_
    refine lv_iload_n hx hb dX10_isSo_53 rfl (lv_at hl 0 rfl) ?_
    have bd_5 : v9 < 10 := by omega
    refine va_iald hx hb hK hP 14 13 rfl rfl (vp_in_nI (n := v9) (N := 10) bd_5 kc_31_10) dX10_isSo_54 ?_
    refine lv_topi (fun x_6 ex_6 => ?_)
    have hr9 : x_6 = mf30 v9 := by rw [ex_6, nI_clamp (n := v9) (by omega)]
    refine lv_aload_n hx hb dX10_isSo_55 rfl (lv_at hl 1 rfl) ?_
    refine va_get (D := (dC, dI)) (ci := 10) (v := .ref m43) (C := RX10) (T := TX10) (N := 52) hx hb hts (fun _ h => List.mem_cons_of_mem _ (List.mem_append_right _ h)) hown hK hP 0 rfl rfl 43 kc_l_43_52 (hts (.fieldLink RX10 95 "NotEndedModel" "noteValue" "[I") (List.mem_cons_of_mem _ (List.mem_append_left _ (List.mem_of_getElem? (i := 3) rfl)))) (fun _ h9 => h9) rfl dX10_isSo_56 ?_
    refine lv_iload_n hx hb dX10_isSo_59 rfl (lv_at hl 2 rfl) ?_
    refine va_iald hx hb hK hP 24 23 rfl rfl (vp_in_nI (n := pk) (N := 20) bd_1 kc_31_20) dX10_isSo_60 ?_
    refine lv_topi (fun x_7 ex_7 => ?_)
    have hv8 : x_7 = mf43 pk := by rw [ex_7, nI_clamp (n := pk) (by omega)]
    refine lv_icmp_ne (tgt := 68) hx hb dX10_isSo_61 kc_t_61_7 (fun c_8 => ?_) (fun c_8 => ?_)
    · refine lv_iconst (v := 0) hx hb dX10_isSo_68 kc_i_0 ?_
      rw [hQ]
      exact W.zret (v := 0) hx hb hr rfl (fun t ht hW => ⟨0, rfl, ⟨fun z => absurd rfl z, fun z => absurd ((kSoP (by omega) ev9 hk9 c_4 (hr9.trans (hRR v9 hv9).2.2.1) hv8).mp z) c_8⟩, ht⟩) (fun _ h => nomatch h) dX10_isSo_69
    · refine lv_iconst (v := 1) hx hb dX10_isSo_64 kc_i_1 ?_
      refine lv_goto (tgt := 69) hx hb dX10_isSo_65 kc_t_65_4 ?_
      rw [hQ]
      exact W.zret (v := 1) hx hb hr rfl (fun t ht hW => ⟨1, rfl, ⟨fun _ => (kSoP (by omega) ev9 hk9 c_4 (hr9.trans (hRR v9 hv9).2.2.1) hv8).mpr c_8, fun _ => by decide⟩, ht⟩) (fun _ h => nomatch h) dX10_isSo_69
  · refine lv_aload_n hx hb dX10_isSo_16 rfl (lv_at hl 1 rfl) ?_
    refine va_get (D := (dC, dI)) (ci := 10) (v := .ref m28) (C := RX10) (T := TX10) (N := 52) hx hb hts (fun _ h => List.mem_cons_of_mem _ (List.mem_append_right _ h)) hown hK hP 0 rfl rfl 28 kc_l_28_52 (hts (.fieldLink RX10 59 "NotEndedModel" "holds" "[I") (List.mem_cons_of_mem _ (List.mem_append_left _ (List.mem_of_getElem? (i := 4) rfl)))) (fun _ h9 => h9) rfl dX10_isSo_17 ?_
    refine lv_iload_n hx hb dX10_isSo_20 rfl (lv_at hl 0 rfl) ?_
    have bd_9 : v9 < 10 := by omega
    refine va_iald hx hb hK hP 12 11 rfl rfl (vp_in_nI (n := v9) (N := 10) bd_9 kc_31_10) dX10_isSo_21 ?_
    refine lv_topi (fun x_10 ex_10 => ?_)
    have hr9 : x_10 = mf28 v9 := by rw [ex_10, nI_clamp (n := v9) (by omega)]
    refine lv_aload_n hx hb dX10_isSo_22 rfl (lv_at hl 1 rfl) ?_
    refine va_get (D := (dC, dI)) (ci := 10) (v := .ref m43) (C := RX10) (T := TX10) (N := 52) hx hb hts (fun _ h => List.mem_cons_of_mem _ (List.mem_append_right _ h)) hown hK hP 0 rfl rfl 43 kc_l_43_52 (hts (.fieldLink RX10 95 "NotEndedModel" "noteValue" "[I") (List.mem_cons_of_mem _ (List.mem_append_left _ (List.mem_of_getElem? (i := 3) rfl)))) (fun _ h9 => h9) rfl dX10_isSo_23 ?_
    refine lv_iload_n hx hb dX10_isSo_26 rfl (lv_at hl 2 rfl) ?_
    refine va_iald hx hb hK hP 24 23 rfl rfl (vp_in_nI (n := pk) (N := 20) bd_1 kc_31_20) dX10_isSo_27 ?_
    refine lv_topi (fun x_11 ex_11 => ?_)
    have hv8 : x_11 = mf43 pk := by rw [ex_11, nI_clamp (n := pk) (by omega)]
    refine lv_isub hx hb dX10_isSo_28 ?_
    refine lv_topi (fun x_12 ex_12 => ?_)
    refine va_mabs hx hb (hml.trans hl.1.symm) hown (hts (.methodLink RX10 334 Lib.Math.abs.name) (List.mem_cons_of_mem _ (List.mem_append_left _ (List.mem_of_getElem? (i := 5) rfl)))) (hts (.static Lib.Math.abs.name) (List.mem_cons_of_mem _ (List.mem_append_left _ (List.mem_of_getElem? (i := 6) rfl)))) (hts (.initialized RJ9) (List.mem_cons_of_mem _ (List.mem_append_left _ (List.mem_of_getElem? (i := 7) rfl)))) (hts (.code Lib.Math.abs.name Lib.Math.abs.code 1 (some .int)) (List.mem_cons_of_mem _ (List.mem_append_left _ (List.mem_of_getElem? (i := 8) rfl)))) (Nat.le_of_ble_eq_true rfl) (Nat.le_of_ble_eq_true rfl) (Nat.le_of_ble_eq_true rfl) (Nat.le_of_ble_eq_true rfl) dX10_isSo_29 ?_
    refine lv_topi (fun x_13 ex_13 => ?_)
    refine lv_aload_n hx hb dX10_isSo_32 rfl (lv_at hl 1 rfl) ?_
    refine va_get (D := (dC, dI)) (ci := 10) (v := .ref m44) (C := RX10) (T := TX10) (N := 52) hx hb hts (fun _ h => List.mem_cons_of_mem _ (List.mem_append_right _ h)) hown hK hP 0 rfl rfl 44 kc_l_44_52 (hts (.fieldLink RX10 98 "NotEndedModel" "noteOff" "[I") (List.mem_cons_of_mem _ (List.mem_append_left _ (List.mem_of_getElem? (i := 9) rfl)))) (fun _ h9 => h9) rfl dX10_isSo_33 ?_
    refine lv_iload_n hx hb dX10_isSo_36 rfl (lv_at hl 2 rfl) ?_
    refine va_iald hx hb hK hP 25 24 rfl rfl (vp_in_nI (n := pk) (N := 20) bd_1 kc_31_20) dX10_isSo_37 ?_
    refine lv_topi (fun x_14 ex_14 => ?_)
    have ho8 : x_14 = mf44 pk := by rw [ex_14, nI_clamp (n := pk) (by omega)]
    refine lv_icmp_gt (tgt := 45) hx hb dX10_isSo_38 kc_t_38_7 (fun c_15 => ?_) (fun c_15 => ?_)
    · refine lv_iconst (v := 0) hx hb dX10_isSo_45 kc_i_0 ?_
      refine lv_goto (tgt := 69) hx hb dX10_isSo_46 kc_t_46_23 ?_
      rw [hQ]
      exact W.zret (v := 0) hx hb hr rfl (fun t ht hW => ⟨0, rfl, ⟨fun z => absurd rfl z, fun z => absurd ((kSoH (by omega) ev9 hk9 c_4 ex_13 ex_12 (hr9.trans (hRR v9 hv9).1) hv8 ho8).mp z) (Int32.not_le.mpr c_15)⟩, ht⟩) (fun _ h => nomatch h) dX10_isSo_69
    · refine lv_iconst (v := 1) hx hb dX10_isSo_41 kc_i_1 ?_
      refine lv_goto (tgt := 69) hx hb dX10_isSo_42 kc_t_42_27 ?_
      rw [hQ]
      exact W.zret (v := 1) hx hb hr rfl (fun t ht hW => ⟨1, rfl, ⟨fun _ => (kSoH (by omega) ev9 hk9 c_4 ex_13 ex_12 (hr9.trans (hRR v9 hv9).1) hv8 ho8).mpr (Int32.not_lt.mp c_15), fun _ => by decide⟩, ht⟩) (fun _ h => nomatch h) dX10_isSo_69

def w_s_every10n : List Cond := .code yX10_everybody cX10_everybody 1 (some .int) :: ([.fieldLink RX10 250 "NotEndedModel" "persons" "I"] ++ (wsX100))
theorem gw_s_every10n : (w_s_every10n).all goodWord = true := kGc rfl (kGa (by decide +kernel) gw_wsX100)
set_option maxHeartbeats 4000000 in
set_option maxRecDepth 100000 in
theorem s_every10n (l : Launch) (dC : Nat → ClassId) (dI : Nat → Nat → Nat) (jM : Nat) (th : Int32) (thr : Int32) (xx : Int64) (v5 : Value) (v9 : Value) (v10 : Value) (v11 : Value) (v12 : Value) (v13 : Value) (v14 : Value) (v15 : Value) (v16 : Value) (v17 : Value) (v18 : Value) (m1 : Nat) (m2 : Nat) (m3 : Nat) (m4 : Nat) (m19 : Nat) (m20 : Nat) (m21 : Nat) (m22 : Nat) (m23 : Nat) (m24 : Nat) (m25 : Nat) (m28 : Nat) (m29 : Nat) (m30 : Nat) (m31 : Nat) (m32 : Nat) (m33 : Nat) (m34 : Nat) (m35 : Nat) (m36 : Nat) (m40 : Nat) (m41 : Nat) (m42 : Nat) (m43 : Nat) (m44 : Nat) (m46 : Nat) (m47 : Nat) (m48 : Nat) (m49 : Nat) (m50 : Nat) (mc1 : ClassId) (mc2 : ClassId) (mc3 : ClassId) (mc4 : ClassId) (mc19 : ClassId) (mc20 : ClassId) (mc21 : ClassId) (mc22 : ClassId) (mc23 : ClassId) (mc24 : ClassId) (mc25 : ClassId) (mc28 : ClassId) (mc29 : ClassId) (mc30 : ClassId) (mc31 : ClassId) (mc32 : ClassId) (mc33 : ClassId) (mc34 : ClassId) (mc35 : ClassId) (mc36 : ClassId) (mc40 : ClassId) (mc41 : ClassId) (mc42 : ClassId) (mc43 : ClassId) (mc44 : ClassId) (mc46 : ClassId) (mc47 : ClassId) (mc48 : ClassId) (mc49 : ClassId) (mc50 : ClassId) (mf1 : Nat → Int32) (mf2 : Nat → Int32) (mf3 : Nat → Int32) (mf4 : Nat → Int32) (mf19 : Nat → Int32) (mf20 : Nat → Int32) (mf21 : Nat → Int32) (mf22 : Nat → Int32) (mf23 : Nat → Int32) (mf24 : Nat → Int32) (mf25 : Nat → Int32) (mf28 : Nat → Int32) (mf29 : Nat → Int32) (mf30 : Nat → Int32) (mf31 : Nat → Int32) (mf32 : Nat → Int32) (mf33 : Nat → Int32) (mf34 : Nat → Int32) (mf35 : Nat → Int32) (mf36 : Nat → Int32) (mf40 : Nat → Int32) (mf41 : Nat → Int32) (mf42 : Nat → Int32) (mf43 : Nat → Int32) (mf44 : Nat → Int32) (mf46 : Nat → Int64) (mf47 : Nat → Int32) (mf48 : Nat → Int32) (mf49 : Nat → Int32) (mf50 : Nat → Int32) (ml : Nat) (mkl : Nat) (mku : Nat) (mps : Nat) (mkw : Nat) (ho : Nat) (mkn : Nat) (mka : Nat) (hml : ml ≤ 120) (hmkl : mkl ≤ 6) (hmku : mku ≤ 8) (hmps : mps ≤ 10) (hmkw : mkw ≤ 4) (hho : ho ≤ 48) (hmkn : mkn ≤ 20) (hmka : mka ≤ 6) : Met l yX10_everybody w_s_every10n ({ frames := 1, cells := 0, slots := 0, locals := 60 }) (kR dC dI [.ref jM] [(jM, .inr (10, [.int th, .ref m1, .ref m2, .ref m3, .ref m4, v5, .int (nI (ml)), .int (nI (mkl)), .int (nI (mku)), v9, v10, v11, v12, v13, v14, v15, v16, v17, v18, .ref m19, .ref m20, .ref m21, .ref m22, .ref m23, .ref m24, .ref m25, .int (nI (mps)), .int (nI (mkw)), .ref m28, .ref m29, .ref m30, .ref m31, .ref m32, .ref m33, .ref m34, .ref m35, .ref m36, .int thr, .int (nI (ho)), .long xx, .ref m40, .ref m41, .ref m42, .ref m43, .ref m44, .int (nI (mkn)), .ref m46, .ref m47, .ref m48, .ref m49, .ref m50, .int (nI (mka))])), (m1, .inl (mc1, 120, .inl mf1)), (m2, .inl (mc2, 1680, .inl mf2)), (m3, .inl (mc3, 14, .inl mf3)), (m4, .inl (mc4, 128, .inl mf4)), (m19, .inl (mc19, 10, .inl mf19)), (m20, .inl (mc20, 10, .inl mf20)), (m21, .inl (mc21, 10, .inl mf21)), (m22, .inl (mc22, 10, .inl mf22)), (m23, .inl (mc23, 10, .inl mf23)), (m24, .inl (mc24, 4, .inl mf24)), (m25, .inl (mc25, 10, .inl mf25)), (m28, .inl (mc28, 10, .inl mf28)), (m29, .inl (mc29, 10, .inl mf29)), (m30, .inl (mc30, 10, .inl mf30)), (m31, .inl (mc31, 10, .inl mf31)), (m32, .inl (mc32, 10, .inl mf32)), (m33, .inl (mc33, 10, .inl mf33)), (m34, .inl (mc34, 10, .inl mf34)), (m35, .inl (mc35, 10, .inl mf35)), (m36, .inl (mc36, 10, .inl mf36)), (m40, .inl (mc40, 20, .inl mf40)), (m41, .inl (mc41, 20, .inl mf41)), (m42, .inl (mc42, 20, .inl mf42)), (m43, .inl (mc43, 20, .inl mf43)), (m44, .inl (mc44, 20, .inl mf44)), (m46, .inl (mc46, 14, .inr (.inl mf46))), (m47, .inl (mc47, 6, .inl mf47)), (m48, .inl (mc48, 6, .inl mf48)), (m49, .inl (mc49, 6, .inl mf49)), (m50, .inl (mc50, 6, .inl mf50))] [(mc1, .byte), (mc2, .byte), (mc3, .int), (mc4, .int), (mc19, .int), (mc20, .int), (mc21, .int), (mc22, .int), (mc23, .int), (mc24, .int), (mc25, .boolean), (mc28, .int), (mc29, .int), (mc30, .int), (mc31, .int), (mc32, .int), (mc33, .int), (mc34, .int), (mc35, .int), (mc36, .int), (mc40, .int), (mc41, .int), (mc42, .int), (mc43, .int), (mc44, .int), (mc46, .long), (mc47, .int), (mc48, .int), (mc49, .int), (mc50, .int)] kT) (vp_Si (fun r : Int32 => r = nI (2 ^ mps - 1))) 0 0 (fun _ => False) := by
  refine Met.ofW (cc := cX10_everybody) (maxL := 1) (ret := (some .int)) (by decide) rfl ?_
  intro p e s m args below meth c s₁ B hml hv
  obtain ⟨rfl, hP, hK, hX⟩ := hv
  have hx := B.exec
  have hb := B.bytes
  have hr := B.returns
  have hts := atoms_spec (ws := w_s_every10n) B.pre
  have hown : s.vm.findClass RX10 = some m.cls := findClass_of_methodNamed B.named
  have hlocks := B.notSynchronized
  have hP : va_P (dC, dI) vwCl [(jM, .inr (10, [.int th, .ref m1, .ref m2, .ref m3, .ref m4, v5, .int (nI (ml)), .int (nI (mkl)), .int (nI (mku)), v9, v10, v11, v12, v13, v14, v15, v16, v17, v18, .ref m19, .ref m20, .ref m21, .ref m22, .ref m23, .ref m24, .ref m25, .int (nI (mps)), .int (nI (mkw)), .ref m28, .ref m29, .ref m30, .ref m31, .ref m32, .ref m33, .ref m34, .ref m35, .ref m36, .int thr, .int (nI (ho)), .long xx, .ref m40, .ref m41, .ref m42, .ref m43, .ref m44, .int (nI (mkn)), .ref m46, .ref m47, .ref m48, .ref m49, .ref m50, .int (nI (mka))])), (m1, .inl (mc1, 120, .inl mf1)), (m2, .inl (mc2, 1680, .inl mf2)), (m3, .inl (mc3, 14, .inl mf3)), (m4, .inl (mc4, 128, .inl mf4)), (m19, .inl (mc19, 10, .inl mf19)), (m20, .inl (mc20, 10, .inl mf20)), (m21, .inl (mc21, 10, .inl mf21)), (m22, .inl (mc22, 10, .inl mf22)), (m23, .inl (mc23, 10, .inl mf23)), (m24, .inl (mc24, 4, .inl mf24)), (m25, .inl (mc25, 10, .inl mf25)), (m28, .inl (mc28, 10, .inl mf28)), (m29, .inl (mc29, 10, .inl mf29)), (m30, .inl (mc30, 10, .inl mf30)), (m31, .inl (mc31, 10, .inl mf31)), (m32, .inl (mc32, 10, .inl mf32)), (m33, .inl (mc33, 10, .inl mf33)), (m34, .inl (mc34, 10, .inl mf34)), (m35, .inl (mc35, 10, .inl mf35)), (m36, .inl (mc36, 10, .inl mf36)), (m40, .inl (mc40, 20, .inl mf40)), (m41, .inl (mc41, 20, .inl mf41)), (m42, .inl (mc42, 20, .inl mf42)), (m43, .inl (mc43, 20, .inl mf43)), (m44, .inl (mc44, 20, .inl mf44)), (m46, .inl (mc46, 14, .inr (.inl mf46))), (m47, .inl (mc47, 6, .inl mf47)), (m48, .inl (mc48, 6, .inl mf48)), (m49, .inl (mc49, 6, .inl mf49)), (m50, .inl (mc50, 6, .inl mf50))] s.heap := hP
  have hl := lv_entry ([.ref jM]) (n := 1) (Nat.le_of_ble_eq_true rfl)
  rw [lg_entry_eq]
  generalize (lg_sl ([.ref jM]) ++ List.replicate (1 - (lg_sl ([.ref jM])).length) Slot.unset).toArray = ls at hl ⊢
  have hl : lv_has ls 1 [(0, .ref jM)] := hl
  refine kQ (fun Q hQ => ?_)
  refine lv_iconst (v := 1) hx hb dX10_everybody_0 kc_i_1 ?_
  refine lv_aload_n hx hb dX10_everybody_1 rfl (lv_at hl 0 rfl) ?_
  refine va_get (D := (dC, dI)) (ci := 10) (v := .int (nI (mps))) (C := RX10) (T := TX10) (N := 52) hx hb hts (fun _ h => List.mem_cons_of_mem _ (List.mem_append_right _ h)) hown hK hP 0 rfl rfl 26 kc_l_26_52 (hts (.fieldLink RX10 250 "NotEndedModel" "persons" "I") (List.mem_cons_of_mem _ (List.mem_append_left _ (List.mem_of_getElem? (i := 0) rfl)))) (fun _ h9 => h9) rfl dX10_everybody_2 ?_
  refine lv_ishl hx hb dX10_everybody_5 ?_
  refine lv_topi (fun x_1 ex_1 => ?_)
  refine lv_iconst (v := 1) hx hb dX10_everybody_6 kc_i_1 ?_
  refine lv_isub hx hb dX10_everybody_7 ?_
  refine lv_topi (fun x_2 ex_2 => ?_)
  rw [hQ]
  exact W.iret (v := x_2) hx hb hr (fun t ht hW => ⟨x_2, rfl, (by rw [← kEvb_n (ks := mps) (by omega)]; unfold kEvb; rw [ex_2, ex_1]), ht⟩) (fun _ h => nomatch h) dX10_everybody_8

def w_s_lower10x : List Cond := .code yX10_isLower cX10_isLower 3 (some .boolean) :: ([])
theorem gw_s_lower10x : (w_s_lower10x).all goodWord = true := kGc rfl kGn
set_option maxHeartbeats 4000000 in
set_option maxRecDepth 100000 in
theorem s_lower10x (l : Launch) (dC : Nat → ClassId) (dI : Nat → Nat → Nat) (p0 : Int32) (p1 : Int32) : Met l yX10_isLower w_s_lower10x ({ frames := 1, cells := 0, slots := 0, locals := 60 }) (kR dC dI [.int p0, .int p1] [] [] kT) (vp_Si (fun r : Int32 => r = kLwI p0 p1)) 0 0 (fun _ => False) := by
  refine Met.ofW (cc := cX10_isLower) (maxL := 3) (ret := (some .boolean)) (by decide) rfl ?_
  intro p e s m args below meth c s₁ B hml hv
  obtain ⟨rfl, hP, hK, hX⟩ := hv
  have hx := B.exec
  have hb := B.bytes
  have hr := B.returns
  have hts := atoms_spec (ws := w_s_lower10x) B.pre
  have hown : s.vm.findClass RX10 = some m.cls := findClass_of_methodNamed B.named
  have hlocks := B.notSynchronized
  have hP : va_P (dC, dI) vwCl [] s.heap := hP
  have hl := lv_entry ([.int p0, .int p1]) (n := 3) (Nat.le_of_ble_eq_true rfl)
  rw [lg_entry_eq]
  generalize (lg_sl ([.int p0, .int p1]) ++ List.replicate (3 - (lg_sl ([.int p0, .int p1])).length) Slot.unset).toArray = ls at hl ⊢
  have hl : lv_has ls 3 [(0, .int p0), (1, .int p1)] := hl
  refine kQ (fun Q hQ => ?_)
  refine lv_iload_n hx hb dX10_isLower_0 rfl (lv_at hl 0 rfl) ?_
  refine lv_iload_n hx hb dX10_isLower_1 rfl (lv_at hl 1 rfl) ?_
  refine lv_ixor hx hb dX10_isLower_2 ?_
  refine lv_topi (fun x_1 ex_1 => ?_)
  refine lv_istore_n hx hb dX10_isLower_3 rfl hl kc_l_2_3 (kTo [(2, .int x_1), (0, .int p0), (1, .int p1)]) (fun ls hl => ?_)
  refine lv_iload_n hx hb dX10_isLower_4 rfl (lv_at hl 1 rfl) ?_
  refine lv_iload_n hx hb dX10_isLower_5 rfl (lv_at hl 0 rfl) ?_
  refine lv_iand hx hb dX10_isLower_6 ?_
  refine lv_topi (fun x_2 ex_2 => ?_)
  refine lv_iload_n hx hb dX10_isLower_7 rfl (lv_at hl 0 rfl) ?_
  refine lv_ineg hx hb dX10_isLower_8 ?_
  refine lv_topi (fun x_3 ex_3 => ?_)
  refine lv_iand hx hb dX10_isLower_9 ?_
  refine lv_topi (fun x_4 ex_4 => ?_)
  refine lv_if_eq (tgt := 17) hx hb dX10_isLower_10 kc_t_10_7 (fun c_5 => ?_) (fun c_5 => ?_)
  · refine lv_iconst (v := 0) hx hb dX10_isLower_17 kc_i_0 ?_
    rw [hQ]
    exact W.zret (v := 0) hx hb hr rfl (fun t ht hW => ⟨0, rfl, (by unfold kLwI; rw [ex_4, ex_3, ex_2, ex_1] at c_5; rw [if_pos c_5]), ht⟩) (fun _ h => nomatch h) dX10_isLower_18
  · refine lv_iconst (v := 1) hx hb dX10_isLower_13 kc_i_1 ?_
    refine lv_goto (tgt := 18) hx hb dX10_isLower_14 kc_t_14_4 ?_
    rw [hQ]
    exact W.zret (v := 1) hx hb hr rfl (fun t ht hW => ⟨1, rfl, (by unfold kLwI; rw [ex_4, ex_3, ex_2, ex_1] at c_5; rw [if_neg c_5]), ht⟩) (fun _ h => nomatch h) dX10_isLower_18
end
section
theorem dX10_holders_0 : decode cX10_holders 0 = .ok (.aload_n 0, 1) := by decide +kernel
theorem dX10_holders_1 : decode cX10_holders 1 = .ok (.iload_n 1, 1) := by decide +kernel
theorem dX10_holders_10 : decode cX10_holders 10 = .ok (.invokevirtual 328, 3) := by decide +kernel
theorem dX10_holders_13 : decode cX10_holders 13 = .ok (.iconst (-1), 1) := by decide +kernel
theorem dX10_holders_14 : decode cX10_holders 14 = .ok (.ixor, 1) := by decide +kernel
theorem dX10_holders_15 : decode cX10_holders 15 = .ok (.iand, 1) := by decide +kernel
theorem dX10_holders_16 : decode cX10_holders 16 = .ok (.iload 4, 2) := by decide +kernel
theorem dX10_holders_18 : decode cX10_holders 18 = .ok (.ior, 1) := by decide +kernel
theorem dX10_holders_19 : decode cX10_holders 19 = .ok (.invokevirtual 317, 3) := by decide +kernel
theorem dX10_holders_2 : decode cX10_holders 2 = .ok (.lload_n 2, 1) := by decide +kernel
theorem dX10_holders_22 : decode cX10_holders 22 = .ok (.iconst 0, 1) := by decide +kernel
theorem dX10_holders_23 : decode cX10_holders 23 = .ok (.istore 5, 2) := by decide +kernel
theorem dX10_holders_25 : decode cX10_holders 25 = .ok (.iconst 0, 1) := by decide +kernel
theorem dX10_holders_26 : decode cX10_holders 26 = .ok (.istore 6, 2) := by decide +kernel
theorem dX10_holders_28 : decode cX10_holders 28 = .ok (.iload 6, 2) := by decide +kernel
theorem dX10_holders_3 : decode cX10_holders 3 = .ok (.bipush 48, 2) := by decide +kernel
theorem dX10_holders_30 : decode cX10_holders 30 = .ok (.aload_n 0, 1) := by decide +kernel
theorem dX10_holders_31 : decode cX10_holders 31 = .ok (.getfield 250, 3) := by decide +kernel
theorem dX10_holders_34 : decode cX10_holders 34 = .ok (.if_icmp .ge 44, 3) := by decide +kernel
theorem dX10_holders_37 : decode cX10_holders 37 = .ok (.iload 5, 2) := by decide +kernel
theorem dX10_holders_39 : decode cX10_holders 39 = .ok (.aload_n 0, 1) := by decide +kernel
theorem dX10_holders_40 : decode cX10_holders 40 = .ok (.getfield 55, 3) := by decide +kernel
theorem dX10_holders_43 : decode cX10_holders 43 = .ok (.iload 6, 2) := by decide +kernel
theorem dX10_holders_45 : decode cX10_holders 45 = .ok (.baload, 1) := by decide +kernel
theorem dX10_holders_46 : decode cX10_holders 46 = .ok (.ifCond .ne 22, 3) := by decide +kernel
theorem dX10_holders_49 : decode cX10_holders 49 = .ok (.aload_n 0, 1) := by decide +kernel
theorem dX10_holders_5 : decode cX10_holders 5 = .ok (.aload_n 0, 1) := by decide +kernel
theorem dX10_holders_50 : decode cX10_holders 50 = .ok (.getfield 59, 3) := by decide +kernel
theorem dX10_holders_53 : decode cX10_holders 53 = .ok (.iload 6, 2) := by decide +kernel
theorem dX10_holders_55 : decode cX10_holders 55 = .ok (.iaload, 1) := by decide +kernel
theorem dX10_holders_56 : decode cX10_holders 56 = .ok (.bipush 50, 2) := by decide +kernel
theorem dX10_holders_58 : decode cX10_holders 58 = .ok (.if_icmp .lt 10, 3) := by decide +kernel
theorem dX10_holders_6 : decode cX10_holders 6 = .ok (.invokevirtual 314, 3) := by decide +kernel
theorem dX10_holders_61 : decode cX10_holders 61 = .ok (.iconst 1, 1) := by decide +kernel
theorem dX10_holders_62 : decode cX10_holders 62 = .ok (.iload 6, 2) := by decide +kernel
theorem dX10_holders_64 : decode cX10_holders 64 = .ok (.ishl, 1) := by decide +kernel
theorem dX10_holders_65 : decode cX10_holders 65 = .ok (.goto 4, 3) := by decide +kernel
theorem dX10_holders_68 : decode cX10_holders 68 = .ok (.iconst 0, 1) := by decide +kernel
theorem dX10_holders_69 : decode cX10_holders 69 = .ok (.ior, 1) := by decide +kernel
theorem dX10_holders_70 : decode cX10_holders 70 = .ok (.istore 5, 2) := by decide +kernel
theorem dX10_holders_72 : decode cX10_holders 72 = .ok (.iinc 6 1, 3) := by decide +kernel
theorem dX10_holders_75 : decode cX10_holders 75 = .ok (.goto (-47), 3) := by decide +kernel
theorem dX10_holders_78 : decode cX10_holders 78 = .ok (.iload 5, 2) := by decide +kernel
theorem dX10_holders_80 : decode cX10_holders 80 = .ok (.ireturn, 1) := by decide +kernel
theorem dX10_holders_9 : decode cX10_holders 9 = .ok (.aload_n 0, 1) := by decide +kernel
end
section
theorem dX10_worth_0 : decode cX10_worth 0 = .ok (.aload_n 0, 1) := by decide +kernel
theorem dX10_worth_1 : decode cX10_worth 1 = .ok (.aload_n 0, 1) := by decide +kernel
theorem dX10_worth_2 : decode cX10_worth 2 = .ok (.iload_n 1, 1) := by decide +kernel
theorem dX10_worth_3 : decode cX10_worth 3 = .ok (.invokevirtual 311, 3) := by decide +kernel
theorem dX10_worth_6 : decode cX10_worth 6 = .ok (.ifCond .eq 24, 3) := by decide +kernel
theorem dX10_worth_30 : decode cX10_worth 30 = .ok (.iconst 1, 1) := by decide +kernel
theorem dX10_worth_31 : decode cX10_worth 31 = .ok (.putfield 117, 3) := by decide +kernel
theorem dX10_worth_34 : decode cX10_worth 34 = .ok (.aload_n 0, 1) := by decide +kernel
theorem dX10_worth_35 : decode cX10_worth 35 = .ok (.getfield 117, 3) := by decide +kernel
theorem dX10_worth_38 : decode cX10_worth 38 = .ok (.ifCond .le 5, 3) := by decide +kernel
theorem dX10_worth_41 : decode cX10_worth 41 = .ok (.iconst 0, 1) := by decide +kernel
theorem dX10_worth_42 : decode cX10_worth 42 = .ok (.ireturn, 1) := by decide +kernel
theorem dX10_worth_9 : decode cX10_worth 9 = .ok (.iload_n 2, 1) := by decide +kernel
theorem dX10_worth_10 : decode cX10_worth 10 = .ok (.iconst 0, 1) := by decide +kernel
theorem dX10_worth_11 : decode cX10_worth 11 = .ok (.iconst 2, 1) := by decide +kernel
theorem dX10_worth_12 : decode cX10_worth 12 = .ok (.invokestatic 236, 3) := by decide +kernel
theorem dX10_worth_15 : decode cX10_worth 15 = .ok (.ifCond .eq 15, 3) := by decide +kernel
theorem dX10_worth_18 : decode cX10_worth 18 = .ok (.aload_n 0, 1) := by decide +kernel
theorem dX10_worth_19 : decode cX10_worth 19 = .ok (.iload_n 3, 1) := by decide +kernel
theorem dX10_worth_20 : decode cX10_worth 20 = .ok (.invokevirtual 253, 3) := by decide +kernel
theorem dX10_worth_23 : decode cX10_worth 23 = .ok (.ifCond .eq 7, 3) := by decide +kernel
theorem dX10_worth_26 : decode cX10_worth 26 = .ok (.iconst 0, 1) := by decide +kernel
theorem dX10_worth_27 : decode cX10_worth 27 = .ok (.goto 4, 3) := by decide +kernel
theorem dX10_worth_43 : decode cX10_worth 43 = .ok (.aload_n 0, 1) := by decide +kernel
theorem dX10_worth_44 : decode cX10_worth 44 = .ok (.aload_n 0, 1) := by decide +kernel
theorem dX10_worth_45 : decode cX10_worth 45 = .ok (.invokevirtual 314, 3) := by decide +kernel
theorem dX10_worth_48 : decode cX10_worth 48 = .ok (.lconst 0, 1) := by decide +kernel
theorem dX10_worth_49 : decode cX10_worth 49 = .ok (.invokevirtual 303, 3) := by decide +kernel
theorem dX10_worth_52 : decode cX10_worth 52 = .ok (.aload_n 0, 1) := by decide +kernel
theorem dX10_worth_53 : decode cX10_worth 53 = .ok (.iload_n 3, 1) := by decide +kernel
theorem dX10_worth_54 : decode cX10_worth 54 = .ok (.invokevirtual 287, 3) := by decide +kernel
theorem dX10_worth_57 : decode cX10_worth 57 = .ok (.aload_n 0, 1) := by decide +kernel
theorem dX10_worth_58 : decode cX10_worth 58 = .ok (.iload_n 1, 1) := by decide +kernel
theorem dX10_worth_59 : decode cX10_worth 59 = .ok (.iconst 0, 1) := by decide +kernel
theorem dX10_worth_60 : decode cX10_worth 60 = .ok (.iload_n 2, 1) := by decide +kernel
theorem dX10_worth_61 : decode cX10_worth 61 = .ok (.ifCond .ne 8, 3) := by decide +kernel
theorem dX10_worth_69 : decode cX10_worth 69 = .ok (.iload_n 2, 1) := by decide +kernel
theorem dX10_worth_70 : decode cX10_worth 70 = .ok (.iconst 1, 1) := by decide +kernel
theorem dX10_worth_71 : decode cX10_worth 71 = .ok (.if_icmp .ne 8, 3) := by decide +kernel
theorem dX10_worth_79 : decode cX10_worth 79 = .ok (.bipush 120, 2) := by decide +kernel
theorem dX10_worth_81 : decode cX10_worth 81 = .ok (.invokevirtual 290, 3) := by decide +kernel
theorem dX10_worth_84 : decode cX10_worth 84 = .ok (.ireturn, 1) := by decide +kernel
theorem dX10_worth_74 : decode cX10_worth 74 = .ok (.bipush 103, 2) := by decide +kernel
theorem dX10_worth_76 : decode cX10_worth 76 = .ok (.goto 5, 3) := by decide +kernel
theorem dX10_worth_64 : decode cX10_worth 64 = .ok (.bipush 121, 2) := by decide +kernel
theorem dX10_worth_66 : decode cX10_worth 66 = .ok (.goto 15, 3) := by decide +kernel
def w_s_worth10 : List Cond := .code yX10_worth cX10_worth 4 (some .int) :: ([.initialized RX10, .selects RX10 yX10_isLaw yX10_isLaw, .instanceMethod yX10_isLaw, .methodLink RX10 311 yX10_isLaw, .fieldLink RX10 117 "NotEndedModel" "thrown" "I", .static yX10_isIn, .methodLink RX10 236 yX10_isIn, .selects RX10 yX10_isPerson yX10_isPerson, .instanceMethod yX10_isPerson, .methodLink RX10 253 yX10_isPerson, .selects RX10 yX10_everybody yX10_everybody, .instanceMethod yX10_everybody, .methodLink RX10 314 yX10_everybody, .selects RX10 yX10_begin yX10_begin, .instanceMethod yX10_begin, .methodLink RX10 303 yX10_begin, .selects RX10 yX10_layLetters yX10_layLetters, .instanceMethod yX10_layLetters, .methodLink RX10 287 yX10_layLetters, .selects RX10 yX10_worthOf yX10_worthOf, .instanceMethod yX10_worthOf, .methodLink RX10 290 yX10_worthOf] ++ (w_s_isLaw10x ++ (wsX100 ++ (w_s_isIn10 ++ (w_s_isPerson10r ++ (w_s_every10x ++ (w_s_begin10x ++ (w_s_lay10x ++ (w_s_worthOf10_0)))))))))
theorem gw_s_worth10 : (w_s_worth10).all goodWord = true := kGc rfl (kGa (by decide +kernel) (kGa gw_s_isLaw10x (kGa gw_wsX100 (kGa gw_s_isIn10 (kGa gw_s_isPerson10r (kGa gw_s_every10x (kGa gw_s_begin10x (kGa gw_s_lay10x gw_s_worthOf10_0))))))))
theorem hd_X10_worth : yX10_worth.cls ≠ "java/lang/invoke/MethodHandle" ∧ yX10_worth.cls ≠ "java/lang/invoke/VarHandle" ∧ (parseMethodDescriptor yX10_worth.desc).map (fun d => d.parameters.length) = some 3 := by decide +kernel
set_option maxHeartbeats 4000000 in
set_option maxRecDepth 100000 in
theorem s_worth10 (l : Launch) (dC : Nat → ClassId) (dI : Nat → Nat → Nat) (jM : Nat) (th : Int32) (thr : Int32) (xx : Int64) (v5 : Value) (v9 : Value) (v10 : Value) (v11 : Value) (v12 : Value) (v13 : Value) (v14 : Value) (v15 : Value) (v16 : Value) (v17 : Value) (v18 : Value) (m1 : Nat) (m2 : Nat) (m3 : Nat) (m4 : Nat) (m19 : Nat) (m20 : Nat) (m21 : Nat) (m22 : Nat) (m23 : Nat) (m24 : Nat) (m25 : Nat) (m28 : Nat) (m29 : Nat) (m30 : Nat) (m31 : Nat) (m32 : Nat) (m33 : Nat) (m34 : Nat) (m35 : Nat) (m36 : Nat) (m40 : Nat) (m41 : Nat) (m42 : Nat) (m43 : Nat) (m44 : Nat) (m46 : Nat) (m47 : Nat) (m48 : Nat) (m49 : Nat) (m50 : Nat) (mc1 : ClassId) (mc2 : ClassId) (mc3 : ClassId) (mc4 : ClassId) (mc19 : ClassId) (mc20 : ClassId) (mc21 : ClassId) (mc22 : ClassId) (mc23 : ClassId) (mc24 : ClassId) (mc25 : ClassId) (mc28 : ClassId) (mc29 : ClassId) (mc30 : ClassId) (mc31 : ClassId) (mc32 : ClassId) (mc33 : ClassId) (mc34 : ClassId) (mc35 : ClassId) (mc36 : ClassId) (mc40 : ClassId) (mc41 : ClassId) (mc42 : ClassId) (mc43 : ClassId) (mc44 : ClassId) (mc46 : ClassId) (mc47 : ClassId) (mc48 : ClassId) (mc49 : ClassId) (mc50 : ClassId) (mf1 : Nat → Int32) (mf2 : Nat → Int32) (mf3 : Nat → Int32) (mf4 : Nat → Int32) (mf19 : Nat → Int32) (mf20 : Nat → Int32) (mf21 : Nat → Int32) (mf22 : Nat → Int32) (mf23 : Nat → Int32) (mf24 : Nat → Int32) (mf25 : Nat → Int32) (mf28 : Nat → Int32) (mf29 : Nat → Int32) (mf30 : Nat → Int32) (mf31 : Nat → Int32) (mf32 : Nat → Int32) (mf33 : Nat → Int32) (mf34 : Nat → Int32) (mf35 : Nat → Int32) (mf36 : Nat → Int32) (mf40 : Nat → Int32) (mf41 : Nat → Int32) (mf42 : Nat → Int32) (mf43 : Nat → Int32) (mf44 : Nat → Int32) (mf46 : Nat → Int64) (mf47 : Nat → Int32) (mf48 : Nat → Int32) (mf49 : Nat → Int32) (mf50 : Nat → Int32) (ml : Nat) (mkl : Nat) (mku : Nat) (mps : Nat) (mkw : Nat) (ho : Nat) (mkn : Nat) (mka : Nat) (hml : ml ≤ 120) (hmkl : mkl ≤ 6) (hmku : mku ≤ 8) (hmps : mps ≤ 10) (hmkw : mkw ≤ 4) (hho : ho ≤ 48) (hmkn : mkn ≤ 20) (hmka : mka ≤ 6) (ad : Nat → Nat) (bA : Nat) (nA : Nat) (xA : Nat → Int32) (hnA : nA ≤ 8) (bB : Nat) (nB : Nat) (xB : Nat → Int32) (hnB : nB ≤ 8) (bE : Nat) (nE : Nat) (xE : Nat → Int32) (hnE : nE ≤ 8) (bG : Nat) (nG : Nat) (xG : Nat → Int32) (hnG : nG ≤ 8) (gnA : ∀ k : Nat, ∃ v : Nat, v < 128 ∧ xA k = nI v) (gnB : ∀ k : Nat, ∃ v : Nat, v < 128 ∧ xB k = nI v) (gnE : ∀ k : Nat, ∃ v : Nat, v < 128 ∧ xE k = nI v) (gnG : ∀ k : Nat, ∃ v : Nat, v < 128 ∧ xG k = nI v) (hzA : kIx xA nA (nI 0) = nA) (hzB : kIx xB nB (nI 0) = nB) (hzE : kIx xE nE (nI 0) = nE) (hzG : kIx xG nG (nI 0) = nG) (hlB : ∀ c : Nat, c < 256 → kIx xB nB (nI c) < nB → ¬ c = 91 ∧ ¬ (48 ≤ c ∧ c ≤ 57)) (hlG : ∀ c : Nat, c < 256 → kIx xG nG (nI c) < nG → ¬ c = 91 ∧ ¬ (48 ≤ c ∧ c ≤ 57)) (yL : Nat → List kTr) (yU : Nat → List kTr) (hUl : kUn mf2 mf3 0 mkl xA nA xB nB yL) (hUt : kUn mf2 mf3 6 mku xE nE xG nG yU) (hE9 : nE = 1 ∧ xE 0 = 119) (hG9 : nG = 5 ∧ ∀ k : Nat, k < 5 → xG k = nI (97 + k)) (G0 : Nat → Int32) (G1 : Nat → Int32) (G2 : Nat → Int32) (G3 : Nat → Int32) (G4 : Nat → Int32) (SV : Nat) (hTd : kTd mps mkw G0 G1 G2 G3 G4 SV mf19 mf20 mf21 mf22 mf24 mf25) (hOk0 : kOk mps (kS0 G0 G1 G2 0)) (hA9 : nA = 3 ∧ xA 0 = 121 ∧ xA 1 = 103 ∧ xA 2 = 120) (hB9 : nB = 8 ∧ ∀ k : Nat, k < 8 → xB k = nI (kSg8 k)) (hSV : SV < 1024) (p0 : Int32) (p1 : Int32) (p2 : Int32) (sz : Nat) : Met l yX10_worth w_s_worth10 ({ frames := 65, cells := 0, slots := 0, locals := 3900 }) (kW dC dI [.ref jM, .int p0, .int p1, .int p2] [(jM, .inr (10, [.int th, .ref m1, .ref m2, .ref m3, .ref m4, v5, .int (nI (ml)), .int (nI (mkl)), .int (nI (mku)), v9, v10, v11, v12, v13, v14, v15, v16, v17, v18, .ref m19, .ref m20, .ref m21, .ref m22, .ref m23, .ref m24, .ref m25, .int (nI (mps)), .int (nI (mkw)), .ref m28, .ref m29, .ref m30, .ref m31, .ref m32, .ref m33, .ref m34, .ref m35, .ref m36, .int thr, .int (nI (ho)), .long xx, .ref m40, .ref m41, .ref m42, .ref m43, .ref m44, .int (nI (mkn)), .ref m46, .ref m47, .ref m48, .ref m49, .ref m50, .int (nI (mka))])), (m1, .inl (mc1, 120, .inl mf1)), (m2, .inl (mc2, 1680, .inl mf2)), (m3, .inl (mc3, 14, .inl mf3)), (m4, .inl (mc4, 128, .inl mf4)), (m19, .inl (mc19, 10, .inl mf19)), (m20, .inl (mc20, 10, .inl mf20)), (m21, .inl (mc21, 10, .inl mf21)), (m22, .inl (mc22, 10, .inl mf22)), (m23, .inl (mc23, 10, .inl mf23)), (m24, .inl (mc24, 4, .inl mf24)), (m25, .inl (mc25, 10, .inl mf25)), (m28, .inl (mc28, 10, .inl mf28)), (m29, .inl (mc29, 10, .inl mf29)), (m30, .inl (mc30, 10, .inl mf30)), (m31, .inl (mc31, 10, .inl mf31)), (m32, .inl (mc32, 10, .inl mf32)), (m33, .inl (mc33, 10, .inl mf33)), (m34, .inl (mc34, 10, .inl mf34)), (m35, .inl (mc35, 10, .inl mf35)), (m36, .inl (mc36, 10, .inl mf36)), (m40, .inl (mc40, 20, .inl mf40)), (m41, .inl (mc41, 20, .inl mf41)), (m42, .inl (mc42, 20, .inl mf42)), (m43, .inl (mc43, 20, .inl mf43)), (m44, .inl (mc44, 20, .inl mf44)), (m46, .inl (mc46, 14, .inr (.inl mf46))), (m47, .inl (mc47, 6, .inl mf47)), (m48, .inl (mc48, 6, .inl mf48)), (m49, .inl (mc49, 6, .inl mf49)), (m50, .inl (mc50, 6, .inl mf50))] [(mc1, .byte), (mc2, .byte), (mc3, .int), (mc4, .int), (mc19, .int), (mc20, .int), (mc21, .int), (mc22, .int), (mc23, .int), (mc24, .int), (mc25, .boolean), (mc28, .int), (mc29, .int), (mc30, .int), (mc31, .int), (mc32, .int), (mc33, .int), (mc34, .int), (mc35, .int), (mc36, .int), (mc40, .int), (mc41, .int), (mc42, .int), (mc43, .int), (mc44, .int), (mc46, .long), (mc47, .int), (mc48, .int), (mc49, .int), (mc50, .int)] (kMx ad bA nA xA bB nB xB bE nE xE bG nG xG (va_A [(jM, .inr (10, [.int th, .ref m1, .ref m2, .ref m3, .ref m4, v5, .int (nI (ml)), .int (nI (mkl)), .int (nI (mku)), v9, v10, v11, v12, v13, v14, v15, v16, v17, v18, .ref m19, .ref m20, .ref m21, .ref m22, .ref m23, .ref m24, .ref m25, .int (nI (mps)), .int (nI (mkw)), .ref m28, .ref m29, .ref m30, .ref m31, .ref m32, .ref m33, .ref m34, .ref m35, .ref m36, .int thr, .int (nI (ho)), .long xx, .ref m40, .ref m41, .ref m42, .ref m43, .ref m44, .int (nI (mkn)), .ref m46, .ref m47, .ref m48, .ref m49, .ref m50, .int (nI (mka))])), (m1, .inl (mc1, 120, .inl mf1)), (m2, .inl (mc2, 1680, .inl mf2)), (m3, .inl (mc3, 14, .inl mf3)), (m4, .inl (mc4, 128, .inl mf4)), (m19, .inl (mc19, 10, .inl mf19)), (m20, .inl (mc20, 10, .inl mf20)), (m21, .inl (mc21, 10, .inl mf21)), (m22, .inl (mc22, 10, .inl mf22)), (m23, .inl (mc23, 10, .inl mf23)), (m24, .inl (mc24, 4, .inl mf24)), (m25, .inl (mc25, 10, .inl mf25)), (m28, .inl (mc28, 10, .inl mf28)), (m29, .inl (mc29, 10, .inl mf29)), (m30, .inl (mc30, 10, .inl mf30)), (m31, .inl (mc31, 10, .inl mf31)), (m32, .inl (mc32, 10, .inl mf32)), (m33, .inl (mc33, 10, .inl mf33)), (m34, .inl (mc34, 10, .inl mf34)), (m35, .inl (mc35, 10, .inl mf35)), (m36, .inl (mc36, 10, .inl mf36)), (m40, .inl (mc40, 20, .inl mf40)), (m41, .inl (mc41, 20, .inl mf41)), (m42, .inl (mc42, 20, .inl mf42)), (m43, .inl (mc43, 20, .inl mf43)), (m44, .inl (mc44, 20, .inl mf44)), (m46, .inl (mc46, 14, .inr (.inl mf46))), (m47, .inl (mc47, 6, .inl mf47)), (m48, .inl (mc48, 6, .inl mf48)), (m49, .inl (mc49, 6, .inl mf49)), (m50, .inl (mc50, 6, .inl mf50))] sz)) sz) (va_Qi (fun (r : Int32) (u : (Nat → Int32) × (Nat → Int32) × (Nat → Int32) × (Nat → Int32) × (Nat → Int32) × (Nat → Int32) × (Nat → Int32) × (Nat → Int32) × (Nat → Int32) × (Nat → Int32) × Int32 × Int32 × Nat × Int64 × Value × Value × Value × Value × Value × Value × Value × Value × Value × Value × Value) => match u with | (S4, S28, S29, S30, S31, S32, S33, S34, S35, S36, Th0, Th, Ho, Xx, W5, W9, W10, W11, W12, W13, W14, W15, W16, W17, W18) => ((Th0 = kWoE mkl mps p0 p1 p2 ∧ (kWoE mkl mps p0 p1 p2 = 0 → r = kWoV mkl mps mkw G0 G1 G2 G3 G4 SV yL p0 p1 p2)) ∧ Ho ≤ 48)) (fun (u : (Nat → Int32) × (Nat → Int32) × (Nat → Int32) × (Nat → Int32) × (Nat → Int32) × (Nat → Int32) × (Nat → Int32) × (Nat → Int32) × (Nat → Int32) × (Nat → Int32) × Int32 × Int32 × Nat × Int64 × Value × Value × Value × Value × Value × Value × Value × Value × Value × Value × Value) => match u with | (S4, S28, S29, S30, S31, S32, S33, S34, S35, S36, Th0, Th, Ho, Xx, W5, W9, W10, W11, W12, W13, W14, W15, W16, W17, W18) => fun t : State => kB dC dI [(jM, .inr (10, [.int Th0, .ref m1, .ref m2, .ref m3, .ref m4, W5, .int (nI (ml)), .int (nI (mkl)), .int (nI (mku)), W9, W10, W11, W12, W13, W14, W15, W16, W17, W18, .ref m19, .ref m20, .ref m21, .ref m22, .ref m23, .ref m24, .ref m25, .int (nI (mps)), .int (nI (mkw)), .ref m28, .ref m29, .ref m30, .ref m31, .ref m32, .ref m33, .ref m34, .ref m35, .ref m36, .int Th, .int (nI (Ho)), .long Xx, .ref m40, .ref m41, .ref m42, .ref m43, .ref m44, .int (nI (mkn)), .ref m46, .ref m47, .ref m48, .ref m49, .ref m50, .int (nI (mka))])), (m1, .inl (mc1, 120, .inl mf1)), (m2, .inl (mc2, 1680, .inl mf2)), (m3, .inl (mc3, 14, .inl mf3)), (m4, .inl (mc4, 128, .inl S4)), (m19, .inl (mc19, 10, .inl mf19)), (m20, .inl (mc20, 10, .inl mf20)), (m21, .inl (mc21, 10, .inl mf21)), (m22, .inl (mc22, 10, .inl mf22)), (m23, .inl (mc23, 10, .inl mf23)), (m24, .inl (mc24, 4, .inl mf24)), (m25, .inl (mc25, 10, .inl mf25)), (m28, .inl (mc28, 10, .inl S28)), (m29, .inl (mc29, 10, .inl S29)), (m30, .inl (mc30, 10, .inl S30)), (m31, .inl (mc31, 10, .inl S31)), (m32, .inl (mc32, 10, .inl S32)), (m33, .inl (mc33, 10, .inl S33)), (m34, .inl (mc34, 10, .inl S34)), (m35, .inl (mc35, 10, .inl S35)), (m36, .inl (mc36, 10, .inl S36)), (m40, .inl (mc40, 20, .inl mf40)), (m41, .inl (mc41, 20, .inl mf41)), (m42, .inl (mc42, 20, .inl mf42)), (m43, .inl (mc43, 20, .inl mf43)), (m44, .inl (mc44, 20, .inl mf44)), (m46, .inl (mc46, 14, .inr (.inl mf46))), (m47, .inl (mc47, 6, .inl mf47)), (m48, .inl (mc48, 6, .inl mf48)), (m49, .inl (mc49, 6, .inl mf49)), (m50, .inl (mc50, 6, .inl mf50))] [(mc1, .byte), (mc2, .byte), (mc3, .int), (mc4, .int), (mc19, .int), (mc20, .int), (mc21, .int), (mc22, .int), (mc23, .int), (mc24, .int), (mc25, .boolean), (mc28, .int), (mc29, .int), (mc30, .int), (mc31, .int), (mc32, .int), (mc33, .int), (mc34, .int), (mc35, .int), (mc36, .int), (mc40, .int), (mc41, .int), (mc42, .int), (mc43, .int), (mc44, .int), (mc46, .long), (mc47, .int), (mc48, .int), (mc49, .int), (mc50, .int)] (va_A [(jM, .inr (10, [.int th, .ref m1, .ref m2, .ref m3, .ref m4, v5, .int (nI (ml)), .int (nI (mkl)), .int (nI (mku)), v9, v10, v11, v12, v13, v14, v15, v16, v17, v18, .ref m19, .ref m20, .ref m21, .ref m22, .ref m23, .ref m24, .ref m25, .int (nI (mps)), .int (nI (mkw)), .ref m28, .ref m29, .ref m30, .ref m31, .ref m32, .ref m33, .ref m34, .ref m35, .ref m36, .int thr, .int (nI (ho)), .long xx, .ref m40, .ref m41, .ref m42, .ref m43, .ref m44, .int (nI (mkn)), .ref m46, .ref m47, .ref m48, .ref m49, .ref m50, .int (nI (mka))])), (m1, .inl (mc1, 120, .inl mf1)), (m2, .inl (mc2, 1680, .inl mf2)), (m3, .inl (mc3, 14, .inl mf3)), (m4, .inl (mc4, 128, .inl mf4)), (m19, .inl (mc19, 10, .inl mf19)), (m20, .inl (mc20, 10, .inl mf20)), (m21, .inl (mc21, 10, .inl mf21)), (m22, .inl (mc22, 10, .inl mf22)), (m23, .inl (mc23, 10, .inl mf23)), (m24, .inl (mc24, 4, .inl mf24)), (m25, .inl (mc25, 10, .inl mf25)), (m28, .inl (mc28, 10, .inl mf28)), (m29, .inl (mc29, 10, .inl mf29)), (m30, .inl (mc30, 10, .inl mf30)), (m31, .inl (mc31, 10, .inl mf31)), (m32, .inl (mc32, 10, .inl mf32)), (m33, .inl (mc33, 10, .inl mf33)), (m34, .inl (mc34, 10, .inl mf34)), (m35, .inl (mc35, 10, .inl mf35)), (m36, .inl (mc36, 10, .inl mf36)), (m40, .inl (mc40, 20, .inl mf40)), (m41, .inl (mc41, 20, .inl mf41)), (m42, .inl (mc42, 20, .inl mf42)), (m43, .inl (mc43, 20, .inl mf43)), (m44, .inl (mc44, 20, .inl mf44)), (m46, .inl (mc46, 14, .inr (.inl mf46))), (m47, .inl (mc47, 6, .inl mf47)), (m48, .inl (mc48, 6, .inl mf48)), (m49, .inl (mc49, 6, .inl mf49)), (m50, .inl (mc50, 6, .inl mf50))] sz) t) (va_A [(jM, .inr (10, [.int th, .ref m1, .ref m2, .ref m3, .ref m4, v5, .int (nI (ml)), .int (nI (mkl)), .int (nI (mku)), v9, v10, v11, v12, v13, v14, v15, v16, v17, v18, .ref m19, .ref m20, .ref m21, .ref m22, .ref m23, .ref m24, .ref m25, .int (nI (mps)), .int (nI (mkw)), .ref m28, .ref m29, .ref m30, .ref m31, .ref m32, .ref m33, .ref m34, .ref m35, .ref m36, .int thr, .int (nI (ho)), .long xx, .ref m40, .ref m41, .ref m42, .ref m43, .ref m44, .int (nI (mkn)), .ref m46, .ref m47, .ref m48, .ref m49, .ref m50, .int (nI (mka))])), (m1, .inl (mc1, 120, .inl mf1)), (m2, .inl (mc2, 1680, .inl mf2)), (m3, .inl (mc3, 14, .inl mf3)), (m4, .inl (mc4, 128, .inl mf4)), (m19, .inl (mc19, 10, .inl mf19)), (m20, .inl (mc20, 10, .inl mf20)), (m21, .inl (mc21, 10, .inl mf21)), (m22, .inl (mc22, 10, .inl mf22)), (m23, .inl (mc23, 10, .inl mf23)), (m24, .inl (mc24, 4, .inl mf24)), (m25, .inl (mc25, 10, .inl mf25)), (m28, .inl (mc28, 10, .inl mf28)), (m29, .inl (mc29, 10, .inl mf29)), (m30, .inl (mc30, 10, .inl mf30)), (m31, .inl (mc31, 10, .inl mf31)), (m32, .inl (mc32, 10, .inl mf32)), (m33, .inl (mc33, 10, .inl mf33)), (m34, .inl (mc34, 10, .inl mf34)), (m35, .inl (mc35, 10, .inl mf35)), (m36, .inl (mc36, 10, .inl mf36)), (m40, .inl (mc40, 20, .inl mf40)), (m41, .inl (mc41, 20, .inl mf41)), (m42, .inl (mc42, 20, .inl mf42)), (m43, .inl (mc43, 20, .inl mf43)), (m44, .inl (mc44, 20, .inl mf44)), (m46, .inl (mc46, 14, .inr (.inl mf46))), (m47, .inl (mc47, 6, .inl mf47)), (m48, .inl (mc48, 6, .inl mf48)), (m49, .inl (mc49, 6, .inl mf49)), (m50, .inl (mc50, 6, .inl mf50))] sz)) 0 0 (va_A [(jM, .inr (10, [.int th, .ref m1, .ref m2, .ref m3, .ref m4, v5, .int (nI (ml)), .int (nI (mkl)), .int (nI (mku)), v9, v10, v11, v12, v13, v14, v15, v16, v17, v18, .ref m19, .ref m20, .ref m21, .ref m22, .ref m23, .ref m24, .ref m25, .int (nI (mps)), .int (nI (mkw)), .ref m28, .ref m29, .ref m30, .ref m31, .ref m32, .ref m33, .ref m34, .ref m35, .ref m36, .int thr, .int (nI (ho)), .long xx, .ref m40, .ref m41, .ref m42, .ref m43, .ref m44, .int (nI (mkn)), .ref m46, .ref m47, .ref m48, .ref m49, .ref m50, .int (nI (mka))])), (m1, .inl (mc1, 120, .inl mf1)), (m2, .inl (mc2, 1680, .inl mf2)), (m3, .inl (mc3, 14, .inl mf3)), (m4, .inl (mc4, 128, .inl mf4)), (m19, .inl (mc19, 10, .inl mf19)), (m20, .inl (mc20, 10, .inl mf20)), (m21, .inl (mc21, 10, .inl mf21)), (m22, .inl (mc22, 10, .inl mf22)), (m23, .inl (mc23, 10, .inl mf23)), (m24, .inl (mc24, 4, .inl mf24)), (m25, .inl (mc25, 10, .inl mf25)), (m28, .inl (mc28, 10, .inl mf28)), (m29, .inl (mc29, 10, .inl mf29)), (m30, .inl (mc30, 10, .inl mf30)), (m31, .inl (mc31, 10, .inl mf31)), (m32, .inl (mc32, 10, .inl mf32)), (m33, .inl (mc33, 10, .inl mf33)), (m34, .inl (mc34, 10, .inl mf34)), (m35, .inl (mc35, 10, .inl mf35)), (m36, .inl (mc36, 10, .inl mf36)), (m40, .inl (mc40, 20, .inl mf40)), (m41, .inl (mc41, 20, .inl mf41)), (m42, .inl (mc42, 20, .inl mf42)), (m43, .inl (mc43, 20, .inl mf43)), (m44, .inl (mc44, 20, .inl mf44)), (m46, .inl (mc46, 14, .inr (.inl mf46))), (m47, .inl (mc47, 6, .inl mf47)), (m48, .inl (mc48, 6, .inl mf48)), (m49, .inl (mc49, 6, .inl mf49)), (m50, .inl (mc50, 6, .inl mf50))] sz) := by
  refine Met.ofW (cc := cX10_worth) (maxL := 4) (ret := (some .int)) (by decide) rfl ?_
  intro p e s m args below meth c s₁ B hml hv
  obtain ⟨rfl, hsz, hP, hK, hD0, hX⟩ := hv
  have hx := B.exec
  have hb := B.bytes
  have hr := B.returns
  have hts := atoms_spec (ws := w_s_worth10) B.pre
  have hown : s.vm.findClass RX10 = some m.cls := findClass_of_methodNamed B.named
  have hlocks := B.notSynchronized
  subst hsz
  have hD := hD0.self (sz := s.heap.size)
  generalize hAe : va_A [(jM, .inr (10, [.int th, .ref m1, .ref m2, .ref m3, .ref m4, v5, .int (nI (ml)), .int (nI (mkl)), .int (nI (mku)), v9, v10, v11, v12, v13, v14, v15, v16, v17, v18, .ref m19, .ref m20, .ref m21, .ref m22, .ref m23, .ref m24, .ref m25, .int (nI (mps)), .int (nI (mkw)), .ref m28, .ref m29, .ref m30, .ref m31, .ref m32, .ref m33, .ref m34, .ref m35, .ref m36, .int thr, .int (nI (ho)), .long xx, .ref m40, .ref m41, .ref m42, .ref m43, .ref m44, .int (nI (mkn)), .ref m46, .ref m47, .ref m48, .ref m49, .ref m50, .int (nI (mka))])), (m1, .inl (mc1, 120, .inl mf1)), (m2, .inl (mc2, 1680, .inl mf2)), (m3, .inl (mc3, 14, .inl mf3)), (m4, .inl (mc4, 128, .inl mf4)), (m19, .inl (mc19, 10, .inl mf19)), (m20, .inl (mc20, 10, .inl mf20)), (m21, .inl (mc21, 10, .inl mf21)), (m22, .inl (mc22, 10, .inl mf22)), (m23, .inl (mc23, 10, .inl mf23)), (m24, .inl (mc24, 4, .inl mf24)), (m25, .inl (mc25, 10, .inl mf25)), (m28, .inl (mc28, 10, .inl mf28)), (m29, .inl (mc29, 10, .inl mf29)), (m30, .inl (mc30, 10, .inl mf30)), (m31, .inl (mc31, 10, .inl mf31)), (m32, .inl (mc32, 10, .inl mf32)), (m33, .inl (mc33, 10, .inl mf33)), (m34, .inl (mc34, 10, .inl mf34)), (m35, .inl (mc35, 10, .inl mf35)), (m36, .inl (mc36, 10, .inl mf36)), (m40, .inl (mc40, 20, .inl mf40)), (m41, .inl (mc41, 20, .inl mf41)), (m42, .inl (mc42, 20, .inl mf42)), (m43, .inl (mc43, 20, .inl mf43)), (m44, .inl (mc44, 20, .inl mf44)), (m46, .inl (mc46, 14, .inr (.inl mf46))), (m47, .inl (mc47, 6, .inl mf47)), (m48, .inl (mc48, 6, .inl mf48)), (m49, .inl (mc49, 6, .inl mf49)), (m50, .inl (mc50, 6, .inl mf50))] s.heap.size = A at hD hX ⊢
  have hA : ∀ q : Nat, s.heap.size ≤ q → A q := fun q h => by rw [← hAe]; exact Or.inr h
  have hS : va_S A s.heap s.heap [] := va_S.rf
  have hP : va_P (dC, dI) vwCl [(jM, .inr (10, [.int th, .ref m1, .ref m2, .ref m3, .ref m4, v5, .int (nI (ml)), .int (nI (mkl)), .int (nI (mku)), v9, v10, v11, v12, v13, v14, v15, v16, v17, v18, .ref m19, .ref m20, .ref m21, .ref m22, .ref m23, .ref m24, .ref m25, .int (nI (mps)), .int (nI (mkw)), .ref m28, .ref m29, .ref m30, .ref m31, .ref m32, .ref m33, .ref m34, .ref m35, .ref m36, .int thr, .int (nI (ho)), .long xx, .ref m40, .ref m41, .ref m42, .ref m43, .ref m44, .int (nI (mkn)), .ref m46, .ref m47, .ref m48, .ref m49, .ref m50, .int (nI (mka))])), (m1, .inl (mc1, 120, .inl mf1)), (m2, .inl (mc2, 1680, .inl mf2)), (m3, .inl (mc3, 14, .inl mf3)), (m4, .inl (mc4, 128, .inl mf4)), (m19, .inl (mc19, 10, .inl mf19)), (m20, .inl (mc20, 10, .inl mf20)), (m21, .inl (mc21, 10, .inl mf21)), (m22, .inl (mc22, 10, .inl mf22)), (m23, .inl (mc23, 10, .inl mf23)), (m24, .inl (mc24, 4, .inl mf24)), (m25, .inl (mc25, 10, .inl mf25)), (m28, .inl (mc28, 10, .inl mf28)), (m29, .inl (mc29, 10, .inl mf29)), (m30, .inl (mc30, 10, .inl mf30)), (m31, .inl (mc31, 10, .inl mf31)), (m32, .inl (mc32, 10, .inl mf32)), (m33, .inl (mc33, 10, .inl mf33)), (m34, .inl (mc34, 10, .inl mf34)), (m35, .inl (mc35, 10, .inl mf35)), (m36, .inl (mc36, 10, .inl mf36)), (m40, .inl (mc40, 20, .inl mf40)), (m41, .inl (mc41, 20, .inl mf41)), (m42, .inl (mc42, 20, .inl mf42)), (m43, .inl (mc43, 20, .inl mf43)), (m44, .inl (mc44, 20, .inl mf44)), (m46, .inl (mc46, 14, .inr (.inl mf46))), (m47, .inl (mc47, 6, .inl mf47)), (m48, .inl (mc48, 6, .inl mf48)), (m49, .inl (mc49, 6, .inl mf49)), (m50, .inl (mc50, 6, .inl mf50))] s.heap := hP
  have hl := lv_entry ([.ref jM, .int p0, .int p1, .int p2]) (n := 4) (Nat.le_of_ble_eq_true rfl)
  rw [lg_entry_eq]
  generalize (lg_sl ([.ref jM, .int p0, .int p1, .int p2]) ++ List.replicate (4 - (lg_sl ([.ref jM, .int p0, .int p1, .int p2])).length) Slot.unset).toArray = ls at hl ⊢
  have hl : lv_has ls 4 [(0, .ref jM), (1, .int p0), (2, .int p1), (3, .int p2)] := hl
  refine kQ (fun Q hQ => ?_)
  refine lv_aload_n hx hb dX10_worth_0 rfl (lv_at hl 0 rfl) ?_
  refine lv_aload_n hx hb dX10_worth_1 rfl (lv_at hl 0 rfl) ?_
  refine lv_iload_n hx hb dX10_worth_2 rfl (lv_at hl 1 rfl) ?_
  have bd_1 : ml ≤ 120 := by omega
  have hPc := hP.sb (ws2 := [(jM, .inr (10, [.int th, .ref m1, .ref m2, .ref m3, .ref m4, v5, .int (nI (ml)), .int (nI (mkl)), .int (nI (mku)), v9, v10, v11, v12, v13, v14, v15, v16, v17, v18, .ref m19, .ref m20, .ref m21, .ref m22, .ref m23, .ref m24, .ref m25, .int (nI (mps)), .int (nI (mkw)), .ref m28, .ref m29, .ref m30, .ref m31, .ref m32, .ref m33, .ref m34, .ref m35, .ref m36, .int thr, .int (nI (ho)), .long xx, .ref m40, .ref m41, .ref m42, .ref m43, .ref m44, .int (nI (mkn)), .ref m46, .ref m47, .ref m48, .ref m49, .ref m50, .int (nI (mka))])), (m1, .inl (mc1, 120, .inl mf1)), (m2, .inl (mc2, 1680, .inl mf2)), (m3, .inl (mc3, 14, .inl mf3)), (m4, .inl (mc4, 128, .inl mf4)), (m19, .inl (mc19, 10, .inl mf19)), (m20, .inl (mc20, 10, .inl mf20)), (m21, .inl (mc21, 10, .inl mf21)), (m22, .inl (mc22, 10, .inl mf22)), (m23, .inl (mc23, 10, .inl mf23)), (m24, .inl (mc24, 4, .inl mf24)), (m25, .inl (mc25, 10, .inl mf25)), (m28, .inl (mc28, 10, .inl mf28)), (m29, .inl (mc29, 10, .inl mf29)), (m30, .inl (mc30, 10, .inl mf30)), (m31, .inl (mc31, 10, .inl mf31)), (m32, .inl (mc32, 10, .inl mf32)), (m33, .inl (mc33, 10, .inl mf33)), (m34, .inl (mc34, 10, .inl mf34)), (m35, .inl (mc35, 10, .inl mf35)), (m36, .inl (mc36, 10, .inl mf36)), (m40, .inl (mc40, 20, .inl mf40)), (m41, .inl (mc41, 20, .inl mf41)), (m42, .inl (mc42, 20, .inl mf42)), (m43, .inl (mc43, 20, .inl mf43)), (m44, .inl (mc44, 20, .inl mf44)), (m46, .inl (mc46, 14, .inr (.inl mf46))), (m47, .inl (mc47, 6, .inl mf47)), (m48, .inl (mc48, 6, .inl mf48)), (m49, .inl (mc49, 6, .inl mf49)), (m50, .inl (mc50, 6, .inl mf50))]) [0, 1, 2, 3, 4, 5, 6, 7, 8, 9, 10, 11, 12, 13, 14, 15, 16, 17, 18, 19, 20, 21, 22, 23, 24, 25, 26, 27, 28, 29, 30] rfl
  have hKc := hK.sb (tys2 := [(mc1, .byte), (mc2, .byte), (mc3, .int), (mc4, .int), (mc19, .int), (mc20, .int), (mc21, .int), (mc22, .int), (mc23, .int), (mc24, .int), (mc25, .boolean), (mc28, .int), (mc29, .int), (mc30, .int), (mc31, .int), (mc32, .int), (mc33, .int), (mc34, .int), (mc35, .int), (mc36, .int), (mc40, .int), (mc41, .int), (mc42, .int), (mc43, .int), (mc44, .int), (mc46, .long), (mc47, .int), (mc48, .int), (mc49, .int), (mc50, .int)]) [0, 1, 2, 3, 4, 5, 6, 7, 8, 9, 10, 11, 12, 13, 14, 15, 16, 17, 18, 19, 20, 21, 22, 23, 24, 25, 26, 27, 28, 29] rfl
  refine vp_callSi (va_runV (As := [.int p0]) (rest := [.ref jM]) ⟨hx, hb, hml, hown, hts⟩ (s_isLaw10x l dC dI jM th thr xx (v5 : Value) (v9 : Value) (v10 : Value) (v11 : Value) (v12 : Value) (v13 : Value) (v14 : Value) (v15 : Value) (v16 : Value) (v17 : Value) (v18 : Value) m1 m2 m3 m4 m19 m20 m21 m22 m23 m24 m25 m28 m29 m30 m31 m32 m33 m34 m35 m36 m40 m41 m42 m43 m44 m46 m47 m48 m49 m50 mc1 mc2 mc3 mc4 mc19 mc20 mc21 mc22 mc23 mc24 mc25 mc28 mc29 mc30 mc31 mc32 mc33 mc34 mc35 mc36 mc40 mc41 mc42 mc43 mc44 mc46 mc47 mc48 mc49 mc50 mf1 mf2 mf3 mf4 mf19 mf20 mf21 mf22 mf23 mf24 mf25 mf28 mf29 mf30 mf31 mf32 mf33 mf34 mf35 mf36 mf40 mf41 mf42 mf43 mf44 mf46 mf47 mf48 mf49 mf50 ml mkl mku mps mkw ho mkn mka bd_1 hmkl hmku hmps hmkw hho hmkn hmka p0) (cwV 1 hts (kG (List.forall_mem_cons.mpr ⟨(List.mem_cons_of_mem _ (List.mem_append_left _ (List.mem_of_getElem? (i := 3) rfl))), (List.forall_mem_cons.mpr ⟨(List.mem_cons_of_mem _ (List.mem_append_left _ (List.mem_of_getElem? (i := 2) rfl))), (List.forall_mem_cons.mpr ⟨(List.mem_cons_of_mem _ (List.mem_append_left _ (List.mem_of_getElem? (i := 1) rfl))), (List.forall_mem_cons.mpr ⟨(List.mem_cons_of_mem _ (List.mem_append_left _ (List.mem_of_getElem? (i := 0) rfl))), (fun _ h => absurd h List.not_mem_nil)⟩)⟩)⟩)⟩) (kGV _ _ _ _) (fun _ h => List.mem_cons_of_mem _ (List.mem_append_right _ (List.mem_append_left _ h))) gw_s_isLaw10x) rfl rfl rfl ⟨rfl, hd_X10_isLaw⟩ ⟨(Nat.le_of_ble_eq_true rfl), (Nat.le_of_ble_eq_true rfl)⟩) (kR_V kT_blind kT_give (va_recv hKc hPc (ci := 10) (q0 := 0) rfl rfl) hPc hKc) rfl rfl hl.1 rfl (lv_room (Nat.le_of_ble_eq_true rfl)) dX10_worth_3 ⟨(Nat.le_of_ble_eq_true rfl), (Nat.le_of_ble_eq_true rfl)⟩).run (fun r_2 hw => ?_)
  obtain ⟨hw_3, hw_3_x⟩ := hw
  refine lv_if_eq (tgt := 30) hx hb dX10_worth_6 kc_t_6_24 (fun c_4 => ?_) (fun c_4 => ?_)
  · have ff_5 := kZr hw_3_x c_4
    refine lv_iconst (v := 1) hx hb dX10_worth_30 kc_i_1 ?_
    refine va_put (D := (dC, dI)) (ci := 10) (v := .int 1) (ty := tyX10 0) (C := RX10) (T := TX10) (N := 52) hx hb hts (fun _ h => List.mem_cons_of_mem _ (List.mem_append_right _ (List.mem_append_right _ (List.mem_append_left _ h)))) tyX10 tyX10_ok nmX10 hown hK hP hD hS 0 rfl rfl 0 kc_l_0_52 (hts (.fieldLink RX10 117 "NotEndedModel" "thrown" "I") (List.mem_cons_of_mem _ (List.mem_append_left _ (List.mem_of_getElem? (i := 4) rfl)))) (fun _ h9 => h9) rfl (tyX10_ok 0 kc_l_0_52) rfl rfl (Nat.le_of_ble_eq_true rfl) dX10_worth_31 (fun H locs hP hD hS => ?_)
    have hPD : kPD dC dI A [(jM, .inr (10, [.int 1, .ref m1, .ref m2, .ref m3, .ref m4, v5, .int (nI (ml)), .int (nI (mkl)), .int (nI (mku)), v9, v10, v11, v12, v13, v14, v15, v16, v17, v18, .ref m19, .ref m20, .ref m21, .ref m22, .ref m23, .ref m24, .ref m25, .int (nI (mps)), .int (nI (mkw)), .ref m28, .ref m29, .ref m30, .ref m31, .ref m32, .ref m33, .ref m34, .ref m35, .ref m36, .int thr, .int (nI (ho)), .long xx, .ref m40, .ref m41, .ref m42, .ref m43, .ref m44, .int (nI (mkn)), .ref m46, .ref m47, .ref m48, .ref m49, .ref m50, .int (nI (mka))])), (m1, .inl (mc1, 120, .inl mf1)), (m2, .inl (mc2, 1680, .inl mf2)), (m3, .inl (mc3, 14, .inl mf3)), (m4, .inl (mc4, 128, .inl mf4)), (m19, .inl (mc19, 10, .inl mf19)), (m20, .inl (mc20, 10, .inl mf20)), (m21, .inl (mc21, 10, .inl mf21)), (m22, .inl (mc22, 10, .inl mf22)), (m23, .inl (mc23, 10, .inl mf23)), (m24, .inl (mc24, 4, .inl mf24)), (m25, .inl (mc25, 10, .inl mf25)), (m28, .inl (mc28, 10, .inl mf28)), (m29, .inl (mc29, 10, .inl mf29)), (m30, .inl (mc30, 10, .inl mf30)), (m31, .inl (mc31, 10, .inl mf31)), (m32, .inl (mc32, 10, .inl mf32)), (m33, .inl (mc33, 10, .inl mf33)), (m34, .inl (mc34, 10, .inl mf34)), (m35, .inl (mc35, 10, .inl mf35)), (m36, .inl (mc36, 10, .inl mf36)), (m40, .inl (mc40, 20, .inl mf40)), (m41, .inl (mc41, 20, .inl mf41)), (m42, .inl (mc42, 20, .inl mf42)), (m43, .inl (mc43, 20, .inl mf43)), (m44, .inl (mc44, 20, .inl mf44)), (m46, .inl (mc46, 14, .inr (.inl mf46))), (m47, .inl (mc47, 6, .inl mf47)), (m48, .inl (mc48, 6, .inl mf48)), (m49, .inl (mc49, 6, .inl mf49)), (m50, .inl (mc50, 6, .inl mf50))] H := ⟨hP, hD⟩
    obtain ⟨hP, hD⟩ := hPD
    refine lv_aload_n hx hb dX10_worth_34 rfl (lv_at hl 0 rfl) ?_
    refine va_get (D := (dC, dI)) (ci := 10) (v := .int 1) (C := RX10) (T := TX10) (N := 52) hx hb hts (fun _ h => List.mem_cons_of_mem _ (List.mem_append_right _ (List.mem_append_right _ (List.mem_append_left _ h)))) hown hK hP 0 rfl rfl 0 kc_l_0_52 (hts (.fieldLink RX10 117 "NotEndedModel" "thrown" "I") (List.mem_cons_of_mem _ (List.mem_append_left _ (List.mem_of_getElem? (i := 4) rfl)))) (fun _ h9 => h9) rfl dX10_worth_35 ?_
    refine lv_if_le (tgt := 43) hx hb dX10_worth_38 kc_t_38_5 (fun c_6 => absurd c_6 (by decide)) (fun c_6 => ?_)
    refine lv_iconst (v := 0) hx hb dX10_worth_41 kc_i_0 ?_
    have hP9 := hP
    have hD9 := hD
    have hK9 := hK
    rw [hQ]
    exact W.iret (v := 0) hx hb hr (fun t ht hW => ⟨⟨0, (mf4, mf28, mf29, mf30, mf31, mf32, mf33, mf34, mf35, mf36, 1, thr, ho, xx, (v5 : Value), (v9 : Value), (v10 : Value), (v11 : Value), (v12 : Value), (v13 : Value), (v14 : Value), (v15 : Value), (v16 : Value), (v17 : Value), (v18 : Value)), rfl, ⟨(kTh1 (by unfold kWoE; rw [if_pos ff_5])), by omega⟩,  by rw [ht]; exact hP9, va_K.moved hW.alike hK9, hD9⟩, hS.F ht⟩) hS.2.2 dX10_worth_42
  · have ff_7 := kNzr hw_3_x c_4
    obtain ⟨j_8, hj_8, ej_8⟩ := hw_3 c_4
    subst ej_8
    refine lv_iload_n hx hb dX10_worth_9 rfl (lv_at hl 2 rfl) ?_
    refine lv_iconst (v := 0) hx hb dX10_worth_10 kc_i_0 ?_
    refine lv_iconst (v := 2) hx hb dX10_worth_11 kc_i_2 ?_
    have hPc := hP.sb (ws2 := []) [] rfl
    have hKc := hK.sb (tys2 := []) [] rfl
    refine vp_callSi (va_runS (As := [.int p1, .int 0, .int 2]) (rest := [.ref jM]) ⟨hx, hb, hml, hown, hts⟩ (s_isIn10 l dC dI p1 0 2) (va_cwS 3 hts (kG (List.forall_mem_cons.mpr ⟨(List.mem_cons_of_mem _ (List.mem_append_left _ (List.mem_of_getElem? (i := 6) rfl))), (List.forall_mem_cons.mpr ⟨(List.mem_cons_of_mem _ (List.mem_append_left _ (List.mem_of_getElem? (i := 5) rfl))), (List.forall_mem_cons.mpr ⟨(List.mem_cons_of_mem _ (List.mem_append_left _ (List.mem_of_getElem? (i := 0) rfl))), (fun _ h => absurd h List.not_mem_nil)⟩)⟩)⟩) (kGS _ _ _) (fun _ h => List.mem_cons_of_mem _ (List.mem_append_right _ (List.mem_append_right _ (List.mem_append_right _ (List.mem_append_left _ h))))) gw_s_isIn10) rfl rfl rfl hd_X10_isIn ⟨(Nat.le_of_ble_eq_true rfl), (Nat.le_of_ble_eq_true rfl)⟩) (kR_S kT_blind kT_give hPc hKc) rfl rfl hl.1 rfl (lv_room (Nat.le_of_ble_eq_true rfl)) dX10_worth_12 ⟨(Nat.le_of_ble_eq_true rfl), (Nat.le_of_ble_eq_true rfl)⟩).run (fun r_9 hw => ?_)
    have hw_10 := hw
    refine lv_if_eq (tgt := 30) hx hb dX10_worth_15 kc_t_15_15 (fun c_11 => ?_) (fun c_11 => ?_)
    · have ff_12 := kZr hw_10 c_11
      refine lv_iconst (v := 1) hx hb dX10_worth_30 kc_i_1 ?_
      refine va_put (D := (dC, dI)) (ci := 10) (v := .int 1) (ty := tyX10 0) (C := RX10) (T := TX10) (N := 52) hx hb hts (fun _ h => List.mem_cons_of_mem _ (List.mem_append_right _ (List.mem_append_right _ (List.mem_append_left _ h)))) tyX10 tyX10_ok nmX10 hown hK hP hD hS 0 rfl rfl 0 kc_l_0_52 (hts (.fieldLink RX10 117 "NotEndedModel" "thrown" "I") (List.mem_cons_of_mem _ (List.mem_append_left _ (List.mem_of_getElem? (i := 4) rfl)))) (fun _ h9 => h9) rfl (tyX10_ok 0 kc_l_0_52) rfl rfl (Nat.le_of_ble_eq_true rfl) dX10_worth_31 (fun H locs hP hD hS => ?_)
      have hPD : kPD dC dI A [(jM, .inr (10, [.int 1, .ref m1, .ref m2, .ref m3, .ref m4, v5, .int (nI (ml)), .int (nI (mkl)), .int (nI (mku)), v9, v10, v11, v12, v13, v14, v15, v16, v17, v18, .ref m19, .ref m20, .ref m21, .ref m22, .ref m23, .ref m24, .ref m25, .int (nI (mps)), .int (nI (mkw)), .ref m28, .ref m29, .ref m30, .ref m31, .ref m32, .ref m33, .ref m34, .ref m35, .ref m36, .int thr, .int (nI (ho)), .long xx, .ref m40, .ref m41, .ref m42, .ref m43, .ref m44, .int (nI (mkn)), .ref m46, .ref m47, .ref m48, .ref m49, .ref m50, .int (nI (mka))])), (m1, .inl (mc1, 120, .inl mf1)), (m2, .inl (mc2, 1680, .inl mf2)), (m3, .inl (mc3, 14, .inl mf3)), (m4, .inl (mc4, 128, .inl mf4)), (m19, .inl (mc19, 10, .inl mf19)), (m20, .inl (mc20, 10, .inl mf20)), (m21, .inl (mc21, 10, .inl mf21)), (m22, .inl (mc22, 10, .inl mf22)), (m23, .inl (mc23, 10, .inl mf23)), (m24, .inl (mc24, 4, .inl mf24)), (m25, .inl (mc25, 10, .inl mf25)), (m28, .inl (mc28, 10, .inl mf28)), (m29, .inl (mc29, 10, .inl mf29)), (m30, .inl (mc30, 10, .inl mf30)), (m31, .inl (mc31, 10, .inl mf31)), (m32, .inl (mc32, 10, .inl mf32)), (m33, .inl (mc33, 10, .inl mf33)), (m34, .inl (mc34, 10, .inl mf34)), (m35, .inl (mc35, 10, .inl mf35)), (m36, .inl (mc36, 10, .inl mf36)), (m40, .inl (mc40, 20, .inl mf40)), (m41, .inl (mc41, 20, .inl mf41)), (m42, .inl (mc42, 20, .inl mf42)), (m43, .inl (mc43, 20, .inl mf43)), (m44, .inl (mc44, 20, .inl mf44)), (m46, .inl (mc46, 14, .inr (.inl mf46))), (m47, .inl (mc47, 6, .inl mf47)), (m48, .inl (mc48, 6, .inl mf48)), (m49, .inl (mc49, 6, .inl mf49)), (m50, .inl (mc50, 6, .inl mf50))] H := ⟨hP, hD⟩
      obtain ⟨hP, hD⟩ := hPD
      refine lv_aload_n hx hb dX10_worth_34 rfl (lv_at hl 0 rfl) ?_
      refine va_get (D := (dC, dI)) (ci := 10) (v := .int 1) (C := RX10) (T := TX10) (N := 52) hx hb hts (fun _ h => List.mem_cons_of_mem _ (List.mem_append_right _ (List.mem_append_right _ (List.mem_append_left _ h)))) hown hK hP 0 rfl rfl 0 kc_l_0_52 (hts (.fieldLink RX10 117 "NotEndedModel" "thrown" "I") (List.mem_cons_of_mem _ (List.mem_append_left _ (List.mem_of_getElem? (i := 4) rfl)))) (fun _ h9 => h9) rfl dX10_worth_35 ?_
      refine lv_if_le (tgt := 43) hx hb dX10_worth_38 kc_t_38_5 (fun c_13 => absurd c_13 (by decide)) (fun c_13 => ?_)
      refine lv_iconst (v := 0) hx hb dX10_worth_41 kc_i_0 ?_
      have hP9 := hP
      have hD9 := hD
      have hK9 := hK
      rw [hQ]
      exact W.iret (v := 0) hx hb hr (fun t ht hW => ⟨⟨0, (mf4, mf28, mf29, mf30, mf31, mf32, mf33, mf34, mf35, mf36, 1, thr, ho, xx, (v5 : Value), (v9 : Value), (v10 : Value), (v11 : Value), (v12 : Value), (v13 : Value), (v14 : Value), (v15 : Value), (v16 : Value), (v17 : Value), (v18 : Value)), rfl, ⟨(kTh1 (by unfold kWoE; rw [if_neg ff_7, if_pos ff_12])), by omega⟩,  by rw [ht]; exact hP9, va_K.moved hW.alike hK9, hD9⟩, hS.F ht⟩) hS.2.2 dX10_worth_42
    · have ff_14 := kNzr hw_10 c_11
      obtain ⟨j_15, hj_15, ej_15⟩ := kIn_ix (n := 2) (by decide) ff_14
      subst ej_15
      refine lv_aload_n hx hb dX10_worth_18 rfl (lv_at hl 0 rfl) ?_
      refine lv_iload_n hx hb dX10_worth_19 rfl (lv_at hl 3 rfl) ?_
      have hPc := hP.sb (ws2 := [(jM, .inr (10, [.int th, .ref m1, .ref m2, .ref m3, .ref m4, v5, .int (nI (ml)), .int (nI (mkl)), .int (nI (mku)), v9, v10, v11, v12, v13, v14, v15, v16, v17, v18, .ref m19, .ref m20, .ref m21, .ref m22, .ref m23, .ref m24, .ref m25, .int (nI (mps)), .int (nI (mkw)), .ref m28, .ref m29, .ref m30, .ref m31, .ref m32, .ref m33, .ref m34, .ref m35, .ref m36, .int thr, .int (nI (ho)), .long xx, .ref m40, .ref m41, .ref m42, .ref m43, .ref m44, .int (nI (mkn)), .ref m46, .ref m47, .ref m48, .ref m49, .ref m50, .int (nI (mka))])), (m1, .inl (mc1, 120, .inl mf1)), (m2, .inl (mc2, 1680, .inl mf2)), (m3, .inl (mc3, 14, .inl mf3)), (m4, .inl (mc4, 128, .inl mf4)), (m19, .inl (mc19, 10, .inl mf19)), (m20, .inl (mc20, 10, .inl mf20)), (m21, .inl (mc21, 10, .inl mf21)), (m22, .inl (mc22, 10, .inl mf22)), (m23, .inl (mc23, 10, .inl mf23)), (m24, .inl (mc24, 4, .inl mf24)), (m25, .inl (mc25, 10, .inl mf25)), (m28, .inl (mc28, 10, .inl mf28)), (m29, .inl (mc29, 10, .inl mf29)), (m30, .inl (mc30, 10, .inl mf30)), (m31, .inl (mc31, 10, .inl mf31)), (m32, .inl (mc32, 10, .inl mf32)), (m33, .inl (mc33, 10, .inl mf33)), (m34, .inl (mc34, 10, .inl mf34)), (m35, .inl (mc35, 10, .inl mf35)), (m36, .inl (mc36, 10, .inl mf36)), (m40, .inl (mc40, 20, .inl mf40)), (m41, .inl (mc41, 20, .inl mf41)), (m42, .inl (mc42, 20, .inl mf42)), (m43, .inl (mc43, 20, .inl mf43)), (m44, .inl (mc44, 20, .inl mf44)), (m46, .inl (mc46, 14, .inr (.inl mf46))), (m47, .inl (mc47, 6, .inl mf47)), (m48, .inl (mc48, 6, .inl mf48)), (m49, .inl (mc49, 6, .inl mf49)), (m50, .inl (mc50, 6, .inl mf50))]) [0, 1, 2, 3, 4, 5, 6, 7, 8, 9, 10, 11, 12, 13, 14, 15, 16, 17, 18, 19, 20, 21, 22, 23, 24, 25, 26, 27, 28, 29, 30] rfl
      have hKc := hK.sb (tys2 := [(mc1, .byte), (mc2, .byte), (mc3, .int), (mc4, .int), (mc19, .int), (mc20, .int), (mc21, .int), (mc22, .int), (mc23, .int), (mc24, .int), (mc25, .boolean), (mc28, .int), (mc29, .int), (mc30, .int), (mc31, .int), (mc32, .int), (mc33, .int), (mc34, .int), (mc35, .int), (mc36, .int), (mc40, .int), (mc41, .int), (mc42, .int), (mc43, .int), (mc44, .int), (mc46, .long), (mc47, .int), (mc48, .int), (mc49, .int), (mc50, .int)]) [0, 1, 2, 3, 4, 5, 6, 7, 8, 9, 10, 11, 12, 13, 14, 15, 16, 17, 18, 19, 20, 21, 22, 23, 24, 25, 26, 27, 28, 29] rfl
      refine vp_callSi (va_runV (As := [.int p2]) (rest := [.ref jM]) ⟨hx, hb, hml, hown, hts⟩ (s_isPerson10r l dC dI jM th thr xx (v5 : Value) (v9 : Value) (v10 : Value) (v11 : Value) (v12 : Value) (v13 : Value) (v14 : Value) (v15 : Value) (v16 : Value) (v17 : Value) (v18 : Value) m1 m2 m3 m4 m19 m20 m21 m22 m23 m24 m25 m28 m29 m30 m31 m32 m33 m34 m35 m36 m40 m41 m42 m43 m44 m46 m47 m48 m49 m50 mc1 mc2 mc3 mc4 mc19 mc20 mc21 mc22 mc23 mc24 mc25 mc28 mc29 mc30 mc31 mc32 mc33 mc34 mc35 mc36 mc40 mc41 mc42 mc43 mc44 mc46 mc47 mc48 mc49 mc50 mf1 mf2 mf3 mf4 mf19 mf20 mf21 mf22 mf23 mf24 mf25 mf28 mf29 mf30 mf31 mf32 mf33 mf34 mf35 mf36 mf40 mf41 mf42 mf43 mf44 mf46 mf47 mf48 mf49 mf50 ml mkl mku mps mkw ho mkn mka bd_1 hmkl hmku hmps hmkw hho hmkn hmka p2) (cwV 1 hts (kG (List.forall_mem_cons.mpr ⟨(List.mem_cons_of_mem _ (List.mem_append_left _ (List.mem_of_getElem? (i := 9) rfl))), (List.forall_mem_cons.mpr ⟨(List.mem_cons_of_mem _ (List.mem_append_left _ (List.mem_of_getElem? (i := 8) rfl))), (List.forall_mem_cons.mpr ⟨(List.mem_cons_of_mem _ (List.mem_append_left _ (List.mem_of_getElem? (i := 7) rfl))), (List.forall_mem_cons.mpr ⟨(List.mem_cons_of_mem _ (List.mem_append_left _ (List.mem_of_getElem? (i := 0) rfl))), (fun _ h => absurd h List.not_mem_nil)⟩)⟩)⟩)⟩) (kGV _ _ _ _) (fun _ h => List.mem_cons_of_mem _ (List.mem_append_right _ (List.mem_append_right _ (List.mem_append_right _ (List.mem_append_right _ (List.mem_append_left _ h)))))) gw_s_isPerson10r) rfl rfl rfl ⟨rfl, hd_X10_isPerson⟩ ⟨(Nat.le_of_ble_eq_true rfl), (Nat.le_of_ble_eq_true rfl)⟩) (kR_V kT_blind kT_give (va_recv hKc hPc (ci := 10) (q0 := 0) rfl rfl) hPc hKc) rfl rfl hl.1 rfl (lv_room (Nat.le_of_ble_eq_true rfl)) dX10_worth_20 ⟨(Nat.le_of_ble_eq_true rfl), (Nat.le_of_ble_eq_true rfl)⟩).run (fun r_16 hw => ?_)
      obtain ⟨hw_17, hw_17_x⟩ := hw
      refine lv_if_eq (tgt := 30) hx hb dX10_worth_23 kc_t_23_7 (fun c_18 => ?_) (fun c_18 => ?_)
      · have ff_19 := kZr hw_17_x c_18
        refine lv_iconst (v := 1) hx hb dX10_worth_30 kc_i_1 ?_
        refine va_put (D := (dC, dI)) (ci := 10) (v := .int 1) (ty := tyX10 0) (C := RX10) (T := TX10) (N := 52) hx hb hts (fun _ h => List.mem_cons_of_mem _ (List.mem_append_right _ (List.mem_append_right _ (List.mem_append_left _ h)))) tyX10 tyX10_ok nmX10 hown hK hP hD hS 0 rfl rfl 0 kc_l_0_52 (hts (.fieldLink RX10 117 "NotEndedModel" "thrown" "I") (List.mem_cons_of_mem _ (List.mem_append_left _ (List.mem_of_getElem? (i := 4) rfl)))) (fun _ h9 => h9) rfl (tyX10_ok 0 kc_l_0_52) rfl rfl (Nat.le_of_ble_eq_true rfl) dX10_worth_31 (fun H locs hP hD hS => ?_)
        have hPD : kPD dC dI A [(jM, .inr (10, [.int 1, .ref m1, .ref m2, .ref m3, .ref m4, v5, .int (nI (ml)), .int (nI (mkl)), .int (nI (mku)), v9, v10, v11, v12, v13, v14, v15, v16, v17, v18, .ref m19, .ref m20, .ref m21, .ref m22, .ref m23, .ref m24, .ref m25, .int (nI (mps)), .int (nI (mkw)), .ref m28, .ref m29, .ref m30, .ref m31, .ref m32, .ref m33, .ref m34, .ref m35, .ref m36, .int thr, .int (nI (ho)), .long xx, .ref m40, .ref m41, .ref m42, .ref m43, .ref m44, .int (nI (mkn)), .ref m46, .ref m47, .ref m48, .ref m49, .ref m50, .int (nI (mka))])), (m1, .inl (mc1, 120, .inl mf1)), (m2, .inl (mc2, 1680, .inl mf2)), (m3, .inl (mc3, 14, .inl mf3)), (m4, .inl (mc4, 128, .inl mf4)), (m19, .inl (mc19, 10, .inl mf19)), (m20, .inl (mc20, 10, .inl mf20)), (m21, .inl (mc21, 10, .inl mf21)), (m22, .inl (mc22, 10, .inl mf22)), (m23, .inl (mc23, 10, .inl mf23)), (m24, .inl (mc24, 4, .inl mf24)), (m25, .inl (mc25, 10, .inl mf25)), (m28, .inl (mc28, 10, .inl mf28)), (m29, .inl (mc29, 10, .inl mf29)), (m30, .inl (mc30, 10, .inl mf30)), (m31, .inl (mc31, 10, .inl mf31)), (m32, .inl (mc32, 10, .inl mf32)), (m33, .inl (mc33, 10, .inl mf33)), (m34, .inl (mc34, 10, .inl mf34)), (m35, .inl (mc35, 10, .inl mf35)), (m36, .inl (mc36, 10, .inl mf36)), (m40, .inl (mc40, 20, .inl mf40)), (m41, .inl (mc41, 20, .inl mf41)), (m42, .inl (mc42, 20, .inl mf42)), (m43, .inl (mc43, 20, .inl mf43)), (m44, .inl (mc44, 20, .inl mf44)), (m46, .inl (mc46, 14, .inr (.inl mf46))), (m47, .inl (mc47, 6, .inl mf47)), (m48, .inl (mc48, 6, .inl mf48)), (m49, .inl (mc49, 6, .inl mf49)), (m50, .inl (mc50, 6, .inl mf50))] H := ⟨hP, hD⟩
        obtain ⟨hP, hD⟩ := hPD
        refine lv_aload_n hx hb dX10_worth_34 rfl (lv_at hl 0 rfl) ?_
        refine va_get (D := (dC, dI)) (ci := 10) (v := .int 1) (C := RX10) (T := TX10) (N := 52) hx hb hts (fun _ h => List.mem_cons_of_mem _ (List.mem_append_right _ (List.mem_append_right _ (List.mem_append_left _ h)))) hown hK hP 0 rfl rfl 0 kc_l_0_52 (hts (.fieldLink RX10 117 "NotEndedModel" "thrown" "I") (List.mem_cons_of_mem _ (List.mem_append_left _ (List.mem_of_getElem? (i := 4) rfl)))) (fun _ h9 => h9) rfl dX10_worth_35 ?_
        refine lv_if_le (tgt := 43) hx hb dX10_worth_38 kc_t_38_5 (fun c_20 => absurd c_20 (by decide)) (fun c_20 => ?_)
        refine lv_iconst (v := 0) hx hb dX10_worth_41 kc_i_0 ?_
        have hP9 := hP
        have hD9 := hD
        have hK9 := hK
        rw [hQ]
        exact W.iret (v := 0) hx hb hr (fun t ht hW => ⟨⟨0, (mf4, mf28, mf29, mf30, mf31, mf32, mf33, mf34, mf35, mf36, 1, thr, ho, xx, (v5 : Value), (v9 : Value), (v10 : Value), (v11 : Value), (v12 : Value), (v13 : Value), (v14 : Value), (v15 : Value), (v16 : Value), (v17 : Value), (v18 : Value)), rfl, ⟨(kTh1 (by unfold kWoE; rw [if_neg ff_7, if_neg ff_14, if_pos ff_19])), by omega⟩,  by rw [ht]; exact hP9, va_K.moved hW.alike hK9, hD9⟩, hS.F ht⟩) hS.2.2 dX10_worth_42
      · have ff_21 := kNzr hw_17_x c_18
        obtain ⟨j_22, hj_22, ej_22⟩ := hw_17 c_18
        subst ej_22
        refine lv_iconst (v := 0) hx hb dX10_worth_26 kc_i_0 ?_
        refine lv_goto (tgt := 31) hx hb dX10_worth_27 kc_t_27_4 ?_
        refine va_put (D := (dC, dI)) (ci := 10) (v := .int 0) (ty := tyX10 0) (C := RX10) (T := TX10) (N := 52) hx hb hts (fun _ h => List.mem_cons_of_mem _ (List.mem_append_right _ (List.mem_append_right _ (List.mem_append_left _ h)))) tyX10 tyX10_ok nmX10 hown hK hP hD hS 0 rfl rfl 0 kc_l_0_52 (hts (.fieldLink RX10 117 "NotEndedModel" "thrown" "I") (List.mem_cons_of_mem _ (List.mem_append_left _ (List.mem_of_getElem? (i := 4) rfl)))) (fun _ h9 => h9) rfl (tyX10_ok 0 kc_l_0_52) rfl rfl (Nat.le_of_ble_eq_true rfl) dX10_worth_31 (fun H locs hP hD hS => ?_)
        have hPD : kPD dC dI A [(jM, .inr (10, [.int 0, .ref m1, .ref m2, .ref m3, .ref m4, v5, .int (nI (ml)), .int (nI (mkl)), .int (nI (mku)), v9, v10, v11, v12, v13, v14, v15, v16, v17, v18, .ref m19, .ref m20, .ref m21, .ref m22, .ref m23, .ref m24, .ref m25, .int (nI (mps)), .int (nI (mkw)), .ref m28, .ref m29, .ref m30, .ref m31, .ref m32, .ref m33, .ref m34, .ref m35, .ref m36, .int thr, .int (nI (ho)), .long xx, .ref m40, .ref m41, .ref m42, .ref m43, .ref m44, .int (nI (mkn)), .ref m46, .ref m47, .ref m48, .ref m49, .ref m50, .int (nI (mka))])), (m1, .inl (mc1, 120, .inl mf1)), (m2, .inl (mc2, 1680, .inl mf2)), (m3, .inl (mc3, 14, .inl mf3)), (m4, .inl (mc4, 128, .inl mf4)), (m19, .inl (mc19, 10, .inl mf19)), (m20, .inl (mc20, 10, .inl mf20)), (m21, .inl (mc21, 10, .inl mf21)), (m22, .inl (mc22, 10, .inl mf22)), (m23, .inl (mc23, 10, .inl mf23)), (m24, .inl (mc24, 4, .inl mf24)), (m25, .inl (mc25, 10, .inl mf25)), (m28, .inl (mc28, 10, .inl mf28)), (m29, .inl (mc29, 10, .inl mf29)), (m30, .inl (mc30, 10, .inl mf30)), (m31, .inl (mc31, 10, .inl mf31)), (m32, .inl (mc32, 10, .inl mf32)), (m33, .inl (mc33, 10, .inl mf33)), (m34, .inl (mc34, 10, .inl mf34)), (m35, .inl (mc35, 10, .inl mf35)), (m36, .inl (mc36, 10, .inl mf36)), (m40, .inl (mc40, 20, .inl mf40)), (m41, .inl (mc41, 20, .inl mf41)), (m42, .inl (mc42, 20, .inl mf42)), (m43, .inl (mc43, 20, .inl mf43)), (m44, .inl (mc44, 20, .inl mf44)), (m46, .inl (mc46, 14, .inr (.inl mf46))), (m47, .inl (mc47, 6, .inl mf47)), (m48, .inl (mc48, 6, .inl mf48)), (m49, .inl (mc49, 6, .inl mf49)), (m50, .inl (mc50, 6, .inl mf50))] H := ⟨hP, hD⟩
        obtain ⟨hP, hD⟩ := hPD
        refine lv_aload_n hx hb dX10_worth_34 rfl (lv_at hl 0 rfl) ?_
        refine va_get (D := (dC, dI)) (ci := 10) (v := .int 0) (C := RX10) (T := TX10) (N := 52) hx hb hts (fun _ h => List.mem_cons_of_mem _ (List.mem_append_right _ (List.mem_append_right _ (List.mem_append_left _ h)))) hown hK hP 0 rfl rfl 0 kc_l_0_52 (hts (.fieldLink RX10 117 "NotEndedModel" "thrown" "I") (List.mem_cons_of_mem _ (List.mem_append_left _ (List.mem_of_getElem? (i := 4) rfl)))) (fun _ h9 => h9) rfl dX10_worth_35 ?_
        refine lv_if_le (tgt := 43) hx hb dX10_worth_38 kc_t_38_5 (fun c_23 => ?_) (fun c_23 => absurd (by decide) c_23)
        refine lv_aload_n hx hb dX10_worth_43 rfl (lv_at hl 0 rfl) ?_
        refine lv_aload_n hx hb dX10_worth_44 rfl (lv_at hl 0 rfl) ?_
        have hPc := hP.sb (ws2 := [(jM, .inr (10, [.int 0, .ref m1, .ref m2, .ref m3, .ref m4, v5, .int (nI (ml)), .int (nI (mkl)), .int (nI (mku)), v9, v10, v11, v12, v13, v14, v15, v16, v17, v18, .ref m19, .ref m20, .ref m21, .ref m22, .ref m23, .ref m24, .ref m25, .int (nI (mps)), .int (nI (mkw)), .ref m28, .ref m29, .ref m30, .ref m31, .ref m32, .ref m33, .ref m34, .ref m35, .ref m36, .int thr, .int (nI (ho)), .long xx, .ref m40, .ref m41, .ref m42, .ref m43, .ref m44, .int (nI (mkn)), .ref m46, .ref m47, .ref m48, .ref m49, .ref m50, .int (nI (mka))])), (m1, .inl (mc1, 120, .inl mf1)), (m2, .inl (mc2, 1680, .inl mf2)), (m3, .inl (mc3, 14, .inl mf3)), (m4, .inl (mc4, 128, .inl mf4)), (m19, .inl (mc19, 10, .inl mf19)), (m20, .inl (mc20, 10, .inl mf20)), (m21, .inl (mc21, 10, .inl mf21)), (m22, .inl (mc22, 10, .inl mf22)), (m23, .inl (mc23, 10, .inl mf23)), (m24, .inl (mc24, 4, .inl mf24)), (m25, .inl (mc25, 10, .inl mf25)), (m28, .inl (mc28, 10, .inl mf28)), (m29, .inl (mc29, 10, .inl mf29)), (m30, .inl (mc30, 10, .inl mf30)), (m31, .inl (mc31, 10, .inl mf31)), (m32, .inl (mc32, 10, .inl mf32)), (m33, .inl (mc33, 10, .inl mf33)), (m34, .inl (mc34, 10, .inl mf34)), (m35, .inl (mc35, 10, .inl mf35)), (m36, .inl (mc36, 10, .inl mf36)), (m40, .inl (mc40, 20, .inl mf40)), (m41, .inl (mc41, 20, .inl mf41)), (m42, .inl (mc42, 20, .inl mf42)), (m43, .inl (mc43, 20, .inl mf43)), (m44, .inl (mc44, 20, .inl mf44)), (m46, .inl (mc46, 14, .inr (.inl mf46))), (m47, .inl (mc47, 6, .inl mf47)), (m48, .inl (mc48, 6, .inl mf48)), (m49, .inl (mc49, 6, .inl mf49)), (m50, .inl (mc50, 6, .inl mf50))]) [0, 1, 2, 3, 4, 5, 6, 7, 8, 9, 10, 11, 12, 13, 14, 15, 16, 17, 18, 19, 20, 21, 22, 23, 24, 25, 26, 27, 28, 29, 30] rfl
        have hKc := hK.sb (tys2 := [(mc1, .byte), (mc2, .byte), (mc3, .int), (mc4, .int), (mc19, .int), (mc20, .int), (mc21, .int), (mc22, .int), (mc23, .int), (mc24, .int), (mc25, .boolean), (mc28, .int), (mc29, .int), (mc30, .int), (mc31, .int), (mc32, .int), (mc33, .int), (mc34, .int), (mc35, .int), (mc36, .int), (mc40, .int), (mc41, .int), (mc42, .int), (mc43, .int), (mc44, .int), (mc46, .long), (mc47, .int), (mc48, .int), (mc49, .int), (mc50, .int)]) [0, 1, 2, 3, 4, 5, 6, 7, 8, 9, 10, 11, 12, 13, 14, 15, 16, 17, 18, 19, 20, 21, 22, 23, 24, 25, 26, 27, 28, 29] rfl
        refine vp_callSi (va_runV (As := []) (rest := [.ref jM]) ⟨hx, hb, hml, hown, hts⟩ (s_every10x l dC dI jM 0 thr xx (v5 : Value) (v9 : Value) (v10 : Value) (v11 : Value) (v12 : Value) (v13 : Value) (v14 : Value) (v15 : Value) (v16 : Value) (v17 : Value) (v18 : Value) m1 m2 m3 m4 m19 m20 m21 m22 m23 m24 m25 m28 m29 m30 m31 m32 m33 m34 m35 m36 m40 m41 m42 m43 m44 m46 m47 m48 m49 m50 mc1 mc2 mc3 mc4 mc19 mc20 mc21 mc22 mc23 mc24 mc25 mc28 mc29 mc30 mc31 mc32 mc33 mc34 mc35 mc36 mc40 mc41 mc42 mc43 mc44 mc46 mc47 mc48 mc49 mc50 mf1 mf2 mf3 mf4 mf19 mf20 mf21 mf22 mf23 mf24 mf25 mf28 mf29 mf30 mf31 mf32 mf33 mf34 mf35 mf36 mf40 mf41 mf42 mf43 mf44 mf46 mf47 mf48 mf49 mf50 ml mkl mku mps mkw ho mkn mka bd_1 hmkl hmku hmps hmkw hho hmkn hmka) (cwV 0 hts (kG (List.forall_mem_cons.mpr ⟨(List.mem_cons_of_mem _ (List.mem_append_left _ (List.mem_of_getElem? (i := 12) rfl))), (List.forall_mem_cons.mpr ⟨(List.mem_cons_of_mem _ (List.mem_append_left _ (List.mem_of_getElem? (i := 11) rfl))), (List.forall_mem_cons.mpr ⟨(List.mem_cons_of_mem _ (List.mem_append_left _ (List.mem_of_getElem? (i := 10) rfl))), (List.forall_mem_cons.mpr ⟨(List.mem_cons_of_mem _ (List.mem_append_left _ (List.mem_of_getElem? (i := 0) rfl))), (fun _ h => absurd h List.not_mem_nil)⟩)⟩)⟩)⟩) (kGV _ _ _ _) (fun _ h => List.mem_cons_of_mem _ (List.mem_append_right _ (List.mem_append_right _ (List.mem_append_right _ (List.mem_append_right _ (List.mem_append_right _ (List.mem_append_left _ h))))))) gw_s_every10x) rfl rfl rfl ⟨rfl, hd_X10_everybody⟩ ⟨(Nat.le_of_ble_eq_true rfl), (Nat.le_of_ble_eq_true rfl)⟩) (kR_V kT_blind kT_give (va_recv hKc hPc (ci := 10) (q0 := 0) rfl rfl) hPc hKc) rfl rfl hl.1 rfl (lv_room (Nat.le_of_ble_eq_true rfl)) dX10_worth_45 ⟨(Nat.le_of_ble_eq_true rfl), (Nat.le_of_ble_eq_true rfl)⟩).run (fun r_24 hw => ?_)
        obtain rfl : r_24 = kEvb (mps) := hw
        refine lv_lconst (v := 0) hx hb dX10_worth_48 (by decide) ?_
        have hCu := kCut (wc := [(jM, .inr (10, [.int 0, .ref m1, .ref m2, .ref m3, .ref m4, v5, .int (nI (ml)), .int (nI (mkl)), .int (nI (mku)), v9, v10, v11, v12, v13, v14, v15, v16, v17, v18, .ref m19, .ref m20, .ref m21, .ref m22, .ref m23, .ref m24, .ref m25, .int (nI (mps)), .int (nI (mkw)), .ref m28, .ref m29, .ref m30, .ref m31, .ref m32, .ref m33, .ref m34, .ref m35, .ref m36, .int thr, .int (nI (ho)), .long xx, .ref m40, .ref m41, .ref m42, .ref m43, .ref m44, .int (nI (mkn)), .ref m46, .ref m47, .ref m48, .ref m49, .ref m50, .int (nI (mka))])), (m1, .inl (mc1, 120, .inl mf1)), (m2, .inl (mc2, 1680, .inl mf2)), (m3, .inl (mc3, 14, .inl mf3)), (m4, .inl (mc4, 128, .inl mf4)), (m19, .inl (mc19, 10, .inl mf19)), (m20, .inl (mc20, 10, .inl mf20)), (m21, .inl (mc21, 10, .inl mf21)), (m22, .inl (mc22, 10, .inl mf22)), (m23, .inl (mc23, 10, .inl mf23)), (m24, .inl (mc24, 4, .inl mf24)), (m25, .inl (mc25, 10, .inl mf25)), (m28, .inl (mc28, 10, .inl mf28)), (m29, .inl (mc29, 10, .inl mf29)), (m30, .inl (mc30, 10, .inl mf30)), (m31, .inl (mc31, 10, .inl mf31)), (m32, .inl (mc32, 10, .inl mf32)), (m33, .inl (mc33, 10, .inl mf33)), (m34, .inl (mc34, 10, .inl mf34)), (m35, .inl (mc35, 10, .inl mf35)), (m36, .inl (mc36, 10, .inl mf36)), (m40, .inl (mc40, 20, .inl mf40)), (m41, .inl (mc41, 20, .inl mf41)), (m42, .inl (mc42, 20, .inl mf42)), (m43, .inl (mc43, 20, .inl mf43)), (m44, .inl (mc44, 20, .inl mf44)), (m46, .inl (mc46, 14, .inr (.inl mf46))), (m47, .inl (mc47, 6, .inl mf47)), (m48, .inl (mc48, 6, .inl mf48)), (m49, .inl (mc49, 6, .inl mf49)), (m50, .inl (mc50, 6, .inl mf50))]) hP hD hS hA [0, 1, 2, 3, 4, 5, 6, 7, 8, 9, 10, 11, 12, 13, 14, 15, 16, 17, 18, 19, 20, 21, 22, 23, 24, 25, 26, 27, 28, 29, 30] rfl kc_nd_772 rfl
        have hPc := hCu.1
        have hDc := hCu.2.1
        have hFc := hCu.2.2
        have hKc := hK.sb (tys2 := [(mc1, .byte), (mc2, .byte), (mc3, .int), (mc4, .int), (mc19, .int), (mc20, .int), (mc21, .int), (mc22, .int), (mc23, .int), (mc24, .int), (mc25, .boolean), (mc28, .int), (mc29, .int), (mc30, .int), (mc31, .int), (mc32, .int), (mc33, .int), (mc34, .int), (mc35, .int), (mc36, .int), (mc40, .int), (mc41, .int), (mc42, .int), (mc43, .int), (mc44, .int), (mc46, .long), (mc47, .int), (mc48, .int), (mc49, .int), (mc50, .int)]) [0, 1, 2, 3, 4, 5, 6, 7, 8, 9, 10, 11, 12, 13, 14, 15, 16, 17, 18, 19, 20, 21, 22, 23, 24, 25, 26, 27, 28, 29] rfl
        refine va_callv (va_runV (As := [.int (kEvb (mps)), .long 0]) (rest := []) ⟨hx, hb, hml, hown, hts⟩ (s_begin10x l dC dI jM 0 thr xx (v5 : Value) (v9 : Value) (v10 : Value) (v11 : Value) (v12 : Value) (v13 : Value) (v14 : Value) (v15 : Value) (v16 : Value) (v17 : Value) (v18 : Value) m1 m2 m3 m4 m19 m20 m21 m22 m23 m24 m25 m28 m29 m30 m31 m32 m33 m34 m35 m36 m40 m41 m42 m43 m44 m46 m47 m48 m49 m50 mc1 mc2 mc3 mc4 mc19 mc20 mc21 mc22 mc23 mc24 mc25 mc28 mc29 mc30 mc31 mc32 mc33 mc34 mc35 mc36 mc40 mc41 mc42 mc43 mc44 mc46 mc47 mc48 mc49 mc50 mf1 mf2 mf3 mf4 mf19 mf20 mf21 mf22 mf23 mf24 mf25 mf28 mf29 mf30 mf31 mf32 mf33 mf34 mf35 mf36 mf40 mf41 mf42 mf43 mf44 mf46 mf47 mf48 mf49 mf50 ml mkl mku mps mkw ho mkn mka bd_1 hmkl hmku hmps hmkw hho hmkn hmka (kEvb (mps)) 0 H.size) (cwV 2 hts (kG (List.forall_mem_cons.mpr ⟨(List.mem_cons_of_mem _ (List.mem_append_left _ (List.mem_of_getElem? (i := 15) rfl))), (List.forall_mem_cons.mpr ⟨(List.mem_cons_of_mem _ (List.mem_append_left _ (List.mem_of_getElem? (i := 14) rfl))), (List.forall_mem_cons.mpr ⟨(List.mem_cons_of_mem _ (List.mem_append_left _ (List.mem_of_getElem? (i := 13) rfl))), (List.forall_mem_cons.mpr ⟨(List.mem_cons_of_mem _ (List.mem_append_left _ (List.mem_of_getElem? (i := 0) rfl))), (fun _ h => absurd h List.not_mem_nil)⟩)⟩)⟩)⟩) (kGV _ _ _ _) (fun _ h => List.mem_cons_of_mem _ (List.mem_append_right _ (List.mem_append_right _ (List.mem_append_right _ (List.mem_append_right _ (List.mem_append_right _ (List.mem_append_right _ (List.mem_append_left _ h)))))))) gw_s_begin10x) rfl rfl rfl ⟨rfl, hd_X10_begin⟩ ⟨(Nat.le_of_ble_eq_true rfl), (Nat.le_of_ble_eq_true rfl)⟩) (kW_V kT_blind kT_give (va_recv hKc hPc (ci := 10) (q0 := 0) rfl rfl) hPc hKc hDc) rfl rfl hl.1 rfl (lv_room (Nat.le_of_ble_eq_true rfl)) dX10_worth_49 ⟨(Nat.le_of_ble_eq_true rfl), (Nat.le_of_ble_eq_true rfl)⟩) hS (fun q _ h => hFc q h) hFc (kU7 (fun S28_25 S29_26 S30_27 S31_28 Th_29 Ho_30 Xx_31 t H_32 locs ht hvm hw hB hz1 hk1 hS => ?_))
        try dsimp only at hw
        have hPD : kPD dC dI A [(jM, .inr (10, [.int 0, .ref m1, .ref m2, .ref m3, .ref m4, (v5 : Value), .int (nI (ml)), .int (nI (mkl)), .int (nI (mku)), (v9 : Value), (v10 : Value), (v11 : Value), (v12 : Value), (v13 : Value), (v14 : Value), (v15 : Value), (v16 : Value), (v17 : Value), (v18 : Value), .ref m19, .ref m20, .ref m21, .ref m22, .ref m23, .ref m24, .ref m25, .int (nI (mps)), .int (nI (mkw)), .ref m28, .ref m29, .ref m30, .ref m31, .ref m32, .ref m33, .ref m34, .ref m35, .ref m36, .int Th_29, .int (nI (Ho_30)), .long Xx_31, .ref m40, .ref m41, .ref m42, .ref m43, .ref m44, .int (nI (mkn)), .ref m46, .ref m47, .ref m48, .ref m49, .ref m50, .int (nI (mka))])), (m1, .inl (mc1, 120, .inl mf1)), (m2, .inl (mc2, 1680, .inl mf2)), (m3, .inl (mc3, 14, .inl mf3)), (m4, .inl (mc4, 128, .inl mf4)), (m19, .inl (mc19, 10, .inl mf19)), (m20, .inl (mc20, 10, .inl mf20)), (m21, .inl (mc21, 10, .inl mf21)), (m22, .inl (mc22, 10, .inl mf22)), (m23, .inl (mc23, 10, .inl mf23)), (m24, .inl (mc24, 4, .inl mf24)), (m25, .inl (mc25, 10, .inl mf25)), (m28, .inl (mc28, 10, .inl S28_25)), (m29, .inl (mc29, 10, .inl S29_26)), (m30, .inl (mc30, 10, .inl S30_27)), (m31, .inl (mc31, 10, .inl S31_28)), (m32, .inl (mc32, 10, .inl mf32)), (m33, .inl (mc33, 10, .inl mf33)), (m34, .inl (mc34, 10, .inl mf34)), (m35, .inl (mc35, 10, .inl mf35)), (m36, .inl (mc36, 10, .inl mf36)), (m40, .inl (mc40, 20, .inl mf40)), (m41, .inl (mc41, 20, .inl mf41)), (m42, .inl (mc42, 20, .inl mf42)), (m43, .inl (mc43, 20, .inl mf43)), (m44, .inl (mc44, 20, .inl mf44)), (m46, .inl (mc46, 14, .inr (.inl mf46))), (m47, .inl (mc47, 6, .inl mf47)), (m48, .inl (mc48, 6, .inl mf48)), (m49, .inl (mc49, 6, .inl mf49)), (m50, .inl (mc50, 6, .inl mf50))] H_32 := kJoinX hP hD [0, 1, 2, 3, 4, 5, 6, 7, 8, 9, 10, 11, 12, 13, 14, 15, 16, 17, 18, 19, 20, 21, 22, 23, 24, 25, 26, 27, 28, 29, 30] rfl hk1 hFc hB.1 ht hB.2.2 rfl [some 0, some 1, some 2, some 3, some 4, some 5, some 6, some 7, some 8, some 9, some 10, some 11, some 12, some 13, some 14, some 15, some 16, some 17, some 18, some 19, some 20, some 21, some 22, some 23, some 24, some 25, some 26, some 27, some 28, some 29, some 30] rfl rfl
        obtain ⟨hP, hD⟩ := hPD
        have hw_33 := hw
        have hw_33_0 := hw_33.2.2.1
        have hth9 := hw_33.1
        subst hth9
        have hz9 : Ho_30 = 0 := hw_33.2.2.1
        refine lv_aload_n hx hb dX10_worth_52 rfl (lv_at hl 0 rfl) ?_
        refine lv_iload_n hx hb dX10_worth_53 rfl (lv_at hl 3 rfl) ?_
        have bd_34 : Ho_30 ≤ 48 := by omega
        have bd_35 : j_22 < mps := by omega
        have hCu := kCut (wc := [(jM, .inr (10, [.int 0, .ref m1, .ref m2, .ref m3, .ref m4, (v5 : Value), .int (nI (ml)), .int (nI (mkl)), .int (nI (mku)), (v9 : Value), (v10 : Value), (v11 : Value), (v12 : Value), (v13 : Value), (v14 : Value), (v15 : Value), (v16 : Value), (v17 : Value), (v18 : Value), .ref m19, .ref m20, .ref m21, .ref m22, .ref m23, .ref m24, .ref m25, .int (nI (mps)), .int (nI (mkw)), .ref m28, .ref m29, .ref m30, .ref m31, .ref m32, .ref m33, .ref m34, .ref m35, .ref m36, .int (kEvb (mps)), .int (nI (Ho_30)), .long Xx_31, .ref m40, .ref m41, .ref m42, .ref m43, .ref m44, .int (nI (mkn)), .ref m46, .ref m47, .ref m48, .ref m49, .ref m50, .int (nI (mka))])), (m1, .inl (mc1, 120, .inl mf1)), (m2, .inl (mc2, 1680, .inl mf2)), (m3, .inl (mc3, 14, .inl mf3)), (m4, .inl (mc4, 128, .inl mf4)), (m19, .inl (mc19, 10, .inl mf19)), (m20, .inl (mc20, 10, .inl mf20)), (m21, .inl (mc21, 10, .inl mf21)), (m22, .inl (mc22, 10, .inl mf22)), (m23, .inl (mc23, 10, .inl mf23)), (m24, .inl (mc24, 4, .inl mf24)), (m25, .inl (mc25, 10, .inl mf25)), (m28, .inl (mc28, 10, .inl S28_25)), (m29, .inl (mc29, 10, .inl S29_26)), (m30, .inl (mc30, 10, .inl S30_27)), (m31, .inl (mc31, 10, .inl S31_28)), (m32, .inl (mc32, 10, .inl mf32)), (m33, .inl (mc33, 10, .inl mf33)), (m34, .inl (mc34, 10, .inl mf34)), (m35, .inl (mc35, 10, .inl mf35)), (m36, .inl (mc36, 10, .inl mf36)), (m40, .inl (mc40, 20, .inl mf40)), (m41, .inl (mc41, 20, .inl mf41)), (m42, .inl (mc42, 20, .inl mf42)), (m43, .inl (mc43, 20, .inl mf43)), (m44, .inl (mc44, 20, .inl mf44)), (m46, .inl (mc46, 14, .inr (.inl mf46))), (m47, .inl (mc47, 6, .inl mf47)), (m48, .inl (mc48, 6, .inl mf48)), (m49, .inl (mc49, 6, .inl mf49)), (m50, .inl (mc50, 6, .inl mf50))]) hP hD hS hA [0, 1, 2, 3, 4, 5, 6, 7, 8, 9, 10, 11, 12, 13, 14, 15, 16, 17, 18, 19, 20, 21, 22, 23, 24, 25, 26, 27, 28, 29, 30] rfl kc_nd_772 rfl
        have hPc := hCu.1
        have hDc := hCu.2.1
        have hFc := hCu.2.2
        have hKc := hK.sb (tys2 := [(mc1, .byte), (mc2, .byte), (mc3, .int), (mc4, .int), (mc19, .int), (mc20, .int), (mc21, .int), (mc22, .int), (mc23, .int), (mc24, .int), (mc25, .boolean), (mc28, .int), (mc29, .int), (mc30, .int), (mc31, .int), (mc32, .int), (mc33, .int), (mc34, .int), (mc35, .int), (mc36, .int), (mc40, .int), (mc41, .int), (mc42, .int), (mc43, .int), (mc44, .int), (mc46, .long), (mc47, .int), (mc48, .int), (mc49, .int), (mc50, .int)]) [0, 1, 2, 3, 4, 5, 6, 7, 8, 9, 10, 11, 12, 13, 14, 15, 16, 17, 18, 19, 20, 21, 22, 23, 24, 25, 26, 27, 28, 29] rfl
        refine va_callv (va_runV (As := [.int (nI (j_22))]) (rest := []) ⟨hx, hb, hml, hown, hts⟩ (s_lay10x l dC dI jM 0 (kEvb (mps)) Xx_31 ((v5 : Value) : Value) ((v9 : Value) : Value) ((v10 : Value) : Value) ((v11 : Value) : Value) ((v12 : Value) : Value) ((v13 : Value) : Value) ((v14 : Value) : Value) ((v15 : Value) : Value) ((v16 : Value) : Value) ((v17 : Value) : Value) ((v18 : Value) : Value) m1 m2 m3 m4 m19 m20 m21 m22 m23 m24 m25 m28 m29 m30 m31 m32 m33 m34 m35 m36 m40 m41 m42 m43 m44 m46 m47 m48 m49 m50 mc1 mc2 mc3 mc4 mc19 mc20 mc21 mc22 mc23 mc24 mc25 mc28 mc29 mc30 mc31 mc32 mc33 mc34 mc35 mc36 mc40 mc41 mc42 mc43 mc44 mc46 mc47 mc48 mc49 mc50 mf1 mf2 mf3 mf4 mf19 mf20 mf21 mf22 mf23 mf24 mf25 S28_25 S29_26 S30_27 S31_28 mf32 mf33 mf34 mf35 mf36 mf40 mf41 mf42 mf43 mf44 mf46 mf47 mf48 mf49 mf50 ml mkl mku mps mkw Ho_30 mkn mka bd_1 hmkl hmku hmps hmkw bd_34 hmkn hmka j_22 bd_35 (kE0 mps mkw G3 G4 SV (kPrs mps 0) (yL j_8)) (kS0 G0 G1 G2 0) (kTd_E hTd (by omega) (kPrs0 mps).symm) (kRp_tr hw_33.2.1 (kTd_S hTd)) ((hw_33.2.2.1).symm) H_32.size) (cwV 1 hts (kG (List.forall_mem_cons.mpr ⟨(List.mem_cons_of_mem _ (List.mem_append_left _ (List.mem_of_getElem? (i := 18) rfl))), (List.forall_mem_cons.mpr ⟨(List.mem_cons_of_mem _ (List.mem_append_left _ (List.mem_of_getElem? (i := 17) rfl))), (List.forall_mem_cons.mpr ⟨(List.mem_cons_of_mem _ (List.mem_append_left _ (List.mem_of_getElem? (i := 16) rfl))), (List.forall_mem_cons.mpr ⟨(List.mem_cons_of_mem _ (List.mem_append_left _ (List.mem_of_getElem? (i := 0) rfl))), (fun _ h => absurd h List.not_mem_nil)⟩)⟩)⟩)⟩) (kGV _ _ _ _) (fun _ h => List.mem_cons_of_mem _ (List.mem_append_right _ (List.mem_append_right _ (List.mem_append_right _ (List.mem_append_right _ (List.mem_append_right _ (List.mem_append_right _ (List.mem_append_right _ (List.mem_append_left _ h))))))))) gw_s_lay10x) rfl rfl rfl ⟨rfl, hd_X10_layLetters⟩ ⟨(Nat.le_of_ble_eq_true rfl), (Nat.le_of_ble_eq_true rfl)⟩) (kW_V kT_blind kT_give (va_recv hKc hPc (ci := 10) (q0 := 0) rfl rfl) hPc hKc hDc) rfl rfl hl.1 rfl (lv_room (Nat.le_of_ble_eq_true rfl)) dX10_worth_54 ⟨(Nat.le_of_ble_eq_true rfl), (Nat.le_of_ble_eq_true rfl)⟩) hS (fun q _ h => hFc q h) hFc (fun S4_36 t H_37 locs ht hvm hw hB hz1 hk1 hS => ?_)
        try dsimp only at hw
        have hPD : kPD dC dI A [(jM, .inr (10, [.int 0, .ref m1, .ref m2, .ref m3, .ref m4, ((v5 : Value) : Value), .int (nI (ml)), .int (nI (mkl)), .int (nI (mku)), ((v9 : Value) : Value), ((v10 : Value) : Value), ((v11 : Value) : Value), ((v12 : Value) : Value), ((v13 : Value) : Value), ((v14 : Value) : Value), ((v15 : Value) : Value), ((v16 : Value) : Value), ((v17 : Value) : Value), ((v18 : Value) : Value), .ref m19, .ref m20, .ref m21, .ref m22, .ref m23, .ref m24, .ref m25, .int (nI (mps)), .int (nI (mkw)), .ref m28, .ref m29, .ref m30, .ref m31, .ref m32, .ref m33, .ref m34, .ref m35, .ref m36, .int (kEvb (mps)), .int (nI (Ho_30)), .long Xx_31, .ref m40, .ref m41, .ref m42, .ref m43, .ref m44, .int (nI (mkn)), .ref m46, .ref m47, .ref m48, .ref m49, .ref m50, .int (nI (mka))])), (m1, .inl (mc1, 120, .inl mf1)), (m2, .inl (mc2, 1680, .inl mf2)), (m3, .inl (mc3, 14, .inl mf3)), (m4, .inl (mc4, 128, .inl S4_36)), (m19, .inl (mc19, 10, .inl mf19)), (m20, .inl (mc20, 10, .inl mf20)), (m21, .inl (mc21, 10, .inl mf21)), (m22, .inl (mc22, 10, .inl mf22)), (m23, .inl (mc23, 10, .inl mf23)), (m24, .inl (mc24, 4, .inl mf24)), (m25, .inl (mc25, 10, .inl mf25)), (m28, .inl (mc28, 10, .inl S28_25)), (m29, .inl (mc29, 10, .inl S29_26)), (m30, .inl (mc30, 10, .inl S30_27)), (m31, .inl (mc31, 10, .inl S31_28)), (m32, .inl (mc32, 10, .inl mf32)), (m33, .inl (mc33, 10, .inl mf33)), (m34, .inl (mc34, 10, .inl mf34)), (m35, .inl (mc35, 10, .inl mf35)), (m36, .inl (mc36, 10, .inl mf36)), (m40, .inl (mc40, 20, .inl mf40)), (m41, .inl (mc41, 20, .inl mf41)), (m42, .inl (mc42, 20, .inl mf42)), (m43, .inl (mc43, 20, .inl mf43)), (m44, .inl (mc44, 20, .inl mf44)), (m46, .inl (mc46, 14, .inr (.inl mf46))), (m47, .inl (mc47, 6, .inl mf47)), (m48, .inl (mc48, 6, .inl mf48)), (m49, .inl (mc49, 6, .inl mf49)), (m50, .inl (mc50, 6, .inl mf50))] H_37 := kJoinX hP hD [0, 1, 2, 3, 4, 5, 6, 7, 8, 9, 10, 11, 12, 13, 14, 15, 16, 17, 18, 19, 20, 21, 22, 23, 24, 25, 26, 27, 28, 29, 30] rfl hk1 hFc hB.1 ht hB.2.2 rfl [some 0, some 1, some 2, some 3, some 4, some 5, some 6, some 7, some 8, some 9, some 10, some 11, some 12, some 13, some 14, some 15, some 16, some 17, some 18, some 19, some 20, some 21, some 22, some 23, some 24, some 25, some 26, some 27, some 28, some 29, some 30] rfl rfl
        obtain ⟨hP, hD⟩ := hPD
        have hw_38 := hw
        refine lv_aload_n hx hb dX10_worth_57 rfl (lv_at hl 0 rfl) ?_
        refine lv_iload_n hx hb dX10_worth_58 rfl (lv_at hl 1 rfl) ?_
        refine lv_iconst (v := 0) hx hb dX10_worth_59 kc_i_0 ?_
        refine lv_iload_n hx hb dX10_worth_60 rfl (lv_at hl 2 rfl) ?_
        refine lv_if_ne (tgt := 69) hx hb dX10_worth_61 kc_t_61_8 (fun c_39 => ?_) (fun c_39 => ?_)
        · have bd_41 : j_15 < 2147483648 := by omega
          have hn_40 := kneq (a := j_15) (b := 0) bd_41 kc_31_0 c_39
          refine lv_iload_n hx hb dX10_worth_69 rfl (lv_at hl 2 rfl) ?_
          refine lv_iconst (v := 1) hx hb dX10_worth_70 kc_i_1 ?_
          refine lv_icmp_ne (tgt := 79) hx hb dX10_worth_71 kc_t_71_8 (fun c_42 => ?_) (fun c_42 => ?_)
          · have hn_43 := kneq (a := j_15) (b := 1) bd_41 kc_31_1 c_42
            refine lv_bipush (v := 120) hx hb dX10_worth_79 kc_b_120 ?_
            have bd_44 : mkl ≤ 8 := by omega
            have bd_45 : j_8 < mkl := by omega
            have bd_46 : j_8 = 0 + j_8 := by omega
            have bd_47 : j_8 < 14 := by omega
            have hCu := kCut (wc := [(jM, .inr (10, [.int 0, .ref m1, .ref m2, .ref m3, .ref m4, ((v5 : Value) : Value), .int (nI (ml)), .int (nI (mkl)), .int (nI (mku)), ((v9 : Value) : Value), ((v10 : Value) : Value), ((v11 : Value) : Value), ((v12 : Value) : Value), ((v13 : Value) : Value), ((v14 : Value) : Value), ((v15 : Value) : Value), ((v16 : Value) : Value), ((v17 : Value) : Value), ((v18 : Value) : Value), .ref m19, .ref m20, .ref m21, .ref m22, .ref m23, .ref m24, .ref m25, .int (nI (mps)), .int (nI (mkw)), .ref m28, .ref m29, .ref m30, .ref m31, .ref m32, .ref m33, .ref m34, .ref m35, .ref m36, .int (kEvb (mps)), .int (nI (Ho_30)), .long Xx_31, .ref m40, .ref m41, .ref m42, .ref m43, .ref m44, .int (nI (mkn)), .ref m46, .ref m47, .ref m48, .ref m49, .ref m50, .int (nI (mka))])), (m2, .inl (mc2, 1680, .inl mf2)), (m3, .inl (mc3, 14, .inl mf3)), (m4, .inl (mc4, 128, .inl S4_36))]) hP hD hS hA [0, 2, 3, 4] rfl kc_nd_794 rfl
            have hPc := hCu.1
            have hDc := hCu.2.1
            have hFc := hCu.2.2
            have hKc := hK.sb (tys2 := [(mc2, .byte), (mc3, .int), (mc4, .int)]) [1, 2, 3] rfl
            refine va_calli (va_runV (As := [.int (nI (j_8)), .int 0, .int 120]) (rest := []) ⟨hx, hb, hml, hown, hts⟩ (s_worthOf10_0 l dC dI ad jM (.int 0 : Value) (.ref m1 : Value) (((v5 : Value) : Value) : Value) (.int (nI (ml)) : Value) (.int (nI (mkl)) : Value) (.int (nI (mku)) : Value) (((v9 : Value) : Value) : Value) (((v10 : Value) : Value) : Value) (((v11 : Value) : Value) : Value) (((v12 : Value) : Value) : Value) (((v13 : Value) : Value) : Value) (((v14 : Value) : Value) : Value) (((v15 : Value) : Value) : Value) (((v16 : Value) : Value) : Value) (((v17 : Value) : Value) : Value) (((v18 : Value) : Value) : Value) (.ref m19 : Value) (.ref m20 : Value) (.ref m21 : Value) (.ref m22 : Value) (.ref m23 : Value) (.ref m24 : Value) (.ref m25 : Value) (.int (nI (mps)) : Value) (.int (nI (mkw)) : Value) (.ref m28 : Value) (.ref m29 : Value) (.ref m30 : Value) (.ref m31 : Value) (.ref m32 : Value) (.ref m33 : Value) (.ref m34 : Value) (.ref m35 : Value) (.ref m36 : Value) (.int (kEvb (mps)) : Value) (.int (nI (Ho_30)) : Value) (.long Xx_31 : Value) (.ref m40 : Value) (.ref m41 : Value) (.ref m42 : Value) (.ref m43 : Value) (.ref m44 : Value) (.int (nI (mkn)) : Value) (.ref m46 : Value) (.ref m47 : Value) (.ref m48 : Value) (.ref m49 : Value) (.ref m50 : Value) (.int (nI (mka)) : Value) m2 mc2 mf2 m3 mc3 mf3 m4 mc4 S4_36 bA nA xA hnA gnA bB nB xB hnB gnB hzA hzB hlB mkl yL hUl bd_44 j_8 bd_45 j_8 bd_46 bd_47 120 H_37.size) (cwV 3 hts (kG (List.forall_mem_cons.mpr ⟨(List.mem_cons_of_mem _ (List.mem_append_left _ (List.mem_of_getElem? (i := 21) rfl))), (List.forall_mem_cons.mpr ⟨(List.mem_cons_of_mem _ (List.mem_append_left _ (List.mem_of_getElem? (i := 20) rfl))), (List.forall_mem_cons.mpr ⟨(List.mem_cons_of_mem _ (List.mem_append_left _ (List.mem_of_getElem? (i := 19) rfl))), (List.forall_mem_cons.mpr ⟨(List.mem_cons_of_mem _ (List.mem_append_left _ (List.mem_of_getElem? (i := 0) rfl))), (fun _ h => absurd h List.not_mem_nil)⟩)⟩)⟩)⟩) (kGV _ _ _ _) (fun _ h => List.mem_cons_of_mem _ (List.mem_append_right _ (List.mem_append_right _ (List.mem_append_right _ (List.mem_append_right _ (List.mem_append_right _ (List.mem_append_right _ (List.mem_append_right _ (List.mem_append_right _ h))))))))) gw_s_worthOf10_0) rfl rfl rfl ⟨rfl, hd_X10_worthOf⟩ ⟨(Nat.le_of_ble_eq_true rfl), (Nat.le_of_ble_eq_true rfl)⟩) (kW_V kRd_blind (kRd_give hX.1 hS hFc) (va_recv hKc hPc (ci := 10) (q0 := 0) rfl rfl) hPc hKc hDc) rfl rfl hl.1 rfl (lv_room (Nat.le_of_ble_eq_true rfl)) dX10_worth_81 ⟨(Nat.le_of_ble_eq_true rfl), (Nat.le_of_ble_eq_true rfl)⟩) hS (fun q _ h => hFc q h) hFc (fun r_48 => kU11 (fun W5_49 W9_50 W10_51 W11_52 W12_53 W13_54 W14_55 W15_56 W16_57 W17_58 W18_59 t H_60 locs ht hvm hw hB hz1 hk1 hS => ?_))
            try dsimp only at hw
            have hPD : kPD dC dI A [(jM, .inr (10, [.int 0, .ref m1, .ref m2, .ref m3, .ref m4, W5_49, .int (nI (ml)), .int (nI (mkl)), .int (nI (mku)), W9_50, W10_51, W11_52, W12_53, W13_54, W14_55, W15_56, W16_57, W17_58, W18_59, .ref m19, .ref m20, .ref m21, .ref m22, .ref m23, .ref m24, .ref m25, .int (nI (mps)), .int (nI (mkw)), .ref m28, .ref m29, .ref m30, .ref m31, .ref m32, .ref m33, .ref m34, .ref m35, .ref m36, .int (kEvb (mps)), .int (nI (Ho_30)), .long Xx_31, .ref m40, .ref m41, .ref m42, .ref m43, .ref m44, .int (nI (mkn)), .ref m46, .ref m47, .ref m48, .ref m49, .ref m50, .int (nI (mka))])), (m1, .inl (mc1, 120, .inl mf1)), (m2, .inl (mc2, 1680, .inl mf2)), (m3, .inl (mc3, 14, .inl mf3)), (m4, .inl (mc4, 128, .inl S4_36)), (m19, .inl (mc19, 10, .inl mf19)), (m20, .inl (mc20, 10, .inl mf20)), (m21, .inl (mc21, 10, .inl mf21)), (m22, .inl (mc22, 10, .inl mf22)), (m23, .inl (mc23, 10, .inl mf23)), (m24, .inl (mc24, 4, .inl mf24)), (m25, .inl (mc25, 10, .inl mf25)), (m28, .inl (mc28, 10, .inl S28_25)), (m29, .inl (mc29, 10, .inl S29_26)), (m30, .inl (mc30, 10, .inl S30_27)), (m31, .inl (mc31, 10, .inl S31_28)), (m32, .inl (mc32, 10, .inl mf32)), (m33, .inl (mc33, 10, .inl mf33)), (m34, .inl (mc34, 10, .inl mf34)), (m35, .inl (mc35, 10, .inl mf35)), (m36, .inl (mc36, 10, .inl mf36)), (m40, .inl (mc40, 20, .inl mf40)), (m41, .inl (mc41, 20, .inl mf41)), (m42, .inl (mc42, 20, .inl mf42)), (m43, .inl (mc43, 20, .inl mf43)), (m44, .inl (mc44, 20, .inl mf44)), (m46, .inl (mc46, 14, .inr (.inl mf46))), (m47, .inl (mc47, 6, .inl mf47)), (m48, .inl (mc48, 6, .inl mf48)), (m49, .inl (mc49, 6, .inl mf49)), (m50, .inl (mc50, 6, .inl mf50))] H_60 := kJoinX hP hD [0, 2, 3, 4] rfl hk1 hFc hB.1 ht hB.2.2 rfl [some 0, none, some 1, some 2, some 3, none, none, none, none, none, none, none, none, none, none, none, none, none, none, none, none, none, none, none, none, none, none, none, none, none, none] rfl rfl
            obtain ⟨hP, hD⟩ := hPD
            have hw_61 := hw
            have hRE9 := kTd_E (ab := 0) (t := yL j_8) hTd (by omega) (kPrs0 mps).symm
            have hy9 := kYyR (E := (kE0 mps mkw G3 G4 SV (kPrs mps 0) (yL j_8))) (S := (kS0 G0 G1 G2 0)) (j := j_22) (lab := 2) hA9 hB9 hw_38 (kLe_b (show mps ≤ 10 by omega) (show mkw ≤ 4 by omega) (Nat.zero_le 48) hOk0 (show j_22 < mps by omega) hRE9.2.2.2.2.2.1 hRE9.2.2.2.2.2.2) (kUn_gd hnB hUl (j := j_8) (by omega)) rfl (Or.inr (Or.inr ⟨rfl, rfl⟩)) hw_61
            have hP9 := hP
            have hD9 := hD
            have hK9 := hK
            rw [hQ]
            exact W.iret (v := r_48) hx hb hr (fun t ht hW => ⟨⟨r_48, (S4_36, S28_25, S29_26, S30_27, S31_28, mf32, mf33, mf34, mf35, mf36, 0, (kEvb (mps)), Ho_30, Xx_31, (W5_49 : Value), (W9_50 : Value), (W10_51 : Value), (W11_52 : Value), (W12_53 : Value), (W13_54 : Value), (W14_55 : Value), (W15_56 : Value), (W16_57 : Value), (W17_58 : Value), (W18_59 : Value)), rfl, ⟨(kTh0 (by unfold kWoE; rw [if_neg ff_7, if_neg ff_14, if_neg ff_21]) (by unfold kWoV; rw [nI_clamp (n := j_8) (by omega), nI_clamp (n := j_15) (by omega), nI_clamp (n := j_22) (by omega), show j_15 = 2 from by omega]; exact hy9)), by omega⟩,  by rw [ht]; exact hP9, va_K.moved hW.alike hK9, hD9⟩, hS.F ht⟩) hS.2.2 dX10_worth_84
          · have hn_62 := keq (a := j_15) (b := 1) bd_41 kc_31_1 c_42
            refine lv_bipush (v := 103) hx hb dX10_worth_74 kc_b_103 ?_
            refine lv_goto (tgt := 81) hx hb dX10_worth_76 kc_t_76_5 ?_
            have bd_63 : mkl ≤ 8 := by omega
            have bd_64 : j_8 < mkl := by omega
            have bd_65 : j_8 = 0 + j_8 := by omega
            have bd_66 : j_8 < 14 := by omega
            have hCu := kCut (wc := [(jM, .inr (10, [.int 0, .ref m1, .ref m2, .ref m3, .ref m4, ((v5 : Value) : Value), .int (nI (ml)), .int (nI (mkl)), .int (nI (mku)), ((v9 : Value) : Value), ((v10 : Value) : Value), ((v11 : Value) : Value), ((v12 : Value) : Value), ((v13 : Value) : Value), ((v14 : Value) : Value), ((v15 : Value) : Value), ((v16 : Value) : Value), ((v17 : Value) : Value), ((v18 : Value) : Value), .ref m19, .ref m20, .ref m21, .ref m22, .ref m23, .ref m24, .ref m25, .int (nI (mps)), .int (nI (mkw)), .ref m28, .ref m29, .ref m30, .ref m31, .ref m32, .ref m33, .ref m34, .ref m35, .ref m36, .int (kEvb (mps)), .int (nI (Ho_30)), .long Xx_31, .ref m40, .ref m41, .ref m42, .ref m43, .ref m44, .int (nI (mkn)), .ref m46, .ref m47, .ref m48, .ref m49, .ref m50, .int (nI (mka))])), (m2, .inl (mc2, 1680, .inl mf2)), (m3, .inl (mc3, 14, .inl mf3)), (m4, .inl (mc4, 128, .inl S4_36))]) hP hD hS hA [0, 2, 3, 4] rfl kc_nd_794 rfl
            have hPc := hCu.1
            have hDc := hCu.2.1
            have hFc := hCu.2.2
            have hKc := hK.sb (tys2 := [(mc2, .byte), (mc3, .int), (mc4, .int)]) [1, 2, 3] rfl
            refine va_calli (va_runV (As := [.int (nI (j_8)), .int 0, .int 103]) (rest := []) ⟨hx, hb, hml, hown, hts⟩ (s_worthOf10_0 l dC dI ad jM (.int 0 : Value) (.ref m1 : Value) (((v5 : Value) : Value) : Value) (.int (nI (ml)) : Value) (.int (nI (mkl)) : Value) (.int (nI (mku)) : Value) (((v9 : Value) : Value) : Value) (((v10 : Value) : Value) : Value) (((v11 : Value) : Value) : Value) (((v12 : Value) : Value) : Value) (((v13 : Value) : Value) : Value) (((v14 : Value) : Value) : Value) (((v15 : Value) : Value) : Value) (((v16 : Value) : Value) : Value) (((v17 : Value) : Value) : Value) (((v18 : Value) : Value) : Value) (.ref m19 : Value) (.ref m20 : Value) (.ref m21 : Value) (.ref m22 : Value) (.ref m23 : Value) (.ref m24 : Value) (.ref m25 : Value) (.int (nI (mps)) : Value) (.int (nI (mkw)) : Value) (.ref m28 : Value) (.ref m29 : Value) (.ref m30 : Value) (.ref m31 : Value) (.ref m32 : Value) (.ref m33 : Value) (.ref m34 : Value) (.ref m35 : Value) (.ref m36 : Value) (.int (kEvb (mps)) : Value) (.int (nI (Ho_30)) : Value) (.long Xx_31 : Value) (.ref m40 : Value) (.ref m41 : Value) (.ref m42 : Value) (.ref m43 : Value) (.ref m44 : Value) (.int (nI (mkn)) : Value) (.ref m46 : Value) (.ref m47 : Value) (.ref m48 : Value) (.ref m49 : Value) (.ref m50 : Value) (.int (nI (mka)) : Value) m2 mc2 mf2 m3 mc3 mf3 m4 mc4 S4_36 bA nA xA hnA gnA bB nB xB hnB gnB hzA hzB hlB mkl yL hUl bd_63 j_8 bd_64 j_8 bd_65 bd_66 103 H_37.size) (cwV 3 hts (kG (List.forall_mem_cons.mpr ⟨(List.mem_cons_of_mem _ (List.mem_append_left _ (List.mem_of_getElem? (i := 21) rfl))), (List.forall_mem_cons.mpr ⟨(List.mem_cons_of_mem _ (List.mem_append_left _ (List.mem_of_getElem? (i := 20) rfl))), (List.forall_mem_cons.mpr ⟨(List.mem_cons_of_mem _ (List.mem_append_left _ (List.mem_of_getElem? (i := 19) rfl))), (List.forall_mem_cons.mpr ⟨(List.mem_cons_of_mem _ (List.mem_append_left _ (List.mem_of_getElem? (i := 0) rfl))), (fun _ h => absurd h List.not_mem_nil)⟩)⟩)⟩)⟩) (kGV _ _ _ _) (fun _ h => List.mem_cons_of_mem _ (List.mem_append_right _ (List.mem_append_right _ (List.mem_append_right _ (List.mem_append_right _ (List.mem_append_right _ (List.mem_append_right _ (List.mem_append_right _ (List.mem_append_right _ h))))))))) gw_s_worthOf10_0) rfl rfl rfl ⟨rfl, hd_X10_worthOf⟩ ⟨(Nat.le_of_ble_eq_true rfl), (Nat.le_of_ble_eq_true rfl)⟩) (kW_V kRd_blind (kRd_give hX.1 hS hFc) (va_recv hKc hPc (ci := 10) (q0 := 0) rfl rfl) hPc hKc hDc) rfl rfl hl.1 rfl (lv_room (Nat.le_of_ble_eq_true rfl)) dX10_worth_81 ⟨(Nat.le_of_ble_eq_true rfl), (Nat.le_of_ble_eq_true rfl)⟩) hS (fun q _ h => hFc q h) hFc (fun r_67 => kU11 (fun W5_68 W9_69 W10_70 W11_71 W12_72 W13_73 W14_74 W15_75 W16_76 W17_77 W18_78 t H_79 locs ht hvm hw hB hz1 hk1 hS => ?_))
            try dsimp only at hw
            have hPD : kPD dC dI A [(jM, .inr (10, [.int 0, .ref m1, .ref m2, .ref m3, .ref m4, W5_68, .int (nI (ml)), .int (nI (mkl)), .int (nI (mku)), W9_69, W10_70, W11_71, W12_72, W13_73, W14_74, W15_75, W16_76, W17_77, W18_78, .ref m19, .ref m20, .ref m21, .ref m22, .ref m23, .ref m24, .ref m25, .int (nI (mps)), .int (nI (mkw)), .ref m28, .ref m29, .ref m30, .ref m31, .ref m32, .ref m33, .ref m34, .ref m35, .ref m36, .int (kEvb (mps)), .int (nI (Ho_30)), .long Xx_31, .ref m40, .ref m41, .ref m42, .ref m43, .ref m44, .int (nI (mkn)), .ref m46, .ref m47, .ref m48, .ref m49, .ref m50, .int (nI (mka))])), (m1, .inl (mc1, 120, .inl mf1)), (m2, .inl (mc2, 1680, .inl mf2)), (m3, .inl (mc3, 14, .inl mf3)), (m4, .inl (mc4, 128, .inl S4_36)), (m19, .inl (mc19, 10, .inl mf19)), (m20, .inl (mc20, 10, .inl mf20)), (m21, .inl (mc21, 10, .inl mf21)), (m22, .inl (mc22, 10, .inl mf22)), (m23, .inl (mc23, 10, .inl mf23)), (m24, .inl (mc24, 4, .inl mf24)), (m25, .inl (mc25, 10, .inl mf25)), (m28, .inl (mc28, 10, .inl S28_25)), (m29, .inl (mc29, 10, .inl S29_26)), (m30, .inl (mc30, 10, .inl S30_27)), (m31, .inl (mc31, 10, .inl S31_28)), (m32, .inl (mc32, 10, .inl mf32)), (m33, .inl (mc33, 10, .inl mf33)), (m34, .inl (mc34, 10, .inl mf34)), (m35, .inl (mc35, 10, .inl mf35)), (m36, .inl (mc36, 10, .inl mf36)), (m40, .inl (mc40, 20, .inl mf40)), (m41, .inl (mc41, 20, .inl mf41)), (m42, .inl (mc42, 20, .inl mf42)), (m43, .inl (mc43, 20, .inl mf43)), (m44, .inl (mc44, 20, .inl mf44)), (m46, .inl (mc46, 14, .inr (.inl mf46))), (m47, .inl (mc47, 6, .inl mf47)), (m48, .inl (mc48, 6, .inl mf48)), (m49, .inl (mc49, 6, .inl mf49)), (m50, .inl (mc50, 6, .inl mf50))] H_79 := kJoinX hP hD [0, 2, 3, 4] rfl hk1 hFc hB.1 ht hB.2.2 rfl [some 0, none, some 1, some 2, some 3, none, none, none, none, none, none, none, none, none, none, none, none, none, none, none, none, none, none, none, none, none, none, none, none, none, none] rfl rfl
            obtain ⟨hP, hD⟩ := hPD
            have hw_80 := hw
            have hRE9 := kTd_E (ab := 0) (t := yL j_8) hTd (by omega) (kPrs0 mps).symm
            have hy9 := kYyR (E := (kE0 mps mkw G3 G4 SV (kPrs mps 0) (yL j_8))) (S := (kS0 G0 G1 G2 0)) (j := j_22) (lab := 1) hA9 hB9 hw_38 (kLe_b (show mps ≤ 10 by omega) (show mkw ≤ 4 by omega) (Nat.zero_le 48) hOk0 (show j_22 < mps by omega) hRE9.2.2.2.2.2.1 hRE9.2.2.2.2.2.2) (kUn_gd hnB hUl (j := j_8) (by omega)) rfl (Or.inr (Or.inl ⟨rfl, rfl⟩)) hw_80
            have hP9 := hP
            have hD9 := hD
            have hK9 := hK
            rw [hQ]
            exact W.iret (v := r_67) hx hb hr (fun t ht hW => ⟨⟨r_67, (S4_36, S28_25, S29_26, S30_27, S31_28, mf32, mf33, mf34, mf35, mf36, 0, (kEvb (mps)), Ho_30, Xx_31, (W5_68 : Value), (W9_69 : Value), (W10_70 : Value), (W11_71 : Value), (W12_72 : Value), (W13_73 : Value), (W14_74 : Value), (W15_75 : Value), (W16_76 : Value), (W17_77 : Value), (W18_78 : Value)), rfl, ⟨(kTh0 (by unfold kWoE; rw [if_neg ff_7, if_neg ff_14, if_neg ff_21]) (by unfold kWoV; rw [nI_clamp (n := j_8) (by omega), nI_clamp (n := j_15) (by omega), nI_clamp (n := j_22) (by omega), show j_15 = 1 from by omega]; exact hy9)), by omega⟩,  by rw [ht]; exact hP9, va_K.moved hW.alike hK9, hD9⟩, hS.F ht⟩) hS.2.2 dX10_worth_84
        · have bd_82 : j_15 < 2147483648 := by omega
          have hn_81 := keq (a := j_15) (b := 0) bd_82 kc_31_0 c_39
          refine lv_bipush (v := 121) hx hb dX10_worth_64 kc_b_121 ?_
          refine lv_goto (tgt := 81) hx hb dX10_worth_66 kc_t_66_15 ?_
          have bd_83 : mkl ≤ 8 := by omega
          have bd_84 : j_8 < mkl := by omega
          have bd_85 : j_8 = 0 + j_8 := by omega
          have bd_86 : j_8 < 14 := by omega
          have hCu := kCut (wc := [(jM, .inr (10, [.int 0, .ref m1, .ref m2, .ref m3, .ref m4, ((v5 : Value) : Value), .int (nI (ml)), .int (nI (mkl)), .int (nI (mku)), ((v9 : Value) : Value), ((v10 : Value) : Value), ((v11 : Value) : Value), ((v12 : Value) : Value), ((v13 : Value) : Value), ((v14 : Value) : Value), ((v15 : Value) : Value), ((v16 : Value) : Value), ((v17 : Value) : Value), ((v18 : Value) : Value), .ref m19, .ref m20, .ref m21, .ref m22, .ref m23, .ref m24, .ref m25, .int (nI (mps)), .int (nI (mkw)), .ref m28, .ref m29, .ref m30, .ref m31, .ref m32, .ref m33, .ref m34, .ref m35, .ref m36, .int (kEvb (mps)), .int (nI (Ho_30)), .long Xx_31, .ref m40, .ref m41, .ref m42, .ref m43, .ref m44, .int (nI (mkn)), .ref m46, .ref m47, .ref m48, .ref m49, .ref m50, .int (nI (mka))])), (m2, .inl (mc2, 1680, .inl mf2)), (m3, .inl (mc3, 14, .inl mf3)), (m4, .inl (mc4, 128, .inl S4_36))]) hP hD hS hA [0, 2, 3, 4] rfl kc_nd_794 rfl
          have hPc := hCu.1
          have hDc := hCu.2.1
          have hFc := hCu.2.2
          have hKc := hK.sb (tys2 := [(mc2, .byte), (mc3, .int), (mc4, .int)]) [1, 2, 3] rfl
          refine va_calli (va_runV (As := [.int (nI (j_8)), .int 0, .int 121]) (rest := []) ⟨hx, hb, hml, hown, hts⟩ (s_worthOf10_0 l dC dI ad jM (.int 0 : Value) (.ref m1 : Value) (((v5 : Value) : Value) : Value) (.int (nI (ml)) : Value) (.int (nI (mkl)) : Value) (.int (nI (mku)) : Value) (((v9 : Value) : Value) : Value) (((v10 : Value) : Value) : Value) (((v11 : Value) : Value) : Value) (((v12 : Value) : Value) : Value) (((v13 : Value) : Value) : Value) (((v14 : Value) : Value) : Value) (((v15 : Value) : Value) : Value) (((v16 : Value) : Value) : Value) (((v17 : Value) : Value) : Value) (((v18 : Value) : Value) : Value) (.ref m19 : Value) (.ref m20 : Value) (.ref m21 : Value) (.ref m22 : Value) (.ref m23 : Value) (.ref m24 : Value) (.ref m25 : Value) (.int (nI (mps)) : Value) (.int (nI (mkw)) : Value) (.ref m28 : Value) (.ref m29 : Value) (.ref m30 : Value) (.ref m31 : Value) (.ref m32 : Value) (.ref m33 : Value) (.ref m34 : Value) (.ref m35 : Value) (.ref m36 : Value) (.int (kEvb (mps)) : Value) (.int (nI (Ho_30)) : Value) (.long Xx_31 : Value) (.ref m40 : Value) (.ref m41 : Value) (.ref m42 : Value) (.ref m43 : Value) (.ref m44 : Value) (.int (nI (mkn)) : Value) (.ref m46 : Value) (.ref m47 : Value) (.ref m48 : Value) (.ref m49 : Value) (.ref m50 : Value) (.int (nI (mka)) : Value) m2 mc2 mf2 m3 mc3 mf3 m4 mc4 S4_36 bA nA xA hnA gnA bB nB xB hnB gnB hzA hzB hlB mkl yL hUl bd_83 j_8 bd_84 j_8 bd_85 bd_86 121 H_37.size) (cwV 3 hts (kG (List.forall_mem_cons.mpr ⟨(List.mem_cons_of_mem _ (List.mem_append_left _ (List.mem_of_getElem? (i := 21) rfl))), (List.forall_mem_cons.mpr ⟨(List.mem_cons_of_mem _ (List.mem_append_left _ (List.mem_of_getElem? (i := 20) rfl))), (List.forall_mem_cons.mpr ⟨(List.mem_cons_of_mem _ (List.mem_append_left _ (List.mem_of_getElem? (i := 19) rfl))), (List.forall_mem_cons.mpr ⟨(List.mem_cons_of_mem _ (List.mem_append_left _ (List.mem_of_getElem? (i := 0) rfl))), (fun _ h => absurd h List.not_mem_nil)⟩)⟩)⟩)⟩) (kGV _ _ _ _) (fun _ h => List.mem_cons_of_mem _ (List.mem_append_right _ (List.mem_append_right _ (List.mem_append_right _ (List.mem_append_right _ (List.mem_append_right _ (List.mem_append_right _ (List.mem_append_right _ (List.mem_append_right _ h))))))))) gw_s_worthOf10_0) rfl rfl rfl ⟨rfl, hd_X10_worthOf⟩ ⟨(Nat.le_of_ble_eq_true rfl), (Nat.le_of_ble_eq_true rfl)⟩) (kW_V kRd_blind (kRd_give hX.1 hS hFc) (va_recv hKc hPc (ci := 10) (q0 := 0) rfl rfl) hPc hKc hDc) rfl rfl hl.1 rfl (lv_room (Nat.le_of_ble_eq_true rfl)) dX10_worth_81 ⟨(Nat.le_of_ble_eq_true rfl), (Nat.le_of_ble_eq_true rfl)⟩) hS (fun q _ h => hFc q h) hFc (fun r_87 => kU11 (fun W5_88 W9_89 W10_90 W11_91 W12_92 W13_93 W14_94 W15_95 W16_96 W17_97 W18_98 t H_99 locs ht hvm hw hB hz1 hk1 hS => ?_))
          try dsimp only at hw
          have hPD : kPD dC dI A [(jM, .inr (10, [.int 0, .ref m1, .ref m2, .ref m3, .ref m4, W5_88, .int (nI (ml)), .int (nI (mkl)), .int (nI (mku)), W9_89, W10_90, W11_91, W12_92, W13_93, W14_94, W15_95, W16_96, W17_97, W18_98, .ref m19, .ref m20, .ref m21, .ref m22, .ref m23, .ref m24, .ref m25, .int (nI (mps)), .int (nI (mkw)), .ref m28, .ref m29, .ref m30, .ref m31, .ref m32, .ref m33, .ref m34, .ref m35, .ref m36, .int (kEvb (mps)), .int (nI (Ho_30)), .long Xx_31, .ref m40, .ref m41, .ref m42, .ref m43, .ref m44, .int (nI (mkn)), .ref m46, .ref m47, .ref m48, .ref m49, .ref m50, .int (nI (mka))])), (m1, .inl (mc1, 120, .inl mf1)), (m2, .inl (mc2, 1680, .inl mf2)), (m3, .inl (mc3, 14, .inl mf3)), (m4, .inl (mc4, 128, .inl S4_36)), (m19, .inl (mc19, 10, .inl mf19)), (m20, .inl (mc20, 10, .inl mf20)), (m21, .inl (mc21, 10, .inl mf21)), (m22, .inl (mc22, 10, .inl mf22)), (m23, .inl (mc23, 10, .inl mf23)), (m24, .inl (mc24, 4, .inl mf24)), (m25, .inl (mc25, 10, .inl mf25)), (m28, .inl (mc28, 10, .inl S28_25)), (m29, .inl (mc29, 10, .inl S29_26)), (m30, .inl (mc30, 10, .inl S30_27)), (m31, .inl (mc31, 10, .inl S31_28)), (m32, .inl (mc32, 10, .inl mf32)), (m33, .inl (mc33, 10, .inl mf33)), (m34, .inl (mc34, 10, .inl mf34)), (m35, .inl (mc35, 10, .inl mf35)), (m36, .inl (mc36, 10, .inl mf36)), (m40, .inl (mc40, 20, .inl mf40)), (m41, .inl (mc41, 20, .inl mf41)), (m42, .inl (mc42, 20, .inl mf42)), (m43, .inl (mc43, 20, .inl mf43)), (m44, .inl (mc44, 20, .inl mf44)), (m46, .inl (mc46, 14, .inr (.inl mf46))), (m47, .inl (mc47, 6, .inl mf47)), (m48, .inl (mc48, 6, .inl mf48)), (m49, .inl (mc49, 6, .inl mf49)), (m50, .inl (mc50, 6, .inl mf50))] H_99 := kJoinX hP hD [0, 2, 3, 4] rfl hk1 hFc hB.1 ht hB.2.2 rfl [some 0, none, some 1, some 2, some 3, none, none, none, none, none, none, none, none, none, none, none, none, none, none, none, none, none, none, none, none, none, none, none, none, none, none] rfl rfl
          obtain ⟨hP, hD⟩ := hPD
          have hw_100 := hw
          have hRE9 := kTd_E (ab := 0) (t := yL j_8) hTd (by omega) (kPrs0 mps).symm
          have hy9 := kYyR (E := (kE0 mps mkw G3 G4 SV (kPrs mps 0) (yL j_8))) (S := (kS0 G0 G1 G2 0)) (j := j_22) (lab := 0) hA9 hB9 hw_38 (kLe_b (show mps ≤ 10 by omega) (show mkw ≤ 4 by omega) (Nat.zero_le 48) hOk0 (show j_22 < mps by omega) hRE9.2.2.2.2.2.1 hRE9.2.2.2.2.2.2) (kUn_gd hnB hUl (j := j_8) (by omega)) rfl (Or.inl ⟨rfl, rfl⟩) hw_100
          have hP9 := hP
          have hD9 := hD
          have hK9 := hK
          rw [hQ]
          exact W.iret (v := r_87) hx hb hr (fun t ht hW => ⟨⟨r_87, (S4_36, S28_25, S29_26, S30_27, S31_28, mf32, mf33, mf34, mf35, mf36, 0, (kEvb (mps)), Ho_30, Xx_31, (W5_88 : Value), (W9_89 : Value), (W10_90 : Value), (W11_91 : Value), (W12_92 : Value), (W13_93 : Value), (W14_94 : Value), (W15_95 : Value), (W16_96 : Value), (W17_97 : Value), (W18_98 : Value)), rfl, ⟨(kTh0 (by unfold kWoE; rw [if_neg ff_7, if_neg ff_14, if_neg ff_21]) (by unfold kWoV; rw [nI_clamp (n := j_8) (by omega), nI_clamp (n := j_15) (by omega), nI_clamp (n := j_22) (by omega), show j_15 = 0 from by omega]; exact hy9)), by omega⟩,  by rw [ht]; exact hP9, va_K.moved hW.alike hK9, hD9⟩, hS.F ht⟩) hS.2.2 dX10_worth_84

theorem dX10_odds_0 : decode cX10_odds 0 = .ok (.aload_n 0, 1) := by decide +kernel
theorem dX10_odds_1 : decode cX10_odds 1 = .ok (.iconst 0, 1) := by decide +kernel
theorem dX10_odds_2 : decode cX10_odds 2 = .ok (.putfield 117, 3) := by decide +kernel
theorem dX10_odds_5 : decode cX10_odds 5 = .ok (.aload_n 0, 1) := by decide +kernel
theorem dX10_odds_6 : decode cX10_odds 6 = .ok (.iload_n 1, 1) := by decide +kernel
theorem dX10_odds_7 : decode cX10_odds 7 = .ok (.invokevirtual 311, 3) := by decide +kernel
theorem dX10_odds_10 : decode cX10_odds 10 = .ok (.ifCond .eq 25, 3) := by decide +kernel
theorem dX10_odds_35 : decode cX10_odds 35 = .ok (.ldc2_w 347, 3) := by decide +kernel
theorem dX10_odds_38 : decode cX10_odds 38 = .ok (.lreturn, 1) := by decide +kernel
theorem dX10_odds_13 : decode cX10_odds 13 = .ok (.iload 4, 2) := by decide +kernel
theorem dX10_odds_15 : decode cX10_odds 15 = .ok (.iconst 0, 1) := by decide +kernel
theorem dX10_odds_16 : decode cX10_odds 16 = .ok (.bipush 47, 2) := by decide +kernel
theorem dX10_odds_18 : decode cX10_odds 18 = .ok (.invokestatic 236, 3) := by decide +kernel
theorem dX10_odds_21 : decode cX10_odds 21 = .ok (.ifCond .eq 14, 3) := by decide +kernel
theorem dX10_odds_24 : decode cX10_odds 24 = .ok (.iload 5, 2) := by decide +kernel
theorem dX10_odds_26 : decode cX10_odds 26 = .ok (.iconst 0, 1) := by decide +kernel
theorem dX10_odds_27 : decode cX10_odds 27 = .ok (.bipush 8, 2) := by decide +kernel
theorem dX10_odds_29 : decode cX10_odds 29 = .ok (.invokestatic 236, 3) := by decide +kernel
theorem dX10_odds_32 : decode cX10_odds 32 = .ok (.ifCond .ne 7, 3) := by decide +kernel
theorem dX10_odds_39 : decode cX10_odds 39 = .ok (.aload_n 0, 1) := by decide +kernel
theorem dX10_odds_40 : decode cX10_odds 40 = .ok (.iload_n 1, 1) := by decide +kernel
theorem dX10_odds_41 : decode cX10_odds 41 = .ok (.lload_n 2, 1) := by decide +kernel
theorem dX10_odds_42 : decode cX10_odds 42 = .ok (.iload 4, 2) := by decide +kernel
theorem dX10_odds_44 : decode cX10_odds 44 = .ok (.aload_n 0, 1) := by decide +kernel
theorem dX10_odds_45 : decode cX10_odds 45 = .ok (.invokevirtual 314, 3) := by decide +kernel
theorem dX10_odds_48 : decode cX10_odds 48 = .ok (.invokevirtual 317, 3) := by decide +kernel
theorem dX10_odds_51 : decode cX10_odds 51 = .ok (.iconst 0, 1) := by decide +kernel
theorem dX10_odds_52 : decode cX10_odds 52 = .ok (.istore 6, 2) := by decide +kernel
theorem dX10_odds_54 : decode cX10_odds 54 = .ok (.iconst 0, 1) := by decide +kernel
theorem dX10_odds_55 : decode cX10_odds 55 = .ok (.istore 7, 2) := by decide +kernel
theorem dX10_odds_57 : decode cX10_odds 57 = .ok (.iload 7, 2) := by decide +kernel
theorem dX10_odds_59 : decode cX10_odds 59 = .ok (.aload_n 0, 1) := by decide +kernel
theorem dX10_odds_60 : decode cX10_odds 60 = .ok (.getfield 250, 3) := by decide +kernel
theorem dX10_odds_63 : decode cX10_odds 63 = .ok (.if_icmp .ge 40, 3) := by decide +kernel
theorem dX10_odds_103 : decode cX10_odds 103 = .ok (.iload 6, 2) := by decide +kernel
theorem dX10_odds_105 : decode cX10_odds 105 = .ok (.bipush 8, 2) := by decide +kernel
theorem dX10_odds_107 : decode cX10_odds 107 = .ok (.if_icmp .le 7, 3) := by decide +kernel
theorem dX10_odds_114 : decode cX10_odds 114 = .ok (.iconst 0, 1) := by decide +kernel
theorem dX10_odds_115 : decode cX10_odds 115 = .ok (.istore 7, 2) := by decide +kernel
theorem dX10_odds_117 : decode cX10_odds 117 = .ok (.iload 7, 2) := by decide +kernel
theorem dX10_odds_119 : decode cX10_odds 119 = .ok (.aload_n 0, 1) := by decide +kernel
theorem dX10_odds_120 : decode cX10_odds 120 = .ok (.getfield 101, 3) := by decide +kernel
theorem dX10_odds_123 : decode cX10_odds 123 = .ok (.arraylength, 1) := by decide +kernel
theorem dX10_odds_124 : decode cX10_odds 124 = .ok (.if_icmp .ge 26, 3) := by decide +kernel
theorem dX10_odds_150 : decode cX10_odds 150 = .ok (.iconst 0, 1) := by decide +kernel
theorem dX10_odds_151 : decode cX10_odds 151 = .ok (.istore 7, 2) := by decide +kernel
theorem dX10_odds_153 : decode cX10_odds 153 = .ok (.iload 7, 2) := by decide +kernel
theorem dX10_odds_155 : decode cX10_odds 155 = .ok (.aload_n 0, 1) := by decide +kernel
theorem dX10_odds_156 : decode cX10_odds 156 = .ok (.getfield 250, 3) := by decide +kernel
theorem dX10_odds_159 : decode cX10_odds 159 = .ok (.if_icmp .ge 111, 3) := by decide +kernel
theorem dX10_odds_270 : decode cX10_odds 270 = .ok (.aload_n 0, 1) := by decide +kernel
theorem dX10_odds_271 : decode cX10_odds 271 = .ok (.getfield 101, 3) := by decide +kernel
theorem dX10_odds_274 : decode cX10_odds 274 = .ok (.iload 5, 2) := by decide +kernel
theorem dX10_odds_276 : decode cX10_odds 276 = .ok (.laload, 1) := by decide +kernel
theorem dX10_odds_277 : decode cX10_odds 277 = .ok (.lreturn, 1) := by decide +kernel
theorem dX10_odds_162 : decode cX10_odds 162 = .ok (.aload_n 0, 1) := by decide +kernel
theorem dX10_odds_163 : decode cX10_odds 163 = .ok (.getfield 55, 3) := by decide +kernel
theorem dX10_odds_166 : decode cX10_odds 166 = .ok (.iload 7, 2) := by decide +kernel
theorem dX10_odds_168 : decode cX10_odds 168 = .ok (.baload, 1) := by decide +kernel
theorem dX10_odds_169 : decode cX10_odds 169 = .ok (.ifCond .ne 95, 3) := by decide +kernel
theorem dX10_odds_264 : decode cX10_odds 264 = .ok (.iinc 7 1, 3) := by decide +kernel
theorem dX10_odds_267 : decode cX10_odds 267 = .ok (.goto (-114), 3) := by decide +kernel
theorem dX10_odds_172 : decode cX10_odds 172 = .ok (.aload_n 0, 1) := by decide +kernel
theorem dX10_odds_173 : decode cX10_odds 173 = .ok (.getfield 65, 3) := by decide +kernel
theorem dX10_odds_176 : decode cX10_odds 176 = .ok (.iload 7, 2) := by decide +kernel
theorem dX10_odds_178 : decode cX10_odds 178 = .ok (.iaload, 1) := by decide +kernel
theorem dX10_odds_179 : decode cX10_odds 179 = .ok (.iconst (-1), 1) := by decide +kernel
theorem dX10_odds_180 : decode cX10_odds 180 = .ok (.if_icmp .ne 6, 3) := by decide +kernel
theorem dX10_odds_186 : decode cX10_odds 186 = .ok (.aload_n 0, 1) := by decide +kernel
theorem dX10_odds_187 : decode cX10_odds 187 = .ok (.iload 7, 2) := by decide +kernel
theorem dX10_odds_189 : decode cX10_odds 189 = .ok (.invokevirtual 287, 3) := by decide +kernel
theorem dX10_odds_192 : decode cX10_odds 192 = .ok (.aload_n 0, 1) := by decide +kernel
theorem dX10_odds_193 : decode cX10_odds 193 = .ok (.iload_n 1, 1) := by decide +kernel
theorem dX10_odds_194 : decode cX10_odds 194 = .ok (.iconst 0, 1) := by decide +kernel
theorem dX10_odds_195 : decode cX10_odds 195 = .ok (.bipush 103, 2) := by decide +kernel
theorem dX10_odds_197 : decode cX10_odds 197 = .ok (.invokevirtual 290, 3) := by decide +kernel
theorem dX10_odds_200 : decode cX10_odds 200 = .ok (.invokestatic 294, 3) := by decide +kernel
theorem dX10_odds_203 : decode cX10_odds 203 = .ok (.i2l, 1) := by decide +kernel
theorem dX10_odds_204 : decode cX10_odds 204 = .ok (.lstore 8, 2) := by decide +kernel
theorem dX10_odds_206 : decode cX10_odds 206 = .ok (.bipush 8, 2) := by decide +kernel
theorem dX10_odds_208 : decode cX10_odds 208 = .ok (.istore 10, 2) := by decide +kernel
theorem dX10_odds_210 : decode cX10_odds 210 = .ok (.iload 10, 2) := by decide +kernel
theorem dX10_odds_212 : decode cX10_odds 212 = .ok (.ifCond .lt 52, 3) := by decide +kernel
theorem dX10_odds_215 : decode cX10_odds 215 = .ok (.aload_n 0, 1) := by decide +kernel
theorem dX10_odds_216 : decode cX10_odds 216 = .ok (.getfield 101, 3) := by decide +kernel
theorem dX10_odds_219 : decode cX10_odds 219 = .ok (.iload 10, 2) := by decide +kernel
theorem dX10_odds_221 : decode cX10_odds 221 = .ok (.aload_n 0, 1) := by decide +kernel
theorem dX10_odds_222 : decode cX10_odds 222 = .ok (.getfield 101, 3) := by decide +kernel
theorem dX10_odds_225 : decode cX10_odds 225 = .ok (.iload 10, 2) := by decide +kernel
theorem dX10_odds_227 : decode cX10_odds 227 = .ok (.laload, 1) := by decide +kernel
theorem dX10_odds_228 : decode cX10_odds 228 = .ok (.ldc2_w 282, 3) := by decide +kernel
theorem dX10_odds_231 : decode cX10_odds 231 = .ok (.lload 8, 2) := by decide +kernel
theorem dX10_odds_233 : decode cX10_odds 233 = .ok (.lsub, 1) := by decide +kernel
theorem dX10_odds_234 : decode cX10_odds 234 = .ok (.lmul, 1) := by decide +kernel
theorem dX10_odds_235 : decode cX10_odds 235 = .ok (.iload 10, 2) := by decide +kernel
theorem dX10_odds_237 : decode cX10_odds 237 = .ok (.ifCond .le 18, 3) := by decide +kernel
theorem dX10_odds_240 : decode cX10_odds 240 = .ok (.aload_n 0, 1) := by decide +kernel
theorem dX10_odds_241 : decode cX10_odds 241 = .ok (.getfield 101, 3) := by decide +kernel
theorem dX10_odds_244 : decode cX10_odds 244 = .ok (.iload 10, 2) := by decide +kernel
theorem dX10_odds_246 : decode cX10_odds 246 = .ok (.iconst 1, 1) := by decide +kernel
theorem dX10_odds_247 : decode cX10_odds 247 = .ok (.isub, 1) := by decide +kernel
theorem dX10_odds_248 : decode cX10_odds 248 = .ok (.laload, 1) := by decide +kernel
theorem dX10_odds_249 : decode cX10_odds 249 = .ok (.lload 8, 2) := by decide +kernel
theorem dX10_odds_251 : decode cX10_odds 251 = .ok (.lmul, 1) := by decide +kernel
theorem dX10_odds_252 : decode cX10_odds 252 = .ok (.goto 4, 3) := by decide +kernel
theorem dX10_odds_256 : decode cX10_odds 256 = .ok (.ladd, 1) := by decide +kernel
theorem dX10_odds_257 : decode cX10_odds 257 = .ok (.lastore, 1) := by decide +kernel
theorem dX10_odds_258 : decode cX10_odds 258 = .ok (.iinc 10 (-1), 3) := by decide +kernel
theorem dX10_odds_261 : decode cX10_odds 261 = .ok (.goto (-51), 3) := by decide +kernel
theorem dX10_odds_255 : decode cX10_odds 255 = .ok (.lconst 0, 1) := by decide +kernel
theorem dX10_odds_183 : decode cX10_odds 183 = .ok (.goto 81, 3) := by decide +kernel
theorem dX10_odds_127 : decode cX10_odds 127 = .ok (.aload_n 0, 1) := by decide +kernel
theorem dX10_odds_128 : decode cX10_odds 128 = .ok (.getfield 101, 3) := by decide +kernel
theorem dX10_odds_131 : decode cX10_odds 131 = .ok (.iload 7, 2) := by decide +kernel
theorem dX10_odds_133 : decode cX10_odds 133 = .ok (.iload 7, 2) := by decide +kernel
theorem dX10_odds_135 : decode cX10_odds 135 = .ok (.ifCond .ne 7, 3) := by decide +kernel
theorem dX10_odds_142 : decode cX10_odds 142 = .ok (.lconst 0, 1) := by decide +kernel
theorem dX10_odds_143 : decode cX10_odds 143 = .ok (.lastore, 1) := by decide +kernel
theorem dX10_odds_144 : decode cX10_odds 144 = .ok (.iinc 7 1, 3) := by decide +kernel
theorem dX10_odds_147 : decode cX10_odds 147 = .ok (.goto (-30), 3) := by decide +kernel
theorem dX10_odds_138 : decode cX10_odds 138 = .ok (.lconst 1, 1) := by decide +kernel
theorem dX10_odds_139 : decode cX10_odds 139 = .ok (.goto 4, 3) := by decide +kernel
theorem dX10_odds_110 : decode cX10_odds 110 = .ok (.ldc2_w 347, 3) := by decide +kernel
theorem dX10_odds_113 : decode cX10_odds 113 = .ok (.lreturn, 1) := by decide +kernel
theorem dX10_odds_66 : decode cX10_odds 66 = .ok (.iload 6, 2) := by decide +kernel
theorem dX10_odds_68 : decode cX10_odds 68 = .ok (.aload_n 0, 1) := by decide +kernel
theorem dX10_odds_69 : decode cX10_odds 69 = .ok (.getfield 55, 3) := by decide +kernel
theorem dX10_odds_72 : decode cX10_odds 72 = .ok (.iload 7, 2) := by decide +kernel
theorem dX10_odds_74 : decode cX10_odds 74 = .ok (.baload, 1) := by decide +kernel
theorem dX10_odds_75 : decode cX10_odds 75 = .ok (.ifCond .ne 18, 3) := by decide +kernel
theorem dX10_odds_93 : decode cX10_odds 93 = .ok (.iconst 0, 1) := by decide +kernel
theorem dX10_odds_94 : decode cX10_odds 94 = .ok (.iadd, 1) := by decide +kernel
theorem dX10_odds_95 : decode cX10_odds 95 = .ok (.istore 6, 2) := by decide +kernel
theorem dX10_odds_97 : decode cX10_odds 97 = .ok (.iinc 7 1, 3) := by decide +kernel
theorem dX10_odds_100 : decode cX10_odds 100 = .ok (.goto (-43), 3) := by decide +kernel
theorem dX10_odds_78 : decode cX10_odds 78 = .ok (.aload_n 0, 1) := by decide +kernel
theorem dX10_odds_79 : decode cX10_odds 79 = .ok (.getfield 65, 3) := by decide +kernel
theorem dX10_odds_82 : decode cX10_odds 82 = .ok (.iload 7, 2) := by decide +kernel
theorem dX10_odds_84 : decode cX10_odds 84 = .ok (.iaload, 1) := by decide +kernel
theorem dX10_odds_85 : decode cX10_odds 85 = .ok (.iconst (-1), 1) := by decide +kernel
theorem dX10_odds_86 : decode cX10_odds 86 = .ok (.if_icmp .eq 7, 3) := by decide +kernel
theorem dX10_odds_89 : decode cX10_odds 89 = .ok (.iconst 1, 1) := by decide +kernel
theorem dX10_odds_90 : decode cX10_odds 90 = .ok (.goto 4, 3) := by decide +kernel
def w_s_odds10 : List Cond := .code yX10_odds cX10_odds 11 (some .long) :: ([.fieldLink RX10 117 "NotEndedModel" "thrown" "I", .initialized RX10, .selects RX10 yX10_isLaw yX10_isLaw, .instanceMethod yX10_isLaw, .methodLink RX10 311 yX10_isLaw, .constantLong RX10 347 (-1), .static yX10_isIn, .methodLink RX10 236 yX10_isIn, .selects RX10 yX10_everybody yX10_everybody, .instanceMethod yX10_everybody, .methodLink RX10 314 yX10_everybody, .selects RX10 yX10_runOf yX10_runOf, .instanceMethod yX10_runOf, .methodLink RX10 317 yX10_runOf, .fieldLink RX10 250 "NotEndedModel" "persons" "I", .fieldLink RX10 101 "NotEndedModel" "ways" "[J", .fieldLink RX10 55 "NotEndedModel" "isSent" "[Z", .fieldLink RX10 65 "NotEndedModel" "house" "[I", .selects RX10 yX10_layLetters yX10_layLetters, .instanceMethod yX10_layLetters, .methodLink RX10 287 yX10_layLetters, .selects RX10 yX10_worthOf yX10_worthOf, .instanceMethod yX10_worthOf, .methodLink RX10 290 yX10_worthOf, .static yX10_held, .methodLink RX10 294 yX10_held, .constantLong RX10 282 (100)] ++ (wsX100 ++ (w_s_isLaw10x ++ (w_s_isIn10 ++ (w_s_every10x ++ (w_s_runOf10x ++ (w_s_lay10x ++ (w_s_worthOf10_0 ++ (w_s_held10x)))))))))
theorem gw_s_odds10 : (w_s_odds10).all goodWord = true := kGc rfl (kGa (by decide +kernel) (kGa gw_wsX100 (kGa gw_s_isLaw10x (kGa gw_s_isIn10 (kGa gw_s_every10x (kGa gw_s_runOf10x (kGa gw_s_lay10x (kGa gw_s_worthOf10_0 gw_s_held10x))))))))
theorem hd_X10_odds : yX10_odds.cls ≠ "java/lang/invoke/MethodHandle" ∧ yX10_odds.cls ≠ "java/lang/invoke/VarHandle" ∧ (parseMethodDescriptor yX10_odds.desc).map (fun d => d.parameters.length) = some 4 := by decide +kernel
set_option maxHeartbeats 4000000 in
set_option maxRecDepth 100000 in
theorem s_odds10 (l : Launch) (dC : Nat → ClassId) (dI : Nat → Nat → Nat) (jM : Nat) (th : Int32) (thr : Int32) (xx : Int64) (v5 : Value) (v9 : Value) (v10 : Value) (v11 : Value) (v12 : Value) (v13 : Value) (v14 : Value) (v15 : Value) (v16 : Value) (v17 : Value) (v18 : Value) (m1 : Nat) (m2 : Nat) (m3 : Nat) (m4 : Nat) (m19 : Nat) (m20 : Nat) (m21 : Nat) (m22 : Nat) (m23 : Nat) (m24 : Nat) (m25 : Nat) (m28 : Nat) (m29 : Nat) (m30 : Nat) (m31 : Nat) (m32 : Nat) (m33 : Nat) (m34 : Nat) (m35 : Nat) (m36 : Nat) (m40 : Nat) (m41 : Nat) (m42 : Nat) (m43 : Nat) (m44 : Nat) (m46 : Nat) (m47 : Nat) (m48 : Nat) (m49 : Nat) (m50 : Nat) (mc1 : ClassId) (mc2 : ClassId) (mc3 : ClassId) (mc4 : ClassId) (mc19 : ClassId) (mc20 : ClassId) (mc21 : ClassId) (mc22 : ClassId) (mc23 : ClassId) (mc24 : ClassId) (mc25 : ClassId) (mc28 : ClassId) (mc29 : ClassId) (mc30 : ClassId) (mc31 : ClassId) (mc32 : ClassId) (mc33 : ClassId) (mc34 : ClassId) (mc35 : ClassId) (mc36 : ClassId) (mc40 : ClassId) (mc41 : ClassId) (mc42 : ClassId) (mc43 : ClassId) (mc44 : ClassId) (mc46 : ClassId) (mc47 : ClassId) (mc48 : ClassId) (mc49 : ClassId) (mc50 : ClassId) (mf1 : Nat → Int32) (mf2 : Nat → Int32) (mf3 : Nat → Int32) (mf4 : Nat → Int32) (mf19 : Nat → Int32) (mf20 : Nat → Int32) (mf21 : Nat → Int32) (mf22 : Nat → Int32) (mf23 : Nat → Int32) (mf24 : Nat → Int32) (mf25 : Nat → Int32) (mf28 : Nat → Int32) (mf29 : Nat → Int32) (mf30 : Nat → Int32) (mf31 : Nat → Int32) (mf32 : Nat → Int32) (mf33 : Nat → Int32) (mf34 : Nat → Int32) (mf35 : Nat → Int32) (mf36 : Nat → Int32) (mf40 : Nat → Int32) (mf41 : Nat → Int32) (mf42 : Nat → Int32) (mf43 : Nat → Int32) (mf44 : Nat → Int32) (mf46 : Nat → Int64) (mf47 : Nat → Int32) (mf48 : Nat → Int32) (mf49 : Nat → Int32) (mf50 : Nat → Int32) (ml : Nat) (mkl : Nat) (mku : Nat) (mps : Nat) (mkw : Nat) (ho : Nat) (mkn : Nat) (mka : Nat) (hml : ml ≤ 120) (hmkl : mkl ≤ 6) (hmku : mku ≤ 8) (hmps : mps ≤ 10) (hmkw : mkw ≤ 4) (hho : ho ≤ 48) (hmkn : mkn ≤ 20) (hmka : mka ≤ 6) (ad : Nat → Nat) (bA : Nat) (nA : Nat) (xA : Nat → Int32) (hnA : nA ≤ 8) (bB : Nat) (nB : Nat) (xB : Nat → Int32) (hnB : nB ≤ 8) (bE : Nat) (nE : Nat) (xE : Nat → Int32) (hnE : nE ≤ 8) (bG : Nat) (nG : Nat) (xG : Nat → Int32) (hnG : nG ≤ 8) (gnA : ∀ k : Nat, ∃ v : Nat, v < 128 ∧ xA k = nI v) (gnB : ∀ k : Nat, ∃ v : Nat, v < 128 ∧ xB k = nI v) (gnE : ∀ k : Nat, ∃ v : Nat, v < 128 ∧ xE k = nI v) (gnG : ∀ k : Nat, ∃ v : Nat, v < 128 ∧ xG k = nI v) (hzA : kIx xA nA (nI 0) = nA) (hzB : kIx xB nB (nI 0) = nB) (hzE : kIx xE nE (nI 0) = nE) (hzG : kIx xG nG (nI 0) = nG) (hlB : ∀ c : Nat, c < 256 → kIx xB nB (nI c) < nB → ¬ c = 91 ∧ ¬ (48 ≤ c ∧ c ≤ 57)) (hlG : ∀ c : Nat, c < 256 → kIx xG nG (nI c) < nG → ¬ c = 91 ∧ ¬ (48 ≤ c ∧ c ≤ 57)) (yL : Nat → List kTr) (yU : Nat → List kTr) (hUl : kUn mf2 mf3 0 mkl xA nA xB nB yL) (hUt : kUn mf2 mf3 6 mku xE nE xG nG yU) (hE9 : nE = 1 ∧ xE 0 = 119) (hG9 : nG = 5 ∧ ∀ k : Nat, k < 5 → xG k = nI (97 + k)) (G0 : Nat → Int32) (G1 : Nat → Int32) (G2 : Nat → Int32) (G3 : Nat → Int32) (G4 : Nat → Int32) (SV : Nat) (hTd : kTd mps mkw G0 G1 G2 G3 G4 SV mf19 mf20 mf21 mf22 mf24 mf25) (hOk0 : kOk mps (kS0 G0 G1 G2 0)) (hA9 : nA = 3 ∧ xA 0 = 121 ∧ xA 1 = 103 ∧ xA 2 = 120) (hB9 : nB = 8 ∧ ∀ k : Nat, k < 8 → xB k = nI (kSg8 k)) (hSV : SV < 1024) (p0 : Int32) (p1 : Int64) (p2 : Int32) (p3 : Int32) (sz : Nat) : Met l yX10_odds w_s_odds10 ({ frames := 65, cells := 0, slots := 0, locals := 3900 }) (kW dC dI [.ref jM, .int p0, .long p1, .int p2, .int p3] [(jM, .inr (10, [.int th, .ref m1, .ref m2, .ref m3, .ref m4, v5, .int (nI (ml)), .int (nI (mkl)), .int (nI (mku)), v9, v10, v11, v12, v13, v14, v15, v16, v17, v18, .ref m19, .ref m20, .ref m21, .ref m22, .ref m23, .ref m24, .ref m25, .int (nI (mps)), .int (nI (mkw)), .ref m28, .ref m29, .ref m30, .ref m31, .ref m32, .ref m33, .ref m34, .ref m35, .ref m36, .int thr, .int (nI (ho)), .long xx, .ref m40, .ref m41, .ref m42, .ref m43, .ref m44, .int (nI (mkn)), .ref m46, .ref m47, .ref m48, .ref m49, .ref m50, .int (nI (mka))])), (m1, .inl (mc1, 120, .inl mf1)), (m2, .inl (mc2, 1680, .inl mf2)), (m3, .inl (mc3, 14, .inl mf3)), (m4, .inl (mc4, 128, .inl mf4)), (m19, .inl (mc19, 10, .inl mf19)), (m20, .inl (mc20, 10, .inl mf20)), (m21, .inl (mc21, 10, .inl mf21)), (m22, .inl (mc22, 10, .inl mf22)), (m23, .inl (mc23, 10, .inl mf23)), (m24, .inl (mc24, 4, .inl mf24)), (m25, .inl (mc25, 10, .inl mf25)), (m28, .inl (mc28, 10, .inl mf28)), (m29, .inl (mc29, 10, .inl mf29)), (m30, .inl (mc30, 10, .inl mf30)), (m31, .inl (mc31, 10, .inl mf31)), (m32, .inl (mc32, 10, .inl mf32)), (m33, .inl (mc33, 10, .inl mf33)), (m34, .inl (mc34, 10, .inl mf34)), (m35, .inl (mc35, 10, .inl mf35)), (m36, .inl (mc36, 10, .inl mf36)), (m40, .inl (mc40, 20, .inl mf40)), (m41, .inl (mc41, 20, .inl mf41)), (m42, .inl (mc42, 20, .inl mf42)), (m43, .inl (mc43, 20, .inl mf43)), (m44, .inl (mc44, 20, .inl mf44)), (m46, .inl (mc46, 14, .inr (.inl mf46))), (m47, .inl (mc47, 6, .inl mf47)), (m48, .inl (mc48, 6, .inl mf48)), (m49, .inl (mc49, 6, .inl mf49)), (m50, .inl (mc50, 6, .inl mf50))] [(mc1, .byte), (mc2, .byte), (mc3, .int), (mc4, .int), (mc19, .int), (mc20, .int), (mc21, .int), (mc22, .int), (mc23, .int), (mc24, .int), (mc25, .boolean), (mc28, .int), (mc29, .int), (mc30, .int), (mc31, .int), (mc32, .int), (mc33, .int), (mc34, .int), (mc35, .int), (mc36, .int), (mc40, .int), (mc41, .int), (mc42, .int), (mc43, .int), (mc44, .int), (mc46, .long), (mc47, .int), (mc48, .int), (mc49, .int), (mc50, .int)] (kMx ad bA nA xA bB nB xB bE nE xE bG nG xG (va_A [(jM, .inr (10, [.int th, .ref m1, .ref m2, .ref m3, .ref m4, v5, .int (nI (ml)), .int (nI (mkl)), .int (nI (mku)), v9, v10, v11, v12, v13, v14, v15, v16, v17, v18, .ref m19, .ref m20, .ref m21, .ref m22, .ref m23, .ref m24, .ref m25, .int (nI (mps)), .int (nI (mkw)), .ref m28, .ref m29, .ref m30, .ref m31, .ref m32, .ref m33, .ref m34, .ref m35, .ref m36, .int thr, .int (nI (ho)), .long xx, .ref m40, .ref m41, .ref m42, .ref m43, .ref m44, .int (nI (mkn)), .ref m46, .ref m47, .ref m48, .ref m49, .ref m50, .int (nI (mka))])), (m1, .inl (mc1, 120, .inl mf1)), (m2, .inl (mc2, 1680, .inl mf2)), (m3, .inl (mc3, 14, .inl mf3)), (m4, .inl (mc4, 128, .inl mf4)), (m19, .inl (mc19, 10, .inl mf19)), (m20, .inl (mc20, 10, .inl mf20)), (m21, .inl (mc21, 10, .inl mf21)), (m22, .inl (mc22, 10, .inl mf22)), (m23, .inl (mc23, 10, .inl mf23)), (m24, .inl (mc24, 4, .inl mf24)), (m25, .inl (mc25, 10, .inl mf25)), (m28, .inl (mc28, 10, .inl mf28)), (m29, .inl (mc29, 10, .inl mf29)), (m30, .inl (mc30, 10, .inl mf30)), (m31, .inl (mc31, 10, .inl mf31)), (m32, .inl (mc32, 10, .inl mf32)), (m33, .inl (mc33, 10, .inl mf33)), (m34, .inl (mc34, 10, .inl mf34)), (m35, .inl (mc35, 10, .inl mf35)), (m36, .inl (mc36, 10, .inl mf36)), (m40, .inl (mc40, 20, .inl mf40)), (m41, .inl (mc41, 20, .inl mf41)), (m42, .inl (mc42, 20, .inl mf42)), (m43, .inl (mc43, 20, .inl mf43)), (m44, .inl (mc44, 20, .inl mf44)), (m46, .inl (mc46, 14, .inr (.inl mf46))), (m47, .inl (mc47, 6, .inl mf47)), (m48, .inl (mc48, 6, .inl mf48)), (m49, .inl (mc49, 6, .inl mf49)), (m50, .inl (mc50, 6, .inl mf50))] sz)) sz) (va_Ql (fun (r : Int64) (u : (Nat → Int32) × (Nat → Int32) × (Nat → Int32) × (Nat → Int32) × (Nat → Int32) × (Nat → Int32) × (Nat → Int32) × (Nat → Int32) × (Nat → Int32) × (Nat → Int32) × (Nat → Int64) × Int32 × Int32 × Nat × Int64 × Value × Value × Value × Value × Value × Value × Value × Value × Value × Value × Value) => match u with | (S4, S28, S29, S30, S31, S32, S33, S34, S35, S36, S46, Th0, Th, Ho, Xx, W5, W9, W10, W11, W12, W13, W14, W15, W16, W17, W18) => (r = kOdA mkl mps mkw G0 G1 G2 G3 G4 SV yL p0 p1 p2 p3 ∧ Ho ≤ 48)) (fun (u : (Nat → Int32) × (Nat → Int32) × (Nat → Int32) × (Nat → Int32) × (Nat → Int32) × (Nat → Int32) × (Nat → Int32) × (Nat → Int32) × (Nat → Int32) × (Nat → Int32) × (Nat → Int64) × Int32 × Int32 × Nat × Int64 × Value × Value × Value × Value × Value × Value × Value × Value × Value × Value × Value) => match u with | (S4, S28, S29, S30, S31, S32, S33, S34, S35, S36, S46, Th0, Th, Ho, Xx, W5, W9, W10, W11, W12, W13, W14, W15, W16, W17, W18) => fun t : State => kB dC dI [(jM, .inr (10, [.int Th0, .ref m1, .ref m2, .ref m3, .ref m4, W5, .int (nI (ml)), .int (nI (mkl)), .int (nI (mku)), W9, W10, W11, W12, W13, W14, W15, W16, W17, W18, .ref m19, .ref m20, .ref m21, .ref m22, .ref m23, .ref m24, .ref m25, .int (nI (mps)), .int (nI (mkw)), .ref m28, .ref m29, .ref m30, .ref m31, .ref m32, .ref m33, .ref m34, .ref m35, .ref m36, .int Th, .int (nI (Ho)), .long Xx, .ref m40, .ref m41, .ref m42, .ref m43, .ref m44, .int (nI (mkn)), .ref m46, .ref m47, .ref m48, .ref m49, .ref m50, .int (nI (mka))])), (m1, .inl (mc1, 120, .inl mf1)), (m2, .inl (mc2, 1680, .inl mf2)), (m3, .inl (mc3, 14, .inl mf3)), (m4, .inl (mc4, 128, .inl S4)), (m19, .inl (mc19, 10, .inl mf19)), (m20, .inl (mc20, 10, .inl mf20)), (m21, .inl (mc21, 10, .inl mf21)), (m22, .inl (mc22, 10, .inl mf22)), (m23, .inl (mc23, 10, .inl mf23)), (m24, .inl (mc24, 4, .inl mf24)), (m25, .inl (mc25, 10, .inl mf25)), (m28, .inl (mc28, 10, .inl S28)), (m29, .inl (mc29, 10, .inl S29)), (m30, .inl (mc30, 10, .inl S30)), (m31, .inl (mc31, 10, .inl S31)), (m32, .inl (mc32, 10, .inl S32)), (m33, .inl (mc33, 10, .inl S33)), (m34, .inl (mc34, 10, .inl S34)), (m35, .inl (mc35, 10, .inl S35)), (m36, .inl (mc36, 10, .inl S36)), (m40, .inl (mc40, 20, .inl mf40)), (m41, .inl (mc41, 20, .inl mf41)), (m42, .inl (mc42, 20, .inl mf42)), (m43, .inl (mc43, 20, .inl mf43)), (m44, .inl (mc44, 20, .inl mf44)), (m46, .inl (mc46, 14, .inr (.inl S46))), (m47, .inl (mc47, 6, .inl mf47)), (m48, .inl (mc48, 6, .inl mf48)), (m49, .inl (mc49, 6, .inl mf49)), (m50, .inl (mc50, 6, .inl mf50))] [(mc1, .byte), (mc2, .byte), (mc3, .int), (mc4, .int), (mc19, .int), (mc20, .int), (mc21, .int), (mc22, .int), (mc23, .int), (mc24, .int), (mc25, .boolean), (mc28, .int), (mc29, .int), (mc30, .int), (mc31, .int), (mc32, .int), (mc33, .int), (mc34, .int), (mc35, .int), (mc36, .int), (mc40, .int), (mc41, .int), (mc42, .int), (mc43, .int), (mc44, .int), (mc46, .long), (mc47, .int), (mc48, .int), (mc49, .int), (mc50, .int)] (va_A [(jM, .inr (10, [.int th, .ref m1, .ref m2, .ref m3, .ref m4, v5, .int (nI (ml)), .int (nI (mkl)), .int (nI (mku)), v9, v10, v11, v12, v13, v14, v15, v16, v17, v18, .ref m19, .ref m20, .ref m21, .ref m22, .ref m23, .ref m24, .ref m25, .int (nI (mps)), .int (nI (mkw)), .ref m28, .ref m29, .ref m30, .ref m31, .ref m32, .ref m33, .ref m34, .ref m35, .ref m36, .int thr, .int (nI (ho)), .long xx, .ref m40, .ref m41, .ref m42, .ref m43, .ref m44, .int (nI (mkn)), .ref m46, .ref m47, .ref m48, .ref m49, .ref m50, .int (nI (mka))])), (m1, .inl (mc1, 120, .inl mf1)), (m2, .inl (mc2, 1680, .inl mf2)), (m3, .inl (mc3, 14, .inl mf3)), (m4, .inl (mc4, 128, .inl mf4)), (m19, .inl (mc19, 10, .inl mf19)), (m20, .inl (mc20, 10, .inl mf20)), (m21, .inl (mc21, 10, .inl mf21)), (m22, .inl (mc22, 10, .inl mf22)), (m23, .inl (mc23, 10, .inl mf23)), (m24, .inl (mc24, 4, .inl mf24)), (m25, .inl (mc25, 10, .inl mf25)), (m28, .inl (mc28, 10, .inl mf28)), (m29, .inl (mc29, 10, .inl mf29)), (m30, .inl (mc30, 10, .inl mf30)), (m31, .inl (mc31, 10, .inl mf31)), (m32, .inl (mc32, 10, .inl mf32)), (m33, .inl (mc33, 10, .inl mf33)), (m34, .inl (mc34, 10, .inl mf34)), (m35, .inl (mc35, 10, .inl mf35)), (m36, .inl (mc36, 10, .inl mf36)), (m40, .inl (mc40, 20, .inl mf40)), (m41, .inl (mc41, 20, .inl mf41)), (m42, .inl (mc42, 20, .inl mf42)), (m43, .inl (mc43, 20, .inl mf43)), (m44, .inl (mc44, 20, .inl mf44)), (m46, .inl (mc46, 14, .inr (.inl mf46))), (m47, .inl (mc47, 6, .inl mf47)), (m48, .inl (mc48, 6, .inl mf48)), (m49, .inl (mc49, 6, .inl mf49)), (m50, .inl (mc50, 6, .inl mf50))] sz) t) (va_A [(jM, .inr (10, [.int th, .ref m1, .ref m2, .ref m3, .ref m4, v5, .int (nI (ml)), .int (nI (mkl)), .int (nI (mku)), v9, v10, v11, v12, v13, v14, v15, v16, v17, v18, .ref m19, .ref m20, .ref m21, .ref m22, .ref m23, .ref m24, .ref m25, .int (nI (mps)), .int (nI (mkw)), .ref m28, .ref m29, .ref m30, .ref m31, .ref m32, .ref m33, .ref m34, .ref m35, .ref m36, .int thr, .int (nI (ho)), .long xx, .ref m40, .ref m41, .ref m42, .ref m43, .ref m44, .int (nI (mkn)), .ref m46, .ref m47, .ref m48, .ref m49, .ref m50, .int (nI (mka))])), (m1, .inl (mc1, 120, .inl mf1)), (m2, .inl (mc2, 1680, .inl mf2)), (m3, .inl (mc3, 14, .inl mf3)), (m4, .inl (mc4, 128, .inl mf4)), (m19, .inl (mc19, 10, .inl mf19)), (m20, .inl (mc20, 10, .inl mf20)), (m21, .inl (mc21, 10, .inl mf21)), (m22, .inl (mc22, 10, .inl mf22)), (m23, .inl (mc23, 10, .inl mf23)), (m24, .inl (mc24, 4, .inl mf24)), (m25, .inl (mc25, 10, .inl mf25)), (m28, .inl (mc28, 10, .inl mf28)), (m29, .inl (mc29, 10, .inl mf29)), (m30, .inl (mc30, 10, .inl mf30)), (m31, .inl (mc31, 10, .inl mf31)), (m32, .inl (mc32, 10, .inl mf32)), (m33, .inl (mc33, 10, .inl mf33)), (m34, .inl (mc34, 10, .inl mf34)), (m35, .inl (mc35, 10, .inl mf35)), (m36, .inl (mc36, 10, .inl mf36)), (m40, .inl (mc40, 20, .inl mf40)), (m41, .inl (mc41, 20, .inl mf41)), (m42, .inl (mc42, 20, .inl mf42)), (m43, .inl (mc43, 20, .inl mf43)), (m44, .inl (mc44, 20, .inl mf44)), (m46, .inl (mc46, 14, .inr (.inl mf46))), (m47, .inl (mc47, 6, .inl mf47)), (m48, .inl (mc48, 6, .inl mf48)), (m49, .inl (mc49, 6, .inl mf49)), (m50, .inl (mc50, 6, .inl mf50))] sz)) 0 0 (va_A [(jM, .inr (10, [.int th, .ref m1, .ref m2, .ref m3, .ref m4, v5, .int (nI (ml)), .int (nI (mkl)), .int (nI (mku)), v9, v10, v11, v12, v13, v14, v15, v16, v17, v18, .ref m19, .ref m20, .ref m21, .ref m22, .ref m23, .ref m24, .ref m25, .int (nI (mps)), .int (nI (mkw)), .ref m28, .ref m29, .ref m30, .ref m31, .ref m32, .ref m33, .ref m34, .ref m35, .ref m36, .int thr, .int (nI (ho)), .long xx, .ref m40, .ref m41, .ref m42, .ref m43, .ref m44, .int (nI (mkn)), .ref m46, .ref m47, .ref m48, .ref m49, .ref m50, .int (nI (mka))])), (m1, .inl (mc1, 120, .inl mf1)), (m2, .inl (mc2, 1680, .inl mf2)), (m3, .inl (mc3, 14, .inl mf3)), (m4, .inl (mc4, 128, .inl mf4)), (m19, .inl (mc19, 10, .inl mf19)), (m20, .inl (mc20, 10, .inl mf20)), (m21, .inl (mc21, 10, .inl mf21)), (m22, .inl (mc22, 10, .inl mf22)), (m23, .inl (mc23, 10, .inl mf23)), (m24, .inl (mc24, 4, .inl mf24)), (m25, .inl (mc25, 10, .inl mf25)), (m28, .inl (mc28, 10, .inl mf28)), (m29, .inl (mc29, 10, .inl mf29)), (m30, .inl (mc30, 10, .inl mf30)), (m31, .inl (mc31, 10, .inl mf31)), (m32, .inl (mc32, 10, .inl mf32)), (m33, .inl (mc33, 10, .inl mf33)), (m34, .inl (mc34, 10, .inl mf34)), (m35, .inl (mc35, 10, .inl mf35)), (m36, .inl (mc36, 10, .inl mf36)), (m40, .inl (mc40, 20, .inl mf40)), (m41, .inl (mc41, 20, .inl mf41)), (m42, .inl (mc42, 20, .inl mf42)), (m43, .inl (mc43, 20, .inl mf43)), (m44, .inl (mc44, 20, .inl mf44)), (m46, .inl (mc46, 14, .inr (.inl mf46))), (m47, .inl (mc47, 6, .inl mf47)), (m48, .inl (mc48, 6, .inl mf48)), (m49, .inl (mc49, 6, .inl mf49)), (m50, .inl (mc50, 6, .inl mf50))] sz) := by
  refine Met.ofW (cc := cX10_odds) (maxL := 11) (ret := (some .long)) (by decide) rfl ?_
  intro p e s m args below meth c s₁ B hml hv
  obtain ⟨rfl, hsz, hP, hK, hD0, hX⟩ := hv
  have hx := B.exec
  have hb := B.bytes
  have hr := B.returns
  have hts := atoms_spec (ws := w_s_odds10) B.pre
  have hown : s.vm.findClass RX10 = some m.cls := findClass_of_methodNamed B.named
  have hlocks := B.notSynchronized
  subst hsz
  have hD := hD0.self (sz := s.heap.size)
  generalize hAe : va_A [(jM, .inr (10, [.int th, .ref m1, .ref m2, .ref m3, .ref m4, v5, .int (nI (ml)), .int (nI (mkl)), .int (nI (mku)), v9, v10, v11, v12, v13, v14, v15, v16, v17, v18, .ref m19, .ref m20, .ref m21, .ref m22, .ref m23, .ref m24, .ref m25, .int (nI (mps)), .int (nI (mkw)), .ref m28, .ref m29, .ref m30, .ref m31, .ref m32, .ref m33, .ref m34, .ref m35, .ref m36, .int thr, .int (nI (ho)), .long xx, .ref m40, .ref m41, .ref m42, .ref m43, .ref m44, .int (nI (mkn)), .ref m46, .ref m47, .ref m48, .ref m49, .ref m50, .int (nI (mka))])), (m1, .inl (mc1, 120, .inl mf1)), (m2, .inl (mc2, 1680, .inl mf2)), (m3, .inl (mc3, 14, .inl mf3)), (m4, .inl (mc4, 128, .inl mf4)), (m19, .inl (mc19, 10, .inl mf19)), (m20, .inl (mc20, 10, .inl mf20)), (m21, .inl (mc21, 10, .inl mf21)), (m22, .inl (mc22, 10, .inl mf22)), (m23, .inl (mc23, 10, .inl mf23)), (m24, .inl (mc24, 4, .inl mf24)), (m25, .inl (mc25, 10, .inl mf25)), (m28, .inl (mc28, 10, .inl mf28)), (m29, .inl (mc29, 10, .inl mf29)), (m30, .inl (mc30, 10, .inl mf30)), (m31, .inl (mc31, 10, .inl mf31)), (m32, .inl (mc32, 10, .inl mf32)), (m33, .inl (mc33, 10, .inl mf33)), (m34, .inl (mc34, 10, .inl mf34)), (m35, .inl (mc35, 10, .inl mf35)), (m36, .inl (mc36, 10, .inl mf36)), (m40, .inl (mc40, 20, .inl mf40)), (m41, .inl (mc41, 20, .inl mf41)), (m42, .inl (mc42, 20, .inl mf42)), (m43, .inl (mc43, 20, .inl mf43)), (m44, .inl (mc44, 20, .inl mf44)), (m46, .inl (mc46, 14, .inr (.inl mf46))), (m47, .inl (mc47, 6, .inl mf47)), (m48, .inl (mc48, 6, .inl mf48)), (m49, .inl (mc49, 6, .inl mf49)), (m50, .inl (mc50, 6, .inl mf50))] s.heap.size = A at hD hX ⊢
  have hA : ∀ q : Nat, s.heap.size ≤ q → A q := fun q h => by rw [← hAe]; exact Or.inr h
  have hS : va_S A s.heap s.heap [] := va_S.rf
  have hP : va_P (dC, dI) vwCl [(jM, .inr (10, [.int th, .ref m1, .ref m2, .ref m3, .ref m4, v5, .int (nI (ml)), .int (nI (mkl)), .int (nI (mku)), v9, v10, v11, v12, v13, v14, v15, v16, v17, v18, .ref m19, .ref m20, .ref m21, .ref m22, .ref m23, .ref m24, .ref m25, .int (nI (mps)), .int (nI (mkw)), .ref m28, .ref m29, .ref m30, .ref m31, .ref m32, .ref m33, .ref m34, .ref m35, .ref m36, .int thr, .int (nI (ho)), .long xx, .ref m40, .ref m41, .ref m42, .ref m43, .ref m44, .int (nI (mkn)), .ref m46, .ref m47, .ref m48, .ref m49, .ref m50, .int (nI (mka))])), (m1, .inl (mc1, 120, .inl mf1)), (m2, .inl (mc2, 1680, .inl mf2)), (m3, .inl (mc3, 14, .inl mf3)), (m4, .inl (mc4, 128, .inl mf4)), (m19, .inl (mc19, 10, .inl mf19)), (m20, .inl (mc20, 10, .inl mf20)), (m21, .inl (mc21, 10, .inl mf21)), (m22, .inl (mc22, 10, .inl mf22)), (m23, .inl (mc23, 10, .inl mf23)), (m24, .inl (mc24, 4, .inl mf24)), (m25, .inl (mc25, 10, .inl mf25)), (m28, .inl (mc28, 10, .inl mf28)), (m29, .inl (mc29, 10, .inl mf29)), (m30, .inl (mc30, 10, .inl mf30)), (m31, .inl (mc31, 10, .inl mf31)), (m32, .inl (mc32, 10, .inl mf32)), (m33, .inl (mc33, 10, .inl mf33)), (m34, .inl (mc34, 10, .inl mf34)), (m35, .inl (mc35, 10, .inl mf35)), (m36, .inl (mc36, 10, .inl mf36)), (m40, .inl (mc40, 20, .inl mf40)), (m41, .inl (mc41, 20, .inl mf41)), (m42, .inl (mc42, 20, .inl mf42)), (m43, .inl (mc43, 20, .inl mf43)), (m44, .inl (mc44, 20, .inl mf44)), (m46, .inl (mc46, 14, .inr (.inl mf46))), (m47, .inl (mc47, 6, .inl mf47)), (m48, .inl (mc48, 6, .inl mf48)), (m49, .inl (mc49, 6, .inl mf49)), (m50, .inl (mc50, 6, .inl mf50))] s.heap := hP
  have hl := lv_entry ([.ref jM, .int p0, .long p1, .int p2, .int p3]) (n := 11) (Nat.le_of_ble_eq_true rfl)
  rw [lg_entry_eq]
  generalize (lg_sl ([.ref jM, .int p0, .long p1, .int p2, .int p3]) ++ List.replicate (11 - (lg_sl ([.ref jM, .int p0, .long p1, .int p2, .int p3])).length) Slot.unset).toArray = ls at hl ⊢
  have hl : lv_has ls 11 [(0, .ref jM), (1, .int p0), (2, .long p1), (4, .int p2), (5, .int p3)] := hl
  refine kQ (fun Q hQ => ?_)
  refine lv_aload_n hx hb dX10_odds_0 rfl (lv_at hl 0 rfl) ?_
  refine lv_iconst (v := 0) hx hb dX10_odds_1 kc_i_0 ?_
  refine va_put (D := (dC, dI)) (ci := 10) (v := .int 0) (ty := tyX10 0) (C := RX10) (T := TX10) (N := 52) hx hb hts (fun _ h => List.mem_cons_of_mem _ (List.mem_append_right _ (List.mem_append_left _ h))) tyX10 tyX10_ok nmX10 hown hK hP hD hS 0 rfl rfl 0 kc_l_0_52 (hts (.fieldLink RX10 117 "NotEndedModel" "thrown" "I") (List.mem_cons_of_mem _ (List.mem_append_left _ (List.mem_of_getElem? (i := 0) rfl)))) (fun _ h9 => h9) rfl (tyX10_ok 0 kc_l_0_52) rfl rfl (Nat.le_of_ble_eq_true rfl) dX10_odds_2 (fun H locs hP hD hS => ?_)
  have hPD : kPD dC dI A [(jM, .inr (10, [.int 0, .ref m1, .ref m2, .ref m3, .ref m4, v5, .int (nI (ml)), .int (nI (mkl)), .int (nI (mku)), v9, v10, v11, v12, v13, v14, v15, v16, v17, v18, .ref m19, .ref m20, .ref m21, .ref m22, .ref m23, .ref m24, .ref m25, .int (nI (mps)), .int (nI (mkw)), .ref m28, .ref m29, .ref m30, .ref m31, .ref m32, .ref m33, .ref m34, .ref m35, .ref m36, .int thr, .int (nI (ho)), .long xx, .ref m40, .ref m41, .ref m42, .ref m43, .ref m44, .int (nI (mkn)), .ref m46, .ref m47, .ref m48, .ref m49, .ref m50, .int (nI (mka))])), (m1, .inl (mc1, 120, .inl mf1)), (m2, .inl (mc2, 1680, .inl mf2)), (m3, .inl (mc3, 14, .inl mf3)), (m4, .inl (mc4, 128, .inl mf4)), (m19, .inl (mc19, 10, .inl mf19)), (m20, .inl (mc20, 10, .inl mf20)), (m21, .inl (mc21, 10, .inl mf21)), (m22, .inl (mc22, 10, .inl mf22)), (m23, .inl (mc23, 10, .inl mf23)), (m24, .inl (mc24, 4, .inl mf24)), (m25, .inl (mc25, 10, .inl mf25)), (m28, .inl (mc28, 10, .inl mf28)), (m29, .inl (mc29, 10, .inl mf29)), (m30, .inl (mc30, 10, .inl mf30)), (m31, .inl (mc31, 10, .inl mf31)), (m32, .inl (mc32, 10, .inl mf32)), (m33, .inl (mc33, 10, .inl mf33)), (m34, .inl (mc34, 10, .inl mf34)), (m35, .inl (mc35, 10, .inl mf35)), (m36, .inl (mc36, 10, .inl mf36)), (m40, .inl (mc40, 20, .inl mf40)), (m41, .inl (mc41, 20, .inl mf41)), (m42, .inl (mc42, 20, .inl mf42)), (m43, .inl (mc43, 20, .inl mf43)), (m44, .inl (mc44, 20, .inl mf44)), (m46, .inl (mc46, 14, .inr (.inl mf46))), (m47, .inl (mc47, 6, .inl mf47)), (m48, .inl (mc48, 6, .inl mf48)), (m49, .inl (mc49, 6, .inl mf49)), (m50, .inl (mc50, 6, .inl mf50))] H := ⟨hP, hD⟩
  obtain ⟨hP, hD⟩ := hPD
  refine lv_aload_n hx hb dX10_odds_5 rfl (lv_at hl 0 rfl) ?_
  refine lv_iload_n hx hb dX10_odds_6 rfl (lv_at hl 1 rfl) ?_
  have bd_1 : ml ≤ 120 := by omega
  have hPc := hP.sb (ws2 := [(jM, .inr (10, [.int 0, .ref m1, .ref m2, .ref m3, .ref m4, v5, .int (nI (ml)), .int (nI (mkl)), .int (nI (mku)), v9, v10, v11, v12, v13, v14, v15, v16, v17, v18, .ref m19, .ref m20, .ref m21, .ref m22, .ref m23, .ref m24, .ref m25, .int (nI (mps)), .int (nI (mkw)), .ref m28, .ref m29, .ref m30, .ref m31, .ref m32, .ref m33, .ref m34, .ref m35, .ref m36, .int thr, .int (nI (ho)), .long xx, .ref m40, .ref m41, .ref m42, .ref m43, .ref m44, .int (nI (mkn)), .ref m46, .ref m47, .ref m48, .ref m49, .ref m50, .int (nI (mka))])), (m1, .inl (mc1, 120, .inl mf1)), (m2, .inl (mc2, 1680, .inl mf2)), (m3, .inl (mc3, 14, .inl mf3)), (m4, .inl (mc4, 128, .inl mf4)), (m19, .inl (mc19, 10, .inl mf19)), (m20, .inl (mc20, 10, .inl mf20)), (m21, .inl (mc21, 10, .inl mf21)), (m22, .inl (mc22, 10, .inl mf22)), (m23, .inl (mc23, 10, .inl mf23)), (m24, .inl (mc24, 4, .inl mf24)), (m25, .inl (mc25, 10, .inl mf25)), (m28, .inl (mc28, 10, .inl mf28)), (m29, .inl (mc29, 10, .inl mf29)), (m30, .inl (mc30, 10, .inl mf30)), (m31, .inl (mc31, 10, .inl mf31)), (m32, .inl (mc32, 10, .inl mf32)), (m33, .inl (mc33, 10, .inl mf33)), (m34, .inl (mc34, 10, .inl mf34)), (m35, .inl (mc35, 10, .inl mf35)), (m36, .inl (mc36, 10, .inl mf36)), (m40, .inl (mc40, 20, .inl mf40)), (m41, .inl (mc41, 20, .inl mf41)), (m42, .inl (mc42, 20, .inl mf42)), (m43, .inl (mc43, 20, .inl mf43)), (m44, .inl (mc44, 20, .inl mf44)), (m46, .inl (mc46, 14, .inr (.inl mf46))), (m47, .inl (mc47, 6, .inl mf47)), (m48, .inl (mc48, 6, .inl mf48)), (m49, .inl (mc49, 6, .inl mf49)), (m50, .inl (mc50, 6, .inl mf50))]) [0, 1, 2, 3, 4, 5, 6, 7, 8, 9, 10, 11, 12, 13, 14, 15, 16, 17, 18, 19, 20, 21, 22, 23, 24, 25, 26, 27, 28, 29, 30] rfl
  have hKc := hK.sb (tys2 := [(mc1, .byte), (mc2, .byte), (mc3, .int), (mc4, .int), (mc19, .int), (mc20, .int), (mc21, .int), (mc22, .int), (mc23, .int), (mc24, .int), (mc25, .boolean), (mc28, .int), (mc29, .int), (mc30, .int), (mc31, .int), (mc32, .int), (mc33, .int), (mc34, .int), (mc35, .int), (mc36, .int), (mc40, .int), (mc41, .int), (mc42, .int), (mc43, .int), (mc44, .int), (mc46, .long), (mc47, .int), (mc48, .int), (mc49, .int), (mc50, .int)]) [0, 1, 2, 3, 4, 5, 6, 7, 8, 9, 10, 11, 12, 13, 14, 15, 16, 17, 18, 19, 20, 21, 22, 23, 24, 25, 26, 27, 28, 29] rfl
  refine vp_callSi (va_runV (As := [.int p0]) (rest := []) ⟨hx, hb, hml, hown, hts⟩ (s_isLaw10x l dC dI jM 0 thr xx (v5 : Value) (v9 : Value) (v10 : Value) (v11 : Value) (v12 : Value) (v13 : Value) (v14 : Value) (v15 : Value) (v16 : Value) (v17 : Value) (v18 : Value) m1 m2 m3 m4 m19 m20 m21 m22 m23 m24 m25 m28 m29 m30 m31 m32 m33 m34 m35 m36 m40 m41 m42 m43 m44 m46 m47 m48 m49 m50 mc1 mc2 mc3 mc4 mc19 mc20 mc21 mc22 mc23 mc24 mc25 mc28 mc29 mc30 mc31 mc32 mc33 mc34 mc35 mc36 mc40 mc41 mc42 mc43 mc44 mc46 mc47 mc48 mc49 mc50 mf1 mf2 mf3 mf4 mf19 mf20 mf21 mf22 mf23 mf24 mf25 mf28 mf29 mf30 mf31 mf32 mf33 mf34 mf35 mf36 mf40 mf41 mf42 mf43 mf44 mf46 mf47 mf48 mf49 mf50 ml mkl mku mps mkw ho mkn mka bd_1 hmkl hmku hmps hmkw hho hmkn hmka p0) (cwV 1 hts (kG (List.forall_mem_cons.mpr ⟨(List.mem_cons_of_mem _ (List.mem_append_left _ (List.mem_of_getElem? (i := 4) rfl))), (List.forall_mem_cons.mpr ⟨(List.mem_cons_of_mem _ (List.mem_append_left _ (List.mem_of_getElem? (i := 3) rfl))), (List.forall_mem_cons.mpr ⟨(List.mem_cons_of_mem _ (List.mem_append_left _ (List.mem_of_getElem? (i := 2) rfl))), (List.forall_mem_cons.mpr ⟨(List.mem_cons_of_mem _ (List.mem_append_left _ (List.mem_of_getElem? (i := 1) rfl))), (fun _ h => absurd h List.not_mem_nil)⟩)⟩)⟩)⟩) (kGV _ _ _ _) (fun _ h => List.mem_cons_of_mem _ (List.mem_append_right _ (List.mem_append_right _ (List.mem_append_left _ h)))) gw_s_isLaw10x) rfl rfl rfl ⟨rfl, hd_X10_isLaw⟩ ⟨(Nat.le_of_ble_eq_true rfl), (Nat.le_of_ble_eq_true rfl)⟩) (kR_V kT_blind kT_give (va_recv hKc hPc (ci := 10) (q0 := 0) rfl rfl) hPc hKc) rfl rfl hl.1 rfl (lv_room (Nat.le_of_ble_eq_true rfl)) dX10_odds_7 ⟨(Nat.le_of_ble_eq_true rfl), (Nat.le_of_ble_eq_true rfl)⟩).run (fun r_2 hw => ?_)
  obtain ⟨hw_3, hw_3_x⟩ := hw
  refine lv_if_eq (tgt := 35) hx hb dX10_odds_10 kc_t_10_25 (fun c_4 => ?_) (fun c_4 => ?_)
  · have ff_5 := kZr hw_3_x c_4
    refine lv_ldc2 (v := (-1)) hx hb hown (hts (.constantLong RX10 347 (-1)) (List.mem_cons_of_mem _ (List.mem_append_left _ (List.mem_of_getElem? (i := 5) rfl)))) dX10_odds_35 ?_
    have hP9 := hP
    have hD9 := hD
    have hK9 := hK
    rw [hQ]
    exact W.lret (v := (-1)) hx hb hr (fun t ht hW => ⟨⟨(-1), (mf4, mf28, mf29, mf30, mf31, mf32, mf33, mf34, mf35, mf36, mf46, 0, thr, ho, xx, (v5 : Value), (v9 : Value), (v10 : Value), (v11 : Value), (v12 : Value), (v13 : Value), (v14 : Value), (v15 : Value), (v16 : Value), (v17 : Value), (v18 : Value)), rfl, ⟨(by unfold kOdA; rw [if_pos ff_5]), by omega⟩,  by rw [ht]; exact hP9, va_K.moved hW.alike hK9, hD9⟩, hS.F ht⟩) hS.2.2 dX10_odds_38
  · have ff_6 := kNzr hw_3_x c_4
    obtain ⟨j_7, hj_7, ej_7⟩ := hw_3 c_4
    subst ej_7
    refine lv_iload hx hb dX10_odds_13 (lv_at hl 3 rfl) ?_
    refine lv_iconst (v := 0) hx hb dX10_odds_15 kc_i_0 ?_
    refine lv_bipush (v := 47) hx hb dX10_odds_16 kc_b_47 ?_
    have hPc := hP.sb (ws2 := []) [] rfl
    have hKc := hK.sb (tys2 := []) [] rfl
    refine vp_callSi (va_runS (As := [.int p2, .int 0, .int 47]) (rest := []) ⟨hx, hb, hml, hown, hts⟩ (s_isIn10 l dC dI p2 0 47) (va_cwS 3 hts (kG (List.forall_mem_cons.mpr ⟨(List.mem_cons_of_mem _ (List.mem_append_left _ (List.mem_of_getElem? (i := 7) rfl))), (List.forall_mem_cons.mpr ⟨(List.mem_cons_of_mem _ (List.mem_append_left _ (List.mem_of_getElem? (i := 6) rfl))), (List.forall_mem_cons.mpr ⟨(List.mem_cons_of_mem _ (List.mem_append_left _ (List.mem_of_getElem? (i := 1) rfl))), (fun _ h => absurd h List.not_mem_nil)⟩)⟩)⟩) (kGS _ _ _) (fun _ h => List.mem_cons_of_mem _ (List.mem_append_right _ (List.mem_append_right _ (List.mem_append_right _ (List.mem_append_left _ h))))) gw_s_isIn10) rfl rfl rfl hd_X10_isIn ⟨(Nat.le_of_ble_eq_true rfl), (Nat.le_of_ble_eq_true rfl)⟩) (kR_S kT_blind kT_give hPc hKc) rfl rfl hl.1 rfl (lv_room (Nat.le_of_ble_eq_true rfl)) dX10_odds_18 ⟨(Nat.le_of_ble_eq_true rfl), (Nat.le_of_ble_eq_true rfl)⟩).run (fun r_8 hw => ?_)
    have hw_9 := hw
    refine lv_if_eq (tgt := 35) hx hb dX10_odds_21 kc_t_21_14 (fun c_10 => ?_) (fun c_10 => ?_)
    · have ff_11 := kZr hw_9 c_10
      refine lv_ldc2 (v := (-1)) hx hb hown (hts (.constantLong RX10 347 (-1)) (List.mem_cons_of_mem _ (List.mem_append_left _ (List.mem_of_getElem? (i := 5) rfl)))) dX10_odds_35 ?_
      have hP9 := hP
      have hD9 := hD
      have hK9 := hK
      rw [hQ]
      exact W.lret (v := (-1)) hx hb hr (fun t ht hW => ⟨⟨(-1), (mf4, mf28, mf29, mf30, mf31, mf32, mf33, mf34, mf35, mf36, mf46, 0, thr, ho, xx, (v5 : Value), (v9 : Value), (v10 : Value), (v11 : Value), (v12 : Value), (v13 : Value), (v14 : Value), (v15 : Value), (v16 : Value), (v17 : Value), (v18 : Value)), rfl, ⟨(by unfold kOdA; rw [if_neg ff_6, if_pos ff_11]), by omega⟩,  by rw [ht]; exact hP9, va_K.moved hW.alike hK9, hD9⟩, hS.F ht⟩) hS.2.2 dX10_odds_38
    · have ff_12 := kNzr hw_9 c_10
      obtain ⟨j_13, hj_13, ej_13⟩ := kIn_ix (n := 47) (by decide) ff_12
      subst ej_13
      refine lv_iload hx hb dX10_odds_24 (lv_at hl 4 rfl) ?_
      refine lv_iconst (v := 0) hx hb dX10_odds_26 kc_i_0 ?_
      refine lv_bipush (v := 8) hx hb dX10_odds_27 kc_b_8 ?_
      have hPc := hP.sb (ws2 := []) [] rfl
      have hKc := hK.sb (tys2 := []) [] rfl
      refine vp_callSi (va_runS (As := [.int p3, .int 0, .int 8]) (rest := []) ⟨hx, hb, hml, hown, hts⟩ (s_isIn10 l dC dI p3 0 8) (va_cwS 3 hts (kG (List.forall_mem_cons.mpr ⟨(List.mem_cons_of_mem _ (List.mem_append_left _ (List.mem_of_getElem? (i := 7) rfl))), (List.forall_mem_cons.mpr ⟨(List.mem_cons_of_mem _ (List.mem_append_left _ (List.mem_of_getElem? (i := 6) rfl))), (List.forall_mem_cons.mpr ⟨(List.mem_cons_of_mem _ (List.mem_append_left _ (List.mem_of_getElem? (i := 1) rfl))), (fun _ h => absurd h List.not_mem_nil)⟩)⟩)⟩) (kGS _ _ _) (fun _ h => List.mem_cons_of_mem _ (List.mem_append_right _ (List.mem_append_right _ (List.mem_append_right _ (List.mem_append_left _ h))))) gw_s_isIn10) rfl rfl rfl hd_X10_isIn ⟨(Nat.le_of_ble_eq_true rfl), (Nat.le_of_ble_eq_true rfl)⟩) (kR_S kT_blind kT_give hPc hKc) rfl rfl hl.1 rfl (lv_room (Nat.le_of_ble_eq_true rfl)) dX10_odds_29 ⟨(Nat.le_of_ble_eq_true rfl), (Nat.le_of_ble_eq_true rfl)⟩).run (fun r_14 hw => ?_)
      have hw_15 := hw
      refine lv_if_ne (tgt := 39) hx hb dX10_odds_32 kc_t_32_7 (fun c_16 => ?_) (fun c_16 => ?_)
      · have ff_17 := kNzr hw_15 c_16
        obtain ⟨j_18, hj_18, ej_18⟩ := kIn_ix (n := 8) (by decide) ff_17
        subst ej_18
        refine lv_aload_n hx hb dX10_odds_39 rfl (lv_at hl 0 rfl) ?_
        refine lv_iload_n hx hb dX10_odds_40 rfl (lv_at hl 1 rfl) ?_
        refine lv_lload_n hx hb dX10_odds_41 rfl (lv_at hl 2 rfl) ?_
        refine lv_iload hx hb dX10_odds_42 (lv_at hl 3 rfl) ?_
        refine lv_aload_n hx hb dX10_odds_44 rfl (lv_at hl 0 rfl) ?_
        have hPc := hP.sb (ws2 := [(jM, .inr (10, [.int 0, .ref m1, .ref m2, .ref m3, .ref m4, v5, .int (nI (ml)), .int (nI (mkl)), .int (nI (mku)), v9, v10, v11, v12, v13, v14, v15, v16, v17, v18, .ref m19, .ref m20, .ref m21, .ref m22, .ref m23, .ref m24, .ref m25, .int (nI (mps)), .int (nI (mkw)), .ref m28, .ref m29, .ref m30, .ref m31, .ref m32, .ref m33, .ref m34, .ref m35, .ref m36, .int thr, .int (nI (ho)), .long xx, .ref m40, .ref m41, .ref m42, .ref m43, .ref m44, .int (nI (mkn)), .ref m46, .ref m47, .ref m48, .ref m49, .ref m50, .int (nI (mka))])), (m1, .inl (mc1, 120, .inl mf1)), (m2, .inl (mc2, 1680, .inl mf2)), (m3, .inl (mc3, 14, .inl mf3)), (m4, .inl (mc4, 128, .inl mf4)), (m19, .inl (mc19, 10, .inl mf19)), (m20, .inl (mc20, 10, .inl mf20)), (m21, .inl (mc21, 10, .inl mf21)), (m22, .inl (mc22, 10, .inl mf22)), (m23, .inl (mc23, 10, .inl mf23)), (m24, .inl (mc24, 4, .inl mf24)), (m25, .inl (mc25, 10, .inl mf25)), (m28, .inl (mc28, 10, .inl mf28)), (m29, .inl (mc29, 10, .inl mf29)), (m30, .inl (mc30, 10, .inl mf30)), (m31, .inl (mc31, 10, .inl mf31)), (m32, .inl (mc32, 10, .inl mf32)), (m33, .inl (mc33, 10, .inl mf33)), (m34, .inl (mc34, 10, .inl mf34)), (m35, .inl (mc35, 10, .inl mf35)), (m36, .inl (mc36, 10, .inl mf36)), (m40, .inl (mc40, 20, .inl mf40)), (m41, .inl (mc41, 20, .inl mf41)), (m42, .inl (mc42, 20, .inl mf42)), (m43, .inl (mc43, 20, .inl mf43)), (m44, .inl (mc44, 20, .inl mf44)), (m46, .inl (mc46, 14, .inr (.inl mf46))), (m47, .inl (mc47, 6, .inl mf47)), (m48, .inl (mc48, 6, .inl mf48)), (m49, .inl (mc49, 6, .inl mf49)), (m50, .inl (mc50, 6, .inl mf50))]) [0, 1, 2, 3, 4, 5, 6, 7, 8, 9, 10, 11, 12, 13, 14, 15, 16, 17, 18, 19, 20, 21, 22, 23, 24, 25, 26, 27, 28, 29, 30] rfl
        have hKc := hK.sb (tys2 := [(mc1, .byte), (mc2, .byte), (mc3, .int), (mc4, .int), (mc19, .int), (mc20, .int), (mc21, .int), (mc22, .int), (mc23, .int), (mc24, .int), (mc25, .boolean), (mc28, .int), (mc29, .int), (mc30, .int), (mc31, .int), (mc32, .int), (mc33, .int), (mc34, .int), (mc35, .int), (mc36, .int), (mc40, .int), (mc41, .int), (mc42, .int), (mc43, .int), (mc44, .int), (mc46, .long), (mc47, .int), (mc48, .int), (mc49, .int), (mc50, .int)]) [0, 1, 2, 3, 4, 5, 6, 7, 8, 9, 10, 11, 12, 13, 14, 15, 16, 17, 18, 19, 20, 21, 22, 23, 24, 25, 26, 27, 28, 29] rfl
        refine vp_callSi (va_runV (As := []) (rest := [.int (nI (j_13)), .long p1, .int (nI (j_7)), .ref jM]) ⟨hx, hb, hml, hown, hts⟩ (s_every10x l dC dI jM 0 thr xx (v5 : Value) (v9 : Value) (v10 : Value) (v11 : Value) (v12 : Value) (v13 : Value) (v14 : Value) (v15 : Value) (v16 : Value) (v17 : Value) (v18 : Value) m1 m2 m3 m4 m19 m20 m21 m22 m23 m24 m25 m28 m29 m30 m31 m32 m33 m34 m35 m36 m40 m41 m42 m43 m44 m46 m47 m48 m49 m50 mc1 mc2 mc3 mc4 mc19 mc20 mc21 mc22 mc23 mc24 mc25 mc28 mc29 mc30 mc31 mc32 mc33 mc34 mc35 mc36 mc40 mc41 mc42 mc43 mc44 mc46 mc47 mc48 mc49 mc50 mf1 mf2 mf3 mf4 mf19 mf20 mf21 mf22 mf23 mf24 mf25 mf28 mf29 mf30 mf31 mf32 mf33 mf34 mf35 mf36 mf40 mf41 mf42 mf43 mf44 mf46 mf47 mf48 mf49 mf50 ml mkl mku mps mkw ho mkn mka bd_1 hmkl hmku hmps hmkw hho hmkn hmka) (cwV 0 hts (kG (List.forall_mem_cons.mpr ⟨(List.mem_cons_of_mem _ (List.mem_append_left _ (List.mem_of_getElem? (i := 10) rfl))), (List.forall_mem_cons.mpr ⟨(List.mem_cons_of_mem _ (List.mem_append_left _ (List.mem_of_getElem? (i := 9) rfl))), (List.forall_mem_cons.mpr ⟨(List.mem_cons_of_mem _ (List.mem_append_left _ (List.mem_of_getElem? (i := 8) rfl))), (List.forall_mem_cons.mpr ⟨(List.mem_cons_of_mem _ (List.mem_append_left _ (List.mem_of_getElem? (i := 1) rfl))), (fun _ h => absurd h List.not_mem_nil)⟩)⟩)⟩)⟩) (kGV _ _ _ _) (fun _ h => List.mem_cons_of_mem _ (List.mem_append_right _ (List.mem_append_right _ (List.mem_append_right _ (List.mem_append_right _ (List.mem_append_left _ h)))))) gw_s_every10x) rfl rfl rfl ⟨rfl, hd_X10_everybody⟩ ⟨(Nat.le_of_ble_eq_true rfl), (Nat.le_of_ble_eq_true rfl)⟩) (kR_V kT_blind kT_give (va_recv hKc hPc (ci := 10) (q0 := 0) rfl rfl) hPc hKc) rfl rfl hl.1 rfl (lv_room (Nat.le_of_ble_eq_true rfl)) dX10_odds_45 ⟨(Nat.le_of_ble_eq_true rfl), (Nat.le_of_ble_eq_true rfl)⟩).run (fun r_19 hw => ?_)
        obtain rfl : r_19 = kEvb (mps) := hw
        have bd_20 : j_7 < mkl := by omega
        have bd_21 : j_13 ≤ 48 := by omega
        have hCu := kCut (wc := [(jM, .inr (10, [.int 0, .ref m1, .ref m2, .ref m3, .ref m4, v5, .int (nI (ml)), .int (nI (mkl)), .int (nI (mku)), v9, v10, v11, v12, v13, v14, v15, v16, v17, v18, .ref m19, .ref m20, .ref m21, .ref m22, .ref m23, .ref m24, .ref m25, .int (nI (mps)), .int (nI (mkw)), .ref m28, .ref m29, .ref m30, .ref m31, .ref m32, .ref m33, .ref m34, .ref m35, .ref m36, .int thr, .int (nI (ho)), .long xx, .ref m40, .ref m41, .ref m42, .ref m43, .ref m44, .int (nI (mkn)), .ref m46, .ref m47, .ref m48, .ref m49, .ref m50, .int (nI (mka))])), (m1, .inl (mc1, 120, .inl mf1)), (m2, .inl (mc2, 1680, .inl mf2)), (m3, .inl (mc3, 14, .inl mf3)), (m4, .inl (mc4, 128, .inl mf4)), (m19, .inl (mc19, 10, .inl mf19)), (m20, .inl (mc20, 10, .inl mf20)), (m21, .inl (mc21, 10, .inl mf21)), (m22, .inl (mc22, 10, .inl mf22)), (m23, .inl (mc23, 10, .inl mf23)), (m24, .inl (mc24, 4, .inl mf24)), (m25, .inl (mc25, 10, .inl mf25)), (m28, .inl (mc28, 10, .inl mf28)), (m29, .inl (mc29, 10, .inl mf29)), (m30, .inl (mc30, 10, .inl mf30)), (m31, .inl (mc31, 10, .inl mf31)), (m32, .inl (mc32, 10, .inl mf32)), (m33, .inl (mc33, 10, .inl mf33)), (m34, .inl (mc34, 10, .inl mf34)), (m35, .inl (mc35, 10, .inl mf35)), (m36, .inl (mc36, 10, .inl mf36)), (m40, .inl (mc40, 20, .inl mf40)), (m41, .inl (mc41, 20, .inl mf41)), (m42, .inl (mc42, 20, .inl mf42)), (m43, .inl (mc43, 20, .inl mf43)), (m44, .inl (mc44, 20, .inl mf44)), (m46, .inl (mc46, 14, .inr (.inl mf46))), (m47, .inl (mc47, 6, .inl mf47)), (m48, .inl (mc48, 6, .inl mf48)), (m49, .inl (mc49, 6, .inl mf49)), (m50, .inl (mc50, 6, .inl mf50))]) hP hD hS hA [0, 1, 2, 3, 4, 5, 6, 7, 8, 9, 10, 11, 12, 13, 14, 15, 16, 17, 18, 19, 20, 21, 22, 23, 24, 25, 26, 27, 28, 29, 30] rfl kc_nd_772 rfl
        have hPc := hCu.1
        have hDc := hCu.2.1
        have hFc := hCu.2.2
        have hKc := hK.sb (tys2 := [(mc1, .byte), (mc2, .byte), (mc3, .int), (mc4, .int), (mc19, .int), (mc20, .int), (mc21, .int), (mc22, .int), (mc23, .int), (mc24, .int), (mc25, .boolean), (mc28, .int), (mc29, .int), (mc30, .int), (mc31, .int), (mc32, .int), (mc33, .int), (mc34, .int), (mc35, .int), (mc36, .int), (mc40, .int), (mc41, .int), (mc42, .int), (mc43, .int), (mc44, .int), (mc46, .long), (mc47, .int), (mc48, .int), (mc49, .int), (mc50, .int)]) [0, 1, 2, 3, 4, 5, 6, 7, 8, 9, 10, 11, 12, 13, 14, 15, 16, 17, 18, 19, 20, 21, 22, 23, 24, 25, 26, 27, 28, 29] rfl
        refine va_callv (va_runV (As := [.int (nI (j_7)), .long p1, .int (nI (j_13)), .int (kEvb (mps))]) (rest := []) ⟨hx, hb, hml, hown, hts⟩ (s_runOf10x l dC dI jM 0 thr xx (v5 : Value) (v9 : Value) (v10 : Value) (v11 : Value) (v12 : Value) (v13 : Value) (v14 : Value) (v15 : Value) (v16 : Value) (v17 : Value) (v18 : Value) m1 m2 m3 m4 m19 m20 m21 m22 m23 m24 m25 m28 m29 m30 m31 m32 m33 m34 m35 m36 m40 m41 m42 m43 m44 m46 m47 m48 m49 m50 mc1 mc2 mc3 mc4 mc19 mc20 mc21 mc22 mc23 mc24 mc25 mc28 mc29 mc30 mc31 mc32 mc33 mc34 mc35 mc36 mc40 mc41 mc42 mc43 mc44 mc46 mc47 mc48 mc49 mc50 mf1 mf2 mf3 mf4 mf19 mf20 mf21 mf22 mf23 mf24 mf25 mf28 mf29 mf30 mf31 mf32 mf33 mf34 mf35 mf36 mf40 mf41 mf42 mf43 mf44 mf46 mf47 mf48 mf49 mf50 ml mkl mku mps mkw ho mkn mka bd_1 hmkl hmku hmps hmkw hho hmkn hmka ad bA nA xA hnA bB nB xB hnB bE nE xE hnE bG nG xG hnG gnA gnB gnE gnG hzA hzB hzE hzG hlB hlG yL yU hUl hUt j_7 bd_20 p1 j_13 bd_21 (kEvb (mps)) (kE0 mps mkw G3 G4 SV (kPrs mps 0) (yL j_7)) (kS0 G0 G1 G2 p1) (kTd_E hTd (by omega) (kPrs0 mps).symm) (kTd_S hTd) hOk0 rfl rfl rfl hA9 hB9 H.size) (cwV 4 hts (kG (List.forall_mem_cons.mpr ⟨(List.mem_cons_of_mem _ (List.mem_append_left _ (List.mem_of_getElem? (i := 13) rfl))), (List.forall_mem_cons.mpr ⟨(List.mem_cons_of_mem _ (List.mem_append_left _ (List.mem_of_getElem? (i := 12) rfl))), (List.forall_mem_cons.mpr ⟨(List.mem_cons_of_mem _ (List.mem_append_left _ (List.mem_of_getElem? (i := 11) rfl))), (List.forall_mem_cons.mpr ⟨(List.mem_cons_of_mem _ (List.mem_append_left _ (List.mem_of_getElem? (i := 1) rfl))), (fun _ h => absurd h List.not_mem_nil)⟩)⟩)⟩)⟩) (kGV _ _ _ _) (fun _ h => List.mem_cons_of_mem _ (List.mem_append_right _ (List.mem_append_right _ (List.mem_append_right _ (List.mem_append_right _ (List.mem_append_right _ (List.mem_append_left _ h))))))) gw_s_runOf10x) rfl rfl rfl ⟨rfl, hd_X10_runOf⟩ ⟨(Nat.le_of_ble_eq_true rfl), (Nat.le_of_ble_eq_true rfl)⟩) (kW_V kMx_blind (kMx_give hX hS hFc) (va_recv hKc hPc (ci := 10) (q0 := 0) rfl rfl) hPc hKc hDc) rfl rfl hl.1 rfl (lv_room (Nat.le_of_ble_eq_true rfl)) dX10_odds_48 ⟨(Nat.le_of_ble_eq_true rfl), (Nat.le_of_ble_eq_true rfl)⟩) hS (fun q _ h => hFc q h) hFc (kU24 (fun S4_22 S28_23 S29_24 S30_25 S31_26 S32_27 S33_28 S34_29 S35_30 S36_31 Th_32 Ho_33 Xx_34 W5_35 W9_36 W10_37 W11_38 W12_39 W13_40 W14_41 W15_42 W16_43 W17_44 W18_45 t H_46 locs ht hvm hw hB hz1 hk1 hS => ?_))
        try dsimp only at hw
        have hPD : kPD dC dI A [(jM, .inr (10, [.int 0, .ref m1, .ref m2, .ref m3, .ref m4, W5_35, .int (nI (ml)), .int (nI (mkl)), .int (nI (mku)), W9_36, W10_37, W11_38, W12_39, W13_40, W14_41, W15_42, W16_43, W17_44, W18_45, .ref m19, .ref m20, .ref m21, .ref m22, .ref m23, .ref m24, .ref m25, .int (nI (mps)), .int (nI (mkw)), .ref m28, .ref m29, .ref m30, .ref m31, .ref m32, .ref m33, .ref m34, .ref m35, .ref m36, .int Th_32, .int (nI (Ho_33)), .long Xx_34, .ref m40, .ref m41, .ref m42, .ref m43, .ref m44, .int (nI (mkn)), .ref m46, .ref m47, .ref m48, .ref m49, .ref m50, .int (nI (mka))])), (m1, .inl (mc1, 120, .inl mf1)), (m2, .inl (mc2, 1680, .inl mf2)), (m3, .inl (mc3, 14, .inl mf3)), (m4, .inl (mc4, 128, .inl S4_22)), (m19, .inl (mc19, 10, .inl mf19)), (m20, .inl (mc20, 10, .inl mf20)), (m21, .inl (mc21, 10, .inl mf21)), (m22, .inl (mc22, 10, .inl mf22)), (m23, .inl (mc23, 10, .inl mf23)), (m24, .inl (mc24, 4, .inl mf24)), (m25, .inl (mc25, 10, .inl mf25)), (m28, .inl (mc28, 10, .inl S28_23)), (m29, .inl (mc29, 10, .inl S29_24)), (m30, .inl (mc30, 10, .inl S30_25)), (m31, .inl (mc31, 10, .inl S31_26)), (m32, .inl (mc32, 10, .inl S32_27)), (m33, .inl (mc33, 10, .inl S33_28)), (m34, .inl (mc34, 10, .inl S34_29)), (m35, .inl (mc35, 10, .inl S35_30)), (m36, .inl (mc36, 10, .inl S36_31)), (m40, .inl (mc40, 20, .inl mf40)), (m41, .inl (mc41, 20, .inl mf41)), (m42, .inl (mc42, 20, .inl mf42)), (m43, .inl (mc43, 20, .inl mf43)), (m44, .inl (mc44, 20, .inl mf44)), (m46, .inl (mc46, 14, .inr (.inl mf46))), (m47, .inl (mc47, 6, .inl mf47)), (m48, .inl (mc48, 6, .inl mf48)), (m49, .inl (mc49, 6, .inl mf49)), (m50, .inl (mc50, 6, .inl mf50))] H_46 := kJoinX hP hD [0, 1, 2, 3, 4, 5, 6, 7, 8, 9, 10, 11, 12, 13, 14, 15, 16, 17, 18, 19, 20, 21, 22, 23, 24, 25, 26, 27, 28, 29, 30] rfl hk1 hFc hB.1 ht hB.2.2 rfl [some 0, some 1, some 2, some 3, some 4, some 5, some 6, some 7, some 8, some 9, some 10, some 11, some 12, some 13, some 14, some 15, some 16, some 17, some 18, some 19, some 20, some 21, some 22, some 23, some 24, some 25, some 26, some 27, some 28, some 29, some 30] rfl rfl
        obtain ⟨hP, hD⟩ := hPD
        have hw_47 := hw
        have hw_47_0 := hw_47.2.1
        have hw_47_1 := hw_47.2.2.1
        refine lv_iconst (v := 0) hx hb dX10_odds_51 kc_i_0 ?_
        refine lv_istore hx hb dX10_odds_52 hl kc_l_6_11 (kTo [(6, .int 0), (0, .ref jM), (1, .int (nI (j_7))), (2, .long p1), (4, .int (nI (j_13))), (5, .int (nI (j_18)))]) (fun ls hl => ?_)
        refine lv_iconst (v := 0) hx hb dX10_odds_54 kc_i_0 ?_
        refine lv_istore hx hb dX10_odds_55 hl kc_l_7_11 (kTo [(7, .int 0), (6, .int 0), (0, .ref jM), (1, .int (nI (j_7))), (2, .long p1), (4, .int (nI (j_13))), (5, .int (nI (j_18)))]) (fun ls hl => ?_)
        have lp_k_48 : ∀ (n9 : Nat) (i : Nat) (k : Nat) (ivk_48_0 : i ≤ mps) (ivk_48_1 : k = kMc (kE0 mps mkw G3 G4 SV (kPrs mps 0) (yL j_7)) (kIt (kE0 mps mkw G3 G4 SV (kPrs mps 0) (yL j_7)) j_13 (kS0 G0 G1 G2 p1)) i) (ivk_48_2 : k ≤ i) (H : Heap) (locs : List Loc) (_ : va_P (dC, dI) vwCl [(jM, .inr (10, [.int 0, .ref m1, .ref m2, .ref m3, .ref m4, W5_35, .int (nI (ml)), .int (nI (mkl)), .int (nI (mku)), W9_36, W10_37, W11_38, W12_39, W13_40, W14_41, W15_42, W16_43, W17_44, W18_45, .ref m19, .ref m20, .ref m21, .ref m22, .ref m23, .ref m24, .ref m25, .int (nI (mps)), .int (nI (mkw)), .ref m28, .ref m29, .ref m30, .ref m31, .ref m32, .ref m33, .ref m34, .ref m35, .ref m36, .int Th_32, .int (nI (Ho_33)), .long Xx_34, .ref m40, .ref m41, .ref m42, .ref m43, .ref m44, .int (nI (mkn)), .ref m46, .ref m47, .ref m48, .ref m49, .ref m50, .int (nI (mka))])), (m1, .inl (mc1, 120, .inl mf1)), (m2, .inl (mc2, 1680, .inl mf2)), (m3, .inl (mc3, 14, .inl mf3)), (m4, .inl (mc4, 128, .inl S4_22)), (m19, .inl (mc19, 10, .inl mf19)), (m20, .inl (mc20, 10, .inl mf20)), (m21, .inl (mc21, 10, .inl mf21)), (m22, .inl (mc22, 10, .inl mf22)), (m23, .inl (mc23, 10, .inl mf23)), (m24, .inl (mc24, 4, .inl mf24)), (m25, .inl (mc25, 10, .inl mf25)), (m28, .inl (mc28, 10, .inl S28_23)), (m29, .inl (mc29, 10, .inl S29_24)), (m30, .inl (mc30, 10, .inl S30_25)), (m31, .inl (mc31, 10, .inl S31_26)), (m32, .inl (mc32, 10, .inl S32_27)), (m33, .inl (mc33, 10, .inl S33_28)), (m34, .inl (mc34, 10, .inl S34_29)), (m35, .inl (mc35, 10, .inl S35_30)), (m36, .inl (mc36, 10, .inl S36_31)), (m40, .inl (mc40, 20, .inl mf40)), (m41, .inl (mc41, 20, .inl mf41)), (m42, .inl (mc42, 20, .inl mf42)), (m43, .inl (mc43, 20, .inl mf43)), (m44, .inl (mc44, 20, .inl mf44)), (m46, .inl (mc46, 14, .inr (.inl mf46))), (m47, .inl (mc47, 6, .inl mf47)), (m48, .inl (mc48, 6, .inl mf48)), (m49, .inl (mc49, 6, .inl mf49)), (m50, .inl (mc50, 6, .inl mf50))] H) (_ : va_D A [(jM, .inr (10, [.int 0, .ref m1, .ref m2, .ref m3, .ref m4, W5_35, .int (nI (ml)), .int (nI (mkl)), .int (nI (mku)), W9_36, W10_37, W11_38, W12_39, W13_40, W14_41, W15_42, W16_43, W17_44, W18_45, .ref m19, .ref m20, .ref m21, .ref m22, .ref m23, .ref m24, .ref m25, .int (nI (mps)), .int (nI (mkw)), .ref m28, .ref m29, .ref m30, .ref m31, .ref m32, .ref m33, .ref m34, .ref m35, .ref m36, .int Th_32, .int (nI (Ho_33)), .long Xx_34, .ref m40, .ref m41, .ref m42, .ref m43, .ref m44, .int (nI (mkn)), .ref m46, .ref m47, .ref m48, .ref m49, .ref m50, .int (nI (mka))])), (m1, .inl (mc1, 120, .inl mf1)), (m2, .inl (mc2, 1680, .inl mf2)), (m3, .inl (mc3, 14, .inl mf3)), (m4, .inl (mc4, 128, .inl S4_22)), (m19, .inl (mc19, 10, .inl mf19)), (m20, .inl (mc20, 10, .inl mf20)), (m21, .inl (mc21, 10, .inl mf21)), (m22, .inl (mc22, 10, .inl mf22)), (m23, .inl (mc23, 10, .inl mf23)), (m24, .inl (mc24, 4, .inl mf24)), (m25, .inl (mc25, 10, .inl mf25)), (m28, .inl (mc28, 10, .inl S28_23)), (m29, .inl (mc29, 10, .inl S29_24)), (m30, .inl (mc30, 10, .inl S30_25)), (m31, .inl (mc31, 10, .inl S31_26)), (m32, .inl (mc32, 10, .inl S32_27)), (m33, .inl (mc33, 10, .inl S33_28)), (m34, .inl (mc34, 10, .inl S34_29)), (m35, .inl (mc35, 10, .inl S35_30)), (m36, .inl (mc36, 10, .inl S36_31)), (m40, .inl (mc40, 20, .inl mf40)), (m41, .inl (mc41, 20, .inl mf41)), (m42, .inl (mc42, 20, .inl mf42)), (m43, .inl (mc43, 20, .inl mf43)), (m44, .inl (mc44, 20, .inl mf44)), (m46, .inl (mc46, 14, .inr (.inl mf46))), (m47, .inl (mc47, 6, .inl mf47)), (m48, .inl (mc48, 6, .inl mf48)), (m49, .inl (mc49, 6, .inl mf49)), (m50, .inl (mc50, 6, .inl mf50))]) (_ : va_S A s.heap H locs) (ls : Array Slot) (_ : lv_has ls 11 [(7, .int (nI (i))), (6, .int (nI (k))), (0, .ref jM), (1, .int (nI (j_7))), (2, .long p1), (4, .int (nI (j_13))), (5, .int (nI (j_18)))]) (_ : mps - i < n9), W p l e (headSpec w_s_odds10 ({ frames := 65, cells := 0, slots := 0, locals := 3900 })).room s m (#[.ref jM, .int (nI (j_7)), .long p1, .int (nI (j_13)), .int (nI (j_18))] : Array Value) below meth c H locs 0 0 Q (F0 m 57 ls []) := by
          intro n9
          induction n9 with
          | zero => intro i k ivk_48_0 ivk_48_1 ivk_48_2 H locs hP hD hS ls hl hm9; exact absurd hm9 (Nat.not_lt_zero _)
          | succ n9 ih_k_48 =>
            intro i k ivk_48_0 ivk_48_1 ivk_48_2 H locs hP hD hS ls hl hm9
            refine lv_iload hx hb dX10_odds_57 (lv_at hl 0 rfl) ?_
            refine lv_aload_n hx hb dX10_odds_59 rfl (lv_at hl 2 rfl) ?_
            refine va_get (D := (dC, dI)) (ci := 10) (v := .int (nI (mps))) (C := RX10) (T := TX10) (N := 52) hx hb hts (fun _ h => List.mem_cons_of_mem _ (List.mem_append_right _ (List.mem_append_left _ h))) hown hK hP 0 rfl rfl 26 kc_l_26_52 (hts (.fieldLink RX10 250 "NotEndedModel" "persons" "I") (List.mem_cons_of_mem _ (List.mem_append_left _ (List.mem_of_getElem? (i := 14) rfl)))) (fun _ h9 => h9) rfl dX10_odds_60 ?_
            refine lv_icmp_ge (tgt := 103) hx hb dX10_odds_63 kc_t_63_40 (fun c_49 => ?_) (fun c_49 => ?_)
            · have bd_51 : mps < 2147483648 := by omega
              have bd_52 : i < 2147483648 := by omega
              have hn_50 := kle (a := mps) (b := i) bd_51 bd_52 c_49
              have hik9 : i = mps := by omega
              have hmc9 := ivk_48_1
              rw [hik9] at hmc9
              refine lv_iload hx hb dX10_odds_103 (lv_at hl 1 rfl) ?_
              refine lv_bipush (v := 8) hx hb dX10_odds_105 kc_b_8 ?_
              refine lv_icmp_le (tgt := 114) hx hb dX10_odds_107 kc_t_107_7 (fun c_53 => ?_) (fun c_53 => ?_)
              · have bd_55 : k < 2147483648 := by omega
                have hn_54 := kle (a := k) (b := 8) bd_55 kc_31_8 c_53
                refine lv_iconst (v := 0) hx hb dX10_odds_114 kc_i_0 ?_
                refine lv_istore hx hb dX10_odds_115 hl kc_l_7_11 (kTo [(7, .int 0), (6, .int (nI (k))), (0, .ref jM), (1, .int (nI (j_7))), (2, .long p1), (4, .int (nI (j_13))), (5, .int (nI (j_18)))]) (fun ls hl => ?_)
                have lp_k_56 : ∀ (n9 : Nat) (i : Nat) (l46 : Nat → Int64) (ivk_56_0 : i ≤ 14) (ivk_56_1 : (∀ q : Nat, q < i → l46 q = if q = 0 then 1 else 0)) (H : Heap) (locs : List Loc) (_ : va_P (dC, dI) vwCl [(jM, .inr (10, [.int 0, .ref m1, .ref m2, .ref m3, .ref m4, W5_35, .int (nI (ml)), .int (nI (mkl)), .int (nI (mku)), W9_36, W10_37, W11_38, W12_39, W13_40, W14_41, W15_42, W16_43, W17_44, W18_45, .ref m19, .ref m20, .ref m21, .ref m22, .ref m23, .ref m24, .ref m25, .int (nI (mps)), .int (nI (mkw)), .ref m28, .ref m29, .ref m30, .ref m31, .ref m32, .ref m33, .ref m34, .ref m35, .ref m36, .int Th_32, .int (nI (Ho_33)), .long Xx_34, .ref m40, .ref m41, .ref m42, .ref m43, .ref m44, .int (nI (mkn)), .ref m46, .ref m47, .ref m48, .ref m49, .ref m50, .int (nI (mka))])), (m1, .inl (mc1, 120, .inl mf1)), (m2, .inl (mc2, 1680, .inl mf2)), (m3, .inl (mc3, 14, .inl mf3)), (m4, .inl (mc4, 128, .inl S4_22)), (m19, .inl (mc19, 10, .inl mf19)), (m20, .inl (mc20, 10, .inl mf20)), (m21, .inl (mc21, 10, .inl mf21)), (m22, .inl (mc22, 10, .inl mf22)), (m23, .inl (mc23, 10, .inl mf23)), (m24, .inl (mc24, 4, .inl mf24)), (m25, .inl (mc25, 10, .inl mf25)), (m28, .inl (mc28, 10, .inl S28_23)), (m29, .inl (mc29, 10, .inl S29_24)), (m30, .inl (mc30, 10, .inl S30_25)), (m31, .inl (mc31, 10, .inl S31_26)), (m32, .inl (mc32, 10, .inl S32_27)), (m33, .inl (mc33, 10, .inl S33_28)), (m34, .inl (mc34, 10, .inl S34_29)), (m35, .inl (mc35, 10, .inl S35_30)), (m36, .inl (mc36, 10, .inl S36_31)), (m40, .inl (mc40, 20, .inl mf40)), (m41, .inl (mc41, 20, .inl mf41)), (m42, .inl (mc42, 20, .inl mf42)), (m43, .inl (mc43, 20, .inl mf43)), (m44, .inl (mc44, 20, .inl mf44)), (m46, .inl (mc46, 14, .inr (.inl l46))), (m47, .inl (mc47, 6, .inl mf47)), (m48, .inl (mc48, 6, .inl mf48)), (m49, .inl (mc49, 6, .inl mf49)), (m50, .inl (mc50, 6, .inl mf50))] H) (_ : va_D A [(jM, .inr (10, [.int 0, .ref m1, .ref m2, .ref m3, .ref m4, W5_35, .int (nI (ml)), .int (nI (mkl)), .int (nI (mku)), W9_36, W10_37, W11_38, W12_39, W13_40, W14_41, W15_42, W16_43, W17_44, W18_45, .ref m19, .ref m20, .ref m21, .ref m22, .ref m23, .ref m24, .ref m25, .int (nI (mps)), .int (nI (mkw)), .ref m28, .ref m29, .ref m30, .ref m31, .ref m32, .ref m33, .ref m34, .ref m35, .ref m36, .int Th_32, .int (nI (Ho_33)), .long Xx_34, .ref m40, .ref m41, .ref m42, .ref m43, .ref m44, .int (nI (mkn)), .ref m46, .ref m47, .ref m48, .ref m49, .ref m50, .int (nI (mka))])), (m1, .inl (mc1, 120, .inl mf1)), (m2, .inl (mc2, 1680, .inl mf2)), (m3, .inl (mc3, 14, .inl mf3)), (m4, .inl (mc4, 128, .inl S4_22)), (m19, .inl (mc19, 10, .inl mf19)), (m20, .inl (mc20, 10, .inl mf20)), (m21, .inl (mc21, 10, .inl mf21)), (m22, .inl (mc22, 10, .inl mf22)), (m23, .inl (mc23, 10, .inl mf23)), (m24, .inl (mc24, 4, .inl mf24)), (m25, .inl (mc25, 10, .inl mf25)), (m28, .inl (mc28, 10, .inl S28_23)), (m29, .inl (mc29, 10, .inl S29_24)), (m30, .inl (mc30, 10, .inl S30_25)), (m31, .inl (mc31, 10, .inl S31_26)), (m32, .inl (mc32, 10, .inl S32_27)), (m33, .inl (mc33, 10, .inl S33_28)), (m34, .inl (mc34, 10, .inl S34_29)), (m35, .inl (mc35, 10, .inl S35_30)), (m36, .inl (mc36, 10, .inl S36_31)), (m40, .inl (mc40, 20, .inl mf40)), (m41, .inl (mc41, 20, .inl mf41)), (m42, .inl (mc42, 20, .inl mf42)), (m43, .inl (mc43, 20, .inl mf43)), (m44, .inl (mc44, 20, .inl mf44)), (m46, .inl (mc46, 14, .inr (.inl l46))), (m47, .inl (mc47, 6, .inl mf47)), (m48, .inl (mc48, 6, .inl mf48)), (m49, .inl (mc49, 6, .inl mf49)), (m50, .inl (mc50, 6, .inl mf50))]) (_ : va_S A s.heap H locs) (ls : Array Slot) (_ : lv_has ls 11 [(7, .int (nI (i))), (6, .int (nI (k))), (0, .ref jM), (1, .int (nI (j_7))), (2, .long p1), (4, .int (nI (j_13))), (5, .int (nI (j_18)))]) (_ : 14 - i < n9), W p l e (headSpec w_s_odds10 ({ frames := 65, cells := 0, slots := 0, locals := 3900 })).room s m (#[.ref jM, .int (nI (j_7)), .long p1, .int (nI (j_13)), .int (nI (j_18))] : Array Value) below meth c H locs 0 0 Q (F0 m 117 ls []) := by
                  intro n9
                  induction n9 with
                  | zero => intro i l46 ivk_56_0 ivk_56_1 H locs hP hD hS ls hl hm9; exact absurd hm9 (Nat.not_lt_zero _)
                  | succ n9 ih_k_56 =>
                    intro i l46 ivk_56_0 ivk_56_1 H locs hP hD hS ls hl hm9
                    refine lv_iload hx hb dX10_odds_117 (lv_at hl 0 rfl) ?_
                    refine lv_aload_n hx hb dX10_odds_119 rfl (lv_at hl 2 rfl) ?_
                    refine va_get (D := (dC, dI)) (ci := 10) (v := .ref m46) (C := RX10) (T := TX10) (N := 52) hx hb hts (fun _ h => List.mem_cons_of_mem _ (List.mem_append_right _ (List.mem_append_left _ h))) hown hK hP 0 rfl rfl 46 kc_l_46_52 (hts (.fieldLink RX10 101 "NotEndedModel" "ways" "[J") (List.mem_cons_of_mem _ (List.mem_append_left _ (List.mem_of_getElem? (i := 15) rfl)))) (fun _ h9 => h9) rfl dX10_odds_120 ?_
                    refine va_alen hx hb hK hP 26 25 rfl rfl (v := 14) rfl dX10_odds_123 ?_
                    refine lv_icmp_ge (tgt := 150) hx hb dX10_odds_124 kc_t_124_26 (fun c_57 => ?_) (fun c_57 => ?_)
                    · have bd_59 : i < 2147483648 := by omega
                      have hn_58 := kle (a := 14) (b := i) kc_31_14 bd_59 c_57
                      have hw09 : ∀ q : Nat, q ≤ 8 → l46 q = kWy (kE0 mps mkw G3 G4 SV (kPrs mps 0) (yL j_7)) (kIt (kE0 mps mkw G3 G4 SV (kPrs mps 0) (yL j_7)) j_13 (kS0 G0 G1 G2 p1)) 0 q := fun q hq => ivk_56_1 q (by omega)
                      refine lv_iconst (v := 0) hx hb dX10_odds_150 kc_i_0 ?_
                      refine lv_istore hx hb dX10_odds_151 hl kc_l_7_11 (kTo [(7, .int 0), (6, .int (nI (k))), (0, .ref jM), (1, .int (nI (j_7))), (2, .long p1), (4, .int (nI (j_13))), (5, .int (nI (j_18)))]) (fun ls hl => ?_)
                      have lp_k_60 : ∀ (n9 : Nat) (i9 : Nat) (l4 : Nat → Int32) (l46 : Nat → Int64) (lv5 : Value) (lv9 : Value) (lv10 : Value) (lv11 : Value) (lv12 : Value) (lv13 : Value) (lv14 : Value) (lv15 : Value) (lv16 : Value) (lv17 : Value) (lv18 : Value) (ivk_60_0 : i9 ≤ mps) (ivk_60_1 : (∀ q : Nat, q ≤ 8 → l46 q = kWy (kE0 mps mkw G3 G4 SV (kPrs mps 0) (yL j_7)) (kIt (kE0 mps mkw G3 G4 SV (kPrs mps 0) (yL j_7)) j_13 (kS0 G0 G1 G2 p1)) i9 q)) (H : Heap) (locs : List Loc) (_ : va_P (dC, dI) vwCl [(jM, .inr (10, [.int 0, .ref m1, .ref m2, .ref m3, .ref m4, lv5, .int (nI (ml)), .int (nI (mkl)), .int (nI (mku)), lv9, lv10, lv11, lv12, lv13, lv14, lv15, lv16, lv17, lv18, .ref m19, .ref m20, .ref m21, .ref m22, .ref m23, .ref m24, .ref m25, .int (nI (mps)), .int (nI (mkw)), .ref m28, .ref m29, .ref m30, .ref m31, .ref m32, .ref m33, .ref m34, .ref m35, .ref m36, .int Th_32, .int (nI (Ho_33)), .long Xx_34, .ref m40, .ref m41, .ref m42, .ref m43, .ref m44, .int (nI (mkn)), .ref m46, .ref m47, .ref m48, .ref m49, .ref m50, .int (nI (mka))])), (m1, .inl (mc1, 120, .inl mf1)), (m2, .inl (mc2, 1680, .inl mf2)), (m3, .inl (mc3, 14, .inl mf3)), (m4, .inl (mc4, 128, .inl l4)), (m19, .inl (mc19, 10, .inl mf19)), (m20, .inl (mc20, 10, .inl mf20)), (m21, .inl (mc21, 10, .inl mf21)), (m22, .inl (mc22, 10, .inl mf22)), (m23, .inl (mc23, 10, .inl mf23)), (m24, .inl (mc24, 4, .inl mf24)), (m25, .inl (mc25, 10, .inl mf25)), (m28, .inl (mc28, 10, .inl S28_23)), (m29, .inl (mc29, 10, .inl S29_24)), (m30, .inl (mc30, 10, .inl S30_25)), (m31, .inl (mc31, 10, .inl S31_26)), (m32, .inl (mc32, 10, .inl S32_27)), (m33, .inl (mc33, 10, .inl S33_28)), (m34, .inl (mc34, 10, .inl S34_29)), (m35, .inl (mc35, 10, .inl S35_30)), (m36, .inl (mc36, 10, .inl S36_31)), (m40, .inl (mc40, 20, .inl mf40)), (m41, .inl (mc41, 20, .inl mf41)), (m42, .inl (mc42, 20, .inl mf42)), (m43, .inl (mc43, 20, .inl mf43)), (m44, .inl (mc44, 20, .inl mf44)), (m46, .inl (mc46, 14, .inr (.inl l46))), (m47, .inl (mc47, 6, .inl mf47)), (m48, .inl (mc48, 6, .inl mf48)), (m49, .inl (mc49, 6, .inl mf49)), (m50, .inl (mc50, 6, .inl mf50))] H) (_ : va_D A [(jM, .inr (10, [.int 0, .ref m1, .ref m2, .ref m3, .ref m4, lv5, .int (nI (ml)), .int (nI (mkl)), .int (nI (mku)), lv9, lv10, lv11, lv12, lv13, lv14, lv15, lv16, lv17, lv18, .ref m19, .ref m20, .ref m21, .ref m22, .ref m23, .ref m24, .ref m25, .int (nI (mps)), .int (nI (mkw)), .ref m28, .ref m29, .ref m30, .ref m31, .ref m32, .ref m33, .ref m34, .ref m35, .ref m36, .int Th_32, .int (nI (Ho_33)), .long Xx_34, .ref m40, .ref m41, .ref m42, .ref m43, .ref m44, .int (nI (mkn)), .ref m46, .ref m47, .ref m48, .ref m49, .ref m50, .int (nI (mka))])), (m1, .inl (mc1, 120, .inl mf1)), (m2, .inl (mc2, 1680, .inl mf2)), (m3, .inl (mc3, 14, .inl mf3)), (m4, .inl (mc4, 128, .inl l4)), (m19, .inl (mc19, 10, .inl mf19)), (m20, .inl (mc20, 10, .inl mf20)), (m21, .inl (mc21, 10, .inl mf21)), (m22, .inl (mc22, 10, .inl mf22)), (m23, .inl (mc23, 10, .inl mf23)), (m24, .inl (mc24, 4, .inl mf24)), (m25, .inl (mc25, 10, .inl mf25)), (m28, .inl (mc28, 10, .inl S28_23)), (m29, .inl (mc29, 10, .inl S29_24)), (m30, .inl (mc30, 10, .inl S30_25)), (m31, .inl (mc31, 10, .inl S31_26)), (m32, .inl (mc32, 10, .inl S32_27)), (m33, .inl (mc33, 10, .inl S33_28)), (m34, .inl (mc34, 10, .inl S34_29)), (m35, .inl (mc35, 10, .inl S35_30)), (m36, .inl (mc36, 10, .inl S36_31)), (m40, .inl (mc40, 20, .inl mf40)), (m41, .inl (mc41, 20, .inl mf41)), (m42, .inl (mc42, 20, .inl mf42)), (m43, .inl (mc43, 20, .inl mf43)), (m44, .inl (mc44, 20, .inl mf44)), (m46, .inl (mc46, 14, .inr (.inl l46))), (m47, .inl (mc47, 6, .inl mf47)), (m48, .inl (mc48, 6, .inl mf48)), (m49, .inl (mc49, 6, .inl mf49)), (m50, .inl (mc50, 6, .inl mf50))]) (_ : va_S A s.heap H locs) (ls : Array Slot) (_ : lv_has ls 11 [(7, .int (nI (i9))), (6, .int (nI (k))), (0, .ref jM), (1, .int (nI (j_7))), (2, .long p1), (4, .int (nI (j_13))), (5, .int (nI (j_18)))]) (_ : mps - i9 < n9), W p l e (headSpec w_s_odds10 ({ frames := 65, cells := 0, slots := 0, locals := 3900 })).room s m (#[.ref jM, .int (nI (j_7)), .long p1, .int (nI (j_13)), .int (nI (j_18))] : Array Value) below meth c H locs 0 0 Q (F0 m 153 ls []) := by
                        intro n9
                        induction n9 with
                        | zero => intro i9 l4 l46 lv5 lv9 lv10 lv11 lv12 lv13 lv14 lv15 lv16 lv17 lv18 ivk_60_0 ivk_60_1 H locs hP hD hS ls hl hm9; exact absurd hm9 (Nat.not_lt_zero _)
                        | succ n9 ih_k_60 =>
                          intro i9 l4 l46 lv5 lv9 lv10 lv11 lv12 lv13 lv14 lv15 lv16 lv17 lv18 ivk_60_0 ivk_60_1 H locs hP hD hS ls hl hm9
                          refine lv_iload hx hb dX10_odds_153 (lv_at hl 0 rfl) ?_
                          refine lv_aload_n hx hb dX10_odds_155 rfl (lv_at hl 2 rfl) ?_
                          refine va_get (D := (dC, dI)) (ci := 10) (v := .int (nI (mps))) (C := RX10) (T := TX10) (N := 52) hx hb hts (fun _ h => List.mem_cons_of_mem _ (List.mem_append_right _ (List.mem_append_left _ h))) hown hK hP 0 rfl rfl 26 kc_l_26_52 (hts (.fieldLink RX10 250 "NotEndedModel" "persons" "I") (List.mem_cons_of_mem _ (List.mem_append_left _ (List.mem_of_getElem? (i := 14) rfl)))) (fun _ h9 => h9) rfl dX10_odds_156 ?_
                          refine lv_icmp_ge (tgt := 270) hx hb dX10_odds_159 kc_t_159_111 (fun c_61 => ?_) (fun c_61 => ?_)
                          · have bd_63 : i9 < 2147483648 := by omega
                            have hn_62 := kle (a := mps) (b := i9) bd_51 bd_63 c_61
                            have hik8 : i9 = mps := by omega
                            have hm3 := ivk_60_1
                            rw [hik8] at hm3
                            refine lv_aload_n hx hb dX10_odds_270 rfl (lv_at hl 2 rfl) ?_
                            refine va_get (D := (dC, dI)) (ci := 10) (v := .ref m46) (C := RX10) (T := TX10) (N := 52) hx hb hts (fun _ h => List.mem_cons_of_mem _ (List.mem_append_right _ (List.mem_append_left _ h))) hown hK hP 0 rfl rfl 46 kc_l_46_52 (hts (.fieldLink RX10 101 "NotEndedModel" "ways" "[J") (List.mem_cons_of_mem _ (List.mem_append_left _ (List.mem_of_getElem? (i := 15) rfl)))) (fun _ h9 => h9) rfl dX10_odds_271 ?_
                            refine lv_iload hx hb dX10_odds_274 (lv_at hl 6 rfl) ?_
                            have bd_64 : j_18 < 14 := by omega
                            refine va_lald hx hb hK hP 26 25 rfl rfl (vp_in_nI (n := j_18) (N := 14) bd_64 kc_31_14) dX10_odds_276 ?_
                            refine lv_topl (fun x_65 ex_65 => ?_)
                            have hP9 := hP
                            have hD9 := hD
                            have hK9 := hK
                            rw [hQ]
                            exact W.lret (v := x_65) hx hb hr (fun t ht hW => ⟨⟨x_65, (l4, S28_23, S29_24, S30_25, S31_26, S32_27, S33_28, S34_29, S35_30, S36_31, l46, 0, Th_32, Ho_33, Xx_34, (lv5 : Value), (lv9 : Value), (lv10 : Value), (lv11 : Value), (lv12 : Value), (lv13 : Value), (lv14 : Value), (lv15 : Value), (lv16 : Value), (lv17 : Value), (lv18 : Value)), rfl, ⟨(by unfold kOdA kOdV; rw [if_neg ff_6, if_neg ff_12, if_neg ff_17, nI_clamp (n := j_7) (by omega), nI_clamp (n := j_13) (by omega), nI_clamp (n := j_18) (by omega), if_neg (by omega), ex_65, nI_clamp (n := j_18) (by omega)]; exact hm3 j_18 (by omega)), by omega⟩,  by rw [ht]; exact hP9, va_K.moved hW.alike hK9, hD9⟩, hS.F ht⟩) hS.2.2 dX10_odds_277
                          · have bd_67 : i9 < 2147483648 := by omega
                            have hn_66 := knle (a := mps) (b := i9) bd_51 bd_67 c_61
                            refine lv_aload_n hx hb dX10_odds_162 rfl (lv_at hl 2 rfl) ?_
                            refine va_get (D := (dC, dI)) (ci := 10) (v := .ref m25) (C := RX10) (T := TX10) (N := 52) hx hb hts (fun _ h => List.mem_cons_of_mem _ (List.mem_append_right _ (List.mem_append_left _ h))) hown hK hP 0 rfl rfl 25 kc_l_25_52 (hts (.fieldLink RX10 55 "NotEndedModel" "isSent" "[Z") (List.mem_cons_of_mem _ (List.mem_append_left _ (List.mem_of_getElem? (i := 16) rfl)))) (fun _ h9 => h9) rfl dX10_odds_163 ?_
                            refine lv_iload hx hb dX10_odds_166 (lv_at hl 0 rfl) ?_
                            have bd_68 : i9 < 10 := by omega
                            refine va_zald hx hb hK hP 11 10 rfl rfl (vp_in_nI (n := i9) (N := 10) bd_68 kc_31_10) dX10_odds_168 ?_
                            refine lv_topi (fun x_69 ex_69 => ?_)
                            refine lv_if_ne (tgt := 264) hx hb dX10_odds_169 kc_t_169_95 (fun c_70 => ?_) (fun c_70 => ?_)
                            · have hmn9 : ¬ kMay (kE0 mps mkw G3 G4 SV (kPrs mps 0) (yL j_7)) (kIt (kE0 mps mkw G3 G4 SV (kPrs mps 0) (yL j_7)) j_13 (kS0 G0 G1 G2 p1)) i9 = true := (fun z => c_70 (by rw [ex_69, nI_clamp (n := i9) (by omega)]; exact (kTd_se hTd (by omega)).mp (kFr_t.mp (kMay_t.mp z).1).2))
                              refine lv_iinc (v := nI (i9 + 1)) hx hb dX10_odds_264 hl (k := 0) rfl (kInc _ 1) kc_l_7_11 (kTo [(7, .int (nI (i9 + 1))), (6, .int (nI (k))), (0, .ref jM), (1, .int (nI (j_7))), (2, .long p1), (4, .int (nI (j_13))), (5, .int (nI (j_18)))]) (fun ls hl => ?_)
                              refine lv_goto (tgt := 153) hx hb dX10_odds_267 kc_t_267_m114 ?_
                              exact ih_k_60 (i9 + 1) l4 l46 (lv5 : Value) (lv9 : Value) (lv10 : Value) (lv11 : Value) (lv12 : Value) (lv13 : Value) (lv14 : Value) (lv15 : Value) (lv16 : Value) (lv17 : Value) (lv18 : Value) (by omega) (by rw [kWy_f hmn9]; exact ivk_60_1) _ _ hP hD hS ls (lv_sub hl [0, 1, 2, 3, 4, 5, 6] rfl) (by omega)
                            · refine lv_aload_n hx hb dX10_odds_172 rfl (lv_at hl 2 rfl) ?_
                              refine va_get (D := (dC, dI)) (ci := 10) (v := .ref m30) (C := RX10) (T := TX10) (N := 52) hx hb hts (fun _ h => List.mem_cons_of_mem _ (List.mem_append_right _ (List.mem_append_left _ h))) hown hK hP 0 rfl rfl 30 kc_l_30_52 (hts (.fieldLink RX10 65 "NotEndedModel" "house" "[I") (List.mem_cons_of_mem _ (List.mem_append_left _ (List.mem_of_getElem? (i := 17) rfl)))) (fun _ h9 => h9) rfl dX10_odds_173 ?_
                              refine lv_iload hx hb dX10_odds_176 (lv_at hl 0 rfl) ?_
                              refine va_iald hx hb hK hP 14 13 rfl rfl (vp_in_nI (n := i9) (N := 10) bd_68 kc_31_10) dX10_odds_178 ?_
                              refine lv_topi (fun x_71 ex_71 => ?_)
                              have hq9 : x_71 = S30_25 i9 := by rw [ex_71, nI_clamp (n := i9) (by omega)]
                              refine lv_iconst (v := (-1)) hx hb dX10_odds_179 kc_i_m1 ?_
                              refine lv_icmp_ne (tgt := 186) hx hb dX10_odds_180 kc_t_180_6 (fun c_72 => ?_) (fun c_72 => ?_)
                              · have hmy9 : kMay (kE0 mps mkw G3 G4 SV (kPrs mps 0) (yL j_7)) (kIt (kE0 mps mkw G3 G4 SV (kPrs mps 0) (yL j_7)) j_13 (kS0 G0 G1 G2 p1)) i9 = true := kMay_t.mpr ⟨kFr_t.mpr ⟨kPrs0_b (by omega) (by omega), (kTd_se hTd (by omega)).mpr (kRd0 (by omega) ex_69 c_70)⟩, fun z => c_72 ((hq9.trans (hw_47.1 i9 (by omega)).2.2.1).trans z)⟩
                                refine lv_aload_n hx hb dX10_odds_186 rfl (lv_at hl 2 rfl) ?_
                                refine lv_iload hx hb dX10_odds_187 (lv_at hl 0 rfl) ?_
                                have bd_73 : Ho_33 ≤ 48 := by omega
                                have bd_74 : i9 < mps := by omega
                                have hCu := kCut (wc := [(jM, .inr (10, [.int 0, .ref m1, .ref m2, .ref m3, .ref m4, lv5, .int (nI (ml)), .int (nI (mkl)), .int (nI (mku)), lv9, lv10, lv11, lv12, lv13, lv14, lv15, lv16, lv17, lv18, .ref m19, .ref m20, .ref m21, .ref m22, .ref m23, .ref m24, .ref m25, .int (nI (mps)), .int (nI (mkw)), .ref m28, .ref m29, .ref m30, .ref m31, .ref m32, .ref m33, .ref m34, .ref m35, .ref m36, .int Th_32, .int (nI (Ho_33)), .long Xx_34, .ref m40, .ref m41, .ref m42, .ref m43, .ref m44, .int (nI (mkn)), .ref m46, .ref m47, .ref m48, .ref m49, .ref m50, .int (nI (mka))])), (m1, .inl (mc1, 120, .inl mf1)), (m2, .inl (mc2, 1680, .inl mf2)), (m3, .inl (mc3, 14, .inl mf3)), (m4, .inl (mc4, 128, .inl l4)), (m19, .inl (mc19, 10, .inl mf19)), (m20, .inl (mc20, 10, .inl mf20)), (m21, .inl (mc21, 10, .inl mf21)), (m22, .inl (mc22, 10, .inl mf22)), (m23, .inl (mc23, 10, .inl mf23)), (m24, .inl (mc24, 4, .inl mf24)), (m25, .inl (mc25, 10, .inl mf25)), (m28, .inl (mc28, 10, .inl S28_23)), (m29, .inl (mc29, 10, .inl S29_24)), (m30, .inl (mc30, 10, .inl S30_25)), (m31, .inl (mc31, 10, .inl S31_26)), (m32, .inl (mc32, 10, .inl S32_27)), (m33, .inl (mc33, 10, .inl S33_28)), (m34, .inl (mc34, 10, .inl S34_29)), (m35, .inl (mc35, 10, .inl S35_30)), (m36, .inl (mc36, 10, .inl S36_31)), (m40, .inl (mc40, 20, .inl mf40)), (m41, .inl (mc41, 20, .inl mf41)), (m42, .inl (mc42, 20, .inl mf42)), (m43, .inl (mc43, 20, .inl mf43)), (m44, .inl (mc44, 20, .inl mf44)), (m46, .inl (mc46, 14, .inr (.inl l46))), (m47, .inl (mc47, 6, .inl mf47)), (m48, .inl (mc48, 6, .inl mf48)), (m49, .inl (mc49, 6, .inl mf49)), (m50, .inl (mc50, 6, .inl mf50))]) hP hD hS hA [0, 1, 2, 3, 4, 5, 6, 7, 8, 9, 10, 11, 12, 13, 14, 15, 16, 17, 18, 19, 20, 21, 22, 23, 24, 25, 26, 27, 28, 29, 30] rfl kc_nd_772 rfl
                                have hPc := hCu.1
                                have hDc := hCu.2.1
                                have hFc := hCu.2.2
                                have hKc := hK.sb (tys2 := [(mc1, .byte), (mc2, .byte), (mc3, .int), (mc4, .int), (mc19, .int), (mc20, .int), (mc21, .int), (mc22, .int), (mc23, .int), (mc24, .int), (mc25, .boolean), (mc28, .int), (mc29, .int), (mc30, .int), (mc31, .int), (mc32, .int), (mc33, .int), (mc34, .int), (mc35, .int), (mc36, .int), (mc40, .int), (mc41, .int), (mc42, .int), (mc43, .int), (mc44, .int), (mc46, .long), (mc47, .int), (mc48, .int), (mc49, .int), (mc50, .int)]) [0, 1, 2, 3, 4, 5, 6, 7, 8, 9, 10, 11, 12, 13, 14, 15, 16, 17, 18, 19, 20, 21, 22, 23, 24, 25, 26, 27, 28, 29] rfl
                                refine va_callv (va_runV (As := [.int (nI (i9))]) (rest := []) ⟨hx, hb, hml, hown, hts⟩ (s_lay10x l dC dI jM 0 Th_32 Xx_34 (lv5 : Value) (lv9 : Value) (lv10 : Value) (lv11 : Value) (lv12 : Value) (lv13 : Value) (lv14 : Value) (lv15 : Value) (lv16 : Value) (lv17 : Value) (lv18 : Value) m1 m2 m3 m4 m19 m20 m21 m22 m23 m24 m25 m28 m29 m30 m31 m32 m33 m34 m35 m36 m40 m41 m42 m43 m44 m46 m47 m48 m49 m50 mc1 mc2 mc3 mc4 mc19 mc20 mc21 mc22 mc23 mc24 mc25 mc28 mc29 mc30 mc31 mc32 mc33 mc34 mc35 mc36 mc40 mc41 mc42 mc43 mc44 mc46 mc47 mc48 mc49 mc50 mf1 mf2 mf3 l4 mf19 mf20 mf21 mf22 mf23 mf24 mf25 S28_23 S29_24 S30_25 S31_26 S32_27 S33_28 S34_29 S35_30 S36_31 mf40 mf41 mf42 mf43 mf44 l46 mf47 mf48 mf49 mf50 ml mkl mku mps mkw Ho_33 mkn mka bd_1 hmkl hmku hmps hmkw bd_73 hmkn hmka i9 bd_74 (kE0 mps mkw G3 G4 SV (kPrs mps 0) (yL j_7)) (kIt (kE0 mps mkw G3 G4 SV (kPrs mps 0) (yL j_7)) j_13 (kS0 G0 G1 G2 p1)) (kTd_E hTd (by omega) (hw_47.2.2.2.trans (kPrs0 mps).symm)) hw_47.1 (by rw [kIt_hr]; show 0 + j_13 = _; omega) H.size) (cwV 1 hts (kG (List.forall_mem_cons.mpr ⟨(List.mem_cons_of_mem _ (List.mem_append_left _ (List.mem_of_getElem? (i := 20) rfl))), (List.forall_mem_cons.mpr ⟨(List.mem_cons_of_mem _ (List.mem_append_left _ (List.mem_of_getElem? (i := 19) rfl))), (List.forall_mem_cons.mpr ⟨(List.mem_cons_of_mem _ (List.mem_append_left _ (List.mem_of_getElem? (i := 18) rfl))), (List.forall_mem_cons.mpr ⟨(List.mem_cons_of_mem _ (List.mem_append_left _ (List.mem_of_getElem? (i := 1) rfl))), (fun _ h => absurd h List.not_mem_nil)⟩)⟩)⟩)⟩) (kGV _ _ _ _) (fun _ h => List.mem_cons_of_mem _ (List.mem_append_right _ (List.mem_append_right _ (List.mem_append_right _ (List.mem_append_right _ (List.mem_append_right _ (List.mem_append_right _ (List.mem_append_left _ h)))))))) gw_s_lay10x) rfl rfl rfl ⟨rfl, hd_X10_layLetters⟩ ⟨(Nat.le_of_ble_eq_true rfl), (Nat.le_of_ble_eq_true rfl)⟩) (kW_V kT_blind kT_give (va_recv hKc hPc (ci := 10) (q0 := 0) rfl rfl) hPc hKc hDc) rfl rfl hl.1 rfl (lv_room (Nat.le_of_ble_eq_true rfl)) dX10_odds_189 ⟨(Nat.le_of_ble_eq_true rfl), (Nat.le_of_ble_eq_true rfl)⟩) hS (fun q _ h => hFc q h) hFc (fun S4_75 t H_76 locs ht hvm hw hB hz1 hk1 hS => ?_)
                                try dsimp only at hw
                                have hPD : kPD dC dI A [(jM, .inr (10, [.int 0, .ref m1, .ref m2, .ref m3, .ref m4, (lv5 : Value), .int (nI (ml)), .int (nI (mkl)), .int (nI (mku)), (lv9 : Value), (lv10 : Value), (lv11 : Value), (lv12 : Value), (lv13 : Value), (lv14 : Value), (lv15 : Value), (lv16 : Value), (lv17 : Value), (lv18 : Value), .ref m19, .ref m20, .ref m21, .ref m22, .ref m23, .ref m24, .ref m25, .int (nI (mps)), .int (nI (mkw)), .ref m28, .ref m29, .ref m30, .ref m31, .ref m32, .ref m33, .ref m34, .ref m35, .ref m36, .int Th_32, .int (nI (Ho_33)), .long Xx_34, .ref m40, .ref m41, .ref m42, .ref m43, .ref m44, .int (nI (mkn)), .ref m46, .ref m47, .ref m48, .ref m49, .ref m50, .int (nI (mka))])), (m1, .inl (mc1, 120, .inl mf1)), (m2, .inl (mc2, 1680, .inl mf2)), (m3, .inl (mc3, 14, .inl mf3)), (m4, .inl (mc4, 128, .inl S4_75)), (m19, .inl (mc19, 10, .inl mf19)), (m20, .inl (mc20, 10, .inl mf20)), (m21, .inl (mc21, 10, .inl mf21)), (m22, .inl (mc22, 10, .inl mf22)), (m23, .inl (mc23, 10, .inl mf23)), (m24, .inl (mc24, 4, .inl mf24)), (m25, .inl (mc25, 10, .inl mf25)), (m28, .inl (mc28, 10, .inl S28_23)), (m29, .inl (mc29, 10, .inl S29_24)), (m30, .inl (mc30, 10, .inl S30_25)), (m31, .inl (mc31, 10, .inl S31_26)), (m32, .inl (mc32, 10, .inl S32_27)), (m33, .inl (mc33, 10, .inl S33_28)), (m34, .inl (mc34, 10, .inl S34_29)), (m35, .inl (mc35, 10, .inl S35_30)), (m36, .inl (mc36, 10, .inl S36_31)), (m40, .inl (mc40, 20, .inl mf40)), (m41, .inl (mc41, 20, .inl mf41)), (m42, .inl (mc42, 20, .inl mf42)), (m43, .inl (mc43, 20, .inl mf43)), (m44, .inl (mc44, 20, .inl mf44)), (m46, .inl (mc46, 14, .inr (.inl l46))), (m47, .inl (mc47, 6, .inl mf47)), (m48, .inl (mc48, 6, .inl mf48)), (m49, .inl (mc49, 6, .inl mf49)), (m50, .inl (mc50, 6, .inl mf50))] H_76 := kJoinX hP hD [0, 1, 2, 3, 4, 5, 6, 7, 8, 9, 10, 11, 12, 13, 14, 15, 16, 17, 18, 19, 20, 21, 22, 23, 24, 25, 26, 27, 28, 29, 30] rfl hk1 hFc hB.1 ht hB.2.2 rfl [some 0, some 1, some 2, some 3, some 4, some 5, some 6, some 7, some 8, some 9, some 10, some 11, some 12, some 13, some 14, some 15, some 16, some 17, some 18, some 19, some 20, some 21, some 22, some 23, some 24, some 25, some 26, some 27, some 28, some 29, some 30] rfl rfl
                                obtain ⟨hP, hD⟩ := hPD
                                have hw_77 := hw
                                refine lv_aload_n hx hb dX10_odds_192 rfl (lv_at hl 2 rfl) ?_
                                refine lv_iload_n hx hb dX10_odds_193 rfl (lv_at hl 3 rfl) ?_
                                refine lv_iconst (v := 0) hx hb dX10_odds_194 kc_i_0 ?_
                                refine lv_bipush (v := 103) hx hb dX10_odds_195 kc_b_103 ?_
                                have bd_78 : mkl ≤ 8 := by omega
                                have bd_79 : j_7 = 0 + j_7 := by omega
                                have bd_80 : j_7 < 14 := by omega
                                have hCu := kCut (wc := [(jM, .inr (10, [.int 0, .ref m1, .ref m2, .ref m3, .ref m4, (lv5 : Value), .int (nI (ml)), .int (nI (mkl)), .int (nI (mku)), (lv9 : Value), (lv10 : Value), (lv11 : Value), (lv12 : Value), (lv13 : Value), (lv14 : Value), (lv15 : Value), (lv16 : Value), (lv17 : Value), (lv18 : Value), .ref m19, .ref m20, .ref m21, .ref m22, .ref m23, .ref m24, .ref m25, .int (nI (mps)), .int (nI (mkw)), .ref m28, .ref m29, .ref m30, .ref m31, .ref m32, .ref m33, .ref m34, .ref m35, .ref m36, .int Th_32, .int (nI (Ho_33)), .long Xx_34, .ref m40, .ref m41, .ref m42, .ref m43, .ref m44, .int (nI (mkn)), .ref m46, .ref m47, .ref m48, .ref m49, .ref m50, .int (nI (mka))])), (m2, .inl (mc2, 1680, .inl mf2)), (m3, .inl (mc3, 14, .inl mf3)), (m4, .inl (mc4, 128, .inl S4_75))]) hP hD hS hA [0, 2, 3, 4] rfl kc_nd_794 rfl
                                have hPc := hCu.1
                                have hDc := hCu.2.1
                                have hFc := hCu.2.2
                                have hKc := hK.sb (tys2 := [(mc2, .byte), (mc3, .int), (mc4, .int)]) [1, 2, 3] rfl
                                refine va_calli (va_runV (As := [.int (nI (j_7)), .int 0, .int 103]) (rest := []) ⟨hx, hb, hml, hown, hts⟩ (s_worthOf10_0 l dC dI ad jM (.int 0 : Value) (.ref m1 : Value) ((lv5 : Value) : Value) (.int (nI (ml)) : Value) (.int (nI (mkl)) : Value) (.int (nI (mku)) : Value) ((lv9 : Value) : Value) ((lv10 : Value) : Value) ((lv11 : Value) : Value) ((lv12 : Value) : Value) ((lv13 : Value) : Value) ((lv14 : Value) : Value) ((lv15 : Value) : Value) ((lv16 : Value) : Value) ((lv17 : Value) : Value) ((lv18 : Value) : Value) (.ref m19 : Value) (.ref m20 : Value) (.ref m21 : Value) (.ref m22 : Value) (.ref m23 : Value) (.ref m24 : Value) (.ref m25 : Value) (.int (nI (mps)) : Value) (.int (nI (mkw)) : Value) (.ref m28 : Value) (.ref m29 : Value) (.ref m30 : Value) (.ref m31 : Value) (.ref m32 : Value) (.ref m33 : Value) (.ref m34 : Value) (.ref m35 : Value) (.ref m36 : Value) (.int Th_32 : Value) (.int (nI (Ho_33)) : Value) (.long Xx_34 : Value) (.ref m40 : Value) (.ref m41 : Value) (.ref m42 : Value) (.ref m43 : Value) (.ref m44 : Value) (.int (nI (mkn)) : Value) (.ref m46 : Value) (.ref m47 : Value) (.ref m48 : Value) (.ref m49 : Value) (.ref m50 : Value) (.int (nI (mka)) : Value) m2 mc2 mf2 m3 mc3 mf3 m4 mc4 S4_75 bA nA xA hnA gnA bB nB xB hnB gnB hzA hzB hlB mkl yL hUl bd_78 j_7 bd_20 j_7 bd_79 bd_80 103 H_76.size) (cwV 3 hts (kG (List.forall_mem_cons.mpr ⟨(List.mem_cons_of_mem _ (List.mem_append_left _ (List.mem_of_getElem? (i := 23) rfl))), (List.forall_mem_cons.mpr ⟨(List.mem_cons_of_mem _ (List.mem_append_left _ (List.mem_of_getElem? (i := 22) rfl))), (List.forall_mem_cons.mpr ⟨(List.mem_cons_of_mem _ (List.mem_append_left _ (List.mem_of_getElem? (i := 21) rfl))), (List.forall_mem_cons.mpr ⟨(List.mem_cons_of_mem _ (List.mem_append_left _ (List.mem_of_getElem? (i := 1) rfl))), (fun _ h => absurd h List.not_mem_nil)⟩)⟩)⟩)⟩) (kGV _ _ _ _) (fun _ h => List.mem_cons_of_mem _ (List.mem_append_right _ (List.mem_append_right _ (List.mem_append_right _ (List.mem_append_right _ (List.mem_append_right _ (List.mem_append_right _ (List.mem_append_right _ (List.mem_append_left _ h))))))))) gw_s_worthOf10_0) rfl rfl rfl ⟨rfl, hd_X10_worthOf⟩ ⟨(Nat.le_of_ble_eq_true rfl), (Nat.le_of_ble_eq_true rfl)⟩) (kW_V kRd_blind (kRd_give hX.1 hS hFc) (va_recv hKc hPc (ci := 10) (q0 := 0) rfl rfl) hPc hKc hDc) rfl rfl hl.1 rfl (lv_room (Nat.le_of_ble_eq_true rfl)) dX10_odds_197 ⟨(Nat.le_of_ble_eq_true rfl), (Nat.le_of_ble_eq_true rfl)⟩) hS (fun q _ h => hFc q h) hFc (fun r_81 => kU11 (fun W5_82 W9_83 W10_84 W11_85 W12_86 W13_87 W14_88 W15_89 W16_90 W17_91 W18_92 t H_93 locs ht hvm hw hB hz1 hk1 hS => ?_))
                                try dsimp only at hw
                                have hPD : kPD dC dI A [(jM, .inr (10, [.int 0, .ref m1, .ref m2, .ref m3, .ref m4, W5_82, .int (nI (ml)), .int (nI (mkl)), .int (nI (mku)), W9_83, W10_84, W11_85, W12_86, W13_87, W14_88, W15_89, W16_90, W17_91, W18_92, .ref m19, .ref m20, .ref m21, .ref m22, .ref m23, .ref m24, .ref m25, .int (nI (mps)), .int (nI (mkw)), .ref m28, .ref m29, .ref m30, .ref m31, .ref m32, .ref m33, .ref m34, .ref m35, .ref m36, .int Th_32, .int (nI (Ho_33)), .long Xx_34, .ref m40, .ref m41, .ref m42, .ref m43, .ref m44, .int (nI (mkn)), .ref m46, .ref m47, .ref m48, .ref m49, .ref m50, .int (nI (mka))])), (m1, .inl (mc1, 120, .inl mf1)), (m2, .inl (mc2, 1680, .inl mf2)), (m3, .inl (mc3, 14, .inl mf3)), (m4, .inl (mc4, 128, .inl S4_75)), (m19, .inl (mc19, 10, .inl mf19)), (m20, .inl (mc20, 10, .inl mf20)), (m21, .inl (mc21, 10, .inl mf21)), (m22, .inl (mc22, 10, .inl mf22)), (m23, .inl (mc23, 10, .inl mf23)), (m24, .inl (mc24, 4, .inl mf24)), (m25, .inl (mc25, 10, .inl mf25)), (m28, .inl (mc28, 10, .inl S28_23)), (m29, .inl (mc29, 10, .inl S29_24)), (m30, .inl (mc30, 10, .inl S30_25)), (m31, .inl (mc31, 10, .inl S31_26)), (m32, .inl (mc32, 10, .inl S32_27)), (m33, .inl (mc33, 10, .inl S33_28)), (m34, .inl (mc34, 10, .inl S34_29)), (m35, .inl (mc35, 10, .inl S35_30)), (m36, .inl (mc36, 10, .inl S36_31)), (m40, .inl (mc40, 20, .inl mf40)), (m41, .inl (mc41, 20, .inl mf41)), (m42, .inl (mc42, 20, .inl mf42)), (m43, .inl (mc43, 20, .inl mf43)), (m44, .inl (mc44, 20, .inl mf44)), (m46, .inl (mc46, 14, .inr (.inl l46))), (m47, .inl (mc47, 6, .inl mf47)), (m48, .inl (mc48, 6, .inl mf48)), (m49, .inl (mc49, 6, .inl mf49)), (m50, .inl (mc50, 6, .inl mf50))] H_93 := kJoinX hP hD [0, 2, 3, 4] rfl hk1 hFc hB.1 ht hB.2.2 rfl [some 0, none, some 1, some 2, some 3, none, none, none, none, none, none, none, none, none, none, none, none, none, none, none, none, none, none, none, none, none, none, none, none, none, none] rfl rfl
                                obtain ⟨hP, hD⟩ := hPD
                                have hw_94 := hw
                                have hRE9 := kTd_E (ab := 0) (t := yL j_7) hTd (by omega) (kPrs0 mps).symm
                                have hy9 := kYyR (E := (kE0 mps mkw G3 G4 SV (kPrs mps 0) (yL j_7))) (S := (kIt (kE0 mps mkw G3 G4 SV (kPrs mps 0) (yL j_7)) j_13 (kS0 G0 G1 G2 p1))) (j := i9) (lab := 1) hA9 hB9 hw_77 (kLe_b (show mps ≤ 10 by omega) (show mkw ≤ 4 by omega) (by rw [kIt_hr]; show 0 + _ ≤ 48; omega) (kOk_it (show kOk mps (kS0 G0 G1 G2 p1) from hOk0) _) (show i9 < mps by omega) hRE9.2.2.2.2.2.1 hRE9.2.2.2.2.2.2) (kUn_gd hnB hUl (j := j_7) (by omega)) rfl (Or.inr (Or.inl ⟨rfl, rfl⟩)) hw_94
                                have hPc := hP.sb (ws2 := []) [] rfl
                                have hKc := hK.sb (tys2 := []) [] rfl
                                refine vp_callSi (va_runS (As := [.int r_81]) (rest := []) ⟨hx, hb, hml, hown, hts⟩ (s_held10x l dC dI r_81) (va_cwS 1 hts (kG (List.forall_mem_cons.mpr ⟨(List.mem_cons_of_mem _ (List.mem_append_left _ (List.mem_of_getElem? (i := 25) rfl))), (List.forall_mem_cons.mpr ⟨(List.mem_cons_of_mem _ (List.mem_append_left _ (List.mem_of_getElem? (i := 24) rfl))), (List.forall_mem_cons.mpr ⟨(List.mem_cons_of_mem _ (List.mem_append_left _ (List.mem_of_getElem? (i := 1) rfl))), (fun _ h => absurd h List.not_mem_nil)⟩)⟩)⟩) (kGS _ _ _) (fun _ h => List.mem_cons_of_mem _ (List.mem_append_right _ (List.mem_append_right _ (List.mem_append_right _ (List.mem_append_right _ (List.mem_append_right _ (List.mem_append_right _ (List.mem_append_right _ (List.mem_append_right _ h))))))))) gw_s_held10x) rfl rfl rfl hd_X10_held ⟨(Nat.le_of_ble_eq_true rfl), (Nat.le_of_ble_eq_true rfl)⟩) (kR_S kT_blind kT_give hPc hKc) rfl rfl hl.1 rfl (lv_room (Nat.le_of_ble_eq_true rfl)) dX10_odds_200 ⟨(Nat.le_of_ble_eq_true rfl), (Nat.le_of_ble_eq_true rfl)⟩).run (fun r_95 hw => ?_)
                                have hw_96 := hw
                                have hwc9 : r_95 = kWi (kYy (kE0 mps mkw G3 G4 SV (kPrs mps 0) (yL j_7)) (kIt (kE0 mps mkw G3 G4 SV (kPrs mps 0) (yL j_7)) j_13 (kS0 G0 G1 G2 p1)) 1 i9) := by rw [hw_96, hy9]
                                obtain ⟨z_97, ez_97⟩ : ∃ z : Int64, z = Int32.toInt64 r_95 := ⟨_, rfl⟩
                                refine lv_i2l (v := z_97) hx hb dX10_odds_203 ez_97.symm ?_
                                refine lv_lstore hx hb dX10_odds_204 hl kc_l_9_11 (kTo [(8, .long z_97), (7, .int (nI (i9))), (6, .int (nI (k))), (0, .ref jM), (1, .int (nI (j_7))), (2, .long p1), (4, .int (nI (j_13))), (5, .int (nI (j_18)))]) (fun ls hl => ?_)
                                refine lv_bipush (v := 8) hx hb dX10_odds_206 kc_b_8 ?_
                                refine lv_istore hx hb dX10_odds_208 hl kc_l_10_11 (kTo [(10, .int 8), (8, .long z_97), (7, .int (nI (i9))), (6, .int (nI (k))), (0, .ref jM), (1, .int (nI (j_7))), (2, .long p1), (4, .int (nI (j_13))), (5, .int (nI (j_18)))]) (fun ls hl => ?_)
                                refine lv_iload hx hb dX10_odds_210 (lv_at hl 0 rfl) ?_
                                refine lv_if_lt (tgt := 264) hx hb dX10_odds_212 kc_t_212_52 (fun c_98 => absurd c_98 (by decide)) (fun c_98 => ?_)
                                refine lv_aload_n hx hb dX10_odds_215 rfl (lv_at hl 4 rfl) ?_
                                refine va_get (D := (dC, dI)) (ci := 10) (v := .ref m46) (C := RX10) (T := TX10) (N := 52) hx hb hts (fun _ h => List.mem_cons_of_mem _ (List.mem_append_right _ (List.mem_append_left _ h))) hown hK hP 0 rfl rfl 46 kc_l_46_52 (hts (.fieldLink RX10 101 "NotEndedModel" "ways" "[J") (List.mem_cons_of_mem _ (List.mem_append_left _ (List.mem_of_getElem? (i := 15) rfl)))) (fun _ h9 => h9) rfl dX10_odds_216 ?_
                                refine lv_iload hx hb dX10_odds_219 (lv_at hl 0 rfl) ?_
                                refine lv_aload_n hx hb dX10_odds_221 rfl (lv_at hl 4 rfl) ?_
                                refine va_get (D := (dC, dI)) (ci := 10) (v := .ref m46) (C := RX10) (T := TX10) (N := 52) hx hb hts (fun _ h => List.mem_cons_of_mem _ (List.mem_append_right _ (List.mem_append_left _ h))) hown hK hP 0 rfl rfl 46 kc_l_46_52 (hts (.fieldLink RX10 101 "NotEndedModel" "ways" "[J") (List.mem_cons_of_mem _ (List.mem_append_left _ (List.mem_of_getElem? (i := 15) rfl)))) (fun _ h9 => h9) rfl dX10_odds_222 ?_
                                refine lv_iload hx hb dX10_odds_225 (lv_at hl 0 rfl) ?_
                                refine va_lald hx hb hK hP 26 25 rfl rfl kc_in_8_14 dX10_odds_227 ?_
                                refine lv_topl (fun x_99 ex_99 => ?_)
                                refine lv_ldc2 (v := 100) hx hb hown (hts (.constantLong RX10 282 (100)) (List.mem_cons_of_mem _ (List.mem_append_left _ (List.mem_of_getElem? (i := 26) rfl)))) dX10_odds_228 ?_
                                refine lv_lload hx hb dX10_odds_231 (lv_at hl 1 rfl) ?_
                                refine lv_lsub hx hb dX10_odds_233 ?_
                                refine lv_topl (fun z_100 ez_100 => ?_)
                                refine lv_lmul hx hb dX10_odds_234 ?_
                                refine lv_topl (fun z_101 ez_101 => ?_)
                                refine lv_iload hx hb dX10_odds_235 (lv_at hl 0 rfl) ?_
                                refine lv_if_le (tgt := 255) hx hb dX10_odds_237 kc_t_237_18 (fun c_102 => absurd c_102 (by decide)) (fun c_102 => ?_)
                                refine lv_aload_n hx hb dX10_odds_240 rfl (lv_at hl 4 rfl) ?_
                                refine va_get (D := (dC, dI)) (ci := 10) (v := .ref m46) (C := RX10) (T := TX10) (N := 52) hx hb hts (fun _ h => List.mem_cons_of_mem _ (List.mem_append_right _ (List.mem_append_left _ h))) hown hK hP 0 rfl rfl 46 kc_l_46_52 (hts (.fieldLink RX10 101 "NotEndedModel" "ways" "[J") (List.mem_cons_of_mem _ (List.mem_append_left _ (List.mem_of_getElem? (i := 15) rfl)))) (fun _ h9 => h9) rfl dX10_odds_241 ?_
                                refine lv_iload hx hb dX10_odds_244 (lv_at hl 0 rfl) ?_
                                refine lv_iconst (v := 1) hx hb dX10_odds_246 kc_i_1 ?_
                                refine lv_isub hx hb dX10_odds_247 ?_
                                refine lv_topi (fun y_103 ey_103 => ?_)
                                obtain rfl : y_103 = 7 := ey_103.trans (by decide)
                                refine va_lald hx hb hK hP 26 25 rfl rfl kc_in_7_14 dX10_odds_248 ?_
                                refine lv_topl (fun x_104 ex_104 => ?_)
                                refine lv_lload hx hb dX10_odds_249 (lv_at hl 1 rfl) ?_
                                refine lv_lmul hx hb dX10_odds_251 ?_
                                refine lv_topl (fun z_105 ez_105 => ?_)
                                refine lv_goto (tgt := 256) hx hb dX10_odds_252 kc_t_252_4 ?_
                                refine lv_ladd hx hb dX10_odds_256 ?_
                                refine lv_topl (fun z_106 ez_106 => ?_)
                                refine va_last hx hb hK hP hD hS 26 25 rfl rfl kc_in_8_14 dX10_odds_257 (fun H locs hP hD hS => ?_)
                                obtain ⟨f_107, ef_107⟩ : ∃ gg9 : Nat → Int64, gg9 = vp_updL l46 (Int32.toNatClampNeg 8) z_106 := ⟨_, rfl⟩
                                have hPD : kPD dC dI A [(jM, .inr (10, [.int 0, .ref m1, .ref m2, .ref m3, .ref m4, W5_82, .int (nI (ml)), .int (nI (mkl)), .int (nI (mku)), W9_83, W10_84, W11_85, W12_86, W13_87, W14_88, W15_89, W16_90, W17_91, W18_92, .ref m19, .ref m20, .ref m21, .ref m22, .ref m23, .ref m24, .ref m25, .int (nI (mps)), .int (nI (mkw)), .ref m28, .ref m29, .ref m30, .ref m31, .ref m32, .ref m33, .ref m34, .ref m35, .ref m36, .int Th_32, .int (nI (Ho_33)), .long Xx_34, .ref m40, .ref m41, .ref m42, .ref m43, .ref m44, .int (nI (mkn)), .ref m46, .ref m47, .ref m48, .ref m49, .ref m50, .int (nI (mka))])), (m1, .inl (mc1, 120, .inl mf1)), (m2, .inl (mc2, 1680, .inl mf2)), (m3, .inl (mc3, 14, .inl mf3)), (m4, .inl (mc4, 128, .inl S4_75)), (m19, .inl (mc19, 10, .inl mf19)), (m20, .inl (mc20, 10, .inl mf20)), (m21, .inl (mc21, 10, .inl mf21)), (m22, .inl (mc22, 10, .inl mf22)), (m23, .inl (mc23, 10, .inl mf23)), (m24, .inl (mc24, 4, .inl mf24)), (m25, .inl (mc25, 10, .inl mf25)), (m28, .inl (mc28, 10, .inl S28_23)), (m29, .inl (mc29, 10, .inl S29_24)), (m30, .inl (mc30, 10, .inl S30_25)), (m31, .inl (mc31, 10, .inl S31_26)), (m32, .inl (mc32, 10, .inl S32_27)), (m33, .inl (mc33, 10, .inl S33_28)), (m34, .inl (mc34, 10, .inl S34_29)), (m35, .inl (mc35, 10, .inl S35_30)), (m36, .inl (mc36, 10, .inl S36_31)), (m40, .inl (mc40, 20, .inl mf40)), (m41, .inl (mc41, 20, .inl mf41)), (m42, .inl (mc42, 20, .inl mf42)), (m43, .inl (mc43, 20, .inl mf43)), (m44, .inl (mc44, 20, .inl mf44)), (m46, .inl (mc46, 14, .inr (.inl f_107))), (m47, .inl (mc47, 6, .inl mf47)), (m48, .inl (mc48, 6, .inl mf48)), (m49, .inl (mc49, 6, .inl mf49)), (m50, .inl (mc50, 6, .inl mf50))] H := by rw [ef_107]; exact ⟨hP, hD⟩
                                obtain ⟨hP, hD⟩ := hPD
                                have hws_108 := kWsR (i := 8) (k := 8) (k1 := 7) (by decide) (by decide) (by omega) (by omega) ez_97 ex_99 ez_100 ez_101 ex_104 ez_105 ez_106 ef_107 (kWsI9 (w := l46) (c := r_95))
                                refine lv_iinc (v := 7) hx hb dX10_odds_258 hl (k := 0) rfl (by decide) kc_l_10_11 (kTo [(10, .int 7), (8, .long z_97), (7, .int (nI (i9))), (6, .int (nI (k))), (0, .ref jM), (1, .int (nI (j_7))), (2, .long p1), (4, .int (nI (j_13))), (5, .int (nI (j_18)))]) (fun ls hl => ?_)
                                refine lv_goto (tgt := 210) hx hb dX10_odds_261 kc_t_261_m51 ?_
                                refine lv_iload hx hb dX10_odds_210 (lv_at hl 0 rfl) ?_
                                refine lv_if_lt (tgt := 264) hx hb dX10_odds_212 kc_t_212_52 (fun c_109 => absurd c_109 (by decide)) (fun c_109 => ?_)
                                refine lv_aload_n hx hb dX10_odds_215 rfl (lv_at hl 4 rfl) ?_
                                refine va_get (D := (dC, dI)) (ci := 10) (v := .ref m46) (C := RX10) (T := TX10) (N := 52) hx hb hts (fun _ h => List.mem_cons_of_mem _ (List.mem_append_right _ (List.mem_append_left _ h))) hown hK hP 0 rfl rfl 46 kc_l_46_52 (hts (.fieldLink RX10 101 "NotEndedModel" "ways" "[J") (List.mem_cons_of_mem _ (List.mem_append_left _ (List.mem_of_getElem? (i := 15) rfl)))) (fun _ h9 => h9) rfl dX10_odds_216 ?_
                                refine lv_iload hx hb dX10_odds_219 (lv_at hl 0 rfl) ?_
                                refine lv_aload_n hx hb dX10_odds_221 rfl (lv_at hl 4 rfl) ?_
                                refine va_get (D := (dC, dI)) (ci := 10) (v := .ref m46) (C := RX10) (T := TX10) (N := 52) hx hb hts (fun _ h => List.mem_cons_of_mem _ (List.mem_append_right _ (List.mem_append_left _ h))) hown hK hP 0 rfl rfl 46 kc_l_46_52 (hts (.fieldLink RX10 101 "NotEndedModel" "ways" "[J") (List.mem_cons_of_mem _ (List.mem_append_left _ (List.mem_of_getElem? (i := 15) rfl)))) (fun _ h9 => h9) rfl dX10_odds_222 ?_
                                refine lv_iload hx hb dX10_odds_225 (lv_at hl 0 rfl) ?_
                                refine va_lald hx hb hK hP 26 25 rfl rfl kc_in_7_14 dX10_odds_227 ?_
                                refine lv_topl (fun x_110 ex_110 => ?_)
                                refine lv_ldc2 (v := 100) hx hb hown (hts (.constantLong RX10 282 (100)) (List.mem_cons_of_mem _ (List.mem_append_left _ (List.mem_of_getElem? (i := 26) rfl)))) dX10_odds_228 ?_
                                refine lv_lload hx hb dX10_odds_231 (lv_at hl 1 rfl) ?_
                                refine lv_lsub hx hb dX10_odds_233 ?_
                                refine lv_topl (fun z_111 ez_111 => ?_)
                                refine lv_lmul hx hb dX10_odds_234 ?_
                                refine lv_topl (fun z_112 ez_112 => ?_)
                                refine lv_iload hx hb dX10_odds_235 (lv_at hl 0 rfl) ?_
                                refine lv_if_le (tgt := 255) hx hb dX10_odds_237 kc_t_237_18 (fun c_113 => absurd c_113 (by decide)) (fun c_113 => ?_)
                                refine lv_aload_n hx hb dX10_odds_240 rfl (lv_at hl 4 rfl) ?_
                                refine va_get (D := (dC, dI)) (ci := 10) (v := .ref m46) (C := RX10) (T := TX10) (N := 52) hx hb hts (fun _ h => List.mem_cons_of_mem _ (List.mem_append_right _ (List.mem_append_left _ h))) hown hK hP 0 rfl rfl 46 kc_l_46_52 (hts (.fieldLink RX10 101 "NotEndedModel" "ways" "[J") (List.mem_cons_of_mem _ (List.mem_append_left _ (List.mem_of_getElem? (i := 15) rfl)))) (fun _ h9 => h9) rfl dX10_odds_241 ?_
                                refine lv_iload hx hb dX10_odds_244 (lv_at hl 0 rfl) ?_
                                refine lv_iconst (v := 1) hx hb dX10_odds_246 kc_i_1 ?_
                                refine lv_isub hx hb dX10_odds_247 ?_
                                refine lv_topi (fun y_114 ey_114 => ?_)
                                obtain rfl : y_114 = 6 := ey_114.trans (by decide)
                                refine va_lald hx hb hK hP 26 25 rfl rfl kc_in_6_14 dX10_odds_248 ?_
                                refine lv_topl (fun x_115 ex_115 => ?_)
                                refine lv_lload hx hb dX10_odds_249 (lv_at hl 1 rfl) ?_
                                refine lv_lmul hx hb dX10_odds_251 ?_
                                refine lv_topl (fun z_116 ez_116 => ?_)
                                refine lv_goto (tgt := 256) hx hb dX10_odds_252 kc_t_252_4 ?_
                                refine lv_ladd hx hb dX10_odds_256 ?_
                                refine lv_topl (fun z_117 ez_117 => ?_)
                                refine va_last hx hb hK hP hD hS 26 25 rfl rfl kc_in_7_14 dX10_odds_257 (fun H locs hP hD hS => ?_)
                                obtain ⟨f_118, ef_118⟩ : ∃ gg9 : Nat → Int64, gg9 = vp_updL f_107 (Int32.toNatClampNeg 7) z_117 := ⟨_, rfl⟩
                                have hPD : kPD dC dI A [(jM, .inr (10, [.int 0, .ref m1, .ref m2, .ref m3, .ref m4, W5_82, .int (nI (ml)), .int (nI (mkl)), .int (nI (mku)), W9_83, W10_84, W11_85, W12_86, W13_87, W14_88, W15_89, W16_90, W17_91, W18_92, .ref m19, .ref m20, .ref m21, .ref m22, .ref m23, .ref m24, .ref m25, .int (nI (mps)), .int (nI (mkw)), .ref m28, .ref m29, .ref m30, .ref m31, .ref m32, .ref m33, .ref m34, .ref m35, .ref m36, .int Th_32, .int (nI (Ho_33)), .long Xx_34, .ref m40, .ref m41, .ref m42, .ref m43, .ref m44, .int (nI (mkn)), .ref m46, .ref m47, .ref m48, .ref m49, .ref m50, .int (nI (mka))])), (m1, .inl (mc1, 120, .inl mf1)), (m2, .inl (mc2, 1680, .inl mf2)), (m3, .inl (mc3, 14, .inl mf3)), (m4, .inl (mc4, 128, .inl S4_75)), (m19, .inl (mc19, 10, .inl mf19)), (m20, .inl (mc20, 10, .inl mf20)), (m21, .inl (mc21, 10, .inl mf21)), (m22, .inl (mc22, 10, .inl mf22)), (m23, .inl (mc23, 10, .inl mf23)), (m24, .inl (mc24, 4, .inl mf24)), (m25, .inl (mc25, 10, .inl mf25)), (m28, .inl (mc28, 10, .inl S28_23)), (m29, .inl (mc29, 10, .inl S29_24)), (m30, .inl (mc30, 10, .inl S30_25)), (m31, .inl (mc31, 10, .inl S31_26)), (m32, .inl (mc32, 10, .inl S32_27)), (m33, .inl (mc33, 10, .inl S33_28)), (m34, .inl (mc34, 10, .inl S34_29)), (m35, .inl (mc35, 10, .inl S35_30)), (m36, .inl (mc36, 10, .inl S36_31)), (m40, .inl (mc40, 20, .inl mf40)), (m41, .inl (mc41, 20, .inl mf41)), (m42, .inl (mc42, 20, .inl mf42)), (m43, .inl (mc43, 20, .inl mf43)), (m44, .inl (mc44, 20, .inl mf44)), (m46, .inl (mc46, 14, .inr (.inl f_118))), (m47, .inl (mc47, 6, .inl mf47)), (m48, .inl (mc48, 6, .inl mf48)), (m49, .inl (mc49, 6, .inl mf49)), (m50, .inl (mc50, 6, .inl mf50))] H := by rw [ef_118]; exact ⟨hP, hD⟩
                                obtain ⟨hP, hD⟩ := hPD
                                have hws_119 := kWsR (i := 7) (k := 7) (k1 := 6) (by decide) (by decide) (by omega) (by omega) ez_97 ex_110 ez_111 ez_112 ex_115 ez_116 ez_117 ef_118 hws_108
                                refine lv_iinc (v := 6) hx hb dX10_odds_258 hl (k := 0) rfl (by decide) kc_l_10_11 (kTo [(10, .int 6), (8, .long z_97), (7, .int (nI (i9))), (6, .int (nI (k))), (0, .ref jM), (1, .int (nI (j_7))), (2, .long p1), (4, .int (nI (j_13))), (5, .int (nI (j_18)))]) (fun ls hl => ?_)
                                refine lv_goto (tgt := 210) hx hb dX10_odds_261 kc_t_261_m51 ?_
                                refine lv_iload hx hb dX10_odds_210 (lv_at hl 0 rfl) ?_
                                refine lv_if_lt (tgt := 264) hx hb dX10_odds_212 kc_t_212_52 (fun c_120 => absurd c_120 (by decide)) (fun c_120 => ?_)
                                refine lv_aload_n hx hb dX10_odds_215 rfl (lv_at hl 4 rfl) ?_
                                refine va_get (D := (dC, dI)) (ci := 10) (v := .ref m46) (C := RX10) (T := TX10) (N := 52) hx hb hts (fun _ h => List.mem_cons_of_mem _ (List.mem_append_right _ (List.mem_append_left _ h))) hown hK hP 0 rfl rfl 46 kc_l_46_52 (hts (.fieldLink RX10 101 "NotEndedModel" "ways" "[J") (List.mem_cons_of_mem _ (List.mem_append_left _ (List.mem_of_getElem? (i := 15) rfl)))) (fun _ h9 => h9) rfl dX10_odds_216 ?_
                                refine lv_iload hx hb dX10_odds_219 (lv_at hl 0 rfl) ?_
                                refine lv_aload_n hx hb dX10_odds_221 rfl (lv_at hl 4 rfl) ?_
                                refine va_get (D := (dC, dI)) (ci := 10) (v := .ref m46) (C := RX10) (T := TX10) (N := 52) hx hb hts (fun _ h => List.mem_cons_of_mem _ (List.mem_append_right _ (List.mem_append_left _ h))) hown hK hP 0 rfl rfl 46 kc_l_46_52 (hts (.fieldLink RX10 101 "NotEndedModel" "ways" "[J") (List.mem_cons_of_mem _ (List.mem_append_left _ (List.mem_of_getElem? (i := 15) rfl)))) (fun _ h9 => h9) rfl dX10_odds_222 ?_
                                refine lv_iload hx hb dX10_odds_225 (lv_at hl 0 rfl) ?_
                                refine va_lald hx hb hK hP 26 25 rfl rfl kc_in_6_14 dX10_odds_227 ?_
                                refine lv_topl (fun x_121 ex_121 => ?_)
                                refine lv_ldc2 (v := 100) hx hb hown (hts (.constantLong RX10 282 (100)) (List.mem_cons_of_mem _ (List.mem_append_left _ (List.mem_of_getElem? (i := 26) rfl)))) dX10_odds_228 ?_
                                refine lv_lload hx hb dX10_odds_231 (lv_at hl 1 rfl) ?_
                                refine lv_lsub hx hb dX10_odds_233 ?_
                                refine lv_topl (fun z_122 ez_122 => ?_)
                                refine lv_lmul hx hb dX10_odds_234 ?_
                                refine lv_topl (fun z_123 ez_123 => ?_)
                                refine lv_iload hx hb dX10_odds_235 (lv_at hl 0 rfl) ?_
                                refine lv_if_le (tgt := 255) hx hb dX10_odds_237 kc_t_237_18 (fun c_124 => absurd c_124 (by decide)) (fun c_124 => ?_)
                                refine lv_aload_n hx hb dX10_odds_240 rfl (lv_at hl 4 rfl) ?_
                                refine va_get (D := (dC, dI)) (ci := 10) (v := .ref m46) (C := RX10) (T := TX10) (N := 52) hx hb hts (fun _ h => List.mem_cons_of_mem _ (List.mem_append_right _ (List.mem_append_left _ h))) hown hK hP 0 rfl rfl 46 kc_l_46_52 (hts (.fieldLink RX10 101 "NotEndedModel" "ways" "[J") (List.mem_cons_of_mem _ (List.mem_append_left _ (List.mem_of_getElem? (i := 15) rfl)))) (fun _ h9 => h9) rfl dX10_odds_241 ?_
                                refine lv_iload hx hb dX10_odds_244 (lv_at hl 0 rfl) ?_
                                refine lv_iconst (v := 1) hx hb dX10_odds_246 kc_i_1 ?_
                                refine lv_isub hx hb dX10_odds_247 ?_
                                refine lv_topi (fun y_125 ey_125 => ?_)
                                obtain rfl : y_125 = 5 := ey_125.trans (by decide)
                                refine va_lald hx hb hK hP 26 25 rfl rfl kc_in_5_14 dX10_odds_248 ?_
                                refine lv_topl (fun x_126 ex_126 => ?_)
                                refine lv_lload hx hb dX10_odds_249 (lv_at hl 1 rfl) ?_
                                refine lv_lmul hx hb dX10_odds_251 ?_
                                refine lv_topl (fun z_127 ez_127 => ?_)
                                refine lv_goto (tgt := 256) hx hb dX10_odds_252 kc_t_252_4 ?_
                                refine lv_ladd hx hb dX10_odds_256 ?_
                                refine lv_topl (fun z_128 ez_128 => ?_)
                                refine va_last hx hb hK hP hD hS 26 25 rfl rfl kc_in_6_14 dX10_odds_257 (fun H locs hP hD hS => ?_)
                                obtain ⟨f_129, ef_129⟩ : ∃ gg9 : Nat → Int64, gg9 = vp_updL f_118 (Int32.toNatClampNeg 6) z_128 := ⟨_, rfl⟩
                                have hPD : kPD dC dI A [(jM, .inr (10, [.int 0, .ref m1, .ref m2, .ref m3, .ref m4, W5_82, .int (nI (ml)), .int (nI (mkl)), .int (nI (mku)), W9_83, W10_84, W11_85, W12_86, W13_87, W14_88, W15_89, W16_90, W17_91, W18_92, .ref m19, .ref m20, .ref m21, .ref m22, .ref m23, .ref m24, .ref m25, .int (nI (mps)), .int (nI (mkw)), .ref m28, .ref m29, .ref m30, .ref m31, .ref m32, .ref m33, .ref m34, .ref m35, .ref m36, .int Th_32, .int (nI (Ho_33)), .long Xx_34, .ref m40, .ref m41, .ref m42, .ref m43, .ref m44, .int (nI (mkn)), .ref m46, .ref m47, .ref m48, .ref m49, .ref m50, .int (nI (mka))])), (m1, .inl (mc1, 120, .inl mf1)), (m2, .inl (mc2, 1680, .inl mf2)), (m3, .inl (mc3, 14, .inl mf3)), (m4, .inl (mc4, 128, .inl S4_75)), (m19, .inl (mc19, 10, .inl mf19)), (m20, .inl (mc20, 10, .inl mf20)), (m21, .inl (mc21, 10, .inl mf21)), (m22, .inl (mc22, 10, .inl mf22)), (m23, .inl (mc23, 10, .inl mf23)), (m24, .inl (mc24, 4, .inl mf24)), (m25, .inl (mc25, 10, .inl mf25)), (m28, .inl (mc28, 10, .inl S28_23)), (m29, .inl (mc29, 10, .inl S29_24)), (m30, .inl (mc30, 10, .inl S30_25)), (m31, .inl (mc31, 10, .inl S31_26)), (m32, .inl (mc32, 10, .inl S32_27)), (m33, .inl (mc33, 10, .inl S33_28)), (m34, .inl (mc34, 10, .inl S34_29)), (m35, .inl (mc35, 10, .inl S35_30)), (m36, .inl (mc36, 10, .inl S36_31)), (m40, .inl (mc40, 20, .inl mf40)), (m41, .inl (mc41, 20, .inl mf41)), (m42, .inl (mc42, 20, .inl mf42)), (m43, .inl (mc43, 20, .inl mf43)), (m44, .inl (mc44, 20, .inl mf44)), (m46, .inl (mc46, 14, .inr (.inl f_129))), (m47, .inl (mc47, 6, .inl mf47)), (m48, .inl (mc48, 6, .inl mf48)), (m49, .inl (mc49, 6, .inl mf49)), (m50, .inl (mc50, 6, .inl mf50))] H := by rw [ef_129]; exact ⟨hP, hD⟩
                                obtain ⟨hP, hD⟩ := hPD
                                have hws_130 := kWsR (i := 6) (k := 6) (k1 := 5) (by decide) (by decide) (by omega) (by omega) ez_97 ex_121 ez_122 ez_123 ex_126 ez_127 ez_128 ef_129 hws_119
                                refine lv_iinc (v := 5) hx hb dX10_odds_258 hl (k := 0) rfl (by decide) kc_l_10_11 (kTo [(10, .int 5), (8, .long z_97), (7, .int (nI (i9))), (6, .int (nI (k))), (0, .ref jM), (1, .int (nI (j_7))), (2, .long p1), (4, .int (nI (j_13))), (5, .int (nI (j_18)))]) (fun ls hl => ?_)
                                refine lv_goto (tgt := 210) hx hb dX10_odds_261 kc_t_261_m51 ?_
                                refine lv_iload hx hb dX10_odds_210 (lv_at hl 0 rfl) ?_
                                refine lv_if_lt (tgt := 264) hx hb dX10_odds_212 kc_t_212_52 (fun c_131 => absurd c_131 (by decide)) (fun c_131 => ?_)
                                refine lv_aload_n hx hb dX10_odds_215 rfl (lv_at hl 4 rfl) ?_
                                refine va_get (D := (dC, dI)) (ci := 10) (v := .ref m46) (C := RX10) (T := TX10) (N := 52) hx hb hts (fun _ h => List.mem_cons_of_mem _ (List.mem_append_right _ (List.mem_append_left _ h))) hown hK hP 0 rfl rfl 46 kc_l_46_52 (hts (.fieldLink RX10 101 "NotEndedModel" "ways" "[J") (List.mem_cons_of_mem _ (List.mem_append_left _ (List.mem_of_getElem? (i := 15) rfl)))) (fun _ h9 => h9) rfl dX10_odds_216 ?_
                                refine lv_iload hx hb dX10_odds_219 (lv_at hl 0 rfl) ?_
                                refine lv_aload_n hx hb dX10_odds_221 rfl (lv_at hl 4 rfl) ?_
                                refine va_get (D := (dC, dI)) (ci := 10) (v := .ref m46) (C := RX10) (T := TX10) (N := 52) hx hb hts (fun _ h => List.mem_cons_of_mem _ (List.mem_append_right _ (List.mem_append_left _ h))) hown hK hP 0 rfl rfl 46 kc_l_46_52 (hts (.fieldLink RX10 101 "NotEndedModel" "ways" "[J") (List.mem_cons_of_mem _ (List.mem_append_left _ (List.mem_of_getElem? (i := 15) rfl)))) (fun _ h9 => h9) rfl dX10_odds_222 ?_
                                refine lv_iload hx hb dX10_odds_225 (lv_at hl 0 rfl) ?_
                                refine va_lald hx hb hK hP 26 25 rfl rfl kc_in_5_14 dX10_odds_227 ?_
                                refine lv_topl (fun x_132 ex_132 => ?_)
                                refine lv_ldc2 (v := 100) hx hb hown (hts (.constantLong RX10 282 (100)) (List.mem_cons_of_mem _ (List.mem_append_left _ (List.mem_of_getElem? (i := 26) rfl)))) dX10_odds_228 ?_
                                refine lv_lload hx hb dX10_odds_231 (lv_at hl 1 rfl) ?_
                                refine lv_lsub hx hb dX10_odds_233 ?_
                                refine lv_topl (fun z_133 ez_133 => ?_)
                                refine lv_lmul hx hb dX10_odds_234 ?_
                                refine lv_topl (fun z_134 ez_134 => ?_)
                                refine lv_iload hx hb dX10_odds_235 (lv_at hl 0 rfl) ?_
                                refine lv_if_le (tgt := 255) hx hb dX10_odds_237 kc_t_237_18 (fun c_135 => absurd c_135 (by decide)) (fun c_135 => ?_)
                                refine lv_aload_n hx hb dX10_odds_240 rfl (lv_at hl 4 rfl) ?_
                                refine va_get (D := (dC, dI)) (ci := 10) (v := .ref m46) (C := RX10) (T := TX10) (N := 52) hx hb hts (fun _ h => List.mem_cons_of_mem _ (List.mem_append_right _ (List.mem_append_left _ h))) hown hK hP 0 rfl rfl 46 kc_l_46_52 (hts (.fieldLink RX10 101 "NotEndedModel" "ways" "[J") (List.mem_cons_of_mem _ (List.mem_append_left _ (List.mem_of_getElem? (i := 15) rfl)))) (fun _ h9 => h9) rfl dX10_odds_241 ?_
                                refine lv_iload hx hb dX10_odds_244 (lv_at hl 0 rfl) ?_
                                refine lv_iconst (v := 1) hx hb dX10_odds_246 kc_i_1 ?_
                                refine lv_isub hx hb dX10_odds_247 ?_
                                refine lv_topi (fun y_136 ey_136 => ?_)
                                obtain rfl : y_136 = 4 := ey_136.trans (by decide)
                                refine va_lald hx hb hK hP 26 25 rfl rfl kc_in_4_14 dX10_odds_248 ?_
                                refine lv_topl (fun x_137 ex_137 => ?_)
                                refine lv_lload hx hb dX10_odds_249 (lv_at hl 1 rfl) ?_
                                refine lv_lmul hx hb dX10_odds_251 ?_
                                refine lv_topl (fun z_138 ez_138 => ?_)
                                refine lv_goto (tgt := 256) hx hb dX10_odds_252 kc_t_252_4 ?_
                                refine lv_ladd hx hb dX10_odds_256 ?_
                                refine lv_topl (fun z_139 ez_139 => ?_)
                                refine va_last hx hb hK hP hD hS 26 25 rfl rfl kc_in_5_14 dX10_odds_257 (fun H locs hP hD hS => ?_)
                                obtain ⟨f_140, ef_140⟩ : ∃ gg9 : Nat → Int64, gg9 = vp_updL f_129 (Int32.toNatClampNeg 5) z_139 := ⟨_, rfl⟩
                                have hPD : kPD dC dI A [(jM, .inr (10, [.int 0, .ref m1, .ref m2, .ref m3, .ref m4, W5_82, .int (nI (ml)), .int (nI (mkl)), .int (nI (mku)), W9_83, W10_84, W11_85, W12_86, W13_87, W14_88, W15_89, W16_90, W17_91, W18_92, .ref m19, .ref m20, .ref m21, .ref m22, .ref m23, .ref m24, .ref m25, .int (nI (mps)), .int (nI (mkw)), .ref m28, .ref m29, .ref m30, .ref m31, .ref m32, .ref m33, .ref m34, .ref m35, .ref m36, .int Th_32, .int (nI (Ho_33)), .long Xx_34, .ref m40, .ref m41, .ref m42, .ref m43, .ref m44, .int (nI (mkn)), .ref m46, .ref m47, .ref m48, .ref m49, .ref m50, .int (nI (mka))])), (m1, .inl (mc1, 120, .inl mf1)), (m2, .inl (mc2, 1680, .inl mf2)), (m3, .inl (mc3, 14, .inl mf3)), (m4, .inl (mc4, 128, .inl S4_75)), (m19, .inl (mc19, 10, .inl mf19)), (m20, .inl (mc20, 10, .inl mf20)), (m21, .inl (mc21, 10, .inl mf21)), (m22, .inl (mc22, 10, .inl mf22)), (m23, .inl (mc23, 10, .inl mf23)), (m24, .inl (mc24, 4, .inl mf24)), (m25, .inl (mc25, 10, .inl mf25)), (m28, .inl (mc28, 10, .inl S28_23)), (m29, .inl (mc29, 10, .inl S29_24)), (m30, .inl (mc30, 10, .inl S30_25)), (m31, .inl (mc31, 10, .inl S31_26)), (m32, .inl (mc32, 10, .inl S32_27)), (m33, .inl (mc33, 10, .inl S33_28)), (m34, .inl (mc34, 10, .inl S34_29)), (m35, .inl (mc35, 10, .inl S35_30)), (m36, .inl (mc36, 10, .inl S36_31)), (m40, .inl (mc40, 20, .inl mf40)), (m41, .inl (mc41, 20, .inl mf41)), (m42, .inl (mc42, 20, .inl mf42)), (m43, .inl (mc43, 20, .inl mf43)), (m44, .inl (mc44, 20, .inl mf44)), (m46, .inl (mc46, 14, .inr (.inl f_140))), (m47, .inl (mc47, 6, .inl mf47)), (m48, .inl (mc48, 6, .inl mf48)), (m49, .inl (mc49, 6, .inl mf49)), (m50, .inl (mc50, 6, .inl mf50))] H := by rw [ef_140]; exact ⟨hP, hD⟩
                                obtain ⟨hP, hD⟩ := hPD
                                have hws_141 := kWsR (i := 5) (k := 5) (k1 := 4) (by decide) (by decide) (by omega) (by omega) ez_97 ex_132 ez_133 ez_134 ex_137 ez_138 ez_139 ef_140 hws_130
                                refine lv_iinc (v := 4) hx hb dX10_odds_258 hl (k := 0) rfl (by decide) kc_l_10_11 (kTo [(10, .int 4), (8, .long z_97), (7, .int (nI (i9))), (6, .int (nI (k))), (0, .ref jM), (1, .int (nI (j_7))), (2, .long p1), (4, .int (nI (j_13))), (5, .int (nI (j_18)))]) (fun ls hl => ?_)
                                refine lv_goto (tgt := 210) hx hb dX10_odds_261 kc_t_261_m51 ?_
                                refine lv_iload hx hb dX10_odds_210 (lv_at hl 0 rfl) ?_
                                refine lv_if_lt (tgt := 264) hx hb dX10_odds_212 kc_t_212_52 (fun c_142 => absurd c_142 (by decide)) (fun c_142 => ?_)
                                refine lv_aload_n hx hb dX10_odds_215 rfl (lv_at hl 4 rfl) ?_
                                refine va_get (D := (dC, dI)) (ci := 10) (v := .ref m46) (C := RX10) (T := TX10) (N := 52) hx hb hts (fun _ h => List.mem_cons_of_mem _ (List.mem_append_right _ (List.mem_append_left _ h))) hown hK hP 0 rfl rfl 46 kc_l_46_52 (hts (.fieldLink RX10 101 "NotEndedModel" "ways" "[J") (List.mem_cons_of_mem _ (List.mem_append_left _ (List.mem_of_getElem? (i := 15) rfl)))) (fun _ h9 => h9) rfl dX10_odds_216 ?_
                                refine lv_iload hx hb dX10_odds_219 (lv_at hl 0 rfl) ?_
                                refine lv_aload_n hx hb dX10_odds_221 rfl (lv_at hl 4 rfl) ?_
                                refine va_get (D := (dC, dI)) (ci := 10) (v := .ref m46) (C := RX10) (T := TX10) (N := 52) hx hb hts (fun _ h => List.mem_cons_of_mem _ (List.mem_append_right _ (List.mem_append_left _ h))) hown hK hP 0 rfl rfl 46 kc_l_46_52 (hts (.fieldLink RX10 101 "NotEndedModel" "ways" "[J") (List.mem_cons_of_mem _ (List.mem_append_left _ (List.mem_of_getElem? (i := 15) rfl)))) (fun _ h9 => h9) rfl dX10_odds_222 ?_
                                refine lv_iload hx hb dX10_odds_225 (lv_at hl 0 rfl) ?_
                                refine va_lald hx hb hK hP 26 25 rfl rfl kc_in_4_14 dX10_odds_227 ?_
                                refine lv_topl (fun x_143 ex_143 => ?_)
                                refine lv_ldc2 (v := 100) hx hb hown (hts (.constantLong RX10 282 (100)) (List.mem_cons_of_mem _ (List.mem_append_left _ (List.mem_of_getElem? (i := 26) rfl)))) dX10_odds_228 ?_
                                refine lv_lload hx hb dX10_odds_231 (lv_at hl 1 rfl) ?_
                                refine lv_lsub hx hb dX10_odds_233 ?_
                                refine lv_topl (fun z_144 ez_144 => ?_)
                                refine lv_lmul hx hb dX10_odds_234 ?_
                                refine lv_topl (fun z_145 ez_145 => ?_)
                                refine lv_iload hx hb dX10_odds_235 (lv_at hl 0 rfl) ?_
                                refine lv_if_le (tgt := 255) hx hb dX10_odds_237 kc_t_237_18 (fun c_146 => absurd c_146 (by decide)) (fun c_146 => ?_)
                                refine lv_aload_n hx hb dX10_odds_240 rfl (lv_at hl 4 rfl) ?_
                                refine va_get (D := (dC, dI)) (ci := 10) (v := .ref m46) (C := RX10) (T := TX10) (N := 52) hx hb hts (fun _ h => List.mem_cons_of_mem _ (List.mem_append_right _ (List.mem_append_left _ h))) hown hK hP 0 rfl rfl 46 kc_l_46_52 (hts (.fieldLink RX10 101 "NotEndedModel" "ways" "[J") (List.mem_cons_of_mem _ (List.mem_append_left _ (List.mem_of_getElem? (i := 15) rfl)))) (fun _ h9 => h9) rfl dX10_odds_241 ?_
                                refine lv_iload hx hb dX10_odds_244 (lv_at hl 0 rfl) ?_
                                refine lv_iconst (v := 1) hx hb dX10_odds_246 kc_i_1 ?_
                                refine lv_isub hx hb dX10_odds_247 ?_
                                refine lv_topi (fun y_147 ey_147 => ?_)
                                obtain rfl : y_147 = 3 := ey_147.trans (by decide)
                                refine va_lald hx hb hK hP 26 25 rfl rfl kc_in_3_14 dX10_odds_248 ?_
                                refine lv_topl (fun x_148 ex_148 => ?_)
                                refine lv_lload hx hb dX10_odds_249 (lv_at hl 1 rfl) ?_
                                refine lv_lmul hx hb dX10_odds_251 ?_
                                refine lv_topl (fun z_149 ez_149 => ?_)
                                refine lv_goto (tgt := 256) hx hb dX10_odds_252 kc_t_252_4 ?_
                                refine lv_ladd hx hb dX10_odds_256 ?_
                                refine lv_topl (fun z_150 ez_150 => ?_)
                                refine va_last hx hb hK hP hD hS 26 25 rfl rfl kc_in_4_14 dX10_odds_257 (fun H locs hP hD hS => ?_)
                                obtain ⟨f_151, ef_151⟩ : ∃ gg9 : Nat → Int64, gg9 = vp_updL f_140 (Int32.toNatClampNeg 4) z_150 := ⟨_, rfl⟩
                                have hPD : kPD dC dI A [(jM, .inr (10, [.int 0, .ref m1, .ref m2, .ref m3, .ref m4, W5_82, .int (nI (ml)), .int (nI (mkl)), .int (nI (mku)), W9_83, W10_84, W11_85, W12_86, W13_87, W14_88, W15_89, W16_90, W17_91, W18_92, .ref m19, .ref m20, .ref m21, .ref m22, .ref m23, .ref m24, .ref m25, .int (nI (mps)), .int (nI (mkw)), .ref m28, .ref m29, .ref m30, .ref m31, .ref m32, .ref m33, .ref m34, .ref m35, .ref m36, .int Th_32, .int (nI (Ho_33)), .long Xx_34, .ref m40, .ref m41, .ref m42, .ref m43, .ref m44, .int (nI (mkn)), .ref m46, .ref m47, .ref m48, .ref m49, .ref m50, .int (nI (mka))])), (m1, .inl (mc1, 120, .inl mf1)), (m2, .inl (mc2, 1680, .inl mf2)), (m3, .inl (mc3, 14, .inl mf3)), (m4, .inl (mc4, 128, .inl S4_75)), (m19, .inl (mc19, 10, .inl mf19)), (m20, .inl (mc20, 10, .inl mf20)), (m21, .inl (mc21, 10, .inl mf21)), (m22, .inl (mc22, 10, .inl mf22)), (m23, .inl (mc23, 10, .inl mf23)), (m24, .inl (mc24, 4, .inl mf24)), (m25, .inl (mc25, 10, .inl mf25)), (m28, .inl (mc28, 10, .inl S28_23)), (m29, .inl (mc29, 10, .inl S29_24)), (m30, .inl (mc30, 10, .inl S30_25)), (m31, .inl (mc31, 10, .inl S31_26)), (m32, .inl (mc32, 10, .inl S32_27)), (m33, .inl (mc33, 10, .inl S33_28)), (m34, .inl (mc34, 10, .inl S34_29)), (m35, .inl (mc35, 10, .inl S35_30)), (m36, .inl (mc36, 10, .inl S36_31)), (m40, .inl (mc40, 20, .inl mf40)), (m41, .inl (mc41, 20, .inl mf41)), (m42, .inl (mc42, 20, .inl mf42)), (m43, .inl (mc43, 20, .inl mf43)), (m44, .inl (mc44, 20, .inl mf44)), (m46, .inl (mc46, 14, .inr (.inl f_151))), (m47, .inl (mc47, 6, .inl mf47)), (m48, .inl (mc48, 6, .inl mf48)), (m49, .inl (mc49, 6, .inl mf49)), (m50, .inl (mc50, 6, .inl mf50))] H := by rw [ef_151]; exact ⟨hP, hD⟩
                                obtain ⟨hP, hD⟩ := hPD
                                have hws_152 := kWsR (i := 4) (k := 4) (k1 := 3) (by decide) (by decide) (by omega) (by omega) ez_97 ex_143 ez_144 ez_145 ex_148 ez_149 ez_150 ef_151 hws_141
                                refine lv_iinc (v := 3) hx hb dX10_odds_258 hl (k := 0) rfl (by decide) kc_l_10_11 (kTo [(10, .int 3), (8, .long z_97), (7, .int (nI (i9))), (6, .int (nI (k))), (0, .ref jM), (1, .int (nI (j_7))), (2, .long p1), (4, .int (nI (j_13))), (5, .int (nI (j_18)))]) (fun ls hl => ?_)
                                refine lv_goto (tgt := 210) hx hb dX10_odds_261 kc_t_261_m51 ?_
                                refine lv_iload hx hb dX10_odds_210 (lv_at hl 0 rfl) ?_
                                refine lv_if_lt (tgt := 264) hx hb dX10_odds_212 kc_t_212_52 (fun c_153 => absurd c_153 (by decide)) (fun c_153 => ?_)
                                refine lv_aload_n hx hb dX10_odds_215 rfl (lv_at hl 4 rfl) ?_
                                refine va_get (D := (dC, dI)) (ci := 10) (v := .ref m46) (C := RX10) (T := TX10) (N := 52) hx hb hts (fun _ h => List.mem_cons_of_mem _ (List.mem_append_right _ (List.mem_append_left _ h))) hown hK hP 0 rfl rfl 46 kc_l_46_52 (hts (.fieldLink RX10 101 "NotEndedModel" "ways" "[J") (List.mem_cons_of_mem _ (List.mem_append_left _ (List.mem_of_getElem? (i := 15) rfl)))) (fun _ h9 => h9) rfl dX10_odds_216 ?_
                                refine lv_iload hx hb dX10_odds_219 (lv_at hl 0 rfl) ?_
                                refine lv_aload_n hx hb dX10_odds_221 rfl (lv_at hl 4 rfl) ?_
                                refine va_get (D := (dC, dI)) (ci := 10) (v := .ref m46) (C := RX10) (T := TX10) (N := 52) hx hb hts (fun _ h => List.mem_cons_of_mem _ (List.mem_append_right _ (List.mem_append_left _ h))) hown hK hP 0 rfl rfl 46 kc_l_46_52 (hts (.fieldLink RX10 101 "NotEndedModel" "ways" "[J") (List.mem_cons_of_mem _ (List.mem_append_left _ (List.mem_of_getElem? (i := 15) rfl)))) (fun _ h9 => h9) rfl dX10_odds_222 ?_
                                refine lv_iload hx hb dX10_odds_225 (lv_at hl 0 rfl) ?_
                                refine va_lald hx hb hK hP 26 25 rfl rfl kc_in_3_14 dX10_odds_227 ?_
                                refine lv_topl (fun x_154 ex_154 => ?_)
                                refine lv_ldc2 (v := 100) hx hb hown (hts (.constantLong RX10 282 (100)) (List.mem_cons_of_mem _ (List.mem_append_left _ (List.mem_of_getElem? (i := 26) rfl)))) dX10_odds_228 ?_
                                refine lv_lload hx hb dX10_odds_231 (lv_at hl 1 rfl) ?_
                                refine lv_lsub hx hb dX10_odds_233 ?_
                                refine lv_topl (fun z_155 ez_155 => ?_)
                                refine lv_lmul hx hb dX10_odds_234 ?_
                                refine lv_topl (fun z_156 ez_156 => ?_)
                                refine lv_iload hx hb dX10_odds_235 (lv_at hl 0 rfl) ?_
                                refine lv_if_le (tgt := 255) hx hb dX10_odds_237 kc_t_237_18 (fun c_157 => absurd c_157 (by decide)) (fun c_157 => ?_)
                                refine lv_aload_n hx hb dX10_odds_240 rfl (lv_at hl 4 rfl) ?_
                                refine va_get (D := (dC, dI)) (ci := 10) (v := .ref m46) (C := RX10) (T := TX10) (N := 52) hx hb hts (fun _ h => List.mem_cons_of_mem _ (List.mem_append_right _ (List.mem_append_left _ h))) hown hK hP 0 rfl rfl 46 kc_l_46_52 (hts (.fieldLink RX10 101 "NotEndedModel" "ways" "[J") (List.mem_cons_of_mem _ (List.mem_append_left _ (List.mem_of_getElem? (i := 15) rfl)))) (fun _ h9 => h9) rfl dX10_odds_241 ?_
                                refine lv_iload hx hb dX10_odds_244 (lv_at hl 0 rfl) ?_
                                refine lv_iconst (v := 1) hx hb dX10_odds_246 kc_i_1 ?_
                                refine lv_isub hx hb dX10_odds_247 ?_
                                refine lv_topi (fun y_158 ey_158 => ?_)
                                obtain rfl : y_158 = 2 := ey_158.trans (by decide)
                                refine va_lald hx hb hK hP 26 25 rfl rfl kc_in_2_14 dX10_odds_248 ?_
                                refine lv_topl (fun x_159 ex_159 => ?_)
                                refine lv_lload hx hb dX10_odds_249 (lv_at hl 1 rfl) ?_
                                refine lv_lmul hx hb dX10_odds_251 ?_
                                refine lv_topl (fun z_160 ez_160 => ?_)
                                refine lv_goto (tgt := 256) hx hb dX10_odds_252 kc_t_252_4 ?_
                                refine lv_ladd hx hb dX10_odds_256 ?_
                                refine lv_topl (fun z_161 ez_161 => ?_)
                                refine va_last hx hb hK hP hD hS 26 25 rfl rfl kc_in_3_14 dX10_odds_257 (fun H locs hP hD hS => ?_)
                                obtain ⟨f_162, ef_162⟩ : ∃ gg9 : Nat → Int64, gg9 = vp_updL f_151 (Int32.toNatClampNeg 3) z_161 := ⟨_, rfl⟩
                                have hPD : kPD dC dI A [(jM, .inr (10, [.int 0, .ref m1, .ref m2, .ref m3, .ref m4, W5_82, .int (nI (ml)), .int (nI (mkl)), .int (nI (mku)), W9_83, W10_84, W11_85, W12_86, W13_87, W14_88, W15_89, W16_90, W17_91, W18_92, .ref m19, .ref m20, .ref m21, .ref m22, .ref m23, .ref m24, .ref m25, .int (nI (mps)), .int (nI (mkw)), .ref m28, .ref m29, .ref m30, .ref m31, .ref m32, .ref m33, .ref m34, .ref m35, .ref m36, .int Th_32, .int (nI (Ho_33)), .long Xx_34, .ref m40, .ref m41, .ref m42, .ref m43, .ref m44, .int (nI (mkn)), .ref m46, .ref m47, .ref m48, .ref m49, .ref m50, .int (nI (mka))])), (m1, .inl (mc1, 120, .inl mf1)), (m2, .inl (mc2, 1680, .inl mf2)), (m3, .inl (mc3, 14, .inl mf3)), (m4, .inl (mc4, 128, .inl S4_75)), (m19, .inl (mc19, 10, .inl mf19)), (m20, .inl (mc20, 10, .inl mf20)), (m21, .inl (mc21, 10, .inl mf21)), (m22, .inl (mc22, 10, .inl mf22)), (m23, .inl (mc23, 10, .inl mf23)), (m24, .inl (mc24, 4, .inl mf24)), (m25, .inl (mc25, 10, .inl mf25)), (m28, .inl (mc28, 10, .inl S28_23)), (m29, .inl (mc29, 10, .inl S29_24)), (m30, .inl (mc30, 10, .inl S30_25)), (m31, .inl (mc31, 10, .inl S31_26)), (m32, .inl (mc32, 10, .inl S32_27)), (m33, .inl (mc33, 10, .inl S33_28)), (m34, .inl (mc34, 10, .inl S34_29)), (m35, .inl (mc35, 10, .inl S35_30)), (m36, .inl (mc36, 10, .inl S36_31)), (m40, .inl (mc40, 20, .inl mf40)), (m41, .inl (mc41, 20, .inl mf41)), (m42, .inl (mc42, 20, .inl mf42)), (m43, .inl (mc43, 20, .inl mf43)), (m44, .inl (mc44, 20, .inl mf44)), (m46, .inl (mc46, 14, .inr (.inl f_162))), (m47, .inl (mc47, 6, .inl mf47)), (m48, .inl (mc48, 6, .inl mf48)), (m49, .inl (mc49, 6, .inl mf49)), (m50, .inl (mc50, 6, .inl mf50))] H := by rw [ef_162]; exact ⟨hP, hD⟩
                                obtain ⟨hP, hD⟩ := hPD
                                have hws_163 := kWsR (i := 3) (k := 3) (k1 := 2) (by decide) (by decide) (by omega) (by omega) ez_97 ex_154 ez_155 ez_156 ex_159 ez_160 ez_161 ef_162 hws_152
                                refine lv_iinc (v := 2) hx hb dX10_odds_258 hl (k := 0) rfl (by decide) kc_l_10_11 (kTo [(10, .int 2), (8, .long z_97), (7, .int (nI (i9))), (6, .int (nI (k))), (0, .ref jM), (1, .int (nI (j_7))), (2, .long p1), (4, .int (nI (j_13))), (5, .int (nI (j_18)))]) (fun ls hl => ?_)
                                refine lv_goto (tgt := 210) hx hb dX10_odds_261 kc_t_261_m51 ?_
                                refine lv_iload hx hb dX10_odds_210 (lv_at hl 0 rfl) ?_
                                refine lv_if_lt (tgt := 264) hx hb dX10_odds_212 kc_t_212_52 (fun c_164 => absurd c_164 (by decide)) (fun c_164 => ?_)
                                refine lv_aload_n hx hb dX10_odds_215 rfl (lv_at hl 4 rfl) ?_
                                refine va_get (D := (dC, dI)) (ci := 10) (v := .ref m46) (C := RX10) (T := TX10) (N := 52) hx hb hts (fun _ h => List.mem_cons_of_mem _ (List.mem_append_right _ (List.mem_append_left _ h))) hown hK hP 0 rfl rfl 46 kc_l_46_52 (hts (.fieldLink RX10 101 "NotEndedModel" "ways" "[J") (List.mem_cons_of_mem _ (List.mem_append_left _ (List.mem_of_getElem? (i := 15) rfl)))) (fun _ h9 => h9) rfl dX10_odds_216 ?_
                                refine lv_iload hx hb dX10_odds_219 (lv_at hl 0 rfl) ?_
                                refine lv_aload_n hx hb dX10_odds_221 rfl (lv_at hl 4 rfl) ?_
                                refine va_get (D := (dC, dI)) (ci := 10) (v := .ref m46) (C := RX10) (T := TX10) (N := 52) hx hb hts (fun _ h => List.mem_cons_of_mem _ (List.mem_append_right _ (List.mem_append_left _ h))) hown hK hP 0 rfl rfl 46 kc_l_46_52 (hts (.fieldLink RX10 101 "NotEndedModel" "ways" "[J") (List.mem_cons_of_mem _ (List.mem_append_left _ (List.mem_of_getElem? (i := 15) rfl)))) (fun _ h9 => h9) rfl dX10_odds_222 ?_
                                refine lv_iload hx hb dX10_odds_225 (lv_at hl 0 rfl) ?_
                                refine va_lald hx hb hK hP 26 25 rfl rfl kc_in_2_14 dX10_odds_227 ?_
                                refine lv_topl (fun x_165 ex_165 => ?_)
                                refine lv_ldc2 (v := 100) hx hb hown (hts (.constantLong RX10 282 (100)) (List.mem_cons_of_mem _ (List.mem_append_left _ (List.mem_of_getElem? (i := 26) rfl)))) dX10_odds_228 ?_
                                refine lv_lload hx hb dX10_odds_231 (lv_at hl 1 rfl) ?_
                                refine lv_lsub hx hb dX10_odds_233 ?_
                                refine lv_topl (fun z_166 ez_166 => ?_)
                                refine lv_lmul hx hb dX10_odds_234 ?_
                                refine lv_topl (fun z_167 ez_167 => ?_)
                                refine lv_iload hx hb dX10_odds_235 (lv_at hl 0 rfl) ?_
                                refine lv_if_le (tgt := 255) hx hb dX10_odds_237 kc_t_237_18 (fun c_168 => absurd c_168 (by decide)) (fun c_168 => ?_)
                                refine lv_aload_n hx hb dX10_odds_240 rfl (lv_at hl 4 rfl) ?_
                                refine va_get (D := (dC, dI)) (ci := 10) (v := .ref m46) (C := RX10) (T := TX10) (N := 52) hx hb hts (fun _ h => List.mem_cons_of_mem _ (List.mem_append_right _ (List.mem_append_left _ h))) hown hK hP 0 rfl rfl 46 kc_l_46_52 (hts (.fieldLink RX10 101 "NotEndedModel" "ways" "[J") (List.mem_cons_of_mem _ (List.mem_append_left _ (List.mem_of_getElem? (i := 15) rfl)))) (fun _ h9 => h9) rfl dX10_odds_241 ?_
                                refine lv_iload hx hb dX10_odds_244 (lv_at hl 0 rfl) ?_
                                refine lv_iconst (v := 1) hx hb dX10_odds_246 kc_i_1 ?_
                                refine lv_isub hx hb dX10_odds_247 ?_
                                refine lv_topi (fun y_169 ey_169 => ?_)
                                obtain rfl : y_169 = 1 := ey_169.trans (by decide)
                                refine va_lald hx hb hK hP 26 25 rfl rfl kc_in_1_14 dX10_odds_248 ?_
                                refine lv_topl (fun x_170 ex_170 => ?_)
                                refine lv_lload hx hb dX10_odds_249 (lv_at hl 1 rfl) ?_
                                refine lv_lmul hx hb dX10_odds_251 ?_
                                refine lv_topl (fun z_171 ez_171 => ?_)
                                refine lv_goto (tgt := 256) hx hb dX10_odds_252 kc_t_252_4 ?_
                                refine lv_ladd hx hb dX10_odds_256 ?_
                                refine lv_topl (fun z_172 ez_172 => ?_)
                                refine va_last hx hb hK hP hD hS 26 25 rfl rfl kc_in_2_14 dX10_odds_257 (fun H locs hP hD hS => ?_)
                                obtain ⟨f_173, ef_173⟩ : ∃ gg9 : Nat → Int64, gg9 = vp_updL f_162 (Int32.toNatClampNeg 2) z_172 := ⟨_, rfl⟩
                                have hPD : kPD dC dI A [(jM, .inr (10, [.int 0, .ref m1, .ref m2, .ref m3, .ref m4, W5_82, .int (nI (ml)), .int (nI (mkl)), .int (nI (mku)), W9_83, W10_84, W11_85, W12_86, W13_87, W14_88, W15_89, W16_90, W17_91, W18_92, .ref m19, .ref m20, .ref m21, .ref m22, .ref m23, .ref m24, .ref m25, .int (nI (mps)), .int (nI (mkw)), .ref m28, .ref m29, .ref m30, .ref m31, .ref m32, .ref m33, .ref m34, .ref m35, .ref m36, .int Th_32, .int (nI (Ho_33)), .long Xx_34, .ref m40, .ref m41, .ref m42, .ref m43, .ref m44, .int (nI (mkn)), .ref m46, .ref m47, .ref m48, .ref m49, .ref m50, .int (nI (mka))])), (m1, .inl (mc1, 120, .inl mf1)), (m2, .inl (mc2, 1680, .inl mf2)), (m3, .inl (mc3, 14, .inl mf3)), (m4, .inl (mc4, 128, .inl S4_75)), (m19, .inl (mc19, 10, .inl mf19)), (m20, .inl (mc20, 10, .inl mf20)), (m21, .inl (mc21, 10, .inl mf21)), (m22, .inl (mc22, 10, .inl mf22)), (m23, .inl (mc23, 10, .inl mf23)), (m24, .inl (mc24, 4, .inl mf24)), (m25, .inl (mc25, 10, .inl mf25)), (m28, .inl (mc28, 10, .inl S28_23)), (m29, .inl (mc29, 10, .inl S29_24)), (m30, .inl (mc30, 10, .inl S30_25)), (m31, .inl (mc31, 10, .inl S31_26)), (m32, .inl (mc32, 10, .inl S32_27)), (m33, .inl (mc33, 10, .inl S33_28)), (m34, .inl (mc34, 10, .inl S34_29)), (m35, .inl (mc35, 10, .inl S35_30)), (m36, .inl (mc36, 10, .inl S36_31)), (m40, .inl (mc40, 20, .inl mf40)), (m41, .inl (mc41, 20, .inl mf41)), (m42, .inl (mc42, 20, .inl mf42)), (m43, .inl (mc43, 20, .inl mf43)), (m44, .inl (mc44, 20, .inl mf44)), (m46, .inl (mc46, 14, .inr (.inl f_173))), (m47, .inl (mc47, 6, .inl mf47)), (m48, .inl (mc48, 6, .inl mf48)), (m49, .inl (mc49, 6, .inl mf49)), (m50, .inl (mc50, 6, .inl mf50))] H := by rw [ef_173]; exact ⟨hP, hD⟩
                                obtain ⟨hP, hD⟩ := hPD
                                have hws_174 := kWsR (i := 2) (k := 2) (k1 := 1) (by decide) (by decide) (by omega) (by omega) ez_97 ex_165 ez_166 ez_167 ex_170 ez_171 ez_172 ef_173 hws_163
                                refine lv_iinc (v := 1) hx hb dX10_odds_258 hl (k := 0) rfl (by decide) kc_l_10_11 (kTo [(10, .int 1), (8, .long z_97), (7, .int (nI (i9))), (6, .int (nI (k))), (0, .ref jM), (1, .int (nI (j_7))), (2, .long p1), (4, .int (nI (j_13))), (5, .int (nI (j_18)))]) (fun ls hl => ?_)
                                refine lv_goto (tgt := 210) hx hb dX10_odds_261 kc_t_261_m51 ?_
                                refine lv_iload hx hb dX10_odds_210 (lv_at hl 0 rfl) ?_
                                refine lv_if_lt (tgt := 264) hx hb dX10_odds_212 kc_t_212_52 (fun c_175 => absurd c_175 (by decide)) (fun c_175 => ?_)
                                refine lv_aload_n hx hb dX10_odds_215 rfl (lv_at hl 4 rfl) ?_
                                refine va_get (D := (dC, dI)) (ci := 10) (v := .ref m46) (C := RX10) (T := TX10) (N := 52) hx hb hts (fun _ h => List.mem_cons_of_mem _ (List.mem_append_right _ (List.mem_append_left _ h))) hown hK hP 0 rfl rfl 46 kc_l_46_52 (hts (.fieldLink RX10 101 "NotEndedModel" "ways" "[J") (List.mem_cons_of_mem _ (List.mem_append_left _ (List.mem_of_getElem? (i := 15) rfl)))) (fun _ h9 => h9) rfl dX10_odds_216 ?_
                                refine lv_iload hx hb dX10_odds_219 (lv_at hl 0 rfl) ?_
                                refine lv_aload_n hx hb dX10_odds_221 rfl (lv_at hl 4 rfl) ?_
                                refine va_get (D := (dC, dI)) (ci := 10) (v := .ref m46) (C := RX10) (T := TX10) (N := 52) hx hb hts (fun _ h => List.mem_cons_of_mem _ (List.mem_append_right _ (List.mem_append_left _ h))) hown hK hP 0 rfl rfl 46 kc_l_46_52 (hts (.fieldLink RX10 101 "NotEndedModel" "ways" "[J") (List.mem_cons_of_mem _ (List.mem_append_left _ (List.mem_of_getElem? (i := 15) rfl)))) (fun _ h9 => h9) rfl dX10_odds_222 ?_
                                refine lv_iload hx hb dX10_odds_225 (lv_at hl 0 rfl) ?_
                                refine va_lald hx hb hK hP 26 25 rfl rfl kc_in_1_14 dX10_odds_227 ?_
                                refine lv_topl (fun x_176 ex_176 => ?_)
                                refine lv_ldc2 (v := 100) hx hb hown (hts (.constantLong RX10 282 (100)) (List.mem_cons_of_mem _ (List.mem_append_left _ (List.mem_of_getElem? (i := 26) rfl)))) dX10_odds_228 ?_
                                refine lv_lload hx hb dX10_odds_231 (lv_at hl 1 rfl) ?_
                                refine lv_lsub hx hb dX10_odds_233 ?_
                                refine lv_topl (fun z_177 ez_177 => ?_)
                                refine lv_lmul hx hb dX10_odds_234 ?_
                                refine lv_topl (fun z_178 ez_178 => ?_)
                                refine lv_iload hx hb dX10_odds_235 (lv_at hl 0 rfl) ?_
                                refine lv_if_le (tgt := 255) hx hb dX10_odds_237 kc_t_237_18 (fun c_179 => absurd c_179 (by decide)) (fun c_179 => ?_)
                                refine lv_aload_n hx hb dX10_odds_240 rfl (lv_at hl 4 rfl) ?_
                                refine va_get (D := (dC, dI)) (ci := 10) (v := .ref m46) (C := RX10) (T := TX10) (N := 52) hx hb hts (fun _ h => List.mem_cons_of_mem _ (List.mem_append_right _ (List.mem_append_left _ h))) hown hK hP 0 rfl rfl 46 kc_l_46_52 (hts (.fieldLink RX10 101 "NotEndedModel" "ways" "[J") (List.mem_cons_of_mem _ (List.mem_append_left _ (List.mem_of_getElem? (i := 15) rfl)))) (fun _ h9 => h9) rfl dX10_odds_241 ?_
                                refine lv_iload hx hb dX10_odds_244 (lv_at hl 0 rfl) ?_
                                refine lv_iconst (v := 1) hx hb dX10_odds_246 kc_i_1 ?_
                                refine lv_isub hx hb dX10_odds_247 ?_
                                refine lv_topi (fun y_180 ey_180 => ?_)
                                obtain rfl : y_180 = 0 := ey_180.trans (by decide)
                                refine va_lald hx hb hK hP 26 25 rfl rfl kc_in_0_14 dX10_odds_248 ?_
                                refine lv_topl (fun x_181 ex_181 => ?_)
                                refine lv_lload hx hb dX10_odds_249 (lv_at hl 1 rfl) ?_
                                refine lv_lmul hx hb dX10_odds_251 ?_
                                refine lv_topl (fun z_182 ez_182 => ?_)
                                refine lv_goto (tgt := 256) hx hb dX10_odds_252 kc_t_252_4 ?_
                                refine lv_ladd hx hb dX10_odds_256 ?_
                                refine lv_topl (fun z_183 ez_183 => ?_)
                                refine va_last hx hb hK hP hD hS 26 25 rfl rfl kc_in_1_14 dX10_odds_257 (fun H locs hP hD hS => ?_)
                                obtain ⟨f_184, ef_184⟩ : ∃ gg9 : Nat → Int64, gg9 = vp_updL f_173 (Int32.toNatClampNeg 1) z_183 := ⟨_, rfl⟩
                                have hPD : kPD dC dI A [(jM, .inr (10, [.int 0, .ref m1, .ref m2, .ref m3, .ref m4, W5_82, .int (nI (ml)), .int (nI (mkl)), .int (nI (mku)), W9_83, W10_84, W11_85, W12_86, W13_87, W14_88, W15_89, W16_90, W17_91, W18_92, .ref m19, .ref m20, .ref m21, .ref m22, .ref m23, .ref m24, .ref m25, .int (nI (mps)), .int (nI (mkw)), .ref m28, .ref m29, .ref m30, .ref m31, .ref m32, .ref m33, .ref m34, .ref m35, .ref m36, .int Th_32, .int (nI (Ho_33)), .long Xx_34, .ref m40, .ref m41, .ref m42, .ref m43, .ref m44, .int (nI (mkn)), .ref m46, .ref m47, .ref m48, .ref m49, .ref m50, .int (nI (mka))])), (m1, .inl (mc1, 120, .inl mf1)), (m2, .inl (mc2, 1680, .inl mf2)), (m3, .inl (mc3, 14, .inl mf3)), (m4, .inl (mc4, 128, .inl S4_75)), (m19, .inl (mc19, 10, .inl mf19)), (m20, .inl (mc20, 10, .inl mf20)), (m21, .inl (mc21, 10, .inl mf21)), (m22, .inl (mc22, 10, .inl mf22)), (m23, .inl (mc23, 10, .inl mf23)), (m24, .inl (mc24, 4, .inl mf24)), (m25, .inl (mc25, 10, .inl mf25)), (m28, .inl (mc28, 10, .inl S28_23)), (m29, .inl (mc29, 10, .inl S29_24)), (m30, .inl (mc30, 10, .inl S30_25)), (m31, .inl (mc31, 10, .inl S31_26)), (m32, .inl (mc32, 10, .inl S32_27)), (m33, .inl (mc33, 10, .inl S33_28)), (m34, .inl (mc34, 10, .inl S34_29)), (m35, .inl (mc35, 10, .inl S35_30)), (m36, .inl (mc36, 10, .inl S36_31)), (m40, .inl (mc40, 20, .inl mf40)), (m41, .inl (mc41, 20, .inl mf41)), (m42, .inl (mc42, 20, .inl mf42)), (m43, .inl (mc43, 20, .inl mf43)), (m44, .inl (mc44, 20, .inl mf44)), (m46, .inl (mc46, 14, .inr (.inl f_184))), (m47, .inl (mc47, 6, .inl mf47)), (m48, .inl (mc48, 6, .inl mf48)), (m49, .inl (mc49, 6, .inl mf49)), (m50, .inl (mc50, 6, .inl mf50))] H := by rw [ef_184]; exact ⟨hP, hD⟩
                                obtain ⟨hP, hD⟩ := hPD
                                have hws_185 := kWsR (i := 1) (k := 1) (k1 := 0) (by decide) (by decide) (by omega) (by omega) ez_97 ex_176 ez_177 ez_178 ex_181 ez_182 ez_183 ef_184 hws_174
                                refine lv_iinc (v := 0) hx hb dX10_odds_258 hl (k := 0) rfl (by decide) kc_l_10_11 (kTo [(10, .int 0), (8, .long z_97), (7, .int (nI (i9))), (6, .int (nI (k))), (0, .ref jM), (1, .int (nI (j_7))), (2, .long p1), (4, .int (nI (j_13))), (5, .int (nI (j_18)))]) (fun ls hl => ?_)
                                refine lv_goto (tgt := 210) hx hb dX10_odds_261 kc_t_261_m51 ?_
                                refine lv_iload hx hb dX10_odds_210 (lv_at hl 0 rfl) ?_
                                refine lv_if_lt (tgt := 264) hx hb dX10_odds_212 kc_t_212_52 (fun c_186 => absurd c_186 (by decide)) (fun c_186 => ?_)
                                refine lv_aload_n hx hb dX10_odds_215 rfl (lv_at hl 4 rfl) ?_
                                refine va_get (D := (dC, dI)) (ci := 10) (v := .ref m46) (C := RX10) (T := TX10) (N := 52) hx hb hts (fun _ h => List.mem_cons_of_mem _ (List.mem_append_right _ (List.mem_append_left _ h))) hown hK hP 0 rfl rfl 46 kc_l_46_52 (hts (.fieldLink RX10 101 "NotEndedModel" "ways" "[J") (List.mem_cons_of_mem _ (List.mem_append_left _ (List.mem_of_getElem? (i := 15) rfl)))) (fun _ h9 => h9) rfl dX10_odds_216 ?_
                                refine lv_iload hx hb dX10_odds_219 (lv_at hl 0 rfl) ?_
                                refine lv_aload_n hx hb dX10_odds_221 rfl (lv_at hl 4 rfl) ?_
                                refine va_get (D := (dC, dI)) (ci := 10) (v := .ref m46) (C := RX10) (T := TX10) (N := 52) hx hb hts (fun _ h => List.mem_cons_of_mem _ (List.mem_append_right _ (List.mem_append_left _ h))) hown hK hP 0 rfl rfl 46 kc_l_46_52 (hts (.fieldLink RX10 101 "NotEndedModel" "ways" "[J") (List.mem_cons_of_mem _ (List.mem_append_left _ (List.mem_of_getElem? (i := 15) rfl)))) (fun _ h9 => h9) rfl dX10_odds_222 ?_
                                refine lv_iload hx hb dX10_odds_225 (lv_at hl 0 rfl) ?_
                                refine va_lald hx hb hK hP 26 25 rfl rfl kc_in_0_14 dX10_odds_227 ?_
                                refine lv_topl (fun x_187 ex_187 => ?_)
                                refine lv_ldc2 (v := 100) hx hb hown (hts (.constantLong RX10 282 (100)) (List.mem_cons_of_mem _ (List.mem_append_left _ (List.mem_of_getElem? (i := 26) rfl)))) dX10_odds_228 ?_
                                refine lv_lload hx hb dX10_odds_231 (lv_at hl 1 rfl) ?_
                                refine lv_lsub hx hb dX10_odds_233 ?_
                                refine lv_topl (fun z_188 ez_188 => ?_)
                                refine lv_lmul hx hb dX10_odds_234 ?_
                                refine lv_topl (fun z_189 ez_189 => ?_)
                                refine lv_iload hx hb dX10_odds_235 (lv_at hl 0 rfl) ?_
                                refine lv_if_le (tgt := 255) hx hb dX10_odds_237 kc_t_237_18 (fun c_190 => ?_) (fun c_190 => absurd (by decide) c_190)
                                refine lv_lconst (v := 0) hx hb dX10_odds_255 (by decide) ?_
                                refine lv_ladd hx hb dX10_odds_256 ?_
                                refine lv_topl (fun z_191 ez_191 => ?_)
                                refine va_last hx hb hK hP hD hS 26 25 rfl rfl kc_in_0_14 dX10_odds_257 (fun H locs hP hD hS => ?_)
                                obtain ⟨f_192, ef_192⟩ : ∃ gg9 : Nat → Int64, gg9 = vp_updL f_184 (Int32.toNatClampNeg 0) z_191 := ⟨_, rfl⟩
                                have hPD : kPD dC dI A [(jM, .inr (10, [.int 0, .ref m1, .ref m2, .ref m3, .ref m4, W5_82, .int (nI (ml)), .int (nI (mkl)), .int (nI (mku)), W9_83, W10_84, W11_85, W12_86, W13_87, W14_88, W15_89, W16_90, W17_91, W18_92, .ref m19, .ref m20, .ref m21, .ref m22, .ref m23, .ref m24, .ref m25, .int (nI (mps)), .int (nI (mkw)), .ref m28, .ref m29, .ref m30, .ref m31, .ref m32, .ref m33, .ref m34, .ref m35, .ref m36, .int Th_32, .int (nI (Ho_33)), .long Xx_34, .ref m40, .ref m41, .ref m42, .ref m43, .ref m44, .int (nI (mkn)), .ref m46, .ref m47, .ref m48, .ref m49, .ref m50, .int (nI (mka))])), (m1, .inl (mc1, 120, .inl mf1)), (m2, .inl (mc2, 1680, .inl mf2)), (m3, .inl (mc3, 14, .inl mf3)), (m4, .inl (mc4, 128, .inl S4_75)), (m19, .inl (mc19, 10, .inl mf19)), (m20, .inl (mc20, 10, .inl mf20)), (m21, .inl (mc21, 10, .inl mf21)), (m22, .inl (mc22, 10, .inl mf22)), (m23, .inl (mc23, 10, .inl mf23)), (m24, .inl (mc24, 4, .inl mf24)), (m25, .inl (mc25, 10, .inl mf25)), (m28, .inl (mc28, 10, .inl S28_23)), (m29, .inl (mc29, 10, .inl S29_24)), (m30, .inl (mc30, 10, .inl S30_25)), (m31, .inl (mc31, 10, .inl S31_26)), (m32, .inl (mc32, 10, .inl S32_27)), (m33, .inl (mc33, 10, .inl S33_28)), (m34, .inl (mc34, 10, .inl S34_29)), (m35, .inl (mc35, 10, .inl S35_30)), (m36, .inl (mc36, 10, .inl S36_31)), (m40, .inl (mc40, 20, .inl mf40)), (m41, .inl (mc41, 20, .inl mf41)), (m42, .inl (mc42, 20, .inl mf42)), (m43, .inl (mc43, 20, .inl mf43)), (m44, .inl (mc44, 20, .inl mf44)), (m46, .inl (mc46, 14, .inr (.inl f_192))), (m47, .inl (mc47, 6, .inl mf47)), (m48, .inl (mc48, 6, .inl mf48)), (m49, .inl (mc49, 6, .inl mf49)), (m50, .inl (mc50, 6, .inl mf50))] H := by rw [ef_192]; exact ⟨hP, hD⟩
                                obtain ⟨hP, hD⟩ := hPD
                                have hws_193 := kWsR0 ez_97 ex_187 ez_188 ez_189 ez_191 ef_192 hws_185
                                refine lv_iinc (v := (-1)) hx hb dX10_odds_258 hl (k := 0) rfl (by decide) kc_l_10_11 (kTo [(10, .int (-1)), (8, .long z_97), (7, .int (nI (i9))), (6, .int (nI (k))), (0, .ref jM), (1, .int (nI (j_7))), (2, .long p1), (4, .int (nI (j_13))), (5, .int (nI (j_18)))]) (fun ls hl => ?_)
                                refine lv_goto (tgt := 210) hx hb dX10_odds_261 kc_t_261_m51 ?_
                                refine lv_iload hx hb dX10_odds_210 (lv_at hl 0 rfl) ?_
                                refine lv_if_lt (tgt := 264) hx hb dX10_odds_212 kc_t_212_52 (fun c_194 => ?_) (fun c_194 => absurd (by decide) c_194)
                                refine lv_iinc (v := nI (i9 + 1)) hx hb dX10_odds_264 hl (k := 2) rfl (kInc _ 1) kc_l_7_11 (kTo [(7, .int (nI (i9 + 1))), (10, .int (-1)), (8, .long z_97), (6, .int (nI (k))), (0, .ref jM), (1, .int (nI (j_7))), (2, .long p1), (4, .int (nI (j_13))), (5, .int (nI (j_18)))]) (fun ls hl => ?_)
                                refine lv_goto (tgt := 153) hx hb dX10_odds_267 kc_t_267_m114 ?_
                                exact ih_k_60 (i9 + 1) S4_75 f_192 (W5_82 : Value) (W9_83 : Value) (W10_84 : Value) (W11_85 : Value) (W12_86 : Value) (W13_87 : Value) (W14_88 : Value) (W15_89 : Value) (W16_90 : Value) (W17_91 : Value) (W18_92 : Value) (by omega) (fun q hq => by rw [hws_193 q hq, kWy_t hmy9]; exact kWs_c ivk_60_1 hwc9 q hq) _ _ hP hD hS ls (lv_sub hl [0, 3, 4, 5, 6, 7, 8] rfl) (by omega)
                              · have hmn9 : ¬ kMay (kE0 mps mkw G3 G4 SV (kPrs mps 0) (yL j_7)) (kIt (kE0 mps mkw G3 G4 SV (kPrs mps 0) (yL j_7)) j_13 (kS0 G0 G1 G2 p1)) i9 = true := (fun z => (kMay_t.mp z).2 ((hq9.trans (hw_47.1 i9 (by omega)).2.2.1).symm.trans c_72))
                                refine lv_goto (tgt := 264) hx hb dX10_odds_183 kc_t_183_81 ?_
                                refine lv_iinc (v := nI (i9 + 1)) hx hb dX10_odds_264 hl (k := 0) rfl (kInc _ 1) kc_l_7_11 (kTo [(7, .int (nI (i9 + 1))), (6, .int (nI (k))), (0, .ref jM), (1, .int (nI (j_7))), (2, .long p1), (4, .int (nI (j_13))), (5, .int (nI (j_18)))]) (fun ls hl => ?_)
                                refine lv_goto (tgt := 153) hx hb dX10_odds_267 kc_t_267_m114 ?_
                                exact ih_k_60 (i9 + 1) l4 l46 (lv5 : Value) (lv9 : Value) (lv10 : Value) (lv11 : Value) (lv12 : Value) (lv13 : Value) (lv14 : Value) (lv15 : Value) (lv16 : Value) (lv17 : Value) (lv18 : Value) (by omega) (by rw [kWy_f hmn9]; exact ivk_60_1) _ _ hP hD hS ls (lv_sub hl [0, 1, 2, 3, 4, 5, 6] rfl) (by omega)
                      exact lp_k_60 (mps - 0 + 1) 0 S4_22 l46 (W5_35 : Value) (W9_36 : Value) (W10_37 : Value) (W11_38 : Value) (W12_39 : Value) (W13_40 : Value) (W14_41 : Value) (W15_42 : Value) (W16_43 : Value) (W17_44 : Value) (W18_45 : Value) (by omega) hw09 _ _ hP hD hS ls (lv_sub hl [0, 1, 2, 3, 4, 5, 6] rfl) (by omega)
                    · have bd_196 : i < 2147483648 := by omega
                      have hn_195 := knle (a := 14) (b := i) kc_31_14 bd_196 c_57
                      refine lv_aload_n hx hb dX10_odds_127 rfl (lv_at hl 2 rfl) ?_
                      refine va_get (D := (dC, dI)) (ci := 10) (v := .ref m46) (C := RX10) (T := TX10) (N := 52) hx hb hts (fun _ h => List.mem_cons_of_mem _ (List.mem_append_right _ (List.mem_append_left _ h))) hown hK hP 0 rfl rfl 46 kc_l_46_52 (hts (.fieldLink RX10 101 "NotEndedModel" "ways" "[J") (List.mem_cons_of_mem _ (List.mem_append_left _ (List.mem_of_getElem? (i := 15) rfl)))) (fun _ h9 => h9) rfl dX10_odds_128 ?_
                      refine lv_iload hx hb dX10_odds_131 (lv_at hl 0 rfl) ?_
                      refine lv_iload hx hb dX10_odds_133 (lv_at hl 0 rfl) ?_
                      refine lv_if_ne (tgt := 142) hx hb dX10_odds_135 kc_t_135_7 (fun c_197 => ?_) (fun c_197 => ?_)
                      · have hn_198 := kneq (a := i) (b := 0) bd_196 kc_31_0 c_197
                        refine lv_lconst (v := 0) hx hb dX10_odds_142 (by decide) ?_
                        have bd_200 : i < 14 := by omega
                        refine va_last hx hb hK hP hD hS 26 25 rfl rfl (vp_in_nI (n := i) (N := 14) bd_200 kc_31_14) dX10_odds_143 (fun H locs hP hD hS => ?_)
                        obtain ⟨f_199, ef_199⟩ : ∃ gg9 : Nat → Int64, gg9 = vp_updL l46 (Int32.toNatClampNeg (nI (i))) 0 := ⟨_, rfl⟩
                        have hPD : kPD dC dI A [(jM, .inr (10, [.int 0, .ref m1, .ref m2, .ref m3, .ref m4, W5_35, .int (nI (ml)), .int (nI (mkl)), .int (nI (mku)), W9_36, W10_37, W11_38, W12_39, W13_40, W14_41, W15_42, W16_43, W17_44, W18_45, .ref m19, .ref m20, .ref m21, .ref m22, .ref m23, .ref m24, .ref m25, .int (nI (mps)), .int (nI (mkw)), .ref m28, .ref m29, .ref m30, .ref m31, .ref m32, .ref m33, .ref m34, .ref m35, .ref m36, .int Th_32, .int (nI (Ho_33)), .long Xx_34, .ref m40, .ref m41, .ref m42, .ref m43, .ref m44, .int (nI (mkn)), .ref m46, .ref m47, .ref m48, .ref m49, .ref m50, .int (nI (mka))])), (m1, .inl (mc1, 120, .inl mf1)), (m2, .inl (mc2, 1680, .inl mf2)), (m3, .inl (mc3, 14, .inl mf3)), (m4, .inl (mc4, 128, .inl S4_22)), (m19, .inl (mc19, 10, .inl mf19)), (m20, .inl (mc20, 10, .inl mf20)), (m21, .inl (mc21, 10, .inl mf21)), (m22, .inl (mc22, 10, .inl mf22)), (m23, .inl (mc23, 10, .inl mf23)), (m24, .inl (mc24, 4, .inl mf24)), (m25, .inl (mc25, 10, .inl mf25)), (m28, .inl (mc28, 10, .inl S28_23)), (m29, .inl (mc29, 10, .inl S29_24)), (m30, .inl (mc30, 10, .inl S30_25)), (m31, .inl (mc31, 10, .inl S31_26)), (m32, .inl (mc32, 10, .inl S32_27)), (m33, .inl (mc33, 10, .inl S33_28)), (m34, .inl (mc34, 10, .inl S34_29)), (m35, .inl (mc35, 10, .inl S35_30)), (m36, .inl (mc36, 10, .inl S36_31)), (m40, .inl (mc40, 20, .inl mf40)), (m41, .inl (mc41, 20, .inl mf41)), (m42, .inl (mc42, 20, .inl mf42)), (m43, .inl (mc43, 20, .inl mf43)), (m44, .inl (mc44, 20, .inl mf44)), (m46, .inl (mc46, 14, .inr (.inl f_199))), (m47, .inl (mc47, 6, .inl mf47)), (m48, .inl (mc48, 6, .inl mf48)), (m49, .inl (mc49, 6, .inl mf49)), (m50, .inl (mc50, 6, .inl mf50))] H := by rw [ef_199]; exact ⟨hP, hD⟩
                        obtain ⟨hP, hD⟩ := hPD
                        refine lv_iinc (v := nI (i + 1)) hx hb dX10_odds_144 hl (k := 0) rfl (kInc _ 1) kc_l_7_11 (kTo [(7, .int (nI (i + 1))), (6, .int (nI (k))), (0, .ref jM), (1, .int (nI (j_7))), (2, .long p1), (4, .int (nI (j_13))), (5, .int (nI (j_18)))]) (fun ls hl => ?_)
                        refine lv_goto (tgt := 117) hx hb dX10_odds_147 kc_t_147_m30 ?_
                        exact ih_k_56 (i + 1) f_199 (by omega) (kWyI1 (by omega) ef_199 (by rw [if_neg (by omega)]) ivk_56_1) _ _ hP hD hS ls (lv_sub hl [0, 1, 2, 3, 4, 5, 6] rfl) (by omega)
                      · have hn_201 := keq (a := i) (b := 0) bd_196 kc_31_0 c_197
                        refine lv_lconst (v := 1) hx hb dX10_odds_138 (by decide) ?_
                        refine lv_goto (tgt := 143) hx hb dX10_odds_139 kc_t_139_4 ?_
                        have bd_203 : i < 14 := by omega
                        refine va_last hx hb hK hP hD hS 26 25 rfl rfl (vp_in_nI (n := i) (N := 14) bd_203 kc_31_14) dX10_odds_143 (fun H locs hP hD hS => ?_)
                        obtain ⟨f_202, ef_202⟩ : ∃ gg9 : Nat → Int64, gg9 = vp_updL l46 (Int32.toNatClampNeg (nI (i))) 1 := ⟨_, rfl⟩
                        have hPD : kPD dC dI A [(jM, .inr (10, [.int 0, .ref m1, .ref m2, .ref m3, .ref m4, W5_35, .int (nI (ml)), .int (nI (mkl)), .int (nI (mku)), W9_36, W10_37, W11_38, W12_39, W13_40, W14_41, W15_42, W16_43, W17_44, W18_45, .ref m19, .ref m20, .ref m21, .ref m22, .ref m23, .ref m24, .ref m25, .int (nI (mps)), .int (nI (mkw)), .ref m28, .ref m29, .ref m30, .ref m31, .ref m32, .ref m33, .ref m34, .ref m35, .ref m36, .int Th_32, .int (nI (Ho_33)), .long Xx_34, .ref m40, .ref m41, .ref m42, .ref m43, .ref m44, .int (nI (mkn)), .ref m46, .ref m47, .ref m48, .ref m49, .ref m50, .int (nI (mka))])), (m1, .inl (mc1, 120, .inl mf1)), (m2, .inl (mc2, 1680, .inl mf2)), (m3, .inl (mc3, 14, .inl mf3)), (m4, .inl (mc4, 128, .inl S4_22)), (m19, .inl (mc19, 10, .inl mf19)), (m20, .inl (mc20, 10, .inl mf20)), (m21, .inl (mc21, 10, .inl mf21)), (m22, .inl (mc22, 10, .inl mf22)), (m23, .inl (mc23, 10, .inl mf23)), (m24, .inl (mc24, 4, .inl mf24)), (m25, .inl (mc25, 10, .inl mf25)), (m28, .inl (mc28, 10, .inl S28_23)), (m29, .inl (mc29, 10, .inl S29_24)), (m30, .inl (mc30, 10, .inl S30_25)), (m31, .inl (mc31, 10, .inl S31_26)), (m32, .inl (mc32, 10, .inl S32_27)), (m33, .inl (mc33, 10, .inl S33_28)), (m34, .inl (mc34, 10, .inl S34_29)), (m35, .inl (mc35, 10, .inl S35_30)), (m36, .inl (mc36, 10, .inl S36_31)), (m40, .inl (mc40, 20, .inl mf40)), (m41, .inl (mc41, 20, .inl mf41)), (m42, .inl (mc42, 20, .inl mf42)), (m43, .inl (mc43, 20, .inl mf43)), (m44, .inl (mc44, 20, .inl mf44)), (m46, .inl (mc46, 14, .inr (.inl f_202))), (m47, .inl (mc47, 6, .inl mf47)), (m48, .inl (mc48, 6, .inl mf48)), (m49, .inl (mc49, 6, .inl mf49)), (m50, .inl (mc50, 6, .inl mf50))] H := by rw [ef_202]; exact ⟨hP, hD⟩
                        obtain ⟨hP, hD⟩ := hPD
                        refine lv_iinc (v := nI (i + 1)) hx hb dX10_odds_144 hl (k := 0) rfl (kInc _ 1) kc_l_7_11 (kTo [(7, .int (nI (i + 1))), (6, .int (nI (k))), (0, .ref jM), (1, .int (nI (j_7))), (2, .long p1), (4, .int (nI (j_13))), (5, .int (nI (j_18)))]) (fun ls hl => ?_)
                        refine lv_goto (tgt := 117) hx hb dX10_odds_147 kc_t_147_m30 ?_
                        exact ih_k_56 (i + 1) f_202 (by omega) (kWyI1 (by omega) ef_202 (by rw [if_pos (by omega)]) ivk_56_1) _ _ hP hD hS ls (lv_sub hl [0, 1, 2, 3, 4, 5, 6] rfl) (by omega)
                exact lp_k_56 (14 - 0 + 1) 0 mf46 (by omega) (fun q hq => absurd hq (Nat.not_lt_zero q)) _ _ hP hD hS ls (lv_sub hl [0, 1, 2, 3, 4, 5, 6] rfl) (by omega)
              · have bd_205 : k < 2147483648 := by omega
                have hn_204 := knle (a := k) (b := 8) bd_205 kc_31_8 c_53
                refine lv_ldc2 (v := (-1)) hx hb hown (hts (.constantLong RX10 347 (-1)) (List.mem_cons_of_mem _ (List.mem_append_left _ (List.mem_of_getElem? (i := 5) rfl)))) dX10_odds_110 ?_
                have hP9 := hP
                have hD9 := hD
                have hK9 := hK
                rw [hQ]
                exact W.lret (v := (-1)) hx hb hr (fun t ht hW => ⟨⟨(-1), (S4_22, S28_23, S29_24, S30_25, S31_26, S32_27, S33_28, S34_29, S35_30, S36_31, mf46, 0, Th_32, Ho_33, Xx_34, (W5_35 : Value), (W9_36 : Value), (W10_37 : Value), (W11_38 : Value), (W12_39 : Value), (W13_40 : Value), (W14_41 : Value), (W15_42 : Value), (W16_43 : Value), (W17_44 : Value), (W18_45 : Value)), rfl, ⟨(by unfold kOdA kOdV; rw [if_neg ff_6, if_neg ff_12, if_neg ff_17, nI_clamp (n := j_7) (by omega), nI_clamp (n := j_13) (by omega), nI_clamp (n := j_18) (by omega), if_pos (by omega)]), by omega⟩,  by rw [ht]; exact hP9, va_K.moved hW.alike hK9, hD9⟩, hS.F ht⟩) hS.2.2 dX10_odds_113
            · have bd_207 : mps < 2147483648 := by omega
              have bd_208 : i < 2147483648 := by omega
              have hn_206 := knle (a := mps) (b := i) bd_207 bd_208 c_49
              refine lv_iload hx hb dX10_odds_66 (lv_at hl 1 rfl) ?_
              refine lv_aload_n hx hb dX10_odds_68 rfl (lv_at hl 2 rfl) ?_
              refine va_get (D := (dC, dI)) (ci := 10) (v := .ref m25) (C := RX10) (T := TX10) (N := 52) hx hb hts (fun _ h => List.mem_cons_of_mem _ (List.mem_append_right _ (List.mem_append_left _ h))) hown hK hP 0 rfl rfl 25 kc_l_25_52 (hts (.fieldLink RX10 55 "NotEndedModel" "isSent" "[Z") (List.mem_cons_of_mem _ (List.mem_append_left _ (List.mem_of_getElem? (i := 16) rfl)))) (fun _ h9 => h9) rfl dX10_odds_69 ?_
              refine lv_iload hx hb dX10_odds_72 (lv_at hl 0 rfl) ?_
              have bd_209 : i < 10 := by omega
              refine va_zald hx hb hK hP 11 10 rfl rfl (vp_in_nI (n := i) (N := 10) bd_209 kc_31_10) dX10_odds_74 ?_
              refine lv_topi (fun x_210 ex_210 => ?_)
              refine lv_if_ne (tgt := 93) hx hb dX10_odds_75 kc_t_75_18 (fun c_211 => ?_) (fun c_211 => ?_)
              · have hmn9 : ¬ kMay (kE0 mps mkw G3 G4 SV (kPrs mps 0) (yL j_7)) (kIt (kE0 mps mkw G3 G4 SV (kPrs mps 0) (yL j_7)) j_13 (kS0 G0 G1 G2 p1)) i = true := (fun z => c_211 (by rw [ex_210, nI_clamp (n := i) (by omega)]; exact (kTd_se hTd (by omega)).mp (kFr_t.mp (kMay_t.mp z).1).2))
                refine lv_iconst (v := 0) hx hb dX10_odds_93 kc_i_0 ?_
                refine lv_iadd hx hb dX10_odds_94 ?_
                refine lv_topi (fun y_212 ey_212 => ?_)
                obtain rfl : y_212 = nI (k + 0) := ey_212.trans (nI_add (k) (0))
                refine lv_istore hx hb dX10_odds_95 hl kc_l_6_11 (kTo [(6, .int (nI (k + 0))), (7, .int (nI (i))), (0, .ref jM), (1, .int (nI (j_7))), (2, .long p1), (4, .int (nI (j_13))), (5, .int (nI (j_18)))]) (fun ls hl => ?_)
                refine lv_iinc (v := nI (i + 1)) hx hb dX10_odds_97 hl (k := 1) rfl (kInc _ 1) kc_l_7_11 (kTo [(7, .int (nI (i + 1))), (6, .int (nI (k + 0))), (0, .ref jM), (1, .int (nI (j_7))), (2, .long p1), (4, .int (nI (j_13))), (5, .int (nI (j_18)))]) (fun ls hl => ?_)
                refine lv_goto (tgt := 57) hx hb dX10_odds_100 kc_t_100_m43 ?_
                exact ih_k_48 (i + 1) (k + 0) (by omega) (by rw [kMc_f hmn9]; omega) (by omega) _ _ hP hD hS ls (lv_sub hl [0, 1, 2, 3, 4, 5, 6] rfl) (by omega)
              · refine lv_aload_n hx hb dX10_odds_78 rfl (lv_at hl 2 rfl) ?_
                refine va_get (D := (dC, dI)) (ci := 10) (v := .ref m30) (C := RX10) (T := TX10) (N := 52) hx hb hts (fun _ h => List.mem_cons_of_mem _ (List.mem_append_right _ (List.mem_append_left _ h))) hown hK hP 0 rfl rfl 30 kc_l_30_52 (hts (.fieldLink RX10 65 "NotEndedModel" "house" "[I") (List.mem_cons_of_mem _ (List.mem_append_left _ (List.mem_of_getElem? (i := 17) rfl)))) (fun _ h9 => h9) rfl dX10_odds_79 ?_
                refine lv_iload hx hb dX10_odds_82 (lv_at hl 0 rfl) ?_
                refine va_iald hx hb hK hP 14 13 rfl rfl (vp_in_nI (n := i) (N := 10) bd_209 kc_31_10) dX10_odds_84 ?_
                refine lv_topi (fun x_213 ex_213 => ?_)
                have hq9 : x_213 = S30_25 i := by rw [ex_213, nI_clamp (n := i) (by omega)]
                refine lv_iconst (v := (-1)) hx hb dX10_odds_85 kc_i_m1 ?_
                refine lv_icmp_eq (tgt := 93) hx hb dX10_odds_86 kc_t_86_7 (fun c_214 => ?_) (fun c_214 => ?_)
                · have hmn9 : ¬ kMay (kE0 mps mkw G3 G4 SV (kPrs mps 0) (yL j_7)) (kIt (kE0 mps mkw G3 G4 SV (kPrs mps 0) (yL j_7)) j_13 (kS0 G0 G1 G2 p1)) i = true := (fun z => (kMay_t.mp z).2 ((hq9.trans (hw_47.1 i (by omega)).2.2.1).symm.trans c_214))
                  refine lv_iconst (v := 0) hx hb dX10_odds_93 kc_i_0 ?_
                  refine lv_iadd hx hb dX10_odds_94 ?_
                  refine lv_topi (fun y_215 ey_215 => ?_)
                  obtain rfl : y_215 = nI (k + 0) := ey_215.trans (nI_add (k) (0))
                  refine lv_istore hx hb dX10_odds_95 hl kc_l_6_11 (kTo [(6, .int (nI (k + 0))), (7, .int (nI (i))), (0, .ref jM), (1, .int (nI (j_7))), (2, .long p1), (4, .int (nI (j_13))), (5, .int (nI (j_18)))]) (fun ls hl => ?_)
                  refine lv_iinc (v := nI (i + 1)) hx hb dX10_odds_97 hl (k := 1) rfl (kInc _ 1) kc_l_7_11 (kTo [(7, .int (nI (i + 1))), (6, .int (nI (k + 0))), (0, .ref jM), (1, .int (nI (j_7))), (2, .long p1), (4, .int (nI (j_13))), (5, .int (nI (j_18)))]) (fun ls hl => ?_)
                  refine lv_goto (tgt := 57) hx hb dX10_odds_100 kc_t_100_m43 ?_
                  exact ih_k_48 (i + 1) (k + 0) (by omega) (by rw [kMc_f hmn9]; omega) (by omega) _ _ hP hD hS ls (lv_sub hl [0, 1, 2, 3, 4, 5, 6] rfl) (by omega)
                · have hmy9 : kMay (kE0 mps mkw G3 G4 SV (kPrs mps 0) (yL j_7)) (kIt (kE0 mps mkw G3 G4 SV (kPrs mps 0) (yL j_7)) j_13 (kS0 G0 G1 G2 p1)) i = true := kMay_t.mpr ⟨kFr_t.mpr ⟨kPrs0_b (by omega) (by omega), (kTd_se hTd (by omega)).mpr (kRd0 (by omega) ex_210 c_211)⟩, fun z => c_214 ((hq9.trans (hw_47.1 i (by omega)).2.2.1).trans z)⟩
                  refine lv_iconst (v := 1) hx hb dX10_odds_89 kc_i_1 ?_
                  refine lv_goto (tgt := 94) hx hb dX10_odds_90 kc_t_90_4 ?_
                  refine lv_iadd hx hb dX10_odds_94 ?_
                  refine lv_topi (fun y_216 ey_216 => ?_)
                  obtain rfl : y_216 = nI (k + 1) := ey_216.trans (nI_add (k) (1))
                  refine lv_istore hx hb dX10_odds_95 hl kc_l_6_11 (kTo [(6, .int (nI (k + 1))), (7, .int (nI (i))), (0, .ref jM), (1, .int (nI (j_7))), (2, .long p1), (4, .int (nI (j_13))), (5, .int (nI (j_18)))]) (fun ls hl => ?_)
                  refine lv_iinc (v := nI (i + 1)) hx hb dX10_odds_97 hl (k := 1) rfl (kInc _ 1) kc_l_7_11 (kTo [(7, .int (nI (i + 1))), (6, .int (nI (k + 1))), (0, .ref jM), (1, .int (nI (j_7))), (2, .long p1), (4, .int (nI (j_13))), (5, .int (nI (j_18)))]) (fun ls hl => ?_)
                  refine lv_goto (tgt := 57) hx hb dX10_odds_100 kc_t_100_m43 ?_
                  exact ih_k_48 (i + 1) (k + 1) (by omega) (by rw [kMc_t hmy9]; omega) (by omega) _ _ hP hD hS ls (lv_sub hl [0, 1, 2, 3, 4, 5, 6] rfl) (by omega)
        exact lp_k_48 (mps - 0 + 1) 0 0 (by omega) rfl (by omega) _ _ hP hD hS ls (lv_sub hl [0, 1, 2, 3, 4, 5, 6] rfl) (by omega)
      · have ff_217 := kZr hw_15 c_16
        refine lv_ldc2 (v := (-1)) hx hb hown (hts (.constantLong RX10 347 (-1)) (List.mem_cons_of_mem _ (List.mem_append_left _ (List.mem_of_getElem? (i := 5) rfl)))) dX10_odds_35 ?_
        have hP9 := hP
        have hD9 := hD
        have hK9 := hK
        rw [hQ]
        exact W.lret (v := (-1)) hx hb hr (fun t ht hW => ⟨⟨(-1), (mf4, mf28, mf29, mf30, mf31, mf32, mf33, mf34, mf35, mf36, mf46, 0, thr, ho, xx, (v5 : Value), (v9 : Value), (v10 : Value), (v11 : Value), (v12 : Value), (v13 : Value), (v14 : Value), (v15 : Value), (v16 : Value), (v17 : Value), (v18 : Value)), rfl, ⟨(by unfold kOdA; rw [if_neg ff_6, if_neg ff_12, if_pos ff_217]), by omega⟩,  by rw [ht]; exact hP9, va_K.moved hW.alike hK9, hD9⟩, hS.F ht⟩) hS.2.2 dX10_odds_38

theorem dX10_fitsAll_0 : decode cX10_fitsAll 0 = .ok (.aload_n 0, 1) := by decide +kernel
theorem dX10_fitsAll_1 : decode cX10_fitsAll 1 = .ok (.aload_n 0, 1) := by decide +kernel
theorem dX10_fitsAll_2 : decode cX10_fitsAll 2 = .ok (.invokevirtual 314, 3) := by decide +kernel
theorem dX10_fitsAll_5 : decode cX10_fitsAll 5 = .ok (.lload_n 2, 1) := by decide +kernel
theorem dX10_fitsAll_6 : decode cX10_fitsAll 6 = .ok (.invokevirtual 303, 3) := by decide +kernel
theorem dX10_fitsAll_9 : decode cX10_fitsAll 9 = .ok (.iconst 0, 1) := by decide +kernel
theorem dX10_fitsAll_10 : decode cX10_fitsAll 10 = .ok (.istore 5, 2) := by decide +kernel
theorem dX10_fitsAll_12 : decode cX10_fitsAll 12 = .ok (.iload 5, 2) := by decide +kernel
theorem dX10_fitsAll_14 : decode cX10_fitsAll 14 = .ok (.bipush 48, 2) := by decide +kernel
theorem dX10_fitsAll_16 : decode cX10_fitsAll 16 = .ok (.if_icmp .gt 76, 3) := by decide +kernel
theorem dX10_fitsAll_92 : decode cX10_fitsAll 92 = .ok (.iconst 1, 1) := by decide +kernel
theorem dX10_fitsAll_93 : decode cX10_fitsAll 93 = .ok (.ireturn, 1) := by decide +kernel
theorem dX10_fitsAll_19 : decode cX10_fitsAll 19 = .ok (.aload_n 0, 1) := by decide +kernel
theorem dX10_fitsAll_20 : decode cX10_fitsAll 20 = .ok (.iload_n 1, 1) := by decide +kernel
theorem dX10_fitsAll_21 : decode cX10_fitsAll 21 = .ok (.iload 5, 2) := by decide +kernel
theorem dX10_fitsAll_23 : decode cX10_fitsAll 23 = .ok (.invokevirtual 307, 3) := by decide +kernel
theorem dX10_fitsAll_26 : decode cX10_fitsAll 26 = .ok (.iconst 0, 1) := by decide +kernel
theorem dX10_fitsAll_27 : decode cX10_fitsAll 27 = .ok (.istore 6, 2) := by decide +kernel
theorem dX10_fitsAll_29 : decode cX10_fitsAll 29 = .ok (.iload 6, 2) := by decide +kernel
theorem dX10_fitsAll_31 : decode cX10_fitsAll 31 = .ok (.aload_n 0, 1) := by decide +kernel
theorem dX10_fitsAll_32 : decode cX10_fitsAll 32 = .ok (.getfield 331, 3) := by decide +kernel
theorem dX10_fitsAll_35 : decode cX10_fitsAll 35 = .ok (.if_icmp .ge 51, 3) := by decide +kernel
theorem dX10_fitsAll_86 : decode cX10_fitsAll 86 = .ok (.iinc 5 1, 3) := by decide +kernel
theorem dX10_fitsAll_89 : decode cX10_fitsAll 89 = .ok (.goto (-77), 3) := by decide +kernel
theorem dX10_fitsAll_38 : decode cX10_fitsAll 38 = .ok (.aload_n 0, 1) := by decide +kernel
theorem dX10_fitsAll_39 : decode cX10_fitsAll 39 = .ok (.getfield 89, 3) := by decide +kernel
theorem dX10_fitsAll_42 : decode cX10_fitsAll 42 = .ok (.iload 6, 2) := by decide +kernel
theorem dX10_fitsAll_44 : decode cX10_fitsAll 44 = .ok (.iaload, 1) := by decide +kernel
theorem dX10_fitsAll_45 : decode cX10_fitsAll 45 = .ok (.iload 5, 2) := by decide +kernel
theorem dX10_fitsAll_47 : decode cX10_fitsAll 47 = .ok (.if_icmp .ne 33, 3) := by decide +kernel
theorem dX10_fitsAll_80 : decode cX10_fitsAll 80 = .ok (.iinc 6 1, 3) := by decide +kernel
theorem dX10_fitsAll_83 : decode cX10_fitsAll 83 = .ok (.goto (-54), 3) := by decide +kernel
theorem dX10_fitsAll_50 : decode cX10_fitsAll 50 = .ok (.iload 4, 2) := by decide +kernel
theorem dX10_fitsAll_52 : decode cX10_fitsAll 52 = .ok (.ifCond .eq 17, 3) := by decide +kernel
theorem dX10_fitsAll_69 : decode cX10_fitsAll 69 = .ok (.aload_n 0, 1) := by decide +kernel
theorem dX10_fitsAll_70 : decode cX10_fitsAll 70 = .ok (.iload 6, 2) := by decide +kernel
theorem dX10_fitsAll_72 : decode cX10_fitsAll 72 = .ok (.invokevirtual 340, 3) := by decide +kernel
theorem dX10_fitsAll_75 : decode cX10_fitsAll 75 = .ok (.ifCond .ne 5, 3) := by decide +kernel
theorem dX10_fitsAll_78 : decode cX10_fitsAll 78 = .ok (.iconst 0, 1) := by decide +kernel
theorem dX10_fitsAll_79 : decode cX10_fitsAll 79 = .ok (.ireturn, 1) := by decide +kernel
theorem dX10_fitsAll_55 : decode cX10_fitsAll 55 = .ok (.aload_n 0, 1) := by decide +kernel
theorem dX10_fitsAll_56 : decode cX10_fitsAll 56 = .ok (.aload_n 0, 1) := by decide +kernel
theorem dX10_fitsAll_57 : decode cX10_fitsAll 57 = .ok (.getfield 86, 3) := by decide +kernel
theorem dX10_fitsAll_60 : decode cX10_fitsAll 60 = .ok (.iload 6, 2) := by decide +kernel
theorem dX10_fitsAll_62 : decode cX10_fitsAll 62 = .ok (.iaload, 1) := by decide +kernel
theorem dX10_fitsAll_63 : decode cX10_fitsAll 63 = .ok (.invokevirtual 337, 3) := by decide +kernel
theorem dX10_fitsAll_66 : decode cX10_fitsAll 66 = .ok (.ifCond .eq 14, 3) := by decide +kernel
def w_s_fitsAll10 : List Cond := .code yX10_fitsAll cX10_fitsAll 7 (some .boolean) :: ([.initialized RX10, .selects RX10 yX10_everybody yX10_everybody, .instanceMethod yX10_everybody, .methodLink RX10 314 yX10_everybody, .selects RX10 yX10_begin yX10_begin, .instanceMethod yX10_begin, .methodLink RX10 303 yX10_begin, .selects RX10 yX10_goOn yX10_goOn, .instanceMethod yX10_goOn, .methodLink RX10 307 yX10_goOn, .fieldLink RX10 331 "NotEndedModel" "notes" "I", .fieldLink RX10 89 "NotEndedModel" "noteHour" "[I", .selects RX10 yX10_isSo yX10_isSo, .instanceMethod yX10_isSo, .methodLink RX10 340 yX10_isSo, .fieldLink RX10 86 "NotEndedModel" "notePerson" "[I", .selects RX10 yX10_isAlone yX10_isAlone, .instanceMethod yX10_isAlone, .methodLink RX10 337 yX10_isAlone] ++ (w_s_every10x ++ (w_s_begin10x ++ (w_s_goOn10x ++ (wsX100 ++ (w_s_isSo10x ++ (w_s_isAlone10x)))))))
theorem gw_s_fitsAll10 : (w_s_fitsAll10).all goodWord = true := kGc rfl (kGa (by decide +kernel) (kGa gw_s_every10x (kGa gw_s_begin10x (kGa gw_s_goOn10x (kGa gw_wsX100 (kGa gw_s_isSo10x gw_s_isAlone10x))))))
theorem hd_X10_fitsAll : yX10_fitsAll.cls ≠ "java/lang/invoke/MethodHandle" ∧ yX10_fitsAll.cls ≠ "java/lang/invoke/VarHandle" ∧ (parseMethodDescriptor yX10_fitsAll.desc).map (fun d => d.parameters.length) = some 3 := by decide +kernel
set_option maxHeartbeats 4000000 in
set_option maxRecDepth 100000 in
theorem s_fitsAll10 (l : Launch) (dC : Nat → ClassId) (dI : Nat → Nat → Nat) (jM : Nat) (th : Int32) (thr : Int32) (xx : Int64) (v5 : Value) (v9 : Value) (v10 : Value) (v11 : Value) (v12 : Value) (v13 : Value) (v14 : Value) (v15 : Value) (v16 : Value) (v17 : Value) (v18 : Value) (m1 : Nat) (m2 : Nat) (m3 : Nat) (m4 : Nat) (m19 : Nat) (m20 : Nat) (m21 : Nat) (m22 : Nat) (m23 : Nat) (m24 : Nat) (m25 : Nat) (m28 : Nat) (m29 : Nat) (m30 : Nat) (m31 : Nat) (m32 : Nat) (m33 : Nat) (m34 : Nat) (m35 : Nat) (m36 : Nat) (m40 : Nat) (m41 : Nat) (m42 : Nat) (m43 : Nat) (m44 : Nat) (m46 : Nat) (m47 : Nat) (m48 : Nat) (m49 : Nat) (m50 : Nat) (mc1 : ClassId) (mc2 : ClassId) (mc3 : ClassId) (mc4 : ClassId) (mc19 : ClassId) (mc20 : ClassId) (mc21 : ClassId) (mc22 : ClassId) (mc23 : ClassId) (mc24 : ClassId) (mc25 : ClassId) (mc28 : ClassId) (mc29 : ClassId) (mc30 : ClassId) (mc31 : ClassId) (mc32 : ClassId) (mc33 : ClassId) (mc34 : ClassId) (mc35 : ClassId) (mc36 : ClassId) (mc40 : ClassId) (mc41 : ClassId) (mc42 : ClassId) (mc43 : ClassId) (mc44 : ClassId) (mc46 : ClassId) (mc47 : ClassId) (mc48 : ClassId) (mc49 : ClassId) (mc50 : ClassId) (mf1 : Nat → Int32) (mf2 : Nat → Int32) (mf3 : Nat → Int32) (mf4 : Nat → Int32) (mf19 : Nat → Int32) (mf20 : Nat → Int32) (mf21 : Nat → Int32) (mf22 : Nat → Int32) (mf23 : Nat → Int32) (mf24 : Nat → Int32) (mf25 : Nat → Int32) (mf28 : Nat → Int32) (mf29 : Nat → Int32) (mf30 : Nat → Int32) (mf31 : Nat → Int32) (mf32 : Nat → Int32) (mf33 : Nat → Int32) (mf34 : Nat → Int32) (mf35 : Nat → Int32) (mf36 : Nat → Int32) (mf40 : Nat → Int32) (mf41 : Nat → Int32) (mf42 : Nat → Int32) (mf43 : Nat → Int32) (mf44 : Nat → Int32) (mf46 : Nat → Int64) (mf47 : Nat → Int32) (mf48 : Nat → Int32) (mf49 : Nat → Int32) (mf50 : Nat → Int32) (ml : Nat) (mkl : Nat) (mku : Nat) (mps : Nat) (mkw : Nat) (ho : Nat) (mkn : Nat) (mka : Nat) (hml : ml ≤ 120) (hmkl : mkl ≤ 6) (hmku : mku ≤ 8) (hmps : mps ≤ 10) (hmkw : mkw ≤ 4) (hho : ho ≤ 48) (hmkn : mkn ≤ 20) (hmka : mka ≤ 6) (ad : Nat → Nat) (bA : Nat) (nA : Nat) (xA : Nat → Int32) (hnA : nA ≤ 8) (bB : Nat) (nB : Nat) (xB : Nat → Int32) (hnB : nB ≤ 8) (bE : Nat) (nE : Nat) (xE : Nat → Int32) (hnE : nE ≤ 8) (bG : Nat) (nG : Nat) (xG : Nat → Int32) (hnG : nG ≤ 8) (gnA : ∀ k : Nat, ∃ v : Nat, v < 128 ∧ xA k = nI v) (gnB : ∀ k : Nat, ∃ v : Nat, v < 128 ∧ xB k = nI v) (gnE : ∀ k : Nat, ∃ v : Nat, v < 128 ∧ xE k = nI v) (gnG : ∀ k : Nat, ∃ v : Nat, v < 128 ∧ xG k = nI v) (hzA : kIx xA nA (nI 0) = nA) (hzB : kIx xB nB (nI 0) = nB) (hzE : kIx xE nE (nI 0) = nE) (hzG : kIx xG nG (nI 0) = nG) (hlB : ∀ c : Nat, c < 256 → kIx xB nB (nI c) < nB → ¬ c = 91 ∧ ¬ (48 ≤ c ∧ c ≤ 57)) (hlG : ∀ c : Nat, c < 256 → kIx xG nG (nI c) < nG → ¬ c = 91 ∧ ¬ (48 ≤ c ∧ c ≤ 57)) (yL : Nat → List kTr) (yU : Nat → List kTr) (hUl : kUn mf2 mf3 0 mkl xA nA xB nB yL) (hUt : kUn mf2 mf3 6 mku xE nE xG nG yU) (hE9 : nE = 1 ∧ xE 0 = 119) (hG9 : nG = 5 ∧ ∀ k : Nat, k < 5 → xG k = nI (97 + k)) (G0 : Nat → Int32) (G1 : Nat → Int32) (G2 : Nat → Int32) (G3 : Nat → Int32) (G4 : Nat → Int32) (SV : Nat) (hTd : kTd mps mkw G0 G1 G2 G3 G4 SV mf19 mf20 mf21 mf22 mf24 mf25) (hOk0 : kOk mps (kS0 G0 G1 G2 0)) (hA9 : nA = 3 ∧ xA 0 = 121 ∧ xA 1 = 103 ∧ xA 2 = 120) (hB9 : nB = 8 ∧ ∀ k : Nat, k < 8 → xB k = nI (kSg8 k)) (hSV : SV < 1024) (hNp : ∀ k : Nat, k < mkn → ∃ v : Nat, v < mps ∧ mf40 k = nI v) (pl : Nat) (hpl : pl < mkl) (p1 : Int64) (p2 : Int32) (sz : Nat) : Met l yX10_fitsAll w_s_fitsAll10 ({ frames := 62, cells := 0, slots := 0, locals := 3720 }) (kW dC dI [.ref jM, .int (nI (pl)), .long p1, .int p2] [(jM, .inr (10, [.int th, .ref m1, .ref m2, .ref m3, .ref m4, v5, .int (nI (ml)), .int (nI (mkl)), .int (nI (mku)), v9, v10, v11, v12, v13, v14, v15, v16, v17, v18, .ref m19, .ref m20, .ref m21, .ref m22, .ref m23, .ref m24, .ref m25, .int (nI (mps)), .int (nI (mkw)), .ref m28, .ref m29, .ref m30, .ref m31, .ref m32, .ref m33, .ref m34, .ref m35, .ref m36, .int thr, .int (nI (ho)), .long xx, .ref m40, .ref m41, .ref m42, .ref m43, .ref m44, .int (nI (mkn)), .ref m46, .ref m47, .ref m48, .ref m49, .ref m50, .int (nI (mka))])), (m1, .inl (mc1, 120, .inl mf1)), (m2, .inl (mc2, 1680, .inl mf2)), (m3, .inl (mc3, 14, .inl mf3)), (m4, .inl (mc4, 128, .inl mf4)), (m19, .inl (mc19, 10, .inl mf19)), (m20, .inl (mc20, 10, .inl mf20)), (m21, .inl (mc21, 10, .inl mf21)), (m22, .inl (mc22, 10, .inl mf22)), (m23, .inl (mc23, 10, .inl mf23)), (m24, .inl (mc24, 4, .inl mf24)), (m25, .inl (mc25, 10, .inl mf25)), (m28, .inl (mc28, 10, .inl mf28)), (m29, .inl (mc29, 10, .inl mf29)), (m30, .inl (mc30, 10, .inl mf30)), (m31, .inl (mc31, 10, .inl mf31)), (m32, .inl (mc32, 10, .inl mf32)), (m33, .inl (mc33, 10, .inl mf33)), (m34, .inl (mc34, 10, .inl mf34)), (m35, .inl (mc35, 10, .inl mf35)), (m36, .inl (mc36, 10, .inl mf36)), (m40, .inl (mc40, 20, .inl mf40)), (m41, .inl (mc41, 20, .inl mf41)), (m42, .inl (mc42, 20, .inl mf42)), (m43, .inl (mc43, 20, .inl mf43)), (m44, .inl (mc44, 20, .inl mf44)), (m46, .inl (mc46, 14, .inr (.inl mf46))), (m47, .inl (mc47, 6, .inl mf47)), (m48, .inl (mc48, 6, .inl mf48)), (m49, .inl (mc49, 6, .inl mf49)), (m50, .inl (mc50, 6, .inl mf50))] [(mc1, .byte), (mc2, .byte), (mc3, .int), (mc4, .int), (mc19, .int), (mc20, .int), (mc21, .int), (mc22, .int), (mc23, .int), (mc24, .int), (mc25, .boolean), (mc28, .int), (mc29, .int), (mc30, .int), (mc31, .int), (mc32, .int), (mc33, .int), (mc34, .int), (mc35, .int), (mc36, .int), (mc40, .int), (mc41, .int), (mc42, .int), (mc43, .int), (mc44, .int), (mc46, .long), (mc47, .int), (mc48, .int), (mc49, .int), (mc50, .int)] (kMx ad bA nA xA bB nB xB bE nE xE bG nG xG (va_A [(jM, .inr (10, [.int th, .ref m1, .ref m2, .ref m3, .ref m4, v5, .int (nI (ml)), .int (nI (mkl)), .int (nI (mku)), v9, v10, v11, v12, v13, v14, v15, v16, v17, v18, .ref m19, .ref m20, .ref m21, .ref m22, .ref m23, .ref m24, .ref m25, .int (nI (mps)), .int (nI (mkw)), .ref m28, .ref m29, .ref m30, .ref m31, .ref m32, .ref m33, .ref m34, .ref m35, .ref m36, .int thr, .int (nI (ho)), .long xx, .ref m40, .ref m41, .ref m42, .ref m43, .ref m44, .int (nI (mkn)), .ref m46, .ref m47, .ref m48, .ref m49, .ref m50, .int (nI (mka))])), (m1, .inl (mc1, 120, .inl mf1)), (m2, .inl (mc2, 1680, .inl mf2)), (m3, .inl (mc3, 14, .inl mf3)), (m4, .inl (mc4, 128, .inl mf4)), (m19, .inl (mc19, 10, .inl mf19)), (m20, .inl (mc20, 10, .inl mf20)), (m21, .inl (mc21, 10, .inl mf21)), (m22, .inl (mc22, 10, .inl mf22)), (m23, .inl (mc23, 10, .inl mf23)), (m24, .inl (mc24, 4, .inl mf24)), (m25, .inl (mc25, 10, .inl mf25)), (m28, .inl (mc28, 10, .inl mf28)), (m29, .inl (mc29, 10, .inl mf29)), (m30, .inl (mc30, 10, .inl mf30)), (m31, .inl (mc31, 10, .inl mf31)), (m32, .inl (mc32, 10, .inl mf32)), (m33, .inl (mc33, 10, .inl mf33)), (m34, .inl (mc34, 10, .inl mf34)), (m35, .inl (mc35, 10, .inl mf35)), (m36, .inl (mc36, 10, .inl mf36)), (m40, .inl (mc40, 20, .inl mf40)), (m41, .inl (mc41, 20, .inl mf41)), (m42, .inl (mc42, 20, .inl mf42)), (m43, .inl (mc43, 20, .inl mf43)), (m44, .inl (mc44, 20, .inl mf44)), (m46, .inl (mc46, 14, .inr (.inl mf46))), (m47, .inl (mc47, 6, .inl mf47)), (m48, .inl (mc48, 6, .inl mf48)), (m49, .inl (mc49, 6, .inl mf49)), (m50, .inl (mc50, 6, .inl mf50))] sz)) sz) (va_Qi (fun (r : Int32) (u : (Nat → Int32) × (Nat → Int32) × (Nat → Int32) × (Nat → Int32) × (Nat → Int32) × (Nat → Int32) × (Nat → Int32) × (Nat → Int32) × (Nat → Int32) × (Nat → Int32) × Int32 × Nat × Int64 × Value × Value × Value × Value × Value × Value × Value × Value × Value × Value × Value) => match u with | (S4, S28, S29, S30, S31, S32, S33, S34, S35, S36, Th, Ho, Xx, W5, W9, W10, W11, W12, W13, W14, W15, W16, W17, W18) => ((¬ r = 0 ↔ kNtB (kE0 mps mkw G3 G4 SV (kPrs mps 0) (yL pl)) (kS0 G0 G1 G2 p1) (kAbN p2 mf21 mf40 mps) mf40 mf41 mf42 mf43 mf44 mkn 49 = true) ∧ Ho ≤ 48)) (fun (u : (Nat → Int32) × (Nat → Int32) × (Nat → Int32) × (Nat → Int32) × (Nat → Int32) × (Nat → Int32) × (Nat → Int32) × (Nat → Int32) × (Nat → Int32) × (Nat → Int32) × Int32 × Nat × Int64 × Value × Value × Value × Value × Value × Value × Value × Value × Value × Value × Value) => match u with | (S4, S28, S29, S30, S31, S32, S33, S34, S35, S36, Th, Ho, Xx, W5, W9, W10, W11, W12, W13, W14, W15, W16, W17, W18) => fun t : State => kB dC dI [(jM, .inr (10, [.int th, .ref m1, .ref m2, .ref m3, .ref m4, W5, .int (nI (ml)), .int (nI (mkl)), .int (nI (mku)), W9, W10, W11, W12, W13, W14, W15, W16, W17, W18, .ref m19, .ref m20, .ref m21, .ref m22, .ref m23, .ref m24, .ref m25, .int (nI (mps)), .int (nI (mkw)), .ref m28, .ref m29, .ref m30, .ref m31, .ref m32, .ref m33, .ref m34, .ref m35, .ref m36, .int Th, .int (nI (Ho)), .long Xx, .ref m40, .ref m41, .ref m42, .ref m43, .ref m44, .int (nI (mkn)), .ref m46, .ref m47, .ref m48, .ref m49, .ref m50, .int (nI (mka))])), (m1, .inl (mc1, 120, .inl mf1)), (m2, .inl (mc2, 1680, .inl mf2)), (m3, .inl (mc3, 14, .inl mf3)), (m4, .inl (mc4, 128, .inl S4)), (m19, .inl (mc19, 10, .inl mf19)), (m20, .inl (mc20, 10, .inl mf20)), (m21, .inl (mc21, 10, .inl mf21)), (m22, .inl (mc22, 10, .inl mf22)), (m23, .inl (mc23, 10, .inl mf23)), (m24, .inl (mc24, 4, .inl mf24)), (m25, .inl (mc25, 10, .inl mf25)), (m28, .inl (mc28, 10, .inl S28)), (m29, .inl (mc29, 10, .inl S29)), (m30, .inl (mc30, 10, .inl S30)), (m31, .inl (mc31, 10, .inl S31)), (m32, .inl (mc32, 10, .inl S32)), (m33, .inl (mc33, 10, .inl S33)), (m34, .inl (mc34, 10, .inl S34)), (m35, .inl (mc35, 10, .inl S35)), (m36, .inl (mc36, 10, .inl S36)), (m40, .inl (mc40, 20, .inl mf40)), (m41, .inl (mc41, 20, .inl mf41)), (m42, .inl (mc42, 20, .inl mf42)), (m43, .inl (mc43, 20, .inl mf43)), (m44, .inl (mc44, 20, .inl mf44)), (m46, .inl (mc46, 14, .inr (.inl mf46))), (m47, .inl (mc47, 6, .inl mf47)), (m48, .inl (mc48, 6, .inl mf48)), (m49, .inl (mc49, 6, .inl mf49)), (m50, .inl (mc50, 6, .inl mf50))] [(mc1, .byte), (mc2, .byte), (mc3, .int), (mc4, .int), (mc19, .int), (mc20, .int), (mc21, .int), (mc22, .int), (mc23, .int), (mc24, .int), (mc25, .boolean), (mc28, .int), (mc29, .int), (mc30, .int), (mc31, .int), (mc32, .int), (mc33, .int), (mc34, .int), (mc35, .int), (mc36, .int), (mc40, .int), (mc41, .int), (mc42, .int), (mc43, .int), (mc44, .int), (mc46, .long), (mc47, .int), (mc48, .int), (mc49, .int), (mc50, .int)] (va_A [(jM, .inr (10, [.int th, .ref m1, .ref m2, .ref m3, .ref m4, v5, .int (nI (ml)), .int (nI (mkl)), .int (nI (mku)), v9, v10, v11, v12, v13, v14, v15, v16, v17, v18, .ref m19, .ref m20, .ref m21, .ref m22, .ref m23, .ref m24, .ref m25, .int (nI (mps)), .int (nI (mkw)), .ref m28, .ref m29, .ref m30, .ref m31, .ref m32, .ref m33, .ref m34, .ref m35, .ref m36, .int thr, .int (nI (ho)), .long xx, .ref m40, .ref m41, .ref m42, .ref m43, .ref m44, .int (nI (mkn)), .ref m46, .ref m47, .ref m48, .ref m49, .ref m50, .int (nI (mka))])), (m1, .inl (mc1, 120, .inl mf1)), (m2, .inl (mc2, 1680, .inl mf2)), (m3, .inl (mc3, 14, .inl mf3)), (m4, .inl (mc4, 128, .inl mf4)), (m19, .inl (mc19, 10, .inl mf19)), (m20, .inl (mc20, 10, .inl mf20)), (m21, .inl (mc21, 10, .inl mf21)), (m22, .inl (mc22, 10, .inl mf22)), (m23, .inl (mc23, 10, .inl mf23)), (m24, .inl (mc24, 4, .inl mf24)), (m25, .inl (mc25, 10, .inl mf25)), (m28, .inl (mc28, 10, .inl mf28)), (m29, .inl (mc29, 10, .inl mf29)), (m30, .inl (mc30, 10, .inl mf30)), (m31, .inl (mc31, 10, .inl mf31)), (m32, .inl (mc32, 10, .inl mf32)), (m33, .inl (mc33, 10, .inl mf33)), (m34, .inl (mc34, 10, .inl mf34)), (m35, .inl (mc35, 10, .inl mf35)), (m36, .inl (mc36, 10, .inl mf36)), (m40, .inl (mc40, 20, .inl mf40)), (m41, .inl (mc41, 20, .inl mf41)), (m42, .inl (mc42, 20, .inl mf42)), (m43, .inl (mc43, 20, .inl mf43)), (m44, .inl (mc44, 20, .inl mf44)), (m46, .inl (mc46, 14, .inr (.inl mf46))), (m47, .inl (mc47, 6, .inl mf47)), (m48, .inl (mc48, 6, .inl mf48)), (m49, .inl (mc49, 6, .inl mf49)), (m50, .inl (mc50, 6, .inl mf50))] sz) t) (va_A [(jM, .inr (10, [.int th, .ref m1, .ref m2, .ref m3, .ref m4, v5, .int (nI (ml)), .int (nI (mkl)), .int (nI (mku)), v9, v10, v11, v12, v13, v14, v15, v16, v17, v18, .ref m19, .ref m20, .ref m21, .ref m22, .ref m23, .ref m24, .ref m25, .int (nI (mps)), .int (nI (mkw)), .ref m28, .ref m29, .ref m30, .ref m31, .ref m32, .ref m33, .ref m34, .ref m35, .ref m36, .int thr, .int (nI (ho)), .long xx, .ref m40, .ref m41, .ref m42, .ref m43, .ref m44, .int (nI (mkn)), .ref m46, .ref m47, .ref m48, .ref m49, .ref m50, .int (nI (mka))])), (m1, .inl (mc1, 120, .inl mf1)), (m2, .inl (mc2, 1680, .inl mf2)), (m3, .inl (mc3, 14, .inl mf3)), (m4, .inl (mc4, 128, .inl mf4)), (m19, .inl (mc19, 10, .inl mf19)), (m20, .inl (mc20, 10, .inl mf20)), (m21, .inl (mc21, 10, .inl mf21)), (m22, .inl (mc22, 10, .inl mf22)), (m23, .inl (mc23, 10, .inl mf23)), (m24, .inl (mc24, 4, .inl mf24)), (m25, .inl (mc25, 10, .inl mf25)), (m28, .inl (mc28, 10, .inl mf28)), (m29, .inl (mc29, 10, .inl mf29)), (m30, .inl (mc30, 10, .inl mf30)), (m31, .inl (mc31, 10, .inl mf31)), (m32, .inl (mc32, 10, .inl mf32)), (m33, .inl (mc33, 10, .inl mf33)), (m34, .inl (mc34, 10, .inl mf34)), (m35, .inl (mc35, 10, .inl mf35)), (m36, .inl (mc36, 10, .inl mf36)), (m40, .inl (mc40, 20, .inl mf40)), (m41, .inl (mc41, 20, .inl mf41)), (m42, .inl (mc42, 20, .inl mf42)), (m43, .inl (mc43, 20, .inl mf43)), (m44, .inl (mc44, 20, .inl mf44)), (m46, .inl (mc46, 14, .inr (.inl mf46))), (m47, .inl (mc47, 6, .inl mf47)), (m48, .inl (mc48, 6, .inl mf48)), (m49, .inl (mc49, 6, .inl mf49)), (m50, .inl (mc50, 6, .inl mf50))] sz)) 0 0 (va_A [(jM, .inr (10, [.int th, .ref m1, .ref m2, .ref m3, .ref m4, v5, .int (nI (ml)), .int (nI (mkl)), .int (nI (mku)), v9, v10, v11, v12, v13, v14, v15, v16, v17, v18, .ref m19, .ref m20, .ref m21, .ref m22, .ref m23, .ref m24, .ref m25, .int (nI (mps)), .int (nI (mkw)), .ref m28, .ref m29, .ref m30, .ref m31, .ref m32, .ref m33, .ref m34, .ref m35, .ref m36, .int thr, .int (nI (ho)), .long xx, .ref m40, .ref m41, .ref m42, .ref m43, .ref m44, .int (nI (mkn)), .ref m46, .ref m47, .ref m48, .ref m49, .ref m50, .int (nI (mka))])), (m1, .inl (mc1, 120, .inl mf1)), (m2, .inl (mc2, 1680, .inl mf2)), (m3, .inl (mc3, 14, .inl mf3)), (m4, .inl (mc4, 128, .inl mf4)), (m19, .inl (mc19, 10, .inl mf19)), (m20, .inl (mc20, 10, .inl mf20)), (m21, .inl (mc21, 10, .inl mf21)), (m22, .inl (mc22, 10, .inl mf22)), (m23, .inl (mc23, 10, .inl mf23)), (m24, .inl (mc24, 4, .inl mf24)), (m25, .inl (mc25, 10, .inl mf25)), (m28, .inl (mc28, 10, .inl mf28)), (m29, .inl (mc29, 10, .inl mf29)), (m30, .inl (mc30, 10, .inl mf30)), (m31, .inl (mc31, 10, .inl mf31)), (m32, .inl (mc32, 10, .inl mf32)), (m33, .inl (mc33, 10, .inl mf33)), (m34, .inl (mc34, 10, .inl mf34)), (m35, .inl (mc35, 10, .inl mf35)), (m36, .inl (mc36, 10, .inl mf36)), (m40, .inl (mc40, 20, .inl mf40)), (m41, .inl (mc41, 20, .inl mf41)), (m42, .inl (mc42, 20, .inl mf42)), (m43, .inl (mc43, 20, .inl mf43)), (m44, .inl (mc44, 20, .inl mf44)), (m46, .inl (mc46, 14, .inr (.inl mf46))), (m47, .inl (mc47, 6, .inl mf47)), (m48, .inl (mc48, 6, .inl mf48)), (m49, .inl (mc49, 6, .inl mf49)), (m50, .inl (mc50, 6, .inl mf50))] sz) := by
  refine Met.ofW (cc := cX10_fitsAll) (maxL := 7) (ret := (some .boolean)) (by decide) rfl ?_
  intro p e s m args below meth c s₁ B hml hv
  obtain ⟨rfl, hsz, hP, hK, hD0, hX⟩ := hv
  have hx := B.exec
  have hb := B.bytes
  have hr := B.returns
  have hts := atoms_spec (ws := w_s_fitsAll10) B.pre
  have hown : s.vm.findClass RX10 = some m.cls := findClass_of_methodNamed B.named
  have hlocks := B.notSynchronized
  subst hsz
  have hD := hD0.self (sz := s.heap.size)
  generalize hAe : va_A [(jM, .inr (10, [.int th, .ref m1, .ref m2, .ref m3, .ref m4, v5, .int (nI (ml)), .int (nI (mkl)), .int (nI (mku)), v9, v10, v11, v12, v13, v14, v15, v16, v17, v18, .ref m19, .ref m20, .ref m21, .ref m22, .ref m23, .ref m24, .ref m25, .int (nI (mps)), .int (nI (mkw)), .ref m28, .ref m29, .ref m30, .ref m31, .ref m32, .ref m33, .ref m34, .ref m35, .ref m36, .int thr, .int (nI (ho)), .long xx, .ref m40, .ref m41, .ref m42, .ref m43, .ref m44, .int (nI (mkn)), .ref m46, .ref m47, .ref m48, .ref m49, .ref m50, .int (nI (mka))])), (m1, .inl (mc1, 120, .inl mf1)), (m2, .inl (mc2, 1680, .inl mf2)), (m3, .inl (mc3, 14, .inl mf3)), (m4, .inl (mc4, 128, .inl mf4)), (m19, .inl (mc19, 10, .inl mf19)), (m20, .inl (mc20, 10, .inl mf20)), (m21, .inl (mc21, 10, .inl mf21)), (m22, .inl (mc22, 10, .inl mf22)), (m23, .inl (mc23, 10, .inl mf23)), (m24, .inl (mc24, 4, .inl mf24)), (m25, .inl (mc25, 10, .inl mf25)), (m28, .inl (mc28, 10, .inl mf28)), (m29, .inl (mc29, 10, .inl mf29)), (m30, .inl (mc30, 10, .inl mf30)), (m31, .inl (mc31, 10, .inl mf31)), (m32, .inl (mc32, 10, .inl mf32)), (m33, .inl (mc33, 10, .inl mf33)), (m34, .inl (mc34, 10, .inl mf34)), (m35, .inl (mc35, 10, .inl mf35)), (m36, .inl (mc36, 10, .inl mf36)), (m40, .inl (mc40, 20, .inl mf40)), (m41, .inl (mc41, 20, .inl mf41)), (m42, .inl (mc42, 20, .inl mf42)), (m43, .inl (mc43, 20, .inl mf43)), (m44, .inl (mc44, 20, .inl mf44)), (m46, .inl (mc46, 14, .inr (.inl mf46))), (m47, .inl (mc47, 6, .inl mf47)), (m48, .inl (mc48, 6, .inl mf48)), (m49, .inl (mc49, 6, .inl mf49)), (m50, .inl (mc50, 6, .inl mf50))] s.heap.size = A at hD hX ⊢
  have hA : ∀ q : Nat, s.heap.size ≤ q → A q := fun q h => by rw [← hAe]; exact Or.inr h
  have hS : va_S A s.heap s.heap [] := va_S.rf
  have hP : va_P (dC, dI) vwCl [(jM, .inr (10, [.int th, .ref m1, .ref m2, .ref m3, .ref m4, v5, .int (nI (ml)), .int (nI (mkl)), .int (nI (mku)), v9, v10, v11, v12, v13, v14, v15, v16, v17, v18, .ref m19, .ref m20, .ref m21, .ref m22, .ref m23, .ref m24, .ref m25, .int (nI (mps)), .int (nI (mkw)), .ref m28, .ref m29, .ref m30, .ref m31, .ref m32, .ref m33, .ref m34, .ref m35, .ref m36, .int thr, .int (nI (ho)), .long xx, .ref m40, .ref m41, .ref m42, .ref m43, .ref m44, .int (nI (mkn)), .ref m46, .ref m47, .ref m48, .ref m49, .ref m50, .int (nI (mka))])), (m1, .inl (mc1, 120, .inl mf1)), (m2, .inl (mc2, 1680, .inl mf2)), (m3, .inl (mc3, 14, .inl mf3)), (m4, .inl (mc4, 128, .inl mf4)), (m19, .inl (mc19, 10, .inl mf19)), (m20, .inl (mc20, 10, .inl mf20)), (m21, .inl (mc21, 10, .inl mf21)), (m22, .inl (mc22, 10, .inl mf22)), (m23, .inl (mc23, 10, .inl mf23)), (m24, .inl (mc24, 4, .inl mf24)), (m25, .inl (mc25, 10, .inl mf25)), (m28, .inl (mc28, 10, .inl mf28)), (m29, .inl (mc29, 10, .inl mf29)), (m30, .inl (mc30, 10, .inl mf30)), (m31, .inl (mc31, 10, .inl mf31)), (m32, .inl (mc32, 10, .inl mf32)), (m33, .inl (mc33, 10, .inl mf33)), (m34, .inl (mc34, 10, .inl mf34)), (m35, .inl (mc35, 10, .inl mf35)), (m36, .inl (mc36, 10, .inl mf36)), (m40, .inl (mc40, 20, .inl mf40)), (m41, .inl (mc41, 20, .inl mf41)), (m42, .inl (mc42, 20, .inl mf42)), (m43, .inl (mc43, 20, .inl mf43)), (m44, .inl (mc44, 20, .inl mf44)), (m46, .inl (mc46, 14, .inr (.inl mf46))), (m47, .inl (mc47, 6, .inl mf47)), (m48, .inl (mc48, 6, .inl mf48)), (m49, .inl (mc49, 6, .inl mf49)), (m50, .inl (mc50, 6, .inl mf50))] s.heap := hP
  have hl := lv_entry ([.ref jM, .int (nI (pl)), .long p1, .int p2]) (n := 7) (Nat.le_of_ble_eq_true rfl)
  rw [lg_entry_eq]
  generalize (lg_sl ([.ref jM, .int (nI (pl)), .long p1, .int p2]) ++ List.replicate (7 - (lg_sl ([.ref jM, .int (nI (pl)), .long p1, .int p2])).length) Slot.unset).toArray = ls at hl ⊢
  have hl : lv_has ls 7 [(0, .ref jM), (1, .int (nI (pl))), (2, .long p1), (4, .int p2)] := hl
  refine kQ (fun Q hQ => ?_)
  refine lv_aload_n hx hb dX10_fitsAll_0 rfl (lv_at hl 0 rfl) ?_
  refine lv_aload_n hx hb dX10_fitsAll_1 rfl (lv_at hl 0 rfl) ?_
  have bd_1 : ml ≤ 120 := by omega
  have hPc := hP.sb (ws2 := [(jM, .inr (10, [.int th, .ref m1, .ref m2, .ref m3, .ref m4, v5, .int (nI (ml)), .int (nI (mkl)), .int (nI (mku)), v9, v10, v11, v12, v13, v14, v15, v16, v17, v18, .ref m19, .ref m20, .ref m21, .ref m22, .ref m23, .ref m24, .ref m25, .int (nI (mps)), .int (nI (mkw)), .ref m28, .ref m29, .ref m30, .ref m31, .ref m32, .ref m33, .ref m34, .ref m35, .ref m36, .int thr, .int (nI (ho)), .long xx, .ref m40, .ref m41, .ref m42, .ref m43, .ref m44, .int (nI (mkn)), .ref m46, .ref m47, .ref m48, .ref m49, .ref m50, .int (nI (mka))])), (m1, .inl (mc1, 120, .inl mf1)), (m2, .inl (mc2, 1680, .inl mf2)), (m3, .inl (mc3, 14, .inl mf3)), (m4, .inl (mc4, 128, .inl mf4)), (m19, .inl (mc19, 10, .inl mf19)), (m20, .inl (mc20, 10, .inl mf20)), (m21, .inl (mc21, 10, .inl mf21)), (m22, .inl (mc22, 10, .inl mf22)), (m23, .inl (mc23, 10, .inl mf23)), (m24, .inl (mc24, 4, .inl mf24)), (m25, .inl (mc25, 10, .inl mf25)), (m28, .inl (mc28, 10, .inl mf28)), (m29, .inl (mc29, 10, .inl mf29)), (m30, .inl (mc30, 10, .inl mf30)), (m31, .inl (mc31, 10, .inl mf31)), (m32, .inl (mc32, 10, .inl mf32)), (m33, .inl (mc33, 10, .inl mf33)), (m34, .inl (mc34, 10, .inl mf34)), (m35, .inl (mc35, 10, .inl mf35)), (m36, .inl (mc36, 10, .inl mf36)), (m40, .inl (mc40, 20, .inl mf40)), (m41, .inl (mc41, 20, .inl mf41)), (m42, .inl (mc42, 20, .inl mf42)), (m43, .inl (mc43, 20, .inl mf43)), (m44, .inl (mc44, 20, .inl mf44)), (m46, .inl (mc46, 14, .inr (.inl mf46))), (m47, .inl (mc47, 6, .inl mf47)), (m48, .inl (mc48, 6, .inl mf48)), (m49, .inl (mc49, 6, .inl mf49)), (m50, .inl (mc50, 6, .inl mf50))]) [0, 1, 2, 3, 4, 5, 6, 7, 8, 9, 10, 11, 12, 13, 14, 15, 16, 17, 18, 19, 20, 21, 22, 23, 24, 25, 26, 27, 28, 29, 30] rfl
  have hKc := hK.sb (tys2 := [(mc1, .byte), (mc2, .byte), (mc3, .int), (mc4, .int), (mc19, .int), (mc20, .int), (mc21, .int), (mc22, .int), (mc23, .int), (mc24, .int), (mc25, .boolean), (mc28, .int), (mc29, .int), (mc30, .int), (mc31, .int), (mc32, .int), (mc33, .int), (mc34, .int), (mc35, .int), (mc36, .int), (mc40, .int), (mc41, .int), (mc42, .int), (mc43, .int), (mc44, .int), (mc46, .long), (mc47, .int), (mc48, .int), (mc49, .int), (mc50, .int)]) [0, 1, 2, 3, 4, 5, 6, 7, 8, 9, 10, 11, 12, 13, 14, 15, 16, 17, 18, 19, 20, 21, 22, 23, 24, 25, 26, 27, 28, 29] rfl
  refine vp_callSi (va_runV (As := []) (rest := [.ref jM]) ⟨hx, hb, hml, hown, hts⟩ (s_every10x l dC dI jM th thr xx (v5 : Value) (v9 : Value) (v10 : Value) (v11 : Value) (v12 : Value) (v13 : Value) (v14 : Value) (v15 : Value) (v16 : Value) (v17 : Value) (v18 : Value) m1 m2 m3 m4 m19 m20 m21 m22 m23 m24 m25 m28 m29 m30 m31 m32 m33 m34 m35 m36 m40 m41 m42 m43 m44 m46 m47 m48 m49 m50 mc1 mc2 mc3 mc4 mc19 mc20 mc21 mc22 mc23 mc24 mc25 mc28 mc29 mc30 mc31 mc32 mc33 mc34 mc35 mc36 mc40 mc41 mc42 mc43 mc44 mc46 mc47 mc48 mc49 mc50 mf1 mf2 mf3 mf4 mf19 mf20 mf21 mf22 mf23 mf24 mf25 mf28 mf29 mf30 mf31 mf32 mf33 mf34 mf35 mf36 mf40 mf41 mf42 mf43 mf44 mf46 mf47 mf48 mf49 mf50 ml mkl mku mps mkw ho mkn mka bd_1 hmkl hmku hmps hmkw hho hmkn hmka) (cwV 0 hts (kG (List.forall_mem_cons.mpr ⟨(List.mem_cons_of_mem _ (List.mem_append_left _ (List.mem_of_getElem? (i := 3) rfl))), (List.forall_mem_cons.mpr ⟨(List.mem_cons_of_mem _ (List.mem_append_left _ (List.mem_of_getElem? (i := 2) rfl))), (List.forall_mem_cons.mpr ⟨(List.mem_cons_of_mem _ (List.mem_append_left _ (List.mem_of_getElem? (i := 1) rfl))), (List.forall_mem_cons.mpr ⟨(List.mem_cons_of_mem _ (List.mem_append_left _ (List.mem_of_getElem? (i := 0) rfl))), (fun _ h => absurd h List.not_mem_nil)⟩)⟩)⟩)⟩) (kGV _ _ _ _) (fun _ h => List.mem_cons_of_mem _ (List.mem_append_right _ (List.mem_append_left _ h))) gw_s_every10x) rfl rfl rfl ⟨rfl, hd_X10_everybody⟩ ⟨(Nat.le_of_ble_eq_true rfl), (Nat.le_of_ble_eq_true rfl)⟩) (kR_V kT_blind kT_give (va_recv hKc hPc (ci := 10) (q0 := 0) rfl rfl) hPc hKc) rfl rfl hl.1 rfl (lv_room (Nat.le_of_ble_eq_true rfl)) dX10_fitsAll_2 ⟨(Nat.le_of_ble_eq_true rfl), (Nat.le_of_ble_eq_true rfl)⟩).run (fun r_2 hw => ?_)
  obtain rfl : r_2 = kEvb (mps) := hw
  refine lv_lload_n hx hb dX10_fitsAll_5 rfl (lv_at hl 2 rfl) ?_
  have hCu := kCut (wc := [(jM, .inr (10, [.int th, .ref m1, .ref m2, .ref m3, .ref m4, v5, .int (nI (ml)), .int (nI (mkl)), .int (nI (mku)), v9, v10, v11, v12, v13, v14, v15, v16, v17, v18, .ref m19, .ref m20, .ref m21, .ref m22, .ref m23, .ref m24, .ref m25, .int (nI (mps)), .int (nI (mkw)), .ref m28, .ref m29, .ref m30, .ref m31, .ref m32, .ref m33, .ref m34, .ref m35, .ref m36, .int thr, .int (nI (ho)), .long xx, .ref m40, .ref m41, .ref m42, .ref m43, .ref m44, .int (nI (mkn)), .ref m46, .ref m47, .ref m48, .ref m49, .ref m50, .int (nI (mka))])), (m1, .inl (mc1, 120, .inl mf1)), (m2, .inl (mc2, 1680, .inl mf2)), (m3, .inl (mc3, 14, .inl mf3)), (m4, .inl (mc4, 128, .inl mf4)), (m19, .inl (mc19, 10, .inl mf19)), (m20, .inl (mc20, 10, .inl mf20)), (m21, .inl (mc21, 10, .inl mf21)), (m22, .inl (mc22, 10, .inl mf22)), (m23, .inl (mc23, 10, .inl mf23)), (m24, .inl (mc24, 4, .inl mf24)), (m25, .inl (mc25, 10, .inl mf25)), (m28, .inl (mc28, 10, .inl mf28)), (m29, .inl (mc29, 10, .inl mf29)), (m30, .inl (mc30, 10, .inl mf30)), (m31, .inl (mc31, 10, .inl mf31)), (m32, .inl (mc32, 10, .inl mf32)), (m33, .inl (mc33, 10, .inl mf33)), (m34, .inl (mc34, 10, .inl mf34)), (m35, .inl (mc35, 10, .inl mf35)), (m36, .inl (mc36, 10, .inl mf36)), (m40, .inl (mc40, 20, .inl mf40)), (m41, .inl (mc41, 20, .inl mf41)), (m42, .inl (mc42, 20, .inl mf42)), (m43, .inl (mc43, 20, .inl mf43)), (m44, .inl (mc44, 20, .inl mf44)), (m46, .inl (mc46, 14, .inr (.inl mf46))), (m47, .inl (mc47, 6, .inl mf47)), (m48, .inl (mc48, 6, .inl mf48)), (m49, .inl (mc49, 6, .inl mf49)), (m50, .inl (mc50, 6, .inl mf50))]) hP hD hS hA [0, 1, 2, 3, 4, 5, 6, 7, 8, 9, 10, 11, 12, 13, 14, 15, 16, 17, 18, 19, 20, 21, 22, 23, 24, 25, 26, 27, 28, 29, 30] rfl kc_nd_772 rfl
  have hPc := hCu.1
  have hDc := hCu.2.1
  have hFc := hCu.2.2
  have hKc := hK.sb (tys2 := [(mc1, .byte), (mc2, .byte), (mc3, .int), (mc4, .int), (mc19, .int), (mc20, .int), (mc21, .int), (mc22, .int), (mc23, .int), (mc24, .int), (mc25, .boolean), (mc28, .int), (mc29, .int), (mc30, .int), (mc31, .int), (mc32, .int), (mc33, .int), (mc34, .int), (mc35, .int), (mc36, .int), (mc40, .int), (mc41, .int), (mc42, .int), (mc43, .int), (mc44, .int), (mc46, .long), (mc47, .int), (mc48, .int), (mc49, .int), (mc50, .int)]) [0, 1, 2, 3, 4, 5, 6, 7, 8, 9, 10, 11, 12, 13, 14, 15, 16, 17, 18, 19, 20, 21, 22, 23, 24, 25, 26, 27, 28, 29] rfl
  refine va_callv (va_runV (As := [.int (kEvb (mps)), .long p1]) (rest := []) ⟨hx, hb, hml, hown, hts⟩ (s_begin10x l dC dI jM th thr xx (v5 : Value) (v9 : Value) (v10 : Value) (v11 : Value) (v12 : Value) (v13 : Value) (v14 : Value) (v15 : Value) (v16 : Value) (v17 : Value) (v18 : Value) m1 m2 m3 m4 m19 m20 m21 m22 m23 m24 m25 m28 m29 m30 m31 m32 m33 m34 m35 m36 m40 m41 m42 m43 m44 m46 m47 m48 m49 m50 mc1 mc2 mc3 mc4 mc19 mc20 mc21 mc22 mc23 mc24 mc25 mc28 mc29 mc30 mc31 mc32 mc33 mc34 mc35 mc36 mc40 mc41 mc42 mc43 mc44 mc46 mc47 mc48 mc49 mc50 mf1 mf2 mf3 mf4 mf19 mf20 mf21 mf22 mf23 mf24 mf25 mf28 mf29 mf30 mf31 mf32 mf33 mf34 mf35 mf36 mf40 mf41 mf42 mf43 mf44 mf46 mf47 mf48 mf49 mf50 ml mkl mku mps mkw ho mkn mka bd_1 hmkl hmku hmps hmkw hho hmkn hmka (kEvb (mps)) p1 s.heap.size) (cwV 2 hts (kG (List.forall_mem_cons.mpr ⟨(List.mem_cons_of_mem _ (List.mem_append_left _ (List.mem_of_getElem? (i := 6) rfl))), (List.forall_mem_cons.mpr ⟨(List.mem_cons_of_mem _ (List.mem_append_left _ (List.mem_of_getElem? (i := 5) rfl))), (List.forall_mem_cons.mpr ⟨(List.mem_cons_of_mem _ (List.mem_append_left _ (List.mem_of_getElem? (i := 4) rfl))), (List.forall_mem_cons.mpr ⟨(List.mem_cons_of_mem _ (List.mem_append_left _ (List.mem_of_getElem? (i := 0) rfl))), (fun _ h => absurd h List.not_mem_nil)⟩)⟩)⟩)⟩) (kGV _ _ _ _) (fun _ h => List.mem_cons_of_mem _ (List.mem_append_right _ (List.mem_append_right _ (List.mem_append_left _ h)))) gw_s_begin10x) rfl rfl rfl ⟨rfl, hd_X10_begin⟩ ⟨(Nat.le_of_ble_eq_true rfl), (Nat.le_of_ble_eq_true rfl)⟩) (kW_V kT_blind kT_give (va_recv hKc hPc (ci := 10) (q0 := 0) rfl rfl) hPc hKc hDc) rfl rfl hl.1 rfl (lv_room (Nat.le_of_ble_eq_true rfl)) dX10_fitsAll_6 ⟨(Nat.le_of_ble_eq_true rfl), (Nat.le_of_ble_eq_true rfl)⟩) hS (fun q _ h => hFc q h) hFc (kU7 (fun S28_3 S29_4 S30_5 S31_6 Th_7 Ho_8 Xx_9 t H_10 locs ht hvm hw hB hz1 hk1 hS => ?_))
  try dsimp only at hw
  have hPD : kPD dC dI A [(jM, .inr (10, [.int th, .ref m1, .ref m2, .ref m3, .ref m4, (v5 : Value), .int (nI (ml)), .int (nI (mkl)), .int (nI (mku)), (v9 : Value), (v10 : Value), (v11 : Value), (v12 : Value), (v13 : Value), (v14 : Value), (v15 : Value), (v16 : Value), (v17 : Value), (v18 : Value), .ref m19, .ref m20, .ref m21, .ref m22, .ref m23, .ref m24, .ref m25, .int (nI (mps)), .int (nI (mkw)), .ref m28, .ref m29, .ref m30, .ref m31, .ref m32, .ref m33, .ref m34, .ref m35, .ref m36, .int Th_7, .int (nI (Ho_8)), .long Xx_9, .ref m40, .ref m41, .ref m42, .ref m43, .ref m44, .int (nI (mkn)), .ref m46, .ref m47, .ref m48, .ref m49, .ref m50, .int (nI (mka))])), (m1, .inl (mc1, 120, .inl mf1)), (m2, .inl (mc2, 1680, .inl mf2)), (m3, .inl (mc3, 14, .inl mf3)), (m4, .inl (mc4, 128, .inl mf4)), (m19, .inl (mc19, 10, .inl mf19)), (m20, .inl (mc20, 10, .inl mf20)), (m21, .inl (mc21, 10, .inl mf21)), (m22, .inl (mc22, 10, .inl mf22)), (m23, .inl (mc23, 10, .inl mf23)), (m24, .inl (mc24, 4, .inl mf24)), (m25, .inl (mc25, 10, .inl mf25)), (m28, .inl (mc28, 10, .inl S28_3)), (m29, .inl (mc29, 10, .inl S29_4)), (m30, .inl (mc30, 10, .inl S30_5)), (m31, .inl (mc31, 10, .inl S31_6)), (m32, .inl (mc32, 10, .inl mf32)), (m33, .inl (mc33, 10, .inl mf33)), (m34, .inl (mc34, 10, .inl mf34)), (m35, .inl (mc35, 10, .inl mf35)), (m36, .inl (mc36, 10, .inl mf36)), (m40, .inl (mc40, 20, .inl mf40)), (m41, .inl (mc41, 20, .inl mf41)), (m42, .inl (mc42, 20, .inl mf42)), (m43, .inl (mc43, 20, .inl mf43)), (m44, .inl (mc44, 20, .inl mf44)), (m46, .inl (mc46, 14, .inr (.inl mf46))), (m47, .inl (mc47, 6, .inl mf47)), (m48, .inl (mc48, 6, .inl mf48)), (m49, .inl (mc49, 6, .inl mf49)), (m50, .inl (mc50, 6, .inl mf50))] H_10 := kJoinX hP hD [0, 1, 2, 3, 4, 5, 6, 7, 8, 9, 10, 11, 12, 13, 14, 15, 16, 17, 18, 19, 20, 21, 22, 23, 24, 25, 26, 27, 28, 29, 30] rfl hk1 hFc hB.1 ht hB.2.2 rfl [some 0, some 1, some 2, some 3, some 4, some 5, some 6, some 7, some 8, some 9, some 10, some 11, some 12, some 13, some 14, some 15, some 16, some 17, some 18, some 19, some 20, some 21, some 22, some 23, some 24, some 25, some 26, some 27, some 28, some 29, some 30] rfl rfl
  obtain ⟨hP, hD⟩ := hPD
  have hw_11 := hw
  have hw_11_0 := hw_11.2.2.1
  have hth9 := hw_11.1
  subst hth9
  have hz9 : Ho_8 = 0 := hw_11.2.2.1
  refine lv_iconst (v := 0) hx hb dX10_fitsAll_9 kc_i_0 ?_
  refine lv_istore hx hb dX10_fitsAll_10 hl kc_l_5_7 (kTo [(5, .int 0), (0, .ref jM), (1, .int (nI (pl))), (2, .long p1), (4, .int p2)]) (fun ls hl => ?_)
  have lp_k_12 : ∀ (n9 : Nat) (h9 : Nat) (l4 : Nat → Int32) (l28 : Nat → Int32) (l30 : Nat → Int32) (l31 : Nat → Int32) (l32 : Nat → Int32) (l33 : Nat → Int32) (l34 : Nat → Int32) (l35 : Nat → Int32) (l36 : Nat → Int32) (lv5 : Value) (lv9 : Value) (lv10 : Value) (lv11 : Value) (lv12 : Value) (lv13 : Value) (lv14 : Value) (lv15 : Value) (lv16 : Value) (lv17 : Value) (lv18 : Value) (lxx : Int64) (lho : Nat) (ivk_12_0 : h9 ≤ 49) (ivk_12_1 : kRp mps (kIt (kE0 mps mkw G3 G4 SV (kPrs mps 0) (yL pl)) (h9 - 1) (kS0 G0 G1 G2 p1)) l28 S29_4 l30 l31) (ivk_12_2 : lxx = (kIt (kE0 mps mkw G3 G4 SV (kPrs mps 0) (yL pl)) (h9 - 1) (kS0 G0 G1 G2 p1)).2.2.2.2.1) (ivk_12_3 : lho = h9 - 1) (ivk_12_4 : kNtB (kE0 mps mkw G3 G4 SV (kPrs mps 0) (yL pl)) (kS0 G0 G1 G2 p1) (kAbN p2 mf21 mf40 mps) mf40 mf41 mf42 mf43 mf44 mkn h9 = true) (H : Heap) (locs : List Loc) (_ : va_P (dC, dI) vwCl [(jM, .inr (10, [.int th, .ref m1, .ref m2, .ref m3, .ref m4, lv5, .int (nI (ml)), .int (nI (mkl)), .int (nI (mku)), lv9, lv10, lv11, lv12, lv13, lv14, lv15, lv16, lv17, lv18, .ref m19, .ref m20, .ref m21, .ref m22, .ref m23, .ref m24, .ref m25, .int (nI (mps)), .int (nI (mkw)), .ref m28, .ref m29, .ref m30, .ref m31, .ref m32, .ref m33, .ref m34, .ref m35, .ref m36, .int (kEvb (mps)), .int (nI (lho)), .long lxx, .ref m40, .ref m41, .ref m42, .ref m43, .ref m44, .int (nI (mkn)), .ref m46, .ref m47, .ref m48, .ref m49, .ref m50, .int (nI (mka))])), (m1, .inl (mc1, 120, .inl mf1)), (m2, .inl (mc2, 1680, .inl mf2)), (m3, .inl (mc3, 14, .inl mf3)), (m4, .inl (mc4, 128, .inl l4)), (m19, .inl (mc19, 10, .inl mf19)), (m20, .inl (mc20, 10, .inl mf20)), (m21, .inl (mc21, 10, .inl mf21)), (m22, .inl (mc22, 10, .inl mf22)), (m23, .inl (mc23, 10, .inl mf23)), (m24, .inl (mc24, 4, .inl mf24)), (m25, .inl (mc25, 10, .inl mf25)), (m28, .inl (mc28, 10, .inl l28)), (m29, .inl (mc29, 10, .inl S29_4)), (m30, .inl (mc30, 10, .inl l30)), (m31, .inl (mc31, 10, .inl l31)), (m32, .inl (mc32, 10, .inl l32)), (m33, .inl (mc33, 10, .inl l33)), (m34, .inl (mc34, 10, .inl l34)), (m35, .inl (mc35, 10, .inl l35)), (m36, .inl (mc36, 10, .inl l36)), (m40, .inl (mc40, 20, .inl mf40)), (m41, .inl (mc41, 20, .inl mf41)), (m42, .inl (mc42, 20, .inl mf42)), (m43, .inl (mc43, 20, .inl mf43)), (m44, .inl (mc44, 20, .inl mf44)), (m46, .inl (mc46, 14, .inr (.inl mf46))), (m47, .inl (mc47, 6, .inl mf47)), (m48, .inl (mc48, 6, .inl mf48)), (m49, .inl (mc49, 6, .inl mf49)), (m50, .inl (mc50, 6, .inl mf50))] H) (_ : va_D A [(jM, .inr (10, [.int th, .ref m1, .ref m2, .ref m3, .ref m4, lv5, .int (nI (ml)), .int (nI (mkl)), .int (nI (mku)), lv9, lv10, lv11, lv12, lv13, lv14, lv15, lv16, lv17, lv18, .ref m19, .ref m20, .ref m21, .ref m22, .ref m23, .ref m24, .ref m25, .int (nI (mps)), .int (nI (mkw)), .ref m28, .ref m29, .ref m30, .ref m31, .ref m32, .ref m33, .ref m34, .ref m35, .ref m36, .int (kEvb (mps)), .int (nI (lho)), .long lxx, .ref m40, .ref m41, .ref m42, .ref m43, .ref m44, .int (nI (mkn)), .ref m46, .ref m47, .ref m48, .ref m49, .ref m50, .int (nI (mka))])), (m1, .inl (mc1, 120, .inl mf1)), (m2, .inl (mc2, 1680, .inl mf2)), (m3, .inl (mc3, 14, .inl mf3)), (m4, .inl (mc4, 128, .inl l4)), (m19, .inl (mc19, 10, .inl mf19)), (m20, .inl (mc20, 10, .inl mf20)), (m21, .inl (mc21, 10, .inl mf21)), (m22, .inl (mc22, 10, .inl mf22)), (m23, .inl (mc23, 10, .inl mf23)), (m24, .inl (mc24, 4, .inl mf24)), (m25, .inl (mc25, 10, .inl mf25)), (m28, .inl (mc28, 10, .inl l28)), (m29, .inl (mc29, 10, .inl S29_4)), (m30, .inl (mc30, 10, .inl l30)), (m31, .inl (mc31, 10, .inl l31)), (m32, .inl (mc32, 10, .inl l32)), (m33, .inl (mc33, 10, .inl l33)), (m34, .inl (mc34, 10, .inl l34)), (m35, .inl (mc35, 10, .inl l35)), (m36, .inl (mc36, 10, .inl l36)), (m40, .inl (mc40, 20, .inl mf40)), (m41, .inl (mc41, 20, .inl mf41)), (m42, .inl (mc42, 20, .inl mf42)), (m43, .inl (mc43, 20, .inl mf43)), (m44, .inl (mc44, 20, .inl mf44)), (m46, .inl (mc46, 14, .inr (.inl mf46))), (m47, .inl (mc47, 6, .inl mf47)), (m48, .inl (mc48, 6, .inl mf48)), (m49, .inl (mc49, 6, .inl mf49)), (m50, .inl (mc50, 6, .inl mf50))]) (_ : va_S A s.heap H locs) (ls : Array Slot) (_ : lv_has ls 7 [(5, .int (nI (h9))), (0, .ref jM), (1, .int (nI (pl))), (2, .long p1), (4, .int p2)]) (_ : 49 - h9 < n9), W p l e (headSpec w_s_fitsAll10 ({ frames := 62, cells := 0, slots := 0, locals := 3720 })).room s m (#[.ref jM, .int (nI (pl)), .long p1, .int p2] : Array Value) below meth c H locs 0 0 Q (F0 m 12 ls []) := by
    intro n9
    induction n9 with
    | zero => intro h9 l4 l28 l30 l31 l32 l33 l34 l35 l36 lv5 lv9 lv10 lv11 lv12 lv13 lv14 lv15 lv16 lv17 lv18 lxx lho ivk_12_0 ivk_12_1 ivk_12_2 ivk_12_3 ivk_12_4 H locs hP hD hS ls hl hm9; exact absurd hm9 (Nat.not_lt_zero _)
    | succ n9 ih_k_12 =>
      intro h9 l4 l28 l30 l31 l32 l33 l34 l35 l36 lv5 lv9 lv10 lv11 lv12 lv13 lv14 lv15 lv16 lv17 lv18 lxx lho ivk_12_0 ivk_12_1 ivk_12_2 ivk_12_3 ivk_12_4 H locs hP hD hS ls hl hm9
      refine lv_iload hx hb dX10_fitsAll_12 (lv_at hl 0 rfl) ?_
      refine lv_bipush (v := 48) hx hb dX10_fitsAll_14 kc_b_48 ?_
      refine lv_icmp_gt (tgt := 92) hx hb dX10_fitsAll_16 kc_t_16_76 (fun c_13 => ?_) (fun c_13 => ?_)
      · have bd_15 : h9 < 2147483648 := by omega
        have hn_14 := klt (a := 48) (b := h9) kc_31_48 bd_15 c_13
        refine lv_iconst (v := 1) hx hb dX10_fitsAll_92 kc_i_1 ?_
        have hP9 := hP
        have hD9 := hD
        have hK9 := hK
        rw [hQ]
        exact W.zret (v := 1) hx hb hr rfl (fun t ht hW => ⟨⟨1, (l4, l28, S29_4, l30, l31, l32, l33, l34, l35, l36, (kEvb (mps)), lho, lxx, (lv5 : Value), (lv9 : Value), (lv10 : Value), (lv11 : Value), (lv12 : Value), (lv13 : Value), (lv14 : Value), (lv15 : Value), (lv16 : Value), (lv17 : Value), (lv18 : Value)), rfl, ⟨⟨fun _ => (show h9 = 49 by omega) ▸ ivk_12_4, fun _ => by decide⟩, by omega⟩,  by rw [ht]; exact hP9, va_K.moved hW.alike hK9, hD9⟩, hS.F ht⟩) hS.2.2 dX10_fitsAll_93
      · have bd_17 : h9 < 2147483648 := by omega
        have hn_16 := knlt (a := 48) (b := h9) kc_31_48 bd_17 c_13
        refine lv_aload_n hx hb dX10_fitsAll_19 rfl (lv_at hl 1 rfl) ?_
        refine lv_iload_n hx hb dX10_fitsAll_20 rfl (lv_at hl 2 rfl) ?_
        refine lv_iload hx hb dX10_fitsAll_21 (lv_at hl 0 rfl) ?_
        have bd_18 : lho ≤ 48 := by omega
        have bd_19 : h9 ≤ 48 := by omega
        have hCu := kCut (wc := [(jM, .inr (10, [.int th, .ref m1, .ref m2, .ref m3, .ref m4, lv5, .int (nI (ml)), .int (nI (mkl)), .int (nI (mku)), lv9, lv10, lv11, lv12, lv13, lv14, lv15, lv16, lv17, lv18, .ref m19, .ref m20, .ref m21, .ref m22, .ref m23, .ref m24, .ref m25, .int (nI (mps)), .int (nI (mkw)), .ref m28, .ref m29, .ref m30, .ref m31, .ref m32, .ref m33, .ref m34, .ref m35, .ref m36, .int (kEvb (mps)), .int (nI (lho)), .long lxx, .ref m40, .ref m41, .ref m42, .ref m43, .ref m44, .int (nI (mkn)), .ref m46, .ref m47, .ref m48, .ref m49, .ref m50, .int (nI (mka))])), (m1, .inl (mc1, 120, .inl mf1)), (m2, .inl (mc2, 1680, .inl mf2)), (m3, .inl (mc3, 14, .inl mf3)), (m4, .inl (mc4, 128, .inl l4)), (m19, .inl (mc19, 10, .inl mf19)), (m20, .inl (mc20, 10, .inl mf20)), (m21, .inl (mc21, 10, .inl mf21)), (m22, .inl (mc22, 10, .inl mf22)), (m23, .inl (mc23, 10, .inl mf23)), (m24, .inl (mc24, 4, .inl mf24)), (m25, .inl (mc25, 10, .inl mf25)), (m28, .inl (mc28, 10, .inl l28)), (m29, .inl (mc29, 10, .inl S29_4)), (m30, .inl (mc30, 10, .inl l30)), (m31, .inl (mc31, 10, .inl l31)), (m32, .inl (mc32, 10, .inl l32)), (m33, .inl (mc33, 10, .inl l33)), (m34, .inl (mc34, 10, .inl l34)), (m35, .inl (mc35, 10, .inl l35)), (m36, .inl (mc36, 10, .inl l36)), (m40, .inl (mc40, 20, .inl mf40)), (m41, .inl (mc41, 20, .inl mf41)), (m42, .inl (mc42, 20, .inl mf42)), (m43, .inl (mc43, 20, .inl mf43)), (m44, .inl (mc44, 20, .inl mf44)), (m46, .inl (mc46, 14, .inr (.inl mf46))), (m47, .inl (mc47, 6, .inl mf47)), (m48, .inl (mc48, 6, .inl mf48)), (m49, .inl (mc49, 6, .inl mf49)), (m50, .inl (mc50, 6, .inl mf50))]) hP hD hS hA [0, 1, 2, 3, 4, 5, 6, 7, 8, 9, 10, 11, 12, 13, 14, 15, 16, 17, 18, 19, 20, 21, 22, 23, 24, 25, 26, 27, 28, 29, 30] rfl kc_nd_772 rfl
        have hPc := hCu.1
        have hDc := hCu.2.1
        have hFc := hCu.2.2
        have hKc := hK.sb (tys2 := [(mc1, .byte), (mc2, .byte), (mc3, .int), (mc4, .int), (mc19, .int), (mc20, .int), (mc21, .int), (mc22, .int), (mc23, .int), (mc24, .int), (mc25, .boolean), (mc28, .int), (mc29, .int), (mc30, .int), (mc31, .int), (mc32, .int), (mc33, .int), (mc34, .int), (mc35, .int), (mc36, .int), (mc40, .int), (mc41, .int), (mc42, .int), (mc43, .int), (mc44, .int), (mc46, .long), (mc47, .int), (mc48, .int), (mc49, .int), (mc50, .int)]) [0, 1, 2, 3, 4, 5, 6, 7, 8, 9, 10, 11, 12, 13, 14, 15, 16, 17, 18, 19, 20, 21, 22, 23, 24, 25, 26, 27, 28, 29] rfl
        refine va_callv (va_runV (As := [.int (nI (pl)), .int (nI (h9))]) (rest := []) ⟨hx, hb, hml, hown, hts⟩ (s_goOn10x l dC dI jM th (kEvb (mps)) lxx (lv5 : Value) (lv9 : Value) (lv10 : Value) (lv11 : Value) (lv12 : Value) (lv13 : Value) (lv14 : Value) (lv15 : Value) (lv16 : Value) (lv17 : Value) (lv18 : Value) m1 m2 m3 m4 m19 m20 m21 m22 m23 m24 m25 m28 m29 m30 m31 m32 m33 m34 m35 m36 m40 m41 m42 m43 m44 m46 m47 m48 m49 m50 mc1 mc2 mc3 mc4 mc19 mc20 mc21 mc22 mc23 mc24 mc25 mc28 mc29 mc30 mc31 mc32 mc33 mc34 mc35 mc36 mc40 mc41 mc42 mc43 mc44 mc46 mc47 mc48 mc49 mc50 mf1 mf2 mf3 l4 mf19 mf20 mf21 mf22 mf23 mf24 mf25 l28 S29_4 l30 l31 l32 l33 l34 l35 l36 mf40 mf41 mf42 mf43 mf44 mf46 mf47 mf48 mf49 mf50 ml mkl mku mps mkw lho mkn mka bd_1 hmkl hmku hmps hmkw bd_18 hmkn hmka ad bA nA xA hnA bB nB xB hnB bE nE xE hnE bG nG xG hnG gnA gnB gnE gnG hzA hzB hzE hzG hlB hlG yL yU hUl hUt pl hpl h9 bd_19 (by omega) (kE0 mps mkw G3 G4 SV (kPrs mps 0) (yL pl)) (kIt (kE0 mps mkw G3 G4 SV (kPrs mps 0) (yL pl)) (h9 - 1) (kS0 G0 G1 G2 p1)) (kTd_E hTd (by omega) (kPrs0 mps).symm) ivk_12_1 (kOk_it (show kOk mps (kS0 G0 G1 G2 p1) from hOk0) _) (by rw [kIt_hr]; show 0 + _ = _; omega) ivk_12_2 rfl hA9 hB9 H.size) (cwV 2 hts (kG (List.forall_mem_cons.mpr ⟨(List.mem_cons_of_mem _ (List.mem_append_left _ (List.mem_of_getElem? (i := 9) rfl))), (List.forall_mem_cons.mpr ⟨(List.mem_cons_of_mem _ (List.mem_append_left _ (List.mem_of_getElem? (i := 8) rfl))), (List.forall_mem_cons.mpr ⟨(List.mem_cons_of_mem _ (List.mem_append_left _ (List.mem_of_getElem? (i := 7) rfl))), (List.forall_mem_cons.mpr ⟨(List.mem_cons_of_mem _ (List.mem_append_left _ (List.mem_of_getElem? (i := 0) rfl))), (fun _ h => absurd h List.not_mem_nil)⟩)⟩)⟩)⟩) (kGV _ _ _ _) (fun _ h => List.mem_cons_of_mem _ (List.mem_append_right _ (List.mem_append_right _ (List.mem_append_right _ (List.mem_append_left _ h))))) gw_s_goOn10x) rfl rfl rfl ⟨rfl, hd_X10_goOn⟩ ⟨(Nat.le_of_ble_eq_true rfl), (Nat.le_of_ble_eq_true rfl)⟩) (kW_V kMx_blind (kMx_give hX hS hFc) (va_recv hKc hPc (ci := 10) (q0 := 0) rfl rfl) hPc hKc hDc) rfl rfl hl.1 rfl (lv_room (Nat.le_of_ble_eq_true rfl)) dX10_fitsAll_23 ⟨(Nat.le_of_ble_eq_true rfl), (Nat.le_of_ble_eq_true rfl)⟩) hS (fun q _ h => hFc q h) hFc (kU22 (fun S4_20 S28_21 S30_22 S31_23 S32_24 S33_25 S34_26 S35_27 S36_28 Ho_29 Xx_30 W5_31 W9_32 W10_33 W11_34 W12_35 W13_36 W14_37 W15_38 W16_39 W17_40 W18_41 t H_42 locs ht hvm hw hB hz1 hk1 hS => ?_))
        try dsimp only at hw
        have hPD : kPD dC dI A [(jM, .inr (10, [.int th, .ref m1, .ref m2, .ref m3, .ref m4, W5_31, .int (nI (ml)), .int (nI (mkl)), .int (nI (mku)), W9_32, W10_33, W11_34, W12_35, W13_36, W14_37, W15_38, W16_39, W17_40, W18_41, .ref m19, .ref m20, .ref m21, .ref m22, .ref m23, .ref m24, .ref m25, .int (nI (mps)), .int (nI (mkw)), .ref m28, .ref m29, .ref m30, .ref m31, .ref m32, .ref m33, .ref m34, .ref m35, .ref m36, .int (kEvb (mps)), .int (nI (Ho_29)), .long Xx_30, .ref m40, .ref m41, .ref m42, .ref m43, .ref m44, .int (nI (mkn)), .ref m46, .ref m47, .ref m48, .ref m49, .ref m50, .int (nI (mka))])), (m1, .inl (mc1, 120, .inl mf1)), (m2, .inl (mc2, 1680, .inl mf2)), (m3, .inl (mc3, 14, .inl mf3)), (m4, .inl (mc4, 128, .inl S4_20)), (m19, .inl (mc19, 10, .inl mf19)), (m20, .inl (mc20, 10, .inl mf20)), (m21, .inl (mc21, 10, .inl mf21)), (m22, .inl (mc22, 10, .inl mf22)), (m23, .inl (mc23, 10, .inl mf23)), (m24, .inl (mc24, 4, .inl mf24)), (m25, .inl (mc25, 10, .inl mf25)), (m28, .inl (mc28, 10, .inl S28_21)), (m29, .inl (mc29, 10, .inl S29_4)), (m30, .inl (mc30, 10, .inl S30_22)), (m31, .inl (mc31, 10, .inl S31_23)), (m32, .inl (mc32, 10, .inl S32_24)), (m33, .inl (mc33, 10, .inl S33_25)), (m34, .inl (mc34, 10, .inl S34_26)), (m35, .inl (mc35, 10, .inl S35_27)), (m36, .inl (mc36, 10, .inl S36_28)), (m40, .inl (mc40, 20, .inl mf40)), (m41, .inl (mc41, 20, .inl mf41)), (m42, .inl (mc42, 20, .inl mf42)), (m43, .inl (mc43, 20, .inl mf43)), (m44, .inl (mc44, 20, .inl mf44)), (m46, .inl (mc46, 14, .inr (.inl mf46))), (m47, .inl (mc47, 6, .inl mf47)), (m48, .inl (mc48, 6, .inl mf48)), (m49, .inl (mc49, 6, .inl mf49)), (m50, .inl (mc50, 6, .inl mf50))] H_42 := kJoinX hP hD [0, 1, 2, 3, 4, 5, 6, 7, 8, 9, 10, 11, 12, 13, 14, 15, 16, 17, 18, 19, 20, 21, 22, 23, 24, 25, 26, 27, 28, 29, 30] rfl hk1 hFc hB.1 ht hB.2.2 rfl [some 0, some 1, some 2, some 3, some 4, some 5, some 6, some 7, some 8, some 9, some 10, some 11, some 12, some 13, some 14, some 15, some 16, some 17, some 18, some 19, some 20, some 21, some 22, some 23, some 24, some 25, some 26, some 27, some 28, some 29, some 30] rfl rfl
        obtain ⟨hP, hD⟩ := hPD
        have hw_43 := hw
        have hw_43_0 := hw_43.2.2
        have hG9 : kRp mps (kIt (kE0 mps mkw G3 G4 SV (kPrs mps 0) (yL pl)) h9 (kS0 G0 G1 G2 p1)) S28_21 S29_4 S30_22 S31_23 := by have h8 := hw_43.1; rw [kIt_j (c := h9) (by omega)] at h8; exact h8
        have hX9 := hw_43.2.1
        rw [kIt_j (c := h9) (by omega)] at hX9
        refine lv_iconst (v := 0) hx hb dX10_fitsAll_26 kc_i_0 ?_
        refine lv_istore hx hb dX10_fitsAll_27 hl kc_l_6_7 (kTo [(6, .int 0), (5, .int (nI (h9))), (0, .ref jM), (1, .int (nI (pl))), (2, .long p1), (4, .int p2)]) (fun ls hl => ?_)
        have lp_k_44 : ∀ (n9 : Nat) (i9 : Nat) (ivk_44_0 : i9 ≤ mkn) (ivk_44_1 : kAgB (kIt (kE0 mps mkw G3 G4 SV (kPrs mps 0) (yL pl)) h9 (kS0 G0 G1 G2 p1)) (kAbN p2 mf21 mf40 mps) mf40 mf41 mf42 mf43 mf44 (nI (h9)) i9 = true) (H : Heap) (locs : List Loc) (_ : va_P (dC, dI) vwCl [(jM, .inr (10, [.int th, .ref m1, .ref m2, .ref m3, .ref m4, W5_31, .int (nI (ml)), .int (nI (mkl)), .int (nI (mku)), W9_32, W10_33, W11_34, W12_35, W13_36, W14_37, W15_38, W16_39, W17_40, W18_41, .ref m19, .ref m20, .ref m21, .ref m22, .ref m23, .ref m24, .ref m25, .int (nI (mps)), .int (nI (mkw)), .ref m28, .ref m29, .ref m30, .ref m31, .ref m32, .ref m33, .ref m34, .ref m35, .ref m36, .int (kEvb (mps)), .int (nI (Ho_29)), .long Xx_30, .ref m40, .ref m41, .ref m42, .ref m43, .ref m44, .int (nI (mkn)), .ref m46, .ref m47, .ref m48, .ref m49, .ref m50, .int (nI (mka))])), (m1, .inl (mc1, 120, .inl mf1)), (m2, .inl (mc2, 1680, .inl mf2)), (m3, .inl (mc3, 14, .inl mf3)), (m4, .inl (mc4, 128, .inl S4_20)), (m19, .inl (mc19, 10, .inl mf19)), (m20, .inl (mc20, 10, .inl mf20)), (m21, .inl (mc21, 10, .inl mf21)), (m22, .inl (mc22, 10, .inl mf22)), (m23, .inl (mc23, 10, .inl mf23)), (m24, .inl (mc24, 4, .inl mf24)), (m25, .inl (mc25, 10, .inl mf25)), (m28, .inl (mc28, 10, .inl S28_21)), (m29, .inl (mc29, 10, .inl S29_4)), (m30, .inl (mc30, 10, .inl S30_22)), (m31, .inl (mc31, 10, .inl S31_23)), (m32, .inl (mc32, 10, .inl S32_24)), (m33, .inl (mc33, 10, .inl S33_25)), (m34, .inl (mc34, 10, .inl S34_26)), (m35, .inl (mc35, 10, .inl S35_27)), (m36, .inl (mc36, 10, .inl S36_28)), (m40, .inl (mc40, 20, .inl mf40)), (m41, .inl (mc41, 20, .inl mf41)), (m42, .inl (mc42, 20, .inl mf42)), (m43, .inl (mc43, 20, .inl mf43)), (m44, .inl (mc44, 20, .inl mf44)), (m46, .inl (mc46, 14, .inr (.inl mf46))), (m47, .inl (mc47, 6, .inl mf47)), (m48, .inl (mc48, 6, .inl mf48)), (m49, .inl (mc49, 6, .inl mf49)), (m50, .inl (mc50, 6, .inl mf50))] H) (_ : va_D A [(jM, .inr (10, [.int th, .ref m1, .ref m2, .ref m3, .ref m4, W5_31, .int (nI (ml)), .int (nI (mkl)), .int (nI (mku)), W9_32, W10_33, W11_34, W12_35, W13_36, W14_37, W15_38, W16_39, W17_40, W18_41, .ref m19, .ref m20, .ref m21, .ref m22, .ref m23, .ref m24, .ref m25, .int (nI (mps)), .int (nI (mkw)), .ref m28, .ref m29, .ref m30, .ref m31, .ref m32, .ref m33, .ref m34, .ref m35, .ref m36, .int (kEvb (mps)), .int (nI (Ho_29)), .long Xx_30, .ref m40, .ref m41, .ref m42, .ref m43, .ref m44, .int (nI (mkn)), .ref m46, .ref m47, .ref m48, .ref m49, .ref m50, .int (nI (mka))])), (m1, .inl (mc1, 120, .inl mf1)), (m2, .inl (mc2, 1680, .inl mf2)), (m3, .inl (mc3, 14, .inl mf3)), (m4, .inl (mc4, 128, .inl S4_20)), (m19, .inl (mc19, 10, .inl mf19)), (m20, .inl (mc20, 10, .inl mf20)), (m21, .inl (mc21, 10, .inl mf21)), (m22, .inl (mc22, 10, .inl mf22)), (m23, .inl (mc23, 10, .inl mf23)), (m24, .inl (mc24, 4, .inl mf24)), (m25, .inl (mc25, 10, .inl mf25)), (m28, .inl (mc28, 10, .inl S28_21)), (m29, .inl (mc29, 10, .inl S29_4)), (m30, .inl (mc30, 10, .inl S30_22)), (m31, .inl (mc31, 10, .inl S31_23)), (m32, .inl (mc32, 10, .inl S32_24)), (m33, .inl (mc33, 10, .inl S33_25)), (m34, .inl (mc34, 10, .inl S34_26)), (m35, .inl (mc35, 10, .inl S35_27)), (m36, .inl (mc36, 10, .inl S36_28)), (m40, .inl (mc40, 20, .inl mf40)), (m41, .inl (mc41, 20, .inl mf41)), (m42, .inl (mc42, 20, .inl mf42)), (m43, .inl (mc43, 20, .inl mf43)), (m44, .inl (mc44, 20, .inl mf44)), (m46, .inl (mc46, 14, .inr (.inl mf46))), (m47, .inl (mc47, 6, .inl mf47)), (m48, .inl (mc48, 6, .inl mf48)), (m49, .inl (mc49, 6, .inl mf49)), (m50, .inl (mc50, 6, .inl mf50))]) (_ : va_S A s.heap H locs) (ls : Array Slot) (_ : lv_has ls 7 [(6, .int (nI (i9))), (5, .int (nI (h9))), (0, .ref jM), (1, .int (nI (pl))), (2, .long p1), (4, .int p2)]) (_ : mkn - i9 < n9), W p l e (headSpec w_s_fitsAll10 ({ frames := 62, cells := 0, slots := 0, locals := 3720 })).room s m (#[.ref jM, .int (nI (pl)), .long p1, .int p2] : Array Value) below meth c H locs 0 0 Q (F0 m 29 ls []) := by
          intro n9
          induction n9 with
          | zero => intro i9 ivk_44_0 ivk_44_1 H locs hP hD hS ls hl hm9; exact absurd hm9 (Nat.not_lt_zero _)
          | succ n9 ih_k_44 =>
            intro i9 ivk_44_0 ivk_44_1 H locs hP hD hS ls hl hm9
            refine lv_iload hx hb dX10_fitsAll_29 (lv_at hl 0 rfl) ?_
            refine lv_aload_n hx hb dX10_fitsAll_31 rfl (lv_at hl 2 rfl) ?_
            refine va_get (D := (dC, dI)) (ci := 10) (v := .int (nI (mkn))) (C := RX10) (T := TX10) (N := 52) hx hb hts (fun _ h => List.mem_cons_of_mem _ (List.mem_append_right _ (List.mem_append_right _ (List.mem_append_right _ (List.mem_append_right _ (List.mem_append_left _ h)))))) hown hK hP 0 rfl rfl 45 kc_l_45_52 (hts (.fieldLink RX10 331 "NotEndedModel" "notes" "I") (List.mem_cons_of_mem _ (List.mem_append_left _ (List.mem_of_getElem? (i := 10) rfl)))) (fun _ h9 => h9) rfl dX10_fitsAll_32 ?_
            refine lv_icmp_ge (tgt := 86) hx hb dX10_fitsAll_35 kc_t_35_51 (fun c_45 => ?_) (fun c_45 => ?_)
            · have bd_47 : mkn < 2147483648 := by omega
              have bd_48 : i9 < 2147483648 := by omega
              have hn_46 := kle (a := mkn) (b := i9) bd_47 bd_48 c_45
              have hi9k : i9 = mkn := by omega
              have hAg9 := ivk_44_1
              rw [hi9k] at hAg9
              refine lv_iinc (v := nI (h9 + 1)) hx hb dX10_fitsAll_86 hl (k := 1) rfl (kInc _ 1) kc_l_5_7 (kTo [(5, .int (nI (h9 + 1))), (6, .int (nI (i9))), (0, .ref jM), (1, .int (nI (pl))), (2, .long p1), (4, .int p2)]) (fun ls hl => ?_)
              refine lv_goto (tgt := 12) hx hb dX10_fitsAll_89 kc_t_89_m77 ?_
              exact ih_k_12 (h9 + 1) S4_20 S28_21 S30_22 S31_23 S32_24 S33_25 S34_26 S35_27 S36_28 (W5_31 : Value) (W9_32 : Value) (W10_33 : Value) (W11_34 : Value) (W12_35 : Value) (W13_36 : Value) (W14_37 : Value) (W15_38 : Value) (W16_39 : Value) (W17_40 : Value) (W18_41 : Value) Xx_30 Ho_29 (by omega) (by rw [Nat.add_sub_cancel]; exact hG9) (by rw [Nat.add_sub_cancel]; exact hX9) (by omega) (kNt_t ivk_12_4 hAg9) _ _ hP hD hS ls (lv_sub hl [0, 2, 3, 4, 5] rfl) (by omega)
            · have bd_50 : mkn < 2147483648 := by omega
              have bd_51 : i9 < 2147483648 := by omega
              have hn_49 := knle (a := mkn) (b := i9) bd_50 bd_51 c_45
              refine lv_aload_n hx hb dX10_fitsAll_38 rfl (lv_at hl 2 rfl) ?_
              refine va_get (D := (dC, dI)) (ci := 10) (v := .ref m41) (C := RX10) (T := TX10) (N := 52) hx hb hts (fun _ h => List.mem_cons_of_mem _ (List.mem_append_right _ (List.mem_append_right _ (List.mem_append_right _ (List.mem_append_right _ (List.mem_append_left _ h)))))) hown hK hP 0 rfl rfl 41 kc_l_41_52 (hts (.fieldLink RX10 89 "NotEndedModel" "noteHour" "[I") (List.mem_cons_of_mem _ (List.mem_append_left _ (List.mem_of_getElem? (i := 11) rfl)))) (fun _ h9 => h9) rfl dX10_fitsAll_39 ?_
              refine lv_iload hx hb dX10_fitsAll_42 (lv_at hl 0 rfl) ?_
              have bd_52 : i9 < 20 := by omega
              refine va_iald hx hb hK hP 22 21 rfl rfl (vp_in_nI (n := i9) (N := 20) bd_52 kc_31_20) dX10_fitsAll_44 ?_
              refine lv_topi (fun x_53 ex_53 => ?_)
              have hh9 : x_53 = mf41 i9 := by rw [ex_53, nI_clamp (n := i9) (by omega)]
              refine lv_iload hx hb dX10_fitsAll_45 (lv_at hl 1 rfl) ?_
              refine lv_icmp_ne (tgt := 80) hx hb dX10_fitsAll_47 kc_t_47_33 (fun c_54 => ?_) (fun c_54 => ?_)
              · refine lv_iinc (v := nI (i9 + 1)) hx hb dX10_fitsAll_80 hl (k := 0) rfl (kInc _ 1) kc_l_6_7 (kTo [(6, .int (nI (i9 + 1))), (5, .int (nI (h9))), (0, .ref jM), (1, .int (nI (pl))), (2, .long p1), (4, .int p2)]) (fun ls hl => ?_)
                refine lv_goto (tgt := 29) hx hb dX10_fitsAll_83 kc_t_83_m54 ?_
                exact ih_k_44 (i9 + 1) (by omega) (kAg_t (fun z _ => absurd (hh9.trans z) c_54) ivk_44_1) _ _ hP hD hS ls (lv_sub hl [0, 1, 2, 3, 4, 5] rfl) (by omega)
              · refine lv_iload hx hb dX10_fitsAll_50 (lv_at hl 5 rfl) ?_
                refine lv_if_eq (tgt := 69) hx hb dX10_fitsAll_52 kc_t_52_17 (fun c_55 => ?_) (fun c_55 => ?_)
                · refine lv_aload_n hx hb dX10_fitsAll_69 rfl (lv_at hl 2 rfl) ?_
                  refine lv_iload hx hb dX10_fitsAll_70 (lv_at hl 0 rfl) ?_
                  have bd_56 : Ho_29 ≤ 48 := by omega
                  have bd_57 : i9 < mkn := by omega
                  have hPc := hP.sb (ws2 := [(jM, .inr (10, [.int th, .ref m1, .ref m2, .ref m3, .ref m4, W5_31, .int (nI (ml)), .int (nI (mkl)), .int (nI (mku)), W9_32, W10_33, W11_34, W12_35, W13_36, W14_37, W15_38, W16_39, W17_40, W18_41, .ref m19, .ref m20, .ref m21, .ref m22, .ref m23, .ref m24, .ref m25, .int (nI (mps)), .int (nI (mkw)), .ref m28, .ref m29, .ref m30, .ref m31, .ref m32, .ref m33, .ref m34, .ref m35, .ref m36, .int (kEvb (mps)), .int (nI (Ho_29)), .long Xx_30, .ref m40, .ref m41, .ref m42, .ref m43, .ref m44, .int (nI (mkn)), .ref m46, .ref m47, .ref m48, .ref m49, .ref m50, .int (nI (mka))])), (m1, .inl (mc1, 120, .inl mf1)), (m2, .inl (mc2, 1680, .inl mf2)), (m3, .inl (mc3, 14, .inl mf3)), (m4, .inl (mc4, 128, .inl S4_20)), (m19, .inl (mc19, 10, .inl mf19)), (m20, .inl (mc20, 10, .inl mf20)), (m21, .inl (mc21, 10, .inl mf21)), (m22, .inl (mc22, 10, .inl mf22)), (m23, .inl (mc23, 10, .inl mf23)), (m24, .inl (mc24, 4, .inl mf24)), (m25, .inl (mc25, 10, .inl mf25)), (m28, .inl (mc28, 10, .inl S28_21)), (m29, .inl (mc29, 10, .inl S29_4)), (m30, .inl (mc30, 10, .inl S30_22)), (m31, .inl (mc31, 10, .inl S31_23)), (m32, .inl (mc32, 10, .inl S32_24)), (m33, .inl (mc33, 10, .inl S33_25)), (m34, .inl (mc34, 10, .inl S34_26)), (m35, .inl (mc35, 10, .inl S35_27)), (m36, .inl (mc36, 10, .inl S36_28)), (m40, .inl (mc40, 20, .inl mf40)), (m41, .inl (mc41, 20, .inl mf41)), (m42, .inl (mc42, 20, .inl mf42)), (m43, .inl (mc43, 20, .inl mf43)), (m44, .inl (mc44, 20, .inl mf44)), (m46, .inl (mc46, 14, .inr (.inl mf46))), (m47, .inl (mc47, 6, .inl mf47)), (m48, .inl (mc48, 6, .inl mf48)), (m49, .inl (mc49, 6, .inl mf49)), (m50, .inl (mc50, 6, .inl mf50))]) [0, 1, 2, 3, 4, 5, 6, 7, 8, 9, 10, 11, 12, 13, 14, 15, 16, 17, 18, 19, 20, 21, 22, 23, 24, 25, 26, 27, 28, 29, 30] rfl
                  have hKc := hK.sb (tys2 := [(mc1, .byte), (mc2, .byte), (mc3, .int), (mc4, .int), (mc19, .int), (mc20, .int), (mc21, .int), (mc22, .int), (mc23, .int), (mc24, .int), (mc25, .boolean), (mc28, .int), (mc29, .int), (mc30, .int), (mc31, .int), (mc32, .int), (mc33, .int), (mc34, .int), (mc35, .int), (mc36, .int), (mc40, .int), (mc41, .int), (mc42, .int), (mc43, .int), (mc44, .int), (mc46, .long), (mc47, .int), (mc48, .int), (mc49, .int), (mc50, .int)]) [0, 1, 2, 3, 4, 5, 6, 7, 8, 9, 10, 11, 12, 13, 14, 15, 16, 17, 18, 19, 20, 21, 22, 23, 24, 25, 26, 27, 28, 29] rfl
                  refine vp_callSi (va_runV (As := [.int (nI (i9))]) (rest := []) ⟨hx, hb, hml, hown, hts⟩ (s_isSo10x l dC dI jM th (kEvb (mps)) Xx_30 (W5_31 : Value) (W9_32 : Value) (W10_33 : Value) (W11_34 : Value) (W12_35 : Value) (W13_36 : Value) (W14_37 : Value) (W15_38 : Value) (W16_39 : Value) (W17_40 : Value) (W18_41 : Value) m1 m2 m3 m4 m19 m20 m21 m22 m23 m24 m25 m28 m29 m30 m31 m32 m33 m34 m35 m36 m40 m41 m42 m43 m44 m46 m47 m48 m49 m50 mc1 mc2 mc3 mc4 mc19 mc20 mc21 mc22 mc23 mc24 mc25 mc28 mc29 mc30 mc31 mc32 mc33 mc34 mc35 mc36 mc40 mc41 mc42 mc43 mc44 mc46 mc47 mc48 mc49 mc50 mf1 mf2 mf3 S4_20 mf19 mf20 mf21 mf22 mf23 mf24 mf25 S28_21 S29_4 S30_22 S31_23 S32_24 S33_25 S34_26 S35_27 S36_28 mf40 mf41 mf42 mf43 mf44 mf46 mf47 mf48 mf49 mf50 ml mkl mku mps mkw Ho_29 mkn mka bd_1 hmkl hmku hmps hmkw bd_56 hmkn hmka hNp (kIt (kE0 mps mkw G3 G4 SV (kPrs mps 0) (yL pl)) h9 (kS0 G0 G1 G2 p1)) hG9 i9 bd_57) (cwV 1 hts (kG (List.forall_mem_cons.mpr ⟨(List.mem_cons_of_mem _ (List.mem_append_left _ (List.mem_of_getElem? (i := 14) rfl))), (List.forall_mem_cons.mpr ⟨(List.mem_cons_of_mem _ (List.mem_append_left _ (List.mem_of_getElem? (i := 13) rfl))), (List.forall_mem_cons.mpr ⟨(List.mem_cons_of_mem _ (List.mem_append_left _ (List.mem_of_getElem? (i := 12) rfl))), (List.forall_mem_cons.mpr ⟨(List.mem_cons_of_mem _ (List.mem_append_left _ (List.mem_of_getElem? (i := 0) rfl))), (fun _ h => absurd h List.not_mem_nil)⟩)⟩)⟩)⟩) (kGV _ _ _ _) (fun _ h => List.mem_cons_of_mem _ (List.mem_append_right _ (List.mem_append_right _ (List.mem_append_right _ (List.mem_append_right _ (List.mem_append_right _ (List.mem_append_left _ h))))))) gw_s_isSo10x) rfl rfl rfl ⟨rfl, hd_X10_isSo⟩ ⟨(Nat.le_of_ble_eq_true rfl), (Nat.le_of_ble_eq_true rfl)⟩) (kR_V kT_blind kT_give (va_recv hKc hPc (ci := 10) (q0 := 0) rfl rfl) hPc hKc) rfl rfl hl.1 rfl (lv_room (Nat.le_of_ble_eq_true rfl)) dX10_fitsAll_72 ⟨(Nat.le_of_ble_eq_true rfl), (Nat.le_of_ble_eq_true rfl)⟩).run (fun r_58 hw => ?_)
                  have hw_59 := hw
                  refine lv_if_ne (tgt := 80) hx hb dX10_fitsAll_75 kc_t_75_5 (fun c_60 => ?_) (fun c_60 => ?_)
                  · refine lv_iinc (v := nI (i9 + 1)) hx hb dX10_fitsAll_80 hl (k := 0) rfl (kInc _ 1) kc_l_6_7 (kTo [(6, .int (nI (i9 + 1))), (5, .int (nI (h9))), (0, .ref jM), (1, .int (nI (pl))), (2, .long p1), (4, .int p2)]) (fun ls hl => ?_)
                    refine lv_goto (tgt := 29) hx hb dX10_fitsAll_83 kc_t_83_m54 ?_
                    exact ih_k_44 (i9 + 1) (by omega) (kAg_t (fun _ _ => hw_59.mp c_60) ivk_44_1) _ _ hP hD hS ls (lv_sub hl [0, 1, 2, 3, 4, 5] rfl) (by omega)
                  · refine lv_iconst (v := 0) hx hb dX10_fitsAll_78 kc_i_0 ?_
                    have hP9 := hP
                    have hD9 := hD
                    have hK9 := hK
                    rw [hQ]
                    exact W.zret (v := 0) hx hb hr rfl (fun t ht hW => ⟨⟨0, (S4_20, S28_21, S29_4, S30_22, S31_23, S32_24, S33_25, S34_26, S35_27, S36_28, (kEvb (mps)), Ho_29, Xx_30, (W5_31 : Value), (W9_32 : Value), (W10_33 : Value), (W11_34 : Value), (W12_35 : Value), (W13_36 : Value), (W14_37 : Value), (W15_38 : Value), (W16_39 : Value), (W17_40 : Value), (W18_41 : Value)), rfl, ⟨⟨fun z => absurd rfl z, fun z => absurd (kNt_m 49 (show h9 + 1 ≤ 49 by omega) z) (kNt_f (fun y => absurd (kAg_m mkn (show i9 + 1 ≤ mkn by omega) y) (kAg_f (hh9.symm.trans c_54) (if_pos c_55) (fun u => hw_59.mpr u c_60))))⟩, by omega⟩,  by rw [ht]; exact hP9, va_K.moved hW.alike hK9, hD9⟩, hS.F ht⟩) hS.2.2 dX10_fitsAll_79
                · refine lv_aload_n hx hb dX10_fitsAll_55 rfl (lv_at hl 2 rfl) ?_
                  refine lv_aload_n hx hb dX10_fitsAll_56 rfl (lv_at hl 2 rfl) ?_
                  refine va_get (D := (dC, dI)) (ci := 10) (v := .ref m40) (C := RX10) (T := TX10) (N := 52) hx hb hts (fun _ h => List.mem_cons_of_mem _ (List.mem_append_right _ (List.mem_append_right _ (List.mem_append_right _ (List.mem_append_right _ (List.mem_append_left _ h)))))) hown hK hP 0 rfl rfl 40 kc_l_40_52 (hts (.fieldLink RX10 86 "NotEndedModel" "notePerson" "[I") (List.mem_cons_of_mem _ (List.mem_append_left _ (List.mem_of_getElem? (i := 15) rfl)))) (fun _ h9 => h9) rfl dX10_fitsAll_57 ?_
                  refine lv_iload hx hb dX10_fitsAll_60 (lv_at hl 0 rfl) ?_
                  refine va_iald hx hb hK hP 21 20 rfl rfl (vp_in_nI (n := i9) (N := 20) bd_52 kc_31_20) dX10_fitsAll_62 ?_
                  refine lv_topi (fun x_61 ex_61 => ?_)
                  obtain ⟨v8, hv8, ev8⟩ := hNp i9 (by omega)
                  rw [nI_clamp (n := i9) (by omega), ev8] at ex_61
                  subst ex_61
                  have bd_62 : Ho_29 ≤ 48 := by omega
                  have bd_63 : v8 < mps := by omega
                  have hPc := hP.sb (ws2 := [(jM, .inr (10, [.int th, .ref m1, .ref m2, .ref m3, .ref m4, W5_31, .int (nI (ml)), .int (nI (mkl)), .int (nI (mku)), W9_32, W10_33, W11_34, W12_35, W13_36, W14_37, W15_38, W16_39, W17_40, W18_41, .ref m19, .ref m20, .ref m21, .ref m22, .ref m23, .ref m24, .ref m25, .int (nI (mps)), .int (nI (mkw)), .ref m28, .ref m29, .ref m30, .ref m31, .ref m32, .ref m33, .ref m34, .ref m35, .ref m36, .int (kEvb (mps)), .int (nI (Ho_29)), .long Xx_30, .ref m40, .ref m41, .ref m42, .ref m43, .ref m44, .int (nI (mkn)), .ref m46, .ref m47, .ref m48, .ref m49, .ref m50, .int (nI (mka))])), (m1, .inl (mc1, 120, .inl mf1)), (m2, .inl (mc2, 1680, .inl mf2)), (m3, .inl (mc3, 14, .inl mf3)), (m4, .inl (mc4, 128, .inl S4_20)), (m19, .inl (mc19, 10, .inl mf19)), (m20, .inl (mc20, 10, .inl mf20)), (m21, .inl (mc21, 10, .inl mf21)), (m22, .inl (mc22, 10, .inl mf22)), (m23, .inl (mc23, 10, .inl mf23)), (m24, .inl (mc24, 4, .inl mf24)), (m25, .inl (mc25, 10, .inl mf25)), (m28, .inl (mc28, 10, .inl S28_21)), (m29, .inl (mc29, 10, .inl S29_4)), (m30, .inl (mc30, 10, .inl S30_22)), (m31, .inl (mc31, 10, .inl S31_23)), (m32, .inl (mc32, 10, .inl S32_24)), (m33, .inl (mc33, 10, .inl S33_25)), (m34, .inl (mc34, 10, .inl S34_26)), (m35, .inl (mc35, 10, .inl S35_27)), (m36, .inl (mc36, 10, .inl S36_28)), (m40, .inl (mc40, 20, .inl mf40)), (m41, .inl (mc41, 20, .inl mf41)), (m42, .inl (mc42, 20, .inl mf42)), (m43, .inl (mc43, 20, .inl mf43)), (m44, .inl (mc44, 20, .inl mf44)), (m46, .inl (mc46, 14, .inr (.inl mf46))), (m47, .inl (mc47, 6, .inl mf47)), (m48, .inl (mc48, 6, .inl mf48)), (m49, .inl (mc49, 6, .inl mf49)), (m50, .inl (mc50, 6, .inl mf50))]) [0, 1, 2, 3, 4, 5, 6, 7, 8, 9, 10, 11, 12, 13, 14, 15, 16, 17, 18, 19, 20, 21, 22, 23, 24, 25, 26, 27, 28, 29, 30] rfl
                  have hKc := hK.sb (tys2 := [(mc1, .byte), (mc2, .byte), (mc3, .int), (mc4, .int), (mc19, .int), (mc20, .int), (mc21, .int), (mc22, .int), (mc23, .int), (mc24, .int), (mc25, .boolean), (mc28, .int), (mc29, .int), (mc30, .int), (mc31, .int), (mc32, .int), (mc33, .int), (mc34, .int), (mc35, .int), (mc36, .int), (mc40, .int), (mc41, .int), (mc42, .int), (mc43, .int), (mc44, .int), (mc46, .long), (mc47, .int), (mc48, .int), (mc49, .int), (mc50, .int)]) [0, 1, 2, 3, 4, 5, 6, 7, 8, 9, 10, 11, 12, 13, 14, 15, 16, 17, 18, 19, 20, 21, 22, 23, 24, 25, 26, 27, 28, 29] rfl
                  refine vp_callSi (va_runV (As := [.int (nI (v8))]) (rest := []) ⟨hx, hb, hml, hown, hts⟩ (s_isAlone10x l dC dI jM th (kEvb (mps)) Xx_30 (W5_31 : Value) (W9_32 : Value) (W10_33 : Value) (W11_34 : Value) (W12_35 : Value) (W13_36 : Value) (W14_37 : Value) (W15_38 : Value) (W16_39 : Value) (W17_40 : Value) (W18_41 : Value) m1 m2 m3 m4 m19 m20 m21 m22 m23 m24 m25 m28 m29 m30 m31 m32 m33 m34 m35 m36 m40 m41 m42 m43 m44 m46 m47 m48 m49 m50 mc1 mc2 mc3 mc4 mc19 mc20 mc21 mc22 mc23 mc24 mc25 mc28 mc29 mc30 mc31 mc32 mc33 mc34 mc35 mc36 mc40 mc41 mc42 mc43 mc44 mc46 mc47 mc48 mc49 mc50 mf1 mf2 mf3 S4_20 mf19 mf20 mf21 mf22 mf23 mf24 mf25 S28_21 S29_4 S30_22 S31_23 S32_24 S33_25 S34_26 S35_27 S36_28 mf40 mf41 mf42 mf43 mf44 mf46 mf47 mf48 mf49 mf50 ml mkl mku mps mkw Ho_29 mkn mka bd_1 hmkl hmku hmps hmkw bd_62 hmkn hmka v8 bd_63) (cwV 1 hts (kG (List.forall_mem_cons.mpr ⟨(List.mem_cons_of_mem _ (List.mem_append_left _ (List.mem_of_getElem? (i := 18) rfl))), (List.forall_mem_cons.mpr ⟨(List.mem_cons_of_mem _ (List.mem_append_left _ (List.mem_of_getElem? (i := 17) rfl))), (List.forall_mem_cons.mpr ⟨(List.mem_cons_of_mem _ (List.mem_append_left _ (List.mem_of_getElem? (i := 16) rfl))), (List.forall_mem_cons.mpr ⟨(List.mem_cons_of_mem _ (List.mem_append_left _ (List.mem_of_getElem? (i := 0) rfl))), (fun _ h => absurd h List.not_mem_nil)⟩)⟩)⟩)⟩) (kGV _ _ _ _) (fun _ h => List.mem_cons_of_mem _ (List.mem_append_right _ (List.mem_append_right _ (List.mem_append_right _ (List.mem_append_right _ (List.mem_append_right _ (List.mem_append_right _ h))))))) gw_s_isAlone10x) rfl rfl rfl ⟨rfl, hd_X10_isAlone⟩ ⟨(Nat.le_of_ble_eq_true rfl), (Nat.le_of_ble_eq_true rfl)⟩) (kR_V kT_blind kT_give (va_recv hKc hPc (ci := 10) (q0 := 0) rfl rfl) hPc hKc) rfl rfl hl.1 rfl (lv_room (Nat.le_of_ble_eq_true rfl)) dX10_fitsAll_63 ⟨(Nat.le_of_ble_eq_true rfl), (Nat.le_of_ble_eq_true rfl)⟩).run (fun r_64 hw => ?_)
                  have hw_65 := hw
                  refine lv_if_eq (tgt := 80) hx hb dX10_fitsAll_66 kc_t_66_14 (fun c_66 => ?_) (fun c_66 => ?_)
                  · refine lv_iinc (v := nI (i9 + 1)) hx hb dX10_fitsAll_80 hl (k := 0) rfl (kInc _ 1) kc_l_6_7 (kTo [(6, .int (nI (i9 + 1))), (5, .int (nI (h9))), (0, .ref jM), (1, .int (nI (pl))), (2, .long p1), (4, .int p2)]) (fun ls hl => ?_)
                    refine lv_goto (tgt := 29) hx hb dX10_fitsAll_83 kc_t_83_m54 ?_
                    exact ih_k_44 (i9 + 1) (by omega) (kAg_t (fun _ z => absurd z (kAbN_n c_55 ev8 (by omega) (fun y => hw_65.mpr y c_66))) ivk_44_1) _ _ hP hD hS ls (lv_sub hl [0, 1, 2, 3, 4, 5] rfl) (by omega)
                  · refine lv_aload_n hx hb dX10_fitsAll_69 rfl (lv_at hl 2 rfl) ?_
                    refine lv_iload hx hb dX10_fitsAll_70 (lv_at hl 0 rfl) ?_
                    have bd_67 : i9 < mkn := by omega
                    have hPc := hP.sb (ws2 := [(jM, .inr (10, [.int th, .ref m1, .ref m2, .ref m3, .ref m4, W5_31, .int (nI (ml)), .int (nI (mkl)), .int (nI (mku)), W9_32, W10_33, W11_34, W12_35, W13_36, W14_37, W15_38, W16_39, W17_40, W18_41, .ref m19, .ref m20, .ref m21, .ref m22, .ref m23, .ref m24, .ref m25, .int (nI (mps)), .int (nI (mkw)), .ref m28, .ref m29, .ref m30, .ref m31, .ref m32, .ref m33, .ref m34, .ref m35, .ref m36, .int (kEvb (mps)), .int (nI (Ho_29)), .long Xx_30, .ref m40, .ref m41, .ref m42, .ref m43, .ref m44, .int (nI (mkn)), .ref m46, .ref m47, .ref m48, .ref m49, .ref m50, .int (nI (mka))])), (m1, .inl (mc1, 120, .inl mf1)), (m2, .inl (mc2, 1680, .inl mf2)), (m3, .inl (mc3, 14, .inl mf3)), (m4, .inl (mc4, 128, .inl S4_20)), (m19, .inl (mc19, 10, .inl mf19)), (m20, .inl (mc20, 10, .inl mf20)), (m21, .inl (mc21, 10, .inl mf21)), (m22, .inl (mc22, 10, .inl mf22)), (m23, .inl (mc23, 10, .inl mf23)), (m24, .inl (mc24, 4, .inl mf24)), (m25, .inl (mc25, 10, .inl mf25)), (m28, .inl (mc28, 10, .inl S28_21)), (m29, .inl (mc29, 10, .inl S29_4)), (m30, .inl (mc30, 10, .inl S30_22)), (m31, .inl (mc31, 10, .inl S31_23)), (m32, .inl (mc32, 10, .inl S32_24)), (m33, .inl (mc33, 10, .inl S33_25)), (m34, .inl (mc34, 10, .inl S34_26)), (m35, .inl (mc35, 10, .inl S35_27)), (m36, .inl (mc36, 10, .inl S36_28)), (m40, .inl (mc40, 20, .inl mf40)), (m41, .inl (mc41, 20, .inl mf41)), (m42, .inl (mc42, 20, .inl mf42)), (m43, .inl (mc43, 20, .inl mf43)), (m44, .inl (mc44, 20, .inl mf44)), (m46, .inl (mc46, 14, .inr (.inl mf46))), (m47, .inl (mc47, 6, .inl mf47)), (m48, .inl (mc48, 6, .inl mf48)), (m49, .inl (mc49, 6, .inl mf49)), (m50, .inl (mc50, 6, .inl mf50))]) [0, 1, 2, 3, 4, 5, 6, 7, 8, 9, 10, 11, 12, 13, 14, 15, 16, 17, 18, 19, 20, 21, 22, 23, 24, 25, 26, 27, 28, 29, 30] rfl
                    have hKc := hK.sb (tys2 := [(mc1, .byte), (mc2, .byte), (mc3, .int), (mc4, .int), (mc19, .int), (mc20, .int), (mc21, .int), (mc22, .int), (mc23, .int), (mc24, .int), (mc25, .boolean), (mc28, .int), (mc29, .int), (mc30, .int), (mc31, .int), (mc32, .int), (mc33, .int), (mc34, .int), (mc35, .int), (mc36, .int), (mc40, .int), (mc41, .int), (mc42, .int), (mc43, .int), (mc44, .int), (mc46, .long), (mc47, .int), (mc48, .int), (mc49, .int), (mc50, .int)]) [0, 1, 2, 3, 4, 5, 6, 7, 8, 9, 10, 11, 12, 13, 14, 15, 16, 17, 18, 19, 20, 21, 22, 23, 24, 25, 26, 27, 28, 29] rfl
                    refine vp_callSi (va_runV (As := [.int (nI (i9))]) (rest := []) ⟨hx, hb, hml, hown, hts⟩ (s_isSo10x l dC dI jM th (kEvb (mps)) Xx_30 (W5_31 : Value) (W9_32 : Value) (W10_33 : Value) (W11_34 : Value) (W12_35 : Value) (W13_36 : Value) (W14_37 : Value) (W15_38 : Value) (W16_39 : Value) (W17_40 : Value) (W18_41 : Value) m1 m2 m3 m4 m19 m20 m21 m22 m23 m24 m25 m28 m29 m30 m31 m32 m33 m34 m35 m36 m40 m41 m42 m43 m44 m46 m47 m48 m49 m50 mc1 mc2 mc3 mc4 mc19 mc20 mc21 mc22 mc23 mc24 mc25 mc28 mc29 mc30 mc31 mc32 mc33 mc34 mc35 mc36 mc40 mc41 mc42 mc43 mc44 mc46 mc47 mc48 mc49 mc50 mf1 mf2 mf3 S4_20 mf19 mf20 mf21 mf22 mf23 mf24 mf25 S28_21 S29_4 S30_22 S31_23 S32_24 S33_25 S34_26 S35_27 S36_28 mf40 mf41 mf42 mf43 mf44 mf46 mf47 mf48 mf49 mf50 ml mkl mku mps mkw Ho_29 mkn mka bd_1 hmkl hmku hmps hmkw bd_62 hmkn hmka hNp (kIt (kE0 mps mkw G3 G4 SV (kPrs mps 0) (yL pl)) h9 (kS0 G0 G1 G2 p1)) hG9 i9 bd_67) (cwV 1 hts (kG (List.forall_mem_cons.mpr ⟨(List.mem_cons_of_mem _ (List.mem_append_left _ (List.mem_of_getElem? (i := 14) rfl))), (List.forall_mem_cons.mpr ⟨(List.mem_cons_of_mem _ (List.mem_append_left _ (List.mem_of_getElem? (i := 13) rfl))), (List.forall_mem_cons.mpr ⟨(List.mem_cons_of_mem _ (List.mem_append_left _ (List.mem_of_getElem? (i := 12) rfl))), (List.forall_mem_cons.mpr ⟨(List.mem_cons_of_mem _ (List.mem_append_left _ (List.mem_of_getElem? (i := 0) rfl))), (fun _ h => absurd h List.not_mem_nil)⟩)⟩)⟩)⟩) (kGV _ _ _ _) (fun _ h => List.mem_cons_of_mem _ (List.mem_append_right _ (List.mem_append_right _ (List.mem_append_right _ (List.mem_append_right _ (List.mem_append_right _ (List.mem_append_left _ h))))))) gw_s_isSo10x) rfl rfl rfl ⟨rfl, hd_X10_isSo⟩ ⟨(Nat.le_of_ble_eq_true rfl), (Nat.le_of_ble_eq_true rfl)⟩) (kR_V kT_blind kT_give (va_recv hKc hPc (ci := 10) (q0 := 0) rfl rfl) hPc hKc) rfl rfl hl.1 rfl (lv_room (Nat.le_of_ble_eq_true rfl)) dX10_fitsAll_72 ⟨(Nat.le_of_ble_eq_true rfl), (Nat.le_of_ble_eq_true rfl)⟩).run (fun r_68 hw => ?_)
                    have hw_69 := hw
                    refine lv_if_ne (tgt := 80) hx hb dX10_fitsAll_75 kc_t_75_5 (fun c_70 => ?_) (fun c_70 => ?_)
                    · refine lv_iinc (v := nI (i9 + 1)) hx hb dX10_fitsAll_80 hl (k := 0) rfl (kInc _ 1) kc_l_6_7 (kTo [(6, .int (nI (i9 + 1))), (5, .int (nI (h9))), (0, .ref jM), (1, .int (nI (pl))), (2, .long p1), (4, .int p2)]) (fun ls hl => ?_)
                      refine lv_goto (tgt := 29) hx hb dX10_fitsAll_83 kc_t_83_m54 ?_
                      exact ih_k_44 (i9 + 1) (by omega) (kAg_t (fun _ _ => hw_69.mp c_70) ivk_44_1) _ _ hP hD hS ls (lv_sub hl [0, 1, 2, 3, 4, 5] rfl) (by omega)
                    · refine lv_iconst (v := 0) hx hb dX10_fitsAll_78 kc_i_0 ?_
                      have hP9 := hP
                      have hD9 := hD
                      have hK9 := hK
                      rw [hQ]
                      exact W.zret (v := 0) hx hb hr rfl (fun t ht hW => ⟨⟨0, (S4_20, S28_21, S29_4, S30_22, S31_23, S32_24, S33_25, S34_26, S35_27, S36_28, (kEvb (mps)), Ho_29, Xx_30, (W5_31 : Value), (W9_32 : Value), (W10_33 : Value), (W11_34 : Value), (W12_35 : Value), (W13_36 : Value), (W14_37 : Value), (W15_38 : Value), (W16_39 : Value), (W17_40 : Value), (W18_41 : Value)), rfl, ⟨⟨fun z => absurd rfl z, fun z => absurd (kNt_m 49 (show h9 + 1 ≤ 49 by omega) z) (kNt_f (fun y => absurd (kAg_m mkn (show i9 + 1 ≤ mkn by omega) y) (kAg_f (hh9.symm.trans c_54) (kAbN_y c_55 ev8 (by omega) (hw_65.mp c_66)) (fun u => hw_69.mpr u c_70))))⟩, by omega⟩,  by rw [ht]; exact hP9, va_K.moved hW.alike hK9, hD9⟩, hS.F ht⟩) hS.2.2 dX10_fitsAll_79
        exact lp_k_44 (mkn - 0 + 1) 0 (by omega) rfl _ _ hP hD hS ls (lv_sub hl [0, 1, 2, 3, 4, 5] rfl) (by omega)
  exact lp_k_12 (49 - 0 + 1) 0 mf4 S28_3 S30_5 S31_6 mf32 mf33 mf34 mf35 mf36 ((v5 : Value) : Value) ((v9 : Value) : Value) ((v10 : Value) : Value) ((v11 : Value) : Value) ((v12 : Value) : Value) ((v13 : Value) : Value) ((v14 : Value) : Value) ((v15 : Value) : Value) ((v16 : Value) : Value) ((v17 : Value) : Value) ((v18 : Value) : Value) Xx_9 Ho_8 (by omega) (kRp_tr hw_11.2.1 (kTd_S hTd)) hw_11.2.2.2 (by omega) rfl _ _ hP hD hS ls (lv_sub hl [0, 1, 2, 3, 4] rfl) (by omega)

theorem dX10_fits_0 : decode cX10_fits 0 = .ok (.aload_n 0, 1) := by decide +kernel
theorem dX10_fits_1 : decode cX10_fits 1 = .ok (.iconst 0, 1) := by decide +kernel
theorem dX10_fits_2 : decode cX10_fits 2 = .ok (.putfield 117, 3) := by decide +kernel
theorem dX10_fits_5 : decode cX10_fits 5 = .ok (.iconst 0, 1) := by decide +kernel
theorem dX10_fits_6 : decode cX10_fits 6 = .ok (.istore 4, 2) := by decide +kernel
theorem dX10_fits_8 : decode cX10_fits 8 = .ok (.iconst 0, 1) := by decide +kernel
theorem dX10_fits_9 : decode cX10_fits 9 = .ok (.istore 5, 2) := by decide +kernel
theorem dX10_fits_11 : decode cX10_fits 11 = .ok (.iload 5, 2) := by decide +kernel
theorem dX10_fits_13 : decode cX10_fits 13 = .ok (.aload_n 0, 1) := by decide +kernel
theorem dX10_fits_14 : decode cX10_fits 14 = .ok (.getfield 244, 3) := by decide +kernel
theorem dX10_fits_17 : decode cX10_fits 17 = .ok (.if_icmp .ge 33, 3) := by decide +kernel
theorem dX10_fits_50 : decode cX10_fits 50 = .ok (.iload 4, 2) := by decide +kernel
theorem dX10_fits_52 : decode cX10_fits 52 = .ok (.ireturn, 1) := by decide +kernel
theorem dX10_fits_20 : decode cX10_fits 20 = .ok (.iload 4, 2) := by decide +kernel
theorem dX10_fits_22 : decode cX10_fits 22 = .ok (.aload_n 0, 1) := by decide +kernel
theorem dX10_fits_23 : decode cX10_fits 23 = .ok (.iload 5, 2) := by decide +kernel
theorem dX10_fits_25 : decode cX10_fits 25 = .ok (.lload_n 1, 1) := by decide +kernel
theorem dX10_fits_26 : decode cX10_fits 26 = .ok (.iload_n 3, 1) := by decide +kernel
theorem dX10_fits_27 : decode cX10_fits 27 = .ok (.invokevirtual 343, 3) := by decide +kernel
theorem dX10_fits_30 : decode cX10_fits 30 = .ok (.ifCond .eq 10, 3) := by decide +kernel
theorem dX10_fits_40 : decode cX10_fits 40 = .ok (.iconst 0, 1) := by decide +kernel
theorem dX10_fits_41 : decode cX10_fits 41 = .ok (.ior, 1) := by decide +kernel
theorem dX10_fits_42 : decode cX10_fits 42 = .ok (.istore 4, 2) := by decide +kernel
theorem dX10_fits_44 : decode cX10_fits 44 = .ok (.iinc 5 1, 3) := by decide +kernel
theorem dX10_fits_47 : decode cX10_fits 47 = .ok (.goto (-36), 3) := by decide +kernel
theorem dX10_fits_33 : decode cX10_fits 33 = .ok (.iconst 1, 1) := by decide +kernel
theorem dX10_fits_34 : decode cX10_fits 34 = .ok (.iload 5, 2) := by decide +kernel
theorem dX10_fits_36 : decode cX10_fits 36 = .ok (.ishl, 1) := by decide +kernel
theorem dX10_fits_37 : decode cX10_fits 37 = .ok (.goto 4, 3) := by decide +kernel
def w_s_fits10 : List Cond := .code yX10_fits cX10_fits 6 (some .int) :: ([.fieldLink RX10 117 "NotEndedModel" "thrown" "I", .fieldLink RX10 244 "NotEndedModel" "laws" "I", .initialized RX10, .selects RX10 yX10_fitsAll yX10_fitsAll, .instanceMethod yX10_fitsAll, .methodLink RX10 343 yX10_fitsAll] ++ (wsX100 ++ (w_s_fitsAll10)))
theorem gw_s_fits10 : (w_s_fits10).all goodWord = true := kGc rfl (kGa (by decide +kernel) (kGa gw_wsX100 gw_s_fitsAll10))
theorem hd_X10_fits : yX10_fits.cls ≠ "java/lang/invoke/MethodHandle" ∧ yX10_fits.cls ≠ "java/lang/invoke/VarHandle" ∧ (parseMethodDescriptor yX10_fits.desc).map (fun d => d.parameters.length) = some 2 := by decide +kernel
set_option maxHeartbeats 4000000 in
set_option maxRecDepth 100000 in
theorem s_fits10 (l : Launch) (dC : Nat → ClassId) (dI : Nat → Nat → Nat) (jM : Nat) (th : Int32) (thr : Int32) (xx : Int64) (v5 : Value) (v9 : Value) (v10 : Value) (v11 : Value) (v12 : Value) (v13 : Value) (v14 : Value) (v15 : Value) (v16 : Value) (v17 : Value) (v18 : Value) (m1 : Nat) (m2 : Nat) (m3 : Nat) (m4 : Nat) (m19 : Nat) (m20 : Nat) (m21 : Nat) (m22 : Nat) (m23 : Nat) (m24 : Nat) (m25 : Nat) (m28 : Nat) (m29 : Nat) (m30 : Nat) (m31 : Nat) (m32 : Nat) (m33 : Nat) (m34 : Nat) (m35 : Nat) (m36 : Nat) (m40 : Nat) (m41 : Nat) (m42 : Nat) (m43 : Nat) (m44 : Nat) (m46 : Nat) (m47 : Nat) (m48 : Nat) (m49 : Nat) (m50 : Nat) (mc1 : ClassId) (mc2 : ClassId) (mc3 : ClassId) (mc4 : ClassId) (mc19 : ClassId) (mc20 : ClassId) (mc21 : ClassId) (mc22 : ClassId) (mc23 : ClassId) (mc24 : ClassId) (mc25 : ClassId) (mc28 : ClassId) (mc29 : ClassId) (mc30 : ClassId) (mc31 : ClassId) (mc32 : ClassId) (mc33 : ClassId) (mc34 : ClassId) (mc35 : ClassId) (mc36 : ClassId) (mc40 : ClassId) (mc41 : ClassId) (mc42 : ClassId) (mc43 : ClassId) (mc44 : ClassId) (mc46 : ClassId) (mc47 : ClassId) (mc48 : ClassId) (mc49 : ClassId) (mc50 : ClassId) (mf1 : Nat → Int32) (mf2 : Nat → Int32) (mf3 : Nat → Int32) (mf4 : Nat → Int32) (mf19 : Nat → Int32) (mf20 : Nat → Int32) (mf21 : Nat → Int32) (mf22 : Nat → Int32) (mf23 : Nat → Int32) (mf24 : Nat → Int32) (mf25 : Nat → Int32) (mf28 : Nat → Int32) (mf29 : Nat → Int32) (mf30 : Nat → Int32) (mf31 : Nat → Int32) (mf32 : Nat → Int32) (mf33 : Nat → Int32) (mf34 : Nat → Int32) (mf35 : Nat → Int32) (mf36 : Nat → Int32) (mf40 : Nat → Int32) (mf41 : Nat → Int32) (mf42 : Nat → Int32) (mf43 : Nat → Int32) (mf44 : Nat → Int32) (mf46 : Nat → Int64) (mf47 : Nat → Int32) (mf48 : Nat → Int32) (mf49 : Nat → Int32) (mf50 : Nat → Int32) (ml : Nat) (mkl : Nat) (mku : Nat) (mps : Nat) (mkw : Nat) (ho : Nat) (mkn : Nat) (mka : Nat) (hml : ml ≤ 120) (hmkl : mkl ≤ 6) (hmku : mku ≤ 8) (hmps : mps ≤ 10) (hmkw : mkw ≤ 4) (hho : ho ≤ 48) (hmkn : mkn ≤ 20) (hmka : mka ≤ 6) (ad : Nat → Nat) (bA : Nat) (nA : Nat) (xA : Nat → Int32) (hnA : nA ≤ 8) (bB : Nat) (nB : Nat) (xB : Nat → Int32) (hnB : nB ≤ 8) (bE : Nat) (nE : Nat) (xE : Nat → Int32) (hnE : nE ≤ 8) (bG : Nat) (nG : Nat) (xG : Nat → Int32) (hnG : nG ≤ 8) (gnA : ∀ k : Nat, ∃ v : Nat, v < 128 ∧ xA k = nI v) (gnB : ∀ k : Nat, ∃ v : Nat, v < 128 ∧ xB k = nI v) (gnE : ∀ k : Nat, ∃ v : Nat, v < 128 ∧ xE k = nI v) (gnG : ∀ k : Nat, ∃ v : Nat, v < 128 ∧ xG k = nI v) (hzA : kIx xA nA (nI 0) = nA) (hzB : kIx xB nB (nI 0) = nB) (hzE : kIx xE nE (nI 0) = nE) (hzG : kIx xG nG (nI 0) = nG) (hlB : ∀ c : Nat, c < 256 → kIx xB nB (nI c) < nB → ¬ c = 91 ∧ ¬ (48 ≤ c ∧ c ≤ 57)) (hlG : ∀ c : Nat, c < 256 → kIx xG nG (nI c) < nG → ¬ c = 91 ∧ ¬ (48 ≤ c ∧ c ≤ 57)) (yL : Nat → List kTr) (yU : Nat → List kTr) (hUl : kUn mf2 mf3 0 mkl xA nA xB nB yL) (hUt : kUn mf2 mf3 6 mku xE nE xG nG yU) (hE9 : nE = 1 ∧ xE 0 = 119) (hG9 : nG = 5 ∧ ∀ k : Nat, k < 5 → xG k = nI (97 + k)) (G0 : Nat → Int32) (G1 : Nat → Int32) (G2 : Nat → Int32) (G3 : Nat → Int32) (G4 : Nat → Int32) (SV : Nat) (hTd : kTd mps mkw G0 G1 G2 G3 G4 SV mf19 mf20 mf21 mf22 mf24 mf25) (hOk0 : kOk mps (kS0 G0 G1 G2 0)) (hA9 : nA = 3 ∧ xA 0 = 121 ∧ xA 1 = 103 ∧ xA 2 = 120) (hB9 : nB = 8 ∧ ∀ k : Nat, k < 8 → xB k = nI (kSg8 k)) (hSV : SV < 1024) (hNp : ∀ k : Nat, k < mkn → ∃ v : Nat, v < mps ∧ mf40 k = nI v) (p0 : Int64) (p1 : Int32) (sz : Nat) : Met l yX10_fits w_s_fits10 ({ frames := 65, cells := 0, slots := 0, locals := 3900 }) (kW dC dI [.ref jM, .long p0, .int p1] [(jM, .inr (10, [.int th, .ref m1, .ref m2, .ref m3, .ref m4, v5, .int (nI (ml)), .int (nI (mkl)), .int (nI (mku)), v9, v10, v11, v12, v13, v14, v15, v16, v17, v18, .ref m19, .ref m20, .ref m21, .ref m22, .ref m23, .ref m24, .ref m25, .int (nI (mps)), .int (nI (mkw)), .ref m28, .ref m29, .ref m30, .ref m31, .ref m32, .ref m33, .ref m34, .ref m35, .ref m36, .int thr, .int (nI (ho)), .long xx, .ref m40, .ref m41, .ref m42, .ref m43, .ref m44, .int (nI (mkn)), .ref m46, .ref m47, .ref m48, .ref m49, .ref m50, .int (nI (mka))])), (m1, .inl (mc1, 120, .inl mf1)), (m2, .inl (mc2, 1680, .inl mf2)), (m3, .inl (mc3, 14, .inl mf3)), (m4, .inl (mc4, 128, .inl mf4)), (m19, .inl (mc19, 10, .inl mf19)), (m20, .inl (mc20, 10, .inl mf20)), (m21, .inl (mc21, 10, .inl mf21)), (m22, .inl (mc22, 10, .inl mf22)), (m23, .inl (mc23, 10, .inl mf23)), (m24, .inl (mc24, 4, .inl mf24)), (m25, .inl (mc25, 10, .inl mf25)), (m28, .inl (mc28, 10, .inl mf28)), (m29, .inl (mc29, 10, .inl mf29)), (m30, .inl (mc30, 10, .inl mf30)), (m31, .inl (mc31, 10, .inl mf31)), (m32, .inl (mc32, 10, .inl mf32)), (m33, .inl (mc33, 10, .inl mf33)), (m34, .inl (mc34, 10, .inl mf34)), (m35, .inl (mc35, 10, .inl mf35)), (m36, .inl (mc36, 10, .inl mf36)), (m40, .inl (mc40, 20, .inl mf40)), (m41, .inl (mc41, 20, .inl mf41)), (m42, .inl (mc42, 20, .inl mf42)), (m43, .inl (mc43, 20, .inl mf43)), (m44, .inl (mc44, 20, .inl mf44)), (m46, .inl (mc46, 14, .inr (.inl mf46))), (m47, .inl (mc47, 6, .inl mf47)), (m48, .inl (mc48, 6, .inl mf48)), (m49, .inl (mc49, 6, .inl mf49)), (m50, .inl (mc50, 6, .inl mf50))] [(mc1, .byte), (mc2, .byte), (mc3, .int), (mc4, .int), (mc19, .int), (mc20, .int), (mc21, .int), (mc22, .int), (mc23, .int), (mc24, .int), (mc25, .boolean), (mc28, .int), (mc29, .int), (mc30, .int), (mc31, .int), (mc32, .int), (mc33, .int), (mc34, .int), (mc35, .int), (mc36, .int), (mc40, .int), (mc41, .int), (mc42, .int), (mc43, .int), (mc44, .int), (mc46, .long), (mc47, .int), (mc48, .int), (mc49, .int), (mc50, .int)] (kMx ad bA nA xA bB nB xB bE nE xE bG nG xG (va_A [(jM, .inr (10, [.int th, .ref m1, .ref m2, .ref m3, .ref m4, v5, .int (nI (ml)), .int (nI (mkl)), .int (nI (mku)), v9, v10, v11, v12, v13, v14, v15, v16, v17, v18, .ref m19, .ref m20, .ref m21, .ref m22, .ref m23, .ref m24, .ref m25, .int (nI (mps)), .int (nI (mkw)), .ref m28, .ref m29, .ref m30, .ref m31, .ref m32, .ref m33, .ref m34, .ref m35, .ref m36, .int thr, .int (nI (ho)), .long xx, .ref m40, .ref m41, .ref m42, .ref m43, .ref m44, .int (nI (mkn)), .ref m46, .ref m47, .ref m48, .ref m49, .ref m50, .int (nI (mka))])), (m1, .inl (mc1, 120, .inl mf1)), (m2, .inl (mc2, 1680, .inl mf2)), (m3, .inl (mc3, 14, .inl mf3)), (m4, .inl (mc4, 128, .inl mf4)), (m19, .inl (mc19, 10, .inl mf19)), (m20, .inl (mc20, 10, .inl mf20)), (m21, .inl (mc21, 10, .inl mf21)), (m22, .inl (mc22, 10, .inl mf22)), (m23, .inl (mc23, 10, .inl mf23)), (m24, .inl (mc24, 4, .inl mf24)), (m25, .inl (mc25, 10, .inl mf25)), (m28, .inl (mc28, 10, .inl mf28)), (m29, .inl (mc29, 10, .inl mf29)), (m30, .inl (mc30, 10, .inl mf30)), (m31, .inl (mc31, 10, .inl mf31)), (m32, .inl (mc32, 10, .inl mf32)), (m33, .inl (mc33, 10, .inl mf33)), (m34, .inl (mc34, 10, .inl mf34)), (m35, .inl (mc35, 10, .inl mf35)), (m36, .inl (mc36, 10, .inl mf36)), (m40, .inl (mc40, 20, .inl mf40)), (m41, .inl (mc41, 20, .inl mf41)), (m42, .inl (mc42, 20, .inl mf42)), (m43, .inl (mc43, 20, .inl mf43)), (m44, .inl (mc44, 20, .inl mf44)), (m46, .inl (mc46, 14, .inr (.inl mf46))), (m47, .inl (mc47, 6, .inl mf47)), (m48, .inl (mc48, 6, .inl mf48)), (m49, .inl (mc49, 6, .inl mf49)), (m50, .inl (mc50, 6, .inl mf50))] sz)) sz) (va_Qi (fun (r : Int32) (u : (Nat → Int32) × (Nat → Int32) × (Nat → Int32) × (Nat → Int32) × (Nat → Int32) × (Nat → Int32) × (Nat → Int32) × (Nat → Int32) × (Nat → Int32) × (Nat → Int32) × Int32 × Int32 × Nat × Int64 × Value × Value × Value × Value × Value × Value × Value × Value × Value × Value × Value) => match u with | (S4, S28, S29, S30, S31, S32, S33, S34, S35, S36, Th0, Th, Ho, Xx, W5, W9, W10, W11, W12, W13, W14, W15, W16, W17, W18) => (r = kFiA mkl mps mkw G0 G1 G2 G3 G4 SV yL mf40 mf41 mf42 mf43 mf44 mkn p0 p1 ∧ Ho ≤ 48)) (fun (u : (Nat → Int32) × (Nat → Int32) × (Nat → Int32) × (Nat → Int32) × (Nat → Int32) × (Nat → Int32) × (Nat → Int32) × (Nat → Int32) × (Nat → Int32) × (Nat → Int32) × Int32 × Int32 × Nat × Int64 × Value × Value × Value × Value × Value × Value × Value × Value × Value × Value × Value) => match u with | (S4, S28, S29, S30, S31, S32, S33, S34, S35, S36, Th0, Th, Ho, Xx, W5, W9, W10, W11, W12, W13, W14, W15, W16, W17, W18) => fun t : State => kB dC dI [(jM, .inr (10, [.int Th0, .ref m1, .ref m2, .ref m3, .ref m4, W5, .int (nI (ml)), .int (nI (mkl)), .int (nI (mku)), W9, W10, W11, W12, W13, W14, W15, W16, W17, W18, .ref m19, .ref m20, .ref m21, .ref m22, .ref m23, .ref m24, .ref m25, .int (nI (mps)), .int (nI (mkw)), .ref m28, .ref m29, .ref m30, .ref m31, .ref m32, .ref m33, .ref m34, .ref m35, .ref m36, .int Th, .int (nI (Ho)), .long Xx, .ref m40, .ref m41, .ref m42, .ref m43, .ref m44, .int (nI (mkn)), .ref m46, .ref m47, .ref m48, .ref m49, .ref m50, .int (nI (mka))])), (m1, .inl (mc1, 120, .inl mf1)), (m2, .inl (mc2, 1680, .inl mf2)), (m3, .inl (mc3, 14, .inl mf3)), (m4, .inl (mc4, 128, .inl S4)), (m19, .inl (mc19, 10, .inl mf19)), (m20, .inl (mc20, 10, .inl mf20)), (m21, .inl (mc21, 10, .inl mf21)), (m22, .inl (mc22, 10, .inl mf22)), (m23, .inl (mc23, 10, .inl mf23)), (m24, .inl (mc24, 4, .inl mf24)), (m25, .inl (mc25, 10, .inl mf25)), (m28, .inl (mc28, 10, .inl S28)), (m29, .inl (mc29, 10, .inl S29)), (m30, .inl (mc30, 10, .inl S30)), (m31, .inl (mc31, 10, .inl S31)), (m32, .inl (mc32, 10, .inl S32)), (m33, .inl (mc33, 10, .inl S33)), (m34, .inl (mc34, 10, .inl S34)), (m35, .inl (mc35, 10, .inl S35)), (m36, .inl (mc36, 10, .inl S36)), (m40, .inl (mc40, 20, .inl mf40)), (m41, .inl (mc41, 20, .inl mf41)), (m42, .inl (mc42, 20, .inl mf42)), (m43, .inl (mc43, 20, .inl mf43)), (m44, .inl (mc44, 20, .inl mf44)), (m46, .inl (mc46, 14, .inr (.inl mf46))), (m47, .inl (mc47, 6, .inl mf47)), (m48, .inl (mc48, 6, .inl mf48)), (m49, .inl (mc49, 6, .inl mf49)), (m50, .inl (mc50, 6, .inl mf50))] [(mc1, .byte), (mc2, .byte), (mc3, .int), (mc4, .int), (mc19, .int), (mc20, .int), (mc21, .int), (mc22, .int), (mc23, .int), (mc24, .int), (mc25, .boolean), (mc28, .int), (mc29, .int), (mc30, .int), (mc31, .int), (mc32, .int), (mc33, .int), (mc34, .int), (mc35, .int), (mc36, .int), (mc40, .int), (mc41, .int), (mc42, .int), (mc43, .int), (mc44, .int), (mc46, .long), (mc47, .int), (mc48, .int), (mc49, .int), (mc50, .int)] (va_A [(jM, .inr (10, [.int th, .ref m1, .ref m2, .ref m3, .ref m4, v5, .int (nI (ml)), .int (nI (mkl)), .int (nI (mku)), v9, v10, v11, v12, v13, v14, v15, v16, v17, v18, .ref m19, .ref m20, .ref m21, .ref m22, .ref m23, .ref m24, .ref m25, .int (nI (mps)), .int (nI (mkw)), .ref m28, .ref m29, .ref m30, .ref m31, .ref m32, .ref m33, .ref m34, .ref m35, .ref m36, .int thr, .int (nI (ho)), .long xx, .ref m40, .ref m41, .ref m42, .ref m43, .ref m44, .int (nI (mkn)), .ref m46, .ref m47, .ref m48, .ref m49, .ref m50, .int (nI (mka))])), (m1, .inl (mc1, 120, .inl mf1)), (m2, .inl (mc2, 1680, .inl mf2)), (m3, .inl (mc3, 14, .inl mf3)), (m4, .inl (mc4, 128, .inl mf4)), (m19, .inl (mc19, 10, .inl mf19)), (m20, .inl (mc20, 10, .inl mf20)), (m21, .inl (mc21, 10, .inl mf21)), (m22, .inl (mc22, 10, .inl mf22)), (m23, .inl (mc23, 10, .inl mf23)), (m24, .inl (mc24, 4, .inl mf24)), (m25, .inl (mc25, 10, .inl mf25)), (m28, .inl (mc28, 10, .inl mf28)), (m29, .inl (mc29, 10, .inl mf29)), (m30, .inl (mc30, 10, .inl mf30)), (m31, .inl (mc31, 10, .inl mf31)), (m32, .inl (mc32, 10, .inl mf32)), (m33, .inl (mc33, 10, .inl mf33)), (m34, .inl (mc34, 10, .inl mf34)), (m35, .inl (mc35, 10, .inl mf35)), (m36, .inl (mc36, 10, .inl mf36)), (m40, .inl (mc40, 20, .inl mf40)), (m41, .inl (mc41, 20, .inl mf41)), (m42, .inl (mc42, 20, .inl mf42)), (m43, .inl (mc43, 20, .inl mf43)), (m44, .inl (mc44, 20, .inl mf44)), (m46, .inl (mc46, 14, .inr (.inl mf46))), (m47, .inl (mc47, 6, .inl mf47)), (m48, .inl (mc48, 6, .inl mf48)), (m49, .inl (mc49, 6, .inl mf49)), (m50, .inl (mc50, 6, .inl mf50))] sz) t) (va_A [(jM, .inr (10, [.int th, .ref m1, .ref m2, .ref m3, .ref m4, v5, .int (nI (ml)), .int (nI (mkl)), .int (nI (mku)), v9, v10, v11, v12, v13, v14, v15, v16, v17, v18, .ref m19, .ref m20, .ref m21, .ref m22, .ref m23, .ref m24, .ref m25, .int (nI (mps)), .int (nI (mkw)), .ref m28, .ref m29, .ref m30, .ref m31, .ref m32, .ref m33, .ref m34, .ref m35, .ref m36, .int thr, .int (nI (ho)), .long xx, .ref m40, .ref m41, .ref m42, .ref m43, .ref m44, .int (nI (mkn)), .ref m46, .ref m47, .ref m48, .ref m49, .ref m50, .int (nI (mka))])), (m1, .inl (mc1, 120, .inl mf1)), (m2, .inl (mc2, 1680, .inl mf2)), (m3, .inl (mc3, 14, .inl mf3)), (m4, .inl (mc4, 128, .inl mf4)), (m19, .inl (mc19, 10, .inl mf19)), (m20, .inl (mc20, 10, .inl mf20)), (m21, .inl (mc21, 10, .inl mf21)), (m22, .inl (mc22, 10, .inl mf22)), (m23, .inl (mc23, 10, .inl mf23)), (m24, .inl (mc24, 4, .inl mf24)), (m25, .inl (mc25, 10, .inl mf25)), (m28, .inl (mc28, 10, .inl mf28)), (m29, .inl (mc29, 10, .inl mf29)), (m30, .inl (mc30, 10, .inl mf30)), (m31, .inl (mc31, 10, .inl mf31)), (m32, .inl (mc32, 10, .inl mf32)), (m33, .inl (mc33, 10, .inl mf33)), (m34, .inl (mc34, 10, .inl mf34)), (m35, .inl (mc35, 10, .inl mf35)), (m36, .inl (mc36, 10, .inl mf36)), (m40, .inl (mc40, 20, .inl mf40)), (m41, .inl (mc41, 20, .inl mf41)), (m42, .inl (mc42, 20, .inl mf42)), (m43, .inl (mc43, 20, .inl mf43)), (m44, .inl (mc44, 20, .inl mf44)), (m46, .inl (mc46, 14, .inr (.inl mf46))), (m47, .inl (mc47, 6, .inl mf47)), (m48, .inl (mc48, 6, .inl mf48)), (m49, .inl (mc49, 6, .inl mf49)), (m50, .inl (mc50, 6, .inl mf50))] sz)) 0 0 (va_A [(jM, .inr (10, [.int th, .ref m1, .ref m2, .ref m3, .ref m4, v5, .int (nI (ml)), .int (nI (mkl)), .int (nI (mku)), v9, v10, v11, v12, v13, v14, v15, v16, v17, v18, .ref m19, .ref m20, .ref m21, .ref m22, .ref m23, .ref m24, .ref m25, .int (nI (mps)), .int (nI (mkw)), .ref m28, .ref m29, .ref m30, .ref m31, .ref m32, .ref m33, .ref m34, .ref m35, .ref m36, .int thr, .int (nI (ho)), .long xx, .ref m40, .ref m41, .ref m42, .ref m43, .ref m44, .int (nI (mkn)), .ref m46, .ref m47, .ref m48, .ref m49, .ref m50, .int (nI (mka))])), (m1, .inl (mc1, 120, .inl mf1)), (m2, .inl (mc2, 1680, .inl mf2)), (m3, .inl (mc3, 14, .inl mf3)), (m4, .inl (mc4, 128, .inl mf4)), (m19, .inl (mc19, 10, .inl mf19)), (m20, .inl (mc20, 10, .inl mf20)), (m21, .inl (mc21, 10, .inl mf21)), (m22, .inl (mc22, 10, .inl mf22)), (m23, .inl (mc23, 10, .inl mf23)), (m24, .inl (mc24, 4, .inl mf24)), (m25, .inl (mc25, 10, .inl mf25)), (m28, .inl (mc28, 10, .inl mf28)), (m29, .inl (mc29, 10, .inl mf29)), (m30, .inl (mc30, 10, .inl mf30)), (m31, .inl (mc31, 10, .inl mf31)), (m32, .inl (mc32, 10, .inl mf32)), (m33, .inl (mc33, 10, .inl mf33)), (m34, .inl (mc34, 10, .inl mf34)), (m35, .inl (mc35, 10, .inl mf35)), (m36, .inl (mc36, 10, .inl mf36)), (m40, .inl (mc40, 20, .inl mf40)), (m41, .inl (mc41, 20, .inl mf41)), (m42, .inl (mc42, 20, .inl mf42)), (m43, .inl (mc43, 20, .inl mf43)), (m44, .inl (mc44, 20, .inl mf44)), (m46, .inl (mc46, 14, .inr (.inl mf46))), (m47, .inl (mc47, 6, .inl mf47)), (m48, .inl (mc48, 6, .inl mf48)), (m49, .inl (mc49, 6, .inl mf49)), (m50, .inl (mc50, 6, .inl mf50))] sz) := by
  refine Met.ofW (cc := cX10_fits) (maxL := 6) (ret := (some .int)) (by decide) rfl ?_
  intro p e s m args below meth c s₁ B hml hv
  obtain ⟨rfl, hsz, hP, hK, hD0, hX⟩ := hv
  have hx := B.exec
  have hb := B.bytes
  have hr := B.returns
  have hts := atoms_spec (ws := w_s_fits10) B.pre
  have hown : s.vm.findClass RX10 = some m.cls := findClass_of_methodNamed B.named
  have hlocks := B.notSynchronized
  subst hsz
  have hD := hD0.self (sz := s.heap.size)
  generalize hAe : va_A [(jM, .inr (10, [.int th, .ref m1, .ref m2, .ref m3, .ref m4, v5, .int (nI (ml)), .int (nI (mkl)), .int (nI (mku)), v9, v10, v11, v12, v13, v14, v15, v16, v17, v18, .ref m19, .ref m20, .ref m21, .ref m22, .ref m23, .ref m24, .ref m25, .int (nI (mps)), .int (nI (mkw)), .ref m28, .ref m29, .ref m30, .ref m31, .ref m32, .ref m33, .ref m34, .ref m35, .ref m36, .int thr, .int (nI (ho)), .long xx, .ref m40, .ref m41, .ref m42, .ref m43, .ref m44, .int (nI (mkn)), .ref m46, .ref m47, .ref m48, .ref m49, .ref m50, .int (nI (mka))])), (m1, .inl (mc1, 120, .inl mf1)), (m2, .inl (mc2, 1680, .inl mf2)), (m3, .inl (mc3, 14, .inl mf3)), (m4, .inl (mc4, 128, .inl mf4)), (m19, .inl (mc19, 10, .inl mf19)), (m20, .inl (mc20, 10, .inl mf20)), (m21, .inl (mc21, 10, .inl mf21)), (m22, .inl (mc22, 10, .inl mf22)), (m23, .inl (mc23, 10, .inl mf23)), (m24, .inl (mc24, 4, .inl mf24)), (m25, .inl (mc25, 10, .inl mf25)), (m28, .inl (mc28, 10, .inl mf28)), (m29, .inl (mc29, 10, .inl mf29)), (m30, .inl (mc30, 10, .inl mf30)), (m31, .inl (mc31, 10, .inl mf31)), (m32, .inl (mc32, 10, .inl mf32)), (m33, .inl (mc33, 10, .inl mf33)), (m34, .inl (mc34, 10, .inl mf34)), (m35, .inl (mc35, 10, .inl mf35)), (m36, .inl (mc36, 10, .inl mf36)), (m40, .inl (mc40, 20, .inl mf40)), (m41, .inl (mc41, 20, .inl mf41)), (m42, .inl (mc42, 20, .inl mf42)), (m43, .inl (mc43, 20, .inl mf43)), (m44, .inl (mc44, 20, .inl mf44)), (m46, .inl (mc46, 14, .inr (.inl mf46))), (m47, .inl (mc47, 6, .inl mf47)), (m48, .inl (mc48, 6, .inl mf48)), (m49, .inl (mc49, 6, .inl mf49)), (m50, .inl (mc50, 6, .inl mf50))] s.heap.size = A at hD hX ⊢
  have hA : ∀ q : Nat, s.heap.size ≤ q → A q := fun q h => by rw [← hAe]; exact Or.inr h
  have hS : va_S A s.heap s.heap [] := va_S.rf
  have hP : va_P (dC, dI) vwCl [(jM, .inr (10, [.int th, .ref m1, .ref m2, .ref m3, .ref m4, v5, .int (nI (ml)), .int (nI (mkl)), .int (nI (mku)), v9, v10, v11, v12, v13, v14, v15, v16, v17, v18, .ref m19, .ref m20, .ref m21, .ref m22, .ref m23, .ref m24, .ref m25, .int (nI (mps)), .int (nI (mkw)), .ref m28, .ref m29, .ref m30, .ref m31, .ref m32, .ref m33, .ref m34, .ref m35, .ref m36, .int thr, .int (nI (ho)), .long xx, .ref m40, .ref m41, .ref m42, .ref m43, .ref m44, .int (nI (mkn)), .ref m46, .ref m47, .ref m48, .ref m49, .ref m50, .int (nI (mka))])), (m1, .inl (mc1, 120, .inl mf1)), (m2, .inl (mc2, 1680, .inl mf2)), (m3, .inl (mc3, 14, .inl mf3)), (m4, .inl (mc4, 128, .inl mf4)), (m19, .inl (mc19, 10, .inl mf19)), (m20, .inl (mc20, 10, .inl mf20)), (m21, .inl (mc21, 10, .inl mf21)), (m22, .inl (mc22, 10, .inl mf22)), (m23, .inl (mc23, 10, .inl mf23)), (m24, .inl (mc24, 4, .inl mf24)), (m25, .inl (mc25, 10, .inl mf25)), (m28, .inl (mc28, 10, .inl mf28)), (m29, .inl (mc29, 10, .inl mf29)), (m30, .inl (mc30, 10, .inl mf30)), (m31, .inl (mc31, 10, .inl mf31)), (m32, .inl (mc32, 10, .inl mf32)), (m33, .inl (mc33, 10, .inl mf33)), (m34, .inl (mc34, 10, .inl mf34)), (m35, .inl (mc35, 10, .inl mf35)), (m36, .inl (mc36, 10, .inl mf36)), (m40, .inl (mc40, 20, .inl mf40)), (m41, .inl (mc41, 20, .inl mf41)), (m42, .inl (mc42, 20, .inl mf42)), (m43, .inl (mc43, 20, .inl mf43)), (m44, .inl (mc44, 20, .inl mf44)), (m46, .inl (mc46, 14, .inr (.inl mf46))), (m47, .inl (mc47, 6, .inl mf47)), (m48, .inl (mc48, 6, .inl mf48)), (m49, .inl (mc49, 6, .inl mf49)), (m50, .inl (mc50, 6, .inl mf50))] s.heap := hP
  have hl := lv_entry ([.ref jM, .long p0, .int p1]) (n := 6) (Nat.le_of_ble_eq_true rfl)
  rw [lg_entry_eq]
  generalize (lg_sl ([.ref jM, .long p0, .int p1]) ++ List.replicate (6 - (lg_sl ([.ref jM, .long p0, .int p1])).length) Slot.unset).toArray = ls at hl ⊢
  have hl : lv_has ls 6 [(0, .ref jM), (1, .long p0), (3, .int p1)] := hl
  refine kQ (fun Q hQ => ?_)
  refine lv_aload_n hx hb dX10_fits_0 rfl (lv_at hl 0 rfl) ?_
  refine lv_iconst (v := 0) hx hb dX10_fits_1 kc_i_0 ?_
  refine va_put (D := (dC, dI)) (ci := 10) (v := .int 0) (ty := tyX10 0) (C := RX10) (T := TX10) (N := 52) hx hb hts (fun _ h => List.mem_cons_of_mem _ (List.mem_append_right _ (List.mem_append_left _ h))) tyX10 tyX10_ok nmX10 hown hK hP hD hS 0 rfl rfl 0 kc_l_0_52 (hts (.fieldLink RX10 117 "NotEndedModel" "thrown" "I") (List.mem_cons_of_mem _ (List.mem_append_left _ (List.mem_of_getElem? (i := 0) rfl)))) (fun _ h9 => h9) rfl (tyX10_ok 0 kc_l_0_52) rfl rfl (Nat.le_of_ble_eq_true rfl) dX10_fits_2 (fun H locs hP hD hS => ?_)
  have hPD : kPD dC dI A [(jM, .inr (10, [.int 0, .ref m1, .ref m2, .ref m3, .ref m4, v5, .int (nI (ml)), .int (nI (mkl)), .int (nI (mku)), v9, v10, v11, v12, v13, v14, v15, v16, v17, v18, .ref m19, .ref m20, .ref m21, .ref m22, .ref m23, .ref m24, .ref m25, .int (nI (mps)), .int (nI (mkw)), .ref m28, .ref m29, .ref m30, .ref m31, .ref m32, .ref m33, .ref m34, .ref m35, .ref m36, .int thr, .int (nI (ho)), .long xx, .ref m40, .ref m41, .ref m42, .ref m43, .ref m44, .int (nI (mkn)), .ref m46, .ref m47, .ref m48, .ref m49, .ref m50, .int (nI (mka))])), (m1, .inl (mc1, 120, .inl mf1)), (m2, .inl (mc2, 1680, .inl mf2)), (m3, .inl (mc3, 14, .inl mf3)), (m4, .inl (mc4, 128, .inl mf4)), (m19, .inl (mc19, 10, .inl mf19)), (m20, .inl (mc20, 10, .inl mf20)), (m21, .inl (mc21, 10, .inl mf21)), (m22, .inl (mc22, 10, .inl mf22)), (m23, .inl (mc23, 10, .inl mf23)), (m24, .inl (mc24, 4, .inl mf24)), (m25, .inl (mc25, 10, .inl mf25)), (m28, .inl (mc28, 10, .inl mf28)), (m29, .inl (mc29, 10, .inl mf29)), (m30, .inl (mc30, 10, .inl mf30)), (m31, .inl (mc31, 10, .inl mf31)), (m32, .inl (mc32, 10, .inl mf32)), (m33, .inl (mc33, 10, .inl mf33)), (m34, .inl (mc34, 10, .inl mf34)), (m35, .inl (mc35, 10, .inl mf35)), (m36, .inl (mc36, 10, .inl mf36)), (m40, .inl (mc40, 20, .inl mf40)), (m41, .inl (mc41, 20, .inl mf41)), (m42, .inl (mc42, 20, .inl mf42)), (m43, .inl (mc43, 20, .inl mf43)), (m44, .inl (mc44, 20, .inl mf44)), (m46, .inl (mc46, 14, .inr (.inl mf46))), (m47, .inl (mc47, 6, .inl mf47)), (m48, .inl (mc48, 6, .inl mf48)), (m49, .inl (mc49, 6, .inl mf49)), (m50, .inl (mc50, 6, .inl mf50))] H := ⟨hP, hD⟩
  obtain ⟨hP, hD⟩ := hPD
  refine lv_iconst (v := 0) hx hb dX10_fits_5 kc_i_0 ?_
  refine lv_istore hx hb dX10_fits_6 hl kc_l_4_6 (kTo [(4, .int 0), (0, .ref jM), (1, .long p0), (3, .int p1)]) (fun ls hl => ?_)
  refine lv_iconst (v := 0) hx hb dX10_fits_8 kc_i_0 ?_
  refine lv_istore hx hb dX10_fits_9 hl kc_l_5_6 (kTo [(5, .int 0), (4, .int 0), (0, .ref jM), (1, .long p0), (3, .int p1)]) (fun ls hl => ?_)
  have lp_k_1 : ∀ (n9 : Nat) (i : Nat) (xb : Int32) (l4 : Nat → Int32) (l28 : Nat → Int32) (l29 : Nat → Int32) (l30 : Nat → Int32) (l31 : Nat → Int32) (l32 : Nat → Int32) (l33 : Nat → Int32) (l34 : Nat → Int32) (l35 : Nat → Int32) (l36 : Nat → Int32) (lv5 : Value) (lv9 : Value) (lv10 : Value) (lv11 : Value) (lv12 : Value) (lv13 : Value) (lv14 : Value) (lv15 : Value) (lv16 : Value) (lv17 : Value) (lv18 : Value) (lho : Nat) (lxx : Int64) (ltr : Int32) (ivk_1_0 : i ≤ mkl) (ivk_1_1 : xb = nI (kBts (fun l => kNtB (kE0 mps mkw G3 G4 SV (kPrs mps 0) (yL l)) (kS0 G0 G1 G2 p0) (kAbN p1 G2 mf40 mps) mf40 mf41 mf42 mf43 mf44 mkn 49) i)) (ivk_1_2 : lho ≤ 48) (H : Heap) (locs : List Loc) (_ : va_P (dC, dI) vwCl [(jM, .inr (10, [.int 0, .ref m1, .ref m2, .ref m3, .ref m4, lv5, .int (nI (ml)), .int (nI (mkl)), .int (nI (mku)), lv9, lv10, lv11, lv12, lv13, lv14, lv15, lv16, lv17, lv18, .ref m19, .ref m20, .ref m21, .ref m22, .ref m23, .ref m24, .ref m25, .int (nI (mps)), .int (nI (mkw)), .ref m28, .ref m29, .ref m30, .ref m31, .ref m32, .ref m33, .ref m34, .ref m35, .ref m36, .int ltr, .int (nI (lho)), .long lxx, .ref m40, .ref m41, .ref m42, .ref m43, .ref m44, .int (nI (mkn)), .ref m46, .ref m47, .ref m48, .ref m49, .ref m50, .int (nI (mka))])), (m1, .inl (mc1, 120, .inl mf1)), (m2, .inl (mc2, 1680, .inl mf2)), (m3, .inl (mc3, 14, .inl mf3)), (m4, .inl (mc4, 128, .inl l4)), (m19, .inl (mc19, 10, .inl mf19)), (m20, .inl (mc20, 10, .inl mf20)), (m21, .inl (mc21, 10, .inl mf21)), (m22, .inl (mc22, 10, .inl mf22)), (m23, .inl (mc23, 10, .inl mf23)), (m24, .inl (mc24, 4, .inl mf24)), (m25, .inl (mc25, 10, .inl mf25)), (m28, .inl (mc28, 10, .inl l28)), (m29, .inl (mc29, 10, .inl l29)), (m30, .inl (mc30, 10, .inl l30)), (m31, .inl (mc31, 10, .inl l31)), (m32, .inl (mc32, 10, .inl l32)), (m33, .inl (mc33, 10, .inl l33)), (m34, .inl (mc34, 10, .inl l34)), (m35, .inl (mc35, 10, .inl l35)), (m36, .inl (mc36, 10, .inl l36)), (m40, .inl (mc40, 20, .inl mf40)), (m41, .inl (mc41, 20, .inl mf41)), (m42, .inl (mc42, 20, .inl mf42)), (m43, .inl (mc43, 20, .inl mf43)), (m44, .inl (mc44, 20, .inl mf44)), (m46, .inl (mc46, 14, .inr (.inl mf46))), (m47, .inl (mc47, 6, .inl mf47)), (m48, .inl (mc48, 6, .inl mf48)), (m49, .inl (mc49, 6, .inl mf49)), (m50, .inl (mc50, 6, .inl mf50))] H) (_ : va_D A [(jM, .inr (10, [.int 0, .ref m1, .ref m2, .ref m3, .ref m4, lv5, .int (nI (ml)), .int (nI (mkl)), .int (nI (mku)), lv9, lv10, lv11, lv12, lv13, lv14, lv15, lv16, lv17, lv18, .ref m19, .ref m20, .ref m21, .ref m22, .ref m23, .ref m24, .ref m25, .int (nI (mps)), .int (nI (mkw)), .ref m28, .ref m29, .ref m30, .ref m31, .ref m32, .ref m33, .ref m34, .ref m35, .ref m36, .int ltr, .int (nI (lho)), .long lxx, .ref m40, .ref m41, .ref m42, .ref m43, .ref m44, .int (nI (mkn)), .ref m46, .ref m47, .ref m48, .ref m49, .ref m50, .int (nI (mka))])), (m1, .inl (mc1, 120, .inl mf1)), (m2, .inl (mc2, 1680, .inl mf2)), (m3, .inl (mc3, 14, .inl mf3)), (m4, .inl (mc4, 128, .inl l4)), (m19, .inl (mc19, 10, .inl mf19)), (m20, .inl (mc20, 10, .inl mf20)), (m21, .inl (mc21, 10, .inl mf21)), (m22, .inl (mc22, 10, .inl mf22)), (m23, .inl (mc23, 10, .inl mf23)), (m24, .inl (mc24, 4, .inl mf24)), (m25, .inl (mc25, 10, .inl mf25)), (m28, .inl (mc28, 10, .inl l28)), (m29, .inl (mc29, 10, .inl l29)), (m30, .inl (mc30, 10, .inl l30)), (m31, .inl (mc31, 10, .inl l31)), (m32, .inl (mc32, 10, .inl l32)), (m33, .inl (mc33, 10, .inl l33)), (m34, .inl (mc34, 10, .inl l34)), (m35, .inl (mc35, 10, .inl l35)), (m36, .inl (mc36, 10, .inl l36)), (m40, .inl (mc40, 20, .inl mf40)), (m41, .inl (mc41, 20, .inl mf41)), (m42, .inl (mc42, 20, .inl mf42)), (m43, .inl (mc43, 20, .inl mf43)), (m44, .inl (mc44, 20, .inl mf44)), (m46, .inl (mc46, 14, .inr (.inl mf46))), (m47, .inl (mc47, 6, .inl mf47)), (m48, .inl (mc48, 6, .inl mf48)), (m49, .inl (mc49, 6, .inl mf49)), (m50, .inl (mc50, 6, .inl mf50))]) (_ : va_S A s.heap H locs) (ls : Array Slot) (_ : lv_has ls 6 [(5, .int (nI (i))), (4, .int xb), (0, .ref jM), (1, .long p0), (3, .int p1)]) (_ : mkl - i < n9), W p l e (headSpec w_s_fits10 ({ frames := 65, cells := 0, slots := 0, locals := 3900 })).room s m (#[.ref jM, .long p0, .int p1] : Array Value) below meth c H locs 0 0 Q (F0 m 11 ls []) := by
    intro n9
    induction n9 with
    | zero => intro i xb l4 l28 l29 l30 l31 l32 l33 l34 l35 l36 lv5 lv9 lv10 lv11 lv12 lv13 lv14 lv15 lv16 lv17 lv18 lho lxx ltr ivk_1_0 ivk_1_1 ivk_1_2 H locs hP hD hS ls hl hm9; exact absurd hm9 (Nat.not_lt_zero _)
    | succ n9 ih_k_1 =>
      intro i xb l4 l28 l29 l30 l31 l32 l33 l34 l35 l36 lv5 lv9 lv10 lv11 lv12 lv13 lv14 lv15 lv16 lv17 lv18 lho lxx ltr ivk_1_0 ivk_1_1 ivk_1_2 H locs hP hD hS ls hl hm9
      refine lv_iload hx hb dX10_fits_11 (lv_at hl 0 rfl) ?_
      refine lv_aload_n hx hb dX10_fits_13 rfl (lv_at hl 2 rfl) ?_
      refine va_get (D := (dC, dI)) (ci := 10) (v := .int (nI (mkl))) (C := RX10) (T := TX10) (N := 52) hx hb hts (fun _ h => List.mem_cons_of_mem _ (List.mem_append_right _ (List.mem_append_left _ h))) hown hK hP 0 rfl rfl 7 kc_l_7_52 (hts (.fieldLink RX10 244 "NotEndedModel" "laws" "I") (List.mem_cons_of_mem _ (List.mem_append_left _ (List.mem_of_getElem? (i := 1) rfl)))) (fun _ h9 => h9) rfl dX10_fits_14 ?_
      refine lv_icmp_ge (tgt := 50) hx hb dX10_fits_17 kc_t_17_33 (fun c_2 => ?_) (fun c_2 => ?_)
      · have bd_4 : mkl < 2147483648 := by omega
        have bd_5 : i < 2147483648 := by omega
        have hn_3 := kle (a := mkl) (b := i) bd_4 bd_5 c_2
        refine lv_iload hx hb dX10_fits_50 (lv_at hl 1 rfl) ?_
        have hP9 := hP
        have hD9 := hD
        have hK9 := hK
        rw [hQ]
        exact W.iret (v := xb) hx hb hr (fun t ht hW => ⟨⟨xb, (l4, l28, l29, l30, l31, l32, l33, l34, l35, l36, 0, ltr, lho, lxx, (lv5 : Value), (lv9 : Value), (lv10 : Value), (lv11 : Value), (lv12 : Value), (lv13 : Value), (lv14 : Value), (lv15 : Value), (lv16 : Value), (lv17 : Value), (lv18 : Value)), rfl, ⟨(by unfold kFiA; exact (show i = mkl by omega) ▸ ivk_1_1), by omega⟩,  by rw [ht]; exact hP9, va_K.moved hW.alike hK9, hD9⟩, hS.F ht⟩) hS.2.2 dX10_fits_52
      · have bd_7 : mkl < 2147483648 := by omega
        have bd_8 : i < 2147483648 := by omega
        have hn_6 := knle (a := mkl) (b := i) bd_7 bd_8 c_2
        refine lv_iload hx hb dX10_fits_20 (lv_at hl 1 rfl) ?_
        refine lv_aload_n hx hb dX10_fits_22 rfl (lv_at hl 2 rfl) ?_
        refine lv_iload hx hb dX10_fits_23 (lv_at hl 0 rfl) ?_
        refine lv_lload_n hx hb dX10_fits_25 rfl (lv_at hl 3 rfl) ?_
        refine lv_iload_n hx hb dX10_fits_26 rfl (lv_at hl 4 rfl) ?_
        have bd_9 : ml ≤ 120 := by omega
        have bd_10 : lho ≤ 48 := by omega
        have bd_11 : i < mkl := by omega
        have hCu := kCut (wc := [(jM, .inr (10, [.int 0, .ref m1, .ref m2, .ref m3, .ref m4, lv5, .int (nI (ml)), .int (nI (mkl)), .int (nI (mku)), lv9, lv10, lv11, lv12, lv13, lv14, lv15, lv16, lv17, lv18, .ref m19, .ref m20, .ref m21, .ref m22, .ref m23, .ref m24, .ref m25, .int (nI (mps)), .int (nI (mkw)), .ref m28, .ref m29, .ref m30, .ref m31, .ref m32, .ref m33, .ref m34, .ref m35, .ref m36, .int ltr, .int (nI (lho)), .long lxx, .ref m40, .ref m41, .ref m42, .ref m43, .ref m44, .int (nI (mkn)), .ref m46, .ref m47, .ref m48, .ref m49, .ref m50, .int (nI (mka))])), (m1, .inl (mc1, 120, .inl mf1)), (m2, .inl (mc2, 1680, .inl mf2)), (m3, .inl (mc3, 14, .inl mf3)), (m4, .inl (mc4, 128, .inl l4)), (m19, .inl (mc19, 10, .inl mf19)), (m20, .inl (mc20, 10, .inl mf20)), (m21, .inl (mc21, 10, .inl mf21)), (m22, .inl (mc22, 10, .inl mf22)), (m23, .inl (mc23, 10, .inl mf23)), (m24, .inl (mc24, 4, .inl mf24)), (m25, .inl (mc25, 10, .inl mf25)), (m28, .inl (mc28, 10, .inl l28)), (m29, .inl (mc29, 10, .inl l29)), (m30, .inl (mc30, 10, .inl l30)), (m31, .inl (mc31, 10, .inl l31)), (m32, .inl (mc32, 10, .inl l32)), (m33, .inl (mc33, 10, .inl l33)), (m34, .inl (mc34, 10, .inl l34)), (m35, .inl (mc35, 10, .inl l35)), (m36, .inl (mc36, 10, .inl l36)), (m40, .inl (mc40, 20, .inl mf40)), (m41, .inl (mc41, 20, .inl mf41)), (m42, .inl (mc42, 20, .inl mf42)), (m43, .inl (mc43, 20, .inl mf43)), (m44, .inl (mc44, 20, .inl mf44)), (m46, .inl (mc46, 14, .inr (.inl mf46))), (m47, .inl (mc47, 6, .inl mf47)), (m48, .inl (mc48, 6, .inl mf48)), (m49, .inl (mc49, 6, .inl mf49)), (m50, .inl (mc50, 6, .inl mf50))]) hP hD hS hA [0, 1, 2, 3, 4, 5, 6, 7, 8, 9, 10, 11, 12, 13, 14, 15, 16, 17, 18, 19, 20, 21, 22, 23, 24, 25, 26, 27, 28, 29, 30] rfl kc_nd_772 rfl
        have hPc := hCu.1
        have hDc := hCu.2.1
        have hFc := hCu.2.2
        have hKc := hK.sb (tys2 := [(mc1, .byte), (mc2, .byte), (mc3, .int), (mc4, .int), (mc19, .int), (mc20, .int), (mc21, .int), (mc22, .int), (mc23, .int), (mc24, .int), (mc25, .boolean), (mc28, .int), (mc29, .int), (mc30, .int), (mc31, .int), (mc32, .int), (mc33, .int), (mc34, .int), (mc35, .int), (mc36, .int), (mc40, .int), (mc41, .int), (mc42, .int), (mc43, .int), (mc44, .int), (mc46, .long), (mc47, .int), (mc48, .int), (mc49, .int), (mc50, .int)]) [0, 1, 2, 3, 4, 5, 6, 7, 8, 9, 10, 11, 12, 13, 14, 15, 16, 17, 18, 19, 20, 21, 22, 23, 24, 25, 26, 27, 28, 29] rfl
        refine va_calli (va_runV (As := [.int (nI (i)), .long p0, .int p1]) (rest := [.int xb]) ⟨hx, hb, hml, hown, hts⟩ (s_fitsAll10 l dC dI jM 0 ltr lxx (lv5 : Value) (lv9 : Value) (lv10 : Value) (lv11 : Value) (lv12 : Value) (lv13 : Value) (lv14 : Value) (lv15 : Value) (lv16 : Value) (lv17 : Value) (lv18 : Value) m1 m2 m3 m4 m19 m20 m21 m22 m23 m24 m25 m28 m29 m30 m31 m32 m33 m34 m35 m36 m40 m41 m42 m43 m44 m46 m47 m48 m49 m50 mc1 mc2 mc3 mc4 mc19 mc20 mc21 mc22 mc23 mc24 mc25 mc28 mc29 mc30 mc31 mc32 mc33 mc34 mc35 mc36 mc40 mc41 mc42 mc43 mc44 mc46 mc47 mc48 mc49 mc50 mf1 mf2 mf3 l4 mf19 mf20 mf21 mf22 mf23 mf24 mf25 l28 l29 l30 l31 l32 l33 l34 l35 l36 mf40 mf41 mf42 mf43 mf44 mf46 mf47 mf48 mf49 mf50 ml mkl mku mps mkw lho mkn mka bd_9 hmkl hmku hmps hmkw bd_10 hmkn hmka ad bA nA xA hnA bB nB xB hnB bE nE xE hnE bG nG xG hnG gnA gnB gnE gnG hzA hzB hzE hzG hlB hlG yL yU hUl hUt hE9 hG9 G0 G1 G2 G3 G4 SV hTd hOk0 hA9 hB9 hSV hNp i bd_11 p0 p1 H.size) (cwV 3 hts (kG (List.forall_mem_cons.mpr ⟨(List.mem_cons_of_mem _ (List.mem_append_left _ (List.mem_of_getElem? (i := 5) rfl))), (List.forall_mem_cons.mpr ⟨(List.mem_cons_of_mem _ (List.mem_append_left _ (List.mem_of_getElem? (i := 4) rfl))), (List.forall_mem_cons.mpr ⟨(List.mem_cons_of_mem _ (List.mem_append_left _ (List.mem_of_getElem? (i := 3) rfl))), (List.forall_mem_cons.mpr ⟨(List.mem_cons_of_mem _ (List.mem_append_left _ (List.mem_of_getElem? (i := 2) rfl))), (fun _ h => absurd h List.not_mem_nil)⟩)⟩)⟩)⟩) (kGV _ _ _ _) (fun _ h => List.mem_cons_of_mem _ (List.mem_append_right _ (List.mem_append_right _ h))) gw_s_fitsAll10) rfl rfl rfl ⟨rfl, hd_X10_fitsAll⟩ ⟨(Nat.le_of_ble_eq_true rfl), (Nat.le_of_ble_eq_true rfl)⟩) (kW_V kMx_blind (kMx_give hX hS hFc) (va_recv hKc hPc (ci := 10) (q0 := 0) rfl rfl) hPc hKc hDc) rfl rfl hl.1 rfl (lv_room (Nat.le_of_ble_eq_true rfl)) dX10_fits_27 ⟨(Nat.le_of_ble_eq_true rfl), (Nat.le_of_ble_eq_true rfl)⟩) hS (fun q _ h => hFc q h) hFc (fun r_12 => kU24 (fun S4_13 S28_14 S29_15 S30_16 S31_17 S32_18 S33_19 S34_20 S35_21 S36_22 Th_23 Ho_24 Xx_25 W5_26 W9_27 W10_28 W11_29 W12_30 W13_31 W14_32 W15_33 W16_34 W17_35 W18_36 t H_37 locs ht hvm hw hB hz1 hk1 hS => ?_))
        try dsimp only at hw
        have hPD : kPD dC dI A [(jM, .inr (10, [.int 0, .ref m1, .ref m2, .ref m3, .ref m4, W5_26, .int (nI (ml)), .int (nI (mkl)), .int (nI (mku)), W9_27, W10_28, W11_29, W12_30, W13_31, W14_32, W15_33, W16_34, W17_35, W18_36, .ref m19, .ref m20, .ref m21, .ref m22, .ref m23, .ref m24, .ref m25, .int (nI (mps)), .int (nI (mkw)), .ref m28, .ref m29, .ref m30, .ref m31, .ref m32, .ref m33, .ref m34, .ref m35, .ref m36, .int Th_23, .int (nI (Ho_24)), .long Xx_25, .ref m40, .ref m41, .ref m42, .ref m43, .ref m44, .int (nI (mkn)), .ref m46, .ref m47, .ref m48, .ref m49, .ref m50, .int (nI (mka))])), (m1, .inl (mc1, 120, .inl mf1)), (m2, .inl (mc2, 1680, .inl mf2)), (m3, .inl (mc3, 14, .inl mf3)), (m4, .inl (mc4, 128, .inl S4_13)), (m19, .inl (mc19, 10, .inl mf19)), (m20, .inl (mc20, 10, .inl mf20)), (m21, .inl (mc21, 10, .inl mf21)), (m22, .inl (mc22, 10, .inl mf22)), (m23, .inl (mc23, 10, .inl mf23)), (m24, .inl (mc24, 4, .inl mf24)), (m25, .inl (mc25, 10, .inl mf25)), (m28, .inl (mc28, 10, .inl S28_14)), (m29, .inl (mc29, 10, .inl S29_15)), (m30, .inl (mc30, 10, .inl S30_16)), (m31, .inl (mc31, 10, .inl S31_17)), (m32, .inl (mc32, 10, .inl S32_18)), (m33, .inl (mc33, 10, .inl S33_19)), (m34, .inl (mc34, 10, .inl S34_20)), (m35, .inl (mc35, 10, .inl S35_21)), (m36, .inl (mc36, 10, .inl S36_22)), (m40, .inl (mc40, 20, .inl mf40)), (m41, .inl (mc41, 20, .inl mf41)), (m42, .inl (mc42, 20, .inl mf42)), (m43, .inl (mc43, 20, .inl mf43)), (m44, .inl (mc44, 20, .inl mf44)), (m46, .inl (mc46, 14, .inr (.inl mf46))), (m47, .inl (mc47, 6, .inl mf47)), (m48, .inl (mc48, 6, .inl mf48)), (m49, .inl (mc49, 6, .inl mf49)), (m50, .inl (mc50, 6, .inl mf50))] H_37 := kJoinX hP hD [0, 1, 2, 3, 4, 5, 6, 7, 8, 9, 10, 11, 12, 13, 14, 15, 16, 17, 18, 19, 20, 21, 22, 23, 24, 25, 26, 27, 28, 29, 30] rfl hk1 hFc hB.1 ht hB.2.2 rfl [some 0, some 1, some 2, some 3, some 4, some 5, some 6, some 7, some 8, some 9, some 10, some 11, some 12, some 13, some 14, some 15, some 16, some 17, some 18, some 19, some 20, some 21, some 22, some 23, some 24, some 25, some 26, some 27, some 28, some 29, some 30] rfl rfl
        obtain ⟨hP, hD⟩ := hPD
        have hw_38 := hw
        have hw_38_0 := hw_38.2
        refine lv_if_eq (tgt := 40) hx hb dX10_fits_30 kc_t_30_10 (fun c_39 => ?_) (fun c_39 => ?_)
        · refine lv_iconst (v := 0) hx hb dX10_fits_40 kc_i_0 ?_
          refine lv_ior hx hb dX10_fits_41 ?_
          refine lv_topi (fun x_40 ex_40 => ?_)
          refine lv_istore hx hb dX10_fits_42 hl kc_l_4_6 (kTo [(4, .int x_40), (5, .int (nI (i))), (0, .ref jM), (1, .long p0), (3, .int p1)]) (fun ls hl => ?_)
          refine lv_iinc (v := nI (i + 1)) hx hb dX10_fits_44 hl (k := 1) rfl (kInc _ 1) kc_l_5_6 (kTo [(5, .int (nI (i + 1))), (4, .int x_40), (0, .ref jM), (1, .long p0), (3, .int p1)]) (fun ls hl => ?_)
          refine lv_goto (tgt := 11) hx hb dX10_fits_47 kc_t_47_m36 ?_
          exact ih_k_1 (i + 1) x_40 S4_13 S28_14 S29_15 S30_16 S31_17 S32_18 S33_19 S34_20 S35_21 S36_22 (W5_26 : Value) (W9_27 : Value) (W10_28 : Value) (W11_29 : Value) (W12_30 : Value) (W13_31 : Value) (W14_32 : Value) (W15_33 : Value) (W16_34 : Value) (W17_35 : Value) (W18_36 : Value) Ho_24 Xx_25 Th_23 (by omega) (kBtsO (c := (fun l => kNtB (kE0 mps mkw G3 G4 SV (kPrs mps 0) (yL l)) (kS0 G0 G1 G2 p0) (kAbN p1 G2 mf40 mps) mf40 mf41 mf42 mf43 mf44 mkn 49)) ivk_1_1 (fun y => absurd c_39 (fun u => hw_38.1.mpr (by rw [(kNt_c (fun k hk => ⟨kAbN_c hk hNp (by omega) (fun o ho => (hTd.1 o ho).2.2.1), rfl, rfl, rfl, rfl, rfl⟩) 49)]; exact y) u)) ex_40) (by omega) _ _ hP hD hS ls (lv_sub hl [0, 1, 2, 3, 4] rfl) (by omega)
        · refine lv_iconst (v := 1) hx hb dX10_fits_33 kc_i_1 ?_
          refine lv_iload hx hb dX10_fits_34 (lv_at hl 0 rfl) ?_
          refine lv_ishl hx hb dX10_fits_36 ?_
          refine lv_topi (fun x_41 ex_41 => ?_)
          refine lv_goto (tgt := 41) hx hb dX10_fits_37 kc_t_37_4 ?_
          refine lv_ior hx hb dX10_fits_41 ?_
          refine lv_topi (fun x_42 ex_42 => ?_)
          refine lv_istore hx hb dX10_fits_42 hl kc_l_4_6 (kTo [(4, .int x_42), (5, .int (nI (i))), (0, .ref jM), (1, .long p0), (3, .int p1)]) (fun ls hl => ?_)
          refine lv_iinc (v := nI (i + 1)) hx hb dX10_fits_44 hl (k := 1) rfl (kInc _ 1) kc_l_5_6 (kTo [(5, .int (nI (i + 1))), (4, .int x_42), (0, .ref jM), (1, .long p0), (3, .int p1)]) (fun ls hl => ?_)
          refine lv_goto (tgt := 11) hx hb dX10_fits_47 kc_t_47_m36 ?_
          exact ih_k_1 (i + 1) x_42 S4_13 S28_14 S29_15 S30_16 S31_17 S32_18 S33_19 S34_20 S35_21 S36_22 (W5_26 : Value) (W9_27 : Value) (W10_28 : Value) (W11_29 : Value) (W12_30 : Value) (W13_31 : Value) (W14_32 : Value) (W15_33 : Value) (W16_34 : Value) (W17_35 : Value) (W18_36 : Value) Ho_24 Xx_25 Th_23 (by omega) (kBtsU (c := (fun l => kNtB (kE0 mps mkw G3 G4 SV (kPrs mps 0) (yL l)) (kS0 G0 G1 G2 p0) (kAbN p1 G2 mf40 mps) mf40 mf41 mf42 mf43 mf44 mkn 49)) (by omega) ivk_1_1 (by show kNtB _ _ _ _ _ _ _ _ _ _ = true; rw [← (kNt_c (fun k hk => ⟨kAbN_c hk hNp (by omega) (fun o ho => (hTd.1 o ho).2.2.1), rfl, rfl, rfl, rfl, rfl⟩) 49)]; exact hw_38.1.mp c_39) ex_41 ex_42) (by omega) _ _ hP hD hS ls (lv_sub hl [0, 1, 2, 3, 4] rfl) (by omega)
  exact lp_k_1 (mkl - 0 + 1) 0 0 mf4 mf28 mf29 mf30 mf31 mf32 mf33 mf34 mf35 mf36 (v5 : Value) (v9 : Value) (v10 : Value) (v11 : Value) (v12 : Value) (v13 : Value) (v14 : Value) (v15 : Value) (v16 : Value) (v17 : Value) (v18 : Value) ho xx thr (by omega) rfl (by omega) _ _ hP hD hS ls (lv_sub hl [0, 1, 2, 3, 4] rfl) (by omega)

def w_s_holders10x : List Cond := .code yX10_holders cX10_holders 7 (some .int) :: ([.initialized RX10, .selects RX10 yX10_everybody yX10_everybody, .instanceMethod yX10_everybody, .methodLink RX10 314 yX10_everybody, .selects RX10 yX10_allSent yX10_allSent, .instanceMethod yX10_allSent, .methodLink RX10 328 yX10_allSent, .selects RX10 yX10_runOf yX10_runOf, .instanceMethod yX10_runOf, .methodLink RX10 317 yX10_runOf, .fieldLink RX10 250 "NotEndedModel" "persons" "I", .fieldLink RX10 55 "NotEndedModel" "isSent" "[Z", .fieldLink RX10 59 "NotEndedModel" "holds" "[I"] ++ (w_s_every10x ++ (w_s_allSent10x ++ (w_s_runOf10x ++ (wsX100)))))
theorem gw_s_holders10x : (w_s_holders10x).all goodWord = true := kGc rfl (kGa (by decide +kernel) (kGa gw_s_every10x (kGa gw_s_allSent10x (kGa gw_s_runOf10x gw_wsX100))))
theorem hd_X10_holders : yX10_holders.cls ≠ "java/lang/invoke/MethodHandle" ∧ yX10_holders.cls ≠ "java/lang/invoke/VarHandle" ∧ (parseMethodDescriptor yX10_holders.desc).map (fun d => d.parameters.length) = some 3 := by decide +kernel
set_option maxHeartbeats 4000000 in
set_option maxRecDepth 100000 in
theorem s_holders10x (l : Launch) (dC : Nat → ClassId) (dI : Nat → Nat → Nat) (jM : Nat) (th : Int32) (thr : Int32) (xx : Int64) (v5 : Value) (v9 : Value) (v10 : Value) (v11 : Value) (v12 : Value) (v13 : Value) (v14 : Value) (v15 : Value) (v16 : Value) (v17 : Value) (v18 : Value) (m1 : Nat) (m2 : Nat) (m3 : Nat) (m4 : Nat) (m19 : Nat) (m20 : Nat) (m21 : Nat) (m22 : Nat) (m23 : Nat) (m24 : Nat) (m25 : Nat) (m28 : Nat) (m29 : Nat) (m30 : Nat) (m31 : Nat) (m32 : Nat) (m33 : Nat) (m34 : Nat) (m35 : Nat) (m36 : Nat) (m40 : Nat) (m41 : Nat) (m42 : Nat) (m43 : Nat) (m44 : Nat) (m46 : Nat) (m47 : Nat) (m48 : Nat) (m49 : Nat) (m50 : Nat) (mc1 : ClassId) (mc2 : ClassId) (mc3 : ClassId) (mc4 : ClassId) (mc19 : ClassId) (mc20 : ClassId) (mc21 : ClassId) (mc22 : ClassId) (mc23 : ClassId) (mc24 : ClassId) (mc25 : ClassId) (mc28 : ClassId) (mc29 : ClassId) (mc30 : ClassId) (mc31 : ClassId) (mc32 : ClassId) (mc33 : ClassId) (mc34 : ClassId) (mc35 : ClassId) (mc36 : ClassId) (mc40 : ClassId) (mc41 : ClassId) (mc42 : ClassId) (mc43 : ClassId) (mc44 : ClassId) (mc46 : ClassId) (mc47 : ClassId) (mc48 : ClassId) (mc49 : ClassId) (mc50 : ClassId) (mf1 : Nat → Int32) (mf2 : Nat → Int32) (mf3 : Nat → Int32) (mf4 : Nat → Int32) (mf19 : Nat → Int32) (mf20 : Nat → Int32) (mf21 : Nat → Int32) (mf22 : Nat → Int32) (mf23 : Nat → Int32) (mf24 : Nat → Int32) (mf25 : Nat → Int32) (mf28 : Nat → Int32) (mf29 : Nat → Int32) (mf30 : Nat → Int32) (mf31 : Nat → Int32) (mf32 : Nat → Int32) (mf33 : Nat → Int32) (mf34 : Nat → Int32) (mf35 : Nat → Int32) (mf36 : Nat → Int32) (mf40 : Nat → Int32) (mf41 : Nat → Int32) (mf42 : Nat → Int32) (mf43 : Nat → Int32) (mf44 : Nat → Int32) (mf46 : Nat → Int64) (mf47 : Nat → Int32) (mf48 : Nat → Int32) (mf49 : Nat → Int32) (mf50 : Nat → Int32) (ml : Nat) (mkl : Nat) (mku : Nat) (mps : Nat) (mkw : Nat) (ho : Nat) (mkn : Nat) (mka : Nat) (hml : ml ≤ 120) (hmkl : mkl ≤ 6) (hmku : mku ≤ 8) (hmps : mps ≤ 10) (hmkw : mkw ≤ 4) (hho : ho ≤ 48) (hmkn : mkn ≤ 20) (hmka : mka ≤ 6) (ad : Nat → Nat) (bA : Nat) (nA : Nat) (xA : Nat → Int32) (hnA : nA ≤ 8) (bB : Nat) (nB : Nat) (xB : Nat → Int32) (hnB : nB ≤ 8) (bE : Nat) (nE : Nat) (xE : Nat → Int32) (hnE : nE ≤ 8) (bG : Nat) (nG : Nat) (xG : Nat → Int32) (hnG : nG ≤ 8) (gnA : ∀ k : Nat, ∃ v : Nat, v < 128 ∧ xA k = nI v) (gnB : ∀ k : Nat, ∃ v : Nat, v < 128 ∧ xB k = nI v) (gnE : ∀ k : Nat, ∃ v : Nat, v < 128 ∧ xE k = nI v) (gnG : ∀ k : Nat, ∃ v : Nat, v < 128 ∧ xG k = nI v) (hzA : kIx xA nA (nI 0) = nA) (hzB : kIx xB nB (nI 0) = nB) (hzE : kIx xE nE (nI 0) = nE) (hzG : kIx xG nG (nI 0) = nG) (hlB : ∀ c : Nat, c < 256 → kIx xB nB (nI c) < nB → ¬ c = 91 ∧ ¬ (48 ≤ c ∧ c ≤ 57)) (hlG : ∀ c : Nat, c < 256 → kIx xG nG (nI c) < nG → ¬ c = 91 ∧ ¬ (48 ≤ c ∧ c ≤ 57)) (yL : Nat → List kTr) (yU : Nat → List kTr) (hUl : kUn mf2 mf3 0 mkl xA nA xB nB yL) (hUt : kUn mf2 mf3 6 mku xE nE xG nG yU) (hE9 : nE = 1 ∧ xE 0 = 119) (hG9 : nG = 5 ∧ ∀ k : Nat, k < 5 → xG k = nI (97 + k)) (G0 : Nat → Int32) (G1 : Nat → Int32) (G2 : Nat → Int32) (G3 : Nat → Int32) (G4 : Nat → Int32) (SV : Nat) (hTd : kTd mps mkw G0 G1 G2 G3 G4 SV mf19 mf20 mf21 mf22 mf24 mf25) (hOk0 : kOk mps (kS0 G0 G1 G2 0)) (hA9 : nA = 3 ∧ xA 0 = 121 ∧ xA 1 = 103 ∧ xA 2 = 120) (hB9 : nB = 8 ∧ ∀ k : Nat, k < 8 → xB k = nI (kSg8 k)) (hSV : SV < 1024) (pl : Nat) (hpl : pl < mkl) (p1 : Int64) (p2 : Int32) (w9 : Int32) (hw9 : kEvb mps &&& (nI SV ^^^ (-1)) ||| p2 = kPrs mps (nI SV &&& w9)) (sz : Nat) : Met l yX10_holders w_s_holders10x ({ frames := 62, cells := 0, slots := 0, locals := 3720 }) (kW dC dI [.ref jM, .int (nI (pl)), .long p1, .int p2] [(jM, .inr (10, [.int th, .ref m1, .ref m2, .ref m3, .ref m4, v5, .int (nI (ml)), .int (nI (mkl)), .int (nI (mku)), v9, v10, v11, v12, v13, v14, v15, v16, v17, v18, .ref m19, .ref m20, .ref m21, .ref m22, .ref m23, .ref m24, .ref m25, .int (nI (mps)), .int (nI (mkw)), .ref m28, .ref m29, .ref m30, .ref m31, .ref m32, .ref m33, .ref m34, .ref m35, .ref m36, .int thr, .int (nI (ho)), .long xx, .ref m40, .ref m41, .ref m42, .ref m43, .ref m44, .int (nI (mkn)), .ref m46, .ref m47, .ref m48, .ref m49, .ref m50, .int (nI (mka))])), (m1, .inl (mc1, 120, .inl mf1)), (m2, .inl (mc2, 1680, .inl mf2)), (m3, .inl (mc3, 14, .inl mf3)), (m4, .inl (mc4, 128, .inl mf4)), (m19, .inl (mc19, 10, .inl mf19)), (m20, .inl (mc20, 10, .inl mf20)), (m21, .inl (mc21, 10, .inl mf21)), (m22, .inl (mc22, 10, .inl mf22)), (m23, .inl (mc23, 10, .inl mf23)), (m24, .inl (mc24, 4, .inl mf24)), (m25, .inl (mc25, 10, .inl mf25)), (m28, .inl (mc28, 10, .inl mf28)), (m29, .inl (mc29, 10, .inl mf29)), (m30, .inl (mc30, 10, .inl mf30)), (m31, .inl (mc31, 10, .inl mf31)), (m32, .inl (mc32, 10, .inl mf32)), (m33, .inl (mc33, 10, .inl mf33)), (m34, .inl (mc34, 10, .inl mf34)), (m35, .inl (mc35, 10, .inl mf35)), (m36, .inl (mc36, 10, .inl mf36)), (m40, .inl (mc40, 20, .inl mf40)), (m41, .inl (mc41, 20, .inl mf41)), (m42, .inl (mc42, 20, .inl mf42)), (m43, .inl (mc43, 20, .inl mf43)), (m44, .inl (mc44, 20, .inl mf44)), (m46, .inl (mc46, 14, .inr (.inl mf46))), (m47, .inl (mc47, 6, .inl mf47)), (m48, .inl (mc48, 6, .inl mf48)), (m49, .inl (mc49, 6, .inl mf49)), (m50, .inl (mc50, 6, .inl mf50))] [(mc1, .byte), (mc2, .byte), (mc3, .int), (mc4, .int), (mc19, .int), (mc20, .int), (mc21, .int), (mc22, .int), (mc23, .int), (mc24, .int), (mc25, .boolean), (mc28, .int), (mc29, .int), (mc30, .int), (mc31, .int), (mc32, .int), (mc33, .int), (mc34, .int), (mc35, .int), (mc36, .int), (mc40, .int), (mc41, .int), (mc42, .int), (mc43, .int), (mc44, .int), (mc46, .long), (mc47, .int), (mc48, .int), (mc49, .int), (mc50, .int)] (kMx ad bA nA xA bB nB xB bE nE xE bG nG xG (va_A [(jM, .inr (10, [.int th, .ref m1, .ref m2, .ref m3, .ref m4, v5, .int (nI (ml)), .int (nI (mkl)), .int (nI (mku)), v9, v10, v11, v12, v13, v14, v15, v16, v17, v18, .ref m19, .ref m20, .ref m21, .ref m22, .ref m23, .ref m24, .ref m25, .int (nI (mps)), .int (nI (mkw)), .ref m28, .ref m29, .ref m30, .ref m31, .ref m32, .ref m33, .ref m34, .ref m35, .ref m36, .int thr, .int (nI (ho)), .long xx, .ref m40, .ref m41, .ref m42, .ref m43, .ref m44, .int (nI (mkn)), .ref m46, .ref m47, .ref m48, .ref m49, .ref m50, .int (nI (mka))])), (m1, .inl (mc1, 120, .inl mf1)), (m2, .inl (mc2, 1680, .inl mf2)), (m3, .inl (mc3, 14, .inl mf3)), (m4, .inl (mc4, 128, .inl mf4)), (m19, .inl (mc19, 10, .inl mf19)), (m20, .inl (mc20, 10, .inl mf20)), (m21, .inl (mc21, 10, .inl mf21)), (m22, .inl (mc22, 10, .inl mf22)), (m23, .inl (mc23, 10, .inl mf23)), (m24, .inl (mc24, 4, .inl mf24)), (m25, .inl (mc25, 10, .inl mf25)), (m28, .inl (mc28, 10, .inl mf28)), (m29, .inl (mc29, 10, .inl mf29)), (m30, .inl (mc30, 10, .inl mf30)), (m31, .inl (mc31, 10, .inl mf31)), (m32, .inl (mc32, 10, .inl mf32)), (m33, .inl (mc33, 10, .inl mf33)), (m34, .inl (mc34, 10, .inl mf34)), (m35, .inl (mc35, 10, .inl mf35)), (m36, .inl (mc36, 10, .inl mf36)), (m40, .inl (mc40, 20, .inl mf40)), (m41, .inl (mc41, 20, .inl mf41)), (m42, .inl (mc42, 20, .inl mf42)), (m43, .inl (mc43, 20, .inl mf43)), (m44, .inl (mc44, 20, .inl mf44)), (m46, .inl (mc46, 14, .inr (.inl mf46))), (m47, .inl (mc47, 6, .inl mf47)), (m48, .inl (mc48, 6, .inl mf48)), (m49, .inl (mc49, 6, .inl mf49)), (m50, .inl (mc50, 6, .inl mf50))] sz)) sz) (va_Qi (fun (r : Int32) (u : (Nat → Int32) × (Nat → Int32) × (Nat → Int32) × (Nat → Int32) × (Nat → Int32) × (Nat → Int32) × (Nat → Int32) × (Nat → Int32) × (Nat → Int32) × (Nat → Int32) × Int32 × Nat × Int64 × Value × Value × Value × Value × Value × Value × Value × Value × Value × Value × Value) => match u with | (S4, S28, S29, S30, S31, S32, S33, S34, S35, S36, Th, Ho, Xx, W5, W9, W10, W11, W12, W13, W14, W15, W16, W17, W18) => (r = kHol mps mkw G0 G1 G2 G3 G4 SV (yL pl) p1 (nI SV &&& w9) ∧ Ho ≤ 48)) (fun (u : (Nat → Int32) × (Nat → Int32) × (Nat → Int32) × (Nat → Int32) × (Nat → Int32) × (Nat → Int32) × (Nat → Int32) × (Nat → Int32) × (Nat → Int32) × (Nat → Int32) × Int32 × Nat × Int64 × Value × Value × Value × Value × Value × Value × Value × Value × Value × Value × Value) => match u with | (S4, S28, S29, S30, S31, S32, S33, S34, S35, S36, Th, Ho, Xx, W5, W9, W10, W11, W12, W13, W14, W15, W16, W17, W18) => fun t : State => kB dC dI [(jM, .inr (10, [.int th, .ref m1, .ref m2, .ref m3, .ref m4, W5, .int (nI (ml)), .int (nI (mkl)), .int (nI (mku)), W9, W10, W11, W12, W13, W14, W15, W16, W17, W18, .ref m19, .ref m20, .ref m21, .ref m22, .ref m23, .ref m24, .ref m25, .int (nI (mps)), .int (nI (mkw)), .ref m28, .ref m29, .ref m30, .ref m31, .ref m32, .ref m33, .ref m34, .ref m35, .ref m36, .int Th, .int (nI (Ho)), .long Xx, .ref m40, .ref m41, .ref m42, .ref m43, .ref m44, .int (nI (mkn)), .ref m46, .ref m47, .ref m48, .ref m49, .ref m50, .int (nI (mka))])), (m1, .inl (mc1, 120, .inl mf1)), (m2, .inl (mc2, 1680, .inl mf2)), (m3, .inl (mc3, 14, .inl mf3)), (m4, .inl (mc4, 128, .inl S4)), (m19, .inl (mc19, 10, .inl mf19)), (m20, .inl (mc20, 10, .inl mf20)), (m21, .inl (mc21, 10, .inl mf21)), (m22, .inl (mc22, 10, .inl mf22)), (m23, .inl (mc23, 10, .inl mf23)), (m24, .inl (mc24, 4, .inl mf24)), (m25, .inl (mc25, 10, .inl mf25)), (m28, .inl (mc28, 10, .inl S28)), (m29, .inl (mc29, 10, .inl S29)), (m30, .inl (mc30, 10, .inl S30)), (m31, .inl (mc31, 10, .inl S31)), (m32, .inl (mc32, 10, .inl S32)), (m33, .inl (mc33, 10, .inl S33)), (m34, .inl (mc34, 10, .inl S34)), (m35, .inl (mc35, 10, .inl S35)), (m36, .inl (mc36, 10, .inl S36)), (m40, .inl (mc40, 20, .inl mf40)), (m41, .inl (mc41, 20, .inl mf41)), (m42, .inl (mc42, 20, .inl mf42)), (m43, .inl (mc43, 20, .inl mf43)), (m44, .inl (mc44, 20, .inl mf44)), (m46, .inl (mc46, 14, .inr (.inl mf46))), (m47, .inl (mc47, 6, .inl mf47)), (m48, .inl (mc48, 6, .inl mf48)), (m49, .inl (mc49, 6, .inl mf49)), (m50, .inl (mc50, 6, .inl mf50))] [(mc1, .byte), (mc2, .byte), (mc3, .int), (mc4, .int), (mc19, .int), (mc20, .int), (mc21, .int), (mc22, .int), (mc23, .int), (mc24, .int), (mc25, .boolean), (mc28, .int), (mc29, .int), (mc30, .int), (mc31, .int), (mc32, .int), (mc33, .int), (mc34, .int), (mc35, .int), (mc36, .int), (mc40, .int), (mc41, .int), (mc42, .int), (mc43, .int), (mc44, .int), (mc46, .long), (mc47, .int), (mc48, .int), (mc49, .int), (mc50, .int)] (va_A [(jM, .inr (10, [.int th, .ref m1, .ref m2, .ref m3, .ref m4, v5, .int (nI (ml)), .int (nI (mkl)), .int (nI (mku)), v9, v10, v11, v12, v13, v14, v15, v16, v17, v18, .ref m19, .ref m20, .ref m21, .ref m22, .ref m23, .ref m24, .ref m25, .int (nI (mps)), .int (nI (mkw)), .ref m28, .ref m29, .ref m30, .ref m31, .ref m32, .ref m33, .ref m34, .ref m35, .ref m36, .int thr, .int (nI (ho)), .long xx, .ref m40, .ref m41, .ref m42, .ref m43, .ref m44, .int (nI (mkn)), .ref m46, .ref m47, .ref m48, .ref m49, .ref m50, .int (nI (mka))])), (m1, .inl (mc1, 120, .inl mf1)), (m2, .inl (mc2, 1680, .inl mf2)), (m3, .inl (mc3, 14, .inl mf3)), (m4, .inl (mc4, 128, .inl mf4)), (m19, .inl (mc19, 10, .inl mf19)), (m20, .inl (mc20, 10, .inl mf20)), (m21, .inl (mc21, 10, .inl mf21)), (m22, .inl (mc22, 10, .inl mf22)), (m23, .inl (mc23, 10, .inl mf23)), (m24, .inl (mc24, 4, .inl mf24)), (m25, .inl (mc25, 10, .inl mf25)), (m28, .inl (mc28, 10, .inl mf28)), (m29, .inl (mc29, 10, .inl mf29)), (m30, .inl (mc30, 10, .inl mf30)), (m31, .inl (mc31, 10, .inl mf31)), (m32, .inl (mc32, 10, .inl mf32)), (m33, .inl (mc33, 10, .inl mf33)), (m34, .inl (mc34, 10, .inl mf34)), (m35, .inl (mc35, 10, .inl mf35)), (m36, .inl (mc36, 10, .inl mf36)), (m40, .inl (mc40, 20, .inl mf40)), (m41, .inl (mc41, 20, .inl mf41)), (m42, .inl (mc42, 20, .inl mf42)), (m43, .inl (mc43, 20, .inl mf43)), (m44, .inl (mc44, 20, .inl mf44)), (m46, .inl (mc46, 14, .inr (.inl mf46))), (m47, .inl (mc47, 6, .inl mf47)), (m48, .inl (mc48, 6, .inl mf48)), (m49, .inl (mc49, 6, .inl mf49)), (m50, .inl (mc50, 6, .inl mf50))] sz) t) (va_A [(jM, .inr (10, [.int th, .ref m1, .ref m2, .ref m3, .ref m4, v5, .int (nI (ml)), .int (nI (mkl)), .int (nI (mku)), v9, v10, v11, v12, v13, v14, v15, v16, v17, v18, .ref m19, .ref m20, .ref m21, .ref m22, .ref m23, .ref m24, .ref m25, .int (nI (mps)), .int (nI (mkw)), .ref m28, .ref m29, .ref m30, .ref m31, .ref m32, .ref m33, .ref m34, .ref m35, .ref m36, .int thr, .int (nI (ho)), .long xx, .ref m40, .ref m41, .ref m42, .ref m43, .ref m44, .int (nI (mkn)), .ref m46, .ref m47, .ref m48, .ref m49, .ref m50, .int (nI (mka))])), (m1, .inl (mc1, 120, .inl mf1)), (m2, .inl (mc2, 1680, .inl mf2)), (m3, .inl (mc3, 14, .inl mf3)), (m4, .inl (mc4, 128, .inl mf4)), (m19, .inl (mc19, 10, .inl mf19)), (m20, .inl (mc20, 10, .inl mf20)), (m21, .inl (mc21, 10, .inl mf21)), (m22, .inl (mc22, 10, .inl mf22)), (m23, .inl (mc23, 10, .inl mf23)), (m24, .inl (mc24, 4, .inl mf24)), (m25, .inl (mc25, 10, .inl mf25)), (m28, .inl (mc28, 10, .inl mf28)), (m29, .inl (mc29, 10, .inl mf29)), (m30, .inl (mc30, 10, .inl mf30)), (m31, .inl (mc31, 10, .inl mf31)), (m32, .inl (mc32, 10, .inl mf32)), (m33, .inl (mc33, 10, .inl mf33)), (m34, .inl (mc34, 10, .inl mf34)), (m35, .inl (mc35, 10, .inl mf35)), (m36, .inl (mc36, 10, .inl mf36)), (m40, .inl (mc40, 20, .inl mf40)), (m41, .inl (mc41, 20, .inl mf41)), (m42, .inl (mc42, 20, .inl mf42)), (m43, .inl (mc43, 20, .inl mf43)), (m44, .inl (mc44, 20, .inl mf44)), (m46, .inl (mc46, 14, .inr (.inl mf46))), (m47, .inl (mc47, 6, .inl mf47)), (m48, .inl (mc48, 6, .inl mf48)), (m49, .inl (mc49, 6, .inl mf49)), (m50, .inl (mc50, 6, .inl mf50))] sz)) 0 0 (va_A [(jM, .inr (10, [.int th, .ref m1, .ref m2, .ref m3, .ref m4, v5, .int (nI (ml)), .int (nI (mkl)), .int (nI (mku)), v9, v10, v11, v12, v13, v14, v15, v16, v17, v18, .ref m19, .ref m20, .ref m21, .ref m22, .ref m23, .ref m24, .ref m25, .int (nI (mps)), .int (nI (mkw)), .ref m28, .ref m29, .ref m30, .ref m31, .ref m32, .ref m33, .ref m34, .ref m35, .ref m36, .int thr, .int (nI (ho)), .long xx, .ref m40, .ref m41, .ref m42, .ref m43, .ref m44, .int (nI (mkn)), .ref m46, .ref m47, .ref m48, .ref m49, .ref m50, .int (nI (mka))])), (m1, .inl (mc1, 120, .inl mf1)), (m2, .inl (mc2, 1680, .inl mf2)), (m3, .inl (mc3, 14, .inl mf3)), (m4, .inl (mc4, 128, .inl mf4)), (m19, .inl (mc19, 10, .inl mf19)), (m20, .inl (mc20, 10, .inl mf20)), (m21, .inl (mc21, 10, .inl mf21)), (m22, .inl (mc22, 10, .inl mf22)), (m23, .inl (mc23, 10, .inl mf23)), (m24, .inl (mc24, 4, .inl mf24)), (m25, .inl (mc25, 10, .inl mf25)), (m28, .inl (mc28, 10, .inl mf28)), (m29, .inl (mc29, 10, .inl mf29)), (m30, .inl (mc30, 10, .inl mf30)), (m31, .inl (mc31, 10, .inl mf31)), (m32, .inl (mc32, 10, .inl mf32)), (m33, .inl (mc33, 10, .inl mf33)), (m34, .inl (mc34, 10, .inl mf34)), (m35, .inl (mc35, 10, .inl mf35)), (m36, .inl (mc36, 10, .inl mf36)), (m40, .inl (mc40, 20, .inl mf40)), (m41, .inl (mc41, 20, .inl mf41)), (m42, .inl (mc42, 20, .inl mf42)), (m43, .inl (mc43, 20, .inl mf43)), (m44, .inl (mc44, 20, .inl mf44)), (m46, .inl (mc46, 14, .inr (.inl mf46))), (m47, .inl (mc47, 6, .inl mf47)), (m48, .inl (mc48, 6, .inl mf48)), (m49, .inl (mc49, 6, .inl mf49)), (m50, .inl (mc50, 6, .inl mf50))] sz) := by
  refine Met.ofW (cc := cX10_holders) (maxL := 7) (ret := (some .int)) (by decide) rfl ?_
  intro p e s m args below meth c s₁ B hml hv
  obtain ⟨rfl, hsz, hP, hK, hD0, hX⟩ := hv
  have hx := B.exec
  have hb := B.bytes
  have hr := B.returns
  have hts := atoms_spec (ws := w_s_holders10x) B.pre
  have hown : s.vm.findClass RX10 = some m.cls := findClass_of_methodNamed B.named
  have hlocks := B.notSynchronized
  subst hsz
  have hD := hD0.self (sz := s.heap.size)
  generalize hAe : va_A [(jM, .inr (10, [.int th, .ref m1, .ref m2, .ref m3, .ref m4, v5, .int (nI (ml)), .int (nI (mkl)), .int (nI (mku)), v9, v10, v11, v12, v13, v14, v15, v16, v17, v18, .ref m19, .ref m20, .ref m21, .ref m22, .ref m23, .ref m24, .ref m25, .int (nI (mps)), .int (nI (mkw)), .ref m28, .ref m29, .ref m30, .ref m31, .ref m32, .ref m33, .ref m34, .ref m35, .ref m36, .int thr, .int (nI (ho)), .long xx, .ref m40, .ref m41, .ref m42, .ref m43, .ref m44, .int (nI (mkn)), .ref m46, .ref m47, .ref m48, .ref m49, .ref m50, .int (nI (mka))])), (m1, .inl (mc1, 120, .inl mf1)), (m2, .inl (mc2, 1680, .inl mf2)), (m3, .inl (mc3, 14, .inl mf3)), (m4, .inl (mc4, 128, .inl mf4)), (m19, .inl (mc19, 10, .inl mf19)), (m20, .inl (mc20, 10, .inl mf20)), (m21, .inl (mc21, 10, .inl mf21)), (m22, .inl (mc22, 10, .inl mf22)), (m23, .inl (mc23, 10, .inl mf23)), (m24, .inl (mc24, 4, .inl mf24)), (m25, .inl (mc25, 10, .inl mf25)), (m28, .inl (mc28, 10, .inl mf28)), (m29, .inl (mc29, 10, .inl mf29)), (m30, .inl (mc30, 10, .inl mf30)), (m31, .inl (mc31, 10, .inl mf31)), (m32, .inl (mc32, 10, .inl mf32)), (m33, .inl (mc33, 10, .inl mf33)), (m34, .inl (mc34, 10, .inl mf34)), (m35, .inl (mc35, 10, .inl mf35)), (m36, .inl (mc36, 10, .inl mf36)), (m40, .inl (mc40, 20, .inl mf40)), (m41, .inl (mc41, 20, .inl mf41)), (m42, .inl (mc42, 20, .inl mf42)), (m43, .inl (mc43, 20, .inl mf43)), (m44, .inl (mc44, 20, .inl mf44)), (m46, .inl (mc46, 14, .inr (.inl mf46))), (m47, .inl (mc47, 6, .inl mf47)), (m48, .inl (mc48, 6, .inl mf48)), (m49, .inl (mc49, 6, .inl mf49)), (m50, .inl (mc50, 6, .inl mf50))] s.heap.size = A at hD hX ⊢
  have hA : ∀ q : Nat, s.heap.size ≤ q → A q := fun q h => by rw [← hAe]; exact Or.inr h
  have hS : va_S A s.heap s.heap [] := va_S.rf
  have hP : va_P (dC, dI) vwCl [(jM, .inr (10, [.int th, .ref m1, .ref m2, .ref m3, .ref m4, v5, .int (nI (ml)), .int (nI (mkl)), .int (nI (mku)), v9, v10, v11, v12, v13, v14, v15, v16, v17, v18, .ref m19, .ref m20, .ref m21, .ref m22, .ref m23, .ref m24, .ref m25, .int (nI (mps)), .int (nI (mkw)), .ref m28, .ref m29, .ref m30, .ref m31, .ref m32, .ref m33, .ref m34, .ref m35, .ref m36, .int thr, .int (nI (ho)), .long xx, .ref m40, .ref m41, .ref m42, .ref m43, .ref m44, .int (nI (mkn)), .ref m46, .ref m47, .ref m48, .ref m49, .ref m50, .int (nI (mka))])), (m1, .inl (mc1, 120, .inl mf1)), (m2, .inl (mc2, 1680, .inl mf2)), (m3, .inl (mc3, 14, .inl mf3)), (m4, .inl (mc4, 128, .inl mf4)), (m19, .inl (mc19, 10, .inl mf19)), (m20, .inl (mc20, 10, .inl mf20)), (m21, .inl (mc21, 10, .inl mf21)), (m22, .inl (mc22, 10, .inl mf22)), (m23, .inl (mc23, 10, .inl mf23)), (m24, .inl (mc24, 4, .inl mf24)), (m25, .inl (mc25, 10, .inl mf25)), (m28, .inl (mc28, 10, .inl mf28)), (m29, .inl (mc29, 10, .inl mf29)), (m30, .inl (mc30, 10, .inl mf30)), (m31, .inl (mc31, 10, .inl mf31)), (m32, .inl (mc32, 10, .inl mf32)), (m33, .inl (mc33, 10, .inl mf33)), (m34, .inl (mc34, 10, .inl mf34)), (m35, .inl (mc35, 10, .inl mf35)), (m36, .inl (mc36, 10, .inl mf36)), (m40, .inl (mc40, 20, .inl mf40)), (m41, .inl (mc41, 20, .inl mf41)), (m42, .inl (mc42, 20, .inl mf42)), (m43, .inl (mc43, 20, .inl mf43)), (m44, .inl (mc44, 20, .inl mf44)), (m46, .inl (mc46, 14, .inr (.inl mf46))), (m47, .inl (mc47, 6, .inl mf47)), (m48, .inl (mc48, 6, .inl mf48)), (m49, .inl (mc49, 6, .inl mf49)), (m50, .inl (mc50, 6, .inl mf50))] s.heap := hP
  have hl := lv_entry ([.ref jM, .int (nI (pl)), .long p1, .int p2]) (n := 7) (Nat.le_of_ble_eq_true rfl)
  rw [lg_entry_eq]
  generalize (lg_sl ([.ref jM, .int (nI (pl)), .long p1, .int p2]) ++ List.replicate (7 - (lg_sl ([.ref jM, .int (nI (pl)), .long p1, .int p2])).length) Slot.unset).toArray = ls at hl ⊢
  have hl : lv_has ls 7 [(0, .ref jM), (1, .int (nI (pl))), (2, .long p1), (4, .int p2)] := hl
  refine kQ (fun Q hQ => ?_)
  refine lv_aload_n hx hb dX10_holders_0 rfl (lv_at hl 0 rfl) ?_
  refine lv_iload_n hx hb dX10_holders_1 rfl (lv_at hl 1 rfl) ?_
  refine lv_lload_n hx hb dX10_holders_2 rfl (lv_at hl 2 rfl) ?_
  refine lv_bipush (v := 48) hx hb dX10_holders_3 kc_b_48 ?_
  refine lv_aload_n hx hb dX10_holders_5 rfl (lv_at hl 0 rfl) ?_
  have bd_1 : ml ≤ 120 := by omega
  have hPc := hP.sb (ws2 := [(jM, .inr (10, [.int th, .ref m1, .ref m2, .ref m3, .ref m4, v5, .int (nI (ml)), .int (nI (mkl)), .int (nI (mku)), v9, v10, v11, v12, v13, v14, v15, v16, v17, v18, .ref m19, .ref m20, .ref m21, .ref m22, .ref m23, .ref m24, .ref m25, .int (nI (mps)), .int (nI (mkw)), .ref m28, .ref m29, .ref m30, .ref m31, .ref m32, .ref m33, .ref m34, .ref m35, .ref m36, .int thr, .int (nI (ho)), .long xx, .ref m40, .ref m41, .ref m42, .ref m43, .ref m44, .int (nI (mkn)), .ref m46, .ref m47, .ref m48, .ref m49, .ref m50, .int (nI (mka))])), (m1, .inl (mc1, 120, .inl mf1)), (m2, .inl (mc2, 1680, .inl mf2)), (m3, .inl (mc3, 14, .inl mf3)), (m4, .inl (mc4, 128, .inl mf4)), (m19, .inl (mc19, 10, .inl mf19)), (m20, .inl (mc20, 10, .inl mf20)), (m21, .inl (mc21, 10, .inl mf21)), (m22, .inl (mc22, 10, .inl mf22)), (m23, .inl (mc23, 10, .inl mf23)), (m24, .inl (mc24, 4, .inl mf24)), (m25, .inl (mc25, 10, .inl mf25)), (m28, .inl (mc28, 10, .inl mf28)), (m29, .inl (mc29, 10, .inl mf29)), (m30, .inl (mc30, 10, .inl mf30)), (m31, .inl (mc31, 10, .inl mf31)), (m32, .inl (mc32, 10, .inl mf32)), (m33, .inl (mc33, 10, .inl mf33)), (m34, .inl (mc34, 10, .inl mf34)), (m35, .inl (mc35, 10, .inl mf35)), (m36, .inl (mc36, 10, .inl mf36)), (m40, .inl (mc40, 20, .inl mf40)), (m41, .inl (mc41, 20, .inl mf41)), (m42, .inl (mc42, 20, .inl mf42)), (m43, .inl (mc43, 20, .inl mf43)), (m44, .inl (mc44, 20, .inl mf44)), (m46, .inl (mc46, 14, .inr (.inl mf46))), (m47, .inl (mc47, 6, .inl mf47)), (m48, .inl (mc48, 6, .inl mf48)), (m49, .inl (mc49, 6, .inl mf49)), (m50, .inl (mc50, 6, .inl mf50))]) [0, 1, 2, 3, 4, 5, 6, 7, 8, 9, 10, 11, 12, 13, 14, 15, 16, 17, 18, 19, 20, 21, 22, 23, 24, 25, 26, 27, 28, 29, 30] rfl
  have hKc := hK.sb (tys2 := [(mc1, .byte), (mc2, .byte), (mc3, .int), (mc4, .int), (mc19, .int), (mc20, .int), (mc21, .int), (mc22, .int), (mc23, .int), (mc24, .int), (mc25, .boolean), (mc28, .int), (mc29, .int), (mc30, .int), (mc31, .int), (mc32, .int), (mc33, .int), (mc34, .int), (mc35, .int), (mc36, .int), (mc40, .int), (mc41, .int), (mc42, .int), (mc43, .int), (mc44, .int), (mc46, .long), (mc47, .int), (mc48, .int), (mc49, .int), (mc50, .int)]) [0, 1, 2, 3, 4, 5, 6, 7, 8, 9, 10, 11, 12, 13, 14, 15, 16, 17, 18, 19, 20, 21, 22, 23, 24, 25, 26, 27, 28, 29] rfl
  refine vp_callSi (va_runV (As := []) (rest := [.int 48, .long p1, .int (nI (pl)), .ref jM]) ⟨hx, hb, hml, hown, hts⟩ (s_every10x l dC dI jM th thr xx (v5 : Value) (v9 : Value) (v10 : Value) (v11 : Value) (v12 : Value) (v13 : Value) (v14 : Value) (v15 : Value) (v16 : Value) (v17 : Value) (v18 : Value) m1 m2 m3 m4 m19 m20 m21 m22 m23 m24 m25 m28 m29 m30 m31 m32 m33 m34 m35 m36 m40 m41 m42 m43 m44 m46 m47 m48 m49 m50 mc1 mc2 mc3 mc4 mc19 mc20 mc21 mc22 mc23 mc24 mc25 mc28 mc29 mc30 mc31 mc32 mc33 mc34 mc35 mc36 mc40 mc41 mc42 mc43 mc44 mc46 mc47 mc48 mc49 mc50 mf1 mf2 mf3 mf4 mf19 mf20 mf21 mf22 mf23 mf24 mf25 mf28 mf29 mf30 mf31 mf32 mf33 mf34 mf35 mf36 mf40 mf41 mf42 mf43 mf44 mf46 mf47 mf48 mf49 mf50 ml mkl mku mps mkw ho mkn mka bd_1 hmkl hmku hmps hmkw hho hmkn hmka) (cwV 0 hts (kG (List.forall_mem_cons.mpr ⟨(List.mem_cons_of_mem _ (List.mem_append_left _ (List.mem_of_getElem? (i := 3) rfl))), (List.forall_mem_cons.mpr ⟨(List.mem_cons_of_mem _ (List.mem_append_left _ (List.mem_of_getElem? (i := 2) rfl))), (List.forall_mem_cons.mpr ⟨(List.mem_cons_of_mem _ (List.mem_append_left _ (List.mem_of_getElem? (i := 1) rfl))), (List.forall_mem_cons.mpr ⟨(List.mem_cons_of_mem _ (List.mem_append_left _ (List.mem_of_getElem? (i := 0) rfl))), (fun _ h => absurd h List.not_mem_nil)⟩)⟩)⟩)⟩) (kGV _ _ _ _) (fun _ h => List.mem_cons_of_mem _ (List.mem_append_right _ (List.mem_append_left _ h))) gw_s_every10x) rfl rfl rfl ⟨rfl, hd_X10_everybody⟩ ⟨(Nat.le_of_ble_eq_true rfl), (Nat.le_of_ble_eq_true rfl)⟩) (kR_V kT_blind kT_give (va_recv hKc hPc (ci := 10) (q0 := 0) rfl rfl) hPc hKc) rfl rfl hl.1 rfl (lv_room (Nat.le_of_ble_eq_true rfl)) dX10_holders_6 ⟨(Nat.le_of_ble_eq_true rfl), (Nat.le_of_ble_eq_true rfl)⟩).run (fun r_2 hw => ?_)
  obtain rfl : r_2 = kEvb (mps) := hw
  refine lv_aload_n hx hb dX10_holders_9 rfl (lv_at hl 0 rfl) ?_
  have hPc := hP.sb (ws2 := [(jM, .inr (10, [.int th, .ref m1, .ref m2, .ref m3, .ref m4, v5, .int (nI (ml)), .int (nI (mkl)), .int (nI (mku)), v9, v10, v11, v12, v13, v14, v15, v16, v17, v18, .ref m19, .ref m20, .ref m21, .ref m22, .ref m23, .ref m24, .ref m25, .int (nI (mps)), .int (nI (mkw)), .ref m28, .ref m29, .ref m30, .ref m31, .ref m32, .ref m33, .ref m34, .ref m35, .ref m36, .int thr, .int (nI (ho)), .long xx, .ref m40, .ref m41, .ref m42, .ref m43, .ref m44, .int (nI (mkn)), .ref m46, .ref m47, .ref m48, .ref m49, .ref m50, .int (nI (mka))])), (m1, .inl (mc1, 120, .inl mf1)), (m2, .inl (mc2, 1680, .inl mf2)), (m3, .inl (mc3, 14, .inl mf3)), (m4, .inl (mc4, 128, .inl mf4)), (m19, .inl (mc19, 10, .inl mf19)), (m20, .inl (mc20, 10, .inl mf20)), (m21, .inl (mc21, 10, .inl mf21)), (m22, .inl (mc22, 10, .inl mf22)), (m23, .inl (mc23, 10, .inl mf23)), (m24, .inl (mc24, 4, .inl mf24)), (m25, .inl (mc25, 10, .inl mf25)), (m28, .inl (mc28, 10, .inl mf28)), (m29, .inl (mc29, 10, .inl mf29)), (m30, .inl (mc30, 10, .inl mf30)), (m31, .inl (mc31, 10, .inl mf31)), (m32, .inl (mc32, 10, .inl mf32)), (m33, .inl (mc33, 10, .inl mf33)), (m34, .inl (mc34, 10, .inl mf34)), (m35, .inl (mc35, 10, .inl mf35)), (m36, .inl (mc36, 10, .inl mf36)), (m40, .inl (mc40, 20, .inl mf40)), (m41, .inl (mc41, 20, .inl mf41)), (m42, .inl (mc42, 20, .inl mf42)), (m43, .inl (mc43, 20, .inl mf43)), (m44, .inl (mc44, 20, .inl mf44)), (m46, .inl (mc46, 14, .inr (.inl mf46))), (m47, .inl (mc47, 6, .inl mf47)), (m48, .inl (mc48, 6, .inl mf48)), (m49, .inl (mc49, 6, .inl mf49)), (m50, .inl (mc50, 6, .inl mf50))]) [0, 1, 2, 3, 4, 5, 6, 7, 8, 9, 10, 11, 12, 13, 14, 15, 16, 17, 18, 19, 20, 21, 22, 23, 24, 25, 26, 27, 28, 29, 30] rfl
  have hKc := hK.sb (tys2 := [(mc1, .byte), (mc2, .byte), (mc3, .int), (mc4, .int), (mc19, .int), (mc20, .int), (mc21, .int), (mc22, .int), (mc23, .int), (mc24, .int), (mc25, .boolean), (mc28, .int), (mc29, .int), (mc30, .int), (mc31, .int), (mc32, .int), (mc33, .int), (mc34, .int), (mc35, .int), (mc36, .int), (mc40, .int), (mc41, .int), (mc42, .int), (mc43, .int), (mc44, .int), (mc46, .long), (mc47, .int), (mc48, .int), (mc49, .int), (mc50, .int)]) [0, 1, 2, 3, 4, 5, 6, 7, 8, 9, 10, 11, 12, 13, 14, 15, 16, 17, 18, 19, 20, 21, 22, 23, 24, 25, 26, 27, 28, 29] rfl
  refine vp_callSi (va_runV (As := []) (rest := [.int (kEvb (mps)), .int 48, .long p1, .int (nI (pl)), .ref jM]) ⟨hx, hb, hml, hown, hts⟩ (s_allSent10x l dC dI jM th thr xx (v5 : Value) (v9 : Value) (v10 : Value) (v11 : Value) (v12 : Value) (v13 : Value) (v14 : Value) (v15 : Value) (v16 : Value) (v17 : Value) (v18 : Value) m1 m2 m3 m4 m19 m20 m21 m22 m23 m24 m25 m28 m29 m30 m31 m32 m33 m34 m35 m36 m40 m41 m42 m43 m44 m46 m47 m48 m49 m50 mc1 mc2 mc3 mc4 mc19 mc20 mc21 mc22 mc23 mc24 mc25 mc28 mc29 mc30 mc31 mc32 mc33 mc34 mc35 mc36 mc40 mc41 mc42 mc43 mc44 mc46 mc47 mc48 mc49 mc50 mf1 mf2 mf3 mf4 mf19 mf20 mf21 mf22 mf23 mf24 mf25 mf28 mf29 mf30 mf31 mf32 mf33 mf34 mf35 mf36 mf40 mf41 mf42 mf43 mf44 mf46 mf47 mf48 mf49 mf50 ml mkl mku mps mkw ho mkn mka bd_1 hmkl hmku hmps hmkw hho hmkn hmka SV hSV (fun j hj => (hTd.1 j hj).2.2.2.2) hTd.2.2) (cwV 0 hts (kG (List.forall_mem_cons.mpr ⟨(List.mem_cons_of_mem _ (List.mem_append_left _ (List.mem_of_getElem? (i := 6) rfl))), (List.forall_mem_cons.mpr ⟨(List.mem_cons_of_mem _ (List.mem_append_left _ (List.mem_of_getElem? (i := 5) rfl))), (List.forall_mem_cons.mpr ⟨(List.mem_cons_of_mem _ (List.mem_append_left _ (List.mem_of_getElem? (i := 4) rfl))), (List.forall_mem_cons.mpr ⟨(List.mem_cons_of_mem _ (List.mem_append_left _ (List.mem_of_getElem? (i := 0) rfl))), (fun _ h => absurd h List.not_mem_nil)⟩)⟩)⟩)⟩) (kGV _ _ _ _) (fun _ h => List.mem_cons_of_mem _ (List.mem_append_right _ (List.mem_append_right _ (List.mem_append_left _ h)))) gw_s_allSent10x) rfl rfl rfl ⟨rfl, hd_X10_allSent⟩ ⟨(Nat.le_of_ble_eq_true rfl), (Nat.le_of_ble_eq_true rfl)⟩) (kR_V kT_blind kT_give (va_recv hKc hPc (ci := 10) (q0 := 0) rfl rfl) hPc hKc) rfl rfl hl.1 rfl (lv_room (Nat.le_of_ble_eq_true rfl)) dX10_holders_10 ⟨(Nat.le_of_ble_eq_true rfl), (Nat.le_of_ble_eq_true rfl)⟩).run (fun r_3 hw => ?_)
  obtain rfl : r_3 = nI (SV) := hw
  refine lv_iconst (v := (-1)) hx hb dX10_holders_13 kc_i_m1 ?_
  refine lv_ixor hx hb dX10_holders_14 ?_
  refine lv_topi (fun x_4 ex_4 => ?_)
  refine lv_iand hx hb dX10_holders_15 ?_
  refine lv_topi (fun x_5 ex_5 => ?_)
  refine lv_iload hx hb dX10_holders_16 (lv_at hl 3 rfl) ?_
  refine lv_ior hx hb dX10_holders_18 ?_
  refine lv_topi (fun x_6 ex_6 => ?_)
  have hCu := kCut (wc := [(jM, .inr (10, [.int th, .ref m1, .ref m2, .ref m3, .ref m4, v5, .int (nI (ml)), .int (nI (mkl)), .int (nI (mku)), v9, v10, v11, v12, v13, v14, v15, v16, v17, v18, .ref m19, .ref m20, .ref m21, .ref m22, .ref m23, .ref m24, .ref m25, .int (nI (mps)), .int (nI (mkw)), .ref m28, .ref m29, .ref m30, .ref m31, .ref m32, .ref m33, .ref m34, .ref m35, .ref m36, .int thr, .int (nI (ho)), .long xx, .ref m40, .ref m41, .ref m42, .ref m43, .ref m44, .int (nI (mkn)), .ref m46, .ref m47, .ref m48, .ref m49, .ref m50, .int (nI (mka))])), (m1, .inl (mc1, 120, .inl mf1)), (m2, .inl (mc2, 1680, .inl mf2)), (m3, .inl (mc3, 14, .inl mf3)), (m4, .inl (mc4, 128, .inl mf4)), (m19, .inl (mc19, 10, .inl mf19)), (m20, .inl (mc20, 10, .inl mf20)), (m21, .inl (mc21, 10, .inl mf21)), (m22, .inl (mc22, 10, .inl mf22)), (m23, .inl (mc23, 10, .inl mf23)), (m24, .inl (mc24, 4, .inl mf24)), (m25, .inl (mc25, 10, .inl mf25)), (m28, .inl (mc28, 10, .inl mf28)), (m29, .inl (mc29, 10, .inl mf29)), (m30, .inl (mc30, 10, .inl mf30)), (m31, .inl (mc31, 10, .inl mf31)), (m32, .inl (mc32, 10, .inl mf32)), (m33, .inl (mc33, 10, .inl mf33)), (m34, .inl (mc34, 10, .inl mf34)), (m35, .inl (mc35, 10, .inl mf35)), (m36, .inl (mc36, 10, .inl mf36)), (m40, .inl (mc40, 20, .inl mf40)), (m41, .inl (mc41, 20, .inl mf41)), (m42, .inl (mc42, 20, .inl mf42)), (m43, .inl (mc43, 20, .inl mf43)), (m44, .inl (mc44, 20, .inl mf44)), (m46, .inl (mc46, 14, .inr (.inl mf46))), (m47, .inl (mc47, 6, .inl mf47)), (m48, .inl (mc48, 6, .inl mf48)), (m49, .inl (mc49, 6, .inl mf49)), (m50, .inl (mc50, 6, .inl mf50))]) hP hD hS hA [0, 1, 2, 3, 4, 5, 6, 7, 8, 9, 10, 11, 12, 13, 14, 15, 16, 17, 18, 19, 20, 21, 22, 23, 24, 25, 26, 27, 28, 29, 30] rfl kc_nd_772 rfl
  have hPc := hCu.1
  have hDc := hCu.2.1
  have hFc := hCu.2.2
  have hKc := hK.sb (tys2 := [(mc1, .byte), (mc2, .byte), (mc3, .int), (mc4, .int), (mc19, .int), (mc20, .int), (mc21, .int), (mc22, .int), (mc23, .int), (mc24, .int), (mc25, .boolean), (mc28, .int), (mc29, .int), (mc30, .int), (mc31, .int), (mc32, .int), (mc33, .int), (mc34, .int), (mc35, .int), (mc36, .int), (mc40, .int), (mc41, .int), (mc42, .int), (mc43, .int), (mc44, .int), (mc46, .long), (mc47, .int), (mc48, .int), (mc49, .int), (mc50, .int)]) [0, 1, 2, 3, 4, 5, 6, 7, 8, 9, 10, 11, 12, 13, 14, 15, 16, 17, 18, 19, 20, 21, 22, 23, 24, 25, 26, 27, 28, 29] rfl
  refine va_callv (va_runV (As := [.int (nI (pl)), .long p1, .int 48, .int x_6]) (rest := []) ⟨hx, hb, hml, hown, hts⟩ (s_runOf10x l dC dI jM th thr xx (v5 : Value) (v9 : Value) (v10 : Value) (v11 : Value) (v12 : Value) (v13 : Value) (v14 : Value) (v15 : Value) (v16 : Value) (v17 : Value) (v18 : Value) m1 m2 m3 m4 m19 m20 m21 m22 m23 m24 m25 m28 m29 m30 m31 m32 m33 m34 m35 m36 m40 m41 m42 m43 m44 m46 m47 m48 m49 m50 mc1 mc2 mc3 mc4 mc19 mc20 mc21 mc22 mc23 mc24 mc25 mc28 mc29 mc30 mc31 mc32 mc33 mc34 mc35 mc36 mc40 mc41 mc42 mc43 mc44 mc46 mc47 mc48 mc49 mc50 mf1 mf2 mf3 mf4 mf19 mf20 mf21 mf22 mf23 mf24 mf25 mf28 mf29 mf30 mf31 mf32 mf33 mf34 mf35 mf36 mf40 mf41 mf42 mf43 mf44 mf46 mf47 mf48 mf49 mf50 ml mkl mku mps mkw ho mkn mka bd_1 hmkl hmku hmps hmkw hho hmkn hmka ad bA nA xA hnA bB nB xB hnB bE nE xE hnE bG nG xG hnG gnA gnB gnE gnG hzA hzB hzE hzG hlB hlG yL yU hUl hUt pl hpl p1 48 (Nat.le_of_ble_eq_true rfl) x_6 (kE0 mps mkw G3 G4 SV (kPrs mps (nI (SV) &&& w9)) (yL pl)) (kS0 G0 G1 G2 p1) (kTd_E hTd (by omega) (by rw [ex_6, ex_5, ex_4]; exact hw9)) (kTd_S hTd) hOk0 rfl rfl rfl hA9 hB9 s.heap.size) (cwV 4 hts (kG (List.forall_mem_cons.mpr ⟨(List.mem_cons_of_mem _ (List.mem_append_left _ (List.mem_of_getElem? (i := 9) rfl))), (List.forall_mem_cons.mpr ⟨(List.mem_cons_of_mem _ (List.mem_append_left _ (List.mem_of_getElem? (i := 8) rfl))), (List.forall_mem_cons.mpr ⟨(List.mem_cons_of_mem _ (List.mem_append_left _ (List.mem_of_getElem? (i := 7) rfl))), (List.forall_mem_cons.mpr ⟨(List.mem_cons_of_mem _ (List.mem_append_left _ (List.mem_of_getElem? (i := 0) rfl))), (fun _ h => absurd h List.not_mem_nil)⟩)⟩)⟩)⟩) (kGV _ _ _ _) (fun _ h => List.mem_cons_of_mem _ (List.mem_append_right _ (List.mem_append_right _ (List.mem_append_right _ (List.mem_append_left _ h))))) gw_s_runOf10x) rfl rfl rfl ⟨rfl, hd_X10_runOf⟩ ⟨(Nat.le_of_ble_eq_true rfl), (Nat.le_of_ble_eq_true rfl)⟩) (kW_V kMx_blind (kMx_give hX hS hFc) (va_recv hKc hPc (ci := 10) (q0 := 0) rfl rfl) hPc hKc hDc) rfl rfl hl.1 rfl (lv_room (Nat.le_of_ble_eq_true rfl)) dX10_holders_19 ⟨(Nat.le_of_ble_eq_true rfl), (Nat.le_of_ble_eq_true rfl)⟩) hS (fun q _ h => hFc q h) hFc (kU24 (fun S4_7 S28_8 S29_9 S30_10 S31_11 S32_12 S33_13 S34_14 S35_15 S36_16 Th_17 Ho_18 Xx_19 W5_20 W9_21 W10_22 W11_23 W12_24 W13_25 W14_26 W15_27 W16_28 W17_29 W18_30 t H_31 locs ht hvm hw hB hz1 hk1 hS => ?_))
  try dsimp only at hw
  have hPD : kPD dC dI A [(jM, .inr (10, [.int th, .ref m1, .ref m2, .ref m3, .ref m4, W5_20, .int (nI (ml)), .int (nI (mkl)), .int (nI (mku)), W9_21, W10_22, W11_23, W12_24, W13_25, W14_26, W15_27, W16_28, W17_29, W18_30, .ref m19, .ref m20, .ref m21, .ref m22, .ref m23, .ref m24, .ref m25, .int (nI (mps)), .int (nI (mkw)), .ref m28, .ref m29, .ref m30, .ref m31, .ref m32, .ref m33, .ref m34, .ref m35, .ref m36, .int Th_17, .int (nI (Ho_18)), .long Xx_19, .ref m40, .ref m41, .ref m42, .ref m43, .ref m44, .int (nI (mkn)), .ref m46, .ref m47, .ref m48, .ref m49, .ref m50, .int (nI (mka))])), (m1, .inl (mc1, 120, .inl mf1)), (m2, .inl (mc2, 1680, .inl mf2)), (m3, .inl (mc3, 14, .inl mf3)), (m4, .inl (mc4, 128, .inl S4_7)), (m19, .inl (mc19, 10, .inl mf19)), (m20, .inl (mc20, 10, .inl mf20)), (m21, .inl (mc21, 10, .inl mf21)), (m22, .inl (mc22, 10, .inl mf22)), (m23, .inl (mc23, 10, .inl mf23)), (m24, .inl (mc24, 4, .inl mf24)), (m25, .inl (mc25, 10, .inl mf25)), (m28, .inl (mc28, 10, .inl S28_8)), (m29, .inl (mc29, 10, .inl S29_9)), (m30, .inl (mc30, 10, .inl S30_10)), (m31, .inl (mc31, 10, .inl S31_11)), (m32, .inl (mc32, 10, .inl S32_12)), (m33, .inl (mc33, 10, .inl S33_13)), (m34, .inl (mc34, 10, .inl S34_14)), (m35, .inl (mc35, 10, .inl S35_15)), (m36, .inl (mc36, 10, .inl S36_16)), (m40, .inl (mc40, 20, .inl mf40)), (m41, .inl (mc41, 20, .inl mf41)), (m42, .inl (mc42, 20, .inl mf42)), (m43, .inl (mc43, 20, .inl mf43)), (m44, .inl (mc44, 20, .inl mf44)), (m46, .inl (mc46, 14, .inr (.inl mf46))), (m47, .inl (mc47, 6, .inl mf47)), (m48, .inl (mc48, 6, .inl mf48)), (m49, .inl (mc49, 6, .inl mf49)), (m50, .inl (mc50, 6, .inl mf50))] H_31 := kJoinX hP hD [0, 1, 2, 3, 4, 5, 6, 7, 8, 9, 10, 11, 12, 13, 14, 15, 16, 17, 18, 19, 20, 21, 22, 23, 24, 25, 26, 27, 28, 29, 30] rfl hk1 hFc hB.1 ht hB.2.2 rfl [some 0, some 1, some 2, some 3, some 4, some 5, some 6, some 7, some 8, some 9, some 10, some 11, some 12, some 13, some 14, some 15, some 16, some 17, some 18, some 19, some 20, some 21, some 22, some 23, some 24, some 25, some 26, some 27, some 28, some 29, some 30] rfl rfl
  obtain ⟨hP, hD⟩ := hPD
  have hw_32 := hw
  have hw_32_0 := hw_32.2.1
  have hw_32_1 := hw_32.2.2.1
  refine lv_iconst (v := 0) hx hb dX10_holders_22 kc_i_0 ?_
  refine lv_istore hx hb dX10_holders_23 hl kc_l_5_7 (kTo [(5, .int 0), (0, .ref jM), (1, .int (nI (pl))), (2, .long p1), (4, .int p2)]) (fun ls hl => ?_)
  refine lv_iconst (v := 0) hx hb dX10_holders_25 kc_i_0 ?_
  refine lv_istore hx hb dX10_holders_26 hl kc_l_6_7 (kTo [(6, .int 0), (5, .int 0), (0, .ref jM), (1, .int (nI (pl))), (2, .long p1), (4, .int p2)]) (fun ls hl => ?_)
  have lp_k_33 : ∀ (n9 : Nat) (i : Nat) (xb : Int32) (ivk_33_0 : i ≤ mps) (ivk_33_1 : xb = nI (kBts (kHoC (kE0 mps mkw G3 G4 SV (kPrs mps (nI (SV) &&& w9)) (yL pl)) (kIt (kE0 mps mkw G3 G4 SV (kPrs mps (nI (SV) &&& w9)) (yL pl)) 48 (kS0 G0 G1 G2 p1))) i)) (H : Heap) (locs : List Loc) (_ : va_P (dC, dI) vwCl [(jM, .inr (10, [.int th, .ref m1, .ref m2, .ref m3, .ref m4, W5_20, .int (nI (ml)), .int (nI (mkl)), .int (nI (mku)), W9_21, W10_22, W11_23, W12_24, W13_25, W14_26, W15_27, W16_28, W17_29, W18_30, .ref m19, .ref m20, .ref m21, .ref m22, .ref m23, .ref m24, .ref m25, .int (nI (mps)), .int (nI (mkw)), .ref m28, .ref m29, .ref m30, .ref m31, .ref m32, .ref m33, .ref m34, .ref m35, .ref m36, .int Th_17, .int (nI (Ho_18)), .long Xx_19, .ref m40, .ref m41, .ref m42, .ref m43, .ref m44, .int (nI (mkn)), .ref m46, .ref m47, .ref m48, .ref m49, .ref m50, .int (nI (mka))])), (m1, .inl (mc1, 120, .inl mf1)), (m2, .inl (mc2, 1680, .inl mf2)), (m3, .inl (mc3, 14, .inl mf3)), (m4, .inl (mc4, 128, .inl S4_7)), (m19, .inl (mc19, 10, .inl mf19)), (m20, .inl (mc20, 10, .inl mf20)), (m21, .inl (mc21, 10, .inl mf21)), (m22, .inl (mc22, 10, .inl mf22)), (m23, .inl (mc23, 10, .inl mf23)), (m24, .inl (mc24, 4, .inl mf24)), (m25, .inl (mc25, 10, .inl mf25)), (m28, .inl (mc28, 10, .inl S28_8)), (m29, .inl (mc29, 10, .inl S29_9)), (m30, .inl (mc30, 10, .inl S30_10)), (m31, .inl (mc31, 10, .inl S31_11)), (m32, .inl (mc32, 10, .inl S32_12)), (m33, .inl (mc33, 10, .inl S33_13)), (m34, .inl (mc34, 10, .inl S34_14)), (m35, .inl (mc35, 10, .inl S35_15)), (m36, .inl (mc36, 10, .inl S36_16)), (m40, .inl (mc40, 20, .inl mf40)), (m41, .inl (mc41, 20, .inl mf41)), (m42, .inl (mc42, 20, .inl mf42)), (m43, .inl (mc43, 20, .inl mf43)), (m44, .inl (mc44, 20, .inl mf44)), (m46, .inl (mc46, 14, .inr (.inl mf46))), (m47, .inl (mc47, 6, .inl mf47)), (m48, .inl (mc48, 6, .inl mf48)), (m49, .inl (mc49, 6, .inl mf49)), (m50, .inl (mc50, 6, .inl mf50))] H) (_ : va_D A [(jM, .inr (10, [.int th, .ref m1, .ref m2, .ref m3, .ref m4, W5_20, .int (nI (ml)), .int (nI (mkl)), .int (nI (mku)), W9_21, W10_22, W11_23, W12_24, W13_25, W14_26, W15_27, W16_28, W17_29, W18_30, .ref m19, .ref m20, .ref m21, .ref m22, .ref m23, .ref m24, .ref m25, .int (nI (mps)), .int (nI (mkw)), .ref m28, .ref m29, .ref m30, .ref m31, .ref m32, .ref m33, .ref m34, .ref m35, .ref m36, .int Th_17, .int (nI (Ho_18)), .long Xx_19, .ref m40, .ref m41, .ref m42, .ref m43, .ref m44, .int (nI (mkn)), .ref m46, .ref m47, .ref m48, .ref m49, .ref m50, .int (nI (mka))])), (m1, .inl (mc1, 120, .inl mf1)), (m2, .inl (mc2, 1680, .inl mf2)), (m3, .inl (mc3, 14, .inl mf3)), (m4, .inl (mc4, 128, .inl S4_7)), (m19, .inl (mc19, 10, .inl mf19)), (m20, .inl (mc20, 10, .inl mf20)), (m21, .inl (mc21, 10, .inl mf21)), (m22, .inl (mc22, 10, .inl mf22)), (m23, .inl (mc23, 10, .inl mf23)), (m24, .inl (mc24, 4, .inl mf24)), (m25, .inl (mc25, 10, .inl mf25)), (m28, .inl (mc28, 10, .inl S28_8)), (m29, .inl (mc29, 10, .inl S29_9)), (m30, .inl (mc30, 10, .inl S30_10)), (m31, .inl (mc31, 10, .inl S31_11)), (m32, .inl (mc32, 10, .inl S32_12)), (m33, .inl (mc33, 10, .inl S33_13)), (m34, .inl (mc34, 10, .inl S34_14)), (m35, .inl (mc35, 10, .inl S35_15)), (m36, .inl (mc36, 10, .inl S36_16)), (m40, .inl (mc40, 20, .inl mf40)), (m41, .inl (mc41, 20, .inl mf41)), (m42, .inl (mc42, 20, .inl mf42)), (m43, .inl (mc43, 20, .inl mf43)), (m44, .inl (mc44, 20, .inl mf44)), (m46, .inl (mc46, 14, .inr (.inl mf46))), (m47, .inl (mc47, 6, .inl mf47)), (m48, .inl (mc48, 6, .inl mf48)), (m49, .inl (mc49, 6, .inl mf49)), (m50, .inl (mc50, 6, .inl mf50))]) (_ : va_S A s.heap H locs) (ls : Array Slot) (_ : lv_has ls 7 [(6, .int (nI (i))), (5, .int xb), (0, .ref jM), (1, .int (nI (pl))), (2, .long p1), (4, .int p2)]) (_ : mps - i < n9), W p l e (headSpec w_s_holders10x ({ frames := 62, cells := 0, slots := 0, locals := 3720 })).room s m (#[.ref jM, .int (nI (pl)), .long p1, .int p2] : Array Value) below meth c H locs 0 0 Q (F0 m 28 ls []) := by
    intro n9
    induction n9 with
    | zero => intro i xb ivk_33_0 ivk_33_1 H locs hP hD hS ls hl hm9; exact absurd hm9 (Nat.not_lt_zero _)
    | succ n9 ih_k_33 =>
      intro i xb ivk_33_0 ivk_33_1 H locs hP hD hS ls hl hm9
      refine lv_iload hx hb dX10_holders_28 (lv_at hl 0 rfl) ?_
      refine lv_aload_n hx hb dX10_holders_30 rfl (lv_at hl 2 rfl) ?_
      refine va_get (D := (dC, dI)) (ci := 10) (v := .int (nI (mps))) (C := RX10) (T := TX10) (N := 52) hx hb hts (fun _ h => List.mem_cons_of_mem _ (List.mem_append_right _ (List.mem_append_right _ (List.mem_append_right _ (List.mem_append_right _ h))))) hown hK hP 0 rfl rfl 26 kc_l_26_52 (hts (.fieldLink RX10 250 "NotEndedModel" "persons" "I") (List.mem_cons_of_mem _ (List.mem_append_left _ (List.mem_of_getElem? (i := 10) rfl)))) (fun _ h9 => h9) rfl dX10_holders_31 ?_
      refine lv_icmp_ge (tgt := 78) hx hb dX10_holders_34 kc_t_34_44 (fun c_34 => ?_) (fun c_34 => ?_)
      · have bd_36 : mps < 2147483648 := by omega
        have bd_37 : i < 2147483648 := by omega
        have hn_35 := kle (a := mps) (b := i) bd_36 bd_37 c_34
        refine lv_iload hx hb dX10_holders_78 (lv_at hl 1 rfl) ?_
        have hP9 := hP
        have hD9 := hD
        have hK9 := hK
        rw [hQ]
        exact W.iret (v := xb) hx hb hr (fun t ht hW => ⟨⟨xb, (S4_7, S28_8, S29_9, S30_10, S31_11, S32_12, S33_13, S34_14, S35_15, S36_16, Th_17, Ho_18, Xx_19, (W5_20 : Value), (W9_21 : Value), (W10_22 : Value), (W11_23 : Value), (W12_24 : Value), (W13_25 : Value), (W14_26 : Value), (W15_27 : Value), (W16_28 : Value), (W17_29 : Value), (W18_30 : Value)), rfl, ⟨by unfold kHol; exact (show i = mps by omega) ▸ ivk_33_1, by omega⟩,  by rw [ht]; exact hP9, va_K.moved hW.alike hK9, hD9⟩, hS.F ht⟩) hS.2.2 dX10_holders_80
      · have bd_39 : mps < 2147483648 := by omega
        have bd_40 : i < 2147483648 := by omega
        have hn_38 := knle (a := mps) (b := i) bd_39 bd_40 c_34
        refine lv_iload hx hb dX10_holders_37 (lv_at hl 1 rfl) ?_
        refine lv_aload_n hx hb dX10_holders_39 rfl (lv_at hl 2 rfl) ?_
        refine va_get (D := (dC, dI)) (ci := 10) (v := .ref m25) (C := RX10) (T := TX10) (N := 52) hx hb hts (fun _ h => List.mem_cons_of_mem _ (List.mem_append_right _ (List.mem_append_right _ (List.mem_append_right _ (List.mem_append_right _ h))))) hown hK hP 0 rfl rfl 25 kc_l_25_52 (hts (.fieldLink RX10 55 "NotEndedModel" "isSent" "[Z") (List.mem_cons_of_mem _ (List.mem_append_left _ (List.mem_of_getElem? (i := 11) rfl)))) (fun _ h9 => h9) rfl dX10_holders_40 ?_
        refine lv_iload hx hb dX10_holders_43 (lv_at hl 0 rfl) ?_
        have bd_41 : i < 10 := by omega
        refine va_zald hx hb hK hP 11 10 rfl rfl (vp_in_nI (n := i) (N := 10) bd_41 kc_31_10) dX10_holders_45 ?_
        refine lv_topi (fun x_42 ex_42 => ?_)
        refine lv_if_ne (tgt := 68) hx hb dX10_holders_46 kc_t_46_22 (fun c_43 => ?_) (fun c_43 => ?_)
        · refine lv_iconst (v := 0) hx hb dX10_holders_68 kc_i_0 ?_
          refine lv_ior hx hb dX10_holders_69 ?_
          refine lv_topi (fun x_44 ex_44 => ?_)
          refine lv_istore hx hb dX10_holders_70 hl kc_l_5_7 (kTo [(5, .int x_44), (6, .int (nI (i))), (0, .ref jM), (1, .int (nI (pl))), (2, .long p1), (4, .int p2)]) (fun ls hl => ?_)
          refine lv_iinc (v := nI (i + 1)) hx hb dX10_holders_72 hl (k := 1) rfl (kInc _ 1) kc_l_6_7 (kTo [(6, .int (nI (i + 1))), (5, .int x_44), (0, .ref jM), (1, .int (nI (pl))), (2, .long p1), (4, .int p2)]) (fun ls hl => ?_)
          refine lv_goto (tgt := 28) hx hb dX10_holders_75 kc_t_75_m47 ?_
          exact ih_k_33 (i + 1) x_44 (by omega) (kBtsO ivk_33_1 (fun z => c_43 (by rw [ex_42, nI_clamp (n := i) (by omega)]; exact (kTd_se hTd (by omega)).mp ((kFrH (by omega) (by omega)).mp (kHoC_t.mp z).1))) ex_44) _ _ hP hD hS ls (lv_sub hl [0, 1, 2, 3, 4, 5] rfl) (by omega)
        · refine lv_aload_n hx hb dX10_holders_49 rfl (lv_at hl 2 rfl) ?_
          refine va_get (D := (dC, dI)) (ci := 10) (v := .ref m28) (C := RX10) (T := TX10) (N := 52) hx hb hts (fun _ h => List.mem_cons_of_mem _ (List.mem_append_right _ (List.mem_append_right _ (List.mem_append_right _ (List.mem_append_right _ h))))) hown hK hP 0 rfl rfl 28 kc_l_28_52 (hts (.fieldLink RX10 59 "NotEndedModel" "holds" "[I") (List.mem_cons_of_mem _ (List.mem_append_left _ (List.mem_of_getElem? (i := 12) rfl)))) (fun _ h9 => h9) rfl dX10_holders_50 ?_
          refine lv_iload hx hb dX10_holders_53 (lv_at hl 0 rfl) ?_
          refine va_iald hx hb hK hP 12 11 rfl rfl (vp_in_nI (n := i) (N := 10) bd_41 kc_31_10) dX10_holders_55 ?_
          refine lv_topi (fun x_45 ex_45 => ?_)
          have hq9 : x_45 = S28_8 i := by rw [ex_45, nI_clamp (n := i) (by omega)]
          refine lv_bipush (v := 50) hx hb dX10_holders_56 kc_b_50 ?_
          refine lv_icmp_lt (tgt := 68) hx hb dX10_holders_58 kc_t_58_10 (fun c_46 => ?_) (fun c_46 => ?_)
          · refine lv_iconst (v := 0) hx hb dX10_holders_68 kc_i_0 ?_
            refine lv_ior hx hb dX10_holders_69 ?_
            refine lv_topi (fun x_47 ex_47 => ?_)
            refine lv_istore hx hb dX10_holders_70 hl kc_l_5_7 (kTo [(5, .int x_47), (6, .int (nI (i))), (0, .ref jM), (1, .int (nI (pl))), (2, .long p1), (4, .int p2)]) (fun ls hl => ?_)
            refine lv_iinc (v := nI (i + 1)) hx hb dX10_holders_72 hl (k := 1) rfl (kInc _ 1) kc_l_6_7 (kTo [(6, .int (nI (i + 1))), (5, .int x_47), (0, .ref jM), (1, .int (nI (pl))), (2, .long p1), (4, .int p2)]) (fun ls hl => ?_)
            refine lv_goto (tgt := 28) hx hb dX10_holders_75 kc_t_75_m47 ?_
            exact ih_k_33 (i + 1) x_47 (by omega) (kBtsO ivk_33_1 (fun z => absurd (by rw [hq9, (hw_32.1 i (by omega)).1]; exact (kHoC_t.mp z).2) (Int32.not_le.mpr c_46)) ex_47) _ _ hP hD hS ls (lv_sub hl [0, 1, 2, 3, 4, 5] rfl) (by omega)
          · refine lv_iconst (v := 1) hx hb dX10_holders_61 kc_i_1 ?_
            refine lv_iload hx hb dX10_holders_62 (lv_at hl 0 rfl) ?_
            refine lv_ishl hx hb dX10_holders_64 ?_
            refine lv_topi (fun x_48 ex_48 => ?_)
            refine lv_goto (tgt := 69) hx hb dX10_holders_65 kc_t_65_4 ?_
            refine lv_ior hx hb dX10_holders_69 ?_
            refine lv_topi (fun x_49 ex_49 => ?_)
            refine lv_istore hx hb dX10_holders_70 hl kc_l_5_7 (kTo [(5, .int x_49), (6, .int (nI (i))), (0, .ref jM), (1, .int (nI (pl))), (2, .long p1), (4, .int p2)]) (fun ls hl => ?_)
            refine lv_iinc (v := nI (i + 1)) hx hb dX10_holders_72 hl (k := 1) rfl (kInc _ 1) kc_l_6_7 (kTo [(6, .int (nI (i + 1))), (5, .int x_49), (0, .ref jM), (1, .int (nI (pl))), (2, .long p1), (4, .int p2)]) (fun ls hl => ?_)
            refine lv_goto (tgt := 28) hx hb dX10_holders_75 kc_t_75_m47 ?_
            exact ih_k_33 (i + 1) x_49 (by omega) (kBtsU (by omega) ivk_33_1 (kHoC_t.mpr ⟨(kFrH (by omega) (by omega)).mpr ((kTd_se hTd (by omega)).mpr (kRd0 (by omega) ex_42 c_43)), by rw [← (hw_32.1 i (by omega)).1, ← hq9]; exact Int32.not_lt.mp c_46⟩) ex_48 ex_49) _ _ hP hD hS ls (lv_sub hl [0, 1, 2, 3, 4, 5] rfl) (by omega)
  exact lp_k_33 (mps - 0 + 1) 0 0 (by omega) rfl _ _ hP hD hS ls (lv_sub hl [0, 1, 2, 3, 4, 5] rfl) (by omega)

theorem dX10_lookers_0 : decode cX10_lookers 0 = .ok (.aload_n 0, 1) := by decide +kernel
theorem dX10_lookers_1 : decode cX10_lookers 1 = .ok (.iconst 0, 1) := by decide +kernel
theorem dX10_lookers_2 : decode cX10_lookers 2 = .ok (.putfield 117, 3) := by decide +kernel
theorem dX10_lookers_5 : decode cX10_lookers 5 = .ok (.aload_n 0, 1) := by decide +kernel
theorem dX10_lookers_6 : decode cX10_lookers 6 = .ok (.iload_n 1, 1) := by decide +kernel
theorem dX10_lookers_7 : decode cX10_lookers 7 = .ok (.invokevirtual 311, 3) := by decide +kernel
theorem dX10_lookers_10 : decode cX10_lookers 10 = .ok (.ifCond .ne 5, 3) := by decide +kernel
theorem dX10_lookers_15 : decode cX10_lookers 15 = .ok (.aload_n 0, 1) := by decide +kernel
theorem dX10_lookers_16 : decode cX10_lookers 16 = .ok (.iload_n 1, 1) := by decide +kernel
theorem dX10_lookers_17 : decode cX10_lookers 17 = .ok (.lload_n 2, 1) := by decide +kernel
theorem dX10_lookers_18 : decode cX10_lookers 18 = .ok (.iconst 0, 1) := by decide +kernel
theorem dX10_lookers_19 : decode cX10_lookers 19 = .ok (.invokevirtual 387, 3) := by decide +kernel
theorem dX10_lookers_22 : decode cX10_lookers 22 = .ok (.istore 4, 2) := by decide +kernel
theorem dX10_lookers_24 : decode cX10_lookers 24 = .ok (.iconst 0, 1) := by decide +kernel
theorem dX10_lookers_25 : decode cX10_lookers 25 = .ok (.istore 5, 2) := by decide +kernel
theorem dX10_lookers_27 : decode cX10_lookers 27 = .ok (.iconst 1, 1) := by decide +kernel
theorem dX10_lookers_28 : decode cX10_lookers 28 = .ok (.istore 6, 2) := by decide +kernel
theorem dX10_lookers_30 : decode cX10_lookers 30 = .ok (.iload 6, 2) := by decide +kernel
theorem dX10_lookers_32 : decode cX10_lookers 32 = .ok (.aload_n 0, 1) := by decide +kernel
theorem dX10_lookers_33 : decode cX10_lookers 33 = .ok (.invokevirtual 314, 3) := by decide +kernel
theorem dX10_lookers_36 : decode cX10_lookers 36 = .ok (.if_icmp .gt 74, 3) := by decide +kernel
theorem dX10_lookers_110 : decode cX10_lookers 110 = .ok (.iload 5, 2) := by decide +kernel
theorem dX10_lookers_112 : decode cX10_lookers 112 = .ok (.ireturn, 1) := by decide +kernel
theorem dX10_lookers_39 : decode cX10_lookers 39 = .ok (.iload 6, 2) := by decide +kernel
theorem dX10_lookers_41 : decode cX10_lookers 41 = .ok (.invokestatic 373, 3) := by decide +kernel
theorem dX10_lookers_44 : decode cX10_lookers 44 = .ok (.iload 5, 2) := by decide +kernel
theorem dX10_lookers_46 : decode cX10_lookers 46 = .ok (.invokestatic 373, 3) := by decide +kernel
theorem dX10_lookers_49 : decode cX10_lookers 49 = .ok (.isub, 1) := by decide +kernel
theorem dX10_lookers_50 : decode cX10_lookers 50 = .ok (.istore 7, 2) := by decide +kernel
theorem dX10_lookers_52 : decode cX10_lookers 52 = .ok (.iload 6, 2) := by decide +kernel
theorem dX10_lookers_54 : decode cX10_lookers 54 = .ok (.aload_n 0, 1) := by decide +kernel
theorem dX10_lookers_55 : decode cX10_lookers 55 = .ok (.invokevirtual 328, 3) := by decide +kernel
theorem dX10_lookers_58 : decode cX10_lookers 58 = .ok (.iconst (-1), 1) := by decide +kernel
theorem dX10_lookers_59 : decode cX10_lookers 59 = .ok (.ixor, 1) := by decide +kernel
theorem dX10_lookers_60 : decode cX10_lookers 60 = .ok (.iand, 1) := by decide +kernel
theorem dX10_lookers_61 : decode cX10_lookers 61 = .ok (.ifCond .ne 43, 3) := by decide +kernel
theorem dX10_lookers_104 : decode cX10_lookers 104 = .ok (.iinc 6 1, 3) := by decide +kernel
theorem dX10_lookers_107 : decode cX10_lookers 107 = .ok (.goto (-77), 3) := by decide +kernel
theorem dX10_lookers_64 : decode cX10_lookers 64 = .ok (.iload 7, 2) := by decide +kernel
theorem dX10_lookers_66 : decode cX10_lookers 66 = .ok (.ifCond .lt 38, 3) := by decide +kernel
theorem dX10_lookers_69 : decode cX10_lookers 69 = .ok (.iload 7, 2) := by decide +kernel
theorem dX10_lookers_71 : decode cX10_lookers 71 = .ok (.ifCond .ne 16, 3) := by decide +kernel
theorem dX10_lookers_87 : decode cX10_lookers 87 = .ok (.aload_n 0, 1) := by decide +kernel
theorem dX10_lookers_88 : decode cX10_lookers 88 = .ok (.iload_n 1, 1) := by decide +kernel
theorem dX10_lookers_89 : decode cX10_lookers 89 = .ok (.lload_n 2, 1) := by decide +kernel
theorem dX10_lookers_90 : decode cX10_lookers 90 = .ok (.iload 6, 2) := by decide +kernel
theorem dX10_lookers_92 : decode cX10_lookers 92 = .ok (.invokevirtual 387, 3) := by decide +kernel
theorem dX10_lookers_95 : decode cX10_lookers 95 = .ok (.iload 4, 2) := by decide +kernel
theorem dX10_lookers_97 : decode cX10_lookers 97 = .ok (.if_icmp .ne 7, 3) := by decide +kernel
theorem dX10_lookers_100 : decode cX10_lookers 100 = .ok (.iload 6, 2) := by decide +kernel
theorem dX10_lookers_102 : decode cX10_lookers 102 = .ok (.istore 5, 2) := by decide +kernel
theorem dX10_lookers_74 : decode cX10_lookers 74 = .ok (.iload 6, 2) := by decide +kernel
theorem dX10_lookers_76 : decode cX10_lookers 76 = .ok (.iload 5, 2) := by decide +kernel
theorem dX10_lookers_78 : decode cX10_lookers 78 = .ok (.invokestatic 377, 3) := by decide +kernel
theorem dX10_lookers_81 : decode cX10_lookers 81 = .ok (.ifCond .ne 6, 3) := by decide +kernel
theorem dX10_lookers_84 : decode cX10_lookers 84 = .ok (.goto 20, 3) := by decide +kernel
theorem dX10_lookers_13 : decode cX10_lookers 13 = .ok (.iconst (-1), 1) := by decide +kernel
theorem dX10_lookers_14 : decode cX10_lookers 14 = .ok (.ireturn, 1) := by decide +kernel
def w_s_lookers10 : List Cond := .code yX10_lookers cX10_lookers 8 (some .int) :: ([.fieldLink RX10 117 "NotEndedModel" "thrown" "I", .initialized RX10, .selects RX10 yX10_isLaw yX10_isLaw, .instanceMethod yX10_isLaw, .methodLink RX10 311 yX10_isLaw, .selects RX10 yX10_holders yX10_holders, .instanceMethod yX10_holders, .methodLink RX10 387 yX10_holders, .selects RX10 yX10_everybody yX10_everybody, .instanceMethod yX10_everybody, .methodLink RX10 314 yX10_everybody, .initialized RJ6, .static yJ6_bitCount_0f7a4, .methodLink RX10 373 yJ6_bitCount_0f7a4, .selects RX10 yX10_allSent yX10_allSent, .instanceMethod yX10_allSent, .methodLink RX10 328 yX10_allSent, .static yX10_isLower, .methodLink RX10 377 yX10_isLower] ++ (wsX100 ++ (w_s_isLaw10x ++ (w_s_holders10x ++ (w_s_every10n ++ (w_s_bitCount6n ++ (w_s_allSent10x ++ (w_s_lower10x))))))))
theorem gw_s_lookers10 : (w_s_lookers10).all goodWord = true := kGc rfl (kGa (by decide +kernel) (kGa gw_wsX100 (kGa gw_s_isLaw10x (kGa gw_s_holders10x (kGa gw_s_every10n (kGa gw_s_bitCount6n (kGa gw_s_allSent10x gw_s_lower10x)))))))
theorem hd_X10_lookers : yX10_lookers.cls ≠ "java/lang/invoke/MethodHandle" ∧ yX10_lookers.cls ≠ "java/lang/invoke/VarHandle" ∧ (parseMethodDescriptor yX10_lookers.desc).map (fun d => d.parameters.length) = some 2 := by decide +kernel
set_option maxHeartbeats 4000000 in
set_option maxRecDepth 100000 in
theorem s_lookers10 (l : Launch) (dC : Nat → ClassId) (dI : Nat → Nat → Nat) (jM : Nat) (th : Int32) (thr : Int32) (xx : Int64) (v5 : Value) (v9 : Value) (v10 : Value) (v11 : Value) (v12 : Value) (v13 : Value) (v14 : Value) (v15 : Value) (v16 : Value) (v17 : Value) (v18 : Value) (m1 : Nat) (m2 : Nat) (m3 : Nat) (m4 : Nat) (m19 : Nat) (m20 : Nat) (m21 : Nat) (m22 : Nat) (m23 : Nat) (m24 : Nat) (m25 : Nat) (m28 : Nat) (m29 : Nat) (m30 : Nat) (m31 : Nat) (m32 : Nat) (m33 : Nat) (m34 : Nat) (m35 : Nat) (m36 : Nat) (m40 : Nat) (m41 : Nat) (m42 : Nat) (m43 : Nat) (m44 : Nat) (m46 : Nat) (m47 : Nat) (m48 : Nat) (m49 : Nat) (m50 : Nat) (mc1 : ClassId) (mc2 : ClassId) (mc3 : ClassId) (mc4 : ClassId) (mc19 : ClassId) (mc20 : ClassId) (mc21 : ClassId) (mc22 : ClassId) (mc23 : ClassId) (mc24 : ClassId) (mc25 : ClassId) (mc28 : ClassId) (mc29 : ClassId) (mc30 : ClassId) (mc31 : ClassId) (mc32 : ClassId) (mc33 : ClassId) (mc34 : ClassId) (mc35 : ClassId) (mc36 : ClassId) (mc40 : ClassId) (mc41 : ClassId) (mc42 : ClassId) (mc43 : ClassId) (mc44 : ClassId) (mc46 : ClassId) (mc47 : ClassId) (mc48 : ClassId) (mc49 : ClassId) (mc50 : ClassId) (mf1 : Nat → Int32) (mf2 : Nat → Int32) (mf3 : Nat → Int32) (mf4 : Nat → Int32) (mf19 : Nat → Int32) (mf20 : Nat → Int32) (mf21 : Nat → Int32) (mf22 : Nat → Int32) (mf23 : Nat → Int32) (mf24 : Nat → Int32) (mf25 : Nat → Int32) (mf28 : Nat → Int32) (mf29 : Nat → Int32) (mf30 : Nat → Int32) (mf31 : Nat → Int32) (mf32 : Nat → Int32) (mf33 : Nat → Int32) (mf34 : Nat → Int32) (mf35 : Nat → Int32) (mf36 : Nat → Int32) (mf40 : Nat → Int32) (mf41 : Nat → Int32) (mf42 : Nat → Int32) (mf43 : Nat → Int32) (mf44 : Nat → Int32) (mf46 : Nat → Int64) (mf47 : Nat → Int32) (mf48 : Nat → Int32) (mf49 : Nat → Int32) (mf50 : Nat → Int32) (ml : Nat) (mkl : Nat) (mku : Nat) (mps : Nat) (mkw : Nat) (ho : Nat) (mkn : Nat) (mka : Nat) (hml : ml ≤ 120) (hmkl : mkl ≤ 6) (hmku : mku ≤ 8) (hmps : mps ≤ 10) (hmkw : mkw ≤ 4) (hho : ho ≤ 48) (hmkn : mkn ≤ 20) (hmka : mka ≤ 6) (ad : Nat → Nat) (bA : Nat) (nA : Nat) (xA : Nat → Int32) (hnA : nA ≤ 8) (bB : Nat) (nB : Nat) (xB : Nat → Int32) (hnB : nB ≤ 8) (bE : Nat) (nE : Nat) (xE : Nat → Int32) (hnE : nE ≤ 8) (bG : Nat) (nG : Nat) (xG : Nat → Int32) (hnG : nG ≤ 8) (gnA : ∀ k : Nat, ∃ v : Nat, v < 128 ∧ xA k = nI v) (gnB : ∀ k : Nat, ∃ v : Nat, v < 128 ∧ xB k = nI v) (gnE : ∀ k : Nat, ∃ v : Nat, v < 128 ∧ xE k = nI v) (gnG : ∀ k : Nat, ∃ v : Nat, v < 128 ∧ xG k = nI v) (hzA : kIx xA nA (nI 0) = nA) (hzB : kIx xB nB (nI 0) = nB) (hzE : kIx xE nE (nI 0) = nE) (hzG : kIx xG nG (nI 0) = nG) (hlB : ∀ c : Nat, c < 256 → kIx xB nB (nI c) < nB → ¬ c = 91 ∧ ¬ (48 ≤ c ∧ c ≤ 57)) (hlG : ∀ c : Nat, c < 256 → kIx xG nG (nI c) < nG → ¬ c = 91 ∧ ¬ (48 ≤ c ∧ c ≤ 57)) (yL : Nat → List kTr) (yU : Nat → List kTr) (hUl : kUn mf2 mf3 0 mkl xA nA xB nB yL) (hUt : kUn mf2 mf3 6 mku xE nE xG nG yU) (hE9 : nE = 1 ∧ xE 0 = 119) (hG9 : nG = 5 ∧ ∀ k : Nat, k < 5 → xG k = nI (97 + k)) (G0 : Nat → Int32) (G1 : Nat → Int32) (G2 : Nat → Int32) (G3 : Nat → Int32) (G4 : Nat → Int32) (SV : Nat) (hTd : kTd mps mkw G0 G1 G2 G3 G4 SV mf19 mf20 mf21 mf22 mf24 mf25) (hOk0 : kOk mps (kS0 G0 G1 G2 0)) (hA9 : nA = 3 ∧ xA 0 = 121 ∧ xA 1 = 103 ∧ xA 2 = 120) (hB9 : nB = 8 ∧ ∀ k : Nat, k < 8 → xB k = nI (kSg8 k)) (hSV : SV < 1024) (p0 : Int32) (p1 : Int64) (sz : Nat) : Met l yX10_lookers w_s_lookers10 ({ frames := 65, cells := 0, slots := 0, locals := 3900 }) (kW dC dI [.ref jM, .int p0, .long p1] [(jM, .inr (10, [.int th, .ref m1, .ref m2, .ref m3, .ref m4, v5, .int (nI (ml)), .int (nI (mkl)), .int (nI (mku)), v9, v10, v11, v12, v13, v14, v15, v16, v17, v18, .ref m19, .ref m20, .ref m21, .ref m22, .ref m23, .ref m24, .ref m25, .int (nI (mps)), .int (nI (mkw)), .ref m28, .ref m29, .ref m30, .ref m31, .ref m32, .ref m33, .ref m34, .ref m35, .ref m36, .int thr, .int (nI (ho)), .long xx, .ref m40, .ref m41, .ref m42, .ref m43, .ref m44, .int (nI (mkn)), .ref m46, .ref m47, .ref m48, .ref m49, .ref m50, .int (nI (mka))])), (m1, .inl (mc1, 120, .inl mf1)), (m2, .inl (mc2, 1680, .inl mf2)), (m3, .inl (mc3, 14, .inl mf3)), (m4, .inl (mc4, 128, .inl mf4)), (m19, .inl (mc19, 10, .inl mf19)), (m20, .inl (mc20, 10, .inl mf20)), (m21, .inl (mc21, 10, .inl mf21)), (m22, .inl (mc22, 10, .inl mf22)), (m23, .inl (mc23, 10, .inl mf23)), (m24, .inl (mc24, 4, .inl mf24)), (m25, .inl (mc25, 10, .inl mf25)), (m28, .inl (mc28, 10, .inl mf28)), (m29, .inl (mc29, 10, .inl mf29)), (m30, .inl (mc30, 10, .inl mf30)), (m31, .inl (mc31, 10, .inl mf31)), (m32, .inl (mc32, 10, .inl mf32)), (m33, .inl (mc33, 10, .inl mf33)), (m34, .inl (mc34, 10, .inl mf34)), (m35, .inl (mc35, 10, .inl mf35)), (m36, .inl (mc36, 10, .inl mf36)), (m40, .inl (mc40, 20, .inl mf40)), (m41, .inl (mc41, 20, .inl mf41)), (m42, .inl (mc42, 20, .inl mf42)), (m43, .inl (mc43, 20, .inl mf43)), (m44, .inl (mc44, 20, .inl mf44)), (m46, .inl (mc46, 14, .inr (.inl mf46))), (m47, .inl (mc47, 6, .inl mf47)), (m48, .inl (mc48, 6, .inl mf48)), (m49, .inl (mc49, 6, .inl mf49)), (m50, .inl (mc50, 6, .inl mf50))] [(mc1, .byte), (mc2, .byte), (mc3, .int), (mc4, .int), (mc19, .int), (mc20, .int), (mc21, .int), (mc22, .int), (mc23, .int), (mc24, .int), (mc25, .boolean), (mc28, .int), (mc29, .int), (mc30, .int), (mc31, .int), (mc32, .int), (mc33, .int), (mc34, .int), (mc35, .int), (mc36, .int), (mc40, .int), (mc41, .int), (mc42, .int), (mc43, .int), (mc44, .int), (mc46, .long), (mc47, .int), (mc48, .int), (mc49, .int), (mc50, .int)] (kMx ad bA nA xA bB nB xB bE nE xE bG nG xG (va_A [(jM, .inr (10, [.int th, .ref m1, .ref m2, .ref m3, .ref m4, v5, .int (nI (ml)), .int (nI (mkl)), .int (nI (mku)), v9, v10, v11, v12, v13, v14, v15, v16, v17, v18, .ref m19, .ref m20, .ref m21, .ref m22, .ref m23, .ref m24, .ref m25, .int (nI (mps)), .int (nI (mkw)), .ref m28, .ref m29, .ref m30, .ref m31, .ref m32, .ref m33, .ref m34, .ref m35, .ref m36, .int thr, .int (nI (ho)), .long xx, .ref m40, .ref m41, .ref m42, .ref m43, .ref m44, .int (nI (mkn)), .ref m46, .ref m47, .ref m48, .ref m49, .ref m50, .int (nI (mka))])), (m1, .inl (mc1, 120, .inl mf1)), (m2, .inl (mc2, 1680, .inl mf2)), (m3, .inl (mc3, 14, .inl mf3)), (m4, .inl (mc4, 128, .inl mf4)), (m19, .inl (mc19, 10, .inl mf19)), (m20, .inl (mc20, 10, .inl mf20)), (m21, .inl (mc21, 10, .inl mf21)), (m22, .inl (mc22, 10, .inl mf22)), (m23, .inl (mc23, 10, .inl mf23)), (m24, .inl (mc24, 4, .inl mf24)), (m25, .inl (mc25, 10, .inl mf25)), (m28, .inl (mc28, 10, .inl mf28)), (m29, .inl (mc29, 10, .inl mf29)), (m30, .inl (mc30, 10, .inl mf30)), (m31, .inl (mc31, 10, .inl mf31)), (m32, .inl (mc32, 10, .inl mf32)), (m33, .inl (mc33, 10, .inl mf33)), (m34, .inl (mc34, 10, .inl mf34)), (m35, .inl (mc35, 10, .inl mf35)), (m36, .inl (mc36, 10, .inl mf36)), (m40, .inl (mc40, 20, .inl mf40)), (m41, .inl (mc41, 20, .inl mf41)), (m42, .inl (mc42, 20, .inl mf42)), (m43, .inl (mc43, 20, .inl mf43)), (m44, .inl (mc44, 20, .inl mf44)), (m46, .inl (mc46, 14, .inr (.inl mf46))), (m47, .inl (mc47, 6, .inl mf47)), (m48, .inl (mc48, 6, .inl mf48)), (m49, .inl (mc49, 6, .inl mf49)), (m50, .inl (mc50, 6, .inl mf50))] sz)) sz) (va_Qi (fun (r : Int32) (u : (Nat → Int32) × (Nat → Int32) × (Nat → Int32) × (Nat → Int32) × (Nat → Int32) × (Nat → Int32) × (Nat → Int32) × (Nat → Int32) × (Nat → Int32) × (Nat → Int32) × Int32 × Int32 × Nat × Int64 × Value × Value × Value × Value × Value × Value × Value × Value × Value × Value × Value) => match u with | (S4, S28, S29, S30, S31, S32, S33, S34, S35, S36, Th0, Th, Ho, Xx, W5, W9, W10, W11, W12, W13, W14, W15, W16, W17, W18) => (r = kLokA mkl mps mkw G0 G1 G2 G3 G4 SV yL p0 p1 ∧ Ho ≤ 48)) (fun (u : (Nat → Int32) × (Nat → Int32) × (Nat → Int32) × (Nat → Int32) × (Nat → Int32) × (Nat → Int32) × (Nat → Int32) × (Nat → Int32) × (Nat → Int32) × (Nat → Int32) × Int32 × Int32 × Nat × Int64 × Value × Value × Value × Value × Value × Value × Value × Value × Value × Value × Value) => match u with | (S4, S28, S29, S30, S31, S32, S33, S34, S35, S36, Th0, Th, Ho, Xx, W5, W9, W10, W11, W12, W13, W14, W15, W16, W17, W18) => fun t : State => kB dC dI [(jM, .inr (10, [.int Th0, .ref m1, .ref m2, .ref m3, .ref m4, W5, .int (nI (ml)), .int (nI (mkl)), .int (nI (mku)), W9, W10, W11, W12, W13, W14, W15, W16, W17, W18, .ref m19, .ref m20, .ref m21, .ref m22, .ref m23, .ref m24, .ref m25, .int (nI (mps)), .int (nI (mkw)), .ref m28, .ref m29, .ref m30, .ref m31, .ref m32, .ref m33, .ref m34, .ref m35, .ref m36, .int Th, .int (nI (Ho)), .long Xx, .ref m40, .ref m41, .ref m42, .ref m43, .ref m44, .int (nI (mkn)), .ref m46, .ref m47, .ref m48, .ref m49, .ref m50, .int (nI (mka))])), (m1, .inl (mc1, 120, .inl mf1)), (m2, .inl (mc2, 1680, .inl mf2)), (m3, .inl (mc3, 14, .inl mf3)), (m4, .inl (mc4, 128, .inl S4)), (m19, .inl (mc19, 10, .inl mf19)), (m20, .inl (mc20, 10, .inl mf20)), (m21, .inl (mc21, 10, .inl mf21)), (m22, .inl (mc22, 10, .inl mf22)), (m23, .inl (mc23, 10, .inl mf23)), (m24, .inl (mc24, 4, .inl mf24)), (m25, .inl (mc25, 10, .inl mf25)), (m28, .inl (mc28, 10, .inl S28)), (m29, .inl (mc29, 10, .inl S29)), (m30, .inl (mc30, 10, .inl S30)), (m31, .inl (mc31, 10, .inl S31)), (m32, .inl (mc32, 10, .inl S32)), (m33, .inl (mc33, 10, .inl S33)), (m34, .inl (mc34, 10, .inl S34)), (m35, .inl (mc35, 10, .inl S35)), (m36, .inl (mc36, 10, .inl S36)), (m40, .inl (mc40, 20, .inl mf40)), (m41, .inl (mc41, 20, .inl mf41)), (m42, .inl (mc42, 20, .inl mf42)), (m43, .inl (mc43, 20, .inl mf43)), (m44, .inl (mc44, 20, .inl mf44)), (m46, .inl (mc46, 14, .inr (.inl mf46))), (m47, .inl (mc47, 6, .inl mf47)), (m48, .inl (mc48, 6, .inl mf48)), (m49, .inl (mc49, 6, .inl mf49)), (m50, .inl (mc50, 6, .inl mf50))] [(mc1, .byte), (mc2, .byte), (mc3, .int), (mc4, .int), (mc19, .int), (mc20, .int), (mc21, .int), (mc22, .int), (mc23, .int), (mc24, .int), (mc25, .boolean), (mc28, .int), (mc29, .int), (mc30, .int), (mc31, .int), (mc32, .int), (mc33, .int), (mc34, .int), (mc35, .int), (mc36, .int), (mc40, .int), (mc41, .int), (mc42, .int), (mc43, .int), (mc44, .int), (mc46, .long), (mc47, .int), (mc48, .int), (mc49, .int), (mc50, .int)] (va_A [(jM, .inr (10, [.int th, .ref m1, .ref m2, .ref m3, .ref m4, v5, .int (nI (ml)), .int (nI (mkl)), .int (nI (mku)), v9, v10, v11, v12, v13, v14, v15, v16, v17, v18, .ref m19, .ref m20, .ref m21, .ref m22, .ref m23, .ref m24, .ref m25, .int (nI (mps)), .int (nI (mkw)), .ref m28, .ref m29, .ref m30, .ref m31, .ref m32, .ref m33, .ref m34, .ref m35, .ref m36, .int thr, .int (nI (ho)), .long xx, .ref m40, .ref m41, .ref m42, .ref m43, .ref m44, .int (nI (mkn)), .ref m46, .ref m47, .ref m48, .ref m49, .ref m50, .int (nI (mka))])), (m1, .inl (mc1, 120, .inl mf1)), (m2, .inl (mc2, 1680, .inl mf2)), (m3, .inl (mc3, 14, .inl mf3)), (m4, .inl (mc4, 128, .inl mf4)), (m19, .inl (mc19, 10, .inl mf19)), (m20, .inl (mc20, 10, .inl mf20)), (m21, .inl (mc21, 10, .inl mf21)), (m22, .inl (mc22, 10, .inl mf22)), (m23, .inl (mc23, 10, .inl mf23)), (m24, .inl (mc24, 4, .inl mf24)), (m25, .inl (mc25, 10, .inl mf25)), (m28, .inl (mc28, 10, .inl mf28)), (m29, .inl (mc29, 10, .inl mf29)), (m30, .inl (mc30, 10, .inl mf30)), (m31, .inl (mc31, 10, .inl mf31)), (m32, .inl (mc32, 10, .inl mf32)), (m33, .inl (mc33, 10, .inl mf33)), (m34, .inl (mc34, 10, .inl mf34)), (m35, .inl (mc35, 10, .inl mf35)), (m36, .inl (mc36, 10, .inl mf36)), (m40, .inl (mc40, 20, .inl mf40)), (m41, .inl (mc41, 20, .inl mf41)), (m42, .inl (mc42, 20, .inl mf42)), (m43, .inl (mc43, 20, .inl mf43)), (m44, .inl (mc44, 20, .inl mf44)), (m46, .inl (mc46, 14, .inr (.inl mf46))), (m47, .inl (mc47, 6, .inl mf47)), (m48, .inl (mc48, 6, .inl mf48)), (m49, .inl (mc49, 6, .inl mf49)), (m50, .inl (mc50, 6, .inl mf50))] sz) t) (va_A [(jM, .inr (10, [.int th, .ref m1, .ref m2, .ref m3, .ref m4, v5, .int (nI (ml)), .int (nI (mkl)), .int (nI (mku)), v9, v10, v11, v12, v13, v14, v15, v16, v17, v18, .ref m19, .ref m20, .ref m21, .ref m22, .ref m23, .ref m24, .ref m25, .int (nI (mps)), .int (nI (mkw)), .ref m28, .ref m29, .ref m30, .ref m31, .ref m32, .ref m33, .ref m34, .ref m35, .ref m36, .int thr, .int (nI (ho)), .long xx, .ref m40, .ref m41, .ref m42, .ref m43, .ref m44, .int (nI (mkn)), .ref m46, .ref m47, .ref m48, .ref m49, .ref m50, .int (nI (mka))])), (m1, .inl (mc1, 120, .inl mf1)), (m2, .inl (mc2, 1680, .inl mf2)), (m3, .inl (mc3, 14, .inl mf3)), (m4, .inl (mc4, 128, .inl mf4)), (m19, .inl (mc19, 10, .inl mf19)), (m20, .inl (mc20, 10, .inl mf20)), (m21, .inl (mc21, 10, .inl mf21)), (m22, .inl (mc22, 10, .inl mf22)), (m23, .inl (mc23, 10, .inl mf23)), (m24, .inl (mc24, 4, .inl mf24)), (m25, .inl (mc25, 10, .inl mf25)), (m28, .inl (mc28, 10, .inl mf28)), (m29, .inl (mc29, 10, .inl mf29)), (m30, .inl (mc30, 10, .inl mf30)), (m31, .inl (mc31, 10, .inl mf31)), (m32, .inl (mc32, 10, .inl mf32)), (m33, .inl (mc33, 10, .inl mf33)), (m34, .inl (mc34, 10, .inl mf34)), (m35, .inl (mc35, 10, .inl mf35)), (m36, .inl (mc36, 10, .inl mf36)), (m40, .inl (mc40, 20, .inl mf40)), (m41, .inl (mc41, 20, .inl mf41)), (m42, .inl (mc42, 20, .inl mf42)), (m43, .inl (mc43, 20, .inl mf43)), (m44, .inl (mc44, 20, .inl mf44)), (m46, .inl (mc46, 14, .inr (.inl mf46))), (m47, .inl (mc47, 6, .inl mf47)), (m48, .inl (mc48, 6, .inl mf48)), (m49, .inl (mc49, 6, .inl mf49)), (m50, .inl (mc50, 6, .inl mf50))] sz)) 0 0 (va_A [(jM, .inr (10, [.int th, .ref m1, .ref m2, .ref m3, .ref m4, v5, .int (nI (ml)), .int (nI (mkl)), .int (nI (mku)), v9, v10, v11, v12, v13, v14, v15, v16, v17, v18, .ref m19, .ref m20, .ref m21, .ref m22, .ref m23, .ref m24, .ref m25, .int (nI (mps)), .int (nI (mkw)), .ref m28, .ref m29, .ref m30, .ref m31, .ref m32, .ref m33, .ref m34, .ref m35, .ref m36, .int thr, .int (nI (ho)), .long xx, .ref m40, .ref m41, .ref m42, .ref m43, .ref m44, .int (nI (mkn)), .ref m46, .ref m47, .ref m48, .ref m49, .ref m50, .int (nI (mka))])), (m1, .inl (mc1, 120, .inl mf1)), (m2, .inl (mc2, 1680, .inl mf2)), (m3, .inl (mc3, 14, .inl mf3)), (m4, .inl (mc4, 128, .inl mf4)), (m19, .inl (mc19, 10, .inl mf19)), (m20, .inl (mc20, 10, .inl mf20)), (m21, .inl (mc21, 10, .inl mf21)), (m22, .inl (mc22, 10, .inl mf22)), (m23, .inl (mc23, 10, .inl mf23)), (m24, .inl (mc24, 4, .inl mf24)), (m25, .inl (mc25, 10, .inl mf25)), (m28, .inl (mc28, 10, .inl mf28)), (m29, .inl (mc29, 10, .inl mf29)), (m30, .inl (mc30, 10, .inl mf30)), (m31, .inl (mc31, 10, .inl mf31)), (m32, .inl (mc32, 10, .inl mf32)), (m33, .inl (mc33, 10, .inl mf33)), (m34, .inl (mc34, 10, .inl mf34)), (m35, .inl (mc35, 10, .inl mf35)), (m36, .inl (mc36, 10, .inl mf36)), (m40, .inl (mc40, 20, .inl mf40)), (m41, .inl (mc41, 20, .inl mf41)), (m42, .inl (mc42, 20, .inl mf42)), (m43, .inl (mc43, 20, .inl mf43)), (m44, .inl (mc44, 20, .inl mf44)), (m46, .inl (mc46, 14, .inr (.inl mf46))), (m47, .inl (mc47, 6, .inl mf47)), (m48, .inl (mc48, 6, .inl mf48)), (m49, .inl (mc49, 6, .inl mf49)), (m50, .inl (mc50, 6, .inl mf50))] sz) := by
  refine Met.ofW (cc := cX10_lookers) (maxL := 8) (ret := (some .int)) (by decide) rfl ?_
  intro p e s m args below meth c s₁ B hml hv
  obtain ⟨rfl, hsz, hP, hK, hD0, hX⟩ := hv
  have hx := B.exec
  have hb := B.bytes
  have hr := B.returns
  have hts := atoms_spec (ws := w_s_lookers10) B.pre
  have hown : s.vm.findClass RX10 = some m.cls := findClass_of_methodNamed B.named
  have hlocks := B.notSynchronized
  subst hsz
  have hD := hD0.self (sz := s.heap.size)
  generalize hAe : va_A [(jM, .inr (10, [.int th, .ref m1, .ref m2, .ref m3, .ref m4, v5, .int (nI (ml)), .int (nI (mkl)), .int (nI (mku)), v9, v10, v11, v12, v13, v14, v15, v16, v17, v18, .ref m19, .ref m20, .ref m21, .ref m22, .ref m23, .ref m24, .ref m25, .int (nI (mps)), .int (nI (mkw)), .ref m28, .ref m29, .ref m30, .ref m31, .ref m32, .ref m33, .ref m34, .ref m35, .ref m36, .int thr, .int (nI (ho)), .long xx, .ref m40, .ref m41, .ref m42, .ref m43, .ref m44, .int (nI (mkn)), .ref m46, .ref m47, .ref m48, .ref m49, .ref m50, .int (nI (mka))])), (m1, .inl (mc1, 120, .inl mf1)), (m2, .inl (mc2, 1680, .inl mf2)), (m3, .inl (mc3, 14, .inl mf3)), (m4, .inl (mc4, 128, .inl mf4)), (m19, .inl (mc19, 10, .inl mf19)), (m20, .inl (mc20, 10, .inl mf20)), (m21, .inl (mc21, 10, .inl mf21)), (m22, .inl (mc22, 10, .inl mf22)), (m23, .inl (mc23, 10, .inl mf23)), (m24, .inl (mc24, 4, .inl mf24)), (m25, .inl (mc25, 10, .inl mf25)), (m28, .inl (mc28, 10, .inl mf28)), (m29, .inl (mc29, 10, .inl mf29)), (m30, .inl (mc30, 10, .inl mf30)), (m31, .inl (mc31, 10, .inl mf31)), (m32, .inl (mc32, 10, .inl mf32)), (m33, .inl (mc33, 10, .inl mf33)), (m34, .inl (mc34, 10, .inl mf34)), (m35, .inl (mc35, 10, .inl mf35)), (m36, .inl (mc36, 10, .inl mf36)), (m40, .inl (mc40, 20, .inl mf40)), (m41, .inl (mc41, 20, .inl mf41)), (m42, .inl (mc42, 20, .inl mf42)), (m43, .inl (mc43, 20, .inl mf43)), (m44, .inl (mc44, 20, .inl mf44)), (m46, .inl (mc46, 14, .inr (.inl mf46))), (m47, .inl (mc47, 6, .inl mf47)), (m48, .inl (mc48, 6, .inl mf48)), (m49, .inl (mc49, 6, .inl mf49)), (m50, .inl (mc50, 6, .inl mf50))] s.heap.size = A at hD hX ⊢
  have hA : ∀ q : Nat, s.heap.size ≤ q → A q := fun q h => by rw [← hAe]; exact Or.inr h
  have hS : va_S A s.heap s.heap [] := va_S.rf
  have hP : va_P (dC, dI) vwCl [(jM, .inr (10, [.int th, .ref m1, .ref m2, .ref m3, .ref m4, v5, .int (nI (ml)), .int (nI (mkl)), .int (nI (mku)), v9, v10, v11, v12, v13, v14, v15, v16, v17, v18, .ref m19, .ref m20, .ref m21, .ref m22, .ref m23, .ref m24, .ref m25, .int (nI (mps)), .int (nI (mkw)), .ref m28, .ref m29, .ref m30, .ref m31, .ref m32, .ref m33, .ref m34, .ref m35, .ref m36, .int thr, .int (nI (ho)), .long xx, .ref m40, .ref m41, .ref m42, .ref m43, .ref m44, .int (nI (mkn)), .ref m46, .ref m47, .ref m48, .ref m49, .ref m50, .int (nI (mka))])), (m1, .inl (mc1, 120, .inl mf1)), (m2, .inl (mc2, 1680, .inl mf2)), (m3, .inl (mc3, 14, .inl mf3)), (m4, .inl (mc4, 128, .inl mf4)), (m19, .inl (mc19, 10, .inl mf19)), (m20, .inl (mc20, 10, .inl mf20)), (m21, .inl (mc21, 10, .inl mf21)), (m22, .inl (mc22, 10, .inl mf22)), (m23, .inl (mc23, 10, .inl mf23)), (m24, .inl (mc24, 4, .inl mf24)), (m25, .inl (mc25, 10, .inl mf25)), (m28, .inl (mc28, 10, .inl mf28)), (m29, .inl (mc29, 10, .inl mf29)), (m30, .inl (mc30, 10, .inl mf30)), (m31, .inl (mc31, 10, .inl mf31)), (m32, .inl (mc32, 10, .inl mf32)), (m33, .inl (mc33, 10, .inl mf33)), (m34, .inl (mc34, 10, .inl mf34)), (m35, .inl (mc35, 10, .inl mf35)), (m36, .inl (mc36, 10, .inl mf36)), (m40, .inl (mc40, 20, .inl mf40)), (m41, .inl (mc41, 20, .inl mf41)), (m42, .inl (mc42, 20, .inl mf42)), (m43, .inl (mc43, 20, .inl mf43)), (m44, .inl (mc44, 20, .inl mf44)), (m46, .inl (mc46, 14, .inr (.inl mf46))), (m47, .inl (mc47, 6, .inl mf47)), (m48, .inl (mc48, 6, .inl mf48)), (m49, .inl (mc49, 6, .inl mf49)), (m50, .inl (mc50, 6, .inl mf50))] s.heap := hP
  have hl := lv_entry ([.ref jM, .int p0, .long p1]) (n := 8) (Nat.le_of_ble_eq_true rfl)
  rw [lg_entry_eq]
  generalize (lg_sl ([.ref jM, .int p0, .long p1]) ++ List.replicate (8 - (lg_sl ([.ref jM, .int p0, .long p1])).length) Slot.unset).toArray = ls at hl ⊢
  have hl : lv_has ls 8 [(0, .ref jM), (1, .int p0), (2, .long p1)] := hl
  refine kQ (fun Q hQ => ?_)
  refine lv_aload_n hx hb dX10_lookers_0 rfl (lv_at hl 0 rfl) ?_
  refine lv_iconst (v := 0) hx hb dX10_lookers_1 kc_i_0 ?_
  refine va_put (D := (dC, dI)) (ci := 10) (v := .int 0) (ty := tyX10 0) (C := RX10) (T := TX10) (N := 52) hx hb hts (fun _ h => List.mem_cons_of_mem _ (List.mem_append_right _ (List.mem_append_left _ h))) tyX10 tyX10_ok nmX10 hown hK hP hD hS 0 rfl rfl 0 kc_l_0_52 (hts (.fieldLink RX10 117 "NotEndedModel" "thrown" "I") (List.mem_cons_of_mem _ (List.mem_append_left _ (List.mem_of_getElem? (i := 0) rfl)))) (fun _ h9 => h9) rfl (tyX10_ok 0 kc_l_0_52) rfl rfl (Nat.le_of_ble_eq_true rfl) dX10_lookers_2 (fun H locs hP hD hS => ?_)
  have hPD : kPD dC dI A [(jM, .inr (10, [.int 0, .ref m1, .ref m2, .ref m3, .ref m4, v5, .int (nI (ml)), .int (nI (mkl)), .int (nI (mku)), v9, v10, v11, v12, v13, v14, v15, v16, v17, v18, .ref m19, .ref m20, .ref m21, .ref m22, .ref m23, .ref m24, .ref m25, .int (nI (mps)), .int (nI (mkw)), .ref m28, .ref m29, .ref m30, .ref m31, .ref m32, .ref m33, .ref m34, .ref m35, .ref m36, .int thr, .int (nI (ho)), .long xx, .ref m40, .ref m41, .ref m42, .ref m43, .ref m44, .int (nI (mkn)), .ref m46, .ref m47, .ref m48, .ref m49, .ref m50, .int (nI (mka))])), (m1, .inl (mc1, 120, .inl mf1)), (m2, .inl (mc2, 1680, .inl mf2)), (m3, .inl (mc3, 14, .inl mf3)), (m4, .inl (mc4, 128, .inl mf4)), (m19, .inl (mc19, 10, .inl mf19)), (m20, .inl (mc20, 10, .inl mf20)), (m21, .inl (mc21, 10, .inl mf21)), (m22, .inl (mc22, 10, .inl mf22)), (m23, .inl (mc23, 10, .inl mf23)), (m24, .inl (mc24, 4, .inl mf24)), (m25, .inl (mc25, 10, .inl mf25)), (m28, .inl (mc28, 10, .inl mf28)), (m29, .inl (mc29, 10, .inl mf29)), (m30, .inl (mc30, 10, .inl mf30)), (m31, .inl (mc31, 10, .inl mf31)), (m32, .inl (mc32, 10, .inl mf32)), (m33, .inl (mc33, 10, .inl mf33)), (m34, .inl (mc34, 10, .inl mf34)), (m35, .inl (mc35, 10, .inl mf35)), (m36, .inl (mc36, 10, .inl mf36)), (m40, .inl (mc40, 20, .inl mf40)), (m41, .inl (mc41, 20, .inl mf41)), (m42, .inl (mc42, 20, .inl mf42)), (m43, .inl (mc43, 20, .inl mf43)), (m44, .inl (mc44, 20, .inl mf44)), (m46, .inl (mc46, 14, .inr (.inl mf46))), (m47, .inl (mc47, 6, .inl mf47)), (m48, .inl (mc48, 6, .inl mf48)), (m49, .inl (mc49, 6, .inl mf49)), (m50, .inl (mc50, 6, .inl mf50))] H := ⟨hP, hD⟩
  obtain ⟨hP, hD⟩ := hPD
  refine lv_aload_n hx hb dX10_lookers_5 rfl (lv_at hl 0 rfl) ?_
  refine lv_iload_n hx hb dX10_lookers_6 rfl (lv_at hl 1 rfl) ?_
  have bd_1 : ml ≤ 120 := by omega
  have hPc := hP.sb (ws2 := [(jM, .inr (10, [.int 0, .ref m1, .ref m2, .ref m3, .ref m4, v5, .int (nI (ml)), .int (nI (mkl)), .int (nI (mku)), v9, v10, v11, v12, v13, v14, v15, v16, v17, v18, .ref m19, .ref m20, .ref m21, .ref m22, .ref m23, .ref m24, .ref m25, .int (nI (mps)), .int (nI (mkw)), .ref m28, .ref m29, .ref m30, .ref m31, .ref m32, .ref m33, .ref m34, .ref m35, .ref m36, .int thr, .int (nI (ho)), .long xx, .ref m40, .ref m41, .ref m42, .ref m43, .ref m44, .int (nI (mkn)), .ref m46, .ref m47, .ref m48, .ref m49, .ref m50, .int (nI (mka))])), (m1, .inl (mc1, 120, .inl mf1)), (m2, .inl (mc2, 1680, .inl mf2)), (m3, .inl (mc3, 14, .inl mf3)), (m4, .inl (mc4, 128, .inl mf4)), (m19, .inl (mc19, 10, .inl mf19)), (m20, .inl (mc20, 10, .inl mf20)), (m21, .inl (mc21, 10, .inl mf21)), (m22, .inl (mc22, 10, .inl mf22)), (m23, .inl (mc23, 10, .inl mf23)), (m24, .inl (mc24, 4, .inl mf24)), (m25, .inl (mc25, 10, .inl mf25)), (m28, .inl (mc28, 10, .inl mf28)), (m29, .inl (mc29, 10, .inl mf29)), (m30, .inl (mc30, 10, .inl mf30)), (m31, .inl (mc31, 10, .inl mf31)), (m32, .inl (mc32, 10, .inl mf32)), (m33, .inl (mc33, 10, .inl mf33)), (m34, .inl (mc34, 10, .inl mf34)), (m35, .inl (mc35, 10, .inl mf35)), (m36, .inl (mc36, 10, .inl mf36)), (m40, .inl (mc40, 20, .inl mf40)), (m41, .inl (mc41, 20, .inl mf41)), (m42, .inl (mc42, 20, .inl mf42)), (m43, .inl (mc43, 20, .inl mf43)), (m44, .inl (mc44, 20, .inl mf44)), (m46, .inl (mc46, 14, .inr (.inl mf46))), (m47, .inl (mc47, 6, .inl mf47)), (m48, .inl (mc48, 6, .inl mf48)), (m49, .inl (mc49, 6, .inl mf49)), (m50, .inl (mc50, 6, .inl mf50))]) [0, 1, 2, 3, 4, 5, 6, 7, 8, 9, 10, 11, 12, 13, 14, 15, 16, 17, 18, 19, 20, 21, 22, 23, 24, 25, 26, 27, 28, 29, 30] rfl
  have hKc := hK.sb (tys2 := [(mc1, .byte), (mc2, .byte), (mc3, .int), (mc4, .int), (mc19, .int), (mc20, .int), (mc21, .int), (mc22, .int), (mc23, .int), (mc24, .int), (mc25, .boolean), (mc28, .int), (mc29, .int), (mc30, .int), (mc31, .int), (mc32, .int), (mc33, .int), (mc34, .int), (mc35, .int), (mc36, .int), (mc40, .int), (mc41, .int), (mc42, .int), (mc43, .int), (mc44, .int), (mc46, .long), (mc47, .int), (mc48, .int), (mc49, .int), (mc50, .int)]) [0, 1, 2, 3, 4, 5, 6, 7, 8, 9, 10, 11, 12, 13, 14, 15, 16, 17, 18, 19, 20, 21, 22, 23, 24, 25, 26, 27, 28, 29] rfl
  refine vp_callSi (va_runV (As := [.int p0]) (rest := []) ⟨hx, hb, hml, hown, hts⟩ (s_isLaw10x l dC dI jM 0 thr xx (v5 : Value) (v9 : Value) (v10 : Value) (v11 : Value) (v12 : Value) (v13 : Value) (v14 : Value) (v15 : Value) (v16 : Value) (v17 : Value) (v18 : Value) m1 m2 m3 m4 m19 m20 m21 m22 m23 m24 m25 m28 m29 m30 m31 m32 m33 m34 m35 m36 m40 m41 m42 m43 m44 m46 m47 m48 m49 m50 mc1 mc2 mc3 mc4 mc19 mc20 mc21 mc22 mc23 mc24 mc25 mc28 mc29 mc30 mc31 mc32 mc33 mc34 mc35 mc36 mc40 mc41 mc42 mc43 mc44 mc46 mc47 mc48 mc49 mc50 mf1 mf2 mf3 mf4 mf19 mf20 mf21 mf22 mf23 mf24 mf25 mf28 mf29 mf30 mf31 mf32 mf33 mf34 mf35 mf36 mf40 mf41 mf42 mf43 mf44 mf46 mf47 mf48 mf49 mf50 ml mkl mku mps mkw ho mkn mka bd_1 hmkl hmku hmps hmkw hho hmkn hmka p0) (cwV 1 hts (kG (List.forall_mem_cons.mpr ⟨(List.mem_cons_of_mem _ (List.mem_append_left _ (List.mem_of_getElem? (i := 4) rfl))), (List.forall_mem_cons.mpr ⟨(List.mem_cons_of_mem _ (List.mem_append_left _ (List.mem_of_getElem? (i := 3) rfl))), (List.forall_mem_cons.mpr ⟨(List.mem_cons_of_mem _ (List.mem_append_left _ (List.mem_of_getElem? (i := 2) rfl))), (List.forall_mem_cons.mpr ⟨(List.mem_cons_of_mem _ (List.mem_append_left _ (List.mem_of_getElem? (i := 1) rfl))), (fun _ h => absurd h List.not_mem_nil)⟩)⟩)⟩)⟩) (kGV _ _ _ _) (fun _ h => List.mem_cons_of_mem _ (List.mem_append_right _ (List.mem_append_right _ (List.mem_append_left _ h)))) gw_s_isLaw10x) rfl rfl rfl ⟨rfl, hd_X10_isLaw⟩ ⟨(Nat.le_of_ble_eq_true rfl), (Nat.le_of_ble_eq_true rfl)⟩) (kR_V kT_blind kT_give (va_recv hKc hPc (ci := 10) (q0 := 0) rfl rfl) hPc hKc) rfl rfl hl.1 rfl (lv_room (Nat.le_of_ble_eq_true rfl)) dX10_lookers_7 ⟨(Nat.le_of_ble_eq_true rfl), (Nat.le_of_ble_eq_true rfl)⟩).run (fun r_2 hw => ?_)
  obtain ⟨hw_3, hw_3_x⟩ := hw
  refine lv_if_ne (tgt := 15) hx hb dX10_lookers_10 kc_t_10_5 (fun c_4 => ?_) (fun c_4 => ?_)
  · have ff_5 := kNzr hw_3_x c_4
    obtain ⟨j_6, hj_6, ej_6⟩ := hw_3 c_4
    subst ej_6
    refine lv_aload_n hx hb dX10_lookers_15 rfl (lv_at hl 0 rfl) ?_
    refine lv_iload_n hx hb dX10_lookers_16 rfl (lv_at hl 1 rfl) ?_
    refine lv_lload_n hx hb dX10_lookers_17 rfl (lv_at hl 2 rfl) ?_
    refine lv_iconst (v := 0) hx hb dX10_lookers_18 kc_i_0 ?_
    have bd_7 : j_6 < mkl := by omega
    have hCu := kCut (wc := [(jM, .inr (10, [.int 0, .ref m1, .ref m2, .ref m3, .ref m4, v5, .int (nI (ml)), .int (nI (mkl)), .int (nI (mku)), v9, v10, v11, v12, v13, v14, v15, v16, v17, v18, .ref m19, .ref m20, .ref m21, .ref m22, .ref m23, .ref m24, .ref m25, .int (nI (mps)), .int (nI (mkw)), .ref m28, .ref m29, .ref m30, .ref m31, .ref m32, .ref m33, .ref m34, .ref m35, .ref m36, .int thr, .int (nI (ho)), .long xx, .ref m40, .ref m41, .ref m42, .ref m43, .ref m44, .int (nI (mkn)), .ref m46, .ref m47, .ref m48, .ref m49, .ref m50, .int (nI (mka))])), (m1, .inl (mc1, 120, .inl mf1)), (m2, .inl (mc2, 1680, .inl mf2)), (m3, .inl (mc3, 14, .inl mf3)), (m4, .inl (mc4, 128, .inl mf4)), (m19, .inl (mc19, 10, .inl mf19)), (m20, .inl (mc20, 10, .inl mf20)), (m21, .inl (mc21, 10, .inl mf21)), (m22, .inl (mc22, 10, .inl mf22)), (m23, .inl (mc23, 10, .inl mf23)), (m24, .inl (mc24, 4, .inl mf24)), (m25, .inl (mc25, 10, .inl mf25)), (m28, .inl (mc28, 10, .inl mf28)), (m29, .inl (mc29, 10, .inl mf29)), (m30, .inl (mc30, 10, .inl mf30)), (m31, .inl (mc31, 10, .inl mf31)), (m32, .inl (mc32, 10, .inl mf32)), (m33, .inl (mc33, 10, .inl mf33)), (m34, .inl (mc34, 10, .inl mf34)), (m35, .inl (mc35, 10, .inl mf35)), (m36, .inl (mc36, 10, .inl mf36)), (m40, .inl (mc40, 20, .inl mf40)), (m41, .inl (mc41, 20, .inl mf41)), (m42, .inl (mc42, 20, .inl mf42)), (m43, .inl (mc43, 20, .inl mf43)), (m44, .inl (mc44, 20, .inl mf44)), (m46, .inl (mc46, 14, .inr (.inl mf46))), (m47, .inl (mc47, 6, .inl mf47)), (m48, .inl (mc48, 6, .inl mf48)), (m49, .inl (mc49, 6, .inl mf49)), (m50, .inl (mc50, 6, .inl mf50))]) hP hD hS hA [0, 1, 2, 3, 4, 5, 6, 7, 8, 9, 10, 11, 12, 13, 14, 15, 16, 17, 18, 19, 20, 21, 22, 23, 24, 25, 26, 27, 28, 29, 30] rfl kc_nd_772 rfl
    have hPc := hCu.1
    have hDc := hCu.2.1
    have hFc := hCu.2.2
    have hKc := hK.sb (tys2 := [(mc1, .byte), (mc2, .byte), (mc3, .int), (mc4, .int), (mc19, .int), (mc20, .int), (mc21, .int), (mc22, .int), (mc23, .int), (mc24, .int), (mc25, .boolean), (mc28, .int), (mc29, .int), (mc30, .int), (mc31, .int), (mc32, .int), (mc33, .int), (mc34, .int), (mc35, .int), (mc36, .int), (mc40, .int), (mc41, .int), (mc42, .int), (mc43, .int), (mc44, .int), (mc46, .long), (mc47, .int), (mc48, .int), (mc49, .int), (mc50, .int)]) [0, 1, 2, 3, 4, 5, 6, 7, 8, 9, 10, 11, 12, 13, 14, 15, 16, 17, 18, 19, 20, 21, 22, 23, 24, 25, 26, 27, 28, 29] rfl
    refine va_calli (va_runV (As := [.int (nI (j_6)), .long p1, .int 0]) (rest := []) ⟨hx, hb, hml, hown, hts⟩ (s_holders10x l dC dI jM 0 thr xx (v5 : Value) (v9 : Value) (v10 : Value) (v11 : Value) (v12 : Value) (v13 : Value) (v14 : Value) (v15 : Value) (v16 : Value) (v17 : Value) (v18 : Value) m1 m2 m3 m4 m19 m20 m21 m22 m23 m24 m25 m28 m29 m30 m31 m32 m33 m34 m35 m36 m40 m41 m42 m43 m44 m46 m47 m48 m49 m50 mc1 mc2 mc3 mc4 mc19 mc20 mc21 mc22 mc23 mc24 mc25 mc28 mc29 mc30 mc31 mc32 mc33 mc34 mc35 mc36 mc40 mc41 mc42 mc43 mc44 mc46 mc47 mc48 mc49 mc50 mf1 mf2 mf3 mf4 mf19 mf20 mf21 mf22 mf23 mf24 mf25 mf28 mf29 mf30 mf31 mf32 mf33 mf34 mf35 mf36 mf40 mf41 mf42 mf43 mf44 mf46 mf47 mf48 mf49 mf50 ml mkl mku mps mkw ho mkn mka bd_1 hmkl hmku hmps hmkw hho hmkn hmka ad bA nA xA hnA bB nB xB hnB bE nE xE hnE bG nG xG hnG gnA gnB gnE gnG hzA hzB hzE hzG hlB hlG yL yU hUl hUt hE9 hG9 G0 G1 G2 G3 G4 SV hTd hOk0 hA9 hB9 hSV j_6 bd_7 p1 0 (-1) (by rw [kAndM]; exact kThere0) H.size) (cwV 3 hts (kG (List.forall_mem_cons.mpr ⟨(List.mem_cons_of_mem _ (List.mem_append_left _ (List.mem_of_getElem? (i := 7) rfl))), (List.forall_mem_cons.mpr ⟨(List.mem_cons_of_mem _ (List.mem_append_left _ (List.mem_of_getElem? (i := 6) rfl))), (List.forall_mem_cons.mpr ⟨(List.mem_cons_of_mem _ (List.mem_append_left _ (List.mem_of_getElem? (i := 5) rfl))), (List.forall_mem_cons.mpr ⟨(List.mem_cons_of_mem _ (List.mem_append_left _ (List.mem_of_getElem? (i := 1) rfl))), (fun _ h => absurd h List.not_mem_nil)⟩)⟩)⟩)⟩) (kGV _ _ _ _) (fun _ h => List.mem_cons_of_mem _ (List.mem_append_right _ (List.mem_append_right _ (List.mem_append_right _ (List.mem_append_left _ h))))) gw_s_holders10x) rfl rfl rfl ⟨rfl, hd_X10_holders⟩ ⟨(Nat.le_of_ble_eq_true rfl), (Nat.le_of_ble_eq_true rfl)⟩) (kW_V kMx_blind (kMx_give hX hS hFc) (va_recv hKc hPc (ci := 10) (q0 := 0) rfl rfl) hPc hKc hDc) rfl rfl hl.1 rfl (lv_room (Nat.le_of_ble_eq_true rfl)) dX10_lookers_19 ⟨(Nat.le_of_ble_eq_true rfl), (Nat.le_of_ble_eq_true rfl)⟩) hS (fun q _ h => hFc q h) hFc (fun r_8 => kU24 (fun S4_9 S28_10 S29_11 S30_12 S31_13 S32_14 S33_15 S34_16 S35_17 S36_18 Th_19 Ho_20 Xx_21 W5_22 W9_23 W10_24 W11_25 W12_26 W13_27 W14_28 W15_29 W16_30 W17_31 W18_32 t H_33 locs ht hvm hw hB hz1 hk1 hS => ?_))
    try dsimp only at hw
    have hPD : kPD dC dI A [(jM, .inr (10, [.int 0, .ref m1, .ref m2, .ref m3, .ref m4, W5_22, .int (nI (ml)), .int (nI (mkl)), .int (nI (mku)), W9_23, W10_24, W11_25, W12_26, W13_27, W14_28, W15_29, W16_30, W17_31, W18_32, .ref m19, .ref m20, .ref m21, .ref m22, .ref m23, .ref m24, .ref m25, .int (nI (mps)), .int (nI (mkw)), .ref m28, .ref m29, .ref m30, .ref m31, .ref m32, .ref m33, .ref m34, .ref m35, .ref m36, .int Th_19, .int (nI (Ho_20)), .long Xx_21, .ref m40, .ref m41, .ref m42, .ref m43, .ref m44, .int (nI (mkn)), .ref m46, .ref m47, .ref m48, .ref m49, .ref m50, .int (nI (mka))])), (m1, .inl (mc1, 120, .inl mf1)), (m2, .inl (mc2, 1680, .inl mf2)), (m3, .inl (mc3, 14, .inl mf3)), (m4, .inl (mc4, 128, .inl S4_9)), (m19, .inl (mc19, 10, .inl mf19)), (m20, .inl (mc20, 10, .inl mf20)), (m21, .inl (mc21, 10, .inl mf21)), (m22, .inl (mc22, 10, .inl mf22)), (m23, .inl (mc23, 10, .inl mf23)), (m24, .inl (mc24, 4, .inl mf24)), (m25, .inl (mc25, 10, .inl mf25)), (m28, .inl (mc28, 10, .inl S28_10)), (m29, .inl (mc29, 10, .inl S29_11)), (m30, .inl (mc30, 10, .inl S30_12)), (m31, .inl (mc31, 10, .inl S31_13)), (m32, .inl (mc32, 10, .inl S32_14)), (m33, .inl (mc33, 10, .inl S33_15)), (m34, .inl (mc34, 10, .inl S34_16)), (m35, .inl (mc35, 10, .inl S35_17)), (m36, .inl (mc36, 10, .inl S36_18)), (m40, .inl (mc40, 20, .inl mf40)), (m41, .inl (mc41, 20, .inl mf41)), (m42, .inl (mc42, 20, .inl mf42)), (m43, .inl (mc43, 20, .inl mf43)), (m44, .inl (mc44, 20, .inl mf44)), (m46, .inl (mc46, 14, .inr (.inl mf46))), (m47, .inl (mc47, 6, .inl mf47)), (m48, .inl (mc48, 6, .inl mf48)), (m49, .inl (mc49, 6, .inl mf49)), (m50, .inl (mc50, 6, .inl mf50))] H_33 := kJoinX hP hD [0, 1, 2, 3, 4, 5, 6, 7, 8, 9, 10, 11, 12, 13, 14, 15, 16, 17, 18, 19, 20, 21, 22, 23, 24, 25, 26, 27, 28, 29, 30] rfl hk1 hFc hB.1 ht hB.2.2 rfl [some 0, some 1, some 2, some 3, some 4, some 5, some 6, some 7, some 8, some 9, some 10, some 11, some 12, some 13, some 14, some 15, some 16, some 17, some 18, some 19, some 20, some 21, some 22, some 23, some 24, some 25, some 26, some 27, some 28, some 29, some 30] rfl rfl
    obtain ⟨hP, hD⟩ := hPD
    have hw_34 := hw
    have hw_34_0 := hw_34.2
    have hpl9 := hw_34.1
    rw [kAndM] at hpl9
    have hp10 := kP10x (n := mps) (by omega)
    have hp11 := Nat.one_le_two_pow (n := mps)
    refine lv_istore hx hb dX10_lookers_22 hl kc_l_4_8 (kTo [(4, .int r_8), (0, .ref jM), (1, .int (nI (j_6))), (2, .long p1)]) (fun ls hl => ?_)
    refine lv_iconst (v := 0) hx hb dX10_lookers_24 kc_i_0 ?_
    refine lv_istore hx hb dX10_lookers_25 hl kc_l_5_8 (kTo [(5, .int 0), (4, .int r_8), (0, .ref jM), (1, .int (nI (j_6))), (2, .long p1)]) (fun ls hl => ?_)
    refine lv_iconst (v := 1) hx hb dX10_lookers_27 kc_i_1 ?_
    refine lv_istore hx hb dX10_lookers_28 hl kc_l_6_8 (kTo [(6, .int 1), (5, .int 0), (4, .int r_8), (0, .ref jM), (1, .int (nI (j_6))), (2, .long p1)]) (fun ls hl => ?_)
    have lp_k_35 : ∀ (n9 : Nat) (i : Nat) (b9 : Nat) (l4 : Nat → Int32) (l28 : Nat → Int32) (l29 : Nat → Int32) (l30 : Nat → Int32) (l31 : Nat → Int32) (l32 : Nat → Int32) (l33 : Nat → Int32) (l34 : Nat → Int32) (l35 : Nat → Int32) (l36 : Nat → Int32) (lv5 : Value) (lv9 : Value) (lv10 : Value) (lv11 : Value) (lv12 : Value) (lv13 : Value) (lv14 : Value) (lv15 : Value) (lv16 : Value) (lv17 : Value) (lv18 : Value) (lho : Nat) (lxx : Int64) (ltr : Int32) (ivk_35_0 : 1 ≤ i) (ivk_35_1 : i ≤ 2 ^ mps) (ivk_35_2 : b9 = kLkR (kLkP mps mkw G0 G1 G2 G3 G4 SV (yL j_6) p1) i) (ivk_35_3 : b9 < 1024) (ivk_35_4 : lho ≤ 48) (H : Heap) (locs : List Loc) (_ : va_P (dC, dI) vwCl [(jM, .inr (10, [.int 0, .ref m1, .ref m2, .ref m3, .ref m4, lv5, .int (nI (ml)), .int (nI (mkl)), .int (nI (mku)), lv9, lv10, lv11, lv12, lv13, lv14, lv15, lv16, lv17, lv18, .ref m19, .ref m20, .ref m21, .ref m22, .ref m23, .ref m24, .ref m25, .int (nI (mps)), .int (nI (mkw)), .ref m28, .ref m29, .ref m30, .ref m31, .ref m32, .ref m33, .ref m34, .ref m35, .ref m36, .int ltr, .int (nI (lho)), .long lxx, .ref m40, .ref m41, .ref m42, .ref m43, .ref m44, .int (nI (mkn)), .ref m46, .ref m47, .ref m48, .ref m49, .ref m50, .int (nI (mka))])), (m1, .inl (mc1, 120, .inl mf1)), (m2, .inl (mc2, 1680, .inl mf2)), (m3, .inl (mc3, 14, .inl mf3)), (m4, .inl (mc4, 128, .inl l4)), (m19, .inl (mc19, 10, .inl mf19)), (m20, .inl (mc20, 10, .inl mf20)), (m21, .inl (mc21, 10, .inl mf21)), (m22, .inl (mc22, 10, .inl mf22)), (m23, .inl (mc23, 10, .inl mf23)), (m24, .inl (mc24, 4, .inl mf24)), (m25, .inl (mc25, 10, .inl mf25)), (m28, .inl (mc28, 10, .inl l28)), (m29, .inl (mc29, 10, .inl l29)), (m30, .inl (mc30, 10, .inl l30)), (m31, .inl (mc31, 10, .inl l31)), (m32, .inl (mc32, 10, .inl l32)), (m33, .inl (mc33, 10, .inl l33)), (m34, .inl (mc34, 10, .inl l34)), (m35, .inl (mc35, 10, .inl l35)), (m36, .inl (mc36, 10, .inl l36)), (m40, .inl (mc40, 20, .inl mf40)), (m41, .inl (mc41, 20, .inl mf41)), (m42, .inl (mc42, 20, .inl mf42)), (m43, .inl (mc43, 20, .inl mf43)), (m44, .inl (mc44, 20, .inl mf44)), (m46, .inl (mc46, 14, .inr (.inl mf46))), (m47, .inl (mc47, 6, .inl mf47)), (m48, .inl (mc48, 6, .inl mf48)), (m49, .inl (mc49, 6, .inl mf49)), (m50, .inl (mc50, 6, .inl mf50))] H) (_ : va_D A [(jM, .inr (10, [.int 0, .ref m1, .ref m2, .ref m3, .ref m4, lv5, .int (nI (ml)), .int (nI (mkl)), .int (nI (mku)), lv9, lv10, lv11, lv12, lv13, lv14, lv15, lv16, lv17, lv18, .ref m19, .ref m20, .ref m21, .ref m22, .ref m23, .ref m24, .ref m25, .int (nI (mps)), .int (nI (mkw)), .ref m28, .ref m29, .ref m30, .ref m31, .ref m32, .ref m33, .ref m34, .ref m35, .ref m36, .int ltr, .int (nI (lho)), .long lxx, .ref m40, .ref m41, .ref m42, .ref m43, .ref m44, .int (nI (mkn)), .ref m46, .ref m47, .ref m48, .ref m49, .ref m50, .int (nI (mka))])), (m1, .inl (mc1, 120, .inl mf1)), (m2, .inl (mc2, 1680, .inl mf2)), (m3, .inl (mc3, 14, .inl mf3)), (m4, .inl (mc4, 128, .inl l4)), (m19, .inl (mc19, 10, .inl mf19)), (m20, .inl (mc20, 10, .inl mf20)), (m21, .inl (mc21, 10, .inl mf21)), (m22, .inl (mc22, 10, .inl mf22)), (m23, .inl (mc23, 10, .inl mf23)), (m24, .inl (mc24, 4, .inl mf24)), (m25, .inl (mc25, 10, .inl mf25)), (m28, .inl (mc28, 10, .inl l28)), (m29, .inl (mc29, 10, .inl l29)), (m30, .inl (mc30, 10, .inl l30)), (m31, .inl (mc31, 10, .inl l31)), (m32, .inl (mc32, 10, .inl l32)), (m33, .inl (mc33, 10, .inl l33)), (m34, .inl (mc34, 10, .inl l34)), (m35, .inl (mc35, 10, .inl l35)), (m36, .inl (mc36, 10, .inl l36)), (m40, .inl (mc40, 20, .inl mf40)), (m41, .inl (mc41, 20, .inl mf41)), (m42, .inl (mc42, 20, .inl mf42)), (m43, .inl (mc43, 20, .inl mf43)), (m44, .inl (mc44, 20, .inl mf44)), (m46, .inl (mc46, 14, .inr (.inl mf46))), (m47, .inl (mc47, 6, .inl mf47)), (m48, .inl (mc48, 6, .inl mf48)), (m49, .inl (mc49, 6, .inl mf49)), (m50, .inl (mc50, 6, .inl mf50))]) (_ : va_S A s.heap H locs) (ls : Array Slot) (_ : lv_has ls 8 [(6, .int (nI (i))), (5, .int (nI (b9))), (4, .int r_8), (0, .ref jM), (1, .int (nI (j_6))), (2, .long p1)]) (_ : 1025 - i < n9), W p l e (headSpec w_s_lookers10 ({ frames := 65, cells := 0, slots := 0, locals := 3900 })).room s m (#[.ref jM, .int (nI (j_6)), .long p1] : Array Value) below meth c H locs 0 0 Q (F0 m 30 ls []) := by
      intro n9
      induction n9 with
      | zero => intro i b9 l4 l28 l29 l30 l31 l32 l33 l34 l35 l36 lv5 lv9 lv10 lv11 lv12 lv13 lv14 lv15 lv16 lv17 lv18 lho lxx ltr ivk_35_0 ivk_35_1 ivk_35_2 ivk_35_3 ivk_35_4 H locs hP hD hS ls hl hm9; exact absurd hm9 (Nat.not_lt_zero _)
      | succ n9 ih_k_35 =>
        intro i b9 l4 l28 l29 l30 l31 l32 l33 l34 l35 l36 lv5 lv9 lv10 lv11 lv12 lv13 lv14 lv15 lv16 lv17 lv18 lho lxx ltr ivk_35_0 ivk_35_1 ivk_35_2 ivk_35_3 ivk_35_4 H locs hP hD hS ls hl hm9
        refine lv_iload hx hb dX10_lookers_30 (lv_at hl 0 rfl) ?_
        refine lv_aload_n hx hb dX10_lookers_32 rfl (lv_at hl 3 rfl) ?_
        have bd_36 : lho ≤ 48 := by omega
        have hPc := hP.sb (ws2 := [(jM, .inr (10, [.int 0, .ref m1, .ref m2, .ref m3, .ref m4, lv5, .int (nI (ml)), .int (nI (mkl)), .int (nI (mku)), lv9, lv10, lv11, lv12, lv13, lv14, lv15, lv16, lv17, lv18, .ref m19, .ref m20, .ref m21, .ref m22, .ref m23, .ref m24, .ref m25, .int (nI (mps)), .int (nI (mkw)), .ref m28, .ref m29, .ref m30, .ref m31, .ref m32, .ref m33, .ref m34, .ref m35, .ref m36, .int ltr, .int (nI (lho)), .long lxx, .ref m40, .ref m41, .ref m42, .ref m43, .ref m44, .int (nI (mkn)), .ref m46, .ref m47, .ref m48, .ref m49, .ref m50, .int (nI (mka))])), (m1, .inl (mc1, 120, .inl mf1)), (m2, .inl (mc2, 1680, .inl mf2)), (m3, .inl (mc3, 14, .inl mf3)), (m4, .inl (mc4, 128, .inl l4)), (m19, .inl (mc19, 10, .inl mf19)), (m20, .inl (mc20, 10, .inl mf20)), (m21, .inl (mc21, 10, .inl mf21)), (m22, .inl (mc22, 10, .inl mf22)), (m23, .inl (mc23, 10, .inl mf23)), (m24, .inl (mc24, 4, .inl mf24)), (m25, .inl (mc25, 10, .inl mf25)), (m28, .inl (mc28, 10, .inl l28)), (m29, .inl (mc29, 10, .inl l29)), (m30, .inl (mc30, 10, .inl l30)), (m31, .inl (mc31, 10, .inl l31)), (m32, .inl (mc32, 10, .inl l32)), (m33, .inl (mc33, 10, .inl l33)), (m34, .inl (mc34, 10, .inl l34)), (m35, .inl (mc35, 10, .inl l35)), (m36, .inl (mc36, 10, .inl l36)), (m40, .inl (mc40, 20, .inl mf40)), (m41, .inl (mc41, 20, .inl mf41)), (m42, .inl (mc42, 20, .inl mf42)), (m43, .inl (mc43, 20, .inl mf43)), (m44, .inl (mc44, 20, .inl mf44)), (m46, .inl (mc46, 14, .inr (.inl mf46))), (m47, .inl (mc47, 6, .inl mf47)), (m48, .inl (mc48, 6, .inl mf48)), (m49, .inl (mc49, 6, .inl mf49)), (m50, .inl (mc50, 6, .inl mf50))]) [0, 1, 2, 3, 4, 5, 6, 7, 8, 9, 10, 11, 12, 13, 14, 15, 16, 17, 18, 19, 20, 21, 22, 23, 24, 25, 26, 27, 28, 29, 30] rfl
        have hKc := hK.sb (tys2 := [(mc1, .byte), (mc2, .byte), (mc3, .int), (mc4, .int), (mc19, .int), (mc20, .int), (mc21, .int), (mc22, .int), (mc23, .int), (mc24, .int), (mc25, .boolean), (mc28, .int), (mc29, .int), (mc30, .int), (mc31, .int), (mc32, .int), (mc33, .int), (mc34, .int), (mc35, .int), (mc36, .int), (mc40, .int), (mc41, .int), (mc42, .int), (mc43, .int), (mc44, .int), (mc46, .long), (mc47, .int), (mc48, .int), (mc49, .int), (mc50, .int)]) [0, 1, 2, 3, 4, 5, 6, 7, 8, 9, 10, 11, 12, 13, 14, 15, 16, 17, 18, 19, 20, 21, 22, 23, 24, 25, 26, 27, 28, 29] rfl
        refine vp_callSi (va_runV (As := []) (rest := [.int (nI (i))]) ⟨hx, hb, hml, hown, hts⟩ (s_every10n l dC dI jM 0 ltr lxx (lv5 : Value) (lv9 : Value) (lv10 : Value) (lv11 : Value) (lv12 : Value) (lv13 : Value) (lv14 : Value) (lv15 : Value) (lv16 : Value) (lv17 : Value) (lv18 : Value) m1 m2 m3 m4 m19 m20 m21 m22 m23 m24 m25 m28 m29 m30 m31 m32 m33 m34 m35 m36 m40 m41 m42 m43 m44 m46 m47 m48 m49 m50 mc1 mc2 mc3 mc4 mc19 mc20 mc21 mc22 mc23 mc24 mc25 mc28 mc29 mc30 mc31 mc32 mc33 mc34 mc35 mc36 mc40 mc41 mc42 mc43 mc44 mc46 mc47 mc48 mc49 mc50 mf1 mf2 mf3 l4 mf19 mf20 mf21 mf22 mf23 mf24 mf25 l28 l29 l30 l31 l32 l33 l34 l35 l36 mf40 mf41 mf42 mf43 mf44 mf46 mf47 mf48 mf49 mf50 ml mkl mku mps mkw lho mkn mka bd_1 hmkl hmku hmps hmkw bd_36 hmkn hmka) (cwV 0 hts (kG (List.forall_mem_cons.mpr ⟨(List.mem_cons_of_mem _ (List.mem_append_left _ (List.mem_of_getElem? (i := 10) rfl))), (List.forall_mem_cons.mpr ⟨(List.mem_cons_of_mem _ (List.mem_append_left _ (List.mem_of_getElem? (i := 9) rfl))), (List.forall_mem_cons.mpr ⟨(List.mem_cons_of_mem _ (List.mem_append_left _ (List.mem_of_getElem? (i := 8) rfl))), (List.forall_mem_cons.mpr ⟨(List.mem_cons_of_mem _ (List.mem_append_left _ (List.mem_of_getElem? (i := 1) rfl))), (fun _ h => absurd h List.not_mem_nil)⟩)⟩)⟩)⟩) (kGV _ _ _ _) (fun _ h => List.mem_cons_of_mem _ (List.mem_append_right _ (List.mem_append_right _ (List.mem_append_right _ (List.mem_append_right _ (List.mem_append_left _ h)))))) gw_s_every10n) rfl rfl rfl ⟨rfl, hd_X10_everybody⟩ ⟨(Nat.le_of_ble_eq_true rfl), (Nat.le_of_ble_eq_true rfl)⟩) (kR_V kT_blind kT_give (va_recv hKc hPc (ci := 10) (q0 := 0) rfl rfl) hPc hKc) rfl rfl hl.1 rfl (lv_room (Nat.le_of_ble_eq_true rfl)) dX10_lookers_33 ⟨(Nat.le_of_ble_eq_true rfl), (Nat.le_of_ble_eq_true rfl)⟩).run (fun r_37 hw => ?_)
        obtain rfl : r_37 = nI (2 ^ mps - 1) := hw
        refine lv_icmp_gt (tgt := 110) hx hb dX10_lookers_36 kc_t_36_74 (fun c_38 => ?_) (fun c_38 => ?_)
        · have bd_40 : 2 ^ mps - 1 < 2147483648 := by omega
          have bd_41 : i < 2147483648 := by omega
          have hn_39 := klt (a := 2 ^ mps - 1) (b := i) bd_40 bd_41 c_38
          refine lv_iload hx hb dX10_lookers_110 (lv_at hl 1 rfl) ?_
          have hP9 := hP
          have hD9 := hD
          have hK9 := hK
          rw [hQ]
          exact W.iret (v := nI (b9)) hx hb hr (fun t ht hW => ⟨⟨nI (b9), (l4, l28, l29, l30, l31, l32, l33, l34, l35, l36, 0, ltr, lho, lxx, (lv5 : Value), (lv9 : Value), (lv10 : Value), (lv11 : Value), (lv12 : Value), (lv13 : Value), (lv14 : Value), (lv15 : Value), (lv16 : Value), (lv17 : Value), (lv18 : Value)), rfl, ⟨(by unfold kLokA; rw [if_neg ff_5, nI_clamp (n := j_6) (by omega), ← kLkO_up (P := (kLkP mps mkw G0 G1 G2 G3 G4 SV (yL j_6) p1)) (S := kPc SV) (2 ^ mps) (by have := hTd.2.2; omega) (fun k h1 h2 => kLkP_f (fun z => by have := kSub_le (kSub_b (by omega) (by omega) z.1); omega)), ← kLk_eq (P := (kLkP mps mkw G0 G1 G2 G3 G4 SV (yL j_6) p1)) (S := kPc SV) (2 ^ mps) (by omega) (by omega) (fun k h1 h2 => kPcN_s (kSub_b (by omega) (by omega) (kLkP_t.mp h2).1) 10), show 2 ^ mps = i by omega, ← ivk_35_2]), by omega⟩,  by rw [ht]; exact hP9, va_K.moved hW.alike hK9, hD9⟩, hS.F ht⟩) hS.2.2 dX10_lookers_112
        · have bd_43 : 2 ^ mps - 1 < 2147483648 := by omega
          have bd_44 : i < 2147483648 := by omega
          have hn_42 := knlt (a := 2 ^ mps - 1) (b := i) bd_43 bd_44 c_38
          refine lv_iload hx hb dX10_lookers_39 (lv_at hl 0 rfl) ?_
          have bd_45 : i < 1024 := by omega
          have hPc := hP.sb (ws2 := []) [] rfl
          have hKc := hK.sb (tys2 := []) [] rfl
          refine vp_callSi (va_runS (As := [.int (nI (i))]) (rest := []) ⟨hx, hb, hml, hown, hts⟩ (s_bitCount6n l dC dI i bd_45) (va_cwS 1 hts (kG (List.forall_mem_cons.mpr ⟨(List.mem_cons_of_mem _ (List.mem_append_left _ (List.mem_of_getElem? (i := 13) rfl))), (List.forall_mem_cons.mpr ⟨(List.mem_cons_of_mem _ (List.mem_append_left _ (List.mem_of_getElem? (i := 12) rfl))), (List.forall_mem_cons.mpr ⟨(List.mem_cons_of_mem _ (List.mem_append_left _ (List.mem_of_getElem? (i := 11) rfl))), (fun _ h => absurd h List.not_mem_nil)⟩)⟩)⟩) (kGS _ _ _) (fun _ h => List.mem_cons_of_mem _ (List.mem_append_right _ (List.mem_append_right _ (List.mem_append_right _ (List.mem_append_right _ (List.mem_append_right _ (List.mem_append_left _ h))))))) gw_s_bitCount6n) rfl rfl rfl hd_J6_bitCount_0f7a4 ⟨(Nat.le_of_ble_eq_true rfl), (Nat.le_of_ble_eq_true rfl)⟩) (kR_S kT_blind kT_give hPc hKc) rfl rfl hl.1 rfl (lv_room (Nat.le_of_ble_eq_true rfl)) dX10_lookers_41 ⟨(Nat.le_of_ble_eq_true rfl), (Nat.le_of_ble_eq_true rfl)⟩).run (fun r_46 hw => ?_)
          obtain rfl : r_46 = nI (kPc (i)) := hw
          have hpc_47 := kPc_le i
          refine lv_iload hx hb dX10_lookers_44 (lv_at hl 1 rfl) ?_
          have bd_48 : b9 < 1024 := by omega
          have hPc := hP.sb (ws2 := []) [] rfl
          have hKc := hK.sb (tys2 := []) [] rfl
          refine vp_callSi (va_runS (As := [.int (nI (b9))]) (rest := [.int (nI (kPc (i)))]) ⟨hx, hb, hml, hown, hts⟩ (s_bitCount6n l dC dI b9 bd_48) (va_cwS 1 hts (kG (List.forall_mem_cons.mpr ⟨(List.mem_cons_of_mem _ (List.mem_append_left _ (List.mem_of_getElem? (i := 13) rfl))), (List.forall_mem_cons.mpr ⟨(List.mem_cons_of_mem _ (List.mem_append_left _ (List.mem_of_getElem? (i := 12) rfl))), (List.forall_mem_cons.mpr ⟨(List.mem_cons_of_mem _ (List.mem_append_left _ (List.mem_of_getElem? (i := 11) rfl))), (fun _ h => absurd h List.not_mem_nil)⟩)⟩)⟩) (kGS _ _ _) (fun _ h => List.mem_cons_of_mem _ (List.mem_append_right _ (List.mem_append_right _ (List.mem_append_right _ (List.mem_append_right _ (List.mem_append_right _ (List.mem_append_left _ h))))))) gw_s_bitCount6n) rfl rfl rfl hd_J6_bitCount_0f7a4 ⟨(Nat.le_of_ble_eq_true rfl), (Nat.le_of_ble_eq_true rfl)⟩) (kR_S kT_blind kT_give hPc hKc) rfl rfl hl.1 rfl (lv_room (Nat.le_of_ble_eq_true rfl)) dX10_lookers_46 ⟨(Nat.le_of_ble_eq_true rfl), (Nat.le_of_ble_eq_true rfl)⟩).run (fun r_49 hw => ?_)
          obtain rfl : r_49 = nI (kPc (b9)) := hw
          have hpc_50 := kPc_le b9
          refine lv_isub hx hb dX10_lookers_49 ?_
          refine lv_topi (fun x_51 ex_51 => ?_)
          have hsu9 := kSubLt (kPc_le i) (kPc_le b9)
          refine lv_istore hx hb dX10_lookers_50 hl kc_l_7_8 (kTo [(7, .int x_51), (6, .int (nI (i))), (5, .int (nI (b9))), (4, .int r_8), (0, .ref jM), (1, .int (nI (j_6))), (2, .long p1)]) (fun ls hl => ?_)
          refine lv_iload hx hb dX10_lookers_52 (lv_at hl 1 rfl) ?_
          refine lv_aload_n hx hb dX10_lookers_54 rfl (lv_at hl 4 rfl) ?_
          have hPc := hP.sb (ws2 := [(jM, .inr (10, [.int 0, .ref m1, .ref m2, .ref m3, .ref m4, lv5, .int (nI (ml)), .int (nI (mkl)), .int (nI (mku)), lv9, lv10, lv11, lv12, lv13, lv14, lv15, lv16, lv17, lv18, .ref m19, .ref m20, .ref m21, .ref m22, .ref m23, .ref m24, .ref m25, .int (nI (mps)), .int (nI (mkw)), .ref m28, .ref m29, .ref m30, .ref m31, .ref m32, .ref m33, .ref m34, .ref m35, .ref m36, .int ltr, .int (nI (lho)), .long lxx, .ref m40, .ref m41, .ref m42, .ref m43, .ref m44, .int (nI (mkn)), .ref m46, .ref m47, .ref m48, .ref m49, .ref m50, .int (nI (mka))])), (m1, .inl (mc1, 120, .inl mf1)), (m2, .inl (mc2, 1680, .inl mf2)), (m3, .inl (mc3, 14, .inl mf3)), (m4, .inl (mc4, 128, .inl l4)), (m19, .inl (mc19, 10, .inl mf19)), (m20, .inl (mc20, 10, .inl mf20)), (m21, .inl (mc21, 10, .inl mf21)), (m22, .inl (mc22, 10, .inl mf22)), (m23, .inl (mc23, 10, .inl mf23)), (m24, .inl (mc24, 4, .inl mf24)), (m25, .inl (mc25, 10, .inl mf25)), (m28, .inl (mc28, 10, .inl l28)), (m29, .inl (mc29, 10, .inl l29)), (m30, .inl (mc30, 10, .inl l30)), (m31, .inl (mc31, 10, .inl l31)), (m32, .inl (mc32, 10, .inl l32)), (m33, .inl (mc33, 10, .inl l33)), (m34, .inl (mc34, 10, .inl l34)), (m35, .inl (mc35, 10, .inl l35)), (m36, .inl (mc36, 10, .inl l36)), (m40, .inl (mc40, 20, .inl mf40)), (m41, .inl (mc41, 20, .inl mf41)), (m42, .inl (mc42, 20, .inl mf42)), (m43, .inl (mc43, 20, .inl mf43)), (m44, .inl (mc44, 20, .inl mf44)), (m46, .inl (mc46, 14, .inr (.inl mf46))), (m47, .inl (mc47, 6, .inl mf47)), (m48, .inl (mc48, 6, .inl mf48)), (m49, .inl (mc49, 6, .inl mf49)), (m50, .inl (mc50, 6, .inl mf50))]) [0, 1, 2, 3, 4, 5, 6, 7, 8, 9, 10, 11, 12, 13, 14, 15, 16, 17, 18, 19, 20, 21, 22, 23, 24, 25, 26, 27, 28, 29, 30] rfl
          have hKc := hK.sb (tys2 := [(mc1, .byte), (mc2, .byte), (mc3, .int), (mc4, .int), (mc19, .int), (mc20, .int), (mc21, .int), (mc22, .int), (mc23, .int), (mc24, .int), (mc25, .boolean), (mc28, .int), (mc29, .int), (mc30, .int), (mc31, .int), (mc32, .int), (mc33, .int), (mc34, .int), (mc35, .int), (mc36, .int), (mc40, .int), (mc41, .int), (mc42, .int), (mc43, .int), (mc44, .int), (mc46, .long), (mc47, .int), (mc48, .int), (mc49, .int), (mc50, .int)]) [0, 1, 2, 3, 4, 5, 6, 7, 8, 9, 10, 11, 12, 13, 14, 15, 16, 17, 18, 19, 20, 21, 22, 23, 24, 25, 26, 27, 28, 29] rfl
          refine vp_callSi (va_runV (As := []) (rest := [.int (nI (i))]) ⟨hx, hb, hml, hown, hts⟩ (s_allSent10x l dC dI jM 0 ltr lxx (lv5 : Value) (lv9 : Value) (lv10 : Value) (lv11 : Value) (lv12 : Value) (lv13 : Value) (lv14 : Value) (lv15 : Value) (lv16 : Value) (lv17 : Value) (lv18 : Value) m1 m2 m3 m4 m19 m20 m21 m22 m23 m24 m25 m28 m29 m30 m31 m32 m33 m34 m35 m36 m40 m41 m42 m43 m44 m46 m47 m48 m49 m50 mc1 mc2 mc3 mc4 mc19 mc20 mc21 mc22 mc23 mc24 mc25 mc28 mc29 mc30 mc31 mc32 mc33 mc34 mc35 mc36 mc40 mc41 mc42 mc43 mc44 mc46 mc47 mc48 mc49 mc50 mf1 mf2 mf3 l4 mf19 mf20 mf21 mf22 mf23 mf24 mf25 l28 l29 l30 l31 l32 l33 l34 l35 l36 mf40 mf41 mf42 mf43 mf44 mf46 mf47 mf48 mf49 mf50 ml mkl mku mps mkw lho mkn mka bd_1 hmkl hmku hmps hmkw bd_36 hmkn hmka SV hSV (fun j hj => (hTd.1 j hj).2.2.2.2) hTd.2.2) (cwV 0 hts (kG (List.forall_mem_cons.mpr ⟨(List.mem_cons_of_mem _ (List.mem_append_left _ (List.mem_of_getElem? (i := 16) rfl))), (List.forall_mem_cons.mpr ⟨(List.mem_cons_of_mem _ (List.mem_append_left _ (List.mem_of_getElem? (i := 15) rfl))), (List.forall_mem_cons.mpr ⟨(List.mem_cons_of_mem _ (List.mem_append_left _ (List.mem_of_getElem? (i := 14) rfl))), (List.forall_mem_cons.mpr ⟨(List.mem_cons_of_mem _ (List.mem_append_left _ (List.mem_of_getElem? (i := 1) rfl))), (fun _ h => absurd h List.not_mem_nil)⟩)⟩)⟩)⟩) (kGV _ _ _ _) (fun _ h => List.mem_cons_of_mem _ (List.mem_append_right _ (List.mem_append_right _ (List.mem_append_right _ (List.mem_append_right _ (List.mem_append_right _ (List.mem_append_right _ (List.mem_append_left _ h)))))))) gw_s_allSent10x) rfl rfl rfl ⟨rfl, hd_X10_allSent⟩ ⟨(Nat.le_of_ble_eq_true rfl), (Nat.le_of_ble_eq_true rfl)⟩) (kR_V kT_blind kT_give (va_recv hKc hPc (ci := 10) (q0 := 0) rfl rfl) hPc hKc) rfl rfl hl.1 rfl (lv_room (Nat.le_of_ble_eq_true rfl)) dX10_lookers_55 ⟨(Nat.le_of_ble_eq_true rfl), (Nat.le_of_ble_eq_true rfl)⟩).run (fun r_52 hw => ?_)
          obtain rfl : r_52 = nI (SV) := hw
          refine lv_iconst (v := (-1)) hx hb dX10_lookers_58 kc_i_m1 ?_
          refine lv_ixor hx hb dX10_lookers_59 ?_
          refine lv_topi (fun x_53 ex_53 => ?_)
          refine lv_iand hx hb dX10_lookers_60 ?_
          refine lv_topi (fun x_54 ex_54 => ?_)
          refine lv_if_ne (tgt := 104) hx hb dX10_lookers_61 kc_t_61_43 (fun c_55 => ?_) (fun c_55 => ?_)
          · refine lv_iinc (v := nI (i + 1)) hx hb dX10_lookers_104 hl (k := 1) rfl (kInc _ 1) kc_l_6_8 (kTo [(6, .int (nI (i + 1))), (7, .int x_51), (5, .int (nI (b9))), (4, .int r_8), (0, .ref jM), (1, .int (nI (j_6))), (2, .long p1)]) (fun ls hl => ?_)
            refine lv_goto (tgt := 30) hx hb dX10_lookers_107 kc_t_107_m77 ?_
            exact ih_k_35 (i + 1) b9 l4 l28 l29 l30 l31 l32 l33 l34 l35 l36 (lv5 : Value) (lv9 : Value) (lv10 : Value) (lv11 : Value) (lv12 : Value) (lv13 : Value) (lv14 : Value) (lv15 : Value) (lv16 : Value) (lv17 : Value) (lv18 : Value) lho lxx ltr (by omega) (by omega) (kLkRN ivk_35_2 (fun z => c_55 (by rw [ex_54, ex_53]; exact (kLkP_t.mp z.1).1))) (by omega) (by omega) _ _ hP hD hS ls (lv_sub hl [0, 2, 3, 4, 5, 6] rfl) (by omega)
          · have hsb9 : nI (i) &&& (nI (SV) ^^^ (-1)) = 0 := by rw [ex_54, ex_53] at c_55; exact c_55
            refine lv_iload hx hb dX10_lookers_64 (lv_at hl 0 rfl) ?_
            refine lv_if_lt (tgt := 104) hx hb dX10_lookers_66 kc_t_66_38 (fun c_56 => ?_) (fun c_56 => ?_)
            · refine lv_iinc (v := nI (i + 1)) hx hb dX10_lookers_104 hl (k := 1) rfl (kInc _ 1) kc_l_6_8 (kTo [(6, .int (nI (i + 1))), (7, .int x_51), (5, .int (nI (b9))), (4, .int r_8), (0, .ref jM), (1, .int (nI (j_6))), (2, .long p1)]) (fun ls hl => ?_)
              refine lv_goto (tgt := 30) hx hb dX10_lookers_107 kc_t_107_m77 ?_
              exact ih_k_35 (i + 1) b9 l4 l28 l29 l30 l31 l32 l33 l34 l35 l36 (lv5 : Value) (lv9 : Value) (lv10 : Value) (lv11 : Value) (lv12 : Value) (lv13 : Value) (lv14 : Value) (lv15 : Value) (lv16 : Value) (lv17 : Value) (lv18 : Value) lho lxx ltr (by omega) (by omega) (kLkRN ivk_35_2 (fun z => by have h7 := hsu9.1.mp (by rw [← ex_51]; exact c_56); rcases z.2 with y | y; omega; omega)) (by omega) (by omega) _ _ hP hD hS ls (lv_sub hl [0, 2, 3, 4, 5, 6] rfl) (by omega)
            · have hge9 : ¬ kPc i < kPc b9 := fun z => by have h8 := hsu9.1.mpr z; rw [← ex_51] at h8; exact c_56 h8
              refine lv_iload hx hb dX10_lookers_69 (lv_at hl 0 rfl) ?_
              refine lv_if_ne (tgt := 87) hx hb dX10_lookers_71 kc_t_71_16 (fun c_57 => ?_) (fun c_57 => ?_)
              · have hne9 : ¬ kPc i = kPc b9 := fun z => c_57 (by rw [ex_51]; exact hsu9.2.mpr z)
                have hor9 : kPc b9 < kPc i ∨ (kPc i = kPc b9 ∧ kLw i b9 = true) := Or.inl (by omega)
                refine lv_aload_n hx hb dX10_lookers_87 rfl (lv_at hl 4 rfl) ?_
                refine lv_iload_n hx hb dX10_lookers_88 rfl (lv_at hl 5 rfl) ?_
                refine lv_lload_n hx hb dX10_lookers_89 rfl (lv_at hl 6 rfl) ?_
                refine lv_iload hx hb dX10_lookers_90 (lv_at hl 1 rfl) ?_
                have hCu := kCut (wc := [(jM, .inr (10, [.int 0, .ref m1, .ref m2, .ref m3, .ref m4, lv5, .int (nI (ml)), .int (nI (mkl)), .int (nI (mku)), lv9, lv10, lv11, lv12, lv13, lv14, lv15, lv16, lv17, lv18, .ref m19, .ref m20, .ref m21, .ref m22, .ref m23, .ref m24, .ref m25, .int (nI (mps)), .int (nI (mkw)), .ref m28, .ref m29, .ref m30, .ref m31, .ref m32, .ref m33, .ref m34, .ref m35, .ref m36, .int ltr, .int (nI (lho)), .long lxx, .ref m40, .ref m41, .ref m42, .ref m43, .ref m44, .int (nI (mkn)), .ref m46, .ref m47, .ref m48, .ref m49, .ref m50, .int (nI (mka))])), (m1, .inl (mc1, 120, .inl mf1)), (m2, .inl (mc2, 1680, .inl mf2)), (m3, .inl (mc3, 14, .inl mf3)), (m4, .inl (mc4, 128, .inl l4)), (m19, .inl (mc19, 10, .inl mf19)), (m20, .inl (mc20, 10, .inl mf20)), (m21, .inl (mc21, 10, .inl mf21)), (m22, .inl (mc22, 10, .inl mf22)), (m23, .inl (mc23, 10, .inl mf23)), (m24, .inl (mc24, 4, .inl mf24)), (m25, .inl (mc25, 10, .inl mf25)), (m28, .inl (mc28, 10, .inl l28)), (m29, .inl (mc29, 10, .inl l29)), (m30, .inl (mc30, 10, .inl l30)), (m31, .inl (mc31, 10, .inl l31)), (m32, .inl (mc32, 10, .inl l32)), (m33, .inl (mc33, 10, .inl l33)), (m34, .inl (mc34, 10, .inl l34)), (m35, .inl (mc35, 10, .inl l35)), (m36, .inl (mc36, 10, .inl l36)), (m40, .inl (mc40, 20, .inl mf40)), (m41, .inl (mc41, 20, .inl mf41)), (m42, .inl (mc42, 20, .inl mf42)), (m43, .inl (mc43, 20, .inl mf43)), (m44, .inl (mc44, 20, .inl mf44)), (m46, .inl (mc46, 14, .inr (.inl mf46))), (m47, .inl (mc47, 6, .inl mf47)), (m48, .inl (mc48, 6, .inl mf48)), (m49, .inl (mc49, 6, .inl mf49)), (m50, .inl (mc50, 6, .inl mf50))]) hP hD hS hA [0, 1, 2, 3, 4, 5, 6, 7, 8, 9, 10, 11, 12, 13, 14, 15, 16, 17, 18, 19, 20, 21, 22, 23, 24, 25, 26, 27, 28, 29, 30] rfl kc_nd_772 rfl
                have hPc := hCu.1
                have hDc := hCu.2.1
                have hFc := hCu.2.2
                have hKc := hK.sb (tys2 := [(mc1, .byte), (mc2, .byte), (mc3, .int), (mc4, .int), (mc19, .int), (mc20, .int), (mc21, .int), (mc22, .int), (mc23, .int), (mc24, .int), (mc25, .boolean), (mc28, .int), (mc29, .int), (mc30, .int), (mc31, .int), (mc32, .int), (mc33, .int), (mc34, .int), (mc35, .int), (mc36, .int), (mc40, .int), (mc41, .int), (mc42, .int), (mc43, .int), (mc44, .int), (mc46, .long), (mc47, .int), (mc48, .int), (mc49, .int), (mc50, .int)]) [0, 1, 2, 3, 4, 5, 6, 7, 8, 9, 10, 11, 12, 13, 14, 15, 16, 17, 18, 19, 20, 21, 22, 23, 24, 25, 26, 27, 28, 29] rfl
                refine va_calli (va_runV (As := [.int (nI (j_6)), .long p1, .int (nI (i))]) (rest := []) ⟨hx, hb, hml, hown, hts⟩ (s_holders10x l dC dI jM 0 ltr lxx (lv5 : Value) (lv9 : Value) (lv10 : Value) (lv11 : Value) (lv12 : Value) (lv13 : Value) (lv14 : Value) (lv15 : Value) (lv16 : Value) (lv17 : Value) (lv18 : Value) m1 m2 m3 m4 m19 m20 m21 m22 m23 m24 m25 m28 m29 m30 m31 m32 m33 m34 m35 m36 m40 m41 m42 m43 m44 m46 m47 m48 m49 m50 mc1 mc2 mc3 mc4 mc19 mc20 mc21 mc22 mc23 mc24 mc25 mc28 mc29 mc30 mc31 mc32 mc33 mc34 mc35 mc36 mc40 mc41 mc42 mc43 mc44 mc46 mc47 mc48 mc49 mc50 mf1 mf2 mf3 l4 mf19 mf20 mf21 mf22 mf23 mf24 mf25 l28 l29 l30 l31 l32 l33 l34 l35 l36 mf40 mf41 mf42 mf43 mf44 mf46 mf47 mf48 mf49 mf50 ml mkl mku mps mkw lho mkn mka bd_1 hmkl hmku hmps hmkw bd_36 hmkn hmka ad bA nA xA hnA bB nB xB hnB bE nE xE hnE bG nG xG hnG gnA gnB gnE gnG hzA hzB hzE hzG hlB hlG yL yU hUl hUt hE9 hG9 G0 G1 G2 G3 G4 SV hTd hOk0 hA9 hB9 hSV j_6 bd_7 p1 (nI (i)) (nI (i) ^^^ (-1)) (kThere (by omega) hTd.2.2 (kSub_b (by omega) (by omega) hsb9)) H.size) (cwV 3 hts (kG (List.forall_mem_cons.mpr ⟨(List.mem_cons_of_mem _ (List.mem_append_left _ (List.mem_of_getElem? (i := 7) rfl))), (List.forall_mem_cons.mpr ⟨(List.mem_cons_of_mem _ (List.mem_append_left _ (List.mem_of_getElem? (i := 6) rfl))), (List.forall_mem_cons.mpr ⟨(List.mem_cons_of_mem _ (List.mem_append_left _ (List.mem_of_getElem? (i := 5) rfl))), (List.forall_mem_cons.mpr ⟨(List.mem_cons_of_mem _ (List.mem_append_left _ (List.mem_of_getElem? (i := 1) rfl))), (fun _ h => absurd h List.not_mem_nil)⟩)⟩)⟩)⟩) (kGV _ _ _ _) (fun _ h => List.mem_cons_of_mem _ (List.mem_append_right _ (List.mem_append_right _ (List.mem_append_right _ (List.mem_append_left _ h))))) gw_s_holders10x) rfl rfl rfl ⟨rfl, hd_X10_holders⟩ ⟨(Nat.le_of_ble_eq_true rfl), (Nat.le_of_ble_eq_true rfl)⟩) (kW_V kMx_blind (kMx_give hX hS hFc) (va_recv hKc hPc (ci := 10) (q0 := 0) rfl rfl) hPc hKc hDc) rfl rfl hl.1 rfl (lv_room (Nat.le_of_ble_eq_true rfl)) dX10_lookers_92 ⟨(Nat.le_of_ble_eq_true rfl), (Nat.le_of_ble_eq_true rfl)⟩) hS (fun q _ h => hFc q h) hFc (fun r_58 => kU24 (fun S4_59 S28_60 S29_61 S30_62 S31_63 S32_64 S33_65 S34_66 S35_67 S36_68 Th_69 Ho_70 Xx_71 W5_72 W9_73 W10_74 W11_75 W12_76 W13_77 W14_78 W15_79 W16_80 W17_81 W18_82 t H_83 locs ht hvm hw hB hz1 hk1 hS => ?_))
                try dsimp only at hw
                have hPD : kPD dC dI A [(jM, .inr (10, [.int 0, .ref m1, .ref m2, .ref m3, .ref m4, W5_72, .int (nI (ml)), .int (nI (mkl)), .int (nI (mku)), W9_73, W10_74, W11_75, W12_76, W13_77, W14_78, W15_79, W16_80, W17_81, W18_82, .ref m19, .ref m20, .ref m21, .ref m22, .ref m23, .ref m24, .ref m25, .int (nI (mps)), .int (nI (mkw)), .ref m28, .ref m29, .ref m30, .ref m31, .ref m32, .ref m33, .ref m34, .ref m35, .ref m36, .int Th_69, .int (nI (Ho_70)), .long Xx_71, .ref m40, .ref m41, .ref m42, .ref m43, .ref m44, .int (nI (mkn)), .ref m46, .ref m47, .ref m48, .ref m49, .ref m50, .int (nI (mka))])), (m1, .inl (mc1, 120, .inl mf1)), (m2, .inl (mc2, 1680, .inl mf2)), (m3, .inl (mc3, 14, .inl mf3)), (m4, .inl (mc4, 128, .inl S4_59)), (m19, .inl (mc19, 10, .inl mf19)), (m20, .inl (mc20, 10, .inl mf20)), (m21, .inl (mc21, 10, .inl mf21)), (m22, .inl (mc22, 10, .inl mf22)), (m23, .inl (mc23, 10, .inl mf23)), (m24, .inl (mc24, 4, .inl mf24)), (m25, .inl (mc25, 10, .inl mf25)), (m28, .inl (mc28, 10, .inl S28_60)), (m29, .inl (mc29, 10, .inl S29_61)), (m30, .inl (mc30, 10, .inl S30_62)), (m31, .inl (mc31, 10, .inl S31_63)), (m32, .inl (mc32, 10, .inl S32_64)), (m33, .inl (mc33, 10, .inl S33_65)), (m34, .inl (mc34, 10, .inl S34_66)), (m35, .inl (mc35, 10, .inl S35_67)), (m36, .inl (mc36, 10, .inl S36_68)), (m40, .inl (mc40, 20, .inl mf40)), (m41, .inl (mc41, 20, .inl mf41)), (m42, .inl (mc42, 20, .inl mf42)), (m43, .inl (mc43, 20, .inl mf43)), (m44, .inl (mc44, 20, .inl mf44)), (m46, .inl (mc46, 14, .inr (.inl mf46))), (m47, .inl (mc47, 6, .inl mf47)), (m48, .inl (mc48, 6, .inl mf48)), (m49, .inl (mc49, 6, .inl mf49)), (m50, .inl (mc50, 6, .inl mf50))] H_83 := kJoinX hP hD [0, 1, 2, 3, 4, 5, 6, 7, 8, 9, 10, 11, 12, 13, 14, 15, 16, 17, 18, 19, 20, 21, 22, 23, 24, 25, 26, 27, 28, 29, 30] rfl hk1 hFc hB.1 ht hB.2.2 rfl [some 0, some 1, some 2, some 3, some 4, some 5, some 6, some 7, some 8, some 9, some 10, some 11, some 12, some 13, some 14, some 15, some 16, some 17, some 18, some 19, some 20, some 21, some 22, some 23, some 24, some 25, some 26, some 27, some 28, some 29, some 30] rfl rfl
                obtain ⟨hP, hD⟩ := hPD
                have hw_84 := hw
                have hw_84_0 := hw_84.2
                refine lv_iload hx hb dX10_lookers_95 (lv_at hl 3 rfl) ?_
                refine lv_icmp_ne (tgt := 104) hx hb dX10_lookers_97 kc_t_97_7 (fun c_85 => ?_) (fun c_85 => ?_)
                · refine lv_iinc (v := nI (i + 1)) hx hb dX10_lookers_104 hl (k := 1) rfl (kInc _ 1) kc_l_6_8 (kTo [(6, .int (nI (i + 1))), (7, .int x_51), (5, .int (nI (b9))), (4, .int r_8), (0, .ref jM), (1, .int (nI (j_6))), (2, .long p1)]) (fun ls hl => ?_)
                  refine lv_goto (tgt := 30) hx hb dX10_lookers_107 kc_t_107_m77 ?_
                  exact ih_k_35 (i + 1) b9 S4_59 S28_60 S29_61 S30_62 S31_63 S32_64 S33_65 S34_66 S35_67 S36_68 (W5_72 : Value) (W9_73 : Value) (W10_74 : Value) (W11_75 : Value) (W12_76 : Value) (W13_77 : Value) (W14_78 : Value) (W15_79 : Value) (W16_80 : Value) (W17_81 : Value) (W18_82 : Value) Ho_70 Xx_71 Th_69 (by omega) (by omega) (kLkRN ivk_35_2 (fun z => c_85 (hw_84.1.trans ((kLkP_t.mp z.1).2.trans hpl9.symm)))) (by omega) (by omega) _ _ hP hD hS ls (lv_sub hl [0, 2, 3, 4, 5, 6] rfl) (by omega)
                · refine lv_iload hx hb dX10_lookers_100 (lv_at hl 1 rfl) ?_
                  refine lv_istore hx hb dX10_lookers_102 hl kc_l_5_8 (kTo [(5, .int (nI (i))), (7, .int x_51), (6, .int (nI (i))), (4, .int r_8), (0, .ref jM), (1, .int (nI (j_6))), (2, .long p1)]) (fun ls hl => ?_)
                  refine lv_iinc (v := nI (i + 1)) hx hb dX10_lookers_104 hl (k := 2) rfl (kInc _ 1) kc_l_6_8 (kTo [(6, .int (nI (i + 1))), (5, .int (nI (i))), (7, .int x_51), (4, .int r_8), (0, .ref jM), (1, .int (nI (j_6))), (2, .long p1)]) (fun ls hl => ?_)
                  refine lv_goto (tgt := 30) hx hb dX10_lookers_107 kc_t_107_m77 ?_
                  exact ih_k_35 (i + 1) i S4_59 S28_60 S29_61 S30_62 S31_63 S32_64 S33_65 S34_66 S35_67 S36_68 (W5_72 : Value) (W9_73 : Value) (W10_74 : Value) (W11_75 : Value) (W12_76 : Value) (W13_77 : Value) (W14_78 : Value) (W15_79 : Value) (W16_80 : Value) (W17_81 : Value) (W18_82 : Value) Ho_70 Xx_71 Th_69 (by omega) (by omega) (kLkRU (by omega) ivk_35_2 (kLkP_t.mpr ⟨hsb9, hw_84.1.symm.trans (c_85.trans hpl9)⟩) hor9) (by omega) (by omega) _ _ hP hD hS ls (lv_sub hl [0, 1, 3, 4, 5, 6] rfl) (by omega)
              · have heq9 : kPc i = kPc b9 := hsu9.2.mp (by rw [← ex_51]; exact c_57)
                refine lv_iload hx hb dX10_lookers_74 (lv_at hl 1 rfl) ?_
                refine lv_iload hx hb dX10_lookers_76 (lv_at hl 2 rfl) ?_
                have hPc := hP.sb (ws2 := []) [] rfl
                have hKc := hK.sb (tys2 := []) [] rfl
                refine vp_callSi (va_runS (As := [.int (nI (i)), .int (nI (b9))]) (rest := []) ⟨hx, hb, hml, hown, hts⟩ (s_lower10x l dC dI (nI (i)) (nI (b9))) (va_cwS 2 hts (kG (List.forall_mem_cons.mpr ⟨(List.mem_cons_of_mem _ (List.mem_append_left _ (List.mem_of_getElem? (i := 18) rfl))), (List.forall_mem_cons.mpr ⟨(List.mem_cons_of_mem _ (List.mem_append_left _ (List.mem_of_getElem? (i := 17) rfl))), (List.forall_mem_cons.mpr ⟨(List.mem_cons_of_mem _ (List.mem_append_left _ (List.mem_of_getElem? (i := 1) rfl))), (fun _ h => absurd h List.not_mem_nil)⟩)⟩)⟩) (kGS _ _ _) (fun _ h => List.mem_cons_of_mem _ (List.mem_append_right _ (List.mem_append_right _ (List.mem_append_right _ (List.mem_append_right _ (List.mem_append_right _ (List.mem_append_right _ (List.mem_append_right _ h)))))))) gw_s_lower10x) rfl rfl rfl hd_X10_isLower ⟨(Nat.le_of_ble_eq_true rfl), (Nat.le_of_ble_eq_true rfl)⟩) (kR_S kT_blind kT_give hPc hKc) rfl rfl hl.1 rfl (lv_room (Nat.le_of_ble_eq_true rfl)) dX10_lookers_78 ⟨(Nat.le_of_ble_eq_true rfl), (Nat.le_of_ble_eq_true rfl)⟩).run (fun r_86 hw => ?_)
                have hw_87 := hw
                refine lv_if_ne (tgt := 87) hx hb dX10_lookers_81 kc_t_81_6 (fun c_88 => ?_) (fun c_88 => ?_)
                · have ff_89 := kNzr hw_87 c_88
                  have hor9 : kPc b9 < kPc i ∨ (kPc i = kPc b9 ∧ kLw i b9 = true) := Or.inr ⟨heq9, decide_eq_true (fun z => c_88 (hw_87.trans z))⟩
                  refine lv_aload_n hx hb dX10_lookers_87 rfl (lv_at hl 4 rfl) ?_
                  refine lv_iload_n hx hb dX10_lookers_88 rfl (lv_at hl 5 rfl) ?_
                  refine lv_lload_n hx hb dX10_lookers_89 rfl (lv_at hl 6 rfl) ?_
                  refine lv_iload hx hb dX10_lookers_90 (lv_at hl 1 rfl) ?_
                  have hCu := kCut (wc := [(jM, .inr (10, [.int 0, .ref m1, .ref m2, .ref m3, .ref m4, lv5, .int (nI (ml)), .int (nI (mkl)), .int (nI (mku)), lv9, lv10, lv11, lv12, lv13, lv14, lv15, lv16, lv17, lv18, .ref m19, .ref m20, .ref m21, .ref m22, .ref m23, .ref m24, .ref m25, .int (nI (mps)), .int (nI (mkw)), .ref m28, .ref m29, .ref m30, .ref m31, .ref m32, .ref m33, .ref m34, .ref m35, .ref m36, .int ltr, .int (nI (lho)), .long lxx, .ref m40, .ref m41, .ref m42, .ref m43, .ref m44, .int (nI (mkn)), .ref m46, .ref m47, .ref m48, .ref m49, .ref m50, .int (nI (mka))])), (m1, .inl (mc1, 120, .inl mf1)), (m2, .inl (mc2, 1680, .inl mf2)), (m3, .inl (mc3, 14, .inl mf3)), (m4, .inl (mc4, 128, .inl l4)), (m19, .inl (mc19, 10, .inl mf19)), (m20, .inl (mc20, 10, .inl mf20)), (m21, .inl (mc21, 10, .inl mf21)), (m22, .inl (mc22, 10, .inl mf22)), (m23, .inl (mc23, 10, .inl mf23)), (m24, .inl (mc24, 4, .inl mf24)), (m25, .inl (mc25, 10, .inl mf25)), (m28, .inl (mc28, 10, .inl l28)), (m29, .inl (mc29, 10, .inl l29)), (m30, .inl (mc30, 10, .inl l30)), (m31, .inl (mc31, 10, .inl l31)), (m32, .inl (mc32, 10, .inl l32)), (m33, .inl (mc33, 10, .inl l33)), (m34, .inl (mc34, 10, .inl l34)), (m35, .inl (mc35, 10, .inl l35)), (m36, .inl (mc36, 10, .inl l36)), (m40, .inl (mc40, 20, .inl mf40)), (m41, .inl (mc41, 20, .inl mf41)), (m42, .inl (mc42, 20, .inl mf42)), (m43, .inl (mc43, 20, .inl mf43)), (m44, .inl (mc44, 20, .inl mf44)), (m46, .inl (mc46, 14, .inr (.inl mf46))), (m47, .inl (mc47, 6, .inl mf47)), (m48, .inl (mc48, 6, .inl mf48)), (m49, .inl (mc49, 6, .inl mf49)), (m50, .inl (mc50, 6, .inl mf50))]) hP hD hS hA [0, 1, 2, 3, 4, 5, 6, 7, 8, 9, 10, 11, 12, 13, 14, 15, 16, 17, 18, 19, 20, 21, 22, 23, 24, 25, 26, 27, 28, 29, 30] rfl kc_nd_772 rfl
                  have hPc := hCu.1
                  have hDc := hCu.2.1
                  have hFc := hCu.2.2
                  have hKc := hK.sb (tys2 := [(mc1, .byte), (mc2, .byte), (mc3, .int), (mc4, .int), (mc19, .int), (mc20, .int), (mc21, .int), (mc22, .int), (mc23, .int), (mc24, .int), (mc25, .boolean), (mc28, .int), (mc29, .int), (mc30, .int), (mc31, .int), (mc32, .int), (mc33, .int), (mc34, .int), (mc35, .int), (mc36, .int), (mc40, .int), (mc41, .int), (mc42, .int), (mc43, .int), (mc44, .int), (mc46, .long), (mc47, .int), (mc48, .int), (mc49, .int), (mc50, .int)]) [0, 1, 2, 3, 4, 5, 6, 7, 8, 9, 10, 11, 12, 13, 14, 15, 16, 17, 18, 19, 20, 21, 22, 23, 24, 25, 26, 27, 28, 29] rfl
                  refine va_calli (va_runV (As := [.int (nI (j_6)), .long p1, .int (nI (i))]) (rest := []) ⟨hx, hb, hml, hown, hts⟩ (s_holders10x l dC dI jM 0 ltr lxx (lv5 : Value) (lv9 : Value) (lv10 : Value) (lv11 : Value) (lv12 : Value) (lv13 : Value) (lv14 : Value) (lv15 : Value) (lv16 : Value) (lv17 : Value) (lv18 : Value) m1 m2 m3 m4 m19 m20 m21 m22 m23 m24 m25 m28 m29 m30 m31 m32 m33 m34 m35 m36 m40 m41 m42 m43 m44 m46 m47 m48 m49 m50 mc1 mc2 mc3 mc4 mc19 mc20 mc21 mc22 mc23 mc24 mc25 mc28 mc29 mc30 mc31 mc32 mc33 mc34 mc35 mc36 mc40 mc41 mc42 mc43 mc44 mc46 mc47 mc48 mc49 mc50 mf1 mf2 mf3 l4 mf19 mf20 mf21 mf22 mf23 mf24 mf25 l28 l29 l30 l31 l32 l33 l34 l35 l36 mf40 mf41 mf42 mf43 mf44 mf46 mf47 mf48 mf49 mf50 ml mkl mku mps mkw lho mkn mka bd_1 hmkl hmku hmps hmkw bd_36 hmkn hmka ad bA nA xA hnA bB nB xB hnB bE nE xE hnE bG nG xG hnG gnA gnB gnE gnG hzA hzB hzE hzG hlB hlG yL yU hUl hUt hE9 hG9 G0 G1 G2 G3 G4 SV hTd hOk0 hA9 hB9 hSV j_6 bd_7 p1 (nI (i)) (nI (i) ^^^ (-1)) (kThere (by omega) hTd.2.2 (kSub_b (by omega) (by omega) hsb9)) H.size) (cwV 3 hts (kG (List.forall_mem_cons.mpr ⟨(List.mem_cons_of_mem _ (List.mem_append_left _ (List.mem_of_getElem? (i := 7) rfl))), (List.forall_mem_cons.mpr ⟨(List.mem_cons_of_mem _ (List.mem_append_left _ (List.mem_of_getElem? (i := 6) rfl))), (List.forall_mem_cons.mpr ⟨(List.mem_cons_of_mem _ (List.mem_append_left _ (List.mem_of_getElem? (i := 5) rfl))), (List.forall_mem_cons.mpr ⟨(List.mem_cons_of_mem _ (List.mem_append_left _ (List.mem_of_getElem? (i := 1) rfl))), (fun _ h => absurd h List.not_mem_nil)⟩)⟩)⟩)⟩) (kGV _ _ _ _) (fun _ h => List.mem_cons_of_mem _ (List.mem_append_right _ (List.mem_append_right _ (List.mem_append_right _ (List.mem_append_left _ h))))) gw_s_holders10x) rfl rfl rfl ⟨rfl, hd_X10_holders⟩ ⟨(Nat.le_of_ble_eq_true rfl), (Nat.le_of_ble_eq_true rfl)⟩) (kW_V kMx_blind (kMx_give hX hS hFc) (va_recv hKc hPc (ci := 10) (q0 := 0) rfl rfl) hPc hKc hDc) rfl rfl hl.1 rfl (lv_room (Nat.le_of_ble_eq_true rfl)) dX10_lookers_92 ⟨(Nat.le_of_ble_eq_true rfl), (Nat.le_of_ble_eq_true rfl)⟩) hS (fun q _ h => hFc q h) hFc (fun r_90 => kU24 (fun S4_91 S28_92 S29_93 S30_94 S31_95 S32_96 S33_97 S34_98 S35_99 S36_100 Th_101 Ho_102 Xx_103 W5_104 W9_105 W10_106 W11_107 W12_108 W13_109 W14_110 W15_111 W16_112 W17_113 W18_114 t H_115 locs ht hvm hw hB hz1 hk1 hS => ?_))
                  try dsimp only at hw
                  have hPD : kPD dC dI A [(jM, .inr (10, [.int 0, .ref m1, .ref m2, .ref m3, .ref m4, W5_104, .int (nI (ml)), .int (nI (mkl)), .int (nI (mku)), W9_105, W10_106, W11_107, W12_108, W13_109, W14_110, W15_111, W16_112, W17_113, W18_114, .ref m19, .ref m20, .ref m21, .ref m22, .ref m23, .ref m24, .ref m25, .int (nI (mps)), .int (nI (mkw)), .ref m28, .ref m29, .ref m30, .ref m31, .ref m32, .ref m33, .ref m34, .ref m35, .ref m36, .int Th_101, .int (nI (Ho_102)), .long Xx_103, .ref m40, .ref m41, .ref m42, .ref m43, .ref m44, .int (nI (mkn)), .ref m46, .ref m47, .ref m48, .ref m49, .ref m50, .int (nI (mka))])), (m1, .inl (mc1, 120, .inl mf1)), (m2, .inl (mc2, 1680, .inl mf2)), (m3, .inl (mc3, 14, .inl mf3)), (m4, .inl (mc4, 128, .inl S4_91)), (m19, .inl (mc19, 10, .inl mf19)), (m20, .inl (mc20, 10, .inl mf20)), (m21, .inl (mc21, 10, .inl mf21)), (m22, .inl (mc22, 10, .inl mf22)), (m23, .inl (mc23, 10, .inl mf23)), (m24, .inl (mc24, 4, .inl mf24)), (m25, .inl (mc25, 10, .inl mf25)), (m28, .inl (mc28, 10, .inl S28_92)), (m29, .inl (mc29, 10, .inl S29_93)), (m30, .inl (mc30, 10, .inl S30_94)), (m31, .inl (mc31, 10, .inl S31_95)), (m32, .inl (mc32, 10, .inl S32_96)), (m33, .inl (mc33, 10, .inl S33_97)), (m34, .inl (mc34, 10, .inl S34_98)), (m35, .inl (mc35, 10, .inl S35_99)), (m36, .inl (mc36, 10, .inl S36_100)), (m40, .inl (mc40, 20, .inl mf40)), (m41, .inl (mc41, 20, .inl mf41)), (m42, .inl (mc42, 20, .inl mf42)), (m43, .inl (mc43, 20, .inl mf43)), (m44, .inl (mc44, 20, .inl mf44)), (m46, .inl (mc46, 14, .inr (.inl mf46))), (m47, .inl (mc47, 6, .inl mf47)), (m48, .inl (mc48, 6, .inl mf48)), (m49, .inl (mc49, 6, .inl mf49)), (m50, .inl (mc50, 6, .inl mf50))] H_115 := kJoinX hP hD [0, 1, 2, 3, 4, 5, 6, 7, 8, 9, 10, 11, 12, 13, 14, 15, 16, 17, 18, 19, 20, 21, 22, 23, 24, 25, 26, 27, 28, 29, 30] rfl hk1 hFc hB.1 ht hB.2.2 rfl [some 0, some 1, some 2, some 3, some 4, some 5, some 6, some 7, some 8, some 9, some 10, some 11, some 12, some 13, some 14, some 15, some 16, some 17, some 18, some 19, some 20, some 21, some 22, some 23, some 24, some 25, some 26, some 27, some 28, some 29, some 30] rfl rfl
                  obtain ⟨hP, hD⟩ := hPD
                  have hw_116 := hw
                  have hw_116_0 := hw_116.2
                  refine lv_iload hx hb dX10_lookers_95 (lv_at hl 3 rfl) ?_
                  refine lv_icmp_ne (tgt := 104) hx hb dX10_lookers_97 kc_t_97_7 (fun c_117 => ?_) (fun c_117 => ?_)
                  · refine lv_iinc (v := nI (i + 1)) hx hb dX10_lookers_104 hl (k := 1) rfl (kInc _ 1) kc_l_6_8 (kTo [(6, .int (nI (i + 1))), (7, .int x_51), (5, .int (nI (b9))), (4, .int r_8), (0, .ref jM), (1, .int (nI (j_6))), (2, .long p1)]) (fun ls hl => ?_)
                    refine lv_goto (tgt := 30) hx hb dX10_lookers_107 kc_t_107_m77 ?_
                    exact ih_k_35 (i + 1) b9 S4_91 S28_92 S29_93 S30_94 S31_95 S32_96 S33_97 S34_98 S35_99 S36_100 (W5_104 : Value) (W9_105 : Value) (W10_106 : Value) (W11_107 : Value) (W12_108 : Value) (W13_109 : Value) (W14_110 : Value) (W15_111 : Value) (W16_112 : Value) (W17_113 : Value) (W18_114 : Value) Ho_102 Xx_103 Th_101 (by omega) (by omega) (kLkRN ivk_35_2 (fun z => c_117 (hw_116.1.trans ((kLkP_t.mp z.1).2.trans hpl9.symm)))) (by omega) (by omega) _ _ hP hD hS ls (lv_sub hl [0, 2, 3, 4, 5, 6] rfl) (by omega)
                  · refine lv_iload hx hb dX10_lookers_100 (lv_at hl 1 rfl) ?_
                    refine lv_istore hx hb dX10_lookers_102 hl kc_l_5_8 (kTo [(5, .int (nI (i))), (7, .int x_51), (6, .int (nI (i))), (4, .int r_8), (0, .ref jM), (1, .int (nI (j_6))), (2, .long p1)]) (fun ls hl => ?_)
                    refine lv_iinc (v := nI (i + 1)) hx hb dX10_lookers_104 hl (k := 2) rfl (kInc _ 1) kc_l_6_8 (kTo [(6, .int (nI (i + 1))), (5, .int (nI (i))), (7, .int x_51), (4, .int r_8), (0, .ref jM), (1, .int (nI (j_6))), (2, .long p1)]) (fun ls hl => ?_)
                    refine lv_goto (tgt := 30) hx hb dX10_lookers_107 kc_t_107_m77 ?_
                    exact ih_k_35 (i + 1) i S4_91 S28_92 S29_93 S30_94 S31_95 S32_96 S33_97 S34_98 S35_99 S36_100 (W5_104 : Value) (W9_105 : Value) (W10_106 : Value) (W11_107 : Value) (W12_108 : Value) (W13_109 : Value) (W14_110 : Value) (W15_111 : Value) (W16_112 : Value) (W17_113 : Value) (W18_114 : Value) Ho_102 Xx_103 Th_101 (by omega) (by omega) (kLkRU (by omega) ivk_35_2 (kLkP_t.mpr ⟨hsb9, hw_116.1.symm.trans (c_117.trans hpl9)⟩) hor9) (by omega) (by omega) _ _ hP hD hS ls (lv_sub hl [0, 1, 3, 4, 5, 6] rfl) (by omega)
                · have ff_118 := kZr hw_87 c_88
                  have hlw9 : ¬ kLw i b9 = true := fun z => absurd (hw_87.symm.trans c_88) (of_decide_eq_true z)
                  refine lv_goto (tgt := 104) hx hb dX10_lookers_84 kc_t_84_20 ?_
                  refine lv_iinc (v := nI (i + 1)) hx hb dX10_lookers_104 hl (k := 1) rfl (kInc _ 1) kc_l_6_8 (kTo [(6, .int (nI (i + 1))), (7, .int x_51), (5, .int (nI (b9))), (4, .int r_8), (0, .ref jM), (1, .int (nI (j_6))), (2, .long p1)]) (fun ls hl => ?_)
                  refine lv_goto (tgt := 30) hx hb dX10_lookers_107 kc_t_107_m77 ?_
                  exact ih_k_35 (i + 1) b9 l4 l28 l29 l30 l31 l32 l33 l34 l35 l36 (lv5 : Value) (lv9 : Value) (lv10 : Value) (lv11 : Value) (lv12 : Value) (lv13 : Value) (lv14 : Value) (lv15 : Value) (lv16 : Value) (lv17 : Value) (lv18 : Value) lho lxx ltr (by omega) (by omega) (kLkRN ivk_35_2 (fun z => by rcases z.2 with y | y; omega; exact hlw9 y.2)) (by omega) (by omega) _ _ hP hD hS ls (lv_sub hl [0, 2, 3, 4, 5, 6] rfl) (by omega)
    exact lp_k_35 (1025 - 1 + 1) 1 0 S4_9 S28_10 S29_11 S30_12 S31_13 S32_14 S33_15 S34_16 S35_17 S36_18 (W5_22 : Value) (W9_23 : Value) (W10_24 : Value) (W11_25 : Value) (W12_26 : Value) (W13_27 : Value) (W14_28 : Value) (W15_29 : Value) (W16_30 : Value) (W17_31 : Value) (W18_32 : Value) Ho_20 Xx_21 Th_19 (by omega) (by omega) rfl (by omega) (by omega) _ _ hP hD hS ls (lv_sub hl [0, 1, 2, 3, 4, 5] rfl) (by omega)
  · have ff_119 := kZr hw_3_x c_4
    refine lv_iconst (v := (-1)) hx hb dX10_lookers_13 kc_i_m1 ?_
    have hP9 := hP
    have hD9 := hD
    have hK9 := hK
    rw [hQ]
    exact W.iret (v := (-1)) hx hb hr (fun t ht hW => ⟨⟨(-1), (mf4, mf28, mf29, mf30, mf31, mf32, mf33, mf34, mf35, mf36, 0, thr, ho, xx, (v5 : Value), (v9 : Value), (v10 : Value), (v11 : Value), (v12 : Value), (v13 : Value), (v14 : Value), (v15 : Value), (v16 : Value), (v17 : Value), (v18 : Value)), rfl, ⟨(by unfold kLokA; rw [if_pos ff_119]), by omega⟩,  by rw [ht]; exact hP9, va_K.moved hW.alike hK9, hD9⟩, hS.F ht⟩) hS.2.2 dX10_lookers_14
end
