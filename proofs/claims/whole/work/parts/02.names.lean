-- ===== PART A: goes FIRST, ahead of the names: the tables' words, and 'selects' of the private methods out of them =====
/-- a private method of a class that the tables say can be made, by its rows of tables_1 -/
def lw_okq (q : MethodName × Nat) : Prop := (q.1.cls ≠ "java/lang/invoke/MethodHandle" ∧ q.1.cls ≠ "java/lang/invoke/VarHandle") ∧ Cond.instantiable q.1.cls q.2 ∈ tables_1 ∧ Cond.privateMethod q.1 ∈ tables_1 ∧ Cond.instanceMethod q.1 ∈ tables_1
theorem lw_p0 : lw_okq (⟨"AmendsLedger", "codeAt", "(I)I"⟩, 7) := ⟨⟨by decide +kernel, by decide +kernel⟩, List.mem_of_getElem? (i := 19) (by decide +kernel), List.mem_of_getElem? (i := 193) (by decide +kernel), List.mem_of_getElem? (i := 194) (by decide +kernel)⟩
theorem lw_p1 : lw_okq (⟨"AmendsLedger$State", "topUp", "(I)I"⟩, 8) := ⟨⟨by decide +kernel, by decide +kernel⟩, List.mem_of_getElem? (i := 27) (by decide +kernel), List.mem_of_getElem? (i := 289) (by decide +kernel), List.mem_of_getElem? (i := 290) (by decide +kernel)⟩
theorem lw_p2 : lw_okq (⟨"AmendsLedger$State", "hand", "(II)V"⟩, 8) := ⟨⟨by decide +kernel, by decide +kernel⟩, List.mem_of_getElem? (i := 27) (by decide +kernel), List.mem_of_getElem? (i := 293) (by decide +kernel), List.mem_of_getElem? (i := 294) (by decide +kernel)⟩
theorem lw_p3 : lw_okq (⟨"java/lang/Throwable", "fillInStackTrace", "(I)Ljava/lang/Throwable;"⟩, 6) := ⟨⟨by decide +kernel, by decide +kernel⟩, List.mem_of_getElem? (i := 377) (by decide +kernel), List.mem_of_getElem? (i := 375) (by decide +kernel), List.mem_of_getElem? (i := 376) (by decide +kernel)⟩
theorem lw_p4 : lw_okq (⟨"AmendsLedger$Complaints", "areAlike", "(II)Z"⟩, 10) := ⟨⟨by decide +kernel, by decide +kernel⟩, List.mem_of_getElem? (i := 56) (by decide +kernel), List.mem_of_getElem? (i := 416) (by decide +kernel), List.mem_of_getElem? (i := 417) (by decide +kernel)⟩
theorem lw_p5 : lw_okq (⟨"AmendsLedger", "withKind", "(JI)J"⟩, 7) := ⟨⟨by decide +kernel, by decide +kernel⟩, List.mem_of_getElem? (i := 19) (by decide +kernel), List.mem_of_getElem? (i := 445) (by decide +kernel), List.mem_of_getElem? (i := 446) (by decide +kernel)⟩
theorem lw_p6 : lw_okq (⟨"AmendsLedger", "withComplaint", "(JI)J"⟩, 7) := ⟨⟨by decide +kernel, by decide +kernel⟩, List.mem_of_getElem? (i := 19) (by decide +kernel), List.mem_of_getElem? (i := 536) (by decide +kernel), List.mem_of_getElem? (i := 537) (by decide +kernel)⟩
theorem lw_p7 : lw_okq (⟨"AmendsLedger", "withBuffer", "(J)J"⟩, 7) := ⟨⟨by decide +kernel, by decide +kernel⟩, List.mem_of_getElem? (i := 19) (by decide +kernel), List.mem_of_getElem? (i := 641) (by decide +kernel), List.mem_of_getElem? (i := 642) (by decide +kernel)⟩
theorem lw_p8 : lw_okq (⟨"AmendsLedger", "save", "()V"⟩, 7) := ⟨⟨by decide +kernel, by decide +kernel⟩, List.mem_of_getElem? (i := 19) (by decide +kernel), List.mem_of_getElem? (i := 673) (by decide +kernel), List.mem_of_getElem? (i := 674) (by decide +kernel)⟩
theorem lw_p9 : lw_okq (⟨"AmendsLedger", "savedAt", "(I)LAmendsLedger$State;"⟩, 7) := ⟨⟨by decide +kernel, by decide +kernel⟩, List.mem_of_getElem? (i := 19) (by decide +kernel), List.mem_of_getElem? (i := 677) (by decide +kernel), List.mem_of_getElem? (i := 678) (by decide +kernel)⟩
theorem lw_p10 : lw_okq (⟨"AmendsLedger", "digitAt", "(I)I"⟩, 7) := ⟨⟨by decide +kernel, by decide +kernel⟩, List.mem_of_getElem? (i := 19) (by decide +kernel), List.mem_of_getElem? (i := 799) (by decide +kernel), List.mem_of_getElem? (i := 800) (by decide +kernel)⟩
theorem lw_p11 : lw_okq (⟨"AmendsLedgerModel", "fails", "(I)I"⟩, 12) := ⟨⟨by decide +kernel, by decide +kernel⟩, List.mem_of_getElem? (i := 850) (by decide +kernel), List.mem_of_getElem? (i := 910) (by decide +kernel), List.mem_of_getElem? (i := 911) (by decide +kernel)⟩
theorem lw_p12 : lw_okq (⟨"AmendsLedgerModel", "save", "()V"⟩, 12) := ⟨⟨by decide +kernel, by decide +kernel⟩, List.mem_of_getElem? (i := 850) (by decide +kernel), List.mem_of_getElem? (i := 914) (by decide +kernel), List.mem_of_getElem? (i := 915) (by decide +kernel)⟩
theorem lw_p13 : lw_okq (⟨"AmendsLedgerModel", "isAmends", "(II)Z"⟩, 12) := ⟨⟨by decide +kernel, by decide +kernel⟩, List.mem_of_getElem? (i := 850) (by decide +kernel), List.mem_of_getElem? (i := 925) (by decide +kernel), List.mem_of_getElem? (i := 926) (by decide +kernel)⟩
theorem lw_p14 : lw_okq (⟨"AmendsLedgerModel", "isOffered", "(II)Z"⟩, 12) := ⟨⟨by decide +kernel, by decide +kernel⟩, List.mem_of_getElem? (i := 850) (by decide +kernel), List.mem_of_getElem? (i := 929) (by decide +kernel), List.mem_of_getElem? (i := 930) (by decide +kernel)⟩
theorem lw_p15 : lw_okq (⟨"AmendsLedgerModel", "offered", "(I)I"⟩, 12) := ⟨⟨by decide +kernel, by decide +kernel⟩, List.mem_of_getElem? (i := 850) (by decide +kernel), List.mem_of_getElem? (i := 933) (by decide +kernel), List.mem_of_getElem? (i := 934) (by decide +kernel)⟩
def lw_privs_1 : List (MethodName × Nat) := [(⟨"AmendsLedger", "codeAt", "(I)I"⟩, 7), (⟨"AmendsLedger$State", "topUp", "(I)I"⟩, 8), (⟨"AmendsLedger$State", "hand", "(II)V"⟩, 8), (⟨"java/lang/Throwable", "fillInStackTrace", "(I)Ljava/lang/Throwable;"⟩, 6), (⟨"AmendsLedger$Complaints", "areAlike", "(II)Z"⟩, 10), (⟨"AmendsLedger", "withKind", "(JI)J"⟩, 7), (⟨"AmendsLedger", "withComplaint", "(JI)J"⟩, 7), (⟨"AmendsLedger", "withBuffer", "(J)J"⟩, 7), (⟨"AmendsLedger", "save", "()V"⟩, 7), (⟨"AmendsLedger", "savedAt", "(I)LAmendsLedger$State;"⟩, 7), (⟨"AmendsLedger", "digitAt", "(I)I"⟩, 7), (⟨"AmendsLedgerModel", "fails", "(I)I"⟩, 12), (⟨"AmendsLedgerModel", "save", "()V"⟩, 12), (⟨"AmendsLedgerModel", "isAmends", "(II)Z"⟩, 12), (⟨"AmendsLedgerModel", "isOffered", "(II)Z"⟩, 12), (⟨"AmendsLedgerModel", "offered", "(I)I"⟩, 12)]
theorem lw_r1 : ∀ q ∈ lw_privs_1, lw_okq q := List.forall_mem_cons.mpr ⟨lw_p0, List.forall_mem_cons.mpr ⟨lw_p1, List.forall_mem_cons.mpr ⟨lw_p2, List.forall_mem_cons.mpr ⟨lw_p3, List.forall_mem_cons.mpr ⟨lw_p4, List.forall_mem_cons.mpr ⟨lw_p5, List.forall_mem_cons.mpr ⟨lw_p6, List.forall_mem_cons.mpr ⟨lw_p7, List.forall_mem_cons.mpr ⟨lw_p8, List.forall_mem_cons.mpr ⟨lw_p9, List.forall_mem_cons.mpr ⟨lw_p10, List.forall_mem_cons.mpr ⟨lw_p11, List.forall_mem_cons.mpr ⟨lw_p12, List.forall_mem_cons.mpr ⟨lw_p13, List.forall_mem_cons.mpr ⟨lw_p14, List.forall_mem_cons.mpr ⟨lw_p15, fun _ h => absurd h List.not_mem_nil⟩⟩⟩⟩⟩⟩⟩⟩⟩⟩⟩⟩⟩⟩⟩⟩
theorem lw_p16 : lw_okq (⟨"AmendsLedgerModel", "complainNow", "(III)V"⟩, 12) := ⟨⟨by decide +kernel, by decide +kernel⟩, List.mem_of_getElem? (i := 850) (by decide +kernel), List.mem_of_getElem? (i := 952) (by decide +kernel), List.mem_of_getElem? (i := 953) (by decide +kernel)⟩
theorem lw_p17 : lw_okq (⟨"AmendsLedgerModel", "isComplaint", "(I)Z"⟩, 12) := ⟨⟨by decide +kernel, by decide +kernel⟩, List.mem_of_getElem? (i := 850) (by decide +kernel), List.mem_of_getElem? (i := 963) (by decide +kernel), List.mem_of_getElem? (i := 964) (by decide +kernel)⟩
theorem lw_p18 : lw_okq (⟨"AmendsLedgerModel", "whyDecided", "(III)I"⟩, 12) := ⟨⟨by decide +kernel, by decide +kernel⟩, List.mem_of_getElem? (i := 850) (by decide +kernel), List.mem_of_getElem? (i := 967) (by decide +kernel), List.mem_of_getElem? (i := 968) (by decide +kernel)⟩
theorem lw_p19 : lw_okq (⟨"AmendsLedgerModel", "fits", "(II)Z"⟩, 12) := ⟨⟨by decide +kernel, by decide +kernel⟩, List.mem_of_getElem? (i := 850) (by decide +kernel), List.mem_of_getElem? (i := 974) (by decide +kernel), List.mem_of_getElem? (i := 975) (by decide +kernel)⟩
theorem lw_p20 : lw_okq (⟨"AmendsLedgerModel", "binds", "(II)Z"⟩, 12) := ⟨⟨by decide +kernel, by decide +kernel⟩, List.mem_of_getElem? (i := 850) (by decide +kernel), List.mem_of_getElem? (i := 978) (by decide +kernel), List.mem_of_getElem? (i := 979) (by decide +kernel)⟩
theorem lw_p21 : lw_okq (⟨"AmendsLedgerModel", "latest", "(II)I"⟩, 12) := ⟨⟨by decide +kernel, by decide +kernel⟩, List.mem_of_getElem? (i := 850) (by decide +kernel), List.mem_of_getElem? (i := 982) (by decide +kernel), List.mem_of_getElem? (i := 983) (by decide +kernel)⟩
theorem lw_p22 : lw_okq (⟨"AmendsLedgerModel", "cost", "(II)I"⟩, 12) := ⟨⟨by decide +kernel, by decide +kernel⟩, List.mem_of_getElem? (i := 850) (by decide +kernel), List.mem_of_getElem? (i := 986) (by decide +kernel), List.mem_of_getElem? (i := 987) (by decide +kernel)⟩
theorem lw_p23 : lw_okq (⟨"AmendsLedgerModel", "left", "(I)I"⟩, 12) := ⟨⟨by decide +kernel, by decide +kernel⟩, List.mem_of_getElem? (i := 850) (by decide +kernel), List.mem_of_getElem? (i := 990) (by decide +kernel), List.mem_of_getElem? (i := 991) (by decide +kernel)⟩
theorem lw_p24 : lw_okq (⟨"AmendsLedgerModel", "give", "(II)V"⟩, 12) := ⟨⟨by decide +kernel, by decide +kernel⟩, List.mem_of_getElem? (i := 850) (by decide +kernel), List.mem_of_getElem? (i := 994) (by decide +kernel), List.mem_of_getElem? (i := 995) (by decide +kernel)⟩
theorem lw_p25 : lw_okq (⟨"AmendsLedgerModel", "setPrecedent", "(II)I"⟩, 12) := ⟨⟨by decide +kernel, by decide +kernel⟩, List.mem_of_getElem? (i := 850) (by decide +kernel), List.mem_of_getElem? (i := 998) (by decide +kernel), List.mem_of_getElem? (i := 999) (by decide +kernel)⟩
theorem lw_p26 : lw_okq (⟨"AmendsLedgerModel", "staged", "(I)I"⟩, 12) := ⟨⟨by decide +kernel, by decide +kernel⟩, List.mem_of_getElem? (i := 850) (by decide +kernel), List.mem_of_getElem? (i := 1006) (by decide +kernel), List.mem_of_getElem? (i := 1007) (by decide +kernel)⟩
theorem lw_p27 : lw_okq (⟨"AmendsLedgerModel", "whyJudged", "(II)I"⟩, 12) := ⟨⟨by decide +kernel, by decide +kernel⟩, List.mem_of_getElem? (i := 850) (by decide +kernel), List.mem_of_getElem? (i := 1014) (by decide +kernel), List.mem_of_getElem? (i := 1015) (by decide +kernel)⟩
theorem lw_p28 : lw_okq (⟨"AmendsLedgerModel", "judgeNow", "(II)I"⟩, 12) := ⟨⟨by decide +kernel, by decide +kernel⟩, List.mem_of_getElem? (i := 850) (by decide +kernel), List.mem_of_getElem? (i := 1018) (by decide +kernel), List.mem_of_getElem? (i := 1019) (by decide +kernel)⟩
theorem lw_p29 : lw_okq (⟨"AmendsLedgerModel", "topUps", "(I)I"⟩, 12) := ⟨⟨by decide +kernel, by decide +kernel⟩, List.mem_of_getElem? (i := 850) (by decide +kernel), List.mem_of_getElem? (i := 1022) (by decide +kernel), List.mem_of_getElem? (i := 1023) (by decide +kernel)⟩
theorem lw_p30 : lw_okq (⟨"AmendsLedgerModel", "waitsFor", "(I)I"⟩, 12) := ⟨⟨by decide +kernel, by decide +kernel⟩, List.mem_of_getElem? (i := 850) (by decide +kernel), List.mem_of_getElem? (i := 1026) (by decide +kernel), List.mem_of_getElem? (i := 1027) (by decide +kernel)⟩
theorem lw_p31 : lw_okq (⟨"AmendsLedgerModel", "closeNow", "()I"⟩, 12) := ⟨⟨by decide +kernel, by decide +kernel⟩, List.mem_of_getElem? (i := 850) (by decide +kernel), List.mem_of_getElem? (i := 1034) (by decide +kernel), List.mem_of_getElem? (i := 1035) (by decide +kernel)⟩
def lw_privs_2 : List (MethodName × Nat) := [(⟨"AmendsLedgerModel", "complainNow", "(III)V"⟩, 12), (⟨"AmendsLedgerModel", "isComplaint", "(I)Z"⟩, 12), (⟨"AmendsLedgerModel", "whyDecided", "(III)I"⟩, 12), (⟨"AmendsLedgerModel", "fits", "(II)Z"⟩, 12), (⟨"AmendsLedgerModel", "binds", "(II)Z"⟩, 12), (⟨"AmendsLedgerModel", "latest", "(II)I"⟩, 12), (⟨"AmendsLedgerModel", "cost", "(II)I"⟩, 12), (⟨"AmendsLedgerModel", "left", "(I)I"⟩, 12), (⟨"AmendsLedgerModel", "give", "(II)V"⟩, 12), (⟨"AmendsLedgerModel", "setPrecedent", "(II)I"⟩, 12), (⟨"AmendsLedgerModel", "staged", "(I)I"⟩, 12), (⟨"AmendsLedgerModel", "whyJudged", "(II)I"⟩, 12), (⟨"AmendsLedgerModel", "judgeNow", "(II)I"⟩, 12), (⟨"AmendsLedgerModel", "topUps", "(I)I"⟩, 12), (⟨"AmendsLedgerModel", "waitsFor", "(I)I"⟩, 12), (⟨"AmendsLedgerModel", "closeNow", "()I"⟩, 12)]
theorem lw_r2 : ∀ q ∈ lw_privs_2, lw_okq q := List.forall_mem_cons.mpr ⟨lw_p16, List.forall_mem_cons.mpr ⟨lw_p17, List.forall_mem_cons.mpr ⟨lw_p18, List.forall_mem_cons.mpr ⟨lw_p19, List.forall_mem_cons.mpr ⟨lw_p20, List.forall_mem_cons.mpr ⟨lw_p21, List.forall_mem_cons.mpr ⟨lw_p22, List.forall_mem_cons.mpr ⟨lw_p23, List.forall_mem_cons.mpr ⟨lw_p24, List.forall_mem_cons.mpr ⟨lw_p25, List.forall_mem_cons.mpr ⟨lw_p26, List.forall_mem_cons.mpr ⟨lw_p27, List.forall_mem_cons.mpr ⟨lw_p28, List.forall_mem_cons.mpr ⟨lw_p29, List.forall_mem_cons.mpr ⟨lw_p30, List.forall_mem_cons.mpr ⟨lw_p31, fun _ h => absurd h List.not_mem_nil⟩⟩⟩⟩⟩⟩⟩⟩⟩⟩⟩⟩⟩⟩⟩⟩
theorem lw_p32 : lw_okq (⟨"AmendsLedgerModel", "isText", "()Z"⟩, 12) := ⟨⟨by decide +kernel, by decide +kernel⟩, List.mem_of_getElem? (i := 850) (by decide +kernel), List.mem_of_getElem? (i := 1050) (by decide +kernel), List.mem_of_getElem? (i := 1051) (by decide +kernel)⟩
theorem lw_p33 : lw_okq (⟨"AmendsLedgerModel", "isOne", "()Z"⟩, 12) := ⟨⟨by decide +kernel, by decide +kernel⟩, List.mem_of_getElem? (i := 850) (by decide +kernel), List.mem_of_getElem? (i := 1054) (by decide +kernel), List.mem_of_getElem? (i := 1055) (by decide +kernel)⟩
theorem lw_p34 : lw_okq (⟨"AmendsLedgerModel", "takes", "(I)Z"⟩, 12) := ⟨⟨by decide +kernel, by decide +kernel⟩, List.mem_of_getElem? (i := 850) (by decide +kernel), List.mem_of_getElem? (i := 1058) (by decide +kernel), List.mem_of_getElem? (i := 1059) (by decide +kernel)⟩
theorem lw_p35 : lw_okq (⟨"AmendsLedgerModel", "digit", "(III)Z"⟩, 12) := ⟨⟨by decide +kernel, by decide +kernel⟩, List.mem_of_getElem? (i := 850) (by decide +kernel), List.mem_of_getElem? (i := 1062) (by decide +kernel), List.mem_of_getElem? (i := 1063) (by decide +kernel)⟩
theorem lw_p36 : lw_okq (⟨"AmendsLedgerModel", "complaintOf", "(II)I"⟩, 12) := ⟨⟨by decide +kernel, by decide +kernel⟩, List.mem_of_getElem? (i := 850) (by decide +kernel), List.mem_of_getElem? (i := 1078) (by decide +kernel), List.mem_of_getElem? (i := 1079) (by decide +kernel)⟩
theorem lw_p37 : lw_okq (⟨"AmendsLedgerModel", "amendsOf", "(III)I"⟩, 12) := ⟨⟨by decide +kernel, by decide +kernel⟩, List.mem_of_getElem? (i := 850) (by decide +kernel), List.mem_of_getElem? (i := 1086) (by decide +kernel), List.mem_of_getElem? (i := 1087) (by decide +kernel)⟩
theorem lw_p38 : lw_okq (⟨"AmendsLedgerModel", "having", "(II)I"⟩, 12) := ⟨⟨by decide +kernel, by decide +kernel⟩, List.mem_of_getElem? (i := 850) (by decide +kernel), List.mem_of_getElem? (i := 1090) (by decide +kernel), List.mem_of_getElem? (i := 1091) (by decide +kernel)⟩
theorem lw_p39 : lw_okq (⟨"AmendsLedgerModel", "precedentOf", "(III)I"⟩, 12) := ⟨⟨by decide +kernel, by decide +kernel⟩, List.mem_of_getElem? (i := 850) (by decide +kernel), List.mem_of_getElem? (i := 1098) (by decide +kernel), List.mem_of_getElem? (i := 1099) (by decide +kernel)⟩
theorem lw_p40 : lw_okq (⟨"AmendsLedgerModel", "following", "(I)I"⟩, 12) := ⟨⟨by decide +kernel, by decide +kernel⟩, List.mem_of_getElem? (i := 850) (by decide +kernel), List.mem_of_getElem? (i := 1102) (by decide +kernel), List.mem_of_getElem? (i := 1103) (by decide +kernel)⟩
theorem lw_p41 : lw_okq (⟨"AmendsLedgerModel", "kindOf", "(II)I"⟩, 12) := ⟨⟨by decide +kernel, by decide +kernel⟩, List.mem_of_getElem? (i := 850) (by decide +kernel), List.mem_of_getElem? (i := 1110) (by decide +kernel), List.mem_of_getElem? (i := 1111) (by decide +kernel)⟩
theorem lw_p42 : lw_okq (⟨"AmendsLedgerModel", "ofComplaints", "(II)I"⟩, 12) := ⟨⟨by decide +kernel, by decide +kernel⟩, List.mem_of_getElem? (i := 850) (by decide +kernel), List.mem_of_getElem? (i := 1114) (by decide +kernel), List.mem_of_getElem? (i := 1115) (by decide +kernel)⟩
theorem lw_p43 : lw_okq (⟨"AmendsLedgerModel", "counted", "(I)I"⟩, 12) := ⟨⟨by decide +kernel, by decide +kernel⟩, List.mem_of_getElem? (i := 850) (by decide +kernel), List.mem_of_getElem? (i := 1122) (by decide +kernel), List.mem_of_getElem? (i := 1123) (by decide +kernel)⟩
theorem lw_p44 : lw_okq (⟨"AmendsLedgerModel", "departing", "()I"⟩, 12) := ⟨⟨by decide +kernel, by decide +kernel⟩, List.mem_of_getElem? (i := 850) (by decide +kernel), List.mem_of_getElem? (i := 1126) (by decide +kernel), List.mem_of_getElem? (i := 1127) (by decide +kernel)⟩
theorem lw_p45 : lw_okq (⟨"AmendsLedgerModel", "unequal", "()I"⟩, 12) := ⟨⟨by decide +kernel, by decide +kernel⟩, List.mem_of_getElem? (i := 850) (by decide +kernel), List.mem_of_getElem? (i := 1130) (by decide +kernel), List.mem_of_getElem? (i := 1131) (by decide +kernel)⟩
theorem lw_p46 : lw_okq (⟨"AmendsLedgerModel", "customerAt", "(II)I"⟩, 12) := ⟨⟨by decide +kernel, by decide +kernel⟩, List.mem_of_getElem? (i := 850) (by decide +kernel), List.mem_of_getElem? (i := 1142) (by decide +kernel), List.mem_of_getElem? (i := 1143) (by decide +kernel)⟩
theorem lw_p47 : lw_okq (⟨"AmendsLedgerModel", "why", "(III)I"⟩, 12) := ⟨⟨by decide +kernel, by decide +kernel⟩, List.mem_of_getElem? (i := 850) (by decide +kernel), List.mem_of_getElem? (i := 1150) (by decide +kernel), List.mem_of_getElem? (i := 1151) (by decide +kernel)⟩
def lw_privs_3 : List (MethodName × Nat) := [(⟨"AmendsLedgerModel", "isText", "()Z"⟩, 12), (⟨"AmendsLedgerModel", "isOne", "()Z"⟩, 12), (⟨"AmendsLedgerModel", "takes", "(I)Z"⟩, 12), (⟨"AmendsLedgerModel", "digit", "(III)Z"⟩, 12), (⟨"AmendsLedgerModel", "complaintOf", "(II)I"⟩, 12), (⟨"AmendsLedgerModel", "amendsOf", "(III)I"⟩, 12), (⟨"AmendsLedgerModel", "having", "(II)I"⟩, 12), (⟨"AmendsLedgerModel", "precedentOf", "(III)I"⟩, 12), (⟨"AmendsLedgerModel", "following", "(I)I"⟩, 12), (⟨"AmendsLedgerModel", "kindOf", "(II)I"⟩, 12), (⟨"AmendsLedgerModel", "ofComplaints", "(II)I"⟩, 12), (⟨"AmendsLedgerModel", "counted", "(I)I"⟩, 12), (⟨"AmendsLedgerModel", "departing", "()I"⟩, 12), (⟨"AmendsLedgerModel", "unequal", "()I"⟩, 12), (⟨"AmendsLedgerModel", "customerAt", "(II)I"⟩, 12), (⟨"AmendsLedgerModel", "why", "(III)I"⟩, 12)]
theorem lw_r3 : ∀ q ∈ lw_privs_3, lw_okq q := List.forall_mem_cons.mpr ⟨lw_p32, List.forall_mem_cons.mpr ⟨lw_p33, List.forall_mem_cons.mpr ⟨lw_p34, List.forall_mem_cons.mpr ⟨lw_p35, List.forall_mem_cons.mpr ⟨lw_p36, List.forall_mem_cons.mpr ⟨lw_p37, List.forall_mem_cons.mpr ⟨lw_p38, List.forall_mem_cons.mpr ⟨lw_p39, List.forall_mem_cons.mpr ⟨lw_p40, List.forall_mem_cons.mpr ⟨lw_p41, List.forall_mem_cons.mpr ⟨lw_p42, List.forall_mem_cons.mpr ⟨lw_p43, List.forall_mem_cons.mpr ⟨lw_p44, List.forall_mem_cons.mpr ⟨lw_p45, List.forall_mem_cons.mpr ⟨lw_p46, List.forall_mem_cons.mpr ⟨lw_p47, fun _ h => absurd h List.not_mem_nil⟩⟩⟩⟩⟩⟩⟩⟩⟩⟩⟩⟩⟩⟩⟩⟩
theorem lw_p48 : lw_okq (⟨"AmendsLedgerModel", "fairOf", "(I)I"⟩, 12) := ⟨⟨by decide +kernel, by decide +kernel⟩, List.mem_of_getElem? (i := 850) (by decide +kernel), List.mem_of_getElem? (i := 1158) (by decide +kernel), List.mem_of_getElem? (i := 1159) (by decide +kernel)⟩
theorem lw_p49 : lw_okq (⟨"AmendsLedgerModel", "judgedOf", "(III)I"⟩, 12) := ⟨⟨by decide +kernel, by decide +kernel⟩, List.mem_of_getElem? (i := 850) (by decide +kernel), List.mem_of_getElem? (i := 1166) (by decide +kernel), List.mem_of_getElem? (i := 1167) (by decide +kernel)⟩
theorem lw_p50 : lw_okq (⟨"AmendsLedgerModel", "putAside", "()V"⟩, 12) := ⟨⟨by decide +kernel, by decide +kernel⟩, List.mem_of_getElem? (i := 850) (by decide +kernel), List.mem_of_getElem? (i := 1170) (by decide +kernel), List.mem_of_getElem? (i := 1171) (by decide +kernel)⟩
theorem lw_p51 : lw_okq (⟨"AmendsLedgerModel", "putBack", "()V"⟩, 12) := ⟨⟨by decide +kernel, by decide +kernel⟩, List.mem_of_getElem? (i := 850) (by decide +kernel), List.mem_of_getElem? (i := 1174) (by decide +kernel), List.mem_of_getElem? (i := 1175) (by decide +kernel)⟩
theorem lw_p52 : lw_okq (⟨"AmendsLedgerModel", "monthsOf", "()I"⟩, 12) := ⟨⟨by decide +kernel, by decide +kernel⟩, List.mem_of_getElem? (i := 850) (by decide +kernel), List.mem_of_getElem? (i := 1182) (by decide +kernel), List.mem_of_getElem? (i := 1183) (by decide +kernel)⟩
theorem lw_p53 : lw_okq (⟨"AmendsLedgerModel", "shareOf", "()D"⟩, 12) := ⟨⟨by decide +kernel, by decide +kernel⟩, List.mem_of_getElem? (i := 850) (by decide +kernel), List.mem_of_getElem? (i := 1190) (by decide +kernel), List.mem_of_getElem? (i := 1191) (by decide +kernel)⟩
theorem lw_p54 : lw_okq (⟨"AmendsLedgerModel", "mix", "(J)V"⟩, 12) := ⟨⟨by decide +kernel, by decide +kernel⟩, List.mem_of_getElem? (i := 850) (by decide +kernel), List.mem_of_getElem? (i := 1199) (by decide +kernel), List.mem_of_getElem? (i := 1200) (by decide +kernel)⟩
theorem lw_p55 : lw_okq (⟨"AmendsLedgerModel", "mixKind", "(I)V"⟩, 12) := ⟨⟨by decide +kernel, by decide +kernel⟩, List.mem_of_getElem? (i := 850) (by decide +kernel), List.mem_of_getElem? (i := 1204) (by decide +kernel), List.mem_of_getElem? (i := 1205) (by decide +kernel)⟩
theorem lw_p56 : lw_okq (⟨"AmendsLedgerModel", "mixComplaint", "(I)V"⟩, 12) := ⟨⟨by decide +kernel, by decide +kernel⟩, List.mem_of_getElem? (i := 850) (by decide +kernel), List.mem_of_getElem? (i := 1208) (by decide +kernel), List.mem_of_getElem? (i := 1209) (by decide +kernel)⟩
def lw_privs_4 : List (MethodName × Nat) := [(⟨"AmendsLedgerModel", "fairOf", "(I)I"⟩, 12), (⟨"AmendsLedgerModel", "judgedOf", "(III)I"⟩, 12), (⟨"AmendsLedgerModel", "putAside", "()V"⟩, 12), (⟨"AmendsLedgerModel", "putBack", "()V"⟩, 12), (⟨"AmendsLedgerModel", "monthsOf", "()I"⟩, 12), (⟨"AmendsLedgerModel", "shareOf", "()D"⟩, 12), (⟨"AmendsLedgerModel", "mix", "(J)V"⟩, 12), (⟨"AmendsLedgerModel", "mixKind", "(I)V"⟩, 12), (⟨"AmendsLedgerModel", "mixComplaint", "(I)V"⟩, 12)]
theorem lw_r4 : ∀ q ∈ lw_privs_4, lw_okq q := List.forall_mem_cons.mpr ⟨lw_p48, List.forall_mem_cons.mpr ⟨lw_p49, List.forall_mem_cons.mpr ⟨lw_p50, List.forall_mem_cons.mpr ⟨lw_p51, List.forall_mem_cons.mpr ⟨lw_p52, List.forall_mem_cons.mpr ⟨lw_p53, List.forall_mem_cons.mpr ⟨lw_p54, List.forall_mem_cons.mpr ⟨lw_p55, List.forall_mem_cons.mpr ⟨lw_p56, fun _ h => absurd h List.not_mem_nil⟩⟩⟩⟩⟩⟩⟩⟩⟩
def lw_privs : List (MethodName × Nat) := lw_privs_1 ++ (lw_privs_2 ++ (lw_privs_3 ++ (lw_privs_4)))
def lw_tbl : List Cond := k2_sels lw_privs ++ tables_1
theorem lw_privs_ok : ∀ q ∈ lw_privs, lw_okq q := by
  show ∀ q ∈ lw_privs_1 ++ (lw_privs_2 ++ (lw_privs_3 ++ (lw_privs_4))), lw_okq q
  exact List.forall_mem_append.mpr ⟨lw_r1, List.forall_mem_append.mpr ⟨lw_r2, List.forall_mem_append.mpr ⟨lw_r3, lw_r4⟩⟩⟩
/-- the streams that the claim lets the run draw from -/
abbrev lw_cs : List Choice := [Jvm.Choice.named "NaN.bits"]
theorem lw_bits : nanBits ∈ lw_cs := by first | decide | exact List.mem_cons_self | simp [lw_cs, nanBits]
-- ===== end of PART A; then your names; then what follows =====
def RX0 : String := "AmendsLedger$Complaints"
def TX0 : u_T := fun k => match k with
  | 0 => ("AmendsLedger$Complaints", "size", "I", false)
  | 1 => ("AmendsLedger$Complaints", "kinds", "[I", true)
  | 2 => ("AmendsLedger$Complaints", "severities", "[I", true)
  | 3 => ("AmendsLedger$Complaints", "customers", "[I", true)
  | 4 => ("AmendsLedger$Complaints", "stages", "[I", true)
  | 5 => ("AmendsLedger$Complaints", "amendsHad", "[I", true)
  | 6 => ("AmendsLedger$Complaints", "got", "[I", true)
  | 7 => ("AmendsLedger$Complaints", "reasons", "[I", true)
  | 8 => ("AmendsLedger$Complaints", "months", "[I", true)
  | _ => ("AmendsLedger$Complaints", "followed", "[I", true)
def tyX0 : Nat → FieldType := fun k => match k with
  | 0 => .int
  | 1 => .array .int
  | 2 => .array .int
  | 3 => .array .int
  | 4 => .array .int
  | 5 => .array .int
  | 6 => .array .int
  | 7 => .array .int
  | 8 => .array .int
  | _ => .array .int
abbrev wsX00 : List Cond := u_ws RX0 TX0 10
theorem nmX0 : ∀ a, a < 10 → ∀ b, b < 10 → a ≠ b → (TX0 a).2.1 ≠ (TX0 b).2.1 := by decide +kernel
theorem tyX0_ok : ∀ k, k < 10 → parseFieldDescriptor (TX0 k).2.2.1 = some (tyX0 k) := by decide +kernel
abbrev cX0_init : ByteArray := prog_2_method_1_code
def yX0_init : MethodName := ⟨RX0, "<init>", "()V"⟩
abbrev cX0_copyFrom : ByteArray := prog_2_method_2_code
def yX0_copyFrom : MethodName := ⟨RX0, "copyFrom", "(LAmendsLedger$Complaints;)V"⟩
abbrev cX0_has : ByteArray := prog_2_method_3_code
def yX0_has : MethodName := ⟨RX0, "has", "(I)Z"⟩
abbrev cX0_add : ByteArray := prog_2_method_4_code
def yX0_add : MethodName := ⟨RX0, "add", "(III)I"⟩
abbrev cX0_kindOf : ByteArray := prog_2_method_5_code
def yX0_kindOf : MethodName := ⟨RX0, "kindOf", "(I)I"⟩
abbrev cX0_severityOf : ByteArray := prog_2_method_6_code
def yX0_severityOf : MethodName := ⟨RX0, "severityOf", "(I)I"⟩
abbrev cX0_customerOf : ByteArray := prog_2_method_7_code
def yX0_customerOf : MethodName := ⟨RX0, "customerOf", "(I)I"⟩
abbrev cX0_groupOf : ByteArray := prog_2_method_8_code
def yX0_groupOf : MethodName := ⟨RX0, "groupOf", "(I)I"⟩
abbrev cX0_stageOf : ByteArray := prog_2_method_9_code
def yX0_stageOf : MethodName := ⟨RX0, "stageOf", "(I)I"⟩
abbrev cX0_amendsOf : ByteArray := prog_2_method_10_code
def yX0_amendsOf : MethodName := ⟨RX0, "amendsOf", "(I)I"⟩
abbrev cX0_gotOf : ByteArray := prog_2_method_11_code
def yX0_gotOf : MethodName := ⟨RX0, "gotOf", "(I)I"⟩
abbrev cX0_reasonOf : ByteArray := prog_2_method_12_code
def yX0_reasonOf : MethodName := ⟨RX0, "reasonOf", "(I)I"⟩
abbrev cX0_monthOf : ByteArray := prog_2_method_13_code
def yX0_monthOf : MethodName := ⟨RX0, "monthOf", "(I)I"⟩
abbrev cX0_followedBy : ByteArray := prog_2_method_14_code
def yX0_followedBy : MethodName := ⟨RX0, "followedBy", "(I)I"⟩
abbrev cX0_changeStage : ByteArray := prog_2_method_15_code
def yX0_changeStage : MethodName := ⟨RX0, "changeStage", "(II)V"⟩
abbrev cX0_give : ByteArray := prog_2_method_16_code
def yX0_give : MethodName := ⟨RX0, "give", "(III)V"⟩
abbrev cX0_noteDecision : ByteArray := prog_2_method_17_code
def yX0_noteDecision : MethodName := ⟨RX0, "noteDecision", "(IIII)V"⟩
abbrev cX0_inStage : ByteArray := prog_2_method_18_code
def yX0_inStage : MethodName := ⟨RX0, "inStage", "(I)I"⟩
abbrev cX0_ofKind : ByteArray := prog_2_method_19_code
def yX0_ofKind : MethodName := ⟨RX0, "ofKind", "(I)I"⟩
abbrev cX0_having : ByteArray := prog_2_method_20_code
def yX0_having : MethodName := ⟨RX0, "having", "(II)I"⟩
abbrev cX0_following : ByteArray := prog_2_method_21_code
def yX0_following : MethodName := ⟨RX0, "following", "(I)I"⟩
abbrev cX0_ofOne : ByteArray := prog_2_method_22_code
def yX0_ofOne : MethodName := ⟨RX0, "ofOne", "(II)I"⟩
abbrev cX0_gotInKind : ByteArray := prog_2_method_23_code
def yX0_gotInKind : MethodName := ⟨RX0, "gotInKind", "(I)I"⟩
abbrev cX0_gotInAll : ByteArray := prog_2_method_24_code
def yX0_gotInAll : MethodName := ⟨RX0, "gotInAll", "()I"⟩
abbrev cX0_unequalPairs : ByteArray := prog_2_method_25_code
def yX0_unequalPairs : MethodName := ⟨RX0, "unequalPairs", "()I"⟩
abbrev cX0_areAlike : ByteArray := prog_2_method_26_code
def yX0_areAlike : MethodName := ⟨RX0, "areAlike", "(II)Z"⟩
def RX1 : String := "AmendsLedger$Menus"
def TX1 : u_T := fun k => match k with
  | 0 => ("AmendsLedger$Menus", "sizes", "[I", true)
  | 1 => ("AmendsLedger$Menus", "costs", "[I", true)
  | 2 => ("AmendsLedger$Menus", "leasts", "[I", true)
  | 3 => ("AmendsLedger$Menus", "mosts", "[I", true)
  | _ => ("AmendsLedger$Menus", "offers", "[I", true)
def tyX1 : Nat → FieldType := fun k => match k with
  | 0 => .array .int
  | 1 => .array .int
  | 2 => .array .int
  | 3 => .array .int
  | _ => .array .int
abbrev wsX10 : List Cond := u_ws RX1 TX1 5
theorem nmX1 : ∀ a, a < 5 → ∀ b, b < 5 → a ≠ b → (TX1 a).2.1 ≠ (TX1 b).2.1 := by decide +kernel
theorem tyX1_ok : ∀ k, k < 5 → parseFieldDescriptor (TX1 k).2.2.1 = some (tyX1 k) := by decide +kernel
abbrev cX1_init : ByteArray := prog_3_method_1_code
def yX1_init : MethodName := ⟨RX1, "<init>", "()V"⟩
abbrev cX1_copyFrom : ByteArray := prog_3_method_2_code
def yX1_copyFrom : MethodName := ⟨RX1, "copyFrom", "(LAmendsLedger$Menus;)V"⟩
abbrev cX1_sizeOf : ByteArray := prog_3_method_3_code
def yX1_sizeOf : MethodName := ⟨RX1, "sizeOf", "(I)I"⟩
abbrev cX1_has : ByteArray := prog_3_method_4_code
def yX1_has : MethodName := ⟨RX1, "has", "(II)Z"⟩
abbrev cX1_costOf : ByteArray := prog_3_method_5_code
def yX1_costOf : MethodName := ⟨RX1, "costOf", "(II)I"⟩
abbrev cX1_leastOf : ByteArray := prog_3_method_6_code
def yX1_leastOf : MethodName := ⟨RX1, "leastOf", "(II)I"⟩
abbrev cX1_mostOf : ByteArray := prog_3_method_7_code
def yX1_mostOf : MethodName := ⟨RX1, "mostOf", "(II)I"⟩
abbrev cX1_isOffered : ByteArray := prog_3_method_8_code
def yX1_isOffered : MethodName := ⟨RX1, "isOffered", "(II)Z"⟩
abbrev cX1_covers : ByteArray := prog_3_method_9_code
def yX1_covers : MethodName := ⟨RX1, "covers", "(III)Z"⟩
abbrev cX1_add : ByteArray := prog_3_method_10_code
def yX1_add : MethodName := ⟨RX1, "add", "(IIII)I"⟩
abbrev cX1_remove : ByteArray := prog_3_method_11_code
def yX1_remove : MethodName := ⟨RX1, "remove", "(II)I"⟩
def RX2 : String := "AmendsLedger$Precedents"
def TX2 : u_T := fun k => match k with
  | 0 => ("AmendsLedger$Precedents", "size", "I", false)
  | 1 => ("AmendsLedger$Precedents", "amendsHeld", "[I", true)
  | 2 => ("AmendsLedger$Precedents", "months", "[I", true)
  | 3 => ("AmendsLedger$Precedents", "setters", "[I", true)
  | _ => ("AmendsLedger$Precedents", "latest", "[I", true)
def tyX2 : Nat → FieldType := fun k => match k with
  | 0 => .int
  | 1 => .array .int
  | 2 => .array .int
  | 3 => .array .int
  | _ => .array .int
abbrev wsX20 : List Cond := u_ws RX2 TX2 5
theorem nmX2 : ∀ a, a < 5 → ∀ b, b < 5 → a ≠ b → (TX2 a).2.1 ≠ (TX2 b).2.1 := by decide +kernel
theorem tyX2_ok : ∀ k, k < 5 → parseFieldDescriptor (TX2 k).2.2.1 = some (tyX2 k) := by decide +kernel
abbrev cX2_init : ByteArray := prog_4_method_1_code
def yX2_init : MethodName := ⟨RX2, "<init>", "()V"⟩
abbrev cX2_copyFrom : ByteArray := prog_4_method_2_code
def yX2_copyFrom : MethodName := ⟨RX2, "copyFrom", "(LAmendsLedger$Precedents;)V"⟩
abbrev cX2_has : ByteArray := prog_4_method_3_code
def yX2_has : MethodName := ⟨RX2, "has", "(I)Z"⟩
abbrev cX2_latestOf : ByteArray := prog_4_method_4_code
def yX2_latestOf : MethodName := ⟨RX2, "latestOf", "(II)I"⟩
abbrev cX2_amendsOf : ByteArray := prog_4_method_5_code
def yX2_amendsOf : MethodName := ⟨RX2, "amendsOf", "(I)I"⟩
abbrev cX2_monthOf : ByteArray := prog_4_method_6_code
def yX2_monthOf : MethodName := ⟨RX2, "monthOf", "(I)I"⟩
abbrev cX2_setterOf : ByteArray := prog_4_method_7_code
def yX2_setterOf : MethodName := ⟨RX2, "setterOf", "(I)I"⟩
abbrev cX2_raise : ByteArray := prog_4_method_8_code
def yX2_raise : MethodName := ⟨RX2, "raise", "(II)V"⟩
abbrev cX2_add : ByteArray := prog_4_method_9_code
def yX2_add : MethodName := ⟨RX2, "add", "(IIIII)I"⟩
def RX3 : String := "AmendsLedger$State"
def TX3 : u_T := fun k => match k with
  | 0 => ("AmendsLedger$State", "menus", "LAmendsLedger$Menus;", true)
  | 1 => ("AmendsLedger$State", "complaints", "LAmendsLedger$Complaints;", true)
  | 2 => ("AmendsLedger$State", "precedents", "LAmendsLedger$Precedents;", true)
  | 3 => ("AmendsLedger$State", "settings", "[I", true)
  | 4 => ("AmendsLedger$State", "bases", "[I", true)
  | 5 => ("AmendsLedger$State", "budgets", "[I", true)
  | 6 => ("AmendsLedger$State", "spent", "[I", true)
  | _ => ("AmendsLedger$State", "month", "I", false)
def tyX3 : Nat → FieldType := fun k => match k with
  | 0 => .object "AmendsLedger$Menus"
  | 1 => .object "AmendsLedger$Complaints"
  | 2 => .object "AmendsLedger$Precedents"
  | 3 => .array .int
  | 4 => .array .int
  | 5 => .array .int
  | 6 => .array .int
  | _ => .int
abbrev wsX30 : List Cond := u_ws RX3 TX3 8
theorem nmX3 : ∀ a, a < 8 → ∀ b, b < 8 → a ≠ b → (TX3 a).2.1 ≠ (TX3 b).2.1 := by decide +kernel
theorem tyX3_ok : ∀ k, k < 8 → parseFieldDescriptor (TX3 k).2.2.1 = some (tyX3 k) := by decide +kernel
abbrev cX3_init : ByteArray := prog_5_method_1_code
def yX3_init : MethodName := ⟨RX3, "<init>", "()V"⟩
abbrev cX3_copyFrom : ByteArray := prog_5_method_2_code
def yX3_copyFrom : MethodName := ⟨RX3, "copyFrom", "(LAmendsLedger$State;)V"⟩
abbrev cX3_settingOf : ByteArray := prog_5_method_3_code
def yX3_settingOf : MethodName := ⟨RX3, "settingOf", "(I)I"⟩
abbrev cX3_baseOf : ByteArray := prog_5_method_4_code
def yX3_baseOf : MethodName := ⟨RX3, "baseOf", "(I)I"⟩
abbrev cX3_budgetOf : ByteArray := prog_5_method_5_code
def yX3_budgetOf : MethodName := ⟨RX3, "budgetOf", "(I)I"⟩
abbrev cX3_spentOf : ByteArray := prog_5_method_6_code
def yX3_spentOf : MethodName := ⟨RX3, "spentOf", "(I)I"⟩
abbrev cX3_leftOf : ByteArray := prog_5_method_7_code
def yX3_leftOf : MethodName := ⟨RX3, "leftOf", "(I)I"⟩
abbrev cX3_changeSetting : ByteArray := prog_5_method_8_code
def yX3_changeSetting : MethodName := ⟨RX3, "changeSetting", "(II)I"⟩
abbrev cX3_changeBase : ByteArray := prog_5_method_9_code
def yX3_changeBase : MethodName := ⟨RX3, "changeBase", "(II)I"⟩
abbrev cX3_isBinding : ByteArray := prog_5_method_10_code
def yX3_isBinding : MethodName := ⟨RX3, "isBinding", "(II)Z"⟩
abbrev cX3_bindingFor : ByteArray := prog_5_method_11_code
def yX3_bindingFor : MethodName := ⟨RX3, "bindingFor", "(I)I"⟩
abbrev cX3_tieOf : ByteArray := prog_5_method_12_code
def yX3_tieOf : MethodName := ⟨RX3, "tieOf", "(I)I"⟩
abbrev cX3_departing : ByteArray := prog_5_method_13_code
def yX3_departing : MethodName := ⟨RX3, "departing", "()I"⟩
abbrev cX3_againstDecision : ByteArray := prog_5_method_14_code
def yX3_againstDecision : MethodName := ⟨RX3, "againstDecision", "(III)I"⟩
abbrev cX3_makeDecision : ByteArray := prog_5_method_15_code
def yX3_makeDecision : MethodName := ⟨RX3, "makeDecision", "(III)I"⟩
abbrev cX3_hand : ByteArray := prog_5_method_16_code
def yX3_hand : MethodName := ⟨RX3, "hand", "(II)V"⟩
abbrev cX3_canBeAppealed : ByteArray := prog_5_method_17_code
def yX3_canBeAppealed : MethodName := ⟨RX3, "canBeAppealed", "(I)Z"⟩
abbrev cX3_againstJudgement : ByteArray := prog_5_method_18_code
def yX3_againstJudgement : MethodName := ⟨RX3, "againstJudgement", "(II)I"⟩
abbrev cX3_makeJudgement : ByteArray := prog_5_method_19_code
def yX3_makeJudgement : MethodName := ⟨RX3, "makeJudgement", "(II)I"⟩
abbrev cX3_owedTo : ByteArray := prog_5_method_20_code
def yX3_owedTo : MethodName := ⟨RX3, "owedTo", "(I)I"⟩
abbrev cX3_topUp : ByteArray := prog_5_method_21_code
def yX3_topUp : MethodName := ⟨RX3, "topUp", "(I)I"⟩
abbrev cX3_waiting : ByteArray := prog_5_method_22_code
def yX3_waiting : MethodName := ⟨RX3, "waiting", "()I"⟩
abbrev cX3_owedInKind : ByteArray := prog_5_method_23_code
def yX3_owedInKind : MethodName := ⟨RX3, "owedInKind", "(I)I"⟩
abbrev cX3_owedInAll : ByteArray := prog_5_method_24_code
def yX3_owedInAll : MethodName := ⟨RX3, "owedInAll", "()I"⟩
abbrev cX3_turnMonth : ByteArray := prog_5_method_25_code
def yX3_turnMonth : MethodName := ⟨RX3, "turnMonth", "()I"⟩
abbrev cX3_ofComplaint : ByteArray := prog_5_method_26_code
def yX3_ofComplaint : MethodName := ⟨RX3, "ofComplaint", "(II)I"⟩
def RX4 : String := "AmendsLedger"
def TX4 : u_T := fun k => match k with
  | 0 => ("AmendsLedger", "now", "LAmendsLedger$State;", true)
  | 1 => ("AmendsLedger", "trial", "LAmendsLedger$State;", true)
  | 2 => ("AmendsLedger", "saved", "[LAmendsLedger$State;", true)
  | 3 => ("AmendsLedger", "savedCount", "I", false)
  | 4 => ("AmendsLedger", "savedNext", "I", false)
  | 5 => ("AmendsLedger", "buffer", "[I", true)
  | _ => ("AmendsLedger", "length", "I", false)
def tyX4 : Nat → FieldType := fun k => match k with
  | 0 => .object "AmendsLedger$State"
  | 1 => .object "AmendsLedger$State"
  | 2 => .array (.object "AmendsLedger$State")
  | 3 => .int
  | 4 => .int
  | 5 => .array .int
  | _ => .int
abbrev wsX40 : List Cond := u_ws RX4 TX4 7
theorem nmX4 : ∀ a, a < 7 → ∀ b, b < 7 → a ≠ b → (TX4 a).2.1 ≠ (TX4 b).2.1 := by decide +kernel
theorem tyX4_ok : ∀ k, k < 7 → parseFieldDescriptor (TX4 k).2.2.1 = some (tyX4 k) := by decide +kernel
abbrev cX4_init : ByteArray := prog_1_method_1_code
def yX4_init : MethodName := ⟨RX4, "<init>", "()V"⟩
abbrev cX4_offer : ByteArray := prog_1_method_2_code
def yX4_offer : MethodName := ⟨RX4, "offer", "(IIII)I"⟩
abbrev cX4_takeOff : ByteArray := prog_1_method_3_code
def yX4_takeOff : MethodName := ⟨RX4, "takeOff", "(II)I"⟩
abbrev cX4_base : ByteArray := prog_1_method_4_code
def yX4_base : MethodName := ⟨RX4, "base", "(II)I"⟩
abbrev cX4_set : ByteArray := prog_1_method_5_code
def yX4_set : MethodName := ⟨RX4, "set", "(II)I"⟩
abbrev cX4_complain : ByteArray := prog_1_method_6_code
def yX4_complain : MethodName := ⟨RX4, "complain", "(III)I"⟩
abbrev cX4_decide : ByteArray := prog_1_method_7_code
def yX4_decide : MethodName := ⟨RX4, "decide", "(III)I"⟩
abbrev cX4_appeal : ByteArray := prog_1_method_8_code
def yX4_appeal : MethodName := ⟨RX4, "appeal", "(I)I"⟩
abbrev cX4_judge : ByteArray := prog_1_method_9_code
def yX4_judge : MethodName := ⟨RX4, "judge", "(II)I"⟩
abbrev cX4_closeMonth : ByteArray := prog_1_method_10_code
def yX4_closeMonth : MethodName := ⟨RX4, "closeMonth", "()I"⟩
abbrev cX4_append : ByteArray := prog_1_method_11_code
def yX4_append : MethodName := ⟨RX4, "append", "(I)I"⟩
abbrev cX4_clearBuffer : ByteArray := prog_1_method_12_code
def yX4_clearBuffer : MethodName := ⟨RX4, "clearBuffer", "()I"⟩
abbrev cX4_firstError : ByteArray := prog_1_method_13_code
def yX4_firstError : MethodName := ⟨RX4, "firstError", "()I"⟩
abbrev cX4_complainAll : ByteArray := prog_1_method_14_code
def yX4_complainAll : MethodName := ⟨RX4, "complainAll", "()I"⟩
abbrev cX4_undo : ByteArray := prog_1_method_15_code
def yX4_undo : MethodName := ⟨RX4, "undo", "()I"⟩
abbrev cX4_complaint : ByteArray := prog_1_method_16_code
def yX4_complaint : MethodName := ⟨RX4, "complaint", "(II)I"⟩
abbrev cX4_amends : ByteArray := prog_1_method_17_code
def yX4_amends : MethodName := ⟨RX4, "amends", "(III)I"⟩
abbrev cX4_precedent : ByteArray := prog_1_method_18_code
def yX4_precedent : MethodName := ⟨RX4, "precedent", "(III)I"⟩
abbrev cX4_kind : ByteArray := prog_1_method_19_code
def yX4_kind : MethodName := ⟨RX4, "kind", "(II)I"⟩
abbrev cX4_count : ByteArray := prog_1_method_20_code
def yX4_count : MethodName := ⟨RX4, "count", "(I)I"⟩
abbrev cX4_setting : ByteArray := prog_1_method_21_code
def yX4_setting : MethodName := ⟨RX4, "setting", "(I)I"⟩
abbrev cX4_ofCustomer : ByteArray := prog_1_method_22_code
def yX4_ofCustomer : MethodName := ⟨RX4, "ofCustomer", "(II)I"⟩
abbrev cX4_whyNot : ByteArray := prog_1_method_23_code
def yX4_whyNot : MethodName := ⟨RX4, "whyNot", "(III)I"⟩
abbrev cX4_fair : ByteArray := prog_1_method_24_code
def yX4_fair : MethodName := ⟨RX4, "fair", "(I)I"⟩
abbrev cX4_ifJudged : ByteArray := prog_1_method_25_code
def yX4_ifJudged : MethodName := ⟨RX4, "ifJudged", "(III)I"⟩
abbrev cX4_monthsToEqual : ByteArray := prog_1_method_26_code
def yX4_monthsToEqual : MethodName := ⟨RX4, "monthsToEqual", "()I"⟩
abbrev cX4_followShare : ByteArray := prog_1_method_27_code
def yX4_followShare : MethodName := ⟨RX4, "followShare", "()D"⟩
abbrev cX4_digest : ByteArray := prog_1_method_28_code
def yX4_digest : MethodName := ⟨RX4, "digest", "()J"⟩
abbrev cX4_withKind : ByteArray := prog_1_method_29_code
def yX4_withKind : MethodName := ⟨RX4, "withKind", "(JI)J"⟩
abbrev cX4_withComplaint : ByteArray := prog_1_method_30_code
def yX4_withComplaint : MethodName := ⟨RX4, "withComplaint", "(JI)J"⟩
abbrev cX4_withBuffer : ByteArray := prog_1_method_31_code
def yX4_withBuffer : MethodName := ⟨RX4, "withBuffer", "(J)J"⟩
abbrev cX4_bitsOf : ByteArray := prog_1_method_32_code
def yX4_bitsOf : MethodName := ⟨RX4, "bitsOf", "(D)J"⟩
abbrev cX4_codeAt : ByteArray := prog_1_method_33_code
def yX4_codeAt : MethodName := ⟨RX4, "codeAt", "(I)I"⟩
abbrev cX4_digitAt : ByteArray := prog_1_method_34_code
def yX4_digitAt : MethodName := ⟨RX4, "digitAt", "(I)I"⟩
abbrev cX4_fitsPlace : ByteArray := prog_1_method_35_code
def yX4_fitsPlace : MethodName := ⟨RX4, "fitsPlace", "(II)Z"⟩
abbrev cX4_save : ByteArray := prog_1_method_36_code
def yX4_save : MethodName := ⟨RX4, "save", "()V"⟩
abbrev cX4_savedAt : ByteArray := prog_1_method_37_code
def yX4_savedAt : MethodName := ⟨RX4, "savedAt", "(I)LAmendsLedger$State;"⟩
abbrev cX4_requireIndex : ByteArray := prog_1_method_38_code
def yX4_requireIndex : MethodName := ⟨RX4, "requireIndex", "(Z)V"⟩
abbrev cX4_requireArgument : ByteArray := prog_1_method_39_code
def yX4_requireArgument : MethodName := ⟨RX4, "requireArgument", "(Z)V"⟩
abbrev cX4_requireState : ByteArray := prog_1_method_40_code
def yX4_requireState : MethodName := ⟨RX4, "requireState", "(Z)V"⟩
abbrev cX4_isWithin : ByteArray := prog_1_method_41_code
def yX4_isWithin : MethodName := ⟨RX4, "isWithin", "(III)Z"⟩
abbrev cX4_isKind : ByteArray := prog_1_method_42_code
def yX4_isKind : MethodName := ⟨RX4, "isKind", "(I)Z"⟩
abbrev cX4_isGroup : ByteArray := prog_1_method_43_code
def yX4_isGroup : MethodName := ⟨RX4, "isGroup", "(I)Z"⟩
abbrev cX4_isCustomer : ByteArray := prog_1_method_44_code
def yX4_isCustomer : MethodName := ⟨RX4, "isCustomer", "(I)Z"⟩
abbrev cX4_isSetting : ByteArray := prog_1_method_45_code
def yX4_isSetting : MethodName := ⟨RX4, "isSetting", "(I)Z"⟩
abbrev cX4_isValueOf : ByteArray := prog_1_method_46_code
def yX4_isValueOf : MethodName := ⟨RX4, "isValueOf", "(II)Z"⟩
abbrev cX4_copyAll : ByteArray := prog_1_method_47_code
def yX4_copyAll : MethodName := ⟨RX4, "copyAll", "([I[I)V"⟩
def RX5 : String := "AmendsLedgerModel"
def TX5 : u_T := fun k => match k with
  | 0 => ("AmendsLedgerModel", "z", "[I", true)
  | 1 => ("AmendsLedgerModel", "rows", "[I", true)
  | 2 => ("AmendsLedgerModel", "aside", "[I", true)
  | 3 => ("AmendsLedgerModel", "savedMany", "I", false)
  | 4 => ("AmendsLedgerModel", "buffer", "[I", true)
  | 5 => ("AmendsLedgerModel", "bufferMany", "I", false)
  | 6 => ("AmendsLedgerModel", "thrown", "I", false)
  | 7 => ("AmendsLedgerModel", "toppedUp", "I", false)
  | 8 => ("AmendsLedgerModel", "place", "I", false)
  | 9 => ("AmendsLedgerModel", "told", "I", false)
  | 10 => ("AmendsLedgerModel", "read", "[I", true)
  | _ => ("AmendsLedgerModel", "h", "J", false)
def tyX5 : Nat → FieldType := fun k => match k with
  | 0 => .array .int
  | 1 => .array .int
  | 2 => .array .int
  | 3 => .int
  | 4 => .array .int
  | 5 => .int
  | 6 => .int
  | 7 => .int
  | 8 => .int
  | 9 => .int
  | 10 => .array .int
  | _ => .long
abbrev wsX50 : List Cond := u_ws RX5 TX5 12
theorem nmX5 : ∀ a, a < 12 → ∀ b, b < 12 → a ≠ b → (TX5 a).2.1 ≠ (TX5 b).2.1 := by decide +kernel
theorem tyX5_ok : ∀ k, k < 12 → parseFieldDescriptor (TX5 k).2.2.1 = some (tyX5 k) := by decide +kernel
abbrev cX5_init : ByteArray := prog_7_method_1_code
def yX5_init : MethodName := ⟨RX5, "<init>", "()V"⟩
abbrev cX5_thrown : ByteArray := prog_7_method_2_code
def yX5_thrown : MethodName := ⟨RX5, "thrown", "()I"⟩
abbrev cX5_fails : ByteArray := prog_7_method_3_code
def yX5_fails : MethodName := ⟨RX5, "fails", "(I)I"⟩
abbrev cX5_in : ByteArray := prog_7_method_4_code
def yX5_in : MethodName := ⟨RX5, "in", "(III)Z"⟩
abbrev cX5_save : ByteArray := prog_7_method_5_code
def yX5_save : MethodName := ⟨RX5, "save", "()V"⟩
abbrev cX5_putAside : ByteArray := prog_7_method_6_code
def yX5_putAside : MethodName := ⟨RX5, "putAside", "()V"⟩
abbrev cX5_putBack : ByteArray := prog_7_method_7_code
def yX5_putBack : MethodName := ⟨RX5, "putBack", "()V"⟩
abbrev cX5_at : ByteArray := prog_7_method_8_code
def yX5_at : MethodName := ⟨RX5, "at", "(I)I"⟩
abbrev cX5_menuAt : ByteArray := prog_7_method_9_code
def yX5_menuAt : MethodName := ⟨RX5, "menuAt", "(II)I"⟩
abbrev cX5_of : ByteArray := prog_7_method_10_code
def yX5_of : MethodName := ⟨RX5, "of", "(I)I"⟩
abbrev cX5_isKind : ByteArray := prog_7_method_11_code
def yX5_isKind : MethodName := ⟨RX5, "isKind", "(I)Z"⟩
abbrev cX5_isAmends : ByteArray := prog_7_method_12_code
def yX5_isAmends : MethodName := ⟨RX5, "isAmends", "(II)Z"⟩
abbrev cX5_isComplaint : ByteArray := prog_7_method_13_code
def yX5_isComplaint : MethodName := ⟨RX5, "isComplaint", "(I)Z"⟩
abbrev cX5_group : ByteArray := prog_7_method_14_code
def yX5_group : MethodName := ⟨RX5, "group", "(I)I"⟩
abbrev cX5_left : ByteArray := prog_7_method_15_code
def yX5_left : MethodName := ⟨RX5, "left", "(I)I"⟩
abbrev cX5_isOffered : ByteArray := prog_7_method_16_code
def yX5_isOffered : MethodName := ⟨RX5, "isOffered", "(II)Z"⟩
abbrev cX5_cost : ByteArray := prog_7_method_17_code
def yX5_cost : MethodName := ⟨RX5, "cost", "(II)I"⟩
abbrev cX5_latest : ByteArray := prog_7_method_18_code
def yX5_latest : MethodName := ⟨RX5, "latest", "(II)I"⟩
abbrev cX5_binds : ByteArray := prog_7_method_19_code
def yX5_binds : MethodName := ⟨RX5, "binds", "(II)Z"⟩
abbrev cX5_waitsFor : ByteArray := prog_7_method_20_code
def yX5_waitsFor : MethodName := ⟨RX5, "waitsFor", "(I)I"⟩
abbrev cX5_offer : ByteArray := prog_7_method_21_code
def yX5_offer : MethodName := ⟨RX5, "offer", "(IIII)I"⟩
abbrev cX5_offered : ByteArray := prog_7_method_22_code
def yX5_offered : MethodName := ⟨RX5, "offered", "(I)I"⟩
abbrev cX5_takeOff : ByteArray := prog_7_method_23_code
def yX5_takeOff : MethodName := ⟨RX5, "takeOff", "(II)I"⟩
abbrev cX5_base : ByteArray := prog_7_method_24_code
def yX5_base : MethodName := ⟨RX5, "base", "(II)I"⟩
abbrev cX5_maySet : ByteArray := prog_7_method_25_code
def yX5_maySet : MethodName := ⟨RX5, "maySet", "(II)Z"⟩
abbrev cX5_set : ByteArray := prog_7_method_26_code
def yX5_set : MethodName := ⟨RX5, "set", "(II)I"⟩
abbrev cX5_complainNow : ByteArray := prog_7_method_27_code
def yX5_complainNow : MethodName := ⟨RX5, "complainNow", "(III)V"⟩
abbrev cX5_complain : ByteArray := prog_7_method_28_code
def yX5_complain : MethodName := ⟨RX5, "complain", "(III)I"⟩
abbrev cX5_fits : ByteArray := prog_7_method_29_code
def yX5_fits : MethodName := ⟨RX5, "fits", "(II)Z"⟩
abbrev cX5_whyDecided : ByteArray := prog_7_method_30_code
def yX5_whyDecided : MethodName := ⟨RX5, "whyDecided", "(III)I"⟩
abbrev cX5_whyJudged : ByteArray := prog_7_method_31_code
def yX5_whyJudged : MethodName := ⟨RX5, "whyJudged", "(II)I"⟩
abbrev cX5_why : ByteArray := prog_7_method_32_code
def yX5_why : MethodName := ⟨RX5, "why", "(III)I"⟩
abbrev cX5_give : ByteArray := prog_7_method_33_code
def yX5_give : MethodName := ⟨RX5, "give", "(II)V"⟩
abbrev cX5_setPrecedent : ByteArray := prog_7_method_34_code
def yX5_setPrecedent : MethodName := ⟨RX5, "setPrecedent", "(II)I"⟩
abbrev cX5_decide : ByteArray := prog_7_method_35_code
def yX5_decide : MethodName := ⟨RX5, "decide", "(III)I"⟩
abbrev cX5_staged : ByteArray := prog_7_method_36_code
def yX5_staged : MethodName := ⟨RX5, "staged", "(I)I"⟩
abbrev cX5_appeal : ByteArray := prog_7_method_37_code
def yX5_appeal : MethodName := ⟨RX5, "appeal", "(I)I"⟩
abbrev cX5_topUps : ByteArray := prog_7_method_38_code
def yX5_topUps : MethodName := ⟨RX5, "topUps", "(I)I"⟩
abbrev cX5_judgeNow : ByteArray := prog_7_method_39_code
def yX5_judgeNow : MethodName := ⟨RX5, "judgeNow", "(II)I"⟩
abbrev cX5_judge : ByteArray := prog_7_method_40_code
def yX5_judge : MethodName := ⟨RX5, "judge", "(II)I"⟩
abbrev cX5_closeNow : ByteArray := prog_7_method_41_code
def yX5_closeNow : MethodName := ⟨RX5, "closeNow", "()I"⟩
abbrev cX5_closeMonth : ByteArray := prog_7_method_42_code
def yX5_closeMonth : MethodName := ⟨RX5, "closeMonth", "()I"⟩
abbrev cX5_append : ByteArray := prog_7_method_43_code
def yX5_append : MethodName := ⟨RX5, "append", "(I)I"⟩
abbrev cX5_clearBuffer : ByteArray := prog_7_method_44_code
def yX5_clearBuffer : MethodName := ⟨RX5, "clearBuffer", "()I"⟩
abbrev cX5_takes : ByteArray := prog_7_method_45_code
def yX5_takes : MethodName := ⟨RX5, "takes", "(I)Z"⟩
abbrev cX5_digit : ByteArray := prog_7_method_46_code
def yX5_digit : MethodName := ⟨RX5, "digit", "(III)Z"⟩
abbrev cX5_isOne : ByteArray := prog_7_method_47_code
def yX5_isOne : MethodName := ⟨RX5, "isOne", "()Z"⟩
abbrev cX5_isText : ByteArray := prog_7_method_48_code
def yX5_isText : MethodName := ⟨RX5, "isText", "()Z"⟩
abbrev cX5_firstError : ByteArray := prog_7_method_49_code
def yX5_firstError : MethodName := ⟨RX5, "firstError", "()I"⟩
abbrev cX5_complainAll : ByteArray := prog_7_method_50_code
def yX5_complainAll : MethodName := ⟨RX5, "complainAll", "()I"⟩
abbrev cX5_undo : ByteArray := prog_7_method_51_code
def yX5_undo : MethodName := ⟨RX5, "undo", "()I"⟩
abbrev cX5_complaintOf : ByteArray := prog_7_method_52_code
def yX5_complaintOf : MethodName := ⟨RX5, "complaintOf", "(II)I"⟩
abbrev cX5_complaint : ByteArray := prog_7_method_53_code
def yX5_complaint : MethodName := ⟨RX5, "complaint", "(II)I"⟩
abbrev cX5_having : ByteArray := prog_7_method_54_code
def yX5_having : MethodName := ⟨RX5, "having", "(II)I"⟩
abbrev cX5_amendsOf : ByteArray := prog_7_method_55_code
def yX5_amendsOf : MethodName := ⟨RX5, "amendsOf", "(III)I"⟩
abbrev cX5_amends : ByteArray := prog_7_method_56_code
def yX5_amends : MethodName := ⟨RX5, "amends", "(III)I"⟩
abbrev cX5_following : ByteArray := prog_7_method_57_code
def yX5_following : MethodName := ⟨RX5, "following", "(I)I"⟩
abbrev cX5_precedentOf : ByteArray := prog_7_method_58_code
def yX5_precedentOf : MethodName := ⟨RX5, "precedentOf", "(III)I"⟩
abbrev cX5_precedent : ByteArray := prog_7_method_59_code
def yX5_precedent : MethodName := ⟨RX5, "precedent", "(III)I"⟩
abbrev cX5_ofComplaints : ByteArray := prog_7_method_60_code
def yX5_ofComplaints : MethodName := ⟨RX5, "ofComplaints", "(II)I"⟩
abbrev cX5_kindOf : ByteArray := prog_7_method_61_code
def yX5_kindOf : MethodName := ⟨RX5, "kindOf", "(II)I"⟩
abbrev cX5_kind : ByteArray := prog_7_method_62_code
def yX5_kind : MethodName := ⟨RX5, "kind", "(II)I"⟩
abbrev cX5_departing : ByteArray := prog_7_method_63_code
def yX5_departing : MethodName := ⟨RX5, "departing", "()I"⟩
abbrev cX5_unequal : ByteArray := prog_7_method_64_code
def yX5_unequal : MethodName := ⟨RX5, "unequal", "()I"⟩
abbrev cX5_counted : ByteArray := prog_7_method_65_code
def yX5_counted : MethodName := ⟨RX5, "counted", "(I)I"⟩
abbrev cX5_count : ByteArray := prog_7_method_66_code
def yX5_count : MethodName := ⟨RX5, "count", "(I)I"⟩
abbrev cX5_setting : ByteArray := prog_7_method_67_code
def yX5_setting : MethodName := ⟨RX5, "setting", "(I)I"⟩
abbrev cX5_customerAt : ByteArray := prog_7_method_68_code
def yX5_customerAt : MethodName := ⟨RX5, "customerAt", "(II)I"⟩
abbrev cX5_ofCustomer : ByteArray := prog_7_method_69_code
def yX5_ofCustomer : MethodName := ⟨RX5, "ofCustomer", "(II)I"⟩
abbrev cX5_whyNot : ByteArray := prog_7_method_70_code
def yX5_whyNot : MethodName := ⟨RX5, "whyNot", "(III)I"⟩
abbrev cX5_fairOf : ByteArray := prog_7_method_71_code
def yX5_fairOf : MethodName := ⟨RX5, "fairOf", "(I)I"⟩
abbrev cX5_fair : ByteArray := prog_7_method_72_code
def yX5_fair : MethodName := ⟨RX5, "fair", "(I)I"⟩
abbrev cX5_judgedOf : ByteArray := prog_7_method_73_code
def yX5_judgedOf : MethodName := ⟨RX5, "judgedOf", "(III)I"⟩
abbrev cX5_ifJudged : ByteArray := prog_7_method_74_code
def yX5_ifJudged : MethodName := ⟨RX5, "ifJudged", "(III)I"⟩
abbrev cX5_monthsOf : ByteArray := prog_7_method_75_code
def yX5_monthsOf : MethodName := ⟨RX5, "monthsOf", "()I"⟩
abbrev cX5_monthsToEqual : ByteArray := prog_7_method_76_code
def yX5_monthsToEqual : MethodName := ⟨RX5, "monthsToEqual", "()I"⟩
abbrev cX5_shareOf : ByteArray := prog_7_method_77_code
def yX5_shareOf : MethodName := ⟨RX5, "shareOf", "()D"⟩
abbrev cX5_followShare : ByteArray := prog_7_method_78_code
def yX5_followShare : MethodName := ⟨RX5, "followShare", "()D"⟩
abbrev cX5_mix : ByteArray := prog_7_method_79_code
def yX5_mix : MethodName := ⟨RX5, "mix", "(J)V"⟩
abbrev cX5_mixKind : ByteArray := prog_7_method_80_code
def yX5_mixKind : MethodName := ⟨RX5, "mixKind", "(I)V"⟩
abbrev cX5_mixComplaint : ByteArray := prog_7_method_81_code
def yX5_mixComplaint : MethodName := ⟨RX5, "mixComplaint", "(I)V"⟩
abbrev cX5_digest : ByteArray := prog_7_method_82_code
def yX5_digest : MethodName := ⟨RX5, "digest", "()J"⟩
def RJx145de : String := "java/io/Serializable"
def TJx145de : u_T := fun k => match k with
  | _ => ("", "", "", false)
def tyJx145de : Nat → FieldType := fun k => match k with
  | _ => .int
abbrev wsJx145de0 : List Cond := u_ws RJx145de TJx145de 0
theorem nmJx145de : ∀ a, a < 0 → ∀ b, b < 0 → a ≠ b → (TJx145de a).2.1 ≠ (TJx145de b).2.1 := by decide +kernel
theorem tyJx145de_ok : ∀ k, k < 0 → parseFieldDescriptor (TJx145de k).2.2.1 = some (tyJx145de k) := by decide +kernel
def RJxb160c : String := "java/lang/Comparable"
def TJxb160c : u_T := fun k => match k with
  | _ => ("", "", "", false)
def tyJxb160c : Nat → FieldType := fun k => match k with
  | _ => .int
abbrev wsJxb160c0 : List Cond := u_ws RJxb160c TJxb160c 0
theorem nmJxb160c : ∀ a, a < 0 → ∀ b, b < 0 → a ≠ b → (TJxb160c a).2.1 ≠ (TJxb160c b).2.1 := by decide +kernel
theorem tyJxb160c_ok : ∀ k, k < 0 → parseFieldDescriptor (TJxb160c k).2.2.1 = some (tyJxb160c k) := by decide +kernel
def RJxe99ae : String := "java/lang/Double"
def TJxe99ae : u_T := fun k => match k with
  | _ => ("", "", "", false)
def tyJxe99ae : Nat → FieldType := fun k => match k with
  | _ => .int
abbrev wsJxe99ae0 : List Cond := u_ws RJxe99ae TJxe99ae 0
theorem nmJxe99ae : ∀ a, a < 0 → ∀ b, b < 0 → a ≠ b → (TJxe99ae a).2.1 ≠ (TJxe99ae b).2.1 := by decide +kernel
theorem tyJxe99ae_ok : ∀ k, k < 0 → parseFieldDescriptor (TJxe99ae k).2.2.1 = some (tyJxe99ae k) := by decide +kernel
abbrev cJxe99ae_isNaN_b9ae7 : ByteArray := prog_8_method_6_code
def yJxe99ae_isNaN_b9ae7 : MethodName := ⟨RJxe99ae, "isNaN", "(D)Z"⟩
abbrev cJxe99ae_doubleToLongBits_ccdee : ByteArray := prog_8_method_23_code
def yJxe99ae_doubleToLongBits_ccdee : MethodName := ⟨RJxe99ae, "doubleToLongBits", "(D)J"⟩
def RJ9 : String := "java/lang/Math"
def TJ9 : u_T := fun k => match k with
  | _ => ("", "", "", false)
def tyJ9 : Nat → FieldType := fun k => match k with
  | _ => .int
abbrev wsJ90 : List Cond := u_ws RJ9 TJ9 0
theorem nmJ9 : ∀ a, a < 0 → ∀ b, b < 0 → a ≠ b → (TJ9 a).2.1 ≠ (TJ9 b).2.1 := by decide +kernel
theorem tyJ9_ok : ∀ k, k < 0 → parseFieldDescriptor (TJ9 k).2.2.1 = some (tyJ9 k) := by decide +kernel
abbrev cJ9_max_7cf53 : ByteArray := prog_13_method_65_code
def yJ9_max_7cf53 : MethodName := ⟨RJ9, "max", "(II)I"⟩
abbrev cJ9_min_7cf53 : ByteArray := prog_13_method_69_code
def yJ9_min_7cf53 : MethodName := ⟨RJ9, "min", "(II)I"⟩
def RJxd2413 : String := "java/lang/Number"
def TJxd2413 : u_T := fun k => match k with
  | _ => ("", "", "", false)
def tyJxd2413 : Nat → FieldType := fun k => match k with
  | _ => .int
abbrev wsJxd24130 : List Cond := u_ws RJxd2413 TJxd2413 0
theorem nmJxd2413 : ∀ a, a < 0 → ∀ b, b < 0 → a ≠ b → (TJxd2413 a).2.1 ≠ (TJxd2413 b).2.1 := by decide +kernel
theorem tyJxd2413_ok : ∀ k, k < 0 → parseFieldDescriptor (TJxd2413 k).2.2.1 = some (tyJxd2413 k) := by decide +kernel
def RJ10 : String := "java/lang/System"
def TJ10 : u_T := fun k => match k with
  | _ => ("", "", "", false)
def tyJ10 : Nat → FieldType := fun k => match k with
  | _ => .int
abbrev wsJ100 : List Cond := u_ws RJ10 TJ10 0
theorem nmJ10 : ∀ a, a < 0 → ∀ b, b < 0 → a ≠ b → (TJ10 a).2.1 ≠ (TJ10 b).2.1 := by decide +kernel
theorem tyJ10_ok : ∀ k, k < 0 → parseFieldDescriptor (TJ10 k).2.2.1 = some (tyJ10 k) := by decide +kernel
def RJxfd54e : String := "java/lang/constant/Constable"
def TJxfd54e : u_T := fun k => match k with
  | _ => ("", "", "", false)
def tyJxfd54e : Nat → FieldType := fun k => match k with
  | _ => .int
abbrev wsJxfd54e0 : List Cond := u_ws RJxfd54e TJxfd54e 0
theorem nmJxfd54e : ∀ a, a < 0 → ∀ b, b < 0 → a ≠ b → (TJxfd54e a).2.1 ≠ (TJxfd54e b).2.1 := by decide +kernel
theorem tyJxfd54e_ok : ∀ k, k < 0 → parseFieldDescriptor (TJxfd54e k).2.2.1 = some (tyJxfd54e k) := by decide +kernel
def RJx3cf43 : String := "java/lang/constant/ConstantDesc"
def TJx3cf43 : u_T := fun k => match k with
  | _ => ("", "", "", false)
def tyJx3cf43 : Nat → FieldType := fun k => match k with
  | _ => .int
abbrev wsJx3cf430 : List Cond := u_ws RJx3cf43 TJx3cf43 0
theorem nmJx3cf43 : ∀ a, a < 0 → ∀ b, b < 0 → a ≠ b → (TJx3cf43 a).2.1 ≠ (TJx3cf43 b).2.1 := by decide +kernel
theorem tyJx3cf43_ok : ∀ k, k < 0 → parseFieldDescriptor (TJx3cf43 k).2.2.1 = some (tyJx3cf43 k) := by decide +kernel
def RJ7 : String := "java/util/Arrays"
def TJ7 : u_T := fun k => match k with
  | _ => ("", "", "", false)
def tyJ7 : Nat → FieldType := fun k => match k with
  | _ => .int
abbrev wsJ70 : List Cond := u_ws RJ7 TJ7 0
theorem nmJ7 : ∀ a, a < 0 → ∀ b, b < 0 → a ≠ b → (TJ7 a).2.1 ≠ (TJ7 b).2.1 := by decide +kernel
theorem tyJ7_ok : ∀ k, k < 0 → parseFieldDescriptor (TJ7 k).2.2.1 = some (tyJ7 k) := by decide +kernel
abbrev cJ7_fill_53178 : ByteArray := prog_18_method_103_code
def yJ7_fill_53178 : MethodName := ⟨RJ7, "fill", "([II)V"⟩
def RL : String := "AmendsLedgerLaw"
abbrev cL_offer : ByteArray := method_3_code
def yL_offer : MethodName := ⟨RL, "offer", "(LAmendsLedger;IIII[J)I"⟩
abbrev cL_takeOff : ByteArray := method_4_code
def yL_takeOff : MethodName := ⟨RL, "takeOff", "(LAmendsLedger;II[J)I"⟩
abbrev cL_base : ByteArray := method_5_code
def yL_base : MethodName := ⟨RL, "base", "(LAmendsLedger;II[J)I"⟩
abbrev cL_set : ByteArray := method_6_code
def yL_set : MethodName := ⟨RL, "set", "(LAmendsLedger;II[J)I"⟩
abbrev cL_complain : ByteArray := method_7_code
def yL_complain : MethodName := ⟨RL, "complain", "(LAmendsLedger;III[J)I"⟩
abbrev cL_decide : ByteArray := method_8_code
def yL_decide : MethodName := ⟨RL, "decide", "(LAmendsLedger;III[J)I"⟩
abbrev cL_appeal : ByteArray := method_9_code
def yL_appeal : MethodName := ⟨RL, "appeal", "(LAmendsLedger;I[J)I"⟩
abbrev cL_judge : ByteArray := method_10_code
def yL_judge : MethodName := ⟨RL, "judge", "(LAmendsLedger;II[J)I"⟩
abbrev cL_closeMonth : ByteArray := method_11_code
def yL_closeMonth : MethodName := ⟨RL, "closeMonth", "(LAmendsLedger;[J)I"⟩
abbrev cL_append : ByteArray := method_12_code
def yL_append : MethodName := ⟨RL, "append", "(LAmendsLedger;I[J)I"⟩
abbrev cL_complainAll : ByteArray := method_13_code
def yL_complainAll : MethodName := ⟨RL, "complainAll", "(LAmendsLedger;[J)I"⟩
abbrev cL_undo : ByteArray := method_14_code
def yL_undo : MethodName := ⟨RL, "undo", "(LAmendsLedger;[J)I"⟩
abbrev cL_complaint : ByteArray := method_15_code
def yL_complaint : MethodName := ⟨RL, "complaint", "(LAmendsLedger;II[J)I"⟩
abbrev cL_amends : ByteArray := method_16_code
def yL_amends : MethodName := ⟨RL, "amends", "(LAmendsLedger;III[J)I"⟩
abbrev cL_precedent : ByteArray := method_17_code
def yL_precedent : MethodName := ⟨RL, "precedent", "(LAmendsLedger;III[J)I"⟩
abbrev cL_kind : ByteArray := method_18_code
def yL_kind : MethodName := ⟨RL, "kind", "(LAmendsLedger;II[J)I"⟩
abbrev cL_count : ByteArray := method_19_code
def yL_count : MethodName := ⟨RL, "count", "(LAmendsLedger;I[J)I"⟩
abbrev cL_setting : ByteArray := method_20_code
def yL_setting : MethodName := ⟨RL, "setting", "(LAmendsLedger;I[J)I"⟩
abbrev cL_ofCustomer : ByteArray := method_21_code
def yL_ofCustomer : MethodName := ⟨RL, "ofCustomer", "(LAmendsLedger;II[J)I"⟩
abbrev cL_whyNot : ByteArray := method_22_code
def yL_whyNot : MethodName := ⟨RL, "whyNot", "(LAmendsLedger;III[J)I"⟩
abbrev cL_fair : ByteArray := method_23_code
def yL_fair : MethodName := ⟨RL, "fair", "(LAmendsLedger;I[J)I"⟩
abbrev cL_ifJudged : ByteArray := method_24_code
def yL_ifJudged : MethodName := ⟨RL, "ifJudged", "(LAmendsLedger;III[J)I"⟩
abbrev cL_law : ByteArray := code
def yL_law : MethodName := ⟨RL, "law", "([I)Z"⟩
abbrev vwCl : List vw_C := [(RX0, TX0, 10), (RX1, TX1, 5), (RX2, TX2, 5), (RX3, TX3, 8), (RX4, TX4, 7), (RX5, TX5, 12)]
