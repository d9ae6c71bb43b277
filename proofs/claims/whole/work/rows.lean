section
-- ===== PART A: goes FIRST, ahead of the names: the tables' words, and 'selects' of the private methods out of them =====
/-- a private method of a class that the tables say can be made, by its rows of tables_1 -/
def lw_okq (q : MethodName × Nat) : Prop := (q.1.cls ≠ "java/lang/invoke/MethodHandle" ∧ q.1.cls ≠ "java/lang/invoke/VarHandle") ∧ Cond.instantiable q.1.cls q.2 ∈ tables_1 ∧ Cond.privateMethod q.1 ∈ tables_1 ∧ Cond.instanceMethod q.1 ∈ tables_1
theorem lw_p0 : lw_okq (⟨"LicenceTexts$Words", "begin", "(I)V"⟩, 5) := ⟨⟨by decide +kernel, by decide +kernel⟩, List.mem_of_getElem? (i := 33) (by decide +kernel), List.mem_of_getElem? (i := 186) (by decide +kernel), List.mem_of_getElem? (i := 187) (by decide +kernel)⟩
theorem lw_p1 : lw_okq (⟨"LicenceTexts$Words", "lengthen", "(I)V"⟩, 5) := ⟨⟨by decide +kernel, by decide +kernel⟩, List.mem_of_getElem? (i := 33) (by decide +kernel), List.mem_of_getElem? (i := 190) (by decide +kernel), List.mem_of_getElem? (i := 191) (by decide +kernel)⟩
theorem lw_p2 : lw_okq (⟨"LicenceTexts", "mayBegin", "(I)Z"⟩, 9) := ⟨⟨by decide +kernel, by decide +kernel⟩, List.mem_of_getElem? (i := 23) (by decide +kernel), List.mem_of_getElem? (i := 198) (by decide +kernel), List.mem_of_getElem? (i := 199) (by decide +kernel)⟩
theorem lw_p3 : lw_okq (⟨"LicenceTexts$TextReader", "take", "(I)Z"⟩, 8) := ⟨⟨by decide +kernel, by decide +kernel⟩, List.mem_of_getElem? (i := 273) (by decide +kernel), List.mem_of_getElem? (i := 310) (by decide +kernel), List.mem_of_getElem? (i := 311) (by decide +kernel)⟩
theorem lw_p4 : lw_okq (⟨"LicenceTexts$TextReader", "takeItem", "(I)Z"⟩, 8) := ⟨⟨by decide +kernel, by decide +kernel⟩, List.mem_of_getElem? (i := 273) (by decide +kernel), List.mem_of_getElem? (i := 314) (by decide +kernel), List.mem_of_getElem? (i := 315) (by decide +kernel)⟩
theorem lw_p5 : lw_okq (⟨"LicenceTexts$Words", "startOf", "(I)I"⟩, 5) := ⟨⟨by decide +kernel, by decide +kernel⟩, List.mem_of_getElem? (i := 33) (by decide +kernel), List.mem_of_getElem? (i := 323) (by decide +kernel), List.mem_of_getElem? (i := 324) (by decide +kernel)⟩
theorem lw_p6 : lw_okq (⟨"LicenceTexts$Words", "endOf", "(I)I"⟩, 5) := ⟨⟨by decide +kernel, by decide +kernel⟩, List.mem_of_getElem? (i := 33) (by decide +kernel), List.mem_of_getElem? (i := 327) (by decide +kernel), List.mem_of_getElem? (i := 328) (by decide +kernel)⟩
theorem lw_p7 : lw_okq (⟨"LicenceTexts$TextReader", "takeTableNumber", "(I)Z"⟩, 8) := ⟨⟨by decide +kernel, by decide +kernel⟩, List.mem_of_getElem? (i := 273) (by decide +kernel), List.mem_of_getElem? (i := 422) (by decide +kernel), List.mem_of_getElem? (i := 423) (by decide +kernel)⟩
theorem lw_p8 : lw_okq (⟨"LicenceTexts$TextReader", "takeAtom", "(I)Z"⟩, 8) := ⟨⟨by decide +kernel, by decide +kernel⟩, List.mem_of_getElem? (i := 273) (by decide +kernel), List.mem_of_getElem? (i := 440) (by decide +kernel), List.mem_of_getElem? (i := 441) (by decide +kernel)⟩
theorem lw_p9 : lw_okq (⟨"LicenceTexts$TextReader", "endAtom", "()V"⟩, 8) := ⟨⟨by decide +kernel, by decide +kernel⟩, List.mem_of_getElem? (i := 273) (by decide +kernel), List.mem_of_getElem? (i := 448) (by decide +kernel), List.mem_of_getElem? (i := 449) (by decide +kernel)⟩
theorem lw_p10 : lw_okq (⟨"LicenceTexts$TextReader", "settle", "(I)V"⟩, 8) := ⟨⟨by decide +kernel, by decide +kernel⟩, List.mem_of_getElem? (i := 273) (by decide +kernel), List.mem_of_getElem? (i := 452) (by decide +kernel), List.mem_of_getElem? (i := 453) (by decide +kernel)⟩
theorem lw_p11 : lw_okq (⟨"LicenceTexts$TextReader", "waitAround", "(II)V"⟩, 8) := ⟨⟨by decide +kernel, by decide +kernel⟩, List.mem_of_getElem? (i := 273) (by decide +kernel), List.mem_of_getElem? (i := 474) (by decide +kernel), List.mem_of_getElem? (i := 475) (by decide +kernel)⟩
theorem lw_p12 : lw_okq (⟨"LicenceTexts$TextReader", "takeFactName", "(I)Z"⟩, 8) := ⟨⟨by decide +kernel, by decide +kernel⟩, List.mem_of_getElem? (i := 273) (by decide +kernel), List.mem_of_getElem? (i := 478) (by decide +kernel), List.mem_of_getElem? (i := 479) (by decide +kernel)⟩
theorem lw_p13 : lw_okq (⟨"LicenceTexts$TextReader", "takeTableName", "(I)Z"⟩, 8) := ⟨⟨by decide +kernel, by decide +kernel⟩, List.mem_of_getElem? (i := 273) (by decide +kernel), List.mem_of_getElem? (i := 482) (by decide +kernel), List.mem_of_getElem? (i := 483) (by decide +kernel)⟩
theorem lw_p14 : lw_okq (⟨"LicenceTexts$TextReader", "takeBehindAtom", "(I)Z"⟩, 8) := ⟨⟨by decide +kernel, by decide +kernel⟩, List.mem_of_getElem? (i := 273) (by decide +kernel), List.mem_of_getElem? (i := 486) (by decide +kernel), List.mem_of_getElem? (i := 487) (by decide +kernel)⟩
theorem lw_p15 : lw_okq (⟨"LicenceTexts$TextReader", "operatorAt", "(I)I"⟩, 8) := ⟨⟨by decide +kernel, by decide +kernel⟩, List.mem_of_getElem? (i := 273) (by decide +kernel), List.mem_of_getElem? (i := 490) (by decide +kernel), List.mem_of_getElem? (i := 491) (by decide +kernel)⟩
def lw_privs_1 : List (MethodName × Nat) := [(⟨"LicenceTexts$Words", "begin", "(I)V"⟩, 5), (⟨"LicenceTexts$Words", "lengthen", "(I)V"⟩, 5), (⟨"LicenceTexts", "mayBegin", "(I)Z"⟩, 9), (⟨"LicenceTexts$TextReader", "take", "(I)Z"⟩, 8), (⟨"LicenceTexts$TextReader", "takeItem", "(I)Z"⟩, 8), (⟨"LicenceTexts$Words", "startOf", "(I)I"⟩, 5), (⟨"LicenceTexts$Words", "endOf", "(I)I"⟩, 5), (⟨"LicenceTexts$TextReader", "takeTableNumber", "(I)Z"⟩, 8), (⟨"LicenceTexts$TextReader", "takeAtom", "(I)Z"⟩, 8), (⟨"LicenceTexts$TextReader", "endAtom", "()V"⟩, 8), (⟨"LicenceTexts$TextReader", "settle", "(I)V"⟩, 8), (⟨"LicenceTexts$TextReader", "waitAround", "(II)V"⟩, 8), (⟨"LicenceTexts$TextReader", "takeFactName", "(I)Z"⟩, 8), (⟨"LicenceTexts$TextReader", "takeTableName", "(I)Z"⟩, 8), (⟨"LicenceTexts$TextReader", "takeBehindAtom", "(I)Z"⟩, 8), (⟨"LicenceTexts$TextReader", "operatorAt", "(I)I"⟩, 8)]
theorem lw_r1 : ∀ q ∈ lw_privs_1, lw_okq q := List.forall_mem_cons.mpr ⟨lw_p0, List.forall_mem_cons.mpr ⟨lw_p1, List.forall_mem_cons.mpr ⟨lw_p2, List.forall_mem_cons.mpr ⟨lw_p3, List.forall_mem_cons.mpr ⟨lw_p4, List.forall_mem_cons.mpr ⟨lw_p5, List.forall_mem_cons.mpr ⟨lw_p6, List.forall_mem_cons.mpr ⟨lw_p7, List.forall_mem_cons.mpr ⟨lw_p8, List.forall_mem_cons.mpr ⟨lw_p9, List.forall_mem_cons.mpr ⟨lw_p10, List.forall_mem_cons.mpr ⟨lw_p11, List.forall_mem_cons.mpr ⟨lw_p12, List.forall_mem_cons.mpr ⟨lw_p13, List.forall_mem_cons.mpr ⟨lw_p14, List.forall_mem_cons.mpr ⟨lw_p15, fun _ h => absurd h List.not_mem_nil⟩⟩⟩⟩⟩⟩⟩⟩⟩⟩⟩⟩⟩⟩⟩⟩
theorem lw_p16 : lw_okq (⟨"LicenceTexts$TextReader", "closeBracket", "()Z"⟩, 8) := ⟨⟨by decide +kernel, by decide +kernel⟩, List.mem_of_getElem? (i := 273) (by decide +kernel), List.mem_of_getElem? (i := 500) (by decide +kernel), List.mem_of_getElem? (i := 501) (by decide +kernel)⟩
theorem lw_p17 : lw_okq (⟨"LicenceTexts$TextReader", "relationAt", "(I)I"⟩, 8) := ⟨⟨by decide +kernel, by decide +kernel⟩, List.mem_of_getElem? (i := 273) (by decide +kernel), List.mem_of_getElem? (i := 504) (by decide +kernel), List.mem_of_getElem? (i := 505) (by decide +kernel)⟩
theorem lw_p18 : lw_okq (⟨"LicenceTexts$TextReader", "takeNeed", "(I)Z"⟩, 8) := ⟨⟨by decide +kernel, by decide +kernel⟩, List.mem_of_getElem? (i := 273) (by decide +kernel), List.mem_of_getElem? (i := 513) (by decide +kernel), List.mem_of_getElem? (i := 514) (by decide +kernel)⟩
theorem lw_p19 : lw_okq (⟨"LicenceTexts$TextReader", "takeRuleEnd", "(I)Z"⟩, 8) := ⟨⟨by decide +kernel, by decide +kernel⟩, List.mem_of_getElem? (i := 273) (by decide +kernel), List.mem_of_getElem? (i := 526) (by decide +kernel), List.mem_of_getElem? (i := 527) (by decide +kernel)⟩
theorem lw_p20 : lw_okq (⟨"LicenceTexts", "keep", "(LLicenceTexts$Edition;)V"⟩, 9) := ⟨⟨by decide +kernel, by decide +kernel⟩, List.mem_of_getElem? (i := 23) (by decide +kernel), List.mem_of_getElem? (i := 542) (by decide +kernel), List.mem_of_getElem? (i := 543) (by decide +kernel)⟩
theorem lw_p21 : lw_okq (⟨"LicenceTexts", "look", "(ILLicenceTexts$Findings;)I"⟩, 9) := ⟨⟨by decide +kernel, by decide +kernel⟩, List.mem_of_getElem? (i := 23) (by decide +kernel), List.mem_of_getElem? (i := 575) (by decide +kernel), List.mem_of_getElem? (i := 576) (by decide +kernel)⟩
theorem lw_p22 : lw_okq (⟨"LicenceTexts", "editionOn", "(I)LLicenceTexts$Edition;"⟩, 9) := ⟨⟨by decide +kernel, by decide +kernel⟩, List.mem_of_getElem? (i := 23) (by decide +kernel), List.mem_of_getElem? (i := 583) (by decide +kernel), List.mem_of_getElem? (i := 584) (by decide +kernel)⟩
theorem lw_p23 : lw_okq (⟨"LicenceTexts$Findings", "has", "(I)Z"⟩, 5) := ⟨⟨by decide +kernel, by decide +kernel⟩, List.mem_of_getElem? (i := 112) (by decide +kernel), List.mem_of_getElem? (i := 599) (by decide +kernel), List.mem_of_getElem? (i := 600) (by decide +kernel)⟩
theorem lw_p24 : lw_okq (⟨"LicenceTexts$Reckoner", "follow", "(LLicenceTexts$Edition;II)I"⟩, 5) := ⟨⟨by decide +kernel, by decide +kernel⟩, List.mem_of_getElem? (i := 88) (by decide +kernel), List.mem_of_getElem? (i := 608) (by decide +kernel), List.mem_of_getElem? (i := 609) (by decide +kernel)⟩
theorem lw_p25 : lw_okq (⟨"LicenceTexts$Reckoner", "related", "(I)Z"⟩, 5) := ⟨⟨by decide +kernel, by decide +kernel⟩, List.mem_of_getElem? (i := 88) (by decide +kernel), List.mem_of_getElem? (i := 614) (by decide +kernel), List.mem_of_getElem? (i := 615) (by decide +kernel)⟩
theorem lw_p26 : lw_okq (⟨"LicenceTexts$Reckoner", "pop", "()J"⟩, 5) := ⟨⟨by decide +kernel, by decide +kernel⟩, List.mem_of_getElem? (i := 88) (by decide +kernel), List.mem_of_getElem? (i := 618) (by decide +kernel), List.mem_of_getElem? (i := 619) (by decide +kernel)⟩
theorem lw_p27 : lw_okq (⟨"LicenceTexts$Reckoner", "reckon", "(IILLicenceTexts$Tables;)Z"⟩, 5) := ⟨⟨by decide +kernel, by decide +kernel⟩, List.mem_of_getElem? (i := 88) (by decide +kernel), List.mem_of_getElem? (i := 622) (by decide +kernel), List.mem_of_getElem? (i := 623) (by decide +kernel)⟩
theorem lw_p28 : lw_okq (⟨"LicenceTexts$Reckoner", "push", "(J)V"⟩, 5) := ⟨⟨by decide +kernel, by decide +kernel⟩, List.mem_of_getElem? (i := 88) (by decide +kernel), List.mem_of_getElem? (i := 626) (by decide +kernel), List.mem_of_getElem? (i := 627) (by decide +kernel)⟩
theorem lw_p29 : lw_okq (⟨"LicenceTexts$Reckoner", "pushFact", "(I)Z"⟩, 5) := ⟨⟨by decide +kernel, by decide +kernel⟩, List.mem_of_getElem? (i := 88) (by decide +kernel), List.mem_of_getElem? (i := 630) (by decide +kernel), List.mem_of_getElem? (i := 631) (by decide +kernel)⟩
theorem lw_p30 : lw_okq (⟨"LicenceTexts$Reckoner", "pushPlace", "(LLicenceTexts$Tables;I)Z"⟩, 5) := ⟨⟨by decide +kernel, by decide +kernel⟩, List.mem_of_getElem? (i := 88) (by decide +kernel), List.mem_of_getElem? (i := 642) (by decide +kernel), List.mem_of_getElem? (i := 643) (by decide +kernel)⟩
theorem lw_p31 : lw_okq (⟨"LicenceTexts$Reckoner", "combine", "(I)Z"⟩, 5) := ⟨⟨by decide +kernel, by decide +kernel⟩, List.mem_of_getElem? (i := 88) (by decide +kernel), List.mem_of_getElem? (i := 650) (by decide +kernel), List.mem_of_getElem? (i := 651) (by decide +kernel)⟩
def lw_privs_2 : List (MethodName × Nat) := [(⟨"LicenceTexts$TextReader", "closeBracket", "()Z"⟩, 8), (⟨"LicenceTexts$TextReader", "relationAt", "(I)I"⟩, 8), (⟨"LicenceTexts$TextReader", "takeNeed", "(I)Z"⟩, 8), (⟨"LicenceTexts$TextReader", "takeRuleEnd", "(I)Z"⟩, 8), (⟨"LicenceTexts", "keep", "(LLicenceTexts$Edition;)V"⟩, 9), (⟨"LicenceTexts", "look", "(ILLicenceTexts$Findings;)I"⟩, 9), (⟨"LicenceTexts", "editionOn", "(I)LLicenceTexts$Edition;"⟩, 9), (⟨"LicenceTexts$Findings", "has", "(I)Z"⟩, 5), (⟨"LicenceTexts$Reckoner", "follow", "(LLicenceTexts$Edition;II)I"⟩, 5), (⟨"LicenceTexts$Reckoner", "related", "(I)Z"⟩, 5), (⟨"LicenceTexts$Reckoner", "pop", "()J"⟩, 5), (⟨"LicenceTexts$Reckoner", "reckon", "(IILLicenceTexts$Tables;)Z"⟩, 5), (⟨"LicenceTexts$Reckoner", "push", "(J)V"⟩, 5), (⟨"LicenceTexts$Reckoner", "pushFact", "(I)Z"⟩, 5), (⟨"LicenceTexts$Reckoner", "pushPlace", "(LLicenceTexts$Tables;I)Z"⟩, 5), (⟨"LicenceTexts$Reckoner", "combine", "(I)Z"⟩, 5)]
theorem lw_r2 : ∀ q ∈ lw_privs_2, lw_okq q := List.forall_mem_cons.mpr ⟨lw_p16, List.forall_mem_cons.mpr ⟨lw_p17, List.forall_mem_cons.mpr ⟨lw_p18, List.forall_mem_cons.mpr ⟨lw_p19, List.forall_mem_cons.mpr ⟨lw_p20, List.forall_mem_cons.mpr ⟨lw_p21, List.forall_mem_cons.mpr ⟨lw_p22, List.forall_mem_cons.mpr ⟨lw_p23, List.forall_mem_cons.mpr ⟨lw_p24, List.forall_mem_cons.mpr ⟨lw_p25, List.forall_mem_cons.mpr ⟨lw_p26, List.forall_mem_cons.mpr ⟨lw_p27, List.forall_mem_cons.mpr ⟨lw_p28, List.forall_mem_cons.mpr ⟨lw_p29, List.forall_mem_cons.mpr ⟨lw_p30, List.forall_mem_cons.mpr ⟨lw_p31, fun _ h => absurd h List.not_mem_nil⟩⟩⟩⟩⟩⟩⟩⟩⟩⟩⟩⟩⟩⟩⟩⟩
theorem lw_p32 : lw_okq (⟨"LicenceTexts$Hauls", "total", "(I)J"⟩, 1) := ⟨⟨by decide +kernel, by decide +kernel⟩, List.mem_of_getElem? (i := 136) (by decide +kernel), List.mem_of_getElem? (i := 732) (by decide +kernel), List.mem_of_getElem? (i := 733) (by decide +kernel)⟩
theorem lw_p33 : lw_okq (⟨"LicenceTexts$Hauls", "gramsOf", "(II)J"⟩, 1) := ⟨⟨by decide +kernel, by decide +kernel⟩, List.mem_of_getElem? (i := 136) (by decide +kernel), List.mem_of_getElem? (i := 736) (by decide +kernel), List.mem_of_getElem? (i := 737) (by decide +kernel)⟩
theorem lw_p34 : lw_okq (⟨"java/lang/Throwable", "fillInStackTrace", "(I)Ljava/lang/Throwable;"⟩, 6) := ⟨⟨by decide +kernel, by decide +kernel⟩, List.mem_of_getElem? (i := 788) (by decide +kernel), List.mem_of_getElem? (i := 786) (by decide +kernel), List.mem_of_getElem? (i := 787) (by decide +kernel)⟩
theorem lw_p35 : lw_okq (⟨"LicenceTextsModel", "split", "()V"⟩, 39) := ⟨⟨by decide +kernel, by decide +kernel⟩, List.mem_of_getElem? (i := 817) (by decide +kernel), List.mem_of_getElem? (i := 954) (by decide +kernel), List.mem_of_getElem? (i := 955) (by decide +kernel)⟩
theorem lw_p36 : lw_okq (⟨"LicenceTextsModel", "wordOf", "(II)I"⟩, 39) := ⟨⟨by decide +kernel, by decide +kernel⟩, List.mem_of_getElem? (i := 817) (by decide +kernel), List.mem_of_getElem? (i := 961) (by decide +kernel), List.mem_of_getElem? (i := 962) (by decide +kernel)⟩
theorem lw_p37 : lw_okq (⟨"LicenceTextsModel", "nameOf", "(II)I"⟩, 39) := ⟨⟨by decide +kernel, by decide +kernel⟩, List.mem_of_getElem? (i := 817) (by decide +kernel), List.mem_of_getElem? (i := 965) (by decide +kernel), List.mem_of_getElem? (i := 966) (by decide +kernel)⟩
theorem lw_p38 : lw_okq (⟨"LicenceTextsModel", "now", "()I"⟩, 39) := ⟨⟨by decide +kernel, by decide +kernel⟩, List.mem_of_getElem? (i := 817) (by decide +kernel), List.mem_of_getElem? (i := 974) (by decide +kernel), List.mem_of_getElem? (i := 975) (by decide +kernel)⟩
theorem lw_p39 : lw_okq (⟨"LicenceTextsModel", "table", "()V"⟩, 39) := ⟨⟨by decide +kernel, by decide +kernel⟩, List.mem_of_getElem? (i := 817) (by decide +kernel), List.mem_of_getElem? (i := 978) (by decide +kernel), List.mem_of_getElem? (i := 979) (by decide +kernel)⟩
theorem lw_p40 : lw_okq (⟨"LicenceTextsModel", "want", "(Z)Z"⟩, 39) := ⟨⟨by decide +kernel, by decide +kernel⟩, List.mem_of_getElem? (i := 817) (by decide +kernel), List.mem_of_getElem? (i := 982) (by decide +kernel), List.mem_of_getElem? (i := 983) (by decide +kernel)⟩
theorem lw_p41 : lw_okq (⟨"LicenceTextsModel", "needs", "(I)Z"⟩, 39) := ⟨⟨by decide +kernel, by decide +kernel⟩, List.mem_of_getElem? (i := 817) (by decide +kernel), List.mem_of_getElem? (i := 986) (by decide +kernel), List.mem_of_getElem? (i := 987) (by decide +kernel)⟩
theorem lw_p42 : lw_okq (⟨"LicenceTextsModel", "rule", "()V"⟩, 39) := ⟨⟨by decide +kernel, by decide +kernel⟩, List.mem_of_getElem? (i := 817) (by decide +kernel), List.mem_of_getElem? (i := 990) (by decide +kernel), List.mem_of_getElem? (i := 991) (by decide +kernel)⟩
theorem lw_p43 : lw_okq (⟨"LicenceTextsModel", "conditions", "()V"⟩, 39) := ⟨⟨by decide +kernel, by decide +kernel⟩, List.mem_of_getElem? (i := 817) (by decide +kernel), List.mem_of_getElem? (i := 994) (by decide +kernel), List.mem_of_getElem? (i := 995) (by decide +kernel)⟩
theorem lw_p44 : lw_okq (⟨"LicenceTextsModel", "sum", "()V"⟩, 39) := ⟨⟨by decide +kernel, by decide +kernel⟩, List.mem_of_getElem? (i := 817) (by decide +kernel), List.mem_of_getElem? (i := 998) (by decide +kernel), List.mem_of_getElem? (i := 999) (by decide +kernel)⟩
theorem lw_p45 : lw_okq (⟨"LicenceTextsModel", "put", "(II)V"⟩, 39) := ⟨⟨by decide +kernel, by decide +kernel⟩, List.mem_of_getElem? (i := 817) (by decide +kernel), List.mem_of_getElem? (i := 1002) (by decide +kernel), List.mem_of_getElem? (i := 1003) (by decide +kernel)⟩
theorem lw_p46 : lw_okq (⟨"LicenceTextsModel", "editionOf", "(I)I"⟩, 39) := ⟨⟨by decide +kernel, by decide +kernel⟩, List.mem_of_getElem? (i := 817) (by decide +kernel), List.mem_of_getElem? (i := 1028) (by decide +kernel), List.mem_of_getElem? (i := 1029) (by decide +kernel)⟩
theorem lw_p47 : lw_okq (⟨"LicenceTextsModel", "answer", "(IZ)I"⟩, 39) := ⟨⟨by decide +kernel, by decide +kernel⟩, List.mem_of_getElem? (i := 817) (by decide +kernel), List.mem_of_getElem? (i := 1032) (by decide +kernel), List.mem_of_getElem? (i := 1033) (by decide +kernel)⟩
def lw_privs_3 : List (MethodName × Nat) := [(⟨"LicenceTexts$Hauls", "total", "(I)J"⟩, 1), (⟨"LicenceTexts$Hauls", "gramsOf", "(II)J"⟩, 1), (⟨"java/lang/Throwable", "fillInStackTrace", "(I)Ljava/lang/Throwable;"⟩, 6), (⟨"LicenceTextsModel", "split", "()V"⟩, 39), (⟨"LicenceTextsModel", "wordOf", "(II)I"⟩, 39), (⟨"LicenceTextsModel", "nameOf", "(II)I"⟩, 39), (⟨"LicenceTextsModel", "now", "()I"⟩, 39), (⟨"LicenceTextsModel", "table", "()V"⟩, 39), (⟨"LicenceTextsModel", "want", "(Z)Z"⟩, 39), (⟨"LicenceTextsModel", "needs", "(I)Z"⟩, 39), (⟨"LicenceTextsModel", "rule", "()V"⟩, 39), (⟨"LicenceTextsModel", "conditions", "()V"⟩, 39), (⟨"LicenceTextsModel", "sum", "()V"⟩, 39), (⟨"LicenceTextsModel", "put", "(II)V"⟩, 39), (⟨"LicenceTextsModel", "editionOf", "(I)I"⟩, 39), (⟨"LicenceTextsModel", "answer", "(IZ)I"⟩, 39)]
theorem lw_r3 : ∀ q ∈ lw_privs_3, lw_okq q := List.forall_mem_cons.mpr ⟨lw_p32, List.forall_mem_cons.mpr ⟨lw_p33, List.forall_mem_cons.mpr ⟨lw_p34, List.forall_mem_cons.mpr ⟨lw_p35, List.forall_mem_cons.mpr ⟨lw_p36, List.forall_mem_cons.mpr ⟨lw_p37, List.forall_mem_cons.mpr ⟨lw_p38, List.forall_mem_cons.mpr ⟨lw_p39, List.forall_mem_cons.mpr ⟨lw_p40, List.forall_mem_cons.mpr ⟨lw_p41, List.forall_mem_cons.mpr ⟨lw_p42, List.forall_mem_cons.mpr ⟨lw_p43, List.forall_mem_cons.mpr ⟨lw_p44, List.forall_mem_cons.mpr ⟨lw_p45, List.forall_mem_cons.mpr ⟨lw_p46, List.forall_mem_cons.mpr ⟨lw_p47, fun _ h => absurd h List.not_mem_nil⟩⟩⟩⟩⟩⟩⟩⟩⟩⟩⟩⟩⟩⟩⟩⟩
theorem lw_p48 : lw_okq (⟨"LicenceTextsModel", "look", "(II)I"⟩, 39) := ⟨⟨by decide +kernel, by decide +kernel⟩, List.mem_of_getElem? (i := 817) (by decide +kernel), List.mem_of_getElem? (i := 1036) (by decide +kernel), List.mem_of_getElem? (i := 1037) (by decide +kernel)⟩
theorem lw_p49 : lw_okq (⟨"LicenceTextsModel", "withState", "(II)I"⟩, 39) := ⟨⟨by decide +kernel, by decide +kernel⟩, List.mem_of_getElem? (i := 817) (by decide +kernel), List.mem_of_getElem? (i := 1054) (by decide +kernel), List.mem_of_getElem? (i := 1055) (by decide +kernel)⟩
theorem lw_p50 : lw_okq (⟨"LicenceTextsModel", "ranRules", "()I"⟩, 39) := ⟨⟨by decide +kernel, by decide +kernel⟩, List.mem_of_getElem? (i := 817) (by decide +kernel), List.mem_of_getElem? (i := 1058) (by decide +kernel), List.mem_of_getElem? (i := 1059) (by decide +kernel)⟩
def lw_privs_4 : List (MethodName × Nat) := [(⟨"LicenceTextsModel", "look", "(II)I"⟩, 39), (⟨"LicenceTextsModel", "withState", "(II)I"⟩, 39), (⟨"LicenceTextsModel", "ranRules", "()I"⟩, 39)]
theorem lw_r4 : ∀ q ∈ lw_privs_4, lw_okq q := List.forall_mem_cons.mpr ⟨lw_p48, List.forall_mem_cons.mpr ⟨lw_p49, List.forall_mem_cons.mpr ⟨lw_p50, fun _ h => absurd h List.not_mem_nil⟩⟩⟩
def lw_privs : List (MethodName × Nat) := lw_privs_1 ++ (lw_privs_2 ++ (lw_privs_3 ++ (lw_privs_4)))
def lw_tbl : List Cond := k2_sels lw_privs ++ tables_1
theorem lw_privs_ok : ∀ q ∈ lw_privs, lw_okq q := by
  show ∀ q ∈ lw_privs_1 ++ (lw_privs_2 ++ (lw_privs_3 ++ (lw_privs_4))), lw_okq q
  exact List.forall_mem_append.mpr ⟨lw_r1, List.forall_mem_append.mpr ⟨lw_r2, List.forall_mem_append.mpr ⟨lw_r3, lw_r4⟩⟩⟩
def T0 : List Cond := lw_tbl.filter goodWord
theorem memT {w : Cond} (i : Nat) (h : lw_tbl[i]? = some w) (hg : goodWord w = true) : w ∈ T0 := List.mem_filter.mpr ⟨List.mem_of_getElem? h, hg⟩
theorem T0_good {w : Cond} (h : w ∈ T0) : w ∈ T0 ∧ ((w.onTables && w.keeps) = true ∨ ∃ ty, w = .arrayClass ty) := ⟨h, good_of_word (List.mem_filter.mp h).2⟩
def F_Bytes : u_T := fun k => match k with
  | 0 => ("LicenceTexts$Bytes", "row", "[B", true)
  | _ => ("LicenceTexts$Bytes", "length", "I", false)
def t_Bytes : Nat → FieldType := fun k => match k with
  | 0 => (.array .byte)
  | _ => .int
theorem nk_Bytes : ∀ a, a < 2 → ∀ b, b < 2 → a ≠ b → (F_Bytes a).2.1 ≠ (F_Bytes b).2.1 := by decide +kernel
theorem tk_Bytes : ∀ k, k < 2 → parseFieldDescriptor (F_Bytes k).2.2.1 = some (t_Bytes k) := by decide +kernel
theorem df_Bytes : ∀ j, j < 2 → defaultValue (t_Bytes j) = vp_V [.null, .int 0] j := by decide +kernel
def F_Edition : u_T := fun k => match k with
  | 0 => ("LicenceTexts$Edition", "day", "I", true)
  | 1 => ("LicenceTexts$Edition", "words", "LLicenceTexts$Words;", true)
  | 2 => ("LicenceTexts$Edition", "steps", "LLicenceTexts$Steps;", true)
  | 3 => ("LicenceTexts$Edition", "tables", "LLicenceTexts$Tables;", true)
  | 4 => ("LicenceTexts$Edition", "rules", "[LLicenceTexts$Rule;", true)
  | _ => ("LicenceTexts$Edition", "ruleCount", "I", false)
def t_Edition : Nat → FieldType := fun k => match k with
  | 0 => .int
  | 1 => (.object "LicenceTexts$Words")
  | 2 => (.object "LicenceTexts$Steps")
  | 3 => (.object "LicenceTexts$Tables")
  | 4 => (.array (.object "LicenceTexts$Rule"))
  | _ => .int
theorem nk_Edition : ∀ a, a < 6 → ∀ b, b < 6 → a ≠ b → (F_Edition a).2.1 ≠ (F_Edition b).2.1 := by decide +kernel
theorem tk_Edition : ∀ k, k < 6 → parseFieldDescriptor (F_Edition k).2.2.1 = some (t_Edition k) := by decide +kernel
theorem df_Edition : ∀ j, j < 6 → defaultValue (t_Edition j) = vp_V [.int 0, .null, .null, .null, .null, .int 0] j := by decide +kernel
def F_Facts : u_T := fun k => match k with
  | 0 => ("LicenceTexts$Facts", "values", "[J", true)
  | _ => ("LicenceTexts$Facts", "told", "[Z", true)
def t_Facts : Nat → FieldType := fun k => match k with
  | 0 => (.array .long)
  | _ => (.array .boolean)
theorem nk_Facts : ∀ a, a < 2 → ∀ b, b < 2 → a ≠ b → (F_Facts a).2.1 ≠ (F_Facts b).2.1 := by decide +kernel
theorem tk_Facts : ∀ k, k < 2 → parseFieldDescriptor (F_Facts k).2.2.1 = some (t_Facts k) := by decide +kernel
theorem df_Facts : ∀ j, j < 2 → defaultValue (t_Facts j) = vp_V [.null, .null] j := by decide +kernel
def F_Findings : u_T := fun k => match k with
  | 0 => ("LicenceTexts$Findings", "outcomes", "[I", true)
  | 1 => ("LicenceTexts$Findings", "reasons", "[I", true)
  | 2 => ("LicenceTexts$Findings", "untold", "[I", true)
  | 3 => ("LicenceTexts$Findings", "firstWords", "[I", true)
  | _ => ("LicenceTexts$Findings", "count", "I", false)
def t_Findings : Nat → FieldType := fun k => match k with
  | 0 => (.array .int)
  | 1 => (.array .int)
  | 2 => (.array .int)
  | 3 => (.array .int)
  | _ => .int
theorem nk_Findings : ∀ a, a < 5 → ∀ b, b < 5 → a ≠ b → (F_Findings a).2.1 ≠ (F_Findings b).2.1 := by decide +kernel
theorem tk_Findings : ∀ k, k < 5 → parseFieldDescriptor (F_Findings k).2.2.1 = some (t_Findings k) := by decide +kernel
theorem df_Findings : ∀ j, j < 5 → defaultValue (t_Findings j) = vp_V [.null, .null, .null, .null, .int 0] j := by decide +kernel
def F_Hauls : u_T := fun k => match k with
  | _ => ("LicenceTexts$Hauls", "row", "[J", true)
def t_Hauls : Nat → FieldType := fun k => match k with
  | _ => (.array .long)
theorem nk_Hauls : ∀ a, a < 1 → ∀ b, b < 1 → a ≠ b → (F_Hauls a).2.1 ≠ (F_Hauls b).2.1 := by decide +kernel
theorem tk_Hauls : ∀ k, k < 1 → parseFieldDescriptor (F_Hauls k).2.2.1 = some (t_Hauls k) := by decide +kernel
theorem df_Hauls : ∀ j, j < 1 → defaultValue (t_Hauls j) = vp_V [.null] j := by decide +kernel
def F_Reckoner : u_T := fun k => match k with
  | 0 => ("LicenceTexts$Reckoner", "facts", "LLicenceTexts$Facts;", true)
  | 1 => ("LicenceTexts$Reckoner", "values", "[J", true)
  | 2 => ("LicenceTexts$Reckoner", "height", "I", false)
  | 3 => ("LicenceTexts$Reckoner", "reason", "I", false)
  | _ => ("LicenceTexts$Reckoner", "untold", "I", false)
def t_Reckoner : Nat → FieldType := fun k => match k with
  | 0 => (.object "LicenceTexts$Facts")
  | 1 => (.array .long)
  | 2 => .int
  | 3 => .int
  | _ => .int
theorem nk_Reckoner : ∀ a, a < 5 → ∀ b, b < 5 → a ≠ b → (F_Reckoner a).2.1 ≠ (F_Reckoner b).2.1 := by decide +kernel
theorem tk_Reckoner : ∀ k, k < 5 → parseFieldDescriptor (F_Reckoner k).2.2.1 = some (t_Reckoner k) := by decide +kernel
theorem df_Reckoner : ∀ j, j < 5 → defaultValue (t_Reckoner j) = vp_V [.null, .null, .int 0, .int 0, .int 0] j := by decide +kernel
def F_Rule : u_T := fun k => match k with
  | 0 => ("LicenceTexts$Rule", "firstWord", "I", true)
  | 1 => ("LicenceTexts$Rule", "start", "I", true)
  | 2 => ("LicenceTexts$Rule", "endWord", "I", false)
  | 3 => ("LicenceTexts$Rule", "need", "I", false)
  | _ => ("LicenceTexts$Rule", "end", "I", false)
def t_Rule : Nat → FieldType := fun k => match k with
  | 0 => .int
  | 1 => .int
  | 2 => .int
  | 3 => .int
  | _ => .int
theorem nk_Rule : ∀ a, a < 5 → ∀ b, b < 5 → a ≠ b → (F_Rule a).2.1 ≠ (F_Rule b).2.1 := by decide +kernel
theorem tk_Rule : ∀ k, k < 5 → parseFieldDescriptor (F_Rule k).2.2.1 = some (t_Rule k) := by decide +kernel
theorem df_Rule : ∀ j, j < 5 → defaultValue (t_Rule j) = vp_V [.int 0, .int 0, .int 0, .int 0, .int 0] j := by decide +kernel
def F_Steps : u_T := fun k => match k with
  | 0 => ("LicenceTexts$Steps", "kinds", "[I", true)
  | 1 => ("LicenceTexts$Steps", "values", "[I", true)
  | _ => ("LicenceTexts$Steps", "count", "I", false)
def t_Steps : Nat → FieldType := fun k => match k with
  | 0 => (.array .int)
  | 1 => (.array .int)
  | _ => .int
theorem nk_Steps : ∀ a, a < 3 → ∀ b, b < 3 → a ≠ b → (F_Steps a).2.1 ≠ (F_Steps b).2.1 := by decide +kernel
theorem tk_Steps : ∀ k, k < 3 → parseFieldDescriptor (F_Steps k).2.2.1 = some (t_Steps k) := by decide +kernel
theorem df_Steps : ∀ j, j < 3 → defaultValue (t_Steps j) = vp_V [.null, .null, .int 0] j := by decide +kernel
def F_Tables : u_T := fun k => match k with
  | 0 => ("LicenceTexts$Tables", "numbers", "[I", true)
  | 1 => ("LicenceTexts$Tables", "sizes", "[I", true)
  | _ => ("LicenceTexts$Tables", "count", "I", false)
def t_Tables : Nat → FieldType := fun k => match k with
  | 0 => (.array .int)
  | 1 => (.array .int)
  | _ => .int
theorem nk_Tables : ∀ a, a < 3 → ∀ b, b < 3 → a ≠ b → (F_Tables a).2.1 ≠ (F_Tables b).2.1 := by decide +kernel
theorem tk_Tables : ∀ k, k < 3 → parseFieldDescriptor (F_Tables k).2.2.1 = some (t_Tables k) := by decide +kernel
theorem df_Tables : ∀ j, j < 3 → defaultValue (t_Tables j) = vp_V [.null, .null, .int 0] j := by decide +kernel
def F_TextReader : u_T := fun k => match k with
  | 0 => ("LicenceTexts$TextReader", "edition", "LLicenceTexts$Edition;", true)
  | 1 => ("LicenceTexts$TextReader", "words", "LLicenceTexts$Words;", true)
  | 2 => ("LicenceTexts$TextReader", "steps", "LLicenceTexts$Steps;", true)
  | 3 => ("LicenceTexts$TextReader", "waiting", "LLicenceTexts$Steps;", true)
  | 4 => ("LicenceTexts$TextReader", "awaited", "I", false)
  | 5 => ("LicenceTexts$TextReader", "around", "I", false)
  | 6 => ("LicenceTexts$TextReader", "relation", "I", false)
  | _ => ("LicenceTexts$TextReader", "needAwaited", "Z", false)
def t_TextReader : Nat → FieldType := fun k => match k with
  | 0 => (.object "LicenceTexts$Edition")
  | 1 => (.object "LicenceTexts$Words")
  | 2 => (.object "LicenceTexts$Steps")
  | 3 => (.object "LicenceTexts$Steps")
  | 4 => .int
  | 5 => .int
  | 6 => .int
  | _ => .boolean
theorem nk_TextReader : ∀ a, a < 8 → ∀ b, b < 8 → a ≠ b → (F_TextReader a).2.1 ≠ (F_TextReader b).2.1 := by decide +kernel
theorem tk_TextReader : ∀ k, k < 8 → parseFieldDescriptor (F_TextReader k).2.2.1 = some (t_TextReader k) := by decide +kernel
theorem df_TextReader : ∀ j, j < 8 → defaultValue (t_TextReader j) = vp_V [.null, .null, .null, .null, .int 0, .int 0, .int 0, .int 0] j := by decide +kernel
def F_Words : u_T := fun k => match k with
  | 0 => ("LicenceTexts$Words", "bytes", "LLicenceTexts$Bytes;", true)
  | 1 => ("LicenceTexts$Words", "starts", "[I", true)
  | 2 => ("LicenceTexts$Words", "ends", "[I", true)
  | 3 => ("LicenceTexts$Words", "count", "I", false)
  | _ => ("LicenceTexts$Words", "inWord", "Z", false)
def t_Words : Nat → FieldType := fun k => match k with
  | 0 => (.object "LicenceTexts$Bytes")
  | 1 => (.array .int)
  | 2 => (.array .int)
  | 3 => .int
  | _ => .boolean
theorem nk_Words : ∀ a, a < 5 → ∀ b, b < 5 → a ≠ b → (F_Words a).2.1 ≠ (F_Words b).2.1 := by decide +kernel
theorem tk_Words : ∀ k, k < 5 → parseFieldDescriptor (F_Words k).2.2.1 = some (t_Words k) := by decide +kernel
theorem df_Words : ∀ j, j < 5 → defaultValue (t_Words j) = vp_V [.null, .null, .null, .int 0, .int 0] j := by decide +kernel
def F_LT : u_T := fun k => match k with
  | 0 => ("LicenceTexts", "book", "[LLicenceTexts$Edition;", true)
  | 1 => ("LicenceTexts", "bookSize", "I", false)
  | 2 => ("LicenceTexts", "tape", "LLicenceTexts$Words;", false)
  | 3 => ("LicenceTexts", "facts", "LLicenceTexts$Facts;", true)
  | 4 => ("LicenceTexts", "reckoner", "LLicenceTexts$Reckoner;", true)
  | 5 => ("LicenceTexts", "latest", "LLicenceTexts$Findings;", true)
  | 6 => ("LicenceTexts", "trial", "LLicenceTexts$Findings;", true)
  | 7 => ("LicenceTexts", "line", "LLicenceTexts$Bytes;", true)
  | _ => ("LicenceTexts", "hauls", "LLicenceTexts$Hauls;", true)
def t_LT : Nat → FieldType := fun k => match k with
  | 0 => (.array (.object "LicenceTexts$Edition"))
  | 1 => .int
  | 2 => (.object "LicenceTexts$Words")
  | 3 => (.object "LicenceTexts$Facts")
  | 4 => (.object "LicenceTexts$Reckoner")
  | 5 => (.object "LicenceTexts$Findings")
  | 6 => (.object "LicenceTexts$Findings")
  | 7 => (.object "LicenceTexts$Bytes")
  | _ => (.object "LicenceTexts$Hauls")
theorem nk_LT : ∀ a, a < 9 → ∀ b, b < 9 → a ≠ b → (F_LT a).2.1 ≠ (F_LT b).2.1 := by decide +kernel
theorem tk_LT : ∀ k, k < 9 → parseFieldDescriptor (F_LT k).2.2.1 = some (t_LT k) := by decide +kernel
theorem df_LT : ∀ j, j < 9 → defaultValue (t_LT j) = vp_V [.null, .int 0, .null, .null, .null, .null, .null, .null, .null] j := by decide +kernel
def F_Mo : u_T := fun k => match k with
  | 0 => ("LicenceTextsModel", "code", "I", false)
  | 1 => ("LicenceTextsModel", "tape", "[B", true)
  | 2 => ("LicenceTextsModel", "size", "I", false)
  | 3 => ("LicenceTextsModel", "editions", "I", false)
  | 4 => ("LicenceTextsModel", "from", "[I", true)
  | 5 => ("LicenceTextsModel", "text", "[B", true)
  | 6 => ("LicenceTextsModel", "wordAt", "[I", true)
  | 7 => ("LicenceTextsModel", "wordSize", "[I", true)
  | 8 => ("LicenceTextsModel", "word", "[I", true)
  | 9 => ("LicenceTextsModel", "words", "[I", true)
  | 10 => ("LicenceTextsModel", "tables", "[I", true)
  | 11 => ("LicenceTextsModel", "tableSize", "[I", true)
  | 12 => ("LicenceTextsModel", "number", "[I", true)
  | 13 => ("LicenceTextsModel", "rules", "[I", true)
  | 14 => ("LicenceTextsModel", "begins", "[I", true)
  | 15 => ("LicenceTextsModel", "need", "[I", true)
  | 16 => ("LicenceTextsModel", "ends", "[I", true)
  | 17 => ("LicenceTextsModel", "firstWord", "[I", true)
  | 18 => ("LicenceTextsModel", "lastWord", "[I", true)
  | 19 => ("LicenceTextsModel", "what", "[I", true)
  | 20 => ("LicenceTextsModel", "with", "[I", true)
  | 21 => ("LicenceTextsModel", "row", "I", false)
  | 22 => ("LicenceTextsModel", "ed", "I", false)
  | 23 => ("LicenceTextsModel", "w", "I", false)
  | 24 => ("LicenceTextsModel", "wrong", "I", false)
  | 25 => ("LicenceTextsModel", "sign", "[I", true)
  | 26 => ("LicenceTextsModel", "signWith", "[I", true)
  | 27 => ("LicenceTextsModel", "fact", "[J", true)
  | 28 => ("LicenceTextsModel", "told", "[Z", true)
  | 29 => ("LicenceTextsModel", "ran", "I", false)
  | 30 => ("LicenceTextsModel", "state", "[I", true)
  | 31 => ("LicenceTextsModel", "reason", "[I", true)
  | 32 => ("LicenceTextsModel", "lacking", "[I", true)
  | 33 => ("LicenceTextsModel", "reasonNow", "I", false)
  | 34 => ("LicenceTextsModel", "lackingNow", "I", false)
  | 35 => ("LicenceTextsModel", "pile", "[J", true)
  | 36 => ("LicenceTextsModel", "print", "[B", true)
  | 37 => ("LicenceTextsModel", "printed", "I", false)
  | _ => ("LicenceTextsModel", "grams", "[J", true)
def t_Mo : Nat → FieldType := fun k => match k with
  | 0 => .int
  | 1 => (.array .byte)
  | 2 => .int
  | 3 => .int
  | 4 => (.array .int)
  | 5 => (.array .byte)
  | 6 => (.array .int)
  | 7 => (.array .int)
  | 8 => (.array .int)
  | 9 => (.array .int)
  | 10 => (.array .int)
  | 11 => (.array .int)
  | 12 => (.array .int)
  | 13 => (.array .int)
  | 14 => (.array .int)
  | 15 => (.array .int)
  | 16 => (.array .int)
  | 17 => (.array .int)
  | 18 => (.array .int)
  | 19 => (.array .int)
  | 20 => (.array .int)
  | 21 => .int
  | 22 => .int
  | 23 => .int
  | 24 => .int
  | 25 => (.array .int)
  | 26 => (.array .int)
  | 27 => (.array .long)
  | 28 => (.array .boolean)
  | 29 => .int
  | 30 => (.array .int)
  | 31 => (.array .int)
  | 32 => (.array .int)
  | 33 => .int
  | 34 => .int
  | 35 => (.array .long)
  | 36 => (.array .byte)
  | 37 => .int
  | _ => (.array .long)
theorem nk_Mo : ∀ a, a < 39 → ∀ b, b < 39 → a ≠ b → (F_Mo a).2.1 ≠ (F_Mo b).2.1 := by decide +kernel
theorem tk_Mo : ∀ k, k < 39 → parseFieldDescriptor (F_Mo k).2.2.1 = some (t_Mo k) := by decide +kernel
theorem df_Mo : ∀ j, j < 39 → defaultValue (t_Mo j) = vp_V [.int 0, .null, .int 0, .int 0, .null, .null, .null, .null, .null, .null, .null, .null, .null, .null, .null, .null, .null, .null, .null, .null, .null, .int 0, .int 0, .int 0, .int 0, .null, .null, .null, .null, .int 0, .null, .null, .null, .int 0, .int 0, .null, .null, .int 0, .null] j := by decide +kernel
def cls0 : List vw_C := [("LicenceTexts$Bytes", F_Bytes, 2), ("LicenceTexts$Edition", F_Edition, 6), ("LicenceTexts$Facts", F_Facts, 2), ("LicenceTexts$Findings", F_Findings, 5), ("LicenceTexts$Hauls", F_Hauls, 1), ("LicenceTexts$Reckoner", F_Reckoner, 5), ("LicenceTexts$Rule", F_Rule, 5), ("LicenceTexts$Steps", F_Steps, 3), ("LicenceTexts$Tables", F_Tables, 3), ("LicenceTexts$TextReader", F_TextReader, 8), ("LicenceTexts$Words", F_Words, 5), ("LicenceTexts", F_LT, 9), ("LicenceTextsModel", F_Mo, 39)]
theorem hc_Bytes : cls0[0]? = some ("LicenceTexts$Bytes", F_Bytes, 2) := rfl
theorem in_Bytes : ∀ w ∈ u_ws "LicenceTexts$Bytes" F_Bytes 2, w ∈ T0 := by decide +kernel
theorem hc_Edition : cls0[1]? = some ("LicenceTexts$Edition", F_Edition, 6) := rfl
theorem in_Edition : ∀ w ∈ u_ws "LicenceTexts$Edition" F_Edition 6, w ∈ T0 := by decide +kernel
theorem hc_Facts : cls0[2]? = some ("LicenceTexts$Facts", F_Facts, 2) := rfl
theorem in_Facts : ∀ w ∈ u_ws "LicenceTexts$Facts" F_Facts 2, w ∈ T0 := by decide +kernel
theorem hc_Findings : cls0[3]? = some ("LicenceTexts$Findings", F_Findings, 5) := rfl
theorem in_Findings : ∀ w ∈ u_ws "LicenceTexts$Findings" F_Findings 5, w ∈ T0 := by decide +kernel
theorem hc_Hauls : cls0[4]? = some ("LicenceTexts$Hauls", F_Hauls, 1) := rfl
theorem in_Hauls : ∀ w ∈ u_ws "LicenceTexts$Hauls" F_Hauls 1, w ∈ T0 := by decide +kernel
theorem hc_Reckoner : cls0[5]? = some ("LicenceTexts$Reckoner", F_Reckoner, 5) := rfl
theorem in_Reckoner : ∀ w ∈ u_ws "LicenceTexts$Reckoner" F_Reckoner 5, w ∈ T0 := by decide +kernel
theorem hc_Rule : cls0[6]? = some ("LicenceTexts$Rule", F_Rule, 5) := rfl
theorem in_Rule : ∀ w ∈ u_ws "LicenceTexts$Rule" F_Rule 5, w ∈ T0 := by decide +kernel
theorem hc_Steps : cls0[7]? = some ("LicenceTexts$Steps", F_Steps, 3) := rfl
theorem in_Steps : ∀ w ∈ u_ws "LicenceTexts$Steps" F_Steps 3, w ∈ T0 := by decide +kernel
theorem hc_Tables : cls0[8]? = some ("LicenceTexts$Tables", F_Tables, 3) := rfl
theorem in_Tables : ∀ w ∈ u_ws "LicenceTexts$Tables" F_Tables 3, w ∈ T0 := by decide +kernel
theorem hc_TextReader : cls0[9]? = some ("LicenceTexts$TextReader", F_TextReader, 8) := rfl
theorem in_TextReader : ∀ w ∈ u_ws "LicenceTexts$TextReader" F_TextReader 8, w ∈ T0 := by decide +kernel
theorem hc_Words : cls0[10]? = some ("LicenceTexts$Words", F_Words, 5) := rfl
theorem in_Words : ∀ w ∈ u_ws "LicenceTexts$Words" F_Words 5, w ∈ T0 := by decide +kernel
theorem hc_LT : cls0[11]? = some ("LicenceTexts", F_LT, 9) := rfl
theorem in_LT : ∀ w ∈ u_ws "LicenceTexts" F_LT 9, w ∈ T0 := by decide +kernel
theorem hc_Mo : cls0[12]? = some ("LicenceTextsModel", F_Mo, 39) := rfl
theorem in_Mo : ∀ w ∈ u_ws "LicenceTextsModel" F_Mo 39, w ∈ T0 := by decide +kernel
end
section
/-! THE PURE HEAP: its size, and what each cell of ours holds -/
abbrev hE : Type := (Nat × List Value) ⊕ (FieldType × vp_A)
abbrev hH : Type := Nat × (Nat → Option hE)
def hSet (h : hH) (a : Nat) (e : hE) : hH := (h.1, fun j => if j = a then some e else h.2 j)
def hAdd (h : hH) (e : hE) : hH := (h.1 + 1, fun j => if j = h.1 then some e else h.2 j)
/-- an object of class number ci -/
def hObj (h : hH) (a : Nat) (ci : Nat) : Option (List Value) := match h.2 a with
  | some (.inl o) => if o.1 = ci then some o.2 else none
  | _ => none
def hIs (h : hH) (a : Nat) (ci : Nat) : Option Unit := (hObj h a ci).bind fun _ => some ()
def hGetI (h : hH) (a ci k : Nat) : Option Int32 := (hObj h a ci).bind fun fs => match fs[k]? with
  | some (.int x) => some x
  | _ => none
def hGetL (h : hH) (a ci k : Nat) : Option Int64 := (hObj h a ci).bind fun fs => match fs[k]? with
  | some (.long x) => some x
  | _ => none
def hGetA (h : hH) (a ci k : Nat) : Option Nat := (hObj h a ci).bind fun fs => match fs[k]? with
  | some (.ref x) => some x
  | _ => none
def hGetO (h : hH) (a ci k : Nat) : Option (Option Nat) := (hObj h a ci).bind fun fs => match fs[k]? with
  | some (.ref x) => some (some x)
  | some .null => some none
  | _ => none
def hPut (h : hH) (a ci k : Nat) (v : Value) : Option hH := (hObj h a ci).bind fun fs => if k < fs.length then some (hSet h a (.inl (ci, fs.set k v))) else none
def hPutZ (h : hH) (a ci k : Nat) (x : Int32) : Option hH := if x = 0 ∨ x = 1 then hPut h a ci k (.int x) else none
/-- an array of a component type -/
def hArr (h : hH) (a : Nat) (ty : FieldType) : Option vp_A := match h.2 a with
  | some (.inr o) => if o.1 = ty then some o.2 else none
  | _ => none
def hLen (h : hH) (a : Nat) : Option Int32 := match h.2 a with
  | some (.inr o) => some (Int32.ofNat o.2.1)
  | _ => none
def hLdI (h : hH) (a : Nat) (ty : FieldType) (i : Int32) : Option Int32 := (hArr h a ty).bind fun v => match v.2 with
  | .inl f => if i < 0 ∨ v.1 ≤ i.toNatClampNeg then none else some (f i.toNatClampNeg)
  | _ => none
def hLdL (h : hH) (a : Nat) (i : Int32) : Option Int64 := (hArr h a .long).bind fun v => match v.2 with
  | .inr (.inl f) => if i < 0 ∨ v.1 ≤ i.toNatClampNeg then none else some (f i.toNatClampNeg)
  | _ => none
def hLdO (h : hH) (a : Nat) (C : String) (i : Int32) : Option (Option Nat) := (hArr h a (.object C)).bind fun v => match v.2 with
  | .inr (.inr (.inr (.inr f))) => if i < 0 ∨ v.1 ≤ i.toNatClampNeg then none else some (f i.toNatClampNeg)
  | _ => none
def hStI (h : hH) (a : Nat) (i x : Int32) : Option hH := (hArr h a .int).bind fun v => match v.2 with
  | .inl f => if i < 0 ∨ v.1 ≤ i.toNatClampNeg then none else some (hSet h a (.inr (.int, v.1, .inl (upd f i.toNatClampNeg x))))
  | _ => none
def hStB (h : hH) (a : Nat) (i x : Int32) : Option hH := (hArr h a .byte).bind fun v => match v.2 with
  | .inl f => if i < 0 ∨ v.1 ≤ i.toNatClampNeg then none else some (hSet h a (.inr (.byte, v.1, .inl (upd f i.toNatClampNeg x.toInt8.toInt32))))
  | _ => none
def hStZ (h : hH) (a : Nat) (i x : Int32) : Option hH := (hArr h a .boolean).bind fun v => match v.2 with
  | .inl f => if i < 0 ∨ v.1 ≤ i.toNatClampNeg then none else some (hSet h a (.inr (.boolean, v.1, .inl (upd f i.toNatClampNeg (x &&& 1)))))
  | _ => none
def hStL (h : hH) (a : Nat) (i : Int32) (x : Int64) : Option hH := (hArr h a .long).bind fun v => match v.2 with
  | .inr (.inl f) => if i < 0 ∨ v.1 ≤ i.toNatClampNeg then none else some (hSet h a (.inr (.long, v.1, .inr (.inl (vp_updL f i.toNatClampNeg x)))))
  | _ => none
/-- an object of class number ci into an array over the class C -/
def hStA (h : hH) (a : Nat) (C : String) (i : Int32) (b ci : Nat) : Option hH := (hObj h b ci).bind fun _ => (hArr h a (.object C)).bind fun v => match v.2 with
  | .inr (.inr (.inr (.inr f))) => if i < 0 ∨ v.1 ≤ i.toNatClampNeg then none else some (hSet h a (.inr (.object C, v.1, .inr (.inr (.inr (.inr (va_up f i.toNatClampNeg (some b))))))))
  | _ => none
def hCase {β : Type} (x : Option Nat) (n : β) (f : Nat → β) : β := match x with
  | none => n
  | some a => f a
theorem hb_some {α β : Type} {x : Option α} {f : α → Option β} {y : β} (hm : x.bind f = some y) : ∃ v, x = some v ∧ f v = some y := by
  cases x with
  | none => cases hm
  | some v => exact ⟨v, rfl, hm⟩
theorem hif_t {β : Type} {P : Prop} {d : Decidable P} {A E : Option β} {o : Option β} (hm : (@ite _ P d A E) = o) (hp : P) : A = o := by rw [if_pos hp] at hm; exact hm
theorem hif_f {β : Type} {P : Prop} {d : Decidable P} {A E : Option β} {o : Option β} (hm : (@ite _ P d A E) = o) (hp : ¬ P) : E = o := by rw [if_neg hp] at hm; exact hm
theorem hc_n {β : Type} {x : Option Nat} {n : β} {f : Nat → β} {o : β} (hm : hCase x n f = o) (hx : x = none) : n = o := by subst hx; exact hm
theorem hc_s {β : Type} {x : Option Nat} {n : β} {f : Nat → β} {o : β} {a : Nat} (hm : hCase x n f = o) (hx : x = some a) : f a = o := by subst hx; exact hm
theorem hrf {x : Option Nat} {a : Nat} (e : x = some a) : va_rf x = .ref a := by subst e; rfl
theorem hrf_cat (x : Option Nat) : (va_rf x).category = 1 := by cases x <;> rfl
theorem hObj_at {h : hH} {a ci : Nat} {fs : List Value} (e : hObj h a ci = some fs) : h.2 a = some (.inl (ci, fs)) := by
  unfold hObj at e
  split at e
  · rename_i o ho
    split at e
    · rename_i hc
      cases e
      rw [ho, ← hc]
    · cases e
  · cases e
theorem hArr_at {h : hH} {a : Nat} {ty : FieldType} {v : vp_A} (e : hArr h a ty = some v) : h.2 a = some (.inr (ty, v)) := by
  unfold hArr at e
  split at e
  · rename_i o ho
    split at e
    · rename_i hc
      cases e
      rw [ho, ← hc]
    · cases e
  · cases e
theorem hGetI_at {h : hH} {a ci k : Nat} {x : Int32} (e : hGetI h a ci k = some x) : ∃ fs, h.2 a = some (.inl (ci, fs)) ∧ fs[k]? = some (.int x) := by
  obtain ⟨fs, e1, e2⟩ := hb_some e
  refine ⟨fs, hObj_at e1, ?_⟩
  split at e2
  · rename_i y hy
    cases e2
    exact hy
  · cases e2
theorem hGetL_at {h : hH} {a ci k : Nat} {x : Int64} (e : hGetL h a ci k = some x) : ∃ fs, h.2 a = some (.inl (ci, fs)) ∧ fs[k]? = some (.long x) := by
  obtain ⟨fs, e1, e2⟩ := hb_some e
  refine ⟨fs, hObj_at e1, ?_⟩
  split at e2
  · rename_i y hy
    cases e2
    exact hy
  · cases e2
theorem hGetA_at {h : hH} {a ci k : Nat} {x : Nat} (e : hGetA h a ci k = some x) : ∃ fs, h.2 a = some (.inl (ci, fs)) ∧ fs[k]? = some (.ref x) := by
  obtain ⟨fs, e1, e2⟩ := hb_some e
  refine ⟨fs, hObj_at e1, ?_⟩
  split at e2
  · rename_i y hy
    cases e2
    exact hy
  · cases e2
theorem hGetO_at {h : hH} {a ci k : Nat} {x : Option Nat} (e : hGetO h a ci k = some x) : ∃ fs, h.2 a = some (.inl (ci, fs)) ∧ fs[k]? = some (va_rf x) := by
  obtain ⟨fs, e1, e2⟩ := hb_some e
  refine ⟨fs, hObj_at e1, ?_⟩
  split at e2
  · rename_i y hy
    cases e2
    exact hy
  · rename_i hy
    cases e2
    exact hy
  · cases e2
theorem hPut_at {h : hH} {a ci k : Nat} {v : Value} {h2 : hH} (e : hPut h a ci k v = some h2) : ∃ fs, h.2 a = some (.inl (ci, fs)) ∧ k < fs.length ∧ h2 = hSet h a (.inl (ci, fs.set k v)) := by
  obtain ⟨fs, e1, e2⟩ := hb_some e
  refine ⟨fs, hObj_at e1, ?_⟩
  split at e2
  · rename_i hk
    cases e2
    exact ⟨hk, rfl⟩
  · cases e2
theorem hLdI_at {h : hH} {a : Nat} {ty : FieldType} {i x : Int32} (e : hLdI h a ty i = some x) : ∃ n f, h.2 a = some (.inr (ty, n, .inl f)) ∧ vp_in i n ∧ x = f i.toNatClampNeg := by
  obtain ⟨⟨n, v⟩, e1, e2⟩ := hb_some e
  have e1 := hArr_at e1
  rcases v with f | v
  · dsimp only at e2
    split at e2
    · cases e2
    · rename_i hi
      cases e2
      exact ⟨n, f, e1, hi, rfl⟩
  · simp at e2
theorem hLdL_at {h : hH} {a : Nat} {i : Int32} {x : Int64} (e : hLdL h a i = some x) : ∃ n f, h.2 a = some (.inr (.long, n, .inr (.inl f))) ∧ vp_in i n ∧ x = f i.toNatClampNeg := by
  obtain ⟨⟨n, v⟩, e1, e2⟩ := hb_some e
  have e1 := hArr_at e1
  rcases v with f | f | v
  · simp at e2
  · dsimp only at e2
    split at e2
    · cases e2
    · rename_i hi
      cases e2
      exact ⟨n, f, e1, hi, rfl⟩
  · simp at e2
theorem hLdO_at {h : hH} {a : Nat} {C : String} {i : Int32} {x : Option Nat} (e : hLdO h a C i = some x) : ∃ n f, h.2 a = some (.inr (.object C, n, .inr (.inr (.inr (.inr f))))) ∧ vp_in i n ∧ x = f i.toNatClampNeg := by
  obtain ⟨⟨n, v⟩, e1, e2⟩ := hb_some e
  have e1 := hArr_at e1
  rcases v with f | f | f | f | f
  · simp at e2
  · simp at e2
  · simp at e2
  · simp at e2
  · dsimp only at e2
    split at e2
    · cases e2
    · rename_i hi
      cases e2
      exact ⟨n, f, e1, hi, rfl⟩
theorem hStI_at {h : hH} {a : Nat} {i x : Int32} {h2 : hH} (e : hStI h a i x = some h2) : ∃ n f, h.2 a = some (.inr (.int, n, .inl f)) ∧ vp_in i n ∧ h2 = hSet h a (.inr (.int, n, .inl (upd f i.toNatClampNeg x))) := by
  obtain ⟨⟨n, v⟩, e1, e2⟩ := hb_some e
  have e1 := hArr_at e1
  rcases v with f | v
  · dsimp only at e2
    split at e2
    · cases e2
    · rename_i hi
      cases e2
      exact ⟨n, f, e1, hi, rfl⟩
  · simp at e2
theorem hStB_at {h : hH} {a : Nat} {i x : Int32} {h2 : hH} (e : hStB h a i x = some h2) : ∃ n f, h.2 a = some (.inr (.byte, n, .inl f)) ∧ vp_in i n ∧ h2 = hSet h a (.inr (.byte, n, .inl (upd f i.toNatClampNeg x.toInt8.toInt32))) := by
  obtain ⟨⟨n, v⟩, e1, e2⟩ := hb_some e
  have e1 := hArr_at e1
  rcases v with f | v
  · dsimp only at e2
    split at e2
    · cases e2
    · rename_i hi
      cases e2
      exact ⟨n, f, e1, hi, rfl⟩
  · simp at e2
theorem hStZ_at {h : hH} {a : Nat} {i x : Int32} {h2 : hH} (e : hStZ h a i x = some h2) : ∃ n f, h.2 a = some (.inr (.boolean, n, .inl f)) ∧ vp_in i n ∧ h2 = hSet h a (.inr (.boolean, n, .inl (upd f i.toNatClampNeg (x &&& 1)))) := by
  obtain ⟨⟨n, v⟩, e1, e2⟩ := hb_some e
  have e1 := hArr_at e1
  rcases v with f | v
  · dsimp only at e2
    split at e2
    · cases e2
    · rename_i hi
      cases e2
      exact ⟨n, f, e1, hi, rfl⟩
  · simp at e2
theorem hStL_at {h : hH} {a : Nat} {i : Int32} {x : Int64} {h2 : hH} (e : hStL h a i x = some h2) : ∃ n f, h.2 a = some (.inr (.long, n, .inr (.inl f))) ∧ vp_in i n ∧ h2 = hSet h a (.inr (.long, n, .inr (.inl (vp_updL f i.toNatClampNeg x)))) := by
  obtain ⟨⟨n, v⟩, e1, e2⟩ := hb_some e
  have e1 := hArr_at e1
  rcases v with f | f | v
  · simp at e2
  · dsimp only at e2
    split at e2
    · cases e2
    · rename_i hi
      cases e2
      exact ⟨n, f, e1, hi, rfl⟩
  · simp at e2
theorem hStA_at {h : hH} {a b ci : Nat} {C : String} {i : Int32} {h2 : hH} (e : hStA h a C i b ci = some h2) : ∃ vs n f, h.2 b = some (.inl (ci, vs)) ∧ h.2 a = some (.inr (.object C, n, .inr (.inr (.inr (.inr f))))) ∧ vp_in i n ∧ h2 = hSet h a (.inr (.object C, n, .inr (.inr (.inr (.inr (va_up f i.toNatClampNeg (some b))))))) := by
  obtain ⟨vs, e0, e⟩ := hb_some e
  obtain ⟨⟨n, v⟩, e1, e2⟩ := hb_some e
  have e1 := hArr_at e1
  rcases v with f | f | f | f | f
  · simp at e2
  · simp at e2
  · simp at e2
  · simp at e2
  · dsimp only at e2
    split at e2
    · cases e2
    · rename_i hi
      cases e2
      exact ⟨vs, n, f, hObj_at e0, e1, hi, rfl⟩
theorem hLen_at {h : hH} {a : Nat} {x : Int32} (e : hLen h a = some x) : ∃ ty v, h.2 a = some (.inr (ty, v)) ∧ x = Int32.ofNat v.1 := by
  unfold hLen at e
  split at e
  · rename_i o ho
    cases e
    exact ⟨o.1, o.2, ho, rfl⟩
  · cases e
/-! THE PURE HEAP AND THE MACHINE's -/
/-- what a method with this pure heap may change: its cells, and those that it makes -/
def hF (h : hH) : Nat → Prop := fun q => h.1 ≤ q ∨ h.2 q ≠ none
def hx_at (D : va_G) (cl : List vw_C) (U : State) (H : Heap) (a : Nat) (x : hE) : Prop := match x with
  | .inl o => ∃ r : vw_C, cl[o.1]? = some r ∧ o.2.length = r.2.2 ∧ t_OB a (D.1 o.1) r.2.2 (D.2 o.1) H (vp_V o.2)
  | .inr o => ∃ cA : ClassId, ArrOfT U cA o.1 ∧ va_RA U cA o.1 ∧ H[a]? = some (vp_cell cA o.2)
/-- the pure heap describes the machine's, within the cells A -/
def hw (D : va_G) (cl : List vw_C) (A : Nat → Prop) (U : State) (H : Heap) (h : hH) : Prop := H.size = h.1 ∧ ∀ (a : Nat) (x : hE), h.2 a = some x → A a ∧ hx_at D cl U H a x
theorem hx_at.lt {D : va_G} {cl : List vw_C} {U : State} {H : Heap} {a : Nat} {x : hE} (t : hx_at D cl U H a x) : a < H.size := by
  cases x with
  | inl o =>
    obtain ⟨r, -, -, cell, h2, -⟩ := t
    exact (Array.getElem?_eq_some_iff.mp h2).1
  | inr o =>
    obtain ⟨cA, -, -, h2⟩ := t
    exact (Array.getElem?_eq_some_iff.mp h2).1
theorem hx_at.kept {D : va_G} {cl : List vw_C} {U : State} {H H1 : Heap} {a : Nat} {x : hE} (t : hx_at D cl U H a x) (hq : H1[a]? = H[a]?) : hx_at D cl U H1 a x := by
  cases x with
  | inl o =>
    obtain ⟨r, h1, h2, h3⟩ := t
    exact ⟨r, h1, h2, h3.kept hq⟩
  | inr o =>
    obtain ⟨cA, h1, h2, h3⟩ := t
    exact ⟨cA, h1, h2, hq.trans h3⟩
theorem hx_at.moved {D : va_G} {cl : List vw_C} {u U : State} {H : Heap} {a : Nat} {x : hE} (hvm : u.vm.Alike U.vm) (t : hx_at D cl u H a x) : hx_at D cl U H a x := by
  cases x with
  | inl o => exact t
  | inr o =>
    obtain ⟨cA, h1, h2, h3⟩ := t
    exact ⟨cA, arrOfT_moved hvm h1, h2.moved hvm, h3⟩
theorem hw.moved {D : va_G} {cl : List vw_C} {A : Nat → Prop} {u U : State} {H : Heap} {h : hH} (hvm : u.vm.Alike U.vm) (t : hw D cl A u H h) : hw D cl A U H h :=
  ⟨t.1, fun a x hx => ⟨(t.2 a x hx).1, (t.2 a x hx).2.moved hvm⟩⟩
theorem hw.wk {D : va_G} {cl : List vw_C} {A A2 : Nat → Prop} {U : State} {H : Heap} {h : hH} (t : hw D cl A U H h) (hA : ∀ q, A q → A2 q) : hw D cl A2 U H h :=
  ⟨t.1, fun a x hx => ⟨hA a (t.2 a x hx).1, (t.2 a x hx).2⟩⟩
theorem hw.self {D : va_G} {cl : List vw_C} {A : Nat → Prop} {U : State} {H : Heap} {h : hH} (t : hw D cl A U H h) : hw D cl (hF h) U H h :=
  ⟨t.1, fun a x hx => ⟨Or.inr (by rw [hx]; exact fun q => by cases q), (t.2 a x hx).2⟩⟩
theorem hw.free {D : va_G} {cl : List vw_C} {A : Nat → Prop} {U : State} {H H0 : Heap} {h : hH} (t : hw D cl A U H h) (hA : ∀ q, H0.size ≤ q → A q) (hz : H0.size ≤ H.size) : ∀ q, hF h q → A q := by
  intro q hq
  rcases hq with hq | hq
  · exact hA q (Nat.le_trans hz (by rw [t.1]; exact hq))
  · cases hx : h.2 q with
    | none => exact absurd hx hq
    | some x => exact (t.2 q x hx).1
theorem hw.set {D : va_G} {cl : List vw_C} {A : Nat → Prop} {U : State} {H H1 : Heap} {h : hH} {a : Nat} {x : hE} (t : hw D cl A U H h) (z : H1.size = H.size) (oq : ∀ q : Nat, q ≠ a → H1[q]? = H[q]?) (hb : A a) (hx : hx_at D cl U H1 a x) : hw D cl A U H1 (hSet h a x) := by
  refine ⟨z.trans t.1, fun b y hy => ?_⟩
  by_cases hba : b = a
  · subst hba
    have hy : (if b = b then some x else h.2 b) = some y := hy
    rw [if_pos rfl] at hy
    cases hy
    exact ⟨hb, hx⟩
  · have hy : (if b = a then some x else h.2 b) = some y := hy
    rw [if_neg hba] at hy
    exact ⟨(t.2 b y hy).1, (t.2 b y hy).2.kept (oq b hba)⟩
theorem hw.add {D : va_G} {cl : List vw_C} {A : Nat → Prop} {U : State} {H H1 : Heap} {h : hH} {x : hE} (t : hw D cl A U H h) (z : H1.size = H.size + 1) (oq : ∀ q : Nat, q < H.size → H1[q]? = H[q]?) (hb : A H.size) (hx : hx_at D cl U H1 H.size x) : hw D cl A U H1 (hAdd h x) := by
  have hs := t.1
  refine ⟨by rw [z, hs]; rfl, fun b y hy => ?_⟩
  by_cases hba : b = h.1
  · have hy : (if b = h.1 then some x else h.2 b) = some y := hy
    rw [if_pos hba] at hy
    cases hy
    rw [hba, ← hs]
    exact ⟨hb, hx⟩
  · have hy : (if b = h.1 then some x else h.2 b) = some y := hy
    rw [if_neg hba] at hy
    have h9 := t.2 b y hy
    exact ⟨h9.1, h9.2.kept (oq b h9.2.lt)⟩
theorem hS_add {A : Nat → Prop} {H0 H H1 : Heap} {locs : List Loc} (t : va_S A H0 H locs) (z : H1.size = H.size + 1) (oq : ∀ q : Nat, q < H.size → H1[q]? = H[q]?) : va_S A H0 H1 locs :=
  ⟨Nat.le_trans t.1 (by omega), fun x h1 h2 => (oq x (Nat.lt_of_lt_of_le h1 t.1)).trans (t.2.1 x h1 h2), t.2.2⟩
/-- what stays as it is: the classes, the nest's links, the arrays of references, the texts -/
abbrev hNt : Type := String × Nat × String × String × String × String
def hNl (t : hNt) : Cond := .fieldLinkNest t.1 t.2.1 t.2.2.1 t.2.2.2.1 t.2.2.2.2.1 t.2.2.2.2.2
abbrev hSt : Type := List hNt × List String × String × List (Nat × String × List Int32)
def hst (G : hSt) (D : va_G) (cl : List vw_C) (K : (Nat → Nat) × (Nat → Nat)) (A : Nat → Prop) (U : State) (H : Heap) : Prop :=
  (∀ (c : Nat) (q : vw_C), cl[c]? = some q → u_Kn U q.1 q.2.1 q.2.2 (D.1 c) (D.2 c)) ∧ (∀ t ∈ G.1, va_Nw (hNl t) U) ∧ (∀ C ∈ G.2.1, va_AO C U) ∧
  vk_S G.2.2.2.length (G.2.2.2.map fun q => q.2.2.length) (G.2.2.2.map fun q => q.2.2) K.1 K.2 A U H ∧ (∀ (i : Nat) (q : Nat × String × List Int32), G.2.2.2[i]? = some q → vk_R G.2.2.1 q.1 q.2.1 (K.1 i) U) ∧ va_Z "java/lang/String" "COMPACT_STRINGS" "Z" (.int 1) A U H
theorem hst.to {G : hSt} {D : va_G} {cl : List vw_C} {K : (Nat → Nat) × (Nat → Nat)} {A A2 : Nat → Prop} {s U : State} {H0 H : Heap} (t : hst G D cl K A s H0) (hW : s.WarmedH U.vm) (hAB : ∀ q, A2 q → A q) (hq : ∀ a : Nat, a < H0.size → ¬ A a → H[a]? = H0[a]?) : hst G D cl K A2 U H :=
  ⟨fun c q h => u_Kn_moved hW.alike (t.1 c q h), fun w h => (t.2.1 w h).warmF hW, fun C h => (t.2.2.1 C h).moved hW.alike, ((t.2.2.2.1.moved hW.alike).kept hq).narrow hAB, fun i q h => (t.2.2.2.2.1 i q h).warm hW, ((t.2.2.2.2.2.moved hW.alike).kept hq).narrow hAB⟩
theorem hst.same {G : hSt} {D : va_G} {cl : List vw_C} {K : (Nat → Nat) × (Nat → Nat)} {A : Nat → Prop} {u U : State} {H : Heap} (t : hst G D cl K A u H) (hv : u.vm = U.vm) : hst G D cl K A U H :=
  have hal : u.vm.Alike U.vm := hv ▸ Vm.Alike.refl u.vm
  ⟨fun c q h => u_Kn_moved hal (t.1 c q h), fun w h => va_Nw.same rfl hv (t.2.1 w h), fun C h => (t.2.2.1 C h).moved hal, t.2.2.2.1.moved hal, fun i q h => (t.2.2.2.2.1 i q h).same hv.symm, t.2.2.2.2.2.moved hal⟩
def hPc (G : hSt) (D : va_G) (cl : List vw_C) (K : (Nat → Nat) × (Nat → Nat)) (av : List Value) (h : hH) : Array Value → State → Prop := fun v U => v = av.toArray ∧ hw D cl (fun _ => True) U U.heap h ∧ hst G D cl K (hF h) U U.heap
def hQ (D : va_G) (cl : List vw_C) (h0 : hH) (o : Option Value) (h : hH) : Array Value → State → Outcome → State → Prop := fun _ st oc t => oc = .returned o ∧ hw D cl (hF h0) t t.heap h ∧ st.heap.size ≤ t.heap.size ∧ ∀ q : Nat, q < st.heap.size → ¬ hF h0 q → t.heap[q]? = st.heap[q]?
/-- a walk's surroundings -/
def hCx (G : hSt) (p : Program) (m : MethodId) (c : Code) (cc : ByteArray) (nL : Nat) (s : State) (args : Array Value) (Ts : List Cond) (own : String) (D : va_G) (cl : List vw_C) (K : (Nat → Nat) × (Nat → Nat)) (A : Nat → Prop) : Prop :=
  p.tables.exec = Jvm.exec ∧ c.code = cc ∧ c.maxLocals = nL ∧ s.vm.findClass own = some m.cls ∧ (∀ w ∈ Ts, w.before args s = true) ∧ hst G D cl K A s s.heap ∧ ∀ q, s.heap.size ≤ q → A q
theorem hCx.fix {G : hSt} {p : Program} {m : MethodId} {c : Code} {cc : ByteArray} {nL : Nat} {s : State} {args : Array Value} {Ts : List Cond} {own : String} {D : va_G} {cl : List vw_C} {K : (Nat → Nat) × (Nat → Nat)} {A : Nat → Prop} (X : hCx G p m c cc nL s args Ts own D cl K A) : CallFix p m c cc nL s args Ts own := ⟨X.1, X.2.1, X.2.2.1, X.2.2.2.1, X.2.2.2.2.1⟩
theorem hnz {β : Type} {P : Prop} {d : Decidable P} {E : Option β} {o : β} (hm : (@ite _ P d none E) = some o) : ¬ P ∧ E = some o := by
  by_cases hp : P
  · rw [if_pos hp] at hm; cases hm
  · rw [if_neg hp] at hm; exact ⟨hp, hm⟩
theorem hrf_nar (x : Option Nat) {C : String} : narrow (.object C) (va_rf x) = va_rf x := by cases x <;> rfl
theorem hrf_fit (x : Option Nat) {C : String} : fits (.object C) (va_rf x) = true := by cases x <;> rfl
end
section
section HR
variable {p : Program} {l : Launch} {e : Env} {R : Room} {s : State} {m : MethodId} {args : Array Value} {below : List Frame} {meth : Method} {c : Code} {Q : State → Prop} {cc : ByteArray} {nL : Nat} {Ts : List Cond} {own : String} {G : hSt} {D : va_G} {cl : List vw_C} {K : (Nat → Nat) × (Nat → Nat)} {A : Nat → Prop} {h : hH} {lv : List (Nat × Value)} {k n pc : Nat} {st : List Value}
/-- the machine at pc, over every heap that the pure heap h describes, comes to Q -/
def J (p : Program) (l : Launch) (e : Env) (R : Room) (s : State) (m : MethodId) (args : Array Value) (below : List Frame) (meth : Method) (c : Code) (nL : Nat) (D : va_G) (cl : List vw_C) (A : Nat → Prop) (h : hH) (lv : List (Nat × Value)) (k n : Nat) (Q : State → Prop) (pc : Nat) (st : List Value) : Prop :=
  ∀ (H : Heap) (locs : List Loc) (ls : Array Slot), hw D cl A s H h → va_S A s.heap H locs → lv_has ls nL lv → W p l e R s m args below meth c H locs k n Q (F0 m pc ls st)
theorem J_iconst (X : hCx G p m c cc nL s args Ts own D cl K A) {i : Int} {v : Int32} (hd : decode cc pc = .ok (.iconst i, 1)) (hv : Int32.ofInt i = v) (kk : J p l e R s m args below meth c nL D cl A h lv k n Q (pc + 1) (.int v :: st)) : J p l e R s m args below meth c nL D cl A h lv k n Q pc st := fun H locs ls a b d => lv_iconst X.1 X.2.1 hd hv (kk H locs ls a b d)
theorem J_bipush (X : hCx G p m c cc nL s args Ts own D cl K A) {i : Int} {v : Int32} (hd : decode cc pc = .ok (.bipush i, 2)) (hv : (Int8.ofInt i).toInt32 = v) (kk : J p l e R s m args below meth c nL D cl A h lv k n Q (pc + 2) (.int v :: st)) : J p l e R s m args below meth c nL D cl A h lv k n Q pc st := fun H locs ls a b d => lv_bipush X.1 X.2.1 hd hv (kk H locs ls a b d)
theorem J_sipush (X : hCx G p m c cc nL s args Ts own D cl K A) {i : Int} {v : Int32} (hd : decode cc pc = .ok (.sipush i, 3)) (hv : (Int16.ofInt i).toInt32 = v) (kk : J p l e R s m args below meth c nL D cl A h lv k n Q (pc + 3) (.int v :: st)) : J p l e R s m args below meth c nL D cl A h lv k n Q pc st := fun H locs ls a b d => lv_sipush X.1 X.2.1 hd hv (kk H locs ls a b d)
theorem J_lconst (X : hCx G p m c cc nL s args Ts own D cl K A) {i : Fin 2} {v : Int64} (hd : decode cc pc = .ok (.lconst i, 1)) (hv : Int64.ofNat (i : Nat) = v) (kk : J p l e R s m args below meth c nL D cl A h lv k n Q (pc + 1) (.long v :: st)) : J p l e R s m args below meth c nL D cl A h lv k n Q pc st := fun H locs ls a b d => lv_lconst X.1 X.2.1 hd hv (kk H locs ls a b d)
theorem J_ldc (X : hCx G p m c cc nL s args Ts own D cl K A) {i : Nat} {v : Int32} (hc : (Jvm.Cond.constant own i v) ∈ Ts) (hd : decode cc pc = .ok (.ldc i, 2)) (kk : J p l e R s m args below meth c nL D cl A h lv k n Q (pc + 2) (.int v :: st)) : J p l e R s m args below meth c nL D cl A h lv k n Q pc st := fun H locs ls a b d => lv_ldc X.1 X.2.1 X.2.2.2.1 (X.2.2.2.2.1 _ hc) hd (kk H locs ls a b d)
theorem J_ldc2 (X : hCx G p m c cc nL s args Ts own D cl K A) {i : Nat} {v : Int64} (hc : (Jvm.Cond.constantLong own i v) ∈ Ts) (hd : decode cc pc = .ok (.ldc2_w i, 3)) (kk : J p l e R s m args below meth c nL D cl A h lv k n Q (pc + 3) (.long v :: st)) : J p l e R s m args below meth c nL D cl A h lv k n Q pc st := fun H locs ls a b d => lv_ldc2 X.1 X.2.1 X.2.2.2.1 (X.2.2.2.2.1 _ hc) hd (kk H locs ls a b d)
theorem J_null (X : hCx G p m c cc nL s args Ts own D cl K A)  (hd : decode cc pc = .ok (.aconst_null, 1)) (kk : J p l e R s m args below meth c nL D cl A h lv k n Q (pc + 1) (.null :: st)) : J p l e R s m args below meth c nL D cl A h lv k n Q pc st := fun H locs ls a b d => lv_null X.1 X.2.1 hd (kk H locs ls a b d)
theorem J_iload_n (X : hCx G p m c cc nL s args Ts own D cl K A) (q : Nat) {i : Fin 4} {x : Int32} (hd : decode cc pc = .ok (.iload_n i, 1)) (hq : lv[q]? = some ((i : Nat), .int x)) (kk : J p l e R s m args below meth c nL D cl A h lv k n Q (pc + 1) (.int x :: st)) : J p l e R s m args below meth c nL D cl A h lv k n Q pc st := fun H locs ls a b d => lv_iload_n X.1 X.2.1 hd rfl (lv_at d q hq) (kk H locs ls a b d)
theorem J_iload (X : hCx G p m c cc nL s args Ts own D cl K A) (q : Nat) {i : Nat} {x : Int32} (hd : decode cc pc = .ok (.iload i, 2)) (hq : lv[q]? = some (i, .int x)) (kk : J p l e R s m args below meth c nL D cl A h lv k n Q (pc + 2) (.int x :: st)) : J p l e R s m args below meth c nL D cl A h lv k n Q pc st := fun H locs ls a b d => lv_iload X.1 X.2.1 hd (lv_at d q hq) (kk H locs ls a b d)
theorem J_lload_n (X : hCx G p m c cc nL s args Ts own D cl K A) (q : Nat) {i : Fin 4} {x : Int64} (hd : decode cc pc = .ok (.lload_n i, 1)) (hq : lv[q]? = some ((i : Nat), .long x)) (kk : J p l e R s m args below meth c nL D cl A h lv k n Q (pc + 1) (.long x :: st)) : J p l e R s m args below meth c nL D cl A h lv k n Q pc st := fun H locs ls a b d => lv_lload_n X.1 X.2.1 hd rfl (lv_at d q hq) (kk H locs ls a b d)
theorem J_lload (X : hCx G p m c cc nL s args Ts own D cl K A) (q : Nat) {i : Nat} {x : Int64} (hd : decode cc pc = .ok (.lload i, 2)) (hq : lv[q]? = some (i, .long x)) (kk : J p l e R s m args below meth c nL D cl A h lv k n Q (pc + 2) (.long x :: st)) : J p l e R s m args below meth c nL D cl A h lv k n Q pc st := fun H locs ls a b d => lv_lload X.1 X.2.1 hd (lv_at d q hq) (kk H locs ls a b d)
theorem J_aload_n (X : hCx G p m c cc nL s args Ts own D cl K A) (q : Nat) {i : Fin 4} {x : Nat} (hd : decode cc pc = .ok (.aload_n i, 1)) (hq : lv[q]? = some ((i : Nat), .ref x)) (kk : J p l e R s m args below meth c nL D cl A h lv k n Q (pc + 1) (.ref x :: st)) : J p l e R s m args below meth c nL D cl A h lv k n Q pc st := fun H locs ls a b d => lv_aload_n X.1 X.2.1 hd rfl (lv_at d q hq) (kk H locs ls a b d)
theorem J_aload (X : hCx G p m c cc nL s args Ts own D cl K A) (q : Nat) {i : Nat} {x : Nat} (hd : decode cc pc = .ok (.aload i, 2)) (hq : lv[q]? = some (i, .ref x)) (kk : J p l e R s m args below meth c nL D cl A h lv k n Q (pc + 2) (.ref x :: st)) : J p l e R s m args below meth c nL D cl A h lv k n Q pc st := fun H locs ls a b d => lv_aload X.1 X.2.1 hd (lv_at d q hq) (kk H locs ls a b d)
theorem J_aloadO_n (X : hCx G p m c cc nL s args Ts own D cl K A) (q : Nat) {i : Fin 4} {x : Option Nat} (hd : decode cc pc = .ok (.aload_n i, 1)) (hq : lv[q]? = some ((i : Nat), va_rf x)) (kk : J p l e R s m args below meth c nL D cl A h lv k n Q (pc + 1) (va_rf x :: st)) : J p l e R s m args below meth c nL D cl A h lv k n Q pc st := by
  cases x with
  | none => exact fun H locs ls a b d => lv_aload_nN X.1 X.2.1 hd rfl (lv_at d q hq) (kk H locs ls a b d)
  | some y => exact fun H locs ls a b d => lv_aload_n X.1 X.2.1 hd rfl (lv_at d q hq) (kk H locs ls a b d)
theorem J_aloadO (X : hCx G p m c cc nL s args Ts own D cl K A) (q : Nat) {i : Nat} {x : Option Nat} (hd : decode cc pc = .ok (.aload i, 2)) (hq : lv[q]? = some (i, va_rf x)) (kk : J p l e R s m args below meth c nL D cl A h lv k n Q (pc + 2) (va_rf x :: st)) : J p l e R s m args below meth c nL D cl A h lv k n Q pc st := by
  cases x with
  | none => exact fun H locs ls a b d => lv_aloadN X.1 X.2.1 hd (lv_at d q hq) (kk H locs ls a b d)
  | some y => exact fun H locs ls a b d => lv_aload X.1 X.2.1 hd (lv_at d q hq) (kk H locs ls a b d)
theorem J_istore_n (X : hCx G p m c cc nL s args Ts own D cl K A) {kf : Fin 4} {i : Nat} {x : Int32} {lv' : List (Nat × Value)} (hd : decode cc pc = .ok (.istore_n kf, 1)) (hi : (kf : Nat) = i) (hn : i < nL) (hl : (i, Value.int x) :: lv.filter (fun q => !(q.1 == i) && !(q.1 + 1 == i && q.2.category == 2)) = lv') (kk : J p l e R s m args below meth c nL D cl A h lv' k n Q (pc + 1) st) : J p l e R s m args below meth c nL D cl A h lv k n Q pc (Value.int x :: st) := fun H locs ls a b d => lv_istore_n X.1 X.2.1 hd hi d hn hl (fun ls2 d2 => kk H locs ls2 a b d2)
theorem J_istore (X : hCx G p m c cc nL s args Ts own D cl K A) {i : Nat} {x : Int32} {lv' : List (Nat × Value)} (hd : decode cc pc = .ok (.istore i, 2)) (hn : i < nL) (hl : (i, Value.int x) :: lv.filter (fun q => !(q.1 == i) && !(q.1 + 1 == i && q.2.category == 2)) = lv') (kk : J p l e R s m args below meth c nL D cl A h lv' k n Q (pc + 2) st) : J p l e R s m args below meth c nL D cl A h lv k n Q pc (Value.int x :: st) := fun H locs ls a b d => lv_istore X.1 X.2.1 hd d hn hl (fun ls2 d2 => kk H locs ls2 a b d2)
theorem J_lstore_n (X : hCx G p m c cc nL s args Ts own D cl K A) {kf : Fin 4} {i : Nat} {x : Int64} {lv' : List (Nat × Value)} (hd : decode cc pc = .ok (.lstore_n kf, 1)) (hi : (kf : Nat) = i) (hn : i + 1 < nL) (hl : (i, Value.long x) :: lv.filter (fun q => !(q.1 == i) && (!(q.1 == i + 1) && !(q.1 + 1 == i && q.2.category == 2))) = lv') (kk : J p l e R s m args below meth c nL D cl A h lv' k n Q (pc + 1) st) : J p l e R s m args below meth c nL D cl A h lv k n Q pc (Value.long x :: st) := fun H locs ls a b d => lv_lstore_n X.1 X.2.1 hd hi d hn hl (fun ls2 d2 => kk H locs ls2 a b d2)
theorem J_lstore (X : hCx G p m c cc nL s args Ts own D cl K A) {i : Nat} {x : Int64} {lv' : List (Nat × Value)} (hd : decode cc pc = .ok (.lstore i, 2)) (hn : i + 1 < nL) (hl : (i, Value.long x) :: lv.filter (fun q => !(q.1 == i) && (!(q.1 == i + 1) && !(q.1 + 1 == i && q.2.category == 2))) = lv') (kk : J p l e R s m args below meth c nL D cl A h lv' k n Q (pc + 2) st) : J p l e R s m args below meth c nL D cl A h lv k n Q pc (Value.long x :: st) := fun H locs ls a b d => lv_lstore X.1 X.2.1 hd d hn hl (fun ls2 d2 => kk H locs ls2 a b d2)
theorem J_astore_n (X : hCx G p m c cc nL s args Ts own D cl K A) {kf : Fin 4} {i : Nat} {x : Nat} {lv' : List (Nat × Value)} (hd : decode cc pc = .ok (.astore_n kf, 1)) (hi : (kf : Nat) = i) (hn : i < nL) (hl : (i, Value.ref x) :: lv.filter (fun q => !(q.1 == i) && !(q.1 + 1 == i && q.2.category == 2)) = lv') (kk : J p l e R s m args below meth c nL D cl A h lv' k n Q (pc + 1) st) : J p l e R s m args below meth c nL D cl A h lv k n Q pc (Value.ref x :: st) := fun H locs ls a b d => lv_astore_n X.1 X.2.1 hd hi d hn hl (fun ls2 d2 => kk H locs ls2 a b d2)
theorem J_astore (X : hCx G p m c cc nL s args Ts own D cl K A) {i : Nat} {x : Nat} {lv' : List (Nat × Value)} (hd : decode cc pc = .ok (.astore i, 2)) (hn : i < nL) (hl : (i, Value.ref x) :: lv.filter (fun q => !(q.1 == i) && !(q.1 + 1 == i && q.2.category == 2)) = lv') (kk : J p l e R s m args below meth c nL D cl A h lv' k n Q (pc + 2) st) : J p l e R s m args below meth c nL D cl A h lv k n Q pc (Value.ref x :: st) := fun H locs ls a b d => lv_astore X.1 X.2.1 hd d hn hl (fun ls2 d2 => kk H locs ls2 a b d2)
theorem J_astoreO_n (X : hCx G p m c cc nL s args Ts own D cl K A) {kf : Fin 4} {i : Nat} {x : Option Nat} {lv' : List (Nat × Value)} (hd : decode cc pc = .ok (.astore_n kf, 1)) (hi : (kf : Nat) = i) (hn : i < nL) (hl : (i, va_rf x) :: lv.filter (fun q => !(q.1 == i) && !(q.1 + 1 == i && q.2.category == 2)) = lv') (kk : J p l e R s m args below meth c nL D cl A h lv' k n Q (pc + 1) st) : J p l e R s m args below meth c nL D cl A h lv k n Q pc (va_rf x :: st) := by
  cases x with
  | none => exact fun H locs ls a b d => lv_astore_nN X.1 X.2.1 hd hi d hn hl (fun ls2 d2 => kk H locs ls2 a b d2)
  | some y => exact fun H locs ls a b d => lv_astore_n X.1 X.2.1 hd hi d hn hl (fun ls2 d2 => kk H locs ls2 a b d2)
theorem J_astoreO (X : hCx G p m c cc nL s args Ts own D cl K A) {i : Nat} {x : Option Nat} {lv' : List (Nat × Value)} (hd : decode cc pc = .ok (.astore i, 2)) (hn : i < nL) (hl : (i, va_rf x) :: lv.filter (fun q => !(q.1 == i) && !(q.1 + 1 == i && q.2.category == 2)) = lv') (kk : J p l e R s m args below meth c nL D cl A h lv' k n Q (pc + 2) st) : J p l e R s m args below meth c nL D cl A h lv k n Q pc (va_rf x :: st) := by
  cases x with
  | none => exact fun H locs ls a b d => lv_astoreN X.1 X.2.1 hd d hn hl (fun ls2 d2 => kk H locs ls2 a b d2)
  | some y => exact fun H locs ls a b d => lv_astore X.1 X.2.1 hd d hn hl (fun ls2 d2 => kk H locs ls2 a b d2)
theorem J_iinc (X : hCx G p m c cc nL s args Ts own D cl K A) (q : Nat) {i : Nat} {z : Int} {x v : Int32} {lv' : List (Nat × Value)} (hd : decode cc pc = .ok (.iinc i z, 3)) (hq : lv[q]? = some (i, .int x)) (hv : x + Int32.ofInt z = v) (hn : i < nL) (hl : (i, Value.int v) :: lv.filter (fun q => !(q.1 == i) && !(q.1 + 1 == i && q.2.category == 2)) = lv') (kk : J p l e R s m args below meth c nL D cl A h lv' k n Q (pc + 3) st) : J p l e R s m args below meth c nL D cl A h lv k n Q pc st := fun H locs ls a b d => lv_iinc X.1 X.2.1 hd d hq hv hn hl (fun ls2 d2 => kk H locs ls2 a b d2)
theorem J_iadd (X : hCx G p m c cc nL s args Ts own D cl K A) {x y : Int32} (hd : decode cc pc = .ok (.iadd, 1)) (kk : J p l e R s m args below meth c nL D cl A h lv k n Q (pc + 1) (.int (x + y) :: st)) : J p l e R s m args below meth c nL D cl A h lv k n Q pc (.int y :: .int x :: st) := fun H locs ls a b d => lv_iadd X.1 X.2.1 hd (kk H locs ls a b d)
theorem J_isub (X : hCx G p m c cc nL s args Ts own D cl K A) {x y : Int32} (hd : decode cc pc = .ok (.isub, 1)) (kk : J p l e R s m args below meth c nL D cl A h lv k n Q (pc + 1) (.int (x - y) :: st)) : J p l e R s m args below meth c nL D cl A h lv k n Q pc (.int y :: .int x :: st) := fun H locs ls a b d => lv_isub X.1 X.2.1 hd (kk H locs ls a b d)
theorem J_imul (X : hCx G p m c cc nL s args Ts own D cl K A) {x y : Int32} (hd : decode cc pc = .ok (.imul, 1)) (kk : J p l e R s m args below meth c nL D cl A h lv k n Q (pc + 1) (.int (x * y) :: st)) : J p l e R s m args below meth c nL D cl A h lv k n Q pc (.int y :: .int x :: st) := fun H locs ls a b d => lv_imul X.1 X.2.1 hd (kk H locs ls a b d)
theorem J_iand (X : hCx G p m c cc nL s args Ts own D cl K A) {x y : Int32} (hd : decode cc pc = .ok (.iand, 1)) (kk : J p l e R s m args below meth c nL D cl A h lv k n Q (pc + 1) (.int (x &&& y) :: st)) : J p l e R s m args below meth c nL D cl A h lv k n Q pc (.int y :: .int x :: st) := fun H locs ls a b d => lv_iand X.1 X.2.1 hd (kk H locs ls a b d)
theorem J_ior (X : hCx G p m c cc nL s args Ts own D cl K A) {x y : Int32} (hd : decode cc pc = .ok (.ior, 1)) (kk : J p l e R s m args below meth c nL D cl A h lv k n Q (pc + 1) (.int (x ||| y) :: st)) : J p l e R s m args below meth c nL D cl A h lv k n Q pc (.int y :: .int x :: st) := fun H locs ls a b d => lv_ior X.1 X.2.1 hd (kk H locs ls a b d)
theorem J_ixor (X : hCx G p m c cc nL s args Ts own D cl K A) {x y : Int32} (hd : decode cc pc = .ok (.ixor, 1)) (kk : J p l e R s m args below meth c nL D cl A h lv k n Q (pc + 1) (.int (x ^^^ y) :: st)) : J p l e R s m args below meth c nL D cl A h lv k n Q pc (.int y :: .int x :: st) := fun H locs ls a b d => lv_ixor X.1 X.2.1 hd (kk H locs ls a b d)
theorem J_ladd (X : hCx G p m c cc nL s args Ts own D cl K A) {x y : Int64} (hd : decode cc pc = .ok (.ladd, 1)) (kk : J p l e R s m args below meth c nL D cl A h lv k n Q (pc + 1) (.long (x + y) :: st)) : J p l e R s m args below meth c nL D cl A h lv k n Q pc (.long y :: .long x :: st) := fun H locs ls a b d => lv_ladd X.1 X.2.1 hd (kk H locs ls a b d)
theorem J_lsub (X : hCx G p m c cc nL s args Ts own D cl K A) {x y : Int64} (hd : decode cc pc = .ok (.lsub, 1)) (kk : J p l e R s m args below meth c nL D cl A h lv k n Q (pc + 1) (.long (x - y) :: st)) : J p l e R s m args below meth c nL D cl A h lv k n Q pc (.long y :: .long x :: st) := fun H locs ls a b d => lv_lsub X.1 X.2.1 hd (kk H locs ls a b d)
theorem J_lmul (X : hCx G p m c cc nL s args Ts own D cl K A) {x y : Int64} (hd : decode cc pc = .ok (.lmul, 1)) (kk : J p l e R s m args below meth c nL D cl A h lv k n Q (pc + 1) (.long (x * y) :: st)) : J p l e R s m args below meth c nL D cl A h lv k n Q pc (.long y :: .long x :: st) := fun H locs ls a b d => lv_lmul X.1 X.2.1 hd (kk H locs ls a b d)
theorem J_land (X : hCx G p m c cc nL s args Ts own D cl K A) {x y : Int64} (hd : decode cc pc = .ok (.land, 1)) (kk : J p l e R s m args below meth c nL D cl A h lv k n Q (pc + 1) (.long (x &&& y) :: st)) : J p l e R s m args below meth c nL D cl A h lv k n Q pc (.long y :: .long x :: st) := fun H locs ls a b d => lv_land X.1 X.2.1 hd (kk H locs ls a b d)
theorem J_lor (X : hCx G p m c cc nL s args Ts own D cl K A) {x y : Int64} (hd : decode cc pc = .ok (.lor, 1)) (kk : J p l e R s m args below meth c nL D cl A h lv k n Q (pc + 1) (.long (x ||| y) :: st)) : J p l e R s m args below meth c nL D cl A h lv k n Q pc (.long y :: .long x :: st) := fun H locs ls a b d => lv_lor X.1 X.2.1 hd (kk H locs ls a b d)
theorem J_lxor (X : hCx G p m c cc nL s args Ts own D cl K A) {x y : Int64} (hd : decode cc pc = .ok (.lxor, 1)) (kk : J p l e R s m args below meth c nL D cl A h lv k n Q (pc + 1) (.long (x ^^^ y) :: st)) : J p l e R s m args below meth c nL D cl A h lv k n Q pc (.long y :: .long x :: st) := fun H locs ls a b d => lv_lxor X.1 X.2.1 hd (kk H locs ls a b d)
theorem J_ldiv (X : hCx G p m c cc nL s args Ts own D cl K A) {x y : Int64} (hd : decode cc pc = .ok (.ldiv, 1)) (hne : ¬ y = 0) (kk : J p l e R s m args below meth c nL D cl A h lv k n Q (pc + 1) (.long (x / y) :: st)) : J p l e R s m args below meth c nL D cl A h lv k n Q pc (.long y :: .long x :: st) := fun H locs ls a b d => lv_ldiv X.1 X.2.1 hd hne (kk H locs ls a b d)
theorem J_lrem (X : hCx G p m c cc nL s args Ts own D cl K A) {x y : Int64} (hd : decode cc pc = .ok (.lrem, 1)) (hne : ¬ y = 0) (kk : J p l e R s m args below meth c nL D cl A h lv k n Q (pc + 1) (.long (x - x / y * y) :: st)) : J p l e R s m args below meth c nL D cl A h lv k n Q pc (.long y :: .long x :: st) := fun H locs ls a b d => lv_lrem X.1 X.2.1 hd hne (kk H locs ls a b d)
theorem J_idiv (X : hCx G p m c cc nL s args Ts own D cl K A) {x y : Int32} (hd : decode cc pc = .ok (.idiv, 1)) (hne : ¬ y = 0) (kk : J p l e R s m args below meth c nL D cl A h lv k n Q (pc + 1) (.int (x / y) :: st)) : J p l e R s m args below meth c nL D cl A h lv k n Q pc (.int y :: .int x :: st) := fun H locs ls a b d => lv_idiv X.1 X.2.1 hd hne (kk H locs ls a b d)
theorem J_irem (X : hCx G p m c cc nL s args Ts own D cl K A) {x y : Int32} (hd : decode cc pc = .ok (.irem, 1)) (hne : ¬ y = 0) (kk : J p l e R s m args below meth c nL D cl A h lv k n Q (pc + 1) (.int (x - x / y * y) :: st)) : J p l e R s m args below meth c nL D cl A h lv k n Q pc (.int y :: .int x :: st) := fun H locs ls a b d => lv_irem X.1 X.2.1 hd hne (kk H locs ls a b d)
theorem J_ineg (X : hCx G p m c cc nL s args Ts own D cl K A) {x : Int32} (hd : decode cc pc = .ok (.ineg, 1)) (kk : J p l e R s m args below meth c nL D cl A h lv k n Q (pc + 1) (.int (-x) :: st)) : J p l e R s m args below meth c nL D cl A h lv k n Q pc (.int x :: st) := fun H locs ls a b d => lv_ineg X.1 X.2.1 hd (kk H locs ls a b d)
theorem J_lneg (X : hCx G p m c cc nL s args Ts own D cl K A) {x : Int64} (hd : decode cc pc = .ok (.lneg, 1)) (kk : J p l e R s m args below meth c nL D cl A h lv k n Q (pc + 1) (.long (-x) :: st)) : J p l e R s m args below meth c nL D cl A h lv k n Q pc (.long x :: st) := fun H locs ls a b d => lv_lneg X.1 X.2.1 hd (kk H locs ls a b d)
theorem J_i2l (X : hCx G p m c cc nL s args Ts own D cl K A) {x : Int32} (hd : decode cc pc = .ok (.i2l, 1)) (kk : J p l e R s m args below meth c nL D cl A h lv k n Q (pc + 1) (.long x.toInt64 :: st)) : J p l e R s m args below meth c nL D cl A h lv k n Q pc (.int x :: st) := fun H locs ls a b d => lv_i2l X.1 X.2.1 hd rfl (kk H locs ls a b d)
theorem J_l2i (X : hCx G p m c cc nL s args Ts own D cl K A) {x : Int64} (hd : decode cc pc = .ok (.l2i, 1)) (kk : J p l e R s m args below meth c nL D cl A h lv k n Q (pc + 1) (.int x.toInt32 :: st)) : J p l e R s m args below meth c nL D cl A h lv k n Q pc (.long x :: st) := fun H locs ls a b d => lv_l2i X.1 X.2.1 hd rfl (kk H locs ls a b d)
theorem J_i2b (X : hCx G p m c cc nL s args Ts own D cl K A) {x : Int32} (hd : decode cc pc = .ok (.i2b, 1)) (kk : J p l e R s m args below meth c nL D cl A h lv k n Q (pc + 1) (.int x.toInt8.toInt32 :: st)) : J p l e R s m args below meth c nL D cl A h lv k n Q pc (.int x :: st) := fun H locs ls a b d => lv_i2b X.1 X.2.1 hd rfl (kk H locs ls a b d)
theorem J_i2c (X : hCx G p m c cc nL s args Ts own D cl K A) {x : Int32} (hd : decode cc pc = .ok (.i2c, 1)) (kk : J p l e R s m args below meth c nL D cl A h lv k n Q (pc + 1) (.int (x.toUInt32 % 65536).toInt32 :: st)) : J p l e R s m args below meth c nL D cl A h lv k n Q pc (.int x :: st) := fun H locs ls a b d => lv_i2c X.1 X.2.1 hd rfl (kk H locs ls a b d)
theorem J_ishl (X : hCx G p m c cc nL s args Ts own D cl K A) {x y : Int32} (hd : decode cc pc = .ok (.ishl, 1)) (kk : J p l e R s m args below meth c nL D cl A h lv k n Q (pc + 1) (.int (x <<< (y &&& 31)) :: st)) : J p l e R s m args below meth c nL D cl A h lv k n Q pc (.int y :: .int x :: st) := fun H locs ls a b d => lv_ishl X.1 X.2.1 hd (kk H locs ls a b d)
theorem J_ishr (X : hCx G p m c cc nL s args Ts own D cl K A) {x y : Int32} (hd : decode cc pc = .ok (.ishr, 1)) (kk : J p l e R s m args below meth c nL D cl A h lv k n Q (pc + 1) (.int (x >>> (y &&& 31)) :: st)) : J p l e R s m args below meth c nL D cl A h lv k n Q pc (.int y :: .int x :: st) := fun H locs ls a b d => lv_ishr X.1 X.2.1 hd (kk H locs ls a b d)
theorem J_lshl (X : hCx G p m c cc nL s args Ts own D cl K A) {x : Int64} {y : Int32} (hd : decode cc pc = .ok (.lshl, 1)) (kk : J p l e R s m args below meth c nL D cl A h lv k n Q (pc + 1) (.long (x <<< (y.toInt64 &&& 63)) :: st)) : J p l e R s m args below meth c nL D cl A h lv k n Q pc (.int y :: .long x :: st) := fun H locs ls a b d => lv_lshl X.1 X.2.1 hd rfl (kk H locs ls a b d)
theorem J_lcmp (X : hCx G p m c cc nL s args Ts own D cl K A) {x y : Int64} (hd : decode cc pc = .ok (.lcmp, 1)) (kk : J p l e R s m args below meth c nL D cl A h lv k n Q (pc + 1) (.int (lg_cmp x y) :: st)) : J p l e R s m args below meth c nL D cl A h lv k n Q pc (.long y :: .long x :: st) := fun H locs ls a b d => W.lcmp X.1 X.2.1 hd (kk H locs ls a b d)
theorem J_dup (X : hCx G p m c cc nL s args Ts own D cl K A) {v : Value} (hd : decode cc pc = .ok (.dup, 1)) (hc : v.category = 1) (kk : J p l e R s m args below meth c nL D cl A h lv k n Q (pc + 1) (v :: v :: st)) : J p l e R s m args below meth c nL D cl A h lv k n Q pc (v :: st) := fun H locs ls a b d => lv_dup X.1 X.2.1 hd hc (kk H locs ls a b d)
theorem J_pop (X : hCx G p m c cc nL s args Ts own D cl K A) {v : Value} (hd : decode cc pc = .ok (.pop, 1)) (hc : v.category = 1) (kk : J p l e R s m args below meth c nL D cl A h lv k n Q (pc + 1) st) : J p l e R s m args below meth c nL D cl A h lv k n Q pc (v :: st) := fun H locs ls a b d => lv_pop X.1 X.2.1 hd hc (kk H locs ls a b d)
theorem J_pop2 (X : hCx G p m c cc nL s args Ts own D cl K A) {v : Value} (hd : decode cc pc = .ok (.pop2, 1)) (hc : v.category = 2) (kk : J p l e R s m args below meth c nL D cl A h lv k n Q (pc + 1) st) : J p l e R s m args below meth c nL D cl A h lv k n Q pc (v :: st) := fun H locs ls a b d => lv_pop2_2 X.1 X.2.1 hd hc (kk H locs ls a b d)
theorem J_dup_x1 (X : hCx G p m c cc nL s args Ts own D cl K A) {v u : Value} (hd : decode cc pc = .ok (.dup_x1, 1)) (hc : v.category = 1) (hc2 : u.category = 1) (kk : J p l e R s m args below meth c nL D cl A h lv k n Q (pc + 1) (v :: u :: v :: st)) : J p l e R s m args below meth c nL D cl A h lv k n Q pc (v :: u :: st) := fun H locs ls a b d => lv_dup_x1 X.1 X.2.1 hd hc hc2 (kk H locs ls a b d)
theorem J_dup_x2 (X : hCx G p m c cc nL s args Ts own D cl K A) {v u t : Value} (hd : decode cc pc = .ok (.dup_x2, 1)) (hc : v.category = 1) (hc2 : u.category = 1) (hc3 : t.category = 1) (kk : J p l e R s m args below meth c nL D cl A h lv k n Q (pc + 1) (v :: u :: t :: v :: st)) : J p l e R s m args below meth c nL D cl A h lv k n Q pc (v :: u :: t :: st) := fun H locs ls a b d => lv_dup_x2 X.1 X.2.1 hd hc hc2 hc3 (kk H locs ls a b d)
theorem J_dup2 (X : hCx G p m c cc nL s args Ts own D cl K A) {v u : Value} (hd : decode cc pc = .ok (.dup2, 1)) (hc : v.category = 1) (hc2 : u.category = 1) (kk : J p l e R s m args below meth c nL D cl A h lv k n Q (pc + 1) (v :: u :: v :: u :: st)) : J p l e R s m args below meth c nL D cl A h lv k n Q pc (v :: u :: st) := fun H locs ls a b d => lv_dup2_11 X.1 X.2.1 hd hc hc2 (kk H locs ls a b d)
theorem J_dup2L (X : hCx G p m c cc nL s args Ts own D cl K A) {v : Value} (hd : decode cc pc = .ok (.dup2, 1)) (hc : v.category = 2) (kk : J p l e R s m args below meth c nL D cl A h lv k n Q (pc + 1) (v :: v :: st)) : J p l e R s m args below meth c nL D cl A h lv k n Q pc (v :: st) := fun H locs ls a b d => lv_dup2_2 X.1 X.2.1 hd hc (kk H locs ls a b d)
theorem J_dup2_x1L (X : hCx G p m c cc nL s args Ts own D cl K A) {v u : Value} (hd : decode cc pc = .ok (.dup2_x1, 1)) (hc : v.category = 2) (hc2 : u.category = 1) (kk : J p l e R s m args below meth c nL D cl A h lv k n Q (pc + 1) (v :: u :: v :: st)) : J p l e R s m args below meth c nL D cl A h lv k n Q pc (v :: u :: st) := fun H locs ls a b d => lv_dup2_x1_2 X.1 X.2.1 hd hc hc2 (kk H locs ls a b d)
theorem J_dup2_x2L (X : hCx G p m c cc nL s args Ts own D cl K A) {v u t : Value} (hd : decode cc pc = .ok (.dup2_x2, 1)) (hc : v.category = 2) (hc2 : u.category = 1) (hc3 : t.category = 1) (kk : J p l e R s m args below meth c nL D cl A h lv k n Q (pc + 1) (v :: u :: t :: v :: st)) : J p l e R s m args below meth c nL D cl A h lv k n Q pc (v :: u :: t :: st) := fun H locs ls a b d => lv_dup2_x2_2 X.1 X.2.1 hd hc hc2 hc3 (kk H locs ls a b d)
theorem J_goto (X : hCx G p m c cc nL s args Ts own D cl K A) {off : Int} {tgt : Nat} (hd : decode cc pc = .ok (.goto off, 3)) (ht : (pc : Int) + off = (tgt : Int)) (kk : J p l e R s m args below meth c nL D cl A h lv k n Q tgt st) : J p l e R s m args below meth c nL D cl A h lv k n Q pc st := fun H locs ls a b d => lv_goto X.1 X.2.1 hd ht (kk H locs ls a b d)
theorem J_if_eq (X : hCx G p m c cc nL s args Ts own D cl K A) {x : Int32} {off : Int} {tgt : Nat} (hd : decode cc pc = .ok (.ifCond .eq off, 3)) (ht : (pc : Int) + off = (tgt : Int)) (kt : x = 0 → J p l e R s m args below meth c nL D cl A h lv k n Q tgt st) (kf : ¬ (x = 0) → J p l e R s m args below meth c nL D cl A h lv k n Q (pc + 3) st) : J p l e R s m args below meth c nL D cl A h lv k n Q pc (.int x :: st) := fun H locs ls a b d => lv_if_eq X.1 X.2.1 hd ht (fun z => kt z H locs ls a b d) (fun z => kf z H locs ls a b d)
theorem J_icmp_eq (X : hCx G p m c cc nL s args Ts own D cl K A) {x y : Int32} {off : Int} {tgt : Nat} (hd : decode cc pc = .ok (.if_icmp .eq off, 3)) (ht : (pc : Int) + off = (tgt : Int)) (kt : x = y → J p l e R s m args below meth c nL D cl A h lv k n Q tgt st) (kf : ¬ (x = y) → J p l e R s m args below meth c nL D cl A h lv k n Q (pc + 3) st) : J p l e R s m args below meth c nL D cl A h lv k n Q pc (.int y :: .int x :: st) := fun H locs ls a b d => lv_icmp_eq X.1 X.2.1 hd ht (fun z => kt z H locs ls a b d) (fun z => kf z H locs ls a b d)
theorem J_if_ne (X : hCx G p m c cc nL s args Ts own D cl K A) {x : Int32} {off : Int} {tgt : Nat} (hd : decode cc pc = .ok (.ifCond .ne off, 3)) (ht : (pc : Int) + off = (tgt : Int)) (kt : ¬ (x = 0) → J p l e R s m args below meth c nL D cl A h lv k n Q tgt st) (kf : x = 0 → J p l e R s m args below meth c nL D cl A h lv k n Q (pc + 3) st) : J p l e R s m args below meth c nL D cl A h lv k n Q pc (.int x :: st) := fun H locs ls a b d => lv_if_ne X.1 X.2.1 hd ht (fun z => kt z H locs ls a b d) (fun z => kf z H locs ls a b d)
theorem J_icmp_ne (X : hCx G p m c cc nL s args Ts own D cl K A) {x y : Int32} {off : Int} {tgt : Nat} (hd : decode cc pc = .ok (.if_icmp .ne off, 3)) (ht : (pc : Int) + off = (tgt : Int)) (kt : ¬ (x = y) → J p l e R s m args below meth c nL D cl A h lv k n Q tgt st) (kf : x = y → J p l e R s m args below meth c nL D cl A h lv k n Q (pc + 3) st) : J p l e R s m args below meth c nL D cl A h lv k n Q pc (.int y :: .int x :: st) := fun H locs ls a b d => lv_icmp_ne X.1 X.2.1 hd ht (fun z => kt z H locs ls a b d) (fun z => kf z H locs ls a b d)
theorem J_if_lt (X : hCx G p m c cc nL s args Ts own D cl K A) {x : Int32} {off : Int} {tgt : Nat} (hd : decode cc pc = .ok (.ifCond .lt off, 3)) (ht : (pc : Int) + off = (tgt : Int)) (kt : x < 0 → J p l e R s m args below meth c nL D cl A h lv k n Q tgt st) (kf : ¬ (x < 0) → J p l e R s m args below meth c nL D cl A h lv k n Q (pc + 3) st) : J p l e R s m args below meth c nL D cl A h lv k n Q pc (.int x :: st) := fun H locs ls a b d => lv_if_lt X.1 X.2.1 hd ht (fun z => kt z H locs ls a b d) (fun z => kf z H locs ls a b d)
theorem J_icmp_lt (X : hCx G p m c cc nL s args Ts own D cl K A) {x y : Int32} {off : Int} {tgt : Nat} (hd : decode cc pc = .ok (.if_icmp .lt off, 3)) (ht : (pc : Int) + off = (tgt : Int)) (kt : x < y → J p l e R s m args below meth c nL D cl A h lv k n Q tgt st) (kf : ¬ (x < y) → J p l e R s m args below meth c nL D cl A h lv k n Q (pc + 3) st) : J p l e R s m args below meth c nL D cl A h lv k n Q pc (.int y :: .int x :: st) := fun H locs ls a b d => lv_icmp_lt X.1 X.2.1 hd ht (fun z => kt z H locs ls a b d) (fun z => kf z H locs ls a b d)
theorem J_if_ge (X : hCx G p m c cc nL s args Ts own D cl K A) {x : Int32} {off : Int} {tgt : Nat} (hd : decode cc pc = .ok (.ifCond .ge off, 3)) (ht : (pc : Int) + off = (tgt : Int)) (kt : 0 ≤ x → J p l e R s m args below meth c nL D cl A h lv k n Q tgt st) (kf : ¬ (0 ≤ x) → J p l e R s m args below meth c nL D cl A h lv k n Q (pc + 3) st) : J p l e R s m args below meth c nL D cl A h lv k n Q pc (.int x :: st) := fun H locs ls a b d => lv_if_ge X.1 X.2.1 hd ht (fun z => kt z H locs ls a b d) (fun z => kf z H locs ls a b d)
theorem J_icmp_ge (X : hCx G p m c cc nL s args Ts own D cl K A) {x y : Int32} {off : Int} {tgt : Nat} (hd : decode cc pc = .ok (.if_icmp .ge off, 3)) (ht : (pc : Int) + off = (tgt : Int)) (kt : y ≤ x → J p l e R s m args below meth c nL D cl A h lv k n Q tgt st) (kf : ¬ (y ≤ x) → J p l e R s m args below meth c nL D cl A h lv k n Q (pc + 3) st) : J p l e R s m args below meth c nL D cl A h lv k n Q pc (.int y :: .int x :: st) := fun H locs ls a b d => lv_icmp_ge X.1 X.2.1 hd ht (fun z => kt z H locs ls a b d) (fun z => kf z H locs ls a b d)
theorem J_if_gt (X : hCx G p m c cc nL s args Ts own D cl K A) {x : Int32} {off : Int} {tgt : Nat} (hd : decode cc pc = .ok (.ifCond .gt off, 3)) (ht : (pc : Int) + off = (tgt : Int)) (kt : 0 < x → J p l e R s m args below meth c nL D cl A h lv k n Q tgt st) (kf : ¬ (0 < x) → J p l e R s m args below meth c nL D cl A h lv k n Q (pc + 3) st) : J p l e R s m args below meth c nL D cl A h lv k n Q pc (.int x :: st) := fun H locs ls a b d => lv_if_gt X.1 X.2.1 hd ht (fun z => kt z H locs ls a b d) (fun z => kf z H locs ls a b d)
theorem J_icmp_gt (X : hCx G p m c cc nL s args Ts own D cl K A) {x y : Int32} {off : Int} {tgt : Nat} (hd : decode cc pc = .ok (.if_icmp .gt off, 3)) (ht : (pc : Int) + off = (tgt : Int)) (kt : y < x → J p l e R s m args below meth c nL D cl A h lv k n Q tgt st) (kf : ¬ (y < x) → J p l e R s m args below meth c nL D cl A h lv k n Q (pc + 3) st) : J p l e R s m args below meth c nL D cl A h lv k n Q pc (.int y :: .int x :: st) := fun H locs ls a b d => lv_icmp_gt X.1 X.2.1 hd ht (fun z => kt z H locs ls a b d) (fun z => kf z H locs ls a b d)
theorem J_if_le (X : hCx G p m c cc nL s args Ts own D cl K A) {x : Int32} {off : Int} {tgt : Nat} (hd : decode cc pc = .ok (.ifCond .le off, 3)) (ht : (pc : Int) + off = (tgt : Int)) (kt : x ≤ 0 → J p l e R s m args below meth c nL D cl A h lv k n Q tgt st) (kf : ¬ (x ≤ 0) → J p l e R s m args below meth c nL D cl A h lv k n Q (pc + 3) st) : J p l e R s m args below meth c nL D cl A h lv k n Q pc (.int x :: st) := fun H locs ls a b d => lv_if_le X.1 X.2.1 hd ht (fun z => kt z H locs ls a b d) (fun z => kf z H locs ls a b d)
theorem J_icmp_le (X : hCx G p m c cc nL s args Ts own D cl K A) {x y : Int32} {off : Int} {tgt : Nat} (hd : decode cc pc = .ok (.if_icmp .le off, 3)) (ht : (pc : Int) + off = (tgt : Int)) (kt : x ≤ y → J p l e R s m args below meth c nL D cl A h lv k n Q tgt st) (kf : ¬ (x ≤ y) → J p l e R s m args below meth c nL D cl A h lv k n Q (pc + 3) st) : J p l e R s m args below meth c nL D cl A h lv k n Q pc (.int y :: .int x :: st) := fun H locs ls a b d => lv_icmp_le X.1 X.2.1 hd ht (fun z => kt z H locs ls a b d) (fun z => kf z H locs ls a b d)
theorem J_ifnull (X : hCx G p m c cc nL s args Ts own D cl K A) {x : Option Nat} {off : Int} {tgt : Nat} (hd : decode cc pc = .ok (.ifnull off, 3)) (ht : (pc : Int) + off = (tgt : Int)) (kt : x = none → J p l e R s m args below meth c nL D cl A h lv k n Q tgt st) (kf : ∀ y, x = some y → J p l e R s m args below meth c nL D cl A h lv k n Q (pc + 3) st) : J p l e R s m args below meth c nL D cl A h lv k n Q pc (va_rf x :: st) := by
  cases x with
  | none => exact fun H locs ls a b d => lv_ifnullN X.1 X.2.1 hd ht (kt rfl H locs ls a b d)
  | some y => exact fun H locs ls a b d => lv_ifnull X.1 X.2.1 hd (kf y rfl H locs ls a b d)
theorem J_ifnonnull (X : hCx G p m c cc nL s args Ts own D cl K A) {x : Option Nat} {off : Int} {tgt : Nat} (hd : decode cc pc = .ok (.ifnonnull off, 3)) (ht : (pc : Int) + off = (tgt : Int)) (kt : x = none → J p l e R s m args below meth c nL D cl A h lv k n Q (pc + 3) st) (kf : ∀ y, x = some y → J p l e R s m args below meth c nL D cl A h lv k n Q tgt st) : J p l e R s m args below meth c nL D cl A h lv k n Q pc (va_rf x :: st) := by
  cases x with
  | none => exact fun H locs ls a b d => lv_ifnonnullN X.1 X.2.1 hd (kt rfl H locs ls a b d)
  | some y => exact fun H locs ls a b d => lv_ifnonnull X.1 X.2.1 hd ht (kf y rfl H locs ls a b d)
theorem J_lookup (X : hCx G p m c cc nL s args Ts own D cl K A) {dflt : Int} {ps : Array (Int × Int)} {len : Nat} {x : Int32} {off : Int} {tgt : Nat} (hd : decode cc pc = .ok (.lookupswitch dflt ps, len)) (hp : (ps.toList.zip (ps.toList.drop 1)).all (fun (a, next) => a.1 < next.1) = true) (ho : Op.lookupswitch.offset ps.toList dflt x.toInt = off) (ht : (pc : Int) + off = (tgt : Int)) (kk : J p l e R s m args below meth c nL D cl A h lv k n Q tgt st) : J p l e R s m args below meth c nL D cl A h lv k n Q pc (.int x :: st) := fun H locs ls a b d => lv_lookup X.1 X.2.1 hd hp ho ht (kk H locs ls a b d)
theorem J_tableOut (X : hCx G p m c cc nL s args Ts own D cl K A) {dflt lo hi : Int} {offs : Array Int} {len : Nat} {x : Int32} {tgt : Nat} (hd : decode cc pc = .ok (.tableswitch dflt lo hi offs, len)) (hz : x.toInt < lo ∨ hi < x.toInt) (ht : (pc : Int) + dflt = (tgt : Int)) (kk : J p l e R s m args below meth c nL D cl A h lv k n Q tgt st) : J p l e R s m args below meth c nL D cl A h lv k n Q pc (.int x :: st) := fun H locs ls a b d => lv_tableOut X.1 X.2.1 hd hz ht (kk H locs ls a b d)
theorem J_tableIn (X : hCx G p m c cc nL s args Ts own D cl K A) {dflt lo hi : Int} {offs : Array Int} {len : Nat} {x : Int32} {off : Int} {tgt : Nat} (y : Int32) (ey : x = y) (hd : decode cc pc = .ok (.tableswitch dflt lo hi offs, len)) (h1 : ¬ y.toInt < lo) (h2 : ¬ hi < y.toInt) (ho : offs[(y.toInt - lo).toNat]? = some off) (ht : (pc : Int) + off = (tgt : Int)) (kk : J p l e R s m args below meth c nL D cl A h lv k n Q tgt st) : J p l e R s m args below meth c nL D cl A h lv k n Q pc (.int x :: st) := by
  subst ey
  exact fun H locs ls a b d => lv_tableIn X.1 X.2.1 hd h1 h2 ho ht (kk H locs ls a b d)
theorem J_sub (ks : List Nat) {lv' : List (Nat × Value)} (hl : lv_pick lv ks = lv') (kk : J p l e R s m args below meth c nL D cl A h lv' k n Q pc st) : J p l e R s m args below meth c nL D cl A h lv k n Q pc st := fun H locs ls a b d => kk H locs ls a b (lv_sub d ks hl)
theorem J_wid {k2 n2 : Nat} (h1 : k ≤ k2) (h2 : n ≤ n2) (kk : J p l e R s m args below meth c nL D cl A h lv k2 n2 Q pc st) : J p l e R s m args below meth c nL D cl A h lv k n Q pc st := fun H locs ls a b d => W.widen h1 h2 (kk H locs ls a b d)
theorem J_st {st' : List Value} (h1 : st = st') (kk : J p l e R s m args below meth c nL D cl A h lv k n Q pc st') : J p l e R s m args below meth c nL D cl A h lv k n Q pc st := h1 ▸ kk
theorem J_get0 (X : hCx G p m c cc nL s args Ts own D cl K A) {C : String} {T : u_T} {N ci : Nat} (hc : cl[ci]? = some (C, T, N)) (hin : ∀ w ∈ u_ws C T N, w ∈ Ts) (kk0 : Nat) {idx : Nat} (hlink : (Cond.fieldLink own idx C (T kk0).2.1 (T kk0).2.2.1) ∈ Ts) (hk : kk0 < N) (hdc : (T kk0).1 = C) (hd : decode cc pc = .ok (.getfield idx, 3)) {a : Nat} {fs : List Value} {v : Value} (ha : h.2 a = some (.inl (ci, fs))) (hv : fs[kk0]? = some v) (kk : J p l e R s m args below meth c nL D cl A h lv k n Q (pc + 3) (v :: st)) : J p l e R s m args below meth c nL D cl A h lv k n Q pc (.ref a :: st) := by
  intro H locs ls a1 b1 d1
  obtain ⟨r, hr, -, hO⟩ := (a1.2 a _ ha).2
  have hP : va_P D cl [(a, .inr (ci, fs))] H := by
    intro k q hq
    cases k with
    | zero => cases hq; exact ⟨r, hr, hO⟩
    | succ k => simp at hq
  have hK : va_K D cl [] s := ⟨X.2.2.2.2.2.1.1, fun k q hq => by simp at hq⟩
  exact va_get (ref := C) X.1 X.2.1 X.2.2.2.2.1 hin X.2.2.2.1 hK hP 0 rfl hc kk0 hk (X.2.2.2.2.1 _ hlink) (fun x hx => by rw [← hdc]; exact hx) hv hd (kk H locs ls a1 b1 d1)
theorem J_getI (X : hCx G p m c cc nL s args Ts own D cl K A) {C : String} {T : u_T} {N ci : Nat} (hc : cl[ci]? = some (C, T, N)) (hin : ∀ w ∈ u_ws C T N, w ∈ Ts) (kk0 : Nat) {idx : Nat} (hlink : (Cond.fieldLink own idx C (T kk0).2.1 (T kk0).2.2.1) ∈ Ts) (hk : kk0 < N) (hdc : (T kk0).1 = C) (hd : decode cc pc = .ok (.getfield idx, 3)) {v : Value} {a : Nat} (ev : v = .ref a) {x : Int32} (hg : hGetI h a ci kk0 = some x) (kk : J p l e R s m args below meth c nL D cl A h lv k n Q (pc + 3) (.int x :: st)) : J p l e R s m args below meth c nL D cl A h lv k n Q pc (v :: st) := by
  subst ev
  obtain ⟨fs, h1, h2⟩ := hGetI_at hg
  exact J_get0 X hc hin kk0 hlink hk hdc hd h1 h2 kk
theorem J_getL (X : hCx G p m c cc nL s args Ts own D cl K A) {C : String} {T : u_T} {N ci : Nat} (hc : cl[ci]? = some (C, T, N)) (hin : ∀ w ∈ u_ws C T N, w ∈ Ts) (kk0 : Nat) {idx : Nat} (hlink : (Cond.fieldLink own idx C (T kk0).2.1 (T kk0).2.2.1) ∈ Ts) (hk : kk0 < N) (hdc : (T kk0).1 = C) (hd : decode cc pc = .ok (.getfield idx, 3)) {v : Value} {a : Nat} (ev : v = .ref a) {x : Int64} (hg : hGetL h a ci kk0 = some x) (kk : J p l e R s m args below meth c nL D cl A h lv k n Q (pc + 3) (.long x :: st)) : J p l e R s m args below meth c nL D cl A h lv k n Q pc (v :: st) := by
  subst ev
  obtain ⟨fs, h1, h2⟩ := hGetL_at hg
  exact J_get0 X hc hin kk0 hlink hk hdc hd h1 h2 kk
theorem J_getA (X : hCx G p m c cc nL s args Ts own D cl K A) {C : String} {T : u_T} {N ci : Nat} (hc : cl[ci]? = some (C, T, N)) (hin : ∀ w ∈ u_ws C T N, w ∈ Ts) (kk0 : Nat) {idx : Nat} (hlink : (Cond.fieldLink own idx C (T kk0).2.1 (T kk0).2.2.1) ∈ Ts) (hk : kk0 < N) (hdc : (T kk0).1 = C) (hd : decode cc pc = .ok (.getfield idx, 3)) {v : Value} {a : Nat} (ev : v = .ref a) {x : Nat} (hg : hGetA h a ci kk0 = some x) (kk : J p l e R s m args below meth c nL D cl A h lv k n Q (pc + 3) (.ref x :: st)) : J p l e R s m args below meth c nL D cl A h lv k n Q pc (v :: st) := by
  subst ev
  obtain ⟨fs, h1, h2⟩ := hGetA_at hg
  exact J_get0 X hc hin kk0 hlink hk hdc hd h1 h2 kk
theorem J_getO (X : hCx G p m c cc nL s args Ts own D cl K A) {C : String} {T : u_T} {N ci : Nat} (hc : cl[ci]? = some (C, T, N)) (hin : ∀ w ∈ u_ws C T N, w ∈ Ts) (kk0 : Nat) {idx : Nat} (hlink : (Cond.fieldLink own idx C (T kk0).2.1 (T kk0).2.2.1) ∈ Ts) (hk : kk0 < N) (hdc : (T kk0).1 = C) (hd : decode cc pc = .ok (.getfield idx, 3)) {v : Value} {a : Nat} (ev : v = .ref a) {x : Option Nat} (hg : hGetO h a ci kk0 = some x) (kk : J p l e R s m args below meth c nL D cl A h lv k n Q (pc + 3) (va_rf x :: st)) : J p l e R s m args below meth c nL D cl A h lv k n Q pc (v :: st) := by
  subst ev
  obtain ⟨fs, h1, h2⟩ := hGetO_at hg
  exact J_get0 X hc hin kk0 hlink hk hdc hd h1 h2 kk
theorem J_get0N (X : hCx G p m c cc nL s args Ts own D cl K A) {C : String} {T : u_T} {N ci : Nat} (hc : cl[ci]? = some (C, T, N)) (hin : ∀ w ∈ u_ws C T N, w ∈ Ts) (kk0 : Nat) {idx : Nat} {host : String} (hlink : ((own, idx, C, (T kk0).2.1, (T kk0).2.2.1, host) : hNt) ∈ G.1) (hk : kk0 < N) (hdc : (T kk0).1 = C) (hd : decode cc pc = .ok (.getfield idx, 3)) {a : Nat} {fs : List Value} {v : Value} (ha : h.2 a = some (.inl (ci, fs))) (hv : fs[kk0]? = some v) (kk : J p l e R s m args below meth c nL D cl A h lv k n Q (pc + 3) (v :: st)) : J p l e R s m args below meth c nL D cl A h lv k n Q pc (.ref a :: st) := by
  intro H locs ls a1 b1 d1
  obtain ⟨r, hr, -, hO⟩ := (a1.2 a _ ha).2
  have hP : va_P D cl [(a, .inr (ci, fs))] H := by
    intro k q hq
    cases k with
    | zero => cases hq; exact ⟨r, hr, hO⟩
    | succ k => simp at hq
  have hK : va_K D cl [] s := ⟨X.2.2.2.2.2.1.1, fun k q hq => by simp at hq⟩
  exact va_getN (ref := C) X.1 X.2.1 X.2.2.2.2.1 hin X.2.2.2.1 hK hP 0 rfl hc kk0 hk (va_Nw.use rfl (X.2.2.2.2.2.1.2.1 _ hlink)) (fun x hx => by rw [← hdc]; exact hx) hv hd (kk H locs ls a1 b1 d1)
theorem J_getIN (X : hCx G p m c cc nL s args Ts own D cl K A) {C : String} {T : u_T} {N ci : Nat} (hc : cl[ci]? = some (C, T, N)) (hin : ∀ w ∈ u_ws C T N, w ∈ Ts) (kk0 : Nat) {idx : Nat} {host : String} (hlink : ((own, idx, C, (T kk0).2.1, (T kk0).2.2.1, host) : hNt) ∈ G.1) (hk : kk0 < N) (hdc : (T kk0).1 = C) (hd : decode cc pc = .ok (.getfield idx, 3)) {v : Value} {a : Nat} (ev : v = .ref a) {x : Int32} (hg : hGetI h a ci kk0 = some x) (kk : J p l e R s m args below meth c nL D cl A h lv k n Q (pc + 3) (.int x :: st)) : J p l e R s m args below meth c nL D cl A h lv k n Q pc (v :: st) := by
  subst ev
  obtain ⟨fs, h1, h2⟩ := hGetI_at hg
  exact J_get0N X hc hin kk0 hlink hk hdc hd h1 h2 kk
theorem J_getLN (X : hCx G p m c cc nL s args Ts own D cl K A) {C : String} {T : u_T} {N ci : Nat} (hc : cl[ci]? = some (C, T, N)) (hin : ∀ w ∈ u_ws C T N, w ∈ Ts) (kk0 : Nat) {idx : Nat} {host : String} (hlink : ((own, idx, C, (T kk0).2.1, (T kk0).2.2.1, host) : hNt) ∈ G.1) (hk : kk0 < N) (hdc : (T kk0).1 = C) (hd : decode cc pc = .ok (.getfield idx, 3)) {v : Value} {a : Nat} (ev : v = .ref a) {x : Int64} (hg : hGetL h a ci kk0 = some x) (kk : J p l e R s m args below meth c nL D cl A h lv k n Q (pc + 3) (.long x :: st)) : J p l e R s m args below meth c nL D cl A h lv k n Q pc (v :: st) := by
  subst ev
  obtain ⟨fs, h1, h2⟩ := hGetL_at hg
  exact J_get0N X hc hin kk0 hlink hk hdc hd h1 h2 kk
theorem J_getAN (X : hCx G p m c cc nL s args Ts own D cl K A) {C : String} {T : u_T} {N ci : Nat} (hc : cl[ci]? = some (C, T, N)) (hin : ∀ w ∈ u_ws C T N, w ∈ Ts) (kk0 : Nat) {idx : Nat} {host : String} (hlink : ((own, idx, C, (T kk0).2.1, (T kk0).2.2.1, host) : hNt) ∈ G.1) (hk : kk0 < N) (hdc : (T kk0).1 = C) (hd : decode cc pc = .ok (.getfield idx, 3)) {v : Value} {a : Nat} (ev : v = .ref a) {x : Nat} (hg : hGetA h a ci kk0 = some x) (kk : J p l e R s m args below meth c nL D cl A h lv k n Q (pc + 3) (.ref x :: st)) : J p l e R s m args below meth c nL D cl A h lv k n Q pc (v :: st) := by
  subst ev
  obtain ⟨fs, h1, h2⟩ := hGetA_at hg
  exact J_get0N X hc hin kk0 hlink hk hdc hd h1 h2 kk
theorem J_getON (X : hCx G p m c cc nL s args Ts own D cl K A) {C : String} {T : u_T} {N ci : Nat} (hc : cl[ci]? = some (C, T, N)) (hin : ∀ w ∈ u_ws C T N, w ∈ Ts) (kk0 : Nat) {idx : Nat} {host : String} (hlink : ((own, idx, C, (T kk0).2.1, (T kk0).2.2.1, host) : hNt) ∈ G.1) (hk : kk0 < N) (hdc : (T kk0).1 = C) (hd : decode cc pc = .ok (.getfield idx, 3)) {v : Value} {a : Nat} (ev : v = .ref a) {x : Option Nat} (hg : hGetO h a ci kk0 = some x) (kk : J p l e R s m args below meth c nL D cl A h lv k n Q (pc + 3) (va_rf x :: st)) : J p l e R s m args below meth c nL D cl A h lv k n Q pc (v :: st) := by
  subst ev
  obtain ⟨fs, h1, h2⟩ := hGetO_at hg
  exact J_get0N X hc hin kk0 hlink hk hdc hd h1 h2 kk
theorem J_put (X : hCx G p m c cc nL s args Ts own D cl K A) {C : String} {T : u_T} {N ci : Nat} (hc : cl[ci]? = some (C, T, N)) (hin : ∀ w ∈ u_ws C T N, w ∈ Ts) (ty0 : Nat → FieldType) (hty : ∀ k, k < N → parseFieldDescriptor (T k).2.2.1 = some (ty0 k)) (hnm : ∀ a, a < N → ∀ b, b < N → a ≠ b → (T a).2.1 ≠ (T b).2.1) (kk0 : Nat) {idx : Nat} (hlink : (Cond.fieldLink own idx C (T kk0).2.1 (T kk0).2.2.1) ∈ Ts) (hk : kk0 < N) (hdc : (T kk0).1 = C) (hfin : (T kk0).2.2.2 = false) (hd : decode cc pc = .ok (.putfield idx, 3)) {r v : Value} {a : Nat} (ev : r = .ref a) (hn : narrow (ty0 kk0) v = v) (hfit : fits (ty0 kk0) v = true) {h2 : hH} (hp : hPut h a ci kk0 v = some h2) (kk : J p l e R s m args below meth c nL D cl A h2 lv k n Q (pc + 3) st) : J p l e R s m args below meth c nL D cl A h lv k n Q pc (v :: r :: st) := by
  subst ev
  obtain ⟨fs, ha, hl, rfl⟩ := hPut_at hp
  intro H locs ls a1 b1 d1
  obtain ⟨r, hr, hlen, cell, q1, q2, q3, q4⟩ := (a1.2 a _ ha).2
  have hr : r = (C, T, N) := Option.some.inj (hr.symm.trans hc)
  subst hr
  have hK : va_K D cl [] s := ⟨X.2.2.2.2.2.1.1, fun k q hq => by simp at hq⟩
  have hap := va_apart (own := own) X.2.2.2.2.1 hin ty0 hty hnm hK hc
  obtain ⟨hS, hfc, kC, hkC, hkind⟩ := X.2.2.2.2.2.1.1 ci _ hc
  obtain ⟨cf, kf, fi, f, hi, hsl⟩ := hS kk0 hk
  have hlay := X.2.2.2.2.1 _ (hin _ (u_in_lay hk))
  unfold u_lay at hlay
  rw [if_neg (by rw [hfin]; decide)] at hlay
  have hst := (u_facts hfc hkC (u_lays X.2.2.2.2.1 hin hk) hi).1
  have h6 := u_store hfc hkC hkind hlay hi (hty kk0 hk) hn hfit
  have hi' : s.fieldFound? C (T kk0).2.1 (T kk0).2.2.1 = some (cf, kf, fi, f) := by rw [← hi]; exact congrArg (fun z => s.fieldFound? z (T kk0).2.1 (T kk0).2.2.1) hdc.symm
  refine W.putK X.1 X.2.1 (f := f) ⟨X.2.2.2.1, X.2.2.2.2.1 _ hlink, ⟨_, _, _, hi'⟩, hst⟩ (by rw [q2]; exact h6) q1 q3 (by rw [hsl]; exact k2_hasslot (q4 kk0 hk)) rfl rfl hd fun H' e1 e2 e3 => ?_
  rw [hsl] at e1 ⊢
  have hba := (a1.2 a _ ha).1
  exact kk H' _ ls (a1.set e2 e3 hba ⟨_, hc, by rw [List.length_set]; exact hlen, t_OB.to (V := updV (vp_V fs) kk0 v) ⟨_, e1, q2, q3, t_set q4 hap hk v⟩ (fun j _ => vp_updV_set hl v j)⟩) (b1.put e2 e3 hba) d1
theorem J_putN (X : hCx G p m c cc nL s args Ts own D cl K A) {C : String} {T : u_T} {N ci : Nat} (hc : cl[ci]? = some (C, T, N)) (hin : ∀ w ∈ u_ws C T N, w ∈ Ts) (ty0 : Nat → FieldType) (hty : ∀ k, k < N → parseFieldDescriptor (T k).2.2.1 = some (ty0 k)) (hnm : ∀ a, a < N → ∀ b, b < N → a ≠ b → (T a).2.1 ≠ (T b).2.1) (kk0 : Nat) {idx : Nat} {host : String} (hlink : ((own, idx, C, (T kk0).2.1, (T kk0).2.2.1, host) : hNt) ∈ G.1) (hk : kk0 < N) (hdc : (T kk0).1 = C) (hfin : (T kk0).2.2.2 = false) (hd : decode cc pc = .ok (.putfield idx, 3)) {r v : Value} {a : Nat} (ev : r = .ref a) (hn : narrow (ty0 kk0) v = v) (hfit : fits (ty0 kk0) v = true) {h2 : hH} (hp : hPut h a ci kk0 v = some h2) (kk : J p l e R s m args below meth c nL D cl A h2 lv k n Q (pc + 3) st) : J p l e R s m args below meth c nL D cl A h lv k n Q pc (v :: r :: st) := by
  subst ev
  obtain ⟨fs, ha, hl, rfl⟩ := hPut_at hp
  intro H locs ls a1 b1 d1
  obtain ⟨r, hr, hlen, cell, q1, q2, q3, q4⟩ := (a1.2 a _ ha).2
  have hr : r = (C, T, N) := Option.some.inj (hr.symm.trans hc)
  subst hr
  have hK : va_K D cl [] s := ⟨X.2.2.2.2.2.1.1, fun k q hq => by simp at hq⟩
  have hap := va_apart (own := own) X.2.2.2.2.1 hin ty0 hty hnm hK hc
  obtain ⟨hS, hfc, kC, hkC, hkind⟩ := X.2.2.2.2.2.1.1 ci _ hc
  obtain ⟨cf, kf, fi, f, hi, hsl⟩ := hS kk0 hk
  have hlay := X.2.2.2.2.1 _ (hin _ (u_in_lay hk))
  unfold u_lay at hlay
  rw [if_neg (by rw [hfin]; decide)] at hlay
  have hst := (u_facts hfc hkC (u_lays X.2.2.2.2.1 hin hk) hi).1
  have h6 := u_store hfc hkC hkind hlay hi (hty kk0 hk) hn hfit
  have hi' : s.fieldFound? C (T kk0).2.1 (T kk0).2.2.1 = some (cf, kf, fi, f) := by rw [← hi]; exact congrArg (fun z => s.fieldFound? z (T kk0).2.1 (T kk0).2.2.1) hdc.symm
  refine va_WputK X.1 X.2.1 (f := f) X.2.2.2.1 (va_Nw.use rfl (X.2.2.2.2.2.1.2.1 _ hlink)) hi' hst (by rw [q2]; exact h6) q1 q3 (by rw [hsl]; exact k2_hasslot (q4 kk0 hk)) rfl rfl hd fun H' e1 e2 e3 => ?_
  rw [hsl] at e1 ⊢
  have hba := (a1.2 a _ ha).1
  exact kk H' _ ls (a1.set e2 e3 hba ⟨_, hc, by rw [List.length_set]; exact hlen, t_OB.to (V := updV (vp_V fs) kk0 v) ⟨_, e1, q2, q3, t_set q4 hap hk v⟩ (fun j _ => vp_updV_set hl v j)⟩) (b1.put e2 e3 hba) d1
theorem J_putF (X : hCx G p m c cc nL s args Ts own D cl K A) {C : String} {T : u_T} {N ci : Nat} (hc : cl[ci]? = some (C, T, N)) (hin : ∀ w ∈ u_ws C T N, w ∈ Ts) (ty0 : Nat → FieldType) (hty : ∀ k, k < N → parseFieldDescriptor (T k).2.2.1 = some (ty0 k)) (hnm : ∀ a, a < N → ∀ b, b < N → a ≠ b → (T a).2.1 ≠ (T b).2.1) (kk0 : Nat) {idx : Nat} (hlink : (Cond.fieldLink own idx C (T kk0).2.1 (T kk0).2.2.1) ∈ Ts) (hk : kk0 < N) (hdc : (T kk0).1 = C) (hown : C = own) (hfin : (T kk0).2.2.2 = true) (hin2 : meth.name = "<init>") (hd : decode cc pc = .ok (.putfield idx, 3)) {r v : Value} {a : Nat} (ev : r = .ref a) (hn : narrow (ty0 kk0) v = v) (hfit : fits (ty0 kk0) v = true) {h2 : hH} (hp : hPut h a ci kk0 v = some h2) (kk : J p l e R s m args below meth c nL D cl A h2 lv k n Q (pc + 3) st) : J p l e R s m args below meth c nL D cl A h lv k n Q pc (v :: r :: st) := by
  subst ev
  obtain ⟨fs, ha, hl, rfl⟩ := hPut_at hp
  intro H locs ls a1 b1 d1
  obtain ⟨r, hr, hlen, cell, q1, q2, q3, q4⟩ := (a1.2 a _ ha).2
  have hr : r = (C, T, N) := Option.some.inj (hr.symm.trans hc)
  subst hr
  have hK : va_K D cl [] s := ⟨X.2.2.2.2.2.1.1, fun k q hq => by simp at hq⟩
  have hap := va_apart (own := own) X.2.2.2.2.1 hin ty0 hty hnm hK hc
  obtain ⟨hS, hfc, kC, hkC, hkind⟩ := X.2.2.2.2.2.1.1 ci _ hc
  obtain ⟨cf, kf, fi, f, hi, hsl⟩ := hS kk0 hk
  have hlay := X.2.2.2.2.1 _ (hin _ (u_in_lay hk))
  unfold u_lay at hlay
  rw [if_pos hfin] at hlay
  have hst := (u_facts hfc hkC (u_lays X.2.2.2.2.1 hin hk) hi).1
  have hcf : m.cls = cf := by
    obtain ⟨_, _, c', _, _, _, -, -, hf', -, -, -, hown2, -⟩ := Cond.laysFinal_spec hlay
    have e1 : c' = cf := by have := hi.symm.trans hf'; simp at this; exact this.1.symm
    rw [hdc, hown] at hown2
    rw [← e1]; exact Option.some.inj (X.2.2.2.1.symm.trans hown2)
  have h6 := u_fits hfc hkC hkind (Or.inr hlay) hi (hty kk0 hk) hn hfit
  have hi' : s.fieldFound? C (T kk0).2.1 (T kk0).2.2.1 = some (cf, kf, fi, f) := by rw [← hi]; exact congrArg (fun z => s.fieldFound? z (T kk0).2.1 (T kk0).2.2.1) hdc.symm
  refine W.putFinK X.1 X.2.1 X.2.2.2.1 (X.2.2.2.2.1 _ hlink) hi' hst hcf hin2 (by rw [q2]; exact h6) q1 q3 (by rw [hsl]; exact k2_hasslot (q4 kk0 hk)) rfl rfl hd fun H' e1 e2 e3 => ?_
  rw [hsl] at e1 ⊢
  have hba := (a1.2 a _ ha).1
  exact kk H' _ ls (a1.set e2 e3 hba ⟨_, hc, by rw [List.length_set]; exact hlen, t_OB.to (V := updV (vp_V fs) kk0 v) ⟨_, e1, q2, q3, t_set q4 hap hk v⟩ (fun j _ => vp_updV_set hl v j)⟩) (b1.put e2 e3 hba) d1
theorem hPutZ_of {h h2 : hH} {a ci k : Nat} {x : Int32} (e : hPutZ h a ci k x = some h2) : hPut h a ci k (.int x) = some h2 ∧ narrow .boolean (.int x) = .int x ∧ fits .boolean (.int x) = true := by
  unfold hPutZ at e
  split at e
  · rename_i hx
    refine ⟨e, ?_⟩
    rcases hx with rfl | rfl
    · exact ⟨rfl, rfl⟩
    · exact ⟨rfl, rfl⟩
  · cases e
def hZ (x : Int32) : Option Unit := if x = 0 ∨ x = 1 then some () else none
theorem hZ_of {x : Int32} {u : Unit} (e : hZ x = some u) : narrow .boolean (.int x) = .int x := by
  unfold hZ at e
  split at e
  · rename_i hx
    rcases hx with rfl | rfl <;> rfl
  · cases e
theorem J_iald (X : hCx G p m c cc nL s args Ts own D cl K A) (hd : decode cc pc = .ok (.iaload, 1)) {v : Value} {a : Nat} (ev : v = .ref a) {i : Int32} {x : Int32} (hg : hLdI h a .int i = some x) (kk : J p l e R s m args below meth c nL D cl A h lv k n Q (pc + 1) (.int x :: st)) : J p l e R s m args below meth c nL D cl A h lv k n Q pc (.int i :: v :: st) := by
  subst ev
  obtain ⟨nn, f, ha, hi, rfl⟩ := hLdI_at hg
  intro H locs ls a1 b1 d1
  obtain ⟨cA, hA, hR, hH⟩ := (a1.2 a _ ha).2
  have hK : va_K D cl [(cA, .int)] s := ⟨X.2.2.2.2.2.1.1, fun k q hq => by
    cases k with
    | zero => cases hq; exact ⟨hA, hR⟩
    | succ k => simp at hq⟩
  have hP : va_P D cl [(a, .inl (cA, nn, .inl f))] H := by
    intro k q hq
    cases k with
    | zero => cases hq; exact hH
    | succ k => simp at hq
  exact va_iald X.1 X.2.1 hK hP 0 0 rfl rfl hi hd (kk H locs ls a1 b1 d1)
theorem J_bald (X : hCx G p m c cc nL s args Ts own D cl K A) (hd : decode cc pc = .ok (.baload, 1)) {v : Value} {a : Nat} (ev : v = .ref a) {i : Int32} {x : Int32} (hg : hLdI h a .byte i = some x) (kk : J p l e R s m args below meth c nL D cl A h lv k n Q (pc + 1) (.int x :: st)) : J p l e R s m args below meth c nL D cl A h lv k n Q pc (.int i :: v :: st) := by
  subst ev
  obtain ⟨nn, f, ha, hi, rfl⟩ := hLdI_at hg
  intro H locs ls a1 b1 d1
  obtain ⟨cA, hA, hR, hH⟩ := (a1.2 a _ ha).2
  have hK : va_K D cl [(cA, .byte)] s := ⟨X.2.2.2.2.2.1.1, fun k q hq => by
    cases k with
    | zero => cases hq; exact ⟨hA, hR⟩
    | succ k => simp at hq⟩
  have hP : va_P D cl [(a, .inl (cA, nn, .inl f))] H := by
    intro k q hq
    cases k with
    | zero => cases hq; exact hH
    | succ k => simp at hq
  exact va_bald X.1 X.2.1 hK hP 0 0 rfl rfl hi hd (kk H locs ls a1 b1 d1)
theorem J_zald (X : hCx G p m c cc nL s args Ts own D cl K A) (hd : decode cc pc = .ok (.baload, 1)) {v : Value} {a : Nat} (ev : v = .ref a) {i : Int32} {x : Int32} (hg : hLdI h a .boolean i = some x) (kk : J p l e R s m args below meth c nL D cl A h lv k n Q (pc + 1) (.int x :: st)) : J p l e R s m args below meth c nL D cl A h lv k n Q pc (.int i :: v :: st) := by
  subst ev
  obtain ⟨nn, f, ha, hi, rfl⟩ := hLdI_at hg
  intro H locs ls a1 b1 d1
  obtain ⟨cA, hA, hR, hH⟩ := (a1.2 a _ ha).2
  have hK : va_K D cl [(cA, .boolean)] s := ⟨X.2.2.2.2.2.1.1, fun k q hq => by
    cases k with
    | zero => cases hq; exact ⟨hA, hR⟩
    | succ k => simp at hq⟩
  have hP : va_P D cl [(a, .inl (cA, nn, .inl f))] H := by
    intro k q hq
    cases k with
    | zero => cases hq; exact hH
    | succ k => simp at hq
  exact va_zald X.1 X.2.1 hK hP 0 0 rfl rfl hi hd (kk H locs ls a1 b1 d1)
theorem J_cald (X : hCx G p m c cc nL s args Ts own D cl K A) (hd : decode cc pc = .ok (.caload, 1)) {v : Value} {a : Nat} (ev : v = .ref a) {i : Int32} {x : Int32} (hg : hLdI h a .char i = some x) (kk : J p l e R s m args below meth c nL D cl A h lv k n Q (pc + 1) (.int x :: st)) : J p l e R s m args below meth c nL D cl A h lv k n Q pc (.int i :: v :: st) := by
  subst ev
  obtain ⟨nn, f, ha, hi, rfl⟩ := hLdI_at hg
  intro H locs ls a1 b1 d1
  obtain ⟨cA, hA, hR, hH⟩ := (a1.2 a _ ha).2
  have hK : va_K D cl [(cA, .char)] s := ⟨X.2.2.2.2.2.1.1, fun k q hq => by
    cases k with
    | zero => cases hq; exact ⟨hA, hR⟩
    | succ k => simp at hq⟩
  have hP : va_P D cl [(a, .inl (cA, nn, .inl f))] H := by
    intro k q hq
    cases k with
    | zero => cases hq; exact hH
    | succ k => simp at hq
  exact va_cald X.1 X.2.1 hK hP 0 0 rfl rfl hi hd (kk H locs ls a1 b1 d1)
theorem J_lald (X : hCx G p m c cc nL s args Ts own D cl K A) (hd : decode cc pc = .ok (.laload, 1)) {v : Value} {a : Nat} (ev : v = .ref a) {i : Int32} {x : Int64} (hg : hLdL h a i = some x) (kk : J p l e R s m args below meth c nL D cl A h lv k n Q (pc + 1) (.long x :: st)) : J p l e R s m args below meth c nL D cl A h lv k n Q pc (.int i :: v :: st) := by
  subst ev
  obtain ⟨nn, f, ha, hi, rfl⟩ := hLdL_at hg
  intro H locs ls a1 b1 d1
  obtain ⟨cA, hA, hR, hH⟩ := (a1.2 a _ ha).2
  have hK : va_K D cl [(cA, .long)] s := ⟨X.2.2.2.2.2.1.1, fun k q hq => by
    cases k with
    | zero => cases hq; exact ⟨hA, hR⟩
    | succ k => simp at hq⟩
  have hP : va_P D cl [(a, .inl (cA, nn, .inr (.inl f)))] H := by
    intro k q hq
    cases k with
    | zero => cases hq; exact hH
    | succ k => simp at hq
  exact va_lald X.1 X.2.1 hK hP 0 0 rfl rfl hi hd (kk H locs ls a1 b1 d1)
theorem J_aald (X : hCx G p m c cc nL s args Ts own D cl K A) {E : String} (hd : decode cc pc = .ok (.aaload, 1)) {v : Value} {a : Nat} (ev : v = .ref a) {i : Int32} {x : Option Nat} (hg : hLdO h a E i = some x) (kk : J p l e R s m args below meth c nL D cl A h lv k n Q (pc + 1) (va_rf x :: st)) : J p l e R s m args below meth c nL D cl A h lv k n Q pc (.int i :: v :: st) := by
  subst ev
  obtain ⟨nn, f, ha, hi, rfl⟩ := hLdO_at hg
  intro H locs ls a1 b1 d1
  obtain ⟨cA, hA, hR, hH⟩ := (a1.2 a _ ha).2
  have hK : va_K D cl [(cA, (.object E))] s := ⟨X.2.2.2.2.2.1.1, fun k q hq => by
    cases k with
    | zero => cases hq; exact ⟨hA, hR⟩
    | succ k => simp at hq⟩
  have hP : va_P D cl [(a, .inl (cA, nn, .inr (.inr (.inr (.inr f)))))] H := by
    intro k q hq
    cases k with
    | zero => cases hq; exact hH
    | succ k => simp at hq
  exact va_aldq X.1 X.2.1 hK hP 0 0 rfl rfl hi hd (kk H locs ls a1 b1 d1)
theorem J_alen (X : hCx G p m c cc nL s args Ts own D cl K A) (hd : decode cc pc = .ok (.arraylength, 1)) {v : Value} {a : Nat} (ev : v = .ref a) {x : Int32} (hg : hLen h a = some x) (kk : J p l e R s m args below meth c nL D cl A h lv k n Q (pc + 1) (.int x :: st)) : J p l e R s m args below meth c nL D cl A h lv k n Q pc (v :: st) := by
  subst ev
  obtain ⟨ty, ⟨nn, f⟩, ha, rfl⟩ := hLen_at hg
  intro H locs ls a1 b1 d1
  obtain ⟨cA, hA, hR, hH⟩ := (a1.2 a _ ha).2
  have hK : va_K D cl [(cA, ty)] s := ⟨X.2.2.2.2.2.1.1, fun k q hq => by
    cases k with
    | zero => cases hq; exact ⟨hA, hR⟩
    | succ k => simp at hq⟩
  have hP : va_P D cl [(a, .inl (cA, nn, f))] H := by
    intro k q hq
    cases k with
    | zero => cases hq; exact hH
    | succ k => simp at hq
  exact va_alen X.1 X.2.1 hK hP 0 0 rfl rfl rfl hd (kk H locs ls a1 b1 d1)
theorem J_iast (X : hCx G p m c cc nL s args Ts own D cl K A) (hd : decode cc pc = .ok (.iastore, 1)) {v : Value} {a : Nat} (ev : v = .ref a) {i : Int32} {x : Int32} {h2 : hH} (hg : hStI h a i x = some h2) (kk : J p l e R s m args below meth c nL D cl A h2 lv k n Q (pc + 1) st) : J p l e R s m args below meth c nL D cl A h lv k n Q pc (.int x :: .int i :: v :: st) := by
  subst ev
  obtain ⟨nn, f, ha, hi, rfl⟩ := hStI_at hg
  intro H locs ls a1 b1 d1
  obtain ⟨cA, hA, hR, hH⟩ := (a1.2 a _ ha).2
  refine W.iast X.1 X.2.1 hH (hA nn (fun j => .int (f j))) (fun q => by cases q) (by show ¬ (i < 0 ∨ (arrV _ _ _).slots.size ≤ _); rw [arrV_size]; exact hi) rfl rfl hd fun H1 e1 z oq => ?_
  have hba := (a1.2 a _ ha).1
  refine kk H1 _ ls (a1.set z oq hba ⟨cA, hA, hR, ?_⟩) (b1.put z oq hba) d1
  rw [e1]
  dsimp only
  rw [vp_cell_i, vp_cell_i, arrV_store]
  congr 2
  funext q
  by_cases hq : q = i.toNatClampNeg
  · subst hq
    simp [updV, upd]
  · simp [updV, upd, hq]
theorem J_bast (X : hCx G p m c cc nL s args Ts own D cl K A) (hd : decode cc pc = .ok (.bastore, 1)) {v : Value} {a : Nat} (ev : v = .ref a) {i : Int32} {x : Int32} {h2 : hH} (hg : hStB h a i x = some h2) (kk : J p l e R s m args below meth c nL D cl A h2 lv k n Q (pc + 1) st) : J p l e R s m args below meth c nL D cl A h lv k n Q pc (.int x :: .int i :: v :: st) := by
  subst ev
  obtain ⟨nn, f, ha, hi, rfl⟩ := hStB_at hg
  intro H locs ls a1 b1 d1
  obtain ⟨cA, hA, hR, hH⟩ := (a1.2 a _ ha).2
  refine W.bast X.1 X.2.1 hH (hA nn (fun j => .int (f j))) (fun q => by cases q) (by show ¬ (i < 0 ∨ (arrV _ _ _).slots.size ≤ _); rw [arrV_size]; exact hi) rfl rfl hd fun H1 e1 z oq => ?_
  have hba := (a1.2 a _ ha).1
  refine kk H1 _ ls (a1.set z oq hba ⟨cA, hA, hR, ?_⟩) (b1.put z oq hba) d1
  rw [e1]
  dsimp only
  rw [vp_cell_i, vp_cell_i, arrV_store]
  congr 2
  funext q
  by_cases hq : q = i.toNatClampNeg
  · subst hq
    simp [updV, upd, narrow]
  · simp [updV, upd, narrow, hq]
theorem J_zast (X : hCx G p m c cc nL s args Ts own D cl K A) (hd : decode cc pc = .ok (.bastore, 1)) {v : Value} {a : Nat} (ev : v = .ref a) {i : Int32} {x : Int32} {h2 : hH} (hg : hStZ h a i x = some h2) (kk : J p l e R s m args below meth c nL D cl A h2 lv k n Q (pc + 1) st) : J p l e R s m args below meth c nL D cl A h lv k n Q pc (.int x :: .int i :: v :: st) := by
  subst ev
  obtain ⟨nn, f, ha, hi, rfl⟩ := hStZ_at hg
  intro H locs ls a1 b1 d1
  obtain ⟨cA, hA, hR, hH⟩ := (a1.2 a _ ha).2
  refine W.zast X.1 X.2.1 hH (hA nn (fun j => .int (f j))) (fun q => by cases q) (by show ¬ (i < 0 ∨ (arrV _ _ _).slots.size ≤ _); rw [arrV_size]; exact hi) rfl rfl hd fun H1 e1 z oq => ?_
  have hba := (a1.2 a _ ha).1
  refine kk H1 _ ls (a1.set z oq hba ⟨cA, hA, hR, ?_⟩) (b1.put z oq hba) d1
  rw [e1]
  dsimp only
  rw [vp_cell_i, vp_cell_i, arrV_store]
  congr 2
  funext q
  by_cases hq : q = i.toNatClampNeg
  · subst hq
    simp [updV, upd, narrow]
  · simp [updV, upd, narrow, hq]
theorem J_last (X : hCx G p m c cc nL s args Ts own D cl K A) (hd : decode cc pc = .ok (.lastore, 1)) {v : Value} {a : Nat} (ev : v = .ref a) {i : Int32} {x : Int64} {h2 : hH} (hg : hStL h a i x = some h2) (kk : J p l e R s m args below meth c nL D cl A h2 lv k n Q (pc + 1) st) : J p l e R s m args below meth c nL D cl A h lv k n Q pc (.long x :: .int i :: v :: st) := by
  subst ev
  obtain ⟨nn, f, ha, hi, rfl⟩ := hStL_at hg
  intro H locs ls a1 b1 d1
  obtain ⟨cA, hA, hR, hH⟩ := (a1.2 a _ ha).2
  refine W.last X.1 X.2.1 hH (hA nn (fun j => .long (f j))) (fun q => by cases q) (by show ¬ (i < 0 ∨ (arrV _ _ _).slots.size ≤ _); rw [arrV_size]; exact hi) rfl rfl hd fun H1 e1 z oq => ?_
  have hba := (a1.2 a _ ha).1
  refine kk H1 _ ls (a1.set z oq hba ⟨cA, hA, hR, ?_⟩) (b1.put z oq hba) d1
  rw [e1]
  dsimp only
  rw [vp_cell_l, vp_cell_l, arrV_store]
  congr 2
  funext q
  by_cases hq : q = i.toNatClampNeg
  · subst hq
    simp [updV, vp_updL]
  · simp [updV, vp_updL, hq]
theorem J_aast (X : hCx G p m c cc nL s args Ts own D cl K A) {C : String} {T : u_T} {N ci : Nat} (hc : cl[ci]? = some (C, T, N)) (hd : decode cc pc = .ok (.aastore, 1)) {v u : Value} {a b : Nat} (ev : v = .ref a) (eu : u = .ref b) {i : Int32} {h2 : hH} (hg : hStA h a C i b ci = some h2) (kk : J p l e R s m args below meth c nL D cl A h2 lv k n Q (pc + 1) st) : J p l e R s m args below meth c nL D cl A h lv k n Q pc (u :: .int i :: v :: st) := by
  subst ev
  subst eu
  obtain ⟨vs, nn, f, hb, ha, hi, rfl⟩ := hStA_at hg
  intro H locs ls a1 b1 d1
  obtain ⟨cA, hA, hR, hH⟩ := (a1.2 a _ ha).2
  obtain ⟨r, hr, hlen, cellV, g1, g2, g3, -⟩ := (a1.2 b _ hb).2
  have hlt : i.toNatClampNeg < nn := Nat.not_le.mp fun q => hi (Or.inr q)
  have h0 : ¬ i < 0 := fun q => hi (Or.inl q)
  have hcls := (X.2.2.2.2.2.1.1 ci _ hc).2
  obtain ⟨kA, comp, k1, k2, k3, k4⟩ := hR
  have hcomp : comp = D.1 ci := Option.some.inj (k3.symm.trans hcls.1)
  subst hcomp
  have hRR := (a1.2 a _ ha).2
  obtain ⟨kC, hkC, -⟩ := hcls.2
  refine W.aast X.1 X.2.1 hH (fun q h => by cases h) (fun h => by cases h) k1 k2 rfl hkC ⟨h0, by show _ < (arrV _ _ _).slots.size; rw [arrV_size]; exact hlt⟩ g1 (fun q h => by rw [g3] at h; cases h) (by rw [g2]; exact hkC) (by rw [g2]; exact va_assign hcls) rfl rfl hd fun H1 e1 z oq => ?_
  have hba := (a1.2 a _ ha).1
  refine kk H1 _ ls (a1.set z oq hba ⟨cA, hA, ⟨kA, _, k1, k2, k3, k4⟩, ?_⟩) (b1.put z oq hba) d1
  rw [e1]
  dsimp only
  rw [vp_cell_q, vp_cell_q, arrV_store]
  congr 2
  funext q
  by_cases hq : q = i.toNatClampNeg
  · subst hq
    simp [updV, va_up, va_rf]
  · simp [updV, va_up, hq]
theorem J_new (X : hCx G p m c cc nL s args Ts own D cl K A) {C : String} {T : u_T} {N ci : Nat} (hc : cl[ci]? = some (C, T, N)) (hin : ∀ w ∈ u_ws C T N, w ∈ Ts) (ty0 : Nat → FieldType) (hty : ∀ k, k < N → parseFieldDescriptor (T k).2.2.1 = some (ty0 k)) {idx : Nat} (hcl : (Cond.classLink own idx C) ∈ Ts) (hinst : (Cond.instantiable C N) ∈ Ts) (hini : (Cond.initialized C) ∈ Ts) (hd : decode cc pc = .ok (.new idx, 3)) {fs : List Value} (hlen : fs.length = N) (hfs : ∀ j, j < N → defaultValue (ty0 j) = vp_V fs j) (hk : k + 1 ≤ R.cells) (hn : n + N ≤ R.slots) (kk : J p l e R s m args below meth c nL D cl A (hAdd h (.inl (ci, fs))) lv (k + 1) (n + N) Q (pc + 3) (.ref h.1 :: st)) : J p l e R s m args below meth c nL D cl A h lv k n Q pc st := by
  intro H locs ls a1 b1 d1
  have hKn := X.2.2.2.2.2.1.1 ci _ hc
  have hs := a1.1
  refine W.newcK X.1 X.2.1 X.2.2.2.1 (X.2.2.2.2.1 _ hcl) (X.2.2.2.2.1 _ hinst) (X.2.2.2.2.1 _ hini) rfl hd hk hn hKn.2.1 rfl fun H1 kC hkC e1 z1 o1 => ?_
  have h9 := kk H1 locs ls (a1.add z1 o1 (X.2.2.2.2.2.2 _ b1.1) ⟨_, hc, hlen, (u_born ty0 X.2.2.2.2.1 hin hKn hkC e1 hty).to hfs⟩) (hS_add b1 z1 o1) d1
  rw [← hs] at h9
  exact h9
theorem J_newa (X : hCx G p m c cc nL s args Ts own D cl K A) {atype : ArrayType} {ty : FieldType} (hty : newarray.typeOf atype = ty) (harr : (Cond.arrayClass ty) ∈ Ts) (hd : decode cc pc = .ok (.newarray atype, 2)) {i : Int32} {N : Nat} {a0 : vp_A} (ha : ∀ cA : ClassId, vp_cell cA a0 = arrV cA N (fun _ => defaultValue ty)) (hR : ∀ (U : State) (cA : ClassId), U.vm.findClass ("[" ++ ty.toString) = some cA → va_RA U cA ty) (hi : ¬ i < 0) (hN : i.toNatClampNeg = N) (hby : N * componentBytes ty ≤ 536870912) (hk : k + 1 ≤ R.cells) (hn : n + N ≤ R.slots) (kk : J p l e R s m args below meth c nL D cl A (hAdd h (.inr (ty, a0))) lv (k + 1) (n + N) Q (pc + 2) (.ref h.1 :: st)) : J p l e R s m args below meth c nL D cl A h lv k n Q pc (.int i :: st) := by
  subst hty
  intro H locs ls a1 b1 d1
  have hs := a1.1
  refine va_newaK X.1 X.2.1 (X.2.2.2.2.1 _ harr) rfl hd rfl hi hN hby hk hn rfl fun H1 cA e1 z1 o1 hAr hNm => ?_
  have h9 := kk H1 locs ls (a1.add z1 o1 (X.2.2.2.2.2.2 _ b1.1) ⟨cA, hAr, hR s cA hNm, by rw [ha]; exact e1⟩) (hS_add b1 z1 o1) d1
  rw [← hs] at h9
  exact h9
theorem J_newq (X : hCx G p m c cc nL s args Ts own D cl K A) {C : String} {idx : Nat} (hcl : (Cond.classLink own idx C) ∈ Ts) (hover : C ∈ G.2.1) (hd : decode cc pc = .ok (.anewarray idx, 3)) {i : Int32} {N : Nat} (hi : ¬ i < 0) (hN : i.toNatClampNeg = N) (hby : N * 4 ≤ 536870912) (hk : k + 1 ≤ R.cells) (hn : n + N ≤ R.slots) (kk : J p l e R s m args below meth c nL D cl A (hAdd h (.inr (.object C, N, .inr (.inr (.inr (.inr (fun _ => none))))))) lv (k + 1) (n + N) Q (pc + 3) (.ref h.1 :: st)) : J p l e R s m args below meth c nL D cl A h lv k n Q pc (.int i :: st) := by
  subst hN
  intro H locs ls a1 b1 d1
  have hs := a1.1
  refine W.anew X.1 X.2.1 X.2.2.2.1 (X.2.2.2.2.1 _ hcl) (va_AO.use (X.2.2.2.2.2.1.2.2.1 _ hover)) rfl hd rfl hi hby hk hn fun cA kA comp f1 f2 f3 f4 => ?_
  generalize hH1 : H.push ({ cls := cA, slots := Array.replicate i.toNatClampNeg .null, vm := .none } : Cell) = H1
  have z1 : H1.size = H.size + 1 := by rw [← hH1, Array.size_push]
  have e1 : H1[H.size]? = some (arrV cA i.toNatClampNeg (fun _ => .null)) := by rw [← hH1, Array.getElem?_push_size, ← arrV_new]
  have o1 : ∀ q : Nat, q < H.size → H1[q]? = H[q]? := fun q hq => by rw [← hH1, Array.getElem?_push, if_neg (Nat.ne_of_lt hq)]
  have hAr : ArrOfT s cA (.object C) := fun N z => ⟨(fun k h => by cases h), kA, f2, comp, f3⟩
  have h9 := kk H1 locs ls (a1.add z1 o1 (X.2.2.2.2.2.2 _ b1.1) ⟨cA, hAr, ⟨kA, comp, f2, f3, f4, f1⟩, by rw [vp_cell_q]; exact e1⟩) (hS_add b1 z1 o1) d1
  rw [← hs] at h9
  exact h9
theorem J_call {mc ms : Nat} {o : Option Value} {h2 : hH} {a : Array Value} {st0 rest : List Value} (hr : ∀ (H : Heap) (locs : List Loc) (ls : Array Slot), hw D cl A s H h → va_S A s.heap H locs → lv_has ls nL lv → va_Run p l e R s m args below meth c H locs k n mc ms (F0 m pc ls st0) rest (hQ D cl h o h2 a) (hF h)) (hA : ∀ q, s.heap.size ≤ q → A q) (kk : J p l e R s m args below meth c nL D cl A h2 lv (k + mc) (n + ms) Q (pc + 3) (o.toList ++ rest)) : J p l e R s m args below meth c nL D cl A h lv k n Q pc st0 := by
  intro H locs ls a1 b1 d1 T hT X
  obtain ⟨v, st₀, t, T', L, h0, X', hL, e1, e2, ⟨hv, hw2, hz, hk⟩, st⟩ := hr H locs ls a1 b1 d1 T hT X
  cases hv
  have hal : s.vm.Alike t.vm := by rw [← e2]; exact X'.warmed.alike
  have hfr := a1.free hA b1.1
  have hw3 : hw D cl A s T'.heap h2 := by rw [e1]; exact (hw2.moved hal.symm).wk hfr
  rw [h0] at hz hk
  have hS2 : va_S A s.heap T'.heap (locs ++ L) := by
    rw [e1]
    refine ⟨Nat.le_trans b1.1 hz, fun q h1 h2 => ?_, fun q hq => ?_⟩
    · rw [hk q (Nat.lt_of_lt_of_le h1 b1.1) (fun z => h2 (hfr q z))]
      exact b1.2.1 q h1 h2
    · rcases List.mem_append.mp hq with h | h
      · exact b1.2.2 q h
      · exact hfr _ (hL q h)
  obtain ⟨t2, x1, y1⟩ := kk T'.heap (locs ++ L) ls hw3 hS2 d1 T' rfl X'
  exact ⟨t2, st t2 x1, y1⟩
theorem hPc_blind {av : List Value} : FrameBlind (hPc G D cl K av h) := fun a U g mk q => ⟨q.1, q.2.1.moved (Vm.Alike.refl U.vm), q.2.2.same rfl⟩
theorem hPc_at {H : Heap} {locs : List Loc} {av : List Value} (X : hCx G p m c cc nL s args Ts own D cl K A) (t : hw D cl A s H h) (b1 : va_S A s.heap H locs) (U : State) (hU : U.heap = H) (hW : s.WarmedH U.vm) : hPc G D cl K av h av.toArray U := ⟨rfl, by rw [hU]; exact (t.moved hW.alike).wk (fun _ _ => trivial), by rw [hU]; exact X.2.2.2.2.2.1.to hW (t.free X.2.2.2.2.2.2 b1.1) b1.2.1⟩
theorem h_recv (X : hCx G p m c cc nL s args Ts own D cl K A) {H : Heap} {C : String} {T : u_T} {N ci a : Nat} {u : Unit} (hc : cl[ci]? = some (C, T, N)) (hi : hIs h a ci = some u) (t : hw D cl A s H h) : ∃ cell : Cell, H[a]? = some cell ∧ cell.vm.isStatics = false ∧ s.vm.findClass C = some cell.cls := by
  obtain ⟨fs, h1, -⟩ := hb_some hi
  obtain ⟨r, hr, -, cell, g1, g2, g3, -⟩ := (t.2 a _ (hObj_at h1)).2
  exact ⟨cell, g1, by rw [g3]; rfl, by rw [g2]; exact (X.2.2.2.2.2.1.1 ci _ hc).2.1⟩
theorem J_callV (X : hCx G p m c cc nL s args Ts own D cl K A) {y : MethodName} {by2 : ByteArray} {mL : Nat} {ret : Option FieldType} {ws : List Cond} {rm : Room} {mc ms nA : Nat} {As rest : List Value} {o : Option Value} {h2 : hH} {a : Nat} {idx : Nat} {v : Value} (ev : v = .ref a) {C : String} {T : u_T} {N ci : Nat} (hc : cl[ci]? = some (C, T, N)) {u : Unit} (hi : hIs h a ci = some u) (hM : Met l y ws rm (hPc G D cl K (.ref a :: As) h) (hQ D cl h o h2) mc ms (hF h)) (cw : CallW R s args own C idx y by2 mL ret ws rm mc ms nA) (hd : decode cc pc = .ok (.invokevirtual idx, 3)) (hA : As.length = nA) {st0 : List Value} (hs0 : (As.reverse ++ v :: rest) = st0) (hW : (rest.map fun v => v.category).sum ≤ 8) (hk : k + mc ≤ R.cells) (hn : n + ms ≤ R.slots) (kk : J p l e R s m args below meth c nL D cl A h2 lv (k + mc) (n + ms) Q (pc + 3) (o.toList ++ rest)) : J p l e R s m args below meth c nL D cl A h lv k n Q pc st0 := by
  subst hs0
  subst ev
  refine J_call (a := (.ref a :: As).toArray) (fun H locs ls a1 b1 d1 => ?_) X.2.2.2.2.2.2 kk
  exact va_runV (As := As) (rest := rest) X.fix hM cw ⟨hPc_blind, h_recv X hc hi a1, fun U hU hW => hPc_at X a1 b1 U hU hW⟩ rfl hA d1.1 rfl (lv_room hW) hd ⟨hk, hn⟩
theorem J_callVN (X : hCx G p m c cc nL s args Ts own D cl K A) {y : MethodName} {by2 : ByteArray} {mL : Nat} {ret : Option FieldType} {ws : List Cond} {rm : Room} {mc ms nA : Nat} {As rest : List Value} {o : Option Value} {h2 : hH} {a : Nat} {idx : Nat} {host : String} {v : Value} (ev : v = .ref a) {C : String} {T : u_T} {N ci : Nat} (hc : cl[ci]? = some (C, T, N)) {u : Unit} (hi : hIs h a ci = some u) (hM : Met l y ws rm (hPc G D cl K (.ref a :: As) h) (hQ D cl h o h2) mc ms (hF h)) (cw : va_CN R s args own idx y host by2 mL ret ws rm mc ms nA ∧ (Cond.instanceMethod y).before args s = true ∧ (Cond.selects C y y).before args s = true) (hd : decode cc pc = .ok (.invokevirtual idx, 3)) (hA : As.length = nA) {st0 : List Value} (hs0 : (As.reverse ++ v :: rest) = st0) (hW : (rest.map fun v => v.category).sum ≤ 8) (hk : k + mc ≤ R.cells) (hn : n + ms ≤ R.slots) (kk : J p l e R s m args below meth c nL D cl A h2 lv (k + mc) (n + ms) Q (pc + 3) (o.toList ++ rest)) : J p l e R s m args below meth c nL D cl A h lv k n Q pc st0 := by
  subst hs0
  subst ev
  refine J_call (a := (.ref a :: As).toArray) (fun H locs ls a1 b1 d1 => ?_) X.2.2.2.2.2.2 kk
  exact va_runVN (As := As) (rest := rest) X.fix hM cw ⟨hPc_blind, h_recv X hc hi a1, fun U hU hW => hPc_at X a1 b1 U hU hW⟩ rfl hA d1.1 rfl (lv_room hW) hd ⟨hk, hn⟩
theorem J_callS (X : hCx G p m c cc nL s args Ts own D cl K A) {y : MethodName} {by2 : ByteArray} {mL : Nat} {ret : Option FieldType} {ws : List Cond} {rm : Room} {mc ms nA : Nat} {As rest : List Value} {o : Option Value} {h2 : hH} {idx : Nat} (hM : Met l y ws rm (hPc G D cl K As h) (hQ D cl h o h2) mc ms (hF h)) (cw : CallB R s args own idx y by2 mL ret ws rm mc ms nA ∧ (Cond.static y).before args s = true) (hd : decode cc pc = .ok (.invokestatic idx, 3)) (hA : As.length = nA) {st0 : List Value} (hs0 : (As.reverse ++ rest) = st0) (hW : (rest.map fun v => v.category).sum ≤ 8) (hk : k + mc ≤ R.cells) (hn : n + ms ≤ R.slots) (kk : J p l e R s m args below meth c nL D cl A h2 lv (k + mc) (n + ms) Q (pc + 3) (o.toList ++ rest)) : J p l e R s m args below meth c nL D cl A h lv k n Q pc st0 := by
  subst hs0
  refine J_call (a := As.toArray) (fun H locs ls a1 b1 d1 => ?_) X.2.2.2.2.2.2 kk
  exact va_runS (As := As) (rest := rest) X.fix hM cw ⟨hPc_blind, fun U hU hW => hPc_at X a1 b1 U hU hW⟩ rfl hA d1.1 rfl (lv_room hW) hd ⟨hk, hn⟩
theorem J_callSN (X : hCx G p m c cc nL s args Ts own D cl K A) {y : MethodName} {by2 : ByteArray} {mL : Nat} {ret : Option FieldType} {ws : List Cond} {rm : Room} {mc ms nA : Nat} {As rest : List Value} {o : Option Value} {h2 : hH} {idx : Nat} {host : String} (hM : Met l y ws rm (hPc G D cl K As h) (hQ D cl h o h2) mc ms (hF h)) (cw : va_CN R s args own idx y host by2 mL ret ws rm mc ms nA ∧ (Cond.static y).before args s = true ∧ True) (hd : decode cc pc = .ok (.invokestatic idx, 3)) (hA : As.length = nA) {st0 : List Value} (hs0 : (As.reverse ++ rest) = st0) (hW : (rest.map fun v => v.category).sum ≤ 8) (hk : k + mc ≤ R.cells) (hn : n + ms ≤ R.slots) (kk : J p l e R s m args below meth c nL D cl A h2 lv (k + mc) (n + ms) Q (pc + 3) (o.toList ++ rest)) : J p l e R s m args below meth c nL D cl A h lv k n Q pc st0 := by
  subst hs0
  refine J_call (a := As.toArray) (fun H locs ls a1 b1 d1 => ?_) X.2.2.2.2.2.2 kk
  exact va_runSN (As := As) (rest := rest) X.fix hM cw ⟨hPc_blind, fun U hU hW => hPc_at X a1 b1 U hU hW⟩ rfl hA d1.1 rfl (lv_room hW) hd ⟨hk, hn⟩
theorem J_callI (X : hCx G p m c cc nL s args Ts own D cl K A) {y : MethodName} {by2 : ByteArray} {mL : Nat} {ws : List Cond} {rm : Room} {mc ms nA : Nat} {As rest : List Value} {o : Option Value} {h2 : hH} {a : Nat} {idx : Nat} {v : Value} (ev : v = .ref a) (hM : Met l y ws rm (hPc G D cl K (.ref a :: As) h) (hQ D cl h o h2) mc ms (hF h)) (cw : CallB R s args own idx y by2 mL none ws rm mc ms nA ∧ y.name = "<init>" ∧ (Cond.instanceMethod y).before args s = true) (hd : decode cc pc = .ok (.invokespecial idx, 3)) (hA : As.length = nA) {st0 : List Value} (hs0 : (As.reverse ++ v :: rest) = st0) (hW : (rest.map fun v => v.category).sum ≤ 8) (hk : k + mc ≤ R.cells) (hn : n + ms ≤ R.slots) (kk : J p l e R s m args below meth c nL D cl A h2 lv (k + mc) (n + ms) Q (pc + 3) (o.toList ++ rest)) : J p l e R s m args below meth c nL D cl A h lv k n Q pc st0 := by
  subst hs0
  subst ev
  refine J_call (a := (.ref a :: As).toArray) (fun H locs ls a1 b1 d1 => ?_) X.2.2.2.2.2.2 kk
  exact va_runI (As := As) (rest := rest) X.fix hM cw ⟨hPc_blind, fun U hU hW => hPc_at X a1 b1 U hU hW⟩ rfl hA d1.1 rfl (lv_room hW) hd ⟨hk, hn⟩
theorem J_callIN (X : hCx G p m c cc nL s args Ts own D cl K A) {y : MethodName} {by2 : ByteArray} {mL : Nat} {ws : List Cond} {rm : Room} {mc ms nA : Nat} {As rest : List Value} {o : Option Value} {h2 : hH} {a : Nat} {idx : Nat} {host : String} {v : Value} (ev : v = .ref a) (hM : Met l y ws rm (hPc G D cl K (.ref a :: As) h) (hQ D cl h o h2) mc ms (hF h)) (cw : va_CN R s args own idx y host by2 mL none ws rm mc ms nA ∧ y.name = "<init>" ∧ (Cond.instanceMethod y).before args s = true) (hd : decode cc pc = .ok (.invokespecial idx, 3)) (hA : As.length = nA) {st0 : List Value} (hs0 : (As.reverse ++ v :: rest) = st0) (hW : (rest.map fun v => v.category).sum ≤ 8) (hk : k + mc ≤ R.cells) (hn : n + ms ≤ R.slots) (kk : J p l e R s m args below meth c nL D cl A h2 lv (k + mc) (n + ms) Q (pc + 3) (o.toList ++ rest)) : J p l e R s m args below meth c nL D cl A h lv k n Q pc st0 := by
  subst hs0
  subst ev
  refine J_call (a := (.ref a :: As).toArray) (fun H locs ls a1 b1 d1 => ?_) X.2.2.2.2.2.2 kk
  exact va_runIN (As := As) (rest := rest) X.fix hM cw ⟨hPc_blind, fun U hU hW => hPc_at X a1 b1 U hU hW⟩ rfl hA d1.1 rfl (lv_room hW) hd ⟨hk, hn⟩
theorem J_objInit (X : hCx G p m c cc nL s args Ts own D cl K A) {idx : Nat} (hl : (Cond.methodLink own idx objectInit) ∈ Ts) (hi : (Cond.instanceMethod objectInit) ∈ Ts) (hcd : (Cond.code objectInit ⟨#[0xb1]⟩ 1 none) ∈ Ts) (hd : decode cc pc = .ok (.invokespecial idx, 3)) (hf : 1 ≤ R.frames) (hW : (st.map fun v => v.category).sum + 12 ≤ R.locals) {a : Nat} (kk : J p l e R s m args below meth c nL D cl A h lv k n Q (pc + 3) st) : J p l e R s m args below meth c nL D cl A h lv k n Q pc (.ref a :: st) := by
  intro H locs ls a1 b1 d1
  exact W.objInit X.1 X.2.1 X.2.2.2.1 (X.2.2.2.2.1 _ hl) (X.2.2.2.2.1 _ hi) (X.2.2.2.2.1 _ hcd) rfl (by rw [X.2.2.1]; exact d1.1) rfl hd hf (by simpa [JFrame.monitorRoom] using hW) (kk H locs ls a1 b1 d1)
theorem hQ_end {H : Heap} {locs : List Loc} {o : Option Value} {h0 : hH} (a1 : hw D cl (hF h0) s H h) (b1 : va_S (hF h0) s.heap H locs) (t : State) (ht : t.heap = H) (hW : s.WarmedH t.vm) : hQ D cl h0 o h args s (.returned o) t :=
  ⟨rfl, by rw [ht]; exact a1.moved hW.alike, by rw [ht]; exact b1.1, fun q hq hn => by rw [ht]; exact b1.2.1 q hq hn⟩
theorem J_iret {h0 : hH} (X : hCx G p m c cc nL s args Ts own D cl K (hF h0)) {mc ms : Nat} {v : Int32} (hr : meth.sig.returnType = some .int) (hlk : meth.locks = false) (hk : k ≤ mc) (hn : n ≤ ms) (hd : decode cc pc = .ok (.ireturn, 1)) : J p l e R s m args below meth c nL D cl (hF h0) h lv k n (MQ below (hQ D cl h0 (some (.int v)) h) args s mc ms (hF h0)) pc [.int v] := by
  intro H locs ls a1 b1 d1
  refine W.widen hk hn ?_
  exact W.iret X.1 X.2.1 hr (hQ_end a1 b1) b1.2.2 hd hlk
theorem J_zret {h0 : hH} (X : hCx G p m c cc nL s args Ts own D cl K (hF h0)) {mc ms : Nat} {v : Int32} (hr : meth.sig.returnType = some .boolean) (hz : narrow .boolean (.int v) = .int v) (hlk : meth.locks = false) (hk : k ≤ mc) (hn : n ≤ ms) (hd : decode cc pc = .ok (.ireturn, 1)) : J p l e R s m args below meth c nL D cl (hF h0) h lv k n (MQ below (hQ D cl h0 (some (.int v)) h) args s mc ms (hF h0)) pc [.int v] := by
  intro H locs ls a1 b1 d1
  refine W.widen hk hn ?_
  exact W.zret X.1 X.2.1 hr hz (hQ_end a1 b1) b1.2.2 hd hlk
theorem J_lret {h0 : hH} (X : hCx G p m c cc nL s args Ts own D cl K (hF h0)) {mc ms : Nat} {v : Int64} (hr : meth.sig.returnType = some .long) (hlk : meth.locks = false) (hk : k ≤ mc) (hn : n ≤ ms) (hd : decode cc pc = .ok (.lreturn, 1)) : J p l e R s m args below meth c nL D cl (hF h0) h lv k n (MQ below (hQ D cl h0 (some (.long v)) h) args s mc ms (hF h0)) pc [.long v] := by
  intro H locs ls a1 b1 d1
  refine W.widen hk hn ?_
  exact W.lret X.1 X.2.1 hr (hQ_end a1 b1) b1.2.2 hd hlk
theorem J_vret {h0 : hH} (X : hCx G p m c cc nL s args Ts own D cl K (hF h0)) {mc ms : Nat} (hr : meth.sig.returnType = none) (hlk : meth.locks = false) (hk : k ≤ mc) (hn : n ≤ ms) (hd : decode cc pc = .ok (.return_, 1)) : J p l e R s m args below meth c nL D cl (hF h0) h lv k n (MQ below (hQ D cl h0 none h) args s mc ms (hF h0)) pc [] := by
  intro H locs ls a1 b1 d1
  refine W.widen hk hn ?_
  exact W.vret X.1 X.2.1 hr (hQ_end a1 b1) b1.2.2 hd hlk
theorem J_aret {h0 : hH} (X : hCx G p m c cc nL s args Ts own D cl K (hF h0)) {mc ms : Nat} {v : Option Nat} {rt : String} (hr : meth.sig.returnType = some (.object rt)) (hlk : meth.locks = false) (hk : k ≤ mc) (hn : n ≤ ms) (hd : decode cc pc = .ok (.areturn, 1)) : J p l e R s m args below meth c nL D cl (hF h0) h lv k n (MQ below (hQ D cl h0 (some (va_rf v)) h) args s mc ms (hF h0)) pc [va_rf v] := by
  intro H locs ls a1 b1 d1
  refine W.widen hk hn ?_
  exact W.aret X.1 X.2.1 hr (Or.inl ⟨_, rfl⟩) (va_rf_or v) (hQ_end a1 b1) b1.2.2 hd hlk
end HR
/-- A CONTRACT out of a walk -/
theorem J_met {G : hSt} {l : Launch} {y : MethodName} {cc : ByteArray} {mL : Nat} {ret : Option FieldType} {T0 : List Cond} {rm : Room} {D : va_G} {cl : List vw_C} {K : (Nat → Nat) × (Nat → Nat)} {av : List Value} {h h2 : hH} {o : Option Value} {mc ms : Nat} (lv : List (Nat × Value)) (hy : plainName y.cls = true) (hlen : (lg_sl av).length ≤ mL) (hlv : lv_args 0 av = lv)
    (body : ∀ (p : Program) (e : Env) (s : State) (m : MethodId) (below : List Frame) (meth : Method) (c : Code), hCx G p m c cc mL s av.toArray T0 y.cls D cl K (hF h) → meth.sig.returnType = ret → meth.locks = false → meth.name = y.name → J p l e rm s m av.toArray below meth c mL D cl (hF h) h lv 0 0 (MQ below (hQ D cl h o h2) av.toArray s mc ms (hF h)) 0 []) :
    Met l y (.code y cc mL ret :: T0) rm (hPc G D cl K av h) (hQ D cl h o h2) mc ms (hF h) := by
  subst hlv
  refine Met.ofW (cc := cc) (maxL := mL) (ret := ret) hy rfl ?_
  intro p e s m args below meth c s₁ Bd hml hv
  obtain ⟨rfl, hw0, hs0⟩ := hv
  have hts := atoms_spec (ws := .code y cc mL ret :: T0) Bd.pre
  have hl := lv_entry av (n := mL) hlen
  rw [lg_entry_eq]
  exact body p e s m below meth c ⟨Bd.exec, Bd.bytes, hml, findClass_of_methodNamed Bd.named, fun w hw9 => hts w (List.mem_cons_of_mem _ hw9), hs0, fun q hq => Or.inl (by rw [← hw0.1]; exact hq)⟩ Bd.returns Bd.notSynchronized (name_of_methodNamed Bd.named Bd.method).1 s.heap [] _ hw0.self va_S.rf hl
end
section
def hG : hSt := ([("LicenceTexts$Words", 33, "LicenceTexts$Bytes", "length", "I", "LicenceTexts"), ("LicenceTexts", 172, "LicenceTexts$Bytes", "length", "I", "LicenceTexts"), ("LicenceTexts$TextReader", 47, "LicenceTexts$Words", "count", "I", "LicenceTexts"), ("LicenceTexts", 198, "LicenceTexts$Reckoner", "reason", "I", "LicenceTexts"), ("LicenceTexts", 201, "LicenceTexts$Reckoner", "untold", "I", "LicenceTexts"), ("LicenceTexts$Edition", 42, "LicenceTexts$Steps", "count", "I", "LicenceTexts"), ("LicenceTexts$TextReader", 163, "LicenceTexts$Steps", "count", "I", "LicenceTexts"), ("LicenceTexts$TextReader", 128, "LicenceTexts$Tables", "count", "I", "LicenceTexts"), ("LicenceTexts", 187, "LicenceTexts$Edition", "day", "I", "LicenceTexts"), ("LicenceTexts$TextReader", 15, "LicenceTexts$Edition", "words", "LLicenceTexts$Words;", "LicenceTexts"), ("LicenceTexts", 157, "LicenceTexts$Edition", "words", "LLicenceTexts$Words;", "LicenceTexts"), ("LicenceTexts$TextReader", 22, "LicenceTexts$Edition", "steps", "LLicenceTexts$Steps;", "LicenceTexts"), ("LicenceTexts$Reckoner", 44, "LicenceTexts$Edition", "steps", "LLicenceTexts$Steps;", "LicenceTexts"), ("LicenceTexts$Reckoner", 63, "LicenceTexts$Edition", "tables", "LLicenceTexts$Tables;", "LicenceTexts"), ("LicenceTexts$TextReader", 80, "LicenceTexts$Edition", "tables", "LLicenceTexts$Tables;", "LicenceTexts"), ("LicenceTexts", 128, "LicenceTexts$Edition", "tables", "LLicenceTexts$Tables;", "LicenceTexts"), ("LicenceTexts", 91, "LicenceTexts$Edition", "ruleCount", "I", "LicenceTexts"), ("LicenceTexts", 160, "LicenceTexts$Rule", "firstWord", "I", "LicenceTexts"), ("LicenceTexts$Reckoner", 29, "LicenceTexts$Rule", "start", "I", "LicenceTexts"), ("LicenceTexts$Edition", 55, "LicenceTexts$Rule", "endWord", "I", "LicenceTexts"), ("LicenceTexts", 165, "LicenceTexts$Rule", "endWord", "I", "LicenceTexts"), ("LicenceTexts$Reckoner", 34, "LicenceTexts$Rule", "need", "I", "LicenceTexts"), ("LicenceTexts$Edition", 52, "LicenceTexts$Rule", "need", "I", "LicenceTexts"), ("LicenceTexts$Reckoner", 41, "LicenceTexts$Rule", "end", "I", "LicenceTexts"), ("LicenceTexts$Edition", 58, "LicenceTexts$Rule", "end", "I", "LicenceTexts")], ["LicenceTexts$Edition", "LicenceTexts$Rule"], "LicenceTexts$TextReader", [(74, "table", [116, 97, 98, 108, 101]), (90, "when", [119, 104, 101, 110]), (92, "rule", [114, 117, 108, 101]), (97, ";", [59]), (117, "fact", [102, 97, 99, 116]), (119, "at", [97, 116]), (121, "(", [40]), (173, "+", [43]), (175, "-", [45]), (177, "*", [42]), (179, "/", [47]), (181, "%", [37]), (139, ")", [41]), (183, "<", [60]), (185, "<=", [60, 61]), (187, "=", [61]), (189, "/=", [47, 61]), (147, "and", [97, 110, 100]), (155, "need", [110, 101, 101, 100])])
theorem nw_0 : (("LicenceTexts$Words", 33, "LicenceTexts$Bytes", "length", "I", "LicenceTexts") : hNt) ∈ hG.1 := List.mem_of_getElem? (i := 0) rfl
theorem nw_1 : (("LicenceTexts", 172, "LicenceTexts$Bytes", "length", "I", "LicenceTexts") : hNt) ∈ hG.1 := List.mem_of_getElem? (i := 1) rfl
theorem nw_2 : (("LicenceTexts$TextReader", 47, "LicenceTexts$Words", "count", "I", "LicenceTexts") : hNt) ∈ hG.1 := List.mem_of_getElem? (i := 2) rfl
theorem nw_3 : (("LicenceTexts", 198, "LicenceTexts$Reckoner", "reason", "I", "LicenceTexts") : hNt) ∈ hG.1 := List.mem_of_getElem? (i := 3) rfl
theorem nw_4 : (("LicenceTexts", 201, "LicenceTexts$Reckoner", "untold", "I", "LicenceTexts") : hNt) ∈ hG.1 := List.mem_of_getElem? (i := 4) rfl
theorem nw_5 : (("LicenceTexts$Edition", 42, "LicenceTexts$Steps", "count", "I", "LicenceTexts") : hNt) ∈ hG.1 := List.mem_of_getElem? (i := 5) rfl
theorem nw_6 : (("LicenceTexts$TextReader", 163, "LicenceTexts$Steps", "count", "I", "LicenceTexts") : hNt) ∈ hG.1 := List.mem_of_getElem? (i := 6) rfl
theorem nw_7 : (("LicenceTexts$TextReader", 128, "LicenceTexts$Tables", "count", "I", "LicenceTexts") : hNt) ∈ hG.1 := List.mem_of_getElem? (i := 7) rfl
theorem nw_8 : (("LicenceTexts", 187, "LicenceTexts$Edition", "day", "I", "LicenceTexts") : hNt) ∈ hG.1 := List.mem_of_getElem? (i := 8) rfl
theorem nw_9 : (("LicenceTexts$TextReader", 15, "LicenceTexts$Edition", "words", "LLicenceTexts$Words;", "LicenceTexts") : hNt) ∈ hG.1 := List.mem_of_getElem? (i := 9) rfl
theorem nw_10 : (("LicenceTexts", 157, "LicenceTexts$Edition", "words", "LLicenceTexts$Words;", "LicenceTexts") : hNt) ∈ hG.1 := List.mem_of_getElem? (i := 10) rfl
theorem nw_11 : (("LicenceTexts$TextReader", 22, "LicenceTexts$Edition", "steps", "LLicenceTexts$Steps;", "LicenceTexts") : hNt) ∈ hG.1 := List.mem_of_getElem? (i := 11) rfl
theorem nw_12 : (("LicenceTexts$Reckoner", 44, "LicenceTexts$Edition", "steps", "LLicenceTexts$Steps;", "LicenceTexts") : hNt) ∈ hG.1 := List.mem_of_getElem? (i := 12) rfl
theorem nw_13 : (("LicenceTexts$Reckoner", 63, "LicenceTexts$Edition", "tables", "LLicenceTexts$Tables;", "LicenceTexts") : hNt) ∈ hG.1 := List.mem_of_getElem? (i := 13) rfl
theorem nw_14 : (("LicenceTexts$TextReader", 80, "LicenceTexts$Edition", "tables", "LLicenceTexts$Tables;", "LicenceTexts") : hNt) ∈ hG.1 := List.mem_of_getElem? (i := 14) rfl
theorem nw_15 : (("LicenceTexts", 128, "LicenceTexts$Edition", "tables", "LLicenceTexts$Tables;", "LicenceTexts") : hNt) ∈ hG.1 := List.mem_of_getElem? (i := 15) rfl
theorem nw_16 : (("LicenceTexts", 91, "LicenceTexts$Edition", "ruleCount", "I", "LicenceTexts") : hNt) ∈ hG.1 := List.mem_of_getElem? (i := 16) rfl
theorem nw_17 : (("LicenceTexts", 160, "LicenceTexts$Rule", "firstWord", "I", "LicenceTexts") : hNt) ∈ hG.1 := List.mem_of_getElem? (i := 17) rfl
theorem nw_18 : (("LicenceTexts$Reckoner", 29, "LicenceTexts$Rule", "start", "I", "LicenceTexts") : hNt) ∈ hG.1 := List.mem_of_getElem? (i := 18) rfl
theorem nw_19 : (("LicenceTexts$Edition", 55, "LicenceTexts$Rule", "endWord", "I", "LicenceTexts") : hNt) ∈ hG.1 := List.mem_of_getElem? (i := 19) rfl
theorem nw_20 : (("LicenceTexts", 165, "LicenceTexts$Rule", "endWord", "I", "LicenceTexts") : hNt) ∈ hG.1 := List.mem_of_getElem? (i := 20) rfl
theorem nw_21 : (("LicenceTexts$Reckoner", 34, "LicenceTexts$Rule", "need", "I", "LicenceTexts") : hNt) ∈ hG.1 := List.mem_of_getElem? (i := 21) rfl
theorem nw_22 : (("LicenceTexts$Edition", 52, "LicenceTexts$Rule", "need", "I", "LicenceTexts") : hNt) ∈ hG.1 := List.mem_of_getElem? (i := 22) rfl
theorem nw_23 : (("LicenceTexts$Reckoner", 41, "LicenceTexts$Rule", "end", "I", "LicenceTexts") : hNt) ∈ hG.1 := List.mem_of_getElem? (i := 23) rfl
theorem nw_24 : (("LicenceTexts$Edition", 58, "LicenceTexts$Rule", "end", "I", "LicenceTexts") : hNt) ∈ hG.1 := List.mem_of_getElem? (i := 24) rfl
theorem hz0 : narrow .boolean (.int 0) = .int 0 := by decide
theorem hz1 : narrow .boolean (.int 1) = .int 1 := by decide
def HX (p : Program) (s : State) (m : MethodId) (args : Array Value) (meth : Method) (c : Code) (cc : ByteArray) (nL : Nat) (own : String) (D : va_G) (K : (Nat → Nat) × (Nat → Nat)) (nm : String) (ret : Option FieldType) (h0 : hH) : Prop := hCx hG p m c cc nL s args T0 own D cls0 K (hF h0) ∧ meth.sig.returnType = ret ∧ meth.locks = false ∧ meth.name = nm
section CW
variable {p : Program} {m : MethodId} {c : Code} {cc : ByteArray} {nL : Nat} {s : State} {args : Array Value} {own : String} {R : Room} {C : String} {idx mL nA : Nat} {y : MethodName} {by2 : ByteArray} {ret : Option FieldType} {rm : Room} {mc ms : Nat}
theorem cwV_of (X : CallFix p m c cc nL s args T0 own) (h1 : Cond.methodLink own idx y ∈ T0) (h2 : Cond.instanceMethod y ∈ T0) (h3 : Cond.selects C y y ∈ T0) (h4 : Cond.initialized C ∈ T0) (h5 : Cond.code y by2 mL ret ∈ T0) (hrm : rm.cells = mc ∧ rm.slots = ms ∧ C = y.cls) (hd : y.cls ≠ "java/lang/invoke/MethodHandle" ∧ y.cls ≠ "java/lang/invoke/VarHandle" ∧ (parseMethodDescriptor y.desc).map (fun d => d.parameters.length) = some nA) (hR : rm.frames + 1 ≤ R.frames ∧ 8 + (mL + 11) + rm.locals ≤ R.locals) : CallW R s args own C idx y by2 mL ret (.code y by2 mL ret :: T0) rm mc ms nA := by
  obtain ⟨hrc, hrs, rfl⟩ := hrm
  refine ⟨callB_of nA X.2.2.2.2 (fun w hw => ?_) rfl hrc hrs (X.2.2.2.2 _ h4) (X.2.2.2.2 _ h1) hd hR, X.2.2.2.2 _ h2, X.2.2.2.2 _ h3⟩
  rcases List.mem_cons.mp hw with rfl | hw
  · exact T0_good h5
  · exact T0_good hw
theorem cwS_of (X : CallFix p m c cc nL s args T0 own) (h1 : Cond.methodLink own idx y ∈ T0) (h2 : Cond.static y ∈ T0) (h4 : Cond.initialized y.cls ∈ T0) (h5 : Cond.code y by2 mL ret ∈ T0) (hrm : rm.cells = mc ∧ rm.slots = ms) (hd : y.cls ≠ "java/lang/invoke/MethodHandle" ∧ y.cls ≠ "java/lang/invoke/VarHandle" ∧ (parseMethodDescriptor y.desc).map (fun d => d.parameters.length) = some nA) (hR : rm.frames + 1 ≤ R.frames ∧ 8 + (mL + 11) + rm.locals ≤ R.locals) : CallB R s args own idx y by2 mL ret (.code y by2 mL ret :: T0) rm mc ms nA ∧ (Cond.static y).before args s = true := by
  refine ⟨callB_of nA X.2.2.2.2 (fun w hw => ?_) rfl hrm.1 hrm.2 (X.2.2.2.2 _ h4) (X.2.2.2.2 _ h1) hd hR, X.2.2.2.2 _ h2⟩
  rcases List.mem_cons.mp hw with rfl | hw
  · exact T0_good h5
  · exact T0_good hw
theorem cwI_of (X : CallFix p m c cc nL s args T0 own) (h1 : Cond.methodLink own idx y ∈ T0) (h2 : Cond.instanceMethod y ∈ T0) (h4 : Cond.initialized y.cls ∈ T0) (h5 : Cond.code y by2 mL none ∈ T0) (hrm : rm.cells = mc ∧ rm.slots = ms ∧ y.name = "<init>") (hd : y.cls ≠ "java/lang/invoke/MethodHandle" ∧ y.cls ≠ "java/lang/invoke/VarHandle" ∧ (parseMethodDescriptor y.desc).map (fun d => d.parameters.length) = some nA) (hR : rm.frames + 1 ≤ R.frames ∧ 8 + (mL + 11) + rm.locals ≤ R.locals) : CallB R s args own idx y by2 mL none (.code y by2 mL none :: T0) rm mc ms nA ∧ y.name = "<init>" ∧ (Cond.instanceMethod y).before args s = true := by
  refine ⟨callB_of nA X.2.2.2.2 (fun w hw => ?_) rfl hrm.1 hrm.2.1 (X.2.2.2.2 _ h4) (X.2.2.2.2 _ h1) hd hR, hrm.2.2, X.2.2.2.2 _ h2⟩
  rcases List.mem_cons.mp hw with rfl | hw
  · exact T0_good h5
  · exact T0_good hw
end CW
abbrev y_LT_init : MethodName := ⟨"LicenceTexts", "<init>", "()V"⟩
abbrev y_LT_unit : MethodName := ⟨"LicenceTexts", "unit", "(I)Z"⟩
abbrev y_LT_read : MethodName := ⟨"LicenceTexts", "read", "(I)I"⟩
abbrev y_LT_editions : MethodName := ⟨"LicenceTexts", "editions", "()I"⟩
abbrev y_LT_fact : MethodName := ⟨"LicenceTexts", "fact", "(IJ)Z"⟩
abbrev y_LT_clearFacts : MethodName := ⟨"LicenceTexts", "clearFacts", "()I"⟩
abbrev y_LT_run : MethodName := ⟨"LicenceTexts", "run", "(I)I"⟩
abbrev y_LT_walk : MethodName := ⟨"LicenceTexts", "walk", "(I)I"⟩
abbrev y_LT_broken : MethodName := ⟨"LicenceTexts", "broken", "(II)I"⟩
abbrev y_LT_open : MethodName := ⟨"LicenceTexts", "open", "(II)I"⟩
abbrev y_LT_explain : MethodName := ⟨"LicenceTexts", "explain", "(I)I"⟩
abbrev y_LT_table : MethodName := ⟨"LicenceTexts", "table", "(III)I"⟩
abbrev y_LT_allowed : MethodName := ⟨"LicenceTexts", "allowed", "(III)I"⟩
abbrev y_LT_write : MethodName := ⟨"LicenceTexts", "write", "(II)I"⟩
abbrev y_LT_written : MethodName := ⟨"LicenceTexts", "written", "(I)I"⟩
abbrev y_LT_haul : MethodName := ⟨"LicenceTexts", "haul", "(IIJ)Z"⟩
abbrev y_LT_byCatch : MethodName := ⟨"LicenceTexts", "byCatch", "(III)J"⟩
abbrev y_LT_mayBegin : MethodName := ⟨"LicenceTexts", "mayBegin", "(I)Z"⟩
abbrev y_LT_keep : MethodName := ⟨"LicenceTexts", "keep", "(LLicenceTexts$Edition;)V"⟩
abbrev y_LT_editionOn : MethodName := ⟨"LicenceTexts", "editionOn", "(I)LLicenceTexts$Edition;"⟩
abbrev y_LT_look : MethodName := ⟨"LicenceTexts", "look", "(ILLicenceTexts$Findings;)I"⟩
abbrev y_Mo_init : MethodName := ⟨"LicenceTextsModel", "<init>", "()V"⟩
abbrev y_Mo_thrown : MethodName := ⟨"LicenceTextsModel", "thrown", "()I"⟩
abbrev y_Mo_unit : MethodName := ⟨"LicenceTextsModel", "unit", "(I)Z"⟩
abbrev y_Mo_five : MethodName := ⟨"LicenceTextsModel", "five", "(IIIII)J"⟩
abbrev y_Mo_nameOf : MethodName := ⟨"LicenceTextsModel", "nameOf", "(II)I"⟩
abbrev y_Mo_wordOf : MethodName := ⟨"LicenceTextsModel", "wordOf", "(II)I"⟩
abbrev y_Mo_isBlank : MethodName := ⟨"LicenceTextsModel", "isBlank", "(I)Z"⟩
abbrev y_Mo_split : MethodName := ⟨"LicenceTextsModel", "split", "()V"⟩
abbrev y_Mo_now : MethodName := ⟨"LicenceTextsModel", "now", "()I"⟩
abbrev y_Mo_want : MethodName := ⟨"LicenceTextsModel", "want", "(Z)Z"⟩
abbrev y_Mo_needs : MethodName := ⟨"LicenceTextsModel", "needs", "(I)Z"⟩
abbrev y_Mo_put : MethodName := ⟨"LicenceTextsModel", "put", "(II)V"⟩
abbrev y_Mo_tableP : MethodName := ⟨"LicenceTextsModel", "table", "()V"⟩
abbrev y_Mo_isOperator : MethodName := ⟨"LicenceTextsModel", "isOperator", "(I)Z"⟩
abbrev y_Mo_isProduct : MethodName := ⟨"LicenceTextsModel", "isProduct", "(I)Z"⟩
abbrev y_Mo_sum : MethodName := ⟨"LicenceTextsModel", "sum", "()V"⟩
abbrev y_Mo_conditions : MethodName := ⟨"LicenceTextsModel", "conditions", "()V"⟩
abbrev y_Mo_rule : MethodName := ⟨"LicenceTextsModel", "rule", "()V"⟩
abbrev y_Mo_read : MethodName := ⟨"LicenceTextsModel", "read", "(I)I"⟩
abbrev y_Mo_editions : MethodName := ⟨"LicenceTextsModel", "editions", "()I"⟩
abbrev y_Mo_fact : MethodName := ⟨"LicenceTextsModel", "fact", "(IJ)Z"⟩
abbrev y_Mo_clearFacts : MethodName := ⟨"LicenceTextsModel", "clearFacts", "()I"⟩
abbrev y_Mo_editionOf : MethodName := ⟨"LicenceTextsModel", "editionOf", "(I)I"⟩
abbrev y_Mo_holds : MethodName := ⟨"LicenceTextsModel", "holds", "(IJJ)Z"⟩
abbrev y_Mo_reckon : MethodName := ⟨"LicenceTextsModel", "reckon", "(IJJ)J"⟩
abbrev y_Mo_look : MethodName := ⟨"LicenceTextsModel", "look", "(II)I"⟩
abbrev y_Mo_answer : MethodName := ⟨"LicenceTextsModel", "answer", "(IZ)I"⟩
abbrev y_Mo_run : MethodName := ⟨"LicenceTextsModel", "run", "(I)I"⟩
abbrev y_Mo_walk : MethodName := ⟨"LicenceTextsModel", "walk", "(I)I"⟩
abbrev y_Mo_ranRules : MethodName := ⟨"LicenceTextsModel", "ranRules", "()I"⟩
abbrev y_Mo_withState : MethodName := ⟨"LicenceTextsModel", "withState", "(II)I"⟩
abbrev y_Mo_broken : MethodName := ⟨"LicenceTextsModel", "broken", "(II)I"⟩
abbrev y_Mo_open : MethodName := ⟨"LicenceTextsModel", "open", "(II)I"⟩
abbrev y_Mo_explain : MethodName := ⟨"LicenceTextsModel", "explain", "(I)I"⟩
abbrev y_Mo_table : MethodName := ⟨"LicenceTextsModel", "table", "(III)I"⟩
abbrev y_Mo_allowed : MethodName := ⟨"LicenceTextsModel", "allowed", "(III)I"⟩
abbrev y_Mo_write : MethodName := ⟨"LicenceTextsModel", "write", "(II)I"⟩
abbrev y_Mo_written : MethodName := ⟨"LicenceTextsModel", "written", "(I)I"⟩
abbrev y_Mo_haul : MethodName := ⟨"LicenceTextsModel", "haul", "(IIJ)Z"⟩
abbrev y_Mo_byCatch : MethodName := ⟨"LicenceTextsModel", "byCatch", "(III)J"⟩
abbrev y_Bytes_init : MethodName := ⟨"LicenceTexts$Bytes", "<init>", "()V"⟩
abbrev y_Bytes_append : MethodName := ⟨"LicenceTexts$Bytes", "append", "(I)Z"⟩
abbrev y_Bytes_byteAt : MethodName := ⟨"LicenceTexts$Bytes", "byteAt", "(I)I"⟩
abbrev y_Bytes_clear : MethodName := ⟨"LicenceTexts$Bytes", "clear", "()V"⟩
abbrev y_Edition_init : MethodName := ⟨"LicenceTexts$Edition", "<init>", "(ILLicenceTexts$Words;)V"⟩
abbrev y_Edition_ruleAt : MethodName := ⟨"LicenceTexts$Edition", "ruleAt", "(I)LLicenceTexts$Rule;"⟩
abbrev y_Edition_beginRule : MethodName := ⟨"LicenceTexts$Edition", "beginRule", "(I)Z"⟩
abbrev y_Edition_beginNeed : MethodName := ⟨"LicenceTexts$Edition", "beginNeed", "()V"⟩
abbrev y_Edition_endRule : MethodName := ⟨"LicenceTexts$Edition", "endRule", "(I)V"⟩
abbrev y_Facts_init : MethodName := ⟨"LicenceTexts$Facts", "<init>", "()V"⟩
abbrev y_Facts_has : MethodName := ⟨"LicenceTexts$Facts", "has", "(I)Z"⟩
abbrev y_Facts_put : MethodName := ⟨"LicenceTexts$Facts", "put", "(IJZ)V"⟩
abbrev y_Facts_isTold : MethodName := ⟨"LicenceTexts$Facts", "isTold", "(I)Z"⟩
abbrev y_Facts_valueOf : MethodName := ⟨"LicenceTexts$Facts", "valueOf", "(I)J"⟩
abbrev y_Facts_clear : MethodName := ⟨"LicenceTexts$Facts", "clear", "()I"⟩
abbrev y_Findings_init : MethodName := ⟨"LicenceTexts$Findings", "<init>", "()V"⟩
abbrev y_Findings_clear : MethodName := ⟨"LicenceTexts$Findings", "clear", "()V"⟩
abbrev y_Findings_add : MethodName := ⟨"LicenceTexts$Findings", "add", "(IIII)V"⟩
abbrev y_Findings_answer : MethodName := ⟨"LicenceTexts$Findings", "answer", "()I"⟩
abbrev y_Findings_rankedAs : MethodName := ⟨"LicenceTexts$Findings", "rankedAs", "(II)I"⟩
abbrev y_Findings_has : MethodName := ⟨"LicenceTexts$Findings", "has", "(I)Z"⟩
abbrev y_Findings_outcomeOf : MethodName := ⟨"LicenceTexts$Findings", "outcomeOf", "(I)I"⟩
abbrev y_Findings_reasonOf : MethodName := ⟨"LicenceTexts$Findings", "reasonOf", "(I)I"⟩
abbrev y_Findings_untoldOf : MethodName := ⟨"LicenceTexts$Findings", "untoldOf", "(I)I"⟩
abbrev y_Findings_firstWordOf : MethodName := ⟨"LicenceTexts$Findings", "firstWordOf", "(I)I"⟩
abbrev y_Hauls_init : MethodName := ⟨"LicenceTexts$Hauls", "<init>", "()V"⟩
abbrev y_Hauls_has : MethodName := ⟨"LicenceTexts$Hauls", "has", "(II)Z"⟩
abbrev y_Hauls_add : MethodName := ⟨"LicenceTexts$Hauls", "add", "(IIJ)Z"⟩
abbrev y_Hauls_gramsOf : MethodName := ⟨"LicenceTexts$Hauls", "gramsOf", "(II)J"⟩
abbrev y_Hauls_total : MethodName := ⟨"LicenceTexts$Hauls", "total", "(I)J"⟩
abbrev y_Hauls_share : MethodName := ⟨"LicenceTexts$Hauls", "share", "(III)J"⟩
abbrev y_Hauls_greatestDivisor : MethodName := ⟨"LicenceTexts$Hauls", "greatestDivisor", "(JJ)J"⟩
abbrev y_Reckoner_init : MethodName := ⟨"LicenceTexts$Reckoner", "<init>", "(LLicenceTexts$Facts;)V"⟩
abbrev y_Reckoner_judge : MethodName := ⟨"LicenceTexts$Reckoner", "judge", "(LLicenceTexts$Edition;LLicenceTexts$Rule;)I"⟩
abbrev y_Reckoner_follow : MethodName := ⟨"LicenceTexts$Reckoner", "follow", "(LLicenceTexts$Edition;II)I"⟩
abbrev y_Reckoner_related : MethodName := ⟨"LicenceTexts$Reckoner", "related", "(I)Z"⟩
abbrev y_Reckoner_reckon : MethodName := ⟨"LicenceTexts$Reckoner", "reckon", "(IILLicenceTexts$Tables;)Z"⟩
abbrev y_Reckoner_pushFact : MethodName := ⟨"LicenceTexts$Reckoner", "pushFact", "(I)Z"⟩
abbrev y_Reckoner_pushPlace : MethodName := ⟨"LicenceTexts$Reckoner", "pushPlace", "(LLicenceTexts$Tables;I)Z"⟩
abbrev y_Reckoner_combine : MethodName := ⟨"LicenceTexts$Reckoner", "combine", "(I)Z"⟩
abbrev y_Reckoner_combined : MethodName := ⟨"LicenceTexts$Reckoner", "combined", "(IJJ)J"⟩
abbrev y_Reckoner_push : MethodName := ⟨"LicenceTexts$Reckoner", "push", "(J)V"⟩
abbrev y_Reckoner_pop : MethodName := ⟨"LicenceTexts$Reckoner", "pop", "()J"⟩
abbrev y_Rule_init : MethodName := ⟨"LicenceTexts$Rule", "<init>", "(II)V"⟩
abbrev y_Steps_init : MethodName := ⟨"LicenceTexts$Steps", "<init>", "()V"⟩
abbrev y_Steps_add : MethodName := ⟨"LicenceTexts$Steps", "add", "(II)V"⟩
abbrev y_Steps_kindAt : MethodName := ⟨"LicenceTexts$Steps", "kindAt", "(I)I"⟩
abbrev y_Steps_valueAt : MethodName := ⟨"LicenceTexts$Steps", "valueAt", "(I)I"⟩
abbrev y_Steps_removeLast : MethodName := ⟨"LicenceTexts$Steps", "removeLast", "()V"⟩
abbrev y_Tables_init : MethodName := ⟨"LicenceTexts$Tables", "<init>", "()V"⟩
abbrev y_Tables_begin : MethodName := ⟨"LicenceTexts$Tables", "begin", "()Z"⟩
abbrev y_Tables_lastSize : MethodName := ⟨"LicenceTexts$Tables", "lastSize", "()I"⟩
abbrev y_Tables_addNumber : MethodName := ⟨"LicenceTexts$Tables", "addNumber", "(I)Z"⟩
abbrev y_Tables_numberAt : MethodName := ⟨"LicenceTexts$Tables", "numberAt", "(IJ)I"⟩
abbrev y_TextReader_init : MethodName := ⟨"LicenceTexts$TextReader", "<init>", "(LLicenceTexts$Edition;)V"⟩
abbrev y_TextReader_firstWrong : MethodName := ⟨"LicenceTexts$TextReader", "firstWrong", "()I"⟩
abbrev y_TextReader_take : MethodName := ⟨"LicenceTexts$TextReader", "take", "(I)Z"⟩
abbrev y_TextReader_takeItem : MethodName := ⟨"LicenceTexts$TextReader", "takeItem", "(I)Z"⟩
abbrev y_TextReader_takeTableNumber : MethodName := ⟨"LicenceTexts$TextReader", "takeTableNumber", "(I)Z"⟩
abbrev y_TextReader_takeAtom : MethodName := ⟨"LicenceTexts$TextReader", "takeAtom", "(I)Z"⟩
abbrev y_TextReader_takeFactName : MethodName := ⟨"LicenceTexts$TextReader", "takeFactName", "(I)Z"⟩
abbrev y_TextReader_takeTableName : MethodName := ⟨"LicenceTexts$TextReader", "takeTableName", "(I)Z"⟩
abbrev y_TextReader_takeBehindAtom : MethodName := ⟨"LicenceTexts$TextReader", "takeBehindAtom", "(I)Z"⟩
abbrev y_TextReader_takeNeed : MethodName := ⟨"LicenceTexts$TextReader", "takeNeed", "(I)Z"⟩
abbrev y_TextReader_takeRuleEnd : MethodName := ⟨"LicenceTexts$TextReader", "takeRuleEnd", "(I)Z"⟩
abbrev y_TextReader_waitAround : MethodName := ⟨"LicenceTexts$TextReader", "waitAround", "(II)V"⟩
abbrev y_TextReader_closeBracket : MethodName := ⟨"LicenceTexts$TextReader", "closeBracket", "()Z"⟩
abbrev y_TextReader_endAtom : MethodName := ⟨"LicenceTexts$TextReader", "endAtom", "()V"⟩
abbrev y_TextReader_settle : MethodName := ⟨"LicenceTexts$TextReader", "settle", "(I)V"⟩
abbrev y_TextReader_rankOf : MethodName := ⟨"LicenceTexts$TextReader", "rankOf", "(I)I"⟩
abbrev y_TextReader_operatorAt : MethodName := ⟨"LicenceTexts$TextReader", "operatorAt", "(I)I"⟩
abbrev y_TextReader_relationAt : MethodName := ⟨"LicenceTexts$TextReader", "relationAt", "(I)I"⟩
abbrev y_Words_init : MethodName := ⟨"LicenceTexts$Words", "<init>", "()V"⟩
abbrev y_Words_append : MethodName := ⟨"LicenceTexts$Words", "append", "(I)Z"⟩
abbrev y_Words_begin : MethodName := ⟨"LicenceTexts$Words", "begin", "(I)V"⟩
abbrev y_Words_lengthen : MethodName := ⟨"LicenceTexts$Words", "lengthen", "(I)V"⟩
abbrev y_Words_clear : MethodName := ⟨"LicenceTexts$Words", "clear", "()V"⟩
abbrev y_Words_startOf : MethodName := ⟨"LicenceTexts$Words", "startOf", "(I)I"⟩
abbrev y_Words_endOf : MethodName := ⟨"LicenceTexts$Words", "endOf", "(I)I"⟩
abbrev y_Words_is : MethodName := ⟨"LicenceTexts$Words", "is", "(ILjava/lang/String;)Z"⟩
abbrev y_Words_numberAt : MethodName := ⟨"LicenceTexts$Words", "numberAt", "(I)I"⟩
abbrev y_Words_copyTo : MethodName := ⟨"LicenceTexts$Words", "copyTo", "(LLicenceTexts$Bytes;II)V"⟩
end
section
theorem k_0 : (Jvm.Cond.methodLink "LicenceTexts$Bytes" (3 : Nat) ({ cls := "java/lang/Object", name := "<init>", desc := "()V" } : Jvm.MethodName)) ∈ T0 := memT 94 (by decide +kernel) (by decide +kernel)
theorem k_1 : (Jvm.Cond.instanceMethod ({ cls := "java/lang/Object", name := "<init>", desc := "()V" } : Jvm.MethodName)) ∈ T0 := memT 79 (by decide +kernel) (by decide +kernel)
theorem k_2 : (Jvm.Cond.code ({ cls := "java/lang/Object", name := "<init>", desc := "()V" } : Jvm.MethodName) object_method_1_code (1 : Nat) (Option.none : Option Jvm.ClassFile.FieldType)) ∈ T0 := memT 80 (by decide +kernel) (by decide +kernel)
theorem k_3 : (Jvm.Cond.arrayClass Jvm.ClassFile.FieldType.byte) ∈ T0 := memT 104 (by decide +kernel) (by decide +kernel)
theorem k_4 : (Jvm.Cond.fieldLink "LicenceTexts$Bytes" (11 : Nat) "LicenceTexts$Bytes" "row" "[B") ∈ T0 := memT 95 (by decide +kernel) (by decide +kernel)
theorem k_5 : (Jvm.Cond.fieldLink "LicenceTexts$Bytes" (15 : Nat) "LicenceTexts$Bytes" "length" "I") ∈ T0 := memT 96 (by decide +kernel) (by decide +kernel)
theorem k_6 : (Jvm.Cond.methodLink "LicenceTexts$Facts" (1 : Nat) ({ cls := "java/lang/Object", name := "<init>", desc := "()V" } : Jvm.MethodName)) ∈ T0 := memT 128 (by decide +kernel) (by decide +kernel)
theorem k_7 : (Jvm.Cond.arrayClass Jvm.ClassFile.FieldType.long) ∈ T0 := memT 136 (by decide +kernel) (by decide +kernel)
theorem k_8 : (Jvm.Cond.fieldLink "LicenceTexts$Facts" (9 : Nat) "LicenceTexts$Facts" "values" "[J") ∈ T0 := memT 129 (by decide +kernel) (by decide +kernel)
theorem k_9 : (Jvm.Cond.arrayClass Jvm.ClassFile.FieldType.boolean) ∈ T0 := memT 137 (by decide +kernel) (by decide +kernel)
theorem k_10 : (Jvm.Cond.fieldLink "LicenceTexts$Facts" (13 : Nat) "LicenceTexts$Facts" "told" "[Z") ∈ T0 := memT 130 (by decide +kernel) (by decide +kernel)
theorem k_11 : (Jvm.Cond.methodLink "LicenceTexts$Facts" (17 : Nat) ({ cls := "LicenceTexts$Facts", name := "has", desc := "(I)Z" } : Jvm.MethodName)) ∈ T0 := memT 612 (by decide +kernel) (by decide +kernel)
theorem k_12 : (Jvm.Cond.code ({ cls := "LicenceTexts$Facts", name := "has", desc := "(I)Z" } : Jvm.MethodName) prog_4_method_2_code (2 : Nat) (Option.some Jvm.ClassFile.FieldType.boolean)) ∈ T0 := memT 607 (by decide +kernel) (by decide +kernel)
theorem k_13 : (Jvm.Cond.initialized "LicenceTexts$Facts") ∈ T0 := memT 55 (by decide +kernel) (by decide +kernel)
theorem k_14 : (Jvm.Cond.instanceMethod ({ cls := "LicenceTexts$Facts", name := "has", desc := "(I)Z" } : Jvm.MethodName)) ∈ T0 := memT 605 (by decide +kernel) (by decide +kernel)
theorem k_15 : (Jvm.Cond.selects "LicenceTexts$Facts" ({ cls := "LicenceTexts$Facts", name := "has", desc := "(I)Z" } : Jvm.MethodName) ({ cls := "LicenceTexts$Facts", name := "has", desc := "(I)Z" } : Jvm.MethodName)) ∈ T0 := memT 606 (by decide +kernel) (by decide +kernel)
theorem k_16 : (Jvm.Cond.methodLink "LicenceTexts$Findings" (3 : Nat) ({ cls := "java/lang/Object", name := "<init>", desc := "()V" } : Jvm.MethodName)) ∈ T0 := memT 167 (by decide +kernel) (by decide +kernel)
theorem k_17 : (Jvm.Cond.arrayClass Jvm.ClassFile.FieldType.int) ∈ T0 := memT 122 (by decide +kernel) (by decide +kernel)
theorem k_18 : (Jvm.Cond.fieldLink "LicenceTexts$Findings" (9 : Nat) "LicenceTexts$Findings" "outcomes" "[I") ∈ T0 := memT 168 (by decide +kernel) (by decide +kernel)
theorem k_19 : (Jvm.Cond.fieldLink "LicenceTexts$Findings" (15 : Nat) "LicenceTexts$Findings" "reasons" "[I") ∈ T0 := memT 169 (by decide +kernel) (by decide +kernel)
theorem k_20 : (Jvm.Cond.fieldLink "LicenceTexts$Findings" (18 : Nat) "LicenceTexts$Findings" "untold" "[I") ∈ T0 := memT 170 (by decide +kernel) (by decide +kernel)
theorem k_21 : (Jvm.Cond.fieldLink "LicenceTexts$Findings" (21 : Nat) "LicenceTexts$Findings" "firstWords" "[I") ∈ T0 := memT 171 (by decide +kernel) (by decide +kernel)
theorem k_22 : (Jvm.Cond.fieldLink "LicenceTexts$Findings" (24 : Nat) "LicenceTexts$Findings" "count" "I") ∈ T0 := memT 172 (by decide +kernel) (by decide +kernel)
theorem k_23 : (Jvm.Cond.methodLink "LicenceTexts$Findings" (36 : Nat) ({ cls := "LicenceTexts$Findings", name := "has", desc := "(I)Z" } : Jvm.MethodName)) ∈ T0 := memT 649 (by decide +kernel) (by decide +kernel)
theorem k_24 : (Jvm.Cond.code ({ cls := "LicenceTexts$Findings", name := "has", desc := "(I)Z" } : Jvm.MethodName) prog_5_method_6_code (2 : Nat) (Option.some Jvm.ClassFile.FieldType.boolean)) ∈ T0 := memT 652 (by decide +kernel) (by decide +kernel)
theorem k_25 : (Jvm.Cond.initialized "LicenceTexts$Findings") ∈ T0 := memT 57 (by decide +kernel) (by decide +kernel)
theorem k_26 : (Jvm.Cond.instanceMethod ({ cls := "LicenceTexts$Findings", name := "has", desc := "(I)Z" } : Jvm.MethodName)) ∈ T0 := memT 651 (by decide +kernel) (by decide +kernel)
theorem k_27 : (Cond.selects "LicenceTexts$Findings" ⟨"LicenceTexts$Findings", "has", "(I)Z"⟩ ⟨"LicenceTexts$Findings", "has", "(I)Z"⟩) ∈ T0 := memT 23 (by decide +kernel) (by decide +kernel)
theorem k_28 : (Jvm.Cond.methodLink "LicenceTexts$Findings" (32 : Nat) ({ cls := "LicenceTexts$Findings", name := "outcomeOf", desc := "(I)I" } : Jvm.MethodName)) ∈ T0 := memT 645 (by decide +kernel) (by decide +kernel)
theorem k_29 : (Jvm.Cond.code ({ cls := "LicenceTexts$Findings", name := "outcomeOf", desc := "(I)I" } : Jvm.MethodName) prog_5_method_7_code (2 : Nat) (Option.some Jvm.ClassFile.FieldType.int)) ∈ T0 := memT 648 (by decide +kernel) (by decide +kernel)
theorem k_30 : (Jvm.Cond.instanceMethod ({ cls := "LicenceTexts$Findings", name := "outcomeOf", desc := "(I)I" } : Jvm.MethodName)) ∈ T0 := memT 646 (by decide +kernel) (by decide +kernel)
theorem k_31 : (Jvm.Cond.selects "LicenceTexts$Findings" ({ cls := "LicenceTexts$Findings", name := "outcomeOf", desc := "(I)I" } : Jvm.MethodName) ({ cls := "LicenceTexts$Findings", name := "outcomeOf", desc := "(I)I" } : Jvm.MethodName)) ∈ T0 := memT 647 (by decide +kernel) (by decide +kernel)
theorem k_32 : (Jvm.Cond.methodLink "LicenceTexts$Findings" (28 : Nat) ({ cls := "LicenceTexts$Findings", name := "rankedAs", desc := "(II)I" } : Jvm.MethodName)) ∈ T0 := memT 641 (by decide +kernel) (by decide +kernel)
theorem k_33 : (Jvm.Cond.code ({ cls := "LicenceTexts$Findings", name := "rankedAs", desc := "(II)I" } : Jvm.MethodName) prog_5_method_5_code (5 : Nat) (Option.some Jvm.ClassFile.FieldType.int)) ∈ T0 := memT 644 (by decide +kernel) (by decide +kernel)
theorem k_34 : (Jvm.Cond.instanceMethod ({ cls := "LicenceTexts$Findings", name := "rankedAs", desc := "(II)I" } : Jvm.MethodName)) ∈ T0 := memT 642 (by decide +kernel) (by decide +kernel)
theorem k_35 : (Jvm.Cond.selects "LicenceTexts$Findings" ({ cls := "LicenceTexts$Findings", name := "rankedAs", desc := "(II)I" } : Jvm.MethodName) ({ cls := "LicenceTexts$Findings", name := "rankedAs", desc := "(II)I" } : Jvm.MethodName)) ∈ T0 := memT 643 (by decide +kernel) (by decide +kernel)
theorem k_36 : (Jvm.Cond.methodLink "LicenceTexts$Hauls" (3 : Nat) ({ cls := "java/lang/Object", name := "<init>", desc := "()V" } : Jvm.MethodName)) ∈ T0 := memT 191 (by decide +kernel) (by decide +kernel)
theorem k_37 : (Jvm.Cond.fieldLink "LicenceTexts$Hauls" (11 : Nat) "LicenceTexts$Hauls" "row" "[J") ∈ T0 := memT 192 (by decide +kernel) (by decide +kernel)
theorem k_38 : (Jvm.Cond.methodLink "LicenceTexts$Hauls" (15 : Nat) ({ cls := "LicenceTexts$Hauls", name := "has", desc := "(II)Z" } : Jvm.MethodName)) ∈ T0 := memT 769 (by decide +kernel) (by decide +kernel)
theorem k_39 : (Jvm.Cond.code ({ cls := "LicenceTexts$Hauls", name := "has", desc := "(II)Z" } : Jvm.MethodName) prog_6_method_2_code (2 : Nat) (Option.some Jvm.ClassFile.FieldType.boolean)) ∈ T0 := memT 771 (by decide +kernel) (by decide +kernel)
theorem k_40 : (Jvm.Cond.initialized "LicenceTexts$Hauls") ∈ T0 := memT 58 (by decide +kernel) (by decide +kernel)
theorem k_41 : (Jvm.Cond.static ({ cls := "LicenceTexts$Hauls", name := "has", desc := "(II)Z" } : Jvm.MethodName)) ∈ T0 := memT 770 (by decide +kernel) (by decide +kernel)
theorem k_42 : (Jvm.Cond.constantLong "LicenceTexts$Hauls" (19 : Nat) (1000000000 : Int64)) ∈ T0 := memT 772 (by decide +kernel) (by decide +kernel)
theorem k_43 : (Jvm.Cond.methodLink "LicenceTexts$Hauls" (21 : Nat) ({ cls := "LicenceTexts$Hauls", name := "gramsOf", desc := "(II)J" } : Jvm.MethodName)) ∈ T0 := memT 786 (by decide +kernel) (by decide +kernel)
theorem k_44 : (Jvm.Cond.code ({ cls := "LicenceTexts$Hauls", name := "gramsOf", desc := "(II)J" } : Jvm.MethodName) prog_6_method_4_code (4 : Nat) (Option.some Jvm.ClassFile.FieldType.long)) ∈ T0 := memT 789 (by decide +kernel) (by decide +kernel)
theorem k_45 : (Jvm.Cond.instanceMethod ({ cls := "LicenceTexts$Hauls", name := "gramsOf", desc := "(II)J" } : Jvm.MethodName)) ∈ T0 := memT 788 (by decide +kernel) (by decide +kernel)
theorem k_46 : (Cond.selects "LicenceTexts$Hauls" ⟨"LicenceTexts$Hauls", "gramsOf", "(II)J"⟩ ⟨"LicenceTexts$Hauls", "gramsOf", "(II)J"⟩) ∈ T0 := memT 33 (by decide +kernel) (by decide +kernel)
theorem k_47 : (Jvm.Cond.constantLong "LicenceTexts$Hauls" (25 : Nat) (-1 : Int64)) ∈ T0 := memT 781 (by decide +kernel) (by decide +kernel)
theorem k_48 : (Jvm.Cond.methodLink "LicenceTexts$Hauls" (27 : Nat) ({ cls := "LicenceTexts$Hauls", name := "total", desc := "(I)J" } : Jvm.MethodName)) ∈ T0 := memT 782 (by decide +kernel) (by decide +kernel)
theorem k_49 : (Jvm.Cond.code ({ cls := "LicenceTexts$Hauls", name := "total", desc := "(I)J" } : Jvm.MethodName) prog_6_method_5_code (5 : Nat) (Option.some Jvm.ClassFile.FieldType.long)) ∈ T0 := memT 785 (by decide +kernel) (by decide +kernel)
theorem k_50 : (Jvm.Cond.instanceMethod ({ cls := "LicenceTexts$Hauls", name := "total", desc := "(I)J" } : Jvm.MethodName)) ∈ T0 := memT 784 (by decide +kernel) (by decide +kernel)
theorem k_51 : (Cond.selects "LicenceTexts$Hauls" ⟨"LicenceTexts$Hauls", "total", "(I)J"⟩ ⟨"LicenceTexts$Hauls", "total", "(I)J"⟩) ∈ T0 := memT 32 (by decide +kernel) (by decide +kernel)
theorem k_52 : (Jvm.Cond.methodLink "LicenceTexts$Hauls" (31 : Nat) ({ cls := "LicenceTexts$Hauls", name := "greatestDivisor", desc := "(JJ)J" } : Jvm.MethodName)) ∈ T0 := memT 790 (by decide +kernel) (by decide +kernel)
theorem k_53 : (Jvm.Cond.code ({ cls := "LicenceTexts$Hauls", name := "greatestDivisor", desc := "(JJ)J" } : Jvm.MethodName) prog_6_method_7_code (11 : Nat) (Option.some Jvm.ClassFile.FieldType.long)) ∈ T0 := memT 792 (by decide +kernel) (by decide +kernel)
theorem k_54 : (Jvm.Cond.static ({ cls := "LicenceTexts$Hauls", name := "greatestDivisor", desc := "(JJ)J" } : Jvm.MethodName)) ∈ T0 := memT 791 (by decide +kernel) (by decide +kernel)
theorem k_55 : (Jvm.Cond.methodLink "LicenceTexts$Steps" (3 : Nat) ({ cls := "java/lang/Object", name := "<init>", desc := "()V" } : Jvm.MethodName)) ∈ T0 := memT 263 (by decide +kernel) (by decide +kernel)
theorem k_56 : (Jvm.Cond.fieldLink "LicenceTexts$Steps" (11 : Nat) "LicenceTexts$Steps" "kinds" "[I") ∈ T0 := memT 264 (by decide +kernel) (by decide +kernel)
theorem k_57 : (Jvm.Cond.fieldLink "LicenceTexts$Steps" (17 : Nat) "LicenceTexts$Steps" "values" "[I") ∈ T0 := memT 265 (by decide +kernel) (by decide +kernel)
theorem k_58 : (Jvm.Cond.fieldLink "LicenceTexts$Steps" (20 : Nat) "LicenceTexts$Steps" "count" "I") ∈ T0 := memT 266 (by decide +kernel) (by decide +kernel)
theorem k_59 : (Jvm.Cond.methodLink "LicenceTexts$Rule" (1 : Nat) ({ cls := "java/lang/Object", name := "<init>", desc := "()V" } : Jvm.MethodName)) ∈ T0 := memT 447 (by decide +kernel) (by decide +kernel)
theorem k_60 : (Jvm.Cond.fieldLink "LicenceTexts$Rule" (7 : Nat) "LicenceTexts$Rule" "firstWord" "I") ∈ T0 := memT 448 (by decide +kernel) (by decide +kernel)
theorem k_61 : (Jvm.Cond.fieldLink "LicenceTexts$Rule" (13 : Nat) "LicenceTexts$Rule" "start" "I") ∈ T0 := memT 450 (by decide +kernel) (by decide +kernel)
theorem k_62 : (Jvm.Cond.fieldLink "LicenceTexts$Rule" (16 : Nat) "LicenceTexts$Rule" "endWord" "I") ∈ T0 := memT 452 (by decide +kernel) (by decide +kernel)
theorem k_63 : (Jvm.Cond.fieldLink "LicenceTexts$Rule" (19 : Nat) "LicenceTexts$Rule" "need" "I") ∈ T0 := memT 455 (by decide +kernel) (by decide +kernel)
theorem k_64 : (Jvm.Cond.fieldLink "LicenceTexts$Rule" (22 : Nat) "LicenceTexts$Rule" "end" "I") ∈ T0 := memT 458 (by decide +kernel) (by decide +kernel)
theorem k_65 : (Jvm.Cond.methodLink "LicenceTexts$Tables" (3 : Nat) ({ cls := "java/lang/Object", name := "<init>", desc := "()V" } : Jvm.MethodName)) ∈ T0 := memT 281 (by decide +kernel) (by decide +kernel)
theorem k_66 : (Jvm.Cond.fieldLink "LicenceTexts$Tables" (11 : Nat) "LicenceTexts$Tables" "numbers" "[I") ∈ T0 := memT 282 (by decide +kernel) (by decide +kernel)
theorem k_67 : (Jvm.Cond.fieldLink "LicenceTexts$Tables" (15 : Nat) "LicenceTexts$Tables" "sizes" "[I") ∈ T0 := memT 283 (by decide +kernel) (by decide +kernel)
theorem k_68 : (Jvm.Cond.fieldLink "LicenceTexts$Tables" (18 : Nat) "LicenceTexts$Tables" "count" "I") ∈ T0 := memT 284 (by decide +kernel) (by decide +kernel)
theorem k_69 : (Jvm.Cond.methodLink "LicenceTexts$Tables" (22 : Nat) ({ cls := "LicenceTexts$Tables", name := "lastSize", desc := "()I" } : Jvm.MethodName)) ∈ T0 := memT 489 (by decide +kernel) (by decide +kernel)
theorem k_70 : (Jvm.Cond.code ({ cls := "LicenceTexts$Tables", name := "lastSize", desc := "()I" } : Jvm.MethodName) prog_10_method_3_code (2 : Nat) (Option.some Jvm.ClassFile.FieldType.int)) ∈ T0 := memT 480 (by decide +kernel) (by decide +kernel)
theorem k_71 : (Jvm.Cond.initialized "LicenceTexts$Tables") ∈ T0 := memT 62 (by decide +kernel) (by decide +kernel)
theorem k_72 : (Jvm.Cond.instanceMethod ({ cls := "LicenceTexts$Tables", name := "lastSize", desc := "()I" } : Jvm.MethodName)) ∈ T0 := memT 478 (by decide +kernel) (by decide +kernel)
theorem k_73 : (Jvm.Cond.selects "LicenceTexts$Tables" ({ cls := "LicenceTexts$Tables", name := "lastSize", desc := "()I" } : Jvm.MethodName) ({ cls := "LicenceTexts$Tables", name := "lastSize", desc := "()I" } : Jvm.MethodName)) ∈ T0 := memT 479 (by decide +kernel) (by decide +kernel)
theorem k_74 : (Jvm.Cond.methodLink "LicenceTexts$Edition" (3 : Nat) ({ cls := "java/lang/Object", name := "<init>", desc := "()V" } : Jvm.MethodName)) ∈ T0 := memT 257 (by decide +kernel) (by decide +kernel)
theorem k_75 : (Jvm.Cond.fieldLink "LicenceTexts$Edition" (9 : Nat) "LicenceTexts$Edition" "day" "I") ∈ T0 := memT 295 (by decide +kernel) (by decide +kernel)
theorem k_76 : (Jvm.Cond.fieldLink "LicenceTexts$Edition" (15 : Nat) "LicenceTexts$Edition" "words" "LLicenceTexts$Words;") ∈ T0 := memT 297 (by decide +kernel) (by decide +kernel)
theorem k_77 : (Jvm.Cond.classLink "LicenceTexts$Edition" (19 : Nat) "LicenceTexts$Steps") ∈ T0 := memT 258 (by decide +kernel) (by decide +kernel)
theorem k_78 : (Jvm.Cond.instantiable "LicenceTexts$Steps" (3 : Nat)) ∈ T0 := memT 259 (by decide +kernel) (by decide +kernel)
theorem k_79 : (Jvm.Cond.initialized "LicenceTexts$Steps") ∈ T0 := memT 61 (by decide +kernel) (by decide +kernel)
theorem k_80 : (Jvm.Cond.methodLink "LicenceTexts$Edition" (21 : Nat) ({ cls := "LicenceTexts$Steps", name := "<init>", desc := "()V" } : Jvm.MethodName)) ∈ T0 := memT 260 (by decide +kernel) (by decide +kernel)
theorem k_81 : (Jvm.Cond.code ({ cls := "LicenceTexts$Steps", name := "<init>", desc := "()V" } : Jvm.MethodName) prog_9_method_1_code (1 : Nat) (Option.none : Option Jvm.ClassFile.FieldType)) ∈ T0 := memT 262 (by decide +kernel) (by decide +kernel)
theorem k_82 : (Jvm.Cond.instanceMethod ({ cls := "LicenceTexts$Steps", name := "<init>", desc := "()V" } : Jvm.MethodName)) ∈ T0 := memT 261 (by decide +kernel) (by decide +kernel)
theorem k_83 : (Jvm.Cond.fieldLink "LicenceTexts$Edition" (22 : Nat) "LicenceTexts$Edition" "steps" "LLicenceTexts$Steps;") ∈ T0 := memT 301 (by decide +kernel) (by decide +kernel)
theorem k_84 : (Jvm.Cond.classLink "LicenceTexts$Edition" (26 : Nat) "LicenceTexts$Tables") ∈ T0 := memT 276 (by decide +kernel) (by decide +kernel)
theorem k_85 : (Jvm.Cond.instantiable "LicenceTexts$Tables" (3 : Nat)) ∈ T0 := memT 277 (by decide +kernel) (by decide +kernel)
theorem k_86 : (Jvm.Cond.methodLink "LicenceTexts$Edition" (28 : Nat) ({ cls := "LicenceTexts$Tables", name := "<init>", desc := "()V" } : Jvm.MethodName)) ∈ T0 := memT 278 (by decide +kernel) (by decide +kernel)
theorem k_87 : (Jvm.Cond.code ({ cls := "LicenceTexts$Tables", name := "<init>", desc := "()V" } : Jvm.MethodName) prog_10_method_1_code (1 : Nat) (Option.none : Option Jvm.ClassFile.FieldType)) ∈ T0 := memT 280 (by decide +kernel) (by decide +kernel)
theorem k_88 : (Jvm.Cond.instanceMethod ({ cls := "LicenceTexts$Tables", name := "<init>", desc := "()V" } : Jvm.MethodName)) ∈ T0 := memT 279 (by decide +kernel) (by decide +kernel)
theorem k_89 : (Jvm.Cond.fieldLink "LicenceTexts$Edition" (29 : Nat) "LicenceTexts$Edition" "tables" "LLicenceTexts$Tables;") ∈ T0 := memT 303 (by decide +kernel) (by decide +kernel)
theorem k_90 : (Jvm.Cond.classLink "LicenceTexts$Edition" (33 : Nat) "LicenceTexts$Rule") ∈ T0 := memT 293 (by decide +kernel) (by decide +kernel)
theorem k_91 : (Jvm.Cond.fieldLink "LicenceTexts$Edition" (35 : Nat) "LicenceTexts$Edition" "rules" "[LLicenceTexts$Rule;") ∈ T0 := memT 307 (by decide +kernel) (by decide +kernel)
theorem k_92 : (Jvm.Cond.fieldLink "LicenceTexts$Edition" (39 : Nat) "LicenceTexts$Edition" "ruleCount" "I") ∈ T0 := memT 308 (by decide +kernel) (by decide +kernel)
theorem k_93 : (Jvm.Cond.instantiable "LicenceTexts$Rule" (5 : Nat)) ∈ T0 := memT 443 (by decide +kernel) (by decide +kernel)
theorem k_94 : (Jvm.Cond.initialized "LicenceTexts$Rule") ∈ T0 := memT 68 (by decide +kernel) (by decide +kernel)
theorem k_95 : (Jvm.Cond.methodLink "LicenceTexts$Edition" (45 : Nat) ({ cls := "LicenceTexts$Rule", name := "<init>", desc := "(II)V" } : Jvm.MethodName)) ∈ T0 := memT 444 (by decide +kernel) (by decide +kernel)
theorem k_96 : (Jvm.Cond.code ({ cls := "LicenceTexts$Rule", name := "<init>", desc := "(II)V" } : Jvm.MethodName) prog_8_method_1_code (3 : Nat) (Option.none : Option Jvm.ClassFile.FieldType)) ∈ T0 := memT 446 (by decide +kernel) (by decide +kernel)
theorem k_97 : (Jvm.Cond.instanceMethod ({ cls := "LicenceTexts$Rule", name := "<init>", desc := "(II)V" } : Jvm.MethodName)) ∈ T0 := memT 445 (by decide +kernel) (by decide +kernel)
theorem k_98 : (Jvm.Cond.methodLink "LicenceTexts$Edition" (48 : Nat) ({ cls := "LicenceTexts$Edition", name := "ruleAt", desc := "(I)LLicenceTexts$Rule;" } : Jvm.MethodName)) ∈ T0 := memT 572 (by decide +kernel) (by decide +kernel)
theorem k_99 : (Jvm.Cond.code ({ cls := "LicenceTexts$Edition", name := "ruleAt", desc := "(I)LLicenceTexts$Rule;" } : Jvm.MethodName) prog_3_method_2_code (2 : Nat) (Option.some (Jvm.ClassFile.FieldType.object "LicenceTexts$Rule"))) ∈ T0 := memT 575 (by decide +kernel) (by decide +kernel)
theorem k_100 : (Jvm.Cond.initialized "LicenceTexts$Edition") ∈ T0 := memT 60 (by decide +kernel) (by decide +kernel)
theorem k_101 : (Jvm.Cond.instanceMethod ({ cls := "LicenceTexts$Edition", name := "ruleAt", desc := "(I)LLicenceTexts$Rule;" } : Jvm.MethodName)) ∈ T0 := memT 573 (by decide +kernel) (by decide +kernel)
theorem k_102 : (Jvm.Cond.selects "LicenceTexts$Edition" ({ cls := "LicenceTexts$Edition", name := "ruleAt", desc := "(I)LLicenceTexts$Rule;" } : Jvm.MethodName) ({ cls := "LicenceTexts$Edition", name := "ruleAt", desc := "(I)LLicenceTexts$Rule;" } : Jvm.MethodName)) ∈ T0 := memT 574 (by decide +kernel) (by decide +kernel)
theorem k_103 : (Jvm.Cond.methodLink "LicenceTexts$Reckoner" (3 : Nat) ({ cls := "java/lang/Object", name := "<init>", desc := "()V" } : Jvm.MethodName)) ∈ T0 := memT 143 (by decide +kernel) (by decide +kernel)
theorem k_104 : (Jvm.Cond.fieldLink "LicenceTexts$Reckoner" (9 : Nat) "LicenceTexts$Reckoner" "facts" "LLicenceTexts$Facts;") ∈ T0 := memT 144 (by decide +kernel) (by decide +kernel)
theorem k_105 : (Jvm.Cond.fieldLink "LicenceTexts$Reckoner" (15 : Nat) "LicenceTexts$Reckoner" "values" "[J") ∈ T0 := memT 145 (by decide +kernel) (by decide +kernel)
theorem k_106 : (Jvm.Cond.fieldLink "LicenceTexts$Reckoner" (19 : Nat) "LicenceTexts$Reckoner" "height" "I") ∈ T0 := memT 146 (by decide +kernel) (by decide +kernel)
theorem k_107 : (Jvm.Cond.fieldLink "LicenceTexts$Reckoner" (23 : Nat) "LicenceTexts$Reckoner" "reason" "I") ∈ T0 := memT 147 (by decide +kernel) (by decide +kernel)
theorem k_108 : (Jvm.Cond.fieldLink "LicenceTexts$Reckoner" (26 : Nat) "LicenceTexts$Reckoner" "untold" "I") ∈ T0 := memT 149 (by decide +kernel) (by decide +kernel)
theorem k_109 : (Jvm.Cond.methodLink "LicenceTexts$Reckoner" (104 : Nat) ({ cls := "LicenceTexts$Reckoner", name := "combined", desc := "(IJJ)J" } : Jvm.MethodName)) ∈ T0 := memT 704 (by decide +kernel) (by decide +kernel)
theorem k_110 : (Jvm.Cond.code ({ cls := "LicenceTexts$Reckoner", name := "combined", desc := "(IJJ)J" } : Jvm.MethodName) prog_7_method_9_code (5 : Nat) (Option.some Jvm.ClassFile.FieldType.long)) ∈ T0 := memT 706 (by decide +kernel) (by decide +kernel)
theorem k_111 : (Jvm.Cond.initialized "LicenceTexts$Reckoner") ∈ T0 := memT 56 (by decide +kernel) (by decide +kernel)
theorem k_112 : (Jvm.Cond.static ({ cls := "LicenceTexts$Reckoner", name := "combined", desc := "(IJJ)J" } : Jvm.MethodName)) ∈ T0 := memT 705 (by decide +kernel) (by decide +kernel)
theorem k_113 : (Jvm.Cond.methodLink "LicenceTexts$Reckoner" (75 : Nat) ({ cls := "LicenceTexts$Reckoner", name := "push", desc := "(J)V" } : Jvm.MethodName)) ∈ T0 := memT 676 (by decide +kernel) (by decide +kernel)
theorem k_114 : (Jvm.Cond.code ({ cls := "LicenceTexts$Reckoner", name := "push", desc := "(J)V" } : Jvm.MethodName) prog_7_method_10_code (3 : Nat) (Option.none : Option Jvm.ClassFile.FieldType)) ∈ T0 := memT 679 (by decide +kernel) (by decide +kernel)
theorem k_115 : (Jvm.Cond.instanceMethod ({ cls := "LicenceTexts$Reckoner", name := "push", desc := "(J)V" } : Jvm.MethodName)) ∈ T0 := memT 678 (by decide +kernel) (by decide +kernel)
theorem k_116 : (Cond.selects "LicenceTexts$Reckoner" ⟨"LicenceTexts$Reckoner", "push", "(J)V"⟩ ⟨"LicenceTexts$Reckoner", "push", "(J)V"⟩) ∈ T0 := memT 28 (by decide +kernel) (by decide +kernel)
theorem k_117 : (Jvm.Cond.methodLink "LicenceTexts$Reckoner" (71 : Nat) ({ cls := "LicenceTexts$Reckoner", name := "pop", desc := "()J" } : Jvm.MethodName)) ∈ T0 := memT 668 (by decide +kernel) (by decide +kernel)
theorem k_118 : (Jvm.Cond.code ({ cls := "LicenceTexts$Reckoner", name := "pop", desc := "()J" } : Jvm.MethodName) prog_7_method_11_code (1 : Nat) (Option.some Jvm.ClassFile.FieldType.long)) ∈ T0 := memT 671 (by decide +kernel) (by decide +kernel)
theorem k_119 : (Jvm.Cond.instanceMethod ({ cls := "LicenceTexts$Reckoner", name := "pop", desc := "()J" } : Jvm.MethodName)) ∈ T0 := memT 670 (by decide +kernel) (by decide +kernel)
theorem k_120 : (Cond.selects "LicenceTexts$Reckoner" ⟨"LicenceTexts$Reckoner", "pop", "()J"⟩ ⟨"LicenceTexts$Reckoner", "pop", "()J"⟩) ∈ T0 := memT 26 (by decide +kernel) (by decide +kernel)
theorem k_121 : (Jvm.Cond.methodLink "LicenceTexts$Reckoner" (89 : Nat) ({ cls := "LicenceTexts$Facts", name := "isTold", desc := "(I)Z" } : Jvm.MethodName)) ∈ T0 := memT 684 (by decide +kernel) (by decide +kernel)
theorem k_122 : (Jvm.Cond.code ({ cls := "LicenceTexts$Facts", name := "isTold", desc := "(I)Z" } : Jvm.MethodName) prog_4_method_4_code (2 : Nat) (Option.some Jvm.ClassFile.FieldType.boolean)) ∈ T0 := memT 687 (by decide +kernel) (by decide +kernel)
theorem k_123 : (Jvm.Cond.instanceMethod ({ cls := "LicenceTexts$Facts", name := "isTold", desc := "(I)Z" } : Jvm.MethodName)) ∈ T0 := memT 685 (by decide +kernel) (by decide +kernel)
theorem k_124 : (Jvm.Cond.selects "LicenceTexts$Facts" ({ cls := "LicenceTexts$Facts", name := "isTold", desc := "(I)Z" } : Jvm.MethodName) ({ cls := "LicenceTexts$Facts", name := "isTold", desc := "(I)Z" } : Jvm.MethodName)) ∈ T0 := memT 686 (by decide +kernel) (by decide +kernel)
theorem k_125 : (Jvm.Cond.methodLink "LicenceTexts$Reckoner" (94 : Nat) ({ cls := "LicenceTexts$Facts", name := "valueOf", desc := "(I)J" } : Jvm.MethodName)) ∈ T0 := memT 688 (by decide +kernel) (by decide +kernel)
theorem k_126 : (Jvm.Cond.code ({ cls := "LicenceTexts$Facts", name := "valueOf", desc := "(I)J" } : Jvm.MethodName) prog_4_method_5_code (2 : Nat) (Option.some Jvm.ClassFile.FieldType.long)) ∈ T0 := memT 691 (by decide +kernel) (by decide +kernel)
theorem k_127 : (Jvm.Cond.instanceMethod ({ cls := "LicenceTexts$Facts", name := "valueOf", desc := "(I)J" } : Jvm.MethodName)) ∈ T0 := memT 689 (by decide +kernel) (by decide +kernel)
theorem k_128 : (Jvm.Cond.selects "LicenceTexts$Facts" ({ cls := "LicenceTexts$Facts", name := "valueOf", desc := "(I)J" } : Jvm.MethodName) ({ cls := "LicenceTexts$Facts", name := "valueOf", desc := "(I)J" } : Jvm.MethodName)) ∈ T0 := memT 690 (by decide +kernel) (by decide +kernel)
theorem k_129 : (Jvm.Cond.methodLink "LicenceTexts$Reckoner" (98 : Nat) ({ cls := "LicenceTexts$Tables", name := "numberAt", desc := "(IJ)I" } : Jvm.MethodName)) ∈ T0 := memT 696 (by decide +kernel) (by decide +kernel)
theorem k_130 : (Jvm.Cond.code ({ cls := "LicenceTexts$Tables", name := "numberAt", desc := "(IJ)I" } : Jvm.MethodName) prog_10_method_5_code (5 : Nat) (Option.some Jvm.ClassFile.FieldType.int)) ∈ T0 := memT 699 (by decide +kernel) (by decide +kernel)
theorem k_131 : (Jvm.Cond.instanceMethod ({ cls := "LicenceTexts$Tables", name := "numberAt", desc := "(IJ)I" } : Jvm.MethodName)) ∈ T0 := memT 697 (by decide +kernel) (by decide +kernel)
theorem k_132 : (Jvm.Cond.selects "LicenceTexts$Tables" ({ cls := "LicenceTexts$Tables", name := "numberAt", desc := "(IJ)I" } : Jvm.MethodName) ({ cls := "LicenceTexts$Tables", name := "numberAt", desc := "(IJ)I" } : Jvm.MethodName)) ∈ T0 := memT 698 (by decide +kernel) (by decide +kernel)
theorem k_133 : (Jvm.Cond.methodLink "LicenceTexts$Reckoner" (79 : Nat) ({ cls := "LicenceTexts$Reckoner", name := "pushFact", desc := "(I)Z" } : Jvm.MethodName)) ∈ T0 := memT 680 (by decide +kernel) (by decide +kernel)
theorem k_134 : (Jvm.Cond.code ({ cls := "LicenceTexts$Reckoner", name := "pushFact", desc := "(I)Z" } : Jvm.MethodName) prog_7_method_6_code (2 : Nat) (Option.some Jvm.ClassFile.FieldType.boolean)) ∈ T0 := memT 683 (by decide +kernel) (by decide +kernel)
theorem k_135 : (Jvm.Cond.instanceMethod ({ cls := "LicenceTexts$Reckoner", name := "pushFact", desc := "(I)Z" } : Jvm.MethodName)) ∈ T0 := memT 682 (by decide +kernel) (by decide +kernel)
theorem k_136 : (Cond.selects "LicenceTexts$Reckoner" ⟨"LicenceTexts$Reckoner", "pushFact", "(I)Z"⟩ ⟨"LicenceTexts$Reckoner", "pushFact", "(I)Z"⟩) ∈ T0 := memT 29 (by decide +kernel) (by decide +kernel)
theorem k_137 : (Jvm.Cond.methodLink "LicenceTexts$Reckoner" (82 : Nat) ({ cls := "LicenceTexts$Reckoner", name := "pushPlace", desc := "(LLicenceTexts$Tables;I)Z" } : Jvm.MethodName)) ∈ T0 := memT 692 (by decide +kernel) (by decide +kernel)
theorem k_138 : (Jvm.Cond.code ({ cls := "LicenceTexts$Reckoner", name := "pushPlace", desc := "(LLicenceTexts$Tables;I)Z" } : Jvm.MethodName) prog_7_method_7_code (4 : Nat) (Option.some Jvm.ClassFile.FieldType.boolean)) ∈ T0 := memT 695 (by decide +kernel) (by decide +kernel)
theorem k_139 : (Jvm.Cond.instanceMethod ({ cls := "LicenceTexts$Reckoner", name := "pushPlace", desc := "(LLicenceTexts$Tables;I)Z" } : Jvm.MethodName)) ∈ T0 := memT 694 (by decide +kernel) (by decide +kernel)
theorem k_140 : (Cond.selects "LicenceTexts$Reckoner" ⟨"LicenceTexts$Reckoner", "pushPlace", "(LLicenceTexts$Tables;I)Z"⟩ ⟨"LicenceTexts$Reckoner", "pushPlace", "(LLicenceTexts$Tables;I)Z"⟩) ∈ T0 := memT 30 (by decide +kernel) (by decide +kernel)
theorem k_141 : (Jvm.Cond.methodLink "LicenceTexts$Reckoner" (86 : Nat) ({ cls := "LicenceTexts$Reckoner", name := "combine", desc := "(I)Z" } : Jvm.MethodName)) ∈ T0 := memT 700 (by decide +kernel) (by decide +kernel)
theorem k_142 : (Jvm.Cond.code ({ cls := "LicenceTexts$Reckoner", name := "combine", desc := "(I)Z" } : Jvm.MethodName) prog_7_method_8_code (6 : Nat) (Option.some Jvm.ClassFile.FieldType.boolean)) ∈ T0 := memT 703 (by decide +kernel) (by decide +kernel)
theorem k_143 : (Jvm.Cond.instanceMethod ({ cls := "LicenceTexts$Reckoner", name := "combine", desc := "(I)Z" } : Jvm.MethodName)) ∈ T0 := memT 702 (by decide +kernel) (by decide +kernel)
theorem k_144 : (Cond.selects "LicenceTexts$Reckoner" ⟨"LicenceTexts$Reckoner", "combine", "(I)Z"⟩ ⟨"LicenceTexts$Reckoner", "combine", "(I)Z"⟩) ∈ T0 := memT 31 (by decide +kernel) (by decide +kernel)
theorem k_145 : (Jvm.Cond.methodLink "LicenceTexts$Reckoner" (50 : Nat) ({ cls := "LicenceTexts$Steps", name := "kindAt", desc := "(I)I" } : Jvm.MethodName)) ∈ T0 := memT 662 (by decide +kernel) (by decide +kernel)
theorem k_146 : (Jvm.Cond.code ({ cls := "LicenceTexts$Steps", name := "kindAt", desc := "(I)I" } : Jvm.MethodName) prog_9_method_3_code (2 : Nat) (Option.some Jvm.ClassFile.FieldType.int)) ∈ T0 := memT 509 (by decide +kernel) (by decide +kernel)
theorem k_147 : (Jvm.Cond.instanceMethod ({ cls := "LicenceTexts$Steps", name := "kindAt", desc := "(I)I" } : Jvm.MethodName)) ∈ T0 := memT 507 (by decide +kernel) (by decide +kernel)
theorem k_148 : (Jvm.Cond.selects "LicenceTexts$Steps" ({ cls := "LicenceTexts$Steps", name := "kindAt", desc := "(I)I" } : Jvm.MethodName) ({ cls := "LicenceTexts$Steps", name := "kindAt", desc := "(I)I" } : Jvm.MethodName)) ∈ T0 := memT 508 (by decide +kernel) (by decide +kernel)
theorem k_149 : (Jvm.Cond.methodLink "LicenceTexts$Reckoner" (56 : Nat) ({ cls := "LicenceTexts$Steps", name := "valueAt", desc := "(I)I" } : Jvm.MethodName)) ∈ T0 := memT 663 (by decide +kernel) (by decide +kernel)
theorem k_150 : (Jvm.Cond.code ({ cls := "LicenceTexts$Steps", name := "valueAt", desc := "(I)I" } : Jvm.MethodName) prog_9_method_4_code (2 : Nat) (Option.some Jvm.ClassFile.FieldType.int)) ∈ T0 := memT 516 (by decide +kernel) (by decide +kernel)
theorem k_151 : (Jvm.Cond.instanceMethod ({ cls := "LicenceTexts$Steps", name := "valueAt", desc := "(I)I" } : Jvm.MethodName)) ∈ T0 := memT 514 (by decide +kernel) (by decide +kernel)
theorem k_152 : (Jvm.Cond.selects "LicenceTexts$Steps" ({ cls := "LicenceTexts$Steps", name := "valueAt", desc := "(I)I" } : Jvm.MethodName) ({ cls := "LicenceTexts$Steps", name := "valueAt", desc := "(I)I" } : Jvm.MethodName)) ∈ T0 := memT 515 (by decide +kernel) (by decide +kernel)
theorem k_153 : (Jvm.Cond.methodLink "LicenceTexts$Reckoner" (67 : Nat) ({ cls := "LicenceTexts$Reckoner", name := "reckon", desc := "(IILLicenceTexts$Tables;)Z" } : Jvm.MethodName)) ∈ T0 := memT 672 (by decide +kernel) (by decide +kernel)
theorem k_154 : (Jvm.Cond.code ({ cls := "LicenceTexts$Reckoner", name := "reckon", desc := "(IILLicenceTexts$Tables;)Z" } : Jvm.MethodName) prog_7_method_5_code (4 : Nat) (Option.some Jvm.ClassFile.FieldType.boolean)) ∈ T0 := memT 675 (by decide +kernel) (by decide +kernel)
theorem k_155 : (Jvm.Cond.instanceMethod ({ cls := "LicenceTexts$Reckoner", name := "reckon", desc := "(IILLicenceTexts$Tables;)Z" } : Jvm.MethodName)) ∈ T0 := memT 674 (by decide +kernel) (by decide +kernel)
theorem k_156 : (Cond.selects "LicenceTexts$Reckoner" ⟨"LicenceTexts$Reckoner", "reckon", "(IILLicenceTexts$Tables;)Z"⟩ ⟨"LicenceTexts$Reckoner", "reckon", "(IILLicenceTexts$Tables;)Z"⟩) ∈ T0 := memT 27 (by decide +kernel) (by decide +kernel)
theorem k_157 : (Jvm.Cond.methodLink "LicenceTexts$Reckoner" (59 : Nat) ({ cls := "LicenceTexts$Reckoner", name := "related", desc := "(I)Z" } : Jvm.MethodName)) ∈ T0 := memT 664 (by decide +kernel) (by decide +kernel)
theorem k_158 : (Jvm.Cond.code ({ cls := "LicenceTexts$Reckoner", name := "related", desc := "(I)Z" } : Jvm.MethodName) prog_7_method_4_code (6 : Nat) (Option.some Jvm.ClassFile.FieldType.boolean)) ∈ T0 := memT 667 (by decide +kernel) (by decide +kernel)
theorem k_159 : (Jvm.Cond.instanceMethod ({ cls := "LicenceTexts$Reckoner", name := "related", desc := "(I)Z" } : Jvm.MethodName)) ∈ T0 := memT 666 (by decide +kernel) (by decide +kernel)
theorem k_160 : (Cond.selects "LicenceTexts$Reckoner" ⟨"LicenceTexts$Reckoner", "related", "(I)Z"⟩ ⟨"LicenceTexts$Reckoner", "related", "(I)Z"⟩) ∈ T0 := memT 25 (by decide +kernel) (by decide +kernel)
theorem k_161 : (Jvm.Cond.methodLink "LicenceTexts$Reckoner" (37 : Nat) ({ cls := "LicenceTexts$Reckoner", name := "follow", desc := "(LLicenceTexts$Edition;II)I" } : Jvm.MethodName)) ∈ T0 := memT 658 (by decide +kernel) (by decide +kernel)
theorem k_162 : (Jvm.Cond.code ({ cls := "LicenceTexts$Reckoner", name := "follow", desc := "(LLicenceTexts$Edition;II)I" } : Jvm.MethodName) prog_7_method_3_code (7 : Nat) (Option.some Jvm.ClassFile.FieldType.int)) ∈ T0 := memT 661 (by decide +kernel) (by decide +kernel)
theorem k_163 : (Jvm.Cond.instanceMethod ({ cls := "LicenceTexts$Reckoner", name := "follow", desc := "(LLicenceTexts$Edition;II)I" } : Jvm.MethodName)) ∈ T0 := memT 660 (by decide +kernel) (by decide +kernel)
theorem k_164 : (Cond.selects "LicenceTexts$Reckoner" ⟨"LicenceTexts$Reckoner", "follow", "(LLicenceTexts$Edition;II)I"⟩ ⟨"LicenceTexts$Reckoner", "follow", "(LLicenceTexts$Edition;II)I"⟩) ∈ T0 := memT 24 (by decide +kernel) (by decide +kernel)
end
section
theorem d_Bytes_init_0 : decode prog_2_method_1_code 0 = .ok (.aload_n 0, 1) := by decide +kernel
theorem d_Bytes_init_1 : decode prog_2_method_1_code 1 = .ok (.invokespecial 3, 3) := by decide +kernel
theorem d_Bytes_init_4 : decode prog_2_method_1_code 4 = .ok (.aload_n 0, 1) := by decide +kernel
theorem d_Bytes_init_5 : decode prog_2_method_1_code 5 = .ok (.sipush 800, 3) := by decide +kernel
theorem d_Bytes_init_8 : decode prog_2_method_1_code 8 = .ok (.newarray .byte, 2) := by decide +kernel
theorem d_Bytes_init_10 : decode prog_2_method_1_code 10 = .ok (.putfield 11, 3) := by decide +kernel
theorem d_Bytes_init_13 : decode prog_2_method_1_code 13 = .ok (.aload_n 0, 1) := by decide +kernel
theorem d_Bytes_init_14 : decode prog_2_method_1_code 14 = .ok (.iconst 0, 1) := by decide +kernel
theorem d_Bytes_init_15 : decode prog_2_method_1_code 15 = .ok (.putfield 15, 3) := by decide +kernel
theorem d_Bytes_init_18 : decode prog_2_method_1_code 18 = .ok (.return_, 1) := by decide +kernel
theorem d_Bytes_append_0 : decode prog_2_method_2_code 0 = .ok (.aload_n 0, 1) := by decide +kernel
theorem d_Bytes_append_1 : decode prog_2_method_2_code 1 = .ok (.getfield 15, 3) := by decide +kernel
theorem d_Bytes_append_4 : decode prog_2_method_2_code 4 = .ok (.ifCond .lt 15, 3) := by decide +kernel
theorem d_Bytes_append_19 : decode prog_2_method_2_code 19 = .ok (.iconst 0, 1) := by decide +kernel
theorem d_Bytes_append_20 : decode prog_2_method_2_code 20 = .ok (.ireturn, 1) := by decide +kernel
theorem d_Bytes_append_7 : decode prog_2_method_2_code 7 = .ok (.aload_n 0, 1) := by decide +kernel
theorem d_Bytes_append_8 : decode prog_2_method_2_code 8 = .ok (.getfield 15, 3) := by decide +kernel
theorem d_Bytes_append_11 : decode prog_2_method_2_code 11 = .ok (.aload_n 0, 1) := by decide +kernel
theorem d_Bytes_append_12 : decode prog_2_method_2_code 12 = .ok (.getfield 11, 3) := by decide +kernel
theorem d_Bytes_append_15 : decode prog_2_method_2_code 15 = .ok (.arraylength, 1) := by decide +kernel
theorem d_Bytes_append_16 : decode prog_2_method_2_code 16 = .ok (.if_icmp .lt 5, 3) := by decide +kernel
theorem d_Bytes_append_21 : decode prog_2_method_2_code 21 = .ok (.aload_n 0, 1) := by decide +kernel
theorem d_Bytes_append_22 : decode prog_2_method_2_code 22 = .ok (.getfield 11, 3) := by decide +kernel
theorem d_Bytes_append_25 : decode prog_2_method_2_code 25 = .ok (.aload_n 0, 1) := by decide +kernel
theorem d_Bytes_append_26 : decode prog_2_method_2_code 26 = .ok (.getfield 15, 3) := by decide +kernel
theorem d_Bytes_append_29 : decode prog_2_method_2_code 29 = .ok (.iload_n 1, 1) := by decide +kernel
theorem d_Bytes_append_30 : decode prog_2_method_2_code 30 = .ok (.i2b, 1) := by decide +kernel
theorem d_Bytes_append_31 : decode prog_2_method_2_code 31 = .ok (.bastore, 1) := by decide +kernel
theorem d_Bytes_append_32 : decode prog_2_method_2_code 32 = .ok (.aload_n 0, 1) := by decide +kernel
theorem d_Bytes_append_33 : decode prog_2_method_2_code 33 = .ok (.dup, 1) := by decide +kernel
theorem d_Bytes_append_34 : decode prog_2_method_2_code 34 = .ok (.getfield 15, 3) := by decide +kernel
theorem d_Bytes_append_37 : decode prog_2_method_2_code 37 = .ok (.iconst 1, 1) := by decide +kernel
theorem d_Bytes_append_38 : decode prog_2_method_2_code 38 = .ok (.iadd, 1) := by decide +kernel
theorem d_Bytes_append_39 : decode prog_2_method_2_code 39 = .ok (.putfield 15, 3) := by decide +kernel
theorem d_Bytes_append_42 : decode prog_2_method_2_code 42 = .ok (.iconst 1, 1) := by decide +kernel
theorem d_Bytes_append_43 : decode prog_2_method_2_code 43 = .ok (.ireturn, 1) := by decide +kernel
theorem d_Bytes_byteAt_0 : decode prog_2_method_3_code 0 = .ok (.iload_n 1, 1) := by decide +kernel
theorem d_Bytes_byteAt_1 : decode prog_2_method_3_code 1 = .ok (.ifCond .lt 20, 3) := by decide +kernel
theorem d_Bytes_byteAt_21 : decode prog_2_method_3_code 21 = .ok (.iconst (-1), 1) := by decide +kernel
theorem d_Bytes_byteAt_22 : decode prog_2_method_3_code 22 = .ok (.ireturn, 1) := by decide +kernel
theorem d_Bytes_byteAt_4 : decode prog_2_method_3_code 4 = .ok (.iload_n 1, 1) := by decide +kernel
theorem d_Bytes_byteAt_5 : decode prog_2_method_3_code 5 = .ok (.aload_n 0, 1) := by decide +kernel
theorem d_Bytes_byteAt_6 : decode prog_2_method_3_code 6 = .ok (.getfield 15, 3) := by decide +kernel
theorem d_Bytes_byteAt_9 : decode prog_2_method_3_code 9 = .ok (.if_icmp .ge 12, 3) := by decide +kernel
theorem d_Bytes_byteAt_12 : decode prog_2_method_3_code 12 = .ok (.iload_n 1, 1) := by decide +kernel
theorem d_Bytes_byteAt_13 : decode prog_2_method_3_code 13 = .ok (.aload_n 0, 1) := by decide +kernel
theorem d_Bytes_byteAt_14 : decode prog_2_method_3_code 14 = .ok (.getfield 11, 3) := by decide +kernel
theorem d_Bytes_byteAt_17 : decode prog_2_method_3_code 17 = .ok (.arraylength, 1) := by decide +kernel
theorem d_Bytes_byteAt_18 : decode prog_2_method_3_code 18 = .ok (.if_icmp .lt 5, 3) := by decide +kernel
theorem d_Bytes_byteAt_23 : decode prog_2_method_3_code 23 = .ok (.aload_n 0, 1) := by decide +kernel
theorem d_Bytes_byteAt_24 : decode prog_2_method_3_code 24 = .ok (.getfield 11, 3) := by decide +kernel
theorem d_Bytes_byteAt_27 : decode prog_2_method_3_code 27 = .ok (.iload_n 1, 1) := by decide +kernel
theorem d_Bytes_byteAt_28 : decode prog_2_method_3_code 28 = .ok (.baload, 1) := by decide +kernel
theorem d_Bytes_byteAt_29 : decode prog_2_method_3_code 29 = .ok (.sipush 255, 3) := by decide +kernel
theorem d_Bytes_byteAt_32 : decode prog_2_method_3_code 32 = .ok (.iand, 1) := by decide +kernel
theorem d_Bytes_byteAt_33 : decode prog_2_method_3_code 33 = .ok (.ireturn, 1) := by decide +kernel
theorem d_Bytes_clear_0 : decode prog_2_method_4_code 0 = .ok (.aload_n 0, 1) := by decide +kernel
theorem d_Bytes_clear_1 : decode prog_2_method_4_code 1 = .ok (.iconst 0, 1) := by decide +kernel
theorem d_Bytes_clear_2 : decode prog_2_method_4_code 2 = .ok (.putfield 15, 3) := by decide +kernel
theorem d_Bytes_clear_5 : decode prog_2_method_4_code 5 = .ok (.return_, 1) := by decide +kernel
def M_Bytes_init (F : Nat) (h : hH) (x0 : Nat) : Option hH :=
  (some (hAdd h (.inr (.byte, 800, .inl (fun _ => 0))))).bind fun h1 =>
  (hPut h1 x0 0 0 (.ref h.1)).bind fun h2 =>
  (hPut h2 x0 0 1 (.int 0)).bind fun h3 =>
  some h3
def M_Bytes_append (F : Nat) (h : hH) (x0 : Nat) (x1 : Int32) : Option (Int32 × hH) :=
  (hGetI h x0 0 1).bind fun v1 =>
  if v1 < 0 then (
    some (0, h)
  ) else (
    (hGetI h x0 0 1).bind fun v3 =>
    (hGetA h x0 0 0).bind fun v4 =>
    (hLen h v4).bind fun v5 =>
    if v3 < v5 then (
      (hGetA h x0 0 0).bind fun v7 =>
      (hGetI h x0 0 1).bind fun v8 =>
      (hStB h v7 v8 x1.toInt8.toInt32).bind fun h9 =>
      (hGetI h9 x0 0 1).bind fun v10 =>
      (hPut h9 x0 0 1 (.int (v10 + 1))).bind fun h11 =>
      some (1, h11)
    ) else (
      some (0, h)
    )
  )
def M_Bytes_byteAt (F : Nat) (h : hH) (x0 : Nat) (x1 : Int32) : Option (Int32 × hH) :=
  if x1 < 0 then (
    some ((-1), h)
  ) else (
    (hGetI h x0 0 1).bind fun v2 =>
    if v2 ≤ x1 then (
      some ((-1), h)
    ) else (
      (hGetA h x0 0 0).bind fun v4 =>
      (hLen h v4).bind fun v5 =>
      if x1 < v5 then (
        (hGetA h x0 0 0).bind fun v7 =>
        (hLdI h v7 .byte x1).bind fun v8 =>
        some ((v8 &&& 255), h)
      ) else (
        some ((-1), h)
      )
    )
  )
def M_Bytes_clear (F : Nat) (h : hH) (x0 : Nat) : Option hH :=
  (hPut h x0 0 1 (.int 0)).bind fun h1 =>
  some h1
abbrev rm_Bytes_init : Room := { frames := 1, cells := 1, slots := 800, locals := 12 }
set_option maxHeartbeats 4000000 in
set_option maxRecDepth 100000 in
theorem c_Bytes_init (l : Launch) (D : va_G) (K : (Nat → Nat) × (Nat → Nat)) (F : Nat) {h : hH} {x0 : Nat} {q : hH} (hM : M_Bytes_init F h x0 = some q) : Met l y_Bytes_init (.code y_Bytes_init prog_2_method_1_code 1 none :: T0) rm_Bytes_init (hPc hG D cls0 K [.ref x0] h) (hQ D cls0 h none q) 1 800 (hF h) := by
  refine J_met (lv := [(0, .ref x0)]) (by decide) (Nat.le_of_ble_eq_true rfl) rfl ?_
  intro p e s m below meth c X hr hlk hnm
  have Y : HX p s m _ meth c prog_2_method_1_code 1 "LicenceTexts$Bytes" D K "<init>" none h := ⟨X, hr, hlk, hnm⟩
  unfold M_Bytes_init at hM
  refine J_aload_n (pc := 0) X 0 d_Bytes_init_0 rfl ?_
  refine J_objInit (pc := 1) X k_0 k_1 k_2 d_Bytes_init_1 (Nat.le_of_ble_eq_true rfl) (Nat.le_of_ble_eq_true rfl) ?_
  refine J_aload_n (pc := 4) X 0 d_Bytes_init_4 rfl ?_
  refine J_sipush (pc := 5) (v := (800)) X d_Bytes_init_5 (by decide) ?_
  refine J_newa (pc := 8) (ty := .byte) (N := 800) (a0 := (800, .inl (fun _ => 0))) X rfl k_3 d_Bytes_init_8 (fun _ => rfl) (fun _ _ hq => hq) (by decide) (by decide) (by decide) (Nat.le_of_ble_eq_true rfl) (Nat.le_of_ble_eq_true rfl) ?_
  obtain ⟨h1, eh1, hM⟩ := hb_some hM
  rw [Option.some.inj eh1]
  obtain ⟨h2, eh2, hM⟩ := hb_some hM
  refine J_putF (pc := 10) X hc_Bytes in_Bytes t_Bytes tk_Bytes nk_Bytes 0 k_4 (by decide) rfl rfl rfl hnm d_Bytes_init_10 rfl rfl rfl eh2 ?_
  refine J_aload_n (pc := 13) X 0 d_Bytes_init_13 rfl ?_
  refine J_iconst (pc := 14) (v := (0)) X d_Bytes_init_14 (by decide) ?_
  obtain ⟨h3, eh3, hM⟩ := hb_some hM
  refine J_put (pc := 15) X hc_Bytes in_Bytes t_Bytes tk_Bytes nk_Bytes 1 k_5 (by decide) rfl rfl d_Bytes_init_15 rfl rfl rfl eh3 ?_
  obtain rfl := Option.some.inj hM
  exact J_vret (pc := 18) X hr hlk (Nat.le_of_ble_eq_true rfl) (Nat.le_of_ble_eq_true rfl) d_Bytes_init_18
abbrev rm_Bytes_append : Room := { frames := 0, cells := 0, slots := 0, locals := 0 }
set_option maxHeartbeats 4000000 in
set_option maxRecDepth 100000 in
theorem c_Bytes_append (l : Launch) (D : va_G) (K : (Nat → Nat) × (Nat → Nat)) (F : Nat) {h : hH} {x0 : Nat} {x1 : Int32} {q : (Int32 × hH)} (hM : M_Bytes_append F h x0 x1 = some q) : Met l y_Bytes_append (.code y_Bytes_append prog_2_method_2_code 2 (some .boolean) :: T0) rm_Bytes_append (hPc hG D cls0 K [.ref x0, .int x1] h) (hQ D cls0 h (some (.int q.1)) q.2) 0 0 (hF h) := by
  refine J_met (lv := [(0, .ref x0), (1, .int x1)]) (by decide) (Nat.le_of_ble_eq_true rfl) rfl ?_
  intro p e s m below meth c X hr hlk hnm
  have Y : HX p s m _ meth c prog_2_method_2_code 2 "LicenceTexts$Bytes" D K "append" (some .boolean) h := ⟨X, hr, hlk, hnm⟩
  unfold M_Bytes_append at hM
  refine J_aload_n (pc := 0) X 0 d_Bytes_append_0 rfl ?_
  obtain ⟨v1, ev1, hM⟩ := hb_some hM
  refine J_getI (pc := 1) X hc_Bytes in_Bytes 1 k_5 (by decide) rfl d_Bytes_append_1 rfl ev1 ?_
  refine J_if_lt (pc := 4) (tgt := 19) X d_Bytes_append_4 (by decide) (fun c2 => ?_) (fun c2 => ?_)
  · have hM := hif_t hM c2
    refine J_iconst (pc := 19) (v := (0)) X d_Bytes_append_19 (by decide) ?_
    obtain rfl := Option.some.inj hM
    exact J_zret (pc := 20) X hr hz0 hlk (Nat.le_of_ble_eq_true rfl) (Nat.le_of_ble_eq_true rfl) d_Bytes_append_20
  · have hM := hif_f hM c2
    refine J_aload_n (pc := 7) X 0 d_Bytes_append_7 rfl ?_
    obtain ⟨v3, ev3, hM⟩ := hb_some hM
    refine J_getI (pc := 8) X hc_Bytes in_Bytes 1 k_5 (by decide) rfl d_Bytes_append_8 rfl ev3 ?_
    refine J_aload_n (pc := 11) X 0 d_Bytes_append_11 rfl ?_
    obtain ⟨v4, ev4, hM⟩ := hb_some hM
    refine J_getA (pc := 12) X hc_Bytes in_Bytes 0 k_4 (by decide) rfl d_Bytes_append_12 rfl ev4 ?_
    obtain ⟨v5, ev5, hM⟩ := hb_some hM
    refine J_alen (pc := 15) X d_Bytes_append_15 rfl ev5 ?_
    refine J_icmp_lt (pc := 16) (tgt := 21) X d_Bytes_append_16 (by decide) (fun c6 => ?_) (fun c6 => ?_)
    · have hM := hif_t hM c6
      refine J_aload_n (pc := 21) X 0 d_Bytes_append_21 rfl ?_
      obtain ⟨v7, ev7, hM⟩ := hb_some hM
      refine J_getA (pc := 22) X hc_Bytes in_Bytes 0 k_4 (by decide) rfl d_Bytes_append_22 rfl ev7 ?_
      refine J_aload_n (pc := 25) X 0 d_Bytes_append_25 rfl ?_
      obtain ⟨v8, ev8, hM⟩ := hb_some hM
      refine J_getI (pc := 26) X hc_Bytes in_Bytes 1 k_5 (by decide) rfl d_Bytes_append_26 rfl ev8 ?_
      refine J_iload_n (pc := 29) X 1 d_Bytes_append_29 rfl ?_
      refine J_i2b (pc := 30) X d_Bytes_append_30 ?_
      obtain ⟨h9, eh9, hM⟩ := hb_some hM
      refine J_bast (pc := 31) X d_Bytes_append_31 rfl eh9 ?_
      refine J_aload_n (pc := 32) X 0 d_Bytes_append_32 rfl ?_
      refine J_dup (pc := 33) X d_Bytes_append_33 rfl ?_
      obtain ⟨v10, ev10, hM⟩ := hb_some hM
      refine J_getI (pc := 34) X hc_Bytes in_Bytes 1 k_5 (by decide) rfl d_Bytes_append_34 rfl ev10 ?_
      refine J_iconst (pc := 37) (v := (1)) X d_Bytes_append_37 (by decide) ?_
      refine J_iadd (pc := 38) X d_Bytes_append_38 ?_
      obtain ⟨h11, eh11, hM⟩ := hb_some hM
      refine J_put (pc := 39) X hc_Bytes in_Bytes t_Bytes tk_Bytes nk_Bytes 1 k_5 (by decide) rfl rfl d_Bytes_append_39 rfl rfl rfl eh11 ?_
      refine J_iconst (pc := 42) (v := (1)) X d_Bytes_append_42 (by decide) ?_
      obtain rfl := Option.some.inj hM
      exact J_zret (pc := 43) X hr hz1 hlk (Nat.le_of_ble_eq_true rfl) (Nat.le_of_ble_eq_true rfl) d_Bytes_append_43
    · have hM := hif_f hM c6
      refine J_iconst (pc := 19) (v := (0)) X d_Bytes_append_19 (by decide) ?_
      obtain rfl := Option.some.inj hM
      exact J_zret (pc := 20) X hr hz0 hlk (Nat.le_of_ble_eq_true rfl) (Nat.le_of_ble_eq_true rfl) d_Bytes_append_20
abbrev rm_Bytes_byteAt : Room := { frames := 0, cells := 0, slots := 0, locals := 0 }
set_option maxHeartbeats 4000000 in
set_option maxRecDepth 100000 in
theorem c_Bytes_byteAt (l : Launch) (D : va_G) (K : (Nat → Nat) × (Nat → Nat)) (F : Nat) {h : hH} {x0 : Nat} {x1 : Int32} {q : (Int32 × hH)} (hM : M_Bytes_byteAt F h x0 x1 = some q) : Met l y_Bytes_byteAt (.code y_Bytes_byteAt prog_2_method_3_code 2 (some .int) :: T0) rm_Bytes_byteAt (hPc hG D cls0 K [.ref x0, .int x1] h) (hQ D cls0 h (some (.int q.1)) q.2) 0 0 (hF h) := by
  refine J_met (lv := [(0, .ref x0), (1, .int x1)]) (by decide) (Nat.le_of_ble_eq_true rfl) rfl ?_
  intro p e s m below meth c X hr hlk hnm
  have Y : HX p s m _ meth c prog_2_method_3_code 2 "LicenceTexts$Bytes" D K "byteAt" (some .int) h := ⟨X, hr, hlk, hnm⟩
  unfold M_Bytes_byteAt at hM
  refine J_iload_n (pc := 0) X 1 d_Bytes_byteAt_0 rfl ?_
  refine J_if_lt (pc := 1) (tgt := 21) X d_Bytes_byteAt_1 (by decide) (fun c1 => ?_) (fun c1 => ?_)
  · have hM := hif_t hM c1
    refine J_iconst (pc := 21) (v := (-1)) X d_Bytes_byteAt_21 (by decide) ?_
    obtain rfl := Option.some.inj hM
    exact J_iret (pc := 22) X hr hlk (Nat.le_of_ble_eq_true rfl) (Nat.le_of_ble_eq_true rfl) d_Bytes_byteAt_22
  · have hM := hif_f hM c1
    refine J_iload_n (pc := 4) X 1 d_Bytes_byteAt_4 rfl ?_
    refine J_aload_n (pc := 5) X 0 d_Bytes_byteAt_5 rfl ?_
    obtain ⟨v2, ev2, hM⟩ := hb_some hM
    refine J_getI (pc := 6) X hc_Bytes in_Bytes 1 k_5 (by decide) rfl d_Bytes_byteAt_6 rfl ev2 ?_
    refine J_icmp_ge (pc := 9) (tgt := 21) X d_Bytes_byteAt_9 (by decide) (fun c3 => ?_) (fun c3 => ?_)
    · have hM := hif_t hM c3
      refine J_iconst (pc := 21) (v := (-1)) X d_Bytes_byteAt_21 (by decide) ?_
      obtain rfl := Option.some.inj hM
      exact J_iret (pc := 22) X hr hlk (Nat.le_of_ble_eq_true rfl) (Nat.le_of_ble_eq_true rfl) d_Bytes_byteAt_22
    · have hM := hif_f hM c3
      refine J_iload_n (pc := 12) X 1 d_Bytes_byteAt_12 rfl ?_
      refine J_aload_n (pc := 13) X 0 d_Bytes_byteAt_13 rfl ?_
      obtain ⟨v4, ev4, hM⟩ := hb_some hM
      refine J_getA (pc := 14) X hc_Bytes in_Bytes 0 k_4 (by decide) rfl d_Bytes_byteAt_14 rfl ev4 ?_
      obtain ⟨v5, ev5, hM⟩ := hb_some hM
      refine J_alen (pc := 17) X d_Bytes_byteAt_17 rfl ev5 ?_
      refine J_icmp_lt (pc := 18) (tgt := 23) X d_Bytes_byteAt_18 (by decide) (fun c6 => ?_) (fun c6 => ?_)
      · have hM := hif_t hM c6
        refine J_aload_n (pc := 23) X 0 d_Bytes_byteAt_23 rfl ?_
        obtain ⟨v7, ev7, hM⟩ := hb_some hM
        refine J_getA (pc := 24) X hc_Bytes in_Bytes 0 k_4 (by decide) rfl d_Bytes_byteAt_24 rfl ev7 ?_
        refine J_iload_n (pc := 27) X 1 d_Bytes_byteAt_27 rfl ?_
        obtain ⟨v8, ev8, hM⟩ := hb_some hM
        refine J_bald (pc := 28) X d_Bytes_byteAt_28 rfl ev8 ?_
        refine J_sipush (pc := 29) (v := (255)) X d_Bytes_byteAt_29 (by decide) ?_
        refine J_iand (pc := 32) X d_Bytes_byteAt_32 ?_
        obtain rfl := Option.some.inj hM
        exact J_iret (pc := 33) X hr hlk (Nat.le_of_ble_eq_true rfl) (Nat.le_of_ble_eq_true rfl) d_Bytes_byteAt_33
      · have hM := hif_f hM c6
        refine J_iconst (pc := 21) (v := (-1)) X d_Bytes_byteAt_21 (by decide) ?_
        obtain rfl := Option.some.inj hM
        exact J_iret (pc := 22) X hr hlk (Nat.le_of_ble_eq_true rfl) (Nat.le_of_ble_eq_true rfl) d_Bytes_byteAt_22
abbrev rm_Bytes_clear : Room := { frames := 0, cells := 0, slots := 0, locals := 0 }
set_option maxHeartbeats 4000000 in
set_option maxRecDepth 100000 in
theorem c_Bytes_clear (l : Launch) (D : va_G) (K : (Nat → Nat) × (Nat → Nat)) (F : Nat) {h : hH} {x0 : Nat} {q : hH} (hM : M_Bytes_clear F h x0 = some q) : Met l y_Bytes_clear (.code y_Bytes_clear prog_2_method_4_code 1 none :: T0) rm_Bytes_clear (hPc hG D cls0 K [.ref x0] h) (hQ D cls0 h none q) 0 0 (hF h) := by
  refine J_met (lv := [(0, .ref x0)]) (by decide) (Nat.le_of_ble_eq_true rfl) rfl ?_
  intro p e s m below meth c X hr hlk hnm
  have Y : HX p s m _ meth c prog_2_method_4_code 1 "LicenceTexts$Bytes" D K "clear" none h := ⟨X, hr, hlk, hnm⟩
  unfold M_Bytes_clear at hM
  refine J_aload_n (pc := 0) X 0 d_Bytes_clear_0 rfl ?_
  refine J_iconst (pc := 1) (v := (0)) X d_Bytes_clear_1 (by decide) ?_
  obtain ⟨h1, eh1, hM⟩ := hb_some hM
  refine J_put (pc := 2) X hc_Bytes in_Bytes t_Bytes tk_Bytes nk_Bytes 1 k_5 (by decide) rfl rfl d_Bytes_clear_2 rfl rfl rfl eh1 ?_
  obtain rfl := Option.some.inj hM
  exact J_vret (pc := 5) X hr hlk (Nat.le_of_ble_eq_true rfl) (Nat.le_of_ble_eq_true rfl) d_Bytes_clear_5
end
section
theorem d_Facts_init_0 : decode prog_4_method_1_code 0 = .ok (.aload_n 0, 1) := by decide +kernel
theorem d_Facts_init_1 : decode prog_4_method_1_code 1 = .ok (.invokespecial 1, 3) := by decide +kernel
theorem d_Facts_init_4 : decode prog_4_method_1_code 4 = .ok (.aload_n 0, 1) := by decide +kernel
theorem d_Facts_init_5 : decode prog_4_method_1_code 5 = .ok (.bipush 20, 2) := by decide +kernel
theorem d_Facts_init_7 : decode prog_4_method_1_code 7 = .ok (.newarray .long, 2) := by decide +kernel
theorem d_Facts_init_9 : decode prog_4_method_1_code 9 = .ok (.putfield 9, 3) := by decide +kernel
theorem d_Facts_init_12 : decode prog_4_method_1_code 12 = .ok (.aload_n 0, 1) := by decide +kernel
theorem d_Facts_init_13 : decode prog_4_method_1_code 13 = .ok (.bipush 20, 2) := by decide +kernel
theorem d_Facts_init_15 : decode prog_4_method_1_code 15 = .ok (.newarray .boolean, 2) := by decide +kernel
theorem d_Facts_init_17 : decode prog_4_method_1_code 17 = .ok (.putfield 13, 3) := by decide +kernel
theorem d_Facts_init_20 : decode prog_4_method_1_code 20 = .ok (.return_, 1) := by decide +kernel
theorem d_Facts_has_0 : decode prog_4_method_2_code 0 = .ok (.iload_n 1, 1) := by decide +kernel
theorem d_Facts_has_1 : decode prog_4_method_2_code 1 = .ok (.ifCond .lt 25, 3) := by decide +kernel
theorem d_Facts_has_26 : decode prog_4_method_2_code 26 = .ok (.iconst 0, 1) := by decide +kernel
theorem d_Facts_has_27 : decode prog_4_method_2_code 27 = .ok (.ireturn, 1) := by decide +kernel
theorem d_Facts_has_4 : decode prog_4_method_2_code 4 = .ok (.iload_n 1, 1) := by decide +kernel
theorem d_Facts_has_5 : decode prog_4_method_2_code 5 = .ok (.aload_n 0, 1) := by decide +kernel
theorem d_Facts_has_6 : decode prog_4_method_2_code 6 = .ok (.getfield 9, 3) := by decide +kernel
theorem d_Facts_has_9 : decode prog_4_method_2_code 9 = .ok (.arraylength, 1) := by decide +kernel
theorem d_Facts_has_10 : decode prog_4_method_2_code 10 = .ok (.if_icmp .ge 16, 3) := by decide +kernel
theorem d_Facts_has_13 : decode prog_4_method_2_code 13 = .ok (.iload_n 1, 1) := by decide +kernel
theorem d_Facts_has_14 : decode prog_4_method_2_code 14 = .ok (.aload_n 0, 1) := by decide +kernel
theorem d_Facts_has_15 : decode prog_4_method_2_code 15 = .ok (.getfield 13, 3) := by decide +kernel
theorem d_Facts_has_18 : decode prog_4_method_2_code 18 = .ok (.arraylength, 1) := by decide +kernel
theorem d_Facts_has_19 : decode prog_4_method_2_code 19 = .ok (.if_icmp .ge 7, 3) := by decide +kernel
theorem d_Facts_has_22 : decode prog_4_method_2_code 22 = .ok (.iconst 1, 1) := by decide +kernel
theorem d_Facts_has_23 : decode prog_4_method_2_code 23 = .ok (.goto 4, 3) := by decide +kernel
theorem d_Facts_put_0 : decode prog_4_method_3_code 0 = .ok (.aload_n 0, 1) := by decide +kernel
theorem d_Facts_put_1 : decode prog_4_method_3_code 1 = .ok (.iload_n 1, 1) := by decide +kernel
theorem d_Facts_put_2 : decode prog_4_method_3_code 2 = .ok (.invokevirtual 17, 3) := by decide +kernel
theorem d_Facts_put_5 : decode prog_4_method_3_code 5 = .ok (.ifCond .eq 18, 3) := by decide +kernel
theorem d_Facts_put_23 : decode prog_4_method_3_code 23 = .ok (.return_, 1) := by decide +kernel
theorem d_Facts_put_8 : decode prog_4_method_3_code 8 = .ok (.aload_n 0, 1) := by decide +kernel
theorem d_Facts_put_9 : decode prog_4_method_3_code 9 = .ok (.getfield 9, 3) := by decide +kernel
theorem d_Facts_put_12 : decode prog_4_method_3_code 12 = .ok (.iload_n 1, 1) := by decide +kernel
theorem d_Facts_put_13 : decode prog_4_method_3_code 13 = .ok (.lload_n 2, 1) := by decide +kernel
theorem d_Facts_put_14 : decode prog_4_method_3_code 14 = .ok (.lastore, 1) := by decide +kernel
theorem d_Facts_put_15 : decode prog_4_method_3_code 15 = .ok (.aload_n 0, 1) := by decide +kernel
theorem d_Facts_put_16 : decode prog_4_method_3_code 16 = .ok (.getfield 13, 3) := by decide +kernel
theorem d_Facts_put_19 : decode prog_4_method_3_code 19 = .ok (.iload_n 1, 1) := by decide +kernel
theorem d_Facts_put_20 : decode prog_4_method_3_code 20 = .ok (.iload 4, 2) := by decide +kernel
theorem d_Facts_put_22 : decode prog_4_method_3_code 22 = .ok (.bastore, 1) := by decide +kernel
theorem d_Facts_isTold_0 : decode prog_4_method_4_code 0 = .ok (.iload_n 1, 1) := by decide +kernel
theorem d_Facts_isTold_1 : decode prog_4_method_4_code 1 = .ok (.ifCond .lt 25, 3) := by decide +kernel
theorem d_Facts_isTold_26 : decode prog_4_method_4_code 26 = .ok (.iconst 0, 1) := by decide +kernel
theorem d_Facts_isTold_27 : decode prog_4_method_4_code 27 = .ok (.ireturn, 1) := by decide +kernel
theorem d_Facts_isTold_4 : decode prog_4_method_4_code 4 = .ok (.iload_n 1, 1) := by decide +kernel
theorem d_Facts_isTold_5 : decode prog_4_method_4_code 5 = .ok (.aload_n 0, 1) := by decide +kernel
theorem d_Facts_isTold_6 : decode prog_4_method_4_code 6 = .ok (.getfield 13, 3) := by decide +kernel
theorem d_Facts_isTold_9 : decode prog_4_method_4_code 9 = .ok (.arraylength, 1) := by decide +kernel
theorem d_Facts_isTold_10 : decode prog_4_method_4_code 10 = .ok (.if_icmp .ge 16, 3) := by decide +kernel
theorem d_Facts_isTold_13 : decode prog_4_method_4_code 13 = .ok (.aload_n 0, 1) := by decide +kernel
theorem d_Facts_isTold_14 : decode prog_4_method_4_code 14 = .ok (.getfield 13, 3) := by decide +kernel
theorem d_Facts_isTold_17 : decode prog_4_method_4_code 17 = .ok (.iload_n 1, 1) := by decide +kernel
theorem d_Facts_isTold_18 : decode prog_4_method_4_code 18 = .ok (.baload, 1) := by decide +kernel
theorem d_Facts_isTold_19 : decode prog_4_method_4_code 19 = .ok (.ifCond .eq 7, 3) := by decide +kernel
theorem d_Facts_isTold_22 : decode prog_4_method_4_code 22 = .ok (.iconst 1, 1) := by decide +kernel
theorem d_Facts_isTold_23 : decode prog_4_method_4_code 23 = .ok (.goto 4, 3) := by decide +kernel
theorem d_Facts_valueOf_0 : decode prog_4_method_5_code 0 = .ok (.iload_n 1, 1) := by decide +kernel
theorem d_Facts_valueOf_1 : decode prog_4_method_5_code 1 = .ok (.ifCond .lt 21, 3) := by decide +kernel
theorem d_Facts_valueOf_22 : decode prog_4_method_5_code 22 = .ok (.lconst 0, 1) := by decide +kernel
theorem d_Facts_valueOf_23 : decode prog_4_method_5_code 23 = .ok (.lreturn, 1) := by decide +kernel
theorem d_Facts_valueOf_4 : decode prog_4_method_5_code 4 = .ok (.iload_n 1, 1) := by decide +kernel
theorem d_Facts_valueOf_5 : decode prog_4_method_5_code 5 = .ok (.aload_n 0, 1) := by decide +kernel
theorem d_Facts_valueOf_6 : decode prog_4_method_5_code 6 = .ok (.getfield 9, 3) := by decide +kernel
theorem d_Facts_valueOf_9 : decode prog_4_method_5_code 9 = .ok (.arraylength, 1) := by decide +kernel
theorem d_Facts_valueOf_10 : decode prog_4_method_5_code 10 = .ok (.if_icmp .ge 12, 3) := by decide +kernel
theorem d_Facts_valueOf_13 : decode prog_4_method_5_code 13 = .ok (.aload_n 0, 1) := by decide +kernel
theorem d_Facts_valueOf_14 : decode prog_4_method_5_code 14 = .ok (.getfield 9, 3) := by decide +kernel
theorem d_Facts_valueOf_17 : decode prog_4_method_5_code 17 = .ok (.iload_n 1, 1) := by decide +kernel
theorem d_Facts_valueOf_18 : decode prog_4_method_5_code 18 = .ok (.laload, 1) := by decide +kernel
theorem d_Facts_valueOf_19 : decode prog_4_method_5_code 19 = .ok (.goto 4, 3) := by decide +kernel
theorem d_Facts_clear_25 : decode prog_4_method_6_code 25 = .ok (.aload_n 0, 1) := by decide +kernel
theorem d_Facts_clear_26 : decode prog_4_method_6_code 26 = .ok (.getfield 13, 3) := by decide +kernel
theorem d_Facts_clear_29 : decode prog_4_method_6_code 29 = .ok (.iload_n 2, 1) := by decide +kernel
theorem d_Facts_clear_30 : decode prog_4_method_6_code 30 = .ok (.iconst 0, 1) := by decide +kernel
theorem d_Facts_clear_31 : decode prog_4_method_6_code 31 = .ok (.bastore, 1) := by decide +kernel
theorem d_Facts_clear_32 : decode prog_4_method_6_code 32 = .ok (.iinc 2 1, 3) := by decide +kernel
theorem d_Facts_clear_35 : decode prog_4_method_6_code 35 = .ok (.goto (-31), 3) := by decide +kernel
theorem d_Facts_clear_4 : decode prog_4_method_6_code 4 = .ok (.iload_n 2, 1) := by decide +kernel
theorem d_Facts_clear_5 : decode prog_4_method_6_code 5 = .ok (.aload_n 0, 1) := by decide +kernel
theorem d_Facts_clear_6 : decode prog_4_method_6_code 6 = .ok (.getfield 13, 3) := by decide +kernel
theorem d_Facts_clear_9 : decode prog_4_method_6_code 9 = .ok (.arraylength, 1) := by decide +kernel
theorem d_Facts_clear_10 : decode prog_4_method_6_code 10 = .ok (.if_icmp .ge 28, 3) := by decide +kernel
theorem d_Facts_clear_38 : decode prog_4_method_6_code 38 = .ok (.iload_n 1, 1) := by decide +kernel
theorem d_Facts_clear_39 : decode prog_4_method_6_code 39 = .ok (.ireturn, 1) := by decide +kernel
theorem d_Facts_clear_13 : decode prog_4_method_6_code 13 = .ok (.aload_n 0, 1) := by decide +kernel
theorem d_Facts_clear_14 : decode prog_4_method_6_code 14 = .ok (.getfield 13, 3) := by decide +kernel
theorem d_Facts_clear_17 : decode prog_4_method_6_code 17 = .ok (.iload_n 2, 1) := by decide +kernel
theorem d_Facts_clear_18 : decode prog_4_method_6_code 18 = .ok (.baload, 1) := by decide +kernel
theorem d_Facts_clear_19 : decode prog_4_method_6_code 19 = .ok (.ifCond .eq 6, 3) := by decide +kernel
theorem d_Facts_clear_22 : decode prog_4_method_6_code 22 = .ok (.iinc 1 1, 3) := by decide +kernel
theorem d_Facts_clear_0 : decode prog_4_method_6_code 0 = .ok (.iconst 0, 1) := by decide +kernel
theorem d_Facts_clear_1 : decode prog_4_method_6_code 1 = .ok (.istore_n 1, 1) := by decide +kernel
theorem d_Facts_clear_2 : decode prog_4_method_6_code 2 = .ok (.iconst 0, 1) := by decide +kernel
theorem d_Facts_clear_3 : decode prog_4_method_6_code 3 = .ok (.istore_n 2, 1) := by decide +kernel
def M_Facts_init (F : Nat) (h : hH) (x0 : Nat) : Option hH :=
  (some (hAdd h (.inr (.long, 20, .inr (.inl (fun _ => 0)))))).bind fun h1 =>
  (hPut h1 x0 2 0 (.ref h.1)).bind fun h2 =>
  (some (hAdd h2 (.inr (.boolean, 20, .inl (fun _ => 0))))).bind fun h3 =>
  (hPut h3 x0 2 1 (.ref h2.1)).bind fun h4 =>
  some h4
def M_Facts_has (F : Nat) (h : hH) (x0 : Nat) (x1 : Int32) : Option (Int32 × hH) :=
  if x1 < 0 then (
    some (0, h)
  ) else (
    (hGetA h x0 2 0).bind fun v2 =>
    (hLen h v2).bind fun v3 =>
    if v3 ≤ x1 then (
      some (0, h)
    ) else (
      (hGetA h x0 2 1).bind fun v5 =>
      (hLen h v5).bind fun v6 =>
      if v6 ≤ x1 then (
        some (0, h)
      ) else (
        some (1, h)
      )
    )
  )
def M_Facts_put (F : Nat) (h : hH) (x0 : Nat) (x1 : Int32) (x2 : Int64) (x4 : Int32) : Option hH :=
  (hIs h x0 2).bind fun u1 =>
  (M_Facts_has F h x0 x1).bind fun q2 =>
  if q2.1 = 0 then (
    some q2.2
  ) else (
    (hGetA q2.2 x0 2 0).bind fun v4 =>
    (hStL q2.2 v4 x1 x2).bind fun h5 =>
    (hGetA h5 x0 2 1).bind fun v6 =>
    (hStZ h5 v6 x1 x4).bind fun h7 =>
    some h7
  )
def M_Facts_isTold (F : Nat) (h : hH) (x0 : Nat) (x1 : Int32) : Option (Int32 × hH) :=
  if x1 < 0 then (
    some (0, h)
  ) else (
    (hGetA h x0 2 1).bind fun v2 =>
    (hLen h v2).bind fun v3 =>
    if v3 ≤ x1 then (
      some (0, h)
    ) else (
      (hGetA h x0 2 1).bind fun v5 =>
      (hLdI h v5 .boolean x1).bind fun v6 =>
      if v6 = 0 then (
        some (0, h)
      ) else (
        some (1, h)
      )
    )
  )
def M_Facts_valueOf (F : Nat) (h : hH) (x0 : Nat) (x1 : Int32) : Option (Int64 × hH) :=
  if x1 < 0 then (
    some (0, h)
  ) else (
    (hGetA h x0 2 0).bind fun v2 =>
    (hLen h v2).bind fun v3 =>
    if v3 ≤ x1 then (
      some (0, h)
    ) else (
      (hGetA h x0 2 0).bind fun v5 =>
      (hLdL h v5 x1).bind fun v6 =>
      some (v6, h)
    )
  )
def M_Facts_clear_25 (F : Nat) (r4 : hH → Nat → Int32 → Int32 → Option (Int32 × hH)) (h : hH) (x0 : Nat) (x1 : Int32) (x2 : Int32) : Option (Int32 × hH) :=
  (hGetA h x0 2 1).bind fun v1 =>
  (hStZ h v1 x2 0).bind fun h2 =>
  r4 h2 x0 x1 (x2 + 1)
def B_Facts_clear_4 (F : Nat) (r4 : hH → Nat → Int32 → Int32 → Option (Int32 × hH)) (h : hH) (x0 : Nat) (x1 : Int32) (x2 : Int32) : Option (Int32 × hH) :=
  (hGetA h x0 2 1).bind fun v1 =>
  (hLen h v1).bind fun v2 =>
  if v2 ≤ x2 then (
    some (x1, h)
  ) else (
    (hGetA h x0 2 1).bind fun v4 =>
    (hLdI h v4 .boolean x2).bind fun v5 =>
    if v5 = 0 then (
      M_Facts_clear_25 F r4 h x0 x1 x2
    ) else (
      M_Facts_clear_25 F r4 h x0 (x1 + 1) x2
    )
  )
def M_Facts_clear_4 (F : Nat) : Nat → hH → Nat → Int32 → Int32 → Option (Int32 × hH)
  | 0 => fun _ _ _ _ => none
  | z + 1 => B_Facts_clear_4 F (M_Facts_clear_4 F z)
def M_Facts_clear (F : Nat) (h : hH) (x0 : Nat) : Option (Int32 × hH) :=
  M_Facts_clear_4 F F h x0 0 0
abbrev rm_Facts_init : Room := { frames := 1, cells := 2, slots := 40, locals := 12 }
set_option maxHeartbeats 4000000 in
set_option maxRecDepth 100000 in
theorem c_Facts_init (l : Launch) (D : va_G) (K : (Nat → Nat) × (Nat → Nat)) (F : Nat) {h : hH} {x0 : Nat} {q : hH} (hM : M_Facts_init F h x0 = some q) : Met l y_Facts_init (.code y_Facts_init prog_4_method_1_code 1 none :: T0) rm_Facts_init (hPc hG D cls0 K [.ref x0] h) (hQ D cls0 h none q) 2 40 (hF h) := by
  refine J_met (lv := [(0, .ref x0)]) (by decide) (Nat.le_of_ble_eq_true rfl) rfl ?_
  intro p e s m below meth c X hr hlk hnm
  have Y : HX p s m _ meth c prog_4_method_1_code 1 "LicenceTexts$Facts" D K "<init>" none h := ⟨X, hr, hlk, hnm⟩
  unfold M_Facts_init at hM
  refine J_aload_n (pc := 0) X 0 d_Facts_init_0 rfl ?_
  refine J_objInit (pc := 1) X k_6 k_1 k_2 d_Facts_init_1 (Nat.le_of_ble_eq_true rfl) (Nat.le_of_ble_eq_true rfl) ?_
  refine J_aload_n (pc := 4) X 0 d_Facts_init_4 rfl ?_
  refine J_bipush (pc := 5) (v := (20)) X d_Facts_init_5 (by decide) ?_
  refine J_newa (pc := 7) (ty := .long) (N := 20) (a0 := (20, .inr (.inl (fun _ => 0)))) X rfl k_7 d_Facts_init_7 (fun _ => rfl) (fun _ _ hq => hq) (by decide) (by decide) (by decide) (Nat.le_of_ble_eq_true rfl) (Nat.le_of_ble_eq_true rfl) ?_
  obtain ⟨h1, eh1, hM⟩ := hb_some hM
  rw [Option.some.inj eh1]
  obtain ⟨h2, eh2, hM⟩ := hb_some hM
  refine J_putF (pc := 9) X hc_Facts in_Facts t_Facts tk_Facts nk_Facts 0 k_8 (by decide) rfl rfl rfl hnm d_Facts_init_9 rfl rfl rfl eh2 ?_
  refine J_aload_n (pc := 12) X 0 d_Facts_init_12 rfl ?_
  refine J_bipush (pc := 13) (v := (20)) X d_Facts_init_13 (by decide) ?_
  refine J_newa (pc := 15) (ty := .boolean) (N := 20) (a0 := (20, .inl (fun _ => 0))) X rfl k_9 d_Facts_init_15 (fun _ => rfl) (fun _ _ hq => hq) (by decide) (by decide) (by decide) (Nat.le_of_ble_eq_true rfl) (Nat.le_of_ble_eq_true rfl) ?_
  obtain ⟨h3, eh3, hM⟩ := hb_some hM
  rw [Option.some.inj eh3]
  obtain ⟨h4, eh4, hM⟩ := hb_some hM
  refine J_putF (pc := 17) X hc_Facts in_Facts t_Facts tk_Facts nk_Facts 1 k_10 (by decide) rfl rfl rfl hnm d_Facts_init_17 rfl rfl rfl eh4 ?_
  obtain rfl := Option.some.inj hM
  exact J_vret (pc := 20) X hr hlk (Nat.le_of_ble_eq_true rfl) (Nat.le_of_ble_eq_true rfl) d_Facts_init_20
abbrev rm_Facts_has : Room := { frames := 0, cells := 0, slots := 0, locals := 0 }
set_option maxHeartbeats 4000000 in
set_option maxRecDepth 100000 in
theorem c_Facts_has (l : Launch) (D : va_G) (K : (Nat → Nat) × (Nat → Nat)) (F : Nat) {h : hH} {x0 : Nat} {x1 : Int32} {q : (Int32 × hH)} (hM : M_Facts_has F h x0 x1 = some q) : Met l y_Facts_has (.code y_Facts_has prog_4_method_2_code 2 (some .boolean) :: T0) rm_Facts_has (hPc hG D cls0 K [.ref x0, .int x1] h) (hQ D cls0 h (some (.int q.1)) q.2) 0 0 (hF h) := by
  refine J_met (lv := [(0, .ref x0), (1, .int x1)]) (by decide) (Nat.le_of_ble_eq_true rfl) rfl ?_
  intro p e s m below meth c X hr hlk hnm
  have Y : HX p s m _ meth c prog_4_method_2_code 2 "LicenceTexts$Facts" D K "has" (some .boolean) h := ⟨X, hr, hlk, hnm⟩
  unfold M_Facts_has at hM
  refine J_iload_n (pc := 0) X 1 d_Facts_has_0 rfl ?_
  refine J_if_lt (pc := 1) (tgt := 26) X d_Facts_has_1 (by decide) (fun c1 => ?_) (fun c1 => ?_)
  · have hM := hif_t hM c1
    refine J_iconst (pc := 26) (v := (0)) X d_Facts_has_26 (by decide) ?_
    obtain rfl := Option.some.inj hM
    exact J_zret (pc := 27) X hr hz0 hlk (Nat.le_of_ble_eq_true rfl) (Nat.le_of_ble_eq_true rfl) d_Facts_has_27
  · have hM := hif_f hM c1
    refine J_iload_n (pc := 4) X 1 d_Facts_has_4 rfl ?_
    refine J_aload_n (pc := 5) X 0 d_Facts_has_5 rfl ?_
    obtain ⟨v2, ev2, hM⟩ := hb_some hM
    refine J_getA (pc := 6) X hc_Facts in_Facts 0 k_8 (by decide) rfl d_Facts_has_6 rfl ev2 ?_
    obtain ⟨v3, ev3, hM⟩ := hb_some hM
    refine J_alen (pc := 9) X d_Facts_has_9 rfl ev3 ?_
    refine J_icmp_ge (pc := 10) (tgt := 26) X d_Facts_has_10 (by decide) (fun c4 => ?_) (fun c4 => ?_)
    · have hM := hif_t hM c4
      refine J_iconst (pc := 26) (v := (0)) X d_Facts_has_26 (by decide) ?_
      obtain rfl := Option.some.inj hM
      exact J_zret (pc := 27) X hr hz0 hlk (Nat.le_of_ble_eq_true rfl) (Nat.le_of_ble_eq_true rfl) d_Facts_has_27
    · have hM := hif_f hM c4
      refine J_iload_n (pc := 13) X 1 d_Facts_has_13 rfl ?_
      refine J_aload_n (pc := 14) X 0 d_Facts_has_14 rfl ?_
      obtain ⟨v5, ev5, hM⟩ := hb_some hM
      refine J_getA (pc := 15) X hc_Facts in_Facts 1 k_10 (by decide) rfl d_Facts_has_15 rfl ev5 ?_
      obtain ⟨v6, ev6, hM⟩ := hb_some hM
      refine J_alen (pc := 18) X d_Facts_has_18 rfl ev6 ?_
      refine J_icmp_ge (pc := 19) (tgt := 26) X d_Facts_has_19 (by decide) (fun c7 => ?_) (fun c7 => ?_)
      · have hM := hif_t hM c7
        refine J_iconst (pc := 26) (v := (0)) X d_Facts_has_26 (by decide) ?_
        obtain rfl := Option.some.inj hM
        exact J_zret (pc := 27) X hr hz0 hlk (Nat.le_of_ble_eq_true rfl) (Nat.le_of_ble_eq_true rfl) d_Facts_has_27
      · have hM := hif_f hM c7
        refine J_iconst (pc := 22) (v := (1)) X d_Facts_has_22 (by decide) ?_
        refine J_goto (pc := 23) (tgt := 27) X d_Facts_has_23 (by decide) ?_
        obtain rfl := Option.some.inj hM
        exact J_zret (pc := 27) X hr hz1 hlk (Nat.le_of_ble_eq_true rfl) (Nat.le_of_ble_eq_true rfl) d_Facts_has_27
abbrev rm_Facts_put : Room := { frames := 1, cells := 0, slots := 0, locals := 21 }
set_option maxHeartbeats 4000000 in
set_option maxRecDepth 100000 in
theorem c_Facts_put (l : Launch) (D : va_G) (K : (Nat → Nat) × (Nat → Nat)) (F : Nat) {h : hH} {x0 : Nat} {x1 : Int32} {x2 : Int64} {x4 : Int32} {q : hH} (hM : M_Facts_put F h x0 x1 x2 x4 = some q) : Met l y_Facts_put (.code y_Facts_put prog_4_method_3_code 5 none :: T0) rm_Facts_put (hPc hG D cls0 K [.ref x0, .int x1, .long x2, .int x4] h) (hQ D cls0 h none q) 0 0 (hF h) := by
  refine J_met (lv := [(0, .ref x0), (1, .int x1), (2, .long x2), (4, .int x4)]) (by decide) (Nat.le_of_ble_eq_true rfl) rfl ?_
  intro p e s m below meth c X hr hlk hnm
  have Y : HX p s m _ meth c prog_4_method_3_code 5 "LicenceTexts$Facts" D K "put" none h := ⟨X, hr, hlk, hnm⟩
  unfold M_Facts_put at hM
  refine J_aload_n (pc := 0) X 0 d_Facts_put_0 rfl ?_
  refine J_iload_n (pc := 1) X 1 d_Facts_put_1 rfl ?_
  obtain ⟨u1, eu1, hM⟩ := hb_some hM
  obtain ⟨q2, eq2, hM⟩ := hb_some hM
  refine J_callV (pc := 2) (As := [.int x1]) (rest := []) (o := (some (.int q2.1))) (h2 := q2.2) X rfl hc_Facts eu1 (c_Facts_has l D K F eq2) (cwV_of (nA := 1) X.fix k_11 k_14 k_15 k_13 k_12 ⟨rfl, rfl, rfl⟩ (by decide +kernel) ⟨Nat.le_of_ble_eq_true rfl, Nat.le_of_ble_eq_true rfl⟩) d_Facts_put_2 rfl rfl (Nat.le_of_ble_eq_true rfl) (Nat.le_of_ble_eq_true rfl) (Nat.le_of_ble_eq_true rfl) ?_
  refine J_if_eq (pc := 5) (tgt := 23) X d_Facts_put_5 (by decide) (fun c3 => ?_) (fun c3 => ?_)
  · have hM := hif_t hM c3
    obtain rfl := Option.some.inj hM
    exact J_vret (pc := 23) X hr hlk (Nat.le_of_ble_eq_true rfl) (Nat.le_of_ble_eq_true rfl) d_Facts_put_23
  · have hM := hif_f hM c3
    refine J_aload_n (pc := 8) X 0 d_Facts_put_8 rfl ?_
    obtain ⟨v4, ev4, hM⟩ := hb_some hM
    refine J_getA (pc := 9) X hc_Facts in_Facts 0 k_8 (by decide) rfl d_Facts_put_9 rfl ev4 ?_
    refine J_iload_n (pc := 12) X 1 d_Facts_put_12 rfl ?_
    refine J_lload_n (pc := 13) X 2 d_Facts_put_13 rfl ?_
    obtain ⟨h5, eh5, hM⟩ := hb_some hM
    refine J_last (pc := 14) X d_Facts_put_14 rfl eh5 ?_
    refine J_aload_n (pc := 15) X 0 d_Facts_put_15 rfl ?_
    obtain ⟨v6, ev6, hM⟩ := hb_some hM
    refine J_getA (pc := 16) X hc_Facts in_Facts 1 k_10 (by decide) rfl d_Facts_put_16 rfl ev6 ?_
    refine J_iload_n (pc := 19) X 1 d_Facts_put_19 rfl ?_
    refine J_iload (pc := 20) X 3 d_Facts_put_20 rfl ?_
    obtain ⟨h7, eh7, hM⟩ := hb_some hM
    refine J_zast (pc := 22) X d_Facts_put_22 rfl eh7 ?_
    obtain rfl := Option.some.inj hM
    exact J_vret (pc := 23) X hr hlk (Nat.le_of_ble_eq_true rfl) (Nat.le_of_ble_eq_true rfl) d_Facts_put_23
abbrev rm_Facts_isTold : Room := { frames := 0, cells := 0, slots := 0, locals := 0 }
set_option maxHeartbeats 4000000 in
set_option maxRecDepth 100000 in
theorem c_Facts_isTold (l : Launch) (D : va_G) (K : (Nat → Nat) × (Nat → Nat)) (F : Nat) {h : hH} {x0 : Nat} {x1 : Int32} {q : (Int32 × hH)} (hM : M_Facts_isTold F h x0 x1 = some q) : Met l y_Facts_isTold (.code y_Facts_isTold prog_4_method_4_code 2 (some .boolean) :: T0) rm_Facts_isTold (hPc hG D cls0 K [.ref x0, .int x1] h) (hQ D cls0 h (some (.int q.1)) q.2) 0 0 (hF h) := by
  refine J_met (lv := [(0, .ref x0), (1, .int x1)]) (by decide) (Nat.le_of_ble_eq_true rfl) rfl ?_
  intro p e s m below meth c X hr hlk hnm
  have Y : HX p s m _ meth c prog_4_method_4_code 2 "LicenceTexts$Facts" D K "isTold" (some .boolean) h := ⟨X, hr, hlk, hnm⟩
  unfold M_Facts_isTold at hM
  refine J_iload_n (pc := 0) X 1 d_Facts_isTold_0 rfl ?_
  refine J_if_lt (pc := 1) (tgt := 26) X d_Facts_isTold_1 (by decide) (fun c1 => ?_) (fun c1 => ?_)
  · have hM := hif_t hM c1
    refine J_iconst (pc := 26) (v := (0)) X d_Facts_isTold_26 (by decide) ?_
    obtain rfl := Option.some.inj hM
    exact J_zret (pc := 27) X hr hz0 hlk (Nat.le_of_ble_eq_true rfl) (Nat.le_of_ble_eq_true rfl) d_Facts_isTold_27
  · have hM := hif_f hM c1
    refine J_iload_n (pc := 4) X 1 d_Facts_isTold_4 rfl ?_
    refine J_aload_n (pc := 5) X 0 d_Facts_isTold_5 rfl ?_
    obtain ⟨v2, ev2, hM⟩ := hb_some hM
    refine J_getA (pc := 6) X hc_Facts in_Facts 1 k_10 (by decide) rfl d_Facts_isTold_6 rfl ev2 ?_
    obtain ⟨v3, ev3, hM⟩ := hb_some hM
    refine J_alen (pc := 9) X d_Facts_isTold_9 rfl ev3 ?_
    refine J_icmp_ge (pc := 10) (tgt := 26) X d_Facts_isTold_10 (by decide) (fun c4 => ?_) (fun c4 => ?_)
    · have hM := hif_t hM c4
      refine J_iconst (pc := 26) (v := (0)) X d_Facts_isTold_26 (by decide) ?_
      obtain rfl := Option.some.inj hM
      exact J_zret (pc := 27) X hr hz0 hlk (Nat.le_of_ble_eq_true rfl) (Nat.le_of_ble_eq_true rfl) d_Facts_isTold_27
    · have hM := hif_f hM c4
      refine J_aload_n (pc := 13) X 0 d_Facts_isTold_13 rfl ?_
      obtain ⟨v5, ev5, hM⟩ := hb_some hM
      refine J_getA (pc := 14) X hc_Facts in_Facts 1 k_10 (by decide) rfl d_Facts_isTold_14 rfl ev5 ?_
      refine J_iload_n (pc := 17) X 1 d_Facts_isTold_17 rfl ?_
      obtain ⟨v6, ev6, hM⟩ := hb_some hM
      refine J_zald (pc := 18) X d_Facts_isTold_18 rfl ev6 ?_
      refine J_if_eq (pc := 19) (tgt := 26) X d_Facts_isTold_19 (by decide) (fun c7 => ?_) (fun c7 => ?_)
      · have hM := hif_t hM c7
        refine J_iconst (pc := 26) (v := (0)) X d_Facts_isTold_26 (by decide) ?_
        obtain rfl := Option.some.inj hM
        exact J_zret (pc := 27) X hr hz0 hlk (Nat.le_of_ble_eq_true rfl) (Nat.le_of_ble_eq_true rfl) d_Facts_isTold_27
      · have hM := hif_f hM c7
        refine J_iconst (pc := 22) (v := (1)) X d_Facts_isTold_22 (by decide) ?_
        refine J_goto (pc := 23) (tgt := 27) X d_Facts_isTold_23 (by decide) ?_
        obtain rfl := Option.some.inj hM
        exact J_zret (pc := 27) X hr hz1 hlk (Nat.le_of_ble_eq_true rfl) (Nat.le_of_ble_eq_true rfl) d_Facts_isTold_27
abbrev rm_Facts_valueOf : Room := { frames := 0, cells := 0, slots := 0, locals := 0 }
set_option maxHeartbeats 4000000 in
set_option maxRecDepth 100000 in
theorem c_Facts_valueOf (l : Launch) (D : va_G) (K : (Nat → Nat) × (Nat → Nat)) (F : Nat) {h : hH} {x0 : Nat} {x1 : Int32} {q : (Int64 × hH)} (hM : M_Facts_valueOf F h x0 x1 = some q) : Met l y_Facts_valueOf (.code y_Facts_valueOf prog_4_method_5_code 2 (some .long) :: T0) rm_Facts_valueOf (hPc hG D cls0 K [.ref x0, .int x1] h) (hQ D cls0 h (some (.long q.1)) q.2) 0 0 (hF h) := by
  refine J_met (lv := [(0, .ref x0), (1, .int x1)]) (by decide) (Nat.le_of_ble_eq_true rfl) rfl ?_
  intro p e s m below meth c X hr hlk hnm
  have Y : HX p s m _ meth c prog_4_method_5_code 2 "LicenceTexts$Facts" D K "valueOf" (some .long) h := ⟨X, hr, hlk, hnm⟩
  unfold M_Facts_valueOf at hM
  refine J_iload_n (pc := 0) X 1 d_Facts_valueOf_0 rfl ?_
  refine J_if_lt (pc := 1) (tgt := 22) X d_Facts_valueOf_1 (by decide) (fun c1 => ?_) (fun c1 => ?_)
  · have hM := hif_t hM c1
    refine J_lconst (pc := 22) (v := (0)) X d_Facts_valueOf_22 (by decide) ?_
    obtain rfl := Option.some.inj hM
    exact J_lret (pc := 23) X hr hlk (Nat.le_of_ble_eq_true rfl) (Nat.le_of_ble_eq_true rfl) d_Facts_valueOf_23
  · have hM := hif_f hM c1
    refine J_iload_n (pc := 4) X 1 d_Facts_valueOf_4 rfl ?_
    refine J_aload_n (pc := 5) X 0 d_Facts_valueOf_5 rfl ?_
    obtain ⟨v2, ev2, hM⟩ := hb_some hM
    refine J_getA (pc := 6) X hc_Facts in_Facts 0 k_8 (by decide) rfl d_Facts_valueOf_6 rfl ev2 ?_
    obtain ⟨v3, ev3, hM⟩ := hb_some hM
    refine J_alen (pc := 9) X d_Facts_valueOf_9 rfl ev3 ?_
    refine J_icmp_ge (pc := 10) (tgt := 22) X d_Facts_valueOf_10 (by decide) (fun c4 => ?_) (fun c4 => ?_)
    · have hM := hif_t hM c4
      refine J_lconst (pc := 22) (v := (0)) X d_Facts_valueOf_22 (by decide) ?_
      obtain rfl := Option.some.inj hM
      exact J_lret (pc := 23) X hr hlk (Nat.le_of_ble_eq_true rfl) (Nat.le_of_ble_eq_true rfl) d_Facts_valueOf_23
    · have hM := hif_f hM c4
      refine J_aload_n (pc := 13) X 0 d_Facts_valueOf_13 rfl ?_
      obtain ⟨v5, ev5, hM⟩ := hb_some hM
      refine J_getA (pc := 14) X hc_Facts in_Facts 0 k_8 (by decide) rfl d_Facts_valueOf_14 rfl ev5 ?_
      refine J_iload_n (pc := 17) X 1 d_Facts_valueOf_17 rfl ?_
      obtain ⟨v6, ev6, hM⟩ := hb_some hM
      refine J_lald (pc := 18) X d_Facts_valueOf_18 rfl ev6 ?_
      refine J_goto (pc := 19) (tgt := 23) X d_Facts_valueOf_19 (by decide) ?_
      obtain rfl := Option.some.inj hM
      exact J_lret (pc := 23) X hr hlk (Nat.le_of_ble_eq_true rfl) (Nat.le_of_ble_eq_true rfl) d_Facts_valueOf_23
abbrev rm_Facts_clear : Room := { frames := 0, cells := 0, slots := 0, locals := 0 }
set_option maxHeartbeats 4000000 in
set_option maxRecDepth 100000 in
theorem w_Facts_clear_25 {p : Program} {l : Launch} {e : Env} {s : State} {m : MethodId} {args : Array Value} {below : List Frame} {meth : Method} {c : Code} {D : va_G} {K : (Nat → Nat) × (Nat → Nat)} {h0 : hH} (Y : HX p s m args meth c prog_4_method_6_code 3 "LicenceTexts$Facts" D K "clear" (some .int) h0) {F : Nat} {r4 : hH → Nat → Int32 → Int32 → Option (Int32 × hH)} (R4 : ∀ (h : hH) (x0 : Nat) (x1 : Int32) (x2 : Int32) (q : (Int32 × hH)), r4 h x0 x1 x2 = some q → J p l e rm_Facts_clear s m args below meth c 3 D cls0 (hF h0) h [(0, .ref x0), (1, .int x1), (2, .int x2)] 0 0 (MQ below (hQ D cls0 h0 (some (.int q.1)) q.2) args s 0 0 (hF h0)) 4 []) (h : hH) (x0 : Nat) (x1 : Int32) (x2 : Int32) (q : (Int32 × hH)) (hM : M_Facts_clear_25 F r4 h x0 x1 x2 = some q) : J p l e rm_Facts_clear s m args below meth c 3 D cls0 (hF h0) h [(0, .ref x0), (1, .int x1), (2, .int x2)] 0 0 (MQ below (hQ D cls0 h0 (some (.int q.1)) q.2) args s 0 0 (hF h0)) 25 [] := by
  obtain ⟨X, hr, hlk, hnm⟩ := id Y
  unfold M_Facts_clear_25 at hM
  refine J_aload_n (pc := 25) X 0 d_Facts_clear_25 rfl ?_
  obtain ⟨v1, ev1, hM⟩ := hb_some hM
  refine J_getA (pc := 26) X hc_Facts in_Facts 1 k_10 (by decide) rfl d_Facts_clear_26 rfl ev1 ?_
  refine J_iload_n (pc := 29) X 2 d_Facts_clear_29 rfl ?_
  refine J_iconst (pc := 30) (v := (0)) X d_Facts_clear_30 (by decide) ?_
  obtain ⟨h2, eh2, hM⟩ := hb_some hM
  refine J_zast (pc := 31) X d_Facts_clear_31 rfl eh2 ?_
  refine J_iinc (pc := 32) (v := x2 + 1) (lv' := [(2, .int (x2 + 1)), (0, .ref x0), (1, .int x1)]) X 2 d_Facts_clear_32 rfl rfl (by decide) rfl ?_
  refine J_goto (pc := 35) (tgt := 4) X d_Facts_clear_35 (by decide) ?_
  refine J_sub [1, 2, 0] rfl ?_
  exact R4 _ _ _ _ _ hM
set_option maxHeartbeats 4000000 in
set_option maxRecDepth 100000 in
theorem b_Facts_clear_4 {p : Program} {l : Launch} {e : Env} {s : State} {m : MethodId} {args : Array Value} {below : List Frame} {meth : Method} {c : Code} {D : va_G} {K : (Nat → Nat) × (Nat → Nat)} {h0 : hH} (Y : HX p s m args meth c prog_4_method_6_code 3 "LicenceTexts$Facts" D K "clear" (some .int) h0) {F : Nat}   {r4 : hH → Nat → Int32 → Int32 → Option (Int32 × hH)} (R4 : ∀ (h : hH) (x0 : Nat) (x1 : Int32) (x2 : Int32) (q : (Int32 × hH)), r4 h x0 x1 x2 = some q → J p l e rm_Facts_clear s m args below meth c 3 D cls0 (hF h0) h [(0, .ref x0), (1, .int x1), (2, .int x2)] 0 0 (MQ below (hQ D cls0 h0 (some (.int q.1)) q.2) args s 0 0 (hF h0)) 4 []) : ∀ (h : hH) (x0 : Nat) (x1 : Int32) (x2 : Int32) (q : (Int32 × hH)), B_Facts_clear_4 F r4 h x0 x1 x2 = some q → J p l e rm_Facts_clear s m args below meth c 3 D cls0 (hF h0) h [(0, .ref x0), (1, .int x1), (2, .int x2)] 0 0 (MQ below (hQ D cls0 h0 (some (.int q.1)) q.2) args s 0 0 (hF h0)) 4 [] := by
  intro h x0 x1 x2 q hM
  obtain ⟨X, hr, hlk, hnm⟩ := id Y
  unfold B_Facts_clear_4 at hM
  refine J_iload_n (pc := 4) X 2 d_Facts_clear_4 rfl ?_
  refine J_aload_n (pc := 5) X 0 d_Facts_clear_5 rfl ?_
  obtain ⟨v1, ev1, hM⟩ := hb_some hM
  refine J_getA (pc := 6) X hc_Facts in_Facts 1 k_10 (by decide) rfl d_Facts_clear_6 rfl ev1 ?_
  obtain ⟨v2, ev2, hM⟩ := hb_some hM
  refine J_alen (pc := 9) X d_Facts_clear_9 rfl ev2 ?_
  refine J_icmp_ge (pc := 10) (tgt := 38) X d_Facts_clear_10 (by decide) (fun c3 => ?_) (fun c3 => ?_)
  · have hM := hif_t hM c3
    refine J_iload_n (pc := 38) X 1 d_Facts_clear_38 rfl ?_
    obtain rfl := Option.some.inj hM
    exact J_iret (pc := 39) X hr hlk (Nat.le_of_ble_eq_true rfl) (Nat.le_of_ble_eq_true rfl) d_Facts_clear_39
  · have hM := hif_f hM c3
    refine J_aload_n (pc := 13) X 0 d_Facts_clear_13 rfl ?_
    obtain ⟨v4, ev4, hM⟩ := hb_some hM
    refine J_getA (pc := 14) X hc_Facts in_Facts 1 k_10 (by decide) rfl d_Facts_clear_14 rfl ev4 ?_
    refine J_iload_n (pc := 17) X 2 d_Facts_clear_17 rfl ?_
    obtain ⟨v5, ev5, hM⟩ := hb_some hM
    refine J_zald (pc := 18) X d_Facts_clear_18 rfl ev5 ?_
    refine J_if_eq (pc := 19) (tgt := 25) X d_Facts_clear_19 (by decide) (fun c6 => ?_) (fun c6 => ?_)
    · have hM := hif_t hM c6
      exact w_Facts_clear_25 Y R4 _ _ _ _ _ hM
    · have hM := hif_f hM c6
      refine J_iinc (pc := 22) (v := x1 + 1) (lv' := [(1, .int (x1 + 1)), (0, .ref x0), (2, .int x2)]) X 1 d_Facts_clear_22 rfl rfl (by decide) rfl ?_
      refine J_sub [1, 0, 2] rfl ?_
      exact w_Facts_clear_25 Y R4 _ _ _ _ _ hM
theorem w_Facts_clear_4 {p : Program} {l : Launch} {e : Env} {s : State} {m : MethodId} {args : Array Value} {below : List Frame} {meth : Method} {c : Code} {D : va_G} {K : (Nat → Nat) × (Nat → Nat)} {h0 : hH} (Y : HX p s m args meth c prog_4_method_6_code 3 "LicenceTexts$Facts" D K "clear" (some .int) h0) {F : Nat} : ∀ z : Nat, ∀ (h : hH) (x0 : Nat) (x1 : Int32) (x2 : Int32) (q : (Int32 × hH)), M_Facts_clear_4 F z h x0 x1 x2 = some q → J p l e rm_Facts_clear s m args below meth c 3 D cls0 (hF h0) h [(0, .ref x0), (1, .int x1), (2, .int x2)] 0 0 (MQ below (hQ D cls0 h0 (some (.int q.1)) q.2) args s 0 0 (hF h0)) 4 [] := by
  intro z
  induction z with
  | zero => intro h x0 x1 x2 q hM; exact absurd (show (none : Option _) = some q from hM) (fun t => by cases t)
  | succ z ih => exact b_Facts_clear_4 Y ih
set_option maxHeartbeats 4000000 in
set_option maxRecDepth 100000 in
theorem c_Facts_clear (l : Launch) (D : va_G) (K : (Nat → Nat) × (Nat → Nat)) (F : Nat) {h : hH} {x0 : Nat} {q : (Int32 × hH)} (hM : M_Facts_clear F h x0 = some q) : Met l y_Facts_clear (.code y_Facts_clear prog_4_method_6_code 3 (some .int) :: T0) rm_Facts_clear (hPc hG D cls0 K [.ref x0] h) (hQ D cls0 h (some (.int q.1)) q.2) 0 0 (hF h) := by
  refine J_met (lv := [(0, .ref x0)]) (by decide) (Nat.le_of_ble_eq_true rfl) rfl ?_
  intro p e s m below meth c X hr hlk hnm
  have Y : HX p s m _ meth c prog_4_method_6_code 3 "LicenceTexts$Facts" D K "clear" (some .int) h := ⟨X, hr, hlk, hnm⟩
  unfold M_Facts_clear at hM
  refine J_iconst (pc := 0) (v := (0)) X d_Facts_clear_0 (by decide) ?_
  refine J_istore_n (pc := 1) (lv' := [(1, .int 0), (0, .ref x0)]) X d_Facts_clear_1 rfl (by decide) rfl ?_
  refine J_iconst (pc := 2) (v := (0)) X d_Facts_clear_2 (by decide) ?_
  refine J_istore_n (pc := 3) (lv' := [(2, .int 0), (1, .int 0), (0, .ref x0)]) X d_Facts_clear_3 rfl (by decide) rfl ?_
  refine J_sub [2, 1, 0] rfl ?_
  exact w_Facts_clear_4 Y F _ _ _ _ _ hM
end
section
theorem d_Findings_init_0 : decode prog_5_method_1_code 0 = .ok (.aload_n 0, 1) := by decide +kernel
theorem d_Findings_init_1 : decode prog_5_method_1_code 1 = .ok (.invokespecial 3, 3) := by decide +kernel
theorem d_Findings_init_4 : decode prog_5_method_1_code 4 = .ok (.aload_n 0, 1) := by decide +kernel
theorem d_Findings_init_5 : decode prog_5_method_1_code 5 = .ok (.bipush 12, 2) := by decide +kernel
theorem d_Findings_init_7 : decode prog_5_method_1_code 7 = .ok (.newarray .int, 2) := by decide +kernel
theorem d_Findings_init_9 : decode prog_5_method_1_code 9 = .ok (.putfield 9, 3) := by decide +kernel
theorem d_Findings_init_12 : decode prog_5_method_1_code 12 = .ok (.aload_n 0, 1) := by decide +kernel
theorem d_Findings_init_13 : decode prog_5_method_1_code 13 = .ok (.bipush 12, 2) := by decide +kernel
theorem d_Findings_init_15 : decode prog_5_method_1_code 15 = .ok (.newarray .int, 2) := by decide +kernel
theorem d_Findings_init_17 : decode prog_5_method_1_code 17 = .ok (.putfield 15, 3) := by decide +kernel
theorem d_Findings_init_20 : decode prog_5_method_1_code 20 = .ok (.aload_n 0, 1) := by decide +kernel
theorem d_Findings_init_21 : decode prog_5_method_1_code 21 = .ok (.bipush 12, 2) := by decide +kernel
theorem d_Findings_init_23 : decode prog_5_method_1_code 23 = .ok (.newarray .int, 2) := by decide +kernel
theorem d_Findings_init_25 : decode prog_5_method_1_code 25 = .ok (.putfield 18, 3) := by decide +kernel
theorem d_Findings_init_28 : decode prog_5_method_1_code 28 = .ok (.aload_n 0, 1) := by decide +kernel
theorem d_Findings_init_29 : decode prog_5_method_1_code 29 = .ok (.bipush 12, 2) := by decide +kernel
theorem d_Findings_init_31 : decode prog_5_method_1_code 31 = .ok (.newarray .int, 2) := by decide +kernel
theorem d_Findings_init_33 : decode prog_5_method_1_code 33 = .ok (.putfield 21, 3) := by decide +kernel
theorem d_Findings_init_36 : decode prog_5_method_1_code 36 = .ok (.aload_n 0, 1) := by decide +kernel
theorem d_Findings_init_37 : decode prog_5_method_1_code 37 = .ok (.iconst 0, 1) := by decide +kernel
theorem d_Findings_init_38 : decode prog_5_method_1_code 38 = .ok (.putfield 24, 3) := by decide +kernel
theorem d_Findings_init_41 : decode prog_5_method_1_code 41 = .ok (.return_, 1) := by decide +kernel
theorem d_Findings_clear_0 : decode prog_5_method_2_code 0 = .ok (.aload_n 0, 1) := by decide +kernel
theorem d_Findings_clear_1 : decode prog_5_method_2_code 1 = .ok (.iconst 0, 1) := by decide +kernel
theorem d_Findings_clear_2 : decode prog_5_method_2_code 2 = .ok (.putfield 24, 3) := by decide +kernel
theorem d_Findings_clear_5 : decode prog_5_method_2_code 5 = .ok (.return_, 1) := by decide +kernel
theorem d_Findings_add_0 : decode prog_5_method_3_code 0 = .ok (.aload_n 0, 1) := by decide +kernel
theorem d_Findings_add_1 : decode prog_5_method_3_code 1 = .ok (.getfield 24, 3) := by decide +kernel
theorem d_Findings_add_4 : decode prog_5_method_3_code 4 = .ok (.ifCond .lt 63, 3) := by decide +kernel
theorem d_Findings_add_67 : decode prog_5_method_3_code 67 = .ok (.return_, 1) := by decide +kernel
theorem d_Findings_add_7 : decode prog_5_method_3_code 7 = .ok (.aload_n 0, 1) := by decide +kernel
theorem d_Findings_add_8 : decode prog_5_method_3_code 8 = .ok (.getfield 24, 3) := by decide +kernel
theorem d_Findings_add_11 : decode prog_5_method_3_code 11 = .ok (.bipush 12, 2) := by decide +kernel
theorem d_Findings_add_13 : decode prog_5_method_3_code 13 = .ok (.if_icmp .ge 54, 3) := by decide +kernel
theorem d_Findings_add_16 : decode prog_5_method_3_code 16 = .ok (.aload_n 0, 1) := by decide +kernel
theorem d_Findings_add_17 : decode prog_5_method_3_code 17 = .ok (.getfield 9, 3) := by decide +kernel
theorem d_Findings_add_20 : decode prog_5_method_3_code 20 = .ok (.aload_n 0, 1) := by decide +kernel
theorem d_Findings_add_21 : decode prog_5_method_3_code 21 = .ok (.getfield 24, 3) := by decide +kernel
theorem d_Findings_add_24 : decode prog_5_method_3_code 24 = .ok (.iload_n 1, 1) := by decide +kernel
theorem d_Findings_add_25 : decode prog_5_method_3_code 25 = .ok (.iastore, 1) := by decide +kernel
theorem d_Findings_add_26 : decode prog_5_method_3_code 26 = .ok (.aload_n 0, 1) := by decide +kernel
theorem d_Findings_add_27 : decode prog_5_method_3_code 27 = .ok (.getfield 15, 3) := by decide +kernel
theorem d_Findings_add_30 : decode prog_5_method_3_code 30 = .ok (.aload_n 0, 1) := by decide +kernel
theorem d_Findings_add_31 : decode prog_5_method_3_code 31 = .ok (.getfield 24, 3) := by decide +kernel
theorem d_Findings_add_34 : decode prog_5_method_3_code 34 = .ok (.iload_n 2, 1) := by decide +kernel
theorem d_Findings_add_35 : decode prog_5_method_3_code 35 = .ok (.iastore, 1) := by decide +kernel
theorem d_Findings_add_36 : decode prog_5_method_3_code 36 = .ok (.aload_n 0, 1) := by decide +kernel
theorem d_Findings_add_37 : decode prog_5_method_3_code 37 = .ok (.getfield 18, 3) := by decide +kernel
theorem d_Findings_add_40 : decode prog_5_method_3_code 40 = .ok (.aload_n 0, 1) := by decide +kernel
theorem d_Findings_add_41 : decode prog_5_method_3_code 41 = .ok (.getfield 24, 3) := by decide +kernel
theorem d_Findings_add_44 : decode prog_5_method_3_code 44 = .ok (.iload_n 3, 1) := by decide +kernel
theorem d_Findings_add_45 : decode prog_5_method_3_code 45 = .ok (.iastore, 1) := by decide +kernel
theorem d_Findings_add_46 : decode prog_5_method_3_code 46 = .ok (.aload_n 0, 1) := by decide +kernel
theorem d_Findings_add_47 : decode prog_5_method_3_code 47 = .ok (.getfield 21, 3) := by decide +kernel
theorem d_Findings_add_50 : decode prog_5_method_3_code 50 = .ok (.aload_n 0, 1) := by decide +kernel
theorem d_Findings_add_51 : decode prog_5_method_3_code 51 = .ok (.getfield 24, 3) := by decide +kernel
theorem d_Findings_add_54 : decode prog_5_method_3_code 54 = .ok (.iload 4, 2) := by decide +kernel
theorem d_Findings_add_56 : decode prog_5_method_3_code 56 = .ok (.iastore, 1) := by decide +kernel
theorem d_Findings_add_57 : decode prog_5_method_3_code 57 = .ok (.aload_n 0, 1) := by decide +kernel
theorem d_Findings_add_58 : decode prog_5_method_3_code 58 = .ok (.dup, 1) := by decide +kernel
theorem d_Findings_add_59 : decode prog_5_method_3_code 59 = .ok (.getfield 24, 3) := by decide +kernel
theorem d_Findings_add_62 : decode prog_5_method_3_code 62 = .ok (.iconst 1, 1) := by decide +kernel
theorem d_Findings_add_63 : decode prog_5_method_3_code 63 = .ok (.iadd, 1) := by decide +kernel
theorem d_Findings_add_64 : decode prog_5_method_3_code 64 = .ok (.putfield 24, 3) := by decide +kernel
theorem d_Findings_has_0 : decode prog_5_method_6_code 0 = .ok (.iload_n 1, 1) := by decide +kernel
theorem d_Findings_has_1 : decode prog_5_method_6_code 1 = .ok (.ifCond .lt 21, 3) := by decide +kernel
theorem d_Findings_has_22 : decode prog_5_method_6_code 22 = .ok (.iconst 0, 1) := by decide +kernel
theorem d_Findings_has_23 : decode prog_5_method_6_code 23 = .ok (.ireturn, 1) := by decide +kernel
theorem d_Findings_has_4 : decode prog_5_method_6_code 4 = .ok (.iload_n 1, 1) := by decide +kernel
theorem d_Findings_has_5 : decode prog_5_method_6_code 5 = .ok (.aload_n 0, 1) := by decide +kernel
theorem d_Findings_has_6 : decode prog_5_method_6_code 6 = .ok (.getfield 24, 3) := by decide +kernel
theorem d_Findings_has_9 : decode prog_5_method_6_code 9 = .ok (.if_icmp .ge 13, 3) := by decide +kernel
theorem d_Findings_has_12 : decode prog_5_method_6_code 12 = .ok (.iload_n 1, 1) := by decide +kernel
theorem d_Findings_has_13 : decode prog_5_method_6_code 13 = .ok (.bipush 12, 2) := by decide +kernel
theorem d_Findings_has_15 : decode prog_5_method_6_code 15 = .ok (.if_icmp .ge 7, 3) := by decide +kernel
theorem d_Findings_has_18 : decode prog_5_method_6_code 18 = .ok (.iconst 1, 1) := by decide +kernel
theorem d_Findings_has_19 : decode prog_5_method_6_code 19 = .ok (.goto 4, 3) := by decide +kernel
theorem d_Findings_outcomeOf_0 : decode prog_5_method_7_code 0 = .ok (.aload_n 0, 1) := by decide +kernel
theorem d_Findings_outcomeOf_1 : decode prog_5_method_7_code 1 = .ok (.iload_n 1, 1) := by decide +kernel
theorem d_Findings_outcomeOf_2 : decode prog_5_method_7_code 2 = .ok (.invokevirtual 36, 3) := by decide +kernel
theorem d_Findings_outcomeOf_5 : decode prog_5_method_7_code 5 = .ok (.ifCond .eq 12, 3) := by decide +kernel
theorem d_Findings_outcomeOf_17 : decode prog_5_method_7_code 17 = .ok (.iconst (-1), 1) := by decide +kernel
theorem d_Findings_outcomeOf_18 : decode prog_5_method_7_code 18 = .ok (.ireturn, 1) := by decide +kernel
theorem d_Findings_outcomeOf_8 : decode prog_5_method_7_code 8 = .ok (.aload_n 0, 1) := by decide +kernel
theorem d_Findings_outcomeOf_9 : decode prog_5_method_7_code 9 = .ok (.getfield 9, 3) := by decide +kernel
theorem d_Findings_outcomeOf_12 : decode prog_5_method_7_code 12 = .ok (.iload_n 1, 1) := by decide +kernel
theorem d_Findings_outcomeOf_13 : decode prog_5_method_7_code 13 = .ok (.iaload, 1) := by decide +kernel
theorem d_Findings_outcomeOf_14 : decode prog_5_method_7_code 14 = .ok (.goto 4, 3) := by decide +kernel
theorem d_Findings_reasonOf_0 : decode prog_5_method_8_code 0 = .ok (.aload_n 0, 1) := by decide +kernel
theorem d_Findings_reasonOf_1 : decode prog_5_method_8_code 1 = .ok (.iload_n 1, 1) := by decide +kernel
theorem d_Findings_reasonOf_2 : decode prog_5_method_8_code 2 = .ok (.invokevirtual 36, 3) := by decide +kernel
theorem d_Findings_reasonOf_5 : decode prog_5_method_8_code 5 = .ok (.ifCond .eq 12, 3) := by decide +kernel
theorem d_Findings_reasonOf_17 : decode prog_5_method_8_code 17 = .ok (.iconst (-1), 1) := by decide +kernel
theorem d_Findings_reasonOf_18 : decode prog_5_method_8_code 18 = .ok (.ireturn, 1) := by decide +kernel
theorem d_Findings_reasonOf_8 : decode prog_5_method_8_code 8 = .ok (.aload_n 0, 1) := by decide +kernel
theorem d_Findings_reasonOf_9 : decode prog_5_method_8_code 9 = .ok (.getfield 15, 3) := by decide +kernel
theorem d_Findings_reasonOf_12 : decode prog_5_method_8_code 12 = .ok (.iload_n 1, 1) := by decide +kernel
theorem d_Findings_reasonOf_13 : decode prog_5_method_8_code 13 = .ok (.iaload, 1) := by decide +kernel
theorem d_Findings_reasonOf_14 : decode prog_5_method_8_code 14 = .ok (.goto 4, 3) := by decide +kernel
theorem d_Findings_untoldOf_0 : decode prog_5_method_9_code 0 = .ok (.aload_n 0, 1) := by decide +kernel
theorem d_Findings_untoldOf_1 : decode prog_5_method_9_code 1 = .ok (.iload_n 1, 1) := by decide +kernel
theorem d_Findings_untoldOf_2 : decode prog_5_method_9_code 2 = .ok (.invokevirtual 36, 3) := by decide +kernel
theorem d_Findings_untoldOf_5 : decode prog_5_method_9_code 5 = .ok (.ifCond .eq 12, 3) := by decide +kernel
theorem d_Findings_untoldOf_17 : decode prog_5_method_9_code 17 = .ok (.iconst (-1), 1) := by decide +kernel
theorem d_Findings_untoldOf_18 : decode prog_5_method_9_code 18 = .ok (.ireturn, 1) := by decide +kernel
theorem d_Findings_untoldOf_8 : decode prog_5_method_9_code 8 = .ok (.aload_n 0, 1) := by decide +kernel
theorem d_Findings_untoldOf_9 : decode prog_5_method_9_code 9 = .ok (.getfield 18, 3) := by decide +kernel
theorem d_Findings_untoldOf_12 : decode prog_5_method_9_code 12 = .ok (.iload_n 1, 1) := by decide +kernel
theorem d_Findings_untoldOf_13 : decode prog_5_method_9_code 13 = .ok (.iaload, 1) := by decide +kernel
theorem d_Findings_untoldOf_14 : decode prog_5_method_9_code 14 = .ok (.goto 4, 3) := by decide +kernel
theorem d_Findings_firstWordOf_0 : decode prog_5_method_10_code 0 = .ok (.aload_n 0, 1) := by decide +kernel
theorem d_Findings_firstWordOf_1 : decode prog_5_method_10_code 1 = .ok (.iload_n 1, 1) := by decide +kernel
theorem d_Findings_firstWordOf_2 : decode prog_5_method_10_code 2 = .ok (.invokevirtual 36, 3) := by decide +kernel
theorem d_Findings_firstWordOf_5 : decode prog_5_method_10_code 5 = .ok (.ifCond .eq 12, 3) := by decide +kernel
theorem d_Findings_firstWordOf_17 : decode prog_5_method_10_code 17 = .ok (.iconst (-1), 1) := by decide +kernel
theorem d_Findings_firstWordOf_18 : decode prog_5_method_10_code 18 = .ok (.ireturn, 1) := by decide +kernel
theorem d_Findings_firstWordOf_8 : decode prog_5_method_10_code 8 = .ok (.aload_n 0, 1) := by decide +kernel
theorem d_Findings_firstWordOf_9 : decode prog_5_method_10_code 9 = .ok (.getfield 21, 3) := by decide +kernel
theorem d_Findings_firstWordOf_12 : decode prog_5_method_10_code 12 = .ok (.iload_n 1, 1) := by decide +kernel
theorem d_Findings_firstWordOf_13 : decode prog_5_method_10_code 13 = .ok (.iaload, 1) := by decide +kernel
theorem d_Findings_firstWordOf_14 : decode prog_5_method_10_code 14 = .ok (.goto 4, 3) := by decide +kernel
theorem d_Findings_rankedAs_35 : decode prog_5_method_5_code 35 = .ok (.iinc 4 1, 3) := by decide +kernel
theorem d_Findings_rankedAs_38 : decode prog_5_method_5_code 38 = .ok (.goto (-33), 3) := by decide +kernel
theorem d_Findings_rankedAs_5 : decode prog_5_method_5_code 5 = .ok (.iload 4, 2) := by decide +kernel
theorem d_Findings_rankedAs_7 : decode prog_5_method_5_code 7 = .ok (.aload_n 0, 1) := by decide +kernel
theorem d_Findings_rankedAs_8 : decode prog_5_method_5_code 8 = .ok (.getfield 24, 3) := by decide +kernel
theorem d_Findings_rankedAs_11 : decode prog_5_method_5_code 11 = .ok (.if_icmp .ge 30, 3) := by decide +kernel
theorem d_Findings_rankedAs_41 : decode prog_5_method_5_code 41 = .ok (.iconst (-1), 1) := by decide +kernel
theorem d_Findings_rankedAs_42 : decode prog_5_method_5_code 42 = .ok (.ireturn, 1) := by decide +kernel
theorem d_Findings_rankedAs_14 : decode prog_5_method_5_code 14 = .ok (.aload_n 0, 1) := by decide +kernel
theorem d_Findings_rankedAs_15 : decode prog_5_method_5_code 15 = .ok (.iload 4, 2) := by decide +kernel
theorem d_Findings_rankedAs_17 : decode prog_5_method_5_code 17 = .ok (.invokevirtual 32, 3) := by decide +kernel
theorem d_Findings_rankedAs_20 : decode prog_5_method_5_code 20 = .ok (.iload_n 1, 1) := by decide +kernel
theorem d_Findings_rankedAs_21 : decode prog_5_method_5_code 21 = .ok (.if_icmp .ne 14, 3) := by decide +kernel
theorem d_Findings_rankedAs_24 : decode prog_5_method_5_code 24 = .ok (.iload_n 3, 1) := by decide +kernel
theorem d_Findings_rankedAs_25 : decode prog_5_method_5_code 25 = .ok (.iload_n 2, 1) := by decide +kernel
theorem d_Findings_rankedAs_26 : decode prog_5_method_5_code 26 = .ok (.if_icmp .ne 6, 3) := by decide +kernel
theorem d_Findings_rankedAs_32 : decode prog_5_method_5_code 32 = .ok (.iinc 3 1, 3) := by decide +kernel
theorem d_Findings_rankedAs_29 : decode prog_5_method_5_code 29 = .ok (.iload 4, 2) := by decide +kernel
theorem d_Findings_rankedAs_31 : decode prog_5_method_5_code 31 = .ok (.ireturn, 1) := by decide +kernel
theorem d_Findings_rankedAs_0 : decode prog_5_method_5_code 0 = .ok (.iconst 0, 1) := by decide +kernel
theorem d_Findings_rankedAs_1 : decode prog_5_method_5_code 1 = .ok (.istore_n 3, 1) := by decide +kernel
theorem d_Findings_rankedAs_2 : decode prog_5_method_5_code 2 = .ok (.iconst 0, 1) := by decide +kernel
theorem d_Findings_rankedAs_3 : decode prog_5_method_5_code 3 = .ok (.istore 4, 2) := by decide +kernel
theorem d_Findings_answer_0 : decode prog_5_method_4_code 0 = .ok (.aload_n 0, 1) := by decide +kernel
theorem d_Findings_answer_1 : decode prog_5_method_4_code 1 = .ok (.iconst 1, 1) := by decide +kernel
theorem d_Findings_answer_2 : decode prog_5_method_4_code 2 = .ok (.iconst 0, 1) := by decide +kernel
theorem d_Findings_answer_3 : decode prog_5_method_4_code 3 = .ok (.invokevirtual 28, 3) := by decide +kernel
theorem d_Findings_answer_6 : decode prog_5_method_4_code 6 = .ok (.istore_n 1, 1) := by decide +kernel
theorem d_Findings_answer_7 : decode prog_5_method_4_code 7 = .ok (.iload_n 1, 1) := by decide +kernel
theorem d_Findings_answer_8 : decode prog_5_method_4_code 8 = .ok (.iconst (-1), 1) := by decide +kernel
theorem d_Findings_answer_9 : decode prog_5_method_4_code 9 = .ok (.if_icmp .eq 7, 3) := by decide +kernel
theorem d_Findings_answer_16 : decode prog_5_method_4_code 16 = .ok (.aload_n 0, 1) := by decide +kernel
theorem d_Findings_answer_17 : decode prog_5_method_4_code 17 = .ok (.iconst 2, 1) := by decide +kernel
theorem d_Findings_answer_18 : decode prog_5_method_4_code 18 = .ok (.iconst 0, 1) := by decide +kernel
theorem d_Findings_answer_19 : decode prog_5_method_4_code 19 = .ok (.invokevirtual 28, 3) := by decide +kernel
theorem d_Findings_answer_22 : decode prog_5_method_4_code 22 = .ok (.iconst (-1), 1) := by decide +kernel
theorem d_Findings_answer_23 : decode prog_5_method_4_code 23 = .ok (.if_icmp .ne 7, 3) := by decide +kernel
theorem d_Findings_answer_30 : decode prog_5_method_4_code 30 = .ok (.iconst (-1), 1) := by decide +kernel
theorem d_Findings_answer_31 : decode prog_5_method_4_code 31 = .ok (.ireturn, 1) := by decide +kernel
theorem d_Findings_answer_26 : decode prog_5_method_4_code 26 = .ok (.iconst 0, 1) := by decide +kernel
theorem d_Findings_answer_27 : decode prog_5_method_4_code 27 = .ok (.goto 4, 3) := by decide +kernel
theorem d_Findings_answer_12 : decode prog_5_method_4_code 12 = .ok (.iconst 1, 1) := by decide +kernel
theorem d_Findings_answer_13 : decode prog_5_method_4_code 13 = .ok (.iload_n 1, 1) := by decide +kernel
theorem d_Findings_answer_14 : decode prog_5_method_4_code 14 = .ok (.iadd, 1) := by decide +kernel
theorem d_Findings_answer_15 : decode prog_5_method_4_code 15 = .ok (.ireturn, 1) := by decide +kernel
def M_Findings_init (F : Nat) (h : hH) (x0 : Nat) : Option hH :=
  (some (hAdd h (.inr (.int, 12, .inl (fun _ => 0))))).bind fun h1 =>
  (hPut h1 x0 3 0 (.ref h.1)).bind fun h2 =>
  (some (hAdd h2 (.inr (.int, 12, .inl (fun _ => 0))))).bind fun h3 =>
  (hPut h3 x0 3 1 (.ref h2.1)).bind fun h4 =>
  (some (hAdd h4 (.inr (.int, 12, .inl (fun _ => 0))))).bind fun h5 =>
  (hPut h5 x0 3 2 (.ref h4.1)).bind fun h6 =>
  (some (hAdd h6 (.inr (.int, 12, .inl (fun _ => 0))))).bind fun h7 =>
  (hPut h7 x0 3 3 (.ref h6.1)).bind fun h8 =>
  (hPut h8 x0 3 4 (.int 0)).bind fun h9 =>
  some h9
def M_Findings_clear (F : Nat) (h : hH) (x0 : Nat) : Option hH :=
  (hPut h x0 3 4 (.int 0)).bind fun h1 =>
  some h1
def M_Findings_add (F : Nat) (h : hH) (x0 : Nat) (x1 : Int32) (x2 : Int32) (x3 : Int32) (x4 : Int32) : Option hH :=
  (hGetI h x0 3 4).bind fun v1 =>
  if v1 < 0 then (
    some h
  ) else (
    (hGetI h x0 3 4).bind fun v3 =>
    if 12 ≤ v3 then (
      some h
    ) else (
      (hGetA h x0 3 0).bind fun v5 =>
      (hGetI h x0 3 4).bind fun v6 =>
      (hStI h v5 v6 x1).bind fun h7 =>
      (hGetA h7 x0 3 1).bind fun v8 =>
      (hGetI h7 x0 3 4).bind fun v9 =>
      (hStI h7 v8 v9 x2).bind fun h10 =>
      (hGetA h10 x0 3 2).bind fun v11 =>
      (hGetI h10 x0 3 4).bind fun v12 =>
      (hStI h10 v11 v12 x3).bind fun h13 =>
      (hGetA h13 x0 3 3).bind fun v14 =>
      (hGetI h13 x0 3 4).bind fun v15 =>
      (hStI h13 v14 v15 x4).bind fun h16 =>
      (hGetI h16 x0 3 4).bind fun v17 =>
      (hPut h16 x0 3 4 (.int (v17 + 1))).bind fun h18 =>
      some h18
    )
  )
def M_Findings_has (F : Nat) (h : hH) (x0 : Nat) (x1 : Int32) : Option (Int32 × hH) :=
  if x1 < 0 then (
    some (0, h)
  ) else (
    (hGetI h x0 3 4).bind fun v2 =>
    if v2 ≤ x1 then (
      some (0, h)
    ) else (
      if 12 ≤ x1 then (
        some (0, h)
      ) else (
        some (1, h)
      )
    )
  )
def M_Findings_outcomeOf (F : Nat) (h : hH) (x0 : Nat) (x1 : Int32) : Option (Int32 × hH) :=
  (hIs h x0 3).bind fun u1 =>
  (M_Findings_has F h x0 x1).bind fun q2 =>
  if q2.1 = 0 then (
    some ((-1), q2.2)
  ) else (
    (hGetA q2.2 x0 3 0).bind fun v4 =>
    (hLdI q2.2 v4 .int x1).bind fun v5 =>
    some (v5, q2.2)
  )
def M_Findings_reasonOf (F : Nat) (h : hH) (x0 : Nat) (x1 : Int32) : Option (Int32 × hH) :=
  (hIs h x0 3).bind fun u1 =>
  (M_Findings_has F h x0 x1).bind fun q2 =>
  if q2.1 = 0 then (
    some ((-1), q2.2)
  ) else (
    (hGetA q2.2 x0 3 1).bind fun v4 =>
    (hLdI q2.2 v4 .int x1).bind fun v5 =>
    some (v5, q2.2)
  )
def M_Findings_untoldOf (F : Nat) (h : hH) (x0 : Nat) (x1 : Int32) : Option (Int32 × hH) :=
  (hIs h x0 3).bind fun u1 =>
  (M_Findings_has F h x0 x1).bind fun q2 =>
  if q2.1 = 0 then (
    some ((-1), q2.2)
  ) else (
    (hGetA q2.2 x0 3 2).bind fun v4 =>
    (hLdI q2.2 v4 .int x1).bind fun v5 =>
    some (v5, q2.2)
  )
def M_Findings_firstWordOf (F : Nat) (h : hH) (x0 : Nat) (x1 : Int32) : Option (Int32 × hH) :=
  (hIs h x0 3).bind fun u1 =>
  (M_Findings_has F h x0 x1).bind fun q2 =>
  if q2.1 = 0 then (
    some ((-1), q2.2)
  ) else (
    (hGetA q2.2 x0 3 3).bind fun v4 =>
    (hLdI q2.2 v4 .int x1).bind fun v5 =>
    some (v5, q2.2)
  )
def M_Findings_rankedAs_35 (F : Nat) (r5 : hH → Nat → Int32 → Int32 → Int32 → Int32 → Option (Int32 × hH)) (h : hH) (x0 : Nat) (x1 : Int32) (x2 : Int32) (x3 : Int32) (x4 : Int32) : Option (Int32 × hH) :=
  r5 h x0 x1 x2 x3 (x4 + 1)
def B_Findings_rankedAs_5 (F : Nat) (r5 : hH → Nat → Int32 → Int32 → Int32 → Int32 → Option (Int32 × hH)) (h : hH) (x0 : Nat) (x1 : Int32) (x2 : Int32) (x3 : Int32) (x4 : Int32) : Option (Int32 × hH) :=
  (hGetI h x0 3 4).bind fun v1 =>
  if v1 ≤ x4 then (
    some ((-1), h)
  ) else (
    (hIs h x0 3).bind fun u3 =>
    (M_Findings_outcomeOf F h x0 x4).bind fun q4 =>
    if q4.1 = x1 then (
      if x3 = x2 then (
        some (x4, q4.2)
      ) else (
        M_Findings_rankedAs_35 F r5 q4.2 x0 x1 x2 (x3 + 1) x4
      )
    ) else (
      M_Findings_rankedAs_35 F r5 q4.2 x0 x1 x2 x3 x4
    )
  )
def M_Findings_rankedAs_5 (F : Nat) : Nat → hH → Nat → Int32 → Int32 → Int32 → Int32 → Option (Int32 × hH)
  | 0 => fun _ _ _ _ _ _ => none
  | z + 1 => B_Findings_rankedAs_5 F (M_Findings_rankedAs_5 F z)
def M_Findings_rankedAs (F : Nat) (h : hH) (x0 : Nat) (x1 : Int32) (x2 : Int32) : Option (Int32 × hH) :=
  M_Findings_rankedAs_5 F F h x0 x1 x2 0 0
def M_Findings_answer (F : Nat) (h : hH) (x0 : Nat) : Option (Int32 × hH) :=
  (hIs h x0 3).bind fun u1 =>
  (M_Findings_rankedAs F h x0 1 0).bind fun q2 =>
  if q2.1 = (-1) then (
    (hIs q2.2 x0 3).bind fun u4 =>
    (M_Findings_rankedAs F q2.2 x0 2 0).bind fun q5 =>
    if q5.1 = (-1) then (
      some (0, q5.2)
    ) else (
      some ((-1), q5.2)
    )
  ) else (
    some ((1 + q2.1), q2.2)
  )
abbrev rm_Findings_init : Room := { frames := 1, cells := 4, slots := 48, locals := 12 }
set_option maxHeartbeats 4000000 in
set_option maxRecDepth 100000 in
theorem c_Findings_init (l : Launch) (D : va_G) (K : (Nat → Nat) × (Nat → Nat)) (F : Nat) {h : hH} {x0 : Nat} {q : hH} (hM : M_Findings_init F h x0 = some q) : Met l y_Findings_init (.code y_Findings_init prog_5_method_1_code 1 none :: T0) rm_Findings_init (hPc hG D cls0 K [.ref x0] h) (hQ D cls0 h none q) 4 48 (hF h) := by
  refine J_met (lv := [(0, .ref x0)]) (by decide) (Nat.le_of_ble_eq_true rfl) rfl ?_
  intro p e s m below meth c X hr hlk hnm
  have Y : HX p s m _ meth c prog_5_method_1_code 1 "LicenceTexts$Findings" D K "<init>" none h := ⟨X, hr, hlk, hnm⟩
  unfold M_Findings_init at hM
  refine J_aload_n (pc := 0) X 0 d_Findings_init_0 rfl ?_
  refine J_objInit (pc := 1) X k_16 k_1 k_2 d_Findings_init_1 (Nat.le_of_ble_eq_true rfl) (Nat.le_of_ble_eq_true rfl) ?_
  refine J_aload_n (pc := 4) X 0 d_Findings_init_4 rfl ?_
  refine J_bipush (pc := 5) (v := (12)) X d_Findings_init_5 (by decide) ?_
  refine J_newa (pc := 7) (ty := .int) (N := 12) (a0 := (12, .inl (fun _ => 0))) X rfl k_17 d_Findings_init_7 (fun _ => rfl) (fun _ _ hq => hq) (by decide) (by decide) (by decide) (Nat.le_of_ble_eq_true rfl) (Nat.le_of_ble_eq_true rfl) ?_
  obtain ⟨h1, eh1, hM⟩ := hb_some hM
  rw [Option.some.inj eh1]
  obtain ⟨h2, eh2, hM⟩ := hb_some hM
  refine J_putF (pc := 9) X hc_Findings in_Findings t_Findings tk_Findings nk_Findings 0 k_18 (by decide) rfl rfl rfl hnm d_Findings_init_9 rfl rfl rfl eh2 ?_
  refine J_aload_n (pc := 12) X 0 d_Findings_init_12 rfl ?_
  refine J_bipush (pc := 13) (v := (12)) X d_Findings_init_13 (by decide) ?_
  refine J_newa (pc := 15) (ty := .int) (N := 12) (a0 := (12, .inl (fun _ => 0))) X rfl k_17 d_Findings_init_15 (fun _ => rfl) (fun _ _ hq => hq) (by decide) (by decide) (by decide) (Nat.le_of_ble_eq_true rfl) (Nat.le_of_ble_eq_true rfl) ?_
  obtain ⟨h3, eh3, hM⟩ := hb_some hM
  rw [Option.some.inj eh3]
  obtain ⟨h4, eh4, hM⟩ := hb_some hM
  refine J_putF (pc := 17) X hc_Findings in_Findings t_Findings tk_Findings nk_Findings 1 k_19 (by decide) rfl rfl rfl hnm d_Findings_init_17 rfl rfl rfl eh4 ?_
  refine J_aload_n (pc := 20) X 0 d_Findings_init_20 rfl ?_
  refine J_bipush (pc := 21) (v := (12)) X d_Findings_init_21 (by decide) ?_
  refine J_newa (pc := 23) (ty := .int) (N := 12) (a0 := (12, .inl (fun _ => 0))) X rfl k_17 d_Findings_init_23 (fun _ => rfl) (fun _ _ hq => hq) (by decide) (by decide) (by decide) (Nat.le_of_ble_eq_true rfl) (Nat.le_of_ble_eq_true rfl) ?_
  obtain ⟨h5, eh5, hM⟩ := hb_some hM
  rw [Option.some.inj eh5]
  obtain ⟨h6, eh6, hM⟩ := hb_some hM
  refine J_putF (pc := 25) X hc_Findings in_Findings t_Findings tk_Findings nk_Findings 2 k_20 (by decide) rfl rfl rfl hnm d_Findings_init_25 rfl rfl rfl eh6 ?_
  refine J_aload_n (pc := 28) X 0 d_Findings_init_28 rfl ?_
  refine J_bipush (pc := 29) (v := (12)) X d_Findings_init_29 (by decide) ?_
  refine J_newa (pc := 31) (ty := .int) (N := 12) (a0 := (12, .inl (fun _ => 0))) X rfl k_17 d_Findings_init_31 (fun _ => rfl) (fun _ _ hq => hq) (by decide) (by decide) (by decide) (Nat.le_of_ble_eq_true rfl) (Nat.le_of_ble_eq_true rfl) ?_
  obtain ⟨h7, eh7, hM⟩ := hb_some hM
  rw [Option.some.inj eh7]
  obtain ⟨h8, eh8, hM⟩ := hb_some hM
  refine J_putF (pc := 33) X hc_Findings in_Findings t_Findings tk_Findings nk_Findings 3 k_21 (by decide) rfl rfl rfl hnm d_Findings_init_33 rfl rfl rfl eh8 ?_
  refine J_aload_n (pc := 36) X 0 d_Findings_init_36 rfl ?_
  refine J_iconst (pc := 37) (v := (0)) X d_Findings_init_37 (by decide) ?_
  obtain ⟨h9, eh9, hM⟩ := hb_some hM
  refine J_put (pc := 38) X hc_Findings in_Findings t_Findings tk_Findings nk_Findings 4 k_22 (by decide) rfl rfl d_Findings_init_38 rfl rfl rfl eh9 ?_
  obtain rfl := Option.some.inj hM
  exact J_vret (pc := 41) X hr hlk (Nat.le_of_ble_eq_true rfl) (Nat.le_of_ble_eq_true rfl) d_Findings_init_41
abbrev rm_Findings_clear : Room := { frames := 0, cells := 0, slots := 0, locals := 0 }
set_option maxHeartbeats 4000000 in
set_option maxRecDepth 100000 in
theorem c_Findings_clear (l : Launch) (D : va_G) (K : (Nat → Nat) × (Nat → Nat)) (F : Nat) {h : hH} {x0 : Nat} {q : hH} (hM : M_Findings_clear F h x0 = some q) : Met l y_Findings_clear (.code y_Findings_clear prog_5_method_2_code 1 none :: T0) rm_Findings_clear (hPc hG D cls0 K [.ref x0] h) (hQ D cls0 h none q) 0 0 (hF h) := by
  refine J_met (lv := [(0, .ref x0)]) (by decide) (Nat.le_of_ble_eq_true rfl) rfl ?_
  intro p e s m below meth c X hr hlk hnm
  have Y : HX p s m _ meth c prog_5_method_2_code 1 "LicenceTexts$Findings" D K "clear" none h := ⟨X, hr, hlk, hnm⟩
  unfold M_Findings_clear at hM
  refine J_aload_n (pc := 0) X 0 d_Findings_clear_0 rfl ?_
  refine J_iconst (pc := 1) (v := (0)) X d_Findings_clear_1 (by decide) ?_
  obtain ⟨h1, eh1, hM⟩ := hb_some hM
  refine J_put (pc := 2) X hc_Findings in_Findings t_Findings tk_Findings nk_Findings 4 k_22 (by decide) rfl rfl d_Findings_clear_2 rfl rfl rfl eh1 ?_
  obtain rfl := Option.some.inj hM
  exact J_vret (pc := 5) X hr hlk (Nat.le_of_ble_eq_true rfl) (Nat.le_of_ble_eq_true rfl) d_Findings_clear_5
abbrev rm_Findings_add : Room := { frames := 0, cells := 0, slots := 0, locals := 0 }
set_option maxHeartbeats 4000000 in
set_option maxRecDepth 100000 in
theorem c_Findings_add (l : Launch) (D : va_G) (K : (Nat → Nat) × (Nat → Nat)) (F : Nat) {h : hH} {x0 : Nat} {x1 : Int32} {x2 : Int32} {x3 : Int32} {x4 : Int32} {q : hH} (hM : M_Findings_add F h x0 x1 x2 x3 x4 = some q) : Met l y_Findings_add (.code y_Findings_add prog_5_method_3_code 5 none :: T0) rm_Findings_add (hPc hG D cls0 K [.ref x0, .int x1, .int x2, .int x3, .int x4] h) (hQ D cls0 h none q) 0 0 (hF h) := by
  refine J_met (lv := [(0, .ref x0), (1, .int x1), (2, .int x2), (3, .int x3), (4, .int x4)]) (by decide) (Nat.le_of_ble_eq_true rfl) rfl ?_
  intro p e s m below meth c X hr hlk hnm
  have Y : HX p s m _ meth c prog_5_method_3_code 5 "LicenceTexts$Findings" D K "add" none h := ⟨X, hr, hlk, hnm⟩
  unfold M_Findings_add at hM
  refine J_aload_n (pc := 0) X 0 d_Findings_add_0 rfl ?_
  obtain ⟨v1, ev1, hM⟩ := hb_some hM
  refine J_getI (pc := 1) X hc_Findings in_Findings 4 k_22 (by decide) rfl d_Findings_add_1 rfl ev1 ?_
  refine J_if_lt (pc := 4) (tgt := 67) X d_Findings_add_4 (by decide) (fun c2 => ?_) (fun c2 => ?_)
  · have hM := hif_t hM c2
    obtain rfl := Option.some.inj hM
    exact J_vret (pc := 67) X hr hlk (Nat.le_of_ble_eq_true rfl) (Nat.le_of_ble_eq_true rfl) d_Findings_add_67
  · have hM := hif_f hM c2
    refine J_aload_n (pc := 7) X 0 d_Findings_add_7 rfl ?_
    obtain ⟨v3, ev3, hM⟩ := hb_some hM
    refine J_getI (pc := 8) X hc_Findings in_Findings 4 k_22 (by decide) rfl d_Findings_add_8 rfl ev3 ?_
    refine J_bipush (pc := 11) (v := (12)) X d_Findings_add_11 (by decide) ?_
    refine J_icmp_ge (pc := 13) (tgt := 67) X d_Findings_add_13 (by decide) (fun c4 => ?_) (fun c4 => ?_)
    · have hM := hif_t hM c4
      obtain rfl := Option.some.inj hM
      exact J_vret (pc := 67) X hr hlk (Nat.le_of_ble_eq_true rfl) (Nat.le_of_ble_eq_true rfl) d_Findings_add_67
    · have hM := hif_f hM c4
      refine J_aload_n (pc := 16) X 0 d_Findings_add_16 rfl ?_
      obtain ⟨v5, ev5, hM⟩ := hb_some hM
      refine J_getA (pc := 17) X hc_Findings in_Findings 0 k_18 (by decide) rfl d_Findings_add_17 rfl ev5 ?_
      refine J_aload_n (pc := 20) X 0 d_Findings_add_20 rfl ?_
      obtain ⟨v6, ev6, hM⟩ := hb_some hM
      refine J_getI (pc := 21) X hc_Findings in_Findings 4 k_22 (by decide) rfl d_Findings_add_21 rfl ev6 ?_
      refine J_iload_n (pc := 24) X 1 d_Findings_add_24 rfl ?_
      obtain ⟨h7, eh7, hM⟩ := hb_some hM
      refine J_iast (pc := 25) X d_Findings_add_25 rfl eh7 ?_
      refine J_aload_n (pc := 26) X 0 d_Findings_add_26 rfl ?_
      obtain ⟨v8, ev8, hM⟩ := hb_some hM
      refine J_getA (pc := 27) X hc_Findings in_Findings 1 k_19 (by decide) rfl d_Findings_add_27 rfl ev8 ?_
      refine J_aload_n (pc := 30) X 0 d_Findings_add_30 rfl ?_
      obtain ⟨v9, ev9, hM⟩ := hb_some hM
      refine J_getI (pc := 31) X hc_Findings in_Findings 4 k_22 (by decide) rfl d_Findings_add_31 rfl ev9 ?_
      refine J_iload_n (pc := 34) X 2 d_Findings_add_34 rfl ?_
      obtain ⟨h10, eh10, hM⟩ := hb_some hM
      refine J_iast (pc := 35) X d_Findings_add_35 rfl eh10 ?_
      refine J_aload_n (pc := 36) X 0 d_Findings_add_36 rfl ?_
      obtain ⟨v11, ev11, hM⟩ := hb_some hM
      refine J_getA (pc := 37) X hc_Findings in_Findings 2 k_20 (by decide) rfl d_Findings_add_37 rfl ev11 ?_
      refine J_aload_n (pc := 40) X 0 d_Findings_add_40 rfl ?_
      obtain ⟨v12, ev12, hM⟩ := hb_some hM
      refine J_getI (pc := 41) X hc_Findings in_Findings 4 k_22 (by decide) rfl d_Findings_add_41 rfl ev12 ?_
      refine J_iload_n (pc := 44) X 3 d_Findings_add_44 rfl ?_
      obtain ⟨h13, eh13, hM⟩ := hb_some hM
      refine J_iast (pc := 45) X d_Findings_add_45 rfl eh13 ?_
      refine J_aload_n (pc := 46) X 0 d_Findings_add_46 rfl ?_
      obtain ⟨v14, ev14, hM⟩ := hb_some hM
      refine J_getA (pc := 47) X hc_Findings in_Findings 3 k_21 (by decide) rfl d_Findings_add_47 rfl ev14 ?_
      refine J_aload_n (pc := 50) X 0 d_Findings_add_50 rfl ?_
      obtain ⟨v15, ev15, hM⟩ := hb_some hM
      refine J_getI (pc := 51) X hc_Findings in_Findings 4 k_22 (by decide) rfl d_Findings_add_51 rfl ev15 ?_
      refine J_iload (pc := 54) X 4 d_Findings_add_54 rfl ?_
      obtain ⟨h16, eh16, hM⟩ := hb_some hM
      refine J_iast (pc := 56) X d_Findings_add_56 rfl eh16 ?_
      refine J_aload_n (pc := 57) X 0 d_Findings_add_57 rfl ?_
      refine J_dup (pc := 58) X d_Findings_add_58 rfl ?_
      obtain ⟨v17, ev17, hM⟩ := hb_some hM
      refine J_getI (pc := 59) X hc_Findings in_Findings 4 k_22 (by decide) rfl d_Findings_add_59 rfl ev17 ?_
      refine J_iconst (pc := 62) (v := (1)) X d_Findings_add_62 (by decide) ?_
      refine J_iadd (pc := 63) X d_Findings_add_63 ?_
      obtain ⟨h18, eh18, hM⟩ := hb_some hM
      refine J_put (pc := 64) X hc_Findings in_Findings t_Findings tk_Findings nk_Findings 4 k_22 (by decide) rfl rfl d_Findings_add_64 rfl rfl rfl eh18 ?_
      obtain rfl := Option.some.inj hM
      exact J_vret (pc := 67) X hr hlk (Nat.le_of_ble_eq_true rfl) (Nat.le_of_ble_eq_true rfl) d_Findings_add_67
abbrev rm_Findings_has : Room := { frames := 0, cells := 0, slots := 0, locals := 0 }
set_option maxHeartbeats 4000000 in
set_option maxRecDepth 100000 in
theorem c_Findings_has (l : Launch) (D : va_G) (K : (Nat → Nat) × (Nat → Nat)) (F : Nat) {h : hH} {x0 : Nat} {x1 : Int32} {q : (Int32 × hH)} (hM : M_Findings_has F h x0 x1 = some q) : Met l y_Findings_has (.code y_Findings_has prog_5_method_6_code 2 (some .boolean) :: T0) rm_Findings_has (hPc hG D cls0 K [.ref x0, .int x1] h) (hQ D cls0 h (some (.int q.1)) q.2) 0 0 (hF h) := by
  refine J_met (lv := [(0, .ref x0), (1, .int x1)]) (by decide) (Nat.le_of_ble_eq_true rfl) rfl ?_
  intro p e s m below meth c X hr hlk hnm
  have Y : HX p s m _ meth c prog_5_method_6_code 2 "LicenceTexts$Findings" D K "has" (some .boolean) h := ⟨X, hr, hlk, hnm⟩
  unfold M_Findings_has at hM
  refine J_iload_n (pc := 0) X 1 d_Findings_has_0 rfl ?_
  refine J_if_lt (pc := 1) (tgt := 22) X d_Findings_has_1 (by decide) (fun c1 => ?_) (fun c1 => ?_)
  · have hM := hif_t hM c1
    refine J_iconst (pc := 22) (v := (0)) X d_Findings_has_22 (by decide) ?_
    obtain rfl := Option.some.inj hM
    exact J_zret (pc := 23) X hr hz0 hlk (Nat.le_of_ble_eq_true rfl) (Nat.le_of_ble_eq_true rfl) d_Findings_has_23
  · have hM := hif_f hM c1
    refine J_iload_n (pc := 4) X 1 d_Findings_has_4 rfl ?_
    refine J_aload_n (pc := 5) X 0 d_Findings_has_5 rfl ?_
    obtain ⟨v2, ev2, hM⟩ := hb_some hM
    refine J_getI (pc := 6) X hc_Findings in_Findings 4 k_22 (by decide) rfl d_Findings_has_6 rfl ev2 ?_
    refine J_icmp_ge (pc := 9) (tgt := 22) X d_Findings_has_9 (by decide) (fun c3 => ?_) (fun c3 => ?_)
    · have hM := hif_t hM c3
      refine J_iconst (pc := 22) (v := (0)) X d_Findings_has_22 (by decide) ?_
      obtain rfl := Option.some.inj hM
      exact J_zret (pc := 23) X hr hz0 hlk (Nat.le_of_ble_eq_true rfl) (Nat.le_of_ble_eq_true rfl) d_Findings_has_23
    · have hM := hif_f hM c3
      refine J_iload_n (pc := 12) X 1 d_Findings_has_12 rfl ?_
      refine J_bipush (pc := 13) (v := (12)) X d_Findings_has_13 (by decide) ?_
      refine J_icmp_ge (pc := 15) (tgt := 22) X d_Findings_has_15 (by decide) (fun c4 => ?_) (fun c4 => ?_)
      · have hM := hif_t hM c4
        refine J_iconst (pc := 22) (v := (0)) X d_Findings_has_22 (by decide) ?_
        obtain rfl := Option.some.inj hM
        exact J_zret (pc := 23) X hr hz0 hlk (Nat.le_of_ble_eq_true rfl) (Nat.le_of_ble_eq_true rfl) d_Findings_has_23
      · have hM := hif_f hM c4
        refine J_iconst (pc := 18) (v := (1)) X d_Findings_has_18 (by decide) ?_
        refine J_goto (pc := 19) (tgt := 23) X d_Findings_has_19 (by decide) ?_
        obtain rfl := Option.some.inj hM
        exact J_zret (pc := 23) X hr hz1 hlk (Nat.le_of_ble_eq_true rfl) (Nat.le_of_ble_eq_true rfl) d_Findings_has_23
abbrev rm_Findings_outcomeOf : Room := { frames := 1, cells := 0, slots := 0, locals := 21 }
set_option maxHeartbeats 4000000 in
set_option maxRecDepth 100000 in
theorem c_Findings_outcomeOf (l : Launch) (D : va_G) (K : (Nat → Nat) × (Nat → Nat)) (F : Nat) {h : hH} {x0 : Nat} {x1 : Int32} {q : (Int32 × hH)} (hM : M_Findings_outcomeOf F h x0 x1 = some q) : Met l y_Findings_outcomeOf (.code y_Findings_outcomeOf prog_5_method_7_code 2 (some .int) :: T0) rm_Findings_outcomeOf (hPc hG D cls0 K [.ref x0, .int x1] h) (hQ D cls0 h (some (.int q.1)) q.2) 0 0 (hF h) := by
  refine J_met (lv := [(0, .ref x0), (1, .int x1)]) (by decide) (Nat.le_of_ble_eq_true rfl) rfl ?_
  intro p e s m below meth c X hr hlk hnm
  have Y : HX p s m _ meth c prog_5_method_7_code 2 "LicenceTexts$Findings" D K "outcomeOf" (some .int) h := ⟨X, hr, hlk, hnm⟩
  unfold M_Findings_outcomeOf at hM
  refine J_aload_n (pc := 0) X 0 d_Findings_outcomeOf_0 rfl ?_
  refine J_iload_n (pc := 1) X 1 d_Findings_outcomeOf_1 rfl ?_
  obtain ⟨u1, eu1, hM⟩ := hb_some hM
  obtain ⟨q2, eq2, hM⟩ := hb_some hM
  refine J_callV (pc := 2) (As := [.int x1]) (rest := []) (o := (some (.int q2.1))) (h2 := q2.2) X rfl hc_Findings eu1 (c_Findings_has l D K F eq2) (cwV_of (nA := 1) X.fix k_23 k_26 k_27 k_25 k_24 ⟨rfl, rfl, rfl⟩ (by decide +kernel) ⟨Nat.le_of_ble_eq_true rfl, Nat.le_of_ble_eq_true rfl⟩) d_Findings_outcomeOf_2 rfl rfl (Nat.le_of_ble_eq_true rfl) (Nat.le_of_ble_eq_true rfl) (Nat.le_of_ble_eq_true rfl) ?_
  refine J_if_eq (pc := 5) (tgt := 17) X d_Findings_outcomeOf_5 (by decide) (fun c3 => ?_) (fun c3 => ?_)
  · have hM := hif_t hM c3
    refine J_iconst (pc := 17) (v := (-1)) X d_Findings_outcomeOf_17 (by decide) ?_
    obtain rfl := Option.some.inj hM
    exact J_iret (pc := 18) X hr hlk (Nat.le_of_ble_eq_true rfl) (Nat.le_of_ble_eq_true rfl) d_Findings_outcomeOf_18
  · have hM := hif_f hM c3
    refine J_aload_n (pc := 8) X 0 d_Findings_outcomeOf_8 rfl ?_
    obtain ⟨v4, ev4, hM⟩ := hb_some hM
    refine J_getA (pc := 9) X hc_Findings in_Findings 0 k_18 (by decide) rfl d_Findings_outcomeOf_9 rfl ev4 ?_
    refine J_iload_n (pc := 12) X 1 d_Findings_outcomeOf_12 rfl ?_
    obtain ⟨v5, ev5, hM⟩ := hb_some hM
    refine J_iald (pc := 13) X d_Findings_outcomeOf_13 rfl ev5 ?_
    refine J_goto (pc := 14) (tgt := 18) X d_Findings_outcomeOf_14 (by decide) ?_
    obtain rfl := Option.some.inj hM
    exact J_iret (pc := 18) X hr hlk (Nat.le_of_ble_eq_true rfl) (Nat.le_of_ble_eq_true rfl) d_Findings_outcomeOf_18
abbrev rm_Findings_reasonOf : Room := { frames := 1, cells := 0, slots := 0, locals := 21 }
set_option maxHeartbeats 4000000 in
set_option maxRecDepth 100000 in
theorem c_Findings_reasonOf (l : Launch) (D : va_G) (K : (Nat → Nat) × (Nat → Nat)) (F : Nat) {h : hH} {x0 : Nat} {x1 : Int32} {q : (Int32 × hH)} (hM : M_Findings_reasonOf F h x0 x1 = some q) : Met l y_Findings_reasonOf (.code y_Findings_reasonOf prog_5_method_8_code 2 (some .int) :: T0) rm_Findings_reasonOf (hPc hG D cls0 K [.ref x0, .int x1] h) (hQ D cls0 h (some (.int q.1)) q.2) 0 0 (hF h) := by
  refine J_met (lv := [(0, .ref x0), (1, .int x1)]) (by decide) (Nat.le_of_ble_eq_true rfl) rfl ?_
  intro p e s m below meth c X hr hlk hnm
  have Y : HX p s m _ meth c prog_5_method_8_code 2 "LicenceTexts$Findings" D K "reasonOf" (some .int) h := ⟨X, hr, hlk, hnm⟩
  unfold M_Findings_reasonOf at hM
  refine J_aload_n (pc := 0) X 0 d_Findings_reasonOf_0 rfl ?_
  refine J_iload_n (pc := 1) X 1 d_Findings_reasonOf_1 rfl ?_
  obtain ⟨u1, eu1, hM⟩ := hb_some hM
  obtain ⟨q2, eq2, hM⟩ := hb_some hM
  refine J_callV (pc := 2) (As := [.int x1]) (rest := []) (o := (some (.int q2.1))) (h2 := q2.2) X rfl hc_Findings eu1 (c_Findings_has l D K F eq2) (cwV_of (nA := 1) X.fix k_23 k_26 k_27 k_25 k_24 ⟨rfl, rfl, rfl⟩ (by decide +kernel) ⟨Nat.le_of_ble_eq_true rfl, Nat.le_of_ble_eq_true rfl⟩) d_Findings_reasonOf_2 rfl rfl (Nat.le_of_ble_eq_true rfl) (Nat.le_of_ble_eq_true rfl) (Nat.le_of_ble_eq_true rfl) ?_
  refine J_if_eq (pc := 5) (tgt := 17) X d_Findings_reasonOf_5 (by decide) (fun c3 => ?_) (fun c3 => ?_)
  · have hM := hif_t hM c3
    refine J_iconst (pc := 17) (v := (-1)) X d_Findings_reasonOf_17 (by decide) ?_
    obtain rfl := Option.some.inj hM
    exact J_iret (pc := 18) X hr hlk (Nat.le_of_ble_eq_true rfl) (Nat.le_of_ble_eq_true rfl) d_Findings_reasonOf_18
  · have hM := hif_f hM c3
    refine J_aload_n (pc := 8) X 0 d_Findings_reasonOf_8 rfl ?_
    obtain ⟨v4, ev4, hM⟩ := hb_some hM
    refine J_getA (pc := 9) X hc_Findings in_Findings 1 k_19 (by decide) rfl d_Findings_reasonOf_9 rfl ev4 ?_
    refine J_iload_n (pc := 12) X 1 d_Findings_reasonOf_12 rfl ?_
    obtain ⟨v5, ev5, hM⟩ := hb_some hM
    refine J_iald (pc := 13) X d_Findings_reasonOf_13 rfl ev5 ?_
    refine J_goto (pc := 14) (tgt := 18) X d_Findings_reasonOf_14 (by decide) ?_
    obtain rfl := Option.some.inj hM
    exact J_iret (pc := 18) X hr hlk (Nat.le_of_ble_eq_true rfl) (Nat.le_of_ble_eq_true rfl) d_Findings_reasonOf_18
abbrev rm_Findings_untoldOf : Room := { frames := 1, cells := 0, slots := 0, locals := 21 }
set_option maxHeartbeats 4000000 in
set_option maxRecDepth 100000 in
theorem c_Findings_untoldOf (l : Launch) (D : va_G) (K : (Nat → Nat) × (Nat → Nat)) (F : Nat) {h : hH} {x0 : Nat} {x1 : Int32} {q : (Int32 × hH)} (hM : M_Findings_untoldOf F h x0 x1 = some q) : Met l y_Findings_untoldOf (.code y_Findings_untoldOf prog_5_method_9_code 2 (some .int) :: T0) rm_Findings_untoldOf (hPc hG D cls0 K [.ref x0, .int x1] h) (hQ D cls0 h (some (.int q.1)) q.2) 0 0 (hF h) := by
  refine J_met (lv := [(0, .ref x0), (1, .int x1)]) (by decide) (Nat.le_of_ble_eq_true rfl) rfl ?_
  intro p e s m below meth c X hr hlk hnm
  have Y : HX p s m _ meth c prog_5_method_9_code 2 "LicenceTexts$Findings" D K "untoldOf" (some .int) h := ⟨X, hr, hlk, hnm⟩
  unfold M_Findings_untoldOf at hM
  refine J_aload_n (pc := 0) X 0 d_Findings_untoldOf_0 rfl ?_
  refine J_iload_n (pc := 1) X 1 d_Findings_untoldOf_1 rfl ?_
  obtain ⟨u1, eu1, hM⟩ := hb_some hM
  obtain ⟨q2, eq2, hM⟩ := hb_some hM
  refine J_callV (pc := 2) (As := [.int x1]) (rest := []) (o := (some (.int q2.1))) (h2 := q2.2) X rfl hc_Findings eu1 (c_Findings_has l D K F eq2) (cwV_of (nA := 1) X.fix k_23 k_26 k_27 k_25 k_24 ⟨rfl, rfl, rfl⟩ (by decide +kernel) ⟨Nat.le_of_ble_eq_true rfl, Nat.le_of_ble_eq_true rfl⟩) d_Findings_untoldOf_2 rfl rfl (Nat.le_of_ble_eq_true rfl) (Nat.le_of_ble_eq_true rfl) (Nat.le_of_ble_eq_true rfl) ?_
  refine J_if_eq (pc := 5) (tgt := 17) X d_Findings_untoldOf_5 (by decide) (fun c3 => ?_) (fun c3 => ?_)
  · have hM := hif_t hM c3
    refine J_iconst (pc := 17) (v := (-1)) X d_Findings_untoldOf_17 (by decide) ?_
    obtain rfl := Option.some.inj hM
    exact J_iret (pc := 18) X hr hlk (Nat.le_of_ble_eq_true rfl) (Nat.le_of_ble_eq_true rfl) d_Findings_untoldOf_18
  · have hM := hif_f hM c3
    refine J_aload_n (pc := 8) X 0 d_Findings_untoldOf_8 rfl ?_
    obtain ⟨v4, ev4, hM⟩ := hb_some hM
    refine J_getA (pc := 9) X hc_Findings in_Findings 2 k_20 (by decide) rfl d_Findings_untoldOf_9 rfl ev4 ?_
    refine J_iload_n (pc := 12) X 1 d_Findings_untoldOf_12 rfl ?_
    obtain ⟨v5, ev5, hM⟩ := hb_some hM
    refine J_iald (pc := 13) X d_Findings_untoldOf_13 rfl ev5 ?_
    refine J_goto (pc := 14) (tgt := 18) X d_Findings_untoldOf_14 (by decide) ?_
    obtain rfl := Option.some.inj hM
    exact J_iret (pc := 18) X hr hlk (Nat.le_of_ble_eq_true rfl) (Nat.le_of_ble_eq_true rfl) d_Findings_untoldOf_18
abbrev rm_Findings_firstWordOf : Room := { frames := 1, cells := 0, slots := 0, locals := 21 }
set_option maxHeartbeats 4000000 in
set_option maxRecDepth 100000 in
theorem c_Findings_firstWordOf (l : Launch) (D : va_G) (K : (Nat → Nat) × (Nat → Nat)) (F : Nat) {h : hH} {x0 : Nat} {x1 : Int32} {q : (Int32 × hH)} (hM : M_Findings_firstWordOf F h x0 x1 = some q) : Met l y_Findings_firstWordOf (.code y_Findings_firstWordOf prog_5_method_10_code 2 (some .int) :: T0) rm_Findings_firstWordOf (hPc hG D cls0 K [.ref x0, .int x1] h) (hQ D cls0 h (some (.int q.1)) q.2) 0 0 (hF h) := by
  refine J_met (lv := [(0, .ref x0), (1, .int x1)]) (by decide) (Nat.le_of_ble_eq_true rfl) rfl ?_
  intro p e s m below meth c X hr hlk hnm
  have Y : HX p s m _ meth c prog_5_method_10_code 2 "LicenceTexts$Findings" D K "firstWordOf" (some .int) h := ⟨X, hr, hlk, hnm⟩
  unfold M_Findings_firstWordOf at hM
  refine J_aload_n (pc := 0) X 0 d_Findings_firstWordOf_0 rfl ?_
  refine J_iload_n (pc := 1) X 1 d_Findings_firstWordOf_1 rfl ?_
  obtain ⟨u1, eu1, hM⟩ := hb_some hM
  obtain ⟨q2, eq2, hM⟩ := hb_some hM
  refine J_callV (pc := 2) (As := [.int x1]) (rest := []) (o := (some (.int q2.1))) (h2 := q2.2) X rfl hc_Findings eu1 (c_Findings_has l D K F eq2) (cwV_of (nA := 1) X.fix k_23 k_26 k_27 k_25 k_24 ⟨rfl, rfl, rfl⟩ (by decide +kernel) ⟨Nat.le_of_ble_eq_true rfl, Nat.le_of_ble_eq_true rfl⟩) d_Findings_firstWordOf_2 rfl rfl (Nat.le_of_ble_eq_true rfl) (Nat.le_of_ble_eq_true rfl) (Nat.le_of_ble_eq_true rfl) ?_
  refine J_if_eq (pc := 5) (tgt := 17) X d_Findings_firstWordOf_5 (by decide) (fun c3 => ?_) (fun c3 => ?_)
  · have hM := hif_t hM c3
    refine J_iconst (pc := 17) (v := (-1)) X d_Findings_firstWordOf_17 (by decide) ?_
    obtain rfl := Option.some.inj hM
    exact J_iret (pc := 18) X hr hlk (Nat.le_of_ble_eq_true rfl) (Nat.le_of_ble_eq_true rfl) d_Findings_firstWordOf_18
  · have hM := hif_f hM c3
    refine J_aload_n (pc := 8) X 0 d_Findings_firstWordOf_8 rfl ?_
    obtain ⟨v4, ev4, hM⟩ := hb_some hM
    refine J_getA (pc := 9) X hc_Findings in_Findings 3 k_21 (by decide) rfl d_Findings_firstWordOf_9 rfl ev4 ?_
    refine J_iload_n (pc := 12) X 1 d_Findings_firstWordOf_12 rfl ?_
    obtain ⟨v5, ev5, hM⟩ := hb_some hM
    refine J_iald (pc := 13) X d_Findings_firstWordOf_13 rfl ev5 ?_
    refine J_goto (pc := 14) (tgt := 18) X d_Findings_firstWordOf_14 (by decide) ?_
    obtain rfl := Option.some.inj hM
    exact J_iret (pc := 18) X hr hlk (Nat.le_of_ble_eq_true rfl) (Nat.le_of_ble_eq_true rfl) d_Findings_firstWordOf_18
abbrev rm_Findings_rankedAs : Room := { frames := 2, cells := 0, slots := 0, locals := 42 }
set_option maxHeartbeats 4000000 in
set_option maxRecDepth 100000 in
theorem w_Findings_rankedAs_35 {p : Program} {l : Launch} {e : Env} {s : State} {m : MethodId} {args : Array Value} {below : List Frame} {meth : Method} {c : Code} {D : va_G} {K : (Nat → Nat) × (Nat → Nat)} {h0 : hH} (Y : HX p s m args meth c prog_5_method_5_code 5 "LicenceTexts$Findings" D K "rankedAs" (some .int) h0) {F : Nat} {r5 : hH → Nat → Int32 → Int32 → Int32 → Int32 → Option (Int32 × hH)} (R5 : ∀ (h : hH) (x0 : Nat) (x1 : Int32) (x2 : Int32) (x3 : Int32) (x4 : Int32) (q : (Int32 × hH)), r5 h x0 x1 x2 x3 x4 = some q → J p l e rm_Findings_rankedAs s m args below meth c 5 D cls0 (hF h0) h [(0, .ref x0), (1, .int x1), (2, .int x2), (3, .int x3), (4, .int x4)] 0 0 (MQ below (hQ D cls0 h0 (some (.int q.1)) q.2) args s 0 0 (hF h0)) 5 []) (h : hH) (x0 : Nat) (x1 : Int32) (x2 : Int32) (x3 : Int32) (x4 : Int32) (q : (Int32 × hH)) (hM : M_Findings_rankedAs_35 F r5 h x0 x1 x2 x3 x4 = some q) : J p l e rm_Findings_rankedAs s m args below meth c 5 D cls0 (hF h0) h [(0, .ref x0), (1, .int x1), (2, .int x2), (3, .int x3), (4, .int x4)] 0 0 (MQ below (hQ D cls0 h0 (some (.int q.1)) q.2) args s 0 0 (hF h0)) 35 [] := by
  obtain ⟨X, hr, hlk, hnm⟩ := id Y
  unfold M_Findings_rankedAs_35 at hM
  refine J_iinc (pc := 35) (v := x4 + 1) (lv' := [(4, .int (x4 + 1)), (0, .ref x0), (1, .int x1), (2, .int x2), (3, .int x3)]) X 4 d_Findings_rankedAs_35 rfl rfl (by decide) rfl ?_
  refine J_goto (pc := 38) (tgt := 5) X d_Findings_rankedAs_38 (by decide) ?_
  refine J_sub [1, 2, 3, 4, 0] rfl ?_
  exact R5 _ _ _ _ _ _ _ hM
set_option maxHeartbeats 4000000 in
set_option maxRecDepth 100000 in
theorem b_Findings_rankedAs_5 {p : Program} {l : Launch} {e : Env} {s : State} {m : MethodId} {args : Array Value} {below : List Frame} {meth : Method} {c : Code} {D : va_G} {K : (Nat → Nat) × (Nat → Nat)} {h0 : hH} (Y : HX p s m args meth c prog_5_method_5_code 5 "LicenceTexts$Findings" D K "rankedAs" (some .int) h0) {F : Nat}   {r5 : hH → Nat → Int32 → Int32 → Int32 → Int32 → Option (Int32 × hH)} (R5 : ∀ (h : hH) (x0 : Nat) (x1 : Int32) (x2 : Int32) (x3 : Int32) (x4 : Int32) (q : (Int32 × hH)), r5 h x0 x1 x2 x3 x4 = some q → J p l e rm_Findings_rankedAs s m args below meth c 5 D cls0 (hF h0) h [(0, .ref x0), (1, .int x1), (2, .int x2), (3, .int x3), (4, .int x4)] 0 0 (MQ below (hQ D cls0 h0 (some (.int q.1)) q.2) args s 0 0 (hF h0)) 5 []) : ∀ (h : hH) (x0 : Nat) (x1 : Int32) (x2 : Int32) (x3 : Int32) (x4 : Int32) (q : (Int32 × hH)), B_Findings_rankedAs_5 F r5 h x0 x1 x2 x3 x4 = some q → J p l e rm_Findings_rankedAs s m args below meth c 5 D cls0 (hF h0) h [(0, .ref x0), (1, .int x1), (2, .int x2), (3, .int x3), (4, .int x4)] 0 0 (MQ below (hQ D cls0 h0 (some (.int q.1)) q.2) args s 0 0 (hF h0)) 5 [] := by
  intro h x0 x1 x2 x3 x4 q hM
  obtain ⟨X, hr, hlk, hnm⟩ := id Y
  unfold B_Findings_rankedAs_5 at hM
  refine J_iload (pc := 5) X 4 d_Findings_rankedAs_5 rfl ?_
  refine J_aload_n (pc := 7) X 0 d_Findings_rankedAs_7 rfl ?_
  obtain ⟨v1, ev1, hM⟩ := hb_some hM
  refine J_getI (pc := 8) X hc_Findings in_Findings 4 k_22 (by decide) rfl d_Findings_rankedAs_8 rfl ev1 ?_
  refine J_icmp_ge (pc := 11) (tgt := 41) X d_Findings_rankedAs_11 (by decide) (fun c2 => ?_) (fun c2 => ?_)
  · have hM := hif_t hM c2
    refine J_iconst (pc := 41) (v := (-1)) X d_Findings_rankedAs_41 (by decide) ?_
    obtain rfl := Option.some.inj hM
    exact J_iret (pc := 42) X hr hlk (Nat.le_of_ble_eq_true rfl) (Nat.le_of_ble_eq_true rfl) d_Findings_rankedAs_42
  · have hM := hif_f hM c2
    refine J_aload_n (pc := 14) X 0 d_Findings_rankedAs_14 rfl ?_
    refine J_iload (pc := 15) X 4 d_Findings_rankedAs_15 rfl ?_
    obtain ⟨u3, eu3, hM⟩ := hb_some hM
    obtain ⟨q4, eq4, hM⟩ := hb_some hM
    refine J_callV (pc := 17) (As := [.int x4]) (rest := []) (o := (some (.int q4.1))) (h2 := q4.2) X rfl hc_Findings eu3 (c_Findings_outcomeOf l D K F eq4) (cwV_of (nA := 1) X.fix k_28 k_30 k_31 k_25 k_29 ⟨rfl, rfl, rfl⟩ (by decide +kernel) ⟨Nat.le_of_ble_eq_true rfl, Nat.le_of_ble_eq_true rfl⟩) d_Findings_rankedAs_17 rfl rfl (Nat.le_of_ble_eq_true rfl) (Nat.le_of_ble_eq_true rfl) (Nat.le_of_ble_eq_true rfl) ?_
    refine J_iload_n (pc := 20) X 1 d_Findings_rankedAs_20 rfl ?_
    refine J_icmp_ne (pc := 21) (tgt := 35) X d_Findings_rankedAs_21 (by decide) (fun c5 => ?_) (fun c5 => ?_)
    · have hM := hif_f hM c5
      exact w_Findings_rankedAs_35 Y R5 _ _ _ _ _ _ _ hM
    · have hM := hif_t hM c5
      refine J_iload_n (pc := 24) X 3 d_Findings_rankedAs_24 rfl ?_
      refine J_iload_n (pc := 25) X 2 d_Findings_rankedAs_25 rfl ?_
      refine J_icmp_ne (pc := 26) (tgt := 32) X d_Findings_rankedAs_26 (by decide) (fun c6 => ?_) (fun c6 => ?_)
      · have hM := hif_f hM c6
        refine J_iinc (pc := 32) (v := x3 + 1) (lv' := [(3, .int (x3 + 1)), (0, .ref x0), (1, .int x1), (2, .int x2), (4, .int x4)]) X 3 d_Findings_rankedAs_32 rfl rfl (by decide) rfl ?_
        refine J_sub [1, 2, 3, 0, 4] rfl ?_
        exact w_Findings_rankedAs_35 Y R5 _ _ _ _ _ _ _ hM
      · have hM := hif_t hM c6
        refine J_iload (pc := 29) X 4 d_Findings_rankedAs_29 rfl ?_
        obtain rfl := Option.some.inj hM
        exact J_iret (pc := 31) X hr hlk (Nat.le_of_ble_eq_true rfl) (Nat.le_of_ble_eq_true rfl) d_Findings_rankedAs_31
theorem w_Findings_rankedAs_5 {p : Program} {l : Launch} {e : Env} {s : State} {m : MethodId} {args : Array Value} {below : List Frame} {meth : Method} {c : Code} {D : va_G} {K : (Nat → Nat) × (Nat → Nat)} {h0 : hH} (Y : HX p s m args meth c prog_5_method_5_code 5 "LicenceTexts$Findings" D K "rankedAs" (some .int) h0) {F : Nat} : ∀ z : Nat, ∀ (h : hH) (x0 : Nat) (x1 : Int32) (x2 : Int32) (x3 : Int32) (x4 : Int32) (q : (Int32 × hH)), M_Findings_rankedAs_5 F z h x0 x1 x2 x3 x4 = some q → J p l e rm_Findings_rankedAs s m args below meth c 5 D cls0 (hF h0) h [(0, .ref x0), (1, .int x1), (2, .int x2), (3, .int x3), (4, .int x4)] 0 0 (MQ below (hQ D cls0 h0 (some (.int q.1)) q.2) args s 0 0 (hF h0)) 5 [] := by
  intro z
  induction z with
  | zero => intro h x0 x1 x2 x3 x4 q hM; exact absurd (show (none : Option _) = some q from hM) (fun t => by cases t)
  | succ z ih => exact b_Findings_rankedAs_5 Y ih
set_option maxHeartbeats 4000000 in
set_option maxRecDepth 100000 in
theorem c_Findings_rankedAs (l : Launch) (D : va_G) (K : (Nat → Nat) × (Nat → Nat)) (F : Nat) {h : hH} {x0 : Nat} {x1 : Int32} {x2 : Int32} {q : (Int32 × hH)} (hM : M_Findings_rankedAs F h x0 x1 x2 = some q) : Met l y_Findings_rankedAs (.code y_Findings_rankedAs prog_5_method_5_code 5 (some .int) :: T0) rm_Findings_rankedAs (hPc hG D cls0 K [.ref x0, .int x1, .int x2] h) (hQ D cls0 h (some (.int q.1)) q.2) 0 0 (hF h) := by
  refine J_met (lv := [(0, .ref x0), (1, .int x1), (2, .int x2)]) (by decide) (Nat.le_of_ble_eq_true rfl) rfl ?_
  intro p e s m below meth c X hr hlk hnm
  have Y : HX p s m _ meth c prog_5_method_5_code 5 "LicenceTexts$Findings" D K "rankedAs" (some .int) h := ⟨X, hr, hlk, hnm⟩
  unfold M_Findings_rankedAs at hM
  refine J_iconst (pc := 0) (v := (0)) X d_Findings_rankedAs_0 (by decide) ?_
  refine J_istore_n (pc := 1) (lv' := [(3, .int 0), (0, .ref x0), (1, .int x1), (2, .int x2)]) X d_Findings_rankedAs_1 rfl (by decide) rfl ?_
  refine J_iconst (pc := 2) (v := (0)) X d_Findings_rankedAs_2 (by decide) ?_
  refine J_istore (pc := 3) (lv' := [(4, .int 0), (3, .int 0), (0, .ref x0), (1, .int x1), (2, .int x2)]) X d_Findings_rankedAs_3 (by decide) rfl ?_
  refine J_sub [2, 3, 4, 1, 0] rfl ?_
  exact w_Findings_rankedAs_5 Y F _ _ _ _ _ _ _ hM
abbrev rm_Findings_answer : Room := { frames := 3, cells := 0, slots := 0, locals := 66 }
set_option maxHeartbeats 4000000 in
set_option maxRecDepth 100000 in
theorem c_Findings_answer (l : Launch) (D : va_G) (K : (Nat → Nat) × (Nat → Nat)) (F : Nat) {h : hH} {x0 : Nat} {q : (Int32 × hH)} (hM : M_Findings_answer F h x0 = some q) : Met l y_Findings_answer (.code y_Findings_answer prog_5_method_4_code 2 (some .int) :: T0) rm_Findings_answer (hPc hG D cls0 K [.ref x0] h) (hQ D cls0 h (some (.int q.1)) q.2) 0 0 (hF h) := by
  refine J_met (lv := [(0, .ref x0)]) (by decide) (Nat.le_of_ble_eq_true rfl) rfl ?_
  intro p e s m below meth c X hr hlk hnm
  have Y : HX p s m _ meth c prog_5_method_4_code 2 "LicenceTexts$Findings" D K "answer" (some .int) h := ⟨X, hr, hlk, hnm⟩
  unfold M_Findings_answer at hM
  refine J_aload_n (pc := 0) X 0 d_Findings_answer_0 rfl ?_
  refine J_iconst (pc := 1) (v := (1)) X d_Findings_answer_1 (by decide) ?_
  refine J_iconst (pc := 2) (v := (0)) X d_Findings_answer_2 (by decide) ?_
  obtain ⟨u1, eu1, hM⟩ := hb_some hM
  obtain ⟨q2, eq2, hM⟩ := hb_some hM
  refine J_callV (pc := 3) (As := [.int 1, .int 0]) (rest := []) (o := (some (.int q2.1))) (h2 := q2.2) X rfl hc_Findings eu1 (c_Findings_rankedAs l D K F eq2) (cwV_of (nA := 2) X.fix k_32 k_34 k_35 k_25 k_33 ⟨rfl, rfl, rfl⟩ (by decide +kernel) ⟨Nat.le_of_ble_eq_true rfl, Nat.le_of_ble_eq_true rfl⟩) d_Findings_answer_3 rfl rfl (Nat.le_of_ble_eq_true rfl) (Nat.le_of_ble_eq_true rfl) (Nat.le_of_ble_eq_true rfl) ?_
  refine J_istore_n (pc := 6) (lv' := [(1, .int q2.1), (0, .ref x0)]) X d_Findings_answer_6 rfl (by decide) rfl ?_
  refine J_iload_n (pc := 7) X 0 d_Findings_answer_7 rfl ?_
  refine J_iconst (pc := 8) (v := (-1)) X d_Findings_answer_8 (by decide) ?_
  refine J_icmp_eq (pc := 9) (tgt := 16) X d_Findings_answer_9 (by decide) (fun c3 => ?_) (fun c3 => ?_)
  · have hM := hif_t hM c3
    refine J_aload_n (pc := 16) X 1 d_Findings_answer_16 rfl ?_
    refine J_iconst (pc := 17) (v := (2)) X d_Findings_answer_17 (by decide) ?_
    refine J_iconst (pc := 18) (v := (0)) X d_Findings_answer_18 (by decide) ?_
    obtain ⟨u4, eu4, hM⟩ := hb_some hM
    obtain ⟨q5, eq5, hM⟩ := hb_some hM
    refine J_callV (pc := 19) (As := [.int 2, .int 0]) (rest := []) (o := (some (.int q5.1))) (h2 := q5.2) X rfl hc_Findings eu4 (c_Findings_rankedAs l D K F eq5) (cwV_of (nA := 2) X.fix k_32 k_34 k_35 k_25 k_33 ⟨rfl, rfl, rfl⟩ (by decide +kernel) ⟨Nat.le_of_ble_eq_true rfl, Nat.le_of_ble_eq_true rfl⟩) d_Findings_answer_19 rfl rfl (Nat.le_of_ble_eq_true rfl) (Nat.le_of_ble_eq_true rfl) (Nat.le_of_ble_eq_true rfl) ?_
    refine J_iconst (pc := 22) (v := (-1)) X d_Findings_answer_22 (by decide) ?_
    refine J_icmp_ne (pc := 23) (tgt := 30) X d_Findings_answer_23 (by decide) (fun c6 => ?_) (fun c6 => ?_)
    · have hM := hif_f hM c6
      refine J_iconst (pc := 30) (v := (-1)) X d_Findings_answer_30 (by decide) ?_
      obtain rfl := Option.some.inj hM
      exact J_iret (pc := 31) X hr hlk (Nat.le_of_ble_eq_true rfl) (Nat.le_of_ble_eq_true rfl) d_Findings_answer_31
    · have hM := hif_t hM c6
      refine J_iconst (pc := 26) (v := (0)) X d_Findings_answer_26 (by decide) ?_
      refine J_goto (pc := 27) (tgt := 31) X d_Findings_answer_27 (by decide) ?_
      obtain rfl := Option.some.inj hM
      exact J_iret (pc := 31) X hr hlk (Nat.le_of_ble_eq_true rfl) (Nat.le_of_ble_eq_true rfl) d_Findings_answer_31
  · have hM := hif_f hM c3
    refine J_iconst (pc := 12) (v := (1)) X d_Findings_answer_12 (by decide) ?_
    refine J_iload_n (pc := 13) X 0 d_Findings_answer_13 rfl ?_
    refine J_iadd (pc := 14) X d_Findings_answer_14 ?_
    obtain rfl := Option.some.inj hM
    exact J_iret (pc := 15) X hr hlk (Nat.le_of_ble_eq_true rfl) (Nat.le_of_ble_eq_true rfl) d_Findings_answer_15
end
section
theorem d_Hauls_init_0 : decode prog_6_method_1_code 0 = .ok (.aload_n 0, 1) := by decide +kernel
theorem d_Hauls_init_1 : decode prog_6_method_1_code 1 = .ok (.invokespecial 3, 3) := by decide +kernel
theorem d_Hauls_init_4 : decode prog_6_method_1_code 4 = .ok (.aload_n 0, 1) := by decide +kernel
theorem d_Hauls_init_5 : decode prog_6_method_1_code 5 = .ok (.bipush 80, 2) := by decide +kernel
theorem d_Hauls_init_7 : decode prog_6_method_1_code 7 = .ok (.newarray .long, 2) := by decide +kernel
theorem d_Hauls_init_9 : decode prog_6_method_1_code 9 = .ok (.putfield 11, 3) := by decide +kernel
theorem d_Hauls_init_12 : decode prog_6_method_1_code 12 = .ok (.return_, 1) := by decide +kernel
theorem d_Hauls_has_0 : decode prog_6_method_2_code 0 = .ok (.iload_n 0, 1) := by decide +kernel
theorem d_Hauls_has_1 : decode prog_6_method_2_code 1 = .ok (.ifCond .lt 23, 3) := by decide +kernel
theorem d_Hauls_has_24 : decode prog_6_method_2_code 24 = .ok (.iconst 0, 1) := by decide +kernel
theorem d_Hauls_has_25 : decode prog_6_method_2_code 25 = .ok (.ireturn, 1) := by decide +kernel
theorem d_Hauls_has_4 : decode prog_6_method_2_code 4 = .ok (.iload_n 0, 1) := by decide +kernel
theorem d_Hauls_has_5 : decode prog_6_method_2_code 5 = .ok (.bipush 10, 2) := by decide +kernel
theorem d_Hauls_has_7 : decode prog_6_method_2_code 7 = .ok (.if_icmp .ge 17, 3) := by decide +kernel
theorem d_Hauls_has_10 : decode prog_6_method_2_code 10 = .ok (.iload_n 1, 1) := by decide +kernel
theorem d_Hauls_has_11 : decode prog_6_method_2_code 11 = .ok (.ifCond .lt 13, 3) := by decide +kernel
theorem d_Hauls_has_14 : decode prog_6_method_2_code 14 = .ok (.iload_n 1, 1) := by decide +kernel
theorem d_Hauls_has_15 : decode prog_6_method_2_code 15 = .ok (.bipush 8, 2) := by decide +kernel
theorem d_Hauls_has_17 : decode prog_6_method_2_code 17 = .ok (.if_icmp .ge 7, 3) := by decide +kernel
theorem d_Hauls_has_20 : decode prog_6_method_2_code 20 = .ok (.iconst 1, 1) := by decide +kernel
theorem d_Hauls_has_21 : decode prog_6_method_2_code 21 = .ok (.goto 4, 3) := by decide +kernel
theorem d_Hauls_add_0 : decode prog_6_method_3_code 0 = .ok (.iload_n 1, 1) := by decide +kernel
theorem d_Hauls_add_1 : decode prog_6_method_3_code 1 = .ok (.iload_n 2, 1) := by decide +kernel
theorem d_Hauls_add_2 : decode prog_6_method_3_code 2 = .ok (.invokestatic 15, 3) := by decide +kernel
theorem d_Hauls_add_5 : decode prog_6_method_3_code 5 = .ok (.ifCond .eq 17, 3) := by decide +kernel
theorem d_Hauls_add_22 : decode prog_6_method_3_code 22 = .ok (.iconst 0, 1) := by decide +kernel
theorem d_Hauls_add_23 : decode prog_6_method_3_code 23 = .ok (.ireturn, 1) := by decide +kernel
theorem d_Hauls_add_8 : decode prog_6_method_3_code 8 = .ok (.lload_n 3, 1) := by decide +kernel
theorem d_Hauls_add_9 : decode prog_6_method_3_code 9 = .ok (.lconst 1, 1) := by decide +kernel
theorem d_Hauls_add_10 : decode prog_6_method_3_code 10 = .ok (.lcmp, 1) := by decide +kernel
theorem d_Hauls_add_11 : decode prog_6_method_3_code 11 = .ok (.ifCond .lt 11, 3) := by decide +kernel
theorem d_Hauls_add_14 : decode prog_6_method_3_code 14 = .ok (.lload_n 3, 1) := by decide +kernel
theorem d_Hauls_add_15 : decode prog_6_method_3_code 15 = .ok (.ldc2_w 19, 3) := by decide +kernel
theorem d_Hauls_add_18 : decode prog_6_method_3_code 18 = .ok (.lcmp, 1) := by decide +kernel
theorem d_Hauls_add_19 : decode prog_6_method_3_code 19 = .ok (.ifCond .le 5, 3) := by decide +kernel
theorem d_Hauls_add_24 : decode prog_6_method_3_code 24 = .ok (.iload_n 1, 1) := by decide +kernel
theorem d_Hauls_add_25 : decode prog_6_method_3_code 25 = .ok (.bipush 8, 2) := by decide +kernel
theorem d_Hauls_add_27 : decode prog_6_method_3_code 27 = .ok (.imul, 1) := by decide +kernel
theorem d_Hauls_add_28 : decode prog_6_method_3_code 28 = .ok (.iload_n 2, 1) := by decide +kernel
theorem d_Hauls_add_29 : decode prog_6_method_3_code 29 = .ok (.iadd, 1) := by decide +kernel
theorem d_Hauls_add_30 : decode prog_6_method_3_code 30 = .ok (.istore 5, 2) := by decide +kernel
theorem d_Hauls_add_32 : decode prog_6_method_3_code 32 = .ok (.iload 5, 2) := by decide +kernel
theorem d_Hauls_add_34 : decode prog_6_method_3_code 34 = .ok (.ifCond .lt 24, 3) := by decide +kernel
theorem d_Hauls_add_58 : decode prog_6_method_3_code 58 = .ok (.iconst 1, 1) := by decide +kernel
theorem d_Hauls_add_59 : decode prog_6_method_3_code 59 = .ok (.ireturn, 1) := by decide +kernel
theorem d_Hauls_add_37 : decode prog_6_method_3_code 37 = .ok (.iload 5, 2) := by decide +kernel
theorem d_Hauls_add_39 : decode prog_6_method_3_code 39 = .ok (.aload_n 0, 1) := by decide +kernel
theorem d_Hauls_add_40 : decode prog_6_method_3_code 40 = .ok (.getfield 11, 3) := by decide +kernel
theorem d_Hauls_add_43 : decode prog_6_method_3_code 43 = .ok (.arraylength, 1) := by decide +kernel
theorem d_Hauls_add_44 : decode prog_6_method_3_code 44 = .ok (.if_icmp .ge 14, 3) := by decide +kernel
theorem d_Hauls_add_47 : decode prog_6_method_3_code 47 = .ok (.aload_n 0, 1) := by decide +kernel
theorem d_Hauls_add_48 : decode prog_6_method_3_code 48 = .ok (.getfield 11, 3) := by decide +kernel
theorem d_Hauls_add_51 : decode prog_6_method_3_code 51 = .ok (.iload 5, 2) := by decide +kernel
theorem d_Hauls_add_53 : decode prog_6_method_3_code 53 = .ok (.dup2, 1) := by decide +kernel
theorem d_Hauls_add_54 : decode prog_6_method_3_code 54 = .ok (.laload, 1) := by decide +kernel
theorem d_Hauls_add_55 : decode prog_6_method_3_code 55 = .ok (.lload_n 3, 1) := by decide +kernel
theorem d_Hauls_add_56 : decode prog_6_method_3_code 56 = .ok (.ladd, 1) := by decide +kernel
theorem d_Hauls_add_57 : decode prog_6_method_3_code 57 = .ok (.lastore, 1) := by decide +kernel
theorem d_Hauls_gramsOf_0 : decode prog_6_method_4_code 0 = .ok (.iload_n 1, 1) := by decide +kernel
theorem d_Hauls_gramsOf_1 : decode prog_6_method_4_code 1 = .ok (.bipush 8, 2) := by decide +kernel
theorem d_Hauls_gramsOf_3 : decode prog_6_method_4_code 3 = .ok (.imul, 1) := by decide +kernel
theorem d_Hauls_gramsOf_4 : decode prog_6_method_4_code 4 = .ok (.iload_n 2, 1) := by decide +kernel
theorem d_Hauls_gramsOf_5 : decode prog_6_method_4_code 5 = .ok (.iadd, 1) := by decide +kernel
theorem d_Hauls_gramsOf_6 : decode prog_6_method_4_code 6 = .ok (.istore_n 3, 1) := by decide +kernel
theorem d_Hauls_gramsOf_7 : decode prog_6_method_4_code 7 = .ok (.iload_n 3, 1) := by decide +kernel
theorem d_Hauls_gramsOf_8 : decode prog_6_method_4_code 8 = .ok (.ifCond .lt 21, 3) := by decide +kernel
theorem d_Hauls_gramsOf_29 : decode prog_6_method_4_code 29 = .ok (.lconst 0, 1) := by decide +kernel
theorem d_Hauls_gramsOf_30 : decode prog_6_method_4_code 30 = .ok (.lreturn, 1) := by decide +kernel
theorem d_Hauls_gramsOf_11 : decode prog_6_method_4_code 11 = .ok (.iload_n 3, 1) := by decide +kernel
theorem d_Hauls_gramsOf_12 : decode prog_6_method_4_code 12 = .ok (.aload_n 0, 1) := by decide +kernel
theorem d_Hauls_gramsOf_13 : decode prog_6_method_4_code 13 = .ok (.getfield 11, 3) := by decide +kernel
theorem d_Hauls_gramsOf_16 : decode prog_6_method_4_code 16 = .ok (.arraylength, 1) := by decide +kernel
theorem d_Hauls_gramsOf_17 : decode prog_6_method_4_code 17 = .ok (.if_icmp .ge 12, 3) := by decide +kernel
theorem d_Hauls_gramsOf_20 : decode prog_6_method_4_code 20 = .ok (.aload_n 0, 1) := by decide +kernel
theorem d_Hauls_gramsOf_21 : decode prog_6_method_4_code 21 = .ok (.getfield 11, 3) := by decide +kernel
theorem d_Hauls_gramsOf_24 : decode prog_6_method_4_code 24 = .ok (.iload_n 3, 1) := by decide +kernel
theorem d_Hauls_gramsOf_25 : decode prog_6_method_4_code 25 = .ok (.laload, 1) := by decide +kernel
theorem d_Hauls_gramsOf_26 : decode prog_6_method_4_code 26 = .ok (.goto 4, 3) := by decide +kernel
theorem d_Hauls_total_5 : decode prog_6_method_5_code 5 = .ok (.iload 4, 2) := by decide +kernel
theorem d_Hauls_total_7 : decode prog_6_method_5_code 7 = .ok (.bipush 8, 2) := by decide +kernel
theorem d_Hauls_total_9 : decode prog_6_method_5_code 9 = .ok (.if_icmp .ge 19, 3) := by decide +kernel
theorem d_Hauls_total_28 : decode prog_6_method_5_code 28 = .ok (.lload_n 2, 1) := by decide +kernel
theorem d_Hauls_total_29 : decode prog_6_method_5_code 29 = .ok (.lreturn, 1) := by decide +kernel
theorem d_Hauls_total_12 : decode prog_6_method_5_code 12 = .ok (.lload_n 2, 1) := by decide +kernel
theorem d_Hauls_total_13 : decode prog_6_method_5_code 13 = .ok (.aload_n 0, 1) := by decide +kernel
theorem d_Hauls_total_14 : decode prog_6_method_5_code 14 = .ok (.iload_n 1, 1) := by decide +kernel
theorem d_Hauls_total_15 : decode prog_6_method_5_code 15 = .ok (.iload 4, 2) := by decide +kernel
theorem d_Hauls_total_17 : decode prog_6_method_5_code 17 = .ok (.invokevirtual 21, 3) := by decide +kernel
theorem d_Hauls_total_20 : decode prog_6_method_5_code 20 = .ok (.ladd, 1) := by decide +kernel
theorem d_Hauls_total_21 : decode prog_6_method_5_code 21 = .ok (.lstore_n 2, 1) := by decide +kernel
theorem d_Hauls_total_22 : decode prog_6_method_5_code 22 = .ok (.iinc 4 1, 3) := by decide +kernel
theorem d_Hauls_total_25 : decode prog_6_method_5_code 25 = .ok (.goto (-20), 3) := by decide +kernel
theorem d_Hauls_total_0 : decode prog_6_method_5_code 0 = .ok (.lconst 0, 1) := by decide +kernel
theorem d_Hauls_total_1 : decode prog_6_method_5_code 1 = .ok (.lstore_n 2, 1) := by decide +kernel
theorem d_Hauls_total_2 : decode prog_6_method_5_code 2 = .ok (.iconst 0, 1) := by decide +kernel
theorem d_Hauls_total_3 : decode prog_6_method_5_code 3 = .ok (.istore 4, 2) := by decide +kernel
theorem d_Hauls_greatestDivisor_9 : decode prog_6_method_7_code 9 = .ok (.iload 8, 2) := by decide +kernel
theorem d_Hauls_greatestDivisor_11 : decode prog_6_method_7_code 11 = .ok (.sipush 200, 3) := by decide +kernel
theorem d_Hauls_greatestDivisor_14 : decode prog_6_method_7_code 14 = .ok (.if_icmp .ge 31, 3) := by decide +kernel
theorem d_Hauls_greatestDivisor_45 : decode prog_6_method_7_code 45 = .ok (.lload 4, 2) := by decide +kernel
theorem d_Hauls_greatestDivisor_47 : decode prog_6_method_7_code 47 = .ok (.lreturn, 1) := by decide +kernel
theorem d_Hauls_greatestDivisor_17 : decode prog_6_method_7_code 17 = .ok (.lload 6, 2) := by decide +kernel
theorem d_Hauls_greatestDivisor_19 : decode prog_6_method_7_code 19 = .ok (.lconst 0, 1) := by decide +kernel
theorem d_Hauls_greatestDivisor_20 : decode prog_6_method_7_code 20 = .ok (.lcmp, 1) := by decide +kernel
theorem d_Hauls_greatestDivisor_21 : decode prog_6_method_7_code 21 = .ok (.ifCond .eq 24, 3) := by decide +kernel
theorem d_Hauls_greatestDivisor_24 : decode prog_6_method_7_code 24 = .ok (.lload 4, 2) := by decide +kernel
theorem d_Hauls_greatestDivisor_26 : decode prog_6_method_7_code 26 = .ok (.lload 6, 2) := by decide +kernel
theorem d_Hauls_greatestDivisor_28 : decode prog_6_method_7_code 28 = .ok (.lrem, 1) := by decide +kernel
theorem d_Hauls_greatestDivisor_29 : decode prog_6_method_7_code 29 = .ok (.lstore 9, 2) := by decide +kernel
theorem d_Hauls_greatestDivisor_31 : decode prog_6_method_7_code 31 = .ok (.lload 6, 2) := by decide +kernel
theorem d_Hauls_greatestDivisor_33 : decode prog_6_method_7_code 33 = .ok (.lstore 4, 2) := by decide +kernel
theorem d_Hauls_greatestDivisor_35 : decode prog_6_method_7_code 35 = .ok (.lload 9, 2) := by decide +kernel
theorem d_Hauls_greatestDivisor_37 : decode prog_6_method_7_code 37 = .ok (.lstore 6, 2) := by decide +kernel
theorem d_Hauls_greatestDivisor_39 : decode prog_6_method_7_code 39 = .ok (.iinc 8 1, 3) := by decide +kernel
theorem d_Hauls_greatestDivisor_42 : decode prog_6_method_7_code 42 = .ok (.goto (-33), 3) := by decide +kernel
theorem d_Hauls_greatestDivisor_0 : decode prog_6_method_7_code 0 = .ok (.lload_n 0, 1) := by decide +kernel
theorem d_Hauls_greatestDivisor_1 : decode prog_6_method_7_code 1 = .ok (.lstore 4, 2) := by decide +kernel
theorem d_Hauls_greatestDivisor_3 : decode prog_6_method_7_code 3 = .ok (.lload_n 2, 1) := by decide +kernel
theorem d_Hauls_greatestDivisor_4 : decode prog_6_method_7_code 4 = .ok (.lstore 6, 2) := by decide +kernel
theorem d_Hauls_greatestDivisor_6 : decode prog_6_method_7_code 6 = .ok (.iconst 0, 1) := by decide +kernel
theorem d_Hauls_greatestDivisor_7 : decode prog_6_method_7_code 7 = .ok (.istore 8, 2) := by decide +kernel
theorem d_Hauls_share_0 : decode prog_6_method_6_code 0 = .ok (.iload_n 1, 1) := by decide +kernel
theorem d_Hauls_share_1 : decode prog_6_method_6_code 1 = .ok (.iload_n 2, 1) := by decide +kernel
theorem d_Hauls_share_2 : decode prog_6_method_6_code 2 = .ok (.invokestatic 15, 3) := by decide +kernel
theorem d_Hauls_share_5 : decode prog_6_method_6_code 5 = .ok (.ifCond .eq 12, 3) := by decide +kernel
theorem d_Hauls_share_17 : decode prog_6_method_6_code 17 = .ok (.ldc2_w 25, 3) := by decide +kernel
theorem d_Hauls_share_20 : decode prog_6_method_6_code 20 = .ok (.lreturn, 1) := by decide +kernel
theorem d_Hauls_share_8 : decode prog_6_method_6_code 8 = .ok (.iload_n 3, 1) := by decide +kernel
theorem d_Hauls_share_9 : decode prog_6_method_6_code 9 = .ok (.ifCond .lt 8, 3) := by decide +kernel
theorem d_Hauls_share_12 : decode prog_6_method_6_code 12 = .ok (.iload_n 3, 1) := by decide +kernel
theorem d_Hauls_share_13 : decode prog_6_method_6_code 13 = .ok (.iconst 1, 1) := by decide +kernel
theorem d_Hauls_share_14 : decode prog_6_method_6_code 14 = .ok (.if_icmp .le 7, 3) := by decide +kernel
theorem d_Hauls_share_21 : decode prog_6_method_6_code 21 = .ok (.aload_n 0, 1) := by decide +kernel
theorem d_Hauls_share_22 : decode prog_6_method_6_code 22 = .ok (.iload_n 1, 1) := by decide +kernel
theorem d_Hauls_share_23 : decode prog_6_method_6_code 23 = .ok (.invokevirtual 27, 3) := by decide +kernel
theorem d_Hauls_share_26 : decode prog_6_method_6_code 26 = .ok (.lstore 4, 2) := by decide +kernel
theorem d_Hauls_share_28 : decode prog_6_method_6_code 28 = .ok (.aload_n 0, 1) := by decide +kernel
theorem d_Hauls_share_29 : decode prog_6_method_6_code 29 = .ok (.iload_n 1, 1) := by decide +kernel
theorem d_Hauls_share_30 : decode prog_6_method_6_code 30 = .ok (.iload_n 2, 1) := by decide +kernel
theorem d_Hauls_share_31 : decode prog_6_method_6_code 31 = .ok (.invokevirtual 21, 3) := by decide +kernel
theorem d_Hauls_share_34 : decode prog_6_method_6_code 34 = .ok (.lstore 6, 2) := by decide +kernel
theorem d_Hauls_share_36 : decode prog_6_method_6_code 36 = .ok (.lload 4, 2) := by decide +kernel
theorem d_Hauls_share_38 : decode prog_6_method_6_code 38 = .ok (.lload 6, 2) := by decide +kernel
theorem d_Hauls_share_40 : decode prog_6_method_6_code 40 = .ok (.invokestatic 31, 3) := by decide +kernel
theorem d_Hauls_share_43 : decode prog_6_method_6_code 43 = .ok (.lstore 8, 2) := by decide +kernel
theorem d_Hauls_share_45 : decode prog_6_method_6_code 45 = .ok (.lload 8, 2) := by decide +kernel
theorem d_Hauls_share_47 : decode prog_6_method_6_code 47 = .ok (.lconst 0, 1) := by decide +kernel
theorem d_Hauls_share_48 : decode prog_6_method_6_code 48 = .ok (.lcmp, 1) := by decide +kernel
theorem d_Hauls_share_49 : decode prog_6_method_6_code 49 = .ok (.ifCond .ne 7, 3) := by decide +kernel
theorem d_Hauls_share_56 : decode prog_6_method_6_code 56 = .ok (.iload_n 3, 1) := by decide +kernel
theorem d_Hauls_share_57 : decode prog_6_method_6_code 57 = .ok (.ifCond .ne 11, 3) := by decide +kernel
theorem d_Hauls_share_68 : decode prog_6_method_6_code 68 = .ok (.lload 4, 2) := by decide +kernel
theorem d_Hauls_share_70 : decode prog_6_method_6_code 70 = .ok (.lload 8, 2) := by decide +kernel
theorem d_Hauls_share_72 : decode prog_6_method_6_code 72 = .ok (.ldiv, 1) := by decide +kernel
theorem d_Hauls_share_73 : decode prog_6_method_6_code 73 = .ok (.lreturn, 1) := by decide +kernel
theorem d_Hauls_share_60 : decode prog_6_method_6_code 60 = .ok (.lload 6, 2) := by decide +kernel
theorem d_Hauls_share_62 : decode prog_6_method_6_code 62 = .ok (.lload 8, 2) := by decide +kernel
theorem d_Hauls_share_64 : decode prog_6_method_6_code 64 = .ok (.ldiv, 1) := by decide +kernel
theorem d_Hauls_share_65 : decode prog_6_method_6_code 65 = .ok (.goto 8, 3) := by decide +kernel
theorem d_Hauls_share_52 : decode prog_6_method_6_code 52 = .ok (.ldc2_w 25, 3) := by decide +kernel
theorem d_Hauls_share_55 : decode prog_6_method_6_code 55 = .ok (.lreturn, 1) := by decide +kernel
def M_Hauls_init (F : Nat) (h : hH) (x0 : Nat) : Option hH :=
  (some (hAdd h (.inr (.long, 80, .inr (.inl (fun _ => 0)))))).bind fun h1 =>
  (hPut h1 x0 4 0 (.ref h.1)).bind fun h2 =>
  some h2
def M_Hauls_has (F : Nat) (h : hH) (x0 : Int32) (x1 : Int32) : Option (Int32 × hH) :=
  if x0 < 0 then (
    some (0, h)
  ) else (
    if 10 ≤ x0 then (
      some (0, h)
    ) else (
      if x1 < 0 then (
        some (0, h)
      ) else (
        if 8 ≤ x1 then (
          some (0, h)
        ) else (
          some (1, h)
        )
      )
    )
  )
def M_Hauls_add (F : Nat) (h : hH) (x0 : Nat) (x1 : Int32) (x2 : Int32) (x3 : Int64) : Option (Int32 × hH) :=
  (M_Hauls_has F h x1 x2).bind fun q1 =>
  if q1.1 = 0 then (
    some (0, q1.2)
  ) else (
    if (lg_cmp x3 1) < 0 then (
      some (0, q1.2)
    ) else (
      if (lg_cmp x3 1000000000) ≤ 0 then (
        if ((x1 * 8) + x2) < 0 then (
          some (1, q1.2)
        ) else (
          (hGetA q1.2 x0 4 0).bind fun v6 =>
          (hLen q1.2 v6).bind fun v7 =>
          if v7 ≤ ((x1 * 8) + x2) then (
            some (1, q1.2)
          ) else (
            (hGetA q1.2 x0 4 0).bind fun v9 =>
            (hLdL q1.2 v9 ((x1 * 8) + x2)).bind fun v10 =>
            (hStL q1.2 v9 ((x1 * 8) + x2) (v10 + x3)).bind fun h11 =>
            some (1, h11)
          )
        )
      ) else (
        some (0, q1.2)
      )
    )
  )
def M_Hauls_gramsOf (F : Nat) (h : hH) (x0 : Nat) (x1 : Int32) (x2 : Int32) : Option (Int64 × hH) :=
  if ((x1 * 8) + x2) < 0 then (
    some (0, h)
  ) else (
    (hGetA h x0 4 0).bind fun v2 =>
    (hLen h v2).bind fun v3 =>
    if v3 ≤ ((x1 * 8) + x2) then (
      some (0, h)
    ) else (
      (hGetA h x0 4 0).bind fun v5 =>
      (hLdL h v5 ((x1 * 8) + x2)).bind fun v6 =>
      some (v6, h)
    )
  )
def B_Hauls_total_5 (F : Nat) (r5 : hH → Nat → Int32 → Int64 → Int32 → Option (Int64 × hH)) (h : hH) (x0 : Nat) (x1 : Int32) (x2 : Int64) (x4 : Int32) : Option (Int64 × hH) :=
  if 8 ≤ x4 then (
    some (x2, h)
  ) else (
    (hIs h x0 4).bind fun u2 =>
    (M_Hauls_gramsOf F h x0 x1 x4).bind fun q3 =>
    r5 q3.2 x0 x1 (x2 + q3.1) (x4 + 1)
  )
def M_Hauls_total_5 (F : Nat) : Nat → hH → Nat → Int32 → Int64 → Int32 → Option (Int64 × hH)
  | 0 => fun _ _ _ _ _ => none
  | z + 1 => B_Hauls_total_5 F (M_Hauls_total_5 F z)
def M_Hauls_total (F : Nat) (h : hH) (x0 : Nat) (x1 : Int32) : Option (Int64 × hH) :=
  M_Hauls_total_5 F F h x0 x1 0 0
def B_Hauls_greatestDivisor_9 (F : Nat) (r9 : hH → Int64 → Int64 → Int32 → Option (Int64 × hH)) (h : hH) (x4 : Int64) (x6 : Int64) (x8 : Int32) : Option (Int64 × hH) :=
  if 200 ≤ x8 then (
    some (x4, h)
  ) else (
    if (lg_cmp x6 0) = 0 then (
      some (x4, h)
    ) else (
      if x6 = 0 then none else
      r9 h x6 (x4 - x4 / x6 * x6) (x8 + 1)
    )
  )
def M_Hauls_greatestDivisor_9 (F : Nat) : Nat → hH → Int64 → Int64 → Int32 → Option (Int64 × hH)
  | 0 => fun _ _ _ _ => none
  | z + 1 => B_Hauls_greatestDivisor_9 F (M_Hauls_greatestDivisor_9 F z)
def M_Hauls_greatestDivisor (F : Nat) (h : hH) (x0 : Int64) (x2 : Int64) : Option (Int64 × hH) :=
  M_Hauls_greatestDivisor_9 F F h x0 x2 0
def M_Hauls_share (F : Nat) (h : hH) (x0 : Nat) (x1 : Int32) (x2 : Int32) (x3 : Int32) : Option (Int64 × hH) :=
  (M_Hauls_has F h x1 x2).bind fun q1 =>
  if q1.1 = 0 then (
    some ((-1), q1.2)
  ) else (
    if x3 < 0 then (
      some ((-1), q1.2)
    ) else (
      if x3 ≤ 1 then (
        (hIs q1.2 x0 4).bind fun u5 =>
        (M_Hauls_total F q1.2 x0 x1).bind fun q6 =>
        (hIs q6.2 x0 4).bind fun u7 =>
        (M_Hauls_gramsOf F q6.2 x0 x1 x2).bind fun q8 =>
        (M_Hauls_greatestDivisor F q8.2 q6.1 q8.1).bind fun q9 =>
        if (lg_cmp q9.1 0) = 0 then (
          some ((-1), q9.2)
        ) else (
          if x3 = 0 then (
            if q9.1 = 0 then none else
            some ((q8.1 / q9.1), q9.2)
          ) else (
            if q9.1 = 0 then none else
            some ((q6.1 / q9.1), q9.2)
          )
        )
      ) else (
        some ((-1), q1.2)
      )
    )
  )
abbrev rm_Hauls_init : Room := { frames := 1, cells := 1, slots := 80, locals := 12 }
set_option maxHeartbeats 4000000 in
set_option maxRecDepth 100000 in
theorem c_Hauls_init (l : Launch) (D : va_G) (K : (Nat → Nat) × (Nat → Nat)) (F : Nat) {h : hH} {x0 : Nat} {q : hH} (hM : M_Hauls_init F h x0 = some q) : Met l y_Hauls_init (.code y_Hauls_init prog_6_method_1_code 1 none :: T0) rm_Hauls_init (hPc hG D cls0 K [.ref x0] h) (hQ D cls0 h none q) 1 80 (hF h) := by
  refine J_met (lv := [(0, .ref x0)]) (by decide) (Nat.le_of_ble_eq_true rfl) rfl ?_
  intro p e s m below meth c X hr hlk hnm
  have Y : HX p s m _ meth c prog_6_method_1_code 1 "LicenceTexts$Hauls" D K "<init>" none h := ⟨X, hr, hlk, hnm⟩
  unfold M_Hauls_init at hM
  refine J_aload_n (pc := 0) X 0 d_Hauls_init_0 rfl ?_
  refine J_objInit (pc := 1) X k_36 k_1 k_2 d_Hauls_init_1 (Nat.le_of_ble_eq_true rfl) (Nat.le_of_ble_eq_true rfl) ?_
  refine J_aload_n (pc := 4) X 0 d_Hauls_init_4 rfl ?_
  refine J_bipush (pc := 5) (v := (80)) X d_Hauls_init_5 (by decide) ?_
  refine J_newa (pc := 7) (ty := .long) (N := 80) (a0 := (80, .inr (.inl (fun _ => 0)))) X rfl k_7 d_Hauls_init_7 (fun _ => rfl) (fun _ _ hq => hq) (by decide) (by decide) (by decide) (Nat.le_of_ble_eq_true rfl) (Nat.le_of_ble_eq_true rfl) ?_
  obtain ⟨h1, eh1, hM⟩ := hb_some hM
  rw [Option.some.inj eh1]
  obtain ⟨h2, eh2, hM⟩ := hb_some hM
  refine J_putF (pc := 9) X hc_Hauls in_Hauls t_Hauls tk_Hauls nk_Hauls 0 k_37 (by decide) rfl rfl rfl hnm d_Hauls_init_9 rfl rfl rfl eh2 ?_
  obtain rfl := Option.some.inj hM
  exact J_vret (pc := 12) X hr hlk (Nat.le_of_ble_eq_true rfl) (Nat.le_of_ble_eq_true rfl) d_Hauls_init_12
abbrev rm_Hauls_has : Room := { frames := 0, cells := 0, slots := 0, locals := 0 }
set_option maxHeartbeats 4000000 in
set_option maxRecDepth 100000 in
theorem c_Hauls_has (l : Launch) (D : va_G) (K : (Nat → Nat) × (Nat → Nat)) (F : Nat) {h : hH} {x0 : Int32} {x1 : Int32} {q : (Int32 × hH)} (hM : M_Hauls_has F h x0 x1 = some q) : Met l y_Hauls_has (.code y_Hauls_has prog_6_method_2_code 2 (some .boolean) :: T0) rm_Hauls_has (hPc hG D cls0 K [.int x0, .int x1] h) (hQ D cls0 h (some (.int q.1)) q.2) 0 0 (hF h) := by
  refine J_met (lv := [(0, .int x0), (1, .int x1)]) (by decide) (Nat.le_of_ble_eq_true rfl) rfl ?_
  intro p e s m below meth c X hr hlk hnm
  have Y : HX p s m _ meth c prog_6_method_2_code 2 "LicenceTexts$Hauls" D K "has" (some .boolean) h := ⟨X, hr, hlk, hnm⟩
  unfold M_Hauls_has at hM
  refine J_iload_n (pc := 0) X 0 d_Hauls_has_0 rfl ?_
  refine J_if_lt (pc := 1) (tgt := 24) X d_Hauls_has_1 (by decide) (fun c1 => ?_) (fun c1 => ?_)
  · have hM := hif_t hM c1
    refine J_iconst (pc := 24) (v := (0)) X d_Hauls_has_24 (by decide) ?_
    obtain rfl := Option.some.inj hM
    exact J_zret (pc := 25) X hr hz0 hlk (Nat.le_of_ble_eq_true rfl) (Nat.le_of_ble_eq_true rfl) d_Hauls_has_25
  · have hM := hif_f hM c1
    refine J_iload_n (pc := 4) X 0 d_Hauls_has_4 rfl ?_
    refine J_bipush (pc := 5) (v := (10)) X d_Hauls_has_5 (by decide) ?_
    refine J_icmp_ge (pc := 7) (tgt := 24) X d_Hauls_has_7 (by decide) (fun c2 => ?_) (fun c2 => ?_)
    · have hM := hif_t hM c2
      refine J_iconst (pc := 24) (v := (0)) X d_Hauls_has_24 (by decide) ?_
      obtain rfl := Option.some.inj hM
      exact J_zret (pc := 25) X hr hz0 hlk (Nat.le_of_ble_eq_true rfl) (Nat.le_of_ble_eq_true rfl) d_Hauls_has_25
    · have hM := hif_f hM c2
      refine J_iload_n (pc := 10) X 1 d_Hauls_has_10 rfl ?_
      refine J_if_lt (pc := 11) (tgt := 24) X d_Hauls_has_11 (by decide) (fun c3 => ?_) (fun c3 => ?_)
      · have hM := hif_t hM c3
        refine J_iconst (pc := 24) (v := (0)) X d_Hauls_has_24 (by decide) ?_
        obtain rfl := Option.some.inj hM
        exact J_zret (pc := 25) X hr hz0 hlk (Nat.le_of_ble_eq_true rfl) (Nat.le_of_ble_eq_true rfl) d_Hauls_has_25
      · have hM := hif_f hM c3
        refine J_iload_n (pc := 14) X 1 d_Hauls_has_14 rfl ?_
        refine J_bipush (pc := 15) (v := (8)) X d_Hauls_has_15 (by decide) ?_
        refine J_icmp_ge (pc := 17) (tgt := 24) X d_Hauls_has_17 (by decide) (fun c4 => ?_) (fun c4 => ?_)
        · have hM := hif_t hM c4
          refine J_iconst (pc := 24) (v := (0)) X d_Hauls_has_24 (by decide) ?_
          obtain rfl := Option.some.inj hM
          exact J_zret (pc := 25) X hr hz0 hlk (Nat.le_of_ble_eq_true rfl) (Nat.le_of_ble_eq_true rfl) d_Hauls_has_25
        · have hM := hif_f hM c4
          refine J_iconst (pc := 20) (v := (1)) X d_Hauls_has_20 (by decide) ?_
          refine J_goto (pc := 21) (tgt := 25) X d_Hauls_has_21 (by decide) ?_
          obtain rfl := Option.some.inj hM
          exact J_zret (pc := 25) X hr hz1 hlk (Nat.le_of_ble_eq_true rfl) (Nat.le_of_ble_eq_true rfl) d_Hauls_has_25
abbrev rm_Hauls_add : Room := { frames := 1, cells := 0, slots := 0, locals := 21 }
set_option maxHeartbeats 4000000 in
set_option maxRecDepth 100000 in
theorem c_Hauls_add (l : Launch) (D : va_G) (K : (Nat → Nat) × (Nat → Nat)) (F : Nat) {h : hH} {x0 : Nat} {x1 : Int32} {x2 : Int32} {x3 : Int64} {q : (Int32 × hH)} (hM : M_Hauls_add F h x0 x1 x2 x3 = some q) : Met l y_Hauls_add (.code y_Hauls_add prog_6_method_3_code 6 (some .boolean) :: T0) rm_Hauls_add (hPc hG D cls0 K [.ref x0, .int x1, .int x2, .long x3] h) (hQ D cls0 h (some (.int q.1)) q.2) 0 0 (hF h) := by
  refine J_met (lv := [(0, .ref x0), (1, .int x1), (2, .int x2), (3, .long x3)]) (by decide) (Nat.le_of_ble_eq_true rfl) rfl ?_
  intro p e s m below meth c X hr hlk hnm
  have Y : HX p s m _ meth c prog_6_method_3_code 6 "LicenceTexts$Hauls" D K "add" (some .boolean) h := ⟨X, hr, hlk, hnm⟩
  unfold M_Hauls_add at hM
  refine J_iload_n (pc := 0) X 1 d_Hauls_add_0 rfl ?_
  refine J_iload_n (pc := 1) X 2 d_Hauls_add_1 rfl ?_
  obtain ⟨q1, eq1, hM⟩ := hb_some hM
  refine J_callS (pc := 2) (As := [.int x1, .int x2]) (rest := []) (o := (some (.int q1.1))) (h2 := q1.2) X (c_Hauls_has l D K F eq1) (cwS_of (nA := 2) X.fix k_38 k_41 k_40 k_39 ⟨rfl, rfl⟩ (by decide +kernel) ⟨Nat.le_of_ble_eq_true rfl, Nat.le_of_ble_eq_true rfl⟩) d_Hauls_add_2 rfl rfl (Nat.le_of_ble_eq_true rfl) (Nat.le_of_ble_eq_true rfl) (Nat.le_of_ble_eq_true rfl) ?_
  refine J_if_eq (pc := 5) (tgt := 22) X d_Hauls_add_5 (by decide) (fun c2 => ?_) (fun c2 => ?_)
  · have hM := hif_t hM c2
    refine J_iconst (pc := 22) (v := (0)) X d_Hauls_add_22 (by decide) ?_
    obtain rfl := Option.some.inj hM
    exact J_zret (pc := 23) X hr hz0 hlk (Nat.le_of_ble_eq_true rfl) (Nat.le_of_ble_eq_true rfl) d_Hauls_add_23
  · have hM := hif_f hM c2
    refine J_lload_n (pc := 8) X 3 d_Hauls_add_8 rfl ?_
    refine J_lconst (pc := 9) (v := (1)) X d_Hauls_add_9 (by decide) ?_
    refine J_lcmp (pc := 10) X d_Hauls_add_10 ?_
    refine J_if_lt (pc := 11) (tgt := 22) X d_Hauls_add_11 (by decide) (fun c3 => ?_) (fun c3 => ?_)
    · have hM := hif_t hM c3
      refine J_iconst (pc := 22) (v := (0)) X d_Hauls_add_22 (by decide) ?_
      obtain rfl := Option.some.inj hM
      exact J_zret (pc := 23) X hr hz0 hlk (Nat.le_of_ble_eq_true rfl) (Nat.le_of_ble_eq_true rfl) d_Hauls_add_23
    · have hM := hif_f hM c3
      refine J_lload_n (pc := 14) X 3 d_Hauls_add_14 rfl ?_
      refine J_ldc2 (pc := 15) X k_42 d_Hauls_add_15 ?_
      refine J_lcmp (pc := 18) X d_Hauls_add_18 ?_
      refine J_if_le (pc := 19) (tgt := 24) X d_Hauls_add_19 (by decide) (fun c4 => ?_) (fun c4 => ?_)
      · have hM := hif_t hM c4
        refine J_iload_n (pc := 24) X 1 d_Hauls_add_24 rfl ?_
        refine J_bipush (pc := 25) (v := (8)) X d_Hauls_add_25 (by decide) ?_
        refine J_imul (pc := 27) X d_Hauls_add_27 ?_
        refine J_iload_n (pc := 28) X 2 d_Hauls_add_28 rfl ?_
        refine J_iadd (pc := 29) X d_Hauls_add_29 ?_
        refine J_istore (pc := 30) (lv' := [(5, .int ((x1 * 8) + x2)), (0, .ref x0), (1, .int x1), (2, .int x2), (3, .long x3)]) X d_Hauls_add_30 (by decide) rfl ?_
        refine J_iload (pc := 32) X 0 d_Hauls_add_32 rfl ?_
        refine J_if_lt (pc := 34) (tgt := 58) X d_Hauls_add_34 (by decide) (fun c5 => ?_) (fun c5 => ?_)
        · have hM := hif_t hM c5
          refine J_iconst (pc := 58) (v := (1)) X d_Hauls_add_58 (by decide) ?_
          obtain rfl := Option.some.inj hM
          exact J_zret (pc := 59) X hr hz1 hlk (Nat.le_of_ble_eq_true rfl) (Nat.le_of_ble_eq_true rfl) d_Hauls_add_59
        · have hM := hif_f hM c5
          refine J_iload (pc := 37) X 0 d_Hauls_add_37 rfl ?_
          refine J_aload_n (pc := 39) X 1 d_Hauls_add_39 rfl ?_
          obtain ⟨v6, ev6, hM⟩ := hb_some hM
          refine J_getA (pc := 40) X hc_Hauls in_Hauls 0 k_37 (by decide) rfl d_Hauls_add_40 rfl ev6 ?_
          obtain ⟨v7, ev7, hM⟩ := hb_some hM
          refine J_alen (pc := 43) X d_Hauls_add_43 rfl ev7 ?_
          refine J_icmp_ge (pc := 44) (tgt := 58) X d_Hauls_add_44 (by decide) (fun c8 => ?_) (fun c8 => ?_)
          · have hM := hif_t hM c8
            refine J_iconst (pc := 58) (v := (1)) X d_Hauls_add_58 (by decide) ?_
            obtain rfl := Option.some.inj hM
            exact J_zret (pc := 59) X hr hz1 hlk (Nat.le_of_ble_eq_true rfl) (Nat.le_of_ble_eq_true rfl) d_Hauls_add_59
          · have hM := hif_f hM c8
            refine J_aload_n (pc := 47) X 1 d_Hauls_add_47 rfl ?_
            obtain ⟨v9, ev9, hM⟩ := hb_some hM
            refine J_getA (pc := 48) X hc_Hauls in_Hauls 0 k_37 (by decide) rfl d_Hauls_add_48 rfl ev9 ?_
            refine J_iload (pc := 51) X 0 d_Hauls_add_51 rfl ?_
            refine J_dup2 (pc := 53) X d_Hauls_add_53 rfl rfl ?_
            obtain ⟨v10, ev10, hM⟩ := hb_some hM
            refine J_lald (pc := 54) X d_Hauls_add_54 rfl ev10 ?_
            refine J_lload_n (pc := 55) X 4 d_Hauls_add_55 rfl ?_
            refine J_ladd (pc := 56) X d_Hauls_add_56 ?_
            obtain ⟨h11, eh11, hM⟩ := hb_some hM
            refine J_last (pc := 57) X d_Hauls_add_57 rfl eh11 ?_
            refine J_iconst (pc := 58) (v := (1)) X d_Hauls_add_58 (by decide) ?_
            obtain rfl := Option.some.inj hM
            exact J_zret (pc := 59) X hr hz1 hlk (Nat.le_of_ble_eq_true rfl) (Nat.le_of_ble_eq_true rfl) d_Hauls_add_59
      · have hM := hif_f hM c4
        refine J_iconst (pc := 22) (v := (0)) X d_Hauls_add_22 (by decide) ?_
        obtain rfl := Option.some.inj hM
        exact J_zret (pc := 23) X hr hz0 hlk (Nat.le_of_ble_eq_true rfl) (Nat.le_of_ble_eq_true rfl) d_Hauls_add_23
abbrev rm_Hauls_gramsOf : Room := { frames := 0, cells := 0, slots := 0, locals := 0 }
set_option maxHeartbeats 4000000 in
set_option maxRecDepth 100000 in
theorem c_Hauls_gramsOf (l : Launch) (D : va_G) (K : (Nat → Nat) × (Nat → Nat)) (F : Nat) {h : hH} {x0 : Nat} {x1 : Int32} {x2 : Int32} {q : (Int64 × hH)} (hM : M_Hauls_gramsOf F h x0 x1 x2 = some q) : Met l y_Hauls_gramsOf (.code y_Hauls_gramsOf prog_6_method_4_code 4 (some .long) :: T0) rm_Hauls_gramsOf (hPc hG D cls0 K [.ref x0, .int x1, .int x2] h) (hQ D cls0 h (some (.long q.1)) q.2) 0 0 (hF h) := by
  refine J_met (lv := [(0, .ref x0), (1, .int x1), (2, .int x2)]) (by decide) (Nat.le_of_ble_eq_true rfl) rfl ?_
  intro p e s m below meth c X hr hlk hnm
  have Y : HX p s m _ meth c prog_6_method_4_code 4 "LicenceTexts$Hauls" D K "gramsOf" (some .long) h := ⟨X, hr, hlk, hnm⟩
  unfold M_Hauls_gramsOf at hM
  refine J_iload_n (pc := 0) X 1 d_Hauls_gramsOf_0 rfl ?_
  refine J_bipush (pc := 1) (v := (8)) X d_Hauls_gramsOf_1 (by decide) ?_
  refine J_imul (pc := 3) X d_Hauls_gramsOf_3 ?_
  refine J_iload_n (pc := 4) X 2 d_Hauls_gramsOf_4 rfl ?_
  refine J_iadd (pc := 5) X d_Hauls_gramsOf_5 ?_
  refine J_istore_n (pc := 6) (lv' := [(3, .int ((x1 * 8) + x2)), (0, .ref x0), (1, .int x1), (2, .int x2)]) X d_Hauls_gramsOf_6 rfl (by decide) rfl ?_
  refine J_iload_n (pc := 7) X 0 d_Hauls_gramsOf_7 rfl ?_
  refine J_if_lt (pc := 8) (tgt := 29) X d_Hauls_gramsOf_8 (by decide) (fun c1 => ?_) (fun c1 => ?_)
  · have hM := hif_t hM c1
    refine J_lconst (pc := 29) (v := (0)) X d_Hauls_gramsOf_29 (by decide) ?_
    obtain rfl := Option.some.inj hM
    exact J_lret (pc := 30) X hr hlk (Nat.le_of_ble_eq_true rfl) (Nat.le_of_ble_eq_true rfl) d_Hauls_gramsOf_30
  · have hM := hif_f hM c1
    refine J_iload_n (pc := 11) X 0 d_Hauls_gramsOf_11 rfl ?_
    refine J_aload_n (pc := 12) X 1 d_Hauls_gramsOf_12 rfl ?_
    obtain ⟨v2, ev2, hM⟩ := hb_some hM
    refine J_getA (pc := 13) X hc_Hauls in_Hauls 0 k_37 (by decide) rfl d_Hauls_gramsOf_13 rfl ev2 ?_
    obtain ⟨v3, ev3, hM⟩ := hb_some hM
    refine J_alen (pc := 16) X d_Hauls_gramsOf_16 rfl ev3 ?_
    refine J_icmp_ge (pc := 17) (tgt := 29) X d_Hauls_gramsOf_17 (by decide) (fun c4 => ?_) (fun c4 => ?_)
    · have hM := hif_t hM c4
      refine J_lconst (pc := 29) (v := (0)) X d_Hauls_gramsOf_29 (by decide) ?_
      obtain rfl := Option.some.inj hM
      exact J_lret (pc := 30) X hr hlk (Nat.le_of_ble_eq_true rfl) (Nat.le_of_ble_eq_true rfl) d_Hauls_gramsOf_30
    · have hM := hif_f hM c4
      refine J_aload_n (pc := 20) X 1 d_Hauls_gramsOf_20 rfl ?_
      obtain ⟨v5, ev5, hM⟩ := hb_some hM
      refine J_getA (pc := 21) X hc_Hauls in_Hauls 0 k_37 (by decide) rfl d_Hauls_gramsOf_21 rfl ev5 ?_
      refine J_iload_n (pc := 24) X 0 d_Hauls_gramsOf_24 rfl ?_
      obtain ⟨v6, ev6, hM⟩ := hb_some hM
      refine J_lald (pc := 25) X d_Hauls_gramsOf_25 rfl ev6 ?_
      refine J_goto (pc := 26) (tgt := 30) X d_Hauls_gramsOf_26 (by decide) ?_
      obtain rfl := Option.some.inj hM
      exact J_lret (pc := 30) X hr hlk (Nat.le_of_ble_eq_true rfl) (Nat.le_of_ble_eq_true rfl) d_Hauls_gramsOf_30
abbrev rm_Hauls_total : Room := { frames := 1, cells := 0, slots := 0, locals := 23 }
set_option maxHeartbeats 4000000 in
set_option maxRecDepth 100000 in
theorem b_Hauls_total_5 {p : Program} {l : Launch} {e : Env} {s : State} {m : MethodId} {args : Array Value} {below : List Frame} {meth : Method} {c : Code} {D : va_G} {K : (Nat → Nat) × (Nat → Nat)} {h0 : hH} (Y : HX p s m args meth c prog_6_method_5_code 5 "LicenceTexts$Hauls" D K "total" (some .long) h0) {F : Nat}   {r5 : hH → Nat → Int32 → Int64 → Int32 → Option (Int64 × hH)} (R5 : ∀ (h : hH) (x0 : Nat) (x1 : Int32) (x2 : Int64) (x4 : Int32) (q : (Int64 × hH)), r5 h x0 x1 x2 x4 = some q → J p l e rm_Hauls_total s m args below meth c 5 D cls0 (hF h0) h [(0, .ref x0), (1, .int x1), (2, .long x2), (4, .int x4)] 0 0 (MQ below (hQ D cls0 h0 (some (.long q.1)) q.2) args s 0 0 (hF h0)) 5 []) : ∀ (h : hH) (x0 : Nat) (x1 : Int32) (x2 : Int64) (x4 : Int32) (q : (Int64 × hH)), B_Hauls_total_5 F r5 h x0 x1 x2 x4 = some q → J p l e rm_Hauls_total s m args below meth c 5 D cls0 (hF h0) h [(0, .ref x0), (1, .int x1), (2, .long x2), (4, .int x4)] 0 0 (MQ below (hQ D cls0 h0 (some (.long q.1)) q.2) args s 0 0 (hF h0)) 5 [] := by
  intro h x0 x1 x2 x4 q hM
  obtain ⟨X, hr, hlk, hnm⟩ := id Y
  unfold B_Hauls_total_5 at hM
  refine J_iload (pc := 5) X 3 d_Hauls_total_5 rfl ?_
  refine J_bipush (pc := 7) (v := (8)) X d_Hauls_total_7 (by decide) ?_
  refine J_icmp_ge (pc := 9) (tgt := 28) X d_Hauls_total_9 (by decide) (fun c1 => ?_) (fun c1 => ?_)
  · have hM := hif_t hM c1
    refine J_lload_n (pc := 28) X 2 d_Hauls_total_28 rfl ?_
    obtain rfl := Option.some.inj hM
    exact J_lret (pc := 29) X hr hlk (Nat.le_of_ble_eq_true rfl) (Nat.le_of_ble_eq_true rfl) d_Hauls_total_29
  · have hM := hif_f hM c1
    refine J_lload_n (pc := 12) X 2 d_Hauls_total_12 rfl ?_
    refine J_aload_n (pc := 13) X 0 d_Hauls_total_13 rfl ?_
    refine J_iload_n (pc := 14) X 1 d_Hauls_total_14 rfl ?_
    refine J_iload (pc := 15) X 3 d_Hauls_total_15 rfl ?_
    obtain ⟨u2, eu2, hM⟩ := hb_some hM
    obtain ⟨q3, eq3, hM⟩ := hb_some hM
    refine J_callV (pc := 17) (As := [.int x1, .int x4]) (rest := [.long x2]) (o := (some (.long q3.1))) (h2 := q3.2) X rfl hc_Hauls eu2 (c_Hauls_gramsOf l D K F eq3) (cwV_of (nA := 2) X.fix k_43 k_45 k_46 k_40 k_44 ⟨rfl, rfl, rfl⟩ (by decide +kernel) ⟨Nat.le_of_ble_eq_true rfl, Nat.le_of_ble_eq_true rfl⟩) d_Hauls_total_17 rfl rfl (Nat.le_of_ble_eq_true rfl) (Nat.le_of_ble_eq_true rfl) (Nat.le_of_ble_eq_true rfl) ?_
    refine J_ladd (pc := 20) X d_Hauls_total_20 ?_
    refine J_lstore_n (pc := 21) (lv' := [(2, .long (x2 + q3.1)), (0, .ref x0), (1, .int x1), (4, .int x4)]) X d_Hauls_total_21 rfl (by decide) rfl ?_
    refine J_iinc (pc := 22) (v := x4 + 1) (lv' := [(4, .int (x4 + 1)), (2, .long (x2 + q3.1)), (0, .ref x0), (1, .int x1)]) X 3 d_Hauls_total_22 rfl rfl (by decide) rfl ?_
    refine J_goto (pc := 25) (tgt := 5) X d_Hauls_total_25 (by decide) ?_
    refine J_sub [2, 3, 1, 0] rfl ?_
    exact R5 _ _ _ _ _ _ hM
theorem w_Hauls_total_5 {p : Program} {l : Launch} {e : Env} {s : State} {m : MethodId} {args : Array Value} {below : List Frame} {meth : Method} {c : Code} {D : va_G} {K : (Nat → Nat) × (Nat → Nat)} {h0 : hH} (Y : HX p s m args meth c prog_6_method_5_code 5 "LicenceTexts$Hauls" D K "total" (some .long) h0) {F : Nat} : ∀ z : Nat, ∀ (h : hH) (x0 : Nat) (x1 : Int32) (x2 : Int64) (x4 : Int32) (q : (Int64 × hH)), M_Hauls_total_5 F z h x0 x1 x2 x4 = some q → J p l e rm_Hauls_total s m args below meth c 5 D cls0 (hF h0) h [(0, .ref x0), (1, .int x1), (2, .long x2), (4, .int x4)] 0 0 (MQ below (hQ D cls0 h0 (some (.long q.1)) q.2) args s 0 0 (hF h0)) 5 [] := by
  intro z
  induction z with
  | zero => intro h x0 x1 x2 x4 q hM; exact absurd (show (none : Option _) = some q from hM) (fun t => by cases t)
  | succ z ih => exact b_Hauls_total_5 Y ih
set_option maxHeartbeats 4000000 in
set_option maxRecDepth 100000 in
theorem c_Hauls_total (l : Launch) (D : va_G) (K : (Nat → Nat) × (Nat → Nat)) (F : Nat) {h : hH} {x0 : Nat} {x1 : Int32} {q : (Int64 × hH)} (hM : M_Hauls_total F h x0 x1 = some q) : Met l y_Hauls_total (.code y_Hauls_total prog_6_method_5_code 5 (some .long) :: T0) rm_Hauls_total (hPc hG D cls0 K [.ref x0, .int x1] h) (hQ D cls0 h (some (.long q.1)) q.2) 0 0 (hF h) := by
  refine J_met (lv := [(0, .ref x0), (1, .int x1)]) (by decide) (Nat.le_of_ble_eq_true rfl) rfl ?_
  intro p e s m below meth c X hr hlk hnm
  have Y : HX p s m _ meth c prog_6_method_5_code 5 "LicenceTexts$Hauls" D K "total" (some .long) h := ⟨X, hr, hlk, hnm⟩
  unfold M_Hauls_total at hM
  refine J_lconst (pc := 0) (v := (0)) X d_Hauls_total_0 (by decide) ?_
  refine J_lstore_n (pc := 1) (lv' := [(2, .long 0), (0, .ref x0), (1, .int x1)]) X d_Hauls_total_1 rfl (by decide) rfl ?_
  refine J_iconst (pc := 2) (v := (0)) X d_Hauls_total_2 (by decide) ?_
  refine J_istore (pc := 3) (lv' := [(4, .int 0), (2, .long 0), (0, .ref x0), (1, .int x1)]) X d_Hauls_total_3 (by decide) rfl ?_
  refine J_sub [2, 3, 1, 0] rfl ?_
  exact w_Hauls_total_5 Y F _ _ _ _ _ _ hM
abbrev rm_Hauls_greatestDivisor : Room := { frames := 0, cells := 0, slots := 0, locals := 0 }
set_option maxHeartbeats 4000000 in
set_option maxRecDepth 100000 in
theorem b_Hauls_greatestDivisor_9 {p : Program} {l : Launch} {e : Env} {s : State} {m : MethodId} {args : Array Value} {below : List Frame} {meth : Method} {c : Code} {D : va_G} {K : (Nat → Nat) × (Nat → Nat)} {h0 : hH} (Y : HX p s m args meth c prog_6_method_7_code 11 "LicenceTexts$Hauls" D K "greatestDivisor" (some .long) h0) {F : Nat}   {r9 : hH → Int64 → Int64 → Int32 → Option (Int64 × hH)} (R9 : ∀ (h : hH) (x4 : Int64) (x6 : Int64) (x8 : Int32) (q : (Int64 × hH)), r9 h x4 x6 x8 = some q → J p l e rm_Hauls_greatestDivisor s m args below meth c 11 D cls0 (hF h0) h [(4, .long x4), (6, .long x6), (8, .int x8)] 0 0 (MQ below (hQ D cls0 h0 (some (.long q.1)) q.2) args s 0 0 (hF h0)) 9 []) : ∀ (h : hH) (x4 : Int64) (x6 : Int64) (x8 : Int32) (q : (Int64 × hH)), B_Hauls_greatestDivisor_9 F r9 h x4 x6 x8 = some q → J p l e rm_Hauls_greatestDivisor s m args below meth c 11 D cls0 (hF h0) h [(4, .long x4), (6, .long x6), (8, .int x8)] 0 0 (MQ below (hQ D cls0 h0 (some (.long q.1)) q.2) args s 0 0 (hF h0)) 9 [] := by
  intro h x4 x6 x8 q hM
  obtain ⟨X, hr, hlk, hnm⟩ := id Y
  unfold B_Hauls_greatestDivisor_9 at hM
  refine J_iload (pc := 9) X 2 d_Hauls_greatestDivisor_9 rfl ?_
  refine J_sipush (pc := 11) (v := (200)) X d_Hauls_greatestDivisor_11 (by decide) ?_
  refine J_icmp_ge (pc := 14) (tgt := 45) X d_Hauls_greatestDivisor_14 (by decide) (fun c1 => ?_) (fun c1 => ?_)
  · have hM := hif_t hM c1
    refine J_lload (pc := 45) X 0 d_Hauls_greatestDivisor_45 rfl ?_
    obtain rfl := Option.some.inj hM
    exact J_lret (pc := 47) X hr hlk (Nat.le_of_ble_eq_true rfl) (Nat.le_of_ble_eq_true rfl) d_Hauls_greatestDivisor_47
  · have hM := hif_f hM c1
    refine J_lload (pc := 17) X 1 d_Hauls_greatestDivisor_17 rfl ?_
    refine J_lconst (pc := 19) (v := (0)) X d_Hauls_greatestDivisor_19 (by decide) ?_
    refine J_lcmp (pc := 20) X d_Hauls_greatestDivisor_20 ?_
    refine J_if_eq (pc := 21) (tgt := 45) X d_Hauls_greatestDivisor_21 (by decide) (fun c2 => ?_) (fun c2 => ?_)
    · have hM := hif_t hM c2
      refine J_lload (pc := 45) X 0 d_Hauls_greatestDivisor_45 rfl ?_
      obtain rfl := Option.some.inj hM
      exact J_lret (pc := 47) X hr hlk (Nat.le_of_ble_eq_true rfl) (Nat.le_of_ble_eq_true rfl) d_Hauls_greatestDivisor_47
    · have hM := hif_f hM c2
      refine J_lload (pc := 24) X 0 d_Hauls_greatestDivisor_24 rfl ?_
      refine J_lload (pc := 26) X 1 d_Hauls_greatestDivisor_26 rfl ?_
      obtain ⟨c3, hM⟩ := hnz hM
      refine J_lrem (pc := 28) X d_Hauls_greatestDivisor_28 c3 ?_
      refine J_lstore (pc := 29) (lv' := [(9, .long (x4 - x4 / x6 * x6)), (4, .long x4), (6, .long x6), (8, .int x8)]) X d_Hauls_greatestDivisor_29 (by decide) rfl ?_
      refine J_lload (pc := 31) X 2 d_Hauls_greatestDivisor_31 rfl ?_
      refine J_lstore (pc := 33) (lv' := [(4, .long x6), (9, .long (x4 - x4 / x6 * x6)), (6, .long x6), (8, .int x8)]) X d_Hauls_greatestDivisor_33 (by decide) rfl ?_
      refine J_lload (pc := 35) X 1 d_Hauls_greatestDivisor_35 rfl ?_
      refine J_lstore (pc := 37) (lv' := [(6, .long (x4 - x4 / x6 * x6)), (4, .long x6), (9, .long (x4 - x4 / x6 * x6)), (8, .int x8)]) X d_Hauls_greatestDivisor_37 (by decide) rfl ?_
      refine J_iinc (pc := 39) (v := x8 + 1) (lv' := [(8, .int (x8 + 1)), (6, .long (x4 - x4 / x6 * x6)), (4, .long x6), (9, .long (x4 - x4 / x6 * x6))]) X 3 d_Hauls_greatestDivisor_39 rfl rfl (by decide) rfl ?_
      refine J_goto (pc := 42) (tgt := 9) X d_Hauls_greatestDivisor_42 (by decide) ?_
      refine J_sub [2, 1, 0] rfl ?_
      exact R9 _ _ _ _ _ hM
theorem w_Hauls_greatestDivisor_9 {p : Program} {l : Launch} {e : Env} {s : State} {m : MethodId} {args : Array Value} {below : List Frame} {meth : Method} {c : Code} {D : va_G} {K : (Nat → Nat) × (Nat → Nat)} {h0 : hH} (Y : HX p s m args meth c prog_6_method_7_code 11 "LicenceTexts$Hauls" D K "greatestDivisor" (some .long) h0) {F : Nat} : ∀ z : Nat, ∀ (h : hH) (x4 : Int64) (x6 : Int64) (x8 : Int32) (q : (Int64 × hH)), M_Hauls_greatestDivisor_9 F z h x4 x6 x8 = some q → J p l e rm_Hauls_greatestDivisor s m args below meth c 11 D cls0 (hF h0) h [(4, .long x4), (6, .long x6), (8, .int x8)] 0 0 (MQ below (hQ D cls0 h0 (some (.long q.1)) q.2) args s 0 0 (hF h0)) 9 [] := by
  intro z
  induction z with
  | zero => intro h x4 x6 x8 q hM; exact absurd (show (none : Option _) = some q from hM) (fun t => by cases t)
  | succ z ih => exact b_Hauls_greatestDivisor_9 Y ih
set_option maxHeartbeats 4000000 in
set_option maxRecDepth 100000 in
theorem c_Hauls_greatestDivisor (l : Launch) (D : va_G) (K : (Nat → Nat) × (Nat → Nat)) (F : Nat) {h : hH} {x0 : Int64} {x2 : Int64} {q : (Int64 × hH)} (hM : M_Hauls_greatestDivisor F h x0 x2 = some q) : Met l y_Hauls_greatestDivisor (.code y_Hauls_greatestDivisor prog_6_method_7_code 11 (some .long) :: T0) rm_Hauls_greatestDivisor (hPc hG D cls0 K [.long x0, .long x2] h) (hQ D cls0 h (some (.long q.1)) q.2) 0 0 (hF h) := by
  refine J_met (lv := [(0, .long x0), (2, .long x2)]) (by decide) (Nat.le_of_ble_eq_true rfl) rfl ?_
  intro p e s m below meth c X hr hlk hnm
  have Y : HX p s m _ meth c prog_6_method_7_code 11 "LicenceTexts$Hauls" D K "greatestDivisor" (some .long) h := ⟨X, hr, hlk, hnm⟩
  unfold M_Hauls_greatestDivisor at hM
  refine J_lload_n (pc := 0) X 0 d_Hauls_greatestDivisor_0 rfl ?_
  refine J_lstore (pc := 1) (lv' := [(4, .long x0), (0, .long x0), (2, .long x2)]) X d_Hauls_greatestDivisor_1 (by decide) rfl ?_
  refine J_lload_n (pc := 3) X 2 d_Hauls_greatestDivisor_3 rfl ?_
  refine J_lstore (pc := 4) (lv' := [(6, .long x2), (4, .long x0), (0, .long x0), (2, .long x2)]) X d_Hauls_greatestDivisor_4 (by decide) rfl ?_
  refine J_iconst (pc := 6) (v := (0)) X d_Hauls_greatestDivisor_6 (by decide) ?_
  refine J_istore (pc := 7) (lv' := [(8, .int 0), (6, .long x2), (4, .long x0), (0, .long x0), (2, .long x2)]) X d_Hauls_greatestDivisor_7 (by decide) rfl ?_
  refine J_sub [2, 1, 0] rfl ?_
  exact w_Hauls_greatestDivisor_9 Y F _ _ _ _ _ hM
abbrev rm_Hauls_share : Room := { frames := 2, cells := 0, slots := 0, locals := 47 }
set_option maxHeartbeats 4000000 in
set_option maxRecDepth 100000 in
theorem c_Hauls_share (l : Launch) (D : va_G) (K : (Nat → Nat) × (Nat → Nat)) (F : Nat) {h : hH} {x0 : Nat} {x1 : Int32} {x2 : Int32} {x3 : Int32} {q : (Int64 × hH)} (hM : M_Hauls_share F h x0 x1 x2 x3 = some q) : Met l y_Hauls_share (.code y_Hauls_share prog_6_method_6_code 10 (some .long) :: T0) rm_Hauls_share (hPc hG D cls0 K [.ref x0, .int x1, .int x2, .int x3] h) (hQ D cls0 h (some (.long q.1)) q.2) 0 0 (hF h) := by
  refine J_met (lv := [(0, .ref x0), (1, .int x1), (2, .int x2), (3, .int x3)]) (by decide) (Nat.le_of_ble_eq_true rfl) rfl ?_
  intro p e s m below meth c X hr hlk hnm
  have Y : HX p s m _ meth c prog_6_method_6_code 10 "LicenceTexts$Hauls" D K "share" (some .long) h := ⟨X, hr, hlk, hnm⟩
  unfold M_Hauls_share at hM
  refine J_iload_n (pc := 0) X 1 d_Hauls_share_0 rfl ?_
  refine J_iload_n (pc := 1) X 2 d_Hauls_share_1 rfl ?_
  obtain ⟨q1, eq1, hM⟩ := hb_some hM
  refine J_callS (pc := 2) (As := [.int x1, .int x2]) (rest := []) (o := (some (.int q1.1))) (h2 := q1.2) X (c_Hauls_has l D K F eq1) (cwS_of (nA := 2) X.fix k_38 k_41 k_40 k_39 ⟨rfl, rfl⟩ (by decide +kernel) ⟨Nat.le_of_ble_eq_true rfl, Nat.le_of_ble_eq_true rfl⟩) d_Hauls_share_2 rfl rfl (Nat.le_of_ble_eq_true rfl) (Nat.le_of_ble_eq_true rfl) (Nat.le_of_ble_eq_true rfl) ?_
  refine J_if_eq (pc := 5) (tgt := 17) X d_Hauls_share_5 (by decide) (fun c2 => ?_) (fun c2 => ?_)
  · have hM := hif_t hM c2
    refine J_ldc2 (pc := 17) X k_47 d_Hauls_share_17 ?_
    obtain rfl := Option.some.inj hM
    exact J_lret (pc := 20) X hr hlk (Nat.le_of_ble_eq_true rfl) (Nat.le_of_ble_eq_true rfl) d_Hauls_share_20
  · have hM := hif_f hM c2
    refine J_iload_n (pc := 8) X 3 d_Hauls_share_8 rfl ?_
    refine J_if_lt (pc := 9) (tgt := 17) X d_Hauls_share_9 (by decide) (fun c3 => ?_) (fun c3 => ?_)
    · have hM := hif_t hM c3
      refine J_ldc2 (pc := 17) X k_47 d_Hauls_share_17 ?_
      obtain rfl := Option.some.inj hM
      exact J_lret (pc := 20) X hr hlk (Nat.le_of_ble_eq_true rfl) (Nat.le_of_ble_eq_true rfl) d_Hauls_share_20
    · have hM := hif_f hM c3
      refine J_iload_n (pc := 12) X 3 d_Hauls_share_12 rfl ?_
      refine J_iconst (pc := 13) (v := (1)) X d_Hauls_share_13 (by decide) ?_
      refine J_icmp_le (pc := 14) (tgt := 21) X d_Hauls_share_14 (by decide) (fun c4 => ?_) (fun c4 => ?_)
      · have hM := hif_t hM c4
        refine J_aload_n (pc := 21) X 0 d_Hauls_share_21 rfl ?_
        refine J_iload_n (pc := 22) X 1 d_Hauls_share_22 rfl ?_
        obtain ⟨u5, eu5, hM⟩ := hb_some hM
        obtain ⟨q6, eq6, hM⟩ := hb_some hM
        refine J_callV (pc := 23) (As := [.int x1]) (rest := []) (o := (some (.long q6.1))) (h2 := q6.2) X rfl hc_Hauls eu5 (c_Hauls_total l D K F eq6) (cwV_of (nA := 1) X.fix k_48 k_50 k_51 k_40 k_49 ⟨rfl, rfl, rfl⟩ (by decide +kernel) ⟨Nat.le_of_ble_eq_true rfl, Nat.le_of_ble_eq_true rfl⟩) d_Hauls_share_23 rfl rfl (Nat.le_of_ble_eq_true rfl) (Nat.le_of_ble_eq_true rfl) (Nat.le_of_ble_eq_true rfl) ?_
        refine J_lstore (pc := 26) (lv' := [(4, .long q6.1), (0, .ref x0), (1, .int x1), (2, .int x2), (3, .int x3)]) X d_Hauls_share_26 (by decide) rfl ?_
        refine J_aload_n (pc := 28) X 1 d_Hauls_share_28 rfl ?_
        refine J_iload_n (pc := 29) X 2 d_Hauls_share_29 rfl ?_
        refine J_iload_n (pc := 30) X 3 d_Hauls_share_30 rfl ?_
        obtain ⟨u7, eu7, hM⟩ := hb_some hM
        obtain ⟨q8, eq8, hM⟩ := hb_some hM
        refine J_callV (pc := 31) (As := [.int x1, .int x2]) (rest := []) (o := (some (.long q8.1))) (h2 := q8.2) X rfl hc_Hauls eu7 (c_Hauls_gramsOf l D K F eq8) (cwV_of (nA := 2) X.fix k_43 k_45 k_46 k_40 k_44 ⟨rfl, rfl, rfl⟩ (by decide +kernel) ⟨Nat.le_of_ble_eq_true rfl, Nat.le_of_ble_eq_true rfl⟩) d_Hauls_share_31 rfl rfl (Nat.le_of_ble_eq_true rfl) (Nat.le_of_ble_eq_true rfl) (Nat.le_of_ble_eq_true rfl) ?_
        refine J_lstore (pc := 34) (lv' := [(6, .long q8.1), (4, .long q6.1), (0, .ref x0), (1, .int x1), (2, .int x2), (3, .int x3)]) X d_Hauls_share_34 (by decide) rfl ?_
        refine J_lload (pc := 36) X 1 d_Hauls_share_36 rfl ?_
        refine J_lload (pc := 38) X 0 d_Hauls_share_38 rfl ?_
        obtain ⟨q9, eq9, hM⟩ := hb_some hM
        refine J_callS (pc := 40) (As := [.long q6.1, .long q8.1]) (rest := []) (o := (some (.long q9.1))) (h2 := q9.2) X (c_Hauls_greatestDivisor l D K F eq9) (cwS_of (nA := 2) X.fix k_52 k_54 k_40 k_53 ⟨rfl, rfl⟩ (by decide +kernel) ⟨Nat.le_of_ble_eq_true rfl, Nat.le_of_ble_eq_true rfl⟩) d_Hauls_share_40 rfl rfl (Nat.le_of_ble_eq_true rfl) (Nat.le_of_ble_eq_true rfl) (Nat.le_of_ble_eq_true rfl) ?_
        refine J_lstore (pc := 43) (lv' := [(8, .long q9.1), (6, .long q8.1), (4, .long q6.1), (0, .ref x0), (1, .int x1), (2, .int x2), (3, .int x3)]) X d_Hauls_share_43 (by decide) rfl ?_
        refine J_lload (pc := 45) X 0 d_Hauls_share_45 rfl ?_
        refine J_lconst (pc := 47) (v := (0)) X d_Hauls_share_47 (by decide) ?_
        refine J_lcmp (pc := 48) X d_Hauls_share_48 ?_
        refine J_if_ne (pc := 49) (tgt := 56) X d_Hauls_share_49 (by decide) (fun c10 => ?_) (fun c10 => ?_)
        · have hM := hif_f hM c10
          refine J_iload_n (pc := 56) X 6 d_Hauls_share_56 rfl ?_
          refine J_if_ne (pc := 57) (tgt := 68) X d_Hauls_share_57 (by decide) (fun c11 => ?_) (fun c11 => ?_)
          · have hM := hif_f hM c11
            refine J_lload (pc := 68) X 2 d_Hauls_share_68 rfl ?_
            refine J_lload (pc := 70) X 0 d_Hauls_share_70 rfl ?_
            obtain ⟨c12, hM⟩ := hnz hM
            refine J_ldiv (pc := 72) X d_Hauls_share_72 c12 ?_
            obtain rfl := Option.some.inj hM
            exact J_lret (pc := 73) X hr hlk (Nat.le_of_ble_eq_true rfl) (Nat.le_of_ble_eq_true rfl) d_Hauls_share_73
          · have hM := hif_t hM c11
            refine J_lload (pc := 60) X 1 d_Hauls_share_60 rfl ?_
            refine J_lload (pc := 62) X 0 d_Hauls_share_62 rfl ?_
            obtain ⟨c13, hM⟩ := hnz hM
            refine J_ldiv (pc := 64) X d_Hauls_share_64 c13 ?_
            refine J_goto (pc := 65) (tgt := 73) X d_Hauls_share_65 (by decide) ?_
            obtain rfl := Option.some.inj hM
            exact J_lret (pc := 73) X hr hlk (Nat.le_of_ble_eq_true rfl) (Nat.le_of_ble_eq_true rfl) d_Hauls_share_73
        · have hM := hif_t hM c10
          refine J_ldc2 (pc := 52) X k_47 d_Hauls_share_52 ?_
          obtain rfl := Option.some.inj hM
          exact J_lret (pc := 55) X hr hlk (Nat.le_of_ble_eq_true rfl) (Nat.le_of_ble_eq_true rfl) d_Hauls_share_55
      · have hM := hif_f hM c4
        refine J_ldc2 (pc := 17) X k_47 d_Hauls_share_17 ?_
        obtain rfl := Option.some.inj hM
        exact J_lret (pc := 20) X hr hlk (Nat.le_of_ble_eq_true rfl) (Nat.le_of_ble_eq_true rfl) d_Hauls_share_20
end
section
theorem d_Steps_init_0 : decode prog_9_method_1_code 0 = .ok (.aload_n 0, 1) := by decide +kernel
theorem d_Steps_init_1 : decode prog_9_method_1_code 1 = .ok (.invokespecial 3, 3) := by decide +kernel
theorem d_Steps_init_4 : decode prog_9_method_1_code 4 = .ok (.aload_n 0, 1) := by decide +kernel
theorem d_Steps_init_5 : decode prog_9_method_1_code 5 = .ok (.sipush 400, 3) := by decide +kernel
theorem d_Steps_init_8 : decode prog_9_method_1_code 8 = .ok (.newarray .int, 2) := by decide +kernel
theorem d_Steps_init_10 : decode prog_9_method_1_code 10 = .ok (.putfield 11, 3) := by decide +kernel
theorem d_Steps_init_13 : decode prog_9_method_1_code 13 = .ok (.aload_n 0, 1) := by decide +kernel
theorem d_Steps_init_14 : decode prog_9_method_1_code 14 = .ok (.sipush 400, 3) := by decide +kernel
theorem d_Steps_init_17 : decode prog_9_method_1_code 17 = .ok (.newarray .int, 2) := by decide +kernel
theorem d_Steps_init_19 : decode prog_9_method_1_code 19 = .ok (.putfield 17, 3) := by decide +kernel
theorem d_Steps_init_22 : decode prog_9_method_1_code 22 = .ok (.aload_n 0, 1) := by decide +kernel
theorem d_Steps_init_23 : decode prog_9_method_1_code 23 = .ok (.iconst 0, 1) := by decide +kernel
theorem d_Steps_init_24 : decode prog_9_method_1_code 24 = .ok (.putfield 20, 3) := by decide +kernel
theorem d_Steps_init_27 : decode prog_9_method_1_code 27 = .ok (.return_, 1) := by decide +kernel
theorem d_Steps_add_0 : decode prog_9_method_2_code 0 = .ok (.aload_n 0, 1) := by decide +kernel
theorem d_Steps_add_1 : decode prog_9_method_2_code 1 = .ok (.getfield 20, 3) := by decide +kernel
theorem d_Steps_add_4 : decode prog_9_method_2_code 4 = .ok (.ifCond .lt 57, 3) := by decide +kernel
theorem d_Steps_add_61 : decode prog_9_method_2_code 61 = .ok (.return_, 1) := by decide +kernel
theorem d_Steps_add_7 : decode prog_9_method_2_code 7 = .ok (.aload_n 0, 1) := by decide +kernel
theorem d_Steps_add_8 : decode prog_9_method_2_code 8 = .ok (.getfield 20, 3) := by decide +kernel
theorem d_Steps_add_11 : decode prog_9_method_2_code 11 = .ok (.aload_n 0, 1) := by decide +kernel
theorem d_Steps_add_12 : decode prog_9_method_2_code 12 = .ok (.getfield 11, 3) := by decide +kernel
theorem d_Steps_add_15 : decode prog_9_method_2_code 15 = .ok (.arraylength, 1) := by decide +kernel
theorem d_Steps_add_16 : decode prog_9_method_2_code 16 = .ok (.if_icmp .ge 45, 3) := by decide +kernel
theorem d_Steps_add_19 : decode prog_9_method_2_code 19 = .ok (.aload_n 0, 1) := by decide +kernel
theorem d_Steps_add_20 : decode prog_9_method_2_code 20 = .ok (.getfield 20, 3) := by decide +kernel
theorem d_Steps_add_23 : decode prog_9_method_2_code 23 = .ok (.aload_n 0, 1) := by decide +kernel
theorem d_Steps_add_24 : decode prog_9_method_2_code 24 = .ok (.getfield 17, 3) := by decide +kernel
theorem d_Steps_add_27 : decode prog_9_method_2_code 27 = .ok (.arraylength, 1) := by decide +kernel
theorem d_Steps_add_28 : decode prog_9_method_2_code 28 = .ok (.if_icmp .ge 33, 3) := by decide +kernel
theorem d_Steps_add_31 : decode prog_9_method_2_code 31 = .ok (.aload_n 0, 1) := by decide +kernel
theorem d_Steps_add_32 : decode prog_9_method_2_code 32 = .ok (.getfield 11, 3) := by decide +kernel
theorem d_Steps_add_35 : decode prog_9_method_2_code 35 = .ok (.aload_n 0, 1) := by decide +kernel
theorem d_Steps_add_36 : decode prog_9_method_2_code 36 = .ok (.getfield 20, 3) := by decide +kernel
theorem d_Steps_add_39 : decode prog_9_method_2_code 39 = .ok (.iload_n 1, 1) := by decide +kernel
theorem d_Steps_add_40 : decode prog_9_method_2_code 40 = .ok (.iastore, 1) := by decide +kernel
theorem d_Steps_add_41 : decode prog_9_method_2_code 41 = .ok (.aload_n 0, 1) := by decide +kernel
theorem d_Steps_add_42 : decode prog_9_method_2_code 42 = .ok (.getfield 17, 3) := by decide +kernel
theorem d_Steps_add_45 : decode prog_9_method_2_code 45 = .ok (.aload_n 0, 1) := by decide +kernel
theorem d_Steps_add_46 : decode prog_9_method_2_code 46 = .ok (.getfield 20, 3) := by decide +kernel
theorem d_Steps_add_49 : decode prog_9_method_2_code 49 = .ok (.iload_n 2, 1) := by decide +kernel
theorem d_Steps_add_50 : decode prog_9_method_2_code 50 = .ok (.iastore, 1) := by decide +kernel
theorem d_Steps_add_51 : decode prog_9_method_2_code 51 = .ok (.aload_n 0, 1) := by decide +kernel
theorem d_Steps_add_52 : decode prog_9_method_2_code 52 = .ok (.dup, 1) := by decide +kernel
theorem d_Steps_add_53 : decode prog_9_method_2_code 53 = .ok (.getfield 20, 3) := by decide +kernel
theorem d_Steps_add_56 : decode prog_9_method_2_code 56 = .ok (.iconst 1, 1) := by decide +kernel
theorem d_Steps_add_57 : decode prog_9_method_2_code 57 = .ok (.iadd, 1) := by decide +kernel
theorem d_Steps_add_58 : decode prog_9_method_2_code 58 = .ok (.putfield 20, 3) := by decide +kernel
theorem d_Steps_kindAt_0 : decode prog_9_method_3_code 0 = .ok (.iload_n 1, 1) := by decide +kernel
theorem d_Steps_kindAt_1 : decode prog_9_method_3_code 1 = .ok (.ifCond .lt 29, 3) := by decide +kernel
theorem d_Steps_kindAt_30 : decode prog_9_method_3_code 30 = .ok (.iconst (-1), 1) := by decide +kernel
theorem d_Steps_kindAt_31 : decode prog_9_method_3_code 31 = .ok (.ireturn, 1) := by decide +kernel
theorem d_Steps_kindAt_4 : decode prog_9_method_3_code 4 = .ok (.iload_n 1, 1) := by decide +kernel
theorem d_Steps_kindAt_5 : decode prog_9_method_3_code 5 = .ok (.aload_n 0, 1) := by decide +kernel
theorem d_Steps_kindAt_6 : decode prog_9_method_3_code 6 = .ok (.getfield 20, 3) := by decide +kernel
theorem d_Steps_kindAt_9 : decode prog_9_method_3_code 9 = .ok (.if_icmp .ge 21, 3) := by decide +kernel
theorem d_Steps_kindAt_12 : decode prog_9_method_3_code 12 = .ok (.iload_n 1, 1) := by decide +kernel
theorem d_Steps_kindAt_13 : decode prog_9_method_3_code 13 = .ok (.aload_n 0, 1) := by decide +kernel
theorem d_Steps_kindAt_14 : decode prog_9_method_3_code 14 = .ok (.getfield 11, 3) := by decide +kernel
theorem d_Steps_kindAt_17 : decode prog_9_method_3_code 17 = .ok (.arraylength, 1) := by decide +kernel
theorem d_Steps_kindAt_18 : decode prog_9_method_3_code 18 = .ok (.if_icmp .ge 12, 3) := by decide +kernel
theorem d_Steps_kindAt_21 : decode prog_9_method_3_code 21 = .ok (.aload_n 0, 1) := by decide +kernel
theorem d_Steps_kindAt_22 : decode prog_9_method_3_code 22 = .ok (.getfield 11, 3) := by decide +kernel
theorem d_Steps_kindAt_25 : decode prog_9_method_3_code 25 = .ok (.iload_n 1, 1) := by decide +kernel
theorem d_Steps_kindAt_26 : decode prog_9_method_3_code 26 = .ok (.iaload, 1) := by decide +kernel
theorem d_Steps_kindAt_27 : decode prog_9_method_3_code 27 = .ok (.goto 4, 3) := by decide +kernel
theorem d_Steps_valueAt_0 : decode prog_9_method_4_code 0 = .ok (.iload_n 1, 1) := by decide +kernel
theorem d_Steps_valueAt_1 : decode prog_9_method_4_code 1 = .ok (.ifCond .lt 29, 3) := by decide +kernel
theorem d_Steps_valueAt_30 : decode prog_9_method_4_code 30 = .ok (.iconst (-1), 1) := by decide +kernel
theorem d_Steps_valueAt_31 : decode prog_9_method_4_code 31 = .ok (.ireturn, 1) := by decide +kernel
theorem d_Steps_valueAt_4 : decode prog_9_method_4_code 4 = .ok (.iload_n 1, 1) := by decide +kernel
theorem d_Steps_valueAt_5 : decode prog_9_method_4_code 5 = .ok (.aload_n 0, 1) := by decide +kernel
theorem d_Steps_valueAt_6 : decode prog_9_method_4_code 6 = .ok (.getfield 20, 3) := by decide +kernel
theorem d_Steps_valueAt_9 : decode prog_9_method_4_code 9 = .ok (.if_icmp .ge 21, 3) := by decide +kernel
theorem d_Steps_valueAt_12 : decode prog_9_method_4_code 12 = .ok (.iload_n 1, 1) := by decide +kernel
theorem d_Steps_valueAt_13 : decode prog_9_method_4_code 13 = .ok (.aload_n 0, 1) := by decide +kernel
theorem d_Steps_valueAt_14 : decode prog_9_method_4_code 14 = .ok (.getfield 17, 3) := by decide +kernel
theorem d_Steps_valueAt_17 : decode prog_9_method_4_code 17 = .ok (.arraylength, 1) := by decide +kernel
theorem d_Steps_valueAt_18 : decode prog_9_method_4_code 18 = .ok (.if_icmp .ge 12, 3) := by decide +kernel
theorem d_Steps_valueAt_21 : decode prog_9_method_4_code 21 = .ok (.aload_n 0, 1) := by decide +kernel
theorem d_Steps_valueAt_22 : decode prog_9_method_4_code 22 = .ok (.getfield 17, 3) := by decide +kernel
theorem d_Steps_valueAt_25 : decode prog_9_method_4_code 25 = .ok (.iload_n 1, 1) := by decide +kernel
theorem d_Steps_valueAt_26 : decode prog_9_method_4_code 26 = .ok (.iaload, 1) := by decide +kernel
theorem d_Steps_valueAt_27 : decode prog_9_method_4_code 27 = .ok (.goto 4, 3) := by decide +kernel
theorem d_Steps_removeLast_0 : decode prog_9_method_5_code 0 = .ok (.aload_n 0, 1) := by decide +kernel
theorem d_Steps_removeLast_1 : decode prog_9_method_5_code 1 = .ok (.getfield 20, 3) := by decide +kernel
theorem d_Steps_removeLast_4 : decode prog_9_method_5_code 4 = .ok (.ifCond .le 13, 3) := by decide +kernel
theorem d_Steps_removeLast_17 : decode prog_9_method_5_code 17 = .ok (.return_, 1) := by decide +kernel
theorem d_Steps_removeLast_7 : decode prog_9_method_5_code 7 = .ok (.aload_n 0, 1) := by decide +kernel
theorem d_Steps_removeLast_8 : decode prog_9_method_5_code 8 = .ok (.dup, 1) := by decide +kernel
theorem d_Steps_removeLast_9 : decode prog_9_method_5_code 9 = .ok (.getfield 20, 3) := by decide +kernel
theorem d_Steps_removeLast_12 : decode prog_9_method_5_code 12 = .ok (.iconst 1, 1) := by decide +kernel
theorem d_Steps_removeLast_13 : decode prog_9_method_5_code 13 = .ok (.isub, 1) := by decide +kernel
theorem d_Steps_removeLast_14 : decode prog_9_method_5_code 14 = .ok (.putfield 20, 3) := by decide +kernel
theorem d_Rule_init_0 : decode prog_8_method_1_code 0 = .ok (.aload_n 0, 1) := by decide +kernel
theorem d_Rule_init_1 : decode prog_8_method_1_code 1 = .ok (.invokespecial 1, 3) := by decide +kernel
theorem d_Rule_init_4 : decode prog_8_method_1_code 4 = .ok (.aload_n 0, 1) := by decide +kernel
theorem d_Rule_init_5 : decode prog_8_method_1_code 5 = .ok (.iload_n 1, 1) := by decide +kernel
theorem d_Rule_init_6 : decode prog_8_method_1_code 6 = .ok (.putfield 7, 3) := by decide +kernel
theorem d_Rule_init_9 : decode prog_8_method_1_code 9 = .ok (.aload_n 0, 1) := by decide +kernel
theorem d_Rule_init_10 : decode prog_8_method_1_code 10 = .ok (.iload_n 2, 1) := by decide +kernel
theorem d_Rule_init_11 : decode prog_8_method_1_code 11 = .ok (.putfield 13, 3) := by decide +kernel
theorem d_Rule_init_14 : decode prog_8_method_1_code 14 = .ok (.aload_n 0, 1) := by decide +kernel
theorem d_Rule_init_15 : decode prog_8_method_1_code 15 = .ok (.iload_n 1, 1) := by decide +kernel
theorem d_Rule_init_16 : decode prog_8_method_1_code 16 = .ok (.putfield 16, 3) := by decide +kernel
theorem d_Rule_init_19 : decode prog_8_method_1_code 19 = .ok (.aload_n 0, 1) := by decide +kernel
theorem d_Rule_init_20 : decode prog_8_method_1_code 20 = .ok (.iload_n 2, 1) := by decide +kernel
theorem d_Rule_init_21 : decode prog_8_method_1_code 21 = .ok (.putfield 19, 3) := by decide +kernel
theorem d_Rule_init_24 : decode prog_8_method_1_code 24 = .ok (.aload_n 0, 1) := by decide +kernel
theorem d_Rule_init_25 : decode prog_8_method_1_code 25 = .ok (.iload_n 2, 1) := by decide +kernel
theorem d_Rule_init_26 : decode prog_8_method_1_code 26 = .ok (.putfield 22, 3) := by decide +kernel
theorem d_Rule_init_29 : decode prog_8_method_1_code 29 = .ok (.return_, 1) := by decide +kernel
def M_Steps_init (F : Nat) (h : hH) (x0 : Nat) : Option hH :=
  (some (hAdd h (.inr (.int, 400, .inl (fun _ => 0))))).bind fun h1 =>
  (hPut h1 x0 7 0 (.ref h.1)).bind fun h2 =>
  (some (hAdd h2 (.inr (.int, 400, .inl (fun _ => 0))))).bind fun h3 =>
  (hPut h3 x0 7 1 (.ref h2.1)).bind fun h4 =>
  (hPut h4 x0 7 2 (.int 0)).bind fun h5 =>
  some h5
def M_Steps_add (F : Nat) (h : hH) (x0 : Nat) (x1 : Int32) (x2 : Int32) : Option hH :=
  (hGetI h x0 7 2).bind fun v1 =>
  if v1 < 0 then (
    some h
  ) else (
    (hGetI h x0 7 2).bind fun v3 =>
    (hGetA h x0 7 0).bind fun v4 =>
    (hLen h v4).bind fun v5 =>
    if v5 ≤ v3 then (
      some h
    ) else (
      (hGetI h x0 7 2).bind fun v7 =>
      (hGetA h x0 7 1).bind fun v8 =>
      (hLen h v8).bind fun v9 =>
      if v9 ≤ v7 then (
        some h
      ) else (
        (hGetA h x0 7 0).bind fun v11 =>
        (hGetI h x0 7 2).bind fun v12 =>
        (hStI h v11 v12 x1).bind fun h13 =>
        (hGetA h13 x0 7 1).bind fun v14 =>
        (hGetI h13 x0 7 2).bind fun v15 =>
        (hStI h13 v14 v15 x2).bind fun h16 =>
        (hGetI h16 x0 7 2).bind fun v17 =>
        (hPut h16 x0 7 2 (.int (v17 + 1))).bind fun h18 =>
        some h18
      )
    )
  )
def M_Steps_kindAt (F : Nat) (h : hH) (x0 : Nat) (x1 : Int32) : Option (Int32 × hH) :=
  if x1 < 0 then (
    some ((-1), h)
  ) else (
    (hGetI h x0 7 2).bind fun v2 =>
    if v2 ≤ x1 then (
      some ((-1), h)
    ) else (
      (hGetA h x0 7 0).bind fun v4 =>
      (hLen h v4).bind fun v5 =>
      if v5 ≤ x1 then (
        some ((-1), h)
      ) else (
        (hGetA h x0 7 0).bind fun v7 =>
        (hLdI h v7 .int x1).bind fun v8 =>
        some (v8, h)
      )
    )
  )
def M_Steps_valueAt (F : Nat) (h : hH) (x0 : Nat) (x1 : Int32) : Option (Int32 × hH) :=
  if x1 < 0 then (
    some ((-1), h)
  ) else (
    (hGetI h x0 7 2).bind fun v2 =>
    if v2 ≤ x1 then (
      some ((-1), h)
    ) else (
      (hGetA h x0 7 1).bind fun v4 =>
      (hLen h v4).bind fun v5 =>
      if v5 ≤ x1 then (
        some ((-1), h)
      ) else (
        (hGetA h x0 7 1).bind fun v7 =>
        (hLdI h v7 .int x1).bind fun v8 =>
        some (v8, h)
      )
    )
  )
def M_Steps_removeLast (F : Nat) (h : hH) (x0 : Nat) : Option hH :=
  (hGetI h x0 7 2).bind fun v1 =>
  if v1 ≤ 0 then (
    some h
  ) else (
    (hGetI h x0 7 2).bind fun v3 =>
    (hPut h x0 7 2 (.int (v3 - 1))).bind fun h4 =>
    some h4
  )
def M_Rule_init (F : Nat) (h : hH) (x0 : Nat) (x1 : Int32) (x2 : Int32) : Option hH :=
  (hPut h x0 6 0 (.int x1)).bind fun h1 =>
  (hPut h1 x0 6 1 (.int x2)).bind fun h2 =>
  (hPut h2 x0 6 2 (.int x1)).bind fun h3 =>
  (hPut h3 x0 6 3 (.int x2)).bind fun h4 =>
  (hPut h4 x0 6 4 (.int x2)).bind fun h5 =>
  some h5
abbrev rm_Steps_init : Room := { frames := 1, cells := 2, slots := 800, locals := 12 }
set_option maxHeartbeats 4000000 in
set_option maxRecDepth 100000 in
theorem c_Steps_init (l : Launch) (D : va_G) (K : (Nat → Nat) × (Nat → Nat)) (F : Nat) {h : hH} {x0 : Nat} {q : hH} (hM : M_Steps_init F h x0 = some q) : Met l y_Steps_init (.code y_Steps_init prog_9_method_1_code 1 none :: T0) rm_Steps_init (hPc hG D cls0 K [.ref x0] h) (hQ D cls0 h none q) 2 800 (hF h) := by
  refine J_met (lv := [(0, .ref x0)]) (by decide) (Nat.le_of_ble_eq_true rfl) rfl ?_
  intro p e s m below meth c X hr hlk hnm
  have Y : HX p s m _ meth c prog_9_method_1_code 1 "LicenceTexts$Steps" D K "<init>" none h := ⟨X, hr, hlk, hnm⟩
  unfold M_Steps_init at hM
  refine J_aload_n (pc := 0) X 0 d_Steps_init_0 rfl ?_
  refine J_objInit (pc := 1) X k_55 k_1 k_2 d_Steps_init_1 (Nat.le_of_ble_eq_true rfl) (Nat.le_of_ble_eq_true rfl) ?_
  refine J_aload_n (pc := 4) X 0 d_Steps_init_4 rfl ?_
  refine J_sipush (pc := 5) (v := (400)) X d_Steps_init_5 (by decide) ?_
  refine J_newa (pc := 8) (ty := .int) (N := 400) (a0 := (400, .inl (fun _ => 0))) X rfl k_17 d_Steps_init_8 (fun _ => rfl) (fun _ _ hq => hq) (by decide) (by decide) (by decide) (Nat.le_of_ble_eq_true rfl) (Nat.le_of_ble_eq_true rfl) ?_
  obtain ⟨h1, eh1, hM⟩ := hb_some hM
  rw [Option.some.inj eh1]
  obtain ⟨h2, eh2, hM⟩ := hb_some hM
  refine J_putF (pc := 10) X hc_Steps in_Steps t_Steps tk_Steps nk_Steps 0 k_56 (by decide) rfl rfl rfl hnm d_Steps_init_10 rfl rfl rfl eh2 ?_
  refine J_aload_n (pc := 13) X 0 d_Steps_init_13 rfl ?_
  refine J_sipush (pc := 14) (v := (400)) X d_Steps_init_14 (by decide) ?_
  refine J_newa (pc := 17) (ty := .int) (N := 400) (a0 := (400, .inl (fun _ => 0))) X rfl k_17 d_Steps_init_17 (fun _ => rfl) (fun _ _ hq => hq) (by decide) (by decide) (by decide) (Nat.le_of_ble_eq_true rfl) (Nat.le_of_ble_eq_true rfl) ?_
  obtain ⟨h3, eh3, hM⟩ := hb_some hM
  rw [Option.some.inj eh3]
  obtain ⟨h4, eh4, hM⟩ := hb_some hM
  refine J_putF (pc := 19) X hc_Steps in_Steps t_Steps tk_Steps nk_Steps 1 k_57 (by decide) rfl rfl rfl hnm d_Steps_init_19 rfl rfl rfl eh4 ?_
  refine J_aload_n (pc := 22) X 0 d_Steps_init_22 rfl ?_
  refine J_iconst (pc := 23) (v := (0)) X d_Steps_init_23 (by decide) ?_
  obtain ⟨h5, eh5, hM⟩ := hb_some hM
  refine J_put (pc := 24) X hc_Steps in_Steps t_Steps tk_Steps nk_Steps 2 k_58 (by decide) rfl rfl d_Steps_init_24 rfl rfl rfl eh5 ?_
  obtain rfl := Option.some.inj hM
  exact J_vret (pc := 27) X hr hlk (Nat.le_of_ble_eq_true rfl) (Nat.le_of_ble_eq_true rfl) d_Steps_init_27
abbrev rm_Steps_add : Room := { frames := 0, cells := 0, slots := 0, locals := 0 }
set_option maxHeartbeats 4000000 in
set_option maxRecDepth 100000 in
theorem c_Steps_add (l : Launch) (D : va_G) (K : (Nat → Nat) × (Nat → Nat)) (F : Nat) {h : hH} {x0 : Nat} {x1 : Int32} {x2 : Int32} {q : hH} (hM : M_Steps_add F h x0 x1 x2 = some q) : Met l y_Steps_add (.code y_Steps_add prog_9_method_2_code 3 none :: T0) rm_Steps_add (hPc hG D cls0 K [.ref x0, .int x1, .int x2] h) (hQ D cls0 h none q) 0 0 (hF h) := by
  refine J_met (lv := [(0, .ref x0), (1, .int x1), (2, .int x2)]) (by decide) (Nat.le_of_ble_eq_true rfl) rfl ?_
  intro p e s m below meth c X hr hlk hnm
  have Y : HX p s m _ meth c prog_9_method_2_code 3 "LicenceTexts$Steps" D K "add" none h := ⟨X, hr, hlk, hnm⟩
  unfold M_Steps_add at hM
  refine J_aload_n (pc := 0) X 0 d_Steps_add_0 rfl ?_
  obtain ⟨v1, ev1, hM⟩ := hb_some hM
  refine J_getI (pc := 1) X hc_Steps in_Steps 2 k_58 (by decide) rfl d_Steps_add_1 rfl ev1 ?_
  refine J_if_lt (pc := 4) (tgt := 61) X d_Steps_add_4 (by decide) (fun c2 => ?_) (fun c2 => ?_)
  · have hM := hif_t hM c2
    obtain rfl := Option.some.inj hM
    exact J_vret (pc := 61) X hr hlk (Nat.le_of_ble_eq_true rfl) (Nat.le_of_ble_eq_true rfl) d_Steps_add_61
  · have hM := hif_f hM c2
    refine J_aload_n (pc := 7) X 0 d_Steps_add_7 rfl ?_
    obtain ⟨v3, ev3, hM⟩ := hb_some hM
    refine J_getI (pc := 8) X hc_Steps in_Steps 2 k_58 (by decide) rfl d_Steps_add_8 rfl ev3 ?_
    refine J_aload_n (pc := 11) X 0 d_Steps_add_11 rfl ?_
    obtain ⟨v4, ev4, hM⟩ := hb_some hM
    refine J_getA (pc := 12) X hc_Steps in_Steps 0 k_56 (by decide) rfl d_Steps_add_12 rfl ev4 ?_
    obtain ⟨v5, ev5, hM⟩ := hb_some hM
    refine J_alen (pc := 15) X d_Steps_add_15 rfl ev5 ?_
    refine J_icmp_ge (pc := 16) (tgt := 61) X d_Steps_add_16 (by decide) (fun c6 => ?_) (fun c6 => ?_)
    · have hM := hif_t hM c6
      obtain rfl := Option.some.inj hM
      exact J_vret (pc := 61) X hr hlk (Nat.le_of_ble_eq_true rfl) (Nat.le_of_ble_eq_true rfl) d_Steps_add_61
    · have hM := hif_f hM c6
      refine J_aload_n (pc := 19) X 0 d_Steps_add_19 rfl ?_
      obtain ⟨v7, ev7, hM⟩ := hb_some hM
      refine J_getI (pc := 20) X hc_Steps in_Steps 2 k_58 (by decide) rfl d_Steps_add_20 rfl ev7 ?_
      refine J_aload_n (pc := 23) X 0 d_Steps_add_23 rfl ?_
      obtain ⟨v8, ev8, hM⟩ := hb_some hM
      refine J_getA (pc := 24) X hc_Steps in_Steps 1 k_57 (by decide) rfl d_Steps_add_24 rfl ev8 ?_
      obtain ⟨v9, ev9, hM⟩ := hb_some hM
      refine J_alen (pc := 27) X d_Steps_add_27 rfl ev9 ?_
      refine J_icmp_ge (pc := 28) (tgt := 61) X d_Steps_add_28 (by decide) (fun c10 => ?_) (fun c10 => ?_)
      · have hM := hif_t hM c10
        obtain rfl := Option.some.inj hM
        exact J_vret (pc := 61) X hr hlk (Nat.le_of_ble_eq_true rfl) (Nat.le_of_ble_eq_true rfl) d_Steps_add_61
      · have hM := hif_f hM c10
        refine J_aload_n (pc := 31) X 0 d_Steps_add_31 rfl ?_
        obtain ⟨v11, ev11, hM⟩ := hb_some hM
        refine J_getA (pc := 32) X hc_Steps in_Steps 0 k_56 (by decide) rfl d_Steps_add_32 rfl ev11 ?_
        refine J_aload_n (pc := 35) X 0 d_Steps_add_35 rfl ?_
        obtain ⟨v12, ev12, hM⟩ := hb_some hM
        refine J_getI (pc := 36) X hc_Steps in_Steps 2 k_58 (by decide) rfl d_Steps_add_36 rfl ev12 ?_
        refine J_iload_n (pc := 39) X 1 d_Steps_add_39 rfl ?_
        obtain ⟨h13, eh13, hM⟩ := hb_some hM
        refine J_iast (pc := 40) X d_Steps_add_40 rfl eh13 ?_
        refine J_aload_n (pc := 41) X 0 d_Steps_add_41 rfl ?_
        obtain ⟨v14, ev14, hM⟩ := hb_some hM
        refine J_getA (pc := 42) X hc_Steps in_Steps 1 k_57 (by decide) rfl d_Steps_add_42 rfl ev14 ?_
        refine J_aload_n (pc := 45) X 0 d_Steps_add_45 rfl ?_
        obtain ⟨v15, ev15, hM⟩ := hb_some hM
        refine J_getI (pc := 46) X hc_Steps in_Steps 2 k_58 (by decide) rfl d_Steps_add_46 rfl ev15 ?_
        refine J_iload_n (pc := 49) X 2 d_Steps_add_49 rfl ?_
        obtain ⟨h16, eh16, hM⟩ := hb_some hM
        refine J_iast (pc := 50) X d_Steps_add_50 rfl eh16 ?_
        refine J_aload_n (pc := 51) X 0 d_Steps_add_51 rfl ?_
        refine J_dup (pc := 52) X d_Steps_add_52 rfl ?_
        obtain ⟨v17, ev17, hM⟩ := hb_some hM
        refine J_getI (pc := 53) X hc_Steps in_Steps 2 k_58 (by decide) rfl d_Steps_add_53 rfl ev17 ?_
        refine J_iconst (pc := 56) (v := (1)) X d_Steps_add_56 (by decide) ?_
        refine J_iadd (pc := 57) X d_Steps_add_57 ?_
        obtain ⟨h18, eh18, hM⟩ := hb_some hM
        refine J_put (pc := 58) X hc_Steps in_Steps t_Steps tk_Steps nk_Steps 2 k_58 (by decide) rfl rfl d_Steps_add_58 rfl rfl rfl eh18 ?_
        obtain rfl := Option.some.inj hM
        exact J_vret (pc := 61) X hr hlk (Nat.le_of_ble_eq_true rfl) (Nat.le_of_ble_eq_true rfl) d_Steps_add_61
abbrev rm_Steps_kindAt : Room := { frames := 0, cells := 0, slots := 0, locals := 0 }
set_option maxHeartbeats 4000000 in
set_option maxRecDepth 100000 in
theorem c_Steps_kindAt (l : Launch) (D : va_G) (K : (Nat → Nat) × (Nat → Nat)) (F : Nat) {h : hH} {x0 : Nat} {x1 : Int32} {q : (Int32 × hH)} (hM : M_Steps_kindAt F h x0 x1 = some q) : Met l y_Steps_kindAt (.code y_Steps_kindAt prog_9_method_3_code 2 (some .int) :: T0) rm_Steps_kindAt (hPc hG D cls0 K [.ref x0, .int x1] h) (hQ D cls0 h (some (.int q.1)) q.2) 0 0 (hF h) := by
  refine J_met (lv := [(0, .ref x0), (1, .int x1)]) (by decide) (Nat.le_of_ble_eq_true rfl) rfl ?_
  intro p e s m below meth c X hr hlk hnm
  have Y : HX p s m _ meth c prog_9_method_3_code 2 "LicenceTexts$Steps" D K "kindAt" (some .int) h := ⟨X, hr, hlk, hnm⟩
  unfold M_Steps_kindAt at hM
  refine J_iload_n (pc := 0) X 1 d_Steps_kindAt_0 rfl ?_
  refine J_if_lt (pc := 1) (tgt := 30) X d_Steps_kindAt_1 (by decide) (fun c1 => ?_) (fun c1 => ?_)
  · have hM := hif_t hM c1
    refine J_iconst (pc := 30) (v := (-1)) X d_Steps_kindAt_30 (by decide) ?_
    obtain rfl := Option.some.inj hM
    exact J_iret (pc := 31) X hr hlk (Nat.le_of_ble_eq_true rfl) (Nat.le_of_ble_eq_true rfl) d_Steps_kindAt_31
  · have hM := hif_f hM c1
    refine J_iload_n (pc := 4) X 1 d_Steps_kindAt_4 rfl ?_
    refine J_aload_n (pc := 5) X 0 d_Steps_kindAt_5 rfl ?_
    obtain ⟨v2, ev2, hM⟩ := hb_some hM
    refine J_getI (pc := 6) X hc_Steps in_Steps 2 k_58 (by decide) rfl d_Steps_kindAt_6 rfl ev2 ?_
    refine J_icmp_ge (pc := 9) (tgt := 30) X d_Steps_kindAt_9 (by decide) (fun c3 => ?_) (fun c3 => ?_)
    · have hM := hif_t hM c3
      refine J_iconst (pc := 30) (v := (-1)) X d_Steps_kindAt_30 (by decide) ?_
      obtain rfl := Option.some.inj hM
      exact J_iret (pc := 31) X hr hlk (Nat.le_of_ble_eq_true rfl) (Nat.le_of_ble_eq_true rfl) d_Steps_kindAt_31
    · have hM := hif_f hM c3
      refine J_iload_n (pc := 12) X 1 d_Steps_kindAt_12 rfl ?_
      refine J_aload_n (pc := 13) X 0 d_Steps_kindAt_13 rfl ?_
      obtain ⟨v4, ev4, hM⟩ := hb_some hM
      refine J_getA (pc := 14) X hc_Steps in_Steps 0 k_56 (by decide) rfl d_Steps_kindAt_14 rfl ev4 ?_
      obtain ⟨v5, ev5, hM⟩ := hb_some hM
      refine J_alen (pc := 17) X d_Steps_kindAt_17 rfl ev5 ?_
      refine J_icmp_ge (pc := 18) (tgt := 30) X d_Steps_kindAt_18 (by decide) (fun c6 => ?_) (fun c6 => ?_)
      · have hM := hif_t hM c6
        refine J_iconst (pc := 30) (v := (-1)) X d_Steps_kindAt_30 (by decide) ?_
        obtain rfl := Option.some.inj hM
        exact J_iret (pc := 31) X hr hlk (Nat.le_of_ble_eq_true rfl) (Nat.le_of_ble_eq_true rfl) d_Steps_kindAt_31
      · have hM := hif_f hM c6
        refine J_aload_n (pc := 21) X 0 d_Steps_kindAt_21 rfl ?_
        obtain ⟨v7, ev7, hM⟩ := hb_some hM
        refine J_getA (pc := 22) X hc_Steps in_Steps 0 k_56 (by decide) rfl d_Steps_kindAt_22 rfl ev7 ?_
        refine J_iload_n (pc := 25) X 1 d_Steps_kindAt_25 rfl ?_
        obtain ⟨v8, ev8, hM⟩ := hb_some hM
        refine J_iald (pc := 26) X d_Steps_kindAt_26 rfl ev8 ?_
        refine J_goto (pc := 27) (tgt := 31) X d_Steps_kindAt_27 (by decide) ?_
        obtain rfl := Option.some.inj hM
        exact J_iret (pc := 31) X hr hlk (Nat.le_of_ble_eq_true rfl) (Nat.le_of_ble_eq_true rfl) d_Steps_kindAt_31
abbrev rm_Steps_valueAt : Room := { frames := 0, cells := 0, slots := 0, locals := 0 }
set_option maxHeartbeats 4000000 in
set_option maxRecDepth 100000 in
theorem c_Steps_valueAt (l : Launch) (D : va_G) (K : (Nat → Nat) × (Nat → Nat)) (F : Nat) {h : hH} {x0 : Nat} {x1 : Int32} {q : (Int32 × hH)} (hM : M_Steps_valueAt F h x0 x1 = some q) : Met l y_Steps_valueAt (.code y_Steps_valueAt prog_9_method_4_code 2 (some .int) :: T0) rm_Steps_valueAt (hPc hG D cls0 K [.ref x0, .int x1] h) (hQ D cls0 h (some (.int q.1)) q.2) 0 0 (hF h) := by
  refine J_met (lv := [(0, .ref x0), (1, .int x1)]) (by decide) (Nat.le_of_ble_eq_true rfl) rfl ?_
  intro p e s m below meth c X hr hlk hnm
  have Y : HX p s m _ meth c prog_9_method_4_code 2 "LicenceTexts$Steps" D K "valueAt" (some .int) h := ⟨X, hr, hlk, hnm⟩
  unfold M_Steps_valueAt at hM
  refine J_iload_n (pc := 0) X 1 d_Steps_valueAt_0 rfl ?_
  refine J_if_lt (pc := 1) (tgt := 30) X d_Steps_valueAt_1 (by decide) (fun c1 => ?_) (fun c1 => ?_)
  · have hM := hif_t hM c1
    refine J_iconst (pc := 30) (v := (-1)) X d_Steps_valueAt_30 (by decide) ?_
    obtain rfl := Option.some.inj hM
    exact J_iret (pc := 31) X hr hlk (Nat.le_of_ble_eq_true rfl) (Nat.le_of_ble_eq_true rfl) d_Steps_valueAt_31
  · have hM := hif_f hM c1
    refine J_iload_n (pc := 4) X 1 d_Steps_valueAt_4 rfl ?_
    refine J_aload_n (pc := 5) X 0 d_Steps_valueAt_5 rfl ?_
    obtain ⟨v2, ev2, hM⟩ := hb_some hM
    refine J_getI (pc := 6) X hc_Steps in_Steps 2 k_58 (by decide) rfl d_Steps_valueAt_6 rfl ev2 ?_
    refine J_icmp_ge (pc := 9) (tgt := 30) X d_Steps_valueAt_9 (by decide) (fun c3 => ?_) (fun c3 => ?_)
    · have hM := hif_t hM c3
      refine J_iconst (pc := 30) (v := (-1)) X d_Steps_valueAt_30 (by decide) ?_
      obtain rfl := Option.some.inj hM
      exact J_iret (pc := 31) X hr hlk (Nat.le_of_ble_eq_true rfl) (Nat.le_of_ble_eq_true rfl) d_Steps_valueAt_31
    · have hM := hif_f hM c3
      refine J_iload_n (pc := 12) X 1 d_Steps_valueAt_12 rfl ?_
      refine J_aload_n (pc := 13) X 0 d_Steps_valueAt_13 rfl ?_
      obtain ⟨v4, ev4, hM⟩ := hb_some hM
      refine J_getA (pc := 14) X hc_Steps in_Steps 1 k_57 (by decide) rfl d_Steps_valueAt_14 rfl ev4 ?_
      obtain ⟨v5, ev5, hM⟩ := hb_some hM
      refine J_alen (pc := 17) X d_Steps_valueAt_17 rfl ev5 ?_
      refine J_icmp_ge (pc := 18) (tgt := 30) X d_Steps_valueAt_18 (by decide) (fun c6 => ?_) (fun c6 => ?_)
      · have hM := hif_t hM c6
        refine J_iconst (pc := 30) (v := (-1)) X d_Steps_valueAt_30 (by decide) ?_
        obtain rfl := Option.some.inj hM
        exact J_iret (pc := 31) X hr hlk (Nat.le_of_ble_eq_true rfl) (Nat.le_of_ble_eq_true rfl) d_Steps_valueAt_31
      · have hM := hif_f hM c6
        refine J_aload_n (pc := 21) X 0 d_Steps_valueAt_21 rfl ?_
        obtain ⟨v7, ev7, hM⟩ := hb_some hM
        refine J_getA (pc := 22) X hc_Steps in_Steps 1 k_57 (by decide) rfl d_Steps_valueAt_22 rfl ev7 ?_
        refine J_iload_n (pc := 25) X 1 d_Steps_valueAt_25 rfl ?_
        obtain ⟨v8, ev8, hM⟩ := hb_some hM
        refine J_iald (pc := 26) X d_Steps_valueAt_26 rfl ev8 ?_
        refine J_goto (pc := 27) (tgt := 31) X d_Steps_valueAt_27 (by decide) ?_
        obtain rfl := Option.some.inj hM
        exact J_iret (pc := 31) X hr hlk (Nat.le_of_ble_eq_true rfl) (Nat.le_of_ble_eq_true rfl) d_Steps_valueAt_31
abbrev rm_Steps_removeLast : Room := { frames := 0, cells := 0, slots := 0, locals := 0 }
set_option maxHeartbeats 4000000 in
set_option maxRecDepth 100000 in
theorem c_Steps_removeLast (l : Launch) (D : va_G) (K : (Nat → Nat) × (Nat → Nat)) (F : Nat) {h : hH} {x0 : Nat} {q : hH} (hM : M_Steps_removeLast F h x0 = some q) : Met l y_Steps_removeLast (.code y_Steps_removeLast prog_9_method_5_code 1 none :: T0) rm_Steps_removeLast (hPc hG D cls0 K [.ref x0] h) (hQ D cls0 h none q) 0 0 (hF h) := by
  refine J_met (lv := [(0, .ref x0)]) (by decide) (Nat.le_of_ble_eq_true rfl) rfl ?_
  intro p e s m below meth c X hr hlk hnm
  have Y : HX p s m _ meth c prog_9_method_5_code 1 "LicenceTexts$Steps" D K "removeLast" none h := ⟨X, hr, hlk, hnm⟩
  unfold M_Steps_removeLast at hM
  refine J_aload_n (pc := 0) X 0 d_Steps_removeLast_0 rfl ?_
  obtain ⟨v1, ev1, hM⟩ := hb_some hM
  refine J_getI (pc := 1) X hc_Steps in_Steps 2 k_58 (by decide) rfl d_Steps_removeLast_1 rfl ev1 ?_
  refine J_if_le (pc := 4) (tgt := 17) X d_Steps_removeLast_4 (by decide) (fun c2 => ?_) (fun c2 => ?_)
  · have hM := hif_t hM c2
    obtain rfl := Option.some.inj hM
    exact J_vret (pc := 17) X hr hlk (Nat.le_of_ble_eq_true rfl) (Nat.le_of_ble_eq_true rfl) d_Steps_removeLast_17
  · have hM := hif_f hM c2
    refine J_aload_n (pc := 7) X 0 d_Steps_removeLast_7 rfl ?_
    refine J_dup (pc := 8) X d_Steps_removeLast_8 rfl ?_
    obtain ⟨v3, ev3, hM⟩ := hb_some hM
    refine J_getI (pc := 9) X hc_Steps in_Steps 2 k_58 (by decide) rfl d_Steps_removeLast_9 rfl ev3 ?_
    refine J_iconst (pc := 12) (v := (1)) X d_Steps_removeLast_12 (by decide) ?_
    refine J_isub (pc := 13) X d_Steps_removeLast_13 ?_
    obtain ⟨h4, eh4, hM⟩ := hb_some hM
    refine J_put (pc := 14) X hc_Steps in_Steps t_Steps tk_Steps nk_Steps 2 k_58 (by decide) rfl rfl d_Steps_removeLast_14 rfl rfl rfl eh4 ?_
    obtain rfl := Option.some.inj hM
    exact J_vret (pc := 17) X hr hlk (Nat.le_of_ble_eq_true rfl) (Nat.le_of_ble_eq_true rfl) d_Steps_removeLast_17
abbrev rm_Rule_init : Room := { frames := 1, cells := 0, slots := 0, locals := 12 }
set_option maxHeartbeats 4000000 in
set_option maxRecDepth 100000 in
theorem c_Rule_init (l : Launch) (D : va_G) (K : (Nat → Nat) × (Nat → Nat)) (F : Nat) {h : hH} {x0 : Nat} {x1 : Int32} {x2 : Int32} {q : hH} (hM : M_Rule_init F h x0 x1 x2 = some q) : Met l y_Rule_init (.code y_Rule_init prog_8_method_1_code 3 none :: T0) rm_Rule_init (hPc hG D cls0 K [.ref x0, .int x1, .int x2] h) (hQ D cls0 h none q) 0 0 (hF h) := by
  refine J_met (lv := [(0, .ref x0), (1, .int x1), (2, .int x2)]) (by decide) (Nat.le_of_ble_eq_true rfl) rfl ?_
  intro p e s m below meth c X hr hlk hnm
  have Y : HX p s m _ meth c prog_8_method_1_code 3 "LicenceTexts$Rule" D K "<init>" none h := ⟨X, hr, hlk, hnm⟩
  unfold M_Rule_init at hM
  refine J_aload_n (pc := 0) X 0 d_Rule_init_0 rfl ?_
  refine J_objInit (pc := 1) X k_59 k_1 k_2 d_Rule_init_1 (Nat.le_of_ble_eq_true rfl) (Nat.le_of_ble_eq_true rfl) ?_
  refine J_aload_n (pc := 4) X 0 d_Rule_init_4 rfl ?_
  refine J_iload_n (pc := 5) X 1 d_Rule_init_5 rfl ?_
  obtain ⟨h1, eh1, hM⟩ := hb_some hM
  refine J_putF (pc := 6) X hc_Rule in_Rule t_Rule tk_Rule nk_Rule 0 k_60 (by decide) rfl rfl rfl hnm d_Rule_init_6 rfl rfl rfl eh1 ?_
  refine J_aload_n (pc := 9) X 0 d_Rule_init_9 rfl ?_
  refine J_iload_n (pc := 10) X 2 d_Rule_init_10 rfl ?_
  obtain ⟨h2, eh2, hM⟩ := hb_some hM
  refine J_putF (pc := 11) X hc_Rule in_Rule t_Rule tk_Rule nk_Rule 1 k_61 (by decide) rfl rfl rfl hnm d_Rule_init_11 rfl rfl rfl eh2 ?_
  refine J_aload_n (pc := 14) X 0 d_Rule_init_14 rfl ?_
  refine J_iload_n (pc := 15) X 1 d_Rule_init_15 rfl ?_
  obtain ⟨h3, eh3, hM⟩ := hb_some hM
  refine J_put (pc := 16) X hc_Rule in_Rule t_Rule tk_Rule nk_Rule 2 k_62 (by decide) rfl rfl d_Rule_init_16 rfl rfl rfl eh3 ?_
  refine J_aload_n (pc := 19) X 0 d_Rule_init_19 rfl ?_
  refine J_iload_n (pc := 20) X 2 d_Rule_init_20 rfl ?_
  obtain ⟨h4, eh4, hM⟩ := hb_some hM
  refine J_put (pc := 21) X hc_Rule in_Rule t_Rule tk_Rule nk_Rule 3 k_63 (by decide) rfl rfl d_Rule_init_21 rfl rfl rfl eh4 ?_
  refine J_aload_n (pc := 24) X 0 d_Rule_init_24 rfl ?_
  refine J_iload_n (pc := 25) X 2 d_Rule_init_25 rfl ?_
  obtain ⟨h5, eh5, hM⟩ := hb_some hM
  refine J_put (pc := 26) X hc_Rule in_Rule t_Rule tk_Rule nk_Rule 4 k_64 (by decide) rfl rfl d_Rule_init_26 rfl rfl rfl eh5 ?_
  obtain rfl := Option.some.inj hM
  exact J_vret (pc := 29) X hr hlk (Nat.le_of_ble_eq_true rfl) (Nat.le_of_ble_eq_true rfl) d_Rule_init_29
end
section
theorem d_Tables_init_0 : decode prog_10_method_1_code 0 = .ok (.aload_n 0, 1) := by decide +kernel
theorem d_Tables_init_1 : decode prog_10_method_1_code 1 = .ok (.invokespecial 3, 3) := by decide +kernel
theorem d_Tables_init_4 : decode prog_10_method_1_code 4 = .ok (.aload_n 0, 1) := by decide +kernel
theorem d_Tables_init_5 : decode prog_10_method_1_code 5 = .ok (.bipush 80, 2) := by decide +kernel
theorem d_Tables_init_7 : decode prog_10_method_1_code 7 = .ok (.newarray .int, 2) := by decide +kernel
theorem d_Tables_init_9 : decode prog_10_method_1_code 9 = .ok (.putfield 11, 3) := by decide +kernel
theorem d_Tables_init_12 : decode prog_10_method_1_code 12 = .ok (.aload_n 0, 1) := by decide +kernel
theorem d_Tables_init_13 : decode prog_10_method_1_code 13 = .ok (.bipush 8, 2) := by decide +kernel
theorem d_Tables_init_15 : decode prog_10_method_1_code 15 = .ok (.newarray .int, 2) := by decide +kernel
theorem d_Tables_init_17 : decode prog_10_method_1_code 17 = .ok (.putfield 15, 3) := by decide +kernel
theorem d_Tables_init_20 : decode prog_10_method_1_code 20 = .ok (.aload_n 0, 1) := by decide +kernel
theorem d_Tables_init_21 : decode prog_10_method_1_code 21 = .ok (.iconst 0, 1) := by decide +kernel
theorem d_Tables_init_22 : decode prog_10_method_1_code 22 = .ok (.putfield 18, 3) := by decide +kernel
theorem d_Tables_init_25 : decode prog_10_method_1_code 25 = .ok (.return_, 1) := by decide +kernel
theorem d_Tables_begin_0 : decode prog_10_method_2_code 0 = .ok (.aload_n 0, 1) := by decide +kernel
theorem d_Tables_begin_1 : decode prog_10_method_2_code 1 = .ok (.getfield 18, 3) := by decide +kernel
theorem d_Tables_begin_4 : decode prog_10_method_2_code 4 = .ok (.ifCond .lt 15, 3) := by decide +kernel
theorem d_Tables_begin_19 : decode prog_10_method_2_code 19 = .ok (.iconst 0, 1) := by decide +kernel
theorem d_Tables_begin_20 : decode prog_10_method_2_code 20 = .ok (.ireturn, 1) := by decide +kernel
theorem d_Tables_begin_7 : decode prog_10_method_2_code 7 = .ok (.aload_n 0, 1) := by decide +kernel
theorem d_Tables_begin_8 : decode prog_10_method_2_code 8 = .ok (.getfield 18, 3) := by decide +kernel
theorem d_Tables_begin_11 : decode prog_10_method_2_code 11 = .ok (.aload_n 0, 1) := by decide +kernel
theorem d_Tables_begin_12 : decode prog_10_method_2_code 12 = .ok (.getfield 15, 3) := by decide +kernel
theorem d_Tables_begin_15 : decode prog_10_method_2_code 15 = .ok (.arraylength, 1) := by decide +kernel
theorem d_Tables_begin_16 : decode prog_10_method_2_code 16 = .ok (.if_icmp .lt 5, 3) := by decide +kernel
theorem d_Tables_begin_21 : decode prog_10_method_2_code 21 = .ok (.aload_n 0, 1) := by decide +kernel
theorem d_Tables_begin_22 : decode prog_10_method_2_code 22 = .ok (.getfield 15, 3) := by decide +kernel
theorem d_Tables_begin_25 : decode prog_10_method_2_code 25 = .ok (.aload_n 0, 1) := by decide +kernel
theorem d_Tables_begin_26 : decode prog_10_method_2_code 26 = .ok (.getfield 18, 3) := by decide +kernel
theorem d_Tables_begin_29 : decode prog_10_method_2_code 29 = .ok (.iconst 0, 1) := by decide +kernel
theorem d_Tables_begin_30 : decode prog_10_method_2_code 30 = .ok (.iastore, 1) := by decide +kernel
theorem d_Tables_begin_31 : decode prog_10_method_2_code 31 = .ok (.aload_n 0, 1) := by decide +kernel
theorem d_Tables_begin_32 : decode prog_10_method_2_code 32 = .ok (.dup, 1) := by decide +kernel
theorem d_Tables_begin_33 : decode prog_10_method_2_code 33 = .ok (.getfield 18, 3) := by decide +kernel
theorem d_Tables_begin_36 : decode prog_10_method_2_code 36 = .ok (.iconst 1, 1) := by decide +kernel
theorem d_Tables_begin_37 : decode prog_10_method_2_code 37 = .ok (.iadd, 1) := by decide +kernel
theorem d_Tables_begin_38 : decode prog_10_method_2_code 38 = .ok (.putfield 18, 3) := by decide +kernel
theorem d_Tables_begin_41 : decode prog_10_method_2_code 41 = .ok (.iconst 1, 1) := by decide +kernel
theorem d_Tables_begin_42 : decode prog_10_method_2_code 42 = .ok (.ireturn, 1) := by decide +kernel
theorem d_Tables_lastSize_0 : decode prog_10_method_3_code 0 = .ok (.aload_n 0, 1) := by decide +kernel
theorem d_Tables_lastSize_1 : decode prog_10_method_3_code 1 = .ok (.getfield 18, 3) := by decide +kernel
theorem d_Tables_lastSize_4 : decode prog_10_method_3_code 4 = .ok (.iconst 1, 1) := by decide +kernel
theorem d_Tables_lastSize_5 : decode prog_10_method_3_code 5 = .ok (.isub, 1) := by decide +kernel
theorem d_Tables_lastSize_6 : decode prog_10_method_3_code 6 = .ok (.istore_n 1, 1) := by decide +kernel
theorem d_Tables_lastSize_7 : decode prog_10_method_3_code 7 = .ok (.iload_n 1, 1) := by decide +kernel
theorem d_Tables_lastSize_8 : decode prog_10_method_3_code 8 = .ok (.ifCond .lt 21, 3) := by decide +kernel
theorem d_Tables_lastSize_29 : decode prog_10_method_3_code 29 = .ok (.iconst 0, 1) := by decide +kernel
theorem d_Tables_lastSize_30 : decode prog_10_method_3_code 30 = .ok (.ireturn, 1) := by decide +kernel
theorem d_Tables_lastSize_11 : decode prog_10_method_3_code 11 = .ok (.iload_n 1, 1) := by decide +kernel
theorem d_Tables_lastSize_12 : decode prog_10_method_3_code 12 = .ok (.aload_n 0, 1) := by decide +kernel
theorem d_Tables_lastSize_13 : decode prog_10_method_3_code 13 = .ok (.getfield 15, 3) := by decide +kernel
theorem d_Tables_lastSize_16 : decode prog_10_method_3_code 16 = .ok (.arraylength, 1) := by decide +kernel
theorem d_Tables_lastSize_17 : decode prog_10_method_3_code 17 = .ok (.if_icmp .ge 12, 3) := by decide +kernel
theorem d_Tables_lastSize_20 : decode prog_10_method_3_code 20 = .ok (.aload_n 0, 1) := by decide +kernel
theorem d_Tables_lastSize_21 : decode prog_10_method_3_code 21 = .ok (.getfield 15, 3) := by decide +kernel
theorem d_Tables_lastSize_24 : decode prog_10_method_3_code 24 = .ok (.iload_n 1, 1) := by decide +kernel
theorem d_Tables_lastSize_25 : decode prog_10_method_3_code 25 = .ok (.iaload, 1) := by decide +kernel
theorem d_Tables_lastSize_26 : decode prog_10_method_3_code 26 = .ok (.goto 4, 3) := by decide +kernel
theorem d_Tables_addNumber_0 : decode prog_10_method_4_code 0 = .ok (.aload_n 0, 1) := by decide +kernel
theorem d_Tables_addNumber_1 : decode prog_10_method_4_code 1 = .ok (.getfield 18, 3) := by decide +kernel
theorem d_Tables_addNumber_4 : decode prog_10_method_4_code 4 = .ok (.iconst 1, 1) := by decide +kernel
theorem d_Tables_addNumber_5 : decode prog_10_method_4_code 5 = .ok (.isub, 1) := by decide +kernel
theorem d_Tables_addNumber_6 : decode prog_10_method_4_code 6 = .ok (.istore_n 2, 1) := by decide +kernel
theorem d_Tables_addNumber_7 : decode prog_10_method_4_code 7 = .ok (.aload_n 0, 1) := by decide +kernel
theorem d_Tables_addNumber_8 : decode prog_10_method_4_code 8 = .ok (.invokevirtual 22, 3) := by decide +kernel
theorem d_Tables_addNumber_11 : decode prog_10_method_4_code 11 = .ok (.istore_n 3, 1) := by decide +kernel
theorem d_Tables_addNumber_12 : decode prog_10_method_4_code 12 = .ok (.iload_n 2, 1) := by decide +kernel
theorem d_Tables_addNumber_13 : decode prog_10_method_4_code 13 = .ok (.bipush 10, 2) := by decide +kernel
theorem d_Tables_addNumber_15 : decode prog_10_method_4_code 15 = .ok (.imul, 1) := by decide +kernel
theorem d_Tables_addNumber_16 : decode prog_10_method_4_code 16 = .ok (.iload_n 3, 1) := by decide +kernel
theorem d_Tables_addNumber_17 : decode prog_10_method_4_code 17 = .ok (.iadd, 1) := by decide +kernel
theorem d_Tables_addNumber_18 : decode prog_10_method_4_code 18 = .ok (.istore 4, 2) := by decide +kernel
theorem d_Tables_addNumber_20 : decode prog_10_method_4_code 20 = .ok (.iload_n 2, 1) := by decide +kernel
theorem d_Tables_addNumber_21 : decode prog_10_method_4_code 21 = .ok (.ifCond .lt 33, 3) := by decide +kernel
theorem d_Tables_addNumber_54 : decode prog_10_method_4_code 54 = .ok (.iconst 0, 1) := by decide +kernel
theorem d_Tables_addNumber_55 : decode prog_10_method_4_code 55 = .ok (.ireturn, 1) := by decide +kernel
theorem d_Tables_addNumber_24 : decode prog_10_method_4_code 24 = .ok (.iload_n 2, 1) := by decide +kernel
theorem d_Tables_addNumber_25 : decode prog_10_method_4_code 25 = .ok (.aload_n 0, 1) := by decide +kernel
theorem d_Tables_addNumber_26 : decode prog_10_method_4_code 26 = .ok (.getfield 15, 3) := by decide +kernel
theorem d_Tables_addNumber_29 : decode prog_10_method_4_code 29 = .ok (.arraylength, 1) := by decide +kernel
theorem d_Tables_addNumber_30 : decode prog_10_method_4_code 30 = .ok (.if_icmp .ge 24, 3) := by decide +kernel
theorem d_Tables_addNumber_33 : decode prog_10_method_4_code 33 = .ok (.iload_n 3, 1) := by decide +kernel
theorem d_Tables_addNumber_34 : decode prog_10_method_4_code 34 = .ok (.bipush 10, 2) := by decide +kernel
theorem d_Tables_addNumber_36 : decode prog_10_method_4_code 36 = .ok (.if_icmp .ge 18, 3) := by decide +kernel
theorem d_Tables_addNumber_39 : decode prog_10_method_4_code 39 = .ok (.iload 4, 2) := by decide +kernel
theorem d_Tables_addNumber_41 : decode prog_10_method_4_code 41 = .ok (.ifCond .lt 13, 3) := by decide +kernel
theorem d_Tables_addNumber_44 : decode prog_10_method_4_code 44 = .ok (.iload 4, 2) := by decide +kernel
theorem d_Tables_addNumber_46 : decode prog_10_method_4_code 46 = .ok (.aload_n 0, 1) := by decide +kernel
theorem d_Tables_addNumber_47 : decode prog_10_method_4_code 47 = .ok (.getfield 11, 3) := by decide +kernel
theorem d_Tables_addNumber_50 : decode prog_10_method_4_code 50 = .ok (.arraylength, 1) := by decide +kernel
theorem d_Tables_addNumber_51 : decode prog_10_method_4_code 51 = .ok (.if_icmp .lt 5, 3) := by decide +kernel
theorem d_Tables_addNumber_56 : decode prog_10_method_4_code 56 = .ok (.aload_n 0, 1) := by decide +kernel
theorem d_Tables_addNumber_57 : decode prog_10_method_4_code 57 = .ok (.getfield 11, 3) := by decide +kernel
theorem d_Tables_addNumber_60 : decode prog_10_method_4_code 60 = .ok (.iload 4, 2) := by decide +kernel
theorem d_Tables_addNumber_62 : decode prog_10_method_4_code 62 = .ok (.iload_n 1, 1) := by decide +kernel
theorem d_Tables_addNumber_63 : decode prog_10_method_4_code 63 = .ok (.iastore, 1) := by decide +kernel
theorem d_Tables_addNumber_64 : decode prog_10_method_4_code 64 = .ok (.aload_n 0, 1) := by decide +kernel
theorem d_Tables_addNumber_65 : decode prog_10_method_4_code 65 = .ok (.getfield 15, 3) := by decide +kernel
theorem d_Tables_addNumber_68 : decode prog_10_method_4_code 68 = .ok (.iload_n 2, 1) := by decide +kernel
theorem d_Tables_addNumber_69 : decode prog_10_method_4_code 69 = .ok (.iload_n 3, 1) := by decide +kernel
theorem d_Tables_addNumber_70 : decode prog_10_method_4_code 70 = .ok (.iconst 1, 1) := by decide +kernel
theorem d_Tables_addNumber_71 : decode prog_10_method_4_code 71 = .ok (.iadd, 1) := by decide +kernel
theorem d_Tables_addNumber_72 : decode prog_10_method_4_code 72 = .ok (.iastore, 1) := by decide +kernel
theorem d_Tables_addNumber_73 : decode prog_10_method_4_code 73 = .ok (.iconst 1, 1) := by decide +kernel
theorem d_Tables_addNumber_74 : decode prog_10_method_4_code 74 = .ok (.ireturn, 1) := by decide +kernel
theorem d_Tables_numberAt_0 : decode prog_10_method_5_code 0 = .ok (.iload_n 1, 1) := by decide +kernel
theorem d_Tables_numberAt_1 : decode prog_10_method_5_code 1 = .ok (.ifCond .lt 38, 3) := by decide +kernel
theorem d_Tables_numberAt_39 : decode prog_10_method_5_code 39 = .ok (.iconst (-1), 1) := by decide +kernel
theorem d_Tables_numberAt_40 : decode prog_10_method_5_code 40 = .ok (.ireturn, 1) := by decide +kernel
theorem d_Tables_numberAt_4 : decode prog_10_method_5_code 4 = .ok (.iload_n 1, 1) := by decide +kernel
theorem d_Tables_numberAt_5 : decode prog_10_method_5_code 5 = .ok (.aload_n 0, 1) := by decide +kernel
theorem d_Tables_numberAt_6 : decode prog_10_method_5_code 6 = .ok (.getfield 18, 3) := by decide +kernel
theorem d_Tables_numberAt_9 : decode prog_10_method_5_code 9 = .ok (.if_icmp .ge 30, 3) := by decide +kernel
theorem d_Tables_numberAt_12 : decode prog_10_method_5_code 12 = .ok (.iload_n 1, 1) := by decide +kernel
theorem d_Tables_numberAt_13 : decode prog_10_method_5_code 13 = .ok (.aload_n 0, 1) := by decide +kernel
theorem d_Tables_numberAt_14 : decode prog_10_method_5_code 14 = .ok (.getfield 15, 3) := by decide +kernel
theorem d_Tables_numberAt_17 : decode prog_10_method_5_code 17 = .ok (.arraylength, 1) := by decide +kernel
theorem d_Tables_numberAt_18 : decode prog_10_method_5_code 18 = .ok (.if_icmp .ge 21, 3) := by decide +kernel
theorem d_Tables_numberAt_21 : decode prog_10_method_5_code 21 = .ok (.lload_n 2, 1) := by decide +kernel
theorem d_Tables_numberAt_22 : decode prog_10_method_5_code 22 = .ok (.lconst 0, 1) := by decide +kernel
theorem d_Tables_numberAt_23 : decode prog_10_method_5_code 23 = .ok (.lcmp, 1) := by decide +kernel
theorem d_Tables_numberAt_24 : decode prog_10_method_5_code 24 = .ok (.ifCond .lt 15, 3) := by decide +kernel
theorem d_Tables_numberAt_27 : decode prog_10_method_5_code 27 = .ok (.lload_n 2, 1) := by decide +kernel
theorem d_Tables_numberAt_28 : decode prog_10_method_5_code 28 = .ok (.aload_n 0, 1) := by decide +kernel
theorem d_Tables_numberAt_29 : decode prog_10_method_5_code 29 = .ok (.getfield 15, 3) := by decide +kernel
theorem d_Tables_numberAt_32 : decode prog_10_method_5_code 32 = .ok (.iload_n 1, 1) := by decide +kernel
theorem d_Tables_numberAt_33 : decode prog_10_method_5_code 33 = .ok (.iaload, 1) := by decide +kernel
theorem d_Tables_numberAt_34 : decode prog_10_method_5_code 34 = .ok (.i2l, 1) := by decide +kernel
theorem d_Tables_numberAt_35 : decode prog_10_method_5_code 35 = .ok (.lcmp, 1) := by decide +kernel
theorem d_Tables_numberAt_36 : decode prog_10_method_5_code 36 = .ok (.ifCond .lt 5, 3) := by decide +kernel
theorem d_Tables_numberAt_41 : decode prog_10_method_5_code 41 = .ok (.iload_n 1, 1) := by decide +kernel
theorem d_Tables_numberAt_42 : decode prog_10_method_5_code 42 = .ok (.bipush 10, 2) := by decide +kernel
theorem d_Tables_numberAt_44 : decode prog_10_method_5_code 44 = .ok (.imul, 1) := by decide +kernel
theorem d_Tables_numberAt_45 : decode prog_10_method_5_code 45 = .ok (.lload_n 2, 1) := by decide +kernel
theorem d_Tables_numberAt_46 : decode prog_10_method_5_code 46 = .ok (.l2i, 1) := by decide +kernel
theorem d_Tables_numberAt_47 : decode prog_10_method_5_code 47 = .ok (.iadd, 1) := by decide +kernel
theorem d_Tables_numberAt_48 : decode prog_10_method_5_code 48 = .ok (.istore 4, 2) := by decide +kernel
theorem d_Tables_numberAt_50 : decode prog_10_method_5_code 50 = .ok (.iload 4, 2) := by decide +kernel
theorem d_Tables_numberAt_52 : decode prog_10_method_5_code 52 = .ok (.ifCond .lt 23, 3) := by decide +kernel
theorem d_Tables_numberAt_75 : decode prog_10_method_5_code 75 = .ok (.iconst (-1), 1) := by decide +kernel
theorem d_Tables_numberAt_76 : decode prog_10_method_5_code 76 = .ok (.ireturn, 1) := by decide +kernel
theorem d_Tables_numberAt_55 : decode prog_10_method_5_code 55 = .ok (.iload 4, 2) := by decide +kernel
theorem d_Tables_numberAt_57 : decode prog_10_method_5_code 57 = .ok (.aload_n 0, 1) := by decide +kernel
theorem d_Tables_numberAt_58 : decode prog_10_method_5_code 58 = .ok (.getfield 11, 3) := by decide +kernel
theorem d_Tables_numberAt_61 : decode prog_10_method_5_code 61 = .ok (.arraylength, 1) := by decide +kernel
theorem d_Tables_numberAt_62 : decode prog_10_method_5_code 62 = .ok (.if_icmp .ge 13, 3) := by decide +kernel
theorem d_Tables_numberAt_65 : decode prog_10_method_5_code 65 = .ok (.aload_n 0, 1) := by decide +kernel
theorem d_Tables_numberAt_66 : decode prog_10_method_5_code 66 = .ok (.getfield 11, 3) := by decide +kernel
theorem d_Tables_numberAt_69 : decode prog_10_method_5_code 69 = .ok (.iload 4, 2) := by decide +kernel
theorem d_Tables_numberAt_71 : decode prog_10_method_5_code 71 = .ok (.iaload, 1) := by decide +kernel
theorem d_Tables_numberAt_72 : decode prog_10_method_5_code 72 = .ok (.goto 4, 3) := by decide +kernel
def M_Tables_init (F : Nat) (h : hH) (x0 : Nat) : Option hH :=
  (some (hAdd h (.inr (.int, 80, .inl (fun _ => 0))))).bind fun h1 =>
  (hPut h1 x0 8 0 (.ref h.1)).bind fun h2 =>
  (some (hAdd h2 (.inr (.int, 8, .inl (fun _ => 0))))).bind fun h3 =>
  (hPut h3 x0 8 1 (.ref h2.1)).bind fun h4 =>
  (hPut h4 x0 8 2 (.int 0)).bind fun h5 =>
  some h5
def M_Tables_begin (F : Nat) (h : hH) (x0 : Nat) : Option (Int32 × hH) :=
  (hGetI h x0 8 2).bind fun v1 =>
  if v1 < 0 then (
    some (0, h)
  ) else (
    (hGetI h x0 8 2).bind fun v3 =>
    (hGetA h x0 8 1).bind fun v4 =>
    (hLen h v4).bind fun v5 =>
    if v3 < v5 then (
      (hGetA h x0 8 1).bind fun v7 =>
      (hGetI h x0 8 2).bind fun v8 =>
      (hStI h v7 v8 0).bind fun h9 =>
      (hGetI h9 x0 8 2).bind fun v10 =>
      (hPut h9 x0 8 2 (.int (v10 + 1))).bind fun h11 =>
      some (1, h11)
    ) else (
      some (0, h)
    )
  )
def M_Tables_lastSize (F : Nat) (h : hH) (x0 : Nat) : Option (Int32 × hH) :=
  (hGetI h x0 8 2).bind fun v1 =>
  if (v1 - 1) < 0 then (
    some (0, h)
  ) else (
    (hGetA h x0 8 1).bind fun v3 =>
    (hLen h v3).bind fun v4 =>
    if v4 ≤ (v1 - 1) then (
      some (0, h)
    ) else (
      (hGetA h x0 8 1).bind fun v6 =>
      (hLdI h v6 .int (v1 - 1)).bind fun v7 =>
      some (v7, h)
    )
  )
def M_Tables_addNumber (F : Nat) (h : hH) (x0 : Nat) (x1 : Int32) : Option (Int32 × hH) :=
  (hGetI h x0 8 2).bind fun v1 =>
  (hIs h x0 8).bind fun u2 =>
  (M_Tables_lastSize F h x0).bind fun q3 =>
  if (v1 - 1) < 0 then (
    some (0, q3.2)
  ) else (
    (hGetA q3.2 x0 8 1).bind fun v5 =>
    (hLen q3.2 v5).bind fun v6 =>
    if v6 ≤ (v1 - 1) then (
      some (0, q3.2)
    ) else (
      if 10 ≤ q3.1 then (
        some (0, q3.2)
      ) else (
        if (((v1 - 1) * 10) + q3.1) < 0 then (
          some (0, q3.2)
        ) else (
          (hGetA q3.2 x0 8 0).bind fun v10 =>
          (hLen q3.2 v10).bind fun v11 =>
          if (((v1 - 1) * 10) + q3.1) < v11 then (
            (hGetA q3.2 x0 8 0).bind fun v13 =>
            (hStI q3.2 v13 (((v1 - 1) * 10) + q3.1) x1).bind fun h14 =>
            (hGetA h14 x0 8 1).bind fun v15 =>
            (hStI h14 v15 (v1 - 1) (q3.1 + 1)).bind fun h16 =>
            some (1, h16)
          ) else (
            some (0, q3.2)
          )
        )
      )
    )
  )
def M_Tables_numberAt (F : Nat) (h : hH) (x0 : Nat) (x1 : Int32) (x2 : Int64) : Option (Int32 × hH) :=
  if x1 < 0 then (
    some ((-1), h)
  ) else (
    (hGetI h x0 8 2).bind fun v2 =>
    if v2 ≤ x1 then (
      some ((-1), h)
    ) else (
      (hGetA h x0 8 1).bind fun v4 =>
      (hLen h v4).bind fun v5 =>
      if v5 ≤ x1 then (
        some ((-1), h)
      ) else (
        if (lg_cmp x2 0) < 0 then (
          some ((-1), h)
        ) else (
          (hGetA h x0 8 1).bind fun v8 =>
          (hLdI h v8 .int x1).bind fun v9 =>
          if (lg_cmp x2 v9.toInt64) < 0 then (
            if ((x1 * 10) + x2.toInt32) < 0 then (
              some ((-1), h)
            ) else (
              (hGetA h x0 8 0).bind fun v12 =>
              (hLen h v12).bind fun v13 =>
              if v13 ≤ ((x1 * 10) + x2.toInt32) then (
                some ((-1), h)
              ) else (
                (hGetA h x0 8 0).bind fun v15 =>
                (hLdI h v15 .int ((x1 * 10) + x2.toInt32)).bind fun v16 =>
                some (v16, h)
              )
            )
          ) else (
            some ((-1), h)
          )
        )
      )
    )
  )
abbrev rm_Tables_init : Room := { frames := 1, cells := 2, slots := 88, locals := 12 }
set_option maxHeartbeats 4000000 in
set_option maxRecDepth 100000 in
theorem c_Tables_init (l : Launch) (D : va_G) (K : (Nat → Nat) × (Nat → Nat)) (F : Nat) {h : hH} {x0 : Nat} {q : hH} (hM : M_Tables_init F h x0 = some q) : Met l y_Tables_init (.code y_Tables_init prog_10_method_1_code 1 none :: T0) rm_Tables_init (hPc hG D cls0 K [.ref x0] h) (hQ D cls0 h none q) 2 88 (hF h) := by
  refine J_met (lv := [(0, .ref x0)]) (by decide) (Nat.le_of_ble_eq_true rfl) rfl ?_
  intro p e s m below meth c X hr hlk hnm
  have Y : HX p s m _ meth c prog_10_method_1_code 1 "LicenceTexts$Tables" D K "<init>" none h := ⟨X, hr, hlk, hnm⟩
  unfold M_Tables_init at hM
  refine J_aload_n (pc := 0) X 0 d_Tables_init_0 rfl ?_
  refine J_objInit (pc := 1) X k_65 k_1 k_2 d_Tables_init_1 (Nat.le_of_ble_eq_true rfl) (Nat.le_of_ble_eq_true rfl) ?_
  refine J_aload_n (pc := 4) X 0 d_Tables_init_4 rfl ?_
  refine J_bipush (pc := 5) (v := (80)) X d_Tables_init_5 (by decide) ?_
  refine J_newa (pc := 7) (ty := .int) (N := 80) (a0 := (80, .inl (fun _ => 0))) X rfl k_17 d_Tables_init_7 (fun _ => rfl) (fun _ _ hq => hq) (by decide) (by decide) (by decide) (Nat.le_of_ble_eq_true rfl) (Nat.le_of_ble_eq_true rfl) ?_
  obtain ⟨h1, eh1, hM⟩ := hb_some hM
  rw [Option.some.inj eh1]
  obtain ⟨h2, eh2, hM⟩ := hb_some hM
  refine J_putF (pc := 9) X hc_Tables in_Tables t_Tables tk_Tables nk_Tables 0 k_66 (by decide) rfl rfl rfl hnm d_Tables_init_9 rfl rfl rfl eh2 ?_
  refine J_aload_n (pc := 12) X 0 d_Tables_init_12 rfl ?_
  refine J_bipush (pc := 13) (v := (8)) X d_Tables_init_13 (by decide) ?_
  refine J_newa (pc := 15) (ty := .int) (N := 8) (a0 := (8, .inl (fun _ => 0))) X rfl k_17 d_Tables_init_15 (fun _ => rfl) (fun _ _ hq => hq) (by decide) (by decide) (by decide) (Nat.le_of_ble_eq_true rfl) (Nat.le_of_ble_eq_true rfl) ?_
  obtain ⟨h3, eh3, hM⟩ := hb_some hM
  rw [Option.some.inj eh3]
  obtain ⟨h4, eh4, hM⟩ := hb_some hM
  refine J_putF (pc := 17) X hc_Tables in_Tables t_Tables tk_Tables nk_Tables 1 k_67 (by decide) rfl rfl rfl hnm d_Tables_init_17 rfl rfl rfl eh4 ?_
  refine J_aload_n (pc := 20) X 0 d_Tables_init_20 rfl ?_
  refine J_iconst (pc := 21) (v := (0)) X d_Tables_init_21 (by decide) ?_
  obtain ⟨h5, eh5, hM⟩ := hb_some hM
  refine J_put (pc := 22) X hc_Tables in_Tables t_Tables tk_Tables nk_Tables 2 k_68 (by decide) rfl rfl d_Tables_init_22 rfl rfl rfl eh5 ?_
  obtain rfl := Option.some.inj hM
  exact J_vret (pc := 25) X hr hlk (Nat.le_of_ble_eq_true rfl) (Nat.le_of_ble_eq_true rfl) d_Tables_init_25
abbrev rm_Tables_begin : Room := { frames := 0, cells := 0, slots := 0, locals := 0 }
set_option maxHeartbeats 4000000 in
set_option maxRecDepth 100000 in
theorem c_Tables_begin (l : Launch) (D : va_G) (K : (Nat → Nat) × (Nat → Nat)) (F : Nat) {h : hH} {x0 : Nat} {q : (Int32 × hH)} (hM : M_Tables_begin F h x0 = some q) : Met l y_Tables_begin (.code y_Tables_begin prog_10_method_2_code 1 (some .boolean) :: T0) rm_Tables_begin (hPc hG D cls0 K [.ref x0] h) (hQ D cls0 h (some (.int q.1)) q.2) 0 0 (hF h) := by
  refine J_met (lv := [(0, .ref x0)]) (by decide) (Nat.le_of_ble_eq_true rfl) rfl ?_
  intro p e s m below meth c X hr hlk hnm
  have Y : HX p s m _ meth c prog_10_method_2_code 1 "LicenceTexts$Tables" D K "begin" (some .boolean) h := ⟨X, hr, hlk, hnm⟩
  unfold M_Tables_begin at hM
  refine J_aload_n (pc := 0) X 0 d_Tables_begin_0 rfl ?_
  obtain ⟨v1, ev1, hM⟩ := hb_some hM
  refine J_getI (pc := 1) X hc_Tables in_Tables 2 k_68 (by decide) rfl d_Tables_begin_1 rfl ev1 ?_
  refine J_if_lt (pc := 4) (tgt := 19) X d_Tables_begin_4 (by decide) (fun c2 => ?_) (fun c2 => ?_)
  · have hM := hif_t hM c2
    refine J_iconst (pc := 19) (v := (0)) X d_Tables_begin_19 (by decide) ?_
    obtain rfl := Option.some.inj hM
    exact J_zret (pc := 20) X hr hz0 hlk (Nat.le_of_ble_eq_true rfl) (Nat.le_of_ble_eq_true rfl) d_Tables_begin_20
  · have hM := hif_f hM c2
    refine J_aload_n (pc := 7) X 0 d_Tables_begin_7 rfl ?_
    obtain ⟨v3, ev3, hM⟩ := hb_some hM
    refine J_getI (pc := 8) X hc_Tables in_Tables 2 k_68 (by decide) rfl d_Tables_begin_8 rfl ev3 ?_
    refine J_aload_n (pc := 11) X 0 d_Tables_begin_11 rfl ?_
    obtain ⟨v4, ev4, hM⟩ := hb_some hM
    refine J_getA (pc := 12) X hc_Tables in_Tables 1 k_67 (by decide) rfl d_Tables_begin_12 rfl ev4 ?_
    obtain ⟨v5, ev5, hM⟩ := hb_some hM
    refine J_alen (pc := 15) X d_Tables_begin_15 rfl ev5 ?_
    refine J_icmp_lt (pc := 16) (tgt := 21) X d_Tables_begin_16 (by decide) (fun c6 => ?_) (fun c6 => ?_)
    · have hM := hif_t hM c6
      refine J_aload_n (pc := 21) X 0 d_Tables_begin_21 rfl ?_
      obtain ⟨v7, ev7, hM⟩ := hb_some hM
      refine J_getA (pc := 22) X hc_Tables in_Tables 1 k_67 (by decide) rfl d_Tables_begin_22 rfl ev7 ?_
      refine J_aload_n (pc := 25) X 0 d_Tables_begin_25 rfl ?_
      obtain ⟨v8, ev8, hM⟩ := hb_some hM
      refine J_getI (pc := 26) X hc_Tables in_Tables 2 k_68 (by decide) rfl d_Tables_begin_26 rfl ev8 ?_
      refine J_iconst (pc := 29) (v := (0)) X d_Tables_begin_29 (by decide) ?_
      obtain ⟨h9, eh9, hM⟩ := hb_some hM
      refine J_iast (pc := 30) X d_Tables_begin_30 rfl eh9 ?_
      refine J_aload_n (pc := 31) X 0 d_Tables_begin_31 rfl ?_
      refine J_dup (pc := 32) X d_Tables_begin_32 rfl ?_
      obtain ⟨v10, ev10, hM⟩ := hb_some hM
      refine J_getI (pc := 33) X hc_Tables in_Tables 2 k_68 (by decide) rfl d_Tables_begin_33 rfl ev10 ?_
      refine J_iconst (pc := 36) (v := (1)) X d_Tables_begin_36 (by decide) ?_
      refine J_iadd (pc := 37) X d_Tables_begin_37 ?_
      obtain ⟨h11, eh11, hM⟩ := hb_some hM
      refine J_put (pc := 38) X hc_Tables in_Tables t_Tables tk_Tables nk_Tables 2 k_68 (by decide) rfl rfl d_Tables_begin_38 rfl rfl rfl eh11 ?_
      refine J_iconst (pc := 41) (v := (1)) X d_Tables_begin_41 (by decide) ?_
      obtain rfl := Option.some.inj hM
      exact J_zret (pc := 42) X hr hz1 hlk (Nat.le_of_ble_eq_true rfl) (Nat.le_of_ble_eq_true rfl) d_Tables_begin_42
    · have hM := hif_f hM c6
      refine J_iconst (pc := 19) (v := (0)) X d_Tables_begin_19 (by decide) ?_
      obtain rfl := Option.some.inj hM
      exact J_zret (pc := 20) X hr hz0 hlk (Nat.le_of_ble_eq_true rfl) (Nat.le_of_ble_eq_true rfl) d_Tables_begin_20
abbrev rm_Tables_lastSize : Room := { frames := 0, cells := 0, slots := 0, locals := 0 }
set_option maxHeartbeats 4000000 in
set_option maxRecDepth 100000 in
theorem c_Tables_lastSize (l : Launch) (D : va_G) (K : (Nat → Nat) × (Nat → Nat)) (F : Nat) {h : hH} {x0 : Nat} {q : (Int32 × hH)} (hM : M_Tables_lastSize F h x0 = some q) : Met l y_Tables_lastSize (.code y_Tables_lastSize prog_10_method_3_code 2 (some .int) :: T0) rm_Tables_lastSize (hPc hG D cls0 K [.ref x0] h) (hQ D cls0 h (some (.int q.1)) q.2) 0 0 (hF h) := by
  refine J_met (lv := [(0, .ref x0)]) (by decide) (Nat.le_of_ble_eq_true rfl) rfl ?_
  intro p e s m below meth c X hr hlk hnm
  have Y : HX p s m _ meth c prog_10_method_3_code 2 "LicenceTexts$Tables" D K "lastSize" (some .int) h := ⟨X, hr, hlk, hnm⟩
  unfold M_Tables_lastSize at hM
  refine J_aload_n (pc := 0) X 0 d_Tables_lastSize_0 rfl ?_
  obtain ⟨v1, ev1, hM⟩ := hb_some hM
  refine J_getI (pc := 1) X hc_Tables in_Tables 2 k_68 (by decide) rfl d_Tables_lastSize_1 rfl ev1 ?_
  refine J_iconst (pc := 4) (v := (1)) X d_Tables_lastSize_4 (by decide) ?_
  refine J_isub (pc := 5) X d_Tables_lastSize_5 ?_
  refine J_istore_n (pc := 6) (lv' := [(1, .int (v1 - 1)), (0, .ref x0)]) X d_Tables_lastSize_6 rfl (by decide) rfl ?_
  refine J_iload_n (pc := 7) X 0 d_Tables_lastSize_7 rfl ?_
  refine J_if_lt (pc := 8) (tgt := 29) X d_Tables_lastSize_8 (by decide) (fun c2 => ?_) (fun c2 => ?_)
  · have hM := hif_t hM c2
    refine J_iconst (pc := 29) (v := (0)) X d_Tables_lastSize_29 (by decide) ?_
    obtain rfl := Option.some.inj hM
    exact J_iret (pc := 30) X hr hlk (Nat.le_of_ble_eq_true rfl) (Nat.le_of_ble_eq_true rfl) d_Tables_lastSize_30
  · have hM := hif_f hM c2
    refine J_iload_n (pc := 11) X 0 d_Tables_lastSize_11 rfl ?_
    refine J_aload_n (pc := 12) X 1 d_Tables_lastSize_12 rfl ?_
    obtain ⟨v3, ev3, hM⟩ := hb_some hM
    refine J_getA (pc := 13) X hc_Tables in_Tables 1 k_67 (by decide) rfl d_Tables_lastSize_13 rfl ev3 ?_
    obtain ⟨v4, ev4, hM⟩ := hb_some hM
    refine J_alen (pc := 16) X d_Tables_lastSize_16 rfl ev4 ?_
    refine J_icmp_ge (pc := 17) (tgt := 29) X d_Tables_lastSize_17 (by decide) (fun c5 => ?_) (fun c5 => ?_)
    · have hM := hif_t hM c5
      refine J_iconst (pc := 29) (v := (0)) X d_Tables_lastSize_29 (by decide) ?_
      obtain rfl := Option.some.inj hM
      exact J_iret (pc := 30) X hr hlk (Nat.le_of_ble_eq_true rfl) (Nat.le_of_ble_eq_true rfl) d_Tables_lastSize_30
    · have hM := hif_f hM c5
      refine J_aload_n (pc := 20) X 1 d_Tables_lastSize_20 rfl ?_
      obtain ⟨v6, ev6, hM⟩ := hb_some hM
      refine J_getA (pc := 21) X hc_Tables in_Tables 1 k_67 (by decide) rfl d_Tables_lastSize_21 rfl ev6 ?_
      refine J_iload_n (pc := 24) X 0 d_Tables_lastSize_24 rfl ?_
      obtain ⟨v7, ev7, hM⟩ := hb_some hM
      refine J_iald (pc := 25) X d_Tables_lastSize_25 rfl ev7 ?_
      refine J_goto (pc := 26) (tgt := 30) X d_Tables_lastSize_26 (by decide) ?_
      obtain rfl := Option.some.inj hM
      exact J_iret (pc := 30) X hr hlk (Nat.le_of_ble_eq_true rfl) (Nat.le_of_ble_eq_true rfl) d_Tables_lastSize_30
abbrev rm_Tables_addNumber : Room := { frames := 1, cells := 0, slots := 0, locals := 21 }
set_option maxHeartbeats 4000000 in
set_option maxRecDepth 100000 in
theorem c_Tables_addNumber (l : Launch) (D : va_G) (K : (Nat → Nat) × (Nat → Nat)) (F : Nat) {h : hH} {x0 : Nat} {x1 : Int32} {q : (Int32 × hH)} (hM : M_Tables_addNumber F h x0 x1 = some q) : Met l y_Tables_addNumber (.code y_Tables_addNumber prog_10_method_4_code 5 (some .boolean) :: T0) rm_Tables_addNumber (hPc hG D cls0 K [.ref x0, .int x1] h) (hQ D cls0 h (some (.int q.1)) q.2) 0 0 (hF h) := by
  refine J_met (lv := [(0, .ref x0), (1, .int x1)]) (by decide) (Nat.le_of_ble_eq_true rfl) rfl ?_
  intro p e s m below meth c X hr hlk hnm
  have Y : HX p s m _ meth c prog_10_method_4_code 5 "LicenceTexts$Tables" D K "addNumber" (some .boolean) h := ⟨X, hr, hlk, hnm⟩
  unfold M_Tables_addNumber at hM
  refine J_aload_n (pc := 0) X 0 d_Tables_addNumber_0 rfl ?_
  obtain ⟨v1, ev1, hM⟩ := hb_some hM
  refine J_getI (pc := 1) X hc_Tables in_Tables 2 k_68 (by decide) rfl d_Tables_addNumber_1 rfl ev1 ?_
  refine J_iconst (pc := 4) (v := (1)) X d_Tables_addNumber_4 (by decide) ?_
  refine J_isub (pc := 5) X d_Tables_addNumber_5 ?_
  refine J_istore_n (pc := 6) (lv' := [(2, .int (v1 - 1)), (0, .ref x0), (1, .int x1)]) X d_Tables_addNumber_6 rfl (by decide) rfl ?_
  refine J_aload_n (pc := 7) X 1 d_Tables_addNumber_7 rfl ?_
  obtain ⟨u2, eu2, hM⟩ := hb_some hM
  obtain ⟨q3, eq3, hM⟩ := hb_some hM
  refine J_callV (pc := 8) (As := []) (rest := []) (o := (some (.int q3.1))) (h2 := q3.2) X rfl hc_Tables eu2 (c_Tables_lastSize l D K F eq3) (cwV_of (nA := 0) X.fix k_69 k_72 k_73 k_71 k_70 ⟨rfl, rfl, rfl⟩ (by decide +kernel) ⟨Nat.le_of_ble_eq_true rfl, Nat.le_of_ble_eq_true rfl⟩) d_Tables_addNumber_8 rfl rfl (Nat.le_of_ble_eq_true rfl) (Nat.le_of_ble_eq_true rfl) (Nat.le_of_ble_eq_true rfl) ?_
  refine J_istore_n (pc := 11) (lv' := [(3, .int q3.1), (2, .int (v1 - 1)), (0, .ref x0), (1, .int x1)]) X d_Tables_addNumber_11 rfl (by decide) rfl ?_
  refine J_iload_n (pc := 12) X 1 d_Tables_addNumber_12 rfl ?_
  refine J_bipush (pc := 13) (v := (10)) X d_Tables_addNumber_13 (by decide) ?_
  refine J_imul (pc := 15) X d_Tables_addNumber_15 ?_
  refine J_iload_n (pc := 16) X 0 d_Tables_addNumber_16 rfl ?_
  refine J_iadd (pc := 17) X d_Tables_addNumber_17 ?_
  refine J_istore (pc := 18) (lv' := [(4, .int (((v1 - 1) * 10) + q3.1)), (3, .int q3.1), (2, .int (v1 - 1)), (0, .ref x0), (1, .int x1)]) X d_Tables_addNumber_18 (by decide) rfl ?_
  refine J_iload_n (pc := 20) X 2 d_Tables_addNumber_20 rfl ?_
  refine J_if_lt (pc := 21) (tgt := 54) X d_Tables_addNumber_21 (by decide) (fun c4 => ?_) (fun c4 => ?_)
  · have hM := hif_t hM c4
    refine J_iconst (pc := 54) (v := (0)) X d_Tables_addNumber_54 (by decide) ?_
    obtain rfl := Option.some.inj hM
    exact J_zret (pc := 55) X hr hz0 hlk (Nat.le_of_ble_eq_true rfl) (Nat.le_of_ble_eq_true rfl) d_Tables_addNumber_55
  · have hM := hif_f hM c4
    refine J_iload_n (pc := 24) X 2 d_Tables_addNumber_24 rfl ?_
    refine J_aload_n (pc := 25) X 3 d_Tables_addNumber_25 rfl ?_
    obtain ⟨v5, ev5, hM⟩ := hb_some hM
    refine J_getA (pc := 26) X hc_Tables in_Tables 1 k_67 (by decide) rfl d_Tables_addNumber_26 rfl ev5 ?_
    obtain ⟨v6, ev6, hM⟩ := hb_some hM
    refine J_alen (pc := 29) X d_Tables_addNumber_29 rfl ev6 ?_
    refine J_icmp_ge (pc := 30) (tgt := 54) X d_Tables_addNumber_30 (by decide) (fun c7 => ?_) (fun c7 => ?_)
    · have hM := hif_t hM c7
      refine J_iconst (pc := 54) (v := (0)) X d_Tables_addNumber_54 (by decide) ?_
      obtain rfl := Option.some.inj hM
      exact J_zret (pc := 55) X hr hz0 hlk (Nat.le_of_ble_eq_true rfl) (Nat.le_of_ble_eq_true rfl) d_Tables_addNumber_55
    · have hM := hif_f hM c7
      refine J_iload_n (pc := 33) X 1 d_Tables_addNumber_33 rfl ?_
      refine J_bipush (pc := 34) (v := (10)) X d_Tables_addNumber_34 (by decide) ?_
      refine J_icmp_ge (pc := 36) (tgt := 54) X d_Tables_addNumber_36 (by decide) (fun c8 => ?_) (fun c8 => ?_)
      · have hM := hif_t hM c8
        refine J_iconst (pc := 54) (v := (0)) X d_Tables_addNumber_54 (by decide) ?_
        obtain rfl := Option.some.inj hM
        exact J_zret (pc := 55) X hr hz0 hlk (Nat.le_of_ble_eq_true rfl) (Nat.le_of_ble_eq_true rfl) d_Tables_addNumber_55
      · have hM := hif_f hM c8
        refine J_iload (pc := 39) X 0 d_Tables_addNumber_39 rfl ?_
        refine J_if_lt (pc := 41) (tgt := 54) X d_Tables_addNumber_41 (by decide) (fun c9 => ?_) (fun c9 => ?_)
        · have hM := hif_t hM c9
          refine J_iconst (pc := 54) (v := (0)) X d_Tables_addNumber_54 (by decide) ?_
          obtain rfl := Option.some.inj hM
          exact J_zret (pc := 55) X hr hz0 hlk (Nat.le_of_ble_eq_true rfl) (Nat.le_of_ble_eq_true rfl) d_Tables_addNumber_55
        · have hM := hif_f hM c9
          refine J_iload (pc := 44) X 0 d_Tables_addNumber_44 rfl ?_
          refine J_aload_n (pc := 46) X 3 d_Tables_addNumber_46 rfl ?_
          obtain ⟨v10, ev10, hM⟩ := hb_some hM
          refine J_getA (pc := 47) X hc_Tables in_Tables 0 k_66 (by decide) rfl d_Tables_addNumber_47 rfl ev10 ?_
          obtain ⟨v11, ev11, hM⟩ := hb_some hM
          refine J_alen (pc := 50) X d_Tables_addNumber_50 rfl ev11 ?_
          refine J_icmp_lt (pc := 51) (tgt := 56) X d_Tables_addNumber_51 (by decide) (fun c12 => ?_) (fun c12 => ?_)
          · have hM := hif_t hM c12
            refine J_aload_n (pc := 56) X 3 d_Tables_addNumber_56 rfl ?_
            obtain ⟨v13, ev13, hM⟩ := hb_some hM
            refine J_getA (pc := 57) X hc_Tables in_Tables 0 k_66 (by decide) rfl d_Tables_addNumber_57 rfl ev13 ?_
            refine J_iload (pc := 60) X 0 d_Tables_addNumber_60 rfl ?_
            refine J_iload_n (pc := 62) X 4 d_Tables_addNumber_62 rfl ?_
            obtain ⟨h14, eh14, hM⟩ := hb_some hM
            refine J_iast (pc := 63) X d_Tables_addNumber_63 rfl eh14 ?_
            refine J_aload_n (pc := 64) X 3 d_Tables_addNumber_64 rfl ?_
            obtain ⟨v15, ev15, hM⟩ := hb_some hM
            refine J_getA (pc := 65) X hc_Tables in_Tables 1 k_67 (by decide) rfl d_Tables_addNumber_65 rfl ev15 ?_
            refine J_iload_n (pc := 68) X 2 d_Tables_addNumber_68 rfl ?_
            refine J_iload_n (pc := 69) X 1 d_Tables_addNumber_69 rfl ?_
            refine J_iconst (pc := 70) (v := (1)) X d_Tables_addNumber_70 (by decide) ?_
            refine J_iadd (pc := 71) X d_Tables_addNumber_71 ?_
            obtain ⟨h16, eh16, hM⟩ := hb_some hM
            refine J_iast (pc := 72) X d_Tables_addNumber_72 rfl eh16 ?_
            refine J_iconst (pc := 73) (v := (1)) X d_Tables_addNumber_73 (by decide) ?_
            obtain rfl := Option.some.inj hM
            exact J_zret (pc := 74) X hr hz1 hlk (Nat.le_of_ble_eq_true rfl) (Nat.le_of_ble_eq_true rfl) d_Tables_addNumber_74
          · have hM := hif_f hM c12
            refine J_iconst (pc := 54) (v := (0)) X d_Tables_addNumber_54 (by decide) ?_
            obtain rfl := Option.some.inj hM
            exact J_zret (pc := 55) X hr hz0 hlk (Nat.le_of_ble_eq_true rfl) (Nat.le_of_ble_eq_true rfl) d_Tables_addNumber_55
abbrev rm_Tables_numberAt : Room := { frames := 0, cells := 0, slots := 0, locals := 0 }
set_option maxHeartbeats 4000000 in
set_option maxRecDepth 100000 in
theorem c_Tables_numberAt (l : Launch) (D : va_G) (K : (Nat → Nat) × (Nat → Nat)) (F : Nat) {h : hH} {x0 : Nat} {x1 : Int32} {x2 : Int64} {q : (Int32 × hH)} (hM : M_Tables_numberAt F h x0 x1 x2 = some q) : Met l y_Tables_numberAt (.code y_Tables_numberAt prog_10_method_5_code 5 (some .int) :: T0) rm_Tables_numberAt (hPc hG D cls0 K [.ref x0, .int x1, .long x2] h) (hQ D cls0 h (some (.int q.1)) q.2) 0 0 (hF h) := by
  refine J_met (lv := [(0, .ref x0), (1, .int x1), (2, .long x2)]) (by decide) (Nat.le_of_ble_eq_true rfl) rfl ?_
  intro p e s m below meth c X hr hlk hnm
  have Y : HX p s m _ meth c prog_10_method_5_code 5 "LicenceTexts$Tables" D K "numberAt" (some .int) h := ⟨X, hr, hlk, hnm⟩
  unfold M_Tables_numberAt at hM
  refine J_iload_n (pc := 0) X 1 d_Tables_numberAt_0 rfl ?_
  refine J_if_lt (pc := 1) (tgt := 39) X d_Tables_numberAt_1 (by decide) (fun c1 => ?_) (fun c1 => ?_)
  · have hM := hif_t hM c1
    refine J_iconst (pc := 39) (v := (-1)) X d_Tables_numberAt_39 (by decide) ?_
    obtain rfl := Option.some.inj hM
    exact J_iret (pc := 40) X hr hlk (Nat.le_of_ble_eq_true rfl) (Nat.le_of_ble_eq_true rfl) d_Tables_numberAt_40
  · have hM := hif_f hM c1
    refine J_iload_n (pc := 4) X 1 d_Tables_numberAt_4 rfl ?_
    refine J_aload_n (pc := 5) X 0 d_Tables_numberAt_5 rfl ?_
    obtain ⟨v2, ev2, hM⟩ := hb_some hM
    refine J_getI (pc := 6) X hc_Tables in_Tables 2 k_68 (by decide) rfl d_Tables_numberAt_6 rfl ev2 ?_
    refine J_icmp_ge (pc := 9) (tgt := 39) X d_Tables_numberAt_9 (by decide) (fun c3 => ?_) (fun c3 => ?_)
    · have hM := hif_t hM c3
      refine J_iconst (pc := 39) (v := (-1)) X d_Tables_numberAt_39 (by decide) ?_
      obtain rfl := Option.some.inj hM
      exact J_iret (pc := 40) X hr hlk (Nat.le_of_ble_eq_true rfl) (Nat.le_of_ble_eq_true rfl) d_Tables_numberAt_40
    · have hM := hif_f hM c3
      refine J_iload_n (pc := 12) X 1 d_Tables_numberAt_12 rfl ?_
      refine J_aload_n (pc := 13) X 0 d_Tables_numberAt_13 rfl ?_
      obtain ⟨v4, ev4, hM⟩ := hb_some hM
      refine J_getA (pc := 14) X hc_Tables in_Tables 1 k_67 (by decide) rfl d_Tables_numberAt_14 rfl ev4 ?_
      obtain ⟨v5, ev5, hM⟩ := hb_some hM
      refine J_alen (pc := 17) X d_Tables_numberAt_17 rfl ev5 ?_
      refine J_icmp_ge (pc := 18) (tgt := 39) X d_Tables_numberAt_18 (by decide) (fun c6 => ?_) (fun c6 => ?_)
      · have hM := hif_t hM c6
        refine J_iconst (pc := 39) (v := (-1)) X d_Tables_numberAt_39 (by decide) ?_
        obtain rfl := Option.some.inj hM
        exact J_iret (pc := 40) X hr hlk (Nat.le_of_ble_eq_true rfl) (Nat.le_of_ble_eq_true rfl) d_Tables_numberAt_40
      · have hM := hif_f hM c6
        refine J_lload_n (pc := 21) X 2 d_Tables_numberAt_21 rfl ?_
        refine J_lconst (pc := 22) (v := (0)) X d_Tables_numberAt_22 (by decide) ?_
        refine J_lcmp (pc := 23) X d_Tables_numberAt_23 ?_
        refine J_if_lt (pc := 24) (tgt := 39) X d_Tables_numberAt_24 (by decide) (fun c7 => ?_) (fun c7 => ?_)
        · have hM := hif_t hM c7
          refine J_iconst (pc := 39) (v := (-1)) X d_Tables_numberAt_39 (by decide) ?_
          obtain rfl := Option.some.inj hM
          exact J_iret (pc := 40) X hr hlk (Nat.le_of_ble_eq_true rfl) (Nat.le_of_ble_eq_true rfl) d_Tables_numberAt_40
        · have hM := hif_f hM c7
          refine J_lload_n (pc := 27) X 2 d_Tables_numberAt_27 rfl ?_
          refine J_aload_n (pc := 28) X 0 d_Tables_numberAt_28 rfl ?_
          obtain ⟨v8, ev8, hM⟩ := hb_some hM
          refine J_getA (pc := 29) X hc_Tables in_Tables 1 k_67 (by decide) rfl d_Tables_numberAt_29 rfl ev8 ?_
          refine J_iload_n (pc := 32) X 1 d_Tables_numberAt_32 rfl ?_
          obtain ⟨v9, ev9, hM⟩ := hb_some hM
          refine J_iald (pc := 33) X d_Tables_numberAt_33 rfl ev9 ?_
          refine J_i2l (pc := 34) X d_Tables_numberAt_34 ?_
          refine J_lcmp (pc := 35) X d_Tables_numberAt_35 ?_
          refine J_if_lt (pc := 36) (tgt := 41) X d_Tables_numberAt_36 (by decide) (fun c10 => ?_) (fun c10 => ?_)
          · have hM := hif_t hM c10
            refine J_iload_n (pc := 41) X 1 d_Tables_numberAt_41 rfl ?_
            refine J_bipush (pc := 42) (v := (10)) X d_Tables_numberAt_42 (by decide) ?_
            refine J_imul (pc := 44) X d_Tables_numberAt_44 ?_
            refine J_lload_n (pc := 45) X 2 d_Tables_numberAt_45 rfl ?_
            refine J_l2i (pc := 46) X d_Tables_numberAt_46 ?_
            refine J_iadd (pc := 47) X d_Tables_numberAt_47 ?_
            refine J_istore (pc := 48) (lv' := [(4, .int ((x1 * 10) + x2.toInt32)), (0, .ref x0), (1, .int x1), (2, .long x2)]) X d_Tables_numberAt_48 (by decide) rfl ?_
            refine J_iload (pc := 50) X 0 d_Tables_numberAt_50 rfl ?_
            refine J_if_lt (pc := 52) (tgt := 75) X d_Tables_numberAt_52 (by decide) (fun c11 => ?_) (fun c11 => ?_)
            · have hM := hif_t hM c11
              refine J_iconst (pc := 75) (v := (-1)) X d_Tables_numberAt_75 (by decide) ?_
              obtain rfl := Option.some.inj hM
              exact J_iret (pc := 76) X hr hlk (Nat.le_of_ble_eq_true rfl) (Nat.le_of_ble_eq_true rfl) d_Tables_numberAt_76
            · have hM := hif_f hM c11
              refine J_iload (pc := 55) X 0 d_Tables_numberAt_55 rfl ?_
              refine J_aload_n (pc := 57) X 1 d_Tables_numberAt_57 rfl ?_
              obtain ⟨v12, ev12, hM⟩ := hb_some hM
              refine J_getA (pc := 58) X hc_Tables in_Tables 0 k_66 (by decide) rfl d_Tables_numberAt_58 rfl ev12 ?_
              obtain ⟨v13, ev13, hM⟩ := hb_some hM
              refine J_alen (pc := 61) X d_Tables_numberAt_61 rfl ev13 ?_
              refine J_icmp_ge (pc := 62) (tgt := 75) X d_Tables_numberAt_62 (by decide) (fun c14 => ?_) (fun c14 => ?_)
              · have hM := hif_t hM c14
                refine J_iconst (pc := 75) (v := (-1)) X d_Tables_numberAt_75 (by decide) ?_
                obtain rfl := Option.some.inj hM
                exact J_iret (pc := 76) X hr hlk (Nat.le_of_ble_eq_true rfl) (Nat.le_of_ble_eq_true rfl) d_Tables_numberAt_76
              · have hM := hif_f hM c14
                refine J_aload_n (pc := 65) X 1 d_Tables_numberAt_65 rfl ?_
                obtain ⟨v15, ev15, hM⟩ := hb_some hM
                refine J_getA (pc := 66) X hc_Tables in_Tables 0 k_66 (by decide) rfl d_Tables_numberAt_66 rfl ev15 ?_
                refine J_iload (pc := 69) X 0 d_Tables_numberAt_69 rfl ?_
                obtain ⟨v16, ev16, hM⟩ := hb_some hM
                refine J_iald (pc := 71) X d_Tables_numberAt_71 rfl ev16 ?_
                refine J_goto (pc := 72) (tgt := 76) X d_Tables_numberAt_72 (by decide) ?_
                obtain rfl := Option.some.inj hM
                exact J_iret (pc := 76) X hr hlk (Nat.le_of_ble_eq_true rfl) (Nat.le_of_ble_eq_true rfl) d_Tables_numberAt_76
          · have hM := hif_f hM c10
            refine J_iconst (pc := 39) (v := (-1)) X d_Tables_numberAt_39 (by decide) ?_
            obtain rfl := Option.some.inj hM
            exact J_iret (pc := 40) X hr hlk (Nat.le_of_ble_eq_true rfl) (Nat.le_of_ble_eq_true rfl) d_Tables_numberAt_40
end
section
theorem d_Edition_init_0 : decode prog_3_method_1_code 0 = .ok (.aload_n 0, 1) := by decide +kernel
theorem d_Edition_init_1 : decode prog_3_method_1_code 1 = .ok (.invokespecial 3, 3) := by decide +kernel
theorem d_Edition_init_4 : decode prog_3_method_1_code 4 = .ok (.aload_n 0, 1) := by decide +kernel
theorem d_Edition_init_5 : decode prog_3_method_1_code 5 = .ok (.iload_n 1, 1) := by decide +kernel
theorem d_Edition_init_6 : decode prog_3_method_1_code 6 = .ok (.putfield 9, 3) := by decide +kernel
theorem d_Edition_init_9 : decode prog_3_method_1_code 9 = .ok (.aload_n 0, 1) := by decide +kernel
theorem d_Edition_init_10 : decode prog_3_method_1_code 10 = .ok (.aload_n 2, 1) := by decide +kernel
theorem d_Edition_init_11 : decode prog_3_method_1_code 11 = .ok (.putfield 15, 3) := by decide +kernel
theorem d_Edition_init_14 : decode prog_3_method_1_code 14 = .ok (.aload_n 0, 1) := by decide +kernel
theorem d_Edition_init_15 : decode prog_3_method_1_code 15 = .ok (.new 19, 3) := by decide +kernel
theorem d_Edition_init_18 : decode prog_3_method_1_code 18 = .ok (.dup, 1) := by decide +kernel
theorem d_Edition_init_19 : decode prog_3_method_1_code 19 = .ok (.invokespecial 21, 3) := by decide +kernel
theorem d_Edition_init_22 : decode prog_3_method_1_code 22 = .ok (.putfield 22, 3) := by decide +kernel
theorem d_Edition_init_25 : decode prog_3_method_1_code 25 = .ok (.aload_n 0, 1) := by decide +kernel
theorem d_Edition_init_26 : decode prog_3_method_1_code 26 = .ok (.new 26, 3) := by decide +kernel
theorem d_Edition_init_29 : decode prog_3_method_1_code 29 = .ok (.dup, 1) := by decide +kernel
theorem d_Edition_init_30 : decode prog_3_method_1_code 30 = .ok (.invokespecial 28, 3) := by decide +kernel
theorem d_Edition_init_33 : decode prog_3_method_1_code 33 = .ok (.putfield 29, 3) := by decide +kernel
theorem d_Edition_init_36 : decode prog_3_method_1_code 36 = .ok (.aload_n 0, 1) := by decide +kernel
theorem d_Edition_init_37 : decode prog_3_method_1_code 37 = .ok (.bipush 12, 2) := by decide +kernel
theorem d_Edition_init_39 : decode prog_3_method_1_code 39 = .ok (.anewarray 33, 3) := by decide +kernel
theorem d_Edition_init_42 : decode prog_3_method_1_code 42 = .ok (.putfield 35, 3) := by decide +kernel
theorem d_Edition_init_45 : decode prog_3_method_1_code 45 = .ok (.aload_n 0, 1) := by decide +kernel
theorem d_Edition_init_46 : decode prog_3_method_1_code 46 = .ok (.iconst 0, 1) := by decide +kernel
theorem d_Edition_init_47 : decode prog_3_method_1_code 47 = .ok (.putfield 39, 3) := by decide +kernel
theorem d_Edition_init_50 : decode prog_3_method_1_code 50 = .ok (.return_, 1) := by decide +kernel
theorem d_Edition_ruleAt_0 : decode prog_3_method_2_code 0 = .ok (.iload_n 1, 1) := by decide +kernel
theorem d_Edition_ruleAt_1 : decode prog_3_method_2_code 1 = .ok (.ifCond .lt 29, 3) := by decide +kernel
theorem d_Edition_ruleAt_30 : decode prog_3_method_2_code 30 = .ok (.aconst_null, 1) := by decide +kernel
theorem d_Edition_ruleAt_31 : decode prog_3_method_2_code 31 = .ok (.areturn, 1) := by decide +kernel
theorem d_Edition_ruleAt_4 : decode prog_3_method_2_code 4 = .ok (.iload_n 1, 1) := by decide +kernel
theorem d_Edition_ruleAt_5 : decode prog_3_method_2_code 5 = .ok (.aload_n 0, 1) := by decide +kernel
theorem d_Edition_ruleAt_6 : decode prog_3_method_2_code 6 = .ok (.getfield 39, 3) := by decide +kernel
theorem d_Edition_ruleAt_9 : decode prog_3_method_2_code 9 = .ok (.if_icmp .ge 21, 3) := by decide +kernel
theorem d_Edition_ruleAt_12 : decode prog_3_method_2_code 12 = .ok (.iload_n 1, 1) := by decide +kernel
theorem d_Edition_ruleAt_13 : decode prog_3_method_2_code 13 = .ok (.aload_n 0, 1) := by decide +kernel
theorem d_Edition_ruleAt_14 : decode prog_3_method_2_code 14 = .ok (.getfield 35, 3) := by decide +kernel
theorem d_Edition_ruleAt_17 : decode prog_3_method_2_code 17 = .ok (.arraylength, 1) := by decide +kernel
theorem d_Edition_ruleAt_18 : decode prog_3_method_2_code 18 = .ok (.if_icmp .ge 12, 3) := by decide +kernel
theorem d_Edition_ruleAt_21 : decode prog_3_method_2_code 21 = .ok (.aload_n 0, 1) := by decide +kernel
theorem d_Edition_ruleAt_22 : decode prog_3_method_2_code 22 = .ok (.getfield 35, 3) := by decide +kernel
theorem d_Edition_ruleAt_25 : decode prog_3_method_2_code 25 = .ok (.iload_n 1, 1) := by decide +kernel
theorem d_Edition_ruleAt_26 : decode prog_3_method_2_code 26 = .ok (.aaload, 1) := by decide +kernel
theorem d_Edition_ruleAt_27 : decode prog_3_method_2_code 27 = .ok (.goto 4, 3) := by decide +kernel
theorem d_Edition_beginRule_0 : decode prog_3_method_3_code 0 = .ok (.aload_n 0, 1) := by decide +kernel
theorem d_Edition_beginRule_1 : decode prog_3_method_3_code 1 = .ok (.getfield 39, 3) := by decide +kernel
theorem d_Edition_beginRule_4 : decode prog_3_method_3_code 4 = .ok (.ifCond .lt 15, 3) := by decide +kernel
theorem d_Edition_beginRule_19 : decode prog_3_method_3_code 19 = .ok (.iconst 0, 1) := by decide +kernel
theorem d_Edition_beginRule_20 : decode prog_3_method_3_code 20 = .ok (.ireturn, 1) := by decide +kernel
theorem d_Edition_beginRule_7 : decode prog_3_method_3_code 7 = .ok (.aload_n 0, 1) := by decide +kernel
theorem d_Edition_beginRule_8 : decode prog_3_method_3_code 8 = .ok (.getfield 39, 3) := by decide +kernel
theorem d_Edition_beginRule_11 : decode prog_3_method_3_code 11 = .ok (.aload_n 0, 1) := by decide +kernel
theorem d_Edition_beginRule_12 : decode prog_3_method_3_code 12 = .ok (.getfield 35, 3) := by decide +kernel
theorem d_Edition_beginRule_15 : decode prog_3_method_3_code 15 = .ok (.arraylength, 1) := by decide +kernel
theorem d_Edition_beginRule_16 : decode prog_3_method_3_code 16 = .ok (.if_icmp .lt 5, 3) := by decide +kernel
theorem d_Edition_beginRule_21 : decode prog_3_method_3_code 21 = .ok (.aload_n 0, 1) := by decide +kernel
theorem d_Edition_beginRule_22 : decode prog_3_method_3_code 22 = .ok (.getfield 35, 3) := by decide +kernel
theorem d_Edition_beginRule_25 : decode prog_3_method_3_code 25 = .ok (.aload_n 0, 1) := by decide +kernel
theorem d_Edition_beginRule_26 : decode prog_3_method_3_code 26 = .ok (.getfield 39, 3) := by decide +kernel
theorem d_Edition_beginRule_29 : decode prog_3_method_3_code 29 = .ok (.new 33, 3) := by decide +kernel
theorem d_Edition_beginRule_32 : decode prog_3_method_3_code 32 = .ok (.dup, 1) := by decide +kernel
theorem d_Edition_beginRule_33 : decode prog_3_method_3_code 33 = .ok (.iload_n 1, 1) := by decide +kernel
theorem d_Edition_beginRule_34 : decode prog_3_method_3_code 34 = .ok (.aload_n 0, 1) := by decide +kernel
theorem d_Edition_beginRule_35 : decode prog_3_method_3_code 35 = .ok (.getfield 22, 3) := by decide +kernel
theorem d_Edition_beginRule_38 : decode prog_3_method_3_code 38 = .ok (.getfield 42, 3) := by decide +kernel
theorem d_Edition_beginRule_41 : decode prog_3_method_3_code 41 = .ok (.invokespecial 45, 3) := by decide +kernel
theorem d_Edition_beginRule_44 : decode prog_3_method_3_code 44 = .ok (.aastore, 1) := by decide +kernel
theorem d_Edition_beginRule_45 : decode prog_3_method_3_code 45 = .ok (.aload_n 0, 1) := by decide +kernel
theorem d_Edition_beginRule_46 : decode prog_3_method_3_code 46 = .ok (.dup, 1) := by decide +kernel
theorem d_Edition_beginRule_47 : decode prog_3_method_3_code 47 = .ok (.getfield 39, 3) := by decide +kernel
theorem d_Edition_beginRule_50 : decode prog_3_method_3_code 50 = .ok (.iconst 1, 1) := by decide +kernel
theorem d_Edition_beginRule_51 : decode prog_3_method_3_code 51 = .ok (.iadd, 1) := by decide +kernel
theorem d_Edition_beginRule_52 : decode prog_3_method_3_code 52 = .ok (.putfield 39, 3) := by decide +kernel
theorem d_Edition_beginRule_55 : decode prog_3_method_3_code 55 = .ok (.iconst 1, 1) := by decide +kernel
theorem d_Edition_beginRule_56 : decode prog_3_method_3_code 56 = .ok (.ireturn, 1) := by decide +kernel
theorem d_Edition_beginNeed_0 : decode prog_3_method_4_code 0 = .ok (.aload_n 0, 1) := by decide +kernel
theorem d_Edition_beginNeed_1 : decode prog_3_method_4_code 1 = .ok (.aload_n 0, 1) := by decide +kernel
theorem d_Edition_beginNeed_2 : decode prog_3_method_4_code 2 = .ok (.getfield 39, 3) := by decide +kernel
theorem d_Edition_beginNeed_5 : decode prog_3_method_4_code 5 = .ok (.iconst 1, 1) := by decide +kernel
theorem d_Edition_beginNeed_6 : decode prog_3_method_4_code 6 = .ok (.isub, 1) := by decide +kernel
theorem d_Edition_beginNeed_7 : decode prog_3_method_4_code 7 = .ok (.invokevirtual 48, 3) := by decide +kernel
theorem d_Edition_beginNeed_10 : decode prog_3_method_4_code 10 = .ok (.astore_n 1, 1) := by decide +kernel
theorem d_Edition_beginNeed_11 : decode prog_3_method_4_code 11 = .ok (.aload_n 1, 1) := by decide +kernel
theorem d_Edition_beginNeed_12 : decode prog_3_method_4_code 12 = .ok (.ifnull 14, 3) := by decide +kernel
theorem d_Edition_beginNeed_26 : decode prog_3_method_4_code 26 = .ok (.return_, 1) := by decide +kernel
theorem d_Edition_beginNeed_15 : decode prog_3_method_4_code 15 = .ok (.aload_n 1, 1) := by decide +kernel
theorem d_Edition_beginNeed_16 : decode prog_3_method_4_code 16 = .ok (.aload_n 0, 1) := by decide +kernel
theorem d_Edition_beginNeed_17 : decode prog_3_method_4_code 17 = .ok (.getfield 22, 3) := by decide +kernel
theorem d_Edition_beginNeed_20 : decode prog_3_method_4_code 20 = .ok (.getfield 42, 3) := by decide +kernel
theorem d_Edition_beginNeed_23 : decode prog_3_method_4_code 23 = .ok (.putfield 52, 3) := by decide +kernel
theorem d_Edition_endRule_0 : decode prog_3_method_5_code 0 = .ok (.aload_n 0, 1) := by decide +kernel
theorem d_Edition_endRule_1 : decode prog_3_method_5_code 1 = .ok (.aload_n 0, 1) := by decide +kernel
theorem d_Edition_endRule_2 : decode prog_3_method_5_code 2 = .ok (.getfield 39, 3) := by decide +kernel
theorem d_Edition_endRule_5 : decode prog_3_method_5_code 5 = .ok (.iconst 1, 1) := by decide +kernel
theorem d_Edition_endRule_6 : decode prog_3_method_5_code 6 = .ok (.isub, 1) := by decide +kernel
theorem d_Edition_endRule_7 : decode prog_3_method_5_code 7 = .ok (.invokevirtual 48, 3) := by decide +kernel
theorem d_Edition_endRule_10 : decode prog_3_method_5_code 10 = .ok (.astore_n 2, 1) := by decide +kernel
theorem d_Edition_endRule_11 : decode prog_3_method_5_code 11 = .ok (.aload_n 2, 1) := by decide +kernel
theorem d_Edition_endRule_12 : decode prog_3_method_5_code 12 = .ok (.ifnull 19, 3) := by decide +kernel
theorem d_Edition_endRule_31 : decode prog_3_method_5_code 31 = .ok (.return_, 1) := by decide +kernel
theorem d_Edition_endRule_15 : decode prog_3_method_5_code 15 = .ok (.aload_n 2, 1) := by decide +kernel
theorem d_Edition_endRule_16 : decode prog_3_method_5_code 16 = .ok (.iload_n 1, 1) := by decide +kernel
theorem d_Edition_endRule_17 : decode prog_3_method_5_code 17 = .ok (.putfield 55, 3) := by decide +kernel
theorem d_Edition_endRule_20 : decode prog_3_method_5_code 20 = .ok (.aload_n 2, 1) := by decide +kernel
theorem d_Edition_endRule_21 : decode prog_3_method_5_code 21 = .ok (.aload_n 0, 1) := by decide +kernel
theorem d_Edition_endRule_22 : decode prog_3_method_5_code 22 = .ok (.getfield 22, 3) := by decide +kernel
theorem d_Edition_endRule_25 : decode prog_3_method_5_code 25 = .ok (.getfield 42, 3) := by decide +kernel
theorem d_Edition_endRule_28 : decode prog_3_method_5_code 28 = .ok (.putfield 58, 3) := by decide +kernel
def M_Edition_init (F : Nat) (h : hH) (x0 : Nat) (x1 : Int32) (x2 : Nat) : Option hH :=
  (hPut h x0 1 0 (.int x1)).bind fun h1 =>
  (hPut h1 x0 1 1 (.ref x2)).bind fun h2 =>
  (some (hAdd h2 (.inl (7, [.null, .null, .int 0])))).bind fun h3 =>
  (M_Steps_init F h3 h2.1).bind fun h4 =>
  (hPut h4 x0 1 2 (.ref h2.1)).bind fun h5 =>
  (some (hAdd h5 (.inl (8, [.null, .null, .int 0])))).bind fun h6 =>
  (M_Tables_init F h6 h5.1).bind fun h7 =>
  (hPut h7 x0 1 3 (.ref h5.1)).bind fun h8 =>
  (some (hAdd h8 (.inr (.object "LicenceTexts$Rule", 12, .inr (.inr (.inr (.inr (fun _ => none)))))))).bind fun h9 =>
  (hPut h9 x0 1 4 (.ref h8.1)).bind fun h10 =>
  (hPut h10 x0 1 5 (.int 0)).bind fun h11 =>
  some h11
def M_Edition_ruleAt (F : Nat) (h : hH) (x0 : Nat) (x1 : Int32) : Option (Option Nat × hH) :=
  if x1 < 0 then (
    some (none, h)
  ) else (
    (hGetI h x0 1 5).bind fun v2 =>
    if v2 ≤ x1 then (
      some (none, h)
    ) else (
      (hGetA h x0 1 4).bind fun v4 =>
      (hLen h v4).bind fun v5 =>
      if v5 ≤ x1 then (
        some (none, h)
      ) else (
        (hGetA h x0 1 4).bind fun v7 =>
        (hLdO h v7 "LicenceTexts$Rule" x1).bind fun v8 =>
        some (v8, h)
      )
    )
  )
def M_Edition_beginRule (F : Nat) (h : hH) (x0 : Nat) (x1 : Int32) : Option (Int32 × hH) :=
  (hGetI h x0 1 5).bind fun v1 =>
  if v1 < 0 then (
    some (0, h)
  ) else (
    (hGetI h x0 1 5).bind fun v3 =>
    (hGetA h x0 1 4).bind fun v4 =>
    (hLen h v4).bind fun v5 =>
    if v3 < v5 then (
      (hGetA h x0 1 4).bind fun v7 =>
      (hGetI h x0 1 5).bind fun v8 =>
      (some (hAdd h (.inl (6, [.int 0, .int 0, .int 0, .int 0, .int 0])))).bind fun h9 =>
      (hGetA h9 x0 1 2).bind fun v10 =>
      (hGetI h9 v10 7 2).bind fun v11 =>
      (M_Rule_init F h9 h.1 x1 v11).bind fun h12 =>
      (hStA h12 v7 "LicenceTexts$Rule" v8 h.1 6).bind fun h13 =>
      (hGetI h13 x0 1 5).bind fun v14 =>
      (hPut h13 x0 1 5 (.int (v14 + 1))).bind fun h15 =>
      some (1, h15)
    ) else (
      some (0, h)
    )
  )
def M_Edition_beginNeed (F : Nat) (h : hH) (x0 : Nat) : Option hH :=
  (hGetI h x0 1 5).bind fun v1 =>
  (hIs h x0 1).bind fun u2 =>
  (M_Edition_ruleAt F h x0 (v1 - 1)).bind fun q3 =>
  hCase q3.1 (
    some q3.2
  ) (fun a5 =>
    (hGetA q3.2 x0 1 2).bind fun v6 =>
    (hGetI q3.2 v6 7 2).bind fun v7 =>
    (hPut q3.2 a5 6 3 (.int v7)).bind fun h8 =>
    some h8
  )
def M_Edition_endRule (F : Nat) (h : hH) (x0 : Nat) (x1 : Int32) : Option hH :=
  (hGetI h x0 1 5).bind fun v1 =>
  (hIs h x0 1).bind fun u2 =>
  (M_Edition_ruleAt F h x0 (v1 - 1)).bind fun q3 =>
  hCase q3.1 (
    some q3.2
  ) (fun a5 =>
    (hPut q3.2 a5 6 2 (.int x1)).bind fun h6 =>
    (hGetA h6 x0 1 2).bind fun v7 =>
    (hGetI h6 v7 7 2).bind fun v8 =>
    (hPut h6 a5 6 4 (.int v8)).bind fun h9 =>
    some h9
  )
abbrev rm_Edition_init : Room := { frames := 2, cells := 7, slots := 906, locals := 32 }
set_option maxHeartbeats 4000000 in
set_option maxRecDepth 100000 in
theorem c_Edition_init (l : Launch) (D : va_G) (K : (Nat → Nat) × (Nat → Nat)) (F : Nat) {h : hH} {x0 : Nat} {x1 : Int32} {x2 : Nat} {q : hH} (hM : M_Edition_init F h x0 x1 x2 = some q) : Met l y_Edition_init (.code y_Edition_init prog_3_method_1_code 3 none :: T0) rm_Edition_init (hPc hG D cls0 K [.ref x0, .int x1, .ref x2] h) (hQ D cls0 h none q) 7 906 (hF h) := by
  refine J_met (lv := [(0, .ref x0), (1, .int x1), (2, .ref x2)]) (by decide) (Nat.le_of_ble_eq_true rfl) rfl ?_
  intro p e s m below meth c X hr hlk hnm
  have Y : HX p s m _ meth c prog_3_method_1_code 3 "LicenceTexts$Edition" D K "<init>" none h := ⟨X, hr, hlk, hnm⟩
  unfold M_Edition_init at hM
  refine J_aload_n (pc := 0) X 0 d_Edition_init_0 rfl ?_
  refine J_objInit (pc := 1) X k_74 k_1 k_2 d_Edition_init_1 (Nat.le_of_ble_eq_true rfl) (Nat.le_of_ble_eq_true rfl) ?_
  refine J_aload_n (pc := 4) X 0 d_Edition_init_4 rfl ?_
  refine J_iload_n (pc := 5) X 1 d_Edition_init_5 rfl ?_
  obtain ⟨h1, eh1, hM⟩ := hb_some hM
  refine J_putF (pc := 6) X hc_Edition in_Edition t_Edition tk_Edition nk_Edition 0 k_75 (by decide) rfl rfl rfl hnm d_Edition_init_6 rfl rfl rfl eh1 ?_
  refine J_aload_n (pc := 9) X 0 d_Edition_init_9 rfl ?_
  refine J_aload_n (pc := 10) X 2 d_Edition_init_10 rfl ?_
  obtain ⟨h2, eh2, hM⟩ := hb_some hM
  refine J_putF (pc := 11) X hc_Edition in_Edition t_Edition tk_Edition nk_Edition 1 k_76 (by decide) rfl rfl rfl hnm d_Edition_init_11 rfl rfl rfl eh2 ?_
  refine J_aload_n (pc := 14) X 0 d_Edition_init_14 rfl ?_
  refine J_new (pc := 15) (fs := [.null, .null, .int 0]) X hc_Steps in_Steps t_Steps tk_Steps k_77 k_78 k_79 d_Edition_init_15 rfl df_Steps (Nat.le_of_ble_eq_true rfl) (Nat.le_of_ble_eq_true rfl) ?_
  obtain ⟨h3, eh3, hM⟩ := hb_some hM
  rw [Option.some.inj eh3]
  refine J_dup (pc := 18) X d_Edition_init_18 rfl ?_
  obtain ⟨h4, eh4, hM⟩ := hb_some hM
  refine J_callI (pc := 19) (As := []) (rest := [.ref h2.1, .ref x0]) (o := none) (h2 := h4) X rfl (c_Steps_init l D K F eh4) (cwI_of (nA := 0) X.fix k_80 k_82 k_79 k_81 ⟨rfl, rfl, rfl⟩ (by decide +kernel) ⟨Nat.le_of_ble_eq_true rfl, Nat.le_of_ble_eq_true rfl⟩) d_Edition_init_19 rfl rfl (Nat.le_of_ble_eq_true rfl) (Nat.le_of_ble_eq_true rfl) (Nat.le_of_ble_eq_true rfl) ?_
  obtain ⟨h5, eh5, hM⟩ := hb_some hM
  refine J_putF (pc := 22) X hc_Edition in_Edition t_Edition tk_Edition nk_Edition 2 k_83 (by decide) rfl rfl rfl hnm d_Edition_init_22 rfl rfl rfl eh5 ?_
  refine J_aload_n (pc := 25) X 0 d_Edition_init_25 rfl ?_
  refine J_new (pc := 26) (fs := [.null, .null, .int 0]) X hc_Tables in_Tables t_Tables tk_Tables k_84 k_85 k_71 d_Edition_init_26 rfl df_Tables (Nat.le_of_ble_eq_true rfl) (Nat.le_of_ble_eq_true rfl) ?_
  obtain ⟨h6, eh6, hM⟩ := hb_some hM
  rw [Option.some.inj eh6]
  refine J_dup (pc := 29) X d_Edition_init_29 rfl ?_
  obtain ⟨h7, eh7, hM⟩ := hb_some hM
  refine J_callI (pc := 30) (As := []) (rest := [.ref h5.1, .ref x0]) (o := none) (h2 := h7) X rfl (c_Tables_init l D K F eh7) (cwI_of (nA := 0) X.fix k_86 k_88 k_71 k_87 ⟨rfl, rfl, rfl⟩ (by decide +kernel) ⟨Nat.le_of_ble_eq_true rfl, Nat.le_of_ble_eq_true rfl⟩) d_Edition_init_30 rfl rfl (Nat.le_of_ble_eq_true rfl) (Nat.le_of_ble_eq_true rfl) (Nat.le_of_ble_eq_true rfl) ?_
  obtain ⟨h8, eh8, hM⟩ := hb_some hM
  refine J_putF (pc := 33) X hc_Edition in_Edition t_Edition tk_Edition nk_Edition 3 k_89 (by decide) rfl rfl rfl hnm d_Edition_init_33 rfl rfl rfl eh8 ?_
  refine J_aload_n (pc := 36) X 0 d_Edition_init_36 rfl ?_
  refine J_bipush (pc := 37) (v := (12)) X d_Edition_init_37 (by decide) ?_
  refine J_newq (pc := 39) (C := "LicenceTexts$Rule") (N := 12) X k_90 (List.mem_of_getElem? (i := 1) rfl) d_Edition_init_39 (by decide) (by decide) (by decide) (Nat.le_of_ble_eq_true rfl) (Nat.le_of_ble_eq_true rfl) ?_
  obtain ⟨h9, eh9, hM⟩ := hb_some hM
  rw [Option.some.inj eh9]
  obtain ⟨h10, eh10, hM⟩ := hb_some hM
  refine J_putF (pc := 42) X hc_Edition in_Edition t_Edition tk_Edition nk_Edition 4 k_91 (by decide) rfl rfl rfl hnm d_Edition_init_42 rfl rfl rfl eh10 ?_
  refine J_aload_n (pc := 45) X 0 d_Edition_init_45 rfl ?_
  refine J_iconst (pc := 46) (v := (0)) X d_Edition_init_46 (by decide) ?_
  obtain ⟨h11, eh11, hM⟩ := hb_some hM
  refine J_put (pc := 47) X hc_Edition in_Edition t_Edition tk_Edition nk_Edition 5 k_92 (by decide) rfl rfl d_Edition_init_47 rfl rfl rfl eh11 ?_
  obtain rfl := Option.some.inj hM
  exact J_vret (pc := 50) X hr hlk (Nat.le_of_ble_eq_true rfl) (Nat.le_of_ble_eq_true rfl) d_Edition_init_50
abbrev rm_Edition_ruleAt : Room := { frames := 0, cells := 0, slots := 0, locals := 0 }
set_option maxHeartbeats 4000000 in
set_option maxRecDepth 100000 in
theorem c_Edition_ruleAt (l : Launch) (D : va_G) (K : (Nat → Nat) × (Nat → Nat)) (F : Nat) {h : hH} {x0 : Nat} {x1 : Int32} {q : (Option Nat × hH)} (hM : M_Edition_ruleAt F h x0 x1 = some q) : Met l y_Edition_ruleAt (.code y_Edition_ruleAt prog_3_method_2_code 2 (some (.object "LicenceTexts$Rule")) :: T0) rm_Edition_ruleAt (hPc hG D cls0 K [.ref x0, .int x1] h) (hQ D cls0 h (some (va_rf q.1)) q.2) 0 0 (hF h) := by
  refine J_met (lv := [(0, .ref x0), (1, .int x1)]) (by decide) (Nat.le_of_ble_eq_true rfl) rfl ?_
  intro p e s m below meth c X hr hlk hnm
  have Y : HX p s m _ meth c prog_3_method_2_code 2 "LicenceTexts$Edition" D K "ruleAt" (some (.object "LicenceTexts$Rule")) h := ⟨X, hr, hlk, hnm⟩
  unfold M_Edition_ruleAt at hM
  refine J_iload_n (pc := 0) X 1 d_Edition_ruleAt_0 rfl ?_
  refine J_if_lt (pc := 1) (tgt := 30) X d_Edition_ruleAt_1 (by decide) (fun c1 => ?_) (fun c1 => ?_)
  · have hM := hif_t hM c1
    refine J_null (pc := 30) X d_Edition_ruleAt_30 ?_
    obtain rfl := Option.some.inj hM
    exact J_aret (pc := 31) (v := none) X hr hlk (Nat.le_of_ble_eq_true rfl) (Nat.le_of_ble_eq_true rfl) d_Edition_ruleAt_31
  · have hM := hif_f hM c1
    refine J_iload_n (pc := 4) X 1 d_Edition_ruleAt_4 rfl ?_
    refine J_aload_n (pc := 5) X 0 d_Edition_ruleAt_5 rfl ?_
    obtain ⟨v2, ev2, hM⟩ := hb_some hM
    refine J_getI (pc := 6) X hc_Edition in_Edition 5 k_92 (by decide) rfl d_Edition_ruleAt_6 rfl ev2 ?_
    refine J_icmp_ge (pc := 9) (tgt := 30) X d_Edition_ruleAt_9 (by decide) (fun c3 => ?_) (fun c3 => ?_)
    · have hM := hif_t hM c3
      refine J_null (pc := 30) X d_Edition_ruleAt_30 ?_
      obtain rfl := Option.some.inj hM
      exact J_aret (pc := 31) (v := none) X hr hlk (Nat.le_of_ble_eq_true rfl) (Nat.le_of_ble_eq_true rfl) d_Edition_ruleAt_31
    · have hM := hif_f hM c3
      refine J_iload_n (pc := 12) X 1 d_Edition_ruleAt_12 rfl ?_
      refine J_aload_n (pc := 13) X 0 d_Edition_ruleAt_13 rfl ?_
      obtain ⟨v4, ev4, hM⟩ := hb_some hM
      refine J_getA (pc := 14) X hc_Edition in_Edition 4 k_91 (by decide) rfl d_Edition_ruleAt_14 rfl ev4 ?_
      obtain ⟨v5, ev5, hM⟩ := hb_some hM
      refine J_alen (pc := 17) X d_Edition_ruleAt_17 rfl ev5 ?_
      refine J_icmp_ge (pc := 18) (tgt := 30) X d_Edition_ruleAt_18 (by decide) (fun c6 => ?_) (fun c6 => ?_)
      · have hM := hif_t hM c6
        refine J_null (pc := 30) X d_Edition_ruleAt_30 ?_
        obtain rfl := Option.some.inj hM
        exact J_aret (pc := 31) (v := none) X hr hlk (Nat.le_of_ble_eq_true rfl) (Nat.le_of_ble_eq_true rfl) d_Edition_ruleAt_31
      · have hM := hif_f hM c6
        refine J_aload_n (pc := 21) X 0 d_Edition_ruleAt_21 rfl ?_
        obtain ⟨v7, ev7, hM⟩ := hb_some hM
        refine J_getA (pc := 22) X hc_Edition in_Edition 4 k_91 (by decide) rfl d_Edition_ruleAt_22 rfl ev7 ?_
        refine J_iload_n (pc := 25) X 1 d_Edition_ruleAt_25 rfl ?_
        obtain ⟨v8, ev8, hM⟩ := hb_some hM
        refine J_aald (pc := 26) X d_Edition_ruleAt_26 rfl ev8 ?_
        refine J_goto (pc := 27) (tgt := 31) X d_Edition_ruleAt_27 (by decide) ?_
        obtain rfl := Option.some.inj hM
        exact J_aret (pc := 31) (v := v8) X hr hlk (Nat.le_of_ble_eq_true rfl) (Nat.le_of_ble_eq_true rfl) d_Edition_ruleAt_31
abbrev rm_Edition_beginRule : Room := { frames := 2, cells := 1, slots := 5, locals := 34 }
set_option maxHeartbeats 4000000 in
set_option maxRecDepth 100000 in
theorem c_Edition_beginRule (l : Launch) (D : va_G) (K : (Nat → Nat) × (Nat → Nat)) (F : Nat) {h : hH} {x0 : Nat} {x1 : Int32} {q : (Int32 × hH)} (hM : M_Edition_beginRule F h x0 x1 = some q) : Met l y_Edition_beginRule (.code y_Edition_beginRule prog_3_method_3_code 2 (some .boolean) :: T0) rm_Edition_beginRule (hPc hG D cls0 K [.ref x0, .int x1] h) (hQ D cls0 h (some (.int q.1)) q.2) 1 5 (hF h) := by
  refine J_met (lv := [(0, .ref x0), (1, .int x1)]) (by decide) (Nat.le_of_ble_eq_true rfl) rfl ?_
  intro p e s m below meth c X hr hlk hnm
  have Y : HX p s m _ meth c prog_3_method_3_code 2 "LicenceTexts$Edition" D K "beginRule" (some .boolean) h := ⟨X, hr, hlk, hnm⟩
  unfold M_Edition_beginRule at hM
  refine J_aload_n (pc := 0) X 0 d_Edition_beginRule_0 rfl ?_
  obtain ⟨v1, ev1, hM⟩ := hb_some hM
  refine J_getI (pc := 1) X hc_Edition in_Edition 5 k_92 (by decide) rfl d_Edition_beginRule_1 rfl ev1 ?_
  refine J_if_lt (pc := 4) (tgt := 19) X d_Edition_beginRule_4 (by decide) (fun c2 => ?_) (fun c2 => ?_)
  · have hM := hif_t hM c2
    refine J_iconst (pc := 19) (v := (0)) X d_Edition_beginRule_19 (by decide) ?_
    obtain rfl := Option.some.inj hM
    exact J_zret (pc := 20) X hr hz0 hlk (Nat.le_of_ble_eq_true rfl) (Nat.le_of_ble_eq_true rfl) d_Edition_beginRule_20
  · have hM := hif_f hM c2
    refine J_aload_n (pc := 7) X 0 d_Edition_beginRule_7 rfl ?_
    obtain ⟨v3, ev3, hM⟩ := hb_some hM
    refine J_getI (pc := 8) X hc_Edition in_Edition 5 k_92 (by decide) rfl d_Edition_beginRule_8 rfl ev3 ?_
    refine J_aload_n (pc := 11) X 0 d_Edition_beginRule_11 rfl ?_
    obtain ⟨v4, ev4, hM⟩ := hb_some hM
    refine J_getA (pc := 12) X hc_Edition in_Edition 4 k_91 (by decide) rfl d_Edition_beginRule_12 rfl ev4 ?_
    obtain ⟨v5, ev5, hM⟩ := hb_some hM
    refine J_alen (pc := 15) X d_Edition_beginRule_15 rfl ev5 ?_
    refine J_icmp_lt (pc := 16) (tgt := 21) X d_Edition_beginRule_16 (by decide) (fun c6 => ?_) (fun c6 => ?_)
    · have hM := hif_t hM c6
      refine J_aload_n (pc := 21) X 0 d_Edition_beginRule_21 rfl ?_
      obtain ⟨v7, ev7, hM⟩ := hb_some hM
      refine J_getA (pc := 22) X hc_Edition in_Edition 4 k_91 (by decide) rfl d_Edition_beginRule_22 rfl ev7 ?_
      refine J_aload_n (pc := 25) X 0 d_Edition_beginRule_25 rfl ?_
      obtain ⟨v8, ev8, hM⟩ := hb_some hM
      refine J_getI (pc := 26) X hc_Edition in_Edition 5 k_92 (by decide) rfl d_Edition_beginRule_26 rfl ev8 ?_
      refine J_new (pc := 29) (fs := [.int 0, .int 0, .int 0, .int 0, .int 0]) X hc_Rule in_Rule t_Rule tk_Rule k_90 k_93 k_94 d_Edition_beginRule_29 rfl df_Rule (Nat.le_of_ble_eq_true rfl) (Nat.le_of_ble_eq_true rfl) ?_
      obtain ⟨h9, eh9, hM⟩ := hb_some hM
      rw [Option.some.inj eh9]
      refine J_dup (pc := 32) X d_Edition_beginRule_32 rfl ?_
      refine J_iload_n (pc := 33) X 1 d_Edition_beginRule_33 rfl ?_
      refine J_aload_n (pc := 34) X 0 d_Edition_beginRule_34 rfl ?_
      obtain ⟨v10, ev10, hM⟩ := hb_some hM
      refine J_getA (pc := 35) X hc_Edition in_Edition 2 k_83 (by decide) rfl d_Edition_beginRule_35 rfl ev10 ?_
      obtain ⟨v11, ev11, hM⟩ := hb_some hM
      refine J_getIN (pc := 38) X hc_Steps in_Steps 2 (nw_5) (by decide) rfl d_Edition_beginRule_38 rfl ev11 ?_
      obtain ⟨h12, eh12, hM⟩ := hb_some hM
      refine J_callI (pc := 41) (As := [.int x1, .int v11]) (rest := [.ref h.1, .int v8, .ref v7]) (o := none) (h2 := h12) X rfl (c_Rule_init l D K F eh12) (cwI_of (nA := 2) X.fix k_95 k_97 k_94 k_96 ⟨rfl, rfl, rfl⟩ (by decide +kernel) ⟨Nat.le_of_ble_eq_true rfl, Nat.le_of_ble_eq_true rfl⟩) d_Edition_beginRule_41 rfl rfl (Nat.le_of_ble_eq_true rfl) (Nat.le_of_ble_eq_true rfl) (Nat.le_of_ble_eq_true rfl) ?_
      obtain ⟨h13, eh13, hM⟩ := hb_some hM
      refine J_aast (pc := 44) X hc_Rule d_Edition_beginRule_44 rfl rfl eh13 ?_
      refine J_aload_n (pc := 45) X 0 d_Edition_beginRule_45 rfl ?_
      refine J_dup (pc := 46) X d_Edition_beginRule_46 rfl ?_
      obtain ⟨v14, ev14, hM⟩ := hb_some hM
      refine J_getI (pc := 47) X hc_Edition in_Edition 5 k_92 (by decide) rfl d_Edition_beginRule_47 rfl ev14 ?_
      refine J_iconst (pc := 50) (v := (1)) X d_Edition_beginRule_50 (by decide) ?_
      refine J_iadd (pc := 51) X d_Edition_beginRule_51 ?_
      obtain ⟨h15, eh15, hM⟩ := hb_some hM
      refine J_put (pc := 52) X hc_Edition in_Edition t_Edition tk_Edition nk_Edition 5 k_92 (by decide) rfl rfl d_Edition_beginRule_52 rfl rfl rfl eh15 ?_
      refine J_iconst (pc := 55) (v := (1)) X d_Edition_beginRule_55 (by decide) ?_
      obtain rfl := Option.some.inj hM
      exact J_zret (pc := 56) X hr hz1 hlk (Nat.le_of_ble_eq_true rfl) (Nat.le_of_ble_eq_true rfl) d_Edition_beginRule_56
    · have hM := hif_f hM c6
      refine J_iconst (pc := 19) (v := (0)) X d_Edition_beginRule_19 (by decide) ?_
      obtain rfl := Option.some.inj hM
      exact J_zret (pc := 20) X hr hz0 hlk (Nat.le_of_ble_eq_true rfl) (Nat.le_of_ble_eq_true rfl) d_Edition_beginRule_20
abbrev rm_Edition_beginNeed : Room := { frames := 1, cells := 0, slots := 0, locals := 21 }
set_option maxHeartbeats 4000000 in
set_option maxRecDepth 100000 in
theorem c_Edition_beginNeed (l : Launch) (D : va_G) (K : (Nat → Nat) × (Nat → Nat)) (F : Nat) {h : hH} {x0 : Nat} {q : hH} (hM : M_Edition_beginNeed F h x0 = some q) : Met l y_Edition_beginNeed (.code y_Edition_beginNeed prog_3_method_4_code 2 none :: T0) rm_Edition_beginNeed (hPc hG D cls0 K [.ref x0] h) (hQ D cls0 h none q) 0 0 (hF h) := by
  refine J_met (lv := [(0, .ref x0)]) (by decide) (Nat.le_of_ble_eq_true rfl) rfl ?_
  intro p e s m below meth c X hr hlk hnm
  have Y : HX p s m _ meth c prog_3_method_4_code 2 "LicenceTexts$Edition" D K "beginNeed" none h := ⟨X, hr, hlk, hnm⟩
  unfold M_Edition_beginNeed at hM
  refine J_aload_n (pc := 0) X 0 d_Edition_beginNeed_0 rfl ?_
  refine J_aload_n (pc := 1) X 0 d_Edition_beginNeed_1 rfl ?_
  obtain ⟨v1, ev1, hM⟩ := hb_some hM
  refine J_getI (pc := 2) X hc_Edition in_Edition 5 k_92 (by decide) rfl d_Edition_beginNeed_2 rfl ev1 ?_
  refine J_iconst (pc := 5) (v := (1)) X d_Edition_beginNeed_5 (by decide) ?_
  refine J_isub (pc := 6) X d_Edition_beginNeed_6 ?_
  obtain ⟨u2, eu2, hM⟩ := hb_some hM
  obtain ⟨q3, eq3, hM⟩ := hb_some hM
  refine J_callV (pc := 7) (As := [.int (v1 - 1)]) (rest := []) (o := (some (va_rf q3.1))) (h2 := q3.2) X rfl hc_Edition eu2 (c_Edition_ruleAt l D K F eq3) (cwV_of (nA := 1) X.fix k_98 k_101 k_102 k_100 k_99 ⟨rfl, rfl, rfl⟩ (by decide +kernel) ⟨Nat.le_of_ble_eq_true rfl, Nat.le_of_ble_eq_true rfl⟩) d_Edition_beginNeed_7 rfl rfl (Nat.le_of_ble_eq_true rfl) (Nat.le_of_ble_eq_true rfl) (Nat.le_of_ble_eq_true rfl) ?_
  refine J_astoreO_n (pc := 10) (lv' := [(1, va_rf q3.1), (0, .ref x0)]) X d_Edition_beginNeed_10 rfl (by decide) rfl ?_
  refine J_aloadO_n (pc := 11) X 0 d_Edition_beginNeed_11 rfl ?_
  refine J_ifnull (pc := 12) (tgt := 26) X d_Edition_beginNeed_12 (by decide) (fun c4 => ?_) (fun a5 c4 => ?_)
  · have hM := hc_n hM c4
    obtain rfl := Option.some.inj hM
    exact J_vret (pc := 26) X hr hlk (Nat.le_of_ble_eq_true rfl) (Nat.le_of_ble_eq_true rfl) d_Edition_beginNeed_26
  · have hM := hc_s hM c4
    refine J_aloadO_n (pc := 15) X 0 d_Edition_beginNeed_15 rfl ?_
    refine J_aload_n (pc := 16) X 1 d_Edition_beginNeed_16 rfl ?_
    obtain ⟨v6, ev6, hM⟩ := hb_some hM
    refine J_getA (pc := 17) X hc_Edition in_Edition 2 k_83 (by decide) rfl d_Edition_beginNeed_17 rfl ev6 ?_
    obtain ⟨v7, ev7, hM⟩ := hb_some hM
    refine J_getIN (pc := 20) X hc_Steps in_Steps 2 (nw_5) (by decide) rfl d_Edition_beginNeed_20 rfl ev7 ?_
    obtain ⟨h8, eh8, hM⟩ := hb_some hM
    refine J_putN (pc := 23) X hc_Rule in_Rule t_Rule tk_Rule nk_Rule 3 (nw_22) (by decide) rfl rfl d_Edition_beginNeed_23 (hrf c4) rfl rfl eh8 ?_
    obtain rfl := Option.some.inj hM
    exact J_vret (pc := 26) X hr hlk (Nat.le_of_ble_eq_true rfl) (Nat.le_of_ble_eq_true rfl) d_Edition_beginNeed_26
abbrev rm_Edition_endRule : Room := { frames := 1, cells := 0, slots := 0, locals := 21 }
set_option maxHeartbeats 4000000 in
set_option maxRecDepth 100000 in
theorem c_Edition_endRule (l : Launch) (D : va_G) (K : (Nat → Nat) × (Nat → Nat)) (F : Nat) {h : hH} {x0 : Nat} {x1 : Int32} {q : hH} (hM : M_Edition_endRule F h x0 x1 = some q) : Met l y_Edition_endRule (.code y_Edition_endRule prog_3_method_5_code 3 none :: T0) rm_Edition_endRule (hPc hG D cls0 K [.ref x0, .int x1] h) (hQ D cls0 h none q) 0 0 (hF h) := by
  refine J_met (lv := [(0, .ref x0), (1, .int x1)]) (by decide) (Nat.le_of_ble_eq_true rfl) rfl ?_
  intro p e s m below meth c X hr hlk hnm
  have Y : HX p s m _ meth c prog_3_method_5_code 3 "LicenceTexts$Edition" D K "endRule" none h := ⟨X, hr, hlk, hnm⟩
  unfold M_Edition_endRule at hM
  refine J_aload_n (pc := 0) X 0 d_Edition_endRule_0 rfl ?_
  refine J_aload_n (pc := 1) X 0 d_Edition_endRule_1 rfl ?_
  obtain ⟨v1, ev1, hM⟩ := hb_some hM
  refine J_getI (pc := 2) X hc_Edition in_Edition 5 k_92 (by decide) rfl d_Edition_endRule_2 rfl ev1 ?_
  refine J_iconst (pc := 5) (v := (1)) X d_Edition_endRule_5 (by decide) ?_
  refine J_isub (pc := 6) X d_Edition_endRule_6 ?_
  obtain ⟨u2, eu2, hM⟩ := hb_some hM
  obtain ⟨q3, eq3, hM⟩ := hb_some hM
  refine J_callV (pc := 7) (As := [.int (v1 - 1)]) (rest := []) (o := (some (va_rf q3.1))) (h2 := q3.2) X rfl hc_Edition eu2 (c_Edition_ruleAt l D K F eq3) (cwV_of (nA := 1) X.fix k_98 k_101 k_102 k_100 k_99 ⟨rfl, rfl, rfl⟩ (by decide +kernel) ⟨Nat.le_of_ble_eq_true rfl, Nat.le_of_ble_eq_true rfl⟩) d_Edition_endRule_7 rfl rfl (Nat.le_of_ble_eq_true rfl) (Nat.le_of_ble_eq_true rfl) (Nat.le_of_ble_eq_true rfl) ?_
  refine J_astoreO_n (pc := 10) (lv' := [(2, va_rf q3.1), (0, .ref x0), (1, .int x1)]) X d_Edition_endRule_10 rfl (by decide) rfl ?_
  refine J_aloadO_n (pc := 11) X 0 d_Edition_endRule_11 rfl ?_
  refine J_ifnull (pc := 12) (tgt := 31) X d_Edition_endRule_12 (by decide) (fun c4 => ?_) (fun a5 c4 => ?_)
  · have hM := hc_n hM c4
    obtain rfl := Option.some.inj hM
    exact J_vret (pc := 31) X hr hlk (Nat.le_of_ble_eq_true rfl) (Nat.le_of_ble_eq_true rfl) d_Edition_endRule_31
  · have hM := hc_s hM c4
    refine J_aloadO_n (pc := 15) X 0 d_Edition_endRule_15 rfl ?_
    refine J_iload_n (pc := 16) X 2 d_Edition_endRule_16 rfl ?_
    obtain ⟨h6, eh6, hM⟩ := hb_some hM
    refine J_putN (pc := 17) X hc_Rule in_Rule t_Rule tk_Rule nk_Rule 2 (nw_19) (by decide) rfl rfl d_Edition_endRule_17 (hrf c4) rfl rfl eh6 ?_
    refine J_aloadO_n (pc := 20) X 0 d_Edition_endRule_20 rfl ?_
    refine J_aload_n (pc := 21) X 1 d_Edition_endRule_21 rfl ?_
    obtain ⟨v7, ev7, hM⟩ := hb_some hM
    refine J_getA (pc := 22) X hc_Edition in_Edition 2 k_83 (by decide) rfl d_Edition_endRule_22 rfl ev7 ?_
    obtain ⟨v8, ev8, hM⟩ := hb_some hM
    refine J_getIN (pc := 25) X hc_Steps in_Steps 2 (nw_5) (by decide) rfl d_Edition_endRule_25 rfl ev8 ?_
    obtain ⟨h9, eh9, hM⟩ := hb_some hM
    refine J_putN (pc := 28) X hc_Rule in_Rule t_Rule tk_Rule nk_Rule 4 (nw_24) (by decide) rfl rfl d_Edition_endRule_28 (hrf c4) rfl rfl eh9 ?_
    obtain rfl := Option.some.inj hM
    exact J_vret (pc := 31) X hr hlk (Nat.le_of_ble_eq_true rfl) (Nat.le_of_ble_eq_true rfl) d_Edition_endRule_31
end
section
theorem d_Reckoner_init_0 : decode prog_7_method_1_code 0 = .ok (.aload_n 0, 1) := by decide +kernel
theorem d_Reckoner_init_1 : decode prog_7_method_1_code 1 = .ok (.invokespecial 3, 3) := by decide +kernel
theorem d_Reckoner_init_4 : decode prog_7_method_1_code 4 = .ok (.aload_n 0, 1) := by decide +kernel
theorem d_Reckoner_init_5 : decode prog_7_method_1_code 5 = .ok (.aload_n 1, 1) := by decide +kernel
theorem d_Reckoner_init_6 : decode prog_7_method_1_code 6 = .ok (.putfield 9, 3) := by decide +kernel
theorem d_Reckoner_init_9 : decode prog_7_method_1_code 9 = .ok (.aload_n 0, 1) := by decide +kernel
theorem d_Reckoner_init_10 : decode prog_7_method_1_code 10 = .ok (.bipush 64, 2) := by decide +kernel
theorem d_Reckoner_init_12 : decode prog_7_method_1_code 12 = .ok (.newarray .long, 2) := by decide +kernel
theorem d_Reckoner_init_14 : decode prog_7_method_1_code 14 = .ok (.putfield 15, 3) := by decide +kernel
theorem d_Reckoner_init_17 : decode prog_7_method_1_code 17 = .ok (.aload_n 0, 1) := by decide +kernel
theorem d_Reckoner_init_18 : decode prog_7_method_1_code 18 = .ok (.iconst 0, 1) := by decide +kernel
theorem d_Reckoner_init_19 : decode prog_7_method_1_code 19 = .ok (.putfield 19, 3) := by decide +kernel
theorem d_Reckoner_init_22 : decode prog_7_method_1_code 22 = .ok (.aload_n 0, 1) := by decide +kernel
theorem d_Reckoner_init_23 : decode prog_7_method_1_code 23 = .ok (.iconst (-1), 1) := by decide +kernel
theorem d_Reckoner_init_24 : decode prog_7_method_1_code 24 = .ok (.putfield 23, 3) := by decide +kernel
theorem d_Reckoner_init_27 : decode prog_7_method_1_code 27 = .ok (.aload_n 0, 1) := by decide +kernel
theorem d_Reckoner_init_28 : decode prog_7_method_1_code 28 = .ok (.iconst (-1), 1) := by decide +kernel
theorem d_Reckoner_init_29 : decode prog_7_method_1_code 29 = .ok (.putfield 26, 3) := by decide +kernel
theorem d_Reckoner_init_32 : decode prog_7_method_1_code 32 = .ok (.return_, 1) := by decide +kernel
theorem d_Reckoner_push_0 : decode prog_7_method_10_code 0 = .ok (.aload_n 0, 1) := by decide +kernel
theorem d_Reckoner_push_1 : decode prog_7_method_10_code 1 = .ok (.getfield 19, 3) := by decide +kernel
theorem d_Reckoner_push_4 : decode prog_7_method_10_code 4 = .ok (.ifCond .lt 35, 3) := by decide +kernel
theorem d_Reckoner_push_39 : decode prog_7_method_10_code 39 = .ok (.return_, 1) := by decide +kernel
theorem d_Reckoner_push_7 : decode prog_7_method_10_code 7 = .ok (.aload_n 0, 1) := by decide +kernel
theorem d_Reckoner_push_8 : decode prog_7_method_10_code 8 = .ok (.getfield 19, 3) := by decide +kernel
theorem d_Reckoner_push_11 : decode prog_7_method_10_code 11 = .ok (.aload_n 0, 1) := by decide +kernel
theorem d_Reckoner_push_12 : decode prog_7_method_10_code 12 = .ok (.getfield 15, 3) := by decide +kernel
theorem d_Reckoner_push_15 : decode prog_7_method_10_code 15 = .ok (.arraylength, 1) := by decide +kernel
theorem d_Reckoner_push_16 : decode prog_7_method_10_code 16 = .ok (.if_icmp .ge 23, 3) := by decide +kernel
theorem d_Reckoner_push_19 : decode prog_7_method_10_code 19 = .ok (.aload_n 0, 1) := by decide +kernel
theorem d_Reckoner_push_20 : decode prog_7_method_10_code 20 = .ok (.getfield 15, 3) := by decide +kernel
theorem d_Reckoner_push_23 : decode prog_7_method_10_code 23 = .ok (.aload_n 0, 1) := by decide +kernel
theorem d_Reckoner_push_24 : decode prog_7_method_10_code 24 = .ok (.getfield 19, 3) := by decide +kernel
theorem d_Reckoner_push_27 : decode prog_7_method_10_code 27 = .ok (.lload_n 1, 1) := by decide +kernel
theorem d_Reckoner_push_28 : decode prog_7_method_10_code 28 = .ok (.lastore, 1) := by decide +kernel
theorem d_Reckoner_push_29 : decode prog_7_method_10_code 29 = .ok (.aload_n 0, 1) := by decide +kernel
theorem d_Reckoner_push_30 : decode prog_7_method_10_code 30 = .ok (.dup, 1) := by decide +kernel
theorem d_Reckoner_push_31 : decode prog_7_method_10_code 31 = .ok (.getfield 19, 3) := by decide +kernel
theorem d_Reckoner_push_34 : decode prog_7_method_10_code 34 = .ok (.iconst 1, 1) := by decide +kernel
theorem d_Reckoner_push_35 : decode prog_7_method_10_code 35 = .ok (.iadd, 1) := by decide +kernel
theorem d_Reckoner_push_36 : decode prog_7_method_10_code 36 = .ok (.putfield 19, 3) := by decide +kernel
theorem d_Reckoner_pop_0 : decode prog_7_method_11_code 0 = .ok (.aload_n 0, 1) := by decide +kernel
theorem d_Reckoner_pop_1 : decode prog_7_method_11_code 1 = .ok (.getfield 19, 3) := by decide +kernel
theorem d_Reckoner_pop_4 : decode prog_7_method_11_code 4 = .ok (.ifCond .le 15, 3) := by decide +kernel
theorem d_Reckoner_pop_19 : decode prog_7_method_11_code 19 = .ok (.lconst 0, 1) := by decide +kernel
theorem d_Reckoner_pop_20 : decode prog_7_method_11_code 20 = .ok (.lreturn, 1) := by decide +kernel
theorem d_Reckoner_pop_7 : decode prog_7_method_11_code 7 = .ok (.aload_n 0, 1) := by decide +kernel
theorem d_Reckoner_pop_8 : decode prog_7_method_11_code 8 = .ok (.getfield 19, 3) := by decide +kernel
theorem d_Reckoner_pop_11 : decode prog_7_method_11_code 11 = .ok (.aload_n 0, 1) := by decide +kernel
theorem d_Reckoner_pop_12 : decode prog_7_method_11_code 12 = .ok (.getfield 15, 3) := by decide +kernel
theorem d_Reckoner_pop_15 : decode prog_7_method_11_code 15 = .ok (.arraylength, 1) := by decide +kernel
theorem d_Reckoner_pop_16 : decode prog_7_method_11_code 16 = .ok (.if_icmp .le 5, 3) := by decide +kernel
theorem d_Reckoner_pop_21 : decode prog_7_method_11_code 21 = .ok (.aload_n 0, 1) := by decide +kernel
theorem d_Reckoner_pop_22 : decode prog_7_method_11_code 22 = .ok (.dup, 1) := by decide +kernel
theorem d_Reckoner_pop_23 : decode prog_7_method_11_code 23 = .ok (.getfield 19, 3) := by decide +kernel
theorem d_Reckoner_pop_26 : decode prog_7_method_11_code 26 = .ok (.iconst 1, 1) := by decide +kernel
theorem d_Reckoner_pop_27 : decode prog_7_method_11_code 27 = .ok (.isub, 1) := by decide +kernel
theorem d_Reckoner_pop_28 : decode prog_7_method_11_code 28 = .ok (.putfield 19, 3) := by decide +kernel
theorem d_Reckoner_pop_31 : decode prog_7_method_11_code 31 = .ok (.aload_n 0, 1) := by decide +kernel
theorem d_Reckoner_pop_32 : decode prog_7_method_11_code 32 = .ok (.getfield 15, 3) := by decide +kernel
theorem d_Reckoner_pop_35 : decode prog_7_method_11_code 35 = .ok (.aload_n 0, 1) := by decide +kernel
theorem d_Reckoner_pop_36 : decode prog_7_method_11_code 36 = .ok (.getfield 19, 3) := by decide +kernel
theorem d_Reckoner_pop_39 : decode prog_7_method_11_code 39 = .ok (.laload, 1) := by decide +kernel
theorem d_Reckoner_pop_40 : decode prog_7_method_11_code 40 = .ok (.lreturn, 1) := by decide +kernel
theorem d_Reckoner_combined_0 : decode prog_7_method_9_code 0 = .ok (.iload_n 0, 1) := by decide +kernel
theorem d_Reckoner_combined_1 : decode prog_7_method_9_code 1 = .ok (.tableswitch 57 4 7 #[31, 35, 39, 43], 31) := by decide +kernel
theorem d_Reckoner_combined_32 : decode prog_7_method_9_code 32 = .ok (.lload_n 1, 1) := by decide +kernel
theorem d_Reckoner_combined_33 : decode prog_7_method_9_code 33 = .ok (.lload_n 3, 1) := by decide +kernel
theorem d_Reckoner_combined_34 : decode prog_7_method_9_code 34 = .ok (.ladd, 1) := by decide +kernel
theorem d_Reckoner_combined_35 : decode prog_7_method_9_code 35 = .ok (.lreturn, 1) := by decide +kernel
theorem d_Reckoner_combined_36 : decode prog_7_method_9_code 36 = .ok (.lload_n 1, 1) := by decide +kernel
theorem d_Reckoner_combined_37 : decode prog_7_method_9_code 37 = .ok (.lload_n 3, 1) := by decide +kernel
theorem d_Reckoner_combined_38 : decode prog_7_method_9_code 38 = .ok (.lsub, 1) := by decide +kernel
theorem d_Reckoner_combined_39 : decode prog_7_method_9_code 39 = .ok (.lreturn, 1) := by decide +kernel
theorem d_Reckoner_combined_40 : decode prog_7_method_9_code 40 = .ok (.lload_n 1, 1) := by decide +kernel
theorem d_Reckoner_combined_41 : decode prog_7_method_9_code 41 = .ok (.lload_n 3, 1) := by decide +kernel
theorem d_Reckoner_combined_42 : decode prog_7_method_9_code 42 = .ok (.lmul, 1) := by decide +kernel
theorem d_Reckoner_combined_43 : decode prog_7_method_9_code 43 = .ok (.lreturn, 1) := by decide +kernel
theorem d_Reckoner_combined_44 : decode prog_7_method_9_code 44 = .ok (.lload_n 3, 1) := by decide +kernel
theorem d_Reckoner_combined_45 : decode prog_7_method_9_code 45 = .ok (.lconst 0, 1) := by decide +kernel
theorem d_Reckoner_combined_46 : decode prog_7_method_9_code 46 = .ok (.lcmp, 1) := by decide +kernel
theorem d_Reckoner_combined_47 : decode prog_7_method_9_code 47 = .ok (.ifCond .ne 7, 3) := by decide +kernel
theorem d_Reckoner_combined_54 : decode prog_7_method_9_code 54 = .ok (.lload_n 1, 1) := by decide +kernel
theorem d_Reckoner_combined_55 : decode prog_7_method_9_code 55 = .ok (.lload_n 3, 1) := by decide +kernel
theorem d_Reckoner_combined_56 : decode prog_7_method_9_code 56 = .ok (.ldiv, 1) := by decide +kernel
theorem d_Reckoner_combined_57 : decode prog_7_method_9_code 57 = .ok (.lreturn, 1) := by decide +kernel
theorem d_Reckoner_combined_50 : decode prog_7_method_9_code 50 = .ok (.lconst 0, 1) := by decide +kernel
theorem d_Reckoner_combined_51 : decode prog_7_method_9_code 51 = .ok (.goto 6, 3) := by decide +kernel
theorem d_Reckoner_combined_58 : decode prog_7_method_9_code 58 = .ok (.lload_n 3, 1) := by decide +kernel
theorem d_Reckoner_combined_59 : decode prog_7_method_9_code 59 = .ok (.lconst 0, 1) := by decide +kernel
theorem d_Reckoner_combined_60 : decode prog_7_method_9_code 60 = .ok (.lcmp, 1) := by decide +kernel
theorem d_Reckoner_combined_61 : decode prog_7_method_9_code 61 = .ok (.ifCond .ne 7, 3) := by decide +kernel
theorem d_Reckoner_combined_68 : decode prog_7_method_9_code 68 = .ok (.lload_n 1, 1) := by decide +kernel
theorem d_Reckoner_combined_69 : decode prog_7_method_9_code 69 = .ok (.lload_n 3, 1) := by decide +kernel
theorem d_Reckoner_combined_70 : decode prog_7_method_9_code 70 = .ok (.lrem, 1) := by decide +kernel
theorem d_Reckoner_combined_71 : decode prog_7_method_9_code 71 = .ok (.lreturn, 1) := by decide +kernel
theorem d_Reckoner_combined_64 : decode prog_7_method_9_code 64 = .ok (.lconst 0, 1) := by decide +kernel
theorem d_Reckoner_combined_65 : decode prog_7_method_9_code 65 = .ok (.goto 6, 3) := by decide +kernel
theorem d_Reckoner_combine_36 : decode prog_7_method_8_code 36 = .ok (.aload_n 0, 1) := by decide +kernel
theorem d_Reckoner_combine_37 : decode prog_7_method_8_code 37 = .ok (.iload_n 1, 1) := by decide +kernel
theorem d_Reckoner_combine_38 : decode prog_7_method_8_code 38 = .ok (.lload 4, 2) := by decide +kernel
theorem d_Reckoner_combine_40 : decode prog_7_method_8_code 40 = .ok (.lload_n 2, 1) := by decide +kernel
theorem d_Reckoner_combine_41 : decode prog_7_method_8_code 41 = .ok (.invokestatic 104, 3) := by decide +kernel
theorem d_Reckoner_combine_44 : decode prog_7_method_8_code 44 = .ok (.invokevirtual 75, 3) := by decide +kernel
theorem d_Reckoner_combine_47 : decode prog_7_method_8_code 47 = .ok (.iconst 1, 1) := by decide +kernel
theorem d_Reckoner_combine_48 : decode prog_7_method_8_code 48 = .ok (.ireturn, 1) := by decide +kernel
theorem d_Reckoner_combine_23 : decode prog_7_method_8_code 23 = .ok (.lload_n 2, 1) := by decide +kernel
theorem d_Reckoner_combine_24 : decode prog_7_method_8_code 24 = .ok (.lconst 0, 1) := by decide +kernel
theorem d_Reckoner_combine_25 : decode prog_7_method_8_code 25 = .ok (.lcmp, 1) := by decide +kernel
theorem d_Reckoner_combine_26 : decode prog_7_method_8_code 26 = .ok (.ifCond .ne 10, 3) := by decide +kernel
theorem d_Reckoner_combine_29 : decode prog_7_method_8_code 29 = .ok (.aload_n 0, 1) := by decide +kernel
theorem d_Reckoner_combine_30 : decode prog_7_method_8_code 30 = .ok (.iconst 1, 1) := by decide +kernel
theorem d_Reckoner_combine_31 : decode prog_7_method_8_code 31 = .ok (.putfield 23, 3) := by decide +kernel
theorem d_Reckoner_combine_34 : decode prog_7_method_8_code 34 = .ok (.iconst 0, 1) := by decide +kernel
theorem d_Reckoner_combine_35 : decode prog_7_method_8_code 35 = .ok (.ireturn, 1) := by decide +kernel
theorem d_Reckoner_combine_0 : decode prog_7_method_8_code 0 = .ok (.aload_n 0, 1) := by decide +kernel
theorem d_Reckoner_combine_1 : decode prog_7_method_8_code 1 = .ok (.invokevirtual 71, 3) := by decide +kernel
theorem d_Reckoner_combine_4 : decode prog_7_method_8_code 4 = .ok (.lstore_n 2, 1) := by decide +kernel
theorem d_Reckoner_combine_5 : decode prog_7_method_8_code 5 = .ok (.aload_n 0, 1) := by decide +kernel
theorem d_Reckoner_combine_6 : decode prog_7_method_8_code 6 = .ok (.invokevirtual 71, 3) := by decide +kernel
theorem d_Reckoner_combine_9 : decode prog_7_method_8_code 9 = .ok (.lstore 4, 2) := by decide +kernel
theorem d_Reckoner_combine_11 : decode prog_7_method_8_code 11 = .ok (.iload_n 1, 1) := by decide +kernel
theorem d_Reckoner_combine_12 : decode prog_7_method_8_code 12 = .ok (.bipush 7, 2) := by decide +kernel
theorem d_Reckoner_combine_14 : decode prog_7_method_8_code 14 = .ok (.if_icmp .eq 9, 3) := by decide +kernel
theorem d_Reckoner_combine_17 : decode prog_7_method_8_code 17 = .ok (.iload_n 1, 1) := by decide +kernel
theorem d_Reckoner_combine_18 : decode prog_7_method_8_code 18 = .ok (.bipush 8, 2) := by decide +kernel
theorem d_Reckoner_combine_20 : decode prog_7_method_8_code 20 = .ok (.if_icmp .ne 16, 3) := by decide +kernel
theorem d_Reckoner_pushFact_0 : decode prog_7_method_6_code 0 = .ok (.aload_n 0, 1) := by decide +kernel
theorem d_Reckoner_pushFact_1 : decode prog_7_method_6_code 1 = .ok (.getfield 9, 3) := by decide +kernel
theorem d_Reckoner_pushFact_4 : decode prog_7_method_6_code 4 = .ok (.iload_n 1, 1) := by decide +kernel
theorem d_Reckoner_pushFact_5 : decode prog_7_method_6_code 5 = .ok (.invokevirtual 89, 3) := by decide +kernel
theorem d_Reckoner_pushFact_8 : decode prog_7_method_6_code 8 = .ok (.ifCond .ne 15, 3) := by decide +kernel
theorem d_Reckoner_pushFact_23 : decode prog_7_method_6_code 23 = .ok (.aload_n 0, 1) := by decide +kernel
theorem d_Reckoner_pushFact_24 : decode prog_7_method_6_code 24 = .ok (.aload_n 0, 1) := by decide +kernel
theorem d_Reckoner_pushFact_25 : decode prog_7_method_6_code 25 = .ok (.getfield 9, 3) := by decide +kernel
theorem d_Reckoner_pushFact_28 : decode prog_7_method_6_code 28 = .ok (.iload_n 1, 1) := by decide +kernel
theorem d_Reckoner_pushFact_29 : decode prog_7_method_6_code 29 = .ok (.invokevirtual 94, 3) := by decide +kernel
theorem d_Reckoner_pushFact_32 : decode prog_7_method_6_code 32 = .ok (.invokevirtual 75, 3) := by decide +kernel
theorem d_Reckoner_pushFact_35 : decode prog_7_method_6_code 35 = .ok (.iconst 1, 1) := by decide +kernel
theorem d_Reckoner_pushFact_36 : decode prog_7_method_6_code 36 = .ok (.ireturn, 1) := by decide +kernel
theorem d_Reckoner_pushFact_11 : decode prog_7_method_6_code 11 = .ok (.aload_n 0, 1) := by decide +kernel
theorem d_Reckoner_pushFact_12 : decode prog_7_method_6_code 12 = .ok (.iconst 3, 1) := by decide +kernel
theorem d_Reckoner_pushFact_13 : decode prog_7_method_6_code 13 = .ok (.putfield 23, 3) := by decide +kernel
theorem d_Reckoner_pushFact_16 : decode prog_7_method_6_code 16 = .ok (.aload_n 0, 1) := by decide +kernel
theorem d_Reckoner_pushFact_17 : decode prog_7_method_6_code 17 = .ok (.iload_n 1, 1) := by decide +kernel
theorem d_Reckoner_pushFact_18 : decode prog_7_method_6_code 18 = .ok (.putfield 26, 3) := by decide +kernel
theorem d_Reckoner_pushFact_21 : decode prog_7_method_6_code 21 = .ok (.iconst 0, 1) := by decide +kernel
theorem d_Reckoner_pushFact_22 : decode prog_7_method_6_code 22 = .ok (.ireturn, 1) := by decide +kernel
theorem d_Reckoner_pushPlace_0 : decode prog_7_method_7_code 0 = .ok (.aload_n 1, 1) := by decide +kernel
theorem d_Reckoner_pushPlace_1 : decode prog_7_method_7_code 1 = .ok (.iload_n 2, 1) := by decide +kernel
theorem d_Reckoner_pushPlace_2 : decode prog_7_method_7_code 2 = .ok (.aload_n 0, 1) := by decide +kernel
theorem d_Reckoner_pushPlace_3 : decode prog_7_method_7_code 3 = .ok (.invokevirtual 71, 3) := by decide +kernel
theorem d_Reckoner_pushPlace_6 : decode prog_7_method_7_code 6 = .ok (.invokevirtual 98, 3) := by decide +kernel
theorem d_Reckoner_pushPlace_9 : decode prog_7_method_7_code 9 = .ok (.istore_n 3, 1) := by decide +kernel
theorem d_Reckoner_pushPlace_10 : decode prog_7_method_7_code 10 = .ok (.iload_n 3, 1) := by decide +kernel
theorem d_Reckoner_pushPlace_11 : decode prog_7_method_7_code 11 = .ok (.iconst (-1), 1) := by decide +kernel
theorem d_Reckoner_pushPlace_12 : decode prog_7_method_7_code 12 = .ok (.if_icmp .ne 10, 3) := by decide +kernel
theorem d_Reckoner_pushPlace_22 : decode prog_7_method_7_code 22 = .ok (.aload_n 0, 1) := by decide +kernel
theorem d_Reckoner_pushPlace_23 : decode prog_7_method_7_code 23 = .ok (.iload_n 3, 1) := by decide +kernel
theorem d_Reckoner_pushPlace_24 : decode prog_7_method_7_code 24 = .ok (.i2l, 1) := by decide +kernel
theorem d_Reckoner_pushPlace_25 : decode prog_7_method_7_code 25 = .ok (.invokevirtual 75, 3) := by decide +kernel
theorem d_Reckoner_pushPlace_28 : decode prog_7_method_7_code 28 = .ok (.iconst 1, 1) := by decide +kernel
theorem d_Reckoner_pushPlace_29 : decode prog_7_method_7_code 29 = .ok (.ireturn, 1) := by decide +kernel
theorem d_Reckoner_pushPlace_15 : decode prog_7_method_7_code 15 = .ok (.aload_n 0, 1) := by decide +kernel
theorem d_Reckoner_pushPlace_16 : decode prog_7_method_7_code 16 = .ok (.iconst 2, 1) := by decide +kernel
theorem d_Reckoner_pushPlace_17 : decode prog_7_method_7_code 17 = .ok (.putfield 23, 3) := by decide +kernel
theorem d_Reckoner_pushPlace_20 : decode prog_7_method_7_code 20 = .ok (.iconst 0, 1) := by decide +kernel
theorem d_Reckoner_pushPlace_21 : decode prog_7_method_7_code 21 = .ok (.ireturn, 1) := by decide +kernel
theorem d_Reckoner_reckon_0 : decode prog_7_method_5_code 0 = .ok (.iload_n 1, 1) := by decide +kernel
theorem d_Reckoner_reckon_1 : decode prog_7_method_5_code 1 = .ok (.tableswitch 48 0 2 #[27, 35, 41], 27) := by decide +kernel
theorem d_Reckoner_reckon_28 : decode prog_7_method_5_code 28 = .ok (.aload_n 0, 1) := by decide +kernel
theorem d_Reckoner_reckon_29 : decode prog_7_method_5_code 29 = .ok (.iload_n 2, 1) := by decide +kernel
theorem d_Reckoner_reckon_30 : decode prog_7_method_5_code 30 = .ok (.i2l, 1) := by decide +kernel
theorem d_Reckoner_reckon_31 : decode prog_7_method_5_code 31 = .ok (.invokevirtual 75, 3) := by decide +kernel
theorem d_Reckoner_reckon_34 : decode prog_7_method_5_code 34 = .ok (.iconst 1, 1) := by decide +kernel
theorem d_Reckoner_reckon_35 : decode prog_7_method_5_code 35 = .ok (.ireturn, 1) := by decide +kernel
theorem d_Reckoner_reckon_36 : decode prog_7_method_5_code 36 = .ok (.aload_n 0, 1) := by decide +kernel
theorem d_Reckoner_reckon_37 : decode prog_7_method_5_code 37 = .ok (.iload_n 2, 1) := by decide +kernel
theorem d_Reckoner_reckon_38 : decode prog_7_method_5_code 38 = .ok (.invokevirtual 79, 3) := by decide +kernel
theorem d_Reckoner_reckon_41 : decode prog_7_method_5_code 41 = .ok (.ireturn, 1) := by decide +kernel
theorem d_Reckoner_reckon_42 : decode prog_7_method_5_code 42 = .ok (.aload_n 0, 1) := by decide +kernel
theorem d_Reckoner_reckon_43 : decode prog_7_method_5_code 43 = .ok (.aload_n 3, 1) := by decide +kernel
theorem d_Reckoner_reckon_44 : decode prog_7_method_5_code 44 = .ok (.iload_n 2, 1) := by decide +kernel
theorem d_Reckoner_reckon_45 : decode prog_7_method_5_code 45 = .ok (.invokevirtual 82, 3) := by decide +kernel
theorem d_Reckoner_reckon_48 : decode prog_7_method_5_code 48 = .ok (.ireturn, 1) := by decide +kernel
theorem d_Reckoner_reckon_49 : decode prog_7_method_5_code 49 = .ok (.aload_n 0, 1) := by decide +kernel
theorem d_Reckoner_reckon_50 : decode prog_7_method_5_code 50 = .ok (.iload_n 1, 1) := by decide +kernel
theorem d_Reckoner_reckon_51 : decode prog_7_method_5_code 51 = .ok (.invokevirtual 86, 3) := by decide +kernel
theorem d_Reckoner_reckon_54 : decode prog_7_method_5_code 54 = .ok (.ireturn, 1) := by decide +kernel
theorem d_Reckoner_related_0 : decode prog_7_method_4_code 0 = .ok (.aload_n 0, 1) := by decide +kernel
theorem d_Reckoner_related_1 : decode prog_7_method_4_code 1 = .ok (.invokevirtual 71, 3) := by decide +kernel
theorem d_Reckoner_related_4 : decode prog_7_method_4_code 4 = .ok (.lstore_n 2, 1) := by decide +kernel
theorem d_Reckoner_related_5 : decode prog_7_method_4_code 5 = .ok (.aload_n 0, 1) := by decide +kernel
theorem d_Reckoner_related_6 : decode prog_7_method_4_code 6 = .ok (.invokevirtual 71, 3) := by decide +kernel
theorem d_Reckoner_related_9 : decode prog_7_method_4_code 9 = .ok (.lstore 4, 2) := by decide +kernel
theorem d_Reckoner_related_11 : decode prog_7_method_4_code 11 = .ok (.iload_n 1, 1) := by decide +kernel
theorem d_Reckoner_related_12 : decode prog_7_method_4_code 12 = .ok (.tableswitch 67 9 11 #[28, 41, 54], 28) := by decide +kernel
theorem d_Reckoner_related_40 : decode prog_7_method_4_code 40 = .ok (.lload 4, 2) := by decide +kernel
theorem d_Reckoner_related_42 : decode prog_7_method_4_code 42 = .ok (.lload_n 2, 1) := by decide +kernel
theorem d_Reckoner_related_43 : decode prog_7_method_4_code 43 = .ok (.lcmp, 1) := by decide +kernel
theorem d_Reckoner_related_44 : decode prog_7_method_4_code 44 = .ok (.ifCond .ge 7, 3) := by decide +kernel
theorem d_Reckoner_related_51 : decode prog_7_method_4_code 51 = .ok (.iconst 0, 1) := by decide +kernel
theorem d_Reckoner_related_52 : decode prog_7_method_4_code 52 = .ok (.ireturn, 1) := by decide +kernel
theorem d_Reckoner_related_47 : decode prog_7_method_4_code 47 = .ok (.iconst 1, 1) := by decide +kernel
theorem d_Reckoner_related_48 : decode prog_7_method_4_code 48 = .ok (.goto 4, 3) := by decide +kernel
theorem d_Reckoner_related_53 : decode prog_7_method_4_code 53 = .ok (.lload 4, 2) := by decide +kernel
theorem d_Reckoner_related_55 : decode prog_7_method_4_code 55 = .ok (.lload_n 2, 1) := by decide +kernel
theorem d_Reckoner_related_56 : decode prog_7_method_4_code 56 = .ok (.lcmp, 1) := by decide +kernel
theorem d_Reckoner_related_57 : decode prog_7_method_4_code 57 = .ok (.ifCond .gt 7, 3) := by decide +kernel
theorem d_Reckoner_related_64 : decode prog_7_method_4_code 64 = .ok (.iconst 0, 1) := by decide +kernel
theorem d_Reckoner_related_65 : decode prog_7_method_4_code 65 = .ok (.ireturn, 1) := by decide +kernel
theorem d_Reckoner_related_60 : decode prog_7_method_4_code 60 = .ok (.iconst 1, 1) := by decide +kernel
theorem d_Reckoner_related_61 : decode prog_7_method_4_code 61 = .ok (.goto 4, 3) := by decide +kernel
theorem d_Reckoner_related_66 : decode prog_7_method_4_code 66 = .ok (.lload 4, 2) := by decide +kernel
theorem d_Reckoner_related_68 : decode prog_7_method_4_code 68 = .ok (.lload_n 2, 1) := by decide +kernel
theorem d_Reckoner_related_69 : decode prog_7_method_4_code 69 = .ok (.lcmp, 1) := by decide +kernel
theorem d_Reckoner_related_70 : decode prog_7_method_4_code 70 = .ok (.ifCond .ne 7, 3) := by decide +kernel
theorem d_Reckoner_related_77 : decode prog_7_method_4_code 77 = .ok (.iconst 0, 1) := by decide +kernel
theorem d_Reckoner_related_78 : decode prog_7_method_4_code 78 = .ok (.ireturn, 1) := by decide +kernel
theorem d_Reckoner_related_73 : decode prog_7_method_4_code 73 = .ok (.iconst 1, 1) := by decide +kernel
theorem d_Reckoner_related_74 : decode prog_7_method_4_code 74 = .ok (.goto 4, 3) := by decide +kernel
theorem d_Reckoner_related_79 : decode prog_7_method_4_code 79 = .ok (.lload 4, 2) := by decide +kernel
theorem d_Reckoner_related_81 : decode prog_7_method_4_code 81 = .ok (.lload_n 2, 1) := by decide +kernel
theorem d_Reckoner_related_82 : decode prog_7_method_4_code 82 = .ok (.lcmp, 1) := by decide +kernel
theorem d_Reckoner_related_83 : decode prog_7_method_4_code 83 = .ok (.ifCond .eq 7, 3) := by decide +kernel
theorem d_Reckoner_related_90 : decode prog_7_method_4_code 90 = .ok (.iconst 0, 1) := by decide +kernel
theorem d_Reckoner_related_91 : decode prog_7_method_4_code 91 = .ok (.ireturn, 1) := by decide +kernel
theorem d_Reckoner_related_86 : decode prog_7_method_4_code 86 = .ok (.iconst 1, 1) := by decide +kernel
theorem d_Reckoner_related_87 : decode prog_7_method_4_code 87 = .ok (.goto 4, 3) := by decide +kernel
theorem d_Reckoner_follow_71 : decode prog_7_method_3_code 71 = .ok (.iinc 4 1, 3) := by decide +kernel
theorem d_Reckoner_follow_74 : decode prog_7_method_3_code 74 = .ok (.goto (-66), 3) := by decide +kernel
theorem d_Reckoner_follow_8 : decode prog_7_method_3_code 8 = .ok (.iload 4, 2) := by decide +kernel
theorem d_Reckoner_follow_10 : decode prog_7_method_3_code 10 = .ok (.iload_n 3, 1) := by decide +kernel
theorem d_Reckoner_follow_11 : decode prog_7_method_3_code 11 = .ok (.if_icmp .ge 66, 3) := by decide +kernel
theorem d_Reckoner_follow_77 : decode prog_7_method_3_code 77 = .ok (.iconst 0, 1) := by decide +kernel
theorem d_Reckoner_follow_78 : decode prog_7_method_3_code 78 = .ok (.ireturn, 1) := by decide +kernel
theorem d_Reckoner_follow_14 : decode prog_7_method_3_code 14 = .ok (.aload_n 1, 1) := by decide +kernel
theorem d_Reckoner_follow_15 : decode prog_7_method_3_code 15 = .ok (.getfield 44, 3) := by decide +kernel
theorem d_Reckoner_follow_18 : decode prog_7_method_3_code 18 = .ok (.iload 4, 2) := by decide +kernel
theorem d_Reckoner_follow_20 : decode prog_7_method_3_code 20 = .ok (.invokevirtual 50, 3) := by decide +kernel
theorem d_Reckoner_follow_23 : decode prog_7_method_3_code 23 = .ok (.istore 5, 2) := by decide +kernel
theorem d_Reckoner_follow_25 : decode prog_7_method_3_code 25 = .ok (.aload_n 1, 1) := by decide +kernel
theorem d_Reckoner_follow_26 : decode prog_7_method_3_code 26 = .ok (.getfield 44, 3) := by decide +kernel
theorem d_Reckoner_follow_29 : decode prog_7_method_3_code 29 = .ok (.iload 4, 2) := by decide +kernel
theorem d_Reckoner_follow_31 : decode prog_7_method_3_code 31 = .ok (.invokevirtual 56, 3) := by decide +kernel
theorem d_Reckoner_follow_34 : decode prog_7_method_3_code 34 = .ok (.istore 6, 2) := by decide +kernel
theorem d_Reckoner_follow_36 : decode prog_7_method_3_code 36 = .ok (.iload 5, 2) := by decide +kernel
theorem d_Reckoner_follow_38 : decode prog_7_method_3_code 38 = .ok (.bipush 9, 2) := by decide +kernel
theorem d_Reckoner_follow_40 : decode prog_7_method_3_code 40 = .ok (.if_icmp .lt 14, 3) := by decide +kernel
theorem d_Reckoner_follow_54 : decode prog_7_method_3_code 54 = .ok (.aload_n 0, 1) := by decide +kernel
theorem d_Reckoner_follow_55 : decode prog_7_method_3_code 55 = .ok (.iload 5, 2) := by decide +kernel
theorem d_Reckoner_follow_57 : decode prog_7_method_3_code 57 = .ok (.iload 6, 2) := by decide +kernel
theorem d_Reckoner_follow_59 : decode prog_7_method_3_code 59 = .ok (.aload_n 1, 1) := by decide +kernel
theorem d_Reckoner_follow_60 : decode prog_7_method_3_code 60 = .ok (.getfield 63, 3) := by decide +kernel
theorem d_Reckoner_follow_63 : decode prog_7_method_3_code 63 = .ok (.invokevirtual 67, 3) := by decide +kernel
theorem d_Reckoner_follow_66 : decode prog_7_method_3_code 66 = .ok (.ifCond .ne 5, 3) := by decide +kernel
theorem d_Reckoner_follow_69 : decode prog_7_method_3_code 69 = .ok (.iconst 2, 1) := by decide +kernel
theorem d_Reckoner_follow_70 : decode prog_7_method_3_code 70 = .ok (.ireturn, 1) := by decide +kernel
theorem d_Reckoner_follow_43 : decode prog_7_method_3_code 43 = .ok (.aload_n 0, 1) := by decide +kernel
theorem d_Reckoner_follow_44 : decode prog_7_method_3_code 44 = .ok (.iload 5, 2) := by decide +kernel
theorem d_Reckoner_follow_46 : decode prog_7_method_3_code 46 = .ok (.invokevirtual 59, 3) := by decide +kernel
theorem d_Reckoner_follow_49 : decode prog_7_method_3_code 49 = .ok (.ifCond .ne 22, 3) := by decide +kernel
theorem d_Reckoner_follow_52 : decode prog_7_method_3_code 52 = .ok (.iconst 1, 1) := by decide +kernel
theorem d_Reckoner_follow_53 : decode prog_7_method_3_code 53 = .ok (.ireturn, 1) := by decide +kernel
theorem d_Reckoner_follow_0 : decode prog_7_method_3_code 0 = .ok (.aload_n 0, 1) := by decide +kernel
theorem d_Reckoner_follow_1 : decode prog_7_method_3_code 1 = .ok (.iconst 0, 1) := by decide +kernel
theorem d_Reckoner_follow_2 : decode prog_7_method_3_code 2 = .ok (.putfield 19, 3) := by decide +kernel
theorem d_Reckoner_follow_5 : decode prog_7_method_3_code 5 = .ok (.iload_n 2, 1) := by decide +kernel
theorem d_Reckoner_follow_6 : decode prog_7_method_3_code 6 = .ok (.istore 4, 2) := by decide +kernel
theorem d_Reckoner_judge_0 : decode prog_7_method_2_code 0 = .ok (.aload_n 0, 1) := by decide +kernel
theorem d_Reckoner_judge_1 : decode prog_7_method_2_code 1 = .ok (.iconst (-1), 1) := by decide +kernel
theorem d_Reckoner_judge_2 : decode prog_7_method_2_code 2 = .ok (.putfield 23, 3) := by decide +kernel
theorem d_Reckoner_judge_5 : decode prog_7_method_2_code 5 = .ok (.aload_n 0, 1) := by decide +kernel
theorem d_Reckoner_judge_6 : decode prog_7_method_2_code 6 = .ok (.iconst (-1), 1) := by decide +kernel
theorem d_Reckoner_judge_7 : decode prog_7_method_2_code 7 = .ok (.putfield 26, 3) := by decide +kernel
theorem d_Reckoner_judge_10 : decode prog_7_method_2_code 10 = .ok (.aload_n 0, 1) := by decide +kernel
theorem d_Reckoner_judge_11 : decode prog_7_method_2_code 11 = .ok (.aload_n 1, 1) := by decide +kernel
theorem d_Reckoner_judge_12 : decode prog_7_method_2_code 12 = .ok (.aload_n 2, 1) := by decide +kernel
theorem d_Reckoner_judge_13 : decode prog_7_method_2_code 13 = .ok (.getfield 29, 3) := by decide +kernel
theorem d_Reckoner_judge_16 : decode prog_7_method_2_code 16 = .ok (.aload_n 2, 1) := by decide +kernel
theorem d_Reckoner_judge_17 : decode prog_7_method_2_code 17 = .ok (.getfield 34, 3) := by decide +kernel
theorem d_Reckoner_judge_20 : decode prog_7_method_2_code 20 = .ok (.invokevirtual 37, 3) := by decide +kernel
theorem d_Reckoner_judge_23 : decode prog_7_method_2_code 23 = .ok (.istore_n 3, 1) := by decide +kernel
theorem d_Reckoner_judge_24 : decode prog_7_method_2_code 24 = .ok (.iload_n 3, 1) := by decide +kernel
theorem d_Reckoner_judge_25 : decode prog_7_method_2_code 25 = .ok (.iconst 1, 1) := by decide +kernel
theorem d_Reckoner_judge_26 : decode prog_7_method_2_code 26 = .ok (.if_icmp .ne 5, 3) := by decide +kernel
theorem d_Reckoner_judge_31 : decode prog_7_method_2_code 31 = .ok (.iload_n 3, 1) := by decide +kernel
theorem d_Reckoner_judge_32 : decode prog_7_method_2_code 32 = .ok (.ifCond .ne 19, 3) := by decide +kernel
theorem d_Reckoner_judge_51 : decode prog_7_method_2_code 51 = .ok (.iload_n 3, 1) := by decide +kernel
theorem d_Reckoner_judge_52 : decode prog_7_method_2_code 52 = .ok (.ireturn, 1) := by decide +kernel
theorem d_Reckoner_judge_35 : decode prog_7_method_2_code 35 = .ok (.aload_n 0, 1) := by decide +kernel
theorem d_Reckoner_judge_36 : decode prog_7_method_2_code 36 = .ok (.aload_n 1, 1) := by decide +kernel
theorem d_Reckoner_judge_37 : decode prog_7_method_2_code 37 = .ok (.aload_n 2, 1) := by decide +kernel
theorem d_Reckoner_judge_38 : decode prog_7_method_2_code 38 = .ok (.getfield 34, 3) := by decide +kernel
theorem d_Reckoner_judge_41 : decode prog_7_method_2_code 41 = .ok (.aload_n 2, 1) := by decide +kernel
theorem d_Reckoner_judge_42 : decode prog_7_method_2_code 42 = .ok (.getfield 41, 3) := by decide +kernel
theorem d_Reckoner_judge_45 : decode prog_7_method_2_code 45 = .ok (.invokevirtual 37, 3) := by decide +kernel
theorem d_Reckoner_judge_48 : decode prog_7_method_2_code 48 = .ok (.goto 4, 3) := by decide +kernel
theorem d_Reckoner_judge_29 : decode prog_7_method_2_code 29 = .ok (.iconst 3, 1) := by decide +kernel
theorem d_Reckoner_judge_30 : decode prog_7_method_2_code 30 = .ok (.ireturn, 1) := by decide +kernel
def M_Reckoner_init (F : Nat) (h : hH) (x0 : Nat) (x1 : Nat) : Option hH :=
  (hPut h x0 5 0 (.ref x1)).bind fun h1 =>
  (some (hAdd h1 (.inr (.long, 64, .inr (.inl (fun _ => 0)))))).bind fun h2 =>
  (hPut h2 x0 5 1 (.ref h1.1)).bind fun h3 =>
  (hPut h3 x0 5 2 (.int 0)).bind fun h4 =>
  (hPut h4 x0 5 3 (.int (-1))).bind fun h5 =>
  (hPut h5 x0 5 4 (.int (-1))).bind fun h6 =>
  some h6
def M_Reckoner_push (F : Nat) (h : hH) (x0 : Nat) (x1 : Int64) : Option hH :=
  (hGetI h x0 5 2).bind fun v1 =>
  if v1 < 0 then (
    some h
  ) else (
    (hGetI h x0 5 2).bind fun v3 =>
    (hGetA h x0 5 1).bind fun v4 =>
    (hLen h v4).bind fun v5 =>
    if v5 ≤ v3 then (
      some h
    ) else (
      (hGetA h x0 5 1).bind fun v7 =>
      (hGetI h x0 5 2).bind fun v8 =>
      (hStL h v7 v8 x1).bind fun h9 =>
      (hGetI h9 x0 5 2).bind fun v10 =>
      (hPut h9 x0 5 2 (.int (v10 + 1))).bind fun h11 =>
      some h11
    )
  )
def M_Reckoner_pop (F : Nat) (h : hH) (x0 : Nat) : Option (Int64 × hH) :=
  (hGetI h x0 5 2).bind fun v1 =>
  if v1 ≤ 0 then (
    some (0, h)
  ) else (
    (hGetI h x0 5 2).bind fun v3 =>
    (hGetA h x0 5 1).bind fun v4 =>
    (hLen h v4).bind fun v5 =>
    if v3 ≤ v5 then (
      (hGetI h x0 5 2).bind fun v7 =>
      (hPut h x0 5 2 (.int (v7 - 1))).bind fun h8 =>
      (hGetA h8 x0 5 1).bind fun v9 =>
      (hGetI h8 x0 5 2).bind fun v10 =>
      (hLdL h8 v9 v10).bind fun v11 =>
      some (v11, h8)
    ) else (
      some (0, h)
    )
  )
def M_Reckoner_combined (F : Nat) (h : hH) (x0 : Int32) (x1 : Int64) (x3 : Int64) : Option (Int64 × hH) :=
  if x0 = 4 then (
    some ((x1 + x3), h)
  ) else
  if x0 = 5 then (
    some ((x1 - x3), h)
  ) else
  if x0 = 6 then (
    some ((x1 * x3), h)
  ) else
  if x0 = 7 then (
    if (lg_cmp x3 0) = 0 then (
      some (0, h)
    ) else (
      if x3 = 0 then none else
      some ((x1 / x3), h)
    )
  ) else
  if (lg_cmp x3 0) = 0 then (
    some (0, h)
  ) else (
    if x3 = 0 then none else
    some ((x1 - x1 / x3 * x3), h)
  )
def M_Reckoner_combine_36 (F : Nat) (h : hH) (x0 : Nat) (x1 : Int32) (x2 : Int64) (x4 : Int64) : Option (Int32 × hH) :=
  (M_Reckoner_combined F h x1 x4 x2).bind fun q1 =>
  (hIs q1.2 x0 5).bind fun u2 =>
  (M_Reckoner_push F q1.2 x0 q1.1).bind fun h3 =>
  some (1, h3)
def M_Reckoner_combine_23 (F : Nat) (h : hH) (x0 : Nat) (x1 : Int32) (x2 : Int64) (x4 : Int64) : Option (Int32 × hH) :=
  if (lg_cmp x2 0) = 0 then (
    (hPut h x0 5 3 (.int 1)).bind fun h2 =>
    some (0, h2)
  ) else (
    M_Reckoner_combine_36 F h x0 x1 x2 x4
  )
def M_Reckoner_combine (F : Nat) (h : hH) (x0 : Nat) (x1 : Int32) : Option (Int32 × hH) :=
  (hIs h x0 5).bind fun u1 =>
  (M_Reckoner_pop F h x0).bind fun q2 =>
  (hIs q2.2 x0 5).bind fun u3 =>
  (M_Reckoner_pop F q2.2 x0).bind fun q4 =>
  if x1 = 7 then (
    M_Reckoner_combine_23 F q4.2 x0 x1 q2.1 q4.1
  ) else (
    if x1 = 8 then (
      M_Reckoner_combine_23 F q4.2 x0 x1 q2.1 q4.1
    ) else (
      M_Reckoner_combine_36 F q4.2 x0 x1 q2.1 q4.1
    )
  )
def M_Reckoner_pushFact (F : Nat) (h : hH) (x0 : Nat) (x1 : Int32) : Option (Int32 × hH) :=
  (hGetA h x0 5 0).bind fun v1 =>
  (hIs h v1 2).bind fun u2 =>
  (M_Facts_isTold F h v1 x1).bind fun q3 =>
  if q3.1 = 0 then (
    (hPut q3.2 x0 5 3 (.int 3)).bind fun h10 =>
    (hPut h10 x0 5 4 (.int x1)).bind fun h11 =>
    some (0, h11)
  ) else (
    (hGetA q3.2 x0 5 0).bind fun v5 =>
    (hIs q3.2 v5 2).bind fun u6 =>
    (M_Facts_valueOf F q3.2 v5 x1).bind fun q7 =>
    (hIs q7.2 x0 5).bind fun u8 =>
    (M_Reckoner_push F q7.2 x0 q7.1).bind fun h9 =>
    some (1, h9)
  )
def M_Reckoner_pushPlace (F : Nat) (h : hH) (x0 : Nat) (x1 : Nat) (x2 : Int32) : Option (Int32 × hH) :=
  (hIs h x0 5).bind fun u1 =>
  (M_Reckoner_pop F h x0).bind fun q2 =>
  (hIs q2.2 x1 8).bind fun u3 =>
  (M_Tables_numberAt F q2.2 x1 x2 q2.1).bind fun q4 =>
  if q4.1 = (-1) then (
    (hPut q4.2 x0 5 3 (.int 2)).bind fun h8 =>
    some (0, h8)
  ) else (
    (hIs q4.2 x0 5).bind fun u6 =>
    (M_Reckoner_push F q4.2 x0 q4.1.toInt64).bind fun h7 =>
    some (1, h7)
  )
def M_Reckoner_reckon (F : Nat) (h : hH) (x0 : Nat) (x1 : Int32) (x2 : Int32) (x3 : Nat) : Option (Int32 × hH) :=
  if x1 = 0 then (
    (hIs h x0 5).bind fun u2 =>
    (M_Reckoner_push F h x0 x2.toInt64).bind fun h3 =>
    some (1, h3)
  ) else
  if x1 = 1 then (
    (hIs h x0 5).bind fun u5 =>
    (M_Reckoner_pushFact F h x0 x2).bind fun q6 =>
    (hZ q6.1).bind fun u7 =>
    some (q6.1, q6.2)
  ) else
  if x1 = 2 then (
    (hIs h x0 5).bind fun u9 =>
    (M_Reckoner_pushPlace F h x0 x3 x2).bind fun q10 =>
    (hZ q10.1).bind fun u11 =>
    some (q10.1, q10.2)
  ) else
  (hIs h x0 5).bind fun u12 =>
  (M_Reckoner_combine F h x0 x1).bind fun q13 =>
  (hZ q13.1).bind fun u14 =>
  some (q13.1, q13.2)
def M_Reckoner_related (F : Nat) (h : hH) (x0 : Nat) (x1 : Int32) : Option (Int32 × hH) :=
  (hIs h x0 5).bind fun u1 =>
  (M_Reckoner_pop F h x0).bind fun q2 =>
  (hIs q2.2 x0 5).bind fun u3 =>
  (M_Reckoner_pop F q2.2 x0).bind fun q4 =>
  if x1 = 9 then (
    if 0 ≤ (lg_cmp q4.1 q2.1) then (
      some (0, q4.2)
    ) else (
      some (1, q4.2)
    )
  ) else
  if x1 = 10 then (
    if 0 < (lg_cmp q4.1 q2.1) then (
      some (0, q4.2)
    ) else (
      some (1, q4.2)
    )
  ) else
  if x1 = 11 then (
    if (lg_cmp q4.1 q2.1) = 0 then (
      some (1, q4.2)
    ) else (
      some (0, q4.2)
    )
  ) else
  if (lg_cmp q4.1 q2.1) = 0 then (
    some (0, q4.2)
  ) else (
    some (1, q4.2)
  )
def M_Reckoner_follow_71 (F : Nat) (r8 : hH → Nat → Nat → Int32 → Int32 → Option (Int32 × hH)) (h : hH) (x0 : Nat) (x1 : Nat) (x3 : Int32) (x4 : Int32) : Option (Int32 × hH) :=
  r8 h x0 x1 x3 (x4 + 1)
def B_Reckoner_follow_8 (F : Nat) (r8 : hH → Nat → Nat → Int32 → Int32 → Option (Int32 × hH)) (h : hH) (x0 : Nat) (x1 : Nat) (x3 : Int32) (x4 : Int32) : Option (Int32 × hH) :=
  if x3 ≤ x4 then (
    some (0, h)
  ) else (
    (hGetA h x1 1 2).bind fun v2 =>
    (hIs h v2 7).bind fun u3 =>
    (M_Steps_kindAt F h v2 x4).bind fun q4 =>
    (hGetA q4.2 x1 1 2).bind fun v5 =>
    (hIs q4.2 v5 7).bind fun u6 =>
    (M_Steps_valueAt F q4.2 v5 x4).bind fun q7 =>
    if q4.1 < 9 then (
      (hGetA q7.2 x1 1 3).bind fun v9 =>
      (hIs q7.2 x0 5).bind fun u10 =>
      (M_Reckoner_reckon F q7.2 x0 q4.1 q7.1 v9).bind fun q11 =>
      if q11.1 = 0 then (
        some (2, q11.2)
      ) else (
        M_Reckoner_follow_71 F r8 q11.2 x0 x1 x3 x4
      )
    ) else (
      (hIs q7.2 x0 5).bind fun u13 =>
      (M_Reckoner_related F q7.2 x0 q4.1).bind fun q14 =>
      if q14.1 = 0 then (
        some (1, q14.2)
      ) else (
        M_Reckoner_follow_71 F r8 q14.2 x0 x1 x3 x4
      )
    )
  )
def M_Reckoner_follow_8 (F : Nat) : Nat → hH → Nat → Nat → Int32 → Int32 → Option (Int32 × hH)
  | 0 => fun _ _ _ _ _ => none
  | z + 1 => B_Reckoner_follow_8 F (M_Reckoner_follow_8 F z)
def M_Reckoner_follow (F : Nat) (h : hH) (x0 : Nat) (x1 : Nat) (x2 : Int32) (x3 : Int32) : Option (Int32 × hH) :=
  (hPut h x0 5 2 (.int 0)).bind fun h1 =>
  M_Reckoner_follow_8 F F h1 x0 x1 x3 x2
def M_Reckoner_judge (F : Nat) (h : hH) (x0 : Nat) (x1 : Nat) (x2 : Nat) : Option (Int32 × hH) :=
  (hPut h x0 5 3 (.int (-1))).bind fun h1 =>
  (hPut h1 x0 5 4 (.int (-1))).bind fun h2 =>
  (hGetI h2 x2 6 1).bind fun v3 =>
  (hGetI h2 x2 6 3).bind fun v4 =>
  (hIs h2 x0 5).bind fun u5 =>
  (M_Reckoner_follow F h2 x0 x1 v3 v4).bind fun q6 =>
  if q6.1 = 1 then (
    some (3, q6.2)
  ) else (
    if q6.1 = 0 then (
      (hGetI q6.2 x2 6 3).bind fun v9 =>
      (hGetI q6.2 x2 6 4).bind fun v10 =>
      (hIs q6.2 x0 5).bind fun u11 =>
      (M_Reckoner_follow F q6.2 x0 x1 v9 v10).bind fun q12 =>
      some (q12.1, q12.2)
    ) else (
      some (q6.1, q6.2)
    )
  )
abbrev rm_Reckoner_init : Room := { frames := 1, cells := 1, slots := 64, locals := 12 }
set_option maxHeartbeats 4000000 in
set_option maxRecDepth 100000 in
theorem c_Reckoner_init (l : Launch) (D : va_G) (K : (Nat → Nat) × (Nat → Nat)) (F : Nat) {h : hH} {x0 : Nat} {x1 : Nat} {q : hH} (hM : M_Reckoner_init F h x0 x1 = some q) : Met l y_Reckoner_init (.code y_Reckoner_init prog_7_method_1_code 2 none :: T0) rm_Reckoner_init (hPc hG D cls0 K [.ref x0, .ref x1] h) (hQ D cls0 h none q) 1 64 (hF h) := by
  refine J_met (lv := [(0, .ref x0), (1, .ref x1)]) (by decide) (Nat.le_of_ble_eq_true rfl) rfl ?_
  intro p e s m below meth c X hr hlk hnm
  have Y : HX p s m _ meth c prog_7_method_1_code 2 "LicenceTexts$Reckoner" D K "<init>" none h := ⟨X, hr, hlk, hnm⟩
  unfold M_Reckoner_init at hM
  refine J_aload_n (pc := 0) X 0 d_Reckoner_init_0 rfl ?_
  refine J_objInit (pc := 1) X k_103 k_1 k_2 d_Reckoner_init_1 (Nat.le_of_ble_eq_true rfl) (Nat.le_of_ble_eq_true rfl) ?_
  refine J_aload_n (pc := 4) X 0 d_Reckoner_init_4 rfl ?_
  refine J_aload_n (pc := 5) X 1 d_Reckoner_init_5 rfl ?_
  obtain ⟨h1, eh1, hM⟩ := hb_some hM
  refine J_putF (pc := 6) X hc_Reckoner in_Reckoner t_Reckoner tk_Reckoner nk_Reckoner 0 k_104 (by decide) rfl rfl rfl hnm d_Reckoner_init_6 rfl rfl rfl eh1 ?_
  refine J_aload_n (pc := 9) X 0 d_Reckoner_init_9 rfl ?_
  refine J_bipush (pc := 10) (v := (64)) X d_Reckoner_init_10 (by decide) ?_
  refine J_newa (pc := 12) (ty := .long) (N := 64) (a0 := (64, .inr (.inl (fun _ => 0)))) X rfl k_7 d_Reckoner_init_12 (fun _ => rfl) (fun _ _ hq => hq) (by decide) (by decide) (by decide) (Nat.le_of_ble_eq_true rfl) (Nat.le_of_ble_eq_true rfl) ?_
  obtain ⟨h2, eh2, hM⟩ := hb_some hM
  rw [Option.some.inj eh2]
  obtain ⟨h3, eh3, hM⟩ := hb_some hM
  refine J_putF (pc := 14) X hc_Reckoner in_Reckoner t_Reckoner tk_Reckoner nk_Reckoner 1 k_105 (by decide) rfl rfl rfl hnm d_Reckoner_init_14 rfl rfl rfl eh3 ?_
  refine J_aload_n (pc := 17) X 0 d_Reckoner_init_17 rfl ?_
  refine J_iconst (pc := 18) (v := (0)) X d_Reckoner_init_18 (by decide) ?_
  obtain ⟨h4, eh4, hM⟩ := hb_some hM
  refine J_put (pc := 19) X hc_Reckoner in_Reckoner t_Reckoner tk_Reckoner nk_Reckoner 2 k_106 (by decide) rfl rfl d_Reckoner_init_19 rfl rfl rfl eh4 ?_
  refine J_aload_n (pc := 22) X 0 d_Reckoner_init_22 rfl ?_
  refine J_iconst (pc := 23) (v := (-1)) X d_Reckoner_init_23 (by decide) ?_
  obtain ⟨h5, eh5, hM⟩ := hb_some hM
  refine J_put (pc := 24) X hc_Reckoner in_Reckoner t_Reckoner tk_Reckoner nk_Reckoner 3 k_107 (by decide) rfl rfl d_Reckoner_init_24 rfl rfl rfl eh5 ?_
  refine J_aload_n (pc := 27) X 0 d_Reckoner_init_27 rfl ?_
  refine J_iconst (pc := 28) (v := (-1)) X d_Reckoner_init_28 (by decide) ?_
  obtain ⟨h6, eh6, hM⟩ := hb_some hM
  refine J_put (pc := 29) X hc_Reckoner in_Reckoner t_Reckoner tk_Reckoner nk_Reckoner 4 k_108 (by decide) rfl rfl d_Reckoner_init_29 rfl rfl rfl eh6 ?_
  obtain rfl := Option.some.inj hM
  exact J_vret (pc := 32) X hr hlk (Nat.le_of_ble_eq_true rfl) (Nat.le_of_ble_eq_true rfl) d_Reckoner_init_32
abbrev rm_Reckoner_push : Room := { frames := 0, cells := 0, slots := 0, locals := 0 }
set_option maxHeartbeats 4000000 in
set_option maxRecDepth 100000 in
theorem c_Reckoner_push (l : Launch) (D : va_G) (K : (Nat → Nat) × (Nat → Nat)) (F : Nat) {h : hH} {x0 : Nat} {x1 : Int64} {q : hH} (hM : M_Reckoner_push F h x0 x1 = some q) : Met l y_Reckoner_push (.code y_Reckoner_push prog_7_method_10_code 3 none :: T0) rm_Reckoner_push (hPc hG D cls0 K [.ref x0, .long x1] h) (hQ D cls0 h none q) 0 0 (hF h) := by
  refine J_met (lv := [(0, .ref x0), (1, .long x1)]) (by decide) (Nat.le_of_ble_eq_true rfl) rfl ?_
  intro p e s m below meth c X hr hlk hnm
  have Y : HX p s m _ meth c prog_7_method_10_code 3 "LicenceTexts$Reckoner" D K "push" none h := ⟨X, hr, hlk, hnm⟩
  unfold M_Reckoner_push at hM
  refine J_aload_n (pc := 0) X 0 d_Reckoner_push_0 rfl ?_
  obtain ⟨v1, ev1, hM⟩ := hb_some hM
  refine J_getI (pc := 1) X hc_Reckoner in_Reckoner 2 k_106 (by decide) rfl d_Reckoner_push_1 rfl ev1 ?_
  refine J_if_lt (pc := 4) (tgt := 39) X d_Reckoner_push_4 (by decide) (fun c2 => ?_) (fun c2 => ?_)
  · have hM := hif_t hM c2
    obtain rfl := Option.some.inj hM
    exact J_vret (pc := 39) X hr hlk (Nat.le_of_ble_eq_true rfl) (Nat.le_of_ble_eq_true rfl) d_Reckoner_push_39
  · have hM := hif_f hM c2
    refine J_aload_n (pc := 7) X 0 d_Reckoner_push_7 rfl ?_
    obtain ⟨v3, ev3, hM⟩ := hb_some hM
    refine J_getI (pc := 8) X hc_Reckoner in_Reckoner 2 k_106 (by decide) rfl d_Reckoner_push_8 rfl ev3 ?_
    refine J_aload_n (pc := 11) X 0 d_Reckoner_push_11 rfl ?_
    obtain ⟨v4, ev4, hM⟩ := hb_some hM
    refine J_getA (pc := 12) X hc_Reckoner in_Reckoner 1 k_105 (by decide) rfl d_Reckoner_push_12 rfl ev4 ?_
    obtain ⟨v5, ev5, hM⟩ := hb_some hM
    refine J_alen (pc := 15) X d_Reckoner_push_15 rfl ev5 ?_
    refine J_icmp_ge (pc := 16) (tgt := 39) X d_Reckoner_push_16 (by decide) (fun c6 => ?_) (fun c6 => ?_)
    · have hM := hif_t hM c6
      obtain rfl := Option.some.inj hM
      exact J_vret (pc := 39) X hr hlk (Nat.le_of_ble_eq_true rfl) (Nat.le_of_ble_eq_true rfl) d_Reckoner_push_39
    · have hM := hif_f hM c6
      refine J_aload_n (pc := 19) X 0 d_Reckoner_push_19 rfl ?_
      obtain ⟨v7, ev7, hM⟩ := hb_some hM
      refine J_getA (pc := 20) X hc_Reckoner in_Reckoner 1 k_105 (by decide) rfl d_Reckoner_push_20 rfl ev7 ?_
      refine J_aload_n (pc := 23) X 0 d_Reckoner_push_23 rfl ?_
      obtain ⟨v8, ev8, hM⟩ := hb_some hM
      refine J_getI (pc := 24) X hc_Reckoner in_Reckoner 2 k_106 (by decide) rfl d_Reckoner_push_24 rfl ev8 ?_
      refine J_lload_n (pc := 27) X 1 d_Reckoner_push_27 rfl ?_
      obtain ⟨h9, eh9, hM⟩ := hb_some hM
      refine J_last (pc := 28) X d_Reckoner_push_28 rfl eh9 ?_
      refine J_aload_n (pc := 29) X 0 d_Reckoner_push_29 rfl ?_
      refine J_dup (pc := 30) X d_Reckoner_push_30 rfl ?_
      obtain ⟨v10, ev10, hM⟩ := hb_some hM
      refine J_getI (pc := 31) X hc_Reckoner in_Reckoner 2 k_106 (by decide) rfl d_Reckoner_push_31 rfl ev10 ?_
      refine J_iconst (pc := 34) (v := (1)) X d_Reckoner_push_34 (by decide) ?_
      refine J_iadd (pc := 35) X d_Reckoner_push_35 ?_
      obtain ⟨h11, eh11, hM⟩ := hb_some hM
      refine J_put (pc := 36) X hc_Reckoner in_Reckoner t_Reckoner tk_Reckoner nk_Reckoner 2 k_106 (by decide) rfl rfl d_Reckoner_push_36 rfl rfl rfl eh11 ?_
      obtain rfl := Option.some.inj hM
      exact J_vret (pc := 39) X hr hlk (Nat.le_of_ble_eq_true rfl) (Nat.le_of_ble_eq_true rfl) d_Reckoner_push_39
abbrev rm_Reckoner_pop : Room := { frames := 0, cells := 0, slots := 0, locals := 0 }
set_option maxHeartbeats 4000000 in
set_option maxRecDepth 100000 in
theorem c_Reckoner_pop (l : Launch) (D : va_G) (K : (Nat → Nat) × (Nat → Nat)) (F : Nat) {h : hH} {x0 : Nat} {q : (Int64 × hH)} (hM : M_Reckoner_pop F h x0 = some q) : Met l y_Reckoner_pop (.code y_Reckoner_pop prog_7_method_11_code 1 (some .long) :: T0) rm_Reckoner_pop (hPc hG D cls0 K [.ref x0] h) (hQ D cls0 h (some (.long q.1)) q.2) 0 0 (hF h) := by
  refine J_met (lv := [(0, .ref x0)]) (by decide) (Nat.le_of_ble_eq_true rfl) rfl ?_
  intro p e s m below meth c X hr hlk hnm
  have Y : HX p s m _ meth c prog_7_method_11_code 1 "LicenceTexts$Reckoner" D K "pop" (some .long) h := ⟨X, hr, hlk, hnm⟩
  unfold M_Reckoner_pop at hM
  refine J_aload_n (pc := 0) X 0 d_Reckoner_pop_0 rfl ?_
  obtain ⟨v1, ev1, hM⟩ := hb_some hM
  refine J_getI (pc := 1) X hc_Reckoner in_Reckoner 2 k_106 (by decide) rfl d_Reckoner_pop_1 rfl ev1 ?_
  refine J_if_le (pc := 4) (tgt := 19) X d_Reckoner_pop_4 (by decide) (fun c2 => ?_) (fun c2 => ?_)
  · have hM := hif_t hM c2
    refine J_lconst (pc := 19) (v := (0)) X d_Reckoner_pop_19 (by decide) ?_
    obtain rfl := Option.some.inj hM
    exact J_lret (pc := 20) X hr hlk (Nat.le_of_ble_eq_true rfl) (Nat.le_of_ble_eq_true rfl) d_Reckoner_pop_20
  · have hM := hif_f hM c2
    refine J_aload_n (pc := 7) X 0 d_Reckoner_pop_7 rfl ?_
    obtain ⟨v3, ev3, hM⟩ := hb_some hM
    refine J_getI (pc := 8) X hc_Reckoner in_Reckoner 2 k_106 (by decide) rfl d_Reckoner_pop_8 rfl ev3 ?_
    refine J_aload_n (pc := 11) X 0 d_Reckoner_pop_11 rfl ?_
    obtain ⟨v4, ev4, hM⟩ := hb_some hM
    refine J_getA (pc := 12) X hc_Reckoner in_Reckoner 1 k_105 (by decide) rfl d_Reckoner_pop_12 rfl ev4 ?_
    obtain ⟨v5, ev5, hM⟩ := hb_some hM
    refine J_alen (pc := 15) X d_Reckoner_pop_15 rfl ev5 ?_
    refine J_icmp_le (pc := 16) (tgt := 21) X d_Reckoner_pop_16 (by decide) (fun c6 => ?_) (fun c6 => ?_)
    · have hM := hif_t hM c6
      refine J_aload_n (pc := 21) X 0 d_Reckoner_pop_21 rfl ?_
      refine J_dup (pc := 22) X d_Reckoner_pop_22 rfl ?_
      obtain ⟨v7, ev7, hM⟩ := hb_some hM
      refine J_getI (pc := 23) X hc_Reckoner in_Reckoner 2 k_106 (by decide) rfl d_Reckoner_pop_23 rfl ev7 ?_
      refine J_iconst (pc := 26) (v := (1)) X d_Reckoner_pop_26 (by decide) ?_
      refine J_isub (pc := 27) X d_Reckoner_pop_27 ?_
      obtain ⟨h8, eh8, hM⟩ := hb_some hM
      refine J_put (pc := 28) X hc_Reckoner in_Reckoner t_Reckoner tk_Reckoner nk_Reckoner 2 k_106 (by decide) rfl rfl d_Reckoner_pop_28 rfl rfl rfl eh8 ?_
      refine J_aload_n (pc := 31) X 0 d_Reckoner_pop_31 rfl ?_
      obtain ⟨v9, ev9, hM⟩ := hb_some hM
      refine J_getA (pc := 32) X hc_Reckoner in_Reckoner 1 k_105 (by decide) rfl d_Reckoner_pop_32 rfl ev9 ?_
      refine J_aload_n (pc := 35) X 0 d_Reckoner_pop_35 rfl ?_
      obtain ⟨v10, ev10, hM⟩ := hb_some hM
      refine J_getI (pc := 36) X hc_Reckoner in_Reckoner 2 k_106 (by decide) rfl d_Reckoner_pop_36 rfl ev10 ?_
      obtain ⟨v11, ev11, hM⟩ := hb_some hM
      refine J_lald (pc := 39) X d_Reckoner_pop_39 rfl ev11 ?_
      obtain rfl := Option.some.inj hM
      exact J_lret (pc := 40) X hr hlk (Nat.le_of_ble_eq_true rfl) (Nat.le_of_ble_eq_true rfl) d_Reckoner_pop_40
    · have hM := hif_f hM c6
      refine J_lconst (pc := 19) (v := (0)) X d_Reckoner_pop_19 (by decide) ?_
      obtain rfl := Option.some.inj hM
      exact J_lret (pc := 20) X hr hlk (Nat.le_of_ble_eq_true rfl) (Nat.le_of_ble_eq_true rfl) d_Reckoner_pop_20
abbrev rm_Reckoner_combined : Room := { frames := 0, cells := 0, slots := 0, locals := 0 }
set_option maxHeartbeats 4000000 in
set_option maxRecDepth 100000 in
theorem c_Reckoner_combined (l : Launch) (D : va_G) (K : (Nat → Nat) × (Nat → Nat)) (F : Nat) {h : hH} {x0 : Int32} {x1 : Int64} {x3 : Int64} {q : (Int64 × hH)} (hM : M_Reckoner_combined F h x0 x1 x3 = some q) : Met l y_Reckoner_combined (.code y_Reckoner_combined prog_7_method_9_code 5 (some .long) :: T0) rm_Reckoner_combined (hPc hG D cls0 K [.int x0, .long x1, .long x3] h) (hQ D cls0 h (some (.long q.1)) q.2) 0 0 (hF h) := by
  refine J_met (lv := [(0, .int x0), (1, .long x1), (3, .long x3)]) (by decide) (Nat.le_of_ble_eq_true rfl) rfl ?_
  intro p e s m below meth c X hr hlk hnm
  have Y : HX p s m _ meth c prog_7_method_9_code 5 "LicenceTexts$Reckoner" D K "combined" (some .long) h := ⟨X, hr, hlk, hnm⟩
  unfold M_Reckoner_combined at hM
  refine J_iload_n (pc := 0) X 0 d_Reckoner_combined_0 rfl ?_
  by_cases c1 : x0 = 4
  · have hM := hif_t hM c1
    refine J_tableIn (pc := 1) (tgt := 32) X 4 c1 d_Reckoner_combined_1 (by decide) (by decide) rfl (by decide) ?_
    refine J_lload_n (pc := 32) X 1 d_Reckoner_combined_32 rfl ?_
    refine J_lload_n (pc := 33) X 2 d_Reckoner_combined_33 rfl ?_
    refine J_ladd (pc := 34) X d_Reckoner_combined_34 ?_
    obtain rfl := Option.some.inj hM
    exact J_lret (pc := 35) X hr hlk (Nat.le_of_ble_eq_true rfl) (Nat.le_of_ble_eq_true rfl) d_Reckoner_combined_35
  · have hM := hif_f hM c1
    by_cases c2 : x0 = 5
    · have hM := hif_t hM c2
      refine J_tableIn (pc := 1) (tgt := 36) X 5 c2 d_Reckoner_combined_1 (by decide) (by decide) rfl (by decide) ?_
      refine J_lload_n (pc := 36) X 1 d_Reckoner_combined_36 rfl ?_
      refine J_lload_n (pc := 37) X 2 d_Reckoner_combined_37 rfl ?_
      refine J_lsub (pc := 38) X d_Reckoner_combined_38 ?_
      obtain rfl := Option.some.inj hM
      exact J_lret (pc := 39) X hr hlk (Nat.le_of_ble_eq_true rfl) (Nat.le_of_ble_eq_true rfl) d_Reckoner_combined_39
    · have hM := hif_f hM c2
      by_cases c3 : x0 = 6
      · have hM := hif_t hM c3
        refine J_tableIn (pc := 1) (tgt := 40) X 6 c3 d_Reckoner_combined_1 (by decide) (by decide) rfl (by decide) ?_
        refine J_lload_n (pc := 40) X 1 d_Reckoner_combined_40 rfl ?_
        refine J_lload_n (pc := 41) X 2 d_Reckoner_combined_41 rfl ?_
        refine J_lmul (pc := 42) X d_Reckoner_combined_42 ?_
        obtain rfl := Option.some.inj hM
        exact J_lret (pc := 43) X hr hlk (Nat.le_of_ble_eq_true rfl) (Nat.le_of_ble_eq_true rfl) d_Reckoner_combined_43
      · have hM := hif_f hM c3
        by_cases c4 : x0 = 7
        · have hM := hif_t hM c4
          refine J_tableIn (pc := 1) (tgt := 44) X 7 c4 d_Reckoner_combined_1 (by decide) (by decide) rfl (by decide) ?_
          refine J_lload_n (pc := 44) X 2 d_Reckoner_combined_44 rfl ?_
          refine J_lconst (pc := 45) (v := (0)) X d_Reckoner_combined_45 (by decide) ?_
          refine J_lcmp (pc := 46) X d_Reckoner_combined_46 ?_
          refine J_if_ne (pc := 47) (tgt := 54) X d_Reckoner_combined_47 (by decide) (fun c5 => ?_) (fun c5 => ?_)
          · have hM := hif_f hM c5
            refine J_lload_n (pc := 54) X 1 d_Reckoner_combined_54 rfl ?_
            refine J_lload_n (pc := 55) X 2 d_Reckoner_combined_55 rfl ?_
            obtain ⟨c6, hM⟩ := hnz hM
            refine J_ldiv (pc := 56) X d_Reckoner_combined_56 c6 ?_
            obtain rfl := Option.some.inj hM
            exact J_lret (pc := 57) X hr hlk (Nat.le_of_ble_eq_true rfl) (Nat.le_of_ble_eq_true rfl) d_Reckoner_combined_57
          · have hM := hif_t hM c5
            refine J_lconst (pc := 50) (v := (0)) X d_Reckoner_combined_50 (by decide) ?_
            refine J_goto (pc := 51) (tgt := 57) X d_Reckoner_combined_51 (by decide) ?_
            obtain rfl := Option.some.inj hM
            exact J_lret (pc := 57) X hr hlk (Nat.le_of_ble_eq_true rfl) (Nat.le_of_ble_eq_true rfl) d_Reckoner_combined_57
        · have hM := hif_f hM c4
          have nc1 := lv_neT c1 (a := 4) (by decide)
          have nc2 := lv_neT c2 (a := 5) (by decide)
          have nc3 := lv_neT c3 (a := 6) (by decide)
          have nc4 := lv_neT c4 (a := 7) (by decide)
          refine J_tableOut (pc := 1) (tgt := 58) X d_Reckoner_combined_1 (by omega) (by decide) ?_
          refine J_lload_n (pc := 58) X 2 d_Reckoner_combined_58 rfl ?_
          refine J_lconst (pc := 59) (v := (0)) X d_Reckoner_combined_59 (by decide) ?_
          refine J_lcmp (pc := 60) X d_Reckoner_combined_60 ?_
          refine J_if_ne (pc := 61) (tgt := 68) X d_Reckoner_combined_61 (by decide) (fun c7 => ?_) (fun c7 => ?_)
          · have hM := hif_f hM c7
            refine J_lload_n (pc := 68) X 1 d_Reckoner_combined_68 rfl ?_
            refine J_lload_n (pc := 69) X 2 d_Reckoner_combined_69 rfl ?_
            obtain ⟨c8, hM⟩ := hnz hM
            refine J_lrem (pc := 70) X d_Reckoner_combined_70 c8 ?_
            obtain rfl := Option.some.inj hM
            exact J_lret (pc := 71) X hr hlk (Nat.le_of_ble_eq_true rfl) (Nat.le_of_ble_eq_true rfl) d_Reckoner_combined_71
          · have hM := hif_t hM c7
            refine J_lconst (pc := 64) (v := (0)) X d_Reckoner_combined_64 (by decide) ?_
            refine J_goto (pc := 65) (tgt := 71) X d_Reckoner_combined_65 (by decide) ?_
            obtain rfl := Option.some.inj hM
            exact J_lret (pc := 71) X hr hlk (Nat.le_of_ble_eq_true rfl) (Nat.le_of_ble_eq_true rfl) d_Reckoner_combined_71
abbrev rm_Reckoner_combine : Room := { frames := 1, cells := 0, slots := 0, locals := 24 }
set_option maxHeartbeats 4000000 in
set_option maxRecDepth 100000 in
theorem w_Reckoner_combine_36 {p : Program} {l : Launch} {e : Env} {s : State} {m : MethodId} {args : Array Value} {below : List Frame} {meth : Method} {c : Code} {D : va_G} {K : (Nat → Nat) × (Nat → Nat)} {h0 : hH} (Y : HX p s m args meth c prog_7_method_8_code 6 "LicenceTexts$Reckoner" D K "combine" (some .boolean) h0) {F : Nat} (h : hH) (x0 : Nat) (x1 : Int32) (x2 : Int64) (x4 : Int64) (q : (Int32 × hH)) (hM : M_Reckoner_combine_36 F h x0 x1 x2 x4 = some q) : J p l e rm_Reckoner_combine s m args below meth c 6 D cls0 (hF h0) h [(0, .ref x0), (1, .int x1), (2, .long x2), (4, .long x4)] 0 0 (MQ below (hQ D cls0 h0 (some (.int q.1)) q.2) args s 0 0 (hF h0)) 36 [] := by
  obtain ⟨X, hr, hlk, hnm⟩ := id Y
  unfold M_Reckoner_combine_36 at hM
  refine J_aload_n (pc := 36) X 0 d_Reckoner_combine_36 rfl ?_
  refine J_iload_n (pc := 37) X 1 d_Reckoner_combine_37 rfl ?_
  refine J_lload (pc := 38) X 3 d_Reckoner_combine_38 rfl ?_
  refine J_lload_n (pc := 40) X 2 d_Reckoner_combine_40 rfl ?_
  obtain ⟨q1, eq1, hM⟩ := hb_some hM
  refine J_callS (pc := 41) (As := [.int x1, .long x4, .long x2]) (rest := [.ref x0]) (o := (some (.long q1.1))) (h2 := q1.2) X (c_Reckoner_combined l D K F eq1) (cwS_of (nA := 3) X.fix k_109 k_112 k_111 k_110 ⟨rfl, rfl⟩ (by decide +kernel) ⟨Nat.le_of_ble_eq_true rfl, Nat.le_of_ble_eq_true rfl⟩) d_Reckoner_combine_41 rfl rfl (Nat.le_of_ble_eq_true rfl) (Nat.le_of_ble_eq_true rfl) (Nat.le_of_ble_eq_true rfl) ?_
  obtain ⟨u2, eu2, hM⟩ := hb_some hM
  obtain ⟨h3, eh3, hM⟩ := hb_some hM
  refine J_callV (pc := 44) (As := [.long q1.1]) (rest := []) (o := none) (h2 := h3) X rfl hc_Reckoner eu2 (c_Reckoner_push l D K F eh3) (cwV_of (nA := 1) X.fix k_113 k_115 k_116 k_111 k_114 ⟨rfl, rfl, rfl⟩ (by decide +kernel) ⟨Nat.le_of_ble_eq_true rfl, Nat.le_of_ble_eq_true rfl⟩) d_Reckoner_combine_44 rfl rfl (Nat.le_of_ble_eq_true rfl) (Nat.le_of_ble_eq_true rfl) (Nat.le_of_ble_eq_true rfl) ?_
  refine J_iconst (pc := 47) (v := (1)) X d_Reckoner_combine_47 (by decide) ?_
  obtain rfl := Option.some.inj hM
  exact J_zret (pc := 48) X hr hz1 hlk (Nat.le_of_ble_eq_true rfl) (Nat.le_of_ble_eq_true rfl) d_Reckoner_combine_48
set_option maxHeartbeats 4000000 in
set_option maxRecDepth 100000 in
theorem w_Reckoner_combine_23 {p : Program} {l : Launch} {e : Env} {s : State} {m : MethodId} {args : Array Value} {below : List Frame} {meth : Method} {c : Code} {D : va_G} {K : (Nat → Nat) × (Nat → Nat)} {h0 : hH} (Y : HX p s m args meth c prog_7_method_8_code 6 "LicenceTexts$Reckoner" D K "combine" (some .boolean) h0) {F : Nat} (h : hH) (x0 : Nat) (x1 : Int32) (x2 : Int64) (x4 : Int64) (q : (Int32 × hH)) (hM : M_Reckoner_combine_23 F h x0 x1 x2 x4 = some q) : J p l e rm_Reckoner_combine s m args below meth c 6 D cls0 (hF h0) h [(0, .ref x0), (1, .int x1), (2, .long x2), (4, .long x4)] 0 0 (MQ below (hQ D cls0 h0 (some (.int q.1)) q.2) args s 0 0 (hF h0)) 23 [] := by
  obtain ⟨X, hr, hlk, hnm⟩ := id Y
  unfold M_Reckoner_combine_23 at hM
  refine J_lload_n (pc := 23) X 2 d_Reckoner_combine_23 rfl ?_
  refine J_lconst (pc := 24) (v := (0)) X d_Reckoner_combine_24 (by decide) ?_
  refine J_lcmp (pc := 25) X d_Reckoner_combine_25 ?_
  refine J_if_ne (pc := 26) (tgt := 36) X d_Reckoner_combine_26 (by decide) (fun c1 => ?_) (fun c1 => ?_)
  · have hM := hif_f hM c1
    exact w_Reckoner_combine_36 Y _ _ _ _ _ _ hM
  · have hM := hif_t hM c1
    refine J_aload_n (pc := 29) X 0 d_Reckoner_combine_29 rfl ?_
    refine J_iconst (pc := 30) (v := (1)) X d_Reckoner_combine_30 (by decide) ?_
    obtain ⟨h2, eh2, hM⟩ := hb_some hM
    refine J_put (pc := 31) X hc_Reckoner in_Reckoner t_Reckoner tk_Reckoner nk_Reckoner 3 k_107 (by decide) rfl rfl d_Reckoner_combine_31 rfl rfl rfl eh2 ?_
    refine J_iconst (pc := 34) (v := (0)) X d_Reckoner_combine_34 (by decide) ?_
    obtain rfl := Option.some.inj hM
    exact J_zret (pc := 35) X hr hz0 hlk (Nat.le_of_ble_eq_true rfl) (Nat.le_of_ble_eq_true rfl) d_Reckoner_combine_35
set_option maxHeartbeats 4000000 in
set_option maxRecDepth 100000 in
theorem c_Reckoner_combine (l : Launch) (D : va_G) (K : (Nat → Nat) × (Nat → Nat)) (F : Nat) {h : hH} {x0 : Nat} {x1 : Int32} {q : (Int32 × hH)} (hM : M_Reckoner_combine F h x0 x1 = some q) : Met l y_Reckoner_combine (.code y_Reckoner_combine prog_7_method_8_code 6 (some .boolean) :: T0) rm_Reckoner_combine (hPc hG D cls0 K [.ref x0, .int x1] h) (hQ D cls0 h (some (.int q.1)) q.2) 0 0 (hF h) := by
  refine J_met (lv := [(0, .ref x0), (1, .int x1)]) (by decide) (Nat.le_of_ble_eq_true rfl) rfl ?_
  intro p e s m below meth c X hr hlk hnm
  have Y : HX p s m _ meth c prog_7_method_8_code 6 "LicenceTexts$Reckoner" D K "combine" (some .boolean) h := ⟨X, hr, hlk, hnm⟩
  unfold M_Reckoner_combine at hM
  refine J_aload_n (pc := 0) X 0 d_Reckoner_combine_0 rfl ?_
  obtain ⟨u1, eu1, hM⟩ := hb_some hM
  obtain ⟨q2, eq2, hM⟩ := hb_some hM
  refine J_callV (pc := 1) (As := []) (rest := []) (o := (some (.long q2.1))) (h2 := q2.2) X rfl hc_Reckoner eu1 (c_Reckoner_pop l D K F eq2) (cwV_of (nA := 0) X.fix k_117 k_119 k_120 k_111 k_118 ⟨rfl, rfl, rfl⟩ (by decide +kernel) ⟨Nat.le_of_ble_eq_true rfl, Nat.le_of_ble_eq_true rfl⟩) d_Reckoner_combine_1 rfl rfl (Nat.le_of_ble_eq_true rfl) (Nat.le_of_ble_eq_true rfl) (Nat.le_of_ble_eq_true rfl) ?_
  refine J_lstore_n (pc := 4) (lv' := [(2, .long q2.1), (0, .ref x0), (1, .int x1)]) X d_Reckoner_combine_4 rfl (by decide) rfl ?_
  refine J_aload_n (pc := 5) X 1 d_Reckoner_combine_5 rfl ?_
  obtain ⟨u3, eu3, hM⟩ := hb_some hM
  obtain ⟨q4, eq4, hM⟩ := hb_some hM
  refine J_callV (pc := 6) (As := []) (rest := []) (o := (some (.long q4.1))) (h2 := q4.2) X rfl hc_Reckoner eu3 (c_Reckoner_pop l D K F eq4) (cwV_of (nA := 0) X.fix k_117 k_119 k_120 k_111 k_118 ⟨rfl, rfl, rfl⟩ (by decide +kernel) ⟨Nat.le_of_ble_eq_true rfl, Nat.le_of_ble_eq_true rfl⟩) d_Reckoner_combine_6 rfl rfl (Nat.le_of_ble_eq_true rfl) (Nat.le_of_ble_eq_true rfl) (Nat.le_of_ble_eq_true rfl) ?_
  refine J_lstore (pc := 9) (lv' := [(4, .long q4.1), (2, .long q2.1), (0, .ref x0), (1, .int x1)]) X d_Reckoner_combine_9 (by decide) rfl ?_
  refine J_iload_n (pc := 11) X 3 d_Reckoner_combine_11 rfl ?_
  refine J_bipush (pc := 12) (v := (7)) X d_Reckoner_combine_12 (by decide) ?_
  refine J_icmp_eq (pc := 14) (tgt := 23) X d_Reckoner_combine_14 (by decide) (fun c5 => ?_) (fun c5 => ?_)
  · have hM := hif_t hM c5
    refine J_sub [2, 3, 1, 0] rfl ?_
    exact w_Reckoner_combine_23 Y _ _ _ _ _ _ hM
  · have hM := hif_f hM c5
    refine J_iload_n (pc := 17) X 3 d_Reckoner_combine_17 rfl ?_
    refine J_bipush (pc := 18) (v := (8)) X d_Reckoner_combine_18 (by decide) ?_
    refine J_icmp_ne (pc := 20) (tgt := 36) X d_Reckoner_combine_20 (by decide) (fun c6 => ?_) (fun c6 => ?_)
    · have hM := hif_f hM c6
      refine J_sub [2, 3, 1, 0] rfl ?_
      exact w_Reckoner_combine_36 Y _ _ _ _ _ _ hM
    · have hM := hif_t hM c6
      refine J_sub [2, 3, 1, 0] rfl ?_
      exact w_Reckoner_combine_23 Y _ _ _ _ _ _ hM
abbrev rm_Reckoner_pushFact : Room := { frames := 1, cells := 0, slots := 0, locals := 22 }
set_option maxHeartbeats 4000000 in
set_option maxRecDepth 100000 in
theorem c_Reckoner_pushFact (l : Launch) (D : va_G) (K : (Nat → Nat) × (Nat → Nat)) (F : Nat) {h : hH} {x0 : Nat} {x1 : Int32} {q : (Int32 × hH)} (hM : M_Reckoner_pushFact F h x0 x1 = some q) : Met l y_Reckoner_pushFact (.code y_Reckoner_pushFact prog_7_method_6_code 2 (some .boolean) :: T0) rm_Reckoner_pushFact (hPc hG D cls0 K [.ref x0, .int x1] h) (hQ D cls0 h (some (.int q.1)) q.2) 0 0 (hF h) := by
  refine J_met (lv := [(0, .ref x0), (1, .int x1)]) (by decide) (Nat.le_of_ble_eq_true rfl) rfl ?_
  intro p e s m below meth c X hr hlk hnm
  have Y : HX p s m _ meth c prog_7_method_6_code 2 "LicenceTexts$Reckoner" D K "pushFact" (some .boolean) h := ⟨X, hr, hlk, hnm⟩
  unfold M_Reckoner_pushFact at hM
  refine J_aload_n (pc := 0) X 0 d_Reckoner_pushFact_0 rfl ?_
  obtain ⟨v1, ev1, hM⟩ := hb_some hM
  refine J_getA (pc := 1) X hc_Reckoner in_Reckoner 0 k_104 (by decide) rfl d_Reckoner_pushFact_1 rfl ev1 ?_
  refine J_iload_n (pc := 4) X 1 d_Reckoner_pushFact_4 rfl ?_
  obtain ⟨u2, eu2, hM⟩ := hb_some hM
  obtain ⟨q3, eq3, hM⟩ := hb_some hM
  refine J_callV (pc := 5) (As := [.int x1]) (rest := []) (o := (some (.int q3.1))) (h2 := q3.2) X rfl hc_Facts eu2 (c_Facts_isTold l D K F eq3) (cwV_of (nA := 1) X.fix k_121 k_123 k_124 k_13 k_122 ⟨rfl, rfl, rfl⟩ (by decide +kernel) ⟨Nat.le_of_ble_eq_true rfl, Nat.le_of_ble_eq_true rfl⟩) d_Reckoner_pushFact_5 rfl rfl (Nat.le_of_ble_eq_true rfl) (Nat.le_of_ble_eq_true rfl) (Nat.le_of_ble_eq_true rfl) ?_
  refine J_if_ne (pc := 8) (tgt := 23) X d_Reckoner_pushFact_8 (by decide) (fun c4 => ?_) (fun c4 => ?_)
  · have hM := hif_f hM c4
    refine J_aload_n (pc := 23) X 0 d_Reckoner_pushFact_23 rfl ?_
    refine J_aload_n (pc := 24) X 0 d_Reckoner_pushFact_24 rfl ?_
    obtain ⟨v5, ev5, hM⟩ := hb_some hM
    refine J_getA (pc := 25) X hc_Reckoner in_Reckoner 0 k_104 (by decide) rfl d_Reckoner_pushFact_25 rfl ev5 ?_
    refine J_iload_n (pc := 28) X 1 d_Reckoner_pushFact_28 rfl ?_
    obtain ⟨u6, eu6, hM⟩ := hb_some hM
    obtain ⟨q7, eq7, hM⟩ := hb_some hM
    refine J_callV (pc := 29) (As := [.int x1]) (rest := [.ref x0]) (o := (some (.long q7.1))) (h2 := q7.2) X rfl hc_Facts eu6 (c_Facts_valueOf l D K F eq7) (cwV_of (nA := 1) X.fix k_125 k_127 k_128 k_13 k_126 ⟨rfl, rfl, rfl⟩ (by decide +kernel) ⟨Nat.le_of_ble_eq_true rfl, Nat.le_of_ble_eq_true rfl⟩) d_Reckoner_pushFact_29 rfl rfl (Nat.le_of_ble_eq_true rfl) (Nat.le_of_ble_eq_true rfl) (Nat.le_of_ble_eq_true rfl) ?_
    obtain ⟨u8, eu8, hM⟩ := hb_some hM
    obtain ⟨h9, eh9, hM⟩ := hb_some hM
    refine J_callV (pc := 32) (As := [.long q7.1]) (rest := []) (o := none) (h2 := h9) X rfl hc_Reckoner eu8 (c_Reckoner_push l D K F eh9) (cwV_of (nA := 1) X.fix k_113 k_115 k_116 k_111 k_114 ⟨rfl, rfl, rfl⟩ (by decide +kernel) ⟨Nat.le_of_ble_eq_true rfl, Nat.le_of_ble_eq_true rfl⟩) d_Reckoner_pushFact_32 rfl rfl (Nat.le_of_ble_eq_true rfl) (Nat.le_of_ble_eq_true rfl) (Nat.le_of_ble_eq_true rfl) ?_
    refine J_iconst (pc := 35) (v := (1)) X d_Reckoner_pushFact_35 (by decide) ?_
    obtain rfl := Option.some.inj hM
    exact J_zret (pc := 36) X hr hz1 hlk (Nat.le_of_ble_eq_true rfl) (Nat.le_of_ble_eq_true rfl) d_Reckoner_pushFact_36
  · have hM := hif_t hM c4
    refine J_aload_n (pc := 11) X 0 d_Reckoner_pushFact_11 rfl ?_
    refine J_iconst (pc := 12) (v := (3)) X d_Reckoner_pushFact_12 (by decide) ?_
    obtain ⟨h10, eh10, hM⟩ := hb_some hM
    refine J_put (pc := 13) X hc_Reckoner in_Reckoner t_Reckoner tk_Reckoner nk_Reckoner 3 k_107 (by decide) rfl rfl d_Reckoner_pushFact_13 rfl rfl rfl eh10 ?_
    refine J_aload_n (pc := 16) X 0 d_Reckoner_pushFact_16 rfl ?_
    refine J_iload_n (pc := 17) X 1 d_Reckoner_pushFact_17 rfl ?_
    obtain ⟨h11, eh11, hM⟩ := hb_some hM
    refine J_put (pc := 18) X hc_Reckoner in_Reckoner t_Reckoner tk_Reckoner nk_Reckoner 4 k_108 (by decide) rfl rfl d_Reckoner_pushFact_18 rfl rfl rfl eh11 ?_
    refine J_iconst (pc := 21) (v := (0)) X d_Reckoner_pushFact_21 (by decide) ?_
    obtain rfl := Option.some.inj hM
    exact J_zret (pc := 22) X hr hz0 hlk (Nat.le_of_ble_eq_true rfl) (Nat.le_of_ble_eq_true rfl) d_Reckoner_pushFact_22
abbrev rm_Reckoner_pushPlace : Room := { frames := 1, cells := 0, slots := 0, locals := 24 }
set_option maxHeartbeats 4000000 in
set_option maxRecDepth 100000 in
theorem c_Reckoner_pushPlace (l : Launch) (D : va_G) (K : (Nat → Nat) × (Nat → Nat)) (F : Nat) {h : hH} {x0 : Nat} {x1 : Nat} {x2 : Int32} {q : (Int32 × hH)} (hM : M_Reckoner_pushPlace F h x0 x1 x2 = some q) : Met l y_Reckoner_pushPlace (.code y_Reckoner_pushPlace prog_7_method_7_code 4 (some .boolean) :: T0) rm_Reckoner_pushPlace (hPc hG D cls0 K [.ref x0, .ref x1, .int x2] h) (hQ D cls0 h (some (.int q.1)) q.2) 0 0 (hF h) := by
  refine J_met (lv := [(0, .ref x0), (1, .ref x1), (2, .int x2)]) (by decide) (Nat.le_of_ble_eq_true rfl) rfl ?_
  intro p e s m below meth c X hr hlk hnm
  have Y : HX p s m _ meth c prog_7_method_7_code 4 "LicenceTexts$Reckoner" D K "pushPlace" (some .boolean) h := ⟨X, hr, hlk, hnm⟩
  unfold M_Reckoner_pushPlace at hM
  refine J_aload_n (pc := 0) X 1 d_Reckoner_pushPlace_0 rfl ?_
  refine J_iload_n (pc := 1) X 2 d_Reckoner_pushPlace_1 rfl ?_
  refine J_aload_n (pc := 2) X 0 d_Reckoner_pushPlace_2 rfl ?_
  obtain ⟨u1, eu1, hM⟩ := hb_some hM
  obtain ⟨q2, eq2, hM⟩ := hb_some hM
  refine J_callV (pc := 3) (As := []) (rest := [.int x2, .ref x1]) (o := (some (.long q2.1))) (h2 := q2.2) X rfl hc_Reckoner eu1 (c_Reckoner_pop l D K F eq2) (cwV_of (nA := 0) X.fix k_117 k_119 k_120 k_111 k_118 ⟨rfl, rfl, rfl⟩ (by decide +kernel) ⟨Nat.le_of_ble_eq_true rfl, Nat.le_of_ble_eq_true rfl⟩) d_Reckoner_pushPlace_3 rfl rfl (Nat.le_of_ble_eq_true rfl) (Nat.le_of_ble_eq_true rfl) (Nat.le_of_ble_eq_true rfl) ?_
  obtain ⟨u3, eu3, hM⟩ := hb_some hM
  obtain ⟨q4, eq4, hM⟩ := hb_some hM
  refine J_callV (pc := 6) (As := [.int x2, .long q2.1]) (rest := []) (o := (some (.int q4.1))) (h2 := q4.2) X rfl hc_Tables eu3 (c_Tables_numberAt l D K F eq4) (cwV_of (nA := 2) X.fix k_129 k_131 k_132 k_71 k_130 ⟨rfl, rfl, rfl⟩ (by decide +kernel) ⟨Nat.le_of_ble_eq_true rfl, Nat.le_of_ble_eq_true rfl⟩) d_Reckoner_pushPlace_6 rfl rfl (Nat.le_of_ble_eq_true rfl) (Nat.le_of_ble_eq_true rfl) (Nat.le_of_ble_eq_true rfl) ?_
  refine J_istore_n (pc := 9) (lv' := [(3, .int q4.1), (0, .ref x0), (1, .ref x1), (2, .int x2)]) X d_Reckoner_pushPlace_9 rfl (by decide) rfl ?_
  refine J_iload_n (pc := 10) X 0 d_Reckoner_pushPlace_10 rfl ?_
  refine J_iconst (pc := 11) (v := (-1)) X d_Reckoner_pushPlace_11 (by decide) ?_
  refine J_icmp_ne (pc := 12) (tgt := 22) X d_Reckoner_pushPlace_12 (by decide) (fun c5 => ?_) (fun c5 => ?_)
  · have hM := hif_f hM c5
    refine J_aload_n (pc := 22) X 1 d_Reckoner_pushPlace_22 rfl ?_
    refine J_iload_n (pc := 23) X 0 d_Reckoner_pushPlace_23 rfl ?_
    refine J_i2l (pc := 24) X d_Reckoner_pushPlace_24 ?_
    obtain ⟨u6, eu6, hM⟩ := hb_some hM
    obtain ⟨h7, eh7, hM⟩ := hb_some hM
    refine J_callV (pc := 25) (As := [.long q4.1.toInt64]) (rest := []) (o := none) (h2 := h7) X rfl hc_Reckoner eu6 (c_Reckoner_push l D K F eh7) (cwV_of (nA := 1) X.fix k_113 k_115 k_116 k_111 k_114 ⟨rfl, rfl, rfl⟩ (by decide +kernel) ⟨Nat.le_of_ble_eq_true rfl, Nat.le_of_ble_eq_true rfl⟩) d_Reckoner_pushPlace_25 rfl rfl (Nat.le_of_ble_eq_true rfl) (Nat.le_of_ble_eq_true rfl) (Nat.le_of_ble_eq_true rfl) ?_
    refine J_iconst (pc := 28) (v := (1)) X d_Reckoner_pushPlace_28 (by decide) ?_
    obtain rfl := Option.some.inj hM
    exact J_zret (pc := 29) X hr hz1 hlk (Nat.le_of_ble_eq_true rfl) (Nat.le_of_ble_eq_true rfl) d_Reckoner_pushPlace_29
  · have hM := hif_t hM c5
    refine J_aload_n (pc := 15) X 1 d_Reckoner_pushPlace_15 rfl ?_
    refine J_iconst (pc := 16) (v := (2)) X d_Reckoner_pushPlace_16 (by decide) ?_
    obtain ⟨h8, eh8, hM⟩ := hb_some hM
    refine J_put (pc := 17) X hc_Reckoner in_Reckoner t_Reckoner tk_Reckoner nk_Reckoner 3 k_107 (by decide) rfl rfl d_Reckoner_pushPlace_17 rfl rfl rfl eh8 ?_
    refine J_iconst (pc := 20) (v := (0)) X d_Reckoner_pushPlace_20 (by decide) ?_
    obtain rfl := Option.some.inj hM
    exact J_zret (pc := 21) X hr hz0 hlk (Nat.le_of_ble_eq_true rfl) (Nat.le_of_ble_eq_true rfl) d_Reckoner_pushPlace_21
abbrev rm_Reckoner_reckon : Room := { frames := 2, cells := 0, slots := 0, locals := 49 }
set_option maxHeartbeats 4000000 in
set_option maxRecDepth 100000 in
theorem c_Reckoner_reckon (l : Launch) (D : va_G) (K : (Nat → Nat) × (Nat → Nat)) (F : Nat) {h : hH} {x0 : Nat} {x1 : Int32} {x2 : Int32} {x3 : Nat} {q : (Int32 × hH)} (hM : M_Reckoner_reckon F h x0 x1 x2 x3 = some q) : Met l y_Reckoner_reckon (.code y_Reckoner_reckon prog_7_method_5_code 4 (some .boolean) :: T0) rm_Reckoner_reckon (hPc hG D cls0 K [.ref x0, .int x1, .int x2, .ref x3] h) (hQ D cls0 h (some (.int q.1)) q.2) 0 0 (hF h) := by
  refine J_met (lv := [(0, .ref x0), (1, .int x1), (2, .int x2), (3, .ref x3)]) (by decide) (Nat.le_of_ble_eq_true rfl) rfl ?_
  intro p e s m below meth c X hr hlk hnm
  have Y : HX p s m _ meth c prog_7_method_5_code 4 "LicenceTexts$Reckoner" D K "reckon" (some .boolean) h := ⟨X, hr, hlk, hnm⟩
  unfold M_Reckoner_reckon at hM
  refine J_iload_n (pc := 0) X 1 d_Reckoner_reckon_0 rfl ?_
  by_cases c1 : x1 = 0
  · have hM := hif_t hM c1
    refine J_tableIn (pc := 1) (tgt := 28) X 0 c1 d_Reckoner_reckon_1 (by decide) (by decide) rfl (by decide) ?_
    refine J_aload_n (pc := 28) X 0 d_Reckoner_reckon_28 rfl ?_
    refine J_iload_n (pc := 29) X 2 d_Reckoner_reckon_29 rfl ?_
    refine J_i2l (pc := 30) X d_Reckoner_reckon_30 ?_
    obtain ⟨u2, eu2, hM⟩ := hb_some hM
    obtain ⟨h3, eh3, hM⟩ := hb_some hM
    refine J_callV (pc := 31) (As := [.long x2.toInt64]) (rest := []) (o := none) (h2 := h3) X rfl hc_Reckoner eu2 (c_Reckoner_push l D K F eh3) (cwV_of (nA := 1) X.fix k_113 k_115 k_116 k_111 k_114 ⟨rfl, rfl, rfl⟩ (by decide +kernel) ⟨Nat.le_of_ble_eq_true rfl, Nat.le_of_ble_eq_true rfl⟩) d_Reckoner_reckon_31 rfl rfl (Nat.le_of_ble_eq_true rfl) (Nat.le_of_ble_eq_true rfl) (Nat.le_of_ble_eq_true rfl) ?_
    refine J_iconst (pc := 34) (v := (1)) X d_Reckoner_reckon_34 (by decide) ?_
    obtain rfl := Option.some.inj hM
    exact J_zret (pc := 35) X hr hz1 hlk (Nat.le_of_ble_eq_true rfl) (Nat.le_of_ble_eq_true rfl) d_Reckoner_reckon_35
  · have hM := hif_f hM c1
    by_cases c4 : x1 = 1
    · have hM := hif_t hM c4
      refine J_tableIn (pc := 1) (tgt := 36) X 1 c4 d_Reckoner_reckon_1 (by decide) (by decide) rfl (by decide) ?_
      refine J_aload_n (pc := 36) X 0 d_Reckoner_reckon_36 rfl ?_
      refine J_iload_n (pc := 37) X 2 d_Reckoner_reckon_37 rfl ?_
      obtain ⟨u5, eu5, hM⟩ := hb_some hM
      obtain ⟨q6, eq6, hM⟩ := hb_some hM
      refine J_callV (pc := 38) (As := [.int x2]) (rest := []) (o := (some (.int q6.1))) (h2 := q6.2) X rfl hc_Reckoner eu5 (c_Reckoner_pushFact l D K F eq6) (cwV_of (nA := 1) X.fix k_133 k_135 k_136 k_111 k_134 ⟨rfl, rfl, rfl⟩ (by decide +kernel) ⟨Nat.le_of_ble_eq_true rfl, Nat.le_of_ble_eq_true rfl⟩) d_Reckoner_reckon_38 rfl rfl (Nat.le_of_ble_eq_true rfl) (Nat.le_of_ble_eq_true rfl) (Nat.le_of_ble_eq_true rfl) ?_
      obtain ⟨u7, eu7, hM⟩ := hb_some hM
      obtain rfl := Option.some.inj hM
      exact J_zret (pc := 41) X hr (hZ_of eu7) hlk (Nat.le_of_ble_eq_true rfl) (Nat.le_of_ble_eq_true rfl) d_Reckoner_reckon_41
    · have hM := hif_f hM c4
      by_cases c8 : x1 = 2
      · have hM := hif_t hM c8
        refine J_tableIn (pc := 1) (tgt := 42) X 2 c8 d_Reckoner_reckon_1 (by decide) (by decide) rfl (by decide) ?_
        refine J_aload_n (pc := 42) X 0 d_Reckoner_reckon_42 rfl ?_
        refine J_aload_n (pc := 43) X 3 d_Reckoner_reckon_43 rfl ?_
        refine J_iload_n (pc := 44) X 2 d_Reckoner_reckon_44 rfl ?_
        obtain ⟨u9, eu9, hM⟩ := hb_some hM
        obtain ⟨q10, eq10, hM⟩ := hb_some hM
        refine J_callV (pc := 45) (As := [.ref x3, .int x2]) (rest := []) (o := (some (.int q10.1))) (h2 := q10.2) X rfl hc_Reckoner eu9 (c_Reckoner_pushPlace l D K F eq10) (cwV_of (nA := 2) X.fix k_137 k_139 k_140 k_111 k_138 ⟨rfl, rfl, rfl⟩ (by decide +kernel) ⟨Nat.le_of_ble_eq_true rfl, Nat.le_of_ble_eq_true rfl⟩) d_Reckoner_reckon_45 rfl rfl (Nat.le_of_ble_eq_true rfl) (Nat.le_of_ble_eq_true rfl) (Nat.le_of_ble_eq_true rfl) ?_
        obtain ⟨u11, eu11, hM⟩ := hb_some hM
        obtain rfl := Option.some.inj hM
        exact J_zret (pc := 48) X hr (hZ_of eu11) hlk (Nat.le_of_ble_eq_true rfl) (Nat.le_of_ble_eq_true rfl) d_Reckoner_reckon_48
      · have hM := hif_f hM c8
        have nc1 := lv_neT c1 (a := 0) (by decide)
        have nc4 := lv_neT c4 (a := 1) (by decide)
        have nc8 := lv_neT c8 (a := 2) (by decide)
        refine J_tableOut (pc := 1) (tgt := 49) X d_Reckoner_reckon_1 (by omega) (by decide) ?_
        refine J_aload_n (pc := 49) X 0 d_Reckoner_reckon_49 rfl ?_
        refine J_iload_n (pc := 50) X 1 d_Reckoner_reckon_50 rfl ?_
        obtain ⟨u12, eu12, hM⟩ := hb_some hM
        obtain ⟨q13, eq13, hM⟩ := hb_some hM
        refine J_callV (pc := 51) (As := [.int x1]) (rest := []) (o := (some (.int q13.1))) (h2 := q13.2) X rfl hc_Reckoner eu12 (c_Reckoner_combine l D K F eq13) (cwV_of (nA := 1) X.fix k_141 k_143 k_144 k_111 k_142 ⟨rfl, rfl, rfl⟩ (by decide +kernel) ⟨Nat.le_of_ble_eq_true rfl, Nat.le_of_ble_eq_true rfl⟩) d_Reckoner_reckon_51 rfl rfl (Nat.le_of_ble_eq_true rfl) (Nat.le_of_ble_eq_true rfl) (Nat.le_of_ble_eq_true rfl) ?_
        obtain ⟨u14, eu14, hM⟩ := hb_some hM
        obtain rfl := Option.some.inj hM
        exact J_zret (pc := 54) X hr (hZ_of eu14) hlk (Nat.le_of_ble_eq_true rfl) (Nat.le_of_ble_eq_true rfl) d_Reckoner_reckon_54
abbrev rm_Reckoner_related : Room := { frames := 1, cells := 0, slots := 0, locals := 20 }
set_option maxHeartbeats 4000000 in
set_option maxRecDepth 100000 in
theorem c_Reckoner_related (l : Launch) (D : va_G) (K : (Nat → Nat) × (Nat → Nat)) (F : Nat) {h : hH} {x0 : Nat} {x1 : Int32} {q : (Int32 × hH)} (hM : M_Reckoner_related F h x0 x1 = some q) : Met l y_Reckoner_related (.code y_Reckoner_related prog_7_method_4_code 6 (some .boolean) :: T0) rm_Reckoner_related (hPc hG D cls0 K [.ref x0, .int x1] h) (hQ D cls0 h (some (.int q.1)) q.2) 0 0 (hF h) := by
  refine J_met (lv := [(0, .ref x0), (1, .int x1)]) (by decide) (Nat.le_of_ble_eq_true rfl) rfl ?_
  intro p e s m below meth c X hr hlk hnm
  have Y : HX p s m _ meth c prog_7_method_4_code 6 "LicenceTexts$Reckoner" D K "related" (some .boolean) h := ⟨X, hr, hlk, hnm⟩
  unfold M_Reckoner_related at hM
  refine J_aload_n (pc := 0) X 0 d_Reckoner_related_0 rfl ?_
  obtain ⟨u1, eu1, hM⟩ := hb_some hM
  obtain ⟨q2, eq2, hM⟩ := hb_some hM
  refine J_callV (pc := 1) (As := []) (rest := []) (o := (some (.long q2.1))) (h2 := q2.2) X rfl hc_Reckoner eu1 (c_Reckoner_pop l D K F eq2) (cwV_of (nA := 0) X.fix k_117 k_119 k_120 k_111 k_118 ⟨rfl, rfl, rfl⟩ (by decide +kernel) ⟨Nat.le_of_ble_eq_true rfl, Nat.le_of_ble_eq_true rfl⟩) d_Reckoner_related_1 rfl rfl (Nat.le_of_ble_eq_true rfl) (Nat.le_of_ble_eq_true rfl) (Nat.le_of_ble_eq_true rfl) ?_
  refine J_lstore_n (pc := 4) (lv' := [(2, .long q2.1), (0, .ref x0), (1, .int x1)]) X d_Reckoner_related_4 rfl (by decide) rfl ?_
  refine J_aload_n (pc := 5) X 1 d_Reckoner_related_5 rfl ?_
  obtain ⟨u3, eu3, hM⟩ := hb_some hM
  obtain ⟨q4, eq4, hM⟩ := hb_some hM
  refine J_callV (pc := 6) (As := []) (rest := []) (o := (some (.long q4.1))) (h2 := q4.2) X rfl hc_Reckoner eu3 (c_Reckoner_pop l D K F eq4) (cwV_of (nA := 0) X.fix k_117 k_119 k_120 k_111 k_118 ⟨rfl, rfl, rfl⟩ (by decide +kernel) ⟨Nat.le_of_ble_eq_true rfl, Nat.le_of_ble_eq_true rfl⟩) d_Reckoner_related_6 rfl rfl (Nat.le_of_ble_eq_true rfl) (Nat.le_of_ble_eq_true rfl) (Nat.le_of_ble_eq_true rfl) ?_
  refine J_lstore (pc := 9) (lv' := [(4, .long q4.1), (2, .long q2.1), (0, .ref x0), (1, .int x1)]) X d_Reckoner_related_9 (by decide) rfl ?_
  refine J_iload_n (pc := 11) X 3 d_Reckoner_related_11 rfl ?_
  by_cases c5 : x1 = 9
  · have hM := hif_t hM c5
    refine J_tableIn (pc := 12) (tgt := 40) X 9 c5 d_Reckoner_related_12 (by decide) (by decide) rfl (by decide) ?_
    refine J_lload (pc := 40) X 0 d_Reckoner_related_40 rfl ?_
    refine J_lload_n (pc := 42) X 1 d_Reckoner_related_42 rfl ?_
    refine J_lcmp (pc := 43) X d_Reckoner_related_43 ?_
    refine J_if_ge (pc := 44) (tgt := 51) X d_Reckoner_related_44 (by decide) (fun c6 => ?_) (fun c6 => ?_)
    · have hM := hif_t hM c6
      refine J_iconst (pc := 51) (v := (0)) X d_Reckoner_related_51 (by decide) ?_
      obtain rfl := Option.some.inj hM
      exact J_zret (pc := 52) X hr hz0 hlk (Nat.le_of_ble_eq_true rfl) (Nat.le_of_ble_eq_true rfl) d_Reckoner_related_52
    · have hM := hif_f hM c6
      refine J_iconst (pc := 47) (v := (1)) X d_Reckoner_related_47 (by decide) ?_
      refine J_goto (pc := 48) (tgt := 52) X d_Reckoner_related_48 (by decide) ?_
      obtain rfl := Option.some.inj hM
      exact J_zret (pc := 52) X hr hz1 hlk (Nat.le_of_ble_eq_true rfl) (Nat.le_of_ble_eq_true rfl) d_Reckoner_related_52
  · have hM := hif_f hM c5
    by_cases c7 : x1 = 10
    · have hM := hif_t hM c7
      refine J_tableIn (pc := 12) (tgt := 53) X 10 c7 d_Reckoner_related_12 (by decide) (by decide) rfl (by decide) ?_
      refine J_lload (pc := 53) X 0 d_Reckoner_related_53 rfl ?_
      refine J_lload_n (pc := 55) X 1 d_Reckoner_related_55 rfl ?_
      refine J_lcmp (pc := 56) X d_Reckoner_related_56 ?_
      refine J_if_gt (pc := 57) (tgt := 64) X d_Reckoner_related_57 (by decide) (fun c8 => ?_) (fun c8 => ?_)
      · have hM := hif_t hM c8
        refine J_iconst (pc := 64) (v := (0)) X d_Reckoner_related_64 (by decide) ?_
        obtain rfl := Option.some.inj hM
        exact J_zret (pc := 65) X hr hz0 hlk (Nat.le_of_ble_eq_true rfl) (Nat.le_of_ble_eq_true rfl) d_Reckoner_related_65
      · have hM := hif_f hM c8
        refine J_iconst (pc := 60) (v := (1)) X d_Reckoner_related_60 (by decide) ?_
        refine J_goto (pc := 61) (tgt := 65) X d_Reckoner_related_61 (by decide) ?_
        obtain rfl := Option.some.inj hM
        exact J_zret (pc := 65) X hr hz1 hlk (Nat.le_of_ble_eq_true rfl) (Nat.le_of_ble_eq_true rfl) d_Reckoner_related_65
    · have hM := hif_f hM c7
      by_cases c9 : x1 = 11
      · have hM := hif_t hM c9
        refine J_tableIn (pc := 12) (tgt := 66) X 11 c9 d_Reckoner_related_12 (by decide) (by decide) rfl (by decide) ?_
        refine J_lload (pc := 66) X 0 d_Reckoner_related_66 rfl ?_
        refine J_lload_n (pc := 68) X 1 d_Reckoner_related_68 rfl ?_
        refine J_lcmp (pc := 69) X d_Reckoner_related_69 ?_
        refine J_if_ne (pc := 70) (tgt := 77) X d_Reckoner_related_70 (by decide) (fun c10 => ?_) (fun c10 => ?_)
        · have hM := hif_f hM c10
          refine J_iconst (pc := 77) (v := (0)) X d_Reckoner_related_77 (by decide) ?_
          obtain rfl := Option.some.inj hM
          exact J_zret (pc := 78) X hr hz0 hlk (Nat.le_of_ble_eq_true rfl) (Nat.le_of_ble_eq_true rfl) d_Reckoner_related_78
        · have hM := hif_t hM c10
          refine J_iconst (pc := 73) (v := (1)) X d_Reckoner_related_73 (by decide) ?_
          refine J_goto (pc := 74) (tgt := 78) X d_Reckoner_related_74 (by decide) ?_
          obtain rfl := Option.some.inj hM
          exact J_zret (pc := 78) X hr hz1 hlk (Nat.le_of_ble_eq_true rfl) (Nat.le_of_ble_eq_true rfl) d_Reckoner_related_78
      · have hM := hif_f hM c9
        have nc5 := lv_neT c5 (a := 9) (by decide)
        have nc7 := lv_neT c7 (a := 10) (by decide)
        have nc9 := lv_neT c9 (a := 11) (by decide)
        refine J_tableOut (pc := 12) (tgt := 79) X d_Reckoner_related_12 (by omega) (by decide) ?_
        refine J_lload (pc := 79) X 0 d_Reckoner_related_79 rfl ?_
        refine J_lload_n (pc := 81) X 1 d_Reckoner_related_81 rfl ?_
        refine J_lcmp (pc := 82) X d_Reckoner_related_82 ?_
        refine J_if_eq (pc := 83) (tgt := 90) X d_Reckoner_related_83 (by decide) (fun c11 => ?_) (fun c11 => ?_)
        · have hM := hif_t hM c11
          refine J_iconst (pc := 90) (v := (0)) X d_Reckoner_related_90 (by decide) ?_
          obtain rfl := Option.some.inj hM
          exact J_zret (pc := 91) X hr hz0 hlk (Nat.le_of_ble_eq_true rfl) (Nat.le_of_ble_eq_true rfl) d_Reckoner_related_91
        · have hM := hif_f hM c11
          refine J_iconst (pc := 86) (v := (1)) X d_Reckoner_related_86 (by decide) ?_
          refine J_goto (pc := 87) (tgt := 91) X d_Reckoner_related_87 (by decide) ?_
          obtain rfl := Option.some.inj hM
          exact J_zret (pc := 91) X hr hz1 hlk (Nat.le_of_ble_eq_true rfl) (Nat.le_of_ble_eq_true rfl) d_Reckoner_related_91
abbrev rm_Reckoner_follow : Room := { frames := 3, cells := 0, slots := 0, locals := 72 }
set_option maxHeartbeats 4000000 in
set_option maxRecDepth 100000 in
theorem w_Reckoner_follow_71 {p : Program} {l : Launch} {e : Env} {s : State} {m : MethodId} {args : Array Value} {below : List Frame} {meth : Method} {c : Code} {D : va_G} {K : (Nat → Nat) × (Nat → Nat)} {h0 : hH} (Y : HX p s m args meth c prog_7_method_3_code 7 "LicenceTexts$Reckoner" D K "follow" (some .int) h0) {F : Nat} {r8 : hH → Nat → Nat → Int32 → Int32 → Option (Int32 × hH)} (R8 : ∀ (h : hH) (x0 : Nat) (x1 : Nat) (x3 : Int32) (x4 : Int32) (q : (Int32 × hH)), r8 h x0 x1 x3 x4 = some q → J p l e rm_Reckoner_follow s m args below meth c 7 D cls0 (hF h0) h [(0, .ref x0), (1, .ref x1), (3, .int x3), (4, .int x4)] 0 0 (MQ below (hQ D cls0 h0 (some (.int q.1)) q.2) args s 0 0 (hF h0)) 8 []) (h : hH) (x0 : Nat) (x1 : Nat) (x3 : Int32) (x4 : Int32) (q : (Int32 × hH)) (hM : M_Reckoner_follow_71 F r8 h x0 x1 x3 x4 = some q) : J p l e rm_Reckoner_follow s m args below meth c 7 D cls0 (hF h0) h [(0, .ref x0), (1, .ref x1), (3, .int x3), (4, .int x4)] 0 0 (MQ below (hQ D cls0 h0 (some (.int q.1)) q.2) args s 0 0 (hF h0)) 71 [] := by
  obtain ⟨X, hr, hlk, hnm⟩ := id Y
  unfold M_Reckoner_follow_71 at hM
  refine J_iinc (pc := 71) (v := x4 + 1) (lv' := [(4, .int (x4 + 1)), (0, .ref x0), (1, .ref x1), (3, .int x3)]) X 3 d_Reckoner_follow_71 rfl rfl (by decide) rfl ?_
  refine J_goto (pc := 74) (tgt := 8) X d_Reckoner_follow_74 (by decide) ?_
  refine J_sub [1, 2, 3, 0] rfl ?_
  exact R8 _ _ _ _ _ _ hM
set_option maxHeartbeats 4000000 in
set_option maxRecDepth 100000 in
theorem b_Reckoner_follow_8 {p : Program} {l : Launch} {e : Env} {s : State} {m : MethodId} {args : Array Value} {below : List Frame} {meth : Method} {c : Code} {D : va_G} {K : (Nat → Nat) × (Nat → Nat)} {h0 : hH} (Y : HX p s m args meth c prog_7_method_3_code 7 "LicenceTexts$Reckoner" D K "follow" (some .int) h0) {F : Nat}   {r8 : hH → Nat → Nat → Int32 → Int32 → Option (Int32 × hH)} (R8 : ∀ (h : hH) (x0 : Nat) (x1 : Nat) (x3 : Int32) (x4 : Int32) (q : (Int32 × hH)), r8 h x0 x1 x3 x4 = some q → J p l e rm_Reckoner_follow s m args below meth c 7 D cls0 (hF h0) h [(0, .ref x0), (1, .ref x1), (3, .int x3), (4, .int x4)] 0 0 (MQ below (hQ D cls0 h0 (some (.int q.1)) q.2) args s 0 0 (hF h0)) 8 []) : ∀ (h : hH) (x0 : Nat) (x1 : Nat) (x3 : Int32) (x4 : Int32) (q : (Int32 × hH)), B_Reckoner_follow_8 F r8 h x0 x1 x3 x4 = some q → J p l e rm_Reckoner_follow s m args below meth c 7 D cls0 (hF h0) h [(0, .ref x0), (1, .ref x1), (3, .int x3), (4, .int x4)] 0 0 (MQ below (hQ D cls0 h0 (some (.int q.1)) q.2) args s 0 0 (hF h0)) 8 [] := by
  intro h x0 x1 x3 x4 q hM
  obtain ⟨X, hr, hlk, hnm⟩ := id Y
  unfold B_Reckoner_follow_8 at hM
  refine J_iload (pc := 8) X 3 d_Reckoner_follow_8 rfl ?_
  refine J_iload_n (pc := 10) X 2 d_Reckoner_follow_10 rfl ?_
  refine J_icmp_ge (pc := 11) (tgt := 77) X d_Reckoner_follow_11 (by decide) (fun c1 => ?_) (fun c1 => ?_)
  · have hM := hif_t hM c1
    refine J_iconst (pc := 77) (v := (0)) X d_Reckoner_follow_77 (by decide) ?_
    obtain rfl := Option.some.inj hM
    exact J_iret (pc := 78) X hr hlk (Nat.le_of_ble_eq_true rfl) (Nat.le_of_ble_eq_true rfl) d_Reckoner_follow_78
  · have hM := hif_f hM c1
    refine J_aload_n (pc := 14) X 1 d_Reckoner_follow_14 rfl ?_
    obtain ⟨v2, ev2, hM⟩ := hb_some hM
    refine J_getAN (pc := 15) X hc_Edition in_Edition 2 (nw_12) (by decide) rfl d_Reckoner_follow_15 rfl ev2 ?_
    refine J_iload (pc := 18) X 3 d_Reckoner_follow_18 rfl ?_
    obtain ⟨u3, eu3, hM⟩ := hb_some hM
    obtain ⟨q4, eq4, hM⟩ := hb_some hM
    refine J_callV (pc := 20) (As := [.int x4]) (rest := []) (o := (some (.int q4.1))) (h2 := q4.2) X rfl hc_Steps eu3 (c_Steps_kindAt l D K F eq4) (cwV_of (nA := 1) X.fix k_145 k_147 k_148 k_79 k_146 ⟨rfl, rfl, rfl⟩ (by decide +kernel) ⟨Nat.le_of_ble_eq_true rfl, Nat.le_of_ble_eq_true rfl⟩) d_Reckoner_follow_20 rfl rfl (Nat.le_of_ble_eq_true rfl) (Nat.le_of_ble_eq_true rfl) (Nat.le_of_ble_eq_true rfl) ?_
    refine J_istore (pc := 23) (lv' := [(5, .int q4.1), (0, .ref x0), (1, .ref x1), (3, .int x3), (4, .int x4)]) X d_Reckoner_follow_23 (by decide) rfl ?_
    refine J_aload_n (pc := 25) X 2 d_Reckoner_follow_25 rfl ?_
    obtain ⟨v5, ev5, hM⟩ := hb_some hM
    refine J_getAN (pc := 26) X hc_Edition in_Edition 2 (nw_12) (by decide) rfl d_Reckoner_follow_26 rfl ev5 ?_
    refine J_iload (pc := 29) X 4 d_Reckoner_follow_29 rfl ?_
    obtain ⟨u6, eu6, hM⟩ := hb_some hM
    obtain ⟨q7, eq7, hM⟩ := hb_some hM
    refine J_callV (pc := 31) (As := [.int x4]) (rest := []) (o := (some (.int q7.1))) (h2 := q7.2) X rfl hc_Steps eu6 (c_Steps_valueAt l D K F eq7) (cwV_of (nA := 1) X.fix k_149 k_151 k_152 k_79 k_150 ⟨rfl, rfl, rfl⟩ (by decide +kernel) ⟨Nat.le_of_ble_eq_true rfl, Nat.le_of_ble_eq_true rfl⟩) d_Reckoner_follow_31 rfl rfl (Nat.le_of_ble_eq_true rfl) (Nat.le_of_ble_eq_true rfl) (Nat.le_of_ble_eq_true rfl) ?_
    refine J_istore (pc := 34) (lv' := [(6, .int q7.1), (5, .int q4.1), (0, .ref x0), (1, .ref x1), (3, .int x3), (4, .int x4)]) X d_Reckoner_follow_34 (by decide) rfl ?_
    refine J_iload (pc := 36) X 1 d_Reckoner_follow_36 rfl ?_
    refine J_bipush (pc := 38) (v := (9)) X d_Reckoner_follow_38 (by decide) ?_
    refine J_icmp_lt (pc := 40) (tgt := 54) X d_Reckoner_follow_40 (by decide) (fun c8 => ?_) (fun c8 => ?_)
    · have hM := hif_t hM c8
      refine J_aload_n (pc := 54) X 2 d_Reckoner_follow_54 rfl ?_
      refine J_iload (pc := 55) X 1 d_Reckoner_follow_55 rfl ?_
      refine J_iload (pc := 57) X 0 d_Reckoner_follow_57 rfl ?_
      refine J_aload_n (pc := 59) X 3 d_Reckoner_follow_59 rfl ?_
      obtain ⟨v9, ev9, hM⟩ := hb_some hM
      refine J_getAN (pc := 60) X hc_Edition in_Edition 3 (nw_13) (by decide) rfl d_Reckoner_follow_60 rfl ev9 ?_
      obtain ⟨u10, eu10, hM⟩ := hb_some hM
      obtain ⟨q11, eq11, hM⟩ := hb_some hM
      refine J_callV (pc := 63) (As := [.int q4.1, .int q7.1, .ref v9]) (rest := []) (o := (some (.int q11.1))) (h2 := q11.2) X rfl hc_Reckoner eu10 (c_Reckoner_reckon l D K F eq11) (cwV_of (nA := 3) X.fix k_153 k_155 k_156 k_111 k_154 ⟨rfl, rfl, rfl⟩ (by decide +kernel) ⟨Nat.le_of_ble_eq_true rfl, Nat.le_of_ble_eq_true rfl⟩) d_Reckoner_follow_63 rfl rfl (Nat.le_of_ble_eq_true rfl) (Nat.le_of_ble_eq_true rfl) (Nat.le_of_ble_eq_true rfl) ?_
      refine J_if_ne (pc := 66) (tgt := 71) X d_Reckoner_follow_66 (by decide) (fun c12 => ?_) (fun c12 => ?_)
      · have hM := hif_f hM c12
        refine J_sub [2, 3, 4, 5] rfl ?_
        exact w_Reckoner_follow_71 Y R8 _ _ _ _ _ _ hM
      · have hM := hif_t hM c12
        refine J_iconst (pc := 69) (v := (2)) X d_Reckoner_follow_69 (by decide) ?_
        obtain rfl := Option.some.inj hM
        exact J_iret (pc := 70) X hr hlk (Nat.le_of_ble_eq_true rfl) (Nat.le_of_ble_eq_true rfl) d_Reckoner_follow_70
    · have hM := hif_f hM c8
      refine J_aload_n (pc := 43) X 2 d_Reckoner_follow_43 rfl ?_
      refine J_iload (pc := 44) X 1 d_Reckoner_follow_44 rfl ?_
      obtain ⟨u13, eu13, hM⟩ := hb_some hM
      obtain ⟨q14, eq14, hM⟩ := hb_some hM
      refine J_callV (pc := 46) (As := [.int q4.1]) (rest := []) (o := (some (.int q14.1))) (h2 := q14.2) X rfl hc_Reckoner eu13 (c_Reckoner_related l D K F eq14) (cwV_of (nA := 1) X.fix k_157 k_159 k_160 k_111 k_158 ⟨rfl, rfl, rfl⟩ (by decide +kernel) ⟨Nat.le_of_ble_eq_true rfl, Nat.le_of_ble_eq_true rfl⟩) d_Reckoner_follow_46 rfl rfl (Nat.le_of_ble_eq_true rfl) (Nat.le_of_ble_eq_true rfl) (Nat.le_of_ble_eq_true rfl) ?_
      refine J_if_ne (pc := 49) (tgt := 71) X d_Reckoner_follow_49 (by decide) (fun c15 => ?_) (fun c15 => ?_)
      · have hM := hif_f hM c15
        refine J_sub [2, 3, 4, 5] rfl ?_
        exact w_Reckoner_follow_71 Y R8 _ _ _ _ _ _ hM
      · have hM := hif_t hM c15
        refine J_iconst (pc := 52) (v := (1)) X d_Reckoner_follow_52 (by decide) ?_
        obtain rfl := Option.some.inj hM
        exact J_iret (pc := 53) X hr hlk (Nat.le_of_ble_eq_true rfl) (Nat.le_of_ble_eq_true rfl) d_Reckoner_follow_53
theorem w_Reckoner_follow_8 {p : Program} {l : Launch} {e : Env} {s : State} {m : MethodId} {args : Array Value} {below : List Frame} {meth : Method} {c : Code} {D : va_G} {K : (Nat → Nat) × (Nat → Nat)} {h0 : hH} (Y : HX p s m args meth c prog_7_method_3_code 7 "LicenceTexts$Reckoner" D K "follow" (some .int) h0) {F : Nat} : ∀ z : Nat, ∀ (h : hH) (x0 : Nat) (x1 : Nat) (x3 : Int32) (x4 : Int32) (q : (Int32 × hH)), M_Reckoner_follow_8 F z h x0 x1 x3 x4 = some q → J p l e rm_Reckoner_follow s m args below meth c 7 D cls0 (hF h0) h [(0, .ref x0), (1, .ref x1), (3, .int x3), (4, .int x4)] 0 0 (MQ below (hQ D cls0 h0 (some (.int q.1)) q.2) args s 0 0 (hF h0)) 8 [] := by
  intro z
  induction z with
  | zero => intro h x0 x1 x3 x4 q hM; exact absurd (show (none : Option _) = some q from hM) (fun t => by cases t)
  | succ z ih => exact b_Reckoner_follow_8 Y ih
set_option maxHeartbeats 4000000 in
set_option maxRecDepth 100000 in
theorem c_Reckoner_follow (l : Launch) (D : va_G) (K : (Nat → Nat) × (Nat → Nat)) (F : Nat) {h : hH} {x0 : Nat} {x1 : Nat} {x2 : Int32} {x3 : Int32} {q : (Int32 × hH)} (hM : M_Reckoner_follow F h x0 x1 x2 x3 = some q) : Met l y_Reckoner_follow (.code y_Reckoner_follow prog_7_method_3_code 7 (some .int) :: T0) rm_Reckoner_follow (hPc hG D cls0 K [.ref x0, .ref x1, .int x2, .int x3] h) (hQ D cls0 h (some (.int q.1)) q.2) 0 0 (hF h) := by
  refine J_met (lv := [(0, .ref x0), (1, .ref x1), (2, .int x2), (3, .int x3)]) (by decide) (Nat.le_of_ble_eq_true rfl) rfl ?_
  intro p e s m below meth c X hr hlk hnm
  have Y : HX p s m _ meth c prog_7_method_3_code 7 "LicenceTexts$Reckoner" D K "follow" (some .int) h := ⟨X, hr, hlk, hnm⟩
  unfold M_Reckoner_follow at hM
  refine J_aload_n (pc := 0) X 0 d_Reckoner_follow_0 rfl ?_
  refine J_iconst (pc := 1) (v := (0)) X d_Reckoner_follow_1 (by decide) ?_
  obtain ⟨h1, eh1, hM⟩ := hb_some hM
  refine J_put (pc := 2) X hc_Reckoner in_Reckoner t_Reckoner tk_Reckoner nk_Reckoner 2 k_106 (by decide) rfl rfl d_Reckoner_follow_2 rfl rfl rfl eh1 ?_
  refine J_iload_n (pc := 5) X 2 d_Reckoner_follow_5 rfl ?_
  refine J_istore (pc := 6) (lv' := [(4, .int x2), (0, .ref x0), (1, .ref x1), (2, .int x2), (3, .int x3)]) X d_Reckoner_follow_6 (by decide) rfl ?_
  refine J_sub [1, 2, 4, 0] rfl ?_
  exact w_Reckoner_follow_8 Y F _ _ _ _ _ _ hM
abbrev rm_Reckoner_judge : Room := { frames := 4, cells := 0, slots := 0, locals := 98 }
set_option maxHeartbeats 4000000 in
set_option maxRecDepth 100000 in
theorem c_Reckoner_judge (l : Launch) (D : va_G) (K : (Nat → Nat) × (Nat → Nat)) (F : Nat) {h : hH} {x0 : Nat} {x1 : Nat} {x2 : Nat} {q : (Int32 × hH)} (hM : M_Reckoner_judge F h x0 x1 x2 = some q) : Met l y_Reckoner_judge (.code y_Reckoner_judge prog_7_method_2_code 4 (some .int) :: T0) rm_Reckoner_judge (hPc hG D cls0 K [.ref x0, .ref x1, .ref x2] h) (hQ D cls0 h (some (.int q.1)) q.2) 0 0 (hF h) := by
  refine J_met (lv := [(0, .ref x0), (1, .ref x1), (2, .ref x2)]) (by decide) (Nat.le_of_ble_eq_true rfl) rfl ?_
  intro p e s m below meth c X hr hlk hnm
  have Y : HX p s m _ meth c prog_7_method_2_code 4 "LicenceTexts$Reckoner" D K "judge" (some .int) h := ⟨X, hr, hlk, hnm⟩
  unfold M_Reckoner_judge at hM
  refine J_aload_n (pc := 0) X 0 d_Reckoner_judge_0 rfl ?_
  refine J_iconst (pc := 1) (v := (-1)) X d_Reckoner_judge_1 (by decide) ?_
  obtain ⟨h1, eh1, hM⟩ := hb_some hM
  refine J_put (pc := 2) X hc_Reckoner in_Reckoner t_Reckoner tk_Reckoner nk_Reckoner 3 k_107 (by decide) rfl rfl d_Reckoner_judge_2 rfl rfl rfl eh1 ?_
  refine J_aload_n (pc := 5) X 0 d_Reckoner_judge_5 rfl ?_
  refine J_iconst (pc := 6) (v := (-1)) X d_Reckoner_judge_6 (by decide) ?_
  obtain ⟨h2, eh2, hM⟩ := hb_some hM
  refine J_put (pc := 7) X hc_Reckoner in_Reckoner t_Reckoner tk_Reckoner nk_Reckoner 4 k_108 (by decide) rfl rfl d_Reckoner_judge_7 rfl rfl rfl eh2 ?_
  refine J_aload_n (pc := 10) X 0 d_Reckoner_judge_10 rfl ?_
  refine J_aload_n (pc := 11) X 1 d_Reckoner_judge_11 rfl ?_
  refine J_aload_n (pc := 12) X 2 d_Reckoner_judge_12 rfl ?_
  obtain ⟨v3, ev3, hM⟩ := hb_some hM
  refine J_getIN (pc := 13) X hc_Rule in_Rule 1 (nw_18) (by decide) rfl d_Reckoner_judge_13 rfl ev3 ?_
  refine J_aload_n (pc := 16) X 2 d_Reckoner_judge_16 rfl ?_
  obtain ⟨v4, ev4, hM⟩ := hb_some hM
  refine J_getIN (pc := 17) X hc_Rule in_Rule 3 (nw_21) (by decide) rfl d_Reckoner_judge_17 rfl ev4 ?_
  obtain ⟨u5, eu5, hM⟩ := hb_some hM
  obtain ⟨q6, eq6, hM⟩ := hb_some hM
  refine J_callV (pc := 20) (As := [.ref x1, .int v3, .int v4]) (rest := []) (o := (some (.int q6.1))) (h2 := q6.2) X rfl hc_Reckoner eu5 (c_Reckoner_follow l D K F eq6) (cwV_of (nA := 3) X.fix k_161 k_163 k_164 k_111 k_162 ⟨rfl, rfl, rfl⟩ (by decide +kernel) ⟨Nat.le_of_ble_eq_true rfl, Nat.le_of_ble_eq_true rfl⟩) d_Reckoner_judge_20 rfl rfl (Nat.le_of_ble_eq_true rfl) (Nat.le_of_ble_eq_true rfl) (Nat.le_of_ble_eq_true rfl) ?_
  refine J_istore_n (pc := 23) (lv' := [(3, .int q6.1), (0, .ref x0), (1, .ref x1), (2, .ref x2)]) X d_Reckoner_judge_23 rfl (by decide) rfl ?_
  refine J_iload_n (pc := 24) X 0 d_Reckoner_judge_24 rfl ?_
  refine J_iconst (pc := 25) (v := (1)) X d_Reckoner_judge_25 (by decide) ?_
  refine J_icmp_ne (pc := 26) (tgt := 31) X d_Reckoner_judge_26 (by decide) (fun c7 => ?_) (fun c7 => ?_)
  · have hM := hif_f hM c7
    refine J_iload_n (pc := 31) X 0 d_Reckoner_judge_31 rfl ?_
    refine J_if_ne (pc := 32) (tgt := 51) X d_Reckoner_judge_32 (by decide) (fun c8 => ?_) (fun c8 => ?_)
    · have hM := hif_f hM c8
      refine J_iload_n (pc := 51) X 0 d_Reckoner_judge_51 rfl ?_
      obtain rfl := Option.some.inj hM
      exact J_iret (pc := 52) X hr hlk (Nat.le_of_ble_eq_true rfl) (Nat.le_of_ble_eq_true rfl) d_Reckoner_judge_52
    · have hM := hif_t hM c8
      refine J_aload_n (pc := 35) X 1 d_Reckoner_judge_35 rfl ?_
      refine J_aload_n (pc := 36) X 2 d_Reckoner_judge_36 rfl ?_
      refine J_aload_n (pc := 37) X 3 d_Reckoner_judge_37 rfl ?_
      obtain ⟨v9, ev9, hM⟩ := hb_some hM
      refine J_getIN (pc := 38) X hc_Rule in_Rule 3 (nw_21) (by decide) rfl d_Reckoner_judge_38 rfl ev9 ?_
      refine J_aload_n (pc := 41) X 3 d_Reckoner_judge_41 rfl ?_
      obtain ⟨v10, ev10, hM⟩ := hb_some hM
      refine J_getIN (pc := 42) X hc_Rule in_Rule 4 (nw_23) (by decide) rfl d_Reckoner_judge_42 rfl ev10 ?_
      obtain ⟨u11, eu11, hM⟩ := hb_some hM
      obtain ⟨q12, eq12, hM⟩ := hb_some hM
      refine J_callV (pc := 45) (As := [.ref x1, .int v9, .int v10]) (rest := []) (o := (some (.int q12.1))) (h2 := q12.2) X rfl hc_Reckoner eu11 (c_Reckoner_follow l D K F eq12) (cwV_of (nA := 3) X.fix k_161 k_163 k_164 k_111 k_162 ⟨rfl, rfl, rfl⟩ (by decide +kernel) ⟨Nat.le_of_ble_eq_true rfl, Nat.le_of_ble_eq_true rfl⟩) d_Reckoner_judge_45 rfl rfl (Nat.le_of_ble_eq_true rfl) (Nat.le_of_ble_eq_true rfl) (Nat.le_of_ble_eq_true rfl) ?_
      refine J_goto (pc := 48) (tgt := 52) X d_Reckoner_judge_48 (by decide) ?_
      obtain rfl := Option.some.inj hM
      exact J_iret (pc := 52) X hr hlk (Nat.le_of_ble_eq_true rfl) (Nat.le_of_ble_eq_true rfl) d_Reckoner_judge_52
  · have hM := hif_t hM c7
    refine J_iconst (pc := 29) (v := (3)) X d_Reckoner_judge_29 (by decide) ?_
    obtain rfl := Option.some.inj hM
    exact J_iret (pc := 30) X hr hlk (Nat.le_of_ble_eq_true rfl) (Nat.le_of_ble_eq_true rfl) d_Reckoner_judge_30
end
