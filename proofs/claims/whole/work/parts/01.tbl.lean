-- ===== PART A: goes FIRST, ahead of the names: the tables' words, and 'selects' of the private methods out of them =====
/-- a private method of a class that the tables say can be made, by its rows of tables_1 -/
def lw_okq (q : MethodName × Nat) : Prop := (q.1.cls ≠ "java/lang/invoke/MethodHandle" ∧ q.1.cls ≠ "java/lang/invoke/VarHandle") ∧ Cond.instantiable q.1.cls q.2 ∈ tables_1 ∧ Cond.privateMethod q.1 ∈ tables_1 ∧ Cond.instanceMethod q.1 ∈ tables_1
theorem lw_p0 : lw_okq (⟨"LicenceTexts$Words", "begin", "(I)V"⟩, 5) := ⟨⟨by decide +kernel, by decide +kernel⟩, List.mem_of_getElem? (i := 38) (by decide +kernel), List.mem_of_getElem? (i := 292) (by decide +kernel), List.mem_of_getElem? (i := 293) (by decide +kernel)⟩
theorem lw_p1 : lw_okq (⟨"LicenceTexts$Words", "lengthen", "(I)V"⟩, 5) := ⟨⟨by decide +kernel, by decide +kernel⟩, List.mem_of_getElem? (i := 38) (by decide +kernel), List.mem_of_getElem? (i := 296) (by decide +kernel), List.mem_of_getElem? (i := 297) (by decide +kernel)⟩
theorem lw_p2 : lw_okq (⟨"LicenceTexts", "mayBegin", "(I)Z"⟩, 10) := ⟨⟨by decide +kernel, by decide +kernel⟩, List.mem_of_getElem? (i := 23) (by decide +kernel), List.mem_of_getElem? (i := 304) (by decide +kernel), List.mem_of_getElem? (i := 305) (by decide +kernel)⟩
theorem lw_p3 : lw_okq (⟨"LicenceTexts$TextReader", "begin", "(LLicenceTexts$Edition;)V"⟩, 8) := ⟨⟨by decide +kernel, by decide +kernel⟩, List.mem_of_getElem? (i := 143) (by decide +kernel), List.mem_of_getElem? (i := 313) (by decide +kernel), List.mem_of_getElem? (i := 314) (by decide +kernel)⟩
theorem lw_p4 : lw_okq (⟨"LicenceTexts$TextReader", "take", "(I)Z"⟩, 8) := ⟨⟨by decide +kernel, by decide +kernel⟩, List.mem_of_getElem? (i := 143) (by decide +kernel), List.mem_of_getElem? (i := 321) (by decide +kernel), List.mem_of_getElem? (i := 322) (by decide +kernel)⟩
theorem lw_p5 : lw_okq (⟨"LicenceTexts$TextReader", "takeItem", "(I)Z"⟩, 8) := ⟨⟨by decide +kernel, by decide +kernel⟩, List.mem_of_getElem? (i := 143) (by decide +kernel), List.mem_of_getElem? (i := 325) (by decide +kernel), List.mem_of_getElem? (i := 326) (by decide +kernel)⟩
theorem lw_p6 : lw_okq (⟨"LicenceTexts$Words", "startOf", "(I)I"⟩, 5) := ⟨⟨by decide +kernel, by decide +kernel⟩, List.mem_of_getElem? (i := 38) (by decide +kernel), List.mem_of_getElem? (i := 334) (by decide +kernel), List.mem_of_getElem? (i := 335) (by decide +kernel)⟩
theorem lw_p7 : lw_okq (⟨"LicenceTexts$Words", "endOf", "(I)I"⟩, 5) := ⟨⟨by decide +kernel, by decide +kernel⟩, List.mem_of_getElem? (i := 38) (by decide +kernel), List.mem_of_getElem? (i := 338) (by decide +kernel), List.mem_of_getElem? (i := 339) (by decide +kernel)⟩
theorem lw_p8 : lw_okq (⟨"LicenceTexts$TextReader", "takeTableNumber", "(I)Z"⟩, 8) := ⟨⟨by decide +kernel, by decide +kernel⟩, List.mem_of_getElem? (i := 143) (by decide +kernel), List.mem_of_getElem? (i := 433) (by decide +kernel), List.mem_of_getElem? (i := 434) (by decide +kernel)⟩
theorem lw_p9 : lw_okq (⟨"LicenceTexts$TextReader", "takeAtom", "(I)Z"⟩, 8) := ⟨⟨by decide +kernel, by decide +kernel⟩, List.mem_of_getElem? (i := 143) (by decide +kernel), List.mem_of_getElem? (i := 451) (by decide +kernel), List.mem_of_getElem? (i := 452) (by decide +kernel)⟩
theorem lw_p10 : lw_okq (⟨"LicenceTexts$TextReader", "endAtom", "()V"⟩, 8) := ⟨⟨by decide +kernel, by decide +kernel⟩, List.mem_of_getElem? (i := 143) (by decide +kernel), List.mem_of_getElem? (i := 459) (by decide +kernel), List.mem_of_getElem? (i := 460) (by decide +kernel)⟩
theorem lw_p11 : lw_okq (⟨"LicenceTexts$TextReader", "settle", "(I)V"⟩, 8) := ⟨⟨by decide +kernel, by decide +kernel⟩, List.mem_of_getElem? (i := 143) (by decide +kernel), List.mem_of_getElem? (i := 463) (by decide +kernel), List.mem_of_getElem? (i := 464) (by decide +kernel)⟩
theorem lw_p12 : lw_okq (⟨"LicenceTexts$TextReader", "waitAround", "(II)V"⟩, 8) := ⟨⟨by decide +kernel, by decide +kernel⟩, List.mem_of_getElem? (i := 143) (by decide +kernel), List.mem_of_getElem? (i := 485) (by decide +kernel), List.mem_of_getElem? (i := 486) (by decide +kernel)⟩
theorem lw_p13 : lw_okq (⟨"LicenceTexts$TextReader", "takeFactName", "(I)Z"⟩, 8) := ⟨⟨by decide +kernel, by decide +kernel⟩, List.mem_of_getElem? (i := 143) (by decide +kernel), List.mem_of_getElem? (i := 489) (by decide +kernel), List.mem_of_getElem? (i := 490) (by decide +kernel)⟩
theorem lw_p14 : lw_okq (⟨"LicenceTexts$TextReader", "takeTableName", "(I)Z"⟩, 8) := ⟨⟨by decide +kernel, by decide +kernel⟩, List.mem_of_getElem? (i := 143) (by decide +kernel), List.mem_of_getElem? (i := 493) (by decide +kernel), List.mem_of_getElem? (i := 494) (by decide +kernel)⟩
theorem lw_p15 : lw_okq (⟨"LicenceTexts$TextReader", "takeBehindAtom", "(I)Z"⟩, 8) := ⟨⟨by decide +kernel, by decide +kernel⟩, List.mem_of_getElem? (i := 143) (by decide +kernel), List.mem_of_getElem? (i := 497) (by decide +kernel), List.mem_of_getElem? (i := 498) (by decide +kernel)⟩
def lw_privs_1 : List (MethodName × Nat) := [(⟨"LicenceTexts$Words", "begin", "(I)V"⟩, 5), (⟨"LicenceTexts$Words", "lengthen", "(I)V"⟩, 5), (⟨"LicenceTexts", "mayBegin", "(I)Z"⟩, 10), (⟨"LicenceTexts$TextReader", "begin", "(LLicenceTexts$Edition;)V"⟩, 8), (⟨"LicenceTexts$TextReader", "take", "(I)Z"⟩, 8), (⟨"LicenceTexts$TextReader", "takeItem", "(I)Z"⟩, 8), (⟨"LicenceTexts$Words", "startOf", "(I)I"⟩, 5), (⟨"LicenceTexts$Words", "endOf", "(I)I"⟩, 5), (⟨"LicenceTexts$TextReader", "takeTableNumber", "(I)Z"⟩, 8), (⟨"LicenceTexts$TextReader", "takeAtom", "(I)Z"⟩, 8), (⟨"LicenceTexts$TextReader", "endAtom", "()V"⟩, 8), (⟨"LicenceTexts$TextReader", "settle", "(I)V"⟩, 8), (⟨"LicenceTexts$TextReader", "waitAround", "(II)V"⟩, 8), (⟨"LicenceTexts$TextReader", "takeFactName", "(I)Z"⟩, 8), (⟨"LicenceTexts$TextReader", "takeTableName", "(I)Z"⟩, 8), (⟨"LicenceTexts$TextReader", "takeBehindAtom", "(I)Z"⟩, 8)]
theorem lw_r1 : ∀ q ∈ lw_privs_1, lw_okq q := List.forall_mem_cons.mpr ⟨lw_p0, List.forall_mem_cons.mpr ⟨lw_p1, List.forall_mem_cons.mpr ⟨lw_p2, List.forall_mem_cons.mpr ⟨lw_p3, List.forall_mem_cons.mpr ⟨lw_p4, List.forall_mem_cons.mpr ⟨lw_p5, List.forall_mem_cons.mpr ⟨lw_p6, List.forall_mem_cons.mpr ⟨lw_p7, List.forall_mem_cons.mpr ⟨lw_p8, List.forall_mem_cons.mpr ⟨lw_p9, List.forall_mem_cons.mpr ⟨lw_p10, List.forall_mem_cons.mpr ⟨lw_p11, List.forall_mem_cons.mpr ⟨lw_p12, List.forall_mem_cons.mpr ⟨lw_p13, List.forall_mem_cons.mpr ⟨lw_p14, List.forall_mem_cons.mpr ⟨lw_p15, fun _ h => absurd h List.not_mem_nil⟩⟩⟩⟩⟩⟩⟩⟩⟩⟩⟩⟩⟩⟩⟩⟩
theorem lw_p16 : lw_okq (⟨"LicenceTexts$TextReader", "operatorAt", "(I)I"⟩, 8) := ⟨⟨by decide +kernel, by decide +kernel⟩, List.mem_of_getElem? (i := 143) (by decide +kernel), List.mem_of_getElem? (i := 501) (by decide +kernel), List.mem_of_getElem? (i := 502) (by decide +kernel)⟩
theorem lw_p17 : lw_okq (⟨"LicenceTexts$TextReader", "closeBracket", "()Z"⟩, 8) := ⟨⟨by decide +kernel, by decide +kernel⟩, List.mem_of_getElem? (i := 143) (by decide +kernel), List.mem_of_getElem? (i := 511) (by decide +kernel), List.mem_of_getElem? (i := 512) (by decide +kernel)⟩
theorem lw_p18 : lw_okq (⟨"LicenceTexts$TextReader", "relationAt", "(I)I"⟩, 8) := ⟨⟨by decide +kernel, by decide +kernel⟩, List.mem_of_getElem? (i := 143) (by decide +kernel), List.mem_of_getElem? (i := 515) (by decide +kernel), List.mem_of_getElem? (i := 516) (by decide +kernel)⟩
theorem lw_p19 : lw_okq (⟨"LicenceTexts$TextReader", "takeNeed", "(I)Z"⟩, 8) := ⟨⟨by decide +kernel, by decide +kernel⟩, List.mem_of_getElem? (i := 143) (by decide +kernel), List.mem_of_getElem? (i := 524) (by decide +kernel), List.mem_of_getElem? (i := 525) (by decide +kernel)⟩
theorem lw_p20 : lw_okq (⟨"LicenceTexts$TextReader", "takeRuleEnd", "(I)Z"⟩, 8) := ⟨⟨by decide +kernel, by decide +kernel⟩, List.mem_of_getElem? (i := 143) (by decide +kernel), List.mem_of_getElem? (i := 537) (by decide +kernel), List.mem_of_getElem? (i := 538) (by decide +kernel)⟩
theorem lw_p21 : lw_okq (⟨"LicenceTexts", "keep", "(LLicenceTexts$Edition;)V"⟩, 10) := ⟨⟨by decide +kernel, by decide +kernel⟩, List.mem_of_getElem? (i := 23) (by decide +kernel), List.mem_of_getElem? (i := 562) (by decide +kernel), List.mem_of_getElem? (i := 563) (by decide +kernel)⟩
theorem lw_p22 : lw_okq (⟨"LicenceTexts", "look", "(ILLicenceTexts$Findings;)I"⟩, 10) := ⟨⟨by decide +kernel, by decide +kernel⟩, List.mem_of_getElem? (i := 23) (by decide +kernel), List.mem_of_getElem? (i := 595) (by decide +kernel), List.mem_of_getElem? (i := 596) (by decide +kernel)⟩
theorem lw_p23 : lw_okq (⟨"LicenceTexts", "editionOn", "(I)LLicenceTexts$Edition;"⟩, 10) := ⟨⟨by decide +kernel, by decide +kernel⟩, List.mem_of_getElem? (i := 23) (by decide +kernel), List.mem_of_getElem? (i := 603) (by decide +kernel), List.mem_of_getElem? (i := 604) (by decide +kernel)⟩
theorem lw_p24 : lw_okq (⟨"LicenceTexts$Findings", "has", "(I)Z"⟩, 5) := ⟨⟨by decide +kernel, by decide +kernel⟩, List.mem_of_getElem? (i := 215) (by decide +kernel), List.mem_of_getElem? (i := 619) (by decide +kernel), List.mem_of_getElem? (i := 620) (by decide +kernel)⟩
theorem lw_p25 : lw_okq (⟨"LicenceTexts$Reckoner", "follow", "(LLicenceTexts$Edition;II)I"⟩, 5) := ⟨⟨by decide +kernel, by decide +kernel⟩, List.mem_of_getElem? (i := 191) (by decide +kernel), List.mem_of_getElem? (i := 628) (by decide +kernel), List.mem_of_getElem? (i := 629) (by decide +kernel)⟩
theorem lw_p26 : lw_okq (⟨"LicenceTexts$Reckoner", "related", "(I)Z"⟩, 5) := ⟨⟨by decide +kernel, by decide +kernel⟩, List.mem_of_getElem? (i := 191) (by decide +kernel), List.mem_of_getElem? (i := 634) (by decide +kernel), List.mem_of_getElem? (i := 635) (by decide +kernel)⟩
theorem lw_p27 : lw_okq (⟨"LicenceTexts$Reckoner", "pop", "()J"⟩, 5) := ⟨⟨by decide +kernel, by decide +kernel⟩, List.mem_of_getElem? (i := 191) (by decide +kernel), List.mem_of_getElem? (i := 638) (by decide +kernel), List.mem_of_getElem? (i := 639) (by decide +kernel)⟩
theorem lw_p28 : lw_okq (⟨"LicenceTexts$Reckoner", "reckon", "(IILLicenceTexts$Tables;)Z"⟩, 5) := ⟨⟨by decide +kernel, by decide +kernel⟩, List.mem_of_getElem? (i := 191) (by decide +kernel), List.mem_of_getElem? (i := 642) (by decide +kernel), List.mem_of_getElem? (i := 643) (by decide +kernel)⟩
theorem lw_p29 : lw_okq (⟨"LicenceTexts$Reckoner", "push", "(J)V"⟩, 5) := ⟨⟨by decide +kernel, by decide +kernel⟩, List.mem_of_getElem? (i := 191) (by decide +kernel), List.mem_of_getElem? (i := 646) (by decide +kernel), List.mem_of_getElem? (i := 647) (by decide +kernel)⟩
theorem lw_p30 : lw_okq (⟨"LicenceTexts$Reckoner", "pushFact", "(I)Z"⟩, 5) := ⟨⟨by decide +kernel, by decide +kernel⟩, List.mem_of_getElem? (i := 191) (by decide +kernel), List.mem_of_getElem? (i := 650) (by decide +kernel), List.mem_of_getElem? (i := 651) (by decide +kernel)⟩
theorem lw_p31 : lw_okq (⟨"LicenceTexts$Reckoner", "pushPlace", "(LLicenceTexts$Tables;I)Z"⟩, 5) := ⟨⟨by decide +kernel, by decide +kernel⟩, List.mem_of_getElem? (i := 191) (by decide +kernel), List.mem_of_getElem? (i := 662) (by decide +kernel), List.mem_of_getElem? (i := 663) (by decide +kernel)⟩
def lw_privs_2 : List (MethodName × Nat) := [(⟨"LicenceTexts$TextReader", "operatorAt", "(I)I"⟩, 8), (⟨"LicenceTexts$TextReader", "closeBracket", "()Z"⟩, 8), (⟨"LicenceTexts$TextReader", "relationAt", "(I)I"⟩, 8), (⟨"LicenceTexts$TextReader", "takeNeed", "(I)Z"⟩, 8), (⟨"LicenceTexts$TextReader", "takeRuleEnd", "(I)Z"⟩, 8), (⟨"LicenceTexts", "keep", "(LLicenceTexts$Edition;)V"⟩, 10), (⟨"LicenceTexts", "look", "(ILLicenceTexts$Findings;)I"⟩, 10), (⟨"LicenceTexts", "editionOn", "(I)LLicenceTexts$Edition;"⟩, 10), (⟨"LicenceTexts$Findings", "has", "(I)Z"⟩, 5), (⟨"LicenceTexts$Reckoner", "follow", "(LLicenceTexts$Edition;II)I"⟩, 5), (⟨"LicenceTexts$Reckoner", "related", "(I)Z"⟩, 5), (⟨"LicenceTexts$Reckoner", "pop", "()J"⟩, 5), (⟨"LicenceTexts$Reckoner", "reckon", "(IILLicenceTexts$Tables;)Z"⟩, 5), (⟨"LicenceTexts$Reckoner", "push", "(J)V"⟩, 5), (⟨"LicenceTexts$Reckoner", "pushFact", "(I)Z"⟩, 5), (⟨"LicenceTexts$Reckoner", "pushPlace", "(LLicenceTexts$Tables;I)Z"⟩, 5)]
theorem lw_r2 : ∀ q ∈ lw_privs_2, lw_okq q := List.forall_mem_cons.mpr ⟨lw_p16, List.forall_mem_cons.mpr ⟨lw_p17, List.forall_mem_cons.mpr ⟨lw_p18, List.forall_mem_cons.mpr ⟨lw_p19, List.forall_mem_cons.mpr ⟨lw_p20, List.forall_mem_cons.mpr ⟨lw_p21, List.forall_mem_cons.mpr ⟨lw_p22, List.forall_mem_cons.mpr ⟨lw_p23, List.forall_mem_cons.mpr ⟨lw_p24, List.forall_mem_cons.mpr ⟨lw_p25, List.forall_mem_cons.mpr ⟨lw_p26, List.forall_mem_cons.mpr ⟨lw_p27, List.forall_mem_cons.mpr ⟨lw_p28, List.forall_mem_cons.mpr ⟨lw_p29, List.forall_mem_cons.mpr ⟨lw_p30, List.forall_mem_cons.mpr ⟨lw_p31, fun _ h => absurd h List.not_mem_nil⟩⟩⟩⟩⟩⟩⟩⟩⟩⟩⟩⟩⟩⟩⟩⟩
theorem lw_p32 : lw_okq (⟨"LicenceTexts$Reckoner", "combine", "(I)Z"⟩, 5) := ⟨⟨by decide +kernel, by decide +kernel⟩, List.mem_of_getElem? (i := 191) (by decide +kernel), List.mem_of_getElem? (i := 670) (by decide +kernel), List.mem_of_getElem? (i := 671) (by decide +kernel)⟩
theorem lw_p33 : lw_okq (⟨"LicenceTexts$Hauls", "total", "(I)J"⟩, 1) := ⟨⟨by decide +kernel, by decide +kernel⟩, List.mem_of_getElem? (i := 239) (by decide +kernel), List.mem_of_getElem? (i := 752) (by decide +kernel), List.mem_of_getElem? (i := 753) (by decide +kernel)⟩
theorem lw_p34 : lw_okq (⟨"LicenceTexts$Hauls", "gramsOf", "(II)J"⟩, 1) := ⟨⟨by decide +kernel, by decide +kernel⟩, List.mem_of_getElem? (i := 239) (by decide +kernel), List.mem_of_getElem? (i := 756) (by decide +kernel), List.mem_of_getElem? (i := 757) (by decide +kernel)⟩
theorem lw_p35 : lw_okq (⟨"java/lang/Throwable", "fillInStackTrace", "(I)Ljava/lang/Throwable;"⟩, 6) := ⟨⟨by decide +kernel, by decide +kernel⟩, List.mem_of_getElem? (i := 808) (by decide +kernel), List.mem_of_getElem? (i := 806) (by decide +kernel), List.mem_of_getElem? (i := 807) (by decide +kernel)⟩
theorem lw_p36 : lw_okq (⟨"LicenceTextsModel", "split", "()V"⟩, 39) := ⟨⟨by decide +kernel, by decide +kernel⟩, List.mem_of_getElem? (i := 837) (by decide +kernel), List.mem_of_getElem? (i := 974) (by decide +kernel), List.mem_of_getElem? (i := 975) (by decide +kernel)⟩
theorem lw_p37 : lw_okq (⟨"LicenceTextsModel", "wordOf", "(II)I"⟩, 39) := ⟨⟨by decide +kernel, by decide +kernel⟩, List.mem_of_getElem? (i := 837) (by decide +kernel), List.mem_of_getElem? (i := 981) (by decide +kernel), List.mem_of_getElem? (i := 982) (by decide +kernel)⟩
theorem lw_p38 : lw_okq (⟨"LicenceTextsModel", "nameOf", "(II)I"⟩, 39) := ⟨⟨by decide +kernel, by decide +kernel⟩, List.mem_of_getElem? (i := 837) (by decide +kernel), List.mem_of_getElem? (i := 985) (by decide +kernel), List.mem_of_getElem? (i := 986) (by decide +kernel)⟩
theorem lw_p39 : lw_okq (⟨"LicenceTextsModel", "now", "()I"⟩, 39) := ⟨⟨by decide +kernel, by decide +kernel⟩, List.mem_of_getElem? (i := 837) (by decide +kernel), List.mem_of_getElem? (i := 994) (by decide +kernel), List.mem_of_getElem? (i := 995) (by decide +kernel)⟩
theorem lw_p40 : lw_okq (⟨"LicenceTextsModel", "table", "()V"⟩, 39) := ⟨⟨by decide +kernel, by decide +kernel⟩, List.mem_of_getElem? (i := 837) (by decide +kernel), List.mem_of_getElem? (i := 998) (by decide +kernel), List.mem_of_getElem? (i := 999) (by decide +kernel)⟩
theorem lw_p41 : lw_okq (⟨"LicenceTextsModel", "want", "(Z)Z"⟩, 39) := ⟨⟨by decide +kernel, by decide +kernel⟩, List.mem_of_getElem? (i := 837) (by decide +kernel), List.mem_of_getElem? (i := 1002) (by decide +kernel), List.mem_of_getElem? (i := 1003) (by decide +kernel)⟩
theorem lw_p42 : lw_okq (⟨"LicenceTextsModel", "needs", "(I)Z"⟩, 39) := ⟨⟨by decide +kernel, by decide +kernel⟩, List.mem_of_getElem? (i := 837) (by decide +kernel), List.mem_of_getElem? (i := 1006) (by decide +kernel), List.mem_of_getElem? (i := 1007) (by decide +kernel)⟩
theorem lw_p43 : lw_okq (⟨"LicenceTextsModel", "rule", "()V"⟩, 39) := ⟨⟨by decide +kernel, by decide +kernel⟩, List.mem_of_getElem? (i := 837) (by decide +kernel), List.mem_of_getElem? (i := 1010) (by decide +kernel), List.mem_of_getElem? (i := 1011) (by decide +kernel)⟩
theorem lw_p44 : lw_okq (⟨"LicenceTextsModel", "conditions", "()V"⟩, 39) := ⟨⟨by decide +kernel, by decide +kernel⟩, List.mem_of_getElem? (i := 837) (by decide +kernel), List.mem_of_getElem? (i := 1014) (by decide +kernel), List.mem_of_getElem? (i := 1015) (by decide +kernel)⟩
theorem lw_p45 : lw_okq (⟨"LicenceTextsModel", "sum", "()V"⟩, 39) := ⟨⟨by decide +kernel, by decide +kernel⟩, List.mem_of_getElem? (i := 837) (by decide +kernel), List.mem_of_getElem? (i := 1018) (by decide +kernel), List.mem_of_getElem? (i := 1019) (by decide +kernel)⟩
theorem lw_p46 : lw_okq (⟨"LicenceTextsModel", "put", "(II)V"⟩, 39) := ⟨⟨by decide +kernel, by decide +kernel⟩, List.mem_of_getElem? (i := 837) (by decide +kernel), List.mem_of_getElem? (i := 1022) (by decide +kernel), List.mem_of_getElem? (i := 1023) (by decide +kernel)⟩
theorem lw_p47 : lw_okq (⟨"LicenceTextsModel", "editionOf", "(I)I"⟩, 39) := ⟨⟨by decide +kernel, by decide +kernel⟩, List.mem_of_getElem? (i := 837) (by decide +kernel), List.mem_of_getElem? (i := 1048) (by decide +kernel), List.mem_of_getElem? (i := 1049) (by decide +kernel)⟩
def lw_privs_3 : List (MethodName × Nat) := [(⟨"LicenceTexts$Reckoner", "combine", "(I)Z"⟩, 5), (⟨"LicenceTexts$Hauls", "total", "(I)J"⟩, 1), (⟨"LicenceTexts$Hauls", "gramsOf", "(II)J"⟩, 1), (⟨"java/lang/Throwable", "fillInStackTrace", "(I)Ljava/lang/Throwable;"⟩, 6), (⟨"LicenceTextsModel", "split", "()V"⟩, 39), (⟨"LicenceTextsModel", "wordOf", "(II)I"⟩, 39), (⟨"LicenceTextsModel", "nameOf", "(II)I"⟩, 39), (⟨"LicenceTextsModel", "now", "()I"⟩, 39), (⟨"LicenceTextsModel", "table", "()V"⟩, 39), (⟨"LicenceTextsModel", "want", "(Z)Z"⟩, 39), (⟨"LicenceTextsModel", "needs", "(I)Z"⟩, 39), (⟨"LicenceTextsModel", "rule", "()V"⟩, 39), (⟨"LicenceTextsModel", "conditions", "()V"⟩, 39), (⟨"LicenceTextsModel", "sum", "()V"⟩, 39), (⟨"LicenceTextsModel", "put", "(II)V"⟩, 39), (⟨"LicenceTextsModel", "editionOf", "(I)I"⟩, 39)]
theorem lw_r3 : ∀ q ∈ lw_privs_3, lw_okq q := List.forall_mem_cons.mpr ⟨lw_p32, List.forall_mem_cons.mpr ⟨lw_p33, List.forall_mem_cons.mpr ⟨lw_p34, List.forall_mem_cons.mpr ⟨lw_p35, List.forall_mem_cons.mpr ⟨lw_p36, List.forall_mem_cons.mpr ⟨lw_p37, List.forall_mem_cons.mpr ⟨lw_p38, List.forall_mem_cons.mpr ⟨lw_p39, List.forall_mem_cons.mpr ⟨lw_p40, List.forall_mem_cons.mpr ⟨lw_p41, List.forall_mem_cons.mpr ⟨lw_p42, List.forall_mem_cons.mpr ⟨lw_p43, List.forall_mem_cons.mpr ⟨lw_p44, List.forall_mem_cons.mpr ⟨lw_p45, List.forall_mem_cons.mpr ⟨lw_p46, List.forall_mem_cons.mpr ⟨lw_p47, fun _ h => absurd h List.not_mem_nil⟩⟩⟩⟩⟩⟩⟩⟩⟩⟩⟩⟩⟩⟩⟩⟩
theorem lw_p48 : lw_okq (⟨"LicenceTextsModel", "answer", "(IZ)I"⟩, 39) := ⟨⟨by decide +kernel, by decide +kernel⟩, List.mem_of_getElem? (i := 837) (by decide +kernel), List.mem_of_getElem? (i := 1052) (by decide +kernel), List.mem_of_getElem? (i := 1053) (by decide +kernel)⟩
theorem lw_p49 : lw_okq (⟨"LicenceTextsModel", "look", "(II)I"⟩, 39) := ⟨⟨by decide +kernel, by decide +kernel⟩, List.mem_of_getElem? (i := 837) (by decide +kernel), List.mem_of_getElem? (i := 1056) (by decide +kernel), List.mem_of_getElem? (i := 1057) (by decide +kernel)⟩
theorem lw_p50 : lw_okq (⟨"LicenceTextsModel", "withState", "(II)I"⟩, 39) := ⟨⟨by decide +kernel, by decide +kernel⟩, List.mem_of_getElem? (i := 837) (by decide +kernel), List.mem_of_getElem? (i := 1074) (by decide +kernel), List.mem_of_getElem? (i := 1075) (by decide +kernel)⟩
theorem lw_p51 : lw_okq (⟨"LicenceTextsModel", "ranRules", "()I"⟩, 39) := ⟨⟨by decide +kernel, by decide +kernel⟩, List.mem_of_getElem? (i := 837) (by decide +kernel), List.mem_of_getElem? (i := 1078) (by decide +kernel), List.mem_of_getElem? (i := 1079) (by decide +kernel)⟩
def lw_privs_4 : List (MethodName × Nat) := [(⟨"LicenceTextsModel", "answer", "(IZ)I"⟩, 39), (⟨"LicenceTextsModel", "look", "(II)I"⟩, 39), (⟨"LicenceTextsModel", "withState", "(II)I"⟩, 39), (⟨"LicenceTextsModel", "ranRules", "()I"⟩, 39)]
theorem lw_r4 : ∀ q ∈ lw_privs_4, lw_okq q := List.forall_mem_cons.mpr ⟨lw_p48, List.forall_mem_cons.mpr ⟨lw_p49, List.forall_mem_cons.mpr ⟨lw_p50, List.forall_mem_cons.mpr ⟨lw_p51, fun _ h => absurd h List.not_mem_nil⟩⟩⟩⟩
def lw_privs : List (MethodName × Nat) := lw_privs_1 ++ (lw_privs_2 ++ (lw_privs_3 ++ (lw_privs_4)))
def lw_tbl : List Cond := k2_sels lw_privs ++ tables_1
theorem lw_privs_ok : ∀ q ∈ lw_privs, lw_okq q := by
  show ∀ q ∈ lw_privs_1 ++ (lw_privs_2 ++ (lw_privs_3 ++ (lw_privs_4))), lw_okq q
  exact List.forall_mem_append.mpr ⟨lw_r1, List.forall_mem_append.mpr ⟨lw_r2, List.forall_mem_append.mpr ⟨lw_r3, lw_r4⟩⟩⟩
def T0 : List Cond := lw_tbl.filter goodWord
theorem memT {w : Cond} (i : Nat) (h : lw_tbl[i]? = some w) (hg : goodWord w = true) : w ∈ T0 := List.mem_filter.mpr ⟨List.mem_of_getElem? h, hg⟩
theorem T0_good {w : Cond} (h : w ∈ T0) : w ∈ T0 ∧ ((w.onTables && w.keeps) = true ∨ ∃ ty, w = .arrayClass ty) := ⟨h, good_of_word (List.mem_filter.mp h).2⟩
def F_Bytes : u_T := fun k => match k with
  | 0 => ("LicenceTexts$Bytes", "row", "[B", true)
  | _ => ("LicenceTexts$Bytes", "length", "I", false)
def t_Bytes : Nat → FieldType := fun k => match k with
  | 0 => (.array .byte)
  | _ => .int
theorem nk_Bytes : ∀ a, a < 2 → ∀ b, b < 2 → a ≠ b → (F_Bytes a).2.1 ≠ (F_Bytes b).2.1 := by decide +kernel
theorem tk_Bytes : ∀ k, k < 2 → parseFieldDescriptor (F_Bytes k).2.2.1 = some (t_Bytes k) := by decide +kernel
theorem df_Bytes : ∀ j, j < 2 → defaultValue (t_Bytes j) = vp_V [.null, .int 0] j := by decide +kernel
def F_Edition : u_T := fun k => match k with
  | 0 => ("LicenceTexts$Edition", "words", "LLicenceTexts$Words;", true)
  | 1 => ("LicenceTexts$Edition", "steps", "LLicenceTexts$Steps;", true)
  | 2 => ("LicenceTexts$Edition", "tables", "LLicenceTexts$Tables;", true)
  | 3 => ("LicenceTexts$Edition", "rules", "[LLicenceTexts$Rule;", true)
  | 4 => ("LicenceTexts$Edition", "ruleCount", "I", false)
  | _ => ("LicenceTexts$Edition", "day", "I", false)
def t_Edition : Nat → FieldType := fun k => match k with
  | 0 => (.object "LicenceTexts$Words")
  | 1 => (.object "LicenceTexts$Steps")
  | 2 => (.object "LicenceTexts$Tables")
  | 3 => (.array (.object "LicenceTexts$Rule"))
  | 4 => .int
  | _ => .int
theorem nk_Edition : ∀ a, a < 6 → ∀ b, b < 6 → a ≠ b → (F_Edition a).2.1 ≠ (F_Edition b).2.1 := by decide +kernel
theorem tk_Edition : ∀ k, k < 6 → parseFieldDescriptor (F_Edition k).2.2.1 = some (t_Edition k) := by decide +kernel
theorem df_Edition : ∀ j, j < 6 → defaultValue (t_Edition j) = vp_V [.null, .null, .null, .null, .int 0, .int 0] j := by decide +kernel
def F_Facts : u_T := fun k => match k with
  | 0 => ("LicenceTexts$Facts", "values", "[J", true)
  | _ => ("LicenceTexts$Facts", "told", "[Z", true)
def t_Facts : Nat → FieldType := fun k => match k with
  | 0 => (.array .long)
  | _ => (.array .boolean)
theorem nk_Facts : ∀ a, a < 2 → ∀ b, b < 2 → a ≠ b → (F_Facts a).2.1 ≠ (F_Facts b).2.1 := by decide +kernel
theorem tk_Facts : ∀ k, k < 2 → parseFieldDescriptor (F_Facts k).2.2.1 = some (t_Facts k) := by decide +kernel
theorem df_Facts : ∀ j, j < 2 → defaultValue (t_Facts j) = vp_V [.null, .null] j := by decide +kernel
def F_Findings : u_T := fun k => match k with
  | 0 => ("LicenceTexts$Findings", "outcomes", "[I", true)
  | 1 => ("LicenceTexts$Findings", "reasons", "[I", true)
  | 2 => ("LicenceTexts$Findings", "untold", "[I", true)
  | 3 => ("LicenceTexts$Findings", "firstWords", "[I", true)
  | _ => ("LicenceTexts$Findings", "count", "I", false)
def t_Findings : Nat → FieldType := fun k => match k with
  | 0 => (.array .int)
  | 1 => (.array .int)
  | 2 => (.array .int)
  | 3 => (.array .int)
  | _ => .int
theorem nk_Findings : ∀ a, a < 5 → ∀ b, b < 5 → a ≠ b → (F_Findings a).2.1 ≠ (F_Findings b).2.1 := by decide +kernel
theorem tk_Findings : ∀ k, k < 5 → parseFieldDescriptor (F_Findings k).2.2.1 = some (t_Findings k) := by decide +kernel
theorem df_Findings : ∀ j, j < 5 → defaultValue (t_Findings j) = vp_V [.null, .null, .null, .null, .int 0] j := by decide +kernel
def F_Hauls : u_T := fun k => match k with
  | _ => ("LicenceTexts$Hauls", "row", "[J", true)
def t_Hauls : Nat → FieldType := fun k => match k with
  | _ => (.array .long)
theorem nk_Hauls : ∀ a, a < 1 → ∀ b, b < 1 → a ≠ b → (F_Hauls a).2.1 ≠ (F_Hauls b).2.1 := by decide +kernel
theorem tk_Hauls : ∀ k, k < 1 → parseFieldDescriptor (F_Hauls k).2.2.1 = some (t_Hauls k) := by decide +kernel
theorem df_Hauls : ∀ j, j < 1 → defaultValue (t_Hauls j) = vp_V [.null] j := by decide +kernel
def F_Reckoner : u_T := fun k => match k with
  | 0 => ("LicenceTexts$Reckoner", "facts", "LLicenceTexts$Facts;", true)
  | 1 => ("LicenceTexts$Reckoner", "values", "[J", true)
  | 2 => ("LicenceTexts$Reckoner", "height", "I", false)
  | 3 => ("LicenceTexts$Reckoner", "reason", "I", false)
  | _ => ("LicenceTexts$Reckoner", "untold", "I", false)
def t_Reckoner : Nat → FieldType := fun k => match k with
  | 0 => (.object "LicenceTexts$Facts")
  | 1 => (.array .long)
  | 2 => .int
  | 3 => .int
  | _ => .int
theorem nk_Reckoner : ∀ a, a < 5 → ∀ b, b < 5 → a ≠ b → (F_Reckoner a).2.1 ≠ (F_Reckoner b).2.1 := by decide +kernel
theorem tk_Reckoner : ∀ k, k < 5 → parseFieldDescriptor (F_Reckoner k).2.2.1 = some (t_Reckoner k) := by decide +kernel
theorem df_Reckoner : ∀ j, j < 5 → defaultValue (t_Reckoner j) = vp_V [.null, .null, .int 0, .int 0, .int 0] j := by decide +kernel
def F_Rule : u_T := fun k => match k with
  | 0 => ("LicenceTexts$Rule", "firstWord", "I", true)
  | 1 => ("LicenceTexts$Rule", "start", "I", true)
  | 2 => ("LicenceTexts$Rule", "endWord", "I", false)
  | 3 => ("LicenceTexts$Rule", "need", "I", false)
  | _ => ("LicenceTexts$Rule", "end", "I", false)
def t_Rule : Nat → FieldType := fun k => match k with
  | 0 => .int
  | 1 => .int
  | 2 => .int
  | 3 => .int
  | _ => .int
theorem nk_Rule : ∀ a, a < 5 → ∀ b, b < 5 → a ≠ b → (F_Rule a).2.1 ≠ (F_Rule b).2.1 := by decide +kernel
theorem tk_Rule : ∀ k, k < 5 → parseFieldDescriptor (F_Rule k).2.2.1 = some (t_Rule k) := by decide +kernel
theorem df_Rule : ∀ j, j < 5 → defaultValue (t_Rule j) = vp_V [.int 0, .int 0, .int 0, .int 0, .int 0] j := by decide +kernel
def F_Steps : u_T := fun k => match k with
  | 0 => ("LicenceTexts$Steps", "kinds", "[I", true)
  | 1 => ("LicenceTexts$Steps", "values", "[I", true)
  | _ => ("LicenceTexts$Steps", "count", "I", false)
def t_Steps : Nat → FieldType := fun k => match k with
  | 0 => (.array .int)
  | 1 => (.array .int)
  | _ => .int
theorem nk_Steps : ∀ a, a < 3 → ∀ b, b < 3 → a ≠ b → (F_Steps a).2.1 ≠ (F_Steps b).2.1 := by decide +kernel
theorem tk_Steps : ∀ k, k < 3 → parseFieldDescriptor (F_Steps k).2.2.1 = some (t_Steps k) := by decide +kernel
theorem df_Steps : ∀ j, j < 3 → defaultValue (t_Steps j) = vp_V [.null, .null, .int 0] j := by decide +kernel
def F_Tables : u_T := fun k => match k with
  | 0 => ("LicenceTexts$Tables", "numbers", "[I", true)
  | 1 => ("LicenceTexts$Tables", "sizes", "[I", true)
  | _ => ("LicenceTexts$Tables", "count", "I", false)
def t_Tables : Nat → FieldType := fun k => match k with
  | 0 => (.array .int)
  | 1 => (.array .int)
  | _ => .int
theorem nk_Tables : ∀ a, a < 3 → ∀ b, b < 3 → a ≠ b → (F_Tables a).2.1 ≠ (F_Tables b).2.1 := by decide +kernel
theorem tk_Tables : ∀ k, k < 3 → parseFieldDescriptor (F_Tables k).2.2.1 = some (t_Tables k) := by decide +kernel
theorem df_Tables : ∀ j, j < 3 → defaultValue (t_Tables j) = vp_V [.null, .null, .int 0] j := by decide +kernel
def F_TextReader : u_T := fun k => match k with
  | 0 => ("LicenceTexts$TextReader", "waiting", "LLicenceTexts$Steps;", true)
  | 1 => ("LicenceTexts$TextReader", "edition", "LLicenceTexts$Edition;", false)
  | 2 => ("LicenceTexts$TextReader", "words", "LLicenceTexts$Words;", false)
  | 3 => ("LicenceTexts$TextReader", "steps", "LLicenceTexts$Steps;", false)
  | 4 => ("LicenceTexts$TextReader", "awaited", "I", false)
  | 5 => ("LicenceTexts$TextReader", "around", "I", false)
  | 6 => ("LicenceTexts$TextReader", "relation", "I", false)
  | _ => ("LicenceTexts$TextReader", "needAwaited", "Z", false)
def t_TextReader : Nat → FieldType := fun k => match k with
  | 0 => (.object "LicenceTexts$Steps")
  | 1 => (.object "LicenceTexts$Edition")
  | 2 => (.object "LicenceTexts$Words")
  | 3 => (.object "LicenceTexts$Steps")
  | 4 => .int
  | 5 => .int
  | 6 => .int
  | _ => .boolean
theorem nk_TextReader : ∀ a, a < 8 → ∀ b, b < 8 → a ≠ b → (F_TextReader a).2.1 ≠ (F_TextReader b).2.1 := by decide +kernel
theorem tk_TextReader : ∀ k, k < 8 → parseFieldDescriptor (F_TextReader k).2.2.1 = some (t_TextReader k) := by decide +kernel
theorem df_TextReader : ∀ j, j < 8 → defaultValue (t_TextReader j) = vp_V [.null, .null, .null, .null, .int 0, .int 0, .int 0, .int 0] j := by decide +kernel
def F_Words : u_T := fun k => match k with
  | 0 => ("LicenceTexts$Words", "bytes", "LLicenceTexts$Bytes;", true)
  | 1 => ("LicenceTexts$Words", "starts", "[I", true)
  | 2 => ("LicenceTexts$Words", "ends", "[I", true)
  | 3 => ("LicenceTexts$Words", "count", "I", false)
  | _ => ("LicenceTexts$Words", "inWord", "Z", false)
def t_Words : Nat → FieldType := fun k => match k with
  | 0 => (.object "LicenceTexts$Bytes")
  | 1 => (.array .int)
  | 2 => (.array .int)
  | 3 => .int
  | _ => .boolean
theorem nk_Words : ∀ a, a < 5 → ∀ b, b < 5 → a ≠ b → (F_Words a).2.1 ≠ (F_Words b).2.1 := by decide +kernel
theorem tk_Words : ∀ k, k < 5 → parseFieldDescriptor (F_Words k).2.2.1 = some (t_Words k) := by decide +kernel
theorem df_Words : ∀ j, j < 5 → defaultValue (t_Words j) = vp_V [.null, .null, .null, .int 0, .int 0] j := by decide +kernel
def F_LT : u_T := fun k => match k with
  | 0 => ("LicenceTexts", "book", "[LLicenceTexts$Edition;", true)
  | 1 => ("LicenceTexts", "bookSize", "I", false)
  | 2 => ("LicenceTexts", "draft", "LLicenceTexts$Edition;", false)
  | 3 => ("LicenceTexts", "reader", "LLicenceTexts$TextReader;", true)
  | 4 => ("LicenceTexts", "facts", "LLicenceTexts$Facts;", true)
  | 5 => ("LicenceTexts", "reckoner", "LLicenceTexts$Reckoner;", true)
  | 6 => ("LicenceTexts", "latest", "LLicenceTexts$Findings;", true)
  | 7 => ("LicenceTexts", "trial", "LLicenceTexts$Findings;", true)
  | 8 => ("LicenceTexts", "line", "LLicenceTexts$Bytes;", true)
  | _ => ("LicenceTexts", "hauls", "LLicenceTexts$Hauls;", true)
def t_LT : Nat → FieldType := fun k => match k with
  | 0 => (.array (.object "LicenceTexts$Edition"))
  | 1 => .int
  | 2 => (.object "LicenceTexts$Edition")
  | 3 => (.object "LicenceTexts$TextReader")
  | 4 => (.object "LicenceTexts$Facts")
  | 5 => (.object "LicenceTexts$Reckoner")
  | 6 => (.object "LicenceTexts$Findings")
  | 7 => (.object "LicenceTexts$Findings")
  | 8 => (.object "LicenceTexts$Bytes")
  | _ => (.object "LicenceTexts$Hauls")
theorem nk_LT : ∀ a, a < 10 → ∀ b, b < 10 → a ≠ b → (F_LT a).2.1 ≠ (F_LT b).2.1 := by decide +kernel
theorem tk_LT : ∀ k, k < 10 → parseFieldDescriptor (F_LT k).2.2.1 = some (t_LT k) := by decide +kernel
theorem df_LT : ∀ j, j < 10 → defaultValue (t_LT j) = vp_V [.null, .int 0, .null, .null, .null, .null, .null, .null, .null, .null] j := by decide +kernel
def F_Mo : u_T := fun k => match k with
  | 0 => ("LicenceTextsModel", "code", "I", false)
  | 1 => ("LicenceTextsModel", "tape", "[B", true)
  | 2 => ("LicenceTextsModel", "size", "I", false)
  | 3 => ("LicenceTextsModel", "editions", "I", false)
  | 4 => ("LicenceTextsModel", "from", "[I", true)
  | 5 => ("LicenceTextsModel", "text", "[B", true)
  | 6 => ("LicenceTextsModel", "wordAt", "[I", true)
  | 7 => ("LicenceTextsModel", "wordSize", "[I", true)
  | 8 => ("LicenceTextsModel", "word", "[I", true)
  | 9 => ("LicenceTextsModel", "words", "[I", true)
  | 10 => ("LicenceTextsModel", "tables", "[I", true)
  | 11 => ("LicenceTextsModel", "tableSize", "[I", true)
  | 12 => ("LicenceTextsModel", "number", "[I", true)
  | 13 => ("LicenceTextsModel", "rules", "[I", true)
  | 14 => ("LicenceTextsModel", "begins", "[I", true)
  | 15 => ("LicenceTextsModel", "need", "[I", true)
  | 16 => ("LicenceTextsModel", "ends", "[I", true)
  | 17 => ("LicenceTextsModel", "firstWord", "[I", true)
  | 18 => ("LicenceTextsModel", "lastWord", "[I", true)
  | 19 => ("LicenceTextsModel", "what", "[I", true)
  | 20 => ("LicenceTextsModel", "with", "[I", true)
  | 21 => ("LicenceTextsModel", "row", "I", false)
  | 22 => ("LicenceTextsModel", "ed", "I", false)
  | 23 => ("LicenceTextsModel", "w", "I", false)
  | 24 => ("LicenceTextsModel", "wrong", "I", false)
  | 25 => ("LicenceTextsModel", "sign", "[I", true)
  | 26 => ("LicenceTextsModel", "signWith", "[I", true)
  | 27 => ("LicenceTextsModel", "fact", "[J", true)
  | 28 => ("LicenceTextsModel", "told", "[Z", true)
  | 29 => ("LicenceTextsModel", "ran", "I", false)
  | 30 => ("LicenceTextsModel", "state", "[I", true)
  | 31 => ("LicenceTextsModel", "reason", "[I", true)
  | 32 => ("LicenceTextsModel", "lacking", "[I", true)
  | 33 => ("LicenceTextsModel", "reasonNow", "I", false)
  | 34 => ("LicenceTextsModel", "lackingNow", "I", false)
  | 35 => ("LicenceTextsModel", "pile", "[J", true)
  | 36 => ("LicenceTextsModel", "print", "[B", true)
  | 37 => ("LicenceTextsModel", "printed", "I", false)
  | _ => ("LicenceTextsModel", "grams", "[J", true)
def t_Mo : Nat → FieldType := fun k => match k with
  | 0 => .int
  | 1 => (.array .byte)
  | 2 => .int
  | 3 => .int
  | 4 => (.array .int)
  | 5 => (.array .byte)
  | 6 => (.array .int)
  | 7 => (.array .int)
  | 8 => (.array .int)
  | 9 => (.array .int)
  | 10 => (.array .int)
  | 11 => (.array .int)
  | 12 => (.array .int)
  | 13 => (.array .int)
  | 14 => (.array .int)
  | 15 => (.array .int)
  | 16 => (.array .int)
  | 17 => (.array .int)
  | 18 => (.array .int)
  | 19 => (.array .int)
  | 20 => (.array .int)
  | 21 => .int
  | 22 => .int
  | 23 => .int
  | 24 => .int
  | 25 => (.array .int)
  | 26 => (.array .int)
  | 27 => (.array .long)
  | 28 => (.array .boolean)
  | 29 => .int
  | 30 => (.array .int)
  | 31 => (.array .int)
  | 32 => (.array .int)
  | 33 => .int
  | 34 => .int
  | 35 => (.array .long)
  | 36 => (.array .byte)
  | 37 => .int
  | _ => (.array .long)
theorem nk_Mo : ∀ a, a < 39 → ∀ b, b < 39 → a ≠ b → (F_Mo a).2.1 ≠ (F_Mo b).2.1 := by decide +kernel
theorem tk_Mo : ∀ k, k < 39 → parseFieldDescriptor (F_Mo k).2.2.1 = some (t_Mo k) := by decide +kernel
theorem df_Mo : ∀ j, j < 39 → defaultValue (t_Mo j) = vp_V [.int 0, .null, .int 0, .int 0, .null, .null, .null, .null, .null, .null, .null, .null, .null, .null, .null, .null, .null, .null, .null, .null, .null, .int 0, .int 0, .int 0, .int 0, .null, .null, .null, .null, .int 0, .null, .null, .null, .int 0, .int 0, .null, .null, .int 0, .null] j := by decide +kernel
def cls0 : List vw_C := [("LicenceTexts$Bytes", F_Bytes, 2), ("LicenceTexts$Edition", F_Edition, 6), ("LicenceTexts$Facts", F_Facts, 2), ("LicenceTexts$Findings", F_Findings, 5), ("LicenceTexts$Hauls", F_Hauls, 1), ("LicenceTexts$Reckoner", F_Reckoner, 5), ("LicenceTexts$Rule", F_Rule, 5), ("LicenceTexts$Steps", F_Steps, 3), ("LicenceTexts$Tables", F_Tables, 3), ("LicenceTexts$TextReader", F_TextReader, 8), ("LicenceTexts$Words", F_Words, 5), ("LicenceTexts", F_LT, 10), ("LicenceTextsModel", F_Mo, 39)]
theorem hc_Bytes : cls0[0]? = some ("LicenceTexts$Bytes", F_Bytes, 2) := rfl
theorem in_Bytes : ∀ w ∈ u_ws "LicenceTexts$Bytes" F_Bytes 2, w ∈ T0 := by decide +kernel
theorem hc_Edition : cls0[1]? = some ("LicenceTexts$Edition", F_Edition, 6) := rfl
theorem in_Edition : ∀ w ∈ u_ws "LicenceTexts$Edition" F_Edition 6, w ∈ T0 := by decide +kernel
theorem hc_Facts : cls0[2]? = some ("LicenceTexts$Facts", F_Facts, 2) := rfl
theorem in_Facts : ∀ w ∈ u_ws "LicenceTexts$Facts" F_Facts 2, w ∈ T0 := by decide +kernel
theorem hc_Findings : cls0[3]? = some ("LicenceTexts$Findings", F_Findings, 5) := rfl
theorem in_Findings : ∀ w ∈ u_ws "LicenceTexts$Findings" F_Findings 5, w ∈ T0 := by decide +kernel
theorem hc_Hauls : cls0[4]? = some ("LicenceTexts$Hauls", F_Hauls, 1) := rfl
theorem in_Hauls : ∀ w ∈ u_ws "LicenceTexts$Hauls" F_Hauls 1, w ∈ T0 := by decide +kernel
theorem hc_Reckoner : cls0[5]? = some ("LicenceTexts$Reckoner", F_Reckoner, 5) := rfl
theorem in_Reckoner : ∀ w ∈ u_ws "LicenceTexts$Reckoner" F_Reckoner 5, w ∈ T0 := by decide +kernel
theorem hc_Rule : cls0[6]? = some ("LicenceTexts$Rule", F_Rule, 5) := rfl
theorem in_Rule : ∀ w ∈ u_ws "LicenceTexts$Rule" F_Rule 5, w ∈ T0 := by decide +kernel
theorem hc_Steps : cls0[7]? = some ("LicenceTexts$Steps", F_Steps, 3) := rfl
theorem in_Steps : ∀ w ∈ u_ws "LicenceTexts$Steps" F_Steps 3, w ∈ T0 := by decide +kernel
theorem hc_Tables : cls0[8]? = some ("LicenceTexts$Tables", F_Tables, 3) := rfl
theorem in_Tables : ∀ w ∈ u_ws "LicenceTexts$Tables" F_Tables 3, w ∈ T0 := by decide +kernel
theorem hc_TextReader : cls0[9]? = some ("LicenceTexts$TextReader", F_TextReader, 8) := rfl
theorem in_TextReader : ∀ w ∈ u_ws "LicenceTexts$TextReader" F_TextReader 8, w ∈ T0 := by decide +kernel
theorem hc_Words : cls0[10]? = some ("LicenceTexts$Words", F_Words, 5) := rfl
theorem in_Words : ∀ w ∈ u_ws "LicenceTexts$Words" F_Words 5, w ∈ T0 := by decide +kernel
theorem hc_LT : cls0[11]? = some ("LicenceTexts", F_LT, 10) := rfl
theorem in_LT : ∀ w ∈ u_ws "LicenceTexts" F_LT 10, w ∈ T0 := by decide +kernel
theorem hc_Mo : cls0[12]? = some ("LicenceTextsModel", F_Mo, 39) := rfl
theorem in_Mo : ∀ w ∈ u_ws "LicenceTextsModel" F_Mo 39, w ∈ T0 := by decide +kernel
