def hG : hSt := ([("LicenceTexts$Words", 33, "LicenceTexts$Bytes", "length", "I", "LicenceTexts"), ("LicenceTexts", 178, "LicenceTexts$Bytes", "length", "I", "LicenceTexts"), ("LicenceTexts$TextReader", 51, "LicenceTexts$Words", "count", "I", "LicenceTexts"), ("LicenceTexts$Edition", 50, "LicenceTexts$Steps", "count", "I", "LicenceTexts"), ("LicenceTexts$TextReader", 169, "LicenceTexts$Steps", "count", "I", "LicenceTexts"), ("LicenceTexts$TextReader", 134, "LicenceTexts$Tables", "count", "I", "LicenceTexts"), ("LicenceTexts$TextReader", 22, "LicenceTexts$Edition", "words", "LLicenceTexts$Words;", "LicenceTexts"), ("LicenceTexts", 73, "LicenceTexts$Edition", "words", "LLicenceTexts$Words;", "LicenceTexts"), ("LicenceTexts$TextReader", 29, "LicenceTexts$Edition", "steps", "LLicenceTexts$Steps;", "LicenceTexts"), ("LicenceTexts$Reckoner", 44, "LicenceTexts$Edition", "steps", "LLicenceTexts$Steps;", "LicenceTexts"), ("LicenceTexts$Reckoner", 63, "LicenceTexts$Edition", "tables", "LLicenceTexts$Tables;", "LicenceTexts"), ("LicenceTexts$TextReader", 87, "LicenceTexts$Edition", "tables", "LLicenceTexts$Tables;", "LicenceTexts"), ("LicenceTexts", 137, "LicenceTexts$Edition", "tables", "LLicenceTexts$Tables;", "LicenceTexts"), ("LicenceTexts", 99, "LicenceTexts$Edition", "ruleCount", "I", "LicenceTexts"), ("LicenceTexts", 93, "LicenceTexts$Edition", "day", "I", "LicenceTexts"), ("LicenceTexts", 201, "LicenceTexts$Reckoner", "reason", "I", "LicenceTexts"), ("LicenceTexts", 204, "LicenceTexts$Reckoner", "untold", "I", "LicenceTexts"), ("LicenceTexts", 166, "LicenceTexts$Rule", "firstWord", "I", "LicenceTexts"), ("LicenceTexts$Reckoner", 29, "LicenceTexts$Rule", "start", "I", "LicenceTexts"), ("LicenceTexts$Edition", 63, "LicenceTexts$Rule", "endWord", "I", "LicenceTexts"), ("LicenceTexts", 171, "LicenceTexts$Rule", "endWord", "I", "LicenceTexts"), ("LicenceTexts$Reckoner", 34, "LicenceTexts$Rule", "need", "I", "LicenceTexts"), ("LicenceTexts$Edition", 60, "LicenceTexts$Rule", "need", "I", "LicenceTexts"), ("LicenceTexts$Reckoner", 41, "LicenceTexts$Rule", "end", "I", "LicenceTexts"), ("LicenceTexts$Edition", 66, "LicenceTexts$Rule", "end", "I", "LicenceTexts")], ["LicenceTexts$Edition", "LicenceTexts$Rule"], "LicenceTexts$TextReader", [(81, "table", [116, 97, 98, 108, 101]), (96, "when", [119, 104, 101, 110]), (98, "rule", [114, 117, 108, 101]), (103, ";", [59]), (123, "fact", [102, 97, 99, 116]), (125, "at", [97, 116]), (127, "(", [40]), (179, "+", [43]), (181, "-", [45]), (183, "*", [42]), (185, "/", [47]), (187, "%", [37]), (145, ")", [41]), (189, "<", [60]), (191, "<=", [60, 61]), (193, "=", [61]), (195, "/=", [47, 61]), (153, "and", [97, 110, 100]), (161, "need", [110, 101, 101, 100])])
theorem nw_0 : (("LicenceTexts$Words", 33, "LicenceTexts$Bytes", "length", "I", "LicenceTexts") : hNt) ∈ hG.1 := List.mem_of_getElem? (i := 0) rfl
theorem nw_1 : (("LicenceTexts", 178, "LicenceTexts$Bytes", "length", "I", "LicenceTexts") : hNt) ∈ hG.1 := List.mem_of_getElem? (i := 1) rfl
theorem nw_2 : (("LicenceTexts$TextReader", 51, "LicenceTexts$Words", "count", "I", "LicenceTexts") : hNt) ∈ hG.1 := List.mem_of_getElem? (i := 2) rfl
theorem nw_3 : (("LicenceTexts$Edition", 50, "LicenceTexts$Steps", "count", "I", "LicenceTexts") : hNt) ∈ hG.1 := List.mem_of_getElem? (i := 3) rfl
theorem nw_4 : (("LicenceTexts$TextReader", 169, "LicenceTexts$Steps", "count", "I", "LicenceTexts") : hNt) ∈ hG.1 := List.mem_of_getElem? (i := 4) rfl
theorem nw_5 : (("LicenceTexts$TextReader", 134, "LicenceTexts$Tables", "count", "I", "LicenceTexts") : hNt) ∈ hG.1 := List.mem_of_getElem? (i := 5) rfl
theorem nw_6 : (("LicenceTexts$TextReader", 22, "LicenceTexts$Edition", "words", "LLicenceTexts$Words;", "LicenceTexts") : hNt) ∈ hG.1 := List.mem_of_getElem? (i := 6) rfl
theorem nw_7 : (("LicenceTexts", 73, "LicenceTexts$Edition", "words", "LLicenceTexts$Words;", "LicenceTexts") : hNt) ∈ hG.1 := List.mem_of_getElem? (i := 7) rfl
theorem nw_8 : (("LicenceTexts$TextReader", 29, "LicenceTexts$Edition", "steps", "LLicenceTexts$Steps;", "LicenceTexts") : hNt) ∈ hG.1 := List.mem_of_getElem? (i := 8) rfl
theorem nw_9 : (("LicenceTexts$Reckoner", 44, "LicenceTexts$Edition", "steps", "LLicenceTexts$Steps;", "LicenceTexts") : hNt) ∈ hG.1 := List.mem_of_getElem? (i := 9) rfl
theorem nw_10 : (("LicenceTexts$Reckoner", 63, "LicenceTexts$Edition", "tables", "LLicenceTexts$Tables;", "LicenceTexts") : hNt) ∈ hG.1 := List.mem_of_getElem? (i := 10) rfl
theorem nw_11 : (("LicenceTexts$TextReader", 87, "LicenceTexts$Edition", "tables", "LLicenceTexts$Tables;", "LicenceTexts") : hNt) ∈ hG.1 := List.mem_of_getElem? (i := 11) rfl
theorem nw_12 : (("LicenceTexts", 137, "LicenceTexts$Edition", "tables", "LLicenceTexts$Tables;", "LicenceTexts") : hNt) ∈ hG.1 := List.mem_of_getElem? (i := 12) rfl
theorem nw_13 : (("LicenceTexts", 99, "LicenceTexts$Edition", "ruleCount", "I", "LicenceTexts") : hNt) ∈ hG.1 := List.mem_of_getElem? (i := 13) rfl
theorem nw_14 : (("LicenceTexts", 93, "LicenceTexts$Edition", "day", "I", "LicenceTexts") : hNt) ∈ hG.1 := List.mem_of_getElem? (i := 14) rfl
theorem nw_15 : (("LicenceTexts", 201, "LicenceTexts$Reckoner", "reason", "I", "LicenceTexts") : hNt) ∈ hG.1 := List.mem_of_getElem? (i := 15) rfl
theorem nw_16 : (("LicenceTexts", 204, "LicenceTexts$Reckoner", "untold", "I", "LicenceTexts") : hNt) ∈ hG.1 := List.mem_of_getElem? (i := 16) rfl
theorem nw_17 : (("LicenceTexts", 166, "LicenceTexts$Rule", "firstWord", "I", "LicenceTexts") : hNt) ∈ hG.1 := List.mem_of_getElem? (i := 17) rfl
theorem nw_18 : (("LicenceTexts$Reckoner", 29, "LicenceTexts$Rule", "start", "I", "LicenceTexts") : hNt) ∈ hG.1 := List.mem_of_getElem? (i := 18) rfl
theorem nw_19 : (("LicenceTexts$Edition", 63, "LicenceTexts$Rule", "endWord", "I", "LicenceTexts") : hNt) ∈ hG.1 := List.mem_of_getElem? (i := 19) rfl
theorem nw_20 : (("LicenceTexts", 171, "LicenceTexts$Rule", "endWord", "I", "LicenceTexts") : hNt) ∈ hG.1 := List.mem_of_getElem? (i := 20) rfl
theorem nw_21 : (("LicenceTexts$Reckoner", 34, "LicenceTexts$Rule", "need", "I", "LicenceTexts") : hNt) ∈ hG.1 := List.mem_of_getElem? (i := 21) rfl
theorem nw_22 : (("LicenceTexts$Edition", 60, "LicenceTexts$Rule", "need", "I", "LicenceTexts") : hNt) ∈ hG.1 := List.mem_of_getElem? (i := 22) rfl
theorem nw_23 : (("LicenceTexts$Reckoner", 41, "LicenceTexts$Rule", "end", "I", "LicenceTexts") : hNt) ∈ hG.1 := List.mem_of_getElem? (i := 23) rfl
theorem nw_24 : (("LicenceTexts$Edition", 66, "LicenceTexts$Rule", "end", "I", "LicenceTexts") : hNt) ∈ hG.1 := List.mem_of_getElem? (i := 24) rfl
theorem hz0 : narrow .boolean (.int 0) = .int 0 := by decide
theorem hz1 : narrow .boolean (.int 1) = .int 1 := by decide
def HX (p : Program) (s : State) (m : MethodId) (args : Array Value) (meth : Method) (c : Code) (cc : ByteArray) (nL : Nat) (own : String) (D : va_G) (K : (Nat → Nat) × (Nat → Nat)) (nm : String) (ret : Option FieldType) (h0 : hH) : Prop := hCx hG p m c cc nL s args T0 own D cls0 K (hF h0) ∧ meth.sig.returnType = ret ∧ meth.locks = false ∧ meth.name = nm
section CW
variable {p : Program} {m : MethodId} {c : Code} {cc : ByteArray} {nL : Nat} {s : State} {args : Array Value} {own : String} {R : Room} {C : String} {idx mL nA : Nat} {y : MethodName} {by2 : ByteArray} {ret : Option FieldType} {rm : Room} {mc ms : Nat}
theorem cwV_of (X : CallFix p m c cc nL s args T0 own) (h1 : Cond.methodLink own idx y ∈ T0) (h2 : Cond.instanceMethod y ∈ T0) (h3 : Cond.selects C y y ∈ T0) (h4 : Cond.initialized C ∈ T0) (h5 : Cond.code y by2 mL ret ∈ T0) (hrm : rm.cells = mc ∧ rm.slots = ms ∧ C = y.cls) (hd : y.cls ≠ "java/lang/invoke/MethodHandle" ∧ y.cls ≠ "java/lang/invoke/VarHandle" ∧ (parseMethodDescriptor y.desc).map (fun d => d.parameters.length) = some nA) (hR : rm.frames + 1 ≤ R.frames ∧ 8 + (mL + 11) + rm.locals ≤ R.locals) : CallW R s args own C idx y by2 mL ret (.code y by2 mL ret :: T0) rm mc ms nA := by
  obtain ⟨hrc, hrs, rfl⟩ := hrm
  refine ⟨callB_of nA X.2.2.2.2 (fun w hw => ?_) rfl hrc hrs (X.2.2.2.2 _ h4) (X.2.2.2.2 _ h1) hd hR, X.2.2.2.2 _ h2, X.2.2.2.2 _ h3⟩
  rcases List.mem_cons.mp hw with rfl | hw
  · exact T0_good h5
  · exact T0_good hw
theorem cwS_of (X : CallFix p m c cc nL s args T0 own) (h1 : Cond.methodLink own idx y ∈ T0) (h2 : Cond.static y ∈ T0) (h4 : Cond.initialized y.cls ∈ T0) (h5 : Cond.code y by2 mL ret ∈ T0) (hrm : rm.cells = mc ∧ rm.slots = ms) (hd : y.cls ≠ "java/lang/invoke/MethodHandle" ∧ y.cls ≠ "java/lang/invoke/VarHandle" ∧ (parseMethodDescriptor y.desc).map (fun d => d.parameters.length) = some nA) (hR : rm.frames + 1 ≤ R.frames ∧ 8 + (mL + 11) + rm.locals ≤ R.locals) : CallB R s args own idx y by2 mL ret (.code y by2 mL ret :: T0) rm mc ms nA ∧ (Cond.static y).before args s = true := by
  refine ⟨callB_of nA X.2.2.2.2 (fun w hw => ?_) rfl hrm.1 hrm.2 (X.2.2.2.2 _ h4) (X.2.2.2.2 _ h1) hd hR, X.2.2.2.2 _ h2⟩
  rcases List.mem_cons.mp hw with rfl | hw
  · exact T0_good h5
  · exact T0_good hw
theorem cwI_of (X : CallFix p m c cc nL s args T0 own) (h1 : Cond.methodLink own idx y ∈ T0) (h2 : Cond.instanceMethod y ∈ T0) (h4 : Cond.initialized y.cls ∈ T0) (h5 : Cond.code y by2 mL none ∈ T0) (hrm : rm.cells = mc ∧ rm.slots = ms ∧ y.name = "<init>") (hd : y.cls ≠ "java/lang/invoke/MethodHandle" ∧ y.cls ≠ "java/lang/invoke/VarHandle" ∧ (parseMethodDescriptor y.desc).map (fun d => d.parameters.length) = some nA) (hR : rm.frames + 1 ≤ R.frames ∧ 8 + (mL + 11) + rm.locals ≤ R.locals) : CallB R s args own idx y by2 mL none (.code y by2 mL none :: T0) rm mc ms nA ∧ y.name = "<init>" ∧ (Cond.instanceMethod y).before args s = true := by
  refine ⟨callB_of nA X.2.2.2.2 (fun w hw => ?_) rfl hrm.1 hrm.2.1 (X.2.2.2.2 _ h4) (X.2.2.2.2 _ h1) hd hR, hrm.2.2, X.2.2.2.2 _ h2⟩
  rcases List.mem_cons.mp hw with rfl | hw
  · exact T0_good h5
  · exact T0_good hw
end CW
abbrev y_LT_init : MethodName := ⟨"LicenceTexts", "<init>", "()V"⟩
abbrev y_LT_unit : MethodName := ⟨"LicenceTexts", "unit", "(I)Z"⟩
abbrev y_LT_read : MethodName := ⟨"LicenceTexts", "read", "(I)I"⟩
abbrev y_LT_editions : MethodName := ⟨"LicenceTexts", "editions", "()I"⟩
abbrev y_LT_fact : MethodName := ⟨"LicenceTexts", "fact", "(IJ)Z"⟩
abbrev y_LT_clearFacts : MethodName := ⟨"LicenceTexts", "clearFacts", "()I"⟩
abbrev y_LT_run : MethodName := ⟨"LicenceTexts", "run", "(I)I"⟩
abbrev y_LT_walk : MethodName := ⟨"LicenceTexts", "walk", "(I)I"⟩
abbrev y_LT_broken : MethodName := ⟨"LicenceTexts", "broken", "(II)I"⟩
abbrev y_LT_open : MethodName := ⟨"LicenceTexts", "open", "(II)I"⟩
abbrev y_LT_explain : MethodName := ⟨"LicenceTexts", "explain", "(I)I"⟩
abbrev y_LT_table : MethodName := ⟨"LicenceTexts", "table", "(III)I"⟩
abbrev y_LT_allowed : MethodName := ⟨"LicenceTexts", "allowed", "(III)I"⟩
abbrev y_LT_write : MethodName := ⟨"LicenceTexts", "write", "(II)I"⟩
abbrev y_LT_written : MethodName := ⟨"LicenceTexts", "written", "(I)I"⟩
abbrev y_LT_haul : MethodName := ⟨"LicenceTexts", "haul", "(IIJ)Z"⟩
abbrev y_LT_byCatch : MethodName := ⟨"LicenceTexts", "byCatch", "(III)J"⟩
abbrev y_LT_mayBegin : MethodName := ⟨"LicenceTexts", "mayBegin", "(I)Z"⟩
abbrev y_LT_keep : MethodName := ⟨"LicenceTexts", "keep", "(LLicenceTexts$Edition;)V"⟩
abbrev y_LT_editionOn : MethodName := ⟨"LicenceTexts", "editionOn", "(I)LLicenceTexts$Edition;"⟩
abbrev y_LT_look : MethodName := ⟨"LicenceTexts", "look", "(ILLicenceTexts$Findings;)I"⟩
abbrev y_Mo_init : MethodName := ⟨"LicenceTextsModel", "<init>", "()V"⟩
abbrev y_Mo_thrown : MethodName := ⟨"LicenceTextsModel", "thrown", "()I"⟩
abbrev y_Mo_unit : MethodName := ⟨"LicenceTextsModel", "unit", "(I)Z"⟩
abbrev y_Mo_five : MethodName := ⟨"LicenceTextsModel", "five", "(IIIII)J"⟩
abbrev y_Mo_nameOf : MethodName := ⟨"LicenceTextsModel", "nameOf", "(II)I"⟩
abbrev y_Mo_wordOf : MethodName := ⟨"LicenceTextsModel", "wordOf", "(II)I"⟩
abbrev y_Mo_isBlank : MethodName := ⟨"LicenceTextsModel", "isBlank", "(I)Z"⟩
abbrev y_Mo_split : MethodName := ⟨"LicenceTextsModel", "split", "()V"⟩
abbrev y_Mo_now : MethodName := ⟨"LicenceTextsModel", "now", "()I"⟩
abbrev y_Mo_want : MethodName := ⟨"LicenceTextsModel", "want", "(Z)Z"⟩
abbrev y_Mo_needs : MethodName := ⟨"LicenceTextsModel", "needs", "(I)Z"⟩
abbrev y_Mo_put : MethodName := ⟨"LicenceTextsModel", "put", "(II)V"⟩
abbrev y_Mo_tableP : MethodName := ⟨"LicenceTextsModel", "table", "()V"⟩
abbrev y_Mo_isOperator : MethodName := ⟨"LicenceTextsModel", "isOperator", "(I)Z"⟩
abbrev y_Mo_isProduct : MethodName := ⟨"LicenceTextsModel", "isProduct", "(I)Z"⟩
abbrev y_Mo_sum : MethodName := ⟨"LicenceTextsModel", "sum", "()V"⟩
abbrev y_Mo_conditions : MethodName := ⟨"LicenceTextsModel", "conditions", "()V"⟩
abbrev y_Mo_rule : MethodName := ⟨"LicenceTextsModel", "rule", "()V"⟩
abbrev y_Mo_read : MethodName := ⟨"LicenceTextsModel", "read", "(I)I"⟩
abbrev y_Mo_editions : MethodName := ⟨"LicenceTextsModel", "editions", "()I"⟩
abbrev y_Mo_fact : MethodName := ⟨"LicenceTextsModel", "fact", "(IJ)Z"⟩
abbrev y_Mo_clearFacts : MethodName := ⟨"LicenceTextsModel", "clearFacts", "()I"⟩
abbrev y_Mo_editionOf : MethodName := ⟨"LicenceTextsModel", "editionOf", "(I)I"⟩
abbrev y_Mo_holds : MethodName := ⟨"LicenceTextsModel", "holds", "(IJJ)Z"⟩
abbrev y_Mo_reckon : MethodName := ⟨"LicenceTextsModel", "reckon", "(IJJ)J"⟩
abbrev y_Mo_look : MethodName := ⟨"LicenceTextsModel", "look", "(II)I"⟩
abbrev y_Mo_answer : MethodName := ⟨"LicenceTextsModel", "answer", "(IZ)I"⟩
abbrev y_Mo_run : MethodName := ⟨"LicenceTextsModel", "run", "(I)I"⟩
abbrev y_Mo_walk : MethodName := ⟨"LicenceTextsModel", "walk", "(I)I"⟩
abbrev y_Mo_ranRules : MethodName := ⟨"LicenceTextsModel", "ranRules", "()I"⟩
abbrev y_Mo_withState : MethodName := ⟨"LicenceTextsModel", "withState", "(II)I"⟩
abbrev y_Mo_broken : MethodName := ⟨"LicenceTextsModel", "broken", "(II)I"⟩
abbrev y_Mo_open : MethodName := ⟨"LicenceTextsModel", "open", "(II)I"⟩
abbrev y_Mo_explain : MethodName := ⟨"LicenceTextsModel", "explain", "(I)I"⟩
abbrev y_Mo_table : MethodName := ⟨"LicenceTextsModel", "table", "(III)I"⟩
abbrev y_Mo_allowed : MethodName := ⟨"LicenceTextsModel", "allowed", "(III)I"⟩
abbrev y_Mo_write : MethodName := ⟨"LicenceTextsModel", "write", "(II)I"⟩
abbrev y_Mo_written : MethodName := ⟨"LicenceTextsModel", "written", "(I)I"⟩
abbrev y_Mo_haul : MethodName := ⟨"LicenceTextsModel", "haul", "(IIJ)Z"⟩
abbrev y_Mo_byCatch : MethodName := ⟨"LicenceTextsModel", "byCatch", "(III)J"⟩
abbrev y_Bytes_init : MethodName := ⟨"LicenceTexts$Bytes", "<init>", "()V"⟩
abbrev y_Bytes_append : MethodName := ⟨"LicenceTexts$Bytes", "append", "(I)Z"⟩
abbrev y_Bytes_byteAt : MethodName := ⟨"LicenceTexts$Bytes", "byteAt", "(I)I"⟩
abbrev y_Bytes_clear : MethodName := ⟨"LicenceTexts$Bytes", "clear", "()V"⟩
abbrev y_Edition_init : MethodName := ⟨"LicenceTexts$Edition", "<init>", "()V"⟩
abbrev y_Edition_clear : MethodName := ⟨"LicenceTexts$Edition", "clear", "()V"⟩
abbrev y_Edition_ruleAt : MethodName := ⟨"LicenceTexts$Edition", "ruleAt", "(I)LLicenceTexts$Rule;"⟩
abbrev y_Edition_beginRule : MethodName := ⟨"LicenceTexts$Edition", "beginRule", "(I)Z"⟩
abbrev y_Edition_beginNeed : MethodName := ⟨"LicenceTexts$Edition", "beginNeed", "()V"⟩
abbrev y_Edition_endRule : MethodName := ⟨"LicenceTexts$Edition", "endRule", "(I)V"⟩
abbrev y_Facts_init : MethodName := ⟨"LicenceTexts$Facts", "<init>", "()V"⟩
abbrev y_Facts_has : MethodName := ⟨"LicenceTexts$Facts", "has", "(I)Z"⟩
abbrev y_Facts_put : MethodName := ⟨"LicenceTexts$Facts", "put", "(IJZ)V"⟩
abbrev y_Facts_isTold : MethodName := ⟨"LicenceTexts$Facts", "isTold", "(I)Z"⟩
abbrev y_Facts_valueOf : MethodName := ⟨"LicenceTexts$Facts", "valueOf", "(I)J"⟩
abbrev y_Facts_clear : MethodName := ⟨"LicenceTexts$Facts", "clear", "()I"⟩
abbrev y_Findings_init : MethodName := ⟨"LicenceTexts$Findings", "<init>", "()V"⟩
abbrev y_Findings_clear : MethodName := ⟨"LicenceTexts$Findings", "clear", "()V"⟩
abbrev y_Findings_add : MethodName := ⟨"LicenceTexts$Findings", "add", "(IIII)V"⟩
abbrev y_Findings_answer : MethodName := ⟨"LicenceTexts$Findings", "answer", "()I"⟩
abbrev y_Findings_rankedAs : MethodName := ⟨"LicenceTexts$Findings", "rankedAs", "(II)I"⟩
abbrev y_Findings_has : MethodName := ⟨"LicenceTexts$Findings", "has", "(I)Z"⟩
abbrev y_Findings_outcomeOf : MethodName := ⟨"LicenceTexts$Findings", "outcomeOf", "(I)I"⟩
abbrev y_Findings_reasonOf : MethodName := ⟨"LicenceTexts$Findings", "reasonOf", "(I)I"⟩
abbrev y_Findings_untoldOf : MethodName := ⟨"LicenceTexts$Findings", "untoldOf", "(I)I"⟩
abbrev y_Findings_firstWordOf : MethodName := ⟨"LicenceTexts$Findings", "firstWordOf", "(I)I"⟩
abbrev y_Hauls_init : MethodName := ⟨"LicenceTexts$Hauls", "<init>", "()V"⟩
abbrev y_Hauls_has : MethodName := ⟨"LicenceTexts$Hauls", "has", "(II)Z"⟩
abbrev y_Hauls_add : MethodName := ⟨"LicenceTexts$Hauls", "add", "(IIJ)Z"⟩
abbrev y_Hauls_gramsOf : MethodName := ⟨"LicenceTexts$Hauls", "gramsOf", "(II)J"⟩
abbrev y_Hauls_total : MethodName := ⟨"LicenceTexts$Hauls", "total", "(I)J"⟩
abbrev y_Hauls_share : MethodName := ⟨"LicenceTexts$Hauls", "share", "(III)J"⟩
abbrev y_Hauls_greatestDivisor : MethodName := ⟨"LicenceTexts$Hauls", "greatestDivisor", "(JJ)J"⟩
abbrev y_Reckoner_init : MethodName := ⟨"LicenceTexts$Reckoner", "<init>", "(LLicenceTexts$Facts;)V"⟩
abbrev y_Reckoner_judge : MethodName := ⟨"LicenceTexts$Reckoner", "judge", "(LLicenceTexts$Edition;LLicenceTexts$Rule;)I"⟩
abbrev y_Reckoner_follow : MethodName := ⟨"LicenceTexts$Reckoner", "follow", "(LLicenceTexts$Edition;II)I"⟩
abbrev y_Reckoner_related : MethodName := ⟨"LicenceTexts$Reckoner", "related", "(I)Z"⟩
abbrev y_Reckoner_reckon : MethodName := ⟨"LicenceTexts$Reckoner", "reckon", "(IILLicenceTexts$Tables;)Z"⟩
abbrev y_Reckoner_pushFact : MethodName := ⟨"LicenceTexts$Reckoner", "pushFact", "(I)Z"⟩
abbrev y_Reckoner_pushPlace : MethodName := ⟨"LicenceTexts$Reckoner", "pushPlace", "(LLicenceTexts$Tables;I)Z"⟩
abbrev y_Reckoner_combine : MethodName := ⟨"LicenceTexts$Reckoner", "combine", "(I)Z"⟩
abbrev y_Reckoner_combined : MethodName := ⟨"LicenceTexts$Reckoner", "combined", "(IJJ)J"⟩
abbrev y_Reckoner_push : MethodName := ⟨"LicenceTexts$Reckoner", "push", "(J)V"⟩
abbrev y_Reckoner_pop : MethodName := ⟨"LicenceTexts$Reckoner", "pop", "()J"⟩
abbrev y_Rule_init : MethodName := ⟨"LicenceTexts$Rule", "<init>", "(II)V"⟩
abbrev y_Steps_init : MethodName := ⟨"LicenceTexts$Steps", "<init>", "()V"⟩
abbrev y_Steps_add : MethodName := ⟨"LicenceTexts$Steps", "add", "(II)V"⟩
abbrev y_Steps_kindAt : MethodName := ⟨"LicenceTexts$Steps", "kindAt", "(I)I"⟩
abbrev y_Steps_valueAt : MethodName := ⟨"LicenceTexts$Steps", "valueAt", "(I)I"⟩
abbrev y_Steps_removeLast : MethodName := ⟨"LicenceTexts$Steps", "removeLast", "()V"⟩
abbrev y_Steps_clear : MethodName := ⟨"LicenceTexts$Steps", "clear", "()V"⟩
abbrev y_Tables_init : MethodName := ⟨"LicenceTexts$Tables", "<init>", "()V"⟩
abbrev y_Tables_begin : MethodName := ⟨"LicenceTexts$Tables", "begin", "()Z"⟩
abbrev y_Tables_lastSize : MethodName := ⟨"LicenceTexts$Tables", "lastSize", "()I"⟩
abbrev y_Tables_clear : MethodName := ⟨"LicenceTexts$Tables", "clear", "()V"⟩
abbrev y_Tables_addNumber : MethodName := ⟨"LicenceTexts$Tables", "addNumber", "(I)Z"⟩
abbrev y_Tables_numberAt : MethodName := ⟨"LicenceTexts$Tables", "numberAt", "(IJ)I"⟩
abbrev y_TextReader_init : MethodName := ⟨"LicenceTexts$TextReader", "<init>", "(LLicenceTexts$Edition;)V"⟩
abbrev y_TextReader_firstWrong : MethodName := ⟨"LicenceTexts$TextReader", "firstWrong", "(LLicenceTexts$Edition;)I"⟩
abbrev y_TextReader_begin : MethodName := ⟨"LicenceTexts$TextReader", "begin", "(LLicenceTexts$Edition;)V"⟩
abbrev y_TextReader_take : MethodName := ⟨"LicenceTexts$TextReader", "take", "(I)Z"⟩
abbrev y_TextReader_takeItem : MethodName := ⟨"LicenceTexts$TextReader", "takeItem", "(I)Z"⟩
abbrev y_TextReader_takeTableNumber : MethodName := ⟨"LicenceTexts$TextReader", "takeTableNumber", "(I)Z"⟩
abbrev y_TextReader_takeAtom : MethodName := ⟨"LicenceTexts$TextReader", "takeAtom", "(I)Z"⟩
abbrev y_TextReader_takeFactName : MethodName := ⟨"LicenceTexts$TextReader", "takeFactName", "(I)Z"⟩
abbrev y_TextReader_takeTableName : MethodName := ⟨"LicenceTexts$TextReader", "takeTableName", "(I)Z"⟩
abbrev y_TextReader_takeBehindAtom : MethodName := ⟨"LicenceTexts$TextReader", "takeBehindAtom", "(I)Z"⟩
abbrev y_TextReader_takeNeed : MethodName := ⟨"LicenceTexts$TextReader", "takeNeed", "(I)Z"⟩
abbrev y_TextReader_takeRuleEnd : MethodName := ⟨"LicenceTexts$TextReader", "takeRuleEnd", "(I)Z"⟩
abbrev y_TextReader_waitAround : MethodName := ⟨"LicenceTexts$TextReader", "waitAround", "(II)V"⟩
abbrev y_TextReader_closeBracket : MethodName := ⟨"LicenceTexts$TextReader", "closeBracket", "()Z"⟩
abbrev y_TextReader_endAtom : MethodName := ⟨"LicenceTexts$TextReader", "endAtom", "()V"⟩
abbrev y_TextReader_settle : MethodName := ⟨"LicenceTexts$TextReader", "settle", "(I)V"⟩
abbrev y_TextReader_rankOf : MethodName := ⟨"LicenceTexts$TextReader", "rankOf", "(I)I"⟩
abbrev y_TextReader_operatorAt : MethodName := ⟨"LicenceTexts$TextReader", "operatorAt", "(I)I"⟩
abbrev y_TextReader_relationAt : MethodName := ⟨"LicenceTexts$TextReader", "relationAt", "(I)I"⟩
abbrev y_Words_init : MethodName := ⟨"LicenceTexts$Words", "<init>", "()V"⟩
abbrev y_Words_append : MethodName := ⟨"LicenceTexts$Words", "append", "(I)Z"⟩
abbrev y_Words_begin : MethodName := ⟨"LicenceTexts$Words", "begin", "(I)V"⟩
abbrev y_Words_lengthen : MethodName := ⟨"LicenceTexts$Words", "lengthen", "(I)V"⟩
abbrev y_Words_clear : MethodName := ⟨"LicenceTexts$Words", "clear", "()V"⟩
abbrev y_Words_startOf : MethodName := ⟨"LicenceTexts$Words", "startOf", "(I)I"⟩
abbrev y_Words_endOf : MethodName := ⟨"LicenceTexts$Words", "endOf", "(I)I"⟩
abbrev y_Words_is : MethodName := ⟨"LicenceTexts$Words", "is", "(ILjava/lang/String;)Z"⟩
abbrev y_Words_numberAt : MethodName := ⟨"LicenceTexts$Words", "numberAt", "(I)I"⟩
abbrev y_Words_copyTo : MethodName := ⟨"LicenceTexts$Words", "copyTo", "(LLicenceTexts$Bytes;II)V"⟩
