theorem ks_0 : (Jvm.Cond.fieldLink "java/lang/String" (38 : Nat) "java/lang/String" "COMPACT_STRINGS" "Z") ∈ T0 := memT 401 (by decide +kernel) (by decide +kernel)
theorem ks_1 : (Jvm.Cond.fieldLink "java/lang/String" (9 : Nat) "java/lang/String" "value" "[B") ∈ T0 := memT 1168 (by decide +kernel) (by decide +kernel)
theorem ks_2 : (Jvm.Cond.fieldLink "java/lang/String" (15 : Nat) "java/lang/String" "coder" "B") ∈ T0 := memT 1169 (by decide +kernel) (by decide +kernel)
theorem ks_3 : (Jvm.Cond.methodLink "java/lang/String" (335 : Nat) ({ cls := "java/lang/String", name := "coder", desc := "()B" } : Jvm.MethodName)) ∈ T0 := memT 397 (by decide +kernel) (by decide +kernel)
theorem ks_4 : (Jvm.Cond.instanceMethod ({ cls := "java/lang/String", name := "coder", desc := "()B" } : Jvm.MethodName)) ∈ T0 := memT 398 (by decide +kernel) (by decide +kernel)
theorem ks_5 : (Jvm.Cond.selects "java/lang/String" ({ cls := "java/lang/String", name := "coder", desc := "()B" } : Jvm.MethodName) ({ cls := "java/lang/String", name := "coder", desc := "()B" } : Jvm.MethodName)) ∈ T0 := memT 399 (by decide +kernel) (by decide +kernel)
theorem ks_6 : (Jvm.Cond.initialized "java/lang/String") ∈ T0 := memT 65 (by decide +kernel) (by decide +kernel)
theorem ks_7 : (Jvm.Cond.code ({ cls := "java/lang/String", name := "coder", desc := "()B" } : Jvm.MethodName) prog_18_method_152_code (1 : Nat) (Option.some Jvm.ClassFile.FieldType.byte)) ∈ T0 := memT 400 (by decide +kernel) (by decide +kernel)
theorem ks_8 : (Jvm.Cond.fieldLink "java/lang/String" (1053 : Nat) "jdk/internal/util/Preconditions" "SIOOBE_FORMATTER" "Ljava/util/function/BiFunction;") ∈ T0 := memT 421 (by decide +kernel) (by decide +kernel)
theorem ks_9 : (Jvm.Cond.methodLink "java/lang/String" (1059 : Nat) ({ cls := "jdk/internal/util/Preconditions", name := "checkIndex", desc := "(IILjava/util/function/BiFunction;)I" } : Jvm.MethodName)) ∈ T0 := memT 423 (by decide +kernel) (by decide +kernel)
theorem ks_10 : (Jvm.Cond.static ({ cls := "jdk/internal/util/Preconditions", name := "checkIndex", desc := "(IILjava/util/function/BiFunction;)I" } : Jvm.MethodName)) ∈ T0 := memT 424 (by decide +kernel) (by decide +kernel)
theorem ks_11 : (Jvm.Cond.initialized "jdk/internal/util/Preconditions") ∈ T0 := memT 67 (by decide +kernel) (by decide +kernel)
theorem ks_12 : (Jvm.Cond.code ({ cls := "jdk/internal/util/Preconditions", name := "checkIndex", desc := "(IILjava/util/function/BiFunction;)I" } : Jvm.MethodName) prog_22_method_11_code (3 : Nat) (Option.some Jvm.ClassFile.FieldType.int)) ∈ T0 := memT 425 (by decide +kernel) (by decide +kernel)
theorem ks_13 : (Jvm.Cond.methodLink "java/lang/StringLatin1" (9 : Nat) ({ cls := "java/lang/String", name := "checkIndex", desc := "(II)V" } : Jvm.MethodName)) ∈ T0 := memT 418 (by decide +kernel) (by decide +kernel)
theorem ks_14 : (Jvm.Cond.static ({ cls := "java/lang/String", name := "checkIndex", desc := "(II)V" } : Jvm.MethodName)) ∈ T0 := memT 419 (by decide +kernel) (by decide +kernel)
theorem ks_15 : (Jvm.Cond.code ({ cls := "java/lang/String", name := "checkIndex", desc := "(II)V" } : Jvm.MethodName) prog_18_method_155_code (2 : Nat) (Option.none : Option Jvm.ClassFile.FieldType)) ∈ T0 := memT 420 (by decide +kernel) (by decide +kernel)
theorem ks_16 : (Jvm.Cond.methodLink "java/lang/String" (492 : Nat) ({ cls := "java/lang/String", name := "isLatin1", desc := "()Z" } : Jvm.MethodName)) ∈ T0 := memT 411 (by decide +kernel) (by decide +kernel)
theorem ks_17 : (Jvm.Cond.instanceMethod ({ cls := "java/lang/String", name := "isLatin1", desc := "()Z" } : Jvm.MethodName)) ∈ T0 := memT 412 (by decide +kernel) (by decide +kernel)
theorem ks_18 : (Jvm.Cond.selects "java/lang/String" ({ cls := "java/lang/String", name := "isLatin1", desc := "()Z" } : Jvm.MethodName) ({ cls := "java/lang/String", name := "isLatin1", desc := "()Z" } : Jvm.MethodName)) ∈ T0 := memT 413 (by decide +kernel) (by decide +kernel)
theorem ks_19 : (Jvm.Cond.code ({ cls := "java/lang/String", name := "isLatin1", desc := "()Z" } : Jvm.MethodName) prog_18_method_154_code (1 : Nat) (Option.some Jvm.ClassFile.FieldType.boolean)) ∈ T0 := memT 414 (by decide +kernel) (by decide +kernel)
theorem ks_20 : (Jvm.Cond.methodLink "java/lang/String" (495 : Nat) ({ cls := "java/lang/StringLatin1", name := "charAt", desc := "([BI)C" } : Jvm.MethodName)) ∈ T0 := memT 415 (by decide +kernel) (by decide +kernel)
theorem ks_21 : (Jvm.Cond.static ({ cls := "java/lang/StringLatin1", name := "charAt", desc := "([BI)C" } : Jvm.MethodName)) ∈ T0 := memT 416 (by decide +kernel) (by decide +kernel)
theorem ks_22 : (Jvm.Cond.initialized "java/lang/StringLatin1") ∈ T0 := memT 66 (by decide +kernel) (by decide +kernel)
theorem ks_23 : (Jvm.Cond.code ({ cls := "java/lang/StringLatin1", name := "charAt", desc := "([BI)C" } : Jvm.MethodName) prog_19_method_2_code (2 : Nat) (Option.some Jvm.ClassFile.FieldType.char)) ∈ T0 := memT 417 (by decide +kernel) (by decide +kernel)
theorem d_Str_coder_0 : decode prog_18_method_152_code 0 = .ok (.getstatic 38, 3) := by decide +kernel
theorem d_Str_coder_3 : decode prog_18_method_152_code 3 = .ok (.ifCond .eq 10, 3) := by decide +kernel
theorem d_Str_coder_6 : decode prog_18_method_152_code 6 = .ok (.aload_n 0, 1) := by decide +kernel
theorem d_Str_coder_7 : decode prog_18_method_152_code 7 = .ok (.getfield 15, 3) := by decide +kernel
theorem d_Str_coder_10 : decode prog_18_method_152_code 10 = .ok (.goto 4, 3) := by decide +kernel
theorem d_Str_coder_14 : decode prog_18_method_152_code 14 = .ok (.ireturn, 1) := by decide +kernel
theorem d_Str_length_0 : decode prog_18_method_54_code 0 = .ok (.aload_n 0, 1) := by decide +kernel
theorem d_Str_length_1 : decode prog_18_method_54_code 1 = .ok (.getfield 9, 3) := by decide +kernel
theorem d_Str_length_4 : decode prog_18_method_54_code 4 = .ok (.arraylength, 1) := by decide +kernel
theorem d_Str_length_5 : decode prog_18_method_54_code 5 = .ok (.aload_n 0, 1) := by decide +kernel
theorem d_Str_length_6 : decode prog_18_method_54_code 6 = .ok (.invokevirtual 335, 3) := by decide +kernel
theorem d_Str_length_9 : decode prog_18_method_54_code 9 = .ok (.ishr, 1) := by decide +kernel
theorem d_Str_length_10 : decode prog_18_method_54_code 10 = .ok (.ireturn, 1) := by decide +kernel
theorem d_Str_isLatin1_0 : decode prog_18_method_154_code 0 = .ok (.getstatic 38, 3) := by decide +kernel
theorem d_Str_isLatin1_3 : decode prog_18_method_154_code 3 = .ok (.ifCond .eq 14, 3) := by decide +kernel
theorem d_Str_isLatin1_6 : decode prog_18_method_154_code 6 = .ok (.aload_n 0, 1) := by decide +kernel
theorem d_Str_isLatin1_7 : decode prog_18_method_154_code 7 = .ok (.getfield 15, 3) := by decide +kernel
theorem d_Str_isLatin1_10 : decode prog_18_method_154_code 10 = .ok (.ifCond .ne 7, 3) := by decide +kernel
theorem d_Str_isLatin1_13 : decode prog_18_method_154_code 13 = .ok (.iconst 1, 1) := by decide +kernel
theorem d_Str_isLatin1_14 : decode prog_18_method_154_code 14 = .ok (.goto 4, 3) := by decide +kernel
theorem d_Str_isLatin1_18 : decode prog_18_method_154_code 18 = .ok (.ireturn, 1) := by decide +kernel
theorem d_Pre_checkIndex_0 : decode prog_22_method_11_code 0 = .ok (.iload_n 0, 1) := by decide +kernel
theorem d_Pre_checkIndex_1 : decode prog_22_method_11_code 1 = .ok (.ifCond .lt 8, 3) := by decide +kernel
theorem d_Pre_checkIndex_4 : decode prog_22_method_11_code 4 = .ok (.iload_n 0, 1) := by decide +kernel
theorem d_Pre_checkIndex_5 : decode prog_22_method_11_code 5 = .ok (.iload_n 1, 1) := by decide +kernel
theorem d_Pre_checkIndex_6 : decode prog_22_method_11_code 6 = .ok (.if_icmp .lt 10, 3) := by decide +kernel
theorem d_Pre_checkIndex_16 : decode prog_22_method_11_code 16 = .ok (.iload_n 0, 1) := by decide +kernel
theorem d_Pre_checkIndex_17 : decode prog_22_method_11_code 17 = .ok (.ireturn, 1) := by decide +kernel
theorem d_Str_checkIndex_0 : decode prog_18_method_155_code 0 = .ok (.iload_n 0, 1) := by decide +kernel
theorem d_Str_checkIndex_1 : decode prog_18_method_155_code 1 = .ok (.iload_n 1, 1) := by decide +kernel
theorem d_Str_checkIndex_2 : decode prog_18_method_155_code 2 = .ok (.getstatic 1053, 3) := by decide +kernel
theorem d_Str_checkIndex_5 : decode prog_18_method_155_code 5 = .ok (.invokestatic 1059, 3) := by decide +kernel
theorem d_Str_checkIndex_8 : decode prog_18_method_155_code 8 = .ok (.pop, 1) := by decide +kernel
theorem d_Str_checkIndex_9 : decode prog_18_method_155_code 9 = .ok (.return_, 1) := by decide +kernel
theorem d_SL_charAt_0 : decode prog_19_method_2_code 0 = .ok (.iload_n 1, 1) := by decide +kernel
theorem d_SL_charAt_1 : decode prog_19_method_2_code 1 = .ok (.aload_n 0, 1) := by decide +kernel
theorem d_SL_charAt_2 : decode prog_19_method_2_code 2 = .ok (.arraylength, 1) := by decide +kernel
theorem d_SL_charAt_3 : decode prog_19_method_2_code 3 = .ok (.invokestatic 9, 3) := by decide +kernel
theorem d_SL_charAt_6 : decode prog_19_method_2_code 6 = .ok (.aload_n 0, 1) := by decide +kernel
theorem d_SL_charAt_7 : decode prog_19_method_2_code 7 = .ok (.iload_n 1, 1) := by decide +kernel
theorem d_SL_charAt_8 : decode prog_19_method_2_code 8 = .ok (.baload, 1) := by decide +kernel
theorem d_SL_charAt_9 : decode prog_19_method_2_code 9 = .ok (.sipush 255, 3) := by decide +kernel
theorem d_SL_charAt_12 : decode prog_19_method_2_code 12 = .ok (.iand, 1) := by decide +kernel
theorem d_SL_charAt_13 : decode prog_19_method_2_code 13 = .ok (.i2c, 1) := by decide +kernel
theorem d_SL_charAt_14 : decode prog_19_method_2_code 14 = .ok (.ireturn, 1) := by decide +kernel
theorem d_Str_charAt_0 : decode prog_18_method_56_code 0 = .ok (.aload_n 0, 1) := by decide +kernel
theorem d_Str_charAt_1 : decode prog_18_method_56_code 1 = .ok (.invokevirtual 492, 3) := by decide +kernel
theorem d_Str_charAt_4 : decode prog_18_method_56_code 4 = .ok (.ifCond .eq 12, 3) := by decide +kernel
theorem d_Str_charAt_7 : decode prog_18_method_56_code 7 = .ok (.aload_n 0, 1) := by decide +kernel
theorem d_Str_charAt_8 : decode prog_18_method_56_code 8 = .ok (.getfield 9, 3) := by decide +kernel
theorem d_Str_charAt_11 : decode prog_18_method_56_code 11 = .ok (.iload_n 1, 1) := by decide +kernel
theorem d_Str_charAt_12 : decode prog_18_method_56_code 12 = .ok (.invokestatic 495, 3) := by decide +kernel
theorem d_Str_charAt_15 : decode prog_18_method_56_code 15 = .ok (.ireturn, 1) := by decide +kernel
abbrev y_Str_coder : MethodName := ⟨"java/lang/String", "coder", "()B"⟩
abbrev rm_Str_coder : Room := { frames := 0, cells := 0, slots := 0, locals := 0 }
set_option maxHeartbeats 4000000 in
set_option maxRecDepth 100000 in
theorem c_Str_coder (l : Launch) (D : va_G) (K : (Nat → Nat) × (Nat → Nat)) {i : Nat} {q : Nat × String × List Int32} (hq : hG.2.2.2[i]? = some q) {h : hH} : Met l y_Str_coder (.code y_Str_coder prog_18_method_152_code 1 (some .byte) :: T0) rm_Str_coder (hPc hG D cls0 K [.ref (K.1 i)] h) (hQ D cls0 h (some (.int 0)) h) 0 0 (hF h) := by
  refine J_met (lv := [(0, .ref (K.1 i))]) (by decide) (Nat.le_of_ble_eq_true rfl) rfl ?_
  intro p e s m below meth c X hr hlk hnm
  have hs := h_str X hq
  refine J_gets (pc := 0) X X.2.2.2.2.2.1.2.2.2.2.2.1 ks_0 d_Str_coder_0 ?_
  refine J_if_eq (pc := 3) (tgt := 13) X d_Str_coder_3 (by decide) (fun c1 => ?_) (fun c1 => ?_)
  · exact absurd c1 (by decide)
  · refine J_aload_n (pc := 6) X 0 d_Str_coder_6 rfl ?_
    refine J_getOF (pc := 7) X hs.2.1 ks_2 d_Str_coder_7 ?_
    refine J_goto (pc := 10) (tgt := 14) X d_Str_coder_10 (by decide) ?_
    exact J_nret (pc := 14) X hr (by decide) hlk (Nat.le_of_ble_eq_true rfl) (Nat.le_of_ble_eq_true rfl) d_Str_coder_14
abbrev y_Str_length : MethodName := ⟨"java/lang/String", "length", "()I"⟩
abbrev rm_Str_length : Room := { frames := 1, cells := 0, slots := 0, locals := 20 }
set_option maxHeartbeats 4000000 in
set_option maxRecDepth 100000 in
theorem c_Str_length (l : Launch) (D : va_G) (K : (Nat → Nat) × (Nat → Nat)) {i : Nat} {q : Nat × String × List Int32} (hq : hG.2.2.2[i]? = some q) {h : hH} : Met l y_Str_length (.code y_Str_length prog_18_method_54_code 1 (some .int) :: T0) rm_Str_length (hPc hG D cls0 K [.ref (K.1 i)] h) (hQ D cls0 h (some (.int (nI q.2.2.length))) h) 0 0 (hF h) := by
  refine J_met (lv := [(0, .ref (K.1 i))]) (by decide) (Nat.le_of_ble_eq_true rfl) rfl ?_
  intro p e s m below meth c X hr hlk hnm
  have hs := h_str X hq
  refine J_aload_n (pc := 0) X 0 d_Str_length_0 rfl ?_
  refine J_getOF (pc := 1) X hs.2.2.1 ks_1 d_Str_length_1 ?_
  refine J_tlen (pc := 4) X hs.2.2.2 d_Str_length_4 ?_
  refine J_aload_n (pc := 5) X 0 d_Str_length_5 rfl ?_
  refine J_callVS (pc := 6) (As := []) (rest := [.int (nI q.2.2.length)]) (o := some (.int 0)) (h2 := h) X hq (c_Str_coder l D K hq) (cwV_of (nA := 0) X.fix ks_3 ks_4 ks_5 ks_6 ks_7 ⟨rfl, rfl, rfl⟩ (by decide +kernel) ⟨Nat.le_of_ble_eq_true rfl, Nat.le_of_ble_eq_true rfl⟩) d_Str_length_6 rfl rfl (Nat.le_of_ble_eq_true rfl) (Nat.le_of_ble_eq_true rfl) (Nat.le_of_ble_eq_true rfl) ?_
  refine J_ishr (pc := 9) X d_Str_length_9 ?_
  refine J_st (st' := [.int (nI q.2.2.length)]) (by rw [sb_shr0]) ?_
  exact J_iret (pc := 10) X hr hlk (Nat.le_of_ble_eq_true rfl) (Nat.le_of_ble_eq_true rfl) d_Str_length_10
abbrev y_Str_isLatin1 : MethodName := ⟨"java/lang/String", "isLatin1", "()Z"⟩
abbrev rm_Str_isLatin1 : Room := { frames := 0, cells := 0, slots := 0, locals := 0 }
set_option maxHeartbeats 4000000 in
set_option maxRecDepth 100000 in
theorem c_Str_isLatin1 (l : Launch) (D : va_G) (K : (Nat → Nat) × (Nat → Nat)) {i : Nat} {q : Nat × String × List Int32} (hq : hG.2.2.2[i]? = some q) {h : hH} : Met l y_Str_isLatin1 (.code y_Str_isLatin1 prog_18_method_154_code 1 (some .boolean) :: T0) rm_Str_isLatin1 (hPc hG D cls0 K [.ref (K.1 i)] h) (hQ D cls0 h (some (.int 1)) h) 0 0 (hF h) := by
  refine J_met (lv := [(0, .ref (K.1 i))]) (by decide) (Nat.le_of_ble_eq_true rfl) rfl ?_
  intro p e s m below meth c X hr hlk hnm
  have hs := h_str X hq
  refine J_gets (pc := 0) X X.2.2.2.2.2.1.2.2.2.2.2.1 ks_0 d_Str_isLatin1_0 ?_
  refine J_if_eq (pc := 3) (tgt := 17) X d_Str_isLatin1_3 (by decide) (fun c1 => ?_) (fun c1 => ?_)
  · exact absurd c1 (by decide)
  · refine J_aload_n (pc := 6) X 0 d_Str_isLatin1_6 rfl ?_
    refine J_getOF (pc := 7) X hs.2.1 ks_2 d_Str_isLatin1_7 ?_
    refine J_if_ne (pc := 10) (tgt := 17) X d_Str_isLatin1_10 (by decide) (fun c2 => ?_) (fun c2 => ?_)
    · exact absurd rfl c2
    · refine J_iconst (pc := 13) (v := 1) X d_Str_isLatin1_13 (by decide) ?_
      refine J_goto (pc := 14) (tgt := 18) X d_Str_isLatin1_14 (by decide) ?_
      exact J_zret (pc := 18) X hr hz1 hlk (Nat.le_of_ble_eq_true rfl) (Nat.le_of_ble_eq_true rfl) d_Str_isLatin1_18
abbrev y_Pre_checkIndex : MethodName := ⟨"jdk/internal/util/Preconditions", "checkIndex", "(IILjava/util/function/BiFunction;)I"⟩
abbrev rm_Pre_checkIndex : Room := { frames := 0, cells := 0, slots := 0, locals := 0 }
set_option maxHeartbeats 4000000 in
set_option maxRecDepth 100000 in
theorem c_Pre_checkIndex (l : Launch) (D : va_G) (K : (Nat → Nat) × (Nat → Nat)) {j n9 : Int32} {r : Option Nat} {h : hH} (h1 : ¬ j < 0) (h2 : j < n9) : Met l y_Pre_checkIndex (.code y_Pre_checkIndex prog_22_method_11_code 3 (some .int) :: T0) rm_Pre_checkIndex (hPc hG D cls0 K [.int j, .int n9, va_rf r] h) (hQ D cls0 h (some (.int j)) h) 0 0 (hF h) := by
  refine J_met (lv := [(0, .int j), (1, .int n9), (2, va_rf r)]) (by decide) (by cases r <;> exact Nat.le_of_ble_eq_true rfl) rfl ?_
  intro p e s m below meth c X hr hlk hnm
  refine J_iload_n (pc := 0) X 0 d_Pre_checkIndex_0 rfl ?_
  refine J_if_lt (pc := 1) (tgt := 9) X d_Pre_checkIndex_1 (by decide) (fun c1 => absurd c1 h1) (fun c1 => ?_)
  refine J_iload_n (pc := 4) X 0 d_Pre_checkIndex_4 rfl ?_
  refine J_iload_n (pc := 5) X 1 d_Pre_checkIndex_5 rfl ?_
  refine J_icmp_lt (pc := 6) (tgt := 16) X d_Pre_checkIndex_6 (by decide) (fun c2 => ?_) (fun c2 => absurd h2 c2)
  refine J_iload_n (pc := 16) X 0 d_Pre_checkIndex_16 rfl ?_
  exact J_iret (pc := 17) X hr hlk (Nat.le_of_ble_eq_true rfl) (Nat.le_of_ble_eq_true rfl) d_Pre_checkIndex_17
abbrev y_Str_checkIndex : MethodName := ⟨"java/lang/String", "checkIndex", "(II)V"⟩
abbrev rm_Str_checkIndex : Room := { frames := 1, cells := 0, slots := 0, locals := 22 }
set_option maxHeartbeats 4000000 in
set_option maxRecDepth 100000 in
theorem c_Str_checkIndex (l : Launch) (D : va_G) (K : (Nat → Nat) × (Nat → Nat)) {j n9 : Int32} {h : hH} (h1 : ¬ j < 0) (h2 : j < n9) : Met l y_Str_checkIndex (.code y_Str_checkIndex prog_18_method_155_code 2 none :: T0) rm_Str_checkIndex (hPc hG D cls0 K [.int j, .int n9] h) (hQ D cls0 h none h) 0 0 (hF h) := by
  refine J_met (lv := [(0, .int j), (1, .int n9)]) (by decide) (Nat.le_of_ble_eq_true rfl) rfl ?_
  intro p e s m below meth c X hr hlk hnm
  refine J_iload_n (pc := 0) X 0 d_Str_checkIndex_0 rfl ?_
  refine J_iload_n (pc := 1) X 1 d_Str_checkIndex_1 rfl ?_
  obtain ⟨r, hZ⟩ : ∃ r : Option Nat, va_Z "jdk/internal/util/Preconditions" "SIOOBE_FORMATTER" "Ljava/util/function/BiFunction;" (va_rf r) (hF h) s s.heap := by
    rcases X.2.2.2.2.2.1.2.2.2.2.2.2 with hz | ⟨t, hz⟩
    · exact ⟨none, hz⟩
    · exact ⟨some t, hz⟩
  refine J_gets (pc := 2) X hZ ks_8 d_Str_checkIndex_2 ?_
  refine J_callS (pc := 5) (As := [.int j, .int n9, va_rf r]) (rest := []) (o := some (.int j)) (h2 := h) X (c_Pre_checkIndex l D K h1 h2) (cwS_of (nA := 3) X.fix ks_9 ks_10 ks_11 ks_12 ⟨rfl, rfl⟩ (by decide +kernel) ⟨Nat.le_of_ble_eq_true rfl, Nat.le_of_ble_eq_true rfl⟩) d_Str_checkIndex_5 rfl rfl (Nat.le_of_ble_eq_true rfl) (Nat.le_of_ble_eq_true rfl) (Nat.le_of_ble_eq_true rfl) ?_
  refine J_pop (pc := 8) X d_Str_checkIndex_8 rfl ?_
  exact J_vret (pc := 9) X hr hlk (Nat.le_of_ble_eq_true rfl) (Nat.le_of_ble_eq_true rfl) d_Str_checkIndex_9
abbrev y_SL_charAt : MethodName := ⟨"java/lang/StringLatin1", "charAt", "([BI)C"⟩
abbrev rm_SL_charAt : Room := { frames := 2, cells := 0, slots := 0, locals := 43 }
set_option maxHeartbeats 4000000 in
set_option maxRecDepth 100000 in
theorem c_SL_charAt (l : Launch) (D : va_G) (K : (Nat → Nat) × (Nat → Nat)) {i : Nat} {q : Nat × String × List Int32} (hq : hG.2.2.2[i]? = some q) {j : Int32} {h : hH} (hj : vp_in j q.2.2.length) (hl : q.2.2.length < 2 ^ 31) : Met l y_SL_charAt (.code y_SL_charAt prog_19_method_2_code 2 (some .char) :: T0) rm_SL_charAt (hPc hG D cls0 K [.ref (K.2 i), .int j] h) (hQ D cls0 h (some (.int (q.2.2.getD j.toNatClampNeg 0 &&& 255))) h) 0 0 (hF h) := by
  refine J_met (lv := [(0, .ref (K.2 i)), (1, .int j)]) (by decide) (Nat.le_of_ble_eq_true rfl) rfl ?_
  intro p e s m below meth c X hr hlk hnm
  have hs := h_str X hq
  refine J_iload_n (pc := 0) X 1 d_SL_charAt_0 rfl ?_
  refine J_aload_n (pc := 1) X 0 d_SL_charAt_1 rfl ?_
  refine J_tlen (pc := 2) X hs.2.2.2 d_SL_charAt_2 ?_
  obtain ⟨jj, hjj, rfl⟩ := vp_in_of hj hl
  refine J_callS (pc := 3) (As := [.int (nI jj), .int (nI q.2.2.length)]) (rest := []) (o := none) (h2 := h) X (c_Str_checkIndex l D K (nI_pos (by omega)) (nI_lt hjj hl)) (cwS_of (nA := 2) X.fix ks_13 ks_14 ks_6 ks_15 ⟨rfl, rfl⟩ (by decide +kernel) ⟨Nat.le_of_ble_eq_true rfl, Nat.le_of_ble_eq_true rfl⟩) d_SL_charAt_3 rfl rfl (Nat.le_of_ble_eq_true rfl) (Nat.le_of_ble_eq_true rfl) (Nat.le_of_ble_eq_true rfl) ?_
  refine J_aload_n (pc := 6) X 0 d_SL_charAt_6 rfl ?_
  refine J_iload_n (pc := 7) X 1 d_SL_charAt_7 rfl ?_
  refine J_tb (pc := 8) X hs.2.2.2 hj d_SL_charAt_8 ?_
  refine J_sipush (pc := 9) (v := 255) X d_SL_charAt_9 (by decide) ?_
  refine J_iand (pc := 12) X d_SL_charAt_12 ?_
  refine J_i2c (pc := 13) X d_SL_charAt_13 ?_
  refine J_st (st' := [.int (q.2.2.getD (nI jj).toNatClampNeg 0 &&& 255)]) (by rw [sc_c2]; rfl) ?_
  exact J_nret (pc := 14) X hr (sc_nar _) hlk (Nat.le_of_ble_eq_true rfl) (Nat.le_of_ble_eq_true rfl) d_SL_charAt_14
abbrev y_Str_charAt : MethodName := ⟨"java/lang/String", "charAt", "(I)C"⟩
abbrev rm_Str_charAt : Room := { frames := 3, cells := 0, slots := 0, locals := 64 }
set_option maxHeartbeats 4000000 in
set_option maxRecDepth 100000 in
theorem c_Str_charAt (l : Launch) (D : va_G) (K : (Nat → Nat) × (Nat → Nat)) {i : Nat} {q : Nat × String × List Int32} (hq : hG.2.2.2[i]? = some q) {j : Int32} {h : hH} (hj : vp_in j q.2.2.length) (hl : q.2.2.length < 2 ^ 31) : Met l y_Str_charAt (.code y_Str_charAt prog_18_method_56_code 2 (some .char) :: T0) rm_Str_charAt (hPc hG D cls0 K [.ref (K.1 i), .int j] h) (hQ D cls0 h (some (.int (q.2.2.getD j.toNatClampNeg 0 &&& 255))) h) 0 0 (hF h) := by
  refine J_met (lv := [(0, .ref (K.1 i)), (1, .int j)]) (by decide) (Nat.le_of_ble_eq_true rfl) rfl ?_
  intro p e s m below meth c X hr hlk hnm
  have hs := h_str X hq
  refine J_aload_n (pc := 0) X 0 d_Str_charAt_0 rfl ?_
  refine J_callVS (pc := 1) (As := []) (rest := []) (o := some (.int 1)) (h2 := h) X hq (c_Str_isLatin1 l D K hq) (cwV_of (nA := 0) X.fix ks_16 ks_17 ks_18 ks_6 ks_19 ⟨rfl, rfl, rfl⟩ (by decide +kernel) ⟨Nat.le_of_ble_eq_true rfl, Nat.le_of_ble_eq_true rfl⟩) d_Str_charAt_1 rfl rfl (Nat.le_of_ble_eq_true rfl) (Nat.le_of_ble_eq_true rfl) (Nat.le_of_ble_eq_true rfl) ?_
  refine J_if_eq (pc := 4) (tgt := 16) X d_Str_charAt_4 (by decide) (fun c1 => absurd c1 (by decide)) (fun c1 => ?_)
  refine J_aload_n (pc := 7) X 0 d_Str_charAt_7 rfl ?_
  refine J_getOF (pc := 8) X hs.2.2.1 ks_1 d_Str_charAt_8 ?_
  refine J_iload_n (pc := 11) X 1 d_Str_charAt_11 rfl ?_
  refine J_callS (pc := 12) (As := [.ref (K.2 i), .int j]) (rest := []) (o := some (.int (q.2.2.getD j.toNatClampNeg 0 &&& 255))) (h2 := h) X (c_SL_charAt l D K hq hj hl) (cwS_of (nA := 2) X.fix ks_20 ks_21 ks_22 ks_23 ⟨rfl, rfl⟩ (by decide +kernel) ⟨Nat.le_of_ble_eq_true rfl, Nat.le_of_ble_eq_true rfl⟩) d_Str_charAt_12 rfl rfl (Nat.le_of_ble_eq_true rfl) (Nat.le_of_ble_eq_true rfl) (Nat.le_of_ble_eq_true rfl) ?_
  exact J_nret (pc := 15) X hr (sc_nar _) hlk (Nat.le_of_ble_eq_true rfl) (Nat.le_of_ble_eq_true rfl) d_Str_charAt_15
def sAt (i : Nat) : Option (List Int32) := (hG.2.2.2[i]?).bind fun q => some q.2.2
theorem sAt_of {i : Nat} {bs : List Int32} (e : sAt i = some bs) : ∃ q, hG.2.2.2[i]? = some q ∧ q.2.2 = bs := by
  obtain ⟨q, h1, h2⟩ := hb_some e
  exact ⟨q, h1, Option.some.inj h2⟩
theorem sAt_small {i : Nat} {bs : List Int32} (e : sAt i = some bs) : bs.length < 2 ^ 31 := by
  obtain ⟨q, h1, rfl⟩ := sAt_of e
  have h2 : ∀ q ∈ hG.2.2.2, q.2.2.length < 2 ^ 31 := by decide +kernel
  exact h2 q (List.mem_of_getElem? h1)
def M_Str_length (h : hH) (i : Nat) : Option (Int32 × hH) := (sAt i).bind fun bs => some (nI bs.length, h)
def M_Str_charAt (h : hH) (i : Nat) (j : Int32) : Option (Int32 × hH) := (sAt i).bind fun bs => if j < 0 ∨ bs.length ≤ j.toNatClampNeg then none else some (bs.getD j.toNatClampNeg 0 &&& 255, h)
theorem M_Str_length_of {h : hH} {i : Nat} {q : Int32 × hH} (e : M_Str_length h i = some q) : ∃ w, hG.2.2.2[i]? = some w ∧ q = (nI w.2.2.length, h) := by
  obtain ⟨bs, h1, h2⟩ := hb_some e
  obtain ⟨w, h3, rfl⟩ := sAt_of h1
  exact ⟨w, h3, (Option.some.inj h2).symm⟩
theorem M_Str_charAt_of {h : hH} {i : Nat} {j : Int32} {q : Int32 × hH} (e : M_Str_charAt h i j = some q) : ∃ w, hG.2.2.2[i]? = some w ∧ vp_in j w.2.2.length ∧ w.2.2.length < 2 ^ 31 ∧ q = (w.2.2.getD j.toNatClampNeg 0 &&& 255, h) := by
  obtain ⟨bs, h1, h2⟩ := hb_some e
  have hs := sAt_small h1
  obtain ⟨w, h3, rfl⟩ := sAt_of h1
  obtain ⟨c, h2⟩ := hnz h2
  exact ⟨w, h3, c, hs, (Option.some.inj h2).symm⟩
theorem c_Str_lengthM (l : Launch) (D : va_G) (K : (Nat → Nat) × (Nat → Nat)) {i : Nat} {h : hH} {q : Int32 × hH} (e : M_Str_length h i = some q) : Met l y_Str_length (.code y_Str_length prog_18_method_54_code 1 (some .int) :: T0) rm_Str_length (hPc hG D cls0 K [.ref (K.1 i)] h) (hQ D cls0 h (some (.int q.1)) q.2) 0 0 (hF h) := by
  obtain ⟨w, h1, rfl⟩ := M_Str_length_of e
  exact c_Str_length l D K h1
theorem c_Str_charAtM (l : Launch) (D : va_G) (K : (Nat → Nat) × (Nat → Nat)) {i : Nat} {j : Int32} {h : hH} {q : Int32 × hH} (e : M_Str_charAt h i j = some q) : Met l y_Str_charAt (.code y_Str_charAt prog_18_method_56_code 2 (some .char) :: T0) rm_Str_charAt (hPc hG D cls0 K [.ref (K.1 i), .int j] h) (hQ D cls0 h (some (.int q.1)) q.2) 0 0 (hF h) := by
  obtain ⟨w, h1, h2, h3, rfl⟩ := M_Str_charAt_of e
  exact c_Str_charAt l D K h1 h2 h3
