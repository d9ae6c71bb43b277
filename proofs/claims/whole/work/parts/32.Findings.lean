theorem d_Findings_init_0 : decode prog_5_method_1_code 0 = .ok (.aload_n 0, 1) := by decide +kernel
theorem d_Findings_init_1 : decode prog_5_method_1_code 1 = .ok (.invokespecial 3, 3) := by decide +kernel
theorem d_Findings_init_4 : decode prog_5_method_1_code 4 = .ok (.aload_n 0, 1) := by decide +kernel
theorem d_Findings_init_5 : decode prog_5_method_1_code 5 = .ok (.bipush 12, 2) := by decide +kernel
theorem d_Findings_init_7 : decode prog_5_method_1_code 7 = .ok (.newarray .int, 2) := by decide +kernel
theorem d_Findings_init_9 : decode prog_5_method_1_code 9 = .ok (.putfield 9, 3) := by decide +kernel
theorem d_Findings_init_12 : decode prog_5_method_1_code 12 = .ok (.aload_n 0, 1) := by decide +kernel
theorem d_Findings_init_13 : decode prog_5_method_1_code 13 = .ok (.bipush 12, 2) := by decide +kernel
theorem d_Findings_init_15 : decode prog_5_method_1_code 15 = .ok (.newarray .int, 2) := by decide +kernel
theorem d_Findings_init_17 : decode prog_5_method_1_code 17 = .ok (.putfield 15, 3) := by decide +kernel
theorem d_Findings_init_20 : decode prog_5_method_1_code 20 = .ok (.aload_n 0, 1) := by decide +kernel
theorem d_Findings_init_21 : decode prog_5_method_1_code 21 = .ok (.bipush 12, 2) := by decide +kernel
theorem d_Findings_init_23 : decode prog_5_method_1_code 23 = .ok (.newarray .int, 2) := by decide +kernel
theorem d_Findings_init_25 : decode prog_5_method_1_code 25 = .ok (.putfield 18, 3) := by decide +kernel
theorem d_Findings_init_28 : decode prog_5_method_1_code 28 = .ok (.aload_n 0, 1) := by decide +kernel
theorem d_Findings_init_29 : decode prog_5_method_1_code 29 = .ok (.bipush 12, 2) := by decide +kernel
theorem d_Findings_init_31 : decode prog_5_method_1_code 31 = .ok (.newarray .int, 2) := by decide +kernel
theorem d_Findings_init_33 : decode prog_5_method_1_code 33 = .ok (.putfield 21, 3) := by decide +kernel
theorem d_Findings_init_36 : decode prog_5_method_1_code 36 = .ok (.aload_n 0, 1) := by decide +kernel
theorem d_Findings_init_37 : decode prog_5_method_1_code 37 = .ok (.iconst 0, 1) := by decide +kernel
theorem d_Findings_init_38 : decode prog_5_method_1_code 38 = .ok (.putfield 24, 3) := by decide +kernel
theorem d_Findings_init_41 : decode prog_5_method_1_code 41 = .ok (.return_, 1) := by decide +kernel
theorem d_Findings_clear_0 : decode prog_5_method_2_code 0 = .ok (.aload_n 0, 1) := by decide +kernel
theorem d_Findings_clear_1 : decode prog_5_method_2_code 1 = .ok (.iconst 0, 1) := by decide +kernel
theorem d_Findings_clear_2 : decode prog_5_method_2_code 2 = .ok (.putfield 24, 3) := by decide +kernel
theorem d_Findings_clear_5 : decode prog_5_method_2_code 5 = .ok (.return_, 1) := by decide +kernel
theorem d_Findings_add_0 : decode prog_5_method_3_code 0 = .ok (.aload_n 0, 1) := by decide +kernel
theorem d_Findings_add_1 : decode prog_5_method_3_code 1 = .ok (.getfield 24, 3) := by decide +kernel
theorem d_Findings_add_4 : decode prog_5_method_3_code 4 = .ok (.ifCond .lt 63, 3) := by decide +kernel
theorem d_Findings_add_67 : decode prog_5_method_3_code 67 = .ok (.return_, 1) := by decide +kernel
theorem d_Findings_add_7 : decode prog_5_method_3_code 7 = .ok (.aload_n 0, 1) := by decide +kernel
theorem d_Findings_add_8 : decode prog_5_method_3_code 8 = .ok (.getfield 24, 3) := by decide +kernel
theorem d_Findings_add_11 : decode prog_5_method_3_code 11 = .ok (.bipush 12, 2) := by decide +kernel
theorem d_Findings_add_13 : decode prog_5_method_3_code 13 = .ok (.if_icmp .ge 54, 3) := by decide +kernel
theorem d_Findings_add_16 : decode prog_5_method_3_code 16 = .ok (.aload_n 0, 1) := by decide +kernel
theorem d_Findings_add_17 : decode prog_5_method_3_code 17 = .ok (.getfield 9, 3) := by decide +kernel
theorem d_Findings_add_20 : decode prog_5_method_3_code 20 = .ok (.aload_n 0, 1) := by decide +kernel
theorem d_Findings_add_21 : decode prog_5_method_3_code 21 = .ok (.getfield 24, 3) := by decide +kernel
theorem d_Findings_add_24 : decode prog_5_method_3_code 24 = .ok (.iload_n 1, 1) := by decide +kernel
theorem d_Findings_add_25 : decode prog_5_method_3_code 25 = .ok (.iastore, 1) := by decide +kernel
theorem d_Findings_add_26 : decode prog_5_method_3_code 26 = .ok (.aload_n 0, 1) := by decide +kernel
theorem d_Findings_add_27 : decode prog_5_method_3_code 27 = .ok (.getfield 15, 3) := by decide +kernel
theorem d_Findings_add_30 : decode prog_5_method_3_code 30 = .ok (.aload_n 0, 1) := by decide +kernel
theorem d_Findings_add_31 : decode prog_5_method_3_code 31 = .ok (.getfield 24, 3) := by decide +kernel
theorem d_Findings_add_34 : decode prog_5_method_3_code 34 = .ok (.iload_n 2, 1) := by decide +kernel
theorem d_Findings_add_35 : decode prog_5_method_3_code 35 = .ok (.iastore, 1) := by decide +kernel
theorem d_Findings_add_36 : decode prog_5_method_3_code 36 = .ok (.aload_n 0, 1) := by decide +kernel
theorem d_Findings_add_37 : decode prog_5_method_3_code 37 = .ok (.getfield 18, 3) := by decide +kernel
theorem d_Findings_add_40 : decode prog_5_method_3_code 40 = .ok (.aload_n 0, 1) := by decide +kernel
theorem d_Findings_add_41 : decode prog_5_method_3_code 41 = .ok (.getfield 24, 3) := by decide +kernel
theorem d_Findings_add_44 : decode prog_5_method_3_code 44 = .ok (.iload_n 3, 1) := by decide +kernel
theorem d_Findings_add_45 : decode prog_5_method_3_code 45 = .ok (.iastore, 1) := by decide +kernel
theorem d_Findings_add_46 : decode prog_5_method_3_code 46 = .ok (.aload_n 0, 1) := by decide +kernel
theorem d_Findings_add_47 : decode prog_5_method_3_code 47 = .ok (.getfield 21, 3) := by decide +kernel
theorem d_Findings_add_50 : decode prog_5_method_3_code 50 = .ok (.aload_n 0, 1) := by decide +kernel
theorem d_Findings_add_51 : decode prog_5_method_3_code 51 = .ok (.getfield 24, 3) := by decide +kernel
theorem d_Findings_add_54 : decode prog_5_method_3_code 54 = .ok (.iload 4, 2) := by decide +kernel
theorem d_Findings_add_56 : decode prog_5_method_3_code 56 = .ok (.iastore, 1) := by decide +kernel
theorem d_Findings_add_57 : decode prog_5_method_3_code 57 = .ok (.aload_n 0, 1) := by decide +kernel
theorem d_Findings_add_58 : decode prog_5_method_3_code 58 = .ok (.dup, 1) := by decide +kernel
theorem d_Findings_add_59 : decode prog_5_method_3_code 59 = .ok (.getfield 24, 3) := by decide +kernel
theorem d_Findings_add_62 : decode prog_5_method_3_code 62 = .ok (.iconst 1, 1) := by decide +kernel
theorem d_Findings_add_63 : decode prog_5_method_3_code 63 = .ok (.iadd, 1) := by decide +kernel
theorem d_Findings_add_64 : decode prog_5_method_3_code 64 = .ok (.putfield 24, 3) := by decide +kernel
theorem d_Findings_has_0 : decode prog_5_method_6_code 0 = .ok (.iload_n 1, 1) := by decide +kernel
theorem d_Findings_has_1 : decode prog_5_method_6_code 1 = .ok (.ifCond .lt 21, 3) := by decide +kernel
theorem d_Findings_has_22 : decode prog_5_method_6_code 22 = .ok (.iconst 0, 1) := by decide +kernel
theorem d_Findings_has_23 : decode prog_5_method_6_code 23 = .ok (.ireturn, 1) := by decide +kernel
theorem d_Findings_has_4 : decode prog_5_method_6_code 4 = .ok (.iload_n 1, 1) := by decide +kernel
theorem d_Findings_has_5 : decode prog_5_method_6_code 5 = .ok (.aload_n 0, 1) := by decide +kernel
theorem d_Findings_has_6 : decode prog_5_method_6_code 6 = .ok (.getfield 24, 3) := by decide +kernel
theorem d_Findings_has_9 : decode prog_5_method_6_code 9 = .ok (.if_icmp .ge 13, 3) := by decide +kernel
theorem d_Findings_has_12 : decode prog_5_method_6_code 12 = .ok (.iload_n 1, 1) := by decide +kernel
theorem d_Findings_has_13 : decode prog_5_method_6_code 13 = .ok (.bipush 12, 2) := by decide +kernel
theorem d_Findings_has_15 : decode prog_5_method_6_code 15 = .ok (.if_icmp .ge 7, 3) := by decide +kernel
theorem d_Findings_has_18 : decode prog_5_method_6_code 18 = .ok (.iconst 1, 1) := by decide +kernel
theorem d_Findings_has_19 : decode prog_5_method_6_code 19 = .ok (.goto 4, 3) := by decide +kernel
theorem d_Findings_outcomeOf_0 : decode prog_5_method_7_code 0 = .ok (.aload_n 0, 1) := by decide +kernel
theorem d_Findings_outcomeOf_1 : decode prog_5_method_7_code 1 = .ok (.iload_n 1, 1) := by decide +kernel
theorem d_Findings_outcomeOf_2 : decode prog_5_method_7_code 2 = .ok (.invokevirtual 36, 3) := by decide +kernel
theorem d_Findings_outcomeOf_5 : decode prog_5_method_7_code 5 = .ok (.ifCond .eq 12, 3) := by decide +kernel
theorem d_Findings_outcomeOf_17 : decode prog_5_method_7_code 17 = .ok (.iconst (-1), 1) := by decide +kernel
theorem d_Findings_outcomeOf_18 : decode prog_5_method_7_code 18 = .ok (.ireturn, 1) := by decide +kernel
theorem d_Findings_outcomeOf_8 : decode prog_5_method_7_code 8 = .ok (.aload_n 0, 1) := by decide +kernel
theorem d_Findings_outcomeOf_9 : decode prog_5_method_7_code 9 = .ok (.getfield 9, 3) := by decide +kernel
theorem d_Findings_outcomeOf_12 : decode prog_5_method_7_code 12 = .ok (.iload_n 1, 1) := by decide +kernel
theorem d_Findings_outcomeOf_13 : decode prog_5_method_7_code 13 = .ok (.iaload, 1) := by decide +kernel
theorem d_Findings_outcomeOf_14 : decode prog_5_method_7_code 14 = .ok (.goto 4, 3) := by decide +kernel
theorem d_Findings_reasonOf_0 : decode prog_5_method_8_code 0 = .ok (.aload_n 0, 1) := by decide +kernel
theorem d_Findings_reasonOf_1 : decode prog_5_method_8_code 1 = .ok (.iload_n 1, 1) := by decide +kernel
theorem d_Findings_reasonOf_2 : decode prog_5_method_8_code 2 = .ok (.invokevirtual 36, 3) := by decide +kernel
theorem d_Findings_reasonOf_5 : decode prog_5_method_8_code 5 = .ok (.ifCond .eq 12, 3) := by decide +kernel
theorem d_Findings_reasonOf_17 : decode prog_5_method_8_code 17 = .ok (.iconst (-1), 1) := by decide +kernel
theorem d_Findings_reasonOf_18 : decode prog_5_method_8_code 18 = .ok (.ireturn, 1) := by decide +kernel
theorem d_Findings_reasonOf_8 : decode prog_5_method_8_code 8 = .ok (.aload_n 0, 1) := by decide +kernel
theorem d_Findings_reasonOf_9 : decode prog_5_method_8_code 9 = .ok (.getfield 15, 3) := by decide +kernel
theorem d_Findings_reasonOf_12 : decode prog_5_method_8_code 12 = .ok (.iload_n 1, 1) := by decide +kernel
theorem d_Findings_reasonOf_13 : decode prog_5_method_8_code 13 = .ok (.iaload, 1) := by decide +kernel
theorem d_Findings_reasonOf_14 : decode prog_5_method_8_code 14 = .ok (.goto 4, 3) := by decide +kernel
theorem d_Findings_untoldOf_0 : decode prog_5_method_9_code 0 = .ok (.aload_n 0, 1) := by decide +kernel
theorem d_Findings_untoldOf_1 : decode prog_5_method_9_code 1 = .ok (.iload_n 1, 1) := by decide +kernel
theorem d_Findings_untoldOf_2 : decode prog_5_method_9_code 2 = .ok (.invokevirtual 36, 3) := by decide +kernel
theorem d_Findings_untoldOf_5 : decode prog_5_method_9_code 5 = .ok (.ifCond .eq 12, 3) := by decide +kernel
theorem d_Findings_untoldOf_17 : decode prog_5_method_9_code 17 = .ok (.iconst (-1), 1) := by decide +kernel
theorem d_Findings_untoldOf_18 : decode prog_5_method_9_code 18 = .ok (.ireturn, 1) := by decide +kernel
theorem d_Findings_untoldOf_8 : decode prog_5_method_9_code 8 = .ok (.aload_n 0, 1) := by decide +kernel
theorem d_Findings_untoldOf_9 : decode prog_5_method_9_code 9 = .ok (.getfield 18, 3) := by decide +kernel
theorem d_Findings_untoldOf_12 : decode prog_5_method_9_code 12 = .ok (.iload_n 1, 1) := by decide +kernel
theorem d_Findings_untoldOf_13 : decode prog_5_method_9_code 13 = .ok (.iaload, 1) := by decide +kernel
theorem d_Findings_untoldOf_14 : decode prog_5_method_9_code 14 = .ok (.goto 4, 3) := by decide +kernel
theorem d_Findings_firstWordOf_0 : decode prog_5_method_10_code 0 = .ok (.aload_n 0, 1) := by decide +kernel
theorem d_Findings_firstWordOf_1 : decode prog_5_method_10_code 1 = .ok (.iload_n 1, 1) := by decide +kernel
theorem d_Findings_firstWordOf_2 : decode prog_5_method_10_code 2 = .ok (.invokevirtual 36, 3) := by decide +kernel
theorem d_Findings_firstWordOf_5 : decode prog_5_method_10_code 5 = .ok (.ifCond .eq 12, 3) := by decide +kernel
theorem d_Findings_firstWordOf_17 : decode prog_5_method_10_code 17 = .ok (.iconst (-1), 1) := by decide +kernel
theorem d_Findings_firstWordOf_18 : decode prog_5_method_10_code 18 = .ok (.ireturn, 1) := by decide +kernel
theorem d_Findings_firstWordOf_8 : decode prog_5_method_10_code 8 = .ok (.aload_n 0, 1) := by decide +kernel
theorem d_Findings_firstWordOf_9 : decode prog_5_method_10_code 9 = .ok (.getfield 21, 3) := by decide +kernel
theorem d_Findings_firstWordOf_12 : decode prog_5_method_10_code 12 = .ok (.iload_n 1, 1) := by decide +kernel
theorem d_Findings_firstWordOf_13 : decode prog_5_method_10_code 13 = .ok (.iaload, 1) := by decide +kernel
theorem d_Findings_firstWordOf_14 : decode prog_5_method_10_code 14 = .ok (.goto 4, 3) := by decide +kernel
theorem d_Findings_rankedAs_35 : decode prog_5_method_5_code 35 = .ok (.iinc 4 1, 3) := by decide +kernel
theorem d_Findings_rankedAs_38 : decode prog_5_method_5_code 38 = .ok (.goto (-33), 3) := by decide +kernel
theorem d_Findings_rankedAs_5 : decode prog_5_method_5_code 5 = .ok (.iload 4, 2) := by decide +kernel
theorem d_Findings_rankedAs_7 : decode prog_5_method_5_code 7 = .ok (.aload_n 0, 1) := by decide +kernel
theorem d_Findings_rankedAs_8 : decode prog_5_method_5_code 8 = .ok (.getfield 24, 3) := by decide +kernel
theorem d_Findings_rankedAs_11 : decode prog_5_method_5_code 11 = .ok (.if_icmp .ge 30, 3) := by decide +kernel
theorem d_Findings_rankedAs_41 : decode prog_5_method_5_code 41 = .ok (.iconst (-1), 1) := by decide +kernel
theorem d_Findings_rankedAs_42 : decode prog_5_method_5_code 42 = .ok (.ireturn, 1) := by decide +kernel
theorem d_Findings_rankedAs_14 : decode prog_5_method_5_code 14 = .ok (.aload_n 0, 1) := by decide +kernel
theorem d_Findings_rankedAs_15 : decode prog_5_method_5_code 15 = .ok (.iload 4, 2) := by decide +kernel
theorem d_Findings_rankedAs_17 : decode prog_5_method_5_code 17 = .ok (.invokevirtual 32, 3) := by decide +kernel
theorem d_Findings_rankedAs_20 : decode prog_5_method_5_code 20 = .ok (.iload_n 1, 1) := by decide +kernel
theorem d_Findings_rankedAs_21 : decode prog_5_method_5_code 21 = .ok (.if_icmp .ne 14, 3) := by decide +kernel
theorem d_Findings_rankedAs_24 : decode prog_5_method_5_code 24 = .ok (.iload_n 3, 1) := by decide +kernel
theorem d_Findings_rankedAs_25 : decode prog_5_method_5_code 25 = .ok (.iload_n 2, 1) := by decide +kernel
theorem d_Findings_rankedAs_26 : decode prog_5_method_5_code 26 = .ok (.if_icmp .ne 6, 3) := by decide +kernel
theorem d_Findings_rankedAs_32 : decode prog_5_method_5_code 32 = .ok (.iinc 3 1, 3) := by decide +kernel
theorem d_Findings_rankedAs_29 : decode prog_5_method_5_code 29 = .ok (.iload 4, 2) := by decide +kernel
theorem d_Findings_rankedAs_31 : decode prog_5_method_5_code 31 = .ok (.ireturn, 1) := by decide +kernel
theorem d_Findings_rankedAs_0 : decode prog_5_method_5_code 0 = .ok (.iconst 0, 1) := by decide +kernel
theorem d_Findings_rankedAs_1 : decode prog_5_method_5_code 1 = .ok (.istore_n 3, 1) := by decide +kernel
theorem d_Findings_rankedAs_2 : decode prog_5_method_5_code 2 = .ok (.iconst 0, 1) := by decide +kernel
theorem d_Findings_rankedAs_3 : decode prog_5_method_5_code 3 = .ok (.istore 4, 2) := by decide +kernel
theorem d_Findings_answer_0 : decode prog_5_method_4_code 0 = .ok (.aload_n 0, 1) := by decide +kernel
theorem d_Findings_answer_1 : decode prog_5_method_4_code 1 = .ok (.iconst 1, 1) := by decide +kernel
theorem d_Findings_answer_2 : decode prog_5_method_4_code 2 = .ok (.iconst 0, 1) := by decide +kernel
theorem d_Findings_answer_3 : decode prog_5_method_4_code 3 = .ok (.invokevirtual 28, 3) := by decide +kernel
theorem d_Findings_answer_6 : decode prog_5_method_4_code 6 = .ok (.istore_n 1, 1) := by decide +kernel
theorem d_Findings_answer_7 : decode prog_5_method_4_code 7 = .ok (.iload_n 1, 1) := by decide +kernel
theorem d_Findings_answer_8 : decode prog_5_method_4_code 8 = .ok (.iconst (-1), 1) := by decide +kernel
theorem d_Findings_answer_9 : decode prog_5_method_4_code 9 = .ok (.if_icmp .eq 7, 3) := by decide +kernel
theorem d_Findings_answer_16 : decode prog_5_method_4_code 16 = .ok (.aload_n 0, 1) := by decide +kernel
theorem d_Findings_answer_17 : decode prog_5_method_4_code 17 = .ok (.iconst 2, 1) := by decide +kernel
theorem d_Findings_answer_18 : decode prog_5_method_4_code 18 = .ok (.iconst 0, 1) := by decide +kernel
theorem d_Findings_answer_19 : decode prog_5_method_4_code 19 = .ok (.invokevirtual 28, 3) := by decide +kernel
theorem d_Findings_answer_22 : decode prog_5_method_4_code 22 = .ok (.iconst (-1), 1) := by decide +kernel
theorem d_Findings_answer_23 : decode prog_5_method_4_code 23 = .ok (.if_icmp .ne 7, 3) := by decide +kernel
theorem d_Findings_answer_30 : decode prog_5_method_4_code 30 = .ok (.iconst (-1), 1) := by decide +kernel
theorem d_Findings_answer_31 : decode prog_5_method_4_code 31 = .ok (.ireturn, 1) := by decide +kernel
theorem d_Findings_answer_26 : decode prog_5_method_4_code 26 = .ok (.iconst 0, 1) := by decide +kernel
theorem d_Findings_answer_27 : decode prog_5_method_4_code 27 = .ok (.goto 4, 3) := by decide +kernel
theorem d_Findings_answer_12 : decode prog_5_method_4_code 12 = .ok (.iconst 1, 1) := by decide +kernel
theorem d_Findings_answer_13 : decode prog_5_method_4_code 13 = .ok (.iload_n 1, 1) := by decide +kernel
theorem d_Findings_answer_14 : decode prog_5_method_4_code 14 = .ok (.iadd, 1) := by decide +kernel
theorem d_Findings_answer_15 : decode prog_5_method_4_code 15 = .ok (.ireturn, 1) := by decide +kernel
def M_Findings_init (F : Nat) (h : hH) (x0 : Nat) : Option hH :=
  (some (hAdd h (.inr (.int, 12, .inl (fun _ => 0))))).bind fun h1 =>
  (hPut h1 x0 3 0 (.ref h.1)).bind fun h2 =>
  (some (hAdd h2 (.inr (.int, 12, .inl (fun _ => 0))))).bind fun h3 =>
  (hPut h3 x0 3 1 (.ref h2.1)).bind fun h4 =>
  (some (hAdd h4 (.inr (.int, 12, .inl (fun _ => 0))))).bind fun h5 =>
  (hPut h5 x0 3 2 (.ref h4.1)).bind fun h6 =>
  (some (hAdd h6 (.inr (.int, 12, .inl (fun _ => 0))))).bind fun h7 =>
  (hPut h7 x0 3 3 (.ref h6.1)).bind fun h8 =>
  (hPut h8 x0 3 4 (.int 0)).bind fun h9 =>
  some h9
def M_Findings_clear (F : Nat) (h : hH) (x0 : Nat) : Option hH :=
  (hPut h x0 3 4 (.int 0)).bind fun h1 =>
  some h1
def M_Findings_add (F : Nat) (h : hH) (x0 : Nat) (x1 : Int32) (x2 : Int32) (x3 : Int32) (x4 : Int32) : Option hH :=
  (hGetI h x0 3 4).bind fun v1 =>
  if v1 < 0 then (
    some h
  ) else (
    (hGetI h x0 3 4).bind fun v3 =>
    if 12 ≤ v3 then (
      some h
    ) else (
      (hGetA h x0 3 0).bind fun v5 =>
      (hGetI h x0 3 4).bind fun v6 =>
      (hStI h v5 v6 x1).bind fun h7 =>
      (hGetA h7 x0 3 1).bind fun v8 =>
      (hGetI h7 x0 3 4).bind fun v9 =>
      (hStI h7 v8 v9 x2).bind fun h10 =>
      (hGetA h10 x0 3 2).bind fun v11 =>
      (hGetI h10 x0 3 4).bind fun v12 =>
      (hStI h10 v11 v12 x3).bind fun h13 =>
      (hGetA h13 x0 3 3).bind fun v14 =>
      (hGetI h13 x0 3 4).bind fun v15 =>
      (hStI h13 v14 v15 x4).bind fun h16 =>
      (hGetI h16 x0 3 4).bind fun v17 =>
      (hPut h16 x0 3 4 (.int (v17 + 1))).bind fun h18 =>
      some h18
    )
  )
def M_Findings_has (F : Nat) (h : hH) (x0 : Nat) (x1 : Int32) : Option (Int32 × hH) :=
  if x1 < 0 then (
    some (0, h)
  ) else (
    (hGetI h x0 3 4).bind fun v2 =>
    if v2 ≤ x1 then (
      some (0, h)
    ) else (
      if 12 ≤ x1 then (
        some (0, h)
      ) else (
        some (1, h)
      )
    )
  )
def M_Findings_outcomeOf (F : Nat) (h : hH) (x0 : Nat) (x1 : Int32) : Option (Int32 × hH) :=
  (hIs h x0 3).bind fun u1 =>
  (M_Findings_has F h x0 x1).bind fun q2 =>
  if q2.1 = 0 then (
    some ((-1), q2.2)
  ) else (
    (hGetA q2.2 x0 3 0).bind fun v4 =>
    (hLdI q2.2 v4 .int x1).bind fun v5 =>
    some (v5, q2.2)
  )
def M_Findings_reasonOf (F : Nat) (h : hH) (x0 : Nat) (x1 : Int32) : Option (Int32 × hH) :=
  (hIs h x0 3).bind fun u1 =>
  (M_Findings_has F h x0 x1).bind fun q2 =>
  if q2.1 = 0 then (
    some ((-1), q2.2)
  ) else (
    (hGetA q2.2 x0 3 1).bind fun v4 =>
    (hLdI q2.2 v4 .int x1).bind fun v5 =>
    some (v5, q2.2)
  )
def M_Findings_untoldOf (F : Nat) (h : hH) (x0 : Nat) (x1 : Int32) : Option (Int32 × hH) :=
  (hIs h x0 3).bind fun u1 =>
  (M_Findings_has F h x0 x1).bind fun q2 =>
  if q2.1 = 0 then (
    some ((-1), q2.2)
  ) else (
    (hGetA q2.2 x0 3 2).bind fun v4 =>
    (hLdI q2.2 v4 .int x1).bind fun v5 =>
    some (v5, q2.2)
  )
def M_Findings_firstWordOf (F : Nat) (h : hH) (x0 : Nat) (x1 : Int32) : Option (Int32 × hH) :=
  (hIs h x0 3).bind fun u1 =>
  (M_Findings_has F h x0 x1).bind fun q2 =>
  if q2.1 = 0 then (
    some ((-1), q2.2)
  ) else (
    (hGetA q2.2 x0 3 3).bind fun v4 =>
    (hLdI q2.2 v4 .int x1).bind fun v5 =>
    some (v5, q2.2)
  )
def M_Findings_rankedAs_35 (F : Nat) (r5 : hH → Nat → Int32 → Int32 → Int32 → Int32 → Option (Int32 × hH)) (h : hH) (x0 : Nat) (x1 : Int32) (x2 : Int32) (x3 : Int32) (x4 : Int32) : Option (Int32 × hH) :=
  r5 h x0 x1 x2 x3 (x4 + 1)
def B_Findings_rankedAs_5 (F : Nat) (r5 : hH → Nat → Int32 → Int32 → Int32 → Int32 → Option (Int32 × hH)) (h : hH) (x0 : Nat) (x1 : Int32) (x2 : Int32) (x3 : Int32) (x4 : Int32) : Option (Int32 × hH) :=
  (hGetI h x0 3 4).bind fun v1 =>
  if v1 ≤ x4 then (
    some ((-1), h)
  ) else (
    (hIs h x0 3).bind fun u3 =>
    (M_Findings_outcomeOf F h x0 x4).bind fun q4 =>
    if q4.1 = x1 then (
      if x3 = x2 then (
        some (x4, q4.2)
      ) else (
        M_Findings_rankedAs_35 F r5 q4.2 x0 x1 x2 (x3 + 1) x4
      )
    ) else (
      M_Findings_rankedAs_35 F r5 q4.2 x0 x1 x2 x3 x4
    )
  )
def M_Findings_rankedAs_5 (F : Nat) : Nat → hH → Nat → Int32 → Int32 → Int32 → Int32 → Option (Int32 × hH)
  | 0 => fun _ _ _ _ _ _ => none
  | z + 1 => B_Findings_rankedAs_5 F (M_Findings_rankedAs_5 F z)
def M_Findings_rankedAs (F : Nat) (h : hH) (x0 : Nat) (x1 : Int32) (x2 : Int32) : Option (Int32 × hH) :=
  M_Findings_rankedAs_5 F F h x0 x1 x2 0 0
def M_Findings_answer (F : Nat) (h : hH) (x0 : Nat) : Option (Int32 × hH) :=
  (hIs h x0 3).bind fun u1 =>
  (M_Findings_rankedAs F h x0 1 0).bind fun q2 =>
  if q2.1 = (-1) then (
    (hIs q2.2 x0 3).bind fun u4 =>
    (M_Findings_rankedAs F q2.2 x0 2 0).bind fun q5 =>
    if q5.1 = (-1) then (
      some (0, q5.2)
    ) else (
      some ((-1), q5.2)
    )
  ) else (
    some ((1 + q2.1), q2.2)
  )
abbrev rm_Findings_init : Room := { frames := 1, cells := 4, slots := 48, locals := 12 }
set_option maxHeartbeats 4000000 in
set_option maxRecDepth 100000 in
theorem c_Findings_init (l : Launch) (D : va_G) (K : (Nat → Nat) × (Nat → Nat)) (F : Nat) {h : hH} {x0 : Nat} {q : hH} (hM : M_Findings_init F h x0 = some q) : Met l y_Findings_init (.code y_Findings_init prog_5_method_1_code 1 none :: T0) rm_Findings_init (hPc hG D cls0 K [.ref x0] h) (hQ D cls0 h none q) 4 48 (hF h) := by
  refine J_met (lv := [(0, .ref x0)]) (by decide) (Nat.le_of_ble_eq_true rfl) rfl ?_
  intro p e s m below meth c X hr hlk hnm
  have Y : HX p s m _ meth c prog_5_method_1_code 1 "LicenceTexts$Findings" D K "<init>" none h := ⟨X, hr, hlk, hnm⟩
  unfold M_Findings_init at hM
  refine J_aload_n (pc := 0) X 0 d_Findings_init_0 rfl ?_
  refine J_objInit (pc := 1) X k_16 k_1 k_2 d_Findings_init_1 (Nat.le_of_ble_eq_true rfl) (Nat.le_of_ble_eq_true rfl) ?_
  refine J_aload_n (pc := 4) X 0 d_Findings_init_4 rfl ?_
  refine J_bipush (pc := 5) (v := (12)) X d_Findings_init_5 (by decide) ?_
  refine J_newa (pc := 7) (ty := .int) (N := 12) (a0 := (12, .inl (fun _ => 0))) X rfl k_17 d_Findings_init_7 (fun _ => rfl) (fun _ _ hq => hq) (by decide) (by decide) (by decide) (Nat.le_of_ble_eq_true rfl) (Nat.le_of_ble_eq_true rfl) ?_
  obtain ⟨h1, eh1, hM⟩ := hb_some hM
  rw [Option.some.inj eh1]
  obtain ⟨h2, eh2, hM⟩ := hb_some hM
  refine J_putF (pc := 9) X hc_Findings in_Findings t_Findings tk_Findings nk_Findings 0 k_18 (by decide) rfl rfl rfl hnm d_Findings_init_9 rfl rfl rfl eh2 ?_
  refine J_aload_n (pc := 12) X 0 d_Findings_init_12 rfl ?_
  refine J_bipush (pc := 13) (v := (12)) X d_Findings_init_13 (by decide) ?_
  refine J_newa (pc := 15) (ty := .int) (N := 12) (a0 := (12, .inl (fun _ => 0))) X rfl k_17 d_Findings_init_15 (fun _ => rfl) (fun _ _ hq => hq) (by decide) (by decide) (by decide) (Nat.le_of_ble_eq_true rfl) (Nat.le_of_ble_eq_true rfl) ?_
  obtain ⟨h3, eh3, hM⟩ := hb_some hM
  rw [Option.some.inj eh3]
  obtain ⟨h4, eh4, hM⟩ := hb_some hM
  refine J_putF (pc := 17) X hc_Findings in_Findings t_Findings tk_Findings nk_Findings 1 k_19 (by decide) rfl rfl rfl hnm d_Findings_init_17 rfl rfl rfl eh4 ?_
  refine J_aload_n (pc := 20) X 0 d_Findings_init_20 rfl ?_
  refine J_bipush (pc := 21) (v := (12)) X d_Findings_init_21 (by decide) ?_
  refine J_newa (pc := 23) (ty := .int) (N := 12) (a0 := (12, .inl (fun _ => 0))) X rfl k_17 d_Findings_init_23 (fun _ => rfl) (fun _ _ hq => hq) (by decide) (by decide) (by decide) (Nat.le_of_ble_eq_true rfl) (Nat.le_of_ble_eq_true rfl) ?_
  obtain ⟨h5, eh5, hM⟩ := hb_some hM
  rw [Option.some.inj eh5]
  obtain ⟨h6, eh6, hM⟩ := hb_some hM
  refine J_putF (pc := 25) X hc_Findings in_Findings t_Findings tk_Findings nk_Findings 2 k_20 (by decide) rfl rfl rfl hnm d_Findings_init_25 rfl rfl rfl eh6 ?_
  refine J_aload_n (pc := 28) X 0 d_Findings_init_28 rfl ?_
  refine J_bipush (pc := 29) (v := (12)) X d_Findings_init_29 (by decide) ?_
  refine J_newa (pc := 31) (ty := .int) (N := 12) (a0 := (12, .inl (fun _ => 0))) X rfl k_17 d_Findings_init_31 (fun _ => rfl) (fun _ _ hq => hq) (by decide) (by decide) (by decide) (Nat.le_of_ble_eq_true rfl) (Nat.le_of_ble_eq_true rfl) ?_
  obtain ⟨h7, eh7, hM⟩ := hb_some hM
  rw [Option.some.inj eh7]
  obtain ⟨h8, eh8, hM⟩ := hb_some hM
  refine J_putF (pc := 33) X hc_Findings in_Findings t_Findings tk_Findings nk_Findings 3 k_21 (by decide) rfl rfl rfl hnm d_Findings_init_33 rfl rfl rfl eh8 ?_
  refine J_aload_n (pc := 36) X 0 d_Findings_init_36 rfl ?_
  refine J_iconst (pc := 37) (v := (0)) X d_Findings_init_37 (by decide) ?_
  obtain ⟨h9, eh9, hM⟩ := hb_some hM
  refine J_put (pc := 38) X hc_Findings in_Findings t_Findings tk_Findings nk_Findings 4 k_22 (by decide) rfl rfl d_Findings_init_38 rfl rfl rfl eh9 ?_
  obtain rfl := Option.some.inj hM
  exact J_vret (pc := 41) X hr hlk (Nat.le_of_ble_eq_true rfl) (Nat.le_of_ble_eq_true rfl) d_Findings_init_41
abbrev rm_Findings_clear : Room := { frames := 0, cells := 0, slots := 0, locals := 0 }
set_option maxHeartbeats 4000000 in
set_option maxRecDepth 100000 in
theorem c_Findings_clear (l : Launch) (D : va_G) (K : (Nat → Nat) × (Nat → Nat)) (F : Nat) {h : hH} {x0 : Nat} {q : hH} (hM : M_Findings_clear F h x0 = some q) : Met l y_Findings_clear (.code y_Findings_clear prog_5_method_2_code 1 none :: T0) rm_Findings_clear (hPc hG D cls0 K [.ref x0] h) (hQ D cls0 h none q) 0 0 (hF h) := by
  refine J_met (lv := [(0, .ref x0)]) (by decide) (Nat.le_of_ble_eq_true rfl) rfl ?_
  intro p e s m below meth c X hr hlk hnm
  have Y : HX p s m _ meth c prog_5_method_2_code 1 "LicenceTexts$Findings" D K "clear" none h := ⟨X, hr, hlk, hnm⟩
  unfold M_Findings_clear at hM
  refine J_aload_n (pc := 0) X 0 d_Findings_clear_0 rfl ?_
  refine J_iconst (pc := 1) (v := (0)) X d_Findings_clear_1 (by decide) ?_
  obtain ⟨h1, eh1, hM⟩ := hb_some hM
  refine J_put (pc := 2) X hc_Findings in_Findings t_Findings tk_Findings nk_Findings 4 k_22 (by decide) rfl rfl d_Findings_clear_2 rfl rfl rfl eh1 ?_
  obtain rfl := Option.some.inj hM
  exact J_vret (pc := 5) X hr hlk (Nat.le_of_ble_eq_true rfl) (Nat.le_of_ble_eq_true rfl) d_Findings_clear_5
abbrev rm_Findings_add : Room := { frames := 0, cells := 0, slots := 0, locals := 0 }
set_option maxHeartbeats 4000000 in
set_option maxRecDepth 100000 in
theorem c_Findings_add (l : Launch) (D : va_G) (K : (Nat → Nat) × (Nat → Nat)) (F : Nat) {h : hH} {x0 : Nat} {x1 : Int32} {x2 : Int32} {x3 : Int32} {x4 : Int32} {q : hH} (hM : M_Findings_add F h x0 x1 x2 x3 x4 = some q) : Met l y_Findings_add (.code y_Findings_add prog_5_method_3_code 5 none :: T0) rm_Findings_add (hPc hG D cls0 K [.ref x0, .int x1, .int x2, .int x3, .int x4] h) (hQ D cls0 h none q) 0 0 (hF h) := by
  refine J_met (lv := [(0, .ref x0), (1, .int x1), (2, .int x2), (3, .int x3), (4, .int x4)]) (by decide) (Nat.le_of_ble_eq_true rfl) rfl ?_
  intro p e s m below meth c X hr hlk hnm
  have Y : HX p s m _ meth c prog_5_method_3_code 5 "LicenceTexts$Findings" D K "add" none h := ⟨X, hr, hlk, hnm⟩
  unfold M_Findings_add at hM
  refine J_aload_n (pc := 0) X 0 d_Findings_add_0 rfl ?_
  obtain ⟨v1, ev1, hM⟩ := hb_some hM
  refine J_getI (pc := 1) X hc_Findings in_Findings 4 k_22 (by decide) rfl d_Findings_add_1 rfl ev1 ?_
  refine J_if_lt (pc := 4) (tgt := 67) X d_Findings_add_4 (by decide) (fun c2 => ?_) (fun c2 => ?_)
  · have hM := hif_t hM c2
    obtain rfl := Option.some.inj hM
    exact J_vret (pc := 67) X hr hlk (Nat.le_of_ble_eq_true rfl) (Nat.le_of_ble_eq_true rfl) d_Findings_add_67
  · have hM := hif_f hM c2
    refine J_aload_n (pc := 7) X 0 d_Findings_add_7 rfl ?_
    obtain ⟨v3, ev3, hM⟩ := hb_some hM
    refine J_getI (pc := 8) X hc_Findings in_Findings 4 k_22 (by decide) rfl d_Findings_add_8 rfl ev3 ?_
    refine J_bipush (pc := 11) (v := (12)) X d_Findings_add_11 (by decide) ?_
    refine J_icmp_ge (pc := 13) (tgt := 67) X d_Findings_add_13 (by decide) (fun c4 => ?_) (fun c4 => ?_)
    · have hM := hif_t hM c4
      obtain rfl := Option.some.inj hM
      exact J_vret (pc := 67) X hr hlk (Nat.le_of_ble_eq_true rfl) (Nat.le_of_ble_eq_true rfl) d_Findings_add_67
    · have hM := hif_f hM c4
      refine J_aload_n (pc := 16) X 0 d_Findings_add_16 rfl ?_
      obtain ⟨v5, ev5, hM⟩ := hb_some hM
      refine J_getA (pc := 17) X hc_Findings in_Findings 0 k_18 (by decide) rfl d_Findings_add_17 rfl ev5 ?_
      refine J_aload_n (pc := 20) X 0 d_Findings_add_20 rfl ?_
      obtain ⟨v6, ev6, hM⟩ := hb_some hM
      refine J_getI (pc := 21) X hc_Findings in_Findings 4 k_22 (by decide) rfl d_Findings_add_21 rfl ev6 ?_
      refine J_iload_n (pc := 24) X 1 d_Findings_add_24 rfl ?_
      obtain ⟨h7, eh7, hM⟩ := hb_some hM
      refine J_iast (pc := 25) X d_Findings_add_25 rfl eh7 ?_
      refine J_aload_n (pc := 26) X 0 d_Findings_add_26 rfl ?_
      obtain ⟨v8, ev8, hM⟩ := hb_some hM
      refine J_getA (pc := 27) X hc_Findings in_Findings 1 k_19 (by decide) rfl d_Findings_add_27 rfl ev8 ?_
      refine J_aload_n (pc := 30) X 0 d_Findings_add_30 rfl ?_
      obtain ⟨v9, ev9, hM⟩ := hb_some hM
      refine J_getI (pc := 31) X hc_Findings in_Findings 4 k_22 (by decide) rfl d_Findings_add_31 rfl ev9 ?_
      refine J_iload_n (pc := 34) X 2 d_Findings_add_34 rfl ?_
      obtain ⟨h10, eh10, hM⟩ := hb_some hM
      refine J_iast (pc := 35) X d_Findings_add_35 rfl eh10 ?_
      refine J_aload_n (pc := 36) X 0 d_Findings_add_36 rfl ?_
      obtain ⟨v11, ev11, hM⟩ := hb_some hM
      refine J_getA (pc := 37) X hc_Findings in_Findings 2 k_20 (by decide) rfl d_Findings_add_37 rfl ev11 ?_
      refine J_aload_n (pc := 40) X 0 d_Findings_add_40 rfl ?_
      obtain ⟨v12, ev12, hM⟩ := hb_some hM
      refine J_getI (pc := 41) X hc_Findings in_Findings 4 k_22 (by decide) rfl d_Findings_add_41 rfl ev12 ?_
      refine J_iload_n (pc := 44) X 3 d_Findings_add_44 rfl ?_
      obtain ⟨h13, eh13, hM⟩ := hb_some hM
      refine J_iast (pc := 45) X d_Findings_add_45 rfl eh13 ?_
      refine J_aload_n (pc := 46) X 0 d_Findings_add_46 rfl ?_
      obtain ⟨v14, ev14, hM⟩ := hb_some hM
      refine J_getA (pc := 47) X hc_Findings in_Findings 3 k_21 (by decide) rfl d_Findings_add_47 rfl ev14 ?_
      refine J_aload_n (pc := 50) X 0 d_Findings_add_50 rfl ?_
      obtain ⟨v15, ev15, hM⟩ := hb_some hM
      refine J_getI (pc := 51) X hc_Findings in_Findings 4 k_22 (by decide) rfl d_Findings_add_51 rfl ev15 ?_
      refine J_iload (pc := 54) X 4 d_Findings_add_54 rfl ?_
      obtain ⟨h16, eh16, hM⟩ := hb_some hM
      refine J_iast (pc := 56) X d_Findings_add_56 rfl eh16 ?_
      refine J_aload_n (pc := 57) X 0 d_Findings_add_57 rfl ?_
      refine J_dup (pc := 58) X d_Findings_add_58 rfl ?_
      obtain ⟨v17, ev17, hM⟩ := hb_some hM
      refine J_getI (pc := 59) X hc_Findings in_Findings 4 k_22 (by decide) rfl d_Findings_add_59 rfl ev17 ?_
      refine J_iconst (pc := 62) (v := (1)) X d_Findings_add_62 (by decide) ?_
      refine J_iadd (pc := 63) X d_Findings_add_63 ?_
      obtain ⟨h18, eh18, hM⟩ := hb_some hM
      refine J_put (pc := 64) X hc_Findings in_Findings t_Findings tk_Findings nk_Findings 4 k_22 (by decide) rfl rfl d_Findings_add_64 rfl rfl rfl eh18 ?_
      obtain rfl := Option.some.inj hM
      exact J_vret (pc := 67) X hr hlk (Nat.le_of_ble_eq_true rfl) (Nat.le_of_ble_eq_true rfl) d_Findings_add_67
abbrev rm_Findings_has : Room := { frames := 0, cells := 0, slots := 0, locals := 0 }
set_option maxHeartbeats 4000000 in
set_option maxRecDepth 100000 in
theorem c_Findings_has (l : Launch) (D : va_G) (K : (Nat → Nat) × (Nat → Nat)) (F : Nat) {h : hH} {x0 : Nat} {x1 : Int32} {q : (Int32 × hH)} (hM : M_Findings_has F h x0 x1 = some q) : Met l y_Findings_has (.code y_Findings_has prog_5_method_6_code 2 (some .boolean) :: T0) rm_Findings_has (hPc hG D cls0 K [.ref x0, .int x1] h) (hQ D cls0 h (some (.int q.1)) q.2) 0 0 (hF h) := by
  refine J_met (lv := [(0, .ref x0), (1, .int x1)]) (by decide) (Nat.le_of_ble_eq_true rfl) rfl ?_
  intro p e s m below meth c X hr hlk hnm
  have Y : HX p s m _ meth c prog_5_method_6_code 2 "LicenceTexts$Findings" D K "has" (some .boolean) h := ⟨X, hr, hlk, hnm⟩
  unfold M_Findings_has at hM
  refine J_iload_n (pc := 0) X 1 d_Findings_has_0 rfl ?_
  refine J_if_lt (pc := 1) (tgt := 22) X d_Findings_has_1 (by decide) (fun c1 => ?_) (fun c1 => ?_)
  · have hM := hif_t hM c1
    refine J_iconst (pc := 22) (v := (0)) X d_Findings_has_22 (by decide) ?_
    obtain rfl := Option.some.inj hM
    exact J_zret (pc := 23) X hr hz0 hlk (Nat.le_of_ble_eq_true rfl) (Nat.le_of_ble_eq_true rfl) d_Findings_has_23
  · have hM := hif_f hM c1
    refine J_iload_n (pc := 4) X 1 d_Findings_has_4 rfl ?_
    refine J_aload_n (pc := 5) X 0 d_Findings_has_5 rfl ?_
    obtain ⟨v2, ev2, hM⟩ := hb_some hM
    refine J_getI (pc := 6) X hc_Findings in_Findings 4 k_22 (by decide) rfl d_Findings_has_6 rfl ev2 ?_
    refine J_icmp_ge (pc := 9) (tgt := 22) X d_Findings_has_9 (by decide) (fun c3 => ?_) (fun c3 => ?_)
    · have hM := hif_t hM c3
      refine J_iconst (pc := 22) (v := (0)) X d_Findings_has_22 (by decide) ?_
      obtain rfl := Option.some.inj hM
      exact J_zret (pc := 23) X hr hz0 hlk (Nat.le_of_ble_eq_true rfl) (Nat.le_of_ble_eq_true rfl) d_Findings_has_23
    · have hM := hif_f hM c3
      refine J_iload_n (pc := 12) X 1 d_Findings_has_12 rfl ?_
      refine J_bipush (pc := 13) (v := (12)) X d_Findings_has_13 (by decide) ?_
      refine J_icmp_ge (pc := 15) (tgt := 22) X d_Findings_has_15 (by decide) (fun c4 => ?_) (fun c4 => ?_)
      · have hM := hif_t hM c4
        refine J_iconst (pc := 22) (v := (0)) X d_Findings_has_22 (by decide) ?_
        obtain rfl := Option.some.inj hM
        exact J_zret (pc := 23) X hr hz0 hlk (Nat.le_of_ble_eq_true rfl) (Nat.le_of_ble_eq_true rfl) d_Findings_has_23
      · have hM := hif_f hM c4
        refine J_iconst (pc := 18) (v := (1)) X d_Findings_has_18 (by decide) ?_
        refine J_goto (pc := 19) (tgt := 23) X d_Findings_has_19 (by decide) ?_
        obtain rfl := Option.some.inj hM
        exact J_zret (pc := 23) X hr hz1 hlk (Nat.le_of_ble_eq_true rfl) (Nat.le_of_ble_eq_true rfl) d_Findings_has_23
abbrev rm_Findings_outcomeOf : Room := { frames := 1, cells := 0, slots := 0, locals := 21 }
set_option maxHeartbeats 4000000 in
set_option maxRecDepth 100000 in
theorem c_Findings_outcomeOf (l : Launch) (D : va_G) (K : (Nat → Nat) × (Nat → Nat)) (F : Nat) {h : hH} {x0 : Nat} {x1 : Int32} {q : (Int32 × hH)} (hM : M_Findings_outcomeOf F h x0 x1 = some q) : Met l y_Findings_outcomeOf (.code y_Findings_outcomeOf prog_5_method_7_code 2 (some .int) :: T0) rm_Findings_outcomeOf (hPc hG D cls0 K [.ref x0, .int x1] h) (hQ D cls0 h (some (.int q.1)) q.2) 0 0 (hF h) := by
  refine J_met (lv := [(0, .ref x0), (1, .int x1)]) (by decide) (Nat.le_of_ble_eq_true rfl) rfl ?_
  intro p e s m below meth c X hr hlk hnm
  have Y : HX p s m _ meth c prog_5_method_7_code 2 "LicenceTexts$Findings" D K "outcomeOf" (some .int) h := ⟨X, hr, hlk, hnm⟩
  unfold M_Findings_outcomeOf at hM
  refine J_aload_n (pc := 0) X 0 d_Findings_outcomeOf_0 rfl ?_
  refine J_iload_n (pc := 1) X 1 d_Findings_outcomeOf_1 rfl ?_
  obtain ⟨u1, eu1, hM⟩ := hb_some hM
  obtain ⟨q2, eq2, hM⟩ := hb_some hM
  refine J_callV (pc := 2) (As := [.int x1]) (rest := []) (o := (some (.int q2.1))) (h2 := q2.2) X rfl hc_Findings eu1 (c_Findings_has l D K F eq2) (cwV_of (nA := 1) X.fix k_23 k_26 k_27 k_25 k_24 ⟨rfl, rfl, rfl⟩ (by decide +kernel) ⟨Nat.le_of_ble_eq_true rfl, Nat.le_of_ble_eq_true rfl⟩) d_Findings_outcomeOf_2 rfl rfl (Nat.le_of_ble_eq_true rfl) (Nat.le_of_ble_eq_true rfl) (Nat.le_of_ble_eq_true rfl) ?_
  refine J_if_eq (pc := 5) (tgt := 17) X d_Findings_outcomeOf_5 (by decide) (fun c3 => ?_) (fun c3 => ?_)
  · have hM := hif_t hM c3
    refine J_iconst (pc := 17) (v := (-1)) X d_Findings_outcomeOf_17 (by decide) ?_
    obtain rfl := Option.some.inj hM
    exact J_iret (pc := 18) X hr hlk (Nat.le_of_ble_eq_true rfl) (Nat.le_of_ble_eq_true rfl) d_Findings_outcomeOf_18
  · have hM := hif_f hM c3
    refine J_aload_n (pc := 8) X 0 d_Findings_outcomeOf_8 rfl ?_
    obtain ⟨v4, ev4, hM⟩ := hb_some hM
    refine J_getA (pc := 9) X hc_Findings in_Findings 0 k_18 (by decide) rfl d_Findings_outcomeOf_9 rfl ev4 ?_
    refine J_iload_n (pc := 12) X 1 d_Findings_outcomeOf_12 rfl ?_
    obtain ⟨v5, ev5, hM⟩ := hb_some hM
    refine J_iald (pc := 13) X d_Findings_outcomeOf_13 rfl ev5 ?_
    refine J_goto (pc := 14) (tgt := 18) X d_Findings_outcomeOf_14 (by decide) ?_
    obtain rfl := Option.some.inj hM
    exact J_iret (pc := 18) X hr hlk (Nat.le_of_ble_eq_true rfl) (Nat.le_of_ble_eq_true rfl) d_Findings_outcomeOf_18
abbrev rm_Findings_reasonOf : Room := { frames := 1, cells := 0, slots := 0, locals := 21 }
set_option maxHeartbeats 4000000 in
set_option maxRecDepth 100000 in
theorem c_Findings_reasonOf (l : Launch) (D : va_G) (K : (Nat → Nat) × (Nat → Nat)) (F : Nat) {h : hH} {x0 : Nat} {x1 : Int32} {q : (Int32 × hH)} (hM : M_Findings_reasonOf F h x0 x1 = some q) : Met l y_Findings_reasonOf (.code y_Findings_reasonOf prog_5_method_8_code 2 (some .int) :: T0) rm_Findings_reasonOf (hPc hG D cls0 K [.ref x0, .int x1] h) (hQ D cls0 h (some (.int q.1)) q.2) 0 0 (hF h) := by
  refine J_met (lv := [(0, .ref x0), (1, .int x1)]) (by decide) (Nat.le_of_ble_eq_true rfl) rfl ?_
  intro p e s m below meth c X hr hlk hnm
  have Y : HX p s m _ meth c prog_5_method_8_code 2 "LicenceTexts$Findings" D K "reasonOf" (some .int) h := ⟨X, hr, hlk, hnm⟩
  unfold M_Findings_reasonOf at hM
  refine J_aload_n (pc := 0) X 0 d_Findings_reasonOf_0 rfl ?_
  refine J_iload_n (pc := 1) X 1 d_Findings_reasonOf_1 rfl ?_
  obtain ⟨u1, eu1, hM⟩ := hb_some hM
  obtain ⟨q2, eq2, hM⟩ := hb_some hM
  refine J_callV (pc := 2) (As := [.int x1]) (rest := []) (o := (some (.int q2.1))) (h2 := q2.2) X rfl hc_Findings eu1 (c_Findings_has l D K F eq2) (cwV_of (nA := 1) X.fix k_23 k_26 k_27 k_25 k_24 ⟨rfl, rfl, rfl⟩ (by decide +kernel) ⟨Nat.le_of_ble_eq_true rfl, Nat.le_of_ble_eq_true rfl⟩) d_Findings_reasonOf_2 rfl rfl (Nat.le_of_ble_eq_true rfl) (Nat.le_of_ble_eq_true rfl) (Nat.le_of_ble_eq_true rfl) ?_
  refine J_if_eq (pc := 5) (tgt := 17) X d_Findings_reasonOf_5 (by decide) (fun c3 => ?_) (fun c3 => ?_)
  · have hM := hif_t hM c3
    refine J_iconst (pc := 17) (v := (-1)) X d_Findings_reasonOf_17 (by decide) ?_
    obtain rfl := Option.some.inj hM
    exact J_iret (pc := 18) X hr hlk (Nat.le_of_ble_eq_true rfl) (Nat.le_of_ble_eq_true rfl) d_Findings_reasonOf_18
  · have hM := hif_f hM c3
    refine J_aload_n (pc := 8) X 0 d_Findings_reasonOf_8 rfl ?_
    obtain ⟨v4, ev4, hM⟩ := hb_some hM
    refine J_getA (pc := 9) X hc_Findings in_Findings 1 k_19 (by decide) rfl d_Findings_reasonOf_9 rfl ev4 ?_
    refine J_iload_n (pc := 12) X 1 d_Findings_reasonOf_12 rfl ?_
    obtain ⟨v5, ev5, hM⟩ := hb_some hM
    refine J_iald (pc := 13) X d_Findings_reasonOf_13 rfl ev5 ?_
    refine J_goto (pc := 14) (tgt := 18) X d_Findings_reasonOf_14 (by decide) ?_
    obtain rfl := Option.some.inj hM
    exact J_iret (pc := 18) X hr hlk (Nat.le_of_ble_eq_true rfl) (Nat.le_of_ble_eq_true rfl) d_Findings_reasonOf_18
abbrev rm_Findings_untoldOf : Room := { frames := 1, cells := 0, slots := 0, locals := 21 }
set_option maxHeartbeats 4000000 in
set_option maxRecDepth 100000 in
theorem c_Findings_untoldOf (l : Launch) (D : va_G) (K : (Nat → Nat) × (Nat → Nat)) (F : Nat) {h : hH} {x0 : Nat} {x1 : Int32} {q : (Int32 × hH)} (hM : M_Findings_untoldOf F h x0 x1 = some q) : Met l y_Findings_untoldOf (.code y_Findings_untoldOf prog_5_method_9_code 2 (some .int) :: T0) rm_Findings_untoldOf (hPc hG D cls0 K [.ref x0, .int x1] h) (hQ D cls0 h (some (.int q.1)) q.2) 0 0 (hF h) := by
  refine J_met (lv := [(0, .ref x0), (1, .int x1)]) (by decide) (Nat.le_of_ble_eq_true rfl) rfl ?_
  intro p e s m below meth c X hr hlk hnm
  have Y : HX p s m _ meth c prog_5_method_9_code 2 "LicenceTexts$Findings" D K "untoldOf" (some .int) h := ⟨X, hr, hlk, hnm⟩
  unfold M_Findings_untoldOf at hM
  refine J_aload_n (pc := 0) X 0 d_Findings_untoldOf_0 rfl ?_
  refine J_iload_n (pc := 1) X 1 d_Findings_untoldOf_1 rfl ?_
  obtain ⟨u1, eu1, hM⟩ := hb_some hM
  obtain ⟨q2, eq2, hM⟩ := hb_some hM
  refine J_callV (pc := 2) (As := [.int x1]) (rest := []) (o := (some (.int q2.1))) (h2 := q2.2) X rfl hc_Findings eu1 (c_Findings_has l D K F eq2) (cwV_of (nA := 1) X.fix k_23 k_26 k_27 k_25 k_24 ⟨rfl, rfl, rfl⟩ (by decide +kernel) ⟨Nat.le_of_ble_eq_true rfl, Nat.le_of_ble_eq_true rfl⟩) d_Findings_untoldOf_2 rfl rfl (Nat.le_of_ble_eq_true rfl) (Nat.le_of_ble_eq_true rfl) (Nat.le_of_ble_eq_true rfl) ?_
  refine J_if_eq (pc := 5) (tgt := 17) X d_Findings_untoldOf_5 (by decide) (fun c3 => ?_) (fun c3 => ?_)
  · have hM := hif_t hM c3
    refine J_iconst (pc := 17) (v := (-1)) X d_Findings_untoldOf_17 (by decide) ?_
    obtain rfl := Option.some.inj hM
    exact J_iret (pc := 18) X hr hlk (Nat.le_of_ble_eq_true rfl) (Nat.le_of_ble_eq_true rfl) d_Findings_untoldOf_18
  · have hM := hif_f hM c3
    refine J_aload_n (pc := 8) X 0 d_Findings_untoldOf_8 rfl ?_
    obtain ⟨v4, ev4, hM⟩ := hb_some hM
    refine J_getA (pc := 9) X hc_Findings in_Findings 2 k_20 (by decide) rfl d_Findings_untoldOf_9 rfl ev4 ?_
    refine J_iload_n (pc := 12) X 1 d_Findings_untoldOf_12 rfl ?_
    obtain ⟨v5, ev5, hM⟩ := hb_some hM
    refine J_iald (pc := 13) X d_Findings_untoldOf_13 rfl ev5 ?_
    refine J_goto (pc := 14) (tgt := 18) X d_Findings_untoldOf_14 (by decide) ?_
    obtain rfl := Option.some.inj hM
    exact J_iret (pc := 18) X hr hlk (Nat.le_of_ble_eq_true rfl) (Nat.le_of_ble_eq_true rfl) d_Findings_untoldOf_18
abbrev rm_Findings_firstWordOf : Room := { frames := 1, cells := 0, slots := 0, locals := 21 }
set_option maxHeartbeats 4000000 in
set_option maxRecDepth 100000 in
theorem c_Findings_firstWordOf (l : Launch) (D : va_G) (K : (Nat → Nat) × (Nat → Nat)) (F : Nat) {h : hH} {x0 : Nat} {x1 : Int32} {q : (Int32 × hH)} (hM : M_Findings_firstWordOf F h x0 x1 = some q) : Met l y_Findings_firstWordOf (.code y_Findings_firstWordOf prog_5_method_10_code 2 (some .int) :: T0) rm_Findings_firstWordOf (hPc hG D cls0 K [.ref x0, .int x1] h) (hQ D cls0 h (some (.int q.1)) q.2) 0 0 (hF h) := by
  refine J_met (lv := [(0, .ref x0), (1, .int x1)]) (by decide) (Nat.le_of_ble_eq_true rfl) rfl ?_
  intro p e s m below meth c X hr hlk hnm
  have Y : HX p s m _ meth c prog_5_method_10_code 2 "LicenceTexts$Findings" D K "firstWordOf" (some .int) h := ⟨X, hr, hlk, hnm⟩
  unfold M_Findings_firstWordOf at hM
  refine J_aload_n (pc := 0) X 0 d_Findings_firstWordOf_0 rfl ?_
  refine J_iload_n (pc := 1) X 1 d_Findings_firstWordOf_1 rfl ?_
  obtain ⟨u1, eu1, hM⟩ := hb_some hM
  obtain ⟨q2, eq2, hM⟩ := hb_some hM
  refine J_callV (pc := 2) (As := [.int x1]) (rest := []) (o := (some (.int q2.1))) (h2 := q2.2) X rfl hc_Findings eu1 (c_Findings_has l D K F eq2) (cwV_of (nA := 1) X.fix k_23 k_26 k_27 k_25 k_24 ⟨rfl, rfl, rfl⟩ (by decide +kernel) ⟨Nat.le_of_ble_eq_true rfl, Nat.le_of_ble_eq_true rfl⟩) d_Findings_firstWordOf_2 rfl rfl (Nat.le_of_ble_eq_true rfl) (Nat.le_of_ble_eq_true rfl) (Nat.le_of_ble_eq_true rfl) ?_
  refine J_if_eq (pc := 5) (tgt := 17) X d_Findings_firstWordOf_5 (by decide) (fun c3 => ?_) (fun c3 => ?_)
  · have hM := hif_t hM c3
    refine J_iconst (pc := 17) (v := (-1)) X d_Findings_firstWordOf_17 (by decide) ?_
    obtain rfl := Option.some.inj hM
    exact J_iret (pc := 18) X hr hlk (Nat.le_of_ble_eq_true rfl) (Nat.le_of_ble_eq_true rfl) d_Findings_firstWordOf_18
  · have hM := hif_f hM c3
    refine J_aload_n (pc := 8) X 0 d_Findings_firstWordOf_8 rfl ?_
    obtain ⟨v4, ev4, hM⟩ := hb_some hM
    refine J_getA (pc := 9) X hc_Findings in_Findings 3 k_21 (by decide) rfl d_Findings_firstWordOf_9 rfl ev4 ?_
    refine J_iload_n (pc := 12) X 1 d_Findings_firstWordOf_12 rfl ?_
    obtain ⟨v5, ev5, hM⟩ := hb_some hM
    refine J_iald (pc := 13) X d_Findings_firstWordOf_13 rfl ev5 ?_
    refine J_goto (pc := 14) (tgt := 18) X d_Findings_firstWordOf_14 (by decide) ?_
    obtain rfl := Option.some.inj hM
    exact J_iret (pc := 18) X hr hlk (Nat.le_of_ble_eq_true rfl) (Nat.le_of_ble_eq_true rfl) d_Findings_firstWordOf_18
abbrev rm_Findings_rankedAs : Room := { frames := 2, cells := 0, slots := 0, locals := 42 }
set_option maxHeartbeats 4000000 in
set_option maxRecDepth 100000 in
theorem w_Findings_rankedAs_35 {p : Program} {l : Launch} {e : Env} {s : State} {m : MethodId} {args : Array Value} {below : List Frame} {meth : Method} {c : Code} {D : va_G} {K : (Nat → Nat) × (Nat → Nat)} {h0 : hH} (Y : HX p s m args meth c prog_5_method_5_code 5 "LicenceTexts$Findings" D K "rankedAs" (some .int) h0) {F : Nat} {r5 : hH → Nat → Int32 → Int32 → Int32 → Int32 → Option (Int32 × hH)} (R5 : ∀ (h : hH) (x0 : Nat) (x1 : Int32) (x2 : Int32) (x3 : Int32) (x4 : Int32) (q : (Int32 × hH)), r5 h x0 x1 x2 x3 x4 = some q → J p l e rm_Findings_rankedAs s m args below meth c 5 D cls0 (hF h0) h [(0, .ref x0), (1, .int x1), (2, .int x2), (3, .int x3), (4, .int x4)] 0 0 (MQ below (hQ D cls0 h0 (some (.int q.1)) q.2) args s 0 0 (hF h0)) 5 []) (h : hH) (x0 : Nat) (x1 : Int32) (x2 : Int32) (x3 : Int32) (x4 : Int32) (q : (Int32 × hH)) (hM : M_Findings_rankedAs_35 F r5 h x0 x1 x2 x3 x4 = some q) : J p l e rm_Findings_rankedAs s m args below meth c 5 D cls0 (hF h0) h [(0, .ref x0), (1, .int x1), (2, .int x2), (3, .int x3), (4, .int x4)] 0 0 (MQ below (hQ D cls0 h0 (some (.int q.1)) q.2) args s 0 0 (hF h0)) 35 [] := by
  obtain ⟨X, hr, hlk, hnm⟩ := id Y
  unfold M_Findings_rankedAs_35 at hM
  refine J_iinc (pc := 35) (v := x4 + 1) (lv' := [(4, .int (x4 + 1)), (0, .ref x0), (1, .int x1), (2, .int x2), (3, .int x3)]) X 4 d_Findings_rankedAs_35 rfl rfl (by decide) rfl ?_
  refine J_goto (pc := 38) (tgt := 5) X d_Findings_rankedAs_38 (by decide) ?_
  refine J_sub [1, 2, 3, 4, 0] rfl ?_
  exact R5 _ _ _ _ _ _ _ hM
set_option maxHeartbeats 4000000 in
set_option maxRecDepth 100000 in
theorem b_Findings_rankedAs_5 {p : Program} {l : Launch} {e : Env} {s : State} {m : MethodId} {args : Array Value} {below : List Frame} {meth : Method} {c : Code} {D : va_G} {K : (Nat → Nat) × (Nat → Nat)} {h0 : hH} (Y : HX p s m args meth c prog_5_method_5_code 5 "LicenceTexts$Findings" D K "rankedAs" (some .int) h0) {F : Nat}   {r5 : hH → Nat → Int32 → Int32 → Int32 → Int32 → Option (Int32 × hH)} (R5 : ∀ (h : hH) (x0 : Nat) (x1 : Int32) (x2 : Int32) (x3 : Int32) (x4 : Int32) (q : (Int32 × hH)), r5 h x0 x1 x2 x3 x4 = some q → J p l e rm_Findings_rankedAs s m args below meth c 5 D cls0 (hF h0) h [(0, .ref x0), (1, .int x1), (2, .int x2), (3, .int x3), (4, .int x4)] 0 0 (MQ below (hQ D cls0 h0 (some (.int q.1)) q.2) args s 0 0 (hF h0)) 5 []) : ∀ (h : hH) (x0 : Nat) (x1 : Int32) (x2 : Int32) (x3 : Int32) (x4 : Int32) (q : (Int32 × hH)), B_Findings_rankedAs_5 F r5 h x0 x1 x2 x3 x4 = some q → J p l e rm_Findings_rankedAs s m args below meth c 5 D cls0 (hF h0) h [(0, .ref x0), (1, .int x1), (2, .int x2), (3, .int x3), (4, .int x4)] 0 0 (MQ below (hQ D cls0 h0 (some (.int q.1)) q.2) args s 0 0 (hF h0)) 5 [] := by
  intro h x0 x1 x2 x3 x4 q hM
  obtain ⟨X, hr, hlk, hnm⟩ := id Y
  unfold B_Findings_rankedAs_5 at hM
  refine J_iload (pc := 5) X 4 d_Findings_rankedAs_5 rfl ?_
  refine J_aload_n (pc := 7) X 0 d_Findings_rankedAs_7 rfl ?_
  obtain ⟨v1, ev1, hM⟩ := hb_some hM
  refine J_getI (pc := 8) X hc_Findings in_Findings 4 k_22 (by decide) rfl d_Findings_rankedAs_8 rfl ev1 ?_
  refine J_icmp_ge (pc := 11) (tgt := 41) X d_Findings_rankedAs_11 (by decide) (fun c2 => ?_) (fun c2 => ?_)
  · have hM := hif_t hM c2
    refine J_iconst (pc := 41) (v := (-1)) X d_Findings_rankedAs_41 (by decide) ?_
    obtain rfl := Option.some.inj hM
    exact J_iret (pc := 42) X hr hlk (Nat.le_of_ble_eq_true rfl) (Nat.le_of_ble_eq_true rfl) d_Findings_rankedAs_42
  · have hM := hif_f hM c2
    refine J_aload_n (pc := 14) X 0 d_Findings_rankedAs_14 rfl ?_
    refine J_iload (pc := 15) X 4 d_Findings_rankedAs_15 rfl ?_
    obtain ⟨u3, eu3, hM⟩ := hb_some hM
    obtain ⟨q4, eq4, hM⟩ := hb_some hM
    refine J_callV (pc := 17) (As := [.int x4]) (rest := []) (o := (some (.int q4.1))) (h2 := q4.2) X rfl hc_Findings eu3 (c_Findings_outcomeOf l D K F eq4) (cwV_of (nA := 1) X.fix k_28 k_30 k_31 k_25 k_29 ⟨rfl, rfl, rfl⟩ (by decide +kernel) ⟨Nat.le_of_ble_eq_true rfl, Nat.le_of_ble_eq_true rfl⟩) d_Findings_rankedAs_17 rfl rfl (Nat.le_of_ble_eq_true rfl) (Nat.le_of_ble_eq_true rfl) (Nat.le_of_ble_eq_true rfl) ?_
    refine J_iload_n (pc := 20) X 1 d_Findings_rankedAs_20 rfl ?_
    refine J_icmp_ne (pc := 21) (tgt := 35) X d_Findings_rankedAs_21 (by decide) (fun c5 => ?_) (fun c5 => ?_)
    · have hM := hif_f hM c5
      exact w_Findings_rankedAs_35 Y R5 _ _ _ _ _ _ _ hM
    · have hM := hif_t hM c5
      refine J_iload_n (pc := 24) X 3 d_Findings_rankedAs_24 rfl ?_
      refine J_iload_n (pc := 25) X 2 d_Findings_rankedAs_25 rfl ?_
      refine J_icmp_ne (pc := 26) (tgt := 32) X d_Findings_rankedAs_26 (by decide) (fun c6 => ?_) (fun c6 => ?_)
      · have hM := hif_f hM c6
        refine J_iinc (pc := 32) (v := x3 + 1) (lv' := [(3, .int (x3 + 1)), (0, .ref x0), (1, .int x1), (2, .int x2), (4, .int x4)]) X 3 d_Findings_rankedAs_32 rfl rfl (by decide) rfl ?_
        refine J_sub [1, 2, 3, 0, 4] rfl ?_
        exact w_Findings_rankedAs_35 Y R5 _ _ _ _ _ _ _ hM
      · have hM := hif_t hM c6
        refine J_iload (pc := 29) X 4 d_Findings_rankedAs_29 rfl ?_
        obtain rfl := Option.some.inj hM
        exact J_iret (pc := 31) X hr hlk (Nat.le_of_ble_eq_true rfl) (Nat.le_of_ble_eq_true rfl) d_Findings_rankedAs_31
theorem w_Findings_rankedAs_5 {p : Program} {l : Launch} {e : Env} {s : State} {m : MethodId} {args : Array Value} {below : List Frame} {meth : Method} {c : Code} {D : va_G} {K : (Nat → Nat) × (Nat → Nat)} {h0 : hH} (Y : HX p s m args meth c prog_5_method_5_code 5 "LicenceTexts$Findings" D K "rankedAs" (some .int) h0) {F : Nat} : ∀ z : Nat, ∀ (h : hH) (x0 : Nat) (x1 : Int32) (x2 : Int32) (x3 : Int32) (x4 : Int32) (q : (Int32 × hH)), M_Findings_rankedAs_5 F z h x0 x1 x2 x3 x4 = some q → J p l e rm_Findings_rankedAs s m args below meth c 5 D cls0 (hF h0) h [(0, .ref x0), (1, .int x1), (2, .int x2), (3, .int x3), (4, .int x4)] 0 0 (MQ below (hQ D cls0 h0 (some (.int q.1)) q.2) args s 0 0 (hF h0)) 5 [] := by
  intro z
  induction z with
  | zero => intro h x0 x1 x2 x3 x4 q hM; exact absurd (show (none : Option _) = some q from hM) (fun t => by cases t)
  | succ z ih => exact b_Findings_rankedAs_5 Y ih
set_option maxHeartbeats 4000000 in
set_option maxRecDepth 100000 in
theorem c_Findings_rankedAs (l : Launch) (D : va_G) (K : (Nat → Nat) × (Nat → Nat)) (F : Nat) {h : hH} {x0 : Nat} {x1 : Int32} {x2 : Int32} {q : (Int32 × hH)} (hM : M_Findings_rankedAs F h x0 x1 x2 = some q) : Met l y_Findings_rankedAs (.code y_Findings_rankedAs prog_5_method_5_code 5 (some .int) :: T0) rm_Findings_rankedAs (hPc hG D cls0 K [.ref x0, .int x1, .int x2] h) (hQ D cls0 h (some (.int q.1)) q.2) 0 0 (hF h) := by
  refine J_met (lv := [(0, .ref x0), (1, .int x1), (2, .int x2)]) (by decide) (Nat.le_of_ble_eq_true rfl) rfl ?_
  intro p e s m below meth c X hr hlk hnm
  have Y : HX p s m _ meth c prog_5_method_5_code 5 "LicenceTexts$Findings" D K "rankedAs" (some .int) h := ⟨X, hr, hlk, hnm⟩
  unfold M_Findings_rankedAs at hM
  refine J_iconst (pc := 0) (v := (0)) X d_Findings_rankedAs_0 (by decide) ?_
  refine J_istore_n (pc := 1) (lv' := [(3, .int 0), (0, .ref x0), (1, .int x1), (2, .int x2)]) X d_Findings_rankedAs_1 rfl (by decide) rfl ?_
  refine J_iconst (pc := 2) (v := (0)) X d_Findings_rankedAs_2 (by decide) ?_
  refine J_istore (pc := 3) (lv' := [(4, .int 0), (3, .int 0), (0, .ref x0), (1, .int x1), (2, .int x2)]) X d_Findings_rankedAs_3 (by decide) rfl ?_
  refine J_sub [2, 3, 4, 1, 0] rfl ?_
  exact w_Findings_rankedAs_5 Y F _ _ _ _ _ _ _ hM
abbrev rm_Findings_answer : Room := { frames := 3, cells := 0, slots := 0, locals := 66 }
set_option maxHeartbeats 4000000 in
set_option maxRecDepth 100000 in
theorem c_Findings_answer (l : Launch) (D : va_G) (K : (Nat → Nat) × (Nat → Nat)) (F : Nat) {h : hH} {x0 : Nat} {q : (Int32 × hH)} (hM : M_Findings_answer F h x0 = some q) : Met l y_Findings_answer (.code y_Findings_answer prog_5_method_4_code 2 (some .int) :: T0) rm_Findings_answer (hPc hG D cls0 K [.ref x0] h) (hQ D cls0 h (some (.int q.1)) q.2) 0 0 (hF h) := by
  refine J_met (lv := [(0, .ref x0)]) (by decide) (Nat.le_of_ble_eq_true rfl) rfl ?_
  intro p e s m below meth c X hr hlk hnm
  have Y : HX p s m _ meth c prog_5_method_4_code 2 "LicenceTexts$Findings" D K "answer" (some .int) h := ⟨X, hr, hlk, hnm⟩
  unfold M_Findings_answer at hM
  refine J_aload_n (pc := 0) X 0 d_Findings_answer_0 rfl ?_
  refine J_iconst (pc := 1) (v := (1)) X d_Findings_answer_1 (by decide) ?_
  refine J_iconst (pc := 2) (v := (0)) X d_Findings_answer_2 (by decide) ?_
  obtain ⟨u1, eu1, hM⟩ := hb_some hM
  obtain ⟨q2, eq2, hM⟩ := hb_some hM
  refine J_callV (pc := 3) (As := [.int 1, .int 0]) (rest := []) (o := (some (.int q2.1))) (h2 := q2.2) X rfl hc_Findings eu1 (c_Findings_rankedAs l D K F eq2) (cwV_of (nA := 2) X.fix k_32 k_34 k_35 k_25 k_33 ⟨rfl, rfl, rfl⟩ (by decide +kernel) ⟨Nat.le_of_ble_eq_true rfl, Nat.le_of_ble_eq_true rfl⟩) d_Findings_answer_3 rfl rfl (Nat.le_of_ble_eq_true rfl) (Nat.le_of_ble_eq_true rfl) (Nat.le_of_ble_eq_true rfl) ?_
  refine J_istore_n (pc := 6) (lv' := [(1, .int q2.1), (0, .ref x0)]) X d_Findings_answer_6 rfl (by decide) rfl ?_
  refine J_iload_n (pc := 7) X 0 d_Findings_answer_7 rfl ?_
  refine J_iconst (pc := 8) (v := (-1)) X d_Findings_answer_8 (by decide) ?_
  refine J_icmp_eq (pc := 9) (tgt := 16) X d_Findings_answer_9 (by decide) (fun c3 => ?_) (fun c3 => ?_)
  · have hM := hif_t hM c3
    refine J_aload_n (pc := 16) X 1 d_Findings_answer_16 rfl ?_
    refine J_iconst (pc := 17) (v := (2)) X d_Findings_answer_17 (by decide) ?_
    refine J_iconst (pc := 18) (v := (0)) X d_Findings_answer_18 (by decide) ?_
    obtain ⟨u4, eu4, hM⟩ := hb_some hM
    obtain ⟨q5, eq5, hM⟩ := hb_some hM
    refine J_callV (pc := 19) (As := [.int 2, .int 0]) (rest := []) (o := (some (.int q5.1))) (h2 := q5.2) X rfl hc_Findings eu4 (c_Findings_rankedAs l D K F eq5) (cwV_of (nA := 2) X.fix k_32 k_34 k_35 k_25 k_33 ⟨rfl, rfl, rfl⟩ (by decide +kernel) ⟨Nat.le_of_ble_eq_true rfl, Nat.le_of_ble_eq_true rfl⟩) d_Findings_answer_19 rfl rfl (Nat.le_of_ble_eq_true rfl) (Nat.le_of_ble_eq_true rfl) (Nat.le_of_ble_eq_true rfl) ?_
    refine J_iconst (pc := 22) (v := (-1)) X d_Findings_answer_22 (by decide) ?_
    refine J_icmp_ne (pc := 23) (tgt := 30) X d_Findings_answer_23 (by decide) (fun c6 => ?_) (fun c6 => ?_)
    · have hM := hif_f hM c6
      refine J_iconst (pc := 30) (v := (-1)) X d_Findings_answer_30 (by decide) ?_
      obtain rfl := Option.some.inj hM
      exact J_iret (pc := 31) X hr hlk (Nat.le_of_ble_eq_true rfl) (Nat.le_of_ble_eq_true rfl) d_Findings_answer_31
    · have hM := hif_t hM c6
      refine J_iconst (pc := 26) (v := (0)) X d_Findings_answer_26 (by decide) ?_
      refine J_goto (pc := 27) (tgt := 31) X d_Findings_answer_27 (by decide) ?_
      obtain rfl := Option.some.inj hM
      exact J_iret (pc := 31) X hr hlk (Nat.le_of_ble_eq_true rfl) (Nat.le_of_ble_eq_true rfl) d_Findings_answer_31
  · have hM := hif_f hM c3
    refine J_iconst (pc := 12) (v := (1)) X d_Findings_answer_12 (by decide) ?_
    refine J_iload_n (pc := 13) X 0 d_Findings_answer_13 rfl ?_
    refine J_iadd (pc := 14) X d_Findings_answer_14 ?_
    obtain rfl := Option.some.inj hM
    exact J_iret (pc := 15) X hr hlk (Nat.le_of_ble_eq_true rfl) (Nat.le_of_ble_eq_true rfl) d_Findings_answer_15
