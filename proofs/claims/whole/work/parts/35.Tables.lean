theorem d_Tables_init_0 : decode prog_10_method_1_code 0 = .ok (.aload_n 0, 1) := by decide +kernel
theorem d_Tables_init_1 : decode prog_10_method_1_code 1 = .ok (.invokespecial 3, 3) := by decide +kernel
theorem d_Tables_init_4 : decode prog_10_method_1_code 4 = .ok (.aload_n 0, 1) := by decide +kernel
theorem d_Tables_init_5 : decode prog_10_method_1_code 5 = .ok (.bipush 80, 2) := by decide +kernel
theorem d_Tables_init_7 : decode prog_10_method_1_code 7 = .ok (.newarray .int, 2) := by decide +kernel
theorem d_Tables_init_9 : decode prog_10_method_1_code 9 = .ok (.putfield 11, 3) := by decide +kernel
theorem d_Tables_init_12 : decode prog_10_method_1_code 12 = .ok (.aload_n 0, 1) := by decide +kernel
theorem d_Tables_init_13 : decode prog_10_method_1_code 13 = .ok (.bipush 8, 2) := by decide +kernel
theorem d_Tables_init_15 : decode prog_10_method_1_code 15 = .ok (.newarray .int, 2) := by decide +kernel
theorem d_Tables_init_17 : decode prog_10_method_1_code 17 = .ok (.putfield 15, 3) := by decide +kernel
theorem d_Tables_init_20 : decode prog_10_method_1_code 20 = .ok (.aload_n 0, 1) := by decide +kernel
theorem d_Tables_init_21 : decode prog_10_method_1_code 21 = .ok (.iconst 0, 1) := by decide +kernel
theorem d_Tables_init_22 : decode prog_10_method_1_code 22 = .ok (.putfield 18, 3) := by decide +kernel
theorem d_Tables_init_25 : decode prog_10_method_1_code 25 = .ok (.return_, 1) := by decide +kernel
theorem d_Tables_begin_0 : decode prog_10_method_2_code 0 = .ok (.aload_n 0, 1) := by decide +kernel
theorem d_Tables_begin_1 : decode prog_10_method_2_code 1 = .ok (.getfield 18, 3) := by decide +kernel
theorem d_Tables_begin_4 : decode prog_10_method_2_code 4 = .ok (.ifCond .lt 15, 3) := by decide +kernel
theorem d_Tables_begin_19 : decode prog_10_method_2_code 19 = .ok (.iconst 0, 1) := by decide +kernel
theorem d_Tables_begin_20 : decode prog_10_method_2_code 20 = .ok (.ireturn, 1) := by decide +kernel
theorem d_Tables_begin_7 : decode prog_10_method_2_code 7 = .ok (.aload_n 0, 1) := by decide +kernel
theorem d_Tables_begin_8 : decode prog_10_method_2_code 8 = .ok (.getfield 18, 3) := by decide +kernel
theorem d_Tables_begin_11 : decode prog_10_method_2_code 11 = .ok (.aload_n 0, 1) := by decide +kernel
theorem d_Tables_begin_12 : decode prog_10_method_2_code 12 = .ok (.getfield 15, 3) := by decide +kernel
theorem d_Tables_begin_15 : decode prog_10_method_2_code 15 = .ok (.arraylength, 1) := by decide +kernel
theorem d_Tables_begin_16 : decode prog_10_method_2_code 16 = .ok (.if_icmp .lt 5, 3) := by decide +kernel
theorem d_Tables_begin_21 : decode prog_10_method_2_code 21 = .ok (.aload_n 0, 1) := by decide +kernel
theorem d_Tables_begin_22 : decode prog_10_method_2_code 22 = .ok (.getfield 15, 3) := by decide +kernel
theorem d_Tables_begin_25 : decode prog_10_method_2_code 25 = .ok (.aload_n 0, 1) := by decide +kernel
theorem d_Tables_begin_26 : decode prog_10_method_2_code 26 = .ok (.getfield 18, 3) := by decide +kernel
theorem d_Tables_begin_29 : decode prog_10_method_2_code 29 = .ok (.iconst 0, 1) := by decide +kernel
theorem d_Tables_begin_30 : decode prog_10_method_2_code 30 = .ok (.iastore, 1) := by decide +kernel
theorem d_Tables_begin_31 : decode prog_10_method_2_code 31 = .ok (.aload_n 0, 1) := by decide +kernel
theorem d_Tables_begin_32 : decode prog_10_method_2_code 32 = .ok (.dup, 1) := by decide +kernel
theorem d_Tables_begin_33 : decode prog_10_method_2_code 33 = .ok (.getfield 18, 3) := by decide +kernel
theorem d_Tables_begin_36 : decode prog_10_method_2_code 36 = .ok (.iconst 1, 1) := by decide +kernel
theorem d_Tables_begin_37 : decode prog_10_method_2_code 37 = .ok (.iadd, 1) := by decide +kernel
theorem d_Tables_begin_38 : decode prog_10_method_2_code 38 = .ok (.putfield 18, 3) := by decide +kernel
theorem d_Tables_begin_41 : decode prog_10_method_2_code 41 = .ok (.iconst 1, 1) := by decide +kernel
theorem d_Tables_begin_42 : decode prog_10_method_2_code 42 = .ok (.ireturn, 1) := by decide +kernel
theorem d_Tables_lastSize_0 : decode prog_10_method_3_code 0 = .ok (.aload_n 0, 1) := by decide +kernel
theorem d_Tables_lastSize_1 : decode prog_10_method_3_code 1 = .ok (.getfield 18, 3) := by decide +kernel
theorem d_Tables_lastSize_4 : decode prog_10_method_3_code 4 = .ok (.iconst 1, 1) := by decide +kernel
theorem d_Tables_lastSize_5 : decode prog_10_method_3_code 5 = .ok (.isub, 1) := by decide +kernel
theorem d_Tables_lastSize_6 : decode prog_10_method_3_code 6 = .ok (.istore_n 1, 1) := by decide +kernel
theorem d_Tables_lastSize_7 : decode prog_10_method_3_code 7 = .ok (.iload_n 1, 1) := by decide +kernel
theorem d_Tables_lastSize_8 : decode prog_10_method_3_code 8 = .ok (.ifCond .lt 21, 3) := by decide +kernel
theorem d_Tables_lastSize_29 : decode prog_10_method_3_code 29 = .ok (.iconst 0, 1) := by decide +kernel
theorem d_Tables_lastSize_30 : decode prog_10_method_3_code 30 = .ok (.ireturn, 1) := by decide +kernel
theorem d_Tables_lastSize_11 : decode prog_10_method_3_code 11 = .ok (.iload_n 1, 1) := by decide +kernel
theorem d_Tables_lastSize_12 : decode prog_10_method_3_code 12 = .ok (.aload_n 0, 1) := by decide +kernel
theorem d_Tables_lastSize_13 : decode prog_10_method_3_code 13 = .ok (.getfield 15, 3) := by decide +kernel
theorem d_Tables_lastSize_16 : decode prog_10_method_3_code 16 = .ok (.arraylength, 1) := by decide +kernel
theorem d_Tables_lastSize_17 : decode prog_10_method_3_code 17 = .ok (.if_icmp .ge 12, 3) := by decide +kernel
theorem d_Tables_lastSize_20 : decode prog_10_method_3_code 20 = .ok (.aload_n 0, 1) := by decide +kernel
theorem d_Tables_lastSize_21 : decode prog_10_method_3_code 21 = .ok (.getfield 15, 3) := by decide +kernel
theorem d_Tables_lastSize_24 : decode prog_10_method_3_code 24 = .ok (.iload_n 1, 1) := by decide +kernel
theorem d_Tables_lastSize_25 : decode prog_10_method_3_code 25 = .ok (.iaload, 1) := by decide +kernel
theorem d_Tables_lastSize_26 : decode prog_10_method_3_code 26 = .ok (.goto 4, 3) := by decide +kernel
theorem d_Tables_addNumber_0 : decode prog_10_method_5_code 0 = .ok (.aload_n 0, 1) := by decide +kernel
theorem d_Tables_addNumber_1 : decode prog_10_method_5_code 1 = .ok (.getfield 18, 3) := by decide +kernel
theorem d_Tables_addNumber_4 : decode prog_10_method_5_code 4 = .ok (.iconst 1, 1) := by decide +kernel
theorem d_Tables_addNumber_5 : decode prog_10_method_5_code 5 = .ok (.isub, 1) := by decide +kernel
theorem d_Tables_addNumber_6 : decode prog_10_method_5_code 6 = .ok (.istore_n 2, 1) := by decide +kernel
theorem d_Tables_addNumber_7 : decode prog_10_method_5_code 7 = .ok (.aload_n 0, 1) := by decide +kernel
theorem d_Tables_addNumber_8 : decode prog_10_method_5_code 8 = .ok (.invokevirtual 22, 3) := by decide +kernel
theorem d_Tables_addNumber_11 : decode prog_10_method_5_code 11 = .ok (.istore_n 3, 1) := by decide +kernel
theorem d_Tables_addNumber_12 : decode prog_10_method_5_code 12 = .ok (.iload_n 2, 1) := by decide +kernel
theorem d_Tables_addNumber_13 : decode prog_10_method_5_code 13 = .ok (.bipush 10, 2) := by decide +kernel
theorem d_Tables_addNumber_15 : decode prog_10_method_5_code 15 = .ok (.imul, 1) := by decide +kernel
theorem d_Tables_addNumber_16 : decode prog_10_method_5_code 16 = .ok (.iload_n 3, 1) := by decide +kernel
theorem d_Tables_addNumber_17 : decode prog_10_method_5_code 17 = .ok (.iadd, 1) := by decide +kernel
theorem d_Tables_addNumber_18 : decode prog_10_method_5_code 18 = .ok (.istore 4, 2) := by decide +kernel
theorem d_Tables_addNumber_20 : decode prog_10_method_5_code 20 = .ok (.iload_n 2, 1) := by decide +kernel
theorem d_Tables_addNumber_21 : decode prog_10_method_5_code 21 = .ok (.ifCond .lt 33, 3) := by decide +kernel
theorem d_Tables_addNumber_54 : decode prog_10_method_5_code 54 = .ok (.iconst 0, 1) := by decide +kernel
theorem d_Tables_addNumber_55 : decode prog_10_method_5_code 55 = .ok (.ireturn, 1) := by decide +kernel
theorem d_Tables_addNumber_24 : decode prog_10_method_5_code 24 = .ok (.iload_n 2, 1) := by decide +kernel
theorem d_Tables_addNumber_25 : decode prog_10_method_5_code 25 = .ok (.aload_n 0, 1) := by decide +kernel
theorem d_Tables_addNumber_26 : decode prog_10_method_5_code 26 = .ok (.getfield 15, 3) := by decide +kernel
theorem d_Tables_addNumber_29 : decode prog_10_method_5_code 29 = .ok (.arraylength, 1) := by decide +kernel
theorem d_Tables_addNumber_30 : decode prog_10_method_5_code 30 = .ok (.if_icmp .ge 24, 3) := by decide +kernel
theorem d_Tables_addNumber_33 : decode prog_10_method_5_code 33 = .ok (.iload_n 3, 1) := by decide +kernel
theorem d_Tables_addNumber_34 : decode prog_10_method_5_code 34 = .ok (.bipush 10, 2) := by decide +kernel
theorem d_Tables_addNumber_36 : decode prog_10_method_5_code 36 = .ok (.if_icmp .ge 18, 3) := by decide +kernel
theorem d_Tables_addNumber_39 : decode prog_10_method_5_code 39 = .ok (.iload 4, 2) := by decide +kernel
theorem d_Tables_addNumber_41 : decode prog_10_method_5_code 41 = .ok (.ifCond .lt 13, 3) := by decide +kernel
theorem d_Tables_addNumber_44 : decode prog_10_method_5_code 44 = .ok (.iload 4, 2) := by decide +kernel
theorem d_Tables_addNumber_46 : decode prog_10_method_5_code 46 = .ok (.aload_n 0, 1) := by decide +kernel
theorem d_Tables_addNumber_47 : decode prog_10_method_5_code 47 = .ok (.getfield 11, 3) := by decide +kernel
theorem d_Tables_addNumber_50 : decode prog_10_method_5_code 50 = .ok (.arraylength, 1) := by decide +kernel
theorem d_Tables_addNumber_51 : decode prog_10_method_5_code 51 = .ok (.if_icmp .lt 5, 3) := by decide +kernel
theorem d_Tables_addNumber_56 : decode prog_10_method_5_code 56 = .ok (.aload_n 0, 1) := by decide +kernel
theorem d_Tables_addNumber_57 : decode prog_10_method_5_code 57 = .ok (.getfield 11, 3) := by decide +kernel
theorem d_Tables_addNumber_60 : decode prog_10_method_5_code 60 = .ok (.iload 4, 2) := by decide +kernel
theorem d_Tables_addNumber_62 : decode prog_10_method_5_code 62 = .ok (.iload_n 1, 1) := by decide +kernel
theorem d_Tables_addNumber_63 : decode prog_10_method_5_code 63 = .ok (.iastore, 1) := by decide +kernel
theorem d_Tables_addNumber_64 : decode prog_10_method_5_code 64 = .ok (.aload_n 0, 1) := by decide +kernel
theorem d_Tables_addNumber_65 : decode prog_10_method_5_code 65 = .ok (.getfield 15, 3) := by decide +kernel
theorem d_Tables_addNumber_68 : decode prog_10_method_5_code 68 = .ok (.iload_n 2, 1) := by decide +kernel
theorem d_Tables_addNumber_69 : decode prog_10_method_5_code 69 = .ok (.iload_n 3, 1) := by decide +kernel
theorem d_Tables_addNumber_70 : decode prog_10_method_5_code 70 = .ok (.iconst 1, 1) := by decide +kernel
theorem d_Tables_addNumber_71 : decode prog_10_method_5_code 71 = .ok (.iadd, 1) := by decide +kernel
theorem d_Tables_addNumber_72 : decode prog_10_method_5_code 72 = .ok (.iastore, 1) := by decide +kernel
theorem d_Tables_addNumber_73 : decode prog_10_method_5_code 73 = .ok (.iconst 1, 1) := by decide +kernel
theorem d_Tables_addNumber_74 : decode prog_10_method_5_code 74 = .ok (.ireturn, 1) := by decide +kernel
theorem d_Tables_numberAt_0 : decode prog_10_method_6_code 0 = .ok (.iload_n 1, 1) := by decide +kernel
theorem d_Tables_numberAt_1 : decode prog_10_method_6_code 1 = .ok (.ifCond .lt 38, 3) := by decide +kernel
theorem d_Tables_numberAt_39 : decode prog_10_method_6_code 39 = .ok (.iconst (-1), 1) := by decide +kernel
theorem d_Tables_numberAt_40 : decode prog_10_method_6_code 40 = .ok (.ireturn, 1) := by decide +kernel
theorem d_Tables_numberAt_4 : decode prog_10_method_6_code 4 = .ok (.iload_n 1, 1) := by decide +kernel
theorem d_Tables_numberAt_5 : decode prog_10_method_6_code 5 = .ok (.aload_n 0, 1) := by decide +kernel
theorem d_Tables_numberAt_6 : decode prog_10_method_6_code 6 = .ok (.getfield 18, 3) := by decide +kernel
theorem d_Tables_numberAt_9 : decode prog_10_method_6_code 9 = .ok (.if_icmp .ge 30, 3) := by decide +kernel
theorem d_Tables_numberAt_12 : decode prog_10_method_6_code 12 = .ok (.iload_n 1, 1) := by decide +kernel
theorem d_Tables_numberAt_13 : decode prog_10_method_6_code 13 = .ok (.aload_n 0, 1) := by decide +kernel
theorem d_Tables_numberAt_14 : decode prog_10_method_6_code 14 = .ok (.getfield 15, 3) := by decide +kernel
theorem d_Tables_numberAt_17 : decode prog_10_method_6_code 17 = .ok (.arraylength, 1) := by decide +kernel
theorem d_Tables_numberAt_18 : decode prog_10_method_6_code 18 = .ok (.if_icmp .ge 21, 3) := by decide +kernel
theorem d_Tables_numberAt_21 : decode prog_10_method_6_code 21 = .ok (.lload_n 2, 1) := by decide +kernel
theorem d_Tables_numberAt_22 : decode prog_10_method_6_code 22 = .ok (.lconst 0, 1) := by decide +kernel
theorem d_Tables_numberAt_23 : decode prog_10_method_6_code 23 = .ok (.lcmp, 1) := by decide +kernel
theorem d_Tables_numberAt_24 : decode prog_10_method_6_code 24 = .ok (.ifCond .lt 15, 3) := by decide +kernel
theorem d_Tables_numberAt_27 : decode prog_10_method_6_code 27 = .ok (.lload_n 2, 1) := by decide +kernel
theorem d_Tables_numberAt_28 : decode prog_10_method_6_code 28 = .ok (.aload_n 0, 1) := by decide +kernel
theorem d_Tables_numberAt_29 : decode prog_10_method_6_code 29 = .ok (.getfield 15, 3) := by decide +kernel
theorem d_Tables_numberAt_32 : decode prog_10_method_6_code 32 = .ok (.iload_n 1, 1) := by decide +kernel
theorem d_Tables_numberAt_33 : decode prog_10_method_6_code 33 = .ok (.iaload, 1) := by decide +kernel
theorem d_Tables_numberAt_34 : decode prog_10_method_6_code 34 = .ok (.i2l, 1) := by decide +kernel
theorem d_Tables_numberAt_35 : decode prog_10_method_6_code 35 = .ok (.lcmp, 1) := by decide +kernel
theorem d_Tables_numberAt_36 : decode prog_10_method_6_code 36 = .ok (.ifCond .lt 5, 3) := by decide +kernel
theorem d_Tables_numberAt_41 : decode prog_10_method_6_code 41 = .ok (.iload_n 1, 1) := by decide +kernel
theorem d_Tables_numberAt_42 : decode prog_10_method_6_code 42 = .ok (.bipush 10, 2) := by decide +kernel
theorem d_Tables_numberAt_44 : decode prog_10_method_6_code 44 = .ok (.imul, 1) := by decide +kernel
theorem d_Tables_numberAt_45 : decode prog_10_method_6_code 45 = .ok (.lload_n 2, 1) := by decide +kernel
theorem d_Tables_numberAt_46 : decode prog_10_method_6_code 46 = .ok (.l2i, 1) := by decide +kernel
theorem d_Tables_numberAt_47 : decode prog_10_method_6_code 47 = .ok (.iadd, 1) := by decide +kernel
theorem d_Tables_numberAt_48 : decode prog_10_method_6_code 48 = .ok (.istore 4, 2) := by decide +kernel
theorem d_Tables_numberAt_50 : decode prog_10_method_6_code 50 = .ok (.iload 4, 2) := by decide +kernel
theorem d_Tables_numberAt_52 : decode prog_10_method_6_code 52 = .ok (.ifCond .lt 23, 3) := by decide +kernel
theorem d_Tables_numberAt_75 : decode prog_10_method_6_code 75 = .ok (.iconst (-1), 1) := by decide +kernel
theorem d_Tables_numberAt_76 : decode prog_10_method_6_code 76 = .ok (.ireturn, 1) := by decide +kernel
theorem d_Tables_numberAt_55 : decode prog_10_method_6_code 55 = .ok (.iload 4, 2) := by decide +kernel
theorem d_Tables_numberAt_57 : decode prog_10_method_6_code 57 = .ok (.aload_n 0, 1) := by decide +kernel
theorem d_Tables_numberAt_58 : decode prog_10_method_6_code 58 = .ok (.getfield 11, 3) := by decide +kernel
theorem d_Tables_numberAt_61 : decode prog_10_method_6_code 61 = .ok (.arraylength, 1) := by decide +kernel
theorem d_Tables_numberAt_62 : decode prog_10_method_6_code 62 = .ok (.if_icmp .ge 13, 3) := by decide +kernel
theorem d_Tables_numberAt_65 : decode prog_10_method_6_code 65 = .ok (.aload_n 0, 1) := by decide +kernel
theorem d_Tables_numberAt_66 : decode prog_10_method_6_code 66 = .ok (.getfield 11, 3) := by decide +kernel
theorem d_Tables_numberAt_69 : decode prog_10_method_6_code 69 = .ok (.iload 4, 2) := by decide +kernel
theorem d_Tables_numberAt_71 : decode prog_10_method_6_code 71 = .ok (.iaload, 1) := by decide +kernel
theorem d_Tables_numberAt_72 : decode prog_10_method_6_code 72 = .ok (.goto 4, 3) := by decide +kernel
theorem d_Tables_clear_0 : decode prog_10_method_4_code 0 = .ok (.aload_n 0, 1) := by decide +kernel
theorem d_Tables_clear_1 : decode prog_10_method_4_code 1 = .ok (.iconst 0, 1) := by decide +kernel
theorem d_Tables_clear_2 : decode prog_10_method_4_code 2 = .ok (.putfield 18, 3) := by decide +kernel
theorem d_Tables_clear_5 : decode prog_10_method_4_code 5 = .ok (.return_, 1) := by decide +kernel
def M_Tables_init (F : Nat) (h : hH) (x0 : Nat) : Option hH :=
  (some (hAdd h (.inr (.int, 80, .inl (fun _ => 0))))).bind fun h1 =>
  (hPut h1 x0 8 0 (.ref h.1)).bind fun h2 =>
  (some (hAdd h2 (.inr (.int, 8, .inl (fun _ => 0))))).bind fun h3 =>
  (hPut h3 x0 8 1 (.ref h2.1)).bind fun h4 =>
  (hPut h4 x0 8 2 (.int 0)).bind fun h5 =>
  some h5
def M_Tables_begin (F : Nat) (h : hH) (x0 : Nat) : Option (Int32 × hH) :=
  (hGetI h x0 8 2).bind fun v1 =>
  if v1 < 0 then (
    some (0, h)
  ) else (
    (hGetI h x0 8 2).bind fun v3 =>
    (hGetA h x0 8 1).bind fun v4 =>
    (hLen h v4).bind fun v5 =>
    if v3 < v5 then (
      (hGetA h x0 8 1).bind fun v7 =>
      (hGetI h x0 8 2).bind fun v8 =>
      (hStI h v7 v8 0).bind fun h9 =>
      (hGetI h9 x0 8 2).bind fun v10 =>
      (hPut h9 x0 8 2 (.int (v10 + 1))).bind fun h11 =>
      some (1, h11)
    ) else (
      some (0, h)
    )
  )
def M_Tables_lastSize (F : Nat) (h : hH) (x0 : Nat) : Option (Int32 × hH) :=
  (hGetI h x0 8 2).bind fun v1 =>
  if (v1 - 1) < 0 then (
    some (0, h)
  ) else (
    (hGetA h x0 8 1).bind fun v3 =>
    (hLen h v3).bind fun v4 =>
    if v4 ≤ (v1 - 1) then (
      some (0, h)
    ) else (
      (hGetA h x0 8 1).bind fun v6 =>
      (hLdI h v6 .int (v1 - 1)).bind fun v7 =>
      some (v7, h)
    )
  )
def M_Tables_addNumber (F : Nat) (h : hH) (x0 : Nat) (x1 : Int32) : Option (Int32 × hH) :=
  (hGetI h x0 8 2).bind fun v1 =>
  (hIs h x0 8).bind fun u2 =>
  (M_Tables_lastSize F h x0).bind fun q3 =>
  if (v1 - 1) < 0 then (
    some (0, q3.2)
  ) else (
    (hGetA q3.2 x0 8 1).bind fun v5 =>
    (hLen q3.2 v5).bind fun v6 =>
    if v6 ≤ (v1 - 1) then (
      some (0, q3.2)
    ) else (
      if 10 ≤ q3.1 then (
        some (0, q3.2)
      ) else (
        if (((v1 - 1) * 10) + q3.1) < 0 then (
          some (0, q3.2)
        ) else (
          (hGetA q3.2 x0 8 0).bind fun v10 =>
          (hLen q3.2 v10).bind fun v11 =>
          if (((v1 - 1) * 10) + q3.1) < v11 then (
            (hGetA q3.2 x0 8 0).bind fun v13 =>
            (hStI q3.2 v13 (((v1 - 1) * 10) + q3.1) x1).bind fun h14 =>
            (hGetA h14 x0 8 1).bind fun v15 =>
            (hStI h14 v15 (v1 - 1) (q3.1 + 1)).bind fun h16 =>
            some (1, h16)
          ) else (
            some (0, q3.2)
          )
        )
      )
    )
  )
def M_Tables_numberAt (F : Nat) (h : hH) (x0 : Nat) (x1 : Int32) (x2 : Int64) : Option (Int32 × hH) :=
  if x1 < 0 then (
    some ((-1), h)
  ) else (
    (hGetI h x0 8 2).bind fun v2 =>
    if v2 ≤ x1 then (
      some ((-1), h)
    ) else (
      (hGetA h x0 8 1).bind fun v4 =>
      (hLen h v4).bind fun v5 =>
      if v5 ≤ x1 then (
        some ((-1), h)
      ) else (
        if (lg_cmp x2 0) < 0 then (
          some ((-1), h)
        ) else (
          (hGetA h x0 8 1).bind fun v8 =>
          (hLdI h v8 .int x1).bind fun v9 =>
          if (lg_cmp x2 v9.toInt64) < 0 then (
            if ((x1 * 10) + x2.toInt32) < 0 then (
              some ((-1), h)
            ) else (
              (hGetA h x0 8 0).bind fun v12 =>
              (hLen h v12).bind fun v13 =>
              if v13 ≤ ((x1 * 10) + x2.toInt32) then (
                some ((-1), h)
              ) else (
                (hGetA h x0 8 0).bind fun v15 =>
                (hLdI h v15 .int ((x1 * 10) + x2.toInt32)).bind fun v16 =>
                some (v16, h)
              )
            )
          ) else (
            some ((-1), h)
          )
        )
      )
    )
  )
def M_Tables_clear (F : Nat) (h : hH) (x0 : Nat) : Option hH :=
  (hPut h x0 8 2 (.int 0)).bind fun h1 =>
  some h1
abbrev rm_Tables_init : Room := { frames := 1, cells := 2, slots := 88, locals := 12 }
set_option maxHeartbeats 4000000 in
set_option maxRecDepth 100000 in
theorem c_Tables_init (l : Launch) (D : va_G) (K : (Nat → Nat) × (Nat → Nat)) (F : Nat) {h : hH} {x0 : Nat} {q : hH} (hM : M_Tables_init F h x0 = some q) : Met l y_Tables_init (.code y_Tables_init prog_10_method_1_code 1 none :: T0) rm_Tables_init (hPc hG D cls0 K [.ref x0] h) (hQ D cls0 h none q) 2 88 (hF h) := by
  refine J_met (lv := [(0, .ref x0)]) (by decide) (Nat.le_of_ble_eq_true rfl) rfl ?_
  intro p e s m below meth c X hr hlk hnm
  have Y : HX p s m _ meth c prog_10_method_1_code 1 "LicenceTexts$Tables" D K "<init>" none h := ⟨X, hr, hlk, hnm⟩
  unfold M_Tables_init at hM
  refine J_aload_n (pc := 0) X 0 d_Tables_init_0 rfl ?_
  refine J_objInit (pc := 1) X k_65 k_1 k_2 d_Tables_init_1 (Nat.le_of_ble_eq_true rfl) (Nat.le_of_ble_eq_true rfl) ?_
  refine J_aload_n (pc := 4) X 0 d_Tables_init_4 rfl ?_
  refine J_bipush (pc := 5) (v := (80)) X d_Tables_init_5 (by decide) ?_
  refine J_newa (pc := 7) (ty := .int) (N := 80) (a0 := (80, .inl (fun _ => 0))) X rfl k_17 d_Tables_init_7 (fun _ => rfl) (fun _ _ hq => hq) (by decide) (by decide) (by decide) (Nat.le_of_ble_eq_true rfl) (Nat.le_of_ble_eq_true rfl) ?_
  obtain ⟨h1, eh1, hM⟩ := hb_some hM
  rw [Option.some.inj eh1]
  obtain ⟨h2, eh2, hM⟩ := hb_some hM
  refine J_putF (pc := 9) X hc_Tables in_Tables t_Tables tk_Tables nk_Tables 0 k_66 (by decide) rfl rfl rfl hnm d_Tables_init_9 rfl rfl rfl eh2 ?_
  refine J_aload_n (pc := 12) X 0 d_Tables_init_12 rfl ?_
  refine J_bipush (pc := 13) (v := (8)) X d_Tables_init_13 (by decide) ?_
  refine J_newa (pc := 15) (ty := .int) (N := 8) (a0 := (8, .inl (fun _ => 0))) X rfl k_17 d_Tables_init_15 (fun _ => rfl) (fun _ _ hq => hq) (by decide) (by decide) (by decide) (Nat.le_of_ble_eq_true rfl) (Nat.le_of_ble_eq_true rfl) ?_
  obtain ⟨h3, eh3, hM⟩ := hb_some hM
  rw [Option.some.inj eh3]
  obtain ⟨h4, eh4, hM⟩ := hb_some hM
  refine J_putF (pc := 17) X hc_Tables in_Tables t_Tables tk_Tables nk_Tables 1 k_67 (by decide) rfl rfl rfl hnm d_Tables_init_17 rfl rfl rfl eh4 ?_
  refine J_aload_n (pc := 20) X 0 d_Tables_init_20 rfl ?_
  refine J_iconst (pc := 21) (v := (0)) X d_Tables_init_21 (by decide) ?_
  obtain ⟨h5, eh5, hM⟩ := hb_some hM
  refine J_put (pc := 22) X hc_Tables in_Tables t_Tables tk_Tables nk_Tables 2 k_68 (by decide) rfl rfl d_Tables_init_22 rfl rfl rfl eh5 ?_
  obtain rfl := Option.some.inj hM
  exact J_vret (pc := 25) X hr hlk (Nat.le_of_ble_eq_true rfl) (Nat.le_of_ble_eq_true rfl) d_Tables_init_25
abbrev rm_Tables_begin : Room := { frames := 0, cells := 0, slots := 0, locals := 0 }
set_option maxHeartbeats 4000000 in
set_option maxRecDepth 100000 in
theorem c_Tables_begin (l : Launch) (D : va_G) (K : (Nat → Nat) × (Nat → Nat)) (F : Nat) {h : hH} {x0 : Nat} {q : (Int32 × hH)} (hM : M_Tables_begin F h x0 = some q) : Met l y_Tables_begin (.code y_Tables_begin prog_10_method_2_code 1 (some .boolean) :: T0) rm_Tables_begin (hPc hG D cls0 K [.ref x0] h) (hQ D cls0 h (some (.int q.1)) q.2) 0 0 (hF h) := by
  refine J_met (lv := [(0, .ref x0)]) (by decide) (Nat.le_of_ble_eq_true rfl) rfl ?_
  intro p e s m below meth c X hr hlk hnm
  have Y : HX p s m _ meth c prog_10_method_2_code 1 "LicenceTexts$Tables" D K "begin" (some .boolean) h := ⟨X, hr, hlk, hnm⟩
  unfold M_Tables_begin at hM
  refine J_aload_n (pc := 0) X 0 d_Tables_begin_0 rfl ?_
  obtain ⟨v1, ev1, hM⟩ := hb_some hM
  refine J_getI (pc := 1) X hc_Tables in_Tables 2 k_68 (by decide) rfl d_Tables_begin_1 rfl ev1 ?_
  refine J_if_lt (pc := 4) (tgt := 19) X d_Tables_begin_4 (by decide) (fun c2 => ?_) (fun c2 => ?_)
  · have hM := hif_t hM c2
    refine J_iconst (pc := 19) (v := (0)) X d_Tables_begin_19 (by decide) ?_
    obtain rfl := Option.some.inj hM
    exact J_zret (pc := 20) X hr hz0 hlk (Nat.le_of_ble_eq_true rfl) (Nat.le_of_ble_eq_true rfl) d_Tables_begin_20
  · have hM := hif_f hM c2
    refine J_aload_n (pc := 7) X 0 d_Tables_begin_7 rfl ?_
    obtain ⟨v3, ev3, hM⟩ := hb_some hM
    refine J_getI (pc := 8) X hc_Tables in_Tables 2 k_68 (by decide) rfl d_Tables_begin_8 rfl ev3 ?_
    refine J_aload_n (pc := 11) X 0 d_Tables_begin_11 rfl ?_
    obtain ⟨v4, ev4, hM⟩ := hb_some hM
    refine J_getA (pc := 12) X hc_Tables in_Tables 1 k_67 (by decide) rfl d_Tables_begin_12 rfl ev4 ?_
    obtain ⟨v5, ev5, hM⟩ := hb_some hM
    refine J_alen (pc := 15) X d_Tables_begin_15 rfl ev5 ?_
    refine J_icmp_lt (pc := 16) (tgt := 21) X d_Tables_begin_16 (by decide) (fun c6 => ?_) (fun c6 => ?_)
    · have hM := hif_t hM c6
      refine J_aload_n (pc := 21) X 0 d_Tables_begin_21 rfl ?_
      obtain ⟨v7, ev7, hM⟩ := hb_some hM
      refine J_getA (pc := 22) X hc_Tables in_Tables 1 k_67 (by decide) rfl d_Tables_begin_22 rfl ev7 ?_
      refine J_aload_n (pc := 25) X 0 d_Tables_begin_25 rfl ?_
      obtain ⟨v8, ev8, hM⟩ := hb_some hM
      refine J_getI (pc := 26) X hc_Tables in_Tables 2 k_68 (by decide) rfl d_Tables_begin_26 rfl ev8 ?_
      refine J_iconst (pc := 29) (v := (0)) X d_Tables_begin_29 (by decide) ?_
      obtain ⟨h9, eh9, hM⟩ := hb_some hM
      refine J_iast (pc := 30) X d_Tables_begin_30 rfl eh9 ?_
      refine J_aload_n (pc := 31) X 0 d_Tables_begin_31 rfl ?_
      refine J_dup (pc := 32) X d_Tables_begin_32 rfl ?_
      obtain ⟨v10, ev10, hM⟩ := hb_some hM
      refine J_getI (pc := 33) X hc_Tables in_Tables 2 k_68 (by decide) rfl d_Tables_begin_33 rfl ev10 ?_
      refine J_iconst (pc := 36) (v := (1)) X d_Tables_begin_36 (by decide) ?_
      refine J_iadd (pc := 37) X d_Tables_begin_37 ?_
      obtain ⟨h11, eh11, hM⟩ := hb_some hM
      refine J_put (pc := 38) X hc_Tables in_Tables t_Tables tk_Tables nk_Tables 2 k_68 (by decide) rfl rfl d_Tables_begin_38 rfl rfl rfl eh11 ?_
      refine J_iconst (pc := 41) (v := (1)) X d_Tables_begin_41 (by decide) ?_
      obtain rfl := Option.some.inj hM
      exact J_zret (pc := 42) X hr hz1 hlk (Nat.le_of_ble_eq_true rfl) (Nat.le_of_ble_eq_true rfl) d_Tables_begin_42
    · have hM := hif_f hM c6
      refine J_iconst (pc := 19) (v := (0)) X d_Tables_begin_19 (by decide) ?_
      obtain rfl := Option.some.inj hM
      exact J_zret (pc := 20) X hr hz0 hlk (Nat.le_of_ble_eq_true rfl) (Nat.le_of_ble_eq_true rfl) d_Tables_begin_20
abbrev rm_Tables_lastSize : Room := { frames := 0, cells := 0, slots := 0, locals := 0 }
set_option maxHeartbeats 4000000 in
set_option maxRecDepth 100000 in
theorem c_Tables_lastSize (l : Launch) (D : va_G) (K : (Nat → Nat) × (Nat → Nat)) (F : Nat) {h : hH} {x0 : Nat} {q : (Int32 × hH)} (hM : M_Tables_lastSize F h x0 = some q) : Met l y_Tables_lastSize (.code y_Tables_lastSize prog_10_method_3_code 2 (some .int) :: T0) rm_Tables_lastSize (hPc hG D cls0 K [.ref x0] h) (hQ D cls0 h (some (.int q.1)) q.2) 0 0 (hF h) := by
  refine J_met (lv := [(0, .ref x0)]) (by decide) (Nat.le_of_ble_eq_true rfl) rfl ?_
  intro p e s m below meth c X hr hlk hnm
  have Y : HX p s m _ meth c prog_10_method_3_code 2 "LicenceTexts$Tables" D K "lastSize" (some .int) h := ⟨X, hr, hlk, hnm⟩
  unfold M_Tables_lastSize at hM
  refine J_aload_n (pc := 0) X 0 d_Tables_lastSize_0 rfl ?_
  obtain ⟨v1, ev1, hM⟩ := hb_some hM
  refine J_getI (pc := 1) X hc_Tables in_Tables 2 k_68 (by decide) rfl d_Tables_lastSize_1 rfl ev1 ?_
  refine J_iconst (pc := 4) (v := (1)) X d_Tables_lastSize_4 (by decide) ?_
  refine J_isub (pc := 5) X d_Tables_lastSize_5 ?_
  refine J_istore_n (pc := 6) (lv' := [(1, .int (v1 - 1)), (0, .ref x0)]) X d_Tables_lastSize_6 rfl (by decide) rfl ?_
  refine J_iload_n (pc := 7) X 0 d_Tables_lastSize_7 rfl ?_
  refine J_if_lt (pc := 8) (tgt := 29) X d_Tables_lastSize_8 (by decide) (fun c2 => ?_) (fun c2 => ?_)
  · have hM := hif_t hM c2
    refine J_iconst (pc := 29) (v := (0)) X d_Tables_lastSize_29 (by decide) ?_
    obtain rfl := Option.some.inj hM
    exact J_iret (pc := 30) X hr hlk (Nat.le_of_ble_eq_true rfl) (Nat.le_of_ble_eq_true rfl) d_Tables_lastSize_30
  · have hM := hif_f hM c2
    refine J_iload_n (pc := 11) X 0 d_Tables_lastSize_11 rfl ?_
    refine J_aload_n (pc := 12) X 1 d_Tables_lastSize_12 rfl ?_
    obtain ⟨v3, ev3, hM⟩ := hb_some hM
    refine J_getA (pc := 13) X hc_Tables in_Tables 1 k_67 (by decide) rfl d_Tables_lastSize_13 rfl ev3 ?_
    obtain ⟨v4, ev4, hM⟩ := hb_some hM
    refine J_alen (pc := 16) X d_Tables_lastSize_16 rfl ev4 ?_
    refine J_icmp_ge (pc := 17) (tgt := 29) X d_Tables_lastSize_17 (by decide) (fun c5 => ?_) (fun c5 => ?_)
    · have hM := hif_t hM c5
      refine J_iconst (pc := 29) (v := (0)) X d_Tables_lastSize_29 (by decide) ?_
      obtain rfl := Option.some.inj hM
      exact J_iret (pc := 30) X hr hlk (Nat.le_of_ble_eq_true rfl) (Nat.le_of_ble_eq_true rfl) d_Tables_lastSize_30
    · have hM := hif_f hM c5
      refine J_aload_n (pc := 20) X 1 d_Tables_lastSize_20 rfl ?_
      obtain ⟨v6, ev6, hM⟩ := hb_some hM
      refine J_getA (pc := 21) X hc_Tables in_Tables 1 k_67 (by decide) rfl d_Tables_lastSize_21 rfl ev6 ?_
      refine J_iload_n (pc := 24) X 0 d_Tables_lastSize_24 rfl ?_
      obtain ⟨v7, ev7, hM⟩ := hb_some hM
      refine J_iald (pc := 25) X d_Tables_lastSize_25 rfl ev7 ?_
      refine J_goto (pc := 26) (tgt := 30) X d_Tables_lastSize_26 (by decide) ?_
      obtain rfl := Option.some.inj hM
      exact J_iret (pc := 30) X hr hlk (Nat.le_of_ble_eq_true rfl) (Nat.le_of_ble_eq_true rfl) d_Tables_lastSize_30
abbrev rm_Tables_addNumber : Room := { frames := 1, cells := 0, slots := 0, locals := 21 }
set_option maxHeartbeats 4000000 in
set_option maxRecDepth 100000 in
theorem c_Tables_addNumber (l : Launch) (D : va_G) (K : (Nat → Nat) × (Nat → Nat)) (F : Nat) {h : hH} {x0 : Nat} {x1 : Int32} {q : (Int32 × hH)} (hM : M_Tables_addNumber F h x0 x1 = some q) : Met l y_Tables_addNumber (.code y_Tables_addNumber prog_10_method_5_code 5 (some .boolean) :: T0) rm_Tables_addNumber (hPc hG D cls0 K [.ref x0, .int x1] h) (hQ D cls0 h (some (.int q.1)) q.2) 0 0 (hF h) := by
  refine J_met (lv := [(0, .ref x0), (1, .int x1)]) (by decide) (Nat.le_of_ble_eq_true rfl) rfl ?_
  intro p e s m below meth c X hr hlk hnm
  have Y : HX p s m _ meth c prog_10_method_5_code 5 "LicenceTexts$Tables" D K "addNumber" (some .boolean) h := ⟨X, hr, hlk, hnm⟩
  unfold M_Tables_addNumber at hM
  refine J_aload_n (pc := 0) X 0 d_Tables_addNumber_0 rfl ?_
  obtain ⟨v1, ev1, hM⟩ := hb_some hM
  refine J_getI (pc := 1) X hc_Tables in_Tables 2 k_68 (by decide) rfl d_Tables_addNumber_1 rfl ev1 ?_
  refine J_iconst (pc := 4) (v := (1)) X d_Tables_addNumber_4 (by decide) ?_
  refine J_isub (pc := 5) X d_Tables_addNumber_5 ?_
  refine J_istore_n (pc := 6) (lv' := [(2, .int (v1 - 1)), (0, .ref x0), (1, .int x1)]) X d_Tables_addNumber_6 rfl (by decide) rfl ?_
  refine J_aload_n (pc := 7) X 1 d_Tables_addNumber_7 rfl ?_
  obtain ⟨u2, eu2, hM⟩ := hb_some hM
  obtain ⟨q3, eq3, hM⟩ := hb_some hM
  refine J_callV (pc := 8) (As := []) (rest := []) (o := (some (.int q3.1))) (h2 := q3.2) X rfl hc_Tables eu2 (c_Tables_lastSize l D K F eq3) (cwV_of (nA := 0) X.fix k_69 k_72 k_73 k_71 k_70 ⟨rfl, rfl, rfl⟩ (by decide +kernel) ⟨Nat.le_of_ble_eq_true rfl, Nat.le_of_ble_eq_true rfl⟩) d_Tables_addNumber_8 rfl rfl (Nat.le_of_ble_eq_true rfl) (Nat.le_of_ble_eq_true rfl) (Nat.le_of_ble_eq_true rfl) ?_
  refine J_istore_n (pc := 11) (lv' := [(3, .int q3.1), (2, .int (v1 - 1)), (0, .ref x0), (1, .int x1)]) X d_Tables_addNumber_11 rfl (by decide) rfl ?_
  refine J_iload_n (pc := 12) X 1 d_Tables_addNumber_12 rfl ?_
  refine J_bipush (pc := 13) (v := (10)) X d_Tables_addNumber_13 (by decide) ?_
  refine J_imul (pc := 15) X d_Tables_addNumber_15 ?_
  refine J_iload_n (pc := 16) X 0 d_Tables_addNumber_16 rfl ?_
  refine J_iadd (pc := 17) X d_Tables_addNumber_17 ?_
  refine J_istore (pc := 18) (lv' := [(4, .int (((v1 - 1) * 10) + q3.1)), (3, .int q3.1), (2, .int (v1 - 1)), (0, .ref x0), (1, .int x1)]) X d_Tables_addNumber_18 (by decide) rfl ?_
  refine J_iload_n (pc := 20) X 2 d_Tables_addNumber_20 rfl ?_
  refine J_if_lt (pc := 21) (tgt := 54) X d_Tables_addNumber_21 (by decide) (fun c4 => ?_) (fun c4 => ?_)
  · have hM := hif_t hM c4
    refine J_iconst (pc := 54) (v := (0)) X d_Tables_addNumber_54 (by decide) ?_
    obtain rfl := Option.some.inj hM
    exact J_zret (pc := 55) X hr hz0 hlk (Nat.le_of_ble_eq_true rfl) (Nat.le_of_ble_eq_true rfl) d_Tables_addNumber_55
  · have hM := hif_f hM c4
    refine J_iload_n (pc := 24) X 2 d_Tables_addNumber_24 rfl ?_
    refine J_aload_n (pc := 25) X 3 d_Tables_addNumber_25 rfl ?_
    obtain ⟨v5, ev5, hM⟩ := hb_some hM
    refine J_getA (pc := 26) X hc_Tables in_Tables 1 k_67 (by decide) rfl d_Tables_addNumber_26 rfl ev5 ?_
    obtain ⟨v6, ev6, hM⟩ := hb_some hM
    refine J_alen (pc := 29) X d_Tables_addNumber_29 rfl ev6 ?_
    refine J_icmp_ge (pc := 30) (tgt := 54) X d_Tables_addNumber_30 (by decide) (fun c7 => ?_) (fun c7 => ?_)
    · have hM := hif_t hM c7
      refine J_iconst (pc := 54) (v := (0)) X d_Tables_addNumber_54 (by decide) ?_
      obtain rfl := Option.some.inj hM
      exact J_zret (pc := 55) X hr hz0 hlk (Nat.le_of_ble_eq_true rfl) (Nat.le_of_ble_eq_true rfl) d_Tables_addNumber_55
    · have hM := hif_f hM c7
      refine J_iload_n (pc := 33) X 1 d_Tables_addNumber_33 rfl ?_
      refine J_bipush (pc := 34) (v := (10)) X d_Tables_addNumber_34 (by decide) ?_
      refine J_icmp_ge (pc := 36) (tgt := 54) X d_Tables_addNumber_36 (by decide) (fun c8 => ?_) (fun c8 => ?_)
      · have hM := hif_t hM c8
        refine J_iconst (pc := 54) (v := (0)) X d_Tables_addNumber_54 (by decide) ?_
        obtain rfl := Option.some.inj hM
        exact J_zret (pc := 55) X hr hz0 hlk (Nat.le_of_ble_eq_true rfl) (Nat.le_of_ble_eq_true rfl) d_Tables_addNumber_55
      · have hM := hif_f hM c8
        refine J_iload (pc := 39) X 0 d_Tables_addNumber_39 rfl ?_
        refine J_if_lt (pc := 41) (tgt := 54) X d_Tables_addNumber_41 (by decide) (fun c9 => ?_) (fun c9 => ?_)
        · have hM := hif_t hM c9
          refine J_iconst (pc := 54) (v := (0)) X d_Tables_addNumber_54 (by decide) ?_
          obtain rfl := Option.some.inj hM
          exact J_zret (pc := 55) X hr hz0 hlk (Nat.le_of_ble_eq_true rfl) (Nat.le_of_ble_eq_true rfl) d_Tables_addNumber_55
        · have hM := hif_f hM c9
          refine J_iload (pc := 44) X 0 d_Tables_addNumber_44 rfl ?_
          refine J_aload_n (pc := 46) X 3 d_Tables_addNumber_46 rfl ?_
          obtain ⟨v10, ev10, hM⟩ := hb_some hM
          refine J_getA (pc := 47) X hc_Tables in_Tables 0 k_66 (by decide) rfl d_Tables_addNumber_47 rfl ev10 ?_
          obtain ⟨v11, ev11, hM⟩ := hb_some hM
          refine J_alen (pc := 50) X d_Tables_addNumber_50 rfl ev11 ?_
          refine J_icmp_lt (pc := 51) (tgt := 56) X d_Tables_addNumber_51 (by decide) (fun c12 => ?_) (fun c12 => ?_)
          · have hM := hif_t hM c12
            refine J_aload_n (pc := 56) X 3 d_Tables_addNumber_56 rfl ?_
            obtain ⟨v13, ev13, hM⟩ := hb_some hM
            refine J_getA (pc := 57) X hc_Tables in_Tables 0 k_66 (by decide) rfl d_Tables_addNumber_57 rfl ev13 ?_
            refine J_iload (pc := 60) X 0 d_Tables_addNumber_60 rfl ?_
            refine J_iload_n (pc := 62) X 4 d_Tables_addNumber_62 rfl ?_
            obtain ⟨h14, eh14, hM⟩ := hb_some hM
            refine J_iast (pc := 63) X d_Tables_addNumber_63 rfl eh14 ?_
            refine J_aload_n (pc := 64) X 3 d_Tables_addNumber_64 rfl ?_
            obtain ⟨v15, ev15, hM⟩ := hb_some hM
            refine J_getA (pc := 65) X hc_Tables in_Tables 1 k_67 (by decide) rfl d_Tables_addNumber_65 rfl ev15 ?_
            refine J_iload_n (pc := 68) X 2 d_Tables_addNumber_68 rfl ?_
            refine J_iload_n (pc := 69) X 1 d_Tables_addNumber_69 rfl ?_
            refine J_iconst (pc := 70) (v := (1)) X d_Tables_addNumber_70 (by decide) ?_
            refine J_iadd (pc := 71) X d_Tables_addNumber_71 ?_
            obtain ⟨h16, eh16, hM⟩ := hb_some hM
            refine J_iast (pc := 72) X d_Tables_addNumber_72 rfl eh16 ?_
            refine J_iconst (pc := 73) (v := (1)) X d_Tables_addNumber_73 (by decide) ?_
            obtain rfl := Option.some.inj hM
            exact J_zret (pc := 74) X hr hz1 hlk (Nat.le_of_ble_eq_true rfl) (Nat.le_of_ble_eq_true rfl) d_Tables_addNumber_74
          · have hM := hif_f hM c12
            refine J_iconst (pc := 54) (v := (0)) X d_Tables_addNumber_54 (by decide) ?_
            obtain rfl := Option.some.inj hM
            exact J_zret (pc := 55) X hr hz0 hlk (Nat.le_of_ble_eq_true rfl) (Nat.le_of_ble_eq_true rfl) d_Tables_addNumber_55
abbrev rm_Tables_numberAt : Room := { frames := 0, cells := 0, slots := 0, locals := 0 }
set_option maxHeartbeats 4000000 in
set_option maxRecDepth 100000 in
theorem c_Tables_numberAt (l : Launch) (D : va_G) (K : (Nat → Nat) × (Nat → Nat)) (F : Nat) {h : hH} {x0 : Nat} {x1 : Int32} {x2 : Int64} {q : (Int32 × hH)} (hM : M_Tables_numberAt F h x0 x1 x2 = some q) : Met l y_Tables_numberAt (.code y_Tables_numberAt prog_10_method_6_code 5 (some .int) :: T0) rm_Tables_numberAt (hPc hG D cls0 K [.ref x0, .int x1, .long x2] h) (hQ D cls0 h (some (.int q.1)) q.2) 0 0 (hF h) := by
  refine J_met (lv := [(0, .ref x0), (1, .int x1), (2, .long x2)]) (by decide) (Nat.le_of_ble_eq_true rfl) rfl ?_
  intro p e s m below meth c X hr hlk hnm
  have Y : HX p s m _ meth c prog_10_method_6_code 5 "LicenceTexts$Tables" D K "numberAt" (some .int) h := ⟨X, hr, hlk, hnm⟩
  unfold M_Tables_numberAt at hM
  refine J_iload_n (pc := 0) X 1 d_Tables_numberAt_0 rfl ?_
  refine J_if_lt (pc := 1) (tgt := 39) X d_Tables_numberAt_1 (by decide) (fun c1 => ?_) (fun c1 => ?_)
  · have hM := hif_t hM c1
    refine J_iconst (pc := 39) (v := (-1)) X d_Tables_numberAt_39 (by decide) ?_
    obtain rfl := Option.some.inj hM
    exact J_iret (pc := 40) X hr hlk (Nat.le_of_ble_eq_true rfl) (Nat.le_of_ble_eq_true rfl) d_Tables_numberAt_40
  · have hM := hif_f hM c1
    refine J_iload_n (pc := 4) X 1 d_Tables_numberAt_4 rfl ?_
    refine J_aload_n (pc := 5) X 0 d_Tables_numberAt_5 rfl ?_
    obtain ⟨v2, ev2, hM⟩ := hb_some hM
    refine J_getI (pc := 6) X hc_Tables in_Tables 2 k_68 (by decide) rfl d_Tables_numberAt_6 rfl ev2 ?_
    refine J_icmp_ge (pc := 9) (tgt := 39) X d_Tables_numberAt_9 (by decide) (fun c3 => ?_) (fun c3 => ?_)
    · have hM := hif_t hM c3
      refine J_iconst (pc := 39) (v := (-1)) X d_Tables_numberAt_39 (by decide) ?_
      obtain rfl := Option.some.inj hM
      exact J_iret (pc := 40) X hr hlk (Nat.le_of_ble_eq_true rfl) (Nat.le_of_ble_eq_true rfl) d_Tables_numberAt_40
    · have hM := hif_f hM c3
      refine J_iload_n (pc := 12) X 1 d_Tables_numberAt_12 rfl ?_
      refine J_aload_n (pc := 13) X 0 d_Tables_numberAt_13 rfl ?_
      obtain ⟨v4, ev4, hM⟩ := hb_some hM
      refine J_getA (pc := 14) X hc_Tables in_Tables 1 k_67 (by decide) rfl d_Tables_numberAt_14 rfl ev4 ?_
      obtain ⟨v5, ev5, hM⟩ := hb_some hM
      refine J_alen (pc := 17) X d_Tables_numberAt_17 rfl ev5 ?_
      refine J_icmp_ge (pc := 18) (tgt := 39) X d_Tables_numberAt_18 (by decide) (fun c6 => ?_) (fun c6 => ?_)
      · have hM := hif_t hM c6
        refine J_iconst (pc := 39) (v := (-1)) X d_Tables_numberAt_39 (by decide) ?_
        obtain rfl := Option.some.inj hM
        exact J_iret (pc := 40) X hr hlk (Nat.le_of_ble_eq_true rfl) (Nat.le_of_ble_eq_true rfl) d_Tables_numberAt_40
      · have hM := hif_f hM c6
        refine J_lload_n (pc := 21) X 2 d_Tables_numberAt_21 rfl ?_
        refine J_lconst (pc := 22) (v := (0)) X d_Tables_numberAt_22 (by decide) ?_
        refine J_lcmp (pc := 23) X d_Tables_numberAt_23 ?_
        refine J_if_lt (pc := 24) (tgt := 39) X d_Tables_numberAt_24 (by decide) (fun c7 => ?_) (fun c7 => ?_)
        · have hM := hif_t hM c7
          refine J_iconst (pc := 39) (v := (-1)) X d_Tables_numberAt_39 (by decide) ?_
          obtain rfl := Option.some.inj hM
          exact J_iret (pc := 40) X hr hlk (Nat.le_of_ble_eq_true rfl) (Nat.le_of_ble_eq_true rfl) d_Tables_numberAt_40
        · have hM := hif_f hM c7
          refine J_lload_n (pc := 27) X 2 d_Tables_numberAt_27 rfl ?_
          refine J_aload_n (pc := 28) X 0 d_Tables_numberAt_28 rfl ?_
          obtain ⟨v8, ev8, hM⟩ := hb_some hM
          refine J_getA (pc := 29) X hc_Tables in_Tables 1 k_67 (by decide) rfl d_Tables_numberAt_29 rfl ev8 ?_
          refine J_iload_n (pc := 32) X 1 d_Tables_numberAt_32 rfl ?_
          obtain ⟨v9, ev9, hM⟩ := hb_some hM
          refine J_iald (pc := 33) X d_Tables_numberAt_33 rfl ev9 ?_
          refine J_i2l (pc := 34) X d_Tables_numberAt_34 ?_
          refine J_lcmp (pc := 35) X d_Tables_numberAt_35 ?_
          refine J_if_lt (pc := 36) (tgt := 41) X d_Tables_numberAt_36 (by decide) (fun c10 => ?_) (fun c10 => ?_)
          · have hM := hif_t hM c10
            refine J_iload_n (pc := 41) X 1 d_Tables_numberAt_41 rfl ?_
            refine J_bipush (pc := 42) (v := (10)) X d_Tables_numberAt_42 (by decide) ?_
            refine J_imul (pc := 44) X d_Tables_numberAt_44 ?_
            refine J_lload_n (pc := 45) X 2 d_Tables_numberAt_45 rfl ?_
            refine J_l2i (pc := 46) X d_Tables_numberAt_46 ?_
            refine J_iadd (pc := 47) X d_Tables_numberAt_47 ?_
            refine J_istore (pc := 48) (lv' := [(4, .int ((x1 * 10) + x2.toInt32)), (0, .ref x0), (1, .int x1), (2, .long x2)]) X d_Tables_numberAt_48 (by decide) rfl ?_
            refine J_iload (pc := 50) X 0 d_Tables_numberAt_50 rfl ?_
            refine J_if_lt (pc := 52) (tgt := 75) X d_Tables_numberAt_52 (by decide) (fun c11 => ?_) (fun c11 => ?_)
            · have hM := hif_t hM c11
              refine J_iconst (pc := 75) (v := (-1)) X d_Tables_numberAt_75 (by decide) ?_
              obtain rfl := Option.some.inj hM
              exact J_iret (pc := 76) X hr hlk (Nat.le_of_ble_eq_true rfl) (Nat.le_of_ble_eq_true rfl) d_Tables_numberAt_76
            · have hM := hif_f hM c11
              refine J_iload (pc := 55) X 0 d_Tables_numberAt_55 rfl ?_
              refine J_aload_n (pc := 57) X 1 d_Tables_numberAt_57 rfl ?_
              obtain ⟨v12, ev12, hM⟩ := hb_some hM
              refine J_getA (pc := 58) X hc_Tables in_Tables 0 k_66 (by decide) rfl d_Tables_numberAt_58 rfl ev12 ?_
              obtain ⟨v13, ev13, hM⟩ := hb_some hM
              refine J_alen (pc := 61) X d_Tables_numberAt_61 rfl ev13 ?_
              refine J_icmp_ge (pc := 62) (tgt := 75) X d_Tables_numberAt_62 (by decide) (fun c14 => ?_) (fun c14 => ?_)
              · have hM := hif_t hM c14
                refine J_iconst (pc := 75) (v := (-1)) X d_Tables_numberAt_75 (by decide) ?_
                obtain rfl := Option.some.inj hM
                exact J_iret (pc := 76) X hr hlk (Nat.le_of_ble_eq_true rfl) (Nat.le_of_ble_eq_true rfl) d_Tables_numberAt_76
              · have hM := hif_f hM c14
                refine J_aload_n (pc := 65) X 1 d_Tables_numberAt_65 rfl ?_
                obtain ⟨v15, ev15, hM⟩ := hb_some hM
                refine J_getA (pc := 66) X hc_Tables in_Tables 0 k_66 (by decide) rfl d_Tables_numberAt_66 rfl ev15 ?_
                refine J_iload (pc := 69) X 0 d_Tables_numberAt_69 rfl ?_
                obtain ⟨v16, ev16, hM⟩ := hb_some hM
                refine J_iald (pc := 71) X d_Tables_numberAt_71 rfl ev16 ?_
                refine J_goto (pc := 72) (tgt := 76) X d_Tables_numberAt_72 (by decide) ?_
                obtain rfl := Option.some.inj hM
                exact J_iret (pc := 76) X hr hlk (Nat.le_of_ble_eq_true rfl) (Nat.le_of_ble_eq_true rfl) d_Tables_numberAt_76
          · have hM := hif_f hM c10
            refine J_iconst (pc := 39) (v := (-1)) X d_Tables_numberAt_39 (by decide) ?_
            obtain rfl := Option.some.inj hM
            exact J_iret (pc := 40) X hr hlk (Nat.le_of_ble_eq_true rfl) (Nat.le_of_ble_eq_true rfl) d_Tables_numberAt_40
abbrev rm_Tables_clear : Room := { frames := 0, cells := 0, slots := 0, locals := 0 }
set_option maxHeartbeats 4000000 in
set_option maxRecDepth 100000 in
theorem c_Tables_clear (l : Launch) (D : va_G) (K : (Nat → Nat) × (Nat → Nat)) (F : Nat) {h : hH} {x0 : Nat} {q : hH} (hM : M_Tables_clear F h x0 = some q) : Met l y_Tables_clear (.code y_Tables_clear prog_10_method_4_code 1 none :: T0) rm_Tables_clear (hPc hG D cls0 K [.ref x0] h) (hQ D cls0 h none q) 0 0 (hF h) := by
  refine J_met (lv := [(0, .ref x0)]) (by decide) (Nat.le_of_ble_eq_true rfl) rfl ?_
  intro p e s m below meth c X hr hlk hnm
  have Y : HX p s m _ meth c prog_10_method_4_code 1 "LicenceTexts$Tables" D K "clear" none h := ⟨X, hr, hlk, hnm⟩
  unfold M_Tables_clear at hM
  refine J_aload_n (pc := 0) X 0 d_Tables_clear_0 rfl ?_
  refine J_iconst (pc := 1) (v := (0)) X d_Tables_clear_1 (by decide) ?_
  obtain ⟨h1, eh1, hM⟩ := hb_some hM
  refine J_put (pc := 2) X hc_Tables in_Tables t_Tables tk_Tables nk_Tables 2 k_68 (by decide) rfl rfl d_Tables_clear_2 rfl rfl rfl eh1 ?_
  obtain rfl := Option.some.inj hM
  exact J_vret (pc := 5) X hr hlk (Nat.le_of_ble_eq_true rfl) (Nat.le_of_ble_eq_true rfl) d_Tables_clear_5
