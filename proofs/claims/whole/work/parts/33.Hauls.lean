theorem d_Hauls_init_0 : decode prog_6_method_1_code 0 = .ok (.aload_n 0, 1) := by decide +kernel
theorem d_Hauls_init_1 : decode prog_6_method_1_code 1 = .ok (.invokespecial 3, 3) := by decide +kernel
theorem d_Hauls_init_4 : decode prog_6_method_1_code 4 = .ok (.aload_n 0, 1) := by decide +kernel
theorem d_Hauls_init_5 : decode prog_6_method_1_code 5 = .ok (.bipush 80, 2) := by decide +kernel
theorem d_Hauls_init_7 : decode prog_6_method_1_code 7 = .ok (.newarray .long, 2) := by decide +kernel
theorem d_Hauls_init_9 : decode prog_6_method_1_code 9 = .ok (.putfield 11, 3) := by decide +kernel
theorem d_Hauls_init_12 : decode prog_6_method_1_code 12 = .ok (.return_, 1) := by decide +kernel
theorem d_Hauls_has_0 : decode prog_6_method_2_code 0 = .ok (.iload_n 0, 1) := by decide +kernel
theorem d_Hauls_has_1 : decode prog_6_method_2_code 1 = .ok (.ifCond .lt 23, 3) := by decide +kernel
theorem d_Hauls_has_24 : decode prog_6_method_2_code 24 = .ok (.iconst 0, 1) := by decide +kernel
theorem d_Hauls_has_25 : decode prog_6_method_2_code 25 = .ok (.ireturn, 1) := by decide +kernel
theorem d_Hauls_has_4 : decode prog_6_method_2_code 4 = .ok (.iload_n 0, 1) := by decide +kernel
theorem d_Hauls_has_5 : decode prog_6_method_2_code 5 = .ok (.bipush 10, 2) := by decide +kernel
theorem d_Hauls_has_7 : decode prog_6_method_2_code 7 = .ok (.if_icmp .ge 17, 3) := by decide +kernel
theorem d_Hauls_has_10 : decode prog_6_method_2_code 10 = .ok (.iload_n 1, 1) := by decide +kernel
theorem d_Hauls_has_11 : decode prog_6_method_2_code 11 = .ok (.ifCond .lt 13, 3) := by decide +kernel
theorem d_Hauls_has_14 : decode prog_6_method_2_code 14 = .ok (.iload_n 1, 1) := by decide +kernel
theorem d_Hauls_has_15 : decode prog_6_method_2_code 15 = .ok (.bipush 8, 2) := by decide +kernel
theorem d_Hauls_has_17 : decode prog_6_method_2_code 17 = .ok (.if_icmp .ge 7, 3) := by decide +kernel
theorem d_Hauls_has_20 : decode prog_6_method_2_code 20 = .ok (.iconst 1, 1) := by decide +kernel
theorem d_Hauls_has_21 : decode prog_6_method_2_code 21 = .ok (.goto 4, 3) := by decide +kernel
theorem d_Hauls_add_0 : decode prog_6_method_3_code 0 = .ok (.iload_n 1, 1) := by decide +kernel
theorem d_Hauls_add_1 : decode prog_6_method_3_code 1 = .ok (.iload_n 2, 1) := by decide +kernel
theorem d_Hauls_add_2 : decode prog_6_method_3_code 2 = .ok (.invokestatic 15, 3) := by decide +kernel
theorem d_Hauls_add_5 : decode prog_6_method_3_code 5 = .ok (.ifCond .eq 17, 3) := by decide +kernel
theorem d_Hauls_add_22 : decode prog_6_method_3_code 22 = .ok (.iconst 0, 1) := by decide +kernel
theorem d_Hauls_add_23 : decode prog_6_method_3_code 23 = .ok (.ireturn, 1) := by decide +kernel
theorem d_Hauls_add_8 : decode prog_6_method_3_code 8 = .ok (.lload_n 3, 1) := by decide +kernel
theorem d_Hauls_add_9 : decode prog_6_method_3_code 9 = .ok (.lconst 1, 1) := by decide +kernel
theorem d_Hauls_add_10 : decode prog_6_method_3_code 10 = .ok (.lcmp, 1) := by decide +kernel
theorem d_Hauls_add_11 : decode prog_6_method_3_code 11 = .ok (.ifCond .lt 11, 3) := by decide +kernel
theorem d_Hauls_add_14 : decode prog_6_method_3_code 14 = .ok (.lload_n 3, 1) := by decide +kernel
theorem d_Hauls_add_15 : decode prog_6_method_3_code 15 = .ok (.ldc2_w 19, 3) := by decide +kernel
theorem d_Hauls_add_18 : decode prog_6_method_3_code 18 = .ok (.lcmp, 1) := by decide +kernel
theorem d_Hauls_add_19 : decode prog_6_method_3_code 19 = .ok (.ifCond .le 5, 3) := by decide +kernel
theorem d_Hauls_add_24 : decode prog_6_method_3_code 24 = .ok (.iload_n 1, 1) := by decide +kernel
theorem d_Hauls_add_25 : decode prog_6_method_3_code 25 = .ok (.bipush 8, 2) := by decide +kernel
theorem d_Hauls_add_27 : decode prog_6_method_3_code 27 = .ok (.imul, 1) := by decide +kernel
theorem d_Hauls_add_28 : decode prog_6_method_3_code 28 = .ok (.iload_n 2, 1) := by decide +kernel
theorem d_Hauls_add_29 : decode prog_6_method_3_code 29 = .ok (.iadd, 1) := by decide +kernel
theorem d_Hauls_add_30 : decode prog_6_method_3_code 30 = .ok (.istore 5, 2) := by decide +kernel
theorem d_Hauls_add_32 : decode prog_6_method_3_code 32 = .ok (.iload 5, 2) := by decide +kernel
theorem d_Hauls_add_34 : decode prog_6_method_3_code 34 = .ok (.ifCond .lt 24, 3) := by decide +kernel
theorem d_Hauls_add_58 : decode prog_6_method_3_code 58 = .ok (.iconst 1, 1) := by decide +kernel
theorem d_Hauls_add_59 : decode prog_6_method_3_code 59 = .ok (.ireturn, 1) := by decide +kernel
theorem d_Hauls_add_37 : decode prog_6_method_3_code 37 = .ok (.iload 5, 2) := by decide +kernel
theorem d_Hauls_add_39 : decode prog_6_method_3_code 39 = .ok (.aload_n 0, 1) := by decide +kernel
theorem d_Hauls_add_40 : decode prog_6_method_3_code 40 = .ok (.getfield 11, 3) := by decide +kernel
theorem d_Hauls_add_43 : decode prog_6_method_3_code 43 = .ok (.arraylength, 1) := by decide +kernel
theorem d_Hauls_add_44 : decode prog_6_method_3_code 44 = .ok (.if_icmp .ge 14, 3) := by decide +kernel
theorem d_Hauls_add_47 : decode prog_6_method_3_code 47 = .ok (.aload_n 0, 1) := by decide +kernel
theorem d_Hauls_add_48 : decode prog_6_method_3_code 48 = .ok (.getfield 11, 3) := by decide +kernel
theorem d_Hauls_add_51 : decode prog_6_method_3_code 51 = .ok (.iload 5, 2) := by decide +kernel
theorem d_Hauls_add_53 : decode prog_6_method_3_code 53 = .ok (.dup2, 1) := by decide +kernel
theorem d_Hauls_add_54 : decode prog_6_method_3_code 54 = .ok (.laload, 1) := by decide +kernel
theorem d_Hauls_add_55 : decode prog_6_method_3_code 55 = .ok (.lload_n 3, 1) := by decide +kernel
theorem d_Hauls_add_56 : decode prog_6_method_3_code 56 = .ok (.ladd, 1) := by decide +kernel
theorem d_Hauls_add_57 : decode prog_6_method_3_code 57 = .ok (.lastore, 1) := by decide +kernel
theorem d_Hauls_gramsOf_0 : decode prog_6_method_4_code 0 = .ok (.iload_n 1, 1) := by decide +kernel
theorem d_Hauls_gramsOf_1 : decode prog_6_method_4_code 1 = .ok (.bipush 8, 2) := by decide +kernel
theorem d_Hauls_gramsOf_3 : decode prog_6_method_4_code 3 = .ok (.imul, 1) := by decide +kernel
theorem d_Hauls_gramsOf_4 : decode prog_6_method_4_code 4 = .ok (.iload_n 2, 1) := by decide +kernel
theorem d_Hauls_gramsOf_5 : decode prog_6_method_4_code 5 = .ok (.iadd, 1) := by decide +kernel
theorem d_Hauls_gramsOf_6 : decode prog_6_method_4_code 6 = .ok (.istore_n 3, 1) := by decide +kernel
theorem d_Hauls_gramsOf_7 : decode prog_6_method_4_code 7 = .ok (.iload_n 3, 1) := by decide +kernel
theorem d_Hauls_gramsOf_8 : decode prog_6_method_4_code 8 = .ok (.ifCond .lt 21, 3) := by decide +kernel
theorem d_Hauls_gramsOf_29 : decode prog_6_method_4_code 29 = .ok (.lconst 0, 1) := by decide +kernel
theorem d_Hauls_gramsOf_30 : decode prog_6_method_4_code 30 = .ok (.lreturn, 1) := by decide +kernel
theorem d_Hauls_gramsOf_11 : decode prog_6_method_4_code 11 = .ok (.iload_n 3, 1) := by decide +kernel
theorem d_Hauls_gramsOf_12 : decode prog_6_method_4_code 12 = .ok (.aload_n 0, 1) := by decide +kernel
theorem d_Hauls_gramsOf_13 : decode prog_6_method_4_code 13 = .ok (.getfield 11, 3) := by decide +kernel
theorem d_Hauls_gramsOf_16 : decode prog_6_method_4_code 16 = .ok (.arraylength, 1) := by decide +kernel
theorem d_Hauls_gramsOf_17 : decode prog_6_method_4_code 17 = .ok (.if_icmp .ge 12, 3) := by decide +kernel
theorem d_Hauls_gramsOf_20 : decode prog_6_method_4_code 20 = .ok (.aload_n 0, 1) := by decide +kernel
theorem d_Hauls_gramsOf_21 : decode prog_6_method_4_code 21 = .ok (.getfield 11, 3) := by decide +kernel
theorem d_Hauls_gramsOf_24 : decode prog_6_method_4_code 24 = .ok (.iload_n 3, 1) := by decide +kernel
theorem d_Hauls_gramsOf_25 : decode prog_6_method_4_code 25 = .ok (.laload, 1) := by decide +kernel
theorem d_Hauls_gramsOf_26 : decode prog_6_method_4_code 26 = .ok (.goto 4, 3) := by decide +kernel
theorem d_Hauls_total_5 : decode prog_6_method_5_code 5 = .ok (.iload 4, 2) := by decide +kernel
theorem d_Hauls_total_7 : decode prog_6_method_5_code 7 = .ok (.bipush 8, 2) := by decide +kernel
theorem d_Hauls_total_9 : decode prog_6_method_5_code 9 = .ok (.if_icmp .ge 19, 3) := by decide +kernel
theorem d_Hauls_total_28 : decode prog_6_method_5_code 28 = .ok (.lload_n 2, 1) := by decide +kernel
theorem d_Hauls_total_29 : decode prog_6_method_5_code 29 = .ok (.lreturn, 1) := by decide +kernel
theorem d_Hauls_total_12 : decode prog_6_method_5_code 12 = .ok (.lload_n 2, 1) := by decide +kernel
theorem d_Hauls_total_13 : decode prog_6_method_5_code 13 = .ok (.aload_n 0, 1) := by decide +kernel
theorem d_Hauls_total_14 : decode prog_6_method_5_code 14 = .ok (.iload_n 1, 1) := by decide +kernel
theorem d_Hauls_total_15 : decode prog_6_method_5_code 15 = .ok (.iload 4, 2) := by decide +kernel
theorem d_Hauls_total_17 : decode prog_6_method_5_code 17 = .ok (.invokevirtual 21, 3) := by decide +kernel
theorem d_Hauls_total_20 : decode prog_6_method_5_code 20 = .ok (.ladd, 1) := by decide +kernel
theorem d_Hauls_total_21 : decode prog_6_method_5_code 21 = .ok (.lstore_n 2, 1) := by decide +kernel
theorem d_Hauls_total_22 : decode prog_6_method_5_code 22 = .ok (.iinc 4 1, 3) := by decide +kernel
theorem d_Hauls_total_25 : decode prog_6_method_5_code 25 = .ok (.goto (-20), 3) := by decide +kernel
theorem d_Hauls_total_0 : decode prog_6_method_5_code 0 = .ok (.lconst 0, 1) := by decide +kernel
theorem d_Hauls_total_1 : decode prog_6_method_5_code 1 = .ok (.lstore_n 2, 1) := by decide +kernel
theorem d_Hauls_total_2 : decode prog_6_method_5_code 2 = .ok (.iconst 0, 1) := by decide +kernel
theorem d_Hauls_total_3 : decode prog_6_method_5_code 3 = .ok (.istore 4, 2) := by decide +kernel
theorem d_Hauls_greatestDivisor_9 : decode prog_6_method_7_code 9 = .ok (.iload 8, 2) := by decide +kernel
theorem d_Hauls_greatestDivisor_11 : decode prog_6_method_7_code 11 = .ok (.sipush 200, 3) := by decide +kernel
theorem d_Hauls_greatestDivisor_14 : decode prog_6_method_7_code 14 = .ok (.if_icmp .ge 31, 3) := by decide +kernel
theorem d_Hauls_greatestDivisor_45 : decode prog_6_method_7_code 45 = .ok (.lload 4, 2) := by decide +kernel
theorem d_Hauls_greatestDivisor_47 : decode prog_6_method_7_code 47 = .ok (.lreturn, 1) := by decide +kernel
theorem d_Hauls_greatestDivisor_17 : decode prog_6_method_7_code 17 = .ok (.lload 6, 2) := by decide +kernel
theorem d_Hauls_greatestDivisor_19 : decode prog_6_method_7_code 19 = .ok (.lconst 0, 1) := by decide +kernel
theorem d_Hauls_greatestDivisor_20 : decode prog_6_method_7_code 20 = .ok (.lcmp, 1) := by decide +kernel
theorem d_Hauls_greatestDivisor_21 : decode prog_6_method_7_code 21 = .ok (.ifCond .eq 24, 3) := by decide +kernel
theorem d_Hauls_greatestDivisor_24 : decode prog_6_method_7_code 24 = .ok (.lload 4, 2) := by decide +kernel
theorem d_Hauls_greatestDivisor_26 : decode prog_6_method_7_code 26 = .ok (.lload 6, 2) := by decide +kernel
theorem d_Hauls_greatestDivisor_28 : decode prog_6_method_7_code 28 = .ok (.lrem, 1) := by decide +kernel
theorem d_Hauls_greatestDivisor_29 : decode prog_6_method_7_code 29 = .ok (.lstore 9, 2) := by decide +kernel
theorem d_Hauls_greatestDivisor_31 : decode prog_6_method_7_code 31 = .ok (.lload 6, 2) := by decide +kernel
theorem d_Hauls_greatestDivisor_33 : decode prog_6_method_7_code 33 = .ok (.lstore 4, 2) := by decide +kernel
theorem d_Hauls_greatestDivisor_35 : decode prog_6_method_7_code 35 = .ok (.lload 9, 2) := by decide +kernel
theorem d_Hauls_greatestDivisor_37 : decode prog_6_method_7_code 37 = .ok (.lstore 6, 2) := by decide +kernel
theorem d_Hauls_greatestDivisor_39 : decode prog_6_method_7_code 39 = .ok (.iinc 8 1, 3) := by decide +kernel
theorem d_Hauls_greatestDivisor_42 : decode prog_6_method_7_code 42 = .ok (.goto (-33), 3) := by decide +kernel
theorem d_Hauls_greatestDivisor_0 : decode prog_6_method_7_code 0 = .ok (.lload_n 0, 1) := by decide +kernel
theorem d_Hauls_greatestDivisor_1 : decode prog_6_method_7_code 1 = .ok (.lstore 4, 2) := by decide +kernel
theorem d_Hauls_greatestDivisor_3 : decode prog_6_method_7_code 3 = .ok (.lload_n 2, 1) := by decide +kernel
theorem d_Hauls_greatestDivisor_4 : decode prog_6_method_7_code 4 = .ok (.lstore 6, 2) := by decide +kernel
theorem d_Hauls_greatestDivisor_6 : decode prog_6_method_7_code 6 = .ok (.iconst 0, 1) := by decide +kernel
theorem d_Hauls_greatestDivisor_7 : decode prog_6_method_7_code 7 = .ok (.istore 8, 2) := by decide +kernel
theorem d_Hauls_share_0 : decode prog_6_method_6_code 0 = .ok (.iload_n 1, 1) := by decide +kernel
theorem d_Hauls_share_1 : decode prog_6_method_6_code 1 = .ok (.iload_n 2, 1) := by decide +kernel
theorem d_Hauls_share_2 : decode prog_6_method_6_code 2 = .ok (.invokestatic 15, 3) := by decide +kernel
theorem d_Hauls_share_5 : decode prog_6_method_6_code 5 = .ok (.ifCond .eq 12, 3) := by decide +kernel
theorem d_Hauls_share_17 : decode prog_6_method_6_code 17 = .ok (.ldc2_w 25, 3) := by decide +kernel
theorem d_Hauls_share_20 : decode prog_6_method_6_code 20 = .ok (.lreturn, 1) := by decide +kernel
theorem d_Hauls_share_8 : decode prog_6_method_6_code 8 = .ok (.iload_n 3, 1) := by decide +kernel
theorem d_Hauls_share_9 : decode prog_6_method_6_code 9 = .ok (.ifCond .lt 8, 3) := by decide +kernel
theorem d_Hauls_share_12 : decode prog_6_method_6_code 12 = .ok (.iload_n 3, 1) := by decide +kernel
theorem d_Hauls_share_13 : decode prog_6_method_6_code 13 = .ok (.iconst 1, 1) := by decide +kernel
theorem d_Hauls_share_14 : decode prog_6_method_6_code 14 = .ok (.if_icmp .le 7, 3) := by decide +kernel
theorem d_Hauls_share_21 : decode prog_6_method_6_code 21 = .ok (.aload_n 0, 1) := by decide +kernel
theorem d_Hauls_share_22 : decode prog_6_method_6_code 22 = .ok (.iload_n 1, 1) := by decide +kernel
theorem d_Hauls_share_23 : decode prog_6_method_6_code 23 = .ok (.invokevirtual 27, 3) := by decide +kernel
theorem d_Hauls_share_26 : decode prog_6_method_6_code 26 = .ok (.lstore 4, 2) := by decide +kernel
theorem d_Hauls_share_28 : decode prog_6_method_6_code 28 = .ok (.aload_n 0, 1) := by decide +kernel
theorem d_Hauls_share_29 : decode prog_6_method_6_code 29 = .ok (.iload_n 1, 1) := by decide +kernel
theorem d_Hauls_share_30 : decode prog_6_method_6_code 30 = .ok (.iload_n 2, 1) := by decide +kernel
theorem d_Hauls_share_31 : decode prog_6_method_6_code 31 = .ok (.invokevirtual 21, 3) := by decide +kernel
theorem d_Hauls_share_34 : decode prog_6_method_6_code 34 = .ok (.lstore 6, 2) := by decide +kernel
theorem d_Hauls_share_36 : decode prog_6_method_6_code 36 = .ok (.lload 4, 2) := by decide +kernel
theorem d_Hauls_share_38 : decode prog_6_method_6_code 38 = .ok (.lload 6, 2) := by decide +kernel
theorem d_Hauls_share_40 : decode prog_6_method_6_code 40 = .ok (.invokestatic 31, 3) := by decide +kernel
theorem d_Hauls_share_43 : decode prog_6_method_6_code 43 = .ok (.lstore 8, 2) := by decide +kernel
theorem d_Hauls_share_45 : decode prog_6_method_6_code 45 = .ok (.lload 8, 2) := by decide +kernel
theorem d_Hauls_share_47 : decode prog_6_method_6_code 47 = .ok (.lconst 0, 1) := by decide +kernel
theorem d_Hauls_share_48 : decode prog_6_method_6_code 48 = .ok (.lcmp, 1) := by decide +kernel
theorem d_Hauls_share_49 : decode prog_6_method_6_code 49 = .ok (.ifCond .ne 7, 3) := by decide +kernel
theorem d_Hauls_share_56 : decode prog_6_method_6_code 56 = .ok (.iload_n 3, 1) := by decide +kernel
theorem d_Hauls_share_57 : decode prog_6_method_6_code 57 = .ok (.ifCond .ne 11, 3) := by decide +kernel
theorem d_Hauls_share_68 : decode prog_6_method_6_code 68 = .ok (.lload 4, 2) := by decide +kernel
theorem d_Hauls_share_70 : decode prog_6_method_6_code 70 = .ok (.lload 8, 2) := by decide +kernel
theorem d_Hauls_share_72 : decode prog_6_method_6_code 72 = .ok (.ldiv, 1) := by decide +kernel
theorem d_Hauls_share_73 : decode prog_6_method_6_code 73 = .ok (.lreturn, 1) := by decide +kernel
theorem d_Hauls_share_60 : decode prog_6_method_6_code 60 = .ok (.lload 6, 2) := by decide +kernel
theorem d_Hauls_share_62 : decode prog_6_method_6_code 62 = .ok (.lload 8, 2) := by decide +kernel
theorem d_Hauls_share_64 : decode prog_6_method_6_code 64 = .ok (.ldiv, 1) := by decide +kernel
theorem d_Hauls_share_65 : decode prog_6_method_6_code 65 = .ok (.goto 8, 3) := by decide +kernel
theorem d_Hauls_share_52 : decode prog_6_method_6_code 52 = .ok (.ldc2_w 25, 3) := by decide +kernel
theorem d_Hauls_share_55 : decode prog_6_method_6_code 55 = .ok (.lreturn, 1) := by decide +kernel
def M_Hauls_init (F : Nat) (h : hH) (x0 : Nat) : Option hH :=
  (some (hAdd h (.inr (.long, 80, .inr (.inl (fun _ => 0)))))).bind fun h1 =>
  (hPut h1 x0 4 0 (.ref h.1)).bind fun h2 =>
  some h2
def M_Hauls_has (F : Nat) (h : hH) (x0 : Int32) (x1 : Int32) : Option (Int32 × hH) :=
  if x0 < 0 then (
    some (0, h)
  ) else (
    if 10 ≤ x0 then (
      some (0, h)
    ) else (
      if x1 < 0 then (
        some (0, h)
      ) else (
        if 8 ≤ x1 then (
          some (0, h)
        ) else (
          some (1, h)
        )
      )
    )
  )
def M_Hauls_add (F : Nat) (h : hH) (x0 : Nat) (x1 : Int32) (x2 : Int32) (x3 : Int64) : Option (Int32 × hH) :=
  (M_Hauls_has F h x1 x2).bind fun q1 =>
  if q1.1 = 0 then (
    some (0, q1.2)
  ) else (
    if (lg_cmp x3 1) < 0 then (
      some (0, q1.2)
    ) else (
      if (lg_cmp x3 1000000000) ≤ 0 then (
        if ((x1 * 8) + x2) < 0 then (
          some (1, q1.2)
        ) else (
          (hGetA q1.2 x0 4 0).bind fun v6 =>
          (hLen q1.2 v6).bind fun v7 =>
          if v7 ≤ ((x1 * 8) + x2) then (
            some (1, q1.2)
          ) else (
            (hGetA q1.2 x0 4 0).bind fun v9 =>
            (hLdL q1.2 v9 ((x1 * 8) + x2)).bind fun v10 =>
            (hStL q1.2 v9 ((x1 * 8) + x2) (v10 + x3)).bind fun h11 =>
            some (1, h11)
          )
        )
      ) else (
        some (0, q1.2)
      )
    )
  )
def M_Hauls_gramsOf (F : Nat) (h : hH) (x0 : Nat) (x1 : Int32) (x2 : Int32) : Option (Int64 × hH) :=
  if ((x1 * 8) + x2) < 0 then (
    some (0, h)
  ) else (
    (hGetA h x0 4 0).bind fun v2 =>
    (hLen h v2).bind fun v3 =>
    if v3 ≤ ((x1 * 8) + x2) then (
      some (0, h)
    ) else (
      (hGetA h x0 4 0).bind fun v5 =>
      (hLdL h v5 ((x1 * 8) + x2)).bind fun v6 =>
      some (v6, h)
    )
  )
def B_Hauls_total_5 (F : Nat) (r5 : hH → Nat → Int32 → Int64 → Int32 → Option (Int64 × hH)) (h : hH) (x0 : Nat) (x1 : Int32) (x2 : Int64) (x4 : Int32) : Option (Int64 × hH) :=
  if 8 ≤ x4 then (
    some (x2, h)
  ) else (
    (hIs h x0 4).bind fun u2 =>
    (M_Hauls_gramsOf F h x0 x1 x4).bind fun q3 =>
    r5 q3.2 x0 x1 (x2 + q3.1) (x4 + 1)
  )
def M_Hauls_total_5 (F : Nat) : Nat → hH → Nat → Int32 → Int64 → Int32 → Option (Int64 × hH)
  | 0 => fun _ _ _ _ _ => none
  | z + 1 => B_Hauls_total_5 F (M_Hauls_total_5 F z)
def M_Hauls_total (F : Nat) (h : hH) (x0 : Nat) (x1 : Int32) : Option (Int64 × hH) :=
  M_Hauls_total_5 F F h x0 x1 0 0
def B_Hauls_greatestDivisor_9 (F : Nat) (r9 : hH → Int64 → Int64 → Int32 → Option (Int64 × hH)) (h : hH) (x4 : Int64) (x6 : Int64) (x8 : Int32) : Option (Int64 × hH) :=
  if 200 ≤ x8 then (
    some (x4, h)
  ) else (
    if (lg_cmp x6 0) = 0 then (
      some (x4, h)
    ) else (
      if x6 = 0 then none else
      r9 h x6 (x4 - x4 / x6 * x6) (x8 + 1)
    )
  )
def M_Hauls_greatestDivisor_9 (F : Nat) : Nat → hH → Int64 → Int64 → Int32 → Option (Int64 × hH)
  | 0 => fun _ _ _ _ => none
  | z + 1 => B_Hauls_greatestDivisor_9 F (M_Hauls_greatestDivisor_9 F z)
def M_Hauls_greatestDivisor (F : Nat) (h : hH) (x0 : Int64) (x2 : Int64) : Option (Int64 × hH) :=
  M_Hauls_greatestDivisor_9 F F h x0 x2 0
def M_Hauls_share (F : Nat) (h : hH) (x0 : Nat) (x1 : Int32) (x2 : Int32) (x3 : Int32) : Option (Int64 × hH) :=
  (M_Hauls_has F h x1 x2).bind fun q1 =>
  if q1.1 = 0 then (
    some ((-1), q1.2)
  ) else (
    if x3 < 0 then (
      some ((-1), q1.2)
    ) else (
      if x3 ≤ 1 then (
        (hIs q1.2 x0 4).bind fun u5 =>
        (M_Hauls_total F q1.2 x0 x1).bind fun q6 =>
        (hIs q6.2 x0 4).bind fun u7 =>
        (M_Hauls_gramsOf F q6.2 x0 x1 x2).bind fun q8 =>
        (M_Hauls_greatestDivisor F q8.2 q6.1 q8.1).bind fun q9 =>
        if (lg_cmp q9.1 0) = 0 then (
          some ((-1), q9.2)
        ) else (
          if x3 = 0 then (
            if q9.1 = 0 then none else
            some ((q8.1 / q9.1), q9.2)
          ) else (
            if q9.1 = 0 then none else
            some ((q6.1 / q9.1), q9.2)
          )
        )
      ) else (
        some ((-1), q1.2)
      )
    )
  )
abbrev rm_Hauls_init : Room := { frames := 1, cells := 1, slots := 80, locals := 12 }
set_option maxHeartbeats 4000000 in
set_option maxRecDepth 100000 in
theorem c_Hauls_init (l : Launch) (D : va_G) (K : (Nat → Nat) × (Nat → Nat)) (F : Nat) {h : hH} {x0 : Nat} {q : hH} (hM : M_Hauls_init F h x0 = some q) : Met l y_Hauls_init (.code y_Hauls_init prog_6_method_1_code 1 none :: T0) rm_Hauls_init (hPc hG D cls0 K [.ref x0] h) (hQ D cls0 h none q) 1 80 (hF h) := by
  refine J_met (lv := [(0, .ref x0)]) (by decide) (Nat.le_of_ble_eq_true rfl) rfl ?_
  intro p e s m below meth c X hr hlk hnm
  have Y : HX p s m _ meth c prog_6_method_1_code 1 "LicenceTexts$Hauls" D K "<init>" none h := ⟨X, hr, hlk, hnm⟩
  unfold M_Hauls_init at hM
  refine J_aload_n (pc := 0) X 0 d_Hauls_init_0 rfl ?_
  refine J_objInit (pc := 1) X k_36 k_1 k_2 d_Hauls_init_1 (Nat.le_of_ble_eq_true rfl) (Nat.le_of_ble_eq_true rfl) ?_
  refine J_aload_n (pc := 4) X 0 d_Hauls_init_4 rfl ?_
  refine J_bipush (pc := 5) (v := (80)) X d_Hauls_init_5 (by decide) ?_
  refine J_newa (pc := 7) (ty := .long) (N := 80) (a0 := (80, .inr (.inl (fun _ => 0)))) X rfl k_7 d_Hauls_init_7 (fun _ => rfl) (fun _ _ hq => hq) (by decide) (by decide) (by decide) (Nat.le_of_ble_eq_true rfl) (Nat.le_of_ble_eq_true rfl) ?_
  obtain ⟨h1, eh1, hM⟩ := hb_some hM
  rw [Option.some.inj eh1]
  obtain ⟨h2, eh2, hM⟩ := hb_some hM
  refine J_putF (pc := 9) X hc_Hauls in_Hauls t_Hauls tk_Hauls nk_Hauls 0 k_37 (by decide) rfl rfl rfl hnm d_Hauls_init_9 rfl rfl rfl eh2 ?_
  obtain rfl := Option.some.inj hM
  exact J_vret (pc := 12) X hr hlk (Nat.le_of_ble_eq_true rfl) (Nat.le_of_ble_eq_true rfl) d_Hauls_init_12
abbrev rm_Hauls_has : Room := { frames := 0, cells := 0, slots := 0, locals := 0 }
set_option maxHeartbeats 4000000 in
set_option maxRecDepth 100000 in
theorem c_Hauls_has (l : Launch) (D : va_G) (K : (Nat → Nat) × (Nat → Nat)) (F : Nat) {h : hH} {x0 : Int32} {x1 : Int32} {q : (Int32 × hH)} (hM : M_Hauls_has F h x0 x1 = some q) : Met l y_Hauls_has (.code y_Hauls_has prog_6_method_2_code 2 (some .boolean) :: T0) rm_Hauls_has (hPc hG D cls0 K [.int x0, .int x1] h) (hQ D cls0 h (some (.int q.1)) q.2) 0 0 (hF h) := by
  refine J_met (lv := [(0, .int x0), (1, .int x1)]) (by decide) (Nat.le_of_ble_eq_true rfl) rfl ?_
  intro p e s m below meth c X hr hlk hnm
  have Y : HX p s m _ meth c prog_6_method_2_code 2 "LicenceTexts$Hauls" D K "has" (some .boolean) h := ⟨X, hr, hlk, hnm⟩
  unfold M_Hauls_has at hM
  refine J_iload_n (pc := 0) X 0 d_Hauls_has_0 rfl ?_
  refine J_if_lt (pc := 1) (tgt := 24) X d_Hauls_has_1 (by decide) (fun c1 => ?_) (fun c1 => ?_)
  · have hM := hif_t hM c1
    refine J_iconst (pc := 24) (v := (0)) X d_Hauls_has_24 (by decide) ?_
    obtain rfl := Option.some.inj hM
    exact J_zret (pc := 25) X hr hz0 hlk (Nat.le_of_ble_eq_true rfl) (Nat.le_of_ble_eq_true rfl) d_Hauls_has_25
  · have hM := hif_f hM c1
    refine J_iload_n (pc := 4) X 0 d_Hauls_has_4 rfl ?_
    refine J_bipush (pc := 5) (v := (10)) X d_Hauls_has_5 (by decide) ?_
    refine J_icmp_ge (pc := 7) (tgt := 24) X d_Hauls_has_7 (by decide) (fun c2 => ?_) (fun c2 => ?_)
    · have hM := hif_t hM c2
      refine J_iconst (pc := 24) (v := (0)) X d_Hauls_has_24 (by decide) ?_
      obtain rfl := Option.some.inj hM
      exact J_zret (pc := 25) X hr hz0 hlk (Nat.le_of_ble_eq_true rfl) (Nat.le_of_ble_eq_true rfl) d_Hauls_has_25
    · have hM := hif_f hM c2
      refine J_iload_n (pc := 10) X 1 d_Hauls_has_10 rfl ?_
      refine J_if_lt (pc := 11) (tgt := 24) X d_Hauls_has_11 (by decide) (fun c3 => ?_) (fun c3 => ?_)
      · have hM := hif_t hM c3
        refine J_iconst (pc := 24) (v := (0)) X d_Hauls_has_24 (by decide) ?_
        obtain rfl := Option.some.inj hM
        exact J_zret (pc := 25) X hr hz0 hlk (Nat.le_of_ble_eq_true rfl) (Nat.le_of_ble_eq_true rfl) d_Hauls_has_25
      · have hM := hif_f hM c3
        refine J_iload_n (pc := 14) X 1 d_Hauls_has_14 rfl ?_
        refine J_bipush (pc := 15) (v := (8)) X d_Hauls_has_15 (by decide) ?_
        refine J_icmp_ge (pc := 17) (tgt := 24) X d_Hauls_has_17 (by decide) (fun c4 => ?_) (fun c4 => ?_)
        · have hM := hif_t hM c4
          refine J_iconst (pc := 24) (v := (0)) X d_Hauls_has_24 (by decide) ?_
          obtain rfl := Option.some.inj hM
          exact J_zret (pc := 25) X hr hz0 hlk (Nat.le_of_ble_eq_true rfl) (Nat.le_of_ble_eq_true rfl) d_Hauls_has_25
        · have hM := hif_f hM c4
          refine J_iconst (pc := 20) (v := (1)) X d_Hauls_has_20 (by decide) ?_
          refine J_goto (pc := 21) (tgt := 25) X d_Hauls_has_21 (by decide) ?_
          obtain rfl := Option.some.inj hM
          exact J_zret (pc := 25) X hr hz1 hlk (Nat.le_of_ble_eq_true rfl) (Nat.le_of_ble_eq_true rfl) d_Hauls_has_25
abbrev rm_Hauls_add : Room := { frames := 1, cells := 0, slots := 0, locals := 21 }
set_option maxHeartbeats 4000000 in
set_option maxRecDepth 100000 in
theorem c_Hauls_add (l : Launch) (D : va_G) (K : (Nat → Nat) × (Nat → Nat)) (F : Nat) {h : hH} {x0 : Nat} {x1 : Int32} {x2 : Int32} {x3 : Int64} {q : (Int32 × hH)} (hM : M_Hauls_add F h x0 x1 x2 x3 = some q) : Met l y_Hauls_add (.code y_Hauls_add prog_6_method_3_code 6 (some .boolean) :: T0) rm_Hauls_add (hPc hG D cls0 K [.ref x0, .int x1, .int x2, .long x3] h) (hQ D cls0 h (some (.int q.1)) q.2) 0 0 (hF h) := by
  refine J_met (lv := [(0, .ref x0), (1, .int x1), (2, .int x2), (3, .long x3)]) (by decide) (Nat.le_of_ble_eq_true rfl) rfl ?_
  intro p e s m below meth c X hr hlk hnm
  have Y : HX p s m _ meth c prog_6_method_3_code 6 "LicenceTexts$Hauls" D K "add" (some .boolean) h := ⟨X, hr, hlk, hnm⟩
  unfold M_Hauls_add at hM
  refine J_iload_n (pc := 0) X 1 d_Hauls_add_0 rfl ?_
  refine J_iload_n (pc := 1) X 2 d_Hauls_add_1 rfl ?_
  obtain ⟨q1, eq1, hM⟩ := hb_some hM
  refine J_callS (pc := 2) (As := [.int x1, .int x2]) (rest := []) (o := (some (.int q1.1))) (h2 := q1.2) X (c_Hauls_has l D K F eq1) (cwS_of (nA := 2) X.fix k_38 k_41 k_40 k_39 ⟨rfl, rfl⟩ (by decide +kernel) ⟨Nat.le_of_ble_eq_true rfl, Nat.le_of_ble_eq_true rfl⟩) d_Hauls_add_2 rfl rfl (Nat.le_of_ble_eq_true rfl) (Nat.le_of_ble_eq_true rfl) (Nat.le_of_ble_eq_true rfl) ?_
  refine J_if_eq (pc := 5) (tgt := 22) X d_Hauls_add_5 (by decide) (fun c2 => ?_) (fun c2 => ?_)
  · have hM := hif_t hM c2
    refine J_iconst (pc := 22) (v := (0)) X d_Hauls_add_22 (by decide) ?_
    obtain rfl := Option.some.inj hM
    exact J_zret (pc := 23) X hr hz0 hlk (Nat.le_of_ble_eq_true rfl) (Nat.le_of_ble_eq_true rfl) d_Hauls_add_23
  · have hM := hif_f hM c2
    refine J_lload_n (pc := 8) X 3 d_Hauls_add_8 rfl ?_
    refine J_lconst (pc := 9) (v := (1)) X d_Hauls_add_9 (by decide) ?_
    refine J_lcmp (pc := 10) X d_Hauls_add_10 ?_
    refine J_if_lt (pc := 11) (tgt := 22) X d_Hauls_add_11 (by decide) (fun c3 => ?_) (fun c3 => ?_)
    · have hM := hif_t hM c3
      refine J_iconst (pc := 22) (v := (0)) X d_Hauls_add_22 (by decide) ?_
      obtain rfl := Option.some.inj hM
      exact J_zret (pc := 23) X hr hz0 hlk (Nat.le_of_ble_eq_true rfl) (Nat.le_of_ble_eq_true rfl) d_Hauls_add_23
    · have hM := hif_f hM c3
      refine J_lload_n (pc := 14) X 3 d_Hauls_add_14 rfl ?_
      refine J_ldc2 (pc := 15) X k_42 d_Hauls_add_15 ?_
      refine J_lcmp (pc := 18) X d_Hauls_add_18 ?_
      refine J_if_le (pc := 19) (tgt := 24) X d_Hauls_add_19 (by decide) (fun c4 => ?_) (fun c4 => ?_)
      · have hM := hif_t hM c4
        refine J_iload_n (pc := 24) X 1 d_Hauls_add_24 rfl ?_
        refine J_bipush (pc := 25) (v := (8)) X d_Hauls_add_25 (by decide) ?_
        refine J_imul (pc := 27) X d_Hauls_add_27 ?_
        refine J_iload_n (pc := 28) X 2 d_Hauls_add_28 rfl ?_
        refine J_iadd (pc := 29) X d_Hauls_add_29 ?_
        refine J_istore (pc := 30) (lv' := [(5, .int ((x1 * 8) + x2)), (0, .ref x0), (1, .int x1), (2, .int x2), (3, .long x3)]) X d_Hauls_add_30 (by decide) rfl ?_
        refine J_iload (pc := 32) X 0 d_Hauls_add_32 rfl ?_
        refine J_if_lt (pc := 34) (tgt := 58) X d_Hauls_add_34 (by decide) (fun c5 => ?_) (fun c5 => ?_)
        · have hM := hif_t hM c5
          refine J_iconst (pc := 58) (v := (1)) X d_Hauls_add_58 (by decide) ?_
          obtain rfl := Option.some.inj hM
          exact J_zret (pc := 59) X hr hz1 hlk (Nat.le_of_ble_eq_true rfl) (Nat.le_of_ble_eq_true rfl) d_Hauls_add_59
        · have hM := hif_f hM c5
          refine J_iload (pc := 37) X 0 d_Hauls_add_37 rfl ?_
          refine J_aload_n (pc := 39) X 1 d_Hauls_add_39 rfl ?_
          obtain ⟨v6, ev6, hM⟩ := hb_some hM
          refine J_getA (pc := 40) X hc_Hauls in_Hauls 0 k_37 (by decide) rfl d_Hauls_add_40 rfl ev6 ?_
          obtain ⟨v7, ev7, hM⟩ := hb_some hM
          refine J_alen (pc := 43) X d_Hauls_add_43 rfl ev7 ?_
          refine J_icmp_ge (pc := 44) (tgt := 58) X d_Hauls_add_44 (by decide) (fun c8 => ?_) (fun c8 => ?_)
          · have hM := hif_t hM c8
            refine J_iconst (pc := 58) (v := (1)) X d_Hauls_add_58 (by decide) ?_
            obtain rfl := Option.some.inj hM
            exact J_zret (pc := 59) X hr hz1 hlk (Nat.le_of_ble_eq_true rfl) (Nat.le_of_ble_eq_true rfl) d_Hauls_add_59
          · have hM := hif_f hM c8
            refine J_aload_n (pc := 47) X 1 d_Hauls_add_47 rfl ?_
            obtain ⟨v9, ev9, hM⟩ := hb_some hM
            refine J_getA (pc := 48) X hc_Hauls in_Hauls 0 k_37 (by decide) rfl d_Hauls_add_48 rfl ev9 ?_
            refine J_iload (pc := 51) X 0 d_Hauls_add_51 rfl ?_
            refine J_dup2 (pc := 53) X d_Hauls_add_53 rfl rfl ?_
            obtain ⟨v10, ev10, hM⟩ := hb_some hM
            refine J_lald (pc := 54) X d_Hauls_add_54 rfl ev10 ?_
            refine J_lload_n (pc := 55) X 4 d_Hauls_add_55 rfl ?_
            refine J_ladd (pc := 56) X d_Hauls_add_56 ?_
            obtain ⟨h11, eh11, hM⟩ := hb_some hM
            refine J_last (pc := 57) X d_Hauls_add_57 rfl eh11 ?_
            refine J_iconst (pc := 58) (v := (1)) X d_Hauls_add_58 (by decide) ?_
            obtain rfl := Option.some.inj hM
            exact J_zret (pc := 59) X hr hz1 hlk (Nat.le_of_ble_eq_true rfl) (Nat.le_of_ble_eq_true rfl) d_Hauls_add_59
      · have hM := hif_f hM c4
        refine J_iconst (pc := 22) (v := (0)) X d_Hauls_add_22 (by decide) ?_
        obtain rfl := Option.some.inj hM
        exact J_zret (pc := 23) X hr hz0 hlk (Nat.le_of_ble_eq_true rfl) (Nat.le_of_ble_eq_true rfl) d_Hauls_add_23
abbrev rm_Hauls_gramsOf : Room := { frames := 0, cells := 0, slots := 0, locals := 0 }
set_option maxHeartbeats 4000000 in
set_option maxRecDepth 100000 in
theorem c_Hauls_gramsOf (l : Launch) (D : va_G) (K : (Nat → Nat) × (Nat → Nat)) (F : Nat) {h : hH} {x0 : Nat} {x1 : Int32} {x2 : Int32} {q : (Int64 × hH)} (hM : M_Hauls_gramsOf F h x0 x1 x2 = some q) : Met l y_Hauls_gramsOf (.code y_Hauls_gramsOf prog_6_method_4_code 4 (some .long) :: T0) rm_Hauls_gramsOf (hPc hG D cls0 K [.ref x0, .int x1, .int x2] h) (hQ D cls0 h (some (.long q.1)) q.2) 0 0 (hF h) := by
  refine J_met (lv := [(0, .ref x0), (1, .int x1), (2, .int x2)]) (by decide) (Nat.le_of_ble_eq_true rfl) rfl ?_
  intro p e s m below meth c X hr hlk hnm
  have Y : HX p s m _ meth c prog_6_method_4_code 4 "LicenceTexts$Hauls" D K "gramsOf" (some .long) h := ⟨X, hr, hlk, hnm⟩
  unfold M_Hauls_gramsOf at hM
  refine J_iload_n (pc := 0) X 1 d_Hauls_gramsOf_0 rfl ?_
  refine J_bipush (pc := 1) (v := (8)) X d_Hauls_gramsOf_1 (by decide) ?_
  refine J_imul (pc := 3) X d_Hauls_gramsOf_3 ?_
  refine J_iload_n (pc := 4) X 2 d_Hauls_gramsOf_4 rfl ?_
  refine J_iadd (pc := 5) X d_Hauls_gramsOf_5 ?_
  refine J_istore_n (pc := 6) (lv' := [(3, .int ((x1 * 8) + x2)), (0, .ref x0), (1, .int x1), (2, .int x2)]) X d_Hauls_gramsOf_6 rfl (by decide) rfl ?_
  refine J_iload_n (pc := 7) X 0 d_Hauls_gramsOf_7 rfl ?_
  refine J_if_lt (pc := 8) (tgt := 29) X d_Hauls_gramsOf_8 (by decide) (fun c1 => ?_) (fun c1 => ?_)
  · have hM := hif_t hM c1
    refine J_lconst (pc := 29) (v := (0)) X d_Hauls_gramsOf_29 (by decide) ?_
    obtain rfl := Option.some.inj hM
    exact J_lret (pc := 30) X hr hlk (Nat.le_of_ble_eq_true rfl) (Nat.le_of_ble_eq_true rfl) d_Hauls_gramsOf_30
  · have hM := hif_f hM c1
    refine J_iload_n (pc := 11) X 0 d_Hauls_gramsOf_11 rfl ?_
    refine J_aload_n (pc := 12) X 1 d_Hauls_gramsOf_12 rfl ?_
    obtain ⟨v2, ev2, hM⟩ := hb_some hM
    refine J_getA (pc := 13) X hc_Hauls in_Hauls 0 k_37 (by decide) rfl d_Hauls_gramsOf_13 rfl ev2 ?_
    obtain ⟨v3, ev3, hM⟩ := hb_some hM
    refine J_alen (pc := 16) X d_Hauls_gramsOf_16 rfl ev3 ?_
    refine J_icmp_ge (pc := 17) (tgt := 29) X d_Hauls_gramsOf_17 (by decide) (fun c4 => ?_) (fun c4 => ?_)
    · have hM := hif_t hM c4
      refine J_lconst (pc := 29) (v := (0)) X d_Hauls_gramsOf_29 (by decide) ?_
      obtain rfl := Option.some.inj hM
      exact J_lret (pc := 30) X hr hlk (Nat.le_of_ble_eq_true rfl) (Nat.le_of_ble_eq_true rfl) d_Hauls_gramsOf_30
    · have hM := hif_f hM c4
      refine J_aload_n (pc := 20) X 1 d_Hauls_gramsOf_20 rfl ?_
      obtain ⟨v5, ev5, hM⟩ := hb_some hM
      refine J_getA (pc := 21) X hc_Hauls in_Hauls 0 k_37 (by decide) rfl d_Hauls_gramsOf_21 rfl ev5 ?_
      refine J_iload_n (pc := 24) X 0 d_Hauls_gramsOf_24 rfl ?_
      obtain ⟨v6, ev6, hM⟩ := hb_some hM
      refine J_lald (pc := 25) X d_Hauls_gramsOf_25 rfl ev6 ?_
      refine J_goto (pc := 26) (tgt := 30) X d_Hauls_gramsOf_26 (by decide) ?_
      obtain rfl := Option.some.inj hM
      exact J_lret (pc := 30) X hr hlk (Nat.le_of_ble_eq_true rfl) (Nat.le_of_ble_eq_true rfl) d_Hauls_gramsOf_30
abbrev rm_Hauls_total : Room := { frames := 1, cells := 0, slots := 0, locals := 23 }
set_option maxHeartbeats 4000000 in
set_option maxRecDepth 100000 in
theorem b_Hauls_total_5 {p : Program} {l : Launch} {e : Env} {s : State} {m : MethodId} {args : Array Value} {below : List Frame} {meth : Method} {c : Code} {D : va_G} {K : (Nat → Nat) × (Nat → Nat)} {h0 : hH} (Y : HX p s m args meth c prog_6_method_5_code 5 "LicenceTexts$Hauls" D K "total" (some .long) h0) {F : Nat}   {r5 : hH → Nat → Int32 → Int64 → Int32 → Option (Int64 × hH)} (R5 : ∀ (h : hH) (x0 : Nat) (x1 : Int32) (x2 : Int64) (x4 : Int32) (q : (Int64 × hH)), r5 h x0 x1 x2 x4 = some q → J p l e rm_Hauls_total s m args below meth c 5 D cls0 (hF h0) h [(0, .ref x0), (1, .int x1), (2, .long x2), (4, .int x4)] 0 0 (MQ below (hQ D cls0 h0 (some (.long q.1)) q.2) args s 0 0 (hF h0)) 5 []) : ∀ (h : hH) (x0 : Nat) (x1 : Int32) (x2 : Int64) (x4 : Int32) (q : (Int64 × hH)), B_Hauls_total_5 F r5 h x0 x1 x2 x4 = some q → J p l e rm_Hauls_total s m args below meth c 5 D cls0 (hF h0) h [(0, .ref x0), (1, .int x1), (2, .long x2), (4, .int x4)] 0 0 (MQ below (hQ D cls0 h0 (some (.long q.1)) q.2) args s 0 0 (hF h0)) 5 [] := by
  intro h x0 x1 x2 x4 q hM
  obtain ⟨X, hr, hlk, hnm⟩ := id Y
  unfold B_Hauls_total_5 at hM
  refine J_iload (pc := 5) X 3 d_Hauls_total_5 rfl ?_
  refine J_bipush (pc := 7) (v := (8)) X d_Hauls_total_7 (by decide) ?_
  refine J_icmp_ge (pc := 9) (tgt := 28) X d_Hauls_total_9 (by decide) (fun c1 => ?_) (fun c1 => ?_)
  · have hM := hif_t hM c1
    refine J_lload_n (pc := 28) X 2 d_Hauls_total_28 rfl ?_
    obtain rfl := Option.some.inj hM
    exact J_lret (pc := 29) X hr hlk (Nat.le_of_ble_eq_true rfl) (Nat.le_of_ble_eq_true rfl) d_Hauls_total_29
  · have hM := hif_f hM c1
    refine J_lload_n (pc := 12) X 2 d_Hauls_total_12 rfl ?_
    refine J_aload_n (pc := 13) X 0 d_Hauls_total_13 rfl ?_
    refine J_iload_n (pc := 14) X 1 d_Hauls_total_14 rfl ?_
    refine J_iload (pc := 15) X 3 d_Hauls_total_15 rfl ?_
    obtain ⟨u2, eu2, hM⟩ := hb_some hM
    obtain ⟨q3, eq3, hM⟩ := hb_some hM
    refine J_callV (pc := 17) (As := [.int x1, .int x4]) (rest := [.long x2]) (o := (some (.long q3.1))) (h2 := q3.2) X rfl hc_Hauls eu2 (c_Hauls_gramsOf l D K F eq3) (cwV_of (nA := 2) X.fix k_43 k_45 k_46 k_40 k_44 ⟨rfl, rfl, rfl⟩ (by decide +kernel) ⟨Nat.le_of_ble_eq_true rfl, Nat.le_of_ble_eq_true rfl⟩) d_Hauls_total_17 rfl rfl (Nat.le_of_ble_eq_true rfl) (Nat.le_of_ble_eq_true rfl) (Nat.le_of_ble_eq_true rfl) ?_
    refine J_ladd (pc := 20) X d_Hauls_total_20 ?_
    refine J_lstore_n (pc := 21) (lv' := [(2, .long (x2 + q3.1)), (0, .ref x0), (1, .int x1), (4, .int x4)]) X d_Hauls_total_21 rfl (by decide) rfl ?_
    refine J_iinc (pc := 22) (v := x4 + 1) (lv' := [(4, .int (x4 + 1)), (2, .long (x2 + q3.1)), (0, .ref x0), (1, .int x1)]) X 3 d_Hauls_total_22 rfl rfl (by decide) rfl ?_
    refine J_goto (pc := 25) (tgt := 5) X d_Hauls_total_25 (by decide) ?_
    refine J_sub [2, 3, 1, 0] rfl ?_
    exact R5 _ _ _ _ _ _ hM
theorem w_Hauls_total_5 {p : Program} {l : Launch} {e : Env} {s : State} {m : MethodId} {args : Array Value} {below : List Frame} {meth : Method} {c : Code} {D : va_G} {K : (Nat → Nat) × (Nat → Nat)} {h0 : hH} (Y : HX p s m args meth c prog_6_method_5_code 5 "LicenceTexts$Hauls" D K "total" (some .long) h0) {F : Nat} : ∀ z : Nat, ∀ (h : hH) (x0 : Nat) (x1 : Int32) (x2 : Int64) (x4 : Int32) (q : (Int64 × hH)), M_Hauls_total_5 F z h x0 x1 x2 x4 = some q → J p l e rm_Hauls_total s m args below meth c 5 D cls0 (hF h0) h [(0, .ref x0), (1, .int x1), (2, .long x2), (4, .int x4)] 0 0 (MQ below (hQ D cls0 h0 (some (.long q.1)) q.2) args s 0 0 (hF h0)) 5 [] := by
  intro z
  induction z with
  | zero => intro h x0 x1 x2 x4 q hM; exact absurd (show (none : Option _) = some q from hM) (fun t => by cases t)
  | succ z ih => exact b_Hauls_total_5 Y ih
set_option maxHeartbeats 4000000 in
set_option maxRecDepth 100000 in
theorem c_Hauls_total (l : Launch) (D : va_G) (K : (Nat → Nat) × (Nat → Nat)) (F : Nat) {h : hH} {x0 : Nat} {x1 : Int32} {q : (Int64 × hH)} (hM : M_Hauls_total F h x0 x1 = some q) : Met l y_Hauls_total (.code y_Hauls_total prog_6_method_5_code 5 (some .long) :: T0) rm_Hauls_total (hPc hG D cls0 K [.ref x0, .int x1] h) (hQ D cls0 h (some (.long q.1)) q.2) 0 0 (hF h) := by
  refine J_met (lv := [(0, .ref x0), (1, .int x1)]) (by decide) (Nat.le_of_ble_eq_true rfl) rfl ?_
  intro p e s m below meth c X hr hlk hnm
  have Y : HX p s m _ meth c prog_6_method_5_code 5 "LicenceTexts$Hauls" D K "total" (some .long) h := ⟨X, hr, hlk, hnm⟩
  unfold M_Hauls_total at hM
  refine J_lconst (pc := 0) (v := (0)) X d_Hauls_total_0 (by decide) ?_
  refine J_lstore_n (pc := 1) (lv' := [(2, .long 0), (0, .ref x0), (1, .int x1)]) X d_Hauls_total_1 rfl (by decide) rfl ?_
  refine J_iconst (pc := 2) (v := (0)) X d_Hauls_total_2 (by decide) ?_
  refine J_istore (pc := 3) (lv' := [(4, .int 0), (2, .long 0), (0, .ref x0), (1, .int x1)]) X d_Hauls_total_3 (by decide) rfl ?_
  refine J_sub [2, 3, 1, 0] rfl ?_
  exact w_Hauls_total_5 Y F _ _ _ _ _ _ hM
abbrev rm_Hauls_greatestDivisor : Room := { frames := 0, cells := 0, slots := 0, locals := 0 }
set_option maxHeartbeats 4000000 in
set_option maxRecDepth 100000 in
theorem b_Hauls_greatestDivisor_9 {p : Program} {l : Launch} {e : Env} {s : State} {m : MethodId} {args : Array Value} {below : List Frame} {meth : Method} {c : Code} {D : va_G} {K : (Nat → Nat) × (Nat → Nat)} {h0 : hH} (Y : HX p s m args meth c prog_6_method_7_code 11 "LicenceTexts$Hauls" D K "greatestDivisor" (some .long) h0) {F : Nat}   {r9 : hH → Int64 → Int64 → Int32 → Option (Int64 × hH)} (R9 : ∀ (h : hH) (x4 : Int64) (x6 : Int64) (x8 : Int32) (q : (Int64 × hH)), r9 h x4 x6 x8 = some q → J p l e rm_Hauls_greatestDivisor s m args below meth c 11 D cls0 (hF h0) h [(4, .long x4), (6, .long x6), (8, .int x8)] 0 0 (MQ below (hQ D cls0 h0 (some (.long q.1)) q.2) args s 0 0 (hF h0)) 9 []) : ∀ (h : hH) (x4 : Int64) (x6 : Int64) (x8 : Int32) (q : (Int64 × hH)), B_Hauls_greatestDivisor_9 F r9 h x4 x6 x8 = some q → J p l e rm_Hauls_greatestDivisor s m args below meth c 11 D cls0 (hF h0) h [(4, .long x4), (6, .long x6), (8, .int x8)] 0 0 (MQ below (hQ D cls0 h0 (some (.long q.1)) q.2) args s 0 0 (hF h0)) 9 [] := by
  intro h x4 x6 x8 q hM
  obtain ⟨X, hr, hlk, hnm⟩ := id Y
  unfold B_Hauls_greatestDivisor_9 at hM
  refine J_iload (pc := 9) X 2 d_Hauls_greatestDivisor_9 rfl ?_
  refine J_sipush (pc := 11) (v := (200)) X d_Hauls_greatestDivisor_11 (by decide) ?_
  refine J_icmp_ge (pc := 14) (tgt := 45) X d_Hauls_greatestDivisor_14 (by decide) (fun c1 => ?_) (fun c1 => ?_)
  · have hM := hif_t hM c1
    refine J_lload (pc := 45) X 0 d_Hauls_greatestDivisor_45 rfl ?_
    obtain rfl := Option.some.inj hM
    exact J_lret (pc := 47) X hr hlk (Nat.le_of_ble_eq_true rfl) (Nat.le_of_ble_eq_true rfl) d_Hauls_greatestDivisor_47
  · have hM := hif_f hM c1
    refine J_lload (pc := 17) X 1 d_Hauls_greatestDivisor_17 rfl ?_
    refine J_lconst (pc := 19) (v := (0)) X d_Hauls_greatestDivisor_19 (by decide) ?_
    refine J_lcmp (pc := 20) X d_Hauls_greatestDivisor_20 ?_
    refine J_if_eq (pc := 21) (tgt := 45) X d_Hauls_greatestDivisor_21 (by decide) (fun c2 => ?_) (fun c2 => ?_)
    · have hM := hif_t hM c2
      refine J_lload (pc := 45) X 0 d_Hauls_greatestDivisor_45 rfl ?_
      obtain rfl := Option.some.inj hM
      exact J_lret (pc := 47) X hr hlk (Nat.le_of_ble_eq_true rfl) (Nat.le_of_ble_eq_true rfl) d_Hauls_greatestDivisor_47
    · have hM := hif_f hM c2
      refine J_lload (pc := 24) X 0 d_Hauls_greatestDivisor_24 rfl ?_
      refine J_lload (pc := 26) X 1 d_Hauls_greatestDivisor_26 rfl ?_
      obtain ⟨c3, hM⟩ := hnz hM
      refine J_lrem (pc := 28) X d_Hauls_greatestDivisor_28 c3 ?_
      refine J_lstore (pc := 29) (lv' := [(9, .long (x4 - x4 / x6 * x6)), (4, .long x4), (6, .long x6), (8, .int x8)]) X d_Hauls_greatestDivisor_29 (by decide) rfl ?_
      refine J_lload (pc := 31) X 2 d_Hauls_greatestDivisor_31 rfl ?_
      refine J_lstore (pc := 33) (lv' := [(4, .long x6), (9, .long (x4 - x4 / x6 * x6)), (6, .long x6), (8, .int x8)]) X d_Hauls_greatestDivisor_33 (by decide) rfl ?_
      refine J_lload (pc := 35) X 1 d_Hauls_greatestDivisor_35 rfl ?_
      refine J_lstore (pc := 37) (lv' := [(6, .long (x4 - x4 / x6 * x6)), (4, .long x6), (9, .long (x4 - x4 / x6 * x6)), (8, .int x8)]) X d_Hauls_greatestDivisor_37 (by decide) rfl ?_
      refine J_iinc (pc := 39) (v := x8 + 1) (lv' := [(8, .int (x8 + 1)), (6, .long (x4 - x4 / x6 * x6)), (4, .long x6), (9, .long (x4 - x4 / x6 * x6))]) X 3 d_Hauls_greatestDivisor_39 rfl rfl (by decide) rfl ?_
      refine J_goto (pc := 42) (tgt := 9) X d_Hauls_greatestDivisor_42 (by decide) ?_
      refine J_sub [2, 1, 0] rfl ?_
      exact R9 _ _ _ _ _ hM
theorem w_Hauls_greatestDivisor_9 {p : Program} {l : Launch} {e : Env} {s : State} {m : MethodId} {args : Array Value} {below : List Frame} {meth : Method} {c : Code} {D : va_G} {K : (Nat → Nat) × (Nat → Nat)} {h0 : hH} (Y : HX p s m args meth c prog_6_method_7_code 11 "LicenceTexts$Hauls" D K "greatestDivisor" (some .long) h0) {F : Nat} : ∀ z : Nat, ∀ (h : hH) (x4 : Int64) (x6 : Int64) (x8 : Int32) (q : (Int64 × hH)), M_Hauls_greatestDivisor_9 F z h x4 x6 x8 = some q → J p l e rm_Hauls_greatestDivisor s m args below meth c 11 D cls0 (hF h0) h [(4, .long x4), (6, .long x6), (8, .int x8)] 0 0 (MQ below (hQ D cls0 h0 (some (.long q.1)) q.2) args s 0 0 (hF h0)) 9 [] := by
  intro z
  induction z with
  | zero => intro h x4 x6 x8 q hM; exact absurd (show (none : Option _) = some q from hM) (fun t => by cases t)
  | succ z ih => exact b_Hauls_greatestDivisor_9 Y ih
set_option maxHeartbeats 4000000 in
set_option maxRecDepth 100000 in
theorem c_Hauls_greatestDivisor (l : Launch) (D : va_G) (K : (Nat → Nat) × (Nat → Nat)) (F : Nat) {h : hH} {x0 : Int64} {x2 : Int64} {q : (Int64 × hH)} (hM : M_Hauls_greatestDivisor F h x0 x2 = some q) : Met l y_Hauls_greatestDivisor (.code y_Hauls_greatestDivisor prog_6_method_7_code 11 (some .long) :: T0) rm_Hauls_greatestDivisor (hPc hG D cls0 K [.long x0, .long x2] h) (hQ D cls0 h (some (.long q.1)) q.2) 0 0 (hF h) := by
  refine J_met (lv := [(0, .long x0), (2, .long x2)]) (by decide) (Nat.le_of_ble_eq_true rfl) rfl ?_
  intro p e s m below meth c X hr hlk hnm
  have Y : HX p s m _ meth c prog_6_method_7_code 11 "LicenceTexts$Hauls" D K "greatestDivisor" (some .long) h := ⟨X, hr, hlk, hnm⟩
  unfold M_Hauls_greatestDivisor at hM
  refine J_lload_n (pc := 0) X 0 d_Hauls_greatestDivisor_0 rfl ?_
  refine J_lstore (pc := 1) (lv' := [(4, .long x0), (0, .long x0), (2, .long x2)]) X d_Hauls_greatestDivisor_1 (by decide) rfl ?_
  refine J_lload_n (pc := 3) X 2 d_Hauls_greatestDivisor_3 rfl ?_
  refine J_lstore (pc := 4) (lv' := [(6, .long x2), (4, .long x0), (0, .long x0), (2, .long x2)]) X d_Hauls_greatestDivisor_4 (by decide) rfl ?_
  refine J_iconst (pc := 6) (v := (0)) X d_Hauls_greatestDivisor_6 (by decide) ?_
  refine J_istore (pc := 7) (lv' := [(8, .int 0), (6, .long x2), (4, .long x0), (0, .long x0), (2, .long x2)]) X d_Hauls_greatestDivisor_7 (by decide) rfl ?_
  refine J_sub [2, 1, 0] rfl ?_
  exact w_Hauls_greatestDivisor_9 Y F _ _ _ _ _ hM
abbrev rm_Hauls_share : Room := { frames := 2, cells := 0, slots := 0, locals := 47 }
set_option maxHeartbeats 4000000 in
set_option maxRecDepth 100000 in
theorem c_Hauls_share (l : Launch) (D : va_G) (K : (Nat → Nat) × (Nat → Nat)) (F : Nat) {h : hH} {x0 : Nat} {x1 : Int32} {x2 : Int32} {x3 : Int32} {q : (Int64 × hH)} (hM : M_Hauls_share F h x0 x1 x2 x3 = some q) : Met l y_Hauls_share (.code y_Hauls_share prog_6_method_6_code 10 (some .long) :: T0) rm_Hauls_share (hPc hG D cls0 K [.ref x0, .int x1, .int x2, .int x3] h) (hQ D cls0 h (some (.long q.1)) q.2) 0 0 (hF h) := by
  refine J_met (lv := [(0, .ref x0), (1, .int x1), (2, .int x2), (3, .int x3)]) (by decide) (Nat.le_of_ble_eq_true rfl) rfl ?_
  intro p e s m below meth c X hr hlk hnm
  have Y : HX p s m _ meth c prog_6_method_6_code 10 "LicenceTexts$Hauls" D K "share" (some .long) h := ⟨X, hr, hlk, hnm⟩
  unfold M_Hauls_share at hM
  refine J_iload_n (pc := 0) X 1 d_Hauls_share_0 rfl ?_
  refine J_iload_n (pc := 1) X 2 d_Hauls_share_1 rfl ?_
  obtain ⟨q1, eq1, hM⟩ := hb_some hM
  refine J_callS (pc := 2) (As := [.int x1, .int x2]) (rest := []) (o := (some (.int q1.1))) (h2 := q1.2) X (c_Hauls_has l D K F eq1) (cwS_of (nA := 2) X.fix k_38 k_41 k_40 k_39 ⟨rfl, rfl⟩ (by decide +kernel) ⟨Nat.le_of_ble_eq_true rfl, Nat.le_of_ble_eq_true rfl⟩) d_Hauls_share_2 rfl rfl (Nat.le_of_ble_eq_true rfl) (Nat.le_of_ble_eq_true rfl) (Nat.le_of_ble_eq_true rfl) ?_
  refine J_if_eq (pc := 5) (tgt := 17) X d_Hauls_share_5 (by decide) (fun c2 => ?_) (fun c2 => ?_)
  · have hM := hif_t hM c2
    refine J_ldc2 (pc := 17) X k_47 d_Hauls_share_17 ?_
    obtain rfl := Option.some.inj hM
    exact J_lret (pc := 20) X hr hlk (Nat.le_of_ble_eq_true rfl) (Nat.le_of_ble_eq_true rfl) d_Hauls_share_20
  · have hM := hif_f hM c2
    refine J_iload_n (pc := 8) X 3 d_Hauls_share_8 rfl ?_
    refine J_if_lt (pc := 9) (tgt := 17) X d_Hauls_share_9 (by decide) (fun c3 => ?_) (fun c3 => ?_)
    · have hM := hif_t hM c3
      refine J_ldc2 (pc := 17) X k_47 d_Hauls_share_17 ?_
      obtain rfl := Option.some.inj hM
      exact J_lret (pc := 20) X hr hlk (Nat.le_of_ble_eq_true rfl) (Nat.le_of_ble_eq_true rfl) d_Hauls_share_20
    · have hM := hif_f hM c3
      refine J_iload_n (pc := 12) X 3 d_Hauls_share_12 rfl ?_
      refine J_iconst (pc := 13) (v := (1)) X d_Hauls_share_13 (by decide) ?_
      refine J_icmp_le (pc := 14) (tgt := 21) X d_Hauls_share_14 (by decide) (fun c4 => ?_) (fun c4 => ?_)
      · have hM := hif_t hM c4
        refine J_aload_n (pc := 21) X 0 d_Hauls_share_21 rfl ?_
        refine J_iload_n (pc := 22) X 1 d_Hauls_share_22 rfl ?_
        obtain ⟨u5, eu5, hM⟩ := hb_some hM
        obtain ⟨q6, eq6, hM⟩ := hb_some hM
        refine J_callV (pc := 23) (As := [.int x1]) (rest := []) (o := (some (.long q6.1))) (h2 := q6.2) X rfl hc_Hauls eu5 (c_Hauls_total l D K F eq6) (cwV_of (nA := 1) X.fix k_48 k_50 k_51 k_40 k_49 ⟨rfl, rfl, rfl⟩ (by decide +kernel) ⟨Nat.le_of_ble_eq_true rfl, Nat.le_of_ble_eq_true rfl⟩) d_Hauls_share_23 rfl rfl (Nat.le_of_ble_eq_true rfl) (Nat.le_of_ble_eq_true rfl) (Nat.le_of_ble_eq_true rfl) ?_
        refine J_lstore (pc := 26) (lv' := [(4, .long q6.1), (0, .ref x0), (1, .int x1), (2, .int x2), (3, .int x3)]) X d_Hauls_share_26 (by decide) rfl ?_
        refine J_aload_n (pc := 28) X 1 d_Hauls_share_28 rfl ?_
        refine J_iload_n (pc := 29) X 2 d_Hauls_share_29 rfl ?_
        refine J_iload_n (pc := 30) X 3 d_Hauls_share_30 rfl ?_
        obtain ⟨u7, eu7, hM⟩ := hb_some hM
        obtain ⟨q8, eq8, hM⟩ := hb_some hM
        refine J_callV (pc := 31) (As := [.int x1, .int x2]) (rest := []) (o := (some (.long q8.1))) (h2 := q8.2) X rfl hc_Hauls eu7 (c_Hauls_gramsOf l D K F eq8) (cwV_of (nA := 2) X.fix k_43 k_45 k_46 k_40 k_44 ⟨rfl, rfl, rfl⟩ (by decide +kernel) ⟨Nat.le_of_ble_eq_true rfl, Nat.le_of_ble_eq_true rfl⟩) d_Hauls_share_31 rfl rfl (Nat.le_of_ble_eq_true rfl) (Nat.le_of_ble_eq_true rfl) (Nat.le_of_ble_eq_true rfl) ?_
        refine J_lstore (pc := 34) (lv' := [(6, .long q8.1), (4, .long q6.1), (0, .ref x0), (1, .int x1), (2, .int x2), (3, .int x3)]) X d_Hauls_share_34 (by decide) rfl ?_
        refine J_lload (pc := 36) X 1 d_Hauls_share_36 rfl ?_
        refine J_lload (pc := 38) X 0 d_Hauls_share_38 rfl ?_
        obtain ⟨q9, eq9, hM⟩ := hb_some hM
        refine J_callS (pc := 40) (As := [.long q6.1, .long q8.1]) (rest := []) (o := (some (.long q9.1))) (h2 := q9.2) X (c_Hauls_greatestDivisor l D K F eq9) (cwS_of (nA := 2) X.fix k_52 k_54 k_40 k_53 ⟨rfl, rfl⟩ (by decide +kernel) ⟨Nat.le_of_ble_eq_true rfl, Nat.le_of_ble_eq_true rfl⟩) d_Hauls_share_40 rfl rfl (Nat.le_of_ble_eq_true rfl) (Nat.le_of_ble_eq_true rfl) (Nat.le_of_ble_eq_true rfl) ?_
        refine J_lstore (pc := 43) (lv' := [(8, .long q9.1), (6, .long q8.1), (4, .long q6.1), (0, .ref x0), (1, .int x1), (2, .int x2), (3, .int x3)]) X d_Hauls_share_43 (by decide) rfl ?_
        refine J_lload (pc := 45) X 0 d_Hauls_share_45 rfl ?_
        refine J_lconst (pc := 47) (v := (0)) X d_Hauls_share_47 (by decide) ?_
        refine J_lcmp (pc := 48) X d_Hauls_share_48 ?_
        refine J_if_ne (pc := 49) (tgt := 56) X d_Hauls_share_49 (by decide) (fun c10 => ?_) (fun c10 => ?_)
        · have hM := hif_f hM c10
          refine J_iload_n (pc := 56) X 6 d_Hauls_share_56 rfl ?_
          refine J_if_ne (pc := 57) (tgt := 68) X d_Hauls_share_57 (by decide) (fun c11 => ?_) (fun c11 => ?_)
          · have hM := hif_f hM c11
            refine J_lload (pc := 68) X 2 d_Hauls_share_68 rfl ?_
            refine J_lload (pc := 70) X 0 d_Hauls_share_70 rfl ?_
            obtain ⟨c12, hM⟩ := hnz hM
            refine J_ldiv (pc := 72) X d_Hauls_share_72 c12 ?_
            obtain rfl := Option.some.inj hM
            exact J_lret (pc := 73) X hr hlk (Nat.le_of_ble_eq_true rfl) (Nat.le_of_ble_eq_true rfl) d_Hauls_share_73
          · have hM := hif_t hM c11
            refine J_lload (pc := 60) X 1 d_Hauls_share_60 rfl ?_
            refine J_lload (pc := 62) X 0 d_Hauls_share_62 rfl ?_
            obtain ⟨c13, hM⟩ := hnz hM
            refine J_ldiv (pc := 64) X d_Hauls_share_64 c13 ?_
            refine J_goto (pc := 65) (tgt := 73) X d_Hauls_share_65 (by decide) ?_
            obtain rfl := Option.some.inj hM
            exact J_lret (pc := 73) X hr hlk (Nat.le_of_ble_eq_true rfl) (Nat.le_of_ble_eq_true rfl) d_Hauls_share_73
        · have hM := hif_t hM c10
          refine J_ldc2 (pc := 52) X k_47 d_Hauls_share_52 ?_
          obtain rfl := Option.some.inj hM
          exact J_lret (pc := 55) X hr hlk (Nat.le_of_ble_eq_true rfl) (Nat.le_of_ble_eq_true rfl) d_Hauls_share_55
      · have hM := hif_f hM c4
        refine J_ldc2 (pc := 17) X k_47 d_Hauls_share_17 ?_
        obtain rfl := Option.some.inj hM
        exact J_lret (pc := 20) X hr hlk (Nat.le_of_ble_eq_true rfl) (Nat.le_of_ble_eq_true rfl) d_Hauls_share_20
