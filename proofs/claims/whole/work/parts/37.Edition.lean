theorem d_Edition_init_0 : decode prog_3_method_1_code 0 = .ok (.aload_n 0, 1) := by decide +kernel
theorem d_Edition_init_1 : decode prog_3_method_1_code 1 = .ok (.invokespecial 3, 3) := by decide +kernel
theorem d_Edition_init_4 : decode prog_3_method_1_code 4 = .ok (.aload_n 0, 1) := by decide +kernel
theorem d_Edition_init_5 : decode prog_3_method_1_code 5 = .ok (.new 9, 3) := by decide +kernel
theorem d_Edition_init_8 : decode prog_3_method_1_code 8 = .ok (.dup, 1) := by decide +kernel
theorem d_Edition_init_9 : decode prog_3_method_1_code 9 = .ok (.invokespecial 11, 3) := by decide +kernel
theorem d_Edition_init_12 : decode prog_3_method_1_code 12 = .ok (.putfield 12, 3) := by decide +kernel
theorem d_Edition_init_15 : decode prog_3_method_1_code 15 = .ok (.aload_n 0, 1) := by decide +kernel
theorem d_Edition_init_16 : decode prog_3_method_1_code 16 = .ok (.new 18, 3) := by decide +kernel
theorem d_Edition_init_19 : decode prog_3_method_1_code 19 = .ok (.dup, 1) := by decide +kernel
theorem d_Edition_init_20 : decode prog_3_method_1_code 20 = .ok (.invokespecial 20, 3) := by decide +kernel
theorem d_Edition_init_23 : decode prog_3_method_1_code 23 = .ok (.putfield 21, 3) := by decide +kernel
theorem d_Edition_init_26 : decode prog_3_method_1_code 26 = .ok (.aload_n 0, 1) := by decide +kernel
theorem d_Edition_init_27 : decode prog_3_method_1_code 27 = .ok (.new 25, 3) := by decide +kernel
theorem d_Edition_init_30 : decode prog_3_method_1_code 30 = .ok (.dup, 1) := by decide +kernel
theorem d_Edition_init_31 : decode prog_3_method_1_code 31 = .ok (.invokespecial 27, 3) := by decide +kernel
theorem d_Edition_init_34 : decode prog_3_method_1_code 34 = .ok (.putfield 28, 3) := by decide +kernel
theorem d_Edition_init_37 : decode prog_3_method_1_code 37 = .ok (.aload_n 0, 1) := by decide +kernel
theorem d_Edition_init_38 : decode prog_3_method_1_code 38 = .ok (.bipush 12, 2) := by decide +kernel
theorem d_Edition_init_40 : decode prog_3_method_1_code 40 = .ok (.anewarray 32, 3) := by decide +kernel
theorem d_Edition_init_43 : decode prog_3_method_1_code 43 = .ok (.putfield 34, 3) := by decide +kernel
theorem d_Edition_init_46 : decode prog_3_method_1_code 46 = .ok (.aload_n 0, 1) := by decide +kernel
theorem d_Edition_init_47 : decode prog_3_method_1_code 47 = .ok (.iconst 0, 1) := by decide +kernel
theorem d_Edition_init_48 : decode prog_3_method_1_code 48 = .ok (.putfield 38, 3) := by decide +kernel
theorem d_Edition_init_51 : decode prog_3_method_1_code 51 = .ok (.aload_n 0, 1) := by decide +kernel
theorem d_Edition_init_52 : decode prog_3_method_1_code 52 = .ok (.iconst 0, 1) := by decide +kernel
theorem d_Edition_init_53 : decode prog_3_method_1_code 53 = .ok (.putfield 42, 3) := by decide +kernel
theorem d_Edition_init_56 : decode prog_3_method_1_code 56 = .ok (.return_, 1) := by decide +kernel
theorem d_Edition_clear_0 : decode prog_3_method_2_code 0 = .ok (.aload_n 0, 1) := by decide +kernel
theorem d_Edition_clear_1 : decode prog_3_method_2_code 1 = .ok (.getfield 12, 3) := by decide +kernel
theorem d_Edition_clear_4 : decode prog_3_method_2_code 4 = .ok (.invokevirtual 45, 3) := by decide +kernel
theorem d_Edition_clear_7 : decode prog_3_method_2_code 7 = .ok (.aload_n 0, 1) := by decide +kernel
theorem d_Edition_clear_8 : decode prog_3_method_2_code 8 = .ok (.getfield 21, 3) := by decide +kernel
theorem d_Edition_clear_11 : decode prog_3_method_2_code 11 = .ok (.invokevirtual 48, 3) := by decide +kernel
theorem d_Edition_clear_14 : decode prog_3_method_2_code 14 = .ok (.aload_n 0, 1) := by decide +kernel
theorem d_Edition_clear_15 : decode prog_3_method_2_code 15 = .ok (.getfield 28, 3) := by decide +kernel
theorem d_Edition_clear_18 : decode prog_3_method_2_code 18 = .ok (.invokevirtual 49, 3) := by decide +kernel
theorem d_Edition_clear_21 : decode prog_3_method_2_code 21 = .ok (.aload_n 0, 1) := by decide +kernel
theorem d_Edition_clear_22 : decode prog_3_method_2_code 22 = .ok (.iconst 0, 1) := by decide +kernel
theorem d_Edition_clear_23 : decode prog_3_method_2_code 23 = .ok (.putfield 38, 3) := by decide +kernel
theorem d_Edition_clear_26 : decode prog_3_method_2_code 26 = .ok (.return_, 1) := by decide +kernel
theorem d_Edition_ruleAt_0 : decode prog_3_method_3_code 0 = .ok (.iload_n 1, 1) := by decide +kernel
theorem d_Edition_ruleAt_1 : decode prog_3_method_3_code 1 = .ok (.ifCond .lt 29, 3) := by decide +kernel
theorem d_Edition_ruleAt_30 : decode prog_3_method_3_code 30 = .ok (.aconst_null, 1) := by decide +kernel
theorem d_Edition_ruleAt_31 : decode prog_3_method_3_code 31 = .ok (.areturn, 1) := by decide +kernel
theorem d_Edition_ruleAt_4 : decode prog_3_method_3_code 4 = .ok (.iload_n 1, 1) := by decide +kernel
theorem d_Edition_ruleAt_5 : decode prog_3_method_3_code 5 = .ok (.aload_n 0, 1) := by decide +kernel
theorem d_Edition_ruleAt_6 : decode prog_3_method_3_code 6 = .ok (.getfield 38, 3) := by decide +kernel
theorem d_Edition_ruleAt_9 : decode prog_3_method_3_code 9 = .ok (.if_icmp .ge 21, 3) := by decide +kernel
theorem d_Edition_ruleAt_12 : decode prog_3_method_3_code 12 = .ok (.iload_n 1, 1) := by decide +kernel
theorem d_Edition_ruleAt_13 : decode prog_3_method_3_code 13 = .ok (.aload_n 0, 1) := by decide +kernel
theorem d_Edition_ruleAt_14 : decode prog_3_method_3_code 14 = .ok (.getfield 34, 3) := by decide +kernel
theorem d_Edition_ruleAt_17 : decode prog_3_method_3_code 17 = .ok (.arraylength, 1) := by decide +kernel
theorem d_Edition_ruleAt_18 : decode prog_3_method_3_code 18 = .ok (.if_icmp .ge 12, 3) := by decide +kernel
theorem d_Edition_ruleAt_21 : decode prog_3_method_3_code 21 = .ok (.aload_n 0, 1) := by decide +kernel
theorem d_Edition_ruleAt_22 : decode prog_3_method_3_code 22 = .ok (.getfield 34, 3) := by decide +kernel
theorem d_Edition_ruleAt_25 : decode prog_3_method_3_code 25 = .ok (.iload_n 1, 1) := by decide +kernel
theorem d_Edition_ruleAt_26 : decode prog_3_method_3_code 26 = .ok (.aaload, 1) := by decide +kernel
theorem d_Edition_ruleAt_27 : decode prog_3_method_3_code 27 = .ok (.goto 4, 3) := by decide +kernel
theorem d_Edition_beginRule_0 : decode prog_3_method_4_code 0 = .ok (.aload_n 0, 1) := by decide +kernel
theorem d_Edition_beginRule_1 : decode prog_3_method_4_code 1 = .ok (.getfield 38, 3) := by decide +kernel
theorem d_Edition_beginRule_4 : decode prog_3_method_4_code 4 = .ok (.ifCond .lt 15, 3) := by decide +kernel
theorem d_Edition_beginRule_19 : decode prog_3_method_4_code 19 = .ok (.iconst 0, 1) := by decide +kernel
theorem d_Edition_beginRule_20 : decode prog_3_method_4_code 20 = .ok (.ireturn, 1) := by decide +kernel
theorem d_Edition_beginRule_7 : decode prog_3_method_4_code 7 = .ok (.aload_n 0, 1) := by decide +kernel
theorem d_Edition_beginRule_8 : decode prog_3_method_4_code 8 = .ok (.getfield 38, 3) := by decide +kernel
theorem d_Edition_beginRule_11 : decode prog_3_method_4_code 11 = .ok (.aload_n 0, 1) := by decide +kernel
theorem d_Edition_beginRule_12 : decode prog_3_method_4_code 12 = .ok (.getfield 34, 3) := by decide +kernel
theorem d_Edition_beginRule_15 : decode prog_3_method_4_code 15 = .ok (.arraylength, 1) := by decide +kernel
theorem d_Edition_beginRule_16 : decode prog_3_method_4_code 16 = .ok (.if_icmp .lt 5, 3) := by decide +kernel
theorem d_Edition_beginRule_21 : decode prog_3_method_4_code 21 = .ok (.aload_n 0, 1) := by decide +kernel
theorem d_Edition_beginRule_22 : decode prog_3_method_4_code 22 = .ok (.getfield 34, 3) := by decide +kernel
theorem d_Edition_beginRule_25 : decode prog_3_method_4_code 25 = .ok (.aload_n 0, 1) := by decide +kernel
theorem d_Edition_beginRule_26 : decode prog_3_method_4_code 26 = .ok (.getfield 38, 3) := by decide +kernel
theorem d_Edition_beginRule_29 : decode prog_3_method_4_code 29 = .ok (.new 32, 3) := by decide +kernel
theorem d_Edition_beginRule_32 : decode prog_3_method_4_code 32 = .ok (.dup, 1) := by decide +kernel
theorem d_Edition_beginRule_33 : decode prog_3_method_4_code 33 = .ok (.iload_n 1, 1) := by decide +kernel
theorem d_Edition_beginRule_34 : decode prog_3_method_4_code 34 = .ok (.aload_n 0, 1) := by decide +kernel
theorem d_Edition_beginRule_35 : decode prog_3_method_4_code 35 = .ok (.getfield 21, 3) := by decide +kernel
theorem d_Edition_beginRule_38 : decode prog_3_method_4_code 38 = .ok (.getfield 50, 3) := by decide +kernel
theorem d_Edition_beginRule_41 : decode prog_3_method_4_code 41 = .ok (.invokespecial 53, 3) := by decide +kernel
theorem d_Edition_beginRule_44 : decode prog_3_method_4_code 44 = .ok (.aastore, 1) := by decide +kernel
theorem d_Edition_beginRule_45 : decode prog_3_method_4_code 45 = .ok (.aload_n 0, 1) := by decide +kernel
theorem d_Edition_beginRule_46 : decode prog_3_method_4_code 46 = .ok (.dup, 1) := by decide +kernel
theorem d_Edition_beginRule_47 : decode prog_3_method_4_code 47 = .ok (.getfield 38, 3) := by decide +kernel
theorem d_Edition_beginRule_50 : decode prog_3_method_4_code 50 = .ok (.iconst 1, 1) := by decide +kernel
theorem d_Edition_beginRule_51 : decode prog_3_method_4_code 51 = .ok (.iadd, 1) := by decide +kernel
theorem d_Edition_beginRule_52 : decode prog_3_method_4_code 52 = .ok (.putfield 38, 3) := by decide +kernel
theorem d_Edition_beginRule_55 : decode prog_3_method_4_code 55 = .ok (.iconst 1, 1) := by decide +kernel
theorem d_Edition_beginRule_56 : decode prog_3_method_4_code 56 = .ok (.ireturn, 1) := by decide +kernel
theorem d_Edition_beginNeed_0 : decode prog_3_method_5_code 0 = .ok (.aload_n 0, 1) := by decide +kernel
theorem d_Edition_beginNeed_1 : decode prog_3_method_5_code 1 = .ok (.aload_n 0, 1) := by decide +kernel
theorem d_Edition_beginNeed_2 : decode prog_3_method_5_code 2 = .ok (.getfield 38, 3) := by decide +kernel
theorem d_Edition_beginNeed_5 : decode prog_3_method_5_code 5 = .ok (.iconst 1, 1) := by decide +kernel
theorem d_Edition_beginNeed_6 : decode prog_3_method_5_code 6 = .ok (.isub, 1) := by decide +kernel
theorem d_Edition_beginNeed_7 : decode prog_3_method_5_code 7 = .ok (.invokevirtual 56, 3) := by decide +kernel
theorem d_Edition_beginNeed_10 : decode prog_3_method_5_code 10 = .ok (.astore_n 1, 1) := by decide +kernel
theorem d_Edition_beginNeed_11 : decode prog_3_method_5_code 11 = .ok (.aload_n 1, 1) := by decide +kernel
theorem d_Edition_beginNeed_12 : decode prog_3_method_5_code 12 = .ok (.ifnull 14, 3) := by decide +kernel
theorem d_Edition_beginNeed_26 : decode prog_3_method_5_code 26 = .ok (.return_, 1) := by decide +kernel
theorem d_Edition_beginNeed_15 : decode prog_3_method_5_code 15 = .ok (.aload_n 1, 1) := by decide +kernel
theorem d_Edition_beginNeed_16 : decode prog_3_method_5_code 16 = .ok (.aload_n 0, 1) := by decide +kernel
theorem d_Edition_beginNeed_17 : decode prog_3_method_5_code 17 = .ok (.getfield 21, 3) := by decide +kernel
theorem d_Edition_beginNeed_20 : decode prog_3_method_5_code 20 = .ok (.getfield 50, 3) := by decide +kernel
theorem d_Edition_beginNeed_23 : decode prog_3_method_5_code 23 = .ok (.putfield 60, 3) := by decide +kernel
theorem d_Edition_endRule_0 : decode prog_3_method_6_code 0 = .ok (.aload_n 0, 1) := by decide +kernel
theorem d_Edition_endRule_1 : decode prog_3_method_6_code 1 = .ok (.aload_n 0, 1) := by decide +kernel
theorem d_Edition_endRule_2 : decode prog_3_method_6_code 2 = .ok (.getfield 38, 3) := by decide +kernel
theorem d_Edition_endRule_5 : decode prog_3_method_6_code 5 = .ok (.iconst 1, 1) := by decide +kernel
theorem d_Edition_endRule_6 : decode prog_3_method_6_code 6 = .ok (.isub, 1) := by decide +kernel
theorem d_Edition_endRule_7 : decode prog_3_method_6_code 7 = .ok (.invokevirtual 56, 3) := by decide +kernel
theorem d_Edition_endRule_10 : decode prog_3_method_6_code 10 = .ok (.astore_n 2, 1) := by decide +kernel
theorem d_Edition_endRule_11 : decode prog_3_method_6_code 11 = .ok (.aload_n 2, 1) := by decide +kernel
theorem d_Edition_endRule_12 : decode prog_3_method_6_code 12 = .ok (.ifnull 19, 3) := by decide +kernel
theorem d_Edition_endRule_31 : decode prog_3_method_6_code 31 = .ok (.return_, 1) := by decide +kernel
theorem d_Edition_endRule_15 : decode prog_3_method_6_code 15 = .ok (.aload_n 2, 1) := by decide +kernel
theorem d_Edition_endRule_16 : decode prog_3_method_6_code 16 = .ok (.iload_n 1, 1) := by decide +kernel
theorem d_Edition_endRule_17 : decode prog_3_method_6_code 17 = .ok (.putfield 63, 3) := by decide +kernel
theorem d_Edition_endRule_20 : decode prog_3_method_6_code 20 = .ok (.aload_n 2, 1) := by decide +kernel
theorem d_Edition_endRule_21 : decode prog_3_method_6_code 21 = .ok (.aload_n 0, 1) := by decide +kernel
theorem d_Edition_endRule_22 : decode prog_3_method_6_code 22 = .ok (.getfield 21, 3) := by decide +kernel
theorem d_Edition_endRule_25 : decode prog_3_method_6_code 25 = .ok (.getfield 50, 3) := by decide +kernel
theorem d_Edition_endRule_28 : decode prog_3_method_6_code 28 = .ok (.putfield 66, 3) := by decide +kernel
def M_Edition_init (F : Nat) (h : hH) (x0 : Nat) : Option hH :=
  (some (hAdd h (.inl (10, [.null, .null, .null, .int 0, .int 0])))).bind fun h1 =>
  (M_Words_init F h1 h.1).bind fun h2 =>
  (hPut h2 x0 1 0 (.ref h.1)).bind fun h3 =>
  (some (hAdd h3 (.inl (7, [.null, .null, .int 0])))).bind fun h4 =>
  (M_Steps_init F h4 h3.1).bind fun h5 =>
  (hPut h5 x0 1 1 (.ref h3.1)).bind fun h6 =>
  (some (hAdd h6 (.inl (8, [.null, .null, .int 0])))).bind fun h7 =>
  (M_Tables_init F h7 h6.1).bind fun h8 =>
  (hPut h8 x0 1 2 (.ref h6.1)).bind fun h9 =>
  (some (hAdd h9 (.inr (.object "LicenceTexts$Rule", 12, .inr (.inr (.inr (.inr (fun _ => none)))))))).bind fun h10 =>
  (hPut h10 x0 1 3 (.ref h9.1)).bind fun h11 =>
  (hPut h11 x0 1 4 (.int 0)).bind fun h12 =>
  (hPut h12 x0 1 5 (.int 0)).bind fun h13 =>
  some h13
def M_Edition_clear (F : Nat) (h : hH) (x0 : Nat) : Option hH :=
  (hGetA h x0 1 0).bind fun v1 =>
  (hIs h v1 10).bind fun u2 =>
  (M_Words_clear F h v1).bind fun h3 =>
  (hGetA h3 x0 1 1).bind fun v4 =>
  (hIs h3 v4 7).bind fun u5 =>
  (M_Steps_clear F h3 v4).bind fun h6 =>
  (hGetA h6 x0 1 2).bind fun v7 =>
  (hIs h6 v7 8).bind fun u8 =>
  (M_Tables_clear F h6 v7).bind fun h9 =>
  (hPut h9 x0 1 4 (.int 0)).bind fun h10 =>
  some h10
def M_Edition_ruleAt (F : Nat) (h : hH) (x0 : Nat) (x1 : Int32) : Option (Option Nat × hH) :=
  if x1 < 0 then (
    some (none, h)
  ) else (
    (hGetI h x0 1 4).bind fun v2 =>
    if v2 ≤ x1 then (
      some (none, h)
    ) else (
      (hGetA h x0 1 3).bind fun v4 =>
      (hLen h v4).bind fun v5 =>
      if v5 ≤ x1 then (
        some (none, h)
      ) else (
        (hGetA h x0 1 3).bind fun v7 =>
        (hLdO h v7 "LicenceTexts$Rule" x1).bind fun v8 =>
        some (v8, h)
      )
    )
  )
def M_Edition_beginRule (F : Nat) (h : hH) (x0 : Nat) (x1 : Int32) : Option (Int32 × hH) :=
  (hGetI h x0 1 4).bind fun v1 =>
  if v1 < 0 then (
    some (0, h)
  ) else (
    (hGetI h x0 1 4).bind fun v3 =>
    (hGetA h x0 1 3).bind fun v4 =>
    (hLen h v4).bind fun v5 =>
    if v3 < v5 then (
      (hGetA h x0 1 3).bind fun v7 =>
      (hGetI h x0 1 4).bind fun v8 =>
      (some (hAdd h (.inl (6, [.int 0, .int 0, .int 0, .int 0, .int 0])))).bind fun h9 =>
      (hGetA h9 x0 1 1).bind fun v10 =>
      (hGetI h9 v10 7 2).bind fun v11 =>
      (M_Rule_init F h9 h.1 x1 v11).bind fun h12 =>
      (hStA h12 v7 "LicenceTexts$Rule" v8 h.1 6).bind fun h13 =>
      (hGetI h13 x0 1 4).bind fun v14 =>
      (hPut h13 x0 1 4 (.int (v14 + 1))).bind fun h15 =>
      some (1, h15)
    ) else (
      some (0, h)
    )
  )
def M_Edition_beginNeed (F : Nat) (h : hH) (x0 : Nat) : Option hH :=
  (hGetI h x0 1 4).bind fun v1 =>
  (hIs h x0 1).bind fun u2 =>
  (M_Edition_ruleAt F h x0 (v1 - 1)).bind fun q3 =>
  hCase q3.1 (
    some q3.2
  ) (fun a5 =>
    (hGetA q3.2 x0 1 1).bind fun v6 =>
    (hGetI q3.2 v6 7 2).bind fun v7 =>
    (hPut q3.2 a5 6 3 (.int v7)).bind fun h8 =>
    some h8
  )
def M_Edition_endRule (F : Nat) (h : hH) (x0 : Nat) (x1 : Int32) : Option hH :=
  (hGetI h x0 1 4).bind fun v1 =>
  (hIs h x0 1).bind fun u2 =>
  (M_Edition_ruleAt F h x0 (v1 - 1)).bind fun q3 =>
  hCase q3.1 (
    some q3.2
  ) (fun a5 =>
    (hPut q3.2 a5 6 2 (.int x1)).bind fun h6 =>
    (hGetA h6 x0 1 1).bind fun v7 =>
    (hGetI h6 v7 7 2).bind fun v8 =>
    (hPut h6 a5 6 4 (.int v8)).bind fun h9 =>
    some h9
  )
abbrev rm_Edition_init : Room := { frames := 3, cells := 12, slots := 2513, locals := 52 }
set_option maxHeartbeats 4000000 in
set_option maxRecDepth 100000 in
theorem c_Edition_init (l : Launch) (D : va_G) (K : (Nat → Nat) × (Nat → Nat)) (F : Nat) {h : hH} {x0 : Nat} {q : hH} (hM : M_Edition_init F h x0 = some q) : Met l y_Edition_init (.code y_Edition_init prog_3_method_1_code 1 none :: T0) rm_Edition_init (hPc hG D cls0 K [.ref x0] h) (hQ D cls0 h none q) 12 2513 (hF h) := by
  refine J_met (lv := [(0, .ref x0)]) (by decide) (Nat.le_of_ble_eq_true rfl) rfl ?_
  intro p e s m below meth c X hr hlk hnm
  have Y : HX p s m _ meth c prog_3_method_1_code 1 "LicenceTexts$Edition" D K "<init>" none h := ⟨X, hr, hlk, hnm⟩
  unfold M_Edition_init at hM
  refine J_aload_n (pc := 0) X 0 d_Edition_init_0 rfl ?_
  refine J_objInit (pc := 1) X k_124 k_1 k_2 d_Edition_init_1 (Nat.le_of_ble_eq_true rfl) (Nat.le_of_ble_eq_true rfl) ?_
  refine J_aload_n (pc := 4) X 0 d_Edition_init_4 rfl ?_
  refine J_new (pc := 5) (fs := [.null, .null, .null, .int 0, .int 0]) X hc_Words in_Words t_Words tk_Words k_125 k_126 k_88 d_Edition_init_5 rfl df_Words (Nat.le_of_ble_eq_true rfl) (Nat.le_of_ble_eq_true rfl) ?_
  obtain ⟨h1, eh1, hM⟩ := hb_some hM
  rw [Option.some.inj eh1]
  refine J_dup (pc := 8) X d_Edition_init_8 rfl ?_
  obtain ⟨h2, eh2, hM⟩ := hb_some hM
  refine J_callI (pc := 9) (As := []) (rest := [.ref h.1, .ref x0]) (o := none) (h2 := h2) X rfl (c_Words_init l D K F eh2) (cwI_of (nA := 0) X.fix k_127 k_129 k_88 k_128 ⟨rfl, rfl, rfl⟩ (by decide +kernel) ⟨Nat.le_of_ble_eq_true rfl, Nat.le_of_ble_eq_true rfl⟩) d_Edition_init_9 rfl rfl (Nat.le_of_ble_eq_true rfl) (Nat.le_of_ble_eq_true rfl) (Nat.le_of_ble_eq_true rfl) ?_
  obtain ⟨h3, eh3, hM⟩ := hb_some hM
  refine J_putF (pc := 12) X hc_Edition in_Edition t_Edition tk_Edition nk_Edition 0 k_130 (by decide) rfl rfl rfl hnm d_Edition_init_12 rfl rfl rfl eh3 ?_
  refine J_aload_n (pc := 15) X 0 d_Edition_init_15 rfl ?_
  refine J_new (pc := 16) (fs := [.null, .null, .int 0]) X hc_Steps in_Steps t_Steps tk_Steps k_131 k_132 k_133 d_Edition_init_16 rfl df_Steps (Nat.le_of_ble_eq_true rfl) (Nat.le_of_ble_eq_true rfl) ?_
  obtain ⟨h4, eh4, hM⟩ := hb_some hM
  rw [Option.some.inj eh4]
  refine J_dup (pc := 19) X d_Edition_init_19 rfl ?_
  obtain ⟨h5, eh5, hM⟩ := hb_some hM
  refine J_callI (pc := 20) (As := []) (rest := [.ref h3.1, .ref x0]) (o := none) (h2 := h5) X rfl (c_Steps_init l D K F eh5) (cwI_of (nA := 0) X.fix k_134 k_136 k_133 k_135 ⟨rfl, rfl, rfl⟩ (by decide +kernel) ⟨Nat.le_of_ble_eq_true rfl, Nat.le_of_ble_eq_true rfl⟩) d_Edition_init_20 rfl rfl (Nat.le_of_ble_eq_true rfl) (Nat.le_of_ble_eq_true rfl) (Nat.le_of_ble_eq_true rfl) ?_
  obtain ⟨h6, eh6, hM⟩ := hb_some hM
  refine J_putF (pc := 23) X hc_Edition in_Edition t_Edition tk_Edition nk_Edition 1 k_137 (by decide) rfl rfl rfl hnm d_Edition_init_23 rfl rfl rfl eh6 ?_
  refine J_aload_n (pc := 26) X 0 d_Edition_init_26 rfl ?_
  refine J_new (pc := 27) (fs := [.null, .null, .int 0]) X hc_Tables in_Tables t_Tables tk_Tables k_138 k_139 k_71 d_Edition_init_27 rfl df_Tables (Nat.le_of_ble_eq_true rfl) (Nat.le_of_ble_eq_true rfl) ?_
  obtain ⟨h7, eh7, hM⟩ := hb_some hM
  rw [Option.some.inj eh7]
  refine J_dup (pc := 30) X d_Edition_init_30 rfl ?_
  obtain ⟨h8, eh8, hM⟩ := hb_some hM
  refine J_callI (pc := 31) (As := []) (rest := [.ref h6.1, .ref x0]) (o := none) (h2 := h8) X rfl (c_Tables_init l D K F eh8) (cwI_of (nA := 0) X.fix k_140 k_142 k_71 k_141 ⟨rfl, rfl, rfl⟩ (by decide +kernel) ⟨Nat.le_of_ble_eq_true rfl, Nat.le_of_ble_eq_true rfl⟩) d_Edition_init_31 rfl rfl (Nat.le_of_ble_eq_true rfl) (Nat.le_of_ble_eq_true rfl) (Nat.le_of_ble_eq_true rfl) ?_
  obtain ⟨h9, eh9, hM⟩ := hb_some hM
  refine J_putF (pc := 34) X hc_Edition in_Edition t_Edition tk_Edition nk_Edition 2 k_143 (by decide) rfl rfl rfl hnm d_Edition_init_34 rfl rfl rfl eh9 ?_
  refine J_aload_n (pc := 37) X 0 d_Edition_init_37 rfl ?_
  refine J_bipush (pc := 38) (v := (12)) X d_Edition_init_38 (by decide) ?_
  refine J_newq (pc := 40) (C := "LicenceTexts$Rule") (N := 12) X k_144 (List.mem_of_getElem? (i := 1) rfl) d_Edition_init_40 (by decide) (by decide) (by decide) (Nat.le_of_ble_eq_true rfl) (Nat.le_of_ble_eq_true rfl) ?_
  obtain ⟨h10, eh10, hM⟩ := hb_some hM
  rw [Option.some.inj eh10]
  obtain ⟨h11, eh11, hM⟩ := hb_some hM
  refine J_putF (pc := 43) X hc_Edition in_Edition t_Edition tk_Edition nk_Edition 3 k_145 (by decide) rfl rfl rfl hnm d_Edition_init_43 rfl rfl rfl eh11 ?_
  refine J_aload_n (pc := 46) X 0 d_Edition_init_46 rfl ?_
  refine J_iconst (pc := 47) (v := (0)) X d_Edition_init_47 (by decide) ?_
  obtain ⟨h12, eh12, hM⟩ := hb_some hM
  refine J_put (pc := 48) X hc_Edition in_Edition t_Edition tk_Edition nk_Edition 4 k_146 (by decide) rfl rfl d_Edition_init_48 rfl rfl rfl eh12 ?_
  refine J_aload_n (pc := 51) X 0 d_Edition_init_51 rfl ?_
  refine J_iconst (pc := 52) (v := (0)) X d_Edition_init_52 (by decide) ?_
  obtain ⟨h13, eh13, hM⟩ := hb_some hM
  refine J_put (pc := 53) X hc_Edition in_Edition t_Edition tk_Edition nk_Edition 5 k_147 (by decide) rfl rfl d_Edition_init_53 rfl rfl rfl eh13 ?_
  obtain rfl := Option.some.inj hM
  exact J_vret (pc := 56) X hr hlk (Nat.le_of_ble_eq_true rfl) (Nat.le_of_ble_eq_true rfl) d_Edition_init_56
abbrev rm_Edition_clear : Room := { frames := 2, cells := 0, slots := 0, locals := 40 }
set_option maxHeartbeats 4000000 in
set_option maxRecDepth 100000 in
theorem c_Edition_clear (l : Launch) (D : va_G) (K : (Nat → Nat) × (Nat → Nat)) (F : Nat) {h : hH} {x0 : Nat} {q : hH} (hM : M_Edition_clear F h x0 = some q) : Met l y_Edition_clear (.code y_Edition_clear prog_3_method_2_code 1 none :: T0) rm_Edition_clear (hPc hG D cls0 K [.ref x0] h) (hQ D cls0 h none q) 0 0 (hF h) := by
  refine J_met (lv := [(0, .ref x0)]) (by decide) (Nat.le_of_ble_eq_true rfl) rfl ?_
  intro p e s m below meth c X hr hlk hnm
  have Y : HX p s m _ meth c prog_3_method_2_code 1 "LicenceTexts$Edition" D K "clear" none h := ⟨X, hr, hlk, hnm⟩
  unfold M_Edition_clear at hM
  refine J_aload_n (pc := 0) X 0 d_Edition_clear_0 rfl ?_
  obtain ⟨v1, ev1, hM⟩ := hb_some hM
  refine J_getA (pc := 1) X hc_Edition in_Edition 0 k_130 (by decide) rfl d_Edition_clear_1 rfl ev1 ?_
  obtain ⟨u2, eu2, hM⟩ := hb_some hM
  obtain ⟨h3, eh3, hM⟩ := hb_some hM
  refine J_callV (pc := 4) (As := []) (rest := []) (o := none) (h2 := h3) X rfl hc_Words eu2 (c_Words_clear l D K F eh3) (cwV_of (nA := 0) X.fix k_148 k_150 k_151 k_88 k_149 ⟨rfl, rfl, rfl⟩ (by decide +kernel) ⟨Nat.le_of_ble_eq_true rfl, Nat.le_of_ble_eq_true rfl⟩) d_Edition_clear_4 rfl rfl (Nat.le_of_ble_eq_true rfl) (Nat.le_of_ble_eq_true rfl) (Nat.le_of_ble_eq_true rfl) ?_
  refine J_aload_n (pc := 7) X 0 d_Edition_clear_7 rfl ?_
  obtain ⟨v4, ev4, hM⟩ := hb_some hM
  refine J_getA (pc := 8) X hc_Edition in_Edition 1 k_137 (by decide) rfl d_Edition_clear_8 rfl ev4 ?_
  obtain ⟨u5, eu5, hM⟩ := hb_some hM
  obtain ⟨h6, eh6, hM⟩ := hb_some hM
  refine J_callV (pc := 11) (As := []) (rest := []) (o := none) (h2 := h6) X rfl hc_Steps eu5 (c_Steps_clear l D K F eh6) (cwV_of (nA := 0) X.fix k_152 k_154 k_155 k_133 k_153 ⟨rfl, rfl, rfl⟩ (by decide +kernel) ⟨Nat.le_of_ble_eq_true rfl, Nat.le_of_ble_eq_true rfl⟩) d_Edition_clear_11 rfl rfl (Nat.le_of_ble_eq_true rfl) (Nat.le_of_ble_eq_true rfl) (Nat.le_of_ble_eq_true rfl) ?_
  refine J_aload_n (pc := 14) X 0 d_Edition_clear_14 rfl ?_
  obtain ⟨v7, ev7, hM⟩ := hb_some hM
  refine J_getA (pc := 15) X hc_Edition in_Edition 2 k_143 (by decide) rfl d_Edition_clear_15 rfl ev7 ?_
  obtain ⟨u8, eu8, hM⟩ := hb_some hM
  obtain ⟨h9, eh9, hM⟩ := hb_some hM
  refine J_callV (pc := 18) (As := []) (rest := []) (o := none) (h2 := h9) X rfl hc_Tables eu8 (c_Tables_clear l D K F eh9) (cwV_of (nA := 0) X.fix k_156 k_158 k_159 k_71 k_157 ⟨rfl, rfl, rfl⟩ (by decide +kernel) ⟨Nat.le_of_ble_eq_true rfl, Nat.le_of_ble_eq_true rfl⟩) d_Edition_clear_18 rfl rfl (Nat.le_of_ble_eq_true rfl) (Nat.le_of_ble_eq_true rfl) (Nat.le_of_ble_eq_true rfl) ?_
  refine J_aload_n (pc := 21) X 0 d_Edition_clear_21 rfl ?_
  refine J_iconst (pc := 22) (v := (0)) X d_Edition_clear_22 (by decide) ?_
  obtain ⟨h10, eh10, hM⟩ := hb_some hM
  refine J_put (pc := 23) X hc_Edition in_Edition t_Edition tk_Edition nk_Edition 4 k_146 (by decide) rfl rfl d_Edition_clear_23 rfl rfl rfl eh10 ?_
  obtain rfl := Option.some.inj hM
  exact J_vret (pc := 26) X hr hlk (Nat.le_of_ble_eq_true rfl) (Nat.le_of_ble_eq_true rfl) d_Edition_clear_26
abbrev rm_Edition_ruleAt : Room := { frames := 0, cells := 0, slots := 0, locals := 0 }
set_option maxHeartbeats 4000000 in
set_option maxRecDepth 100000 in
theorem c_Edition_ruleAt (l : Launch) (D : va_G) (K : (Nat → Nat) × (Nat → Nat)) (F : Nat) {h : hH} {x0 : Nat} {x1 : Int32} {q : (Option Nat × hH)} (hM : M_Edition_ruleAt F h x0 x1 = some q) : Met l y_Edition_ruleAt (.code y_Edition_ruleAt prog_3_method_3_code 2 (some (.object "LicenceTexts$Rule")) :: T0) rm_Edition_ruleAt (hPc hG D cls0 K [.ref x0, .int x1] h) (hQ D cls0 h (some (va_rf q.1)) q.2) 0 0 (hF h) := by
  refine J_met (lv := [(0, .ref x0), (1, .int x1)]) (by decide) (Nat.le_of_ble_eq_true rfl) rfl ?_
  intro p e s m below meth c X hr hlk hnm
  have Y : HX p s m _ meth c prog_3_method_3_code 2 "LicenceTexts$Edition" D K "ruleAt" (some (.object "LicenceTexts$Rule")) h := ⟨X, hr, hlk, hnm⟩
  unfold M_Edition_ruleAt at hM
  refine J_iload_n (pc := 0) X 1 d_Edition_ruleAt_0 rfl ?_
  refine J_if_lt (pc := 1) (tgt := 30) X d_Edition_ruleAt_1 (by decide) (fun c1 => ?_) (fun c1 => ?_)
  · have hM := hif_t hM c1
    refine J_null (pc := 30) X d_Edition_ruleAt_30 ?_
    obtain rfl := Option.some.inj hM
    exact J_aret (pc := 31) (v := none) X hr hlk (Nat.le_of_ble_eq_true rfl) (Nat.le_of_ble_eq_true rfl) d_Edition_ruleAt_31
  · have hM := hif_f hM c1
    refine J_iload_n (pc := 4) X 1 d_Edition_ruleAt_4 rfl ?_
    refine J_aload_n (pc := 5) X 0 d_Edition_ruleAt_5 rfl ?_
    obtain ⟨v2, ev2, hM⟩ := hb_some hM
    refine J_getI (pc := 6) X hc_Edition in_Edition 4 k_146 (by decide) rfl d_Edition_ruleAt_6 rfl ev2 ?_
    refine J_icmp_ge (pc := 9) (tgt := 30) X d_Edition_ruleAt_9 (by decide) (fun c3 => ?_) (fun c3 => ?_)
    · have hM := hif_t hM c3
      refine J_null (pc := 30) X d_Edition_ruleAt_30 ?_
      obtain rfl := Option.some.inj hM
      exact J_aret (pc := 31) (v := none) X hr hlk (Nat.le_of_ble_eq_true rfl) (Nat.le_of_ble_eq_true rfl) d_Edition_ruleAt_31
    · have hM := hif_f hM c3
      refine J_iload_n (pc := 12) X 1 d_Edition_ruleAt_12 rfl ?_
      refine J_aload_n (pc := 13) X 0 d_Edition_ruleAt_13 rfl ?_
      obtain ⟨v4, ev4, hM⟩ := hb_some hM
      refine J_getA (pc := 14) X hc_Edition in_Edition 3 k_145 (by decide) rfl d_Edition_ruleAt_14 rfl ev4 ?_
      obtain ⟨v5, ev5, hM⟩ := hb_some hM
      refine J_alen (pc := 17) X d_Edition_ruleAt_17 rfl ev5 ?_
      refine J_icmp_ge (pc := 18) (tgt := 30) X d_Edition_ruleAt_18 (by decide) (fun c6 => ?_) (fun c6 => ?_)
      · have hM := hif_t hM c6
        refine J_null (pc := 30) X d_Edition_ruleAt_30 ?_
        obtain rfl := Option.some.inj hM
        exact J_aret (pc := 31) (v := none) X hr hlk (Nat.le_of_ble_eq_true rfl) (Nat.le_of_ble_eq_true rfl) d_Edition_ruleAt_31
      · have hM := hif_f hM c6
        refine J_aload_n (pc := 21) X 0 d_Edition_ruleAt_21 rfl ?_
        obtain ⟨v7, ev7, hM⟩ := hb_some hM
        refine J_getA (pc := 22) X hc_Edition in_Edition 3 k_145 (by decide) rfl d_Edition_ruleAt_22 rfl ev7 ?_
        refine J_iload_n (pc := 25) X 1 d_Edition_ruleAt_25 rfl ?_
        obtain ⟨v8, ev8, hM⟩ := hb_some hM
        refine J_aald (pc := 26) X d_Edition_ruleAt_26 rfl ev8 ?_
        refine J_goto (pc := 27) (tgt := 31) X d_Edition_ruleAt_27 (by decide) ?_
        obtain rfl := Option.some.inj hM
        exact J_aret (pc := 31) (v := v8) X hr hlk (Nat.le_of_ble_eq_true rfl) (Nat.le_of_ble_eq_true rfl) d_Edition_ruleAt_31
abbrev rm_Edition_beginRule : Room := { frames := 2, cells := 1, slots := 5, locals := 34 }
set_option maxHeartbeats 4000000 in
set_option maxRecDepth 100000 in
theorem c_Edition_beginRule (l : Launch) (D : va_G) (K : (Nat → Nat) × (Nat → Nat)) (F : Nat) {h : hH} {x0 : Nat} {x1 : Int32} {q : (Int32 × hH)} (hM : M_Edition_beginRule F h x0 x1 = some q) : Met l y_Edition_beginRule (.code y_Edition_beginRule prog_3_method_4_code 2 (some .boolean) :: T0) rm_Edition_beginRule (hPc hG D cls0 K [.ref x0, .int x1] h) (hQ D cls0 h (some (.int q.1)) q.2) 1 5 (hF h) := by
  refine J_met (lv := [(0, .ref x0), (1, .int x1)]) (by decide) (Nat.le_of_ble_eq_true rfl) rfl ?_
  intro p e s m below meth c X hr hlk hnm
  have Y : HX p s m _ meth c prog_3_method_4_code 2 "LicenceTexts$Edition" D K "beginRule" (some .boolean) h := ⟨X, hr, hlk, hnm⟩
  unfold M_Edition_beginRule at hM
  refine J_aload_n (pc := 0) X 0 d_Edition_beginRule_0 rfl ?_
  obtain ⟨v1, ev1, hM⟩ := hb_some hM
  refine J_getI (pc := 1) X hc_Edition in_Edition 4 k_146 (by decide) rfl d_Edition_beginRule_1 rfl ev1 ?_
  refine J_if_lt (pc := 4) (tgt := 19) X d_Edition_beginRule_4 (by decide) (fun c2 => ?_) (fun c2 => ?_)
  · have hM := hif_t hM c2
    refine J_iconst (pc := 19) (v := (0)) X d_Edition_beginRule_19 (by decide) ?_
    obtain rfl := Option.some.inj hM
    exact J_zret (pc := 20) X hr hz0 hlk (Nat.le_of_ble_eq_true rfl) (Nat.le_of_ble_eq_true rfl) d_Edition_beginRule_20
  · have hM := hif_f hM c2
    refine J_aload_n (pc := 7) X 0 d_Edition_beginRule_7 rfl ?_
    obtain ⟨v3, ev3, hM⟩ := hb_some hM
    refine J_getI (pc := 8) X hc_Edition in_Edition 4 k_146 (by decide) rfl d_Edition_beginRule_8 rfl ev3 ?_
    refine J_aload_n (pc := 11) X 0 d_Edition_beginRule_11 rfl ?_
    obtain ⟨v4, ev4, hM⟩ := hb_some hM
    refine J_getA (pc := 12) X hc_Edition in_Edition 3 k_145 (by decide) rfl d_Edition_beginRule_12 rfl ev4 ?_
    obtain ⟨v5, ev5, hM⟩ := hb_some hM
    refine J_alen (pc := 15) X d_Edition_beginRule_15 rfl ev5 ?_
    refine J_icmp_lt (pc := 16) (tgt := 21) X d_Edition_beginRule_16 (by decide) (fun c6 => ?_) (fun c6 => ?_)
    · have hM := hif_t hM c6
      refine J_aload_n (pc := 21) X 0 d_Edition_beginRule_21 rfl ?_
      obtain ⟨v7, ev7, hM⟩ := hb_some hM
      refine J_getA (pc := 22) X hc_Edition in_Edition 3 k_145 (by decide) rfl d_Edition_beginRule_22 rfl ev7 ?_
      refine J_aload_n (pc := 25) X 0 d_Edition_beginRule_25 rfl ?_
      obtain ⟨v8, ev8, hM⟩ := hb_some hM
      refine J_getI (pc := 26) X hc_Edition in_Edition 4 k_146 (by decide) rfl d_Edition_beginRule_26 rfl ev8 ?_
      refine J_new (pc := 29) (fs := [.int 0, .int 0, .int 0, .int 0, .int 0]) X hc_Rule in_Rule t_Rule tk_Rule k_144 k_160 k_161 d_Edition_beginRule_29 rfl df_Rule (Nat.le_of_ble_eq_true rfl) (Nat.le_of_ble_eq_true rfl) ?_
      obtain ⟨h9, eh9, hM⟩ := hb_some hM
      rw [Option.some.inj eh9]
      refine J_dup (pc := 32) X d_Edition_beginRule_32 rfl ?_
      refine J_iload_n (pc := 33) X 1 d_Edition_beginRule_33 rfl ?_
      refine J_aload_n (pc := 34) X 0 d_Edition_beginRule_34 rfl ?_
      obtain ⟨v10, ev10, hM⟩ := hb_some hM
      refine J_getA (pc := 35) X hc_Edition in_Edition 1 k_137 (by decide) rfl d_Edition_beginRule_35 rfl ev10 ?_
      obtain ⟨v11, ev11, hM⟩ := hb_some hM
      refine J_getIN (pc := 38) X hc_Steps in_Steps 2 (nw_3) (by decide) rfl d_Edition_beginRule_38 rfl ev11 ?_
      obtain ⟨h12, eh12, hM⟩ := hb_some hM
      refine J_callI (pc := 41) (As := [.int x1, .int v11]) (rest := [.ref h.1, .int v8, .ref v7]) (o := none) (h2 := h12) X rfl (c_Rule_init l D K F eh12) (cwI_of (nA := 2) X.fix k_162 k_164 k_161 k_163 ⟨rfl, rfl, rfl⟩ (by decide +kernel) ⟨Nat.le_of_ble_eq_true rfl, Nat.le_of_ble_eq_true rfl⟩) d_Edition_beginRule_41 rfl rfl (Nat.le_of_ble_eq_true rfl) (Nat.le_of_ble_eq_true rfl) (Nat.le_of_ble_eq_true rfl) ?_
      obtain ⟨h13, eh13, hM⟩ := hb_some hM
      refine J_aast (pc := 44) X hc_Rule d_Edition_beginRule_44 rfl rfl eh13 ?_
      refine J_aload_n (pc := 45) X 0 d_Edition_beginRule_45 rfl ?_
      refine J_dup (pc := 46) X d_Edition_beginRule_46 rfl ?_
      obtain ⟨v14, ev14, hM⟩ := hb_some hM
      refine J_getI (pc := 47) X hc_Edition in_Edition 4 k_146 (by decide) rfl d_Edition_beginRule_47 rfl ev14 ?_
      refine J_iconst (pc := 50) (v := (1)) X d_Edition_beginRule_50 (by decide) ?_
      refine J_iadd (pc := 51) X d_Edition_beginRule_51 ?_
      obtain ⟨h15, eh15, hM⟩ := hb_some hM
      refine J_put (pc := 52) X hc_Edition in_Edition t_Edition tk_Edition nk_Edition 4 k_146 (by decide) rfl rfl d_Edition_beginRule_52 rfl rfl rfl eh15 ?_
      refine J_iconst (pc := 55) (v := (1)) X d_Edition_beginRule_55 (by decide) ?_
      obtain rfl := Option.some.inj hM
      exact J_zret (pc := 56) X hr hz1 hlk (Nat.le_of_ble_eq_true rfl) (Nat.le_of_ble_eq_true rfl) d_Edition_beginRule_56
    · have hM := hif_f hM c6
      refine J_iconst (pc := 19) (v := (0)) X d_Edition_beginRule_19 (by decide) ?_
      obtain rfl := Option.some.inj hM
      exact J_zret (pc := 20) X hr hz0 hlk (Nat.le_of_ble_eq_true rfl) (Nat.le_of_ble_eq_true rfl) d_Edition_beginRule_20
abbrev rm_Edition_beginNeed : Room := { frames := 1, cells := 0, slots := 0, locals := 21 }
set_option maxHeartbeats 4000000 in
set_option maxRecDepth 100000 in
theorem c_Edition_beginNeed (l : Launch) (D : va_G) (K : (Nat → Nat) × (Nat → Nat)) (F : Nat) {h : hH} {x0 : Nat} {q : hH} (hM : M_Edition_beginNeed F h x0 = some q) : Met l y_Edition_beginNeed (.code y_Edition_beginNeed prog_3_method_5_code 2 none :: T0) rm_Edition_beginNeed (hPc hG D cls0 K [.ref x0] h) (hQ D cls0 h none q) 0 0 (hF h) := by
  refine J_met (lv := [(0, .ref x0)]) (by decide) (Nat.le_of_ble_eq_true rfl) rfl ?_
  intro p e s m below meth c X hr hlk hnm
  have Y : HX p s m _ meth c prog_3_method_5_code 2 "LicenceTexts$Edition" D K "beginNeed" none h := ⟨X, hr, hlk, hnm⟩
  unfold M_Edition_beginNeed at hM
  refine J_aload_n (pc := 0) X 0 d_Edition_beginNeed_0 rfl ?_
  refine J_aload_n (pc := 1) X 0 d_Edition_beginNeed_1 rfl ?_
  obtain ⟨v1, ev1, hM⟩ := hb_some hM
  refine J_getI (pc := 2) X hc_Edition in_Edition 4 k_146 (by decide) rfl d_Edition_beginNeed_2 rfl ev1 ?_
  refine J_iconst (pc := 5) (v := (1)) X d_Edition_beginNeed_5 (by decide) ?_
  refine J_isub (pc := 6) X d_Edition_beginNeed_6 ?_
  obtain ⟨u2, eu2, hM⟩ := hb_some hM
  obtain ⟨q3, eq3, hM⟩ := hb_some hM
  refine J_callV (pc := 7) (As := [.int (v1 - 1)]) (rest := []) (o := (some (va_rf q3.1))) (h2 := q3.2) X rfl hc_Edition eu2 (c_Edition_ruleAt l D K F eq3) (cwV_of (nA := 1) X.fix k_165 k_168 k_169 k_167 k_166 ⟨rfl, rfl, rfl⟩ (by decide +kernel) ⟨Nat.le_of_ble_eq_true rfl, Nat.le_of_ble_eq_true rfl⟩) d_Edition_beginNeed_7 rfl rfl (Nat.le_of_ble_eq_true rfl) (Nat.le_of_ble_eq_true rfl) (Nat.le_of_ble_eq_true rfl) ?_
  refine J_astoreO_n (pc := 10) (lv' := [(1, va_rf q3.1), (0, .ref x0)]) X d_Edition_beginNeed_10 rfl (by decide) rfl ?_
  refine J_aloadO_n (pc := 11) X 0 d_Edition_beginNeed_11 rfl ?_
  refine J_ifnull (pc := 12) (tgt := 26) X d_Edition_beginNeed_12 (by decide) (fun c4 => ?_) (fun a5 c4 => ?_)
  · have hM := hc_n hM c4
    obtain rfl := Option.some.inj hM
    exact J_vret (pc := 26) X hr hlk (Nat.le_of_ble_eq_true rfl) (Nat.le_of_ble_eq_true rfl) d_Edition_beginNeed_26
  · have hM := hc_s hM c4
    refine J_aloadO_n (pc := 15) X 0 d_Edition_beginNeed_15 rfl ?_
    refine J_aload_n (pc := 16) X 1 d_Edition_beginNeed_16 rfl ?_
    obtain ⟨v6, ev6, hM⟩ := hb_some hM
    refine J_getA (pc := 17) X hc_Edition in_Edition 1 k_137 (by decide) rfl d_Edition_beginNeed_17 rfl ev6 ?_
    obtain ⟨v7, ev7, hM⟩ := hb_some hM
    refine J_getIN (pc := 20) X hc_Steps in_Steps 2 (nw_3) (by decide) rfl d_Edition_beginNeed_20 rfl ev7 ?_
    obtain ⟨h8, eh8, hM⟩ := hb_some hM
    refine J_putN (pc := 23) X hc_Rule in_Rule t_Rule tk_Rule nk_Rule 3 (nw_22) (by decide) rfl rfl d_Edition_beginNeed_23 (hrf c4) rfl rfl eh8 ?_
    obtain rfl := Option.some.inj hM
    exact J_vret (pc := 26) X hr hlk (Nat.le_of_ble_eq_true rfl) (Nat.le_of_ble_eq_true rfl) d_Edition_beginNeed_26
abbrev rm_Edition_endRule : Room := { frames := 1, cells := 0, slots := 0, locals := 21 }
set_option maxHeartbeats 4000000 in
set_option maxRecDepth 100000 in
theorem c_Edition_endRule (l : Launch) (D : va_G) (K : (Nat → Nat) × (Nat → Nat)) (F : Nat) {h : hH} {x0 : Nat} {x1 : Int32} {q : hH} (hM : M_Edition_endRule F h x0 x1 = some q) : Met l y_Edition_endRule (.code y_Edition_endRule prog_3_method_6_code 3 none :: T0) rm_Edition_endRule (hPc hG D cls0 K [.ref x0, .int x1] h) (hQ D cls0 h none q) 0 0 (hF h) := by
  refine J_met (lv := [(0, .ref x0), (1, .int x1)]) (by decide) (Nat.le_of_ble_eq_true rfl) rfl ?_
  intro p e s m below meth c X hr hlk hnm
  have Y : HX p s m _ meth c prog_3_method_6_code 3 "LicenceTexts$Edition" D K "endRule" none h := ⟨X, hr, hlk, hnm⟩
  unfold M_Edition_endRule at hM
  refine J_aload_n (pc := 0) X 0 d_Edition_endRule_0 rfl ?_
  refine J_aload_n (pc := 1) X 0 d_Edition_endRule_1 rfl ?_
  obtain ⟨v1, ev1, hM⟩ := hb_some hM
  refine J_getI (pc := 2) X hc_Edition in_Edition 4 k_146 (by decide) rfl d_Edition_endRule_2 rfl ev1 ?_
  refine J_iconst (pc := 5) (v := (1)) X d_Edition_endRule_5 (by decide) ?_
  refine J_isub (pc := 6) X d_Edition_endRule_6 ?_
  obtain ⟨u2, eu2, hM⟩ := hb_some hM
  obtain ⟨q3, eq3, hM⟩ := hb_some hM
  refine J_callV (pc := 7) (As := [.int (v1 - 1)]) (rest := []) (o := (some (va_rf q3.1))) (h2 := q3.2) X rfl hc_Edition eu2 (c_Edition_ruleAt l D K F eq3) (cwV_of (nA := 1) X.fix k_165 k_168 k_169 k_167 k_166 ⟨rfl, rfl, rfl⟩ (by decide +kernel) ⟨Nat.le_of_ble_eq_true rfl, Nat.le_of_ble_eq_true rfl⟩) d_Edition_endRule_7 rfl rfl (Nat.le_of_ble_eq_true rfl) (Nat.le_of_ble_eq_true rfl) (Nat.le_of_ble_eq_true rfl) ?_
  refine J_astoreO_n (pc := 10) (lv' := [(2, va_rf q3.1), (0, .ref x0), (1, .int x1)]) X d_Edition_endRule_10 rfl (by decide) rfl ?_
  refine J_aloadO_n (pc := 11) X 0 d_Edition_endRule_11 rfl ?_
  refine J_ifnull (pc := 12) (tgt := 31) X d_Edition_endRule_12 (by decide) (fun c4 => ?_) (fun a5 c4 => ?_)
  · have hM := hc_n hM c4
    obtain rfl := Option.some.inj hM
    exact J_vret (pc := 31) X hr hlk (Nat.le_of_ble_eq_true rfl) (Nat.le_of_ble_eq_true rfl) d_Edition_endRule_31
  · have hM := hc_s hM c4
    refine J_aloadO_n (pc := 15) X 0 d_Edition_endRule_15 rfl ?_
    refine J_iload_n (pc := 16) X 2 d_Edition_endRule_16 rfl ?_
    obtain ⟨h6, eh6, hM⟩ := hb_some hM
    refine J_putN (pc := 17) X hc_Rule in_Rule t_Rule tk_Rule nk_Rule 2 (nw_19) (by decide) rfl rfl d_Edition_endRule_17 (hrf c4) rfl rfl eh6 ?_
    refine J_aloadO_n (pc := 20) X 0 d_Edition_endRule_20 rfl ?_
    refine J_aload_n (pc := 21) X 1 d_Edition_endRule_21 rfl ?_
    obtain ⟨v7, ev7, hM⟩ := hb_some hM
    refine J_getA (pc := 22) X hc_Edition in_Edition 1 k_137 (by decide) rfl d_Edition_endRule_22 rfl ev7 ?_
    obtain ⟨v8, ev8, hM⟩ := hb_some hM
    refine J_getIN (pc := 25) X hc_Steps in_Steps 2 (nw_3) (by decide) rfl d_Edition_endRule_25 rfl ev8 ?_
    obtain ⟨h9, eh9, hM⟩ := hb_some hM
    refine J_putN (pc := 28) X hc_Rule in_Rule t_Rule tk_Rule nk_Rule 4 (nw_24) (by decide) rfl rfl d_Edition_endRule_28 (hrf c4) rfl rfl eh9 ?_
    obtain rfl := Option.some.inj hM
    exact J_vret (pc := 31) X hr hlk (Nat.le_of_ble_eq_true rfl) (Nat.le_of_ble_eq_true rfl) d_Edition_endRule_31
