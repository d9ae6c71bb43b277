theorem d_Steps_init_0 : decode prog_9_method_1_code 0 = .ok (.aload_n 0, 1) := by decide +kernel
theorem d_Steps_init_1 : decode prog_9_method_1_code 1 = .ok (.invokespecial 3, 3) := by decide +kernel
theorem d_Steps_init_4 : decode prog_9_method_1_code 4 = .ok (.aload_n 0, 1) := by decide +kernel
theorem d_Steps_init_5 : decode prog_9_method_1_code 5 = .ok (.sipush 400, 3) := by decide +kernel
theorem d_Steps_init_8 : decode prog_9_method_1_code 8 = .ok (.newarray .int, 2) := by decide +kernel
theorem d_Steps_init_10 : decode prog_9_method_1_code 10 = .ok (.putfield 11, 3) := by decide +kernel
theorem d_Steps_init_13 : decode prog_9_method_1_code 13 = .ok (.aload_n 0, 1) := by decide +kernel
theorem d_Steps_init_14 : decode prog_9_method_1_code 14 = .ok (.sipush 400, 3) := by decide +kernel
theorem d_Steps_init_17 : decode prog_9_method_1_code 17 = .ok (.newarray .int, 2) := by decide +kernel
theorem d_Steps_init_19 : decode prog_9_method_1_code 19 = .ok (.putfield 17, 3) := by decide +kernel
theorem d_Steps_init_22 : decode prog_9_method_1_code 22 = .ok (.aload_n 0, 1) := by decide +kernel
theorem d_Steps_init_23 : decode prog_9_method_1_code 23 = .ok (.iconst 0, 1) := by decide +kernel
theorem d_Steps_init_24 : decode prog_9_method_1_code 24 = .ok (.putfield 20, 3) := by decide +kernel
theorem d_Steps_init_27 : decode prog_9_method_1_code 27 = .ok (.return_, 1) := by decide +kernel
theorem d_Steps_add_0 : decode prog_9_method_2_code 0 = .ok (.aload_n 0, 1) := by decide +kernel
theorem d_Steps_add_1 : decode prog_9_method_2_code 1 = .ok (.getfield 20, 3) := by decide +kernel
theorem d_Steps_add_4 : decode prog_9_method_2_code 4 = .ok (.ifCond .lt 57, 3) := by decide +kernel
theorem d_Steps_add_61 : decode prog_9_method_2_code 61 = .ok (.return_, 1) := by decide +kernel
theorem d_Steps_add_7 : decode prog_9_method_2_code 7 = .ok (.aload_n 0, 1) := by decide +kernel
theorem d_Steps_add_8 : decode prog_9_method_2_code 8 = .ok (.getfield 20, 3) := by decide +kernel
theorem d_Steps_add_11 : decode prog_9_method_2_code 11 = .ok (.aload_n 0, 1) := by decide +kernel
theorem d_Steps_add_12 : decode prog_9_method_2_code 12 = .ok (.getfield 11, 3) := by decide +kernel
theorem d_Steps_add_15 : decode prog_9_method_2_code 15 = .ok (.arraylength, 1) := by decide +kernel
theorem d_Steps_add_16 : decode prog_9_method_2_code 16 = .ok (.if_icmp .ge 45, 3) := by decide +kernel
theorem d_Steps_add_19 : decode prog_9_method_2_code 19 = .ok (.aload_n 0, 1) := by decide +kernel
theorem d_Steps_add_20 : decode prog_9_method_2_code 20 = .ok (.getfield 20, 3) := by decide +kernel
theorem d_Steps_add_23 : decode prog_9_method_2_code 23 = .ok (.aload_n 0, 1) := by decide +kernel
theorem d_Steps_add_24 : decode prog_9_method_2_code 24 = .ok (.getfield 17, 3) := by decide +kernel
theorem d_Steps_add_27 : decode prog_9_method_2_code 27 = .ok (.arraylength, 1) := by decide +kernel
theorem d_Steps_add_28 : decode prog_9_method_2_code 28 = .ok (.if_icmp .ge 33, 3) := by decide +kernel
theorem d_Steps_add_31 : decode prog_9_method_2_code 31 = .ok (.aload_n 0, 1) := by decide +kernel
theorem d_Steps_add_32 : decode prog_9_method_2_code 32 = .ok (.getfield 11, 3) := by decide +kernel
theorem d_Steps_add_35 : decode prog_9_method_2_code 35 = .ok (.aload_n 0, 1) := by decide +kernel
theorem d_Steps_add_36 : decode prog_9_method_2_code 36 = .ok (.getfield 20, 3) := by decide +kernel
theorem d_Steps_add_39 : decode prog_9_method_2_code 39 = .ok (.iload_n 1, 1) := by decide +kernel
theorem d_Steps_add_40 : decode prog_9_method_2_code 40 = .ok (.iastore, 1) := by decide +kernel
theorem d_Steps_add_41 : decode prog_9_method_2_code 41 = .ok (.aload_n 0, 1) := by decide +kernel
theorem d_Steps_add_42 : decode prog_9_method_2_code 42 = .ok (.getfield 17, 3) := by decide +kernel
theorem d_Steps_add_45 : decode prog_9_method_2_code 45 = .ok (.aload_n 0, 1) := by decide +kernel
theorem d_Steps_add_46 : decode prog_9_method_2_code 46 = .ok (.getfield 20, 3) := by decide +kernel
theorem d_Steps_add_49 : decode prog_9_method_2_code 49 = .ok (.iload_n 2, 1) := by decide +kernel
theorem d_Steps_add_50 : decode prog_9_method_2_code 50 = .ok (.iastore, 1) := by decide +kernel
theorem d_Steps_add_51 : decode prog_9_method_2_code 51 = .ok (.aload_n 0, 1) := by decide +kernel
theorem d_Steps_add_52 : decode prog_9_method_2_code 52 = .ok (.dup, 1) := by decide +kernel
theorem d_Steps_add_53 : decode prog_9_method_2_code 53 = .ok (.getfield 20, 3) := by decide +kernel
theorem d_Steps_add_56 : decode prog_9_method_2_code 56 = .ok (.iconst 1, 1) := by decide +kernel
theorem d_Steps_add_57 : decode prog_9_method_2_code 57 = .ok (.iadd, 1) := by decide +kernel
theorem d_Steps_add_58 : decode prog_9_method_2_code 58 = .ok (.putfield 20, 3) := by decide +kernel
theorem d_Steps_kindAt_0 : decode prog_9_method_3_code 0 = .ok (.iload_n 1, 1) := by decide +kernel
theorem d_Steps_kindAt_1 : decode prog_9_method_3_code 1 = .ok (.ifCond .lt 29, 3) := by decide +kernel
theorem d_Steps_kindAt_30 : decode prog_9_method_3_code 30 = .ok (.iconst (-1), 1) := by decide +kernel
theorem d_Steps_kindAt_31 : decode prog_9_method_3_code 31 = .ok (.ireturn, 1) := by decide +kernel
theorem d_Steps_kindAt_4 : decode prog_9_method_3_code 4 = .ok (.iload_n 1, 1) := by decide +kernel
theorem d_Steps_kindAt_5 : decode prog_9_method_3_code 5 = .ok (.aload_n 0, 1) := by decide +kernel
theorem d_Steps_kindAt_6 : decode prog_9_method_3_code 6 = .ok (.getfield 20, 3) := by decide +kernel
theorem d_Steps_kindAt_9 : decode prog_9_method_3_code 9 = .ok (.if_icmp .ge 21, 3) := by decide +kernel
theorem d_Steps_kindAt_12 : decode prog_9_method_3_code 12 = .ok (.iload_n 1, 1) := by decide +kernel
theorem d_Steps_kindAt_13 : decode prog_9_method_3_code 13 = .ok (.aload_n 0, 1) := by decide +kernel
theorem d_Steps_kindAt_14 : decode prog_9_method_3_code 14 = .ok (.getfield 11, 3) := by decide +kernel
theorem d_Steps_kindAt_17 : decode prog_9_method_3_code 17 = .ok (.arraylength, 1) := by decide +kernel
theorem d_Steps_kindAt_18 : decode prog_9_method_3_code 18 = .ok (.if_icmp .ge 12, 3) := by decide +kernel
theorem d_Steps_kindAt_21 : decode prog_9_method_3_code 21 = .ok (.aload_n 0, 1) := by decide +kernel
theorem d_Steps_kindAt_22 : decode prog_9_method_3_code 22 = .ok (.getfield 11, 3) := by decide +kernel
theorem d_Steps_kindAt_25 : decode prog_9_method_3_code 25 = .ok (.iload_n 1, 1) := by decide +kernel
theorem d_Steps_kindAt_26 : decode prog_9_method_3_code 26 = .ok (.iaload, 1) := by decide +kernel
theorem d_Steps_kindAt_27 : decode prog_9_method_3_code 27 = .ok (.goto 4, 3) := by decide +kernel
theorem d_Steps_valueAt_0 : decode prog_9_method_4_code 0 = .ok (.iload_n 1, 1) := by decide +kernel
theorem d_Steps_valueAt_1 : decode prog_9_method_4_code 1 = .ok (.ifCond .lt 29, 3) := by decide +kernel
theorem d_Steps_valueAt_30 : decode prog_9_method_4_code 30 = .ok (.iconst (-1), 1) := by decide +kernel
theorem d_Steps_valueAt_31 : decode prog_9_method_4_code 31 = .ok (.ireturn, 1) := by decide +kernel
theorem d_Steps_valueAt_4 : decode prog_9_method_4_code 4 = .ok (.iload_n 1, 1) := by decide +kernel
theorem d_Steps_valueAt_5 : decode prog_9_method_4_code 5 = .ok (.aload_n 0, 1) := by decide +kernel
theorem d_Steps_valueAt_6 : decode prog_9_method_4_code 6 = .ok (.getfield 20, 3) := by decide +kernel
theorem d_Steps_valueAt_9 : decode prog_9_method_4_code 9 = .ok (.if_icmp .ge 21, 3) := by decide +kernel
theorem d_Steps_valueAt_12 : decode prog_9_method_4_code 12 = .ok (.iload_n 1, 1) := by decide +kernel
theorem d_Steps_valueAt_13 : decode prog_9_method_4_code 13 = .ok (.aload_n 0, 1) := by decide +kernel
theorem d_Steps_valueAt_14 : decode prog_9_method_4_code 14 = .ok (.getfield 17, 3) := by decide +kernel
theorem d_Steps_valueAt_17 : decode prog_9_method_4_code 17 = .ok (.arraylength, 1) := by decide +kernel
theorem d_Steps_valueAt_18 : decode prog_9_method_4_code 18 = .ok (.if_icmp .ge 12, 3) := by decide +kernel
theorem d_Steps_valueAt_21 : decode prog_9_method_4_code 21 = .ok (.aload_n 0, 1) := by decide +kernel
theorem d_Steps_valueAt_22 : decode prog_9_method_4_code 22 = .ok (.getfield 17, 3) := by decide +kernel
theorem d_Steps_valueAt_25 : decode prog_9_method_4_code 25 = .ok (.iload_n 1, 1) := by decide +kernel
theorem d_Steps_valueAt_26 : decode prog_9_method_4_code 26 = .ok (.iaload, 1) := by decide +kernel
theorem d_Steps_valueAt_27 : decode prog_9_method_4_code 27 = .ok (.goto 4, 3) := by decide +kernel
theorem d_Steps_removeLast_0 : decode prog_9_method_5_code 0 = .ok (.aload_n 0, 1) := by decide +kernel
theorem d_Steps_removeLast_1 : decode prog_9_method_5_code 1 = .ok (.getfield 20, 3) := by decide +kernel
theorem d_Steps_removeLast_4 : decode prog_9_method_5_code 4 = .ok (.ifCond .le 13, 3) := by decide +kernel
theorem d_Steps_removeLast_17 : decode prog_9_method_5_code 17 = .ok (.return_, 1) := by decide +kernel
theorem d_Steps_removeLast_7 : decode prog_9_method_5_code 7 = .ok (.aload_n 0, 1) := by decide +kernel
theorem d_Steps_removeLast_8 : decode prog_9_method_5_code 8 = .ok (.dup, 1) := by decide +kernel
theorem d_Steps_removeLast_9 : decode prog_9_method_5_code 9 = .ok (.getfield 20, 3) := by decide +kernel
theorem d_Steps_removeLast_12 : decode prog_9_method_5_code 12 = .ok (.iconst 1, 1) := by decide +kernel
theorem d_Steps_removeLast_13 : decode prog_9_method_5_code 13 = .ok (.isub, 1) := by decide +kernel
theorem d_Steps_removeLast_14 : decode prog_9_method_5_code 14 = .ok (.putfield 20, 3) := by decide +kernel
theorem d_Steps_clear_0 : decode prog_9_method_6_code 0 = .ok (.aload_n 0, 1) := by decide +kernel
theorem d_Steps_clear_1 : decode prog_9_method_6_code 1 = .ok (.iconst 0, 1) := by decide +kernel
theorem d_Steps_clear_2 : decode prog_9_method_6_code 2 = .ok (.putfield 20, 3) := by decide +kernel
theorem d_Steps_clear_5 : decode prog_9_method_6_code 5 = .ok (.return_, 1) := by decide +kernel
theorem d_Rule_init_0 : decode prog_8_method_1_code 0 = .ok (.aload_n 0, 1) := by decide +kernel
theorem d_Rule_init_1 : decode prog_8_method_1_code 1 = .ok (.invokespecial 1, 3) := by decide +kernel
theorem d_Rule_init_4 : decode prog_8_method_1_code 4 = .ok (.aload_n 0, 1) := by decide +kernel
theorem d_Rule_init_5 : decode prog_8_method_1_code 5 = .ok (.iload_n 1, 1) := by decide +kernel
theorem d_Rule_init_6 : decode prog_8_method_1_code 6 = .ok (.putfield 7, 3) := by decide +kernel
theorem d_Rule_init_9 : decode prog_8_method_1_code 9 = .ok (.aload_n 0, 1) := by decide +kernel
theorem d_Rule_init_10 : decode prog_8_method_1_code 10 = .ok (.iload_n 2, 1) := by decide +kernel
theorem d_Rule_init_11 : decode prog_8_method_1_code 11 = .ok (.putfield 13, 3) := by decide +kernel
theorem d_Rule_init_14 : decode prog_8_method_1_code 14 = .ok (.aload_n 0, 1) := by decide +kernel
theorem d_Rule_init_15 : decode prog_8_method_1_code 15 = .ok (.iload_n 1, 1) := by decide +kernel
theorem d_Rule_init_16 : decode prog_8_method_1_code 16 = .ok (.putfield 16, 3) := by decide +kernel
theorem d_Rule_init_19 : decode prog_8_method_1_code 19 = .ok (.aload_n 0, 1) := by decide +kernel
theorem d_Rule_init_20 : decode prog_8_method_1_code 20 = .ok (.iload_n 2, 1) := by decide +kernel
theorem d_Rule_init_21 : decode prog_8_method_1_code 21 = .ok (.putfield 19, 3) := by decide +kernel
theorem d_Rule_init_24 : decode prog_8_method_1_code 24 = .ok (.aload_n 0, 1) := by decide +kernel
theorem d_Rule_init_25 : decode prog_8_method_1_code 25 = .ok (.iload_n 2, 1) := by decide +kernel
theorem d_Rule_init_26 : decode prog_8_method_1_code 26 = .ok (.putfield 22, 3) := by decide +kernel
theorem d_Rule_init_29 : decode prog_8_method_1_code 29 = .ok (.return_, 1) := by decide +kernel
def M_Steps_init (F : Nat) (h : hH) (x0 : Nat) : Option hH :=
  (some (hAdd h (.inr (.int, 400, .inl (fun _ => 0))))).bind fun h1 =>
  (hPut h1 x0 7 0 (.ref h.1)).bind fun h2 =>
  (some (hAdd h2 (.inr (.int, 400, .inl (fun _ => 0))))).bind fun h3 =>
  (hPut h3 x0 7 1 (.ref h2.1)).bind fun h4 =>
  (hPut h4 x0 7 2 (.int 0)).bind fun h5 =>
  some h5
def M_Steps_add (F : Nat) (h : hH) (x0 : Nat) (x1 : Int32) (x2 : Int32) : Option hH :=
  (hGetI h x0 7 2).bind fun v1 =>
  if v1 < 0 then (
    some h
  ) else (
    (hGetI h x0 7 2).bind fun v3 =>
    (hGetA h x0 7 0).bind fun v4 =>
    (hLen h v4).bind fun v5 =>
    if v5 ≤ v3 then (
      some h
    ) else (
      (hGetI h x0 7 2).bind fun v7 =>
      (hGetA h x0 7 1).bind fun v8 =>
      (hLen h v8).bind fun v9 =>
      if v9 ≤ v7 then (
        some h
      ) else (
        (hGetA h x0 7 0).bind fun v11 =>
        (hGetI h x0 7 2).bind fun v12 =>
        (hStI h v11 v12 x1).bind fun h13 =>
        (hGetA h13 x0 7 1).bind fun v14 =>
        (hGetI h13 x0 7 2).bind fun v15 =>
        (hStI h13 v14 v15 x2).bind fun h16 =>
        (hGetI h16 x0 7 2).bind fun v17 =>
        (hPut h16 x0 7 2 (.int (v17 + 1))).bind fun h18 =>
        some h18
      )
    )
  )
def M_Steps_kindAt (F : Nat) (h : hH) (x0 : Nat) (x1 : Int32) : Option (Int32 × hH) :=
  if x1 < 0 then (
    some ((-1), h)
  ) else (
    (hGetI h x0 7 2).bind fun v2 =>
    if v2 ≤ x1 then (
      some ((-1), h)
    ) else (
      (hGetA h x0 7 0).bind fun v4 =>
      (hLen h v4).bind fun v5 =>
      if v5 ≤ x1 then (
        some ((-1), h)
      ) else (
        (hGetA h x0 7 0).bind fun v7 =>
        (hLdI h v7 .int x1).bind fun v8 =>
        some (v8, h)
      )
    )
  )
def M_Steps_valueAt (F : Nat) (h : hH) (x0 : Nat) (x1 : Int32) : Option (Int32 × hH) :=
  if x1 < 0 then (
    some ((-1), h)
  ) else (
    (hGetI h x0 7 2).bind fun v2 =>
    if v2 ≤ x1 then (
      some ((-1), h)
    ) else (
      (hGetA h x0 7 1).bind fun v4 =>
      (hLen h v4).bind fun v5 =>
      if v5 ≤ x1 then (
        some ((-1), h)
      ) else (
        (hGetA h x0 7 1).bind fun v7 =>
        (hLdI h v7 .int x1).bind fun v8 =>
        some (v8, h)
      )
    )
  )
def M_Steps_removeLast (F : Nat) (h : hH) (x0 : Nat) : Option hH :=
  (hGetI h x0 7 2).bind fun v1 =>
  if v1 ≤ 0 then (
    some h
  ) else (
    (hGetI h x0 7 2).bind fun v3 =>
    (hPut h x0 7 2 (.int (v3 - 1))).bind fun h4 =>
    some h4
  )
def M_Steps_clear (F : Nat) (h : hH) (x0 : Nat) : Option hH :=
  (hPut h x0 7 2 (.int 0)).bind fun h1 =>
  some h1
def M_Rule_init (F : Nat) (h : hH) (x0 : Nat) (x1 : Int32) (x2 : Int32) : Option hH :=
  (hPut h x0 6 0 (.int x1)).bind fun h1 =>
  (hPut h1 x0 6 1 (.int x2)).bind fun h2 =>
  (hPut h2 x0 6 2 (.int x1)).bind fun h3 =>
  (hPut h3 x0 6 3 (.int x2)).bind fun h4 =>
  (hPut h4 x0 6 4 (.int x2)).bind fun h5 =>
  some h5
abbrev rm_Steps_init : Room := { frames := 1, cells := 2, slots := 800, locals := 12 }
set_option maxHeartbeats 4000000 in
set_option maxRecDepth 100000 in
theorem c_Steps_init (l : Launch) (D : va_G) (K : (Nat → Nat) × (Nat → Nat)) (F : Nat) {h : hH} {x0 : Nat} {q : hH} (hM : M_Steps_init F h x0 = some q) : Met l y_Steps_init (.code y_Steps_init prog_9_method_1_code 1 none :: T0) rm_Steps_init (hPc hG D cls0 K [.ref x0] h) (hQ D cls0 h none q) 2 800 (hF h) := by
  refine J_met (lv := [(0, .ref x0)]) (by decide) (Nat.le_of_ble_eq_true rfl) rfl ?_
  intro p e s m below meth c X hr hlk hnm
  have Y : HX p s m _ meth c prog_9_method_1_code 1 "LicenceTexts$Steps" D K "<init>" none h := ⟨X, hr, hlk, hnm⟩
  unfold M_Steps_init at hM
  refine J_aload_n (pc := 0) X 0 d_Steps_init_0 rfl ?_
  refine J_objInit (pc := 1) X k_55 k_1 k_2 d_Steps_init_1 (Nat.le_of_ble_eq_true rfl) (Nat.le_of_ble_eq_true rfl) ?_
  refine J_aload_n (pc := 4) X 0 d_Steps_init_4 rfl ?_
  refine J_sipush (pc := 5) (v := (400)) X d_Steps_init_5 (by decide) ?_
  refine J_newa (pc := 8) (ty := .int) (N := 400) (a0 := (400, .inl (fun _ => 0))) X rfl k_17 d_Steps_init_8 (fun _ => rfl) (fun _ _ hq => hq) (by decide) (by decide) (by decide) (Nat.le_of_ble_eq_true rfl) (Nat.le_of_ble_eq_true rfl) ?_
  obtain ⟨h1, eh1, hM⟩ := hb_some hM
  rw [Option.some.inj eh1]
  obtain ⟨h2, eh2, hM⟩ := hb_some hM
  refine J_putF (pc := 10) X hc_Steps in_Steps t_Steps tk_Steps nk_Steps 0 k_56 (by decide) rfl rfl rfl hnm d_Steps_init_10 rfl rfl rfl eh2 ?_
  refine J_aload_n (pc := 13) X 0 d_Steps_init_13 rfl ?_
  refine J_sipush (pc := 14) (v := (400)) X d_Steps_init_14 (by decide) ?_
  refine J_newa (pc := 17) (ty := .int) (N := 400) (a0 := (400, .inl (fun _ => 0))) X rfl k_17 d_Steps_init_17 (fun _ => rfl) (fun _ _ hq => hq) (by decide) (by decide) (by decide) (Nat.le_of_ble_eq_true rfl) (Nat.le_of_ble_eq_true rfl) ?_
  obtain ⟨h3, eh3, hM⟩ := hb_some hM
  rw [Option.some.inj eh3]
  obtain ⟨h4, eh4, hM⟩ := hb_some hM
  refine J_putF (pc := 19) X hc_Steps in_Steps t_Steps tk_Steps nk_Steps 1 k_57 (by decide) rfl rfl rfl hnm d_Steps_init_19 rfl rfl rfl eh4 ?_
  refine J_aload_n (pc := 22) X 0 d_Steps_init_22 rfl ?_
  refine J_iconst (pc := 23) (v := (0)) X d_Steps_init_23 (by decide) ?_
  obtain ⟨h5, eh5, hM⟩ := hb_some hM
  refine J_put (pc := 24) X hc_Steps in_Steps t_Steps tk_Steps nk_Steps 2 k_58 (by decide) rfl rfl d_Steps_init_24 rfl rfl rfl eh5 ?_
  obtain rfl := Option.some.inj hM
  exact J_vret (pc := 27) X hr hlk (Nat.le_of_ble_eq_true rfl) (Nat.le_of_ble_eq_true rfl) d_Steps_init_27
abbrev rm_Steps_add : Room := { frames := 0, cells := 0, slots := 0, locals := 0 }
set_option maxHeartbeats 4000000 in
set_option maxRecDepth 100000 in
theorem c_Steps_add (l : Launch) (D : va_G) (K : (Nat → Nat) × (Nat → Nat)) (F : Nat) {h : hH} {x0 : Nat} {x1 : Int32} {x2 : Int32} {q : hH} (hM : M_Steps_add F h x0 x1 x2 = some q) : Met l y_Steps_add (.code y_Steps_add prog_9_method_2_code 3 none :: T0) rm_Steps_add (hPc hG D cls0 K [.ref x0, .int x1, .int x2] h) (hQ D cls0 h none q) 0 0 (hF h) := by
  refine J_met (lv := [(0, .ref x0), (1, .int x1), (2, .int x2)]) (by decide) (Nat.le_of_ble_eq_true rfl) rfl ?_
  intro p e s m below meth c X hr hlk hnm
  have Y : HX p s m _ meth c prog_9_method_2_code 3 "LicenceTexts$Steps" D K "add" none h := ⟨X, hr, hlk, hnm⟩
  unfold M_Steps_add at hM
  refine J_aload_n (pc := 0) X 0 d_Steps_add_0 rfl ?_
  obtain ⟨v1, ev1, hM⟩ := hb_some hM
  refine J_getI (pc := 1) X hc_Steps in_Steps 2 k_58 (by decide) rfl d_Steps_add_1 rfl ev1 ?_
  refine J_if_lt (pc := 4) (tgt := 61) X d_Steps_add_4 (by decide) (fun c2 => ?_) (fun c2 => ?_)
  · have hM := hif_t hM c2
    obtain rfl := Option.some.inj hM
    exact J_vret (pc := 61) X hr hlk (Nat.le_of_ble_eq_true rfl) (Nat.le_of_ble_eq_true rfl) d_Steps_add_61
  · have hM := hif_f hM c2
    refine J_aload_n (pc := 7) X 0 d_Steps_add_7 rfl ?_
    obtain ⟨v3, ev3, hM⟩ := hb_some hM
    refine J_getI (pc := 8) X hc_Steps in_Steps 2 k_58 (by decide) rfl d_Steps_add_8 rfl ev3 ?_
    refine J_aload_n (pc := 11) X 0 d_Steps_add_11 rfl ?_
    obtain ⟨v4, ev4, hM⟩ := hb_some hM
    refine J_getA (pc := 12) X hc_Steps in_Steps 0 k_56 (by decide) rfl d_Steps_add_12 rfl ev4 ?_
    obtain ⟨v5, ev5, hM⟩ := hb_some hM
    refine J_alen (pc := 15) X d_Steps_add_15 rfl ev5 ?_
    refine J_icmp_ge (pc := 16) (tgt := 61) X d_Steps_add_16 (by decide) (fun c6 => ?_) (fun c6 => ?_)
    · have hM := hif_t hM c6
      obtain rfl := Option.some.inj hM
      exact J_vret (pc := 61) X hr hlk (Nat.le_of_ble_eq_true rfl) (Nat.le_of_ble_eq_true rfl) d_Steps_add_61
    · have hM := hif_f hM c6
      refine J_aload_n (pc := 19) X 0 d_Steps_add_19 rfl ?_
      obtain ⟨v7, ev7, hM⟩ := hb_some hM
      refine J_getI (pc := 20) X hc_Steps in_Steps 2 k_58 (by decide) rfl d_Steps_add_20 rfl ev7 ?_
      refine J_aload_n (pc := 23) X 0 d_Steps_add_23 rfl ?_
      obtain ⟨v8, ev8, hM⟩ := hb_some hM
      refine J_getA (pc := 24) X hc_Steps in_Steps 1 k_57 (by decide) rfl d_Steps_add_24 rfl ev8 ?_
      obtain ⟨v9, ev9, hM⟩ := hb_some hM
      refine J_alen (pc := 27) X d_Steps_add_27 rfl ev9 ?_
      refine J_icmp_ge (pc := 28) (tgt := 61) X d_Steps_add_28 (by decide) (fun c10 => ?_) (fun c10 => ?_)
      · have hM := hif_t hM c10
        obtain rfl := Option.some.inj hM
        exact J_vret (pc := 61) X hr hlk (Nat.le_of_ble_eq_true rfl) (Nat.le_of_ble_eq_true rfl) d_Steps_add_61
      · have hM := hif_f hM c10
        refine J_aload_n (pc := 31) X 0 d_Steps_add_31 rfl ?_
        obtain ⟨v11, ev11, hM⟩ := hb_some hM
        refine J_getA (pc := 32) X hc_Steps in_Steps 0 k_56 (by decide) rfl d_Steps_add_32 rfl ev11 ?_
        refine J_aload_n (pc := 35) X 0 d_Steps_add_35 rfl ?_
        obtain ⟨v12, ev12, hM⟩ := hb_some hM
        refine J_getI (pc := 36) X hc_Steps in_Steps 2 k_58 (by decide) rfl d_Steps_add_36 rfl ev12 ?_
        refine J_iload_n (pc := 39) X 1 d_Steps_add_39 rfl ?_
        obtain ⟨h13, eh13, hM⟩ := hb_some hM
        refine J_iast (pc := 40) X d_Steps_add_40 rfl eh13 ?_
        refine J_aload_n (pc := 41) X 0 d_Steps_add_41 rfl ?_
        obtain ⟨v14, ev14, hM⟩ := hb_some hM
        refine J_getA (pc := 42) X hc_Steps in_Steps 1 k_57 (by decide) rfl d_Steps_add_42 rfl ev14 ?_
        refine J_aload_n (pc := 45) X 0 d_Steps_add_45 rfl ?_
        obtain ⟨v15, ev15, hM⟩ := hb_some hM
        refine J_getI (pc := 46) X hc_Steps in_Steps 2 k_58 (by decide) rfl d_Steps_add_46 rfl ev15 ?_
        refine J_iload_n (pc := 49) X 2 d_Steps_add_49 rfl ?_
        obtain ⟨h16, eh16, hM⟩ := hb_some hM
        refine J_iast (pc := 50) X d_Steps_add_50 rfl eh16 ?_
        refine J_aload_n (pc := 51) X 0 d_Steps_add_51 rfl ?_
        refine J_dup (pc := 52) X d_Steps_add_52 rfl ?_
        obtain ⟨v17, ev17, hM⟩ := hb_some hM
        refine J_getI (pc := 53) X hc_Steps in_Steps 2 k_58 (by decide) rfl d_Steps_add_53 rfl ev17 ?_
        refine J_iconst (pc := 56) (v := (1)) X d_Steps_add_56 (by decide) ?_
        refine J_iadd (pc := 57) X d_Steps_add_57 ?_
        obtain ⟨h18, eh18, hM⟩ := hb_some hM
        refine J_put (pc := 58) X hc_Steps in_Steps t_Steps tk_Steps nk_Steps 2 k_58 (by decide) rfl rfl d_Steps_add_58 rfl rfl rfl eh18 ?_
        obtain rfl := Option.some.inj hM
        exact J_vret (pc := 61) X hr hlk (Nat.le_of_ble_eq_true rfl) (Nat.le_of_ble_eq_true rfl) d_Steps_add_61
abbrev rm_Steps_kindAt : Room := { frames := 0, cells := 0, slots := 0, locals := 0 }
set_option maxHeartbeats 4000000 in
set_option maxRecDepth 100000 in
theorem c_Steps_kindAt (l : Launch) (D : va_G) (K : (Nat → Nat) × (Nat → Nat)) (F : Nat) {h : hH} {x0 : Nat} {x1 : Int32} {q : (Int32 × hH)} (hM : M_Steps_kindAt F h x0 x1 = some q) : Met l y_Steps_kindAt (.code y_Steps_kindAt prog_9_method_3_code 2 (some .int) :: T0) rm_Steps_kindAt (hPc hG D cls0 K [.ref x0, .int x1] h) (hQ D cls0 h (some (.int q.1)) q.2) 0 0 (hF h) := by
  refine J_met (lv := [(0, .ref x0), (1, .int x1)]) (by decide) (Nat.le_of_ble_eq_true rfl) rfl ?_
  intro p e s m below meth c X hr hlk hnm
  have Y : HX p s m _ meth c prog_9_method_3_code 2 "LicenceTexts$Steps" D K "kindAt" (some .int) h := ⟨X, hr, hlk, hnm⟩
  unfold M_Steps_kindAt at hM
  refine J_iload_n (pc := 0) X 1 d_Steps_kindAt_0 rfl ?_
  refine J_if_lt (pc := 1) (tgt := 30) X d_Steps_kindAt_1 (by decide) (fun c1 => ?_) (fun c1 => ?_)
  · have hM := hif_t hM c1
    refine J_iconst (pc := 30) (v := (-1)) X d_Steps_kindAt_30 (by decide) ?_
    obtain rfl := Option.some.inj hM
    exact J_iret (pc := 31) X hr hlk (Nat.le_of_ble_eq_true rfl) (Nat.le_of_ble_eq_true rfl) d_Steps_kindAt_31
  · have hM := hif_f hM c1
    refine J_iload_n (pc := 4) X 1 d_Steps_kindAt_4 rfl ?_
    refine J_aload_n (pc := 5) X 0 d_Steps_kindAt_5 rfl ?_
    obtain ⟨v2, ev2, hM⟩ := hb_some hM
    refine J_getI (pc := 6) X hc_Steps in_Steps 2 k_58 (by decide) rfl d_Steps_kindAt_6 rfl ev2 ?_
    refine J_icmp_ge (pc := 9) (tgt := 30) X d_Steps_kindAt_9 (by decide) (fun c3 => ?_) (fun c3 => ?_)
    · have hM := hif_t hM c3
      refine J_iconst (pc := 30) (v := (-1)) X d_Steps_kindAt_30 (by decide) ?_
      obtain rfl := Option.some.inj hM
      exact J_iret (pc := 31) X hr hlk (Nat.le_of_ble_eq_true rfl) (Nat.le_of_ble_eq_true rfl) d_Steps_kindAt_31
    · have hM := hif_f hM c3
      refine J_iload_n (pc := 12) X 1 d_Steps_kindAt_12 rfl ?_
      refine J_aload_n (pc := 13) X 0 d_Steps_kindAt_13 rfl ?_
      obtain ⟨v4, ev4, hM⟩ := hb_some hM
      refine J_getA (pc := 14) X hc_Steps in_Steps 0 k_56 (by decide) rfl d_Steps_kindAt_14 rfl ev4 ?_
      obtain ⟨v5, ev5, hM⟩ := hb_some hM
      refine J_alen (pc := 17) X d_Steps_kindAt_17 rfl ev5 ?_
      refine J_icmp_ge (pc := 18) (tgt := 30) X d_Steps_kindAt_18 (by decide) (fun c6 => ?_) (fun c6 => ?_)
      · have hM := hif_t hM c6
        refine J_iconst (pc := 30) (v := (-1)) X d_Steps_kindAt_30 (by decide) ?_
        obtain rfl := Option.some.inj hM
        exact J_iret (pc := 31) X hr hlk (Nat.le_of_ble_eq_true rfl) (Nat.le_of_ble_eq_true rfl) d_Steps_kindAt_31
      · have hM := hif_f hM c6
        refine J_aload_n (pc := 21) X 0 d_Steps_kindAt_21 rfl ?_
        obtain ⟨v7, ev7, hM⟩ := hb_some hM
        refine J_getA (pc := 22) X hc_Steps in_Steps 0 k_56 (by decide) rfl d_Steps_kindAt_22 rfl ev7 ?_
        refine J_iload_n (pc := 25) X 1 d_Steps_kindAt_25 rfl ?_
        obtain ⟨v8, ev8, hM⟩ := hb_some hM
        refine J_iald (pc := 26) X d_Steps_kindAt_26 rfl ev8 ?_
        refine J_goto (pc := 27) (tgt := 31) X d_Steps_kindAt_27 (by decide) ?_
        obtain rfl := Option.some.inj hM
        exact J_iret (pc := 31) X hr hlk (Nat.le_of_ble_eq_true rfl) (Nat.le_of_ble_eq_true rfl) d_Steps_kindAt_31
abbrev rm_Steps_valueAt : Room := { frames := 0, cells := 0, slots := 0, locals := 0 }
set_option maxHeartbeats 4000000 in
set_option maxRecDepth 100000 in
theorem c_Steps_valueAt (l : Launch) (D : va_G) (K : (Nat → Nat) × (Nat → Nat)) (F : Nat) {h : hH} {x0 : Nat} {x1 : Int32} {q : (Int32 × hH)} (hM : M_Steps_valueAt F h x0 x1 = some q) : Met l y_Steps_valueAt (.code y_Steps_valueAt prog_9_method_4_code 2 (some .int) :: T0) rm_Steps_valueAt (hPc hG D cls0 K [.ref x0, .int x1] h) (hQ D cls0 h (some (.int q.1)) q.2) 0 0 (hF h) := by
  refine J_met (lv := [(0, .ref x0), (1, .int x1)]) (by decide) (Nat.le_of_ble_eq_true rfl) rfl ?_
  intro p e s m below meth c X hr hlk hnm
  have Y : HX p s m _ meth c prog_9_method_4_code 2 "LicenceTexts$Steps" D K "valueAt" (some .int) h := ⟨X, hr, hlk, hnm⟩
  unfold M_Steps_valueAt at hM
  refine J_iload_n (pc := 0) X 1 d_Steps_valueAt_0 rfl ?_
  refine J_if_lt (pc := 1) (tgt := 30) X d_Steps_valueAt_1 (by decide) (fun c1 => ?_) (fun c1 => ?_)
  · have hM := hif_t hM c1
    refine J_iconst (pc := 30) (v := (-1)) X d_Steps_valueAt_30 (by decide) ?_
    obtain rfl := Option.some.inj hM
    exact J_iret (pc := 31) X hr hlk (Nat.le_of_ble_eq_true rfl) (Nat.le_of_ble_eq_true rfl) d_Steps_valueAt_31
  · have hM := hif_f hM c1
    refine J_iload_n (pc := 4) X 1 d_Steps_valueAt_4 rfl ?_
    refine J_aload_n (pc := 5) X 0 d_Steps_valueAt_5 rfl ?_
    obtain ⟨v2, ev2, hM⟩ := hb_some hM
    refine J_getI (pc := 6) X hc_Steps in_Steps 2 k_58 (by decide) rfl d_Steps_valueAt_6 rfl ev2 ?_
    refine J_icmp_ge (pc := 9) (tgt := 30) X d_Steps_valueAt_9 (by decide) (fun c3 => ?_) (fun c3 => ?_)
    · have hM := hif_t hM c3
      refine J_iconst (pc := 30) (v := (-1)) X d_Steps_valueAt_30 (by decide) ?_
      obtain rfl := Option.some.inj hM
      exact J_iret (pc := 31) X hr hlk (Nat.le_of_ble_eq_true rfl) (Nat.le_of_ble_eq_true rfl) d_Steps_valueAt_31
    · have hM := hif_f hM c3
      refine J_iload_n (pc := 12) X 1 d_Steps_valueAt_12 rfl ?_
      refine J_aload_n (pc := 13) X 0 d_Steps_valueAt_13 rfl ?_
      obtain ⟨v4, ev4, hM⟩ := hb_some hM
      refine J_getA (pc := 14) X hc_Steps in_Steps 1 k_57 (by decide) rfl d_Steps_valueAt_14 rfl ev4 ?_
      obtain ⟨v5, ev5, hM⟩ := hb_some hM
      refine J_alen (pc := 17) X d_Steps_valueAt_17 rfl ev5 ?_
      refine J_icmp_ge (pc := 18) (tgt := 30) X d_Steps_valueAt_18 (by decide) (fun c6 => ?_) (fun c6 => ?_)
      · have hM := hif_t hM c6
        refine J_iconst (pc := 30) (v := (-1)) X d_Steps_valueAt_30 (by decide) ?_
        obtain rfl := Option.some.inj hM
        exact J_iret (pc := 31) X hr hlk (Nat.le_of_ble_eq_true rfl) (Nat.le_of_ble_eq_true rfl) d_Steps_valueAt_31
      · have hM := hif_f hM c6
        refine J_aload_n (pc := 21) X 0 d_Steps_valueAt_21 rfl ?_
        obtain ⟨v7, ev7, hM⟩ := hb_some hM
        refine J_getA (pc := 22) X hc_Steps in_Steps 1 k_57 (by decide) rfl d_Steps_valueAt_22 rfl ev7 ?_
        refine J_iload_n (pc := 25) X 1 d_Steps_valueAt_25 rfl ?_
        obtain ⟨v8, ev8, hM⟩ := hb_some hM
        refine J_iald (pc := 26) X d_Steps_valueAt_26 rfl ev8 ?_
        refine J_goto (pc := 27) (tgt := 31) X d_Steps_valueAt_27 (by decide) ?_
        obtain rfl := Option.some.inj hM
        exact J_iret (pc := 31) X hr hlk (Nat.le_of_ble_eq_true rfl) (Nat.le_of_ble_eq_true rfl) d_Steps_valueAt_31
abbrev rm_Steps_removeLast : Room := { frames := 0, cells := 0, slots := 0, locals := 0 }
set_option maxHeartbeats 4000000 in
set_option maxRecDepth 100000 in
theorem c_Steps_removeLast (l : Launch) (D : va_G) (K : (Nat → Nat) × (Nat → Nat)) (F : Nat) {h : hH} {x0 : Nat} {q : hH} (hM : M_Steps_removeLast F h x0 = some q) : Met l y_Steps_removeLast (.code y_Steps_removeLast prog_9_method_5_code 1 none :: T0) rm_Steps_removeLast (hPc hG D cls0 K [.ref x0] h) (hQ D cls0 h none q) 0 0 (hF h) := by
  refine J_met (lv := [(0, .ref x0)]) (by decide) (Nat.le_of_ble_eq_true rfl) rfl ?_
  intro p e s m below meth c X hr hlk hnm
  have Y : HX p s m _ meth c prog_9_method_5_code 1 "LicenceTexts$Steps" D K "removeLast" none h := ⟨X, hr, hlk, hnm⟩
  unfold M_Steps_removeLast at hM
  refine J_aload_n (pc := 0) X 0 d_Steps_removeLast_0 rfl ?_
  obtain ⟨v1, ev1, hM⟩ := hb_some hM
  refine J_getI (pc := 1) X hc_Steps in_Steps 2 k_58 (by decide) rfl d_Steps_removeLast_1 rfl ev1 ?_
  refine J_if_le (pc := 4) (tgt := 17) X d_Steps_removeLast_4 (by decide) (fun c2 => ?_) (fun c2 => ?_)
  · have hM := hif_t hM c2
    obtain rfl := Option.some.inj hM
    exact J_vret (pc := 17) X hr hlk (Nat.le_of_ble_eq_true rfl) (Nat.le_of_ble_eq_true rfl) d_Steps_removeLast_17
  · have hM := hif_f hM c2
    refine J_aload_n (pc := 7) X 0 d_Steps_removeLast_7 rfl ?_
    refine J_dup (pc := 8) X d_Steps_removeLast_8 rfl ?_
    obtain ⟨v3, ev3, hM⟩ := hb_some hM
    refine J_getI (pc := 9) X hc_Steps in_Steps 2 k_58 (by decide) rfl d_Steps_removeLast_9 rfl ev3 ?_
    refine J_iconst (pc := 12) (v := (1)) X d_Steps_removeLast_12 (by decide) ?_
    refine J_isub (pc := 13) X d_Steps_removeLast_13 ?_
    obtain ⟨h4, eh4, hM⟩ := hb_some hM
    refine J_put (pc := 14) X hc_Steps in_Steps t_Steps tk_Steps nk_Steps 2 k_58 (by decide) rfl rfl d_Steps_removeLast_14 rfl rfl rfl eh4 ?_
    obtain rfl := Option.some.inj hM
    exact J_vret (pc := 17) X hr hlk (Nat.le_of_ble_eq_true rfl) (Nat.le_of_ble_eq_true rfl) d_Steps_removeLast_17
abbrev rm_Steps_clear : Room := { frames := 0, cells := 0, slots := 0, locals := 0 }
set_option maxHeartbeats 4000000 in
set_option maxRecDepth 100000 in
theorem c_Steps_clear (l : Launch) (D : va_G) (K : (Nat → Nat) × (Nat → Nat)) (F : Nat) {h : hH} {x0 : Nat} {q : hH} (hM : M_Steps_clear F h x0 = some q) : Met l y_Steps_clear (.code y_Steps_clear prog_9_method_6_code 1 none :: T0) rm_Steps_clear (hPc hG D cls0 K [.ref x0] h) (hQ D cls0 h none q) 0 0 (hF h) := by
  refine J_met (lv := [(0, .ref x0)]) (by decide) (Nat.le_of_ble_eq_true rfl) rfl ?_
  intro p e s m below meth c X hr hlk hnm
  have Y : HX p s m _ meth c prog_9_method_6_code 1 "LicenceTexts$Steps" D K "clear" none h := ⟨X, hr, hlk, hnm⟩
  unfold M_Steps_clear at hM
  refine J_aload_n (pc := 0) X 0 d_Steps_clear_0 rfl ?_
  refine J_iconst (pc := 1) (v := (0)) X d_Steps_clear_1 (by decide) ?_
  obtain ⟨h1, eh1, hM⟩ := hb_some hM
  refine J_put (pc := 2) X hc_Steps in_Steps t_Steps tk_Steps nk_Steps 2 k_58 (by decide) rfl rfl d_Steps_clear_2 rfl rfl rfl eh1 ?_
  obtain rfl := Option.some.inj hM
  exact J_vret (pc := 5) X hr hlk (Nat.le_of_ble_eq_true rfl) (Nat.le_of_ble_eq_true rfl) d_Steps_clear_5
abbrev rm_Rule_init : Room := { frames := 1, cells := 0, slots := 0, locals := 12 }
set_option maxHeartbeats 4000000 in
set_option maxRecDepth 100000 in
theorem c_Rule_init (l : Launch) (D : va_G) (K : (Nat → Nat) × (Nat → Nat)) (F : Nat) {h : hH} {x0 : Nat} {x1 : Int32} {x2 : Int32} {q : hH} (hM : M_Rule_init F h x0 x1 x2 = some q) : Met l y_Rule_init (.code y_Rule_init prog_8_method_1_code 3 none :: T0) rm_Rule_init (hPc hG D cls0 K [.ref x0, .int x1, .int x2] h) (hQ D cls0 h none q) 0 0 (hF h) := by
  refine J_met (lv := [(0, .ref x0), (1, .int x1), (2, .int x2)]) (by decide) (Nat.le_of_ble_eq_true rfl) rfl ?_
  intro p e s m below meth c X hr hlk hnm
  have Y : HX p s m _ meth c prog_8_method_1_code 3 "LicenceTexts$Rule" D K "<init>" none h := ⟨X, hr, hlk, hnm⟩
  unfold M_Rule_init at hM
  refine J_aload_n (pc := 0) X 0 d_Rule_init_0 rfl ?_
  refine J_objInit (pc := 1) X k_59 k_1 k_2 d_Rule_init_1 (Nat.le_of_ble_eq_true rfl) (Nat.le_of_ble_eq_true rfl) ?_
  refine J_aload_n (pc := 4) X 0 d_Rule_init_4 rfl ?_
  refine J_iload_n (pc := 5) X 1 d_Rule_init_5 rfl ?_
  obtain ⟨h1, eh1, hM⟩ := hb_some hM
  refine J_putF (pc := 6) X hc_Rule in_Rule t_Rule tk_Rule nk_Rule 0 k_60 (by decide) rfl rfl rfl hnm d_Rule_init_6 rfl rfl rfl eh1 ?_
  refine J_aload_n (pc := 9) X 0 d_Rule_init_9 rfl ?_
  refine J_iload_n (pc := 10) X 2 d_Rule_init_10 rfl ?_
  obtain ⟨h2, eh2, hM⟩ := hb_some hM
  refine J_putF (pc := 11) X hc_Rule in_Rule t_Rule tk_Rule nk_Rule 1 k_61 (by decide) rfl rfl rfl hnm d_Rule_init_11 rfl rfl rfl eh2 ?_
  refine J_aload_n (pc := 14) X 0 d_Rule_init_14 rfl ?_
  refine J_iload_n (pc := 15) X 1 d_Rule_init_15 rfl ?_
  obtain ⟨h3, eh3, hM⟩ := hb_some hM
  refine J_put (pc := 16) X hc_Rule in_Rule t_Rule tk_Rule nk_Rule 2 k_62 (by decide) rfl rfl d_Rule_init_16 rfl rfl rfl eh3 ?_
  refine J_aload_n (pc := 19) X 0 d_Rule_init_19 rfl ?_
  refine J_iload_n (pc := 20) X 2 d_Rule_init_20 rfl ?_
  obtain ⟨h4, eh4, hM⟩ := hb_some hM
  refine J_put (pc := 21) X hc_Rule in_Rule t_Rule tk_Rule nk_Rule 3 k_63 (by decide) rfl rfl d_Rule_init_21 rfl rfl rfl eh4 ?_
  refine J_aload_n (pc := 24) X 0 d_Rule_init_24 rfl ?_
  refine J_iload_n (pc := 25) X 2 d_Rule_init_25 rfl ?_
  obtain ⟨h5, eh5, hM⟩ := hb_some hM
  refine J_put (pc := 26) X hc_Rule in_Rule t_Rule tk_Rule nk_Rule 4 k_64 (by decide) rfl rfl d_Rule_init_26 rfl rfl rfl eh5 ?_
  obtain rfl := Option.some.inj hM
  exact J_vret (pc := 29) X hr hlk (Nat.le_of_ble_eq_true rfl) (Nat.le_of_ble_eq_true rfl) d_Rule_init_29
