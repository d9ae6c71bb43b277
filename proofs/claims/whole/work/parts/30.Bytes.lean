theorem d_Bytes_init_0 : decode prog_2_method_1_code 0 = .ok (.aload_n 0, 1) := by decide +kernel
theorem d_Bytes_init_1 : decode prog_2_method_1_code 1 = .ok (.invokespecial 3, 3) := by decide +kernel
theorem d_Bytes_init_4 : decode prog_2_method_1_code 4 = .ok (.aload_n 0, 1) := by decide +kernel
theorem d_Bytes_init_5 : decode prog_2_method_1_code 5 = .ok (.sipush 800, 3) := by decide +kernel
theorem d_Bytes_init_8 : decode prog_2_method_1_code 8 = .ok (.newarray .byte, 2) := by decide +kernel
theorem d_Bytes_init_10 : decode prog_2_method_1_code 10 = .ok (.putfield 11, 3) := by decide +kernel
theorem d_Bytes_init_13 : decode prog_2_method_1_code 13 = .ok (.aload_n 0, 1) := by decide +kernel
theorem d_Bytes_init_14 : decode prog_2_method_1_code 14 = .ok (.iconst 0, 1) := by decide +kernel
theorem d_Bytes_init_15 : decode prog_2_method_1_code 15 = .ok (.putfield 15, 3) := by decide +kernel
theorem d_Bytes_init_18 : decode prog_2_method_1_code 18 = .ok (.return_, 1) := by decide +kernel
theorem d_Bytes_append_0 : decode prog_2_method_2_code 0 = .ok (.aload_n 0, 1) := by decide +kernel
theorem d_Bytes_append_1 : decode prog_2_method_2_code 1 = .ok (.getfield 15, 3) := by decide +kernel
theorem d_Bytes_append_4 : decode prog_2_method_2_code 4 = .ok (.ifCond .lt 15, 3) := by decide +kernel
theorem d_Bytes_append_19 : decode prog_2_method_2_code 19 = .ok (.iconst 0, 1) := by decide +kernel
theorem d_Bytes_append_20 : decode prog_2_method_2_code 20 = .ok (.ireturn, 1) := by decide +kernel
theorem d_Bytes_append_7 : decode prog_2_method_2_code 7 = .ok (.aload_n 0, 1) := by decide +kernel
theorem d_Bytes_append_8 : decode prog_2_method_2_code 8 = .ok (.getfield 15, 3) := by decide +kernel
theorem d_Bytes_append_11 : decode prog_2_method_2_code 11 = .ok (.aload_n 0, 1) := by decide +kernel
theorem d_Bytes_append_12 : decode prog_2_method_2_code 12 = .ok (.getfield 11, 3) := by decide +kernel
theorem d_Bytes_append_15 : decode prog_2_method_2_code 15 = .ok (.arraylength, 1) := by decide +kernel
theorem d_Bytes_append_16 : decode prog_2_method_2_code 16 = .ok (.if_icmp .lt 5, 3) := by decide +kernel
theorem d_Bytes_append_21 : decode prog_2_method_2_code 21 = .ok (.aload_n 0, 1) := by decide +kernel
theorem d_Bytes_append_22 : decode prog_2_method_2_code 22 = .ok (.getfield 11, 3) := by decide +kernel
theorem d_Bytes_append_25 : decode prog_2_method_2_code 25 = .ok (.aload_n 0, 1) := by decide +kernel
theorem d_Bytes_append_26 : decode prog_2_method_2_code 26 = .ok (.getfield 15, 3) := by decide +kernel
theorem d_Bytes_append_29 : decode prog_2_method_2_code 29 = .ok (.iload_n 1, 1) := by decide +kernel
theorem d_Bytes_append_30 : decode prog_2_method_2_code 30 = .ok (.i2b, 1) := by decide +kernel
theorem d_Bytes_append_31 : decode prog_2_method_2_code 31 = .ok (.bastore, 1) := by decide +kernel
theorem d_Bytes_append_32 : decode prog_2_method_2_code 32 = .ok (.aload_n 0, 1) := by decide +kernel
theorem d_Bytes_append_33 : decode prog_2_method_2_code 33 = .ok (.dup, 1) := by decide +kernel
theorem d_Bytes_append_34 : decode prog_2_method_2_code 34 = .ok (.getfield 15, 3) := by decide +kernel
theorem d_Bytes_append_37 : decode prog_2_method_2_code 37 = .ok (.iconst 1, 1) := by decide +kernel
theorem d_Bytes_append_38 : decode prog_2_method_2_code 38 = .ok (.iadd, 1) := by decide +kernel
theorem d_Bytes_append_39 : decode prog_2_method_2_code 39 = .ok (.putfield 15, 3) := by decide +kernel
theorem d_Bytes_append_42 : decode prog_2_method_2_code 42 = .ok (.iconst 1, 1) := by decide +kernel
theorem d_Bytes_append_43 : decode prog_2_method_2_code 43 = .ok (.ireturn, 1) := by decide +kernel
theorem d_Bytes_byteAt_0 : decode prog_2_method_3_code 0 = .ok (.iload_n 1, 1) := by decide +kernel
theorem d_Bytes_byteAt_1 : decode prog_2_method_3_code 1 = .ok (.ifCond .lt 20, 3) := by decide +kernel
theorem d_Bytes_byteAt_21 : decode prog_2_method_3_code 21 = .ok (.iconst (-1), 1) := by decide +kernel
theorem d_Bytes_byteAt_22 : decode prog_2_method_3_code 22 = .ok (.ireturn, 1) := by decide +kernel
theorem d_Bytes_byteAt_4 : decode prog_2_method_3_code 4 = .ok (.iload_n 1, 1) := by decide +kernel
theorem d_Bytes_byteAt_5 : decode prog_2_method_3_code 5 = .ok (.aload_n 0, 1) := by decide +kernel
theorem d_Bytes_byteAt_6 : decode prog_2_method_3_code 6 = .ok (.getfield 15, 3) := by decide +kernel
theorem d_Bytes_byteAt_9 : decode prog_2_method_3_code 9 = .ok (.if_icmp .ge 12, 3) := by decide +kernel
theorem d_Bytes_byteAt_12 : decode prog_2_method_3_code 12 = .ok (.iload_n 1, 1) := by decide +kernel
theorem d_Bytes_byteAt_13 : decode prog_2_method_3_code 13 = .ok (.aload_n 0, 1) := by decide +kernel
theorem d_Bytes_byteAt_14 : decode prog_2_method_3_code 14 = .ok (.getfield 11, 3) := by decide +kernel
theorem d_Bytes_byteAt_17 : decode prog_2_method_3_code 17 = .ok (.arraylength, 1) := by decide +kernel
theorem d_Bytes_byteAt_18 : decode prog_2_method_3_code 18 = .ok (.if_icmp .lt 5, 3) := by decide +kernel
theorem d_Bytes_byteAt_23 : decode prog_2_method_3_code 23 = .ok (.aload_n 0, 1) := by decide +kernel
theorem d_Bytes_byteAt_24 : decode prog_2_method_3_code 24 = .ok (.getfield 11, 3) := by decide +kernel
theorem d_Bytes_byteAt_27 : decode prog_2_method_3_code 27 = .ok (.iload_n 1, 1) := by decide +kernel
theorem d_Bytes_byteAt_28 : decode prog_2_method_3_code 28 = .ok (.baload, 1) := by decide +kernel
theorem d_Bytes_byteAt_29 : decode prog_2_method_3_code 29 = .ok (.sipush 255, 3) := by decide +kernel
theorem d_Bytes_byteAt_32 : decode prog_2_method_3_code 32 = .ok (.iand, 1) := by decide +kernel
theorem d_Bytes_byteAt_33 : decode prog_2_method_3_code 33 = .ok (.ireturn, 1) := by decide +kernel
theorem d_Bytes_clear_0 : decode prog_2_method_4_code 0 = .ok (.aload_n 0, 1) := by decide +kernel
theorem d_Bytes_clear_1 : decode prog_2_method_4_code 1 = .ok (.iconst 0, 1) := by decide +kernel
theorem d_Bytes_clear_2 : decode prog_2_method_4_code 2 = .ok (.putfield 15, 3) := by decide +kernel
theorem d_Bytes_clear_5 : decode prog_2_method_4_code 5 = .ok (.return_, 1) := by decide +kernel
def M_Bytes_init (F : Nat) (h : hH) (x0 : Nat) : Option hH :=
  (some (hAdd h (.inr (.byte, 800, .inl (fun _ => 0))))).bind fun h1 =>
  (hPut h1 x0 0 0 (.ref h.1)).bind fun h2 =>
  (hPut h2 x0 0 1 (.int 0)).bind fun h3 =>
  some h3
def M_Bytes_append (F : Nat) (h : hH) (x0 : Nat) (x1 : Int32) : Option (Int32 × hH) :=
  (hGetI h x0 0 1).bind fun v1 =>
  if v1 < 0 then (
    some (0, h)
  ) else (
    (hGetI h x0 0 1).bind fun v3 =>
    (hGetA h x0 0 0).bind fun v4 =>
    (hLen h v4).bind fun v5 =>
    if v3 < v5 then (
      (hGetA h x0 0 0).bind fun v7 =>
      (hGetI h x0 0 1).bind fun v8 =>
      (hStB h v7 v8 x1.toInt8.toInt32).bind fun h9 =>
      (hGetI h9 x0 0 1).bind fun v10 =>
      (hPut h9 x0 0 1 (.int (v10 + 1))).bind fun h11 =>
      some (1, h11)
    ) else (
      some (0, h)
    )
  )
def M_Bytes_byteAt (F : Nat) (h : hH) (x0 : Nat) (x1 : Int32) : Option (Int32 × hH) :=
  if x1 < 0 then (
    some ((-1), h)
  ) else (
    (hGetI h x0 0 1).bind fun v2 =>
    if v2 ≤ x1 then (
      some ((-1), h)
    ) else (
      (hGetA h x0 0 0).bind fun v4 =>
      (hLen h v4).bind fun v5 =>
      if x1 < v5 then (
        (hGetA h x0 0 0).bind fun v7 =>
        (hLdI h v7 .byte x1).bind fun v8 =>
        some ((v8 &&& 255), h)
      ) else (
        some ((-1), h)
      )
    )
  )
def M_Bytes_clear (F : Nat) (h : hH) (x0 : Nat) : Option hH :=
  (hPut h x0 0 1 (.int 0)).bind fun h1 =>
  some h1
abbrev rm_Bytes_init : Room := { frames := 1, cells := 1, slots := 800, locals := 12 }
set_option maxHeartbeats 4000000 in
set_option maxRecDepth 100000 in
theorem c_Bytes_init (l : Launch) (D : va_G) (K : (Nat → Nat) × (Nat → Nat)) (F : Nat) {h : hH} {x0 : Nat} {q : hH} (hM : M_Bytes_init F h x0 = some q) : Met l y_Bytes_init (.code y_Bytes_init prog_2_method_1_code 1 none :: T0) rm_Bytes_init (hPc hG D cls0 K [.ref x0] h) (hQ D cls0 h none q) 1 800 (hF h) := by
  refine J_met (lv := [(0, .ref x0)]) (by decide) (Nat.le_of_ble_eq_true rfl) rfl ?_
  intro p e s m below meth c X hr hlk hnm
  have Y : HX p s m _ meth c prog_2_method_1_code 1 "LicenceTexts$Bytes" D K "<init>" none h := ⟨X, hr, hlk, hnm⟩
  unfold M_Bytes_init at hM
  refine J_aload_n (pc := 0) X 0 d_Bytes_init_0 rfl ?_
  refine J_objInit (pc := 1) X k_0 k_1 k_2 d_Bytes_init_1 (Nat.le_of_ble_eq_true rfl) (Nat.le_of_ble_eq_true rfl) ?_
  refine J_aload_n (pc := 4) X 0 d_Bytes_init_4 rfl ?_
  refine J_sipush (pc := 5) (v := (800)) X d_Bytes_init_5 (by decide) ?_
  refine J_newa (pc := 8) (ty := .byte) (N := 800) (a0 := (800, .inl (fun _ => 0))) X rfl k_3 d_Bytes_init_8 (fun _ => rfl) (fun _ _ hq => hq) (by decide) (by decide) (by decide) (Nat.le_of_ble_eq_true rfl) (Nat.le_of_ble_eq_true rfl) ?_
  obtain ⟨h1, eh1, hM⟩ := hb_some hM
  rw [Option.some.inj eh1]
  obtain ⟨h2, eh2, hM⟩ := hb_some hM
  refine J_putF (pc := 10) X hc_Bytes in_Bytes t_Bytes tk_Bytes nk_Bytes 0 k_4 (by decide) rfl rfl rfl hnm d_Bytes_init_10 rfl rfl rfl eh2 ?_
  refine J_aload_n (pc := 13) X 0 d_Bytes_init_13 rfl ?_
  refine J_iconst (pc := 14) (v := (0)) X d_Bytes_init_14 (by decide) ?_
  obtain ⟨h3, eh3, hM⟩ := hb_some hM
  refine J_put (pc := 15) X hc_Bytes in_Bytes t_Bytes tk_Bytes nk_Bytes 1 k_5 (by decide) rfl rfl d_Bytes_init_15 rfl rfl rfl eh3 ?_
  obtain rfl := Option.some.inj hM
  exact J_vret (pc := 18) X hr hlk (Nat.le_of_ble_eq_true rfl) (Nat.le_of_ble_eq_true rfl) d_Bytes_init_18
abbrev rm_Bytes_append : Room := { frames := 0, cells := 0, slots := 0, locals := 0 }
set_option maxHeartbeats 4000000 in
set_option maxRecDepth 100000 in
theorem c_Bytes_append (l : Launch) (D : va_G) (K : (Nat → Nat) × (Nat → Nat)) (F : Nat) {h : hH} {x0 : Nat} {x1 : Int32} {q : (Int32 × hH)} (hM : M_Bytes_append F h x0 x1 = some q) : Met l y_Bytes_append (.code y_Bytes_append prog_2_method_2_code 2 (some .boolean) :: T0) rm_Bytes_append (hPc hG D cls0 K [.ref x0, .int x1] h) (hQ D cls0 h (some (.int q.1)) q.2) 0 0 (hF h) := by
  refine J_met (lv := [(0, .ref x0), (1, .int x1)]) (by decide) (Nat.le_of_ble_eq_true rfl) rfl ?_
  intro p e s m below meth c X hr hlk hnm
  have Y : HX p s m _ meth c prog_2_method_2_code 2 "LicenceTexts$Bytes" D K "append" (some .boolean) h := ⟨X, hr, hlk, hnm⟩
  unfold M_Bytes_append at hM
  refine J_aload_n (pc := 0) X 0 d_Bytes_append_0 rfl ?_
  obtain ⟨v1, ev1, hM⟩ := hb_some hM
  refine J_getI (pc := 1) X hc_Bytes in_Bytes 1 k_5 (by decide) rfl d_Bytes_append_1 rfl ev1 ?_
  refine J_if_lt (pc := 4) (tgt := 19) X d_Bytes_append_4 (by decide) (fun c2 => ?_) (fun c2 => ?_)
  · have hM := hif_t hM c2
    refine J_iconst (pc := 19) (v := (0)) X d_Bytes_append_19 (by decide) ?_
    obtain rfl := Option.some.inj hM
    exact J_zret (pc := 20) X hr hz0 hlk (Nat.le_of_ble_eq_true rfl) (Nat.le_of_ble_eq_true rfl) d_Bytes_append_20
  · have hM := hif_f hM c2
    refine J_aload_n (pc := 7) X 0 d_Bytes_append_7 rfl ?_
    obtain ⟨v3, ev3, hM⟩ := hb_some hM
    refine J_getI (pc := 8) X hc_Bytes in_Bytes 1 k_5 (by decide) rfl d_Bytes_append_8 rfl ev3 ?_
    refine J_aload_n (pc := 11) X 0 d_Bytes_append_11 rfl ?_
    obtain ⟨v4, ev4, hM⟩ := hb_some hM
    refine J_getA (pc := 12) X hc_Bytes in_Bytes 0 k_4 (by decide) rfl d_Bytes_append_12 rfl ev4 ?_
    obtain ⟨v5, ev5, hM⟩ := hb_some hM
    refine J_alen (pc := 15) X d_Bytes_append_15 rfl ev5 ?_
    refine J_icmp_lt (pc := 16) (tgt := 21) X d_Bytes_append_16 (by decide) (fun c6 => ?_) (fun c6 => ?_)
    · have hM := hif_t hM c6
      refine J_aload_n (pc := 21) X 0 d_Bytes_append_21 rfl ?_
      obtain ⟨v7, ev7, hM⟩ := hb_some hM
      refine J_getA (pc := 22) X hc_Bytes in_Bytes 0 k_4 (by decide) rfl d_Bytes_append_22 rfl ev7 ?_
      refine J_aload_n (pc := 25) X 0 d_Bytes_append_25 rfl ?_
      obtain ⟨v8, ev8, hM⟩ := hb_some hM
      refine J_getI (pc := 26) X hc_Bytes in_Bytes 1 k_5 (by decide) rfl d_Bytes_append_26 rfl ev8 ?_
      refine J_iload_n (pc := 29) X 1 d_Bytes_append_29 rfl ?_
      refine J_i2b (pc := 30) X d_Bytes_append_30 ?_
      obtain ⟨h9, eh9, hM⟩ := hb_some hM
      refine J_bast (pc := 31) X d_Bytes_append_31 rfl eh9 ?_
      refine J_aload_n (pc := 32) X 0 d_Bytes_append_32 rfl ?_
      refine J_dup (pc := 33) X d_Bytes_append_33 rfl ?_
      obtain ⟨v10, ev10, hM⟩ := hb_some hM
      refine J_getI (pc := 34) X hc_Bytes in_Bytes 1 k_5 (by decide) rfl d_Bytes_append_34 rfl ev10 ?_
      refine J_iconst (pc := 37) (v := (1)) X d_Bytes_append_37 (by decide) ?_
      refine J_iadd (pc := 38) X d_Bytes_append_38 ?_
      obtain ⟨h11, eh11, hM⟩ := hb_some hM
      refine J_put (pc := 39) X hc_Bytes in_Bytes t_Bytes tk_Bytes nk_Bytes 1 k_5 (by decide) rfl rfl d_Bytes_append_39 rfl rfl rfl eh11 ?_
      refine J_iconst (pc := 42) (v := (1)) X d_Bytes_append_42 (by decide) ?_
      obtain rfl := Option.some.inj hM
      exact J_zret (pc := 43) X hr hz1 hlk (Nat.le_of_ble_eq_true rfl) (Nat.le_of_ble_eq_true rfl) d_Bytes_append_43
    · have hM := hif_f hM c6
      refine J_iconst (pc := 19) (v := (0)) X d_Bytes_append_19 (by decide) ?_
      obtain rfl := Option.some.inj hM
      exact J_zret (pc := 20) X hr hz0 hlk (Nat.le_of_ble_eq_true rfl) (Nat.le_of_ble_eq_true rfl) d_Bytes_append_20
abbrev rm_Bytes_byteAt : Room := { frames := 0, cells := 0, slots := 0, locals := 0 }
set_option maxHeartbeats 4000000 in
set_option maxRecDepth 100000 in
theorem c_Bytes_byteAt (l : Launch) (D : va_G) (K : (Nat → Nat) × (Nat → Nat)) (F : Nat) {h : hH} {x0 : Nat} {x1 : Int32} {q : (Int32 × hH)} (hM : M_Bytes_byteAt F h x0 x1 = some q) : Met l y_Bytes_byteAt (.code y_Bytes_byteAt prog_2_method_3_code 2 (some .int) :: T0) rm_Bytes_byteAt (hPc hG D cls0 K [.ref x0, .int x1] h) (hQ D cls0 h (some (.int q.1)) q.2) 0 0 (hF h) := by
  refine J_met (lv := [(0, .ref x0), (1, .int x1)]) (by decide) (Nat.le_of_ble_eq_true rfl) rfl ?_
  intro p e s m below meth c X hr hlk hnm
  have Y : HX p s m _ meth c prog_2_method_3_code 2 "LicenceTexts$Bytes" D K "byteAt" (some .int) h := ⟨X, hr, hlk, hnm⟩
  unfold M_Bytes_byteAt at hM
  refine J_iload_n (pc := 0) X 1 d_Bytes_byteAt_0 rfl ?_
  refine J_if_lt (pc := 1) (tgt := 21) X d_Bytes_byteAt_1 (by decide) (fun c1 => ?_) (fun c1 => ?_)
  · have hM := hif_t hM c1
    refine J_iconst (pc := 21) (v := (-1)) X d_Bytes_byteAt_21 (by decide) ?_
    obtain rfl := Option.some.inj hM
    exact J_iret (pc := 22) X hr hlk (Nat.le_of_ble_eq_true rfl) (Nat.le_of_ble_eq_true rfl) d_Bytes_byteAt_22
  · have hM := hif_f hM c1
    refine J_iload_n (pc := 4) X 1 d_Bytes_byteAt_4 rfl ?_
    refine J_aload_n (pc := 5) X 0 d_Bytes_byteAt_5 rfl ?_
    obtain ⟨v2, ev2, hM⟩ := hb_some hM
    refine J_getI (pc := 6) X hc_Bytes in_Bytes 1 k_5 (by decide) rfl d_Bytes_byteAt_6 rfl ev2 ?_
    refine J_icmp_ge (pc := 9) (tgt := 21) X d_Bytes_byteAt_9 (by decide) (fun c3 => ?_) (fun c3 => ?_)
    · have hM := hif_t hM c3
      refine J_iconst (pc := 21) (v := (-1)) X d_Bytes_byteAt_21 (by decide) ?_
      obtain rfl := Option.some.inj hM
      exact J_iret (pc := 22) X hr hlk (Nat.le_of_ble_eq_true rfl) (Nat.le_of_ble_eq_true rfl) d_Bytes_byteAt_22
    · have hM := hif_f hM c3
      refine J_iload_n (pc := 12) X 1 d_Bytes_byteAt_12 rfl ?_
      refine J_aload_n (pc := 13) X 0 d_Bytes_byteAt_13 rfl ?_
      obtain ⟨v4, ev4, hM⟩ := hb_some hM
      refine J_getA (pc := 14) X hc_Bytes in_Bytes 0 k_4 (by decide) rfl d_Bytes_byteAt_14 rfl ev4 ?_
      obtain ⟨v5, ev5, hM⟩ := hb_some hM
      refine J_alen (pc := 17) X d_Bytes_byteAt_17 rfl ev5 ?_
      refine J_icmp_lt (pc := 18) (tgt := 23) X d_Bytes_byteAt_18 (by decide) (fun c6 => ?_) (fun c6 => ?_)
      · have hM := hif_t hM c6
        refine J_aload_n (pc := 23) X 0 d_Bytes_byteAt_23 rfl ?_
        obtain ⟨v7, ev7, hM⟩ := hb_some hM
        refine J_getA (pc := 24) X hc_Bytes in_Bytes 0 k_4 (by decide) rfl d_Bytes_byteAt_24 rfl ev7 ?_
        refine J_iload_n (pc := 27) X 1 d_Bytes_byteAt_27 rfl ?_
        obtain ⟨v8, ev8, hM⟩ := hb_some hM
        refine J_bald (pc := 28) X d_Bytes_byteAt_28 rfl ev8 ?_
        refine J_sipush (pc := 29) (v := (255)) X d_Bytes_byteAt_29 (by decide) ?_
        refine J_iand (pc := 32) X d_Bytes_byteAt_32 ?_
        obtain rfl := Option.some.inj hM
        exact J_iret (pc := 33) X hr hlk (Nat.le_of_ble_eq_true rfl) (Nat.le_of_ble_eq_true rfl) d_Bytes_byteAt_33
      · have hM := hif_f hM c6
        refine J_iconst (pc := 21) (v := (-1)) X d_Bytes_byteAt_21 (by decide) ?_
        obtain rfl := Option.some.inj hM
        exact J_iret (pc := 22) X hr hlk (Nat.le_of_ble_eq_true rfl) (Nat.le_of_ble_eq_true rfl) d_Bytes_byteAt_22
abbrev rm_Bytes_clear : Room := { frames := 0, cells := 0, slots := 0, locals := 0 }
set_option maxHeartbeats 4000000 in
set_option maxRecDepth 100000 in
theorem c_Bytes_clear (l : Launch) (D : va_G) (K : (Nat → Nat) × (Nat → Nat)) (F : Nat) {h : hH} {x0 : Nat} {q : hH} (hM : M_Bytes_clear F h x0 = some q) : Met l y_Bytes_clear (.code y_Bytes_clear prog_2_method_4_code 1 none :: T0) rm_Bytes_clear (hPc hG D cls0 K [.ref x0] h) (hQ D cls0 h none q) 0 0 (hF h) := by
  refine J_met (lv := [(0, .ref x0)]) (by decide) (Nat.le_of_ble_eq_true rfl) rfl ?_
  intro p e s m below meth c X hr hlk hnm
  have Y : HX p s m _ meth c prog_2_method_4_code 1 "LicenceTexts$Bytes" D K "clear" none h := ⟨X, hr, hlk, hnm⟩
  unfold M_Bytes_clear at hM
  refine J_aload_n (pc := 0) X 0 d_Bytes_clear_0 rfl ?_
  refine J_iconst (pc := 1) (v := (0)) X d_Bytes_clear_1 (by decide) ?_
  obtain ⟨h1, eh1, hM⟩ := hb_some hM
  refine J_put (pc := 2) X hc_Bytes in_Bytes t_Bytes tk_Bytes nk_Bytes 1 k_5 (by decide) rfl rfl d_Bytes_clear_2 rfl rfl rfl eh1 ?_
  obtain rfl := Option.some.inj hM
  exact J_vret (pc := 5) X hr hlk (Nat.le_of_ble_eq_true rfl) (Nat.le_of_ble_eq_true rfl) d_Bytes_clear_5
