theorem d_Facts_init_0 : decode prog_4_method_1_code 0 = .ok (.aload_n 0, 1) := by decide +kernel
theorem d_Facts_init_1 : decode prog_4_method_1_code 1 = .ok (.invokespecial 1, 3) := by decide +kernel
theorem d_Facts_init_4 : decode prog_4_method_1_code 4 = .ok (.aload_n 0, 1) := by decide +kernel
theorem d_Facts_init_5 : decode prog_4_method_1_code 5 = .ok (.bipush 20, 2) := by decide +kernel
theorem d_Facts_init_7 : decode prog_4_method_1_code 7 = .ok (.newarray .long, 2) := by decide +kernel
theorem d_Facts_init_9 : decode prog_4_method_1_code 9 = .ok (.putfield 9, 3) := by decide +kernel
theorem d_Facts_init_12 : decode prog_4_method_1_code 12 = .ok (.aload_n 0, 1) := by decide +kernel
theorem d_Facts_init_13 : decode prog_4_method_1_code 13 = .ok (.bipush 20, 2) := by decide +kernel
theorem d_Facts_init_15 : decode prog_4_method_1_code 15 = .ok (.newarray .boolean, 2) := by decide +kernel
theorem d_Facts_init_17 : decode prog_4_method_1_code 17 = .ok (.putfield 13, 3) := by decide +kernel
theorem d_Facts_init_20 : decode prog_4_method_1_code 20 = .ok (.return_, 1) := by decide +kernel
theorem d_Facts_has_0 : decode prog_4_method_2_code 0 = .ok (.iload_n 1, 1) := by decide +kernel
theorem d_Facts_has_1 : decode prog_4_method_2_code 1 = .ok (.ifCond .lt 25, 3) := by decide +kernel
theorem d_Facts_has_26 : decode prog_4_method_2_code 26 = .ok (.iconst 0, 1) := by decide +kernel
theorem d_Facts_has_27 : decode prog_4_method_2_code 27 = .ok (.ireturn, 1) := by decide +kernel
theorem d_Facts_has_4 : decode prog_4_method_2_code 4 = .ok (.iload_n 1, 1) := by decide +kernel
theorem d_Facts_has_5 : decode prog_4_method_2_code 5 = .ok (.aload_n 0, 1) := by decide +kernel
theorem d_Facts_has_6 : decode prog_4_method_2_code 6 = .ok (.getfield 9, 3) := by decide +kernel
theorem d_Facts_has_9 : decode prog_4_method_2_code 9 = .ok (.arraylength, 1) := by decide +kernel
theorem d_Facts_has_10 : decode prog_4_method_2_code 10 = .ok (.if_icmp .ge 16, 3) := by decide +kernel
theorem d_Facts_has_13 : decode prog_4_method_2_code 13 = .ok (.iload_n 1, 1) := by decide +kernel
theorem d_Facts_has_14 : decode prog_4_method_2_code 14 = .ok (.aload_n 0, 1) := by decide +kernel
theorem d_Facts_has_15 : decode prog_4_method_2_code 15 = .ok (.getfield 13, 3) := by decide +kernel
theorem d_Facts_has_18 : decode prog_4_method_2_code 18 = .ok (.arraylength, 1) := by decide +kernel
theorem d_Facts_has_19 : decode prog_4_method_2_code 19 = .ok (.if_icmp .ge 7, 3) := by decide +kernel
theorem d_Facts_has_22 : decode prog_4_method_2_code 22 = .ok (.iconst 1, 1) := by decide +kernel
theorem d_Facts_has_23 : decode prog_4_method_2_code 23 = .ok (.goto 4, 3) := by decide +kernel
theorem d_Facts_put_0 : decode prog_4_method_3_code 0 = .ok (.aload_n 0, 1) := by decide +kernel
theorem d_Facts_put_1 : decode prog_4_method_3_code 1 = .ok (.iload_n 1, 1) := by decide +kernel
theorem d_Facts_put_2 : decode prog_4_method_3_code 2 = .ok (.invokevirtual 17, 3) := by decide +kernel
theorem d_Facts_put_5 : decode prog_4_method_3_code 5 = .ok (.ifCond .eq 18, 3) := by decide +kernel
theorem d_Facts_put_23 : decode prog_4_method_3_code 23 = .ok (.return_, 1) := by decide +kernel
theorem d_Facts_put_8 : decode prog_4_method_3_code 8 = .ok (.aload_n 0, 1) := by decide +kernel
theorem d_Facts_put_9 : decode prog_4_method_3_code 9 = .ok (.getfield 9, 3) := by decide +kernel
theorem d_Facts_put_12 : decode prog_4_method_3_code 12 = .ok (.iload_n 1, 1) := by decide +kernel
theorem d_Facts_put_13 : decode prog_4_method_3_code 13 = .ok (.lload_n 2, 1) := by decide +kernel
theorem d_Facts_put_14 : decode prog_4_method_3_code 14 = .ok (.lastore, 1) := by decide +kernel
theorem d_Facts_put_15 : decode prog_4_method_3_code 15 = .ok (.aload_n 0, 1) := by decide +kernel
theorem d_Facts_put_16 : decode prog_4_method_3_code 16 = .ok (.getfield 13, 3) := by decide +kernel
theorem d_Facts_put_19 : decode prog_4_method_3_code 19 = .ok (.iload_n 1, 1) := by decide +kernel
theorem d_Facts_put_20 : decode prog_4_method_3_code 20 = .ok (.iload 4, 2) := by decide +kernel
theorem d_Facts_put_22 : decode prog_4_method_3_code 22 = .ok (.bastore, 1) := by decide +kernel
theorem d_Facts_isTold_0 : decode prog_4_method_4_code 0 = .ok (.iload_n 1, 1) := by decide +kernel
theorem d_Facts_isTold_1 : decode prog_4_method_4_code 1 = .ok (.ifCond .lt 25, 3) := by decide +kernel
theorem d_Facts_isTold_26 : decode prog_4_method_4_code 26 = .ok (.iconst 0, 1) := by decide +kernel
theorem d_Facts_isTold_27 : decode prog_4_method_4_code 27 = .ok (.ireturn, 1) := by decide +kernel
theorem d_Facts_isTold_4 : decode prog_4_method_4_code 4 = .ok (.iload_n 1, 1) := by decide +kernel
theorem d_Facts_isTold_5 : decode prog_4_method_4_code 5 = .ok (.aload_n 0, 1) := by decide +kernel
theorem d_Facts_isTold_6 : decode prog_4_method_4_code 6 = .ok (.getfield 13, 3) := by decide +kernel
theorem d_Facts_isTold_9 : decode prog_4_method_4_code 9 = .ok (.arraylength, 1) := by decide +kernel
theorem d_Facts_isTold_10 : decode prog_4_method_4_code 10 = .ok (.if_icmp .ge 16, 3) := by decide +kernel
theorem d_Facts_isTold_13 : decode prog_4_method_4_code 13 = .ok (.aload_n 0, 1) := by decide +kernel
theorem d_Facts_isTold_14 : decode prog_4_method_4_code 14 = .ok (.getfield 13, 3) := by decide +kernel
theorem d_Facts_isTold_17 : decode prog_4_method_4_code 17 = .ok (.iload_n 1, 1) := by decide +kernel
theorem d_Facts_isTold_18 : decode prog_4_method_4_code 18 = .ok (.baload, 1) := by decide +kernel
theorem d_Facts_isTold_19 : decode prog_4_method_4_code 19 = .ok (.ifCond .eq 7, 3) := by decide +kernel
theorem d_Facts_isTold_22 : decode prog_4_method_4_code 22 = .ok (.iconst 1, 1) := by decide +kernel
theorem d_Facts_isTold_23 : decode prog_4_method_4_code 23 = .ok (.goto 4, 3) := by decide +kernel
theorem d_Facts_valueOf_0 : decode prog_4_method_5_code 0 = .ok (.iload_n 1, 1) := by decide +kernel
theorem d_Facts_valueOf_1 : decode prog_4_method_5_code 1 = .ok (.ifCond .lt 21, 3) := by decide +kernel
theorem d_Facts_valueOf_22 : decode prog_4_method_5_code 22 = .ok (.lconst 0, 1) := by decide +kernel
theorem d_Facts_valueOf_23 : decode prog_4_method_5_code 23 = .ok (.lreturn, 1) := by decide +kernel
theorem d_Facts_valueOf_4 : decode prog_4_method_5_code 4 = .ok (.iload_n 1, 1) := by decide +kernel
theorem d_Facts_valueOf_5 : decode prog_4_method_5_code 5 = .ok (.aload_n 0, 1) := by decide +kernel
theorem d_Facts_valueOf_6 : decode prog_4_method_5_code 6 = .ok (.getfield 9, 3) := by decide +kernel
theorem d_Facts_valueOf_9 : decode prog_4_method_5_code 9 = .ok (.arraylength, 1) := by decide +kernel
theorem d_Facts_valueOf_10 : decode prog_4_method_5_code 10 = .ok (.if_icmp .ge 12, 3) := by decide +kernel
theorem d_Facts_valueOf_13 : decode prog_4_method_5_code 13 = .ok (.aload_n 0, 1) := by decide +kernel
theorem d_Facts_valueOf_14 : decode prog_4_method_5_code 14 = .ok (.getfield 9, 3) := by decide +kernel
theorem d_Facts_valueOf_17 : decode prog_4_method_5_code 17 = .ok (.iload_n 1, 1) := by decide +kernel
theorem d_Facts_valueOf_18 : decode prog_4_method_5_code 18 = .ok (.laload, 1) := by decide +kernel
theorem d_Facts_valueOf_19 : decode prog_4_method_5_code 19 = .ok (.goto 4, 3) := by decide +kernel
theorem d_Facts_clear_25 : decode prog_4_method_6_code 25 = .ok (.aload_n 0, 1) := by decide +kernel
theorem d_Facts_clear_26 : decode prog_4_method_6_code 26 = .ok (.getfield 13, 3) := by decide +kernel
theorem d_Facts_clear_29 : decode prog_4_method_6_code 29 = .ok (.iload_n 2, 1) := by decide +kernel
theorem d_Facts_clear_30 : decode prog_4_method_6_code 30 = .ok (.iconst 0, 1) := by decide +kernel
theorem d_Facts_clear_31 : decode prog_4_method_6_code 31 = .ok (.bastore, 1) := by decide +kernel
theorem d_Facts_clear_32 : decode prog_4_method_6_code 32 = .ok (.iinc 2 1, 3) := by decide +kernel
theorem d_Facts_clear_35 : decode prog_4_method_6_code 35 = .ok (.goto (-31), 3) := by decide +kernel
theorem d_Facts_clear_4 : decode prog_4_method_6_code 4 = .ok (.iload_n 2, 1) := by decide +kernel
theorem d_Facts_clear_5 : decode prog_4_method_6_code 5 = .ok (.aload_n 0, 1) := by decide +kernel
theorem d_Facts_clear_6 : decode prog_4_method_6_code 6 = .ok (.getfield 13, 3) := by decide +kernel
theorem d_Facts_clear_9 : decode prog_4_method_6_code 9 = .ok (.arraylength, 1) := by decide +kernel
theorem d_Facts_clear_10 : decode prog_4_method_6_code 10 = .ok (.if_icmp .ge 28, 3) := by decide +kernel
theorem d_Facts_clear_38 : decode prog_4_method_6_code 38 = .ok (.iload_n 1, 1) := by decide +kernel
theorem d_Facts_clear_39 : decode prog_4_method_6_code 39 = .ok (.ireturn, 1) := by decide +kernel
theorem d_Facts_clear_13 : decode prog_4_method_6_code 13 = .ok (.aload_n 0, 1) := by decide +kernel
theorem d_Facts_clear_14 : decode prog_4_method_6_code 14 = .ok (.getfield 13, 3) := by decide +kernel
theorem d_Facts_clear_17 : decode prog_4_method_6_code 17 = .ok (.iload_n 2, 1) := by decide +kernel
theorem d_Facts_clear_18 : decode prog_4_method_6_code 18 = .ok (.baload, 1) := by decide +kernel
theorem d_Facts_clear_19 : decode prog_4_method_6_code 19 = .ok (.ifCond .eq 6, 3) := by decide +kernel
theorem d_Facts_clear_22 : decode prog_4_method_6_code 22 = .ok (.iinc 1 1, 3) := by decide +kernel
theorem d_Facts_clear_0 : decode prog_4_method_6_code 0 = .ok (.iconst 0, 1) := by decide +kernel
theorem d_Facts_clear_1 : decode prog_4_method_6_code 1 = .ok (.istore_n 1, 1) := by decide +kernel
theorem d_Facts_clear_2 : decode prog_4_method_6_code 2 = .ok (.iconst 0, 1) := by decide +kernel
theorem d_Facts_clear_3 : decode prog_4_method_6_code 3 = .ok (.istore_n 2, 1) := by decide +kernel
def M_Facts_init (F : Nat) (h : hH) (x0 : Nat) : Option hH :=
  (some (hAdd h (.inr (.long, 20, .inr (.inl (fun _ => 0)))))).bind fun h1 =>
  (hPut h1 x0 2 0 (.ref h.1)).bind fun h2 =>
  (some (hAdd h2 (.inr (.boolean, 20, .inl (fun _ => 0))))).bind fun h3 =>
  (hPut h3 x0 2 1 (.ref h2.1)).bind fun h4 =>
  some h4
def M_Facts_has (F : Nat) (h : hH) (x0 : Nat) (x1 : Int32) : Option (Int32 × hH) :=
  if x1 < 0 then (
    some (0, h)
  ) else (
    (hGetA h x0 2 0).bind fun v2 =>
    (hLen h v2).bind fun v3 =>
    if v3 ≤ x1 then (
      some (0, h)
    ) else (
      (hGetA h x0 2 1).bind fun v5 =>
      (hLen h v5).bind fun v6 =>
      if v6 ≤ x1 then (
        some (0, h)
      ) else (
        some (1, h)
      )
    )
  )
def M_Facts_put (F : Nat) (h : hH) (x0 : Nat) (x1 : Int32) (x2 : Int64) (x4 : Int32) : Option hH :=
  (hIs h x0 2).bind fun u1 =>
  (M_Facts_has F h x0 x1).bind fun q2 =>
  if q2.1 = 0 then (
    some q2.2
  ) else (
    (hGetA q2.2 x0 2 0).bind fun v4 =>
    (hStL q2.2 v4 x1 x2).bind fun h5 =>
    (hGetA h5 x0 2 1).bind fun v6 =>
    (hStZ h5 v6 x1 x4).bind fun h7 =>
    some h7
  )
def M_Facts_isTold (F : Nat) (h : hH) (x0 : Nat) (x1 : Int32) : Option (Int32 × hH) :=
  if x1 < 0 then (
    some (0, h)
  ) else (
    (hGetA h x0 2 1).bind fun v2 =>
    (hLen h v2).bind fun v3 =>
    if v3 ≤ x1 then (
      some (0, h)
    ) else (
      (hGetA h x0 2 1).bind fun v5 =>
      (hLdI h v5 .boolean x1).bind fun v6 =>
      if v6 = 0 then (
        some (0, h)
      ) else (
        some (1, h)
      )
    )
  )
def M_Facts_valueOf (F : Nat) (h : hH) (x0 : Nat) (x1 : Int32) : Option (Int64 × hH) :=
  if x1 < 0 then (
    some (0, h)
  ) else (
    (hGetA h x0 2 0).bind fun v2 =>
    (hLen h v2).bind fun v3 =>
    if v3 ≤ x1 then (
      some (0, h)
    ) else (
      (hGetA h x0 2 0).bind fun v5 =>
      (hLdL h v5 x1).bind fun v6 =>
      some (v6, h)
    )
  )
def M_Facts_clear_25 (F : Nat) (r4 : hH → Nat → Int32 → Int32 → Option (Int32 × hH)) (h : hH) (x0 : Nat) (x1 : Int32) (x2 : Int32) : Option (Int32 × hH) :=
  (hGetA h x0 2 1).bind fun v1 =>
  (hStZ h v1 x2 0).bind fun h2 =>
  r4 h2 x0 x1 (x2 + 1)
def B_Facts_clear_4 (F : Nat) (r4 : hH → Nat → Int32 → Int32 → Option (Int32 × hH)) (h : hH) (x0 : Nat) (x1 : Int32) (x2 : Int32) : Option (Int32 × hH) :=
  (hGetA h x0 2 1).bind fun v1 =>
  (hLen h v1).bind fun v2 =>
  if v2 ≤ x2 then (
    some (x1, h)
  ) else (
    (hGetA h x0 2 1).bind fun v4 =>
    (hLdI h v4 .boolean x2).bind fun v5 =>
    if v5 = 0 then (
      M_Facts_clear_25 F r4 h x0 x1 x2
    ) else (
      M_Facts_clear_25 F r4 h x0 (x1 + 1) x2
    )
  )
def M_Facts_clear_4 (F : Nat) : Nat → hH → Nat → Int32 → Int32 → Option (Int32 × hH)
  | 0 => fun _ _ _ _ => none
  | z + 1 => B_Facts_clear_4 F (M_Facts_clear_4 F z)
def M_Facts_clear (F : Nat) (h : hH) (x0 : Nat) : Option (Int32 × hH) :=
  M_Facts_clear_4 F F h x0 0 0
abbrev rm_Facts_init : Room := { frames := 1, cells := 2, slots := 40, locals := 12 }
set_option maxHeartbeats 4000000 in
set_option maxRecDepth 100000 in
theorem c_Facts_init (l : Launch) (D : va_G) (K : (Nat → Nat) × (Nat → Nat)) (F : Nat) {h : hH} {x0 : Nat} {q : hH} (hM : M_Facts_init F h x0 = some q) : Met l y_Facts_init (.code y_Facts_init prog_4_method_1_code 1 none :: T0) rm_Facts_init (hPc hG D cls0 K [.ref x0] h) (hQ D cls0 h none q) 2 40 (hF h) := by
  refine J_met (lv := [(0, .ref x0)]) (by decide) (Nat.le_of_ble_eq_true rfl) rfl ?_
  intro p e s m below meth c X hr hlk hnm
  have Y : HX p s m _ meth c prog_4_method_1_code 1 "LicenceTexts$Facts" D K "<init>" none h := ⟨X, hr, hlk, hnm⟩
  unfold M_Facts_init at hM
  refine J_aload_n (pc := 0) X 0 d_Facts_init_0 rfl ?_
  refine J_objInit (pc := 1) X k_6 k_1 k_2 d_Facts_init_1 (Nat.le_of_ble_eq_true rfl) (Nat.le_of_ble_eq_true rfl) ?_
  refine J_aload_n (pc := 4) X 0 d_Facts_init_4 rfl ?_
  refine J_bipush (pc := 5) (v := (20)) X d_Facts_init_5 (by decide) ?_
  refine J_newa (pc := 7) (ty := .long) (N := 20) (a0 := (20, .inr (.inl (fun _ => 0)))) X rfl k_7 d_Facts_init_7 (fun _ => rfl) (fun _ _ hq => hq) (by decide) (by decide) (by decide) (Nat.le_of_ble_eq_true rfl) (Nat.le_of_ble_eq_true rfl) ?_
  obtain ⟨h1, eh1, hM⟩ := hb_some hM
  rw [Option.some.inj eh1]
  obtain ⟨h2, eh2, hM⟩ := hb_some hM
  refine J_putF (pc := 9) X hc_Facts in_Facts t_Facts tk_Facts nk_Facts 0 k_8 (by decide) rfl rfl rfl hnm d_Facts_init_9 rfl rfl rfl eh2 ?_
  refine J_aload_n (pc := 12) X 0 d_Facts_init_12 rfl ?_
  refine J_bipush (pc := 13) (v := (20)) X d_Facts_init_13 (by decide) ?_
  refine J_newa (pc := 15) (ty := .boolean) (N := 20) (a0 := (20, .inl (fun _ => 0))) X rfl k_9 d_Facts_init_15 (fun _ => rfl) (fun _ _ hq => hq) (by decide) (by decide) (by decide) (Nat.le_of_ble_eq_true rfl) (Nat.le_of_ble_eq_true rfl) ?_
  obtain ⟨h3, eh3, hM⟩ := hb_some hM
  rw [Option.some.inj eh3]
  obtain ⟨h4, eh4, hM⟩ := hb_some hM
  refine J_putF (pc := 17) X hc_Facts in_Facts t_Facts tk_Facts nk_Facts 1 k_10 (by decide) rfl rfl rfl hnm d_Facts_init_17 rfl rfl rfl eh4 ?_
  obtain rfl := Option.some.inj hM
  exact J_vret (pc := 20) X hr hlk (Nat.le_of_ble_eq_true rfl) (Nat.le_of_ble_eq_true rfl) d_Facts_init_20
abbrev rm_Facts_has : Room := { frames := 0, cells := 0, slots := 0, locals := 0 }
set_option maxHeartbeats 4000000 in
set_option maxRecDepth 100000 in
theorem c_Facts_has (l : Launch) (D : va_G) (K : (Nat → Nat) × (Nat → Nat)) (F : Nat) {h : hH} {x0 : Nat} {x1 : Int32} {q : (Int32 × hH)} (hM : M_Facts_has F h x0 x1 = some q) : Met l y_Facts_has (.code y_Facts_has prog_4_method_2_code 2 (some .boolean) :: T0) rm_Facts_has (hPc hG D cls0 K [.ref x0, .int x1] h) (hQ D cls0 h (some (.int q.1)) q.2) 0 0 (hF h) := by
  refine J_met (lv := [(0, .ref x0), (1, .int x1)]) (by decide) (Nat.le_of_ble_eq_true rfl) rfl ?_
  intro p e s m below meth c X hr hlk hnm
  have Y : HX p s m _ meth c prog_4_method_2_code 2 "LicenceTexts$Facts" D K "has" (some .boolean) h := ⟨X, hr, hlk, hnm⟩
  unfold M_Facts_has at hM
  refine J_iload_n (pc := 0) X 1 d_Facts_has_0 rfl ?_
  refine J_if_lt (pc := 1) (tgt := 26) X d_Facts_has_1 (by decide) (fun c1 => ?_) (fun c1 => ?_)
  · have hM := hif_t hM c1
    refine J_iconst (pc := 26) (v := (0)) X d_Facts_has_26 (by decide) ?_
    obtain rfl := Option.some.inj hM
    exact J_zret (pc := 27) X hr hz0 hlk (Nat.le_of_ble_eq_true rfl) (Nat.le_of_ble_eq_true rfl) d_Facts_has_27
  · have hM := hif_f hM c1
    refine J_iload_n (pc := 4) X 1 d_Facts_has_4 rfl ?_
    refine J_aload_n (pc := 5) X 0 d_Facts_has_5 rfl ?_
    obtain ⟨v2, ev2, hM⟩ := hb_some hM
    refine J_getA (pc := 6) X hc_Facts in_Facts 0 k_8 (by decide) rfl d_Facts_has_6 rfl ev2 ?_
    obtain ⟨v3, ev3, hM⟩ := hb_some hM
    refine J_alen (pc := 9) X d_Facts_has_9 rfl ev3 ?_
    refine J_icmp_ge (pc := 10) (tgt := 26) X d_Facts_has_10 (by decide) (fun c4 => ?_) (fun c4 => ?_)
    · have hM := hif_t hM c4
      refine J_iconst (pc := 26) (v := (0)) X d_Facts_has_26 (by decide) ?_
      obtain rfl := Option.some.inj hM
      exact J_zret (pc := 27) X hr hz0 hlk (Nat.le_of_ble_eq_true rfl) (Nat.le_of_ble_eq_true rfl) d_Facts_has_27
    · have hM := hif_f hM c4
      refine J_iload_n (pc := 13) X 1 d_Facts_has_13 rfl ?_
      refine J_aload_n (pc := 14) X 0 d_Facts_has_14 rfl ?_
      obtain ⟨v5, ev5, hM⟩ := hb_some hM
      refine J_getA (pc := 15) X hc_Facts in_Facts 1 k_10 (by decide) rfl d_Facts_has_15 rfl ev5 ?_
      obtain ⟨v6, ev6, hM⟩ := hb_some hM
      refine J_alen (pc := 18) X d_Facts_has_18 rfl ev6 ?_
      refine J_icmp_ge (pc := 19) (tgt := 26) X d_Facts_has_19 (by decide) (fun c7 => ?_) (fun c7 => ?_)
      · have hM := hif_t hM c7
        refine J_iconst (pc := 26) (v := (0)) X d_Facts_has_26 (by decide) ?_
        obtain rfl := Option.some.inj hM
        exact J_zret (pc := 27) X hr hz0 hlk (Nat.le_of_ble_eq_true rfl) (Nat.le_of_ble_eq_true rfl) d_Facts_has_27
      · have hM := hif_f hM c7
        refine J_iconst (pc := 22) (v := (1)) X d_Facts_has_22 (by decide) ?_
        refine J_goto (pc := 23) (tgt := 27) X d_Facts_has_23 (by decide) ?_
        obtain rfl := Option.some.inj hM
        exact J_zret (pc := 27) X hr hz1 hlk (Nat.le_of_ble_eq_true rfl) (Nat.le_of_ble_eq_true rfl) d_Facts_has_27
abbrev rm_Facts_put : Room := { frames := 1, cells := 0, slots := 0, locals := 21 }
set_option maxHeartbeats 4000000 in
set_option maxRecDepth 100000 in
theorem c_Facts_put (l : Launch) (D : va_G) (K : (Nat → Nat) × (Nat → Nat)) (F : Nat) {h : hH} {x0 : Nat} {x1 : Int32} {x2 : Int64} {x4 : Int32} {q : hH} (hM : M_Facts_put F h x0 x1 x2 x4 = some q) : Met l y_Facts_put (.code y_Facts_put prog_4_method_3_code 5 none :: T0) rm_Facts_put (hPc hG D cls0 K [.ref x0, .int x1, .long x2, .int x4] h) (hQ D cls0 h none q) 0 0 (hF h) := by
  refine J_met (lv := [(0, .ref x0), (1, .int x1), (2, .long x2), (4, .int x4)]) (by decide) (Nat.le_of_ble_eq_true rfl) rfl ?_
  intro p e s m below meth c X hr hlk hnm
  have Y : HX p s m _ meth c prog_4_method_3_code 5 "LicenceTexts$Facts" D K "put" none h := ⟨X, hr, hlk, hnm⟩
  unfold M_Facts_put at hM
  refine J_aload_n (pc := 0) X 0 d_Facts_put_0 rfl ?_
  refine J_iload_n (pc := 1) X 1 d_Facts_put_1 rfl ?_
  obtain ⟨u1, eu1, hM⟩ := hb_some hM
  obtain ⟨q2, eq2, hM⟩ := hb_some hM
  refine J_callV (pc := 2) (As := [.int x1]) (rest := []) (o := (some (.int q2.1))) (h2 := q2.2) X rfl hc_Facts eu1 (c_Facts_has l D K F eq2) (cwV_of (nA := 1) X.fix k_11 k_14 k_15 k_13 k_12 ⟨rfl, rfl, rfl⟩ (by decide +kernel) ⟨Nat.le_of_ble_eq_true rfl, Nat.le_of_ble_eq_true rfl⟩) d_Facts_put_2 rfl rfl (Nat.le_of_ble_eq_true rfl) (Nat.le_of_ble_eq_true rfl) (Nat.le_of_ble_eq_true rfl) ?_
  refine J_if_eq (pc := 5) (tgt := 23) X d_Facts_put_5 (by decide) (fun c3 => ?_) (fun c3 => ?_)
  · have hM := hif_t hM c3
    obtain rfl := Option.some.inj hM
    exact J_vret (pc := 23) X hr hlk (Nat.le_of_ble_eq_true rfl) (Nat.le_of_ble_eq_true rfl) d_Facts_put_23
  · have hM := hif_f hM c3
    refine J_aload_n (pc := 8) X 0 d_Facts_put_8 rfl ?_
    obtain ⟨v4, ev4, hM⟩ := hb_some hM
    refine J_getA (pc := 9) X hc_Facts in_Facts 0 k_8 (by decide) rfl d_Facts_put_9 rfl ev4 ?_
    refine J_iload_n (pc := 12) X 1 d_Facts_put_12 rfl ?_
    refine J_lload_n (pc := 13) X 2 d_Facts_put_13 rfl ?_
    obtain ⟨h5, eh5, hM⟩ := hb_some hM
    refine J_last (pc := 14) X d_Facts_put_14 rfl eh5 ?_
    refine J_aload_n (pc := 15) X 0 d_Facts_put_15 rfl ?_
    obtain ⟨v6, ev6, hM⟩ := hb_some hM
    refine J_getA (pc := 16) X hc_Facts in_Facts 1 k_10 (by decide) rfl d_Facts_put_16 rfl ev6 ?_
    refine J_iload_n (pc := 19) X 1 d_Facts_put_19 rfl ?_
    refine J_iload (pc := 20) X 3 d_Facts_put_20 rfl ?_
    obtain ⟨h7, eh7, hM⟩ := hb_some hM
    refine J_zast (pc := 22) X d_Facts_put_22 rfl eh7 ?_
    obtain rfl := Option.some.inj hM
    exact J_vret (pc := 23) X hr hlk (Nat.le_of_ble_eq_true rfl) (Nat.le_of_ble_eq_true rfl) d_Facts_put_23
abbrev rm_Facts_isTold : Room := { frames := 0, cells := 0, slots := 0, locals := 0 }
set_option maxHeartbeats 4000000 in
set_option maxRecDepth 100000 in
theorem c_Facts_isTold (l : Launch) (D : va_G) (K : (Nat → Nat) × (Nat → Nat)) (F : Nat) {h : hH} {x0 : Nat} {x1 : Int32} {q : (Int32 × hH)} (hM : M_Facts_isTold F h x0 x1 = some q) : Met l y_Facts_isTold (.code y_Facts_isTold prog_4_method_4_code 2 (some .boolean) :: T0) rm_Facts_isTold (hPc hG D cls0 K [.ref x0, .int x1] h) (hQ D cls0 h (some (.int q.1)) q.2) 0 0 (hF h) := by
  refine J_met (lv := [(0, .ref x0), (1, .int x1)]) (by decide) (Nat.le_of_ble_eq_true rfl) rfl ?_
  intro p e s m below meth c X hr hlk hnm
  have Y : HX p s m _ meth c prog_4_method_4_code 2 "LicenceTexts$Facts" D K "isTold" (some .boolean) h := ⟨X, hr, hlk, hnm⟩
  unfold M_Facts_isTold at hM
  refine J_iload_n (pc := 0) X 1 d_Facts_isTold_0 rfl ?_
  refine J_if_lt (pc := 1) (tgt := 26) X d_Facts_isTold_1 (by decide) (fun c1 => ?_) (fun c1 => ?_)
  · have hM := hif_t hM c1
    refine J_iconst (pc := 26) (v := (0)) X d_Facts_isTold_26 (by decide) ?_
    obtain rfl := Option.some.inj hM
    exact J_zret (pc := 27) X hr hz0 hlk (Nat.le_of_ble_eq_true rfl) (Nat.le_of_ble_eq_true rfl) d_Facts_isTold_27
  · have hM := hif_f hM c1
    refine J_iload_n (pc := 4) X 1 d_Facts_isTold_4 rfl ?_
    refine J_aload_n (pc := 5) X 0 d_Facts_isTold_5 rfl ?_
    obtain ⟨v2, ev2, hM⟩ := hb_some hM
    refine J_getA (pc := 6) X hc_Facts in_Facts 1 k_10 (by decide) rfl d_Facts_isTold_6 rfl ev2 ?_
    obtain ⟨v3, ev3, hM⟩ := hb_some hM
    refine J_alen (pc := 9) X d_Facts_isTold_9 rfl ev3 ?_
    refine J_icmp_ge (pc := 10) (tgt := 26) X d_Facts_isTold_10 (by decide) (fun c4 => ?_) (fun c4 => ?_)
    · have hM := hif_t hM c4
      refine J_iconst (pc := 26) (v := (0)) X d_Facts_isTold_26 (by decide) ?_
      obtain rfl := Option.some.inj hM
      exact J_zret (pc := 27) X hr hz0 hlk (Nat.le_of_ble_eq_true rfl) (Nat.le_of_ble_eq_true rfl) d_Facts_isTold_27
    · have hM := hif_f hM c4
      refine J_aload_n (pc := 13) X 0 d_Facts_isTold_13 rfl ?_
      obtain ⟨v5, ev5, hM⟩ := hb_some hM
      refine J_getA (pc := 14) X hc_Facts in_Facts 1 k_10 (by decide) rfl d_Facts_isTold_14 rfl ev5 ?_
      refine J_iload_n (pc := 17) X 1 d_Facts_isTold_17 rfl ?_
      obtain ⟨v6, ev6, hM⟩ := hb_some hM
      refine J_zald (pc := 18) X d_Facts_isTold_18 rfl ev6 ?_
      refine J_if_eq (pc := 19) (tgt := 26) X d_Facts_isTold_19 (by decide) (fun c7 => ?_) (fun c7 => ?_)
      · have hM := hif_t hM c7
        refine J_iconst (pc := 26) (v := (0)) X d_Facts_isTold_26 (by decide) ?_
        obtain rfl := Option.some.inj hM
        exact J_zret (pc := 27) X hr hz0 hlk (Nat.le_of_ble_eq_true rfl) (Nat.le_of_ble_eq_true rfl) d_Facts_isTold_27
      · have hM := hif_f hM c7
        refine J_iconst (pc := 22) (v := (1)) X d_Facts_isTold_22 (by decide) ?_
        refine J_goto (pc := 23) (tgt := 27) X d_Facts_isTold_23 (by decide) ?_
        obtain rfl := Option.some.inj hM
        exact J_zret (pc := 27) X hr hz1 hlk (Nat.le_of_ble_eq_true rfl) (Nat.le_of_ble_eq_true rfl) d_Facts_isTold_27
abbrev rm_Facts_valueOf : Room := { frames := 0, cells := 0, slots := 0, locals := 0 }
set_option maxHeartbeats 4000000 in
set_option maxRecDepth 100000 in
theorem c_Facts_valueOf (l : Launch) (D : va_G) (K : (Nat → Nat) × (Nat → Nat)) (F : Nat) {h : hH} {x0 : Nat} {x1 : Int32} {q : (Int64 × hH)} (hM : M_Facts_valueOf F h x0 x1 = some q) : Met l y_Facts_valueOf (.code y_Facts_valueOf prog_4_method_5_code 2 (some .long) :: T0) rm_Facts_valueOf (hPc hG D cls0 K [.ref x0, .int x1] h) (hQ D cls0 h (some (.long q.1)) q.2) 0 0 (hF h) := by
  refine J_met (lv := [(0, .ref x0), (1, .int x1)]) (by decide) (Nat.le_of_ble_eq_true rfl) rfl ?_
  intro p e s m below meth c X hr hlk hnm
  have Y : HX p s m _ meth c prog_4_method_5_code 2 "LicenceTexts$Facts" D K "valueOf" (some .long) h := ⟨X, hr, hlk, hnm⟩
  unfold M_Facts_valueOf at hM
  refine J_iload_n (pc := 0) X 1 d_Facts_valueOf_0 rfl ?_
  refine J_if_lt (pc := 1) (tgt := 22) X d_Facts_valueOf_1 (by decide) (fun c1 => ?_) (fun c1 => ?_)
  · have hM := hif_t hM c1
    refine J_lconst (pc := 22) (v := (0)) X d_Facts_valueOf_22 (by decide) ?_
    obtain rfl := Option.some.inj hM
    exact J_lret (pc := 23) X hr hlk (Nat.le_of_ble_eq_true rfl) (Nat.le_of_ble_eq_true rfl) d_Facts_valueOf_23
  · have hM := hif_f hM c1
    refine J_iload_n (pc := 4) X 1 d_Facts_valueOf_4 rfl ?_
    refine J_aload_n (pc := 5) X 0 d_Facts_valueOf_5 rfl ?_
    obtain ⟨v2, ev2, hM⟩ := hb_some hM
    refine J_getA (pc := 6) X hc_Facts in_Facts 0 k_8 (by decide) rfl d_Facts_valueOf_6 rfl ev2 ?_
    obtain ⟨v3, ev3, hM⟩ := hb_some hM
    refine J_alen (pc := 9) X d_Facts_valueOf_9 rfl ev3 ?_
    refine J_icmp_ge (pc := 10) (tgt := 22) X d_Facts_valueOf_10 (by decide) (fun c4 => ?_) (fun c4 => ?_)
    · have hM := hif_t hM c4
      refine J_lconst (pc := 22) (v := (0)) X d_Facts_valueOf_22 (by decide) ?_
      obtain rfl := Option.some.inj hM
      exact J_lret (pc := 23) X hr hlk (Nat.le_of_ble_eq_true rfl) (Nat.le_of_ble_eq_true rfl) d_Facts_valueOf_23
    · have hM := hif_f hM c4
      refine J_aload_n (pc := 13) X 0 d_Facts_valueOf_13 rfl ?_
      obtain ⟨v5, ev5, hM⟩ := hb_some hM
      refine J_getA (pc := 14) X hc_Facts in_Facts 0 k_8 (by decide) rfl d_Facts_valueOf_14 rfl ev5 ?_
      refine J_iload_n (pc := 17) X 1 d_Facts_valueOf_17 rfl ?_
      obtain ⟨v6, ev6, hM⟩ := hb_some hM
      refine J_lald (pc := 18) X d_Facts_valueOf_18 rfl ev6 ?_
      refine J_goto (pc := 19) (tgt := 23) X d_Facts_valueOf_19 (by decide) ?_
      obtain rfl := Option.some.inj hM
      exact J_lret (pc := 23) X hr hlk (Nat.le_of_ble_eq_true rfl) (Nat.le_of_ble_eq_true rfl) d_Facts_valueOf_23
abbrev rm_Facts_clear : Room := { frames := 0, cells := 0, slots := 0, locals := 0 }
set_option maxHeartbeats 4000000 in
set_option maxRecDepth 100000 in
theorem w_Facts_clear_25 {p : Program} {l : Launch} {e : Env} {s : State} {m : MethodId} {args : Array Value} {below : List Frame} {meth : Method} {c : Code} {D : va_G} {K : (Nat → Nat) × (Nat → Nat)} {h0 : hH} (Y : HX p s m args meth c prog_4_method_6_code 3 "LicenceTexts$Facts" D K "clear" (some .int) h0) {F : Nat} {r4 : hH → Nat → Int32 → Int32 → Option (Int32 × hH)} (R4 : ∀ (h : hH) (x0 : Nat) (x1 : Int32) (x2 : Int32) (q : (Int32 × hH)), r4 h x0 x1 x2 = some q → J p l e rm_Facts_clear s m args below meth c 3 D cls0 (hF h0) h [(0, .ref x0), (1, .int x1), (2, .int x2)] 0 0 (MQ below (hQ D cls0 h0 (some (.int q.1)) q.2) args s 0 0 (hF h0)) 4 []) (h : hH) (x0 : Nat) (x1 : Int32) (x2 : Int32) (q : (Int32 × hH)) (hM : M_Facts_clear_25 F r4 h x0 x1 x2 = some q) : J p l e rm_Facts_clear s m args below meth c 3 D cls0 (hF h0) h [(0, .ref x0), (1, .int x1), (2, .int x2)] 0 0 (MQ below (hQ D cls0 h0 (some (.int q.1)) q.2) args s 0 0 (hF h0)) 25 [] := by
  obtain ⟨X, hr, hlk, hnm⟩ := id Y
  unfold M_Facts_clear_25 at hM
  refine J_aload_n (pc := 25) X 0 d_Facts_clear_25 rfl ?_
  obtain ⟨v1, ev1, hM⟩ := hb_some hM
  refine J_getA (pc := 26) X hc_Facts in_Facts 1 k_10 (by decide) rfl d_Facts_clear_26 rfl ev1 ?_
  refine J_iload_n (pc := 29) X 2 d_Facts_clear_29 rfl ?_
  refine J_iconst (pc := 30) (v := (0)) X d_Facts_clear_30 (by decide) ?_
  obtain ⟨h2, eh2, hM⟩ := hb_some hM
  refine J_zast (pc := 31) X d_Facts_clear_31 rfl eh2 ?_
  refine J_iinc (pc := 32) (v := x2 + 1) (lv' := [(2, .int (x2 + 1)), (0, .ref x0), (1, .int x1)]) X 2 d_Facts_clear_32 rfl rfl (by decide) rfl ?_
  refine J_goto (pc := 35) (tgt := 4) X d_Facts_clear_35 (by decide) ?_
  refine J_sub [1, 2, 0] rfl ?_
  exact R4 _ _ _ _ _ hM
set_option maxHeartbeats 4000000 in
set_option maxRecDepth 100000 in
theorem b_Facts_clear_4 {p : Program} {l : Launch} {e : Env} {s : State} {m : MethodId} {args : Array Value} {below : List Frame} {meth : Method} {c : Code} {D : va_G} {K : (Nat → Nat) × (Nat → Nat)} {h0 : hH} (Y : HX p s m args meth c prog_4_method_6_code 3 "LicenceTexts$Facts" D K "clear" (some .int) h0) {F : Nat}   {r4 : hH → Nat → Int32 → Int32 → Option (Int32 × hH)} (R4 : ∀ (h : hH) (x0 : Nat) (x1 : Int32) (x2 : Int32) (q : (Int32 × hH)), r4 h x0 x1 x2 = some q → J p l e rm_Facts_clear s m args below meth c 3 D cls0 (hF h0) h [(0, .ref x0), (1, .int x1), (2, .int x2)] 0 0 (MQ below (hQ D cls0 h0 (some (.int q.1)) q.2) args s 0 0 (hF h0)) 4 []) : ∀ (h : hH) (x0 : Nat) (x1 : Int32) (x2 : Int32) (q : (Int32 × hH)), B_Facts_clear_4 F r4 h x0 x1 x2 = some q → J p l e rm_Facts_clear s m args below meth c 3 D cls0 (hF h0) h [(0, .ref x0), (1, .int x1), (2, .int x2)] 0 0 (MQ below (hQ D cls0 h0 (some (.int q.1)) q.2) args s 0 0 (hF h0)) 4 [] := by
  intro h x0 x1 x2 q hM
  obtain ⟨X, hr, hlk, hnm⟩ := id Y
  unfold B_Facts_clear_4 at hM
  refine J_iload_n (pc := 4) X 2 d_Facts_clear_4 rfl ?_
  refine J_aload_n (pc := 5) X 0 d_Facts_clear_5 rfl ?_
  obtain ⟨v1, ev1, hM⟩ := hb_some hM
  refine J_getA (pc := 6) X hc_Facts in_Facts 1 k_10 (by decide) rfl d_Facts_clear_6 rfl ev1 ?_
  obtain ⟨v2, ev2, hM⟩ := hb_some hM
  refine J_alen (pc := 9) X d_Facts_clear_9 rfl ev2 ?_
  refine J_icmp_ge (pc := 10) (tgt := 38) X d_Facts_clear_10 (by decide) (fun c3 => ?_) (fun c3 => ?_)
  · have hM := hif_t hM c3
    refine J_iload_n (pc := 38) X 1 d_Facts_clear_38 rfl ?_
    obtain rfl := Option.some.inj hM
    exact J_iret (pc := 39) X hr hlk (Nat.le_of_ble_eq_true rfl) (Nat.le_of_ble_eq_true rfl) d_Facts_clear_39
  · have hM := hif_f hM c3
    refine J_aload_n (pc := 13) X 0 d_Facts_clear_13 rfl ?_
    obtain ⟨v4, ev4, hM⟩ := hb_some hM
    refine J_getA (pc := 14) X hc_Facts in_Facts 1 k_10 (by decide) rfl d_Facts_clear_14 rfl ev4 ?_
    refine J_iload_n (pc := 17) X 2 d_Facts_clear_17 rfl ?_
    obtain ⟨v5, ev5, hM⟩ := hb_some hM
    refine J_zald (pc := 18) X d_Facts_clear_18 rfl ev5 ?_
    refine J_if_eq (pc := 19) (tgt := 25) X d_Facts_clear_19 (by decide) (fun c6 => ?_) (fun c6 => ?_)
    · have hM := hif_t hM c6
      exact w_Facts_clear_25 Y R4 _ _ _ _ _ hM
    · have hM := hif_f hM c6
      refine J_iinc (pc := 22) (v := x1 + 1) (lv' := [(1, .int (x1 + 1)), (0, .ref x0), (2, .int x2)]) X 1 d_Facts_clear_22 rfl rfl (by decide) rfl ?_
      refine J_sub [1, 0, 2] rfl ?_
      exact w_Facts_clear_25 Y R4 _ _ _ _ _ hM
theorem w_Facts_clear_4 {p : Program} {l : Launch} {e : Env} {s : State} {m : MethodId} {args : Array Value} {below : List Frame} {meth : Method} {c : Code} {D : va_G} {K : (Nat → Nat) × (Nat → Nat)} {h0 : hH} (Y : HX p s m args meth c prog_4_method_6_code 3 "LicenceTexts$Facts" D K "clear" (some .int) h0) {F : Nat} : ∀ z : Nat, ∀ (h : hH) (x0 : Nat) (x1 : Int32) (x2 : Int32) (q : (Int32 × hH)), M_Facts_clear_4 F z h x0 x1 x2 = some q → J p l e rm_Facts_clear s m args below meth c 3 D cls0 (hF h0) h [(0, .ref x0), (1, .int x1), (2, .int x2)] 0 0 (MQ below (hQ D cls0 h0 (some (.int q.1)) q.2) args s 0 0 (hF h0)) 4 [] := by
  intro z
  induction z with
  | zero => intro h x0 x1 x2 q hM; exact absurd (show (none : Option _) = some q from hM) (fun t => by cases t)
  | succ z ih => exact b_Facts_clear_4 Y ih
set_option maxHeartbeats 4000000 in
set_option maxRecDepth 100000 in
theorem c_Facts_clear (l : Launch) (D : va_G) (K : (Nat → Nat) × (Nat → Nat)) (F : Nat) {h : hH} {x0 : Nat} {q : (Int32 × hH)} (hM : M_Facts_clear F h x0 = some q) : Met l y_Facts_clear (.code y_Facts_clear prog_4_method_6_code 3 (some .int) :: T0) rm_Facts_clear (hPc hG D cls0 K [.ref x0] h) (hQ D cls0 h (some (.int q.1)) q.2) 0 0 (hF h) := by
  refine J_met (lv := [(0, .ref x0)]) (by decide) (Nat.le_of_ble_eq_true rfl) rfl ?_
  intro p e s m below meth c X hr hlk hnm
  have Y : HX p s m _ meth c prog_4_method_6_code 3 "LicenceTexts$Facts" D K "clear" (some .int) h := ⟨X, hr, hlk, hnm⟩
  unfold M_Facts_clear at hM
  refine J_iconst (pc := 0) (v := (0)) X d_Facts_clear_0 (by decide) ?_
  refine J_istore_n (pc := 1) (lv' := [(1, .int 0), (0, .ref x0)]) X d_Facts_clear_1 rfl (by decide) rfl ?_
  refine J_iconst (pc := 2) (v := (0)) X d_Facts_clear_2 (by decide) ?_
  refine J_istore_n (pc := 3) (lv' := [(2, .int 0), (1, .int 0), (0, .ref x0)]) X d_Facts_clear_3 rfl (by decide) rfl ?_
  refine J_sub [2, 1, 0] rfl ?_
  exact w_Facts_clear_4 Y F _ _ _ _ _ hM
