def X_Words_init (F : Nat) (s : XS) (x0 : Nat) : Option XS :=
  (some (xNewO s 0)).bind fun y1 =>
  (X_Bytes_init F y1 (xZ s)).bind fun q3 =>
  (xPutR q3 x0 10 0 (xZ s)).bind fun y5 =>
  (some (xNewA y5 20 400)).bind fun y7 =>
  (xPutR y7 x0 10 1 (xZ y5)).bind fun y9 =>
  (some (xNewA y9 20 400)).bind fun y11 =>
  (xPutR y11 x0 10 2 (xZ y9)).bind fun y13 =>
  (xPutI y13 x0 10 3 0).bind fun y15 =>
  (xPutI y15 x0 10 4 0).bind fun y17 =>
  some y17
def X_Words_begin (F : Nat) (s : XS) (x0 : Nat) (x1 : Int32) : Option XS :=
  (xGetI s x0 10 3).bind fun v1 =>
  if v1 < 0 then (
    some s
  ) else (
    (xGetI s x0 10 3).bind fun v3 =>
    (xGetA s x0 10 1).bind fun v4 =>
    (xLen s v4).bind fun v5 =>
    if v5 ≤ v3 then (
      some s
    ) else (
      (xGetA s x0 10 1).bind fun v7 =>
      (xGetI s x0 10 3).bind fun v8 =>
      (xStI s v7 v8 x1).bind fun y9 =>
      (xGetI y9 x0 10 3).bind fun v11 =>
      (xPutI y9 x0 10 3 (v11 + 1)).bind fun y12 =>
      some y12
    )
  )
def X_Words_lengthen (F : Nat) (s : XS) (x0 : Nat) (x1 : Int32) : Option XS :=
  (xGetI s x0 10 3).bind fun v1 =>
  if (v1 - 1) < 0 then (
    some s
  ) else (
    (xGetA s x0 10 2).bind fun v3 =>
    (xLen s v3).bind fun v4 =>
    if v4 ≤ (v1 - 1) then (
      some s
    ) else (
      (xGetA s x0 10 2).bind fun v6 =>
      (xStI s v6 (v1 - 1) x1).bind fun y7 =>
      some y7
    )
  )
def X_Words_append_63 (F : Nat) (s : XS) (x0 : Nat) (x3 : Int32) (x4 : Int32) : Option (Int32 × XS) :=
  if x4 = 0 then (
    (xPutZ s x0 10 4 x4).bind fun y2 =>
    some (1, y2)
  ) else (
    (xIs s x0 10).bind fun u4 =>
    (X_Words_lengthen F s x0 (x3 + 1)).bind fun q5 =>
    (xPutZ q5 x0 10 4 x4).bind fun y7 =>
    some (1, y7)
  )
def X_Words_append_44 (F : Nat) (s : XS) (x0 : Nat) (x3 : Int32) (s0 : Int32) : Option (Int32 × XS) :=
  if s0 = 0 then (
    X_Words_append_63 F s x0 x3 s0
  ) else (
    (xGetI s x0 10 4).bind fun v2 =>
    if v2 = 0 then (
      (xIs s x0 10).bind fun u4 =>
      (X_Words_begin F s x0 x3).bind fun q5 =>
      X_Words_append_63 F q5 x0 x3 s0
    ) else (
      X_Words_append_63 F s x0 x3 s0
    )
  )
def X_Words_append_43 (F : Nat) (s : XS) (x0 : Nat) (x3 : Int32) : Option (Int32 × XS) :=
  X_Words_append_44 F s x0 x3 0
def X_Words_append (F : Nat) (s : XS) (x0 : Nat) (x1 : Int32) : Option (Int32 × XS) :=
  (xGetA s x0 10 0).bind fun v1 =>
  (xGetI s v1 0 1).bind fun v2 =>
  (xGetA s x0 10 0).bind fun v3 =>
  (xIs s v3 0).bind fun u4 =>
  (X_Bytes_append F s v3 (x1 &&& 255)).bind fun q5 =>
  if q5.1 = 0 then (
    some (0, q5.2)
  ) else (
    if (x1 &&& 255) = 32 then (
      X_Words_append_43 F q5.2 x0 v2
    ) else (
      if (x1 &&& 255) = 10 then (
        X_Words_append_43 F q5.2 x0 v2
      ) else (
        X_Words_append_44 F q5.2 x0 v2 1
      )
    )
  )
def X_Words_clear (F : Nat) (s : XS) (x0 : Nat) : Option XS :=
  (xGetA s x0 10 0).bind fun v1 =>
  (xIs s v1 0).bind fun u2 =>
  (X_Bytes_clear F s v1).bind fun q3 =>
  (xPutI q3 x0 10 3 0).bind fun y5 =>
  (xPutI y5 x0 10 4 0).bind fun y7 =>
  some y7
def X_Words_startOf (F : Nat) (s : XS) (x0 : Nat) (x1 : Int32) : Option (Int32 × XS) :=
  if x1 < 0 then (
    some (0, s)
  ) else (
    (xGetI s x0 10 3).bind fun v2 =>
    if v2 ≤ x1 then (
      some (0, s)
    ) else (
      (xGetA s x0 10 1).bind fun v4 =>
      (xLen s v4).bind fun v5 =>
      if v5 ≤ x1 then (
        some (0, s)
      ) else (
        (xGetA s x0 10 1).bind fun v7 =>
        (xLdI s v7 20 x1).bind fun v8 =>
        some (v8, s)
      )
    )
  )
def X_Words_endOf (F : Nat) (s : XS) (x0 : Nat) (x1 : Int32) : Option (Int32 × XS) :=
  if x1 < 0 then (
    some (0, s)
  ) else (
    (xGetI s x0 10 3).bind fun v2 =>
    if v2 ≤ x1 then (
      some (0, s)
    ) else (
      (xGetA s x0 10 2).bind fun v4 =>
      (xLen s v4).bind fun v5 =>
      if v5 ≤ x1 then (
        some (0, s)
      ) else (
        (xGetA s x0 10 2).bind fun v7 =>
        (xLdI s v7 20 x1).bind fun v8 =>
        some (v8, s)
      )
    )
  )
def BX_Words_is_25 (F : Nat) (r25 : XS → Nat → Nat → Int32 → Int32 → Option (Int32 × XS)) (s : XS) (x0 : Nat) (x2 : Nat) (x3 : Int32) (x4 : Int32) : Option (Int32 × XS) :=
  (X_Str_length s x2).bind fun q1 =>
  if q1.1 ≤ x4 then (
    some (1, q1.2)
  ) else (
    (xGetA q1.2 x0 10 0).bind fun v4 =>
    (xIs q1.2 v4 0).bind fun u5 =>
    (X_Bytes_byteAt F q1.2 v4 (x3 + x4)).bind fun q6 =>
    (X_Str_charAt q6.2 x2 x4).bind fun q8 =>
    if q6.1 = q8.1 then (
      r25 q8.2 x0 x2 x3 (x4 + 1)
    ) else (
      some (0, q8.2)
    )
  )
def X_Words_is_25 (F : Nat) : Nat → XS → Nat → Nat → Int32 → Int32 → Option (Int32 × XS)
  | 0 => fun _ _ _ _ _ => none
  | z + 1 => BX_Words_is_25 F (X_Words_is_25 F z)
def X_Words_is (F : Nat) (s : XS) (x0 : Nat) (x1 : Int32) (x2 : Nat) : Option (Int32 × XS) :=
  (xIs s x0 10).bind fun u1 =>
  (X_Words_startOf F s x0 x1).bind fun q2 =>
  (xIs q2.2 x0 10).bind fun u4 =>
  (X_Words_endOf F q2.2 x0 x1).bind fun q5 =>
  (X_Str_length q5.2 x2).bind fun q7 =>
  if (q5.1 - q2.1) = q7.1 then (
    X_Words_is_25 F F q7.2 x0 x2 q2.1 0
  ) else (
    some (0, q7.2)
  )
def BX_Words_numberAt_33 (F : Nat) (r33 : XS → Nat → Int32 → Int32 → Int32 → Option (Int32 × XS)) (s : XS) (x0 : Nat) (x3 : Int32) (x4 : Int32) (x5 : Int32) : Option (Int32 × XS) :=
  if x3 ≤ x5 then (
    some (x4, s)
  ) else (
    (xGetA s x0 10 0).bind fun v2 =>
    (xIs s v2 0).bind fun u3 =>
    (X_Bytes_byteAt F s v2 x5).bind fun q4 =>
    if q4.1 < 48 then (
      some ((-1), q4.2)
    ) else (
      if q4.1 ≤ 57 then (
        r33 q4.2 x0 x3 ((x4 * 10) + (q4.1 - 48)) (x5 + 1)
      ) else (
        some ((-1), q4.2)
      )
    )
  )
def X_Words_numberAt_33 (F : Nat) : Nat → XS → Nat → Int32 → Int32 → Int32 → Option (Int32 × XS)
  | 0 => fun _ _ _ _ _ => none
  | z + 1 => BX_Words_numberAt_33 F (X_Words_numberAt_33 F z)
def X_Words_numberAt (F : Nat) (s : XS) (x0 : Nat) (x1 : Int32) : Option (Int32 × XS) :=
  (xIs s x0 10).bind fun u1 =>
  (X_Words_startOf F s x0 x1).bind fun q2 =>
  (xIs q2.2 x0 10).bind fun u4 =>
  (X_Words_endOf F q2.2 x0 x1).bind fun q5 =>
  if q5.1 ≤ q2.1 then (
    some ((-1), q5.2)
  ) else (
    if (q5.1 - q2.1) ≤ 9 then (
      X_Words_numberAt_33 F F q5.2 x0 q5.1 0 q2.1
    ) else (
      some ((-1), q5.2)
    )
  )
def BX_Words_copyTo_38 (F : Nat) (r3 : XS → Nat → Nat → Int32 → Int32 → Int32 → Option XS) (r38 : XS → Nat → Nat → Int32 → Int32 → Int32 → Int32 → Int32 → Option XS) (s : XS) (x0 : Nat) (x1 : Nat) (x2 : Int32) (x3 : Int32) (x4 : Int32) (x5 : Int32) (x6 : Int32) : Option XS :=
  if x5 ≤ x6 then (
    r3 s x0 x1 x2 x3 (x4 + 1)
  ) else (
    (xGetA s x0 10 0).bind fun v2 =>
    (xIs s v2 0).bind fun u3 =>
    (X_Bytes_byteAt F s v2 x6).bind fun q4 =>
    (xIs q4.2 x1 0).bind fun u6 =>
    (X_Bytes_append F q4.2 x1 q4.1).bind fun q7 =>
    r38 q7.2 x0 x1 x2 x3 x4 x5 (x6 + 1)
  )
def X_Words_copyTo_38 (F : Nat) (r3 : XS → Nat → Nat → Int32 → Int32 → Int32 → Option XS) : Nat → XS → Nat → Nat → Int32 → Int32 → Int32 → Int32 → Int32 → Option XS
  | 0 => fun _ _ _ _ _ _ _ _ => none
  | z + 1 => BX_Words_copyTo_38 F r3 (X_Words_copyTo_38 F r3 z)
def X_Words_copyTo_22 (F : Nat) (r3 : XS → Nat → Nat → Int32 → Int32 → Int32 → Option XS) (s : XS) (x0 : Nat) (x1 : Nat) (x2 : Int32) (x3 : Int32) (x4 : Int32) : Option XS :=
  (xIs s x0 10).bind fun u1 =>
  (X_Words_endOf F s x0 x4).bind fun q2 =>
  (xIs q2.2 x0 10).bind fun u4 =>
  (X_Words_startOf F q2.2 x0 x4).bind fun q5 =>
  X_Words_copyTo_38 F r3 F q5.2 x0 x1 x2 x3 x4 q2.1 q5.1
def BX_Words_copyTo_3 (F : Nat) (r3 : XS → Nat → Nat → Int32 → Int32 → Int32 → Option XS) (s : XS) (x0 : Nat) (x1 : Nat) (x2 : Int32) (x3 : Int32) (x4 : Int32) : Option XS :=
  if x3 ≤ x4 then (
    some s
  ) else (
    if x4 ≤ x2 then (
      X_Words_copyTo_22 F r3 s x0 x1 x2 x3 x4
    ) else (
      (xIs s x1 0).bind fun u3 =>
      (X_Bytes_append F s x1 32).bind fun q4 =>
      X_Words_copyTo_22 F r3 q4.2 x0 x1 x2 x3 x4
    )
  )
def X_Words_copyTo_3 (F : Nat) : Nat → XS → Nat → Nat → Int32 → Int32 → Int32 → Option XS
  | 0 => fun _ _ _ _ _ _ => none
  | z + 1 => BX_Words_copyTo_3 F (X_Words_copyTo_3 F z)
def X_Words_copyTo (F : Nat) (s : XS) (x0 : Nat) (x1 : Nat) (x2 : Int32) (x3 : Int32) : Option XS :=
  X_Words_copyTo_3 F F s x0 x1 x2 x3 x2
set_option maxHeartbeats 1000000 in
set_option maxRecDepth 100000 in
theorem x_Words_init {F : Nat} {h : hH} {s : XS} {x0 : Nat} {q : XS} (R : RepX h s) (hN : X_Words_init F s x0 = some q) : ∃ h2, M_Words_init F h x0 = some h2 ∧ RepX h2 q := by
  unfold X_Words_init at hN
  unfold M_Words_init
  obtain ⟨y1, ey1, hN⟩ := hb_some hN
  obtain ⟨h2, eh2, R, zy1⟩ := xw_new (ci := 0) R rfl
  rw [Option.some.inj ey1] at R
  refine ev_b eh2 ?_
  try rw [zy1]
  obtain ⟨q3, eq3, hN⟩ := hb_some hN
  obtain ⟨h4, eh4, R⟩ := x_Bytes_init R eq3
  refine ev_b eh4 ?_
  obtain ⟨y5, ey5, hN⟩ := hb_some hN
  obtain ⟨h6, eh6, R⟩ := xw_R R ey5
  refine ev_b eh6 ?_
  obtain ⟨y7, ey7, hN⟩ := hb_some hN
  obtain ⟨h8, eh8, R, zy7⟩ := xw_newI (n := 400) R
  rw [Option.some.inj ey7] at R
  refine ev_b eh8 ?_
  try rw [zy7]
  obtain ⟨y9, ey9, hN⟩ := hb_some hN
  obtain ⟨h10, eh10, R⟩ := xw_R R ey9
  refine ev_b eh10 ?_
  obtain ⟨y11, ey11, hN⟩ := hb_some hN
  obtain ⟨h12, eh12, R, zy11⟩ := xw_newI (n := 400) R
  rw [Option.some.inj ey11] at R
  refine ev_b eh12 ?_
  try rw [zy11]
  obtain ⟨y13, ey13, hN⟩ := hb_some hN
  obtain ⟨h14, eh14, R⟩ := xw_R R ey13
  refine ev_b eh14 ?_
  obtain ⟨y15, ey15, hN⟩ := hb_some hN
  obtain ⟨h16, eh16, R⟩ := xw_I R ey15
  refine ev_b eh16 ?_
  obtain ⟨y17, ey17, hN⟩ := hb_some hN
  obtain ⟨h18, eh18, R⟩ := xw_I R ey17
  refine ev_b eh18 ?_
  obtain rfl := Option.some.inj hN
  exact ⟨_, rfl, R⟩
set_option maxHeartbeats 1000000 in
set_option maxRecDepth 100000 in
theorem x_Words_begin {F : Nat} {h : hH} {s : XS} {x0 : Nat} {x1 : Int32} {q : XS} (R : RepX h s) (hN : X_Words_begin F s x0 x1 = some q) : ∃ h2, M_Words_begin F h x0 x1 = some h2 ∧ RepX h2 q := by
  unfold X_Words_begin at hN
  unfold M_Words_begin
  obtain ⟨v1, ev1, hN⟩ := hb_some hN
  refine ev_b (xr_I R ev1) ?_
  refine ev_if (fun c2 => ?_) (fun c2 => ?_)
  · have hN := hif_t hN c2
    obtain rfl := Option.some.inj hN
    exact ⟨_, rfl, R⟩
  · have hN := hif_f hN c2
    obtain ⟨v3, ev3, hN⟩ := hb_some hN
    refine ev_b (xr_I R ev3) ?_
    obtain ⟨v4, ev4, hN⟩ := hb_some hN
    refine ev_b (xr_A R ev4) ?_
    obtain ⟨v5, ev5, hN⟩ := hb_some hN
    refine ev_b (xr_Len R ev5) ?_
    refine ev_if (fun c6 => ?_) (fun c6 => ?_)
    · have hN := hif_t hN c6
      obtain rfl := Option.some.inj hN
      exact ⟨_, rfl, R⟩
    · have hN := hif_f hN c6
      obtain ⟨v7, ev7, hN⟩ := hb_some hN
      refine ev_b (xr_A R ev7) ?_
      obtain ⟨v8, ev8, hN⟩ := hb_some hN
      refine ev_b (xr_I R ev8) ?_
      obtain ⟨y9, ey9, hN⟩ := hb_some hN
      obtain ⟨h10, eh10, R⟩ := xw_StI R ey9
      refine ev_b eh10 ?_
      obtain ⟨v11, ev11, hN⟩ := hb_some hN
      refine ev_b (xr_I R ev11) ?_
      obtain ⟨y12, ey12, hN⟩ := hb_some hN
      obtain ⟨h13, eh13, R⟩ := xw_I R ey12
      refine ev_b eh13 ?_
      obtain rfl := Option.some.inj hN
      exact ⟨_, rfl, R⟩
set_option maxHeartbeats 1000000 in
set_option maxRecDepth 100000 in
theorem x_Words_lengthen {F : Nat} {h : hH} {s : XS} {x0 : Nat} {x1 : Int32} {q : XS} (R : RepX h s) (hN : X_Words_lengthen F s x0 x1 = some q) : ∃ h2, M_Words_lengthen F h x0 x1 = some h2 ∧ RepX h2 q := by
  unfold X_Words_lengthen at hN
  unfold M_Words_lengthen
  obtain ⟨v1, ev1, hN⟩ := hb_some hN
  refine ev_b (xr_I R ev1) ?_
  refine ev_if (fun c2 => ?_) (fun c2 => ?_)
  · have hN := hif_t hN c2
    obtain rfl := Option.some.inj hN
    exact ⟨_, rfl, R⟩
  · have hN := hif_f hN c2
    obtain ⟨v3, ev3, hN⟩ := hb_some hN
    refine ev_b (xr_A R ev3) ?_
    obtain ⟨v4, ev4, hN⟩ := hb_some hN
    refine ev_b (xr_Len R ev4) ?_
    refine ev_if (fun c5 => ?_) (fun c5 => ?_)
    · have hN := hif_t hN c5
      obtain rfl := Option.some.inj hN
      exact ⟨_, rfl, R⟩
    · have hN := hif_f hN c5
      obtain ⟨v6, ev6, hN⟩ := hb_some hN
      refine ev_b (xr_A R ev6) ?_
      obtain ⟨y7, ey7, hN⟩ := hb_some hN
      obtain ⟨h8, eh8, R⟩ := xw_StI R ey7
      refine ev_b eh8 ?_
      obtain rfl := Option.some.inj hN
      exact ⟨_, rfl, R⟩
set_option maxHeartbeats 1000000 in
set_option maxRecDepth 100000 in
theorem x_Words_append_63 {F : Nat} : ∀ (h : hH) (s : XS) (x0 : Nat) (x3 : Int32) (x4 : Int32) (q : (Int32 × XS)), RepX h s → X_Words_append_63 F s x0 x3 x4 = some q → ∃ h2, M_Words_append_63 F h x0 x3 x4 = some (q.1, h2) ∧ RepX h2 q.2 := by
  intro h s x0 x3 x4 q R hN
  unfold X_Words_append_63 at hN
  unfold M_Words_append_63
  refine ex_if (fun c1 => ?_) (fun c1 => ?_)
  · have hN := hif_t hN c1
    obtain ⟨y2, ey2, hN⟩ := hb_some hN
    obtain ⟨h3, eh3, R⟩ := xw_Z R ey2
    refine ex_b eh3 ?_
    obtain rfl := Option.some.inj hN
    exact ⟨_, rfl, R⟩
  · have hN := hif_f hN c1
    obtain ⟨u4, eu4, hN⟩ := hb_some hN
    refine ex_b (xr_Is R eu4) ?_
    obtain ⟨q5, eq5, hN⟩ := hb_some hN
    obtain ⟨h6, eh6, R⟩ := x_Words_lengthen R eq5
    refine ex_b eh6 ?_
    obtain ⟨y7, ey7, hN⟩ := hb_some hN
    obtain ⟨h8, eh8, R⟩ := xw_Z R ey7
    refine ex_b eh8 ?_
    obtain rfl := Option.some.inj hN
    exact ⟨_, rfl, R⟩
set_option maxHeartbeats 1000000 in
set_option maxRecDepth 100000 in
theorem x_Words_append_44 {F : Nat} : ∀ (h : hH) (s : XS) (x0 : Nat) (x3 : Int32) (s0 : Int32) (q : (Int32 × XS)), RepX h s → X_Words_append_44 F s x0 x3 s0 = some q → ∃ h2, M_Words_append_44 F h x0 x3 s0 = some (q.1, h2) ∧ RepX h2 q.2 := by
  intro h s x0 x3 s0 q R hN
  unfold X_Words_append_44 at hN
  unfold M_Words_append_44
  refine ex_if (fun c1 => ?_) (fun c1 => ?_)
  · have hN := hif_t hN c1
    exact x_Words_append_63 _ _ _ _ _ _ R hN
  · have hN := hif_f hN c1
    obtain ⟨v2, ev2, hN⟩ := hb_some hN
    refine ex_b (xr_I R ev2) ?_
    refine ex_if (fun c3 => ?_) (fun c3 => ?_)
    · have hN := hif_t hN c3
      obtain ⟨u4, eu4, hN⟩ := hb_some hN
      refine ex_b (xr_Is R eu4) ?_
      obtain ⟨q5, eq5, hN⟩ := hb_some hN
      obtain ⟨h6, eh6, R⟩ := x_Words_begin R eq5
      refine ex_b eh6 ?_
      exact x_Words_append_63 _ _ _ _ _ _ R hN
    · have hN := hif_f hN c3
      exact x_Words_append_63 _ _ _ _ _ _ R hN
set_option maxHeartbeats 1000000 in
set_option maxRecDepth 100000 in
theorem x_Words_append_43 {F : Nat} : ∀ (h : hH) (s : XS) (x0 : Nat) (x3 : Int32) (q : (Int32 × XS)), RepX h s → X_Words_append_43 F s x0 x3 = some q → ∃ h2, M_Words_append_43 F h x0 x3 = some (q.1, h2) ∧ RepX h2 q.2 := by
  intro h s x0 x3 q R hN
  unfold X_Words_append_43 at hN
  unfold M_Words_append_43
  exact x_Words_append_44 _ _ _ _ _ _ R hN
set_option maxHeartbeats 1000000 in
set_option maxRecDepth 100000 in
theorem x_Words_append {F : Nat} {h : hH} {s : XS} {x0 : Nat} {x1 : Int32} {q : (Int32 × XS)} (R : RepX h s) (hN : X_Words_append F s x0 x1 = some q) : ∃ h2, M_Words_append F h x0 x1 = some (q.1, h2) ∧ RepX h2 q.2 := by
  unfold X_Words_append at hN
  unfold M_Words_append
  obtain ⟨v1, ev1, hN⟩ := hb_some hN
  refine ex_b (xr_A R ev1) ?_
  obtain ⟨v2, ev2, hN⟩ := hb_some hN
  refine ex_b (xr_I R ev2) ?_
  obtain ⟨v3, ev3, hN⟩ := hb_some hN
  refine ex_b (xr_A R ev3) ?_
  obtain ⟨u4, eu4, hN⟩ := hb_some hN
  refine ex_b (xr_Is R eu4) ?_
  obtain ⟨q5, eq5, hN⟩ := hb_some hN
  obtain ⟨h6, eh6, R⟩ := x_Bytes_append R eq5
  refine ex_b eh6 ?_
  refine ex_if (fun c7 => ?_) (fun c7 => ?_)
  · have hN := hif_t hN c7
    obtain rfl := Option.some.inj hN
    exact ⟨_, rfl, R⟩
  · have hN := hif_f hN c7
    refine ex_if (fun c8 => ?_) (fun c8 => ?_)
    · have hN := hif_t hN c8
      exact x_Words_append_43 _ _ _ _ _ R hN
    · have hN := hif_f hN c8
      refine ex_if (fun c9 => ?_) (fun c9 => ?_)
      · have hN := hif_t hN c9
        exact x_Words_append_43 _ _ _ _ _ R hN
      · have hN := hif_f hN c9
        exact x_Words_append_44 _ _ _ _ _ _ R hN
set_option maxHeartbeats 1000000 in
set_option maxRecDepth 100000 in
theorem x_Words_clear {F : Nat} {h : hH} {s : XS} {x0 : Nat} {q : XS} (R : RepX h s) (hN : X_Words_clear F s x0 = some q) : ∃ h2, M_Words_clear F h x0 = some h2 ∧ RepX h2 q := by
  unfold X_Words_clear at hN
  unfold M_Words_clear
  obtain ⟨v1, ev1, hN⟩ := hb_some hN
  refine ev_b (xr_A R ev1) ?_
  obtain ⟨u2, eu2, hN⟩ := hb_some hN
  refine ev_b (xr_Is R eu2) ?_
  obtain ⟨q3, eq3, hN⟩ := hb_some hN
  obtain ⟨h4, eh4, R⟩ := x_Bytes_clear R eq3
  refine ev_b eh4 ?_
  obtain ⟨y5, ey5, hN⟩ := hb_some hN
  obtain ⟨h6, eh6, R⟩ := xw_I R ey5
  refine ev_b eh6 ?_
  obtain ⟨y7, ey7, hN⟩ := hb_some hN
  obtain ⟨h8, eh8, R⟩ := xw_I R ey7
  refine ev_b eh8 ?_
  obtain rfl := Option.some.inj hN
  exact ⟨_, rfl, R⟩
set_option maxHeartbeats 1000000 in
set_option maxRecDepth 100000 in
theorem x_Words_startOf {F : Nat} {h : hH} {s : XS} {x0 : Nat} {x1 : Int32} {q : (Int32 × XS)} (R : RepX h s) (hN : X_Words_startOf F s x0 x1 = some q) : ∃ h2, M_Words_startOf F h x0 x1 = some (q.1, h2) ∧ RepX h2 q.2 := by
  unfold X_Words_startOf at hN
  unfold M_Words_startOf
  refine ex_if (fun c1 => ?_) (fun c1 => ?_)
  · have hN := hif_t hN c1
    obtain rfl := Option.some.inj hN
    exact ⟨_, rfl, R⟩
  · have hN := hif_f hN c1
    obtain ⟨v2, ev2, hN⟩ := hb_some hN
    refine ex_b (xr_I R ev2) ?_
    refine ex_if (fun c3 => ?_) (fun c3 => ?_)
    · have hN := hif_t hN c3
      obtain rfl := Option.some.inj hN
      exact ⟨_, rfl, R⟩
    · have hN := hif_f hN c3
      obtain ⟨v4, ev4, hN⟩ := hb_some hN
      refine ex_b (xr_A R ev4) ?_
      obtain ⟨v5, ev5, hN⟩ := hb_some hN
      refine ex_b (xr_Len R ev5) ?_
      refine ex_if (fun c6 => ?_) (fun c6 => ?_)
      · have hN := hif_t hN c6
        obtain rfl := Option.some.inj hN
        exact ⟨_, rfl, R⟩
      · have hN := hif_f hN c6
        obtain ⟨v7, ev7, hN⟩ := hb_some hN
        refine ex_b (xr_A R ev7) ?_
        obtain ⟨v8, ev8, hN⟩ := hb_some hN
        refine ex_b (xr_LdI R ev8) ?_
        obtain rfl := Option.some.inj hN
        exact ⟨_, rfl, R⟩
set_option maxHeartbeats 1000000 in
set_option maxRecDepth 100000 in
theorem x_Words_endOf {F : Nat} {h : hH} {s : XS} {x0 : Nat} {x1 : Int32} {q : (Int32 × XS)} (R : RepX h s) (hN : X_Words_endOf F s x0 x1 = some q) : ∃ h2, M_Words_endOf F h x0 x1 = some (q.1, h2) ∧ RepX h2 q.2 := by
  unfold X_Words_endOf at hN
  unfold M_Words_endOf
  refine ex_if (fun c1 => ?_) (fun c1 => ?_)
  · have hN := hif_t hN c1
    obtain rfl := Option.some.inj hN
    exact ⟨_, rfl, R⟩
  · have hN := hif_f hN c1
    obtain ⟨v2, ev2, hN⟩ := hb_some hN
    refine ex_b (xr_I R ev2) ?_
    refine ex_if (fun c3 => ?_) (fun c3 => ?_)
    · have hN := hif_t hN c3
      obtain rfl := Option.some.inj hN
      exact ⟨_, rfl, R⟩
    · have hN := hif_f hN c3
      obtain ⟨v4, ev4, hN⟩ := hb_some hN
      refine ex_b (xr_A R ev4) ?_
      obtain ⟨v5, ev5, hN⟩ := hb_some hN
      refine ex_b (xr_Len R ev5) ?_
      refine ex_if (fun c6 => ?_) (fun c6 => ?_)
      · have hN := hif_t hN c6
        obtain rfl := Option.some.inj hN
        exact ⟨_, rfl, R⟩
      · have hN := hif_f hN c6
        obtain ⟨v7, ev7, hN⟩ := hb_some hN
        refine ex_b (xr_A R ev7) ?_
        obtain ⟨v8, ev8, hN⟩ := hb_some hN
        refine ex_b (xr_LdI R ev8) ?_
        obtain rfl := Option.some.inj hN
        exact ⟨_, rfl, R⟩
set_option maxHeartbeats 1000000 in
set_option maxRecDepth 100000 in
theorem bx_Words_is_25 {F : Nat} {m25 : hH → Nat → Nat → Int32 → Int32 → Option (Int32 × hH)} {r25 : XS → Nat → Nat → Int32 → Int32 → Option (Int32 × XS)} (P25 : ∀ (h : hH) (s : XS) (x0 : Nat) (x2 : Nat) (x3 : Int32) (x4 : Int32) (q : (Int32 × XS)), RepX h s → r25 s x0 x2 x3 x4 = some q → ∃ h2, m25 h x0 x2 x3 x4 = some (q.1, h2) ∧ RepX h2 q.2) : ∀ (h : hH) (s : XS) (x0 : Nat) (x2 : Nat) (x3 : Int32) (x4 : Int32) (q : (Int32 × XS)), RepX h s → BX_Words_is_25 F r25 s x0 x2 x3 x4 = some q → ∃ h2, B_Words_is_25 F m25 h x0 x2 x3 x4 = some (q.1, h2) ∧ RepX h2 q.2 := by
  intro h s x0 x2 x3 x4 q R hN
  unfold BX_Words_is_25 at hN
  unfold B_Words_is_25
  obtain ⟨q1, eq1, hN⟩ := hb_some hN
  obtain ⟨h2, eh2, R⟩ := x_Str_length R eq1
  refine ex_b eh2 ?_
  refine ex_if (fun c3 => ?_) (fun c3 => ?_)
  · have hN := hif_t hN c3
    obtain rfl := Option.some.inj hN
    exact ⟨_, rfl, R⟩
  · have hN := hif_f hN c3
    obtain ⟨v4, ev4, hN⟩ := hb_some hN
    refine ex_b (xr_A R ev4) ?_
    obtain ⟨u5, eu5, hN⟩ := hb_some hN
    refine ex_b (xr_Is R eu5) ?_
    obtain ⟨q6, eq6, hN⟩ := hb_some hN
    obtain ⟨h7, eh7, R⟩ := x_Bytes_byteAt R eq6
    refine ex_b eh7 ?_
    obtain ⟨q8, eq8, hN⟩ := hb_some hN
    obtain ⟨h9, eh9, R⟩ := x_Str_charAt R eq8
    refine ex_b eh9 ?_
    refine ex_if (fun c10 => ?_) (fun c10 => ?_)
    · have hN := hif_t hN c10
      exact P25 _ _ _ _ _ _ _ R hN
    · have hN := hif_f hN c10
      obtain rfl := Option.some.inj hN
      exact ⟨_, rfl, R⟩
theorem x_Words_is_25 {F : Nat} : ∀ z : Nat, ∀ (h : hH) (s : XS) (x0 : Nat) (x2 : Nat) (x3 : Int32) (x4 : Int32) (q : (Int32 × XS)), RepX h s → X_Words_is_25 F z s x0 x2 x3 x4 = some q → ∃ h2, M_Words_is_25 F z h x0 x2 x3 x4 = some (q.1, h2) ∧ RepX h2 q.2 := by
  intro z
  induction z with
  | zero => intro h s x0 x2 x3 x4 q R hN; exact absurd (show (none : Option _) = some q from hN) (fun t => by cases t)
  | succ z ih => exact bx_Words_is_25 ih
set_option maxHeartbeats 1000000 in
set_option maxRecDepth 100000 in
theorem x_Words_is {F : Nat} {h : hH} {s : XS} {x0 : Nat} {x1 : Int32} {x2 : Nat} {q : (Int32 × XS)} (R : RepX h s) (hN : X_Words_is F s x0 x1 x2 = some q) : ∃ h2, M_Words_is F h x0 x1 x2 = some (q.1, h2) ∧ RepX h2 q.2 := by
  unfold X_Words_is at hN
  unfold M_Words_is
  obtain ⟨u1, eu1, hN⟩ := hb_some hN
  refine ex_b (xr_Is R eu1) ?_
  obtain ⟨q2, eq2, hN⟩ := hb_some hN
  obtain ⟨h3, eh3, R⟩ := x_Words_startOf R eq2
  refine ex_b eh3 ?_
  obtain ⟨u4, eu4, hN⟩ := hb_some hN
  refine ex_b (xr_Is R eu4) ?_
  obtain ⟨q5, eq5, hN⟩ := hb_some hN
  obtain ⟨h6, eh6, R⟩ := x_Words_endOf R eq5
  refine ex_b eh6 ?_
  obtain ⟨q7, eq7, hN⟩ := hb_some hN
  obtain ⟨h8, eh8, R⟩ := x_Str_length R eq7
  refine ex_b eh8 ?_
  refine ex_if (fun c9 => ?_) (fun c9 => ?_)
  · have hN := hif_t hN c9
    exact x_Words_is_25 F _ _ _ _ _ _ _ R hN
  · have hN := hif_f hN c9
    obtain rfl := Option.some.inj hN
    exact ⟨_, rfl, R⟩
set_option maxHeartbeats 1000000 in
set_option maxRecDepth 100000 in
theorem bx_Words_numberAt_33 {F : Nat} {m33 : hH → Nat → Int32 → Int32 → Int32 → Option (Int32 × hH)} {r33 : XS → Nat → Int32 → Int32 → Int32 → Option (Int32 × XS)} (P33 : ∀ (h : hH) (s : XS) (x0 : Nat) (x3 : Int32) (x4 : Int32) (x5 : Int32) (q : (Int32 × XS)), RepX h s → r33 s x0 x3 x4 x5 = some q → ∃ h2, m33 h x0 x3 x4 x5 = some (q.1, h2) ∧ RepX h2 q.2) : ∀ (h : hH) (s : XS) (x0 : Nat) (x3 : Int32) (x4 : Int32) (x5 : Int32) (q : (Int32 × XS)), RepX h s → BX_Words_numberAt_33 F r33 s x0 x3 x4 x5 = some q → ∃ h2, B_Words_numberAt_33 F m33 h x0 x3 x4 x5 = some (q.1, h2) ∧ RepX h2 q.2 := by
  intro h s x0 x3 x4 x5 q R hN
  unfold BX_Words_numberAt_33 at hN
  unfold B_Words_numberAt_33
  refine ex_if (fun c1 => ?_) (fun c1 => ?_)
  · have hN := hif_t hN c1
    obtain rfl := Option.some.inj hN
    exact ⟨_, rfl, R⟩
  · have hN := hif_f hN c1
    obtain ⟨v2, ev2, hN⟩ := hb_some hN
    refine ex_b (xr_A R ev2) ?_
    obtain ⟨u3, eu3, hN⟩ := hb_some hN
    refine ex_b (xr_Is R eu3) ?_
    obtain ⟨q4, eq4, hN⟩ := hb_some hN
    obtain ⟨h5, eh5, R⟩ := x_Bytes_byteAt R eq4
    refine ex_b eh5 ?_
    refine ex_if (fun c6 => ?_) (fun c6 => ?_)
    · have hN := hif_t hN c6
      obtain rfl := Option.some.inj hN
      exact ⟨_, rfl, R⟩
    · have hN := hif_f hN c6
      refine ex_if (fun c7 => ?_) (fun c7 => ?_)
      · have hN := hif_t hN c7
        exact P33 _ _ _ _ _ _ _ R hN
      · have hN := hif_f hN c7
        obtain rfl := Option.some.inj hN
        exact ⟨_, rfl, R⟩
theorem x_Words_numberAt_33 {F : Nat} : ∀ z : Nat, ∀ (h : hH) (s : XS) (x0 : Nat) (x3 : Int32) (x4 : Int32) (x5 : Int32) (q : (Int32 × XS)), RepX h s → X_Words_numberAt_33 F z s x0 x3 x4 x5 = some q → ∃ h2, M_Words_numberAt_33 F z h x0 x3 x4 x5 = some (q.1, h2) ∧ RepX h2 q.2 := by
  intro z
  induction z with
  | zero => intro h s x0 x3 x4 x5 q R hN; exact absurd (show (none : Option _) = some q from hN) (fun t => by cases t)
  | succ z ih => exact bx_Words_numberAt_33 ih
set_option maxHeartbeats 1000000 in
set_option maxRecDepth 100000 in
theorem x_Words_numberAt {F : Nat} {h : hH} {s : XS} {x0 : Nat} {x1 : Int32} {q : (Int32 × XS)} (R : RepX h s) (hN : X_Words_numberAt F s x0 x1 = some q) : ∃ h2, M_Words_numberAt F h x0 x1 = some (q.1, h2) ∧ RepX h2 q.2 := by
  unfold X_Words_numberAt at hN
  unfold M_Words_numberAt
  obtain ⟨u1, eu1, hN⟩ := hb_some hN
  refine ex_b (xr_Is R eu1) ?_
  obtain ⟨q2, eq2, hN⟩ := hb_some hN
  obtain ⟨h3, eh3, R⟩ := x_Words_startOf R eq2
  refine ex_b eh3 ?_
  obtain ⟨u4, eu4, hN⟩ := hb_some hN
  refine ex_b (xr_Is R eu4) ?_
  obtain ⟨q5, eq5, hN⟩ := hb_some hN
  obtain ⟨h6, eh6, R⟩ := x_Words_endOf R eq5
  refine ex_b eh6 ?_
  refine ex_if (fun c7 => ?_) (fun c7 => ?_)
  · have hN := hif_t hN c7
    obtain rfl := Option.some.inj hN
    exact ⟨_, rfl, R⟩
  · have hN := hif_f hN c7
    refine ex_if (fun c8 => ?_) (fun c8 => ?_)
    · have hN := hif_t hN c8
      exact x_Words_numberAt_33 F _ _ _ _ _ _ _ R hN
    · have hN := hif_f hN c8
      obtain rfl := Option.some.inj hN
      exact ⟨_, rfl, R⟩
set_option maxHeartbeats 1000000 in
set_option maxRecDepth 100000 in
theorem bx_Words_copyTo_38 {F : Nat} {m3 : hH → Nat → Nat → Int32 → Int32 → Int32 → Option hH} {r3 : XS → Nat → Nat → Int32 → Int32 → Int32 → Option XS} (P3 : ∀ (h : hH) (s : XS) (x0 : Nat) (x1 : Nat) (x2 : Int32) (x3 : Int32) (x4 : Int32) (q : XS), RepX h s → r3 s x0 x1 x2 x3 x4 = some q → ∃ h2, m3 h x0 x1 x2 x3 x4 = some h2 ∧ RepX h2 q) {m38 : hH → Nat → Nat → Int32 → Int32 → Int32 → Int32 → Int32 → Option hH} {r38 : XS → Nat → Nat → Int32 → Int32 → Int32 → Int32 → Int32 → Option XS} (P38 : ∀ (h : hH) (s : XS) (x0 : Nat) (x1 : Nat) (x2 : Int32) (x3 : Int32) (x4 : Int32) (x5 : Int32) (x6 : Int32) (q : XS), RepX h s → r38 s x0 x1 x2 x3 x4 x5 x6 = some q → ∃ h2, m38 h x0 x1 x2 x3 x4 x5 x6 = some h2 ∧ RepX h2 q) : ∀ (h : hH) (s : XS) (x0 : Nat) (x1 : Nat) (x2 : Int32) (x3 : Int32) (x4 : Int32) (x5 : Int32) (x6 : Int32) (q : XS), RepX h s → BX_Words_copyTo_38 F r3 r38 s x0 x1 x2 x3 x4 x5 x6 = some q → ∃ h2, B_Words_copyTo_38 F m3 m38 h x0 x1 x2 x3 x4 x5 x6 = some h2 ∧ RepX h2 q := by
  intro h s x0 x1 x2 x3 x4 x5 x6 q R hN
  unfold BX_Words_copyTo_38 at hN
  unfold B_Words_copyTo_38
  refine ev_if (fun c1 => ?_) (fun c1 => ?_)
  · have hN := hif_t hN c1
    exact P3 _ _ _ _ _ _ _ _ R hN
  · have hN := hif_f hN c1
    obtain ⟨v2, ev2, hN⟩ := hb_some hN
    refine ev_b (xr_A R ev2) ?_
    obtain ⟨u3, eu3, hN⟩ := hb_some hN
    refine ev_b (xr_Is R eu3) ?_
    obtain ⟨q4, eq4, hN⟩ := hb_some hN
    obtain ⟨h5, eh5, R⟩ := x_Bytes_byteAt R eq4
    refine ev_b eh5 ?_
    obtain ⟨u6, eu6, hN⟩ := hb_some hN
    refine ev_b (xr_Is R eu6) ?_
    obtain ⟨q7, eq7, hN⟩ := hb_some hN
    obtain ⟨h8, eh8, R⟩ := x_Bytes_append R eq7
    refine ev_b eh8 ?_
    exact P38 _ _ _ _ _ _ _ _ _ _ R hN
theorem x_Words_copyTo_38 {F : Nat} {m3 : hH → Nat → Nat → Int32 → Int32 → Int32 → Option hH} {r3 : XS → Nat → Nat → Int32 → Int32 → Int32 → Option XS} (P3 : ∀ (h : hH) (s : XS) (x0 : Nat) (x1 : Nat) (x2 : Int32) (x3 : Int32) (x4 : Int32) (q : XS), RepX h s → r3 s x0 x1 x2 x3 x4 = some q → ∃ h2, m3 h x0 x1 x2 x3 x4 = some h2 ∧ RepX h2 q) : ∀ z : Nat, ∀ (h : hH) (s : XS) (x0 : Nat) (x1 : Nat) (x2 : Int32) (x3 : Int32) (x4 : Int32) (x5 : Int32) (x6 : Int32) (q : XS), RepX h s → X_Words_copyTo_38 F r3 z s x0 x1 x2 x3 x4 x5 x6 = some q → ∃ h2, M_Words_copyTo_38 F m3 z h x0 x1 x2 x3 x4 x5 x6 = some h2 ∧ RepX h2 q := by
  intro z
  induction z with
  | zero => intro h s x0 x1 x2 x3 x4 x5 x6 q R hN; exact absurd (show (none : Option _) = some q from hN) (fun t => by cases t)
  | succ z ih => exact bx_Words_copyTo_38 P3 ih
set_option maxHeartbeats 1000000 in
set_option maxRecDepth 100000 in
theorem x_Words_copyTo_22 {F : Nat} {m3 : hH → Nat → Nat → Int32 → Int32 → Int32 → Option hH} {r3 : XS → Nat → Nat → Int32 → Int32 → Int32 → Option XS} (P3 : ∀ (h : hH) (s : XS) (x0 : Nat) (x1 : Nat) (x2 : Int32) (x3 : Int32) (x4 : Int32) (q : XS), RepX h s → r3 s x0 x1 x2 x3 x4 = some q → ∃ h2, m3 h x0 x1 x2 x3 x4 = some h2 ∧ RepX h2 q) : ∀ (h : hH) (s : XS) (x0 : Nat) (x1 : Nat) (x2 : Int32) (x3 : Int32) (x4 : Int32) (q : XS), RepX h s → X_Words_copyTo_22 F r3 s x0 x1 x2 x3 x4 = some q → ∃ h2, M_Words_copyTo_22 F m3 h x0 x1 x2 x3 x4 = some h2 ∧ RepX h2 q := by
  intro h s x0 x1 x2 x3 x4 q R hN
  unfold X_Words_copyTo_22 at hN
  unfold M_Words_copyTo_22
  obtain ⟨u1, eu1, hN⟩ := hb_some hN
  refine ev_b (xr_Is R eu1) ?_
  obtain ⟨q2, eq2, hN⟩ := hb_some hN
  obtain ⟨h3, eh3, R⟩ := x_Words_endOf R eq2
  refine ev_b eh3 ?_
  obtain ⟨u4, eu4, hN⟩ := hb_some hN
  refine ev_b (xr_Is R eu4) ?_
  obtain ⟨q5, eq5, hN⟩ := hb_some hN
  obtain ⟨h6, eh6, R⟩ := x_Words_startOf R eq5
  refine ev_b eh6 ?_
  exact x_Words_copyTo_38 P3 F _ _ _ _ _ _ _ _ _ _ R hN
set_option maxHeartbeats 1000000 in
set_option maxRecDepth 100000 in
theorem bx_Words_copyTo_3 {F : Nat} {m3 : hH → Nat → Nat → Int32 → Int32 → Int32 → Option hH} {r3 : XS → Nat → Nat → Int32 → Int32 → Int32 → Option XS} (P3 : ∀ (h : hH) (s : XS) (x0 : Nat) (x1 : Nat) (x2 : Int32) (x3 : Int32) (x4 : Int32) (q : XS), RepX h s → r3 s x0 x1 x2 x3 x4 = some q → ∃ h2, m3 h x0 x1 x2 x3 x4 = some h2 ∧ RepX h2 q) : ∀ (h : hH) (s : XS) (x0 : Nat) (x1 : Nat) (x2 : Int32) (x3 : Int32) (x4 : Int32) (q : XS), RepX h s → BX_Words_copyTo_3 F r3 s x0 x1 x2 x3 x4 = some q → ∃ h2, B_Words_copyTo_3 F m3 h x0 x1 x2 x3 x4 = some h2 ∧ RepX h2 q := by
  intro h s x0 x1 x2 x3 x4 q R hN
  unfold BX_Words_copyTo_3 at hN
  unfold B_Words_copyTo_3
  refine ev_if (fun c1 => ?_) (fun c1 => ?_)
  · have hN := hif_t hN c1
    obtain rfl := Option.some.inj hN
    exact ⟨_, rfl, R⟩
  · have hN := hif_f hN c1
    refine ev_if (fun c2 => ?_) (fun c2 => ?_)
    · have hN := hif_t hN c2
      exact x_Words_copyTo_22 P3 _ _ _ _ _ _ _ _ R hN
    · have hN := hif_f hN c2
      obtain ⟨u3, eu3, hN⟩ := hb_some hN
      refine ev_b (xr_Is R eu3) ?_
      obtain ⟨q4, eq4, hN⟩ := hb_some hN
      obtain ⟨h5, eh5, R⟩ := x_Bytes_append R eq4
      refine ev_b eh5 ?_
      exact x_Words_copyTo_22 P3 _ _ _ _ _ _ _ _ R hN
theorem x_Words_copyTo_3 {F : Nat} : ∀ z : Nat, ∀ (h : hH) (s : XS) (x0 : Nat) (x1 : Nat) (x2 : Int32) (x3 : Int32) (x4 : Int32) (q : XS), RepX h s → X_Words_copyTo_3 F z s x0 x1 x2 x3 x4 = some q → ∃ h2, M_Words_copyTo_3 F z h x0 x1 x2 x3 x4 = some h2 ∧ RepX h2 q := by
  intro z
  induction z with
  | zero => intro h s x0 x1 x2 x3 x4 q R hN; exact absurd (show (none : Option _) = some q from hN) (fun t => by cases t)
  | succ z ih => exact bx_Words_copyTo_3 ih
set_option maxHeartbeats 1000000 in
set_option maxRecDepth 100000 in
theorem x_Words_copyTo {F : Nat} {h : hH} {s : XS} {x0 : Nat} {x1 : Nat} {x2 : Int32} {x3 : Int32} {q : XS} (R : RepX h s) (hN : X_Words_copyTo F s x0 x1 x2 x3 = some q) : ∃ h2, M_Words_copyTo F h x0 x1 x2 x3 = some h2 ∧ RepX h2 q := by
  unfold X_Words_copyTo at hN
  unfold M_Words_copyTo
  exact x_Words_copyTo_3 F _ _ _ _ _ _ _ _ R hN
