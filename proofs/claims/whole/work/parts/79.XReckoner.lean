def X_Reckoner_init (F : Nat) (s : XS) (x0 : Nat) (x1 : Nat) : Option XS :=
  (xPutR s x0 5 0 x1).bind fun y1 =>
  (some (xNewA y1 23 64)).bind fun y3 =>
  (xPutR y3 x0 5 1 (xZ y1)).bind fun y5 =>
  (xPutI y5 x0 5 2 0).bind fun y7 =>
  (xPutI y7 x0 5 3 (-1)).bind fun y9 =>
  (xPutI y9 x0 5 4 (-1)).bind fun y11 =>
  some y11
def X_Reckoner_push (F : Nat) (s : XS) (x0 : Nat) (x1 : Int64) : Option XS :=
  (xGetI s x0 5 2).bind fun v1 =>
  if v1 < 0 then (
    some s
  ) else (
    (xGetI s x0 5 2).bind fun v3 =>
    (xGetA s x0 5 1).bind fun v4 =>
    (xLen s v4).bind fun v5 =>
    if v5 ≤ v3 then (
      some s
    ) else (
      (xGetA s x0 5 1).bind fun v7 =>
      (xGetI s x0 5 2).bind fun v8 =>
      (xStL s v7 v8 x1).bind fun y9 =>
      (xGetI y9 x0 5 2).bind fun v11 =>
      (xPutI y9 x0 5 2 (v11 + 1)).bind fun y12 =>
      some y12
    )
  )
def X_Reckoner_pop (F : Nat) (s : XS) (x0 : Nat) : Option (Int64 × XS) :=
  (xGetI s x0 5 2).bind fun v1 =>
  if v1 ≤ 0 then (
    some (0, s)
  ) else (
    (xGetI s x0 5 2).bind fun v3 =>
    (xGetA s x0 5 1).bind fun v4 =>
    (xLen s v4).bind fun v5 =>
    if v3 ≤ v5 then (
      (xGetI s x0 5 2).bind fun v7 =>
      (xPutI s x0 5 2 (v7 - 1)).bind fun y8 =>
      (xGetA y8 x0 5 1).bind fun v10 =>
      (xGetI y8 x0 5 2).bind fun v11 =>
      (xLdL y8 v10 v11).bind fun v12 =>
      some (v12, y8)
    ) else (
      some (0, s)
    )
  )
def X_Reckoner_combined (F : Nat) (s : XS) (x0 : Int32) (x1 : Int64) (x3 : Int64) : Option (Int64 × XS) :=
  if x0 = 4 then (
    some ((x1 + x3), s)
  ) else
  if x0 = 5 then (
    some ((x1 - x3), s)
  ) else
  if x0 = 6 then (
    some ((x1 * x3), s)
  ) else
  if x0 = 7 then (
    if (lg_cmp x3 0) = 0 then (
      some (0, s)
    ) else (
      if x3 = 0 then none else
      some ((x1 / x3), s)
    )
  ) else
  if (lg_cmp x3 0) = 0 then (
    some (0, s)
  ) else (
    if x3 = 0 then none else
    some ((x1 - x1 / x3 * x3), s)
  )
def X_Reckoner_combine_36 (F : Nat) (s : XS) (x0 : Nat) (x1 : Int32) (x2 : Int64) (x4 : Int64) : Option (Int32 × XS) :=
  (X_Reckoner_combined F s x1 x4 x2).bind fun q1 =>
  (xIs q1.2 x0 5).bind fun u3 =>
  (X_Reckoner_push F q1.2 x0 q1.1).bind fun q4 =>
  some (1, q4)
def X_Reckoner_combine_23 (F : Nat) (s : XS) (x0 : Nat) (x1 : Int32) (x2 : Int64) (x4 : Int64) : Option (Int32 × XS) :=
  if (lg_cmp x2 0) = 0 then (
    (xPutI s x0 5 3 1).bind fun y2 =>
    some (0, y2)
  ) else (
    X_Reckoner_combine_36 F s x0 x1 x2 x4
  )
def X_Reckoner_combine (F : Nat) (s : XS) (x0 : Nat) (x1 : Int32) : Option (Int32 × XS) :=
  (xIs s x0 5).bind fun u1 =>
  (X_Reckoner_pop F s x0).bind fun q2 =>
  (xIs q2.2 x0 5).bind fun u4 =>
  (X_Reckoner_pop F q2.2 x0).bind fun q5 =>
  if x1 = 7 then (
    X_Reckoner_combine_23 F q5.2 x0 x1 q2.1 q5.1
  ) else (
    if x1 = 8 then (
      X_Reckoner_combine_23 F q5.2 x0 x1 q2.1 q5.1
    ) else (
      X_Reckoner_combine_36 F q5.2 x0 x1 q2.1 q5.1
    )
  )
def X_Reckoner_pushFact (F : Nat) (s : XS) (x0 : Nat) (x1 : Int32) : Option (Int32 × XS) :=
  (xGetA s x0 5 0).bind fun v1 =>
  (xIs s v1 2).bind fun u2 =>
  (X_Facts_isTold F s v1 x1).bind fun q3 =>
  if q3.1 = 0 then (
    (xPutI q3.2 x0 5 3 3).bind fun y13 =>
    (xPutI y13 x0 5 4 x1).bind fun y15 =>
    some (0, y15)
  ) else (
    (xGetA q3.2 x0 5 0).bind fun v6 =>
    (xIs q3.2 v6 2).bind fun u7 =>
    (X_Facts_valueOf F q3.2 v6 x1).bind fun q8 =>
    (xIs q8.2 x0 5).bind fun u10 =>
    (X_Reckoner_push F q8.2 x0 q8.1).bind fun q11 =>
    some (1, q11)
  )
def X_Reckoner_pushPlace (F : Nat) (s : XS) (x0 : Nat) (x1 : Nat) (x2 : Int32) : Option (Int32 × XS) :=
  (xIs s x0 5).bind fun u1 =>
  (X_Reckoner_pop F s x0).bind fun q2 =>
  (xIs q2.2 x1 8).bind fun u4 =>
  (X_Tables_numberAt F q2.2 x1 x2 q2.1).bind fun q5 =>
  if q5.1 = (-1) then (
    (xPutI q5.2 x0 5 3 2).bind fun y11 =>
    some (0, y11)
  ) else (
    (xIs q5.2 x0 5).bind fun u8 =>
    (X_Reckoner_push F q5.2 x0 q5.1.toInt64).bind fun q9 =>
    some (1, q9)
  )
def X_Reckoner_reckon (F : Nat) (s : XS) (x0 : Nat) (x1 : Int32) (x2 : Int32) (x3 : Nat) : Option (Int32 × XS) :=
  if x1 = 0 then (
    (xIs s x0 5).bind fun u2 =>
    (X_Reckoner_push F s x0 x2.toInt64).bind fun q3 =>
    some (1, q3)
  ) else
  if x1 = 1 then (
    (xIs s x0 5).bind fun u6 =>
    (X_Reckoner_pushFact F s x0 x2).bind fun q7 =>
    (hZ q7.1).bind fun u9 =>
    some (q7.1, q7.2)
  ) else
  if x1 = 2 then (
    (xIs s x0 5).bind fun u11 =>
    (X_Reckoner_pushPlace F s x0 x3 x2).bind fun q12 =>
    (hZ q12.1).bind fun u14 =>
    some (q12.1, q12.2)
  ) else
  (xIs s x0 5).bind fun u15 =>
  (X_Reckoner_combine F s x0 x1).bind fun q16 =>
  (hZ q16.1).bind fun u18 =>
  some (q16.1, q16.2)
def X_Reckoner_related (F : Nat) (s : XS) (x0 : Nat) (x1 : Int32) : Option (Int32 × XS) :=
  (xIs s x0 5).bind fun u1 =>
  (X_Reckoner_pop F s x0).bind fun q2 =>
  (xIs q2.2 x0 5).bind fun u4 =>
  (X_Reckoner_pop F q2.2 x0).bind fun q5 =>
  if x1 = 9 then (
    if 0 ≤ (lg_cmp q5.1 q2.1) then (
      some (0, q5.2)
    ) else (
      some (1, q5.2)
    )
  ) else
  if x1 = 10 then (
    if 0 < (lg_cmp q5.1 q2.1) then (
      some (0, q5.2)
    ) else (
      some (1, q5.2)
    )
  ) else
  if x1 = 11 then (
    if (lg_cmp q5.1 q2.1) = 0 then (
      some (1, q5.2)
    ) else (
      some (0, q5.2)
    )
  ) else
  if (lg_cmp q5.1 q2.1) = 0 then (
    some (0, q5.2)
  ) else (
    some (1, q5.2)
  )
def X_Reckoner_follow_71 (F : Nat) (r8 : XS → Nat → Nat → Int32 → Int32 → Option (Int32 × XS)) (s : XS) (x0 : Nat) (x1 : Nat) (x3 : Int32) (x4 : Int32) : Option (Int32 × XS) :=
  r8 s x0 x1 x3 (x4 + 1)
def BX_Reckoner_follow_8 (F : Nat) (r8 : XS → Nat → Nat → Int32 → Int32 → Option (Int32 × XS)) (s : XS) (x0 : Nat) (x1 : Nat) (x3 : Int32) (x4 : Int32) : Option (Int32 × XS) :=
  if x3 ≤ x4 then (
    some (0, s)
  ) else (
    (xGetA s x1 1 1).bind fun v2 =>
    (xIs s v2 7).bind fun u3 =>
    (X_Steps_kindAt F s v2 x4).bind fun q4 =>
    (xGetA q4.2 x1 1 1).bind fun v6 =>
    (xIs q4.2 v6 7).bind fun u7 =>
    (X_Steps_valueAt F q4.2 v6 x4).bind fun q8 =>
    if q4.1 < 9 then (
      (xGetA q8.2 x1 1 2).bind fun v11 =>
      (xIs q8.2 x0 5).bind fun u12 =>
      (X_Reckoner_reckon F q8.2 x0 q4.1 q8.1 v11).bind fun q13 =>
      if q13.1 = 0 then (
        some (2, q13.2)
      ) else (
        X_Reckoner_follow_71 F r8 q13.2 x0 x1 x3 x4
      )
    ) else (
      (xIs q8.2 x0 5).bind fun u16 =>
      (X_Reckoner_related F q8.2 x0 q4.1).bind fun q17 =>
      if q17.1 = 0 then (
        some (1, q17.2)
      ) else (
        X_Reckoner_follow_71 F r8 q17.2 x0 x1 x3 x4
      )
    )
  )
def X_Reckoner_follow_8 (F : Nat) : Nat → XS → Nat → Nat → Int32 → Int32 → Option (Int32 × XS)
  | 0 => fun _ _ _ _ _ => none
  | z + 1 => BX_Reckoner_follow_8 F (X_Reckoner_follow_8 F z)
def X_Reckoner_follow (F : Nat) (s : XS) (x0 : Nat) (x1 : Nat) (x2 : Int32) (x3 : Int32) : Option (Int32 × XS) :=
  (xPutI s x0 5 2 0).bind fun y1 =>
  X_Reckoner_follow_8 F F y1 x0 x1 x3 x2
def X_Reckoner_judge (F : Nat) (s : XS) (x0 : Nat) (x1 : Nat) (x2 : Nat) : Option (Int32 × XS) :=
  (xPutI s x0 5 3 (-1)).bind fun y1 =>
  (xPutI y1 x0 5 4 (-1)).bind fun y3 =>
  (xGetI y3 x2 6 1).bind fun v5 =>
  (xGetI y3 x2 6 3).bind fun v6 =>
  (xIs y3 x0 5).bind fun u7 =>
  (X_Reckoner_follow F y3 x0 x1 v5 v6).bind fun q8 =>
  if q8.1 = 1 then (
    some (3, q8.2)
  ) else (
    if q8.1 = 0 then (
      (xGetI q8.2 x2 6 3).bind fun v12 =>
      (xGetI q8.2 x2 6 4).bind fun v13 =>
      (xIs q8.2 x0 5).bind fun u14 =>
      (X_Reckoner_follow F q8.2 x0 x1 v12 v13).bind fun q15 =>
      some (q15.1, q15.2)
    ) else (
      some (q8.1, q8.2)
    )
  )
set_option maxHeartbeats 1000000 in
set_option maxRecDepth 100000 in
theorem x_Reckoner_init {F : Nat} {h : hH} {s : XS} {x0 : Nat} {x1 : Nat} {q : XS} (R : RepX h s) (hN : X_Reckoner_init F s x0 x1 = some q) : ∃ h2, M_Reckoner_init F h x0 x1 = some h2 ∧ RepX h2 q := by
  unfold X_Reckoner_init at hN
  unfold M_Reckoner_init
  obtain ⟨y1, ey1, hN⟩ := hb_some hN
  obtain ⟨h2, eh2, R⟩ := xw_R R ey1
  refine ev_b eh2 ?_
  obtain ⟨y3, ey3, hN⟩ := hb_some hN
  obtain ⟨h4, eh4, R, zy3⟩ := xw_newL (n := 64) R
  rw [Option.some.inj ey3] at R
  refine ev_b eh4 ?_
  try rw [zy3]
  obtain ⟨y5, ey5, hN⟩ := hb_some hN
  obtain ⟨h6, eh6, R⟩ := xw_R R ey5
  refine ev_b eh6 ?_
  obtain ⟨y7, ey7, hN⟩ := hb_some hN
  obtain ⟨h8, eh8, R⟩ := xw_I R ey7
  refine ev_b eh8 ?_
  obtain ⟨y9, ey9, hN⟩ := hb_some hN
  obtain ⟨h10, eh10, R⟩ := xw_I R ey9
  refine ev_b eh10 ?_
  obtain ⟨y11, ey11, hN⟩ := hb_some hN
  obtain ⟨h12, eh12, R⟩ := xw_I R ey11
  refine ev_b eh12 ?_
  obtain rfl := Option.some.inj hN
  exact ⟨_, rfl, R⟩
set_option maxHeartbeats 1000000 in
set_option maxRecDepth 100000 in
theorem x_Reckoner_push {F : Nat} {h : hH} {s : XS} {x0 : Nat} {x1 : Int64} {q : XS} (R : RepX h s) (hN : X_Reckoner_push F s x0 x1 = some q) : ∃ h2, M_Reckoner_push F h x0 x1 = some h2 ∧ RepX h2 q := by
  unfold X_Reckoner_push at hN
  unfold M_Reckoner_push
  obtain ⟨v1, ev1, hN⟩ := hb_some hN
  refine ev_b (xr_I R ev1) ?_
  refine ev_if (fun c2 => ?_) (fun c2 => ?_)
  · have hN := hif_t hN c2
    obtain rfl := Option.some.inj hN
    exact ⟨_, rfl, R⟩
  · have hN := hif_f hN c2
    obtain ⟨v3, ev3, hN⟩ := hb_some hN
    refine ev_b (xr_I R ev3) ?_
    obtain ⟨v4, ev4, hN⟩ := hb_some hN
    refine ev_b (xr_A R ev4) ?_
    obtain ⟨v5, ev5, hN⟩ := hb_some hN
    refine ev_b (xr_Len R ev5) ?_
    refine ev_if (fun c6 => ?_) (fun c6 => ?_)
    · have hN := hif_t hN c6
      obtain rfl := Option.some.inj hN
      exact ⟨_, rfl, R⟩
    · have hN := hif_f hN c6
      obtain ⟨v7, ev7, hN⟩ := hb_some hN
      refine ev_b (xr_A R ev7) ?_
      obtain ⟨v8, ev8, hN⟩ := hb_some hN
      refine ev_b (xr_I R ev8) ?_
      obtain ⟨y9, ey9, hN⟩ := hb_some hN
      obtain ⟨h10, eh10, R⟩ := xw_StL R ey9
      refine ev_b eh10 ?_
      obtain ⟨v11, ev11, hN⟩ := hb_some hN
      refine ev_b (xr_I R ev11) ?_
      obtain ⟨y12, ey12, hN⟩ := hb_some hN
      obtain ⟨h13, eh13, R⟩ := xw_I R ey12
      refine ev_b eh13 ?_
      obtain rfl := Option.some.inj hN
      exact ⟨_, rfl, R⟩
set_option maxHeartbeats 1000000 in
set_option maxRecDepth 100000 in
theorem x_Reckoner_pop {F : Nat} {h : hH} {s : XS} {x0 : Nat} {q : (Int64 × XS)} (R : RepX h s) (hN : X_Reckoner_pop F s x0 = some q) : ∃ h2, M_Reckoner_pop F h x0 = some (q.1, h2) ∧ RepX h2 q.2 := by
  unfold X_Reckoner_pop at hN
  unfold M_Reckoner_pop
  obtain ⟨v1, ev1, hN⟩ := hb_some hN
  refine ex_b (xr_I R ev1) ?_
  refine ex_if (fun c2 => ?_) (fun c2 => ?_)
  · have hN := hif_t hN c2
    obtain rfl := Option.some.inj hN
    exact ⟨_, rfl, R⟩
  · have hN := hif_f hN c2
    obtain ⟨v3, ev3, hN⟩ := hb_some hN
    refine ex_b (xr_I R ev3) ?_
    obtain ⟨v4, ev4, hN⟩ := hb_some hN
    refine ex_b (xr_A R ev4) ?_
    obtain ⟨v5, ev5, hN⟩ := hb_some hN
    refine ex_b (xr_Len R ev5) ?_
    refine ex_if (fun c6 => ?_) (fun c6 => ?_)
    · have hN := hif_t hN c6
      obtain ⟨v7, ev7, hN⟩ := hb_some hN
      refine ex_b (xr_I R ev7) ?_
      obtain ⟨y8, ey8, hN⟩ := hb_some hN
      obtain ⟨h9, eh9, R⟩ := xw_I R ey8
      refine ex_b eh9 ?_
      obtain ⟨v10, ev10, hN⟩ := hb_some hN
      refine ex_b (xr_A R ev10) ?_
      obtain ⟨v11, ev11, hN⟩ := hb_some hN
      refine ex_b (xr_I R ev11) ?_
      obtain ⟨v12, ev12, hN⟩ := hb_some hN
      refine ex_b (xr_LdL R ev12) ?_
      obtain rfl := Option.some.inj hN
      exact ⟨_, rfl, R⟩
    · have hN := hif_f hN c6
      obtain rfl := Option.some.inj hN
      exact ⟨_, rfl, R⟩
set_option maxHeartbeats 1000000 in
set_option maxRecDepth 100000 in
theorem x_Reckoner_combined {F : Nat} {h : hH} {s : XS} {x0 : Int32} {x1 : Int64} {x3 : Int64} {q : (Int64 × XS)} (R : RepX h s) (hN : X_Reckoner_combined F s x0 x1 x3 = some q) : ∃ h2, M_Reckoner_combined F h x0 x1 x3 = some (q.1, h2) ∧ RepX h2 q.2 := by
  unfold X_Reckoner_combined at hN
  unfold M_Reckoner_combined
  refine ex_if (fun c1 => ?_) (fun c1 => ?_)
  · have hN := hif_t hN c1
    obtain rfl := Option.some.inj hN
    exact ⟨_, rfl, R⟩
  · have hN := hif_f hN c1
    refine ex_if (fun c2 => ?_) (fun c2 => ?_)
    · have hN := hif_t hN c2
      obtain rfl := Option.some.inj hN
      exact ⟨_, rfl, R⟩
    · have hN := hif_f hN c2
      refine ex_if (fun c3 => ?_) (fun c3 => ?_)
      · have hN := hif_t hN c3
        obtain rfl := Option.some.inj hN
        exact ⟨_, rfl, R⟩
      · have hN := hif_f hN c3
        refine ex_if (fun c4 => ?_) (fun c4 => ?_)
        · have hN := hif_t hN c4
          refine ex_if (fun c5 => ?_) (fun c5 => ?_)
          · have hN := hif_t hN c5
            obtain rfl := Option.some.inj hN
            exact ⟨_, rfl, R⟩
          · have hN := hif_f hN c5
            obtain ⟨c6, hN⟩ := hnz hN
            refine ex_if0 c6 ?_
            obtain rfl := Option.some.inj hN
            exact ⟨_, rfl, R⟩
        · have hN := hif_f hN c4
          refine ex_if (fun c7 => ?_) (fun c7 => ?_)
          · have hN := hif_t hN c7
            obtain rfl := Option.some.inj hN
            exact ⟨_, rfl, R⟩
          · have hN := hif_f hN c7
            obtain ⟨c8, hN⟩ := hnz hN
            refine ex_if0 c8 ?_
            obtain rfl := Option.some.inj hN
            exact ⟨_, rfl, R⟩
set_option maxHeartbeats 1000000 in
set_option maxRecDepth 100000 in
theorem x_Reckoner_combine_36 {F : Nat} : ∀ (h : hH) (s : XS) (x0 : Nat) (x1 : Int32) (x2 : Int64) (x4 : Int64) (q : (Int32 × XS)), RepX h s → X_Reckoner_combine_36 F s x0 x1 x2 x4 = some q → ∃ h2, M_Reckoner_combine_36 F h x0 x1 x2 x4 = some (q.1, h2) ∧ RepX h2 q.2 := by
  intro h s x0 x1 x2 x4 q R hN
  unfold X_Reckoner_combine_36 at hN
  unfold M_Reckoner_combine_36
  obtain ⟨q1, eq1, hN⟩ := hb_some hN
  obtain ⟨h2, eh2, R⟩ := x_Reckoner_combined R eq1
  refine ex_b eh2 ?_
  obtain ⟨u3, eu3, hN⟩ := hb_some hN
  refine ex_b (xr_Is R eu3) ?_
  obtain ⟨q4, eq4, hN⟩ := hb_some hN
  obtain ⟨h5, eh5, R⟩ := x_Reckoner_push R eq4
  refine ex_b eh5 ?_
  obtain rfl := Option.some.inj hN
  exact ⟨_, rfl, R⟩
set_option maxHeartbeats 1000000 in
set_option maxRecDepth 100000 in
theorem x_Reckoner_combine_23 {F : Nat} : ∀ (h : hH) (s : XS) (x0 : Nat) (x1 : Int32) (x2 : Int64) (x4 : Int64) (q : (Int32 × XS)), RepX h s → X_Reckoner_combine_23 F s x0 x1 x2 x4 = some q → ∃ h2, M_Reckoner_combine_23 F h x0 x1 x2 x4 = some (q.1, h2) ∧ RepX h2 q.2 := by
  intro h s x0 x1 x2 x4 q R hN
  unfold X_Reckoner_combine_23 at hN
  unfold M_Reckoner_combine_23
  refine ex_if (fun c1 => ?_) (fun c1 => ?_)
  · have hN := hif_t hN c1
    obtain ⟨y2, ey2, hN⟩ := hb_some hN
    obtain ⟨h3, eh3, R⟩ := xw_I R ey2
    refine ex_b eh3 ?_
    obtain rfl := Option.some.inj hN
    exact ⟨_, rfl, R⟩
  · have hN := hif_f hN c1
    exact x_Reckoner_combine_36 _ _ _ _ _ _ _ R hN
set_option maxHeartbeats 1000000 in
set_option maxRecDepth 100000 in
theorem x_Reckoner_combine {F : Nat} {h : hH} {s : XS} {x0 : Nat} {x1 : Int32} {q : (Int32 × XS)} (R : RepX h s) (hN : X_Reckoner_combine F s x0 x1 = some q) : ∃ h2, M_Reckoner_combine F h x0 x1 = some (q.1, h2) ∧ RepX h2 q.2 := by
  unfold X_Reckoner_combine at hN
  unfold M_Reckoner_combine
  obtain ⟨u1, eu1, hN⟩ := hb_some hN
  refine ex_b (xr_Is R eu1) ?_
  obtain ⟨q2, eq2, hN⟩ := hb_some hN
  obtain ⟨h3, eh3, R⟩ := x_Reckoner_pop R eq2
  refine ex_b eh3 ?_
  obtain ⟨u4, eu4, hN⟩ := hb_some hN
  refine ex_b (xr_Is R eu4) ?_
  obtain ⟨q5, eq5, hN⟩ := hb_some hN
  obtain ⟨h6, eh6, R⟩ := x_Reckoner_pop R eq5
  refine ex_b eh6 ?_
  refine ex_if (fun c7 => ?_) (fun c7 => ?_)
  · have hN := hif_t hN c7
    exact x_Reckoner_combine_23 _ _ _ _ _ _ _ R hN
  · have hN := hif_f hN c7
    refine ex_if (fun c8 => ?_) (fun c8 => ?_)
    · have hN := hif_t hN c8
      exact x_Reckoner_combine_23 _ _ _ _ _ _ _ R hN
    · have hN := hif_f hN c8
      exact x_Reckoner_combine_36 _ _ _ _ _ _ _ R hN
set_option maxHeartbeats 1000000 in
set_option maxRecDepth 100000 in
theorem x_Reckoner_pushFact {F : Nat} {h : hH} {s : XS} {x0 : Nat} {x1 : Int32} {q : (Int32 × XS)} (R : RepX h s) (hN : X_Reckoner_pushFact F s x0 x1 = some q) : ∃ h2, M_Reckoner_pushFact F h x0 x1 = some (q.1, h2) ∧ RepX h2 q.2 := by
  unfold X_Reckoner_pushFact at hN
  unfold M_Reckoner_pushFact
  obtain ⟨v1, ev1, hN⟩ := hb_some hN
  refine ex_b (xr_A R ev1) ?_
  obtain ⟨u2, eu2, hN⟩ := hb_some hN
  refine ex_b (xr_Is R eu2) ?_
  obtain ⟨q3, eq3, hN⟩ := hb_some hN
  obtain ⟨h4, eh4, R⟩ := x_Facts_isTold R eq3
  refine ex_b eh4 ?_
  refine ex_if (fun c5 => ?_) (fun c5 => ?_)
  · have hN := hif_t hN c5
    obtain ⟨y13, ey13, hN⟩ := hb_some hN
    obtain ⟨h14, eh14, R⟩ := xw_I R ey13
    refine ex_b eh14 ?_
    obtain ⟨y15, ey15, hN⟩ := hb_some hN
    obtain ⟨h16, eh16, R⟩ := xw_I R ey15
    refine ex_b eh16 ?_
    obtain rfl := Option.some.inj hN
    exact ⟨_, rfl, R⟩
  · have hN := hif_f hN c5
    obtain ⟨v6, ev6, hN⟩ := hb_some hN
    refine ex_b (xr_A R ev6) ?_
    obtain ⟨u7, eu7, hN⟩ := hb_some hN
    refine ex_b (xr_Is R eu7) ?_
    obtain ⟨q8, eq8, hN⟩ := hb_some hN
    obtain ⟨h9, eh9, R⟩ := x_Facts_valueOf R eq8
    refine ex_b eh9 ?_
    obtain ⟨u10, eu10, hN⟩ := hb_some hN
    refine ex_b (xr_Is R eu10) ?_
    obtain ⟨q11, eq11, hN⟩ := hb_some hN
    obtain ⟨h12, eh12, R⟩ := x_Reckoner_push R eq11
    refine ex_b eh12 ?_
    obtain rfl := Option.some.inj hN
    exact ⟨_, rfl, R⟩
set_option maxHeartbeats 1000000 in
set_option maxRecDepth 100000 in
theorem x_Reckoner_pushPlace {F : Nat} {h : hH} {s : XS} {x0 : Nat} {x1 : Nat} {x2 : Int32} {q : (Int32 × XS)} (R : RepX h s) (hN : X_Reckoner_pushPlace F s x0 x1 x2 = some q) : ∃ h2, M_Reckoner_pushPlace F h x0 x1 x2 = some (q.1, h2) ∧ RepX h2 q.2 := by
  unfold X_Reckoner_pushPlace at hN
  unfold M_Reckoner_pushPlace
  obtain ⟨u1, eu1, hN⟩ := hb_some hN
  refine ex_b (xr_Is R eu1) ?_
  obtain ⟨q2, eq2, hN⟩ := hb_some hN
  obtain ⟨h3, eh3, R⟩ := x_Reckoner_pop R eq2
  refine ex_b eh3 ?_
  obtain ⟨u4, eu4, hN⟩ := hb_some hN
  refine ex_b (xr_Is R eu4) ?_
  obtain ⟨q5, eq5, hN⟩ := hb_some hN
  obtain ⟨h6, eh6, R⟩ := x_Tables_numberAt R eq5
  refine ex_b eh6 ?_
  refine ex_if (fun c7 => ?_) (fun c7 => ?_)
  · have hN := hif_t hN c7
    obtain ⟨y11, ey11, hN⟩ := hb_some hN
    obtain ⟨h12, eh12, R⟩ := xw_I R ey11
    refine ex_b eh12 ?_
    obtain rfl := Option.some.inj hN
    exact ⟨_, rfl, R⟩
  · have hN := hif_f hN c7
    obtain ⟨u8, eu8, hN⟩ := hb_some hN
    refine ex_b (xr_Is R eu8) ?_
    obtain ⟨q9, eq9, hN⟩ := hb_some hN
    obtain ⟨h10, eh10, R⟩ := x_Reckoner_push R eq9
    refine ex_b eh10 ?_
    obtain rfl := Option.some.inj hN
    exact ⟨_, rfl, R⟩
set_option maxHeartbeats 1000000 in
set_option maxRecDepth 100000 in
theorem x_Reckoner_reckon {F : Nat} {h : hH} {s : XS} {x0 : Nat} {x1 : Int32} {x2 : Int32} {x3 : Nat} {q : (Int32 × XS)} (R : RepX h s) (hN : X_Reckoner_reckon F s x0 x1 x2 x3 = some q) : ∃ h2, M_Reckoner_reckon F h x0 x1 x2 x3 = some (q.1, h2) ∧ RepX h2 q.2 := by
  unfold X_Reckoner_reckon at hN
  unfold M_Reckoner_reckon
  refine ex_if (fun c1 => ?_) (fun c1 => ?_)
  · have hN := hif_t hN c1
    obtain ⟨u2, eu2, hN⟩ := hb_some hN
    refine ex_b (xr_Is R eu2) ?_
    obtain ⟨q3, eq3, hN⟩ := hb_some hN
    obtain ⟨h4, eh4, R⟩ := x_Reckoner_push R eq3
    refine ex_b eh4 ?_
    obtain rfl := Option.some.inj hN
    exact ⟨_, rfl, R⟩
  · have hN := hif_f hN c1
    refine ex_if (fun c5 => ?_) (fun c5 => ?_)
    · have hN := hif_t hN c5
      obtain ⟨u6, eu6, hN⟩ := hb_some hN
      refine ex_b (xr_Is R eu6) ?_
      obtain ⟨q7, eq7, hN⟩ := hb_some hN
      obtain ⟨h8, eh8, R⟩ := x_Reckoner_pushFact R eq7
      refine ex_b eh8 ?_
      obtain ⟨u9, eu9, hN⟩ := hb_some hN
      refine ex_b eu9 ?_
      obtain rfl := Option.some.inj hN
      exact ⟨_, rfl, R⟩
    · have hN := hif_f hN c5
      refine ex_if (fun c10 => ?_) (fun c10 => ?_)
      · have hN := hif_t hN c10
        obtain ⟨u11, eu11, hN⟩ := hb_some hN
        refine ex_b (xr_Is R eu11) ?_
        obtain ⟨q12, eq12, hN⟩ := hb_some hN
        obtain ⟨h13, eh13, R⟩ := x_Reckoner_pushPlace R eq12
        refine ex_b eh13 ?_
        obtain ⟨u14, eu14, hN⟩ := hb_some hN
        refine ex_b eu14 ?_
        obtain rfl := Option.some.inj hN
        exact ⟨_, rfl, R⟩
      · have hN := hif_f hN c10
        obtain ⟨u15, eu15, hN⟩ := hb_some hN
        refine ex_b (xr_Is R eu15) ?_
        obtain ⟨q16, eq16, hN⟩ := hb_some hN
        obtain ⟨h17, eh17, R⟩ := x_Reckoner_combine R eq16
        refine ex_b eh17 ?_
        obtain ⟨u18, eu18, hN⟩ := hb_some hN
        refine ex_b eu18 ?_
        obtain rfl := Option.some.inj hN
        exact ⟨_, rfl, R⟩
set_option maxHeartbeats 1000000 in
set_option maxRecDepth 100000 in
theorem x_Reckoner_related {F : Nat} {h : hH} {s : XS} {x0 : Nat} {x1 : Int32} {q : (Int32 × XS)} (R : RepX h s) (hN : X_Reckoner_related F s x0 x1 = some q) : ∃ h2, M_Reckoner_related F h x0 x1 = some (q.1, h2) ∧ RepX h2 q.2 := by
  unfold X_Reckoner_related at hN
  unfold M_Reckoner_related
  obtain ⟨u1, eu1, hN⟩ := hb_some hN
  refine ex_b (xr_Is R eu1) ?_
  obtain ⟨q2, eq2, hN⟩ := hb_some hN
  obtain ⟨h3, eh3, R⟩ := x_Reckoner_pop R eq2
  refine ex_b eh3 ?_
  obtain ⟨u4, eu4, hN⟩ := hb_some hN
  refine ex_b (xr_Is R eu4) ?_
  obtain ⟨q5, eq5, hN⟩ := hb_some hN
  obtain ⟨h6, eh6, R⟩ := x_Reckoner_pop R eq5
  refine ex_b eh6 ?_
  refine ex_if (fun c7 => ?_) (fun c7 => ?_)
  · have hN := hif_t hN c7
    refine ex_if (fun c8 => ?_) (fun c8 => ?_)
    · have hN := hif_t hN c8
      obtain rfl := Option.some.inj hN
      exact ⟨_, rfl, R⟩
    · have hN := hif_f hN c8
      obtain rfl := Option.some.inj hN
      exact ⟨_, rfl, R⟩
  · have hN := hif_f hN c7
    refine ex_if (fun c9 => ?_) (fun c9 => ?_)
    · have hN := hif_t hN c9
      refine ex_if (fun c10 => ?_) (fun c10 => ?_)
      · have hN := hif_t hN c10
        obtain rfl := Option.some.inj hN
        exact ⟨_, rfl, R⟩
      · have hN := hif_f hN c10
        obtain rfl := Option.some.inj hN
        exact ⟨_, rfl, R⟩
    · have hN := hif_f hN c9
      refine ex_if (fun c11 => ?_) (fun c11 => ?_)
      · have hN := hif_t hN c11
        refine ex_if (fun c12 => ?_) (fun c12 => ?_)
        · have hN := hif_t hN c12
          obtain rfl := Option.some.inj hN
          exact ⟨_, rfl, R⟩
        · have hN := hif_f hN c12
          obtain rfl := Option.some.inj hN
          exact ⟨_, rfl, R⟩
      · have hN := hif_f hN c11
        refine ex_if (fun c13 => ?_) (fun c13 => ?_)
        · have hN := hif_t hN c13
          obtain rfl := Option.some.inj hN
          exact ⟨_, rfl, R⟩
        · have hN := hif_f hN c13
          obtain rfl := Option.some.inj hN
          exact ⟨_, rfl, R⟩
set_option maxHeartbeats 1000000 in
set_option maxRecDepth 100000 in
theorem x_Reckoner_follow_71 {F : Nat} {m8 : hH → Nat → Nat → Int32 → Int32 → Option (Int32 × hH)} {r8 : XS → Nat → Nat → Int32 → Int32 → Option (Int32 × XS)} (P8 : ∀ (h : hH) (s : XS) (x0 : Nat) (x1 : Nat) (x3 : Int32) (x4 : Int32) (q : (Int32 × XS)), RepX h s → r8 s x0 x1 x3 x4 = some q → ∃ h2, m8 h x0 x1 x3 x4 = some (q.1, h2) ∧ RepX h2 q.2) : ∀ (h : hH) (s : XS) (x0 : Nat) (x1 : Nat) (x3 : Int32) (x4 : Int32) (q : (Int32 × XS)), RepX h s → X_Reckoner_follow_71 F r8 s x0 x1 x3 x4 = some q → ∃ h2, M_Reckoner_follow_71 F m8 h x0 x1 x3 x4 = some (q.1, h2) ∧ RepX h2 q.2 := by
  intro h s x0 x1 x3 x4 q R hN
  unfold X_Reckoner_follow_71 at hN
  unfold M_Reckoner_follow_71
  exact P8 _ _ _ _ _ _ _ R hN
set_option maxHeartbeats 1000000 in
set_option maxRecDepth 100000 in
theorem bx_Reckoner_follow_8 {F : Nat} {m8 : hH → Nat → Nat → Int32 → Int32 → Option (Int32 × hH)} {r8 : XS → Nat → Nat → Int32 → Int32 → Option (Int32 × XS)} (P8 : ∀ (h : hH) (s : XS) (x0 : Nat) (x1 : Nat) (x3 : Int32) (x4 : Int32) (q : (Int32 × XS)), RepX h s → r8 s x0 x1 x3 x4 = some q → ∃ h2, m8 h x0 x1 x3 x4 = some (q.1, h2) ∧ RepX h2 q.2) : ∀ (h : hH) (s : XS) (x0 : Nat) (x1 : Nat) (x3 : Int32) (x4 : Int32) (q : (Int32 × XS)), RepX h s → BX_Reckoner_follow_8 F r8 s x0 x1 x3 x4 = some q → ∃ h2, B_Reckoner_follow_8 F m8 h x0 x1 x3 x4 = some (q.1, h2) ∧ RepX h2 q.2 := by
  intro h s x0 x1 x3 x4 q R hN
  unfold BX_Reckoner_follow_8 at hN
  unfold B_Reckoner_follow_8
  refine ex_if (fun c1 => ?_) (fun c1 => ?_)
  · have hN := hif_t hN c1
    obtain rfl := Option.some.inj hN
    exact ⟨_, rfl, R⟩
  · have hN := hif_f hN c1
    obtain ⟨v2, ev2, hN⟩ := hb_some hN
    refine ex_b (xr_A R ev2) ?_
    obtain ⟨u3, eu3, hN⟩ := hb_some hN
    refine ex_b (xr_Is R eu3) ?_
    obtain ⟨q4, eq4, hN⟩ := hb_some hN
    obtain ⟨h5, eh5, R⟩ := x_Steps_kindAt R eq4
    refine ex_b eh5 ?_
    obtain ⟨v6, ev6, hN⟩ := hb_some hN
    refine ex_b (xr_A R ev6) ?_
    obtain ⟨u7, eu7, hN⟩ := hb_some hN
    refine ex_b (xr_Is R eu7) ?_
    obtain ⟨q8, eq8, hN⟩ := hb_some hN
    obtain ⟨h9, eh9, R⟩ := x_Steps_valueAt R eq8
    refine ex_b eh9 ?_
    refine ex_if (fun c10 => ?_) (fun c10 => ?_)
    · have hN := hif_t hN c10
      obtain ⟨v11, ev11, hN⟩ := hb_some hN
      refine ex_b (xr_A R ev11) ?_
      obtain ⟨u12, eu12, hN⟩ := hb_some hN
      refine ex_b (xr_Is R eu12) ?_
      obtain ⟨q13, eq13, hN⟩ := hb_some hN
      obtain ⟨h14, eh14, R⟩ := x_Reckoner_reckon R eq13
      refine ex_b eh14 ?_
      refine ex_if (fun c15 => ?_) (fun c15 => ?_)
      · have hN := hif_t hN c15
        obtain rfl := Option.some.inj hN
        exact ⟨_, rfl, R⟩
      · have hN := hif_f hN c15
        exact x_Reckoner_follow_71 P8 _ _ _ _ _ _ _ R hN
    · have hN := hif_f hN c10
      obtain ⟨u16, eu16, hN⟩ := hb_some hN
      refine ex_b (xr_Is R eu16) ?_
      obtain ⟨q17, eq17, hN⟩ := hb_some hN
      obtain ⟨h18, eh18, R⟩ := x_Reckoner_related R eq17
      refine ex_b eh18 ?_
      refine ex_if (fun c19 => ?_) (fun c19 => ?_)
      · have hN := hif_t hN c19
        obtain rfl := Option.some.inj hN
        exact ⟨_, rfl, R⟩
      · have hN := hif_f hN c19
        exact x_Reckoner_follow_71 P8 _ _ _ _ _ _ _ R hN
theorem x_Reckoner_follow_8 {F : Nat} : ∀ z : Nat, ∀ (h : hH) (s : XS) (x0 : Nat) (x1 : Nat) (x3 : Int32) (x4 : Int32) (q : (Int32 × XS)), RepX h s → X_Reckoner_follow_8 F z s x0 x1 x3 x4 = some q → ∃ h2, M_Reckoner_follow_8 F z h x0 x1 x3 x4 = some (q.1, h2) ∧ RepX h2 q.2 := by
  intro z
  induction z with
  | zero => intro h s x0 x1 x3 x4 q R hN; exact absurd (show (none : Option _) = some q from hN) (fun t => by cases t)
  | succ z ih => exact bx_Reckoner_follow_8 ih
set_option maxHeartbeats 1000000 in
set_option maxRecDepth 100000 in
theorem x_Reckoner_follow {F : Nat} {h : hH} {s : XS} {x0 : Nat} {x1 : Nat} {x2 : Int32} {x3 : Int32} {q : (Int32 × XS)} (R : RepX h s) (hN : X_Reckoner_follow F s x0 x1 x2 x3 = some q) : ∃ h2, M_Reckoner_follow F h x0 x1 x2 x3 = some (q.1, h2) ∧ RepX h2 q.2 := by
  unfold X_Reckoner_follow at hN
  unfold M_Reckoner_follow
  obtain ⟨y1, ey1, hN⟩ := hb_some hN
  obtain ⟨h2, eh2, R⟩ := xw_I R ey1
  refine ex_b eh2 ?_
  exact x_Reckoner_follow_8 F _ _ _ _ _ _ _ R hN
set_option maxHeartbeats 1000000 in
set_option maxRecDepth 100000 in
theorem x_Reckoner_judge {F : Nat} {h : hH} {s : XS} {x0 : Nat} {x1 : Nat} {x2 : Nat} {q : (Int32 × XS)} (R : RepX h s) (hN : X_Reckoner_judge F s x0 x1 x2 = some q) : ∃ h2, M_Reckoner_judge F h x0 x1 x2 = some (q.1, h2) ∧ RepX h2 q.2 := by
  unfold X_Reckoner_judge at hN
  unfold M_Reckoner_judge
  obtain ⟨y1, ey1, hN⟩ := hb_some hN
  obtain ⟨h2, eh2, R⟩ := xw_I R ey1
  refine ex_b eh2 ?_
  obtain ⟨y3, ey3, hN⟩ := hb_some hN
  obtain ⟨h4, eh4, R⟩ := xw_I R ey3
  refine ex_b eh4 ?_
  obtain ⟨v5, ev5, hN⟩ := hb_some hN
  refine ex_b (xr_I R ev5) ?_
  obtain ⟨v6, ev6, hN⟩ := hb_some hN
  refine ex_b (xr_I R ev6) ?_
  obtain ⟨u7, eu7, hN⟩ := hb_some hN
  refine ex_b (xr_Is R eu7) ?_
  obtain ⟨q8, eq8, hN⟩ := hb_some hN
  obtain ⟨h9, eh9, R⟩ := x_Reckoner_follow R eq8
  refine ex_b eh9 ?_
  refine ex_if (fun c10 => ?_) (fun c10 => ?_)
  · have hN := hif_t hN c10
    obtain rfl := Option.some.inj hN
    exact ⟨_, rfl, R⟩
  · have hN := hif_f hN c10
    refine ex_if (fun c11 => ?_) (fun c11 => ?_)
    · have hN := hif_t hN c11
      obtain ⟨v12, ev12, hN⟩ := hb_some hN
      refine ex_b (xr_I R ev12) ?_
      obtain ⟨v13, ev13, hN⟩ := hb_some hN
      refine ex_b (xr_I R ev13) ?_
      obtain ⟨u14, eu14, hN⟩ := hb_some hN
      refine ex_b (xr_Is R eu14) ?_
      obtain ⟨q15, eq15, hN⟩ := hb_some hN
      obtain ⟨h16, eh16, R⟩ := x_Reckoner_follow R eq15
      refine ex_b eh16 ?_
      obtain rfl := Option.some.inj hN
      exact ⟨_, rfl, R⟩
    · have hN := hif_f hN c11
      obtain rfl := Option.some.inj hN
      exact ⟨_, rfl, R⟩
