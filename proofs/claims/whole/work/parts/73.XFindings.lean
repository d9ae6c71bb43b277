def X_Findings_init (F : Nat) (s : XS) (x0 : Nat) : Option XS :=
  (some (xNewA s 20 12)).bind fun y1 =>
  (xPutR y1 x0 3 0 (xZ s)).bind fun y3 =>
  (some (xNewA y3 20 12)).bind fun y5 =>
  (xPutR y5 x0 3 1 (xZ y3)).bind fun y7 =>
  (some (xNewA y7 20 12)).bind fun y9 =>
  (xPutR y9 x0 3 2 (xZ y7)).bind fun y11 =>
  (some (xNewA y11 20 12)).bind fun y13 =>
  (xPutR y13 x0 3 3 (xZ y11)).bind fun y15 =>
  (xPutI y15 x0 3 4 0).bind fun y17 =>
  some y17
def X_Findings_clear (F : Nat) (s : XS) (x0 : Nat) : Option XS :=
  (xPutI s x0 3 4 0).bind fun y1 =>
  some y1
def X_Findings_add (F : Nat) (s : XS) (x0 : Nat) (x1 : Int32) (x2 : Int32) (x3 : Int32) (x4 : Int32) : Option XS :=
  (xGetI s x0 3 4).bind fun v1 =>
  if v1 < 0 then (
    some s
  ) else (
    (xGetI s x0 3 4).bind fun v3 =>
    if 12 ≤ v3 then (
      some s
    ) else (
      (xGetA s x0 3 0).bind fun v5 =>
      (xGetI s x0 3 4).bind fun v6 =>
      (xStI s v5 v6 x1).bind fun y7 =>
      (xGetA y7 x0 3 1).bind fun v9 =>
      (xGetI y7 x0 3 4).bind fun v10 =>
      (xStI y7 v9 v10 x2).bind fun y11 =>
      (xGetA y11 x0 3 2).bind fun v13 =>
      (xGetI y11 x0 3 4).bind fun v14 =>
      (xStI y11 v13 v14 x3).bind fun y15 =>
      (xGetA y15 x0 3 3).bind fun v17 =>
      (xGetI y15 x0 3 4).bind fun v18 =>
      (xStI y15 v17 v18 x4).bind fun y19 =>
      (xGetI y19 x0 3 4).bind fun v21 =>
      (xPutI y19 x0 3 4 (v21 + 1)).bind fun y22 =>
      some y22
    )
  )
def X_Findings_has (F : Nat) (s : XS) (x0 : Nat) (x1 : Int32) : Option (Int32 × XS) :=
  if x1 < 0 then (
    some (0, s)
  ) else (
    (xGetI s x0 3 4).bind fun v2 =>
    if v2 ≤ x1 then (
      some (0, s)
    ) else (
      if 12 ≤ x1 then (
        some (0, s)
      ) else (
        some (1, s)
      )
    )
  )
def X_Findings_outcomeOf (F : Nat) (s : XS) (x0 : Nat) (x1 : Int32) : Option (Int32 × XS) :=
  (xIs s x0 3).bind fun u1 =>
  (X_Findings_has F s x0 x1).bind fun q2 =>
  if q2.1 = 0 then (
    some ((-1), q2.2)
  ) else (
    (xGetA q2.2 x0 3 0).bind fun v5 =>
    (xLdI q2.2 v5 20 x1).bind fun v6 =>
    some (v6, q2.2)
  )
def X_Findings_reasonOf (F : Nat) (s : XS) (x0 : Nat) (x1 : Int32) : Option (Int32 × XS) :=
  (xIs s x0 3).bind fun u1 =>
  (X_Findings_has F s x0 x1).bind fun q2 =>
  if q2.1 = 0 then (
    some ((-1), q2.2)
  ) else (
    (xGetA q2.2 x0 3 1).bind fun v5 =>
    (xLdI q2.2 v5 20 x1).bind fun v6 =>
    some (v6, q2.2)
  )
def X_Findings_untoldOf (F : Nat) (s : XS) (x0 : Nat) (x1 : Int32) : Option (Int32 × XS) :=
  (xIs s x0 3).bind fun u1 =>
  (X_Findings_has F s x0 x1).bind fun q2 =>
  if q2.1 = 0 then (
    some ((-1), q2.2)
  ) else (
    (xGetA q2.2 x0 3 2).bind fun v5 =>
    (xLdI q2.2 v5 20 x1).bind fun v6 =>
    some (v6, q2.2)
  )
def X_Findings_firstWordOf (F : Nat) (s : XS) (x0 : Nat) (x1 : Int32) : Option (Int32 × XS) :=
  (xIs s x0 3).bind fun u1 =>
  (X_Findings_has F s x0 x1).bind fun q2 =>
  if q2.1 = 0 then (
    some ((-1), q2.2)
  ) else (
    (xGetA q2.2 x0 3 3).bind fun v5 =>
    (xLdI q2.2 v5 20 x1).bind fun v6 =>
    some (v6, q2.2)
  )
def X_Findings_rankedAs_35 (F : Nat) (r5 : XS → Nat → Int32 → Int32 → Int32 → Int32 → Option (Int32 × XS)) (s : XS) (x0 : Nat) (x1 : Int32) (x2 : Int32) (x3 : Int32) (x4 : Int32) : Option (Int32 × XS) :=
  r5 s x0 x1 x2 x3 (x4 + 1)
def BX_Findings_rankedAs_5 (F : Nat) (r5 : XS → Nat → Int32 → Int32 → Int32 → Int32 → Option (Int32 × XS)) (s : XS) (x0 : Nat) (x1 : Int32) (x2 : Int32) (x3 : Int32) (x4 : Int32) : Option (Int32 × XS) :=
  (xGetI s x0 3 4).bind fun v1 =>
  if v1 ≤ x4 then (
    some ((-1), s)
  ) else (
    (xIs s x0 3).bind fun u3 =>
    (X_Findings_outcomeOf F s x0 x4).bind fun q4 =>
    if q4.1 = x1 then (
      if x3 = x2 then (
        some (x4, q4.2)
      ) else (
        X_Findings_rankedAs_35 F r5 q4.2 x0 x1 x2 (x3 + 1) x4
      )
    ) else (
      X_Findings_rankedAs_35 F r5 q4.2 x0 x1 x2 x3 x4
    )
  )
def X_Findings_rankedAs_5 (F : Nat) : Nat → XS → Nat → Int32 → Int32 → Int32 → Int32 → Option (Int32 × XS)
  | 0 => fun _ _ _ _ _ _ => none
  | z + 1 => BX_Findings_rankedAs_5 F (X_Findings_rankedAs_5 F z)
def X_Findings_rankedAs (F : Nat) (s : XS) (x0 : Nat) (x1 : Int32) (x2 : Int32) : Option (Int32 × XS) :=
  X_Findings_rankedAs_5 F F s x0 x1 x2 0 0
def X_Findings_answer (F : Nat) (s : XS) (x0 : Nat) : Option (Int32 × XS) :=
  (xIs s x0 3).bind fun u1 =>
  (X_Findings_rankedAs F s x0 1 0).bind fun q2 =>
  if q2.1 = (-1) then (
    (xIs q2.2 x0 3).bind fun u5 =>
    (X_Findings_rankedAs F q2.2 x0 2 0).bind fun q6 =>
    if q6.1 = (-1) then (
      some (0, q6.2)
    ) else (
      some ((-1), q6.2)
    )
  ) else (
    some ((1 + q2.1), q2.2)
  )
set_option maxHeartbeats 1000000 in
set_option maxRecDepth 100000 in
theorem x_Findings_init {F : Nat} {h : hH} {s : XS} {x0 : Nat} {q : XS} (R : RepX h s) (hN : X_Findings_init F s x0 = some q) : ∃ h2, M_Findings_init F h x0 = some h2 ∧ RepX h2 q := by
  unfold X_Findings_init at hN
  unfold M_Findings_init
  obtain ⟨y1, ey1, hN⟩ := hb_some hN
  obtain ⟨h2, eh2, R, zy1⟩ := xw_newI (n := 12) R
  rw [Option.some.inj ey1] at R
  refine ev_b eh2 ?_
  try rw [zy1]
  obtain ⟨y3, ey3, hN⟩ := hb_some hN
  obtain ⟨h4, eh4, R⟩ := xw_R R ey3
  refine ev_b eh4 ?_
  obtain ⟨y5, ey5, hN⟩ := hb_some hN
  obtain ⟨h6, eh6, R, zy5⟩ := xw_newI (n := 12) R
  rw [Option.some.inj ey5] at R
  refine ev_b eh6 ?_
  try rw [zy5]
  obtain ⟨y7, ey7, hN⟩ := hb_some hN
  obtain ⟨h8, eh8, R⟩ := xw_R R ey7
  refine ev_b eh8 ?_
  obtain ⟨y9, ey9, hN⟩ := hb_some hN
  obtain ⟨h10, eh10, R, zy9⟩ := xw_newI (n := 12) R
  rw [Option.some.inj ey9] at R
  refine ev_b eh10 ?_
  try rw [zy9]
  obtain ⟨y11, ey11, hN⟩ := hb_some hN
  obtain ⟨h12, eh12, R⟩ := xw_R R ey11
  refine ev_b eh12 ?_
  obtain ⟨y13, ey13, hN⟩ := hb_some hN
  obtain ⟨h14, eh14, R, zy13⟩ := xw_newI (n := 12) R
  rw [Option.some.inj ey13] at R
  refine ev_b eh14 ?_
  try rw [zy13]
  obtain ⟨y15, ey15, hN⟩ := hb_some hN
  obtain ⟨h16, eh16, R⟩ := xw_R R ey15
  refine ev_b eh16 ?_
  obtain ⟨y17, ey17, hN⟩ := hb_some hN
  obtain ⟨h18, eh18, R⟩ := xw_I R ey17
  refine ev_b eh18 ?_
  obtain rfl := Option.some.inj hN
  exact ⟨_, rfl, R⟩
set_option maxHeartbeats 1000000 in
set_option maxRecDepth 100000 in
theorem x_Findings_clear {F : Nat} {h : hH} {s : XS} {x0 : Nat} {q : XS} (R : RepX h s) (hN : X_Findings_clear F s x0 = some q) : ∃ h2, M_Findings_clear F h x0 = some h2 ∧ RepX h2 q := by
  unfold X_Findings_clear at hN
  unfold M_Findings_clear
  obtain ⟨y1, ey1, hN⟩ := hb_some hN
  obtain ⟨h2, eh2, R⟩ := xw_I R ey1
  refine ev_b eh2 ?_
  obtain rfl := Option.some.inj hN
  exact ⟨_, rfl, R⟩
set_option maxHeartbeats 1000000 in
set_option maxRecDepth 100000 in
theorem x_Findings_add {F : Nat} {h : hH} {s : XS} {x0 : Nat} {x1 : Int32} {x2 : Int32} {x3 : Int32} {x4 : Int32} {q : XS} (R : RepX h s) (hN : X_Findings_add F s x0 x1 x2 x3 x4 = some q) : ∃ h2, M_Findings_add F h x0 x1 x2 x3 x4 = some h2 ∧ RepX h2 q := by
  unfold X_Findings_add at hN
  unfold M_Findings_add
  obtain ⟨v1, ev1, hN⟩ := hb_some hN
  refine ev_b (xr_I R ev1) ?_
  refine ev_if (fun c2 => ?_) (fun c2 => ?_)
  · have hN := hif_t hN c2
    obtain rfl := Option.some.inj hN
    exact ⟨_, rfl, R⟩
  · have hN := hif_f hN c2
    obtain ⟨v3, ev3, hN⟩ := hb_some hN
    refine ev_b (xr_I R ev3) ?_
    refine ev_if (fun c4 => ?_) (fun c4 => ?_)
    · have hN := hif_t hN c4
      obtain rfl := Option.some.inj hN
      exact ⟨_, rfl, R⟩
    · have hN := hif_f hN c4
      obtain ⟨v5, ev5, hN⟩ := hb_some hN
      refine ev_b (xr_A R ev5) ?_
      obtain ⟨v6, ev6, hN⟩ := hb_some hN
      refine ev_b (xr_I R ev6) ?_
      obtain ⟨y7, ey7, hN⟩ := hb_some hN
      obtain ⟨h8, eh8, R⟩ := xw_StI R ey7
      refine ev_b eh8 ?_
      obtain ⟨v9, ev9, hN⟩ := hb_some hN
      refine ev_b (xr_A R ev9) ?_
      obtain ⟨v10, ev10, hN⟩ := hb_some hN
      refine ev_b (xr_I R ev10) ?_
      obtain ⟨y11, ey11, hN⟩ := hb_some hN
      obtain ⟨h12, eh12, R⟩ := xw_StI R ey11
      refine ev_b eh12 ?_
      obtain ⟨v13, ev13, hN⟩ := hb_some hN
      refine ev_b (xr_A R ev13) ?_
      obtain ⟨v14, ev14, hN⟩ := hb_some hN
      refine ev_b (xr_I R ev14) ?_
      obtain ⟨y15, ey15, hN⟩ := hb_some hN
      obtain ⟨h16, eh16, R⟩ := xw_StI R ey15
      refine ev_b eh16 ?_
      obtain ⟨v17, ev17, hN⟩ := hb_some hN
      refine ev_b (xr_A R ev17) ?_
      obtain ⟨v18, ev18, hN⟩ := hb_some hN
      refine ev_b (xr_I R ev18) ?_
      obtain ⟨y19, ey19, hN⟩ := hb_some hN
      obtain ⟨h20, eh20, R⟩ := xw_StI R ey19
      refine ev_b eh20 ?_
      obtain ⟨v21, ev21, hN⟩ := hb_some hN
      refine ev_b (xr_I R ev21) ?_
      obtain ⟨y22, ey22, hN⟩ := hb_some hN
      obtain ⟨h23, eh23, R⟩ := xw_I R ey22
      refine ev_b eh23 ?_
      obtain rfl := Option.some.inj hN
      exact ⟨_, rfl, R⟩
set_option maxHeartbeats 1000000 in
set_option maxRecDepth 100000 in
theorem x_Findings_has {F : Nat} {h : hH} {s : XS} {x0 : Nat} {x1 : Int32} {q : (Int32 × XS)} (R : RepX h s) (hN : X_Findings_has F s x0 x1 = some q) : ∃ h2, M_Findings_has F h x0 x1 = some (q.1, h2) ∧ RepX h2 q.2 := by
  unfold X_Findings_has at hN
  unfold M_Findings_has
  refine ex_if (fun c1 => ?_) (fun c1 => ?_)
  · have hN := hif_t hN c1
    obtain rfl := Option.some.inj hN
    exact ⟨_, rfl, R⟩
  · have hN := hif_f hN c1
    obtain ⟨v2, ev2, hN⟩ := hb_some hN
    refine ex_b (xr_I R ev2) ?_
    refine ex_if (fun c3 => ?_) (fun c3 => ?_)
    · have hN := hif_t hN c3
      obtain rfl := Option.some.inj hN
      exact ⟨_, rfl, R⟩
    · have hN := hif_f hN c3
      refine ex_if (fun c4 => ?_) (fun c4 => ?_)
      · have hN := hif_t hN c4
        obtain rfl := Option.some.inj hN
        exact ⟨_, rfl, R⟩
      · have hN := hif_f hN c4
        obtain rfl := Option.some.inj hN
        exact ⟨_, rfl, R⟩
set_option maxHeartbeats 1000000 in
set_option maxRecDepth 100000 in
theorem x_Findings_outcomeOf {F : Nat} {h : hH} {s : XS} {x0 : Nat} {x1 : Int32} {q : (Int32 × XS)} (R : RepX h s) (hN : X_Findings_outcomeOf F s x0 x1 = some q) : ∃ h2, M_Findings_outcomeOf F h x0 x1 = some (q.1, h2) ∧ RepX h2 q.2 := by
  unfold X_Findings_outcomeOf at hN
  unfold M_Findings_outcomeOf
  obtain ⟨u1, eu1, hN⟩ := hb_some hN
  refine ex_b (xr_Is R eu1) ?_
  obtain ⟨q2, eq2, hN⟩ := hb_some hN
  obtain ⟨h3, eh3, R⟩ := x_Findings_has R eq2
  refine ex_b eh3 ?_
  refine ex_if (fun c4 => ?_) (fun c4 => ?_)
  · have hN := hif_t hN c4
    obtain rfl := Option.some.inj hN
    exact ⟨_, rfl, R⟩
  · have hN := hif_f hN c4
    obtain ⟨v5, ev5, hN⟩ := hb_some hN
    refine ex_b (xr_A R ev5) ?_
    obtain ⟨v6, ev6, hN⟩ := hb_some hN
    refine ex_b (xr_LdI R ev6) ?_
    obtain rfl := Option.some.inj hN
    exact ⟨_, rfl, R⟩
set_option maxHeartbeats 1000000 in
set_option maxRecDepth 100000 in
theorem x_Findings_reasonOf {F : Nat} {h : hH} {s : XS} {x0 : Nat} {x1 : Int32} {q : (Int32 × XS)} (R : RepX h s) (hN : X_Findings_reasonOf F s x0 x1 = some q) : ∃ h2, M_Findings_reasonOf F h x0 x1 = some (q.1, h2) ∧ RepX h2 q.2 := by
  unfold X_Findings_reasonOf at hN
  unfold M_Findings_reasonOf
  obtain ⟨u1, eu1, hN⟩ := hb_some hN
  refine ex_b (xr_Is R eu1) ?_
  obtain ⟨q2, eq2, hN⟩ := hb_some hN
  obtain ⟨h3, eh3, R⟩ := x_Findings_has R eq2
  refine ex_b eh3 ?_
  refine ex_if (fun c4 => ?_) (fun c4 => ?_)
  · have hN := hif_t hN c4
    obtain rfl := Option.some.inj hN
    exact ⟨_, rfl, R⟩
  · have hN := hif_f hN c4
    obtain ⟨v5, ev5, hN⟩ := hb_some hN
    refine ex_b (xr_A R ev5) ?_
    obtain ⟨v6, ev6, hN⟩ := hb_some hN
    refine ex_b (xr_LdI R ev6) ?_
    obtain rfl := Option.some.inj hN
    exact ⟨_, rfl, R⟩
set_option maxHeartbeats 1000000 in
set_option maxRecDepth 100000 in
theorem x_Findings_untoldOf {F : Nat} {h : hH} {s : XS} {x0 : Nat} {x1 : Int32} {q : (Int32 × XS)} (R : RepX h s) (hN : X_Findings_untoldOf F s x0 x1 = some q) : ∃ h2, M_Findings_untoldOf F h x0 x1 = some (q.1, h2) ∧ RepX h2 q.2 := by
  unfold X_Findings_untoldOf at hN
  unfold M_Findings_untoldOf
  obtain ⟨u1, eu1, hN⟩ := hb_some hN
  refine ex_b (xr_Is R eu1) ?_
  obtain ⟨q2, eq2, hN⟩ := hb_some hN
  obtain ⟨h3, eh3, R⟩ := x_Findings_has R eq2
  refine ex_b eh3 ?_
  refine ex_if (fun c4 => ?_) (fun c4 => ?_)
  · have hN := hif_t hN c4
    obtain rfl := Option.some.inj hN
    exact ⟨_, rfl, R⟩
  · have hN := hif_f hN c4
    obtain ⟨v5, ev5, hN⟩ := hb_some hN
    refine ex_b (xr_A R ev5) ?_
    obtain ⟨v6, ev6, hN⟩ := hb_some hN
    refine ex_b (xr_LdI R ev6) ?_
    obtain rfl := Option.some.inj hN
    exact ⟨_, rfl, R⟩
set_option maxHeartbeats 1000000 in
set_option maxRecDepth 100000 in
theorem x_Findings_firstWordOf {F : Nat} {h : hH} {s : XS} {x0 : Nat} {x1 : Int32} {q : (Int32 × XS)} (R : RepX h s) (hN : X_Findings_firstWordOf F s x0 x1 = some q) : ∃ h2, M_Findings_firstWordOf F h x0 x1 = some (q.1, h2) ∧ RepX h2 q.2 := by
  unfold X_Findings_firstWordOf at hN
  unfold M_Findings_firstWordOf
  obtain ⟨u1, eu1, hN⟩ := hb_some hN
  refine ex_b (xr_Is R eu1) ?_
  obtain ⟨q2, eq2, hN⟩ := hb_some hN
  obtain ⟨h3, eh3, R⟩ := x_Findings_has R eq2
  refine ex_b eh3 ?_
  refine ex_if (fun c4 => ?_) (fun c4 => ?_)
  · have hN := hif_t hN c4
    obtain rfl := Option.some.inj hN
    exact ⟨_, rfl, R⟩
  · have hN := hif_f hN c4
    obtain ⟨v5, ev5, hN⟩ := hb_some hN
    refine ex_b (xr_A R ev5) ?_
    obtain ⟨v6, ev6, hN⟩ := hb_some hN
    refine ex_b (xr_LdI R ev6) ?_
    obtain rfl := Option.some.inj hN
    exact ⟨_, rfl, R⟩
set_option maxHeartbeats 1000000 in
set_option maxRecDepth 100000 in
theorem x_Findings_rankedAs_35 {F : Nat} {m5 : hH → Nat → Int32 → Int32 → Int32 → Int32 → Option (Int32 × hH)} {r5 : XS → Nat → Int32 → Int32 → Int32 → Int32 → Option (Int32 × XS)} (P5 : ∀ (h : hH) (s : XS) (x0 : Nat) (x1 : Int32) (x2 : Int32) (x3 : Int32) (x4 : Int32) (q : (Int32 × XS)), RepX h s → r5 s x0 x1 x2 x3 x4 = some q → ∃ h2, m5 h x0 x1 x2 x3 x4 = some (q.1, h2) ∧ RepX h2 q.2) : ∀ (h : hH) (s : XS) (x0 : Nat) (x1 : Int32) (x2 : Int32) (x3 : Int32) (x4 : Int32) (q : (Int32 × XS)), RepX h s → X_Findings_rankedAs_35 F r5 s x0 x1 x2 x3 x4 = some q → ∃ h2, M_Findings_rankedAs_35 F m5 h x0 x1 x2 x3 x4 = some (q.1, h2) ∧ RepX h2 q.2 := by
  intro h s x0 x1 x2 x3 x4 q R hN
  unfold X_Findings_rankedAs_35 at hN
  unfold M_Findings_rankedAs_35
  exact P5 _ _ _ _ _ _ _ _ R hN
set_option maxHeartbeats 1000000 in
set_option maxRecDepth 100000 in
theorem bx_Findings_rankedAs_5 {F : Nat} {m5 : hH → Nat → Int32 → Int32 → Int32 → Int32 → Option (Int32 × hH)} {r5 : XS → Nat → Int32 → Int32 → Int32 → Int32 → Option (Int32 × XS)} (P5 : ∀ (h : hH) (s : XS) (x0 : Nat) (x1 : Int32) (x2 : Int32) (x3 : Int32) (x4 : Int32) (q : (Int32 × XS)), RepX h s → r5 s x0 x1 x2 x3 x4 = some q → ∃ h2, m5 h x0 x1 x2 x3 x4 = some (q.1, h2) ∧ RepX h2 q.2) : ∀ (h : hH) (s : XS) (x0 : Nat) (x1 : Int32) (x2 : Int32) (x3 : Int32) (x4 : Int32) (q : (Int32 × XS)), RepX h s → BX_Findings_rankedAs_5 F r5 s x0 x1 x2 x3 x4 = some q → ∃ h2, B_Findings_rankedAs_5 F m5 h x0 x1 x2 x3 x4 = some (q.1, h2) ∧ RepX h2 q.2 := by
  intro h s x0 x1 x2 x3 x4 q R hN
  unfold BX_Findings_rankedAs_5 at hN
  unfold B_Findings_rankedAs_5
  obtain ⟨v1, ev1, hN⟩ := hb_some hN
  refine ex_b (xr_I R ev1) ?_
  refine ex_if (fun c2 => ?_) (fun c2 => ?_)
  · have hN := hif_t hN c2
    obtain rfl := Option.some.inj hN
    exact ⟨_, rfl, R⟩
  · have hN := hif_f hN c2
    obtain ⟨u3, eu3, hN⟩ := hb_some hN
    refine ex_b (xr_Is R eu3) ?_
    obtain ⟨q4, eq4, hN⟩ := hb_some hN
    obtain ⟨h5, eh5, R⟩ := x_Findings_outcomeOf R eq4
    refine ex_b eh5 ?_
    refine ex_if (fun c6 => ?_) (fun c6 => ?_)
    · have hN := hif_t hN c6
      refine ex_if (fun c7 => ?_) (fun c7 => ?_)
      · have hN := hif_t hN c7
        obtain rfl := Option.some.inj hN
        exact ⟨_, rfl, R⟩
      · have hN := hif_f hN c7
        exact x_Findings_rankedAs_35 P5 _ _ _ _ _ _ _ _ R hN
    · have hN := hif_f hN c6
      exact x_Findings_rankedAs_35 P5 _ _ _ _ _ _ _ _ R hN
theorem x_Findings_rankedAs_5 {F : Nat} : ∀ z : Nat, ∀ (h : hH) (s : XS) (x0 : Nat) (x1 : Int32) (x2 : Int32) (x3 : Int32) (x4 : Int32) (q : (Int32 × XS)), RepX h s → X_Findings_rankedAs_5 F z s x0 x1 x2 x3 x4 = some q → ∃ h2, M_Findings_rankedAs_5 F z h x0 x1 x2 x3 x4 = some (q.1, h2) ∧ RepX h2 q.2 := by
  intro z
  induction z with
  | zero => intro h s x0 x1 x2 x3 x4 q R hN; exact absurd (show (none : Option _) = some q from hN) (fun t => by cases t)
  | succ z ih => exact bx_Findings_rankedAs_5 ih
set_option maxHeartbeats 1000000 in
set_option maxRecDepth 100000 in
theorem x_Findings_rankedAs {F : Nat} {h : hH} {s : XS} {x0 : Nat} {x1 : Int32} {x2 : Int32} {q : (Int32 × XS)} (R : RepX h s) (hN : X_Findings_rankedAs F s x0 x1 x2 = some q) : ∃ h2, M_Findings_rankedAs F h x0 x1 x2 = some (q.1, h2) ∧ RepX h2 q.2 := by
  unfold X_Findings_rankedAs at hN
  unfold M_Findings_rankedAs
  exact x_Findings_rankedAs_5 F _ _ _ _ _ _ _ _ R hN
set_option maxHeartbeats 1000000 in
set_option maxRecDepth 100000 in
theorem x_Findings_answer {F : Nat} {h : hH} {s : XS} {x0 : Nat} {q : (Int32 × XS)} (R : RepX h s) (hN : X_Findings_answer F s x0 = some q) : ∃ h2, M_Findings_answer F h x0 = some (q.1, h2) ∧ RepX h2 q.2 := by
  unfold X_Findings_answer at hN
  unfold M_Findings_answer
  obtain ⟨u1, eu1, hN⟩ := hb_some hN
  refine ex_b (xr_Is R eu1) ?_
  obtain ⟨q2, eq2, hN⟩ := hb_some hN
  obtain ⟨h3, eh3, R⟩ := x_Findings_rankedAs R eq2
  refine ex_b eh3 ?_
  refine ex_if (fun c4 => ?_) (fun c4 => ?_)
  · have hN := hif_t hN c4
    obtain ⟨u5, eu5, hN⟩ := hb_some hN
    refine ex_b (xr_Is R eu5) ?_
    obtain ⟨q6, eq6, hN⟩ := hb_some hN
    obtain ⟨h7, eh7, R⟩ := x_Findings_rankedAs R eq6
    refine ex_b eh7 ?_
    refine ex_if (fun c8 => ?_) (fun c8 => ?_)
    · have hN := hif_t hN c8
      obtain rfl := Option.some.inj hN
      exact ⟨_, rfl, R⟩
    · have hN := hif_f hN c8
      obtain rfl := Option.some.inj hN
      exact ⟨_, rfl, R⟩
  · have hN := hif_f hN c4
    obtain rfl := Option.some.inj hN
    exact ⟨_, rfl, R⟩
