def X_Steps_init (F : Nat) (s : XS) (x0 : Nat) : Option XS :=
  (some (xNewA s 20 400)).bind fun y1 =>
  (xPutR y1 x0 7 0 (xZ s)).bind fun y3 =>
  (some (xNewA y3 20 400)).bind fun y5 =>
  (xPutR y5 x0 7 1 (xZ y3)).bind fun y7 =>
  (xPutI y7 x0 7 2 0).bind fun y9 =>
  some y9
def X_Steps_add (F : Nat) (s : XS) (x0 : Nat) (x1 : Int32) (x2 : Int32) : Option XS :=
  (xGetI s x0 7 2).bind fun v1 =>
  if v1 < 0 then (
    some s
  ) else (
    (xGetI s x0 7 2).bind fun v3 =>
    (xGetA s x0 7 0).bind fun v4 =>
    (xLen s v4).bind fun v5 =>
    if v5 ≤ v3 then (
      some s
    ) else (
      (xGetI s x0 7 2).bind fun v7 =>
      (xGetA s x0 7 1).bind fun v8 =>
      (xLen s v8).bind fun v9 =>
      if v9 ≤ v7 then (
        some s
      ) else (
        (xGetA s x0 7 0).bind fun v11 =>
        (xGetI s x0 7 2).bind fun v12 =>
        (xStI s v11 v12 x1).bind fun y13 =>
        (xGetA y13 x0 7 1).bind fun v15 =>
        (xGetI y13 x0 7 2).bind fun v16 =>
        (xStI y13 v15 v16 x2).bind fun y17 =>
        (xGetI y17 x0 7 2).bind fun v19 =>
        (xPutI y17 x0 7 2 (v19 + 1)).bind fun y20 =>
        some y20
      )
    )
  )
def X_Steps_kindAt (F : Nat) (s : XS) (x0 : Nat) (x1 : Int32) : Option (Int32 × XS) :=
  if x1 < 0 then (
    some ((-1), s)
  ) else (
    (xGetI s x0 7 2).bind fun v2 =>
    if v2 ≤ x1 then (
      some ((-1), s)
    ) else (
      (xGetA s x0 7 0).bind fun v4 =>
      (xLen s v4).bind fun v5 =>
      if v5 ≤ x1 then (
        some ((-1), s)
      ) else (
        (xGetA s x0 7 0).bind fun v7 =>
        (xLdI s v7 20 x1).bind fun v8 =>
        some (v8, s)
      )
    )
  )
def X_Steps_valueAt (F : Nat) (s : XS) (x0 : Nat) (x1 : Int32) : Option (Int32 × XS) :=
  if x1 < 0 then (
    some ((-1), s)
  ) else (
    (xGetI s x0 7 2).bind fun v2 =>
    if v2 ≤ x1 then (
      some ((-1), s)
    ) else (
      (xGetA s x0 7 1).bind fun v4 =>
      (xLen s v4).bind fun v5 =>
      if v5 ≤ x1 then (
        some ((-1), s)
      ) else (
        (xGetA s x0 7 1).bind fun v7 =>
        (xLdI s v7 20 x1).bind fun v8 =>
        some (v8, s)
      )
    )
  )
def X_Steps_removeLast (F : Nat) (s : XS) (x0 : Nat) : Option XS :=
  (xGetI s x0 7 2).bind fun v1 =>
  if v1 ≤ 0 then (
    some s
  ) else (
    (xGetI s x0 7 2).bind fun v3 =>
    (xPutI s x0 7 2 (v3 - 1)).bind fun y4 =>
    some y4
  )
def X_Steps_clear (F : Nat) (s : XS) (x0 : Nat) : Option XS :=
  (xPutI s x0 7 2 0).bind fun y1 =>
  some y1
def X_Rule_init (F : Nat) (s : XS) (x0 : Nat) (x1 : Int32) (x2 : Int32) : Option XS :=
  (xPutI s x0 6 0 x1).bind fun y1 =>
  (xPutI y1 x0 6 1 x2).bind fun y3 =>
  (xPutI y3 x0 6 2 x1).bind fun y5 =>
  (xPutI y5 x0 6 3 x2).bind fun y7 =>
  (xPutI y7 x0 6 4 x2).bind fun y9 =>
  some y9
set_option maxHeartbeats 1000000 in
set_option maxRecDepth 100000 in
theorem x_Steps_init {F : Nat} {h : hH} {s : XS} {x0 : Nat} {q : XS} (R : RepX h s) (hN : X_Steps_init F s x0 = some q) : ∃ h2, M_Steps_init F h x0 = some h2 ∧ RepX h2 q := by
  unfold X_Steps_init at hN
  unfold M_Steps_init
  obtain ⟨y1, ey1, hN⟩ := hb_some hN
  obtain ⟨h2, eh2, R, zy1⟩ := xw_newI (n := 400) R
  rw [Option.some.inj ey1] at R
  refine ev_b eh2 ?_
  try rw [zy1]
  obtain ⟨y3, ey3, hN⟩ := hb_some hN
  obtain ⟨h4, eh4, R⟩ := xw_R R ey3
  refine ev_b eh4 ?_
  obtain ⟨y5, ey5, hN⟩ := hb_some hN
  obtain ⟨h6, eh6, R, zy5⟩ := xw_newI (n := 400) R
  rw [Option.some.inj ey5] at R
  refine ev_b eh6 ?_
  try rw [zy5]
  obtain ⟨y7, ey7, hN⟩ := hb_some hN
  obtain ⟨h8, eh8, R⟩ := xw_R R ey7
  refine ev_b eh8 ?_
  obtain ⟨y9, ey9, hN⟩ := hb_some hN
  obtain ⟨h10, eh10, R⟩ := xw_I R ey9
  refine ev_b eh10 ?_
  obtain rfl := Option.some.inj hN
  exact ⟨_, rfl, R⟩
set_option maxHeartbeats 1000000 in
set_option maxRecDepth 100000 in
theorem x_Steps_add {F : Nat} {h : hH} {s : XS} {x0 : Nat} {x1 : Int32} {x2 : Int32} {q : XS} (R : RepX h s) (hN : X_Steps_add F s x0 x1 x2 = some q) : ∃ h2, M_Steps_add F h x0 x1 x2 = some h2 ∧ RepX h2 q := by
  unfold X_Steps_add at hN
  unfold M_Steps_add
  obtain ⟨v1, ev1, hN⟩ := hb_some hN
  refine ev_b (xr_I R ev1) ?_
  refine ev_if (fun c2 => ?_) (fun c2 => ?_)
  · have hN := hif_t hN c2
    obtain rfl := Option.some.inj hN
    exact ⟨_, rfl, R⟩
  · have hN := hif_f hN c2
    obtain ⟨v3, ev3, hN⟩ := hb_some hN
    refine ev_b (xr_I R ev3) ?_
    obtain ⟨v4, ev4, hN⟩ := hb_some hN
    refine ev_b (xr_A R ev4) ?_
    obtain ⟨v5, ev5, hN⟩ := hb_some hN
    refine ev_b (xr_Len R ev5) ?_
    refine ev_if (fun c6 => ?_) (fun c6 => ?_)
    · have hN := hif_t hN c6
      obtain rfl := Option.some.inj hN
      exact ⟨_, rfl, R⟩
    · have hN := hif_f hN c6
      obtain ⟨v7, ev7, hN⟩ := hb_some hN
      refine ev_b (xr_I R ev7) ?_
      obtain ⟨v8, ev8, hN⟩ := hb_some hN
      refine ev_b (xr_A R ev8) ?_
      obtain ⟨v9, ev9, hN⟩ := hb_some hN
      refine ev_b (xr_Len R ev9) ?_
      refine ev_if (fun c10 => ?_) (fun c10 => ?_)
      · have hN := hif_t hN c10
        obtain rfl := Option.some.inj hN
        exact ⟨_, rfl, R⟩
      · have hN := hif_f hN c10
        obtain ⟨v11, ev11, hN⟩ := hb_some hN
        refine ev_b (xr_A R ev11) ?_
        obtain ⟨v12, ev12, hN⟩ := hb_some hN
        refine ev_b (xr_I R ev12) ?_
        obtain ⟨y13, ey13, hN⟩ := hb_some hN
        obtain ⟨h14, eh14, R⟩ := xw_StI R ey13
        refine ev_b eh14 ?_
        obtain ⟨v15, ev15, hN⟩ := hb_some hN
        refine ev_b (xr_A R ev15) ?_
        obtain ⟨v16, ev16, hN⟩ := hb_some hN
        refine ev_b (xr_I R ev16) ?_
        obtain ⟨y17, ey17, hN⟩ := hb_some hN
        obtain ⟨h18, eh18, R⟩ := xw_StI R ey17
        refine ev_b eh18 ?_
        obtain ⟨v19, ev19, hN⟩ := hb_some hN
        refine ev_b (xr_I R ev19) ?_
        obtain ⟨y20, ey20, hN⟩ := hb_some hN
        obtain ⟨h21, eh21, R⟩ := xw_I R ey20
        refine ev_b eh21 ?_
        obtain rfl := Option.some.inj hN
        exact ⟨_, rfl, R⟩
set_option maxHeartbeats 1000000 in
set_option maxRecDepth 100000 in
theorem x_Steps_kindAt {F : Nat} {h : hH} {s : XS} {x0 : Nat} {x1 : Int32} {q : (Int32 × XS)} (R : RepX h s) (hN : X_Steps_kindAt F s x0 x1 = some q) : ∃ h2, M_Steps_kindAt F h x0 x1 = some (q.1, h2) ∧ RepX h2 q.2 := by
  unfold X_Steps_kindAt at hN
  unfold M_Steps_kindAt
  refine ex_if (fun c1 => ?_) (fun c1 => ?_)
  · have hN := hif_t hN c1
    obtain rfl := Option.some.inj hN
    exact ⟨_, rfl, R⟩
  · have hN := hif_f hN c1
    obtain ⟨v2, ev2, hN⟩ := hb_some hN
    refine ex_b (xr_I R ev2) ?_
    refine ex_if (fun c3 => ?_) (fun c3 => ?_)
    · have hN := hif_t hN c3
      obtain rfl := Option.some.inj hN
      exact ⟨_, rfl, R⟩
    · have hN := hif_f hN c3
      obtain ⟨v4, ev4, hN⟩ := hb_some hN
      refine ex_b (xr_A R ev4) ?_
      obtain ⟨v5, ev5, hN⟩ := hb_some hN
      refine ex_b (xr_Len R ev5) ?_
      refine ex_if (fun c6 => ?_) (fun c6 => ?_)
      · have hN := hif_t hN c6
        obtain rfl := Option.some.inj hN
        exact ⟨_, rfl, R⟩
      · have hN := hif_f hN c6
        obtain ⟨v7, ev7, hN⟩ := hb_some hN
        refine ex_b (xr_A R ev7) ?_
        obtain ⟨v8, ev8, hN⟩ := hb_some hN
        refine ex_b (xr_LdI R ev8) ?_
        obtain rfl := Option.some.inj hN
        exact ⟨_, rfl, R⟩
set_option maxHeartbeats 1000000 in
set_option maxRecDepth 100000 in
theorem x_Steps_valueAt {F : Nat} {h : hH} {s : XS} {x0 : Nat} {x1 : Int32} {q : (Int32 × XS)} (R : RepX h s) (hN : X_Steps_valueAt F s x0 x1 = some q) : ∃ h2, M_Steps_valueAt F h x0 x1 = some (q.1, h2) ∧ RepX h2 q.2 := by
  unfold X_Steps_valueAt at hN
  unfold M_Steps_valueAt
  refine ex_if (fun c1 => ?_) (fun c1 => ?_)
  · have hN := hif_t hN c1
    obtain rfl := Option.some.inj hN
    exact ⟨_, rfl, R⟩
  · have hN := hif_f hN c1
    obtain ⟨v2, ev2, hN⟩ := hb_some hN
    refine ex_b (xr_I R ev2) ?_
    refine ex_if (fun c3 => ?_) (fun c3 => ?_)
    · have hN := hif_t hN c3
      obtain rfl := Option.some.inj hN
      exact ⟨_, rfl, R⟩
    · have hN := hif_f hN c3
      obtain ⟨v4, ev4, hN⟩ := hb_some hN
      refine ex_b (xr_A R ev4) ?_
      obtain ⟨v5, ev5, hN⟩ := hb_some hN
      refine ex_b (xr_Len R ev5) ?_
      refine ex_if (fun c6 => ?_) (fun c6 => ?_)
      · have hN := hif_t hN c6
        obtain rfl := Option.some.inj hN
        exact ⟨_, rfl, R⟩
      · have hN := hif_f hN c6
        obtain ⟨v7, ev7, hN⟩ := hb_some hN
        refine ex_b (xr_A R ev7) ?_
        obtain ⟨v8, ev8, hN⟩ := hb_some hN
        refine ex_b (xr_LdI R ev8) ?_
        obtain rfl := Option.some.inj hN
        exact ⟨_, rfl, R⟩
set_option maxHeartbeats 1000000 in
set_option maxRecDepth 100000 in
theorem x_Steps_removeLast {F : Nat} {h : hH} {s : XS} {x0 : Nat} {q : XS} (R : RepX h s) (hN : X_Steps_removeLast F s x0 = some q) : ∃ h2, M_Steps_removeLast F h x0 = some h2 ∧ RepX h2 q := by
  unfold X_Steps_removeLast at hN
  unfold M_Steps_removeLast
  obtain ⟨v1, ev1, hN⟩ := hb_some hN
  refine ev_b (xr_I R ev1) ?_
  refine ev_if (fun c2 => ?_) (fun c2 => ?_)
  · have hN := hif_t hN c2
    obtain rfl := Option.some.inj hN
    exact ⟨_, rfl, R⟩
  · have hN := hif_f hN c2
    obtain ⟨v3, ev3, hN⟩ := hb_some hN
    refine ev_b (xr_I R ev3) ?_
    obtain ⟨y4, ey4, hN⟩ := hb_some hN
    obtain ⟨h5, eh5, R⟩ := xw_I R ey4
    refine ev_b eh5 ?_
    obtain rfl := Option.some.inj hN
    exact ⟨_, rfl, R⟩
set_option maxHeartbeats 1000000 in
set_option maxRecDepth 100000 in
theorem x_Steps_clear {F : Nat} {h : hH} {s : XS} {x0 : Nat} {q : XS} (R : RepX h s) (hN : X_Steps_clear F s x0 = some q) : ∃ h2, M_Steps_clear F h x0 = some h2 ∧ RepX h2 q := by
  unfold X_Steps_clear at hN
  unfold M_Steps_clear
  obtain ⟨y1, ey1, hN⟩ := hb_some hN
  obtain ⟨h2, eh2, R⟩ := xw_I R ey1
  refine ev_b eh2 ?_
  obtain rfl := Option.some.inj hN
  exact ⟨_, rfl, R⟩
set_option maxHeartbeats 1000000 in
set_option maxRecDepth 100000 in
theorem x_Rule_init {F : Nat} {h : hH} {s : XS} {x0 : Nat} {x1 : Int32} {x2 : Int32} {q : XS} (R : RepX h s) (hN : X_Rule_init F s x0 x1 x2 = some q) : ∃ h2, M_Rule_init F h x0 x1 x2 = some h2 ∧ RepX h2 q := by
  unfold X_Rule_init at hN
  unfold M_Rule_init
  obtain ⟨y1, ey1, hN⟩ := hb_some hN
  obtain ⟨h2, eh2, R⟩ := xw_I R ey1
  refine ev_b eh2 ?_
  obtain ⟨y3, ey3, hN⟩ := hb_some hN
  obtain ⟨h4, eh4, R⟩ := xw_I R ey3
  refine ev_b eh4 ?_
  obtain ⟨y5, ey5, hN⟩ := hb_some hN
  obtain ⟨h6, eh6, R⟩ := xw_I R ey5
  refine ev_b eh6 ?_
  obtain ⟨y7, ey7, hN⟩ := hb_some hN
  obtain ⟨h8, eh8, R⟩ := xw_I R ey7
  refine ev_b eh8 ?_
  obtain ⟨y9, ey9, hN⟩ := hb_some hN
  obtain ⟨h10, eh10, R⟩ := xw_I R ey9
  refine ev_b eh10 ?_
  obtain rfl := Option.some.inj hN
  exact ⟨_, rfl, R⟩
