def X_Edition_init (F : Nat) (s : XS) (x0 : Nat) : Option XS :=
  (some (xNewO s 10)).bind fun y1 =>
  (X_Words_init F y1 (xZ s)).bind fun q3 =>
  (xPutR q3 x0 1 0 (xZ s)).bind fun y5 =>
  (some (xNewO y5 7)).bind fun y7 =>
  (X_Steps_init F y7 (xZ y5)).bind fun q9 =>
  (xPutR q9 x0 1 1 (xZ y5)).bind fun y11 =>
  (some (xNewO y11 8)).bind fun y13 =>
  (X_Tables_init F y13 (xZ y11)).bind fun q15 =>
  (xPutR q15 x0 1 2 (xZ y11)).bind fun y17 =>
  (some (xNewA y17 46 12)).bind fun y19 =>
  (xPutR y19 x0 1 3 (xZ y17)).bind fun y21 =>
  (xPutI y21 x0 1 4 0).bind fun y23 =>
  (xPutI y23 x0 1 5 0).bind fun y25 =>
  some y25
def X_Edition_clear (F : Nat) (s : XS) (x0 : Nat) : Option XS :=
  (xGetA s x0 1 0).bind fun v1 =>
  (xIs s v1 10).bind fun u2 =>
  (X_Words_clear F s v1).bind fun q3 =>
  (xGetA q3 x0 1 1).bind fun v5 =>
  (xIs q3 v5 7).bind fun u6 =>
  (X_Steps_clear F q3 v5).bind fun q7 =>
  (xGetA q7 x0 1 2).bind fun v9 =>
  (xIs q7 v9 8).bind fun u10 =>
  (X_Tables_clear F q7 v9).bind fun q11 =>
  (xPutI q11 x0 1 4 0).bind fun y13 =>
  some y13
def X_Edition_ruleAt (F : Nat) (s : XS) (x0 : Nat) (x1 : Int32) : Option (Option Nat × XS) :=
  if x1 < 0 then (
    some (none, s)
  ) else (
    (xGetI s x0 1 4).bind fun v2 =>
    if v2 ≤ x1 then (
      some (none, s)
    ) else (
      (xGetA s x0 1 3).bind fun v4 =>
      (xLen s v4).bind fun v5 =>
      if v5 ≤ x1 then (
        some (none, s)
      ) else (
        (xGetA s x0 1 3).bind fun v7 =>
        (xLdO s v7 6 x1).bind fun v8 =>
        some (v8, s)
      )
    )
  )
def X_Edition_beginRule (F : Nat) (s : XS) (x0 : Nat) (x1 : Int32) : Option (Int32 × XS) :=
  (xGetI s x0 1 4).bind fun v1 =>
  if v1 < 0 then (
    some (0, s)
  ) else (
    (xGetI s x0 1 4).bind fun v3 =>
    (xGetA s x0 1 3).bind fun v4 =>
    (xLen s v4).bind fun v5 =>
    if v3 < v5 then (
      (xGetA s x0 1 3).bind fun v7 =>
      (xGetI s x0 1 4).bind fun v8 =>
      (some (xNewO s 6)).bind fun y9 =>
      (xGetA y9 x0 1 1).bind fun v11 =>
      (xGetI y9 v11 7 2).bind fun v12 =>
      (X_Rule_init F y9 (xZ s) x1 v12).bind fun q13 =>
      (xStA q13 v7 6 v8 (xZ s)).bind fun y15 =>
      (xGetI y15 x0 1 4).bind fun v17 =>
      (xPutI y15 x0 1 4 (v17 + 1)).bind fun y18 =>
      some (1, y18)
    ) else (
      some (0, s)
    )
  )
def X_Edition_beginNeed (F : Nat) (s : XS) (x0 : Nat) : Option XS :=
  (xGetI s x0 1 4).bind fun v1 =>
  (xIs s x0 1).bind fun u2 =>
  (X_Edition_ruleAt F s x0 (v1 - 1)).bind fun q3 =>
  hCase q3.1 (
    some q3.2
  ) (fun a6 =>
    (xGetA q3.2 x0 1 1).bind fun v7 =>
    (xGetI q3.2 v7 7 2).bind fun v8 =>
    (xPutI q3.2 a6 6 3 v8).bind fun y9 =>
    some y9
  )
def X_Edition_endRule (F : Nat) (s : XS) (x0 : Nat) (x1 : Int32) : Option XS :=
  (xGetI s x0 1 4).bind fun v1 =>
  (xIs s x0 1).bind fun u2 =>
  (X_Edition_ruleAt F s x0 (v1 - 1)).bind fun q3 =>
  hCase q3.1 (
    some q3.2
  ) (fun a6 =>
    (xPutI q3.2 a6 6 2 x1).bind fun y7 =>
    (xGetA y7 x0 1 1).bind fun v9 =>
    (xGetI y7 v9 7 2).bind fun v10 =>
    (xPutI y7 a6 6 4 v10).bind fun y11 =>
    some y11
  )
set_option maxHeartbeats 1000000 in
set_option maxRecDepth 100000 in
theorem x_Edition_init {F : Nat} {h : hH} {s : XS} {x0 : Nat} {q : XS} (R : RepX h s) (hN : X_Edition_init F s x0 = some q) : ∃ h2, M_Edition_init F h x0 = some h2 ∧ RepX h2 q := by
  unfold X_Edition_init at hN
  unfold M_Edition_init
  obtain ⟨y1, ey1, hN⟩ := hb_some hN
  obtain ⟨h2, eh2, R, zy1⟩ := xw_new (ci := 10) R rfl
  rw [Option.some.inj ey1] at R
  refine ev_b eh2 ?_
  try rw [zy1]
  obtain ⟨q3, eq3, hN⟩ := hb_some hN
  obtain ⟨h4, eh4, R⟩ := x_Words_init R eq3
  refine ev_b eh4 ?_
  obtain ⟨y5, ey5, hN⟩ := hb_some hN
  obtain ⟨h6, eh6, R⟩ := xw_R R ey5
  refine ev_b eh6 ?_
  obtain ⟨y7, ey7, hN⟩ := hb_some hN
  obtain ⟨h8, eh8, R, zy7⟩ := xw_new (ci := 7) R rfl
  rw [Option.some.inj ey7] at R
  refine ev_b eh8 ?_
  try rw [zy7]
  obtain ⟨q9, eq9, hN⟩ := hb_some hN
  obtain ⟨h10, eh10, R⟩ := x_Steps_init R eq9
  refine ev_b eh10 ?_
  obtain ⟨y11, ey11, hN⟩ := hb_some hN
  obtain ⟨h12, eh12, R⟩ := xw_R R ey11
  refine ev_b eh12 ?_
  obtain ⟨y13, ey13, hN⟩ := hb_some hN
  obtain ⟨h14, eh14, R, zy13⟩ := xw_new (ci := 8) R rfl
  rw [Option.some.inj ey13] at R
  refine ev_b eh14 ?_
  try rw [zy13]
  obtain ⟨q15, eq15, hN⟩ := hb_some hN
  obtain ⟨h16, eh16, R⟩ := x_Tables_init R eq15
  refine ev_b eh16 ?_
  obtain ⟨y17, ey17, hN⟩ := hb_some hN
  obtain ⟨h18, eh18, R⟩ := xw_R R ey17
  refine ev_b eh18 ?_
  obtain ⟨y19, ey19, hN⟩ := hb_some hN
  obtain ⟨h20, eh20, R, zy19⟩ := xw_newQ (ci := 6) (n := 12) R rfl
  rw [Option.some.inj ey19] at R
  refine ev_b eh20 ?_
  try rw [zy19]
  obtain ⟨y21, ey21, hN⟩ := hb_some hN
  obtain ⟨h22, eh22, R⟩ := xw_R R ey21
  refine ev_b eh22 ?_
  obtain ⟨y23, ey23, hN⟩ := hb_some hN
  obtain ⟨h24, eh24, R⟩ := xw_I R ey23
  refine ev_b eh24 ?_
  obtain ⟨y25, ey25, hN⟩ := hb_some hN
  obtain ⟨h26, eh26, R⟩ := xw_I R ey25
  refine ev_b eh26 ?_
  obtain rfl := Option.some.inj hN
  exact ⟨_, rfl, R⟩
set_option maxHeartbeats 1000000 in
set_option maxRecDepth 100000 in
theorem x_Edition_clear {F : Nat} {h : hH} {s : XS} {x0 : Nat} {q : XS} (R : RepX h s) (hN : X_Edition_clear F s x0 = some q) : ∃ h2, M_Edition_clear F h x0 = some h2 ∧ RepX h2 q := by
  unfold X_Edition_clear at hN
  unfold M_Edition_clear
  obtain ⟨v1, ev1, hN⟩ := hb_some hN
  refine ev_b (xr_A R ev1) ?_
  obtain ⟨u2, eu2, hN⟩ := hb_some hN
  refine ev_b (xr_Is R eu2) ?_
  obtain ⟨q3, eq3, hN⟩ := hb_some hN
  obtain ⟨h4, eh4, R⟩ := x_Words_clear R eq3
  refine ev_b eh4 ?_
  obtain ⟨v5, ev5, hN⟩ := hb_some hN
  refine ev_b (xr_A R ev5) ?_
  obtain ⟨u6, eu6, hN⟩ := hb_some hN
  refine ev_b (xr_Is R eu6) ?_
  obtain ⟨q7, eq7, hN⟩ := hb_some hN
  obtain ⟨h8, eh8, R⟩ := x_Steps_clear R eq7
  refine ev_b eh8 ?_
  obtain ⟨v9, ev9, hN⟩ := hb_some hN
  refine ev_b (xr_A R ev9) ?_
  obtain ⟨u10, eu10, hN⟩ := hb_some hN
  refine ev_b (xr_Is R eu10) ?_
  obtain ⟨q11, eq11, hN⟩ := hb_some hN
  obtain ⟨h12, eh12, R⟩ := x_Tables_clear R eq11
  refine ev_b eh12 ?_
  obtain ⟨y13, ey13, hN⟩ := hb_some hN
  obtain ⟨h14, eh14, R⟩ := xw_I R ey13
  refine ev_b eh14 ?_
  obtain rfl := Option.some.inj hN
  exact ⟨_, rfl, R⟩
set_option maxHeartbeats 1000000 in
set_option maxRecDepth 100000 in
theorem x_Edition_ruleAt {F : Nat} {h : hH} {s : XS} {x0 : Nat} {x1 : Int32} {q : (Option Nat × XS)} (R : RepX h s) (hN : X_Edition_ruleAt F s x0 x1 = some q) : ∃ h2, M_Edition_ruleAt F h x0 x1 = some (q.1, h2) ∧ RepX h2 q.2 := by
  unfold X_Edition_ruleAt at hN
  unfold M_Edition_ruleAt
  refine ex_if (fun c1 => ?_) (fun c1 => ?_)
  · have hN := hif_t hN c1
    obtain rfl := Option.some.inj hN
    exact ⟨_, rfl, R⟩
  · have hN := hif_f hN c1
    obtain ⟨v2, ev2, hN⟩ := hb_some hN
    refine ex_b (xr_I R ev2) ?_
    refine ex_if (fun c3 => ?_) (fun c3 => ?_)
    · have hN := hif_t hN c3
      obtain rfl := Option.some.inj hN
      exact ⟨_, rfl, R⟩
    · have hN := hif_f hN c3
      obtain ⟨v4, ev4, hN⟩ := hb_some hN
      refine ex_b (xr_A R ev4) ?_
      obtain ⟨v5, ev5, hN⟩ := hb_some hN
      refine ex_b (xr_Len R ev5) ?_
      refine ex_if (fun c6 => ?_) (fun c6 => ?_)
      · have hN := hif_t hN c6
        obtain rfl := Option.some.inj hN
        exact ⟨_, rfl, R⟩
      · have hN := hif_f hN c6
        obtain ⟨v7, ev7, hN⟩ := hb_some hN
        refine ex_b (xr_A R ev7) ?_
        obtain ⟨v8, ev8, hN⟩ := hb_some hN
        refine ex_b (xr_LdO R ev8) ?_
        obtain rfl := Option.some.inj hN
        exact ⟨_, rfl, R⟩
set_option maxHeartbeats 1000000 in
set_option maxRecDepth 100000 in
theorem x_Edition_beginRule {F : Nat} {h : hH} {s : XS} {x0 : Nat} {x1 : Int32} {q : (Int32 × XS)} (R : RepX h s) (hN : X_Edition_beginRule F s x0 x1 = some q) : ∃ h2, M_Edition_beginRule F h x0 x1 = some (q.1, h2) ∧ RepX h2 q.2 := by
  unfold X_Edition_beginRule at hN
  unfold M_Edition_beginRule
  obtain ⟨v1, ev1, hN⟩ := hb_some hN
  refine ex_b (xr_I R ev1) ?_
  refine ex_if (fun c2 => ?_) (fun c2 => ?_)
  · have hN := hif_t hN c2
    obtain rfl := Option.some.inj hN
    exact ⟨_, rfl, R⟩
  · have hN := hif_f hN c2
    obtain ⟨v3, ev3, hN⟩ := hb_some hN
    refine ex_b (xr_I R ev3) ?_
    obtain ⟨v4, ev4, hN⟩ := hb_some hN
    refine ex_b (xr_A R ev4) ?_
    obtain ⟨v5, ev5, hN⟩ := hb_some hN
    refine ex_b (xr_Len R ev5) ?_
    refine ex_if (fun c6 => ?_) (fun c6 => ?_)
    · have hN := hif_t hN c6
      obtain ⟨v7, ev7, hN⟩ := hb_some hN
      refine ex_b (xr_A R ev7) ?_
      obtain ⟨v8, ev8, hN⟩ := hb_some hN
      refine ex_b (xr_I R ev8) ?_
      obtain ⟨y9, ey9, hN⟩ := hb_some hN
      obtain ⟨h10, eh10, R, zy9⟩ := xw_new (ci := 6) R rfl
      rw [Option.some.inj ey9] at R
      refine ex_b eh10 ?_
      try rw [zy9]
      obtain ⟨v11, ev11, hN⟩ := hb_some hN
      refine ex_b (xr_A R ev11) ?_
      obtain ⟨v12, ev12, hN⟩ := hb_some hN
      refine ex_b (xr_I R ev12) ?_
      obtain ⟨q13, eq13, hN⟩ := hb_some hN
      obtain ⟨h14, eh14, R⟩ := x_Rule_init R eq13
      refine ex_b eh14 ?_
      obtain ⟨y15, ey15, hN⟩ := hb_some hN
      obtain ⟨h16, eh16, R⟩ := xw_StA R ey15
      refine ex_b eh16 ?_
      obtain ⟨v17, ev17, hN⟩ := hb_some hN
      refine ex_b (xr_I R ev17) ?_
      obtain ⟨y18, ey18, hN⟩ := hb_some hN
      obtain ⟨h19, eh19, R⟩ := xw_I R ey18
      refine ex_b eh19 ?_
      obtain rfl := Option.some.inj hN
      exact ⟨_, rfl, R⟩
    · have hN := hif_f hN c6
      obtain rfl := Option.some.inj hN
      exact ⟨_, rfl, R⟩
set_option maxHeartbeats 1000000 in
set_option maxRecDepth 100000 in
theorem x_Edition_beginNeed {F : Nat} {h : hH} {s : XS} {x0 : Nat} {q : XS} (R : RepX h s) (hN : X_Edition_beginNeed F s x0 = some q) : ∃ h2, M_Edition_beginNeed F h x0 = some h2 ∧ RepX h2 q := by
  unfold X_Edition_beginNeed at hN
  unfold M_Edition_beginNeed
  obtain ⟨v1, ev1, hN⟩ := hb_some hN
  refine ev_b (xr_I R ev1) ?_
  obtain ⟨u2, eu2, hN⟩ := hb_some hN
  refine ev_b (xr_Is R eu2) ?_
  obtain ⟨q3, eq3, hN⟩ := hb_some hN
  obtain ⟨h4, eh4, R⟩ := x_Edition_ruleAt R eq3
  refine ev_b eh4 ?_
  refine ev_cs (fun c5 => ?_) (fun a6 c5 => ?_)
  · have hN := hc_n hN c5
    obtain rfl := Option.some.inj hN
    exact ⟨_, rfl, R⟩
  · have hN := hc_s hN c5
    obtain ⟨v7, ev7, hN⟩ := hb_some hN
    refine ev_b (xr_A R ev7) ?_
    obtain ⟨v8, ev8, hN⟩ := hb_some hN
    refine ev_b (xr_I R ev8) ?_
    obtain ⟨y9, ey9, hN⟩ := hb_some hN
    obtain ⟨h10, eh10, R⟩ := xw_I R ey9
    refine ev_b eh10 ?_
    obtain rfl := Option.some.inj hN
    exact ⟨_, rfl, R⟩
set_option maxHeartbeats 1000000 in
set_option maxRecDepth 100000 in
theorem x_Edition_endRule {F : Nat} {h : hH} {s : XS} {x0 : Nat} {x1 : Int32} {q : XS} (R : RepX h s) (hN : X_Edition_endRule F s x0 x1 = some q) : ∃ h2, M_Edition_endRule F h x0 x1 = some h2 ∧ RepX h2 q := by
  unfold X_Edition_endRule at hN
  unfold M_Edition_endRule
  obtain ⟨v1, ev1, hN⟩ := hb_some hN
  refine ev_b (xr_I R ev1) ?_
  obtain ⟨u2, eu2, hN⟩ := hb_some hN
  refine ev_b (xr_Is R eu2) ?_
  obtain ⟨q3, eq3, hN⟩ := hb_some hN
  obtain ⟨h4, eh4, R⟩ := x_Edition_ruleAt R eq3
  refine ev_b eh4 ?_
  refine ev_cs (fun c5 => ?_) (fun a6 c5 => ?_)
  · have hN := hc_n hN c5
    obtain rfl := Option.some.inj hN
    exact ⟨_, rfl, R⟩
  · have hN := hc_s hN c5
    obtain ⟨y7, ey7, hN⟩ := hb_some hN
    obtain ⟨h8, eh8, R⟩ := xw_I R ey7
    refine ev_b eh8 ?_
    obtain ⟨v9, ev9, hN⟩ := hb_some hN
    refine ev_b (xr_A R ev9) ?_
    obtain ⟨v10, ev10, hN⟩ := hb_some hN
    refine ev_b (xr_I R ev10) ?_
    obtain ⟨y11, ey11, hN⟩ := hb_some hN
    obtain ⟨h12, eh12, R⟩ := xw_I R ey11
    refine ev_b eh12 ?_
    obtain rfl := Option.some.inj hN
    exact ⟨_, rfl, R⟩
