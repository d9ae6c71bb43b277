def X_Tables_init (F : Nat) (s : XS) (x0 : Nat) : Option XS :=
  (some (xNewA s 20 80)).bind fun y1 =>
  (xPutR y1 x0 8 0 (xZ s)).bind fun y3 =>
  (some (xNewA y3 20 8)).bind fun y5 =>
  (xPutR y5 x0 8 1 (xZ y3)).bind fun y7 =>
  (xPutI y7 x0 8 2 0).bind fun y9 =>
  some y9
def X_Tables_begin (F : Nat) (s : XS) (x0 : Nat) : Option (Int32 × XS) :=
  (xGetI s x0 8 2).bind fun v1 =>
  if v1 < 0 then (
    some (0, s)
  ) else (
    (xGetI s x0 8 2).bind fun v3 =>
    (xGetA s x0 8 1).bind fun v4 =>
    (xLen s v4).bind fun v5 =>
    if v3 < v5 then (
      (xGetA s x0 8 1).bind fun v7 =>
      (xGetI s x0 8 2).bind fun v8 =>
      (xStI s v7 v8 0).bind fun y9 =>
      (xGetI y9 x0 8 2).bind fun v11 =>
      (xPutI y9 x0 8 2 (v11 + 1)).bind fun y12 =>
      some (1, y12)
    ) else (
      some (0, s)
    )
  )
def X_Tables_lastSize (F : Nat) (s : XS) (x0 : Nat) : Option (Int32 × XS) :=
  (xGetI s x0 8 2).bind fun v1 =>
  if (v1 - 1) < 0 then (
    some (0, s)
  ) else (
    (xGetA s x0 8 1).bind fun v3 =>
    (xLen s v3).bind fun v4 =>
    if v4 ≤ (v1 - 1) then (
      some (0, s)
    ) else (
      (xGetA s x0 8 1).bind fun v6 =>
      (xLdI s v6 20 (v1 - 1)).bind fun v7 =>
      some (v7, s)
    )
  )
def X_Tables_addNumber (F : Nat) (s : XS) (x0 : Nat) (x1 : Int32) : Option (Int32 × XS) :=
  (xGetI s x0 8 2).bind fun v1 =>
  (xIs s x0 8).bind fun u2 =>
  (X_Tables_lastSize F s x0).bind fun q3 =>
  if (v1 - 1) < 0 then (
    some (0, q3.2)
  ) else (
    (xGetA q3.2 x0 8 1).bind fun v6 =>
    (xLen q3.2 v6).bind fun v7 =>
    if v7 ≤ (v1 - 1) then (
      some (0, q3.2)
    ) else (
      if 10 ≤ q3.1 then (
        some (0, q3.2)
      ) else (
        if (((v1 - 1) * 10) + q3.1) < 0 then (
          some (0, q3.2)
        ) else (
          (xGetA q3.2 x0 8 0).bind fun v11 =>
          (xLen q3.2 v11).bind fun v12 =>
          if (((v1 - 1) * 10) + q3.1) < v12 then (
            (xGetA q3.2 x0 8 0).bind fun v14 =>
            (xStI q3.2 v14 (((v1 - 1) * 10) + q3.1) x1).bind fun y15 =>
            (xGetA y15 x0 8 1).bind fun v17 =>
            (xStI y15 v17 (v1 - 1) (q3.1 + 1)).bind fun y18 =>
            some (1, y18)
          ) else (
            some (0, q3.2)
          )
        )
      )
    )
  )
def X_Tables_numberAt (F : Nat) (s : XS) (x0 : Nat) (x1 : Int32) (x2 : Int64) : Option (Int32 × XS) :=
  if x1 < 0 then (
    some ((-1), s)
  ) else (
    (xGetI s x0 8 2).bind fun v2 =>
    if v2 ≤ x1 then (
      some ((-1), s)
    ) else (
      (xGetA s x0 8 1).bind fun v4 =>
      (xLen s v4).bind fun v5 =>
      if v5 ≤ x1 then (
        some ((-1), s)
      ) else (
        if (lg_cmp x2 0) < 0 then (
          some ((-1), s)
        ) else (
          (xGetA s x0 8 1).bind fun v8 =>
          (xLdI s v8 20 x1).bind fun v9 =>
          if (lg_cmp x2 v9.toInt64) < 0 then (
            if ((x1 * 10) + x2.toInt32) < 0 then (
              some ((-1), s)
            ) else (
              (xGetA s x0 8 0).bind fun v12 =>
              (xLen s v12).bind fun v13 =>
              if v13 ≤ ((x1 * 10) + x2.toInt32) then (
                some ((-1), s)
              ) else (
                (xGetA s x0 8 0).bind fun v15 =>
                (xLdI s v15 20 ((x1 * 10) + x2.toInt32)).bind fun v16 =>
                some (v16, s)
              )
            )
          ) else (
            some ((-1), s)
          )
        )
      )
    )
  )
def X_Tables_clear (F : Nat) (s : XS) (x0 : Nat) : Option XS :=
  (xPutI s x0 8 2 0).bind fun y1 =>
  some y1
set_option maxHeartbeats 1000000 in
set_option maxRecDepth 100000 in
theorem x_Tables_init {F : Nat} {h : hH} {s : XS} {x0 : Nat} {q : XS} (R : RepX h s) (hN : X_Tables_init F s x0 = some q) : ∃ h2, M_Tables_init F h x0 = some h2 ∧ RepX h2 q := by
  unfold X_Tables_init at hN
  unfold M_Tables_init
  obtain ⟨y1, ey1, hN⟩ := hb_some hN
  obtain ⟨h2, eh2, R, zy1⟩ := xw_newI (n := 80) R
  rw [Option.some.inj ey1] at R
  refine ev_b eh2 ?_
  try rw [zy1]
  obtain ⟨y3, ey3, hN⟩ := hb_some hN
  obtain ⟨h4, eh4, R⟩ := xw_R R ey3
  refine ev_b eh4 ?_
  obtain ⟨y5, ey5, hN⟩ := hb_some hN
  obtain ⟨h6, eh6, R, zy5⟩ := xw_newI (n := 8) R
  rw [Option.some.inj ey5] at R
  refine ev_b eh6 ?_
  try rw [zy5]
  obtain ⟨y7, ey7, hN⟩ := hb_some hN
  obtain ⟨h8, eh8, R⟩ := xw_R R ey7
  refine ev_b eh8 ?_
  obtain ⟨y9, ey9, hN⟩ := hb_some hN
  obtain ⟨h10, eh10, R⟩ := xw_I R ey9
  refine ev_b eh10 ?_
  obtain rfl := Option.some.inj hN
  exact ⟨_, rfl, R⟩
set_option maxHeartbeats 1000000 in
set_option maxRecDepth 100000 in
theorem x_Tables_begin {F : Nat} {h : hH} {s : XS} {x0 : Nat} {q : (Int32 × XS)} (R : RepX h s) (hN : X_Tables_begin F s x0 = some q) : ∃ h2, M_Tables_begin F h x0 = some (q.1, h2) ∧ RepX h2 q.2 := by
  unfold X_Tables_begin at hN
  unfold M_Tables_begin
  obtain ⟨v1, ev1, hN⟩ := hb_some hN
  refine ex_b (xr_I R ev1) ?_
  refine ex_if (fun c2 => ?_) (fun c2 => ?_)
  · have hN := hif_t hN c2
    obtain rfl := Option.some.inj hN
    exact ⟨_, rfl, R⟩
  · have hN := hif_f hN c2
    obtain ⟨v3, ev3, hN⟩ := hb_some hN
    refine ex_b (xr_I R ev3) ?_
    obtain ⟨v4, ev4, hN⟩ := hb_some hN
    refine ex_b (xr_A R ev4) ?_
    obtain ⟨v5, ev5, hN⟩ := hb_some hN
    refine ex_b (xr_Len R ev5) ?_
    refine ex_if (fun c6 => ?_) (fun c6 => ?_)
    · have hN := hif_t hN c6
      obtain ⟨v7, ev7, hN⟩ := hb_some hN
      refine ex_b (xr_A R ev7) ?_
      obtain ⟨v8, ev8, hN⟩ := hb_some hN
      refine ex_b (xr_I R ev8) ?_
      obtain ⟨y9, ey9, hN⟩ := hb_some hN
      obtain ⟨h10, eh10, R⟩ := xw_StI R ey9
      refine ex_b eh10 ?_
      obtain ⟨v11, ev11, hN⟩ := hb_some hN
      refine ex_b (xr_I R ev11) ?_
      obtain ⟨y12, ey12, hN⟩ := hb_some hN
      obtain ⟨h13, eh13, R⟩ := xw_I R ey12
      refine ex_b eh13 ?_
      obtain rfl := Option.some.inj hN
      exact ⟨_, rfl, R⟩
    · have hN := hif_f hN c6
      obtain rfl := Option.some.inj hN
      exact ⟨_, rfl, R⟩
set_option maxHeartbeats 1000000 in
set_option maxRecDepth 100000 in
theorem x_Tables_lastSize {F : Nat} {h : hH} {s : XS} {x0 : Nat} {q : (Int32 × XS)} (R : RepX h s) (hN : X_Tables_lastSize F s x0 = some q) : ∃ h2, M_Tables_lastSize F h x0 = some (q.1, h2) ∧ RepX h2 q.2 := by
  unfold X_Tables_lastSize at hN
  unfold M_Tables_lastSize
  obtain ⟨v1, ev1, hN⟩ := hb_some hN
  refine ex_b (xr_I R ev1) ?_
  refine ex_if (fun c2 => ?_) (fun c2 => ?_)
  · have hN := hif_t hN c2
    obtain rfl := Option.some.inj hN
    exact ⟨_, rfl, R⟩
  · have hN := hif_f hN c2
    obtain ⟨v3, ev3, hN⟩ := hb_some hN
    refine ex_b (xr_A R ev3) ?_
    obtain ⟨v4, ev4, hN⟩ := hb_some hN
    refine ex_b (xr_Len R ev4) ?_
    refine ex_if (fun c5 => ?_) (fun c5 => ?_)
    · have hN := hif_t hN c5
      obtain rfl := Option.some.inj hN
      exact ⟨_, rfl, R⟩
    · have hN := hif_f hN c5
      obtain ⟨v6, ev6, hN⟩ := hb_some hN
      refine ex_b (xr_A R ev6) ?_
      obtain ⟨v7, ev7, hN⟩ := hb_some hN
      refine ex_b (xr_LdI R ev7) ?_
      obtain rfl := Option.some.inj hN
      exact ⟨_, rfl, R⟩
set_option maxHeartbeats 1000000 in
set_option maxRecDepth 100000 in
theorem x_Tables_addNumber {F : Nat} {h : hH} {s : XS} {x0 : Nat} {x1 : Int32} {q : (Int32 × XS)} (R : RepX h s) (hN : X_Tables_addNumber F s x0 x1 = some q) : ∃ h2, M_Tables_addNumber F h x0 x1 = some (q.1, h2) ∧ RepX h2 q.2 := by
  unfold X_Tables_addNumber at hN
  unfold M_Tables_addNumber
  obtain ⟨v1, ev1, hN⟩ := hb_some hN
  refine ex_b (xr_I R ev1) ?_
  obtain ⟨u2, eu2, hN⟩ := hb_some hN
  refine ex_b (xr_Is R eu2) ?_
  obtain ⟨q3, eq3, hN⟩ := hb_some hN
  obtain ⟨h4, eh4, R⟩ := x_Tables_lastSize R eq3
  refine ex_b eh4 ?_
  refine ex_if (fun c5 => ?_) (fun c5 => ?_)
  · have hN := hif_t hN c5
    obtain rfl := Option.some.inj hN
    exact ⟨_, rfl, R⟩
  · have hN := hif_f hN c5
    obtain ⟨v6, ev6, hN⟩ := hb_some hN
    refine ex_b (xr_A R ev6) ?_
    obtain ⟨v7, ev7, hN⟩ := hb_some hN
    refine ex_b (xr_Len R ev7) ?_
    refine ex_if (fun c8 => ?_) (fun c8 => ?_)
    · have hN := hif_t hN c8
      obtain rfl := Option.some.inj hN
      exact ⟨_, rfl, R⟩
    · have hN := hif_f hN c8
      refine ex_if (fun c9 => ?_) (fun c9 => ?_)
      · have hN := hif_t hN c9
        obtain rfl := Option.some.inj hN
        exact ⟨_, rfl, R⟩
      · have hN := hif_f hN c9
        refine ex_if (fun c10 => ?_) (fun c10 => ?_)
        · have hN := hif_t hN c10
          obtain rfl := Option.some.inj hN
          exact ⟨_, rfl, R⟩
        · have hN := hif_f hN c10
          obtain ⟨v11, ev11, hN⟩ := hb_some hN
          refine ex_b (xr_A R ev11) ?_
          obtain ⟨v12, ev12, hN⟩ := hb_some hN
          refine ex_b (xr_Len R ev12) ?_
          refine ex_if (fun c13 => ?_) (fun c13 => ?_)
          · have hN := hif_t hN c13
            obtain ⟨v14, ev14, hN⟩ := hb_some hN
            refine ex_b (xr_A R ev14) ?_
            obtain ⟨y15, ey15, hN⟩ := hb_some hN
            obtain ⟨h16, eh16, R⟩ := xw_StI R ey15
            refine ex_b eh16 ?_
            obtain ⟨v17, ev17, hN⟩ := hb_some hN
            refine ex_b (xr_A R ev17) ?_
            obtain ⟨y18, ey18, hN⟩ := hb_some hN
            obtain ⟨h19, eh19, R⟩ := xw_StI R ey18
            refine ex_b eh19 ?_
            obtain rfl := Option.some.inj hN
            exact ⟨_, rfl, R⟩
          · have hN := hif_f hN c13
            obtain rfl := Option.some.inj hN
            exact ⟨_, rfl, R⟩
set_option maxHeartbeats 1000000 in
set_option maxRecDepth 100000 in
theorem x_Tables_numberAt {F : Nat} {h : hH} {s : XS} {x0 : Nat} {x1 : Int32} {x2 : Int64} {q : (Int32 × XS)} (R : RepX h s) (hN : X_Tables_numberAt F s x0 x1 x2 = some q) : ∃ h2, M_Tables_numberAt F h x0 x1 x2 = some (q.1, h2) ∧ RepX h2 q.2 := by
  unfold X_Tables_numberAt at hN
  unfold M_Tables_numberAt
  refine ex_if (fun c1 => ?_) (fun c1 => ?_)
  · have hN := hif_t hN c1
    obtain rfl := Option.some.inj hN
    exact ⟨_, rfl, R⟩
  · have hN := hif_f hN c1
    obtain ⟨v2, ev2, hN⟩ := hb_some hN
    refine ex_b (xr_I R ev2) ?_
    refine ex_if (fun c3 => ?_) (fun c3 => ?_)
    · have hN := hif_t hN c3
      obtain rfl := Option.some.inj hN
      exact ⟨_, rfl, R⟩
    · have hN := hif_f hN c3
      obtain ⟨v4, ev4, hN⟩ := hb_some hN
      refine ex_b (xr_A R ev4) ?_
      obtain ⟨v5, ev5, hN⟩ := hb_some hN
      refine ex_b (xr_Len R ev5) ?_
      refine ex_if (fun c6 => ?_) (fun c6 => ?_)
      · have hN := hif_t hN c6
        obtain rfl := Option.some.inj hN
        exact ⟨_, rfl, R⟩
      · have hN := hif_f hN c6
        refine ex_if (fun c7 => ?_) (fun c7 => ?_)
        · have hN := hif_t hN c7
          obtain rfl := Option.some.inj hN
          exact ⟨_, rfl, R⟩
        · have hN := hif_f hN c7
          obtain ⟨v8, ev8, hN⟩ := hb_some hN
          refine ex_b (xr_A R ev8) ?_
          obtain ⟨v9, ev9, hN⟩ := hb_some hN
          refine ex_b (xr_LdI R ev9) ?_
          refine ex_if (fun c10 => ?_) (fun c10 => ?_)
          · have hN := hif_t hN c10
            refine ex_if (fun c11 => ?_) (fun c11 => ?_)
            · have hN := hif_t hN c11
              obtain rfl := Option.some.inj hN
              exact ⟨_, rfl, R⟩
            · have hN := hif_f hN c11
              obtain ⟨v12, ev12, hN⟩ := hb_some hN
              refine ex_b (xr_A R ev12) ?_
              obtain ⟨v13, ev13, hN⟩ := hb_some hN
              refine ex_b (xr_Len R ev13) ?_
              refine ex_if (fun c14 => ?_) (fun c14 => ?_)
              · have hN := hif_t hN c14
                obtain rfl := Option.some.inj hN
                exact ⟨_, rfl, R⟩
              · have hN := hif_f hN c14
                obtain ⟨v15, ev15, hN⟩ := hb_some hN
                refine ex_b (xr_A R ev15) ?_
                obtain ⟨v16, ev16, hN⟩ := hb_some hN
                refine ex_b (xr_LdI R ev16) ?_
                obtain rfl := Option.some.inj hN
                exact ⟨_, rfl, R⟩
          · have hN := hif_f hN c10
            obtain rfl := Option.some.inj hN
            exact ⟨_, rfl, R⟩
set_option maxHeartbeats 1000000 in
set_option maxRecDepth 100000 in
theorem x_Tables_clear {F : Nat} {h : hH} {s : XS} {x0 : Nat} {q : XS} (R : RepX h s) (hN : X_Tables_clear F s x0 = some q) : ∃ h2, M_Tables_clear F h x0 = some h2 ∧ RepX h2 q := by
  unfold X_Tables_clear at hN
  unfold M_Tables_clear
  obtain ⟨y1, ey1, hN⟩ := hb_some hN
  obtain ⟨h2, eh2, R⟩ := xw_I R ey1
  refine ev_b eh2 ?_
  obtain rfl := Option.some.inj hN
  exact ⟨_, rfl, R⟩
