def X_Hauls_init (F : Nat) (s : XS) (x0 : Nat) : Option XS :=
  (some (xNewA s 23 80)).bind fun y1 =>
  (xPutR y1 x0 4 0 (xZ s)).bind fun y3 =>
  some y3
def X_Hauls_has (F : Nat) (s : XS) (x0 : Int32) (x1 : Int32) : Option (Int32 × XS) :=
  if x0 < 0 then (
    some (0, s)
  ) else (
    if 10 ≤ x0 then (
      some (0, s)
    ) else (
      if x1 < 0 then (
        some (0, s)
      ) else (
        if 8 ≤ x1 then (
          some (0, s)
        ) else (
          some (1, s)
        )
      )
    )
  )
def X_Hauls_add (F : Nat) (s : XS) (x0 : Nat) (x1 : Int32) (x2 : Int32) (x3 : Int64) : Option (Int32 × XS) :=
  (X_Hauls_has F s x1 x2).bind fun q1 =>
  if q1.1 = 0 then (
    some (0, q1.2)
  ) else (
    if (lg_cmp x3 1) < 0 then (
      some (0, q1.2)
    ) else (
      if (lg_cmp x3 1000000000) ≤ 0 then (
        if ((x1 * 8) + x2) < 0 then (
          some (1, q1.2)
        ) else (
          (xGetA q1.2 x0 4 0).bind fun v7 =>
          (xLen q1.2 v7).bind fun v8 =>
          if v8 ≤ ((x1 * 8) + x2) then (
            some (1, q1.2)
          ) else (
            (xGetA q1.2 x0 4 0).bind fun v10 =>
            (xLdL q1.2 v10 ((x1 * 8) + x2)).bind fun v11 =>
            (xStL q1.2 v10 ((x1 * 8) + x2) (v11 + x3)).bind fun y12 =>
            some (1, y12)
          )
        )
      ) else (
        some (0, q1.2)
      )
    )
  )
def X_Hauls_gramsOf (F : Nat) (s : XS) (x0 : Nat) (x1 : Int32) (x2 : Int32) : Option (Int64 × XS) :=
  if ((x1 * 8) + x2) < 0 then (
    some (0, s)
  ) else (
    (xGetA s x0 4 0).bind fun v2 =>
    (xLen s v2).bind fun v3 =>
    if v3 ≤ ((x1 * 8) + x2) then (
      some (0, s)
    ) else (
      (xGetA s x0 4 0).bind fun v5 =>
      (xLdL s v5 ((x1 * 8) + x2)).bind fun v6 =>
      some (v6, s)
    )
  )
def BX_Hauls_total_5 (F : Nat) (r5 : XS → Nat → Int32 → Int64 → Int32 → Option (Int64 × XS)) (s : XS) (x0 : Nat) (x1 : Int32) (x2 : Int64) (x4 : Int32) : Option (Int64 × XS) :=
  if 8 ≤ x4 then (
    some (x2, s)
  ) else (
    (xIs s x0 4).bind fun u2 =>
    (X_Hauls_gramsOf F s x0 x1 x4).bind fun q3 =>
    r5 q3.2 x0 x1 (x2 + q3.1) (x4 + 1)
  )
def X_Hauls_total_5 (F : Nat) : Nat → XS → Nat → Int32 → Int64 → Int32 → Option (Int64 × XS)
  | 0 => fun _ _ _ _ _ => none
  | z + 1 => BX_Hauls_total_5 F (X_Hauls_total_5 F z)
def X_Hauls_total (F : Nat) (s : XS) (x0 : Nat) (x1 : Int32) : Option (Int64 × XS) :=
  X_Hauls_total_5 F F s x0 x1 0 0
def BX_Hauls_greatestDivisor_9 (F : Nat) (r9 : XS → Int64 → Int64 → Int32 → Option (Int64 × XS)) (s : XS) (x4 : Int64) (x6 : Int64) (x8 : Int32) : Option (Int64 × XS) :=
  if 200 ≤ x8 then (
    some (x4, s)
  ) else (
    if (lg_cmp x6 0) = 0 then (
      some (x4, s)
    ) else (
      if x6 = 0 then none else
      r9 s x6 (x4 - x4 / x6 * x6) (x8 + 1)
    )
  )
def X_Hauls_greatestDivisor_9 (F : Nat) : Nat → XS → Int64 → Int64 → Int32 → Option (Int64 × XS)
  | 0 => fun _ _ _ _ => none
  | z + 1 => BX_Hauls_greatestDivisor_9 F (X_Hauls_greatestDivisor_9 F z)
def X_Hauls_greatestDivisor (F : Nat) (s : XS) (x0 : Int64) (x2 : Int64) : Option (Int64 × XS) :=
  X_Hauls_greatestDivisor_9 F F s x0 x2 0
def X_Hauls_share (F : Nat) (s : XS) (x0 : Nat) (x1 : Int32) (x2 : Int32) (x3 : Int32) : Option (Int64 × XS) :=
  (X_Hauls_has F s x1 x2).bind fun q1 =>
  if q1.1 = 0 then (
    some ((-1), q1.2)
  ) else (
    if x3 < 0 then (
      some ((-1), q1.2)
    ) else (
      if x3 ≤ 1 then (
        (xIs q1.2 x0 4).bind fun u6 =>
        (X_Hauls_total F q1.2 x0 x1).bind fun q7 =>
        (xIs q7.2 x0 4).bind fun u9 =>
        (X_Hauls_gramsOf F q7.2 x0 x1 x2).bind fun q10 =>
        (X_Hauls_greatestDivisor F q10.2 q7.1 q10.1).bind fun q12 =>
        if (lg_cmp q12.1 0) = 0 then (
          some ((-1), q12.2)
        ) else (
          if x3 = 0 then (
            if q12.1 = 0 then none else
            some ((q10.1 / q12.1), q12.2)
          ) else (
            if q12.1 = 0 then none else
            some ((q7.1 / q12.1), q12.2)
          )
        )
      ) else (
        some ((-1), q1.2)
      )
    )
  )
set_option maxHeartbeats 1000000 in
set_option maxRecDepth 100000 in
theorem x_Hauls_init {F : Nat} {h : hH} {s : XS} {x0 : Nat} {q : XS} (R : RepX h s) (hN : X_Hauls_init F s x0 = some q) : ∃ h2, M_Hauls_init F h x0 = some h2 ∧ RepX h2 q := by
  unfold X_Hauls_init at hN
  unfold M_Hauls_init
  obtain ⟨y1, ey1, hN⟩ := hb_some hN
  obtain ⟨h2, eh2, R, zy1⟩ := xw_newL (n := 80) R
  rw [Option.some.inj ey1] at R
  refine ev_b eh2 ?_
  try rw [zy1]
  obtain ⟨y3, ey3, hN⟩ := hb_some hN
  obtain ⟨h4, eh4, R⟩ := xw_R R ey3
  refine ev_b eh4 ?_
  obtain rfl := Option.some.inj hN
  exact ⟨_, rfl, R⟩
set_option maxHeartbeats 1000000 in
set_option maxRecDepth 100000 in
theorem x_Hauls_has {F : Nat} {h : hH} {s : XS} {x0 : Int32} {x1 : Int32} {q : (Int32 × XS)} (R : RepX h s) (hN : X_Hauls_has F s x0 x1 = some q) : ∃ h2, M_Hauls_has F h x0 x1 = some (q.1, h2) ∧ RepX h2 q.2 := by
  unfold X_Hauls_has at hN
  unfold M_Hauls_has
  refine ex_if (fun c1 => ?_) (fun c1 => ?_)
  · have hN := hif_t hN c1
    obtain rfl := Option.some.inj hN
    exact ⟨_, rfl, R⟩
  · have hN := hif_f hN c1
    refine ex_if (fun c2 => ?_) (fun c2 => ?_)
    · have hN := hif_t hN c2
      obtain rfl := Option.some.inj hN
      exact ⟨_, rfl, R⟩
    · have hN := hif_f hN c2
      refine ex_if (fun c3 => ?_) (fun c3 => ?_)
      · have hN := hif_t hN c3
        obtain rfl := Option.some.inj hN
        exact ⟨_, rfl, R⟩
      · have hN := hif_f hN c3
        refine ex_if (fun c4 => ?_) (fun c4 => ?_)
        · have hN := hif_t hN c4
          obtain rfl := Option.some.inj hN
          exact ⟨_, rfl, R⟩
        · have hN := hif_f hN c4
          obtain rfl := Option.some.inj hN
          exact ⟨_, rfl, R⟩
set_option maxHeartbeats 1000000 in
set_option maxRecDepth 100000 in
theorem x_Hauls_add {F : Nat} {h : hH} {s : XS} {x0 : Nat} {x1 : Int32} {x2 : Int32} {x3 : Int64} {q : (Int32 × XS)} (R : RepX h s) (hN : X_Hauls_add F s x0 x1 x2 x3 = some q) : ∃ h2, M_Hauls_add F h x0 x1 x2 x3 = some (q.1, h2) ∧ RepX h2 q.2 := by
  unfold X_Hauls_add at hN
  unfold M_Hauls_add
  obtain ⟨q1, eq1, hN⟩ := hb_some hN
  obtain ⟨h2, eh2, R⟩ := x_Hauls_has R eq1
  refine ex_b eh2 ?_
  refine ex_if (fun c3 => ?_) (fun c3 => ?_)
  · have hN := hif_t hN c3
    obtain rfl := Option.some.inj hN
    exact ⟨_, rfl, R⟩
  · have hN := hif_f hN c3
    refine ex_if (fun c4 => ?_) (fun c4 => ?_)
    · have hN := hif_t hN c4
      obtain rfl := Option.some.inj hN
      exact ⟨_, rfl, R⟩
    · have hN := hif_f hN c4
      refine ex_if (fun c5 => ?_) (fun c5 => ?_)
      · have hN := hif_t hN c5
        refine ex_if (fun c6 => ?_) (fun c6 => ?_)
        · have hN := hif_t hN c6
          obtain rfl := Option.some.inj hN
          exact ⟨_, rfl, R⟩
        · have hN := hif_f hN c6
          obtain ⟨v7, ev7, hN⟩ := hb_some hN
          refine ex_b (xr_A R ev7) ?_
          obtain ⟨v8, ev8, hN⟩ := hb_some hN
          refine ex_b (xr_Len R ev8) ?_
          refine ex_if (fun c9 => ?_) (fun c9 => ?_)
          · have hN := hif_t hN c9
            obtain rfl := Option.some.inj hN
            exact ⟨_, rfl, R⟩
          · have hN := hif_f hN c9
            obtain ⟨v10, ev10, hN⟩ := hb_some hN
            refine ex_b (xr_A R ev10) ?_
            obtain ⟨v11, ev11, hN⟩ := hb_some hN
            refine ex_b (xr_LdL R ev11) ?_
            obtain ⟨y12, ey12, hN⟩ := hb_some hN
            obtain ⟨h13, eh13, R⟩ := xw_StL R ey12
            refine ex_b eh13 ?_
            obtain rfl := Option.some.inj hN
            exact ⟨_, rfl, R⟩
      · have hN := hif_f hN c5
        obtain rfl := Option.some.inj hN
        exact ⟨_, rfl, R⟩
set_option maxHeartbeats 1000000 in
set_option maxRecDepth 100000 in
theorem x_Hauls_gramsOf {F : Nat} {h : hH} {s : XS} {x0 : Nat} {x1 : Int32} {x2 : Int32} {q : (Int64 × XS)} (R : RepX h s) (hN : X_Hauls_gramsOf F s x0 x1 x2 = some q) : ∃ h2, M_Hauls_gramsOf F h x0 x1 x2 = some (q.1, h2) ∧ RepX h2 q.2 := by
  unfold X_Hauls_gramsOf at hN
  unfold M_Hauls_gramsOf
  refine ex_if (fun c1 => ?_) (fun c1 => ?_)
  · have hN := hif_t hN c1
    obtain rfl := Option.some.inj hN
    exact ⟨_, rfl, R⟩
  · have hN := hif_f hN c1
    obtain ⟨v2, ev2, hN⟩ := hb_some hN
    refine ex_b (xr_A R ev2) ?_
    obtain ⟨v3, ev3, hN⟩ := hb_some hN
    refine ex_b (xr_Len R ev3) ?_
    refine ex_if (fun c4 => ?_) (fun c4 => ?_)
    · have hN := hif_t hN c4
      obtain rfl := Option.some.inj hN
      exact ⟨_, rfl, R⟩
    · have hN := hif_f hN c4
      obtain ⟨v5, ev5, hN⟩ := hb_some hN
      refine ex_b (xr_A R ev5) ?_
      obtain ⟨v6, ev6, hN⟩ := hb_some hN
      refine ex_b (xr_LdL R ev6) ?_
      obtain rfl := Option.some.inj hN
      exact ⟨_, rfl, R⟩
set_option maxHeartbeats 1000000 in
set_option maxRecDepth 100000 in
theorem bx_Hauls_total_5 {F : Nat} {m5 : hH → Nat → Int32 → Int64 → Int32 → Option (Int64 × hH)} {r5 : XS → Nat → Int32 → Int64 → Int32 → Option (Int64 × XS)} (P5 : ∀ (h : hH) (s : XS) (x0 : Nat) (x1 : Int32) (x2 : Int64) (x4 : Int32) (q : (Int64 × XS)), RepX h s → r5 s x0 x1 x2 x4 = some q → ∃ h2, m5 h x0 x1 x2 x4 = some (q.1, h2) ∧ RepX h2 q.2) : ∀ (h : hH) (s : XS) (x0 : Nat) (x1 : Int32) (x2 : Int64) (x4 : Int32) (q : (Int64 × XS)), RepX h s → BX_Hauls_total_5 F r5 s x0 x1 x2 x4 = some q → ∃ h2, B_Hauls_total_5 F m5 h x0 x1 x2 x4 = some (q.1, h2) ∧ RepX h2 q.2 := by
  intro h s x0 x1 x2 x4 q R hN
  unfold BX_Hauls_total_5 at hN
  unfold B_Hauls_total_5
  refine ex_if (fun c1 => ?_) (fun c1 => ?_)
  · have hN := hif_t hN c1
    obtain rfl := Option.some.inj hN
    exact ⟨_, rfl, R⟩
  · have hN := hif_f hN c1
    obtain ⟨u2, eu2, hN⟩ := hb_some hN
    refine ex_b (xr_Is R eu2) ?_
    obtain ⟨q3, eq3, hN⟩ := hb_some hN
    obtain ⟨h4, eh4, R⟩ := x_Hauls_gramsOf R eq3
    refine ex_b eh4 ?_
    exact P5 _ _ _ _ _ _ _ R hN
theorem x_Hauls_total_5 {F : Nat} : ∀ z : Nat, ∀ (h : hH) (s : XS) (x0 : Nat) (x1 : Int32) (x2 : Int64) (x4 : Int32) (q : (Int64 × XS)), RepX h s → X_Hauls_total_5 F z s x0 x1 x2 x4 = some q → ∃ h2, M_Hauls_total_5 F z h x0 x1 x2 x4 = some (q.1, h2) ∧ RepX h2 q.2 := by
  intro z
  induction z with
  | zero => intro h s x0 x1 x2 x4 q R hN; exact absurd (show (none : Option _) = some q from hN) (fun t => by cases t)
  | succ z ih => exact bx_Hauls_total_5 ih
set_option maxHeartbeats 1000000 in
set_option maxRecDepth 100000 in
theorem x_Hauls_total {F : Nat} {h : hH} {s : XS} {x0 : Nat} {x1 : Int32} {q : (Int64 × XS)} (R : RepX h s) (hN : X_Hauls_total F s x0 x1 = some q) : ∃ h2, M_Hauls_total F h x0 x1 = some (q.1, h2) ∧ RepX h2 q.2 := by
  unfold X_Hauls_total at hN
  unfold M_Hauls_total
  exact x_Hauls_total_5 F _ _ _ _ _ _ _ R hN
set_option maxHeartbeats 1000000 in
set_option maxRecDepth 100000 in
theorem bx_Hauls_greatestDivisor_9 {F : Nat} {m9 : hH → Int64 → Int64 → Int32 → Option (Int64 × hH)} {r9 : XS → Int64 → Int64 → Int32 → Option (Int64 × XS)} (P9 : ∀ (h : hH) (s : XS) (x4 : Int64) (x6 : Int64) (x8 : Int32) (q : (Int64 × XS)), RepX h s → r9 s x4 x6 x8 = some q → ∃ h2, m9 h x4 x6 x8 = some (q.1, h2) ∧ RepX h2 q.2) : ∀ (h : hH) (s : XS) (x4 : Int64) (x6 : Int64) (x8 : Int32) (q : (Int64 × XS)), RepX h s → BX_Hauls_greatestDivisor_9 F r9 s x4 x6 x8 = some q → ∃ h2, B_Hauls_greatestDivisor_9 F m9 h x4 x6 x8 = some (q.1, h2) ∧ RepX h2 q.2 := by
  intro h s x4 x6 x8 q R hN
  unfold BX_Hauls_greatestDivisor_9 at hN
  unfold B_Hauls_greatestDivisor_9
  refine ex_if (fun c1 => ?_) (fun c1 => ?_)
  · have hN := hif_t hN c1
    obtain rfl := Option.some.inj hN
    exact ⟨_, rfl, R⟩
  · have hN := hif_f hN c1
    refine ex_if (fun c2 => ?_) (fun c2 => ?_)
    · have hN := hif_t hN c2
      obtain rfl := Option.some.inj hN
      exact ⟨_, rfl, R⟩
    · have hN := hif_f hN c2
      obtain ⟨c3, hN⟩ := hnz hN
      refine ex_if0 c3 ?_
      exact P9 _ _ _ _ _ _ R hN
theorem x_Hauls_greatestDivisor_9 {F : Nat} : ∀ z : Nat, ∀ (h : hH) (s : XS) (x4 : Int64) (x6 : Int64) (x8 : Int32) (q : (Int64 × XS)), RepX h s → X_Hauls_greatestDivisor_9 F z s x4 x6 x8 = some q → ∃ h2, M_Hauls_greatestDivisor_9 F z h x4 x6 x8 = some (q.1, h2) ∧ RepX h2 q.2 := by
  intro z
  induction z with
  | zero => intro h s x4 x6 x8 q R hN; exact absurd (show (none : Option _) = some q from hN) (fun t => by cases t)
  | succ z ih => exact bx_Hauls_greatestDivisor_9 ih
set_option maxHeartbeats 1000000 in
set_option maxRecDepth 100000 in
theorem x_Hauls_greatestDivisor {F : Nat} {h : hH} {s : XS} {x0 : Int64} {x2 : Int64} {q : (Int64 × XS)} (R : RepX h s) (hN : X_Hauls_greatestDivisor F s x0 x2 = some q) : ∃ h2, M_Hauls_greatestDivisor F h x0 x2 = some (q.1, h2) ∧ RepX h2 q.2 := by
  unfold X_Hauls_greatestDivisor at hN
  unfold M_Hauls_greatestDivisor
  exact x_Hauls_greatestDivisor_9 F _ _ _ _ _ _ R hN
set_option maxHeartbeats 1000000 in
set_option maxRecDepth 100000 in
theorem x_Hauls_share {F : Nat} {h : hH} {s : XS} {x0 : Nat} {x1 : Int32} {x2 : Int32} {x3 : Int32} {q : (Int64 × XS)} (R : RepX h s) (hN : X_Hauls_share F s x0 x1 x2 x3 = some q) : ∃ h2, M_Hauls_share F h x0 x1 x2 x3 = some (q.1, h2) ∧ RepX h2 q.2 := by
  unfold X_Hauls_share at hN
  unfold M_Hauls_share
  obtain ⟨q1, eq1, hN⟩ := hb_some hN
  obtain ⟨h2, eh2, R⟩ := x_Hauls_has R eq1
  refine ex_b eh2 ?_
  refine ex_if (fun c3 => ?_) (fun c3 => ?_)
  · have hN := hif_t hN c3
    obtain rfl := Option.some.inj hN
    exact ⟨_, rfl, R⟩
  · have hN := hif_f hN c3
    refine ex_if (fun c4 => ?_) (fun c4 => ?_)
    · have hN := hif_t hN c4
      obtain rfl := Option.some.inj hN
      exact ⟨_, rfl, R⟩
    · have hN := hif_f hN c4
      refine ex_if (fun c5 => ?_) (fun c5 => ?_)
      · have hN := hif_t hN c5
        obtain ⟨u6, eu6, hN⟩ := hb_some hN
        refine ex_b (xr_Is R eu6) ?_
        obtain ⟨q7, eq7, hN⟩ := hb_some hN
        obtain ⟨h8, eh8, R⟩ := x_Hauls_total R eq7
        refine ex_b eh8 ?_
        obtain ⟨u9, eu9, hN⟩ := hb_some hN
        refine ex_b (xr_Is R eu9) ?_
        obtain ⟨q10, eq10, hN⟩ := hb_some hN
        obtain ⟨h11, eh11, R⟩ := x_Hauls_gramsOf R eq10
        refine ex_b eh11 ?_
        obtain ⟨q12, eq12, hN⟩ := hb_some hN
        obtain ⟨h13, eh13, R⟩ := x_Hauls_greatestDivisor R eq12
        refine ex_b eh13 ?_
        refine ex_if (fun c14 => ?_) (fun c14 => ?_)
        · have hN := hif_t hN c14
          obtain rfl := Option.some.inj hN
          exact ⟨_, rfl, R⟩
        · have hN := hif_f hN c14
          refine ex_if (fun c15 => ?_) (fun c15 => ?_)
          · have hN := hif_t hN c15
            obtain ⟨c17, hN⟩ := hnz hN
            refine ex_if0 c17 ?_
            obtain rfl := Option.some.inj hN
            exact ⟨_, rfl, R⟩
          · have hN := hif_f hN c15
            obtain ⟨c16, hN⟩ := hnz hN
            refine ex_if0 c16 ?_
            obtain rfl := Option.some.inj hN
            exact ⟨_, rfl, R⟩
      · have hN := hif_f hN c5
        obtain rfl := Option.some.inj hN
        exact ⟨_, rfl, R⟩
