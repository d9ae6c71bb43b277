def X_Facts_init (F : Nat) (s : XS) (x0 : Nat) : Option XS :=
  (some (xNewA s 23 20)).bind fun y1 =>
  (xPutR y1 x0 2 0 (xZ s)).bind fun y3 =>
  (some (xNewA y3 22 20)).bind fun y5 =>
  (xPutR y5 x0 2 1 (xZ y3)).bind fun y7 =>
  some y7
def X_Facts_has (F : Nat) (s : XS) (x0 : Nat) (x1 : Int32) : Option (Int32 × XS) :=
  if x1 < 0 then (
    some (0, s)
  ) else (
    (xGetA s x0 2 0).bind fun v2 =>
    (xLen s v2).bind fun v3 =>
    if v3 ≤ x1 then (
      some (0, s)
    ) else (
      (xGetA s x0 2 1).bind fun v5 =>
      (xLen s v5).bind fun v6 =>
      if v6 ≤ x1 then (
        some (0, s)
      ) else (
        some (1, s)
      )
    )
  )
def X_Facts_put (F : Nat) (s : XS) (x0 : Nat) (x1 : Int32) (x2 : Int64) (x4 : Int32) : Option XS :=
  (xIs s x0 2).bind fun u1 =>
  (X_Facts_has F s x0 x1).bind fun q2 =>
  if q2.1 = 0 then (
    some q2.2
  ) else (
    (xGetA q2.2 x0 2 0).bind fun v5 =>
    (xStL q2.2 v5 x1 x2).bind fun y6 =>
    (xGetA y6 x0 2 1).bind fun v8 =>
    (xStZ y6 v8 x1 x4).bind fun y9 =>
    some y9
  )
def X_Facts_isTold (F : Nat) (s : XS) (x0 : Nat) (x1 : Int32) : Option (Int32 × XS) :=
  if x1 < 0 then (
    some (0, s)
  ) else (
    (xGetA s x0 2 1).bind fun v2 =>
    (xLen s v2).bind fun v3 =>
    if v3 ≤ x1 then (
      some (0, s)
    ) else (
      (xGetA s x0 2 1).bind fun v5 =>
      (xLdI s v5 22 x1).bind fun v6 =>
      if v6 = 0 then (
        some (0, s)
      ) else (
        some (1, s)
      )
    )
  )
def X_Facts_valueOf (F : Nat) (s : XS) (x0 : Nat) (x1 : Int32) : Option (Int64 × XS) :=
  if x1 < 0 then (
    some (0, s)
  ) else (
    (xGetA s x0 2 0).bind fun v2 =>
    (xLen s v2).bind fun v3 =>
    if v3 ≤ x1 then (
      some (0, s)
    ) else (
      (xGetA s x0 2 0).bind fun v5 =>
      (xLdL s v5 x1).bind fun v6 =>
      some (v6, s)
    )
  )
def X_Facts_clear_25 (F : Nat) (r4 : XS → Nat → Int32 → Int32 → Option (Int32 × XS)) (s : XS) (x0 : Nat) (x1 : Int32) (x2 : Int32) : Option (Int32 × XS) :=
  (xGetA s x0 2 1).bind fun v1 =>
  (xStZ s v1 x2 0).bind fun y2 =>
  r4 y2 x0 x1 (x2 + 1)
def BX_Facts_clear_4 (F : Nat) (r4 : XS → Nat → Int32 → Int32 → Option (Int32 × XS)) (s : XS) (x0 : Nat) (x1 : Int32) (x2 : Int32) : Option (Int32 × XS) :=
  (xGetA s x0 2 1).bind fun v1 =>
  (xLen s v1).bind fun v2 =>
  if v2 ≤ x2 then (
    some (x1, s)
  ) else (
    (xGetA s x0 2 1).bind fun v4 =>
    (xLdI s v4 22 x2).bind fun v5 =>
    if v5 = 0 then (
      X_Facts_clear_25 F r4 s x0 x1 x2
    ) else (
      X_Facts_clear_25 F r4 s x0 (x1 + 1) x2
    )
  )
def X_Facts_clear_4 (F : Nat) : Nat → XS → Nat → Int32 → Int32 → Option (Int32 × XS)
  | 0 => fun _ _ _ _ => none
  | z + 1 => BX_Facts_clear_4 F (X_Facts_clear_4 F z)
def X_Facts_clear (F : Nat) (s : XS) (x0 : Nat) : Option (Int32 × XS) :=
  X_Facts_clear_4 F F s x0 0 0
set_option maxHeartbeats 1000000 in
set_option maxRecDepth 100000 in
theorem x_Facts_init {F : Nat} {h : hH} {s : XS} {x0 : Nat} {q : XS} (R : RepX h s) (hN : X_Facts_init F s x0 = some q) : ∃ h2, M_Facts_init F h x0 = some h2 ∧ RepX h2 q := by
  unfold X_Facts_init at hN
  unfold M_Facts_init
  obtain ⟨y1, ey1, hN⟩ := hb_some hN
  obtain ⟨h2, eh2, R, zy1⟩ := xw_newL (n := 20) R
  rw [Option.some.inj ey1] at R
  refine ev_b eh2 ?_
  try rw [zy1]
  obtain ⟨y3, ey3, hN⟩ := hb_some hN
  obtain ⟨h4, eh4, R⟩ := xw_R R ey3
  refine ev_b eh4 ?_
  obtain ⟨y5, ey5, hN⟩ := hb_some hN
  obtain ⟨h6, eh6, R, zy5⟩ := xw_newZ (n := 20) R
  rw [Option.some.inj ey5] at R
  refine ev_b eh6 ?_
  try rw [zy5]
  obtain ⟨y7, ey7, hN⟩ := hb_some hN
  obtain ⟨h8, eh8, R⟩ := xw_R R ey7
  refine ev_b eh8 ?_
  obtain rfl := Option.some.inj hN
  exact ⟨_, rfl, R⟩
set_option maxHeartbeats 1000000 in
set_option maxRecDepth 100000 in
theorem x_Facts_has {F : Nat} {h : hH} {s : XS} {x0 : Nat} {x1 : Int32} {q : (Int32 × XS)} (R : RepX h s) (hN : X_Facts_has F s x0 x1 = some q) : ∃ h2, M_Facts_has F h x0 x1 = some (q.1, h2) ∧ RepX h2 q.2 := by
  unfold X_Facts_has at hN
  unfold M_Facts_has
  refine ex_if (fun c1 => ?_) (fun c1 => ?_)
  · have hN := hif_t hN c1
    obtain rfl := Option.some.inj hN
    exact ⟨_, rfl, R⟩
  · have hN := hif_f hN c1
    obtain ⟨v2, ev2, hN⟩ := hb_some hN
    refine ex_b (xr_A R ev2) ?_
    obtain ⟨v3, ev3, hN⟩ := hb_some hN
    refine ex_b (xr_Len R ev3) ?_
    refine ex_if (fun c4 => ?_) (fun c4 => ?_)
    · have hN := hif_t hN c4
      obtain rfl := Option.some.inj hN
      exact ⟨_, rfl, R⟩
    · have hN := hif_f hN c4
      obtain ⟨v5, ev5, hN⟩ := hb_some hN
      refine ex_b (xr_A R ev5) ?_
      obtain ⟨v6, ev6, hN⟩ := hb_some hN
      refine ex_b (xr_Len R ev6) ?_
      refine ex_if (fun c7 => ?_) (fun c7 => ?_)
      · have hN := hif_t hN c7
        obtain rfl := Option.some.inj hN
        exact ⟨_, rfl, R⟩
      · have hN := hif_f hN c7
        obtain rfl := Option.some.inj hN
        exact ⟨_, rfl, R⟩
set_option maxHeartbeats 1000000 in
set_option maxRecDepth 100000 in
theorem x_Facts_put {F : Nat} {h : hH} {s : XS} {x0 : Nat} {x1 : Int32} {x2 : Int64} {x4 : Int32} {q : XS} (R : RepX h s) (hN : X_Facts_put F s x0 x1 x2 x4 = some q) : ∃ h2, M_Facts_put F h x0 x1 x2 x4 = some h2 ∧ RepX h2 q := by
  unfold X_Facts_put at hN
  unfold M_Facts_put
  obtain ⟨u1, eu1, hN⟩ := hb_some hN
  refine ev_b (xr_Is R eu1) ?_
  obtain ⟨q2, eq2, hN⟩ := hb_some hN
  obtain ⟨h3, eh3, R⟩ := x_Facts_has R eq2
  refine ev_b eh3 ?_
  refine ev_if (fun c4 => ?_) (fun c4 => ?_)
  · have hN := hif_t hN c4
    obtain rfl := Option.some.inj hN
    exact ⟨_, rfl, R⟩
  · have hN := hif_f hN c4
    obtain ⟨v5, ev5, hN⟩ := hb_some hN
    refine ev_b (xr_A R ev5) ?_
    obtain ⟨y6, ey6, hN⟩ := hb_some hN
    obtain ⟨h7, eh7, R⟩ := xw_StL R ey6
    refine ev_b eh7 ?_
    obtain ⟨v8, ev8, hN⟩ := hb_some hN
    refine ev_b (xr_A R ev8) ?_
    obtain ⟨y9, ey9, hN⟩ := hb_some hN
    obtain ⟨h10, eh10, R⟩ := xw_StZ R ey9
    refine ev_b eh10 ?_
    obtain rfl := Option.some.inj hN
    exact ⟨_, rfl, R⟩
set_option maxHeartbeats 1000000 in
set_option maxRecDepth 100000 in
theorem x_Facts_isTold {F : Nat} {h : hH} {s : XS} {x0 : Nat} {x1 : Int32} {q : (Int32 × XS)} (R : RepX h s) (hN : X_Facts_isTold F s x0 x1 = some q) : ∃ h2, M_Facts_isTold F h x0 x1 = some (q.1, h2) ∧ RepX h2 q.2 := by
  unfold X_Facts_isTold at hN
  unfold M_Facts_isTold
  refine ex_if (fun c1 => ?_) (fun c1 => ?_)
  · have hN := hif_t hN c1
    obtain rfl := Option.some.inj hN
    exact ⟨_, rfl, R⟩
  · have hN := hif_f hN c1
    obtain ⟨v2, ev2, hN⟩ := hb_some hN
    refine ex_b (xr_A R ev2) ?_
    obtain ⟨v3, ev3, hN⟩ := hb_some hN
    refine ex_b (xr_Len R ev3) ?_
    refine ex_if (fun c4 => ?_) (fun c4 => ?_)
    · have hN := hif_t hN c4
      obtain rfl := Option.some.inj hN
      exact ⟨_, rfl, R⟩
    · have hN := hif_f hN c4
      obtain ⟨v5, ev5, hN⟩ := hb_some hN
      refine ex_b (xr_A R ev5) ?_
      obtain ⟨v6, ev6, hN⟩ := hb_some hN
      refine ex_b (xr_LdZ R ev6) ?_
      refine ex_if (fun c7 => ?_) (fun c7 => ?_)
      · have hN := hif_t hN c7
        obtain rfl := Option.some.inj hN
        exact ⟨_, rfl, R⟩
      · have hN := hif_f hN c7
        obtain rfl := Option.some.inj hN
        exact ⟨_, rfl, R⟩
set_option maxHeartbeats 1000000 in
set_option maxRecDepth 100000 in
theorem x_Facts_valueOf {F : Nat} {h : hH} {s : XS} {x0 : Nat} {x1 : Int32} {q : (Int64 × XS)} (R : RepX h s) (hN : X_Facts_valueOf F s x0 x1 = some q) : ∃ h2, M_Facts_valueOf F h x0 x1 = some (q.1, h2) ∧ RepX h2 q.2 := by
  unfold X_Facts_valueOf at hN
  unfold M_Facts_valueOf
  refine ex_if (fun c1 => ?_) (fun c1 => ?_)
  · have hN := hif_t hN c1
    obtain rfl := Option.some.inj hN
    exact ⟨_, rfl, R⟩
  · have hN := hif_f hN c1
    obtain ⟨v2, ev2, hN⟩ := hb_some hN
    refine ex_b (xr_A R ev2) ?_
    obtain ⟨v3, ev3, hN⟩ := hb_some hN
    refine ex_b (xr_Len R ev3) ?_
    refine ex_if (fun c4 => ?_) (fun c4 => ?_)
    · have hN := hif_t hN c4
      obtain rfl := Option.some.inj hN
      exact ⟨_, rfl, R⟩
    · have hN := hif_f hN c4
      obtain ⟨v5, ev5, hN⟩ := hb_some hN
      refine ex_b (xr_A R ev5) ?_
      obtain ⟨v6, ev6, hN⟩ := hb_some hN
      refine ex_b (xr_LdL R ev6) ?_
      obtain rfl := Option.some.inj hN
      exact ⟨_, rfl, R⟩
set_option maxHeartbeats 1000000 in
set_option maxRecDepth 100000 in
theorem x_Facts_clear_25 {F : Nat} {m4 : hH → Nat → Int32 → Int32 → Option (Int32 × hH)} {r4 : XS → Nat → Int32 → Int32 → Option (Int32 × XS)} (P4 : ∀ (h : hH) (s : XS) (x0 : Nat) (x1 : Int32) (x2 : Int32) (q : (Int32 × XS)), RepX h s → r4 s x0 x1 x2 = some q → ∃ h2, m4 h x0 x1 x2 = some (q.1, h2) ∧ RepX h2 q.2) : ∀ (h : hH) (s : XS) (x0 : Nat) (x1 : Int32) (x2 : Int32) (q : (Int32 × XS)), RepX h s → X_Facts_clear_25 F r4 s x0 x1 x2 = some q → ∃ h2, M_Facts_clear_25 F m4 h x0 x1 x2 = some (q.1, h2) ∧ RepX h2 q.2 := by
  intro h s x0 x1 x2 q R hN
  unfold X_Facts_clear_25 at hN
  unfold M_Facts_clear_25
  obtain ⟨v1, ev1, hN⟩ := hb_some hN
  refine ex_b (xr_A R ev1) ?_
  obtain ⟨y2, ey2, hN⟩ := hb_some hN
  obtain ⟨h3, eh3, R⟩ := xw_StZ R ey2
  refine ex_b eh3 ?_
  exact P4 _ _ _ _ _ _ R hN
set_option maxHeartbeats 1000000 in
set_option maxRecDepth 100000 in
theorem bx_Facts_clear_4 {F : Nat} {m4 : hH → Nat → Int32 → Int32 → Option (Int32 × hH)} {r4 : XS → Nat → Int32 → Int32 → Option (Int32 × XS)} (P4 : ∀ (h : hH) (s : XS) (x0 : Nat) (x1 : Int32) (x2 : Int32) (q : (Int32 × XS)), RepX h s → r4 s x0 x1 x2 = some q → ∃ h2, m4 h x0 x1 x2 = some (q.1, h2) ∧ RepX h2 q.2) : ∀ (h : hH) (s : XS) (x0 : Nat) (x1 : Int32) (x2 : Int32) (q : (Int32 × XS)), RepX h s → BX_Facts_clear_4 F r4 s x0 x1 x2 = some q → ∃ h2, B_Facts_clear_4 F m4 h x0 x1 x2 = some (q.1, h2) ∧ RepX h2 q.2 := by
  intro h s x0 x1 x2 q R hN
  unfold BX_Facts_clear_4 at hN
  unfold B_Facts_clear_4
  obtain ⟨v1, ev1, hN⟩ := hb_some hN
  refine ex_b (xr_A R ev1) ?_
  obtain ⟨v2, ev2, hN⟩ := hb_some hN
  refine ex_b (xr_Len R ev2) ?_
  refine ex_if (fun c3 => ?_) (fun c3 => ?_)
  · have hN := hif_t hN c3
    obtain rfl := Option.some.inj hN
    exact ⟨_, rfl, R⟩
  · have hN := hif_f hN c3
    obtain ⟨v4, ev4, hN⟩ := hb_some hN
    refine ex_b (xr_A R ev4) ?_
    obtain ⟨v5, ev5, hN⟩ := hb_some hN
    refine ex_b (xr_LdZ R ev5) ?_
    refine ex_if (fun c6 => ?_) (fun c6 => ?_)
    · have hN := hif_t hN c6
      exact x_Facts_clear_25 P4 _ _ _ _ _ _ R hN
    · have hN := hif_f hN c6
      exact x_Facts_clear_25 P4 _ _ _ _ _ _ R hN
theorem x_Facts_clear_4 {F : Nat} : ∀ z : Nat, ∀ (h : hH) (s : XS) (x0 : Nat) (x1 : Int32) (x2 : Int32) (q : (Int32 × XS)), RepX h s → X_Facts_clear_4 F z s x0 x1 x2 = some q → ∃ h2, M_Facts_clear_4 F z h x0 x1 x2 = some (q.1, h2) ∧ RepX h2 q.2 := by
  intro z
  induction z with
  | zero => intro h s x0 x1 x2 q R hN; exact absurd (show (none : Option _) = some q from hN) (fun t => by cases t)
  | succ z ih => exact bx_Facts_clear_4 ih
set_option maxHeartbeats 1000000 in
set_option maxRecDepth 100000 in
theorem x_Facts_clear {F : Nat} {h : hH} {s : XS} {x0 : Nat} {q : (Int32 × XS)} (R : RepX h s) (hN : X_Facts_clear F s x0 = some q) : ∃ h2, M_Facts_clear F h x0 = some (q.1, h2) ∧ RepX h2 q.2 := by
  unfold X_Facts_clear at hN
  unfold M_Facts_clear
  exact x_Facts_clear_4 F _ _ _ _ _ _ R hN
