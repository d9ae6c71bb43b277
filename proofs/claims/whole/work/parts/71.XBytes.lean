def X_Bytes_init (F : Nat) (s : XS) (x0 : Nat) : Option XS :=
  (some (xNewA s 21 800)).bind fun y1 =>
  (xPutR y1 x0 0 0 (xZ s)).bind fun y3 =>
  (xPutI y3 x0 0 1 0).bind fun y5 =>
  some y5
def X_Bytes_append (F : Nat) (s : XS) (x0 : Nat) (x1 : Int32) : Option (Int32 × XS) :=
  (xGetI s x0 0 1).bind fun v1 =>
  if v1 < 0 then (
    some (0, s)
  ) else (
    (xGetI s x0 0 1).bind fun v3 =>
    (xGetA s x0 0 0).bind fun v4 =>
    (xLen s v4).bind fun v5 =>
    if v3 < v5 then (
      (xGetA s x0 0 0).bind fun v7 =>
      (xGetI s x0 0 1).bind fun v8 =>
      (xStB s v7 v8 x1.toInt8.toInt32).bind fun y9 =>
      (xGetI y9 x0 0 1).bind fun v11 =>
      (xPutI y9 x0 0 1 (v11 + 1)).bind fun y12 =>
      some (1, y12)
    ) else (
      some (0, s)
    )
  )
def X_Bytes_byteAt (F : Nat) (s : XS) (x0 : Nat) (x1 : Int32) : Option (Int32 × XS) :=
  if x1 < 0 then (
    some ((-1), s)
  ) else (
    (xGetI s x0 0 1).bind fun v2 =>
    if v2 ≤ x1 then (
      some ((-1), s)
    ) else (
      (xGetA s x0 0 0).bind fun v4 =>
      (xLen s v4).bind fun v5 =>
      if x1 < v5 then (
        (xGetA s x0 0 0).bind fun v7 =>
        (xLdI s v7 21 x1).bind fun v8 =>
        some ((v8 &&& 255), s)
      ) else (
        some ((-1), s)
      )
    )
  )
def X_Bytes_clear (F : Nat) (s : XS) (x0 : Nat) : Option XS :=
  (xPutI s x0 0 1 0).bind fun y1 =>
  some y1
set_option maxHeartbeats 1000000 in
set_option maxRecDepth 100000 in
theorem x_Bytes_init {F : Nat} {h : hH} {s : XS} {x0 : Nat} {q : XS} (R : RepX h s) (hN : X_Bytes_init F s x0 = some q) : ∃ h2, M_Bytes_init F h x0 = some h2 ∧ RepX h2 q := by
  unfold X_Bytes_init at hN
  unfold M_Bytes_init
  obtain ⟨y1, ey1, hN⟩ := hb_some hN
  obtain ⟨h2, eh2, R, zy1⟩ := xw_newB (n := 800) R
  rw [Option.some.inj ey1] at R
  refine ev_b eh2 ?_
  try rw [zy1]
  obtain ⟨y3, ey3, hN⟩ := hb_some hN
  obtain ⟨h4, eh4, R⟩ := xw_R R ey3
  refine ev_b eh4 ?_
  obtain ⟨y5, ey5, hN⟩ := hb_some hN
  obtain ⟨h6, eh6, R⟩ := xw_I R ey5
  refine ev_b eh6 ?_
  obtain rfl := Option.some.inj hN
  exact ⟨_, rfl, R⟩
set_option maxHeartbeats 1000000 in
set_option maxRecDepth 100000 in
theorem x_Bytes_append {F : Nat} {h : hH} {s : XS} {x0 : Nat} {x1 : Int32} {q : (Int32 × XS)} (R : RepX h s) (hN : X_Bytes_append F s x0 x1 = some q) : ∃ h2, M_Bytes_append F h x0 x1 = some (q.1, h2) ∧ RepX h2 q.2 := by
  unfold X_Bytes_append at hN
  unfold M_Bytes_append
  obtain ⟨v1, ev1, hN⟩ := hb_some hN
  refine ex_b (xr_I R ev1) ?_
  refine ex_if (fun c2 => ?_) (fun c2 => ?_)
  · have hN := hif_t hN c2
    obtain rfl := Option.some.inj hN
    exact ⟨_, rfl, R⟩
  · have hN := hif_f hN c2
    obtain ⟨v3, ev3, hN⟩ := hb_some hN
    refine ex_b (xr_I R ev3) ?_
    obtain ⟨v4, ev4, hN⟩ := hb_some hN
    refine ex_b (xr_A R ev4) ?_
    obtain ⟨v5, ev5, hN⟩ := hb_some hN
    refine ex_b (xr_Len R ev5) ?_
    refine ex_if (fun c6 => ?_) (fun c6 => ?_)
    · have hN := hif_t hN c6
      obtain ⟨v7, ev7, hN⟩ := hb_some hN
      refine ex_b (xr_A R ev7) ?_
      obtain ⟨v8, ev8, hN⟩ := hb_some hN
      refine ex_b (xr_I R ev8) ?_
      obtain ⟨y9, ey9, hN⟩ := hb_some hN
      obtain ⟨h10, eh10, R⟩ := xw_StB R ey9
      refine ex_b eh10 ?_
      obtain ⟨v11, ev11, hN⟩ := hb_some hN
      refine ex_b (xr_I R ev11) ?_
      obtain ⟨y12, ey12, hN⟩ := hb_some hN
      obtain ⟨h13, eh13, R⟩ := xw_I R ey12
      refine ex_b eh13 ?_
      obtain rfl := Option.some.inj hN
      exact ⟨_, rfl, R⟩
    · have hN := hif_f hN c6
      obtain rfl := Option.some.inj hN
      exact ⟨_, rfl, R⟩
set_option maxHeartbeats 1000000 in
set_option maxRecDepth 100000 in
theorem x_Bytes_byteAt {F : Nat} {h : hH} {s : XS} {x0 : Nat} {x1 : Int32} {q : (Int32 × XS)} (R : RepX h s) (hN : X_Bytes_byteAt F s x0 x1 = some q) : ∃ h2, M_Bytes_byteAt F h x0 x1 = some (q.1, h2) ∧ RepX h2 q.2 := by
  unfold X_Bytes_byteAt at hN
  unfold M_Bytes_byteAt
  refine ex_if (fun c1 => ?_) (fun c1 => ?_)
  · have hN := hif_t hN c1
    obtain rfl := Option.some.inj hN
    exact ⟨_, rfl, R⟩
  · have hN := hif_f hN c1
    obtain ⟨v2, ev2, hN⟩ := hb_some hN
    refine ex_b (xr_I R ev2) ?_
    refine ex_if (fun c3 => ?_) (fun c3 => ?_)
    · have hN := hif_t hN c3
      obtain rfl := Option.some.inj hN
      exact ⟨_, rfl, R⟩
    · have hN := hif_f hN c3
      obtain ⟨v4, ev4, hN⟩ := hb_some hN
      refine ex_b (xr_A R ev4) ?_
      obtain ⟨v5, ev5, hN⟩ := hb_some hN
      refine ex_b (xr_Len R ev5) ?_
      refine ex_if (fun c6 => ?_) (fun c6 => ?_)
      · have hN := hif_t hN c6
        obtain ⟨v7, ev7, hN⟩ := hb_some hN
        refine ex_b (xr_A R ev7) ?_
        obtain ⟨v8, ev8, hN⟩ := hb_some hN
        refine ex_b (xr_LdB R ev8) ?_
        obtain rfl := Option.some.inj hN
        exact ⟨_, rfl, R⟩
      · have hN := hif_f hN c6
        obtain rfl := Option.some.inj hN
        exact ⟨_, rfl, R⟩
set_option maxHeartbeats 1000000 in
set_option maxRecDepth 100000 in
theorem x_Bytes_clear {F : Nat} {h : hH} {s : XS} {x0 : Nat} {q : XS} (R : RepX h s) (hN : X_Bytes_clear F s x0 = some q) : ∃ h2, M_Bytes_clear F h x0 = some h2 ∧ RepX h2 q := by
  unfold X_Bytes_clear at hN
  unfold M_Bytes_clear
  obtain ⟨y1, ey1, hN⟩ := hb_some hN
  obtain ⟨h2, eh2, R⟩ := xw_I R ey1
  refine ev_b eh2 ?_
  obtain rfl := Option.some.inj hN
  exact ⟨_, rfl, R⟩
