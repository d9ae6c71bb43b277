def X_LT_init (F : Nat) (s : XS) (x0 : Nat) : Option XS :=
  (some (xNewA s 41 6)).bind fun y1 =>
  (xPutR y1 x0 11 0 (xZ s)).bind fun y3 =>
  (xPutI y3 x0 11 1 0).bind fun y5 =>
  (some (xNewO y5 1)).bind fun y7 =>
  (X_Edition_init F y7 (xZ y5)).bind fun q9 =>
  (xPutR q9 x0 11 2 (xZ y5)).bind fun y11 =>
  (some (xNewO y11 9)).bind fun y13 =>
  (xGetA y13 x0 11 2).bind fun v15 =>
  (X_TextReader_init F y13 (xZ y11) v15).bind fun q16 =>
  (xPutR q16 x0 11 3 (xZ y11)).bind fun y18 =>
  (some (xNewO y18 2)).bind fun y20 =>
  (X_Facts_init F y20 (xZ y18)).bind fun q22 =>
  (xPutR q22 x0 11 4 (xZ y18)).bind fun y24 =>
  (some (xNewO y24 5)).bind fun y26 =>
  (xGetA y26 x0 11 4).bind fun v28 =>
  (X_Reckoner_init F y26 (xZ y24) v28).bind fun q29 =>
  (xPutR q29 x0 11 5 (xZ y24)).bind fun y31 =>
  (some (xNewO y31 3)).bind fun y33 =>
  (X_Findings_init F y33 (xZ y31)).bind fun q35 =>
  (xPutR q35 x0 11 6 (xZ y31)).bind fun y37 =>
  (some (xNewO y37 3)).bind fun y39 =>
  (X_Findings_init F y39 (xZ y37)).bind fun q41 =>
  (xPutR q41 x0 11 7 (xZ y37)).bind fun y43 =>
  (some (xNewO y43 0)).bind fun y45 =>
  (X_Bytes_init F y45 (xZ y43)).bind fun q47 =>
  (xPutR q47 x0 11 8 (xZ y43)).bind fun y49 =>
  (some (xNewO y49 4)).bind fun y51 =>
  (X_Hauls_init F y51 (xZ y49)).bind fun q53 =>
  (xPutR q53 x0 11 9 (xZ y49)).bind fun y55 =>
  some y55
def X_LT_unit (F : Nat) (s : XS) (x0 : Nat) (x1 : Int32) : Option (Int32 × XS) :=
  (xGetA s x0 11 2).bind fun v1 =>
  (xGetA s v1 1 0).bind fun v2 =>
  (xIs s v2 10).bind fun u3 =>
  (X_Words_append F s v2 x1).bind fun q4 =>
  (hZ q4.1).bind fun u6 =>
  some (q4.1, q4.2)
def X_LT_mayBegin (F : Nat) (s : XS) (x0 : Nat) (x1 : Int32) : Option (Int32 × XS) :=
  if x1 < 0 then (
    some (0, s)
  ) else (
    if 100000 < x1 then (
      some (0, s)
    ) else (
      (xGetI s x0 11 1).bind fun v3 =>
      (xGetA s x0 11 0).bind fun v4 =>
      (xLen s v4).bind fun v5 =>
      if v3 < v5 then (
        (xGetI s x0 11 1).bind fun v7 =>
        if 0 < v7 then (
          (xGetA s x0 11 0).bind fun v9 =>
          (xGetI s x0 11 1).bind fun v10 =>
          (xLdO s v9 1 (v10 - 1)).bind fun v11 =>
          hCase v11 (
            some (1, s)
          ) (fun a13 =>
            (xGetI s a13 1 5).bind fun v14 =>
            if x1 ≤ v14 then (
              some (0, s)
            ) else (
              some (1, s)
            )
          )
        ) else (
          some (1, s)
        )
      ) else (
        some (0, s)
      )
    )
  )
def X_LT_keep (F : Nat) (s : XS) (x0 : Nat) (x1 : Nat) : Option XS :=
  (xGetI s x0 11 1).bind fun v1 =>
  if v1 < 0 then (
    some s
  ) else (
    (xGetI s x0 11 1).bind fun v3 =>
    (xGetA s x0 11 0).bind fun v4 =>
    (xLen s v4).bind fun v5 =>
    if v5 ≤ v3 then (
      some s
    ) else (
      (xGetA s x0 11 0).bind fun v7 =>
      (xGetI s x0 11 1).bind fun v8 =>
      (xStA s v7 1 v8 x1).bind fun y9 =>
      (xGetI y9 x0 11 1).bind fun v11 =>
      (xPutI y9 x0 11 1 (v11 + 1)).bind fun y12 =>
      some y12
    )
  )
def X_LT_read (F : Nat) (s : XS) (x0 : Nat) (x1 : Int32) : Option (Int32 × XS) :=
  (xIs s x0 11).bind fun u1 =>
  (X_LT_mayBegin F s x0 x1).bind fun q2 =>
  if q2.1 = 0 then (
    some ((-1000), q2.2)
  ) else (
    (xGetA q2.2 x0 11 3).bind fun v5 =>
    (xGetA q2.2 x0 11 2).bind fun v6 =>
    (xIs q2.2 v5 9).bind fun u7 =>
    (X_TextReader_firstWrong F q2.2 v5 v6).bind fun q8 =>
    if q8.1 = (-1) then (
      (xGetA q8.2 x0 11 2).bind fun v11 =>
      (xPutI q8.2 v11 1 5 x1).bind fun y12 =>
      (xIs y12 x0 11).bind fun u14 =>
      (X_LT_keep F y12 x0 v11).bind fun q15 =>
      (some (xNewO q15 1)).bind fun y17 =>
      (X_Edition_init F y17 (xZ q15)).bind fun q19 =>
      (xPutR q19 x0 11 2 (xZ q15)).bind fun y21 =>
      (xGetI y21 v11 1 4).bind fun v23 =>
      some (v23, y21)
    ) else (
      (xGetA q8.2 x0 11 2).bind fun v24 =>
      (xIs q8.2 v24 1).bind fun u25 =>
      (X_Edition_clear F q8.2 v24).bind fun q26 =>
      some (((-1) - q8.1), q26)
    )
  )
def X_LT_editions (F : Nat) (s : XS) (x0 : Nat) : Option (Int32 × XS) :=
  (xGetI s x0 11 1).bind fun v1 =>
  some (v1, s)
def X_LT_fact (F : Nat) (s : XS) (x0 : Nat) (x1 : Int32) (x2 : Int64) : Option (Int32 × XS) :=
  (xGetA s x0 11 4).bind fun v1 =>
  (xIs s v1 2).bind fun u2 =>
  (X_Facts_has F s v1 x1).bind fun q3 =>
  if q3.1 = 0 then (
    some (0, q3.2)
  ) else (
    (xGetA q3.2 x0 11 4).bind fun v6 =>
    (xIs q3.2 v6 2).bind fun u7 =>
    (X_Facts_put F q3.2 v6 x1 x2 1).bind fun q8 =>
    some (1, q8)
  )
def X_LT_clearFacts (F : Nat) (s : XS) (x0 : Nat) : Option (Int32 × XS) :=
  (xGetA s x0 11 4).bind fun v1 =>
  (xIs s v1 2).bind fun u2 =>
  (X_Facts_clear F s v1).bind fun q3 =>
  some (q3.1, q3.2)
def X_LT_editionOn_33 (F : Nat) (r8 : XS → Nat → Int32 → Int32 → Option (Option Nat × XS)) (s : XS) (x0 : Nat) (x1 : Int32) (x2 : Int32) : Option (Option Nat × XS) :=
  r8 s x0 x1 (x2 + (-1))
def BX_LT_editionOn_8 (F : Nat) (r8 : XS → Nat → Int32 → Int32 → Option (Option Nat × XS)) (s : XS) (x0 : Nat) (x1 : Int32) (x2 : Int32) : Option (Option Nat × XS) :=
  if x2 < 0 then (
    some (none, s)
  ) else (
    (xGetA s x0 11 0).bind fun v2 =>
    (xLdO s v2 1 x2).bind fun v3 =>
    hCase v3 (
      X_LT_editionOn_33 F r8 s x0 x1 x2
    ) (fun a5 =>
      (xGetI s a5 1 5).bind fun v6 =>
      if x1 < v6 then (
        X_LT_editionOn_33 F r8 s x0 x1 x2
      ) else (
        some (v3, s)
      )
    )
  )
def X_LT_editionOn_8 (F : Nat) : Nat → XS → Nat → Int32 → Int32 → Option (Option Nat × XS)
  | 0 => fun _ _ _ _ => none
  | z + 1 => BX_LT_editionOn_8 F (X_LT_editionOn_8 F z)
def X_LT_editionOn (F : Nat) (s : XS) (x0 : Nat) (x1 : Int32) : Option (Option Nat × XS) :=
  (xGetA s x0 11 0).bind fun v1 =>
  (xLen s v1).bind fun v2 =>
  X_LT_editionOn_8 F F s x0 x1 (v2 - 1)
def X_LT_look_81 (F : Nat) (r22 : XS → Nat → Nat → Option Nat → Int32 → Option (Int32 × XS)) (s : XS) (x0 : Nat) (x2 : Nat) (x3 : Option Nat) (x4 : Int32) : Option (Int32 × XS) :=
  r22 s x0 x2 x3 (x4 + 1)
def BX_LT_look_22 (F : Nat) (r22 : XS → Nat → Nat → Option Nat → Int32 → Option (Int32 × XS)) (s : XS) (x0 : Nat) (x2 : Nat) (x3 : Option Nat) (x4 : Int32) : Option (Int32 × XS) :=
  (x3).bind fun a1 =>
  (xGetI s a1 1 4).bind fun v2 =>
  if v2 ≤ x4 then (
    (xIs s x2 3).bind fun u4 =>
    (X_Findings_answer F s x2).bind fun q5 =>
    some (q5.1, q5.2)
  ) else (
    (xIs s a1 1).bind fun u7 =>
    (X_Edition_ruleAt F s a1 x4).bind fun q8 =>
    hCase q8.1 (
      X_LT_look_81 F r22 q8.2 x0 x2 x3 x4
    ) (fun a11 =>
      (xGetA q8.2 x0 11 5).bind fun v12 =>
      (xIs q8.2 v12 5).bind fun u13 =>
      (X_Reckoner_judge F q8.2 v12 a1 a11).bind fun q14 =>
      (xGetA q14.2 x0 11 5).bind fun v16 =>
      (xGetI q14.2 v16 5 3).bind fun v17 =>
      (xGetA q14.2 x0 11 5).bind fun v18 =>
      (xGetI q14.2 v18 5 4).bind fun v19 =>
      (xGetI q14.2 a11 6 0).bind fun v20 =>
      (xIs q14.2 x2 3).bind fun u21 =>
      (X_Findings_add F q14.2 x2 q14.1 v17 v19 v20).bind fun q22 =>
      X_LT_look_81 F r22 q22 x0 x2 x3 x4
    )
  )
def X_LT_look_22 (F : Nat) : Nat → XS → Nat → Nat → Option Nat → Int32 → Option (Int32 × XS)
  | 0 => fun _ _ _ _ _ => none
  | z + 1 => BX_LT_look_22 F (X_LT_look_22 F z)
def X_LT_look (F : Nat) (s : XS) (x0 : Nat) (x1 : Int32) (x2 : Nat) : Option (Int32 × XS) :=
  (xIs s x2 3).bind fun u1 =>
  (X_Findings_clear F s x2).bind fun q2 =>
  (xIs q2 x0 11).bind fun u4 =>
  (X_LT_editionOn F q2 x0 x1).bind fun q5 =>
  hCase q5.1 (
    (xIs q5.2 x2 3).bind fun u9 =>
    (X_Findings_answer F q5.2 x2).bind fun q10 =>
    some (q10.1, q10.2)
  ) (fun a8 =>
    X_LT_look_22 F F q5.2 x0 x2 q5.1 0
  )
def X_LT_run (F : Nat) (s : XS) (x0 : Nat) (x1 : Int32) : Option (Int32 × XS) :=
  (xGetA s x0 11 6).bind fun v1 =>
  (xIs s x0 11).bind fun u2 =>
  (X_LT_look F s x0 x1 v1).bind fun q3 =>
  some (q3.1, q3.2)
def X_LT_walk (F : Nat) (s : XS) (x0 : Nat) (x1 : Int32) : Option (Int32 × XS) :=
  (xGetA s x0 11 7).bind fun v1 =>
  (xIs s x0 11).bind fun u2 =>
  (X_LT_look F s x0 x1 v1).bind fun q3 =>
  some (q3.1, q3.2)
def X_LT_broken (F : Nat) (s : XS) (x0 : Nat) (x1 : Int32) (x2 : Int32) : Option (Int32 × XS) :=
  (xGetA s x0 11 6).bind fun v1 =>
  (xIs s v1 3).bind fun u2 =>
  (X_Findings_rankedAs F s v1 1 x1).bind fun q3 =>
  if x2 = 0 then (
    some (q3.1, q3.2)
  ) else
  if x2 = 1 then (
    (xGetA q3.2 x0 11 6).bind fun v7 =>
    (xIs q3.2 v7 3).bind fun u8 =>
    (X_Findings_firstWordOf F q3.2 v7 q3.1).bind fun q9 =>
    some (q9.1, q9.2)
  ) else
  some ((-1), q3.2)
def X_LT_open (F : Nat) (s : XS) (x0 : Nat) (x1 : Int32) (x2 : Int32) : Option (Int32 × XS) :=
  (xGetA s x0 11 6).bind fun v1 =>
  (xIs s v1 3).bind fun u2 =>
  (X_Findings_rankedAs F s v1 2 x1).bind fun q3 =>
  if x2 = 0 then (
    some (q3.1, q3.2)
  ) else
  if x2 = 1 then (
    (xGetA q3.2 x0 11 6).bind fun v7 =>
    (xIs q3.2 v7 3).bind fun u8 =>
    (X_Findings_reasonOf F q3.2 v7 q3.1).bind fun q9 =>
    some (q9.1, q9.2)
  ) else
  if x2 = 2 then (
    (xGetA q3.2 x0 11 6).bind fun v12 =>
    (xIs q3.2 v12 3).bind fun u13 =>
    (X_Findings_untoldOf F q3.2 v12 q3.1).bind fun q14 =>
    some (q14.1, q14.2)
  ) else
  some ((-1), q3.2)
def X_LT_explain (F : Nat) (s : XS) (x0 : Nat) (x1 : Int32) : Option (Int32 × XS) :=
  (xGetA s x0 11 6).bind fun v1 =>
  (xIs s v1 3).bind fun u2 =>
  (X_Findings_outcomeOf F s v1 x1).bind fun q3 =>
  some (q3.1, q3.2)
def X_LT_allowed_94 (F : Nat) (s : XS) (x0 : Nat) (x2 : Int32) (x4 : Int32) (x5 : Int64) (x7 : Int32) : Option (Int32 × XS) :=
  (xGetA s x0 11 4).bind fun v1 =>
  (xIs s v1 2).bind fun u2 =>
  (X_Facts_put F s v1 x2 x5 x4).bind fun q3 =>
  some (x7, q3)
def X_LT_allowed_88 (F : Nat) (r49 : XS → Nat → Int32 → Int32 → Int32 → Int64 → Int32 → Int32 → Option (Int32 × XS)) (s : XS) (x0 : Nat) (x1 : Int32) (x2 : Int32) (x4 : Int32) (x5 : Int64) (x7 : Int32) (x8 : Int32) : Option (Int32 × XS) :=
  r49 s x0 x1 x2 x4 x5 x7 (x8 + (-1))
def BX_LT_allowed_49 (F : Nat) (r49 : XS → Nat → Int32 → Int32 → Int32 → Int64 → Int32 → Int32 → Option (Int32 × XS)) (s : XS) (x0 : Nat) (x1 : Int32) (x2 : Int32) (x4 : Int32) (x5 : Int64) (x7 : Int32) (x8 : Int32) : Option (Int32 × XS) :=
  if x8 < 0 then (
    X_LT_allowed_94 F s x0 x2 x4 x5 x7
  ) else (
    if x7 = (-1) then (
      (xGetA s x0 11 4).bind fun v3 =>
      (xIs s v3 2).bind fun u4 =>
      (X_Facts_put F s v3 x2 x8.toInt64 1).bind fun q5 =>
      (xGetA q5 x0 11 7).bind fun v7 =>
      (xIs q5 x0 11).bind fun u8 =>
      (X_LT_look F q5 x0 x1 v7).bind fun q9 =>
      if q9.1 = 0 then (
        X_LT_allowed_88 F r49 q9.2 x0 x1 x2 x4 x5 x8 x8
      ) else (
        X_LT_allowed_88 F r49 q9.2 x0 x1 x2 x4 x5 x7 x8
      )
    ) else (
      X_LT_allowed_94 F s x0 x2 x4 x5 x7
    )
  )
def X_LT_allowed_49 (F : Nat) : Nat → XS → Nat → Int32 → Int32 → Int32 → Int64 → Int32 → Int32 → Option (Int32 × XS)
  | 0 => fun _ _ _ _ _ _ _ _ => none
  | z + 1 => BX_LT_allowed_49 F (X_LT_allowed_49 F z)
def X_LT_allowed (F : Nat) (s : XS) (x0 : Nat) (x1 : Int32) (x2 : Int32) (x3 : Int32) : Option (Int32 × XS) :=
  (xGetA s x0 11 4).bind fun v1 =>
  (xIs s v1 2).bind fun u2 =>
  (X_Facts_has F s v1 x2).bind fun q3 =>
  if q3.1 = 0 then (
    some ((-1), q3.2)
  ) else (
    if x3 < 0 then (
      some ((-1), q3.2)
    ) else (
      if x3 ≤ 20 then (
        (xGetA q3.2 x0 11 4).bind fun v8 =>
        (xIs q3.2 v8 2).bind fun u9 =>
        (X_Facts_isTold F q3.2 v8 x2).bind fun q10 =>
        (xGetA q10.2 x0 11 4).bind fun v12 =>
        (xIs q10.2 v12 2).bind fun u13 =>
        (X_Facts_valueOf F q10.2 v12 x2).bind fun q14 =>
        X_LT_allowed_49 F F q14.2 x0 x1 x2 q10.1 q14.1 (-1) x3
      ) else (
        some ((-1), q3.2)
      )
    )
  )
def X_LT_write (F : Nat) (s : XS) (x0 : Nat) (x1 : Int32) (x2 : Int32) : Option (Int32 × XS) :=
  (xIs s x0 11).bind fun u1 =>
  (X_LT_editionOn F s x0 x1).bind fun q2 =>
  hCase q2.1 (
    some ((-1), q2.2)
  ) (fun a5 =>
    (xIs q2.2 a5 1).bind fun u6 =>
    (X_Edition_ruleAt F q2.2 a5 x2).bind fun q7 =>
    hCase q7.1 (
      some ((-1), q7.2)
    ) (fun a10 =>
      (xGetA q7.2 x0 11 8).bind fun v11 =>
      (xIs q7.2 v11 0).bind fun u12 =>
      (X_Bytes_clear F q7.2 v11).bind fun q13 =>
      (xGetA q13 a5 1 0).bind fun v15 =>
      (xGetA q13 x0 11 8).bind fun v16 =>
      (xGetI q13 a10 6 0).bind fun v17 =>
      (xGetI q13 a10 6 2).bind fun v18 =>
      (xIs q13 v15 10).bind fun u19 =>
      (X_Words_copyTo F q13 v15 v16 v17 v18).bind fun q20 =>
      (xGetA q20 x0 11 8).bind fun v22 =>
      (xGetI q20 v22 0 1).bind fun v23 =>
      some (v23, q20)
    )
  )
def X_LT_written (F : Nat) (s : XS) (x0 : Nat) (x1 : Int32) : Option (Int32 × XS) :=
  (xGetA s x0 11 8).bind fun v1 =>
  (xIs s v1 0).bind fun u2 =>
  (X_Bytes_byteAt F s v1 x1).bind fun q3 =>
  some (q3.1, q3.2)
def X_LT_haul (F : Nat) (s : XS) (x0 : Nat) (x1 : Int32) (x2 : Int32) (x3 : Int64) : Option (Int32 × XS) :=
  (xGetA s x0 11 9).bind fun v1 =>
  (xIs s v1 4).bind fun u2 =>
  (X_Hauls_add F s v1 x1 x2 x3).bind fun q3 =>
  (hZ q3.1).bind fun u5 =>
  some (q3.1, q3.2)
def X_LT_byCatch (F : Nat) (s : XS) (x0 : Nat) (x1 : Int32) (x2 : Int32) (x3 : Int32) : Option (Int64 × XS) :=
  (xGetA s x0 11 9).bind fun v1 =>
  (xIs s v1 4).bind fun u2 =>
  (X_Hauls_share F s v1 x1 x2 x3).bind fun q3 =>
  some (q3.1, q3.2)
set_option maxHeartbeats 1000000 in
set_option maxRecDepth 100000 in
theorem x_LT_init {F : Nat} {h : hH} {s : XS} {x0 : Nat} {q : XS} (R : RepX h s) (hN : X_LT_init F s x0 = some q) : ∃ h2, M_LT_init F h x0 = some h2 ∧ RepX h2 q := by
  unfold X_LT_init at hN
  unfold M_LT_init
  obtain ⟨y1, ey1, hN⟩ := hb_some hN
  obtain ⟨h2, eh2, R, zy1⟩ := xw_newQ (ci := 1) (n := 6) R rfl
  rw [Option.some.inj ey1] at R
  refine ev_b eh2 ?_
  try rw [zy1]
  obtain ⟨y3, ey3, hN⟩ := hb_some hN
  obtain ⟨h4, eh4, R⟩ := xw_R R ey3
  refine ev_b eh4 ?_
  obtain ⟨y5, ey5, hN⟩ := hb_some hN
  obtain ⟨h6, eh6, R⟩ := xw_I R ey5
  refine ev_b eh6 ?_
  obtain ⟨y7, ey7, hN⟩ := hb_some hN
  obtain ⟨h8, eh8, R, zy7⟩ := xw_new (ci := 1) R rfl
  rw [Option.some.inj ey7] at R
  refine ev_b eh8 ?_
  try rw [zy7]
  obtain ⟨q9, eq9, hN⟩ := hb_some hN
  obtain ⟨h10, eh10, R⟩ := x_Edition_init R eq9
  refine ev_b eh10 ?_
  obtain ⟨y11, ey11, hN⟩ := hb_some hN
  obtain ⟨h12, eh12, R⟩ := xw_R R ey11
  refine ev_b eh12 ?_
  obtain ⟨y13, ey13, hN⟩ := hb_some hN
  obtain ⟨h14, eh14, R, zy13⟩ := xw_new (ci := 9) R rfl
  rw [Option.some.inj ey13] at R
  refine ev_b eh14 ?_
  try rw [zy13]
  obtain ⟨v15, ev15, hN⟩ := hb_some hN
  refine ev_b (xr_A R ev15) ?_
  obtain ⟨q16, eq16, hN⟩ := hb_some hN
  obtain ⟨h17, eh17, R⟩ := x_TextReader_init R eq16
  refine ev_b eh17 ?_
  obtain ⟨y18, ey18, hN⟩ := hb_some hN
  obtain ⟨h19, eh19, R⟩ := xw_R R ey18
  refine ev_b eh19 ?_
  obtain ⟨y20, ey20, hN⟩ := hb_some hN
  obtain ⟨h21, eh21, R, zy20⟩ := xw_new (ci := 2) R rfl
  rw [Option.some.inj ey20] at R
  refine ev_b eh21 ?_
  try rw [zy20]
  obtain ⟨q22, eq22, hN⟩ := hb_some hN
  obtain ⟨h23, eh23, R⟩ := x_Facts_init R eq22
  refine ev_b eh23 ?_
  obtain ⟨y24, ey24, hN⟩ := hb_some hN
  obtain ⟨h25, eh25, R⟩ := xw_R R ey24
  refine ev_b eh25 ?_
  obtain ⟨y26, ey26, hN⟩ := hb_some hN
  obtain ⟨h27, eh27, R, zy26⟩ := xw_new (ci := 5) R rfl
  rw [Option.some.inj ey26] at R
  refine ev_b eh27 ?_
  try rw [zy26]
  obtain ⟨v28, ev28, hN⟩ := hb_some hN
  refine ev_b (xr_A R ev28) ?_
  obtain ⟨q29, eq29, hN⟩ := hb_some hN
  obtain ⟨h30, eh30, R⟩ := x_Reckoner_init R eq29
  refine ev_b eh30 ?_
  obtain ⟨y31, ey31, hN⟩ := hb_some hN
  obtain ⟨h32, eh32, R⟩ := xw_R R ey31
  refine ev_b eh32 ?_
  obtain ⟨y33, ey33, hN⟩ := hb_some hN
  obtain ⟨h34, eh34, R, zy33⟩ := xw_new (ci := 3) R rfl
  rw [Option.some.inj ey33] at R
  refine ev_b eh34 ?_
  try rw [zy33]
  obtain ⟨q35, eq35, hN⟩ := hb_some hN
  obtain ⟨h36, eh36, R⟩ := x_Findings_init R eq35
  refine ev_b eh36 ?_
  obtain ⟨y37, ey37, hN⟩ := hb_some hN
  obtain ⟨h38, eh38, R⟩ := xw_R R ey37
  refine ev_b eh38 ?_
  obtain ⟨y39, ey39, hN⟩ := hb_some hN
  obtain ⟨h40, eh40, R, zy39⟩ := xw_new (ci := 3) R rfl
  rw [Option.some.inj ey39] at R
  refine ev_b eh40 ?_
  try rw [zy39]
  obtain ⟨q41, eq41, hN⟩ := hb_some hN
  obtain ⟨h42, eh42, R⟩ := x_Findings_init R eq41
  refine ev_b eh42 ?_
  obtain ⟨y43, ey43, hN⟩ := hb_some hN
  obtain ⟨h44, eh44, R⟩ := xw_R R ey43
  refine ev_b eh44 ?_
  obtain ⟨y45, ey45, hN⟩ := hb_some hN
  obtain ⟨h46, eh46, R, zy45⟩ := xw_new (ci := 0) R rfl
  rw [Option.some.inj ey45] at R
  refine ev_b eh46 ?_
  try rw [zy45]
  obtain ⟨q47, eq47, hN⟩ := hb_some hN
  obtain ⟨h48, eh48, R⟩ := x_Bytes_init R eq47
  refine ev_b eh48 ?_
  obtain ⟨y49, ey49, hN⟩ := hb_some hN
  obtain ⟨h50, eh50, R⟩ := xw_R R ey49
  refine ev_b eh50 ?_
  obtain ⟨y51, ey51, hN⟩ := hb_some hN
  obtain ⟨h52, eh52, R, zy51⟩ := xw_new (ci := 4) R rfl
  rw [Option.some.inj ey51] at R
  refine ev_b eh52 ?_
  try rw [zy51]
  obtain ⟨q53, eq53, hN⟩ := hb_some hN
  obtain ⟨h54, eh54, R⟩ := x_Hauls_init R eq53
  refine ev_b eh54 ?_
  obtain ⟨y55, ey55, hN⟩ := hb_some hN
  obtain ⟨h56, eh56, R⟩ := xw_R R ey55
  refine ev_b eh56 ?_
  obtain rfl := Option.some.inj hN
  exact ⟨_, rfl, R⟩
set_option maxHeartbeats 1000000 in
set_option maxRecDepth 100000 in
theorem x_LT_unit {F : Nat} {h : hH} {s : XS} {x0 : Nat} {x1 : Int32} {q : (Int32 × XS)} (R : RepX h s) (hN : X_LT_unit F s x0 x1 = some q) : ∃ h2, M_LT_unit F h x0 x1 = some (q.1, h2) ∧ RepX h2 q.2 := by
  unfold X_LT_unit at hN
  unfold M_LT_unit
  obtain ⟨v1, ev1, hN⟩ := hb_some hN
  refine ex_b (xr_A R ev1) ?_
  obtain ⟨v2, ev2, hN⟩ := hb_some hN
  refine ex_b (xr_A R ev2) ?_
  obtain ⟨u3, eu3, hN⟩ := hb_some hN
  refine ex_b (xr_Is R eu3) ?_
  obtain ⟨q4, eq4, hN⟩ := hb_some hN
  obtain ⟨h5, eh5, R⟩ := x_Words_append R eq4
  refine ex_b eh5 ?_
  obtain ⟨u6, eu6, hN⟩ := hb_some hN
  refine ex_b eu6 ?_
  obtain rfl := Option.some.inj hN
  exact ⟨_, rfl, R⟩
set_option maxHeartbeats 1000000 in
set_option maxRecDepth 100000 in
theorem x_LT_mayBegin {F : Nat} {h : hH} {s : XS} {x0 : Nat} {x1 : Int32} {q : (Int32 × XS)} (R : RepX h s) (hN : X_LT_mayBegin F s x0 x1 = some q) : ∃ h2, M_LT_mayBegin F h x0 x1 = some (q.1, h2) ∧ RepX h2 q.2 := by
  unfold X_LT_mayBegin at hN
  unfold M_LT_mayBegin
  refine ex_if (fun c1 => ?_) (fun c1 => ?_)
  · have hN := hif_t hN c1
    obtain rfl := Option.some.inj hN
    exact ⟨_, rfl, R⟩
  · have hN := hif_f hN c1
    refine ex_if (fun c2 => ?_) (fun c2 => ?_)
    · have hN := hif_t hN c2
      obtain rfl := Option.some.inj hN
      exact ⟨_, rfl, R⟩
    · have hN := hif_f hN c2
      obtain ⟨v3, ev3, hN⟩ := hb_some hN
      refine ex_b (xr_I R ev3) ?_
      obtain ⟨v4, ev4, hN⟩ := hb_some hN
      refine ex_b (xr_A R ev4) ?_
      obtain ⟨v5, ev5, hN⟩ := hb_some hN
      refine ex_b (xr_Len R ev5) ?_
      refine ex_if (fun c6 => ?_) (fun c6 => ?_)
      · have hN := hif_t hN c6
        obtain ⟨v7, ev7, hN⟩ := hb_some hN
        refine ex_b (xr_I R ev7) ?_
        refine ex_if (fun c8 => ?_) (fun c8 => ?_)
        · have hN := hif_t hN c8
          obtain ⟨v9, ev9, hN⟩ := hb_some hN
          refine ex_b (xr_A R ev9) ?_
          obtain ⟨v10, ev10, hN⟩ := hb_some hN
          refine ex_b (xr_I R ev10) ?_
          obtain ⟨v11, ev11, hN⟩ := hb_some hN
          refine ex_b (xr_LdO R ev11) ?_
          refine ex_cs (fun c12 => ?_) (fun a13 c12 => ?_)
          · have hN := hc_n hN c12
            obtain rfl := Option.some.inj hN
            exact ⟨_, rfl, R⟩
          · have hN := hc_s hN c12
            obtain ⟨v14, ev14, hN⟩ := hb_some hN
            refine ex_b (xr_I R ev14) ?_
            refine ex_if (fun c15 => ?_) (fun c15 => ?_)
            · have hN := hif_t hN c15
              obtain rfl := Option.some.inj hN
              exact ⟨_, rfl, R⟩
            · have hN := hif_f hN c15
              obtain rfl := Option.some.inj hN
              exact ⟨_, rfl, R⟩
        · have hN := hif_f hN c8
          obtain rfl := Option.some.inj hN
          exact ⟨_, rfl, R⟩
      · have hN := hif_f hN c6
        obtain rfl := Option.some.inj hN
        exact ⟨_, rfl, R⟩
set_option maxHeartbeats 1000000 in
set_option maxRecDepth 100000 in
theorem x_LT_keep {F : Nat} {h : hH} {s : XS} {x0 : Nat} {x1 : Nat} {q : XS} (R : RepX h s) (hN : X_LT_keep F s x0 x1 = some q) : ∃ h2, M_LT_keep F h x0 x1 = some h2 ∧ RepX h2 q := by
  unfold X_LT_keep at hN
  unfold M_LT_keep
  obtain ⟨v1, ev1, hN⟩ := hb_some hN
  refine ev_b (xr_I R ev1) ?_
  refine ev_if (fun c2 => ?_) (fun c2 => ?_)
  · have hN := hif_t hN c2
    obtain rfl := Option.some.inj hN
    exact ⟨_, rfl, R⟩
  · have hN := hif_f hN c2
    obtain ⟨v3, ev3, hN⟩ := hb_some hN
    refine ev_b (xr_I R ev3) ?_
    obtain ⟨v4, ev4, hN⟩ := hb_some hN
    refine ev_b (xr_A R ev4) ?_
    obtain ⟨v5, ev5, hN⟩ := hb_some hN
    refine ev_b (xr_Len R ev5) ?_
    refine ev_if (fun c6 => ?_) (fun c6 => ?_)
    · have hN := hif_t hN c6
      obtain rfl := Option.some.inj hN
      exact ⟨_, rfl, R⟩
    · have hN := hif_f hN c6
      obtain ⟨v7, ev7, hN⟩ := hb_some hN
      refine ev_b (xr_A R ev7) ?_
      obtain ⟨v8, ev8, hN⟩ := hb_some hN
      refine ev_b (xr_I R ev8) ?_
      obtain ⟨y9, ey9, hN⟩ := hb_some hN
      obtain ⟨h10, eh10, R⟩ := xw_StA R ey9
      refine ev_b eh10 ?_
      obtain ⟨v11, ev11, hN⟩ := hb_some hN
      refine ev_b (xr_I R ev11) ?_
      obtain ⟨y12, ey12, hN⟩ := hb_some hN
      obtain ⟨h13, eh13, R⟩ := xw_I R ey12
      refine ev_b eh13 ?_
      obtain rfl := Option.some.inj hN
      exact ⟨_, rfl, R⟩
set_option maxHeartbeats 1000000 in
set_option maxRecDepth 100000 in
theorem x_LT_read {F : Nat} {h : hH} {s : XS} {x0 : Nat} {x1 : Int32} {q : (Int32 × XS)} (R : RepX h s) (hN : X_LT_read F s x0 x1 = some q) : ∃ h2, M_LT_read F h x0 x1 = some (q.1, h2) ∧ RepX h2 q.2 := by
  unfold X_LT_read at hN
  unfold M_LT_read
  obtain ⟨u1, eu1, hN⟩ := hb_some hN
  refine ex_b (xr_Is R eu1) ?_
  obtain ⟨q2, eq2, hN⟩ := hb_some hN
  obtain ⟨h3, eh3, R⟩ := x_LT_mayBegin R eq2
  refine ex_b eh3 ?_
  refine ex_if (fun c4 => ?_) (fun c4 => ?_)
  · have hN := hif_t hN c4
    obtain rfl := Option.some.inj hN
    exact ⟨_, rfl, R⟩
  · have hN := hif_f hN c4
    obtain ⟨v5, ev5, hN⟩ := hb_some hN
    refine ex_b (xr_A R ev5) ?_
    obtain ⟨v6, ev6, hN⟩ := hb_some hN
    refine ex_b (xr_A R ev6) ?_
    obtain ⟨u7, eu7, hN⟩ := hb_some hN
    refine ex_b (xr_Is R eu7) ?_
    obtain ⟨q8, eq8, hN⟩ := hb_some hN
    obtain ⟨h9, eh9, R⟩ := x_TextReader_firstWrong R eq8
    refine ex_b eh9 ?_
    refine ex_if (fun c10 => ?_) (fun c10 => ?_)
    · have hN := hif_t hN c10
      obtain ⟨v11, ev11, hN⟩ := hb_some hN
      refine ex_b (xr_A R ev11) ?_
      obtain ⟨y12, ey12, hN⟩ := hb_some hN
      obtain ⟨h13, eh13, R⟩ := xw_I R ey12
      refine ex_b eh13 ?_
      obtain ⟨u14, eu14, hN⟩ := hb_some hN
      refine ex_b (xr_Is R eu14) ?_
      obtain ⟨q15, eq15, hN⟩ := hb_some hN
      obtain ⟨h16, eh16, R⟩ := x_LT_keep R eq15
      refine ex_b eh16 ?_
      obtain ⟨y17, ey17, hN⟩ := hb_some hN
      obtain ⟨h18, eh18, R, zy17⟩ := xw_new (ci := 1) R rfl
      rw [Option.some.inj ey17] at R
      refine ex_b eh18 ?_
      try rw [zy17]
      obtain ⟨q19, eq19, hN⟩ := hb_some hN
      obtain ⟨h20, eh20, R⟩ := x_Edition_init R eq19
      refine ex_b eh20 ?_
      obtain ⟨y21, ey21, hN⟩ := hb_some hN
      obtain ⟨h22, eh22, R⟩ := xw_R R ey21
      refine ex_b eh22 ?_
      obtain ⟨v23, ev23, hN⟩ := hb_some hN
      refine ex_b (xr_I R ev23) ?_
      obtain rfl := Option.some.inj hN
      exact ⟨_, rfl, R⟩
    · have hN := hif_f hN c10
      obtain ⟨v24, ev24, hN⟩ := hb_some hN
      refine ex_b (xr_A R ev24) ?_
      obtain ⟨u25, eu25, hN⟩ := hb_some hN
      refine ex_b (xr_Is R eu25) ?_
      obtain ⟨q26, eq26, hN⟩ := hb_some hN
      obtain ⟨h27, eh27, R⟩ := x_Edition_clear R eq26
      refine ex_b eh27 ?_
      obtain rfl := Option.some.inj hN
      exact ⟨_, rfl, R⟩
set_option maxHeartbeats 1000000 in
set_option maxRecDepth 100000 in
theorem x_LT_editions {F : Nat} {h : hH} {s : XS} {x0 : Nat} {q : (Int32 × XS)} (R : RepX h s) (hN : X_LT_editions F s x0 = some q) : ∃ h2, M_LT_editions F h x0 = some (q.1, h2) ∧ RepX h2 q.2 := by
  unfold X_LT_editions at hN
  unfold M_LT_editions
  obtain ⟨v1, ev1, hN⟩ := hb_some hN
  refine ex_b (xr_I R ev1) ?_
  obtain rfl := Option.some.inj hN
  exact ⟨_, rfl, R⟩
set_option maxHeartbeats 1000000 in
set_option maxRecDepth 100000 in
theorem x_LT_fact {F : Nat} {h : hH} {s : XS} {x0 : Nat} {x1 : Int32} {x2 : Int64} {q : (Int32 × XS)} (R : RepX h s) (hN : X_LT_fact F s x0 x1 x2 = some q) : ∃ h2, M_LT_fact F h x0 x1 x2 = some (q.1, h2) ∧ RepX h2 q.2 := by
  unfold X_LT_fact at hN
  unfold M_LT_fact
  obtain ⟨v1, ev1, hN⟩ := hb_some hN
  refine ex_b (xr_A R ev1) ?_
  obtain ⟨u2, eu2, hN⟩ := hb_some hN
  refine ex_b (xr_Is R eu2) ?_
  obtain ⟨q3, eq3, hN⟩ := hb_some hN
  obtain ⟨h4, eh4, R⟩ := x_Facts_has R eq3
  refine ex_b eh4 ?_
  refine ex_if (fun c5 => ?_) (fun c5 => ?_)
  · have hN := hif_t hN c5
    obtain rfl := Option.some.inj hN
    exact ⟨_, rfl, R⟩
  · have hN := hif_f hN c5
    obtain ⟨v6, ev6, hN⟩ := hb_some hN
    refine ex_b (xr_A R ev6) ?_
    obtain ⟨u7, eu7, hN⟩ := hb_some hN
    refine ex_b (xr_Is R eu7) ?_
    obtain ⟨q8, eq8, hN⟩ := hb_some hN
    obtain ⟨h9, eh9, R⟩ := x_Facts_put R eq8
    refine ex_b eh9 ?_
    obtain rfl := Option.some.inj hN
    exact ⟨_, rfl, R⟩
set_option maxHeartbeats 1000000 in
set_option maxRecDepth 100000 in
theorem x_LT_clearFacts {F : Nat} {h : hH} {s : XS} {x0 : Nat} {q : (Int32 × XS)} (R : RepX h s) (hN : X_LT_clearFacts F s x0 = some q) : ∃ h2, M_LT_clearFacts F h x0 = some (q.1, h2) ∧ RepX h2 q.2 := by
  unfold X_LT_clearFacts at hN
  unfold M_LT_clearFacts
  obtain ⟨v1, ev1, hN⟩ := hb_some hN
  refine ex_b (xr_A R ev1) ?_
  obtain ⟨u2, eu2, hN⟩ := hb_some hN
  refine ex_b (xr_Is R eu2) ?_
  obtain ⟨q3, eq3, hN⟩ := hb_some hN
  obtain ⟨h4, eh4, R⟩ := x_Facts_clear R eq3
  refine ex_b eh4 ?_
  obtain rfl := Option.some.inj hN
  exact ⟨_, rfl, R⟩
set_option maxHeartbeats 1000000 in
set_option maxRecDepth 100000 in
theorem x_LT_editionOn_33 {F : Nat} {m8 : hH → Nat → Int32 → Int32 → Option (Option Nat × hH)} {r8 : XS → Nat → Int32 → Int32 → Option (Option Nat × XS)} (P8 : ∀ (h : hH) (s : XS) (x0 : Nat) (x1 : Int32) (x2 : Int32) (q : (Option Nat × XS)), RepX h s → r8 s x0 x1 x2 = some q → ∃ h2, m8 h x0 x1 x2 = some (q.1, h2) ∧ RepX h2 q.2) : ∀ (h : hH) (s : XS) (x0 : Nat) (x1 : Int32) (x2 : Int32) (q : (Option Nat × XS)), RepX h s → X_LT_editionOn_33 F r8 s x0 x1 x2 = some q → ∃ h2, M_LT_editionOn_33 F m8 h x0 x1 x2 = some (q.1, h2) ∧ RepX h2 q.2 := by
  intro h s x0 x1 x2 q R hN
  unfold X_LT_editionOn_33 at hN
  unfold M_LT_editionOn_33
  exact P8 _ _ _ _ _ _ R hN
set_option maxHeartbeats 1000000 in
set_option maxRecDepth 100000 in
theorem bx_LT_editionOn_8 {F : Nat} {m8 : hH → Nat → Int32 → Int32 → Option (Option Nat × hH)} {r8 : XS → Nat → Int32 → Int32 → Option (Option Nat × XS)} (P8 : ∀ (h : hH) (s : XS) (x0 : Nat) (x1 : Int32) (x2 : Int32) (q : (Option Nat × XS)), RepX h s → r8 s x0 x1 x2 = some q → ∃ h2, m8 h x0 x1 x2 = some (q.1, h2) ∧ RepX h2 q.2) : ∀ (h : hH) (s : XS) (x0 : Nat) (x1 : Int32) (x2 : Int32) (q : (Option Nat × XS)), RepX h s → BX_LT_editionOn_8 F r8 s x0 x1 x2 = some q → ∃ h2, B_LT_editionOn_8 F m8 h x0 x1 x2 = some (q.1, h2) ∧ RepX h2 q.2 := by
  intro h s x0 x1 x2 q R hN
  unfold BX_LT_editionOn_8 at hN
  unfold B_LT_editionOn_8
  refine ex_if (fun c1 => ?_) (fun c1 => ?_)
  · have hN := hif_t hN c1
    obtain rfl := Option.some.inj hN
    exact ⟨_, rfl, R⟩
  · have hN := hif_f hN c1
    obtain ⟨v2, ev2, hN⟩ := hb_some hN
    refine ex_b (xr_A R ev2) ?_
    obtain ⟨v3, ev3, hN⟩ := hb_some hN
    refine ex_b (xr_LdO R ev3) ?_
    refine ex_cs (fun c4 => ?_) (fun a5 c4 => ?_)
    · have hN := hc_n hN c4
      exact x_LT_editionOn_33 P8 _ _ _ _ _ _ R hN
    · have hN := hc_s hN c4
      obtain ⟨v6, ev6, hN⟩ := hb_some hN
      refine ex_b (xr_I R ev6) ?_
      refine ex_if (fun c7 => ?_) (fun c7 => ?_)
      · have hN := hif_t hN c7
        exact x_LT_editionOn_33 P8 _ _ _ _ _ _ R hN
      · have hN := hif_f hN c7
        obtain rfl := Option.some.inj hN
        exact ⟨_, rfl, R⟩
theorem x_LT_editionOn_8 {F : Nat} : ∀ z : Nat, ∀ (h : hH) (s : XS) (x0 : Nat) (x1 : Int32) (x2 : Int32) (q : (Option Nat × XS)), RepX h s → X_LT_editionOn_8 F z s x0 x1 x2 = some q → ∃ h2, M_LT_editionOn_8 F z h x0 x1 x2 = some (q.1, h2) ∧ RepX h2 q.2 := by
  intro z
  induction z with
  | zero => intro h s x0 x1 x2 q R hN; exact absurd (show (none : Option _) = some q from hN) (fun t => by cases t)
  | succ z ih => exact bx_LT_editionOn_8 ih
set_option maxHeartbeats 1000000 in
set_option maxRecDepth 100000 in
theorem x_LT_editionOn {F : Nat} {h : hH} {s : XS} {x0 : Nat} {x1 : Int32} {q : (Option Nat × XS)} (R : RepX h s) (hN : X_LT_editionOn F s x0 x1 = some q) : ∃ h2, M_LT_editionOn F h x0 x1 = some (q.1, h2) ∧ RepX h2 q.2 := by
  unfold X_LT_editionOn at hN
  unfold M_LT_editionOn
  obtain ⟨v1, ev1, hN⟩ := hb_some hN
  refine ex_b (xr_A R ev1) ?_
  obtain ⟨v2, ev2, hN⟩ := hb_some hN
  refine ex_b (xr_Len R ev2) ?_
  exact x_LT_editionOn_8 F _ _ _ _ _ _ R hN
set_option maxHeartbeats 1000000 in
set_option maxRecDepth 100000 in
theorem x_LT_look_81 {F : Nat} {m22 : hH → Nat → Nat → Option Nat → Int32 → Option (Int32 × hH)} {r22 : XS → Nat → Nat → Option Nat → Int32 → Option (Int32 × XS)} (P22 : ∀ (h : hH) (s : XS) (x0 : Nat) (x2 : Nat) (x3 : Option Nat) (x4 : Int32) (q : (Int32 × XS)), RepX h s → r22 s x0 x2 x3 x4 = some q → ∃ h2, m22 h x0 x2 x3 x4 = some (q.1, h2) ∧ RepX h2 q.2) : ∀ (h : hH) (s : XS) (x0 : Nat) (x2 : Nat) (x3 : Option Nat) (x4 : Int32) (q : (Int32 × XS)), RepX h s → X_LT_look_81 F r22 s x0 x2 x3 x4 = some q → ∃ h2, M_LT_look_81 F m22 h x0 x2 x3 x4 = some (q.1, h2) ∧ RepX h2 q.2 := by
  intro h s x0 x2 x3 x4 q R hN
  unfold X_LT_look_81 at hN
  unfold M_LT_look_81
  exact P22 _ _ _ _ _ _ _ R hN
set_option maxHeartbeats 1000000 in
set_option maxRecDepth 100000 in
theorem bx_LT_look_22 {F : Nat} {m22 : hH → Nat → Nat → Option Nat → Int32 → Option (Int32 × hH)} {r22 : XS → Nat → Nat → Option Nat → Int32 → Option (Int32 × XS)} (P22 : ∀ (h : hH) (s : XS) (x0 : Nat) (x2 : Nat) (x3 : Option Nat) (x4 : Int32) (q : (Int32 × XS)), RepX h s → r22 s x0 x2 x3 x4 = some q → ∃ h2, m22 h x0 x2 x3 x4 = some (q.1, h2) ∧ RepX h2 q.2) : ∀ (h : hH) (s : XS) (x0 : Nat) (x2 : Nat) (x3 : Option Nat) (x4 : Int32) (q : (Int32 × XS)), RepX h s → BX_LT_look_22 F r22 s x0 x2 x3 x4 = some q → ∃ h2, B_LT_look_22 F m22 h x0 x2 x3 x4 = some (q.1, h2) ∧ RepX h2 q.2 := by
  intro h s x0 x2 x3 x4 q R hN
  unfold BX_LT_look_22 at hN
  unfold B_LT_look_22
  obtain ⟨a1, ea1, hN⟩ := hb_some hN
  refine ex_b ea1 ?_
  obtain ⟨v2, ev2, hN⟩ := hb_some hN
  refine ex_b (xr_I R ev2) ?_
  refine ex_if (fun c3 => ?_) (fun c3 => ?_)
  · have hN := hif_t hN c3
    obtain ⟨u4, eu4, hN⟩ := hb_some hN
    refine ex_b (xr_Is R eu4) ?_
    obtain ⟨q5, eq5, hN⟩ := hb_some hN
    obtain ⟨h6, eh6, R⟩ := x_Findings_answer R eq5
    refine ex_b eh6 ?_
    obtain rfl := Option.some.inj hN
    exact ⟨_, rfl, R⟩
  · have hN := hif_f hN c3
    obtain ⟨u7, eu7, hN⟩ := hb_some hN
    refine ex_b (xr_Is R eu7) ?_
    obtain ⟨q8, eq8, hN⟩ := hb_some hN
    obtain ⟨h9, eh9, R⟩ := x_Edition_ruleAt R eq8
    refine ex_b eh9 ?_
    refine ex_cs (fun c10 => ?_) (fun a11 c10 => ?_)
    · have hN := hc_n hN c10
      exact x_LT_look_81 P22 _ _ _ _ _ _ _ R hN
    · have hN := hc_s hN c10
      obtain ⟨v12, ev12, hN⟩ := hb_some hN
      refine ex_b (xr_A R ev12) ?_
      obtain ⟨u13, eu13, hN⟩ := hb_some hN
      refine ex_b (xr_Is R eu13) ?_
      obtain ⟨q14, eq14, hN⟩ := hb_some hN
      obtain ⟨h15, eh15, R⟩ := x_Reckoner_judge R eq14
      refine ex_b eh15 ?_
      obtain ⟨v16, ev16, hN⟩ := hb_some hN
      refine ex_b (xr_A R ev16) ?_
      obtain ⟨v17, ev17, hN⟩ := hb_some hN
      refine ex_b (xr_I R ev17) ?_
      obtain ⟨v18, ev18, hN⟩ := hb_some hN
      refine ex_b (xr_A R ev18) ?_
      obtain ⟨v19, ev19, hN⟩ := hb_some hN
      refine ex_b (xr_I R ev19) ?_
      obtain ⟨v20, ev20, hN⟩ := hb_some hN
      refine ex_b (xr_I R ev20) ?_
      obtain ⟨u21, eu21, hN⟩ := hb_some hN
      refine ex_b (xr_Is R eu21) ?_
      obtain ⟨q22, eq22, hN⟩ := hb_some hN
      obtain ⟨h23, eh23, R⟩ := x_Findings_add R eq22
      refine ex_b eh23 ?_
      exact x_LT_look_81 P22 _ _ _ _ _ _ _ R hN
theorem x_LT_look_22 {F : Nat} : ∀ z : Nat, ∀ (h : hH) (s : XS) (x0 : Nat) (x2 : Nat) (x3 : Option Nat) (x4 : Int32) (q : (Int32 × XS)), RepX h s → X_LT_look_22 F z s x0 x2 x3 x4 = some q → ∃ h2, M_LT_look_22 F z h x0 x2 x3 x4 = some (q.1, h2) ∧ RepX h2 q.2 := by
  intro z
  induction z with
  | zero => intro h s x0 x2 x3 x4 q R hN; exact absurd (show (none : Option _) = some q from hN) (fun t => by cases t)
  | succ z ih => exact bx_LT_look_22 ih
set_option maxHeartbeats 1000000 in
set_option maxRecDepth 100000 in
theorem x_LT_look {F : Nat} {h : hH} {s : XS} {x0 : Nat} {x1 : Int32} {x2 : Nat} {q : (Int32 × XS)} (R : RepX h s) (hN : X_LT_look F s x0 x1 x2 = some q) : ∃ h2, M_LT_look F h x0 x1 x2 = some (q.1, h2) ∧ RepX h2 q.2 := by
  unfold X_LT_look at hN
  unfold M_LT_look
  obtain ⟨u1, eu1, hN⟩ := hb_some hN
  refine ex_b (xr_Is R eu1) ?_
  obtain ⟨q2, eq2, hN⟩ := hb_some hN
  obtain ⟨h3, eh3, R⟩ := x_Findings_clear R eq2
  refine ex_b eh3 ?_
  obtain ⟨u4, eu4, hN⟩ := hb_some hN
  refine ex_b (xr_Is R eu4) ?_
  obtain ⟨q5, eq5, hN⟩ := hb_some hN
  obtain ⟨h6, eh6, R⟩ := x_LT_editionOn R eq5
  refine ex_b eh6 ?_
  refine ex_cs (fun c7 => ?_) (fun a8 c7 => ?_)
  · have hN := hc_n hN c7
    obtain ⟨u9, eu9, hN⟩ := hb_some hN
    refine ex_b (xr_Is R eu9) ?_
    obtain ⟨q10, eq10, hN⟩ := hb_some hN
    obtain ⟨h11, eh11, R⟩ := x_Findings_answer R eq10
    refine ex_b eh11 ?_
    obtain rfl := Option.some.inj hN
    exact ⟨_, rfl, R⟩
  · have hN := hc_s hN c7
    exact x_LT_look_22 F _ _ _ _ _ _ _ R hN
set_option maxHeartbeats 1000000 in
set_option maxRecDepth 100000 in
theorem x_LT_run {F : Nat} {h : hH} {s : XS} {x0 : Nat} {x1 : Int32} {q : (Int32 × XS)} (R : RepX h s) (hN : X_LT_run F s x0 x1 = some q) : ∃ h2, M_LT_run F h x0 x1 = some (q.1, h2) ∧ RepX h2 q.2 := by
  unfold X_LT_run at hN
  unfold M_LT_run
  obtain ⟨v1, ev1, hN⟩ := hb_some hN
  refine ex_b (xr_A R ev1) ?_
  obtain ⟨u2, eu2, hN⟩ := hb_some hN
  refine ex_b (xr_Is R eu2) ?_
  obtain ⟨q3, eq3, hN⟩ := hb_some hN
  obtain ⟨h4, eh4, R⟩ := x_LT_look R eq3
  refine ex_b eh4 ?_
  obtain rfl := Option.some.inj hN
  exact ⟨_, rfl, R⟩
set_option maxHeartbeats 1000000 in
set_option maxRecDepth 100000 in
theorem x_LT_walk {F : Nat} {h : hH} {s : XS} {x0 : Nat} {x1 : Int32} {q : (Int32 × XS)} (R : RepX h s) (hN : X_LT_walk F s x0 x1 = some q) : ∃ h2, M_LT_walk F h x0 x1 = some (q.1, h2) ∧ RepX h2 q.2 := by
  unfold X_LT_walk at hN
  unfold M_LT_walk
  obtain ⟨v1, ev1, hN⟩ := hb_some hN
  refine ex_b (xr_A R ev1) ?_
  obtain ⟨u2, eu2, hN⟩ := hb_some hN
  refine ex_b (xr_Is R eu2) ?_
  obtain ⟨q3, eq3, hN⟩ := hb_some hN
  obtain ⟨h4, eh4, R⟩ := x_LT_look R eq3
  refine ex_b eh4 ?_
  obtain rfl := Option.some.inj hN
  exact ⟨_, rfl, R⟩
set_option maxHeartbeats 1000000 in
set_option maxRecDepth 100000 in
theorem x_LT_broken {F : Nat} {h : hH} {s : XS} {x0 : Nat} {x1 : Int32} {x2 : Int32} {q : (Int32 × XS)} (R : RepX h s) (hN : X_LT_broken F s x0 x1 x2 = some q) : ∃ h2, M_LT_broken F h x0 x1 x2 = some (q.1, h2) ∧ RepX h2 q.2 := by
  unfold X_LT_broken at hN
  unfold M_LT_broken
  obtain ⟨v1, ev1, hN⟩ := hb_some hN
  refine ex_b (xr_A R ev1) ?_
  obtain ⟨u2, eu2, hN⟩ := hb_some hN
  refine ex_b (xr_Is R eu2) ?_
  obtain ⟨q3, eq3, hN⟩ := hb_some hN
  obtain ⟨h4, eh4, R⟩ := x_Findings_rankedAs R eq3
  refine ex_b eh4 ?_
  refine ex_if (fun c5 => ?_) (fun c5 => ?_)
  · have hN := hif_t hN c5
    obtain rfl := Option.some.inj hN
    exact ⟨_, rfl, R⟩
  · have hN := hif_f hN c5
    refine ex_if (fun c6 => ?_) (fun c6 => ?_)
    · have hN := hif_t hN c6
      obtain ⟨v7, ev7, hN⟩ := hb_some hN
      refine ex_b (xr_A R ev7) ?_
      obtain ⟨u8, eu8, hN⟩ := hb_some hN
      refine ex_b (xr_Is R eu8) ?_
      obtain ⟨q9, eq9, hN⟩ := hb_some hN
      obtain ⟨h10, eh10, R⟩ := x_Findings_firstWordOf R eq9
      refine ex_b eh10 ?_
      obtain rfl := Option.some.inj hN
      exact ⟨_, rfl, R⟩
    · have hN := hif_f hN c6
      obtain rfl := Option.some.inj hN
      exact ⟨_, rfl, R⟩
set_option maxHeartbeats 1000000 in
set_option maxRecDepth 100000 in
theorem x_LT_open {F : Nat} {h : hH} {s : XS} {x0 : Nat} {x1 : Int32} {x2 : Int32} {q : (Int32 × XS)} (R : RepX h s) (hN : X_LT_open F s x0 x1 x2 = some q) : ∃ h2, M_LT_open F h x0 x1 x2 = some (q.1, h2) ∧ RepX h2 q.2 := by
  unfold X_LT_open at hN
  unfold M_LT_open
  obtain ⟨v1, ev1, hN⟩ := hb_some hN
  refine ex_b (xr_A R ev1) ?_
  obtain ⟨u2, eu2, hN⟩ := hb_some hN
  refine ex_b (xr_Is R eu2) ?_
  obtain ⟨q3, eq3, hN⟩ := hb_some hN
  obtain ⟨h4, eh4, R⟩ := x_Findings_rankedAs R eq3
  refine ex_b eh4 ?_
  refine ex_if (fun c5 => ?_) (fun c5 => ?_)
  · have hN := hif_t hN c5
    obtain rfl := Option.some.inj hN
    exact ⟨_, rfl, R⟩
  · have hN := hif_f hN c5
    refine ex_if (fun c6 => ?_) (fun c6 => ?_)
    · have hN := hif_t hN c6
      obtain ⟨v7, ev7, hN⟩ := hb_some hN
      refine ex_b (xr_A R ev7) ?_
      obtain ⟨u8, eu8, hN⟩ := hb_some hN
      refine ex_b (xr_Is R eu8) ?_
      obtain ⟨q9, eq9, hN⟩ := hb_some hN
      obtain ⟨h10, eh10, R⟩ := x_Findings_reasonOf R eq9
      refine ex_b eh10 ?_
      obtain rfl := Option.some.inj hN
      exact ⟨_, rfl, R⟩
    · have hN := hif_f hN c6
      refine ex_if (fun c11 => ?_) (fun c11 => ?_)
      · have hN := hif_t hN c11
        obtain ⟨v12, ev12, hN⟩ := hb_some hN
        refine ex_b (xr_A R ev12) ?_
        obtain ⟨u13, eu13, hN⟩ := hb_some hN
        refine ex_b (xr_Is R eu13) ?_
        obtain ⟨q14, eq14, hN⟩ := hb_some hN
        obtain ⟨h15, eh15, R⟩ := x_Findings_untoldOf R eq14
        refine ex_b eh15 ?_
        obtain rfl := Option.some.inj hN
        exact ⟨_, rfl, R⟩
      · have hN := hif_f hN c11
        obtain rfl := Option.some.inj hN
        exact ⟨_, rfl, R⟩
set_option maxHeartbeats 1000000 in
set_option maxRecDepth 100000 in
theorem x_LT_explain {F : Nat} {h : hH} {s : XS} {x0 : Nat} {x1 : Int32} {q : (Int32 × XS)} (R : RepX h s) (hN : X_LT_explain F s x0 x1 = some q) : ∃ h2, M_LT_explain F h x0 x1 = some (q.1, h2) ∧ RepX h2 q.2 := by
  unfold X_LT_explain at hN
  unfold M_LT_explain
  obtain ⟨v1, ev1, hN⟩ := hb_some hN
  refine ex_b (xr_A R ev1) ?_
  obtain ⟨u2, eu2, hN⟩ := hb_some hN
  refine ex_b (xr_Is R eu2) ?_
  obtain ⟨q3, eq3, hN⟩ := hb_some hN
  obtain ⟨h4, eh4, R⟩ := x_Findings_outcomeOf R eq3
  refine ex_b eh4 ?_
  obtain rfl := Option.some.inj hN
  exact ⟨_, rfl, R⟩
set_option maxHeartbeats 1000000 in
set_option maxRecDepth 100000 in
theorem x_LT_allowed_94 {F : Nat} : ∀ (h : hH) (s : XS) (x0 : Nat) (x2 : Int32) (x4 : Int32) (x5 : Int64) (x7 : Int32) (q : (Int32 × XS)), RepX h s → X_LT_allowed_94 F s x0 x2 x4 x5 x7 = some q → ∃ h2, M_LT_allowed_94 F h x0 x2 x4 x5 x7 = some (q.1, h2) ∧ RepX h2 q.2 := by
  intro h s x0 x2 x4 x5 x7 q R hN
  unfold X_LT_allowed_94 at hN
  unfold M_LT_allowed_94
  obtain ⟨v1, ev1, hN⟩ := hb_some hN
  refine ex_b (xr_A R ev1) ?_
  obtain ⟨u2, eu2, hN⟩ := hb_some hN
  refine ex_b (xr_Is R eu2) ?_
  obtain ⟨q3, eq3, hN⟩ := hb_some hN
  obtain ⟨h4, eh4, R⟩ := x_Facts_put R eq3
  refine ex_b eh4 ?_
  obtain rfl := Option.some.inj hN
  exact ⟨_, rfl, R⟩
set_option maxHeartbeats 1000000 in
set_option maxRecDepth 100000 in
theorem x_LT_allowed_88 {F : Nat} {m49 : hH → Nat → Int32 → Int32 → Int32 → Int64 → Int32 → Int32 → Option (Int32 × hH)} {r49 : XS → Nat → Int32 → Int32 → Int32 → Int64 → Int32 → Int32 → Option (Int32 × XS)} (P49 : ∀ (h : hH) (s : XS) (x0 : Nat) (x1 : Int32) (x2 : Int32) (x4 : Int32) (x5 : Int64) (x7 : Int32) (x8 : Int32) (q : (Int32 × XS)), RepX h s → r49 s x0 x1 x2 x4 x5 x7 x8 = some q → ∃ h2, m49 h x0 x1 x2 x4 x5 x7 x8 = some (q.1, h2) ∧ RepX h2 q.2) : ∀ (h : hH) (s : XS) (x0 : Nat) (x1 : Int32) (x2 : Int32) (x4 : Int32) (x5 : Int64) (x7 : Int32) (x8 : Int32) (q : (Int32 × XS)), RepX h s → X_LT_allowed_88 F r49 s x0 x1 x2 x4 x5 x7 x8 = some q → ∃ h2, M_LT_allowed_88 F m49 h x0 x1 x2 x4 x5 x7 x8 = some (q.1, h2) ∧ RepX h2 q.2 := by
  intro h s x0 x1 x2 x4 x5 x7 x8 q R hN
  unfold X_LT_allowed_88 at hN
  unfold M_LT_allowed_88
  exact P49 _ _ _ _ _ _ _ _ _ _ R hN
set_option maxHeartbeats 1000000 in
set_option maxRecDepth 100000 in
theorem bx_LT_allowed_49 {F : Nat} {m49 : hH → Nat → Int32 → Int32 → Int32 → Int64 → Int32 → Int32 → Option (Int32 × hH)} {r49 : XS → Nat → Int32 → Int32 → Int32 → Int64 → Int32 → Int32 → Option (Int32 × XS)} (P49 : ∀ (h : hH) (s : XS) (x0 : Nat) (x1 : Int32) (x2 : Int32) (x4 : Int32) (x5 : Int64) (x7 : Int32) (x8 : Int32) (q : (Int32 × XS)), RepX h s → r49 s x0 x1 x2 x4 x5 x7 x8 = some q → ∃ h2, m49 h x0 x1 x2 x4 x5 x7 x8 = some (q.1, h2) ∧ RepX h2 q.2) : ∀ (h : hH) (s : XS) (x0 : Nat) (x1 : Int32) (x2 : Int32) (x4 : Int32) (x5 : Int64) (x7 : Int32) (x8 : Int32) (q : (Int32 × XS)), RepX h s → BX_LT_allowed_49 F r49 s x0 x1 x2 x4 x5 x7 x8 = some q → ∃ h2, B_LT_allowed_49 F m49 h x0 x1 x2 x4 x5 x7 x8 = some (q.1, h2) ∧ RepX h2 q.2 := by
  intro h s x0 x1 x2 x4 x5 x7 x8 q R hN
  unfold BX_LT_allowed_49 at hN
  unfold B_LT_allowed_49
  refine ex_if (fun c1 => ?_) (fun c1 => ?_)
  · have hN := hif_t hN c1
    exact x_LT_allowed_94 _ _ _ _ _ _ _ _ R hN
  · have hN := hif_f hN c1
    refine ex_if (fun c2 => ?_) (fun c2 => ?_)
    · have hN := hif_t hN c2
      obtain ⟨v3, ev3, hN⟩ := hb_some hN
      refine ex_b (xr_A R ev3) ?_
      obtain ⟨u4, eu4, hN⟩ := hb_some hN
      refine ex_b (xr_Is R eu4) ?_
      obtain ⟨q5, eq5, hN⟩ := hb_some hN
      obtain ⟨h6, eh6, R⟩ := x_Facts_put R eq5
      refine ex_b eh6 ?_
      obtain ⟨v7, ev7, hN⟩ := hb_some hN
      refine ex_b (xr_A R ev7) ?_
      obtain ⟨u8, eu8, hN⟩ := hb_some hN
      refine ex_b (xr_Is R eu8) ?_
      obtain ⟨q9, eq9, hN⟩ := hb_some hN
      obtain ⟨h10, eh10, R⟩ := x_LT_look R eq9
      refine ex_b eh10 ?_
      refine ex_if (fun c11 => ?_) (fun c11 => ?_)
      · have hN := hif_t hN c11
        exact x_LT_allowed_88 P49 _ _ _ _ _ _ _ _ _ _ R hN
      · have hN := hif_f hN c11
        exact x_LT_allowed_88 P49 _ _ _ _ _ _ _ _ _ _ R hN
    · have hN := hif_f hN c2
      exact x_LT_allowed_94 _ _ _ _ _ _ _ _ R hN
theorem x_LT_allowed_49 {F : Nat} : ∀ z : Nat, ∀ (h : hH) (s : XS) (x0 : Nat) (x1 : Int32) (x2 : Int32) (x4 : Int32) (x5 : Int64) (x7 : Int32) (x8 : Int32) (q : (Int32 × XS)), RepX h s → X_LT_allowed_49 F z s x0 x1 x2 x4 x5 x7 x8 = some q → ∃ h2, M_LT_allowed_49 F z h x0 x1 x2 x4 x5 x7 x8 = some (q.1, h2) ∧ RepX h2 q.2 := by
  intro z
  induction z with
  | zero => intro h s x0 x1 x2 x4 x5 x7 x8 q R hN; exact absurd (show (none : Option _) = some q from hN) (fun t => by cases t)
  | succ z ih => exact bx_LT_allowed_49 ih
set_option maxHeartbeats 1000000 in
set_option maxRecDepth 100000 in
theorem x_LT_allowed {F : Nat} {h : hH} {s : XS} {x0 : Nat} {x1 : Int32} {x2 : Int32} {x3 : Int32} {q : (Int32 × XS)} (R : RepX h s) (hN : X_LT_allowed F s x0 x1 x2 x3 = some q) : ∃ h2, M_LT_allowed F h x0 x1 x2 x3 = some (q.1, h2) ∧ RepX h2 q.2 := by
  unfold X_LT_allowed at hN
  unfold M_LT_allowed
  obtain ⟨v1, ev1, hN⟩ := hb_some hN
  refine ex_b (xr_A R ev1) ?_
  obtain ⟨u2, eu2, hN⟩ := hb_some hN
  refine ex_b (xr_Is R eu2) ?_
  obtain ⟨q3, eq3, hN⟩ := hb_some hN
  obtain ⟨h4, eh4, R⟩ := x_Facts_has R eq3
  refine ex_b eh4 ?_
  refine ex_if (fun c5 => ?_) (fun c5 => ?_)
  · have hN := hif_t hN c5
    obtain rfl := Option.some.inj hN
    exact ⟨_, rfl, R⟩
  · have hN := hif_f hN c5
    refine ex_if (fun c6 => ?_) (fun c6 => ?_)
    · have hN := hif_t hN c6
      obtain rfl := Option.some.inj hN
      exact ⟨_, rfl, R⟩
    · have hN := hif_f hN c6
      refine ex_if (fun c7 => ?_) (fun c7 => ?_)
      · have hN := hif_t hN c7
        obtain ⟨v8, ev8, hN⟩ := hb_some hN
        refine ex_b (xr_A R ev8) ?_
        obtain ⟨u9, eu9, hN⟩ := hb_some hN
        refine ex_b (xr_Is R eu9) ?_
        obtain ⟨q10, eq10, hN⟩ := hb_some hN
        obtain ⟨h11, eh11, R⟩ := x_Facts_isTold R eq10
        refine ex_b eh11 ?_
        obtain ⟨v12, ev12, hN⟩ := hb_some hN
        refine ex_b (xr_A R ev12) ?_
        obtain ⟨u13, eu13, hN⟩ := hb_some hN
        refine ex_b (xr_Is R eu13) ?_
        obtain ⟨q14, eq14, hN⟩ := hb_some hN
        obtain ⟨h15, eh15, R⟩ := x_Facts_valueOf R eq14
        refine ex_b eh15 ?_
        exact x_LT_allowed_49 F _ _ _ _ _ _ _ _ _ _ R hN
      · have hN := hif_f hN c7
        obtain rfl := Option.some.inj hN
        exact ⟨_, rfl, R⟩
set_option maxHeartbeats 1000000 in
set_option maxRecDepth 100000 in
theorem x_LT_write {F : Nat} {h : hH} {s : XS} {x0 : Nat} {x1 : Int32} {x2 : Int32} {q : (Int32 × XS)} (R : RepX h s) (hN : X_LT_write F s x0 x1 x2 = some q) : ∃ h2, M_LT_write F h x0 x1 x2 = some (q.1, h2) ∧ RepX h2 q.2 := by
  unfold X_LT_write at hN
  unfold M_LT_write
  obtain ⟨u1, eu1, hN⟩ := hb_some hN
  refine ex_b (xr_Is R eu1) ?_
  obtain ⟨q2, eq2, hN⟩ := hb_some hN
  obtain ⟨h3, eh3, R⟩ := x_LT_editionOn R eq2
  refine ex_b eh3 ?_
  refine ex_cs (fun c4 => ?_) (fun a5 c4 => ?_)
  · have hN := hc_n hN c4
    obtain rfl := Option.some.inj hN
    exact ⟨_, rfl, R⟩
  · have hN := hc_s hN c4
    obtain ⟨u6, eu6, hN⟩ := hb_some hN
    refine ex_b (xr_Is R eu6) ?_
    obtain ⟨q7, eq7, hN⟩ := hb_some hN
    obtain ⟨h8, eh8, R⟩ := x_Edition_ruleAt R eq7
    refine ex_b eh8 ?_
    refine ex_cs (fun c9 => ?_) (fun a10 c9 => ?_)
    · have hN := hc_n hN c9
      obtain rfl := Option.some.inj hN
      exact ⟨_, rfl, R⟩
    · have hN := hc_s hN c9
      obtain ⟨v11, ev11, hN⟩ := hb_some hN
      refine ex_b (xr_A R ev11) ?_
      obtain ⟨u12, eu12, hN⟩ := hb_some hN
      refine ex_b (xr_Is R eu12) ?_
      obtain ⟨q13, eq13, hN⟩ := hb_some hN
      obtain ⟨h14, eh14, R⟩ := x_Bytes_clear R eq13
      refine ex_b eh14 ?_
      obtain ⟨v15, ev15, hN⟩ := hb_some hN
      refine ex_b (xr_A R ev15) ?_
      obtain ⟨v16, ev16, hN⟩ := hb_some hN
      refine ex_b (xr_A R ev16) ?_
      obtain ⟨v17, ev17, hN⟩ := hb_some hN
      refine ex_b (xr_I R ev17) ?_
      obtain ⟨v18, ev18, hN⟩ := hb_some hN
      refine ex_b (xr_I R ev18) ?_
      obtain ⟨u19, eu19, hN⟩ := hb_some hN
      refine ex_b (xr_Is R eu19) ?_
      obtain ⟨q20, eq20, hN⟩ := hb_some hN
      obtain ⟨h21, eh21, R⟩ := x_Words_copyTo R eq20
      refine ex_b eh21 ?_
      obtain ⟨v22, ev22, hN⟩ := hb_some hN
      refine ex_b (xr_A R ev22) ?_
      obtain ⟨v23, ev23, hN⟩ := hb_some hN
      refine ex_b (xr_I R ev23) ?_
      obtain rfl := Option.some.inj hN
      exact ⟨_, rfl, R⟩
set_option maxHeartbeats 1000000 in
set_option maxRecDepth 100000 in
theorem x_LT_written {F : Nat} {h : hH} {s : XS} {x0 : Nat} {x1 : Int32} {q : (Int32 × XS)} (R : RepX h s) (hN : X_LT_written F s x0 x1 = some q) : ∃ h2, M_LT_written F h x0 x1 = some (q.1, h2) ∧ RepX h2 q.2 := by
  unfold X_LT_written at hN
  unfold M_LT_written
  obtain ⟨v1, ev1, hN⟩ := hb_some hN
  refine ex_b (xr_A R ev1) ?_
  obtain ⟨u2, eu2, hN⟩ := hb_some hN
  refine ex_b (xr_Is R eu2) ?_
  obtain ⟨q3, eq3, hN⟩ := hb_some hN
  obtain ⟨h4, eh4, R⟩ := x_Bytes_byteAt R eq3
  refine ex_b eh4 ?_
  obtain rfl := Option.some.inj hN
  exact ⟨_, rfl, R⟩
set_option maxHeartbeats 1000000 in
set_option maxRecDepth 100000 in
theorem x_LT_haul {F : Nat} {h : hH} {s : XS} {x0 : Nat} {x1 : Int32} {x2 : Int32} {x3 : Int64} {q : (Int32 × XS)} (R : RepX h s) (hN : X_LT_haul F s x0 x1 x2 x3 = some q) : ∃ h2, M_LT_haul F h x0 x1 x2 x3 = some (q.1, h2) ∧ RepX h2 q.2 := by
  unfold X_LT_haul at hN
  unfold M_LT_haul
  obtain ⟨v1, ev1, hN⟩ := hb_some hN
  refine ex_b (xr_A R ev1) ?_
  obtain ⟨u2, eu2, hN⟩ := hb_some hN
  refine ex_b (xr_Is R eu2) ?_
  obtain ⟨q3, eq3, hN⟩ := hb_some hN
  obtain ⟨h4, eh4, R⟩ := x_Hauls_add R eq3
  refine ex_b eh4 ?_
  obtain ⟨u5, eu5, hN⟩ := hb_some hN
  refine ex_b eu5 ?_
  obtain rfl := Option.some.inj hN
  exact ⟨_, rfl, R⟩
set_option maxHeartbeats 1000000 in
set_option maxRecDepth 100000 in
theorem x_LT_byCatch {F : Nat} {h : hH} {s : XS} {x0 : Nat} {x1 : Int32} {x2 : Int32} {x3 : Int32} {q : (Int64 × XS)} (R : RepX h s) (hN : X_LT_byCatch F s x0 x1 x2 x3 = some q) : ∃ h2, M_LT_byCatch F h x0 x1 x2 x3 = some (q.1, h2) ∧ RepX h2 q.2 := by
  unfold X_LT_byCatch at hN
  unfold M_LT_byCatch
  obtain ⟨v1, ev1, hN⟩ := hb_some hN
  refine ex_b (xr_A R ev1) ?_
  obtain ⟨u2, eu2, hN⟩ := hb_some hN
  refine ex_b (xr_Is R eu2) ?_
  obtain ⟨q3, eq3, hN⟩ := hb_some hN
  obtain ⟨h4, eh4, R⟩ := x_Hauls_share R eq3
  refine ex_b eh4 ?_
  obtain rfl := Option.some.inj hN
  exact ⟨_, rfl, R⟩
